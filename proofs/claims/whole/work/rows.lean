section
-- ===== PART A: goes FIRST, ahead of the names: the tables' words, and 'selects' of the private methods out of them =====
/-- a private method of a class that the tables say can be made, by its rows of tables_1 -/
def lw_okq (q : MethodName × Nat) : Prop := (q.1.cls ≠ "java/lang/invoke/MethodHandle" ∧ q.1.cls ≠ "java/lang/invoke/VarHandle") ∧ Cond.instantiable q.1.cls q.2 ∈ tables_1 ∧ Cond.privateMethod q.1 ∈ tables_1 ∧ Cond.instanceMethod q.1 ∈ tables_1
theorem lw_p0 : lw_okq (⟨"SignReader", "hasByte", "(I)Z"⟩, 5) := ⟨⟨by decide +kernel, by decide +kernel⟩, List.mem_of_getElem? (i := 15) (by decide +kernel), List.mem_of_getElem? (i := 44) (by decide +kernel), List.mem_of_getElem? (i := 45) (by decide +kernel)⟩
theorem lw_p1 : lw_okq (⟨"SignReader", "wayOfBytes", "()I"⟩, 5) := ⟨⟨by decide +kernel, by decide +kernel⟩, List.mem_of_getElem? (i := 15) (by decide +kernel), List.mem_of_getElem? (i := 56) (by decide +kernel), List.mem_of_getElem? (i := 57) (by decide +kernel)⟩
theorem lw_p2 : lw_okq (⟨"SignReader", "numberAt", "(II)I"⟩, 5) := ⟨⟨by decide +kernel, by decide +kernel⟩, List.mem_of_getElem? (i := 15) (by decide +kernel), List.mem_of_getElem? (i := 60) (by decide +kernel), List.mem_of_getElem? (i := 61) (by decide +kernel)⟩
theorem lw_p3 : lw_okq (⟨"SignReader", "numberOf16Bits", "(II)I"⟩, 5) := ⟨⟨by decide +kernel, by decide +kernel⟩, List.mem_of_getElem? (i := 15) (by decide +kernel), List.mem_of_getElem? (i := 67) (by decide +kernel), List.mem_of_getElem? (i := 68) (by decide +kernel)⟩
theorem lw_p4 : lw_okq (⟨"SignReader", "pairAt", "(II)I"⟩, 5) := ⟨⟨by decide +kernel, by decide +kernel⟩, List.mem_of_getElem? (i := 15) (by decide +kernel), List.mem_of_getElem? (i := 71) (by decide +kernel), List.mem_of_getElem? (i := 72) (by decide +kernel)⟩
theorem lw_p5 : lw_okq (⟨"SignReader", "numberOf8Bits", "(I)I"⟩, 5) := ⟨⟨by decide +kernel, by decide +kernel⟩, List.mem_of_getElem? (i := 15) (by decide +kernel), List.mem_of_getElem? (i := 81) (by decide +kernel), List.mem_of_getElem? (i := 82) (by decide +kernel)⟩
theorem lw_p6 : lw_okq (⟨"SignReader", "placeRefused", "(I)I"⟩, 5) := ⟨⟨by decide +kernel, by decide +kernel⟩, List.mem_of_getElem? (i := 15) (by decide +kernel), List.mem_of_getElem? (i := 92) (by decide +kernel), List.mem_of_getElem? (i := 93) (by decide +kernel)⟩
theorem lw_p7 : lw_okq (⟨"SignReader", "takeText", "(I)V"⟩, 5) := ⟨⟨by decide +kernel, by decide +kernel⟩, List.mem_of_getElem? (i := 15) (by decide +kernel), List.mem_of_getElem? (i := 113) (by decide +kernel), List.mem_of_getElem? (i := 114) (by decide +kernel)⟩
theorem lw_p8 : lw_okq (⟨"SignReader", "putSign", "(I)V"⟩, 5) := ⟨⟨by decide +kernel, by decide +kernel⟩, List.mem_of_getElem? (i := 15) (by decide +kernel), List.mem_of_getElem? (i := 117) (by decide +kernel), List.mem_of_getElem? (i := 118) (by decide +kernel)⟩
theorem lw_p9 : lw_okq (⟨"SignReader", "hasSign", "(I)Z"⟩, 5) := ⟨⟨by decide +kernel, by decide +kernel⟩, List.mem_of_getElem? (i := 15) (by decide +kernel), List.mem_of_getElem? (i := 129) (by decide +kernel), List.mem_of_getElem? (i := 130) (by decide +kernel)⟩
theorem lw_p10 : lw_okq (⟨"SignReader", "sizeWritten", "(I)I"⟩, 5) := ⟨⟨by decide +kernel, by decide +kernel⟩, List.mem_of_getElem? (i := 15) (by decide +kernel), List.mem_of_getElem? (i := 256) (by decide +kernel), List.mem_of_getElem? (i := 257) (by decide +kernel)⟩
theorem lw_p11 : lw_okq (⟨"SignReader", "putCharacter", "(II)V"⟩, 5) := ⟨⟨by decide +kernel, by decide +kernel⟩, List.mem_of_getElem? (i := 15) (by decide +kernel), List.mem_of_getElem? (i := 260) (by decide +kernel), List.mem_of_getElem? (i := 261) (by decide +kernel)⟩
theorem lw_p12 : lw_okq (⟨"SignReader", "put16Bits", "(II)V"⟩, 5) := ⟨⟨by decide +kernel, by decide +kernel⟩, List.mem_of_getElem? (i := 15) (by decide +kernel), List.mem_of_getElem? (i := 264) (by decide +kernel), List.mem_of_getElem? (i := 265) (by decide +kernel)⟩
theorem lw_p13 : lw_okq (⟨"SignReader", "putPair", "(II)V"⟩, 5) := ⟨⟨by decide +kernel, by decide +kernel⟩, List.mem_of_getElem? (i := 15) (by decide +kernel), List.mem_of_getElem? (i := 268) (by decide +kernel), List.mem_of_getElem? (i := 269) (by decide +kernel)⟩
theorem lw_p14 : lw_okq (⟨"SignReader", "putByte", "(I)V"⟩, 5) := ⟨⟨by decide +kernel, by decide +kernel⟩, List.mem_of_getElem? (i := 15) (by decide +kernel), List.mem_of_getElem? (i := 272) (by decide +kernel), List.mem_of_getElem? (i := 273) (by decide +kernel)⟩
theorem lw_p15 : lw_okq (⟨"SignReader", "put8Bits", "(I)V"⟩, 5) := ⟨⟨by decide +kernel, by decide +kernel⟩, List.mem_of_getElem? (i := 15) (by decide +kernel), List.mem_of_getElem? (i := 276) (by decide +kernel), List.mem_of_getElem? (i := 277) (by decide +kernel)⟩
def lw_privs_1 : List (MethodName × Nat) := [(⟨"SignReader", "hasByte", "(I)Z"⟩, 5), (⟨"SignReader", "wayOfBytes", "()I"⟩, 5), (⟨"SignReader", "numberAt", "(II)I"⟩, 5), (⟨"SignReader", "numberOf16Bits", "(II)I"⟩, 5), (⟨"SignReader", "pairAt", "(II)I"⟩, 5), (⟨"SignReader", "numberOf8Bits", "(I)I"⟩, 5), (⟨"SignReader", "placeRefused", "(I)I"⟩, 5), (⟨"SignReader", "takeText", "(I)V"⟩, 5), (⟨"SignReader", "putSign", "(I)V"⟩, 5), (⟨"SignReader", "hasSign", "(I)Z"⟩, 5), (⟨"SignReader", "sizeWritten", "(I)I"⟩, 5), (⟨"SignReader", "putCharacter", "(II)V"⟩, 5), (⟨"SignReader", "put16Bits", "(II)V"⟩, 5), (⟨"SignReader", "putPair", "(II)V"⟩, 5), (⟨"SignReader", "putByte", "(I)V"⟩, 5), (⟨"SignReader", "put8Bits", "(I)V"⟩, 5)]
theorem lw_r1 : ∀ q ∈ lw_privs_1, lw_okq q := List.forall_mem_cons.mpr ⟨lw_p0, List.forall_mem_cons.mpr ⟨lw_p1, List.forall_mem_cons.mpr ⟨lw_p2, List.forall_mem_cons.mpr ⟨lw_p3, List.forall_mem_cons.mpr ⟨lw_p4, List.forall_mem_cons.mpr ⟨lw_p5, List.forall_mem_cons.mpr ⟨lw_p6, List.forall_mem_cons.mpr ⟨lw_p7, List.forall_mem_cons.mpr ⟨lw_p8, List.forall_mem_cons.mpr ⟨lw_p9, List.forall_mem_cons.mpr ⟨lw_p10, List.forall_mem_cons.mpr ⟨lw_p11, List.forall_mem_cons.mpr ⟨lw_p12, List.forall_mem_cons.mpr ⟨lw_p13, List.forall_mem_cons.mpr ⟨lw_p14, List.forall_mem_cons.mpr ⟨lw_p15, fun _ h => absurd h List.not_mem_nil⟩⟩⟩⟩⟩⟩⟩⟩⟩⟩⟩⟩⟩⟩⟩⟩
theorem lw_p16 : lw_okq (⟨"java/lang/Throwable", "fillInStackTrace", "(I)Ljava/lang/Throwable;"⟩, 6) := ⟨⟨by decide +kernel, by decide +kernel⟩, List.mem_of_getElem? (i := 329) (by decide +kernel), List.mem_of_getElem? (i := 327) (by decide +kernel), List.mem_of_getElem? (i := 328) (by decide +kernel)⟩
theorem lw_p17 : lw_okq (⟨"SignReader", "putFour", "(I)V"⟩, 5) := ⟨⟨by decide +kernel, by decide +kernel⟩, List.mem_of_getElem? (i := 15) (by decide +kernel), List.mem_of_getElem? (i := 358) (by decide +kernel), List.mem_of_getElem? (i := 359) (by decide +kernel)⟩
theorem lw_p18 : lw_okq (⟨"SignReaderModel", "wayOfBytes", "()I"⟩, 9) := ⟨⟨by decide +kernel, by decide +kernel⟩, List.mem_of_getElem? (i := 386) (by decide +kernel), List.mem_of_getElem? (i := 444) (by decide +kernel), List.mem_of_getElem? (i := 445) (by decide +kernel)⟩
theorem lw_p19 : lw_okq (⟨"SignReaderModel", "begins", "(II)Z"⟩, 9) := ⟨⟨by decide +kernel, by decide +kernel⟩, List.mem_of_getElem? (i := 386) (by decide +kernel), List.mem_of_getElem? (i := 448) (by decide +kernel), List.mem_of_getElem? (i := 449) (by decide +kernel)⟩
theorem lw_p20 : lw_okq (⟨"SignReaderModel", "takeSixteen", "(IZ)I"⟩, 9) := ⟨⟨by decide +kernel, by decide +kernel⟩, List.mem_of_getElem? (i := 386) (by decide +kernel), List.mem_of_getElem? (i := 452) (by decide +kernel), List.mem_of_getElem? (i := 453) (by decide +kernel)⟩
theorem lw_p21 : lw_okq (⟨"SignReaderModel", "unit", "(IZ)I"⟩, 9) := ⟨⟨by decide +kernel, by decide +kernel⟩, List.mem_of_getElem? (i := 386) (by decide +kernel), List.mem_of_getElem? (i := 456) (by decide +kernel), List.mem_of_getElem? (i := 457) (by decide +kernel)⟩
theorem lw_p22 : lw_okq (⟨"SignReaderModel", "takeEight", "(I)I"⟩, 9) := ⟨⟨by decide +kernel, by decide +kernel⟩, List.mem_of_getElem? (i := 386) (by decide +kernel), List.mem_of_getElem? (i := 468) (by decide +kernel), List.mem_of_getElem? (i := 469) (by decide +kernel)⟩
theorem lw_p23 : lw_okq (⟨"SignReaderModel", "pair", "(IZ)V"⟩, 9) := ⟨⟨by decide +kernel, by decide +kernel⟩, List.mem_of_getElem? (i := 386) (by decide +kernel), List.mem_of_getElem? (i := 526) (by decide +kernel), List.mem_of_getElem? (i := 527) (by decide +kernel)⟩
theorem lw_p24 : lw_okq (⟨"SignReaderModel", "put", "(I)V"⟩, 9) := ⟨⟨by decide +kernel, by decide +kernel⟩, List.mem_of_getElem? (i := 386) (by decide +kernel), List.mem_of_getElem? (i := 530) (by decide +kernel), List.mem_of_getElem? (i := 531) (by decide +kernel)⟩
theorem lw_p25 : lw_okq (⟨"SignReaderModel", "writeEight", "(I)V"⟩, 9) := ⟨⟨by decide +kernel, by decide +kernel⟩, List.mem_of_getElem? (i := 386) (by decide +kernel), List.mem_of_getElem? (i := 534) (by decide +kernel), List.mem_of_getElem? (i := 535) (by decide +kernel)⟩
def lw_privs_2 : List (MethodName × Nat) := [(⟨"java/lang/Throwable", "fillInStackTrace", "(I)Ljava/lang/Throwable;"⟩, 6), (⟨"SignReader", "putFour", "(I)V"⟩, 5), (⟨"SignReaderModel", "wayOfBytes", "()I"⟩, 9), (⟨"SignReaderModel", "begins", "(II)Z"⟩, 9), (⟨"SignReaderModel", "takeSixteen", "(IZ)I"⟩, 9), (⟨"SignReaderModel", "unit", "(IZ)I"⟩, 9), (⟨"SignReaderModel", "takeEight", "(I)I"⟩, 9), (⟨"SignReaderModel", "pair", "(IZ)V"⟩, 9), (⟨"SignReaderModel", "put", "(I)V"⟩, 9), (⟨"SignReaderModel", "writeEight", "(I)V"⟩, 9)]
theorem lw_r2 : ∀ q ∈ lw_privs_2, lw_okq q := List.forall_mem_cons.mpr ⟨lw_p16, List.forall_mem_cons.mpr ⟨lw_p17, List.forall_mem_cons.mpr ⟨lw_p18, List.forall_mem_cons.mpr ⟨lw_p19, List.forall_mem_cons.mpr ⟨lw_p20, List.forall_mem_cons.mpr ⟨lw_p21, List.forall_mem_cons.mpr ⟨lw_p22, List.forall_mem_cons.mpr ⟨lw_p23, List.forall_mem_cons.mpr ⟨lw_p24, List.forall_mem_cons.mpr ⟨lw_p25, fun _ h => absurd h List.not_mem_nil⟩⟩⟩⟩⟩⟩⟩⟩⟩⟩
def lw_privs : List (MethodName × Nat) := lw_privs_1 ++ (lw_privs_2)
def lw_tbl : List Cond := k2_sels lw_privs ++ tables_1
theorem lw_privs_ok : ∀ q ∈ lw_privs, lw_okq q := by
  show ∀ q ∈ lw_privs_1 ++ (lw_privs_2), lw_okq q
  exact List.forall_mem_append.mpr ⟨lw_r1, lw_r2⟩
def yS_init : MethodName := ⟨"SignReader", "<init>", "()V"⟩
def yObj_init : MethodName := ⟨"java/lang/Object", "<init>", "()V"⟩
def yS_change : MethodName := ⟨"SignReader", "change", "(II)I"⟩
def yS_hasByte : MethodName := ⟨"SignReader", "hasByte", "(I)Z"⟩
def yS_came : MethodName := ⟨"SignReader", "came", "(I)I"⟩
def yS_read : MethodName := ⟨"SignReader", "read", "()I"⟩
def yS_wayOfBytes : MethodName := ⟨"SignReader", "wayOfBytes", "()I"⟩
def yS_numberAt : MethodName := ⟨"SignReader", "numberAt", "(II)I"⟩
def yS_isSixteenBits : MethodName := ⟨"SignReader", "isSixteenBits", "(I)Z"⟩
def yS_numberOf16Bits : MethodName := ⟨"SignReader", "numberOf16Bits", "(II)I"⟩
def yS_pairAt : MethodName := ⟨"SignReader", "pairAt", "(II)I"⟩
def yS_numberOf8Bits : MethodName := ⟨"SignReader", "numberOf8Bits", "(I)I"⟩
def yS_bytesBehind : MethodName := ⟨"SignReader", "bytesBehind", "(I)I"⟩
def yS_sizeOf8Bits : MethodName := ⟨"SignReader", "sizeOf8Bits", "(I)I"⟩
def yS_placeRefused : MethodName := ⟨"SignReader", "placeRefused", "(I)I"⟩
def yS_sizeOfMark : MethodName := ⟨"SignReader", "sizeOfMark", "(I)I"⟩
def yS_sizeOf : MethodName := ⟨"SignReader", "sizeOf", "(II)I"⟩
def yS_sizeOf16Bits : MethodName := ⟨"SignReader", "sizeOf16Bits", "(I)I"⟩
def yS_isCharacter : MethodName := ⟨"SignReader", "isCharacter", "(I)Z"⟩
def yS_isWithin : MethodName := ⟨"SignReader", "isWithin", "([II)Z"⟩
def yS_takeText : MethodName := ⟨"SignReader", "takeText", "(I)V"⟩
def yS_putSign : MethodName := ⟨"SignReader", "putSign", "(I)V"⟩
def yS_length : MethodName := ⟨"SignReader", "length", "()I"⟩
def yS_sign : MethodName := ⟨"SignReader", "sign", "(I)I"⟩
def yS_hasSign : MethodName := ⟨"SignReader", "hasSign", "(I)Z"⟩
def yS_way : MethodName := ⟨"SignReader", "way", "()I"⟩
def yS_kinds : MethodName := ⟨"SignReader", "kinds", "(I)I"⟩
def yS_kindsOf : MethodName := ⟨"SignReader", "kindsOf", "(I)I"⟩
def yS_isSpace : MethodName := ⟨"SignReader", "isSpace", "(I)Z"⟩
def yS_isLetter : MethodName := ⟨"SignReader", "isLetter", "(I)Z"⟩
def yS_isDigit : MethodName := ⟨"SignReader", "isDigit", "(I)Z"⟩
def yS_isPublic : MethodName := ⟨"SignReader", "isPublic", "(I)Z"⟩
def yStr_indexOf1 : MethodName := ⟨"java/lang/String", "indexOf", "(I)I"⟩
def yStr_indexOf2 : MethodName := ⟨"java/lang/String", "indexOf", "(II)I"⟩
def yStr_isLatin1 : MethodName := ⟨"java/lang/String", "isLatin1", "()Z"⟩
def yStr_length : MethodName := ⟨"java/lang/String", "length", "()I"⟩
def yStr_coder : MethodName := ⟨"java/lang/String", "coder", "()B"⟩
def yLat_indexOf : MethodName := ⟨"java/lang/StringLatin1", "indexOf", "([BIII)I"⟩
def yLat_canEncode : MethodName := ⟨"java/lang/StringLatin1", "canEncode", "(I)Z"⟩
def yMath_max : MethodName := ⟨"java/lang/Math", "max", "(II)I"⟩
def yMath_min : MethodName := ⟨"java/lang/Math", "min", "(II)I"⟩
def yLat_indexOfChar : MethodName := ⟨"java/lang/StringLatin1", "indexOfChar", "([BIII)I"⟩
def yU16_indexOf : MethodName := ⟨"java/lang/StringUTF16", "indexOf", "([BIII)I"⟩
def yU16_indexOfChar : MethodName := ⟨"java/lang/StringUTF16", "indexOfChar", "([BIII)I"⟩
def yU16_checkBoundsBeginEnd : MethodName := ⟨"java/lang/StringUTF16", "checkBoundsBeginEnd", "(II[B)V"⟩
def yU16_length : MethodName := ⟨"java/lang/StringUTF16", "length", "([B)I"⟩
def yStr_checkBoundsBeginEnd : MethodName := ⟨"java/lang/String", "checkBoundsBeginEnd", "(III)V"⟩
def yPre_checkFromToIndex : MethodName := ⟨"jdk/internal/util/Preconditions", "checkFromToIndex", "(IIILjava/util/function/BiFunction;)I"⟩
def yU16_indexOfCharUnsafe : MethodName := ⟨"java/lang/StringUTF16", "indexOfCharUnsafe", "([BIII)I"⟩
def yU16_getChar : MethodName := ⟨"java/lang/StringUTF16", "getChar", "([BI)C"⟩
def yU16_indexOfSupplementary : MethodName := ⟨"java/lang/StringUTF16", "indexOfSupplementary", "([BIII)I"⟩
def yChr_isValidCodePoint : MethodName := ⟨"java/lang/Character", "isValidCodePoint", "(I)Z"⟩
def yChr_highSurrogate : MethodName := ⟨"java/lang/Character", "highSurrogate", "(I)C"⟩
def yChr_lowSurrogate : MethodName := ⟨"java/lang/Character", "lowSurrogate", "(I)C"⟩
def yS_run : MethodName := ⟨"SignReader", "run", "(II)I"⟩
def yS_write : MethodName := ⟨"SignReader", "write", "(I)I"⟩
def yS_sizeWritten : MethodName := ⟨"SignReader", "sizeWritten", "(I)I"⟩
def yS_putCharacter : MethodName := ⟨"SignReader", "putCharacter", "(II)V"⟩
def yS_put16Bits : MethodName := ⟨"SignReader", "put16Bits", "(II)V"⟩
def yS_putPair : MethodName := ⟨"SignReader", "putPair", "(II)V"⟩
def yS_putByte : MethodName := ⟨"SignReader", "putByte", "(I)V"⟩
def yS_put8Bits : MethodName := ⟨"SignReader", "put8Bits", "(I)V"⟩
def yS_add : MethodName := ⟨"SignReader", "add", "(I)I"⟩
def yL_feed : MethodName := ⟨"SignReaderLaw", "feed", "(LSignReader;IIIII)I"⟩
def yS_feed : MethodName := ⟨"SignReader", "feed", "(IIIII)V"⟩
def yThr_init0 : MethodName := ⟨"java/lang/Throwable", "<init>", "()V"⟩
def yThr_fillInStackTrace : MethodName := ⟨"java/lang/Throwable", "fillInStackTrace", "()Ljava/lang/Throwable;"⟩
def yIse_init : MethodName := ⟨"java/lang/IllegalStateException", "<init>", "(Ljava/lang/String;)V"⟩
def yRte_init : MethodName := ⟨"java/lang/RuntimeException", "<init>", "(Ljava/lang/String;)V"⟩
def yExc_init : MethodName := ⟨"java/lang/Exception", "<init>", "(Ljava/lang/String;)V"⟩
def yThr_initS : MethodName := ⟨"java/lang/Throwable", "<init>", "(Ljava/lang/String;)V"⟩
def yS_putFour : MethodName := ⟨"SignReader", "putFour", "(I)V"⟩
def yL_end : MethodName := ⟨"SignReaderLaw", "end", "(LSignReader;I[J)I"⟩
def yS_end : MethodName := ⟨"SignReader", "end", "(I)I"⟩
def yIae_init : MethodName := ⟨"java/lang/IllegalArgumentException", "<init>", "(Ljava/lang/String;)V"⟩
def yM_init : MethodName := ⟨"SignReaderModel", "<init>", "()V"⟩
def yM_thrown : MethodName := ⟨"SignReaderModel", "thrown", "()I"⟩
def yM_feed : MethodName := ⟨"SignReaderModel", "feed", "(IIIII)V"⟩
def yM_end : MethodName := ⟨"SignReaderModel", "end", "(I)I"⟩
def yM_came : MethodName := ⟨"SignReaderModel", "came", "(I)I"⟩
def yM_change : MethodName := ⟨"SignReaderModel", "change", "(II)I"⟩
def yM_read : MethodName := ⟨"SignReaderModel", "read", "()I"⟩
def yM_wayOfBytes : MethodName := ⟨"SignReaderModel", "wayOfBytes", "()I"⟩
def yM_begins : MethodName := ⟨"SignReaderModel", "begins", "(II)Z"⟩
def yM_takeSixteen : MethodName := ⟨"SignReaderModel", "takeSixteen", "(IZ)I"⟩
def yM_unit : MethodName := ⟨"SignReaderModel", "unit", "(IZ)I"⟩
def yM_isIn : MethodName := ⟨"SignReaderModel", "isIn", "(III)Z"⟩
def yM_takeEight : MethodName := ⟨"SignReaderModel", "takeEight", "(I)I"⟩
def yM_bytesOf : MethodName := ⟨"SignReaderModel", "bytesOf", "(I)I"⟩
def yM_isCharacter : MethodName := ⟨"SignReaderModel", "isCharacter", "(I)Z"⟩
def yM_length : MethodName := ⟨"SignReaderModel", "length", "()I"⟩
def yM_sign : MethodName := ⟨"SignReaderModel", "sign", "(I)I"⟩
def yM_way : MethodName := ⟨"SignReaderModel", "way", "()I"⟩
def yM_kinds : MethodName := ⟨"SignReaderModel", "kinds", "(I)I"⟩
def yM_kindsOf : MethodName := ⟨"SignReaderModel", "kindsOf", "(I)I"⟩
def yM_isLetter : MethodName := ⟨"SignReaderModel", "isLetter", "(I)Z"⟩
def yM_isStart : MethodName := ⟨"SignReaderModel", "isStart", "(I)Z"⟩
def yM_isNaming : MethodName := ⟨"SignReaderModel", "isNaming", "(I)Z"⟩
def yM_isPublic : MethodName := ⟨"SignReaderModel", "isPublic", "(I)Z"⟩
def yM_run : MethodName := ⟨"SignReaderModel", "run", "(II)I"⟩
def yM_write : MethodName := ⟨"SignReaderModel", "write", "(I)I"⟩
def yM_pair : MethodName := ⟨"SignReaderModel", "pair", "(IZ)V"⟩
def yM_put : MethodName := ⟨"SignReaderModel", "put", "(I)V"⟩
def yM_writeEight : MethodName := ⟨"SignReaderModel", "writeEight", "(I)V"⟩
def yM_add : MethodName := ⟨"SignReaderModel", "add", "(I)I"⟩
def yL_law : MethodName := ⟨"SignReaderLaw", "law", "([I)Z"⟩
def yThr_fillInStackTraceI : MethodName := ⟨"java/lang/Throwable", "fillInStackTrace", "(I)Ljava/lang/Throwable;"⟩
def TB : List Cond := lw_tbl.filter goodWord
theorem TB_good : ∀ w ∈ TB, (w.onTables && w.keeps) = true ∨ ∃ ty, w = .arrayClass ty := fun w h => good_of_word (List.mem_filter.mp h).2
theorem TB_t {w : Cond} (i : Nat) (h : tables_1[i]? = some w) (g : goodWord w = true) : w ∈ TB := List.mem_filter.mpr ⟨List.mem_append_right _ (List.mem_of_getElem? h), g⟩
theorem TB_p {q : MethodName × Nat} (i : Nat) (h : lw_privs[i]? = some q) : Cond.selects q.1.cls q.1 q.1 ∈ TB := List.mem_filter.mpr ⟨List.mem_append_left _ (List.mem_map.mpr ⟨q, List.mem_of_getElem? h, rfl⟩), rfl⟩
theorem k0 : Cond.initialized "SignReaderLaw" ∈ TB := TB_t 0 (by decide +kernel) rfl
theorem k1 : Cond.initialized "SignReader" ∈ TB := TB_t 1 (by decide +kernel) rfl
theorem k2 : Cond.initialized "SignReaderModel" ∈ TB := TB_t 2 (by decide +kernel) rfl
theorem k3 : Cond.initialized "java/lang/Throwable" ∈ TB := TB_t 3 (by decide +kernel) rfl
theorem k4 : Cond.initialized "java/lang/Exception" ∈ TB := TB_t 4 (by decide +kernel) rfl
theorem k5 : Cond.initialized "java/lang/RuntimeException" ∈ TB := TB_t 5 (by decide +kernel) rfl
theorem k6 : Cond.initialized "java/lang/IllegalStateException" ∈ TB := TB_t 6 (by decide +kernel) rfl
theorem k7 : Cond.initialized "java/lang/IllegalArgumentException" ∈ TB := TB_t 7 (by decide +kernel) rfl
theorem k8 : Cond.initialized "java/lang/String" ∈ TB := TB_t 8 (by decide +kernel) rfl
theorem k9 : Cond.initialized "java/lang/StringLatin1" ∈ TB := TB_t 9 (by decide +kernel) rfl
theorem k10 : Cond.initialized "java/lang/Math" ∈ TB := TB_t 10 (by decide +kernel) rfl
theorem k11 : Cond.initialized "java/lang/StringUTF16" ∈ TB := TB_t 11 (by decide +kernel) rfl
theorem k12 : Cond.initialized "jdk/internal/util/Preconditions" ∈ TB := TB_t 12 (by decide +kernel) rfl
theorem k13 : Cond.initialized "java/lang/Character" ∈ TB := TB_t 13 (by decide +kernel) rfl
theorem k14 : Cond.classLink "SignReaderLaw" 8 "SignReader" ∈ TB := TB_t 14 (by decide +kernel) rfl
theorem k15 : Cond.instantiable "SignReader" 5 ∈ TB := TB_t 15 (by decide +kernel) rfl
theorem k16 : Cond.methodLink "SignReaderLaw" 21 yS_init ∈ TB := TB_t 16 (by decide +kernel) rfl
theorem k17 : Cond.instanceMethod yS_init ∈ TB := TB_t 17 (by decide +kernel) rfl
theorem k18 : Cond.code yS_init prog_1_method_1_code 1 (none) ∈ TB := TB_t 18 (by decide +kernel) rfl
theorem k19 : Cond.methodLink "SignReader" 1 yObj_init ∈ TB := TB_t 19 (by decide +kernel) rfl
theorem k20 : Cond.instanceMethod yObj_init ∈ TB := TB_t 20 (by decide +kernel) rfl
theorem k21 : Cond.code yObj_init object_method_1_code 1 (none) ∈ TB := TB_t 21 (by decide +kernel) rfl
theorem k22 : Cond.fieldLink "SignReader" 9 "SignReader" "bytes" "[I" ∈ TB := TB_t 22 (by decide +kernel) rfl
theorem k23 : Cond.fieldLink "SignReader" 13 "SignReader" "text" "[I" ∈ TB := TB_t 23 (by decide +kernel) rfl
theorem k24 : Cond.fieldLink "SignReader" 16 "SignReader" "byteCount" "I" ∈ TB := TB_t 24 (by decide +kernel) rfl
theorem k25 : Cond.fieldLink "SignReader" 20 "SignReader" "textLength" "I" ∈ TB := TB_t 25 (by decide +kernel) rfl
theorem k26 : Cond.fieldLink "SignReader" 23 "SignReader" "textWay" "I" ∈ TB := TB_t 26 (by decide +kernel) rfl
theorem k27 : Cond.laysFinal "SignReader" "SignReader" "bytes" "[I" ∈ TB := TB_t 27 (by decide +kernel) rfl
theorem k28 : Cond.soleField "SignReader" "bytes" ∈ TB := TB_t 28 (by decide +kernel) rfl
theorem k29 : Cond.laysFinal "SignReader" "SignReader" "text" "[I" ∈ TB := TB_t 29 (by decide +kernel) rfl
theorem k30 : Cond.soleField "SignReader" "text" ∈ TB := TB_t 30 (by decide +kernel) rfl
theorem k31 : Cond.lays "SignReader" "SignReader" "byteCount" "I" ∈ TB := TB_t 31 (by decide +kernel) rfl
theorem k32 : Cond.soleField "SignReader" "byteCount" ∈ TB := TB_t 32 (by decide +kernel) rfl
theorem k33 : Cond.lays "SignReader" "SignReader" "textLength" "I" ∈ TB := TB_t 33 (by decide +kernel) rfl
theorem k34 : Cond.soleField "SignReader" "textLength" ∈ TB := TB_t 34 (by decide +kernel) rfl
theorem k35 : Cond.lays "SignReader" "SignReader" "textWay" "I" ∈ TB := TB_t 35 (by decide +kernel) rfl
theorem k36 : Cond.soleField "SignReader" "textWay" ∈ TB := TB_t 36 (by decide +kernel) rfl
theorem k37 : Cond.superclass "SignReader" "java/lang/Object" ∈ TB := TB_t 37 (by decide +kernel) rfl
theorem k38 : Cond.arrayClass FieldType.int ∈ TB := TB_t 38 (by decide +kernel) rfl
theorem k39 : Cond.methodLink "SignReaderLaw" 39 yS_change ∈ TB := TB_t 39 (by decide +kernel) rfl
theorem k40 : Cond.instanceMethod yS_change ∈ TB := TB_t 40 (by decide +kernel) rfl
theorem k41 : Cond.selects "SignReader" yS_change yS_change ∈ TB := TB_t 41 (by decide +kernel) rfl
theorem k42 : Cond.code yS_change prog_1_method_4_code 4 (some FieldType.int) ∈ TB := TB_t 42 (by decide +kernel) rfl
theorem k43 : Cond.methodLink "SignReader" 42 yS_hasByte ∈ TB := TB_t 43 (by decide +kernel) rfl
theorem k45 : Cond.instanceMethod yS_hasByte ∈ TB := TB_t 45 (by decide +kernel) rfl
theorem k46 : Cond.code yS_hasByte prog_1_method_14_code 2 (some FieldType.boolean) ∈ TB := TB_t 46 (by decide +kernel) rfl
theorem k47 : Cond.methodLink "SignReaderLaw" 44 yS_came ∈ TB := TB_t 47 (by decide +kernel) rfl
theorem k48 : Cond.instanceMethod yS_came ∈ TB := TB_t 48 (by decide +kernel) rfl
theorem k49 : Cond.selects "SignReader" yS_came yS_came ∈ TB := TB_t 49 (by decide +kernel) rfl
theorem k50 : Cond.code yS_came prog_1_method_5_code 2 (some FieldType.int) ∈ TB := TB_t 50 (by decide +kernel) rfl
theorem k51 : Cond.methodLink "SignReaderLaw" 48 yS_read ∈ TB := TB_t 51 (by decide +kernel) rfl
theorem k52 : Cond.instanceMethod yS_read ∈ TB := TB_t 52 (by decide +kernel) rfl
theorem k53 : Cond.selects "SignReader" yS_read yS_read ∈ TB := TB_t 53 (by decide +kernel) rfl
theorem k54 : Cond.code yS_read prog_1_method_6_code 3 (some FieldType.int) ∈ TB := TB_t 54 (by decide +kernel) rfl
theorem k55 : Cond.methodLink "SignReader" 46 yS_wayOfBytes ∈ TB := TB_t 55 (by decide +kernel) rfl
theorem k57 : Cond.instanceMethod yS_wayOfBytes ∈ TB := TB_t 57 (by decide +kernel) rfl
theorem k58 : Cond.code yS_wayOfBytes prog_1_method_16_code 2 (some FieldType.int) ∈ TB := TB_t 58 (by decide +kernel) rfl
theorem k59 : Cond.methodLink "SignReader" 77 yS_numberAt ∈ TB := TB_t 59 (by decide +kernel) rfl
theorem k61 : Cond.instanceMethod yS_numberAt ∈ TB := TB_t 61 (by decide +kernel) rfl
theorem k62 : Cond.code yS_numberAt prog_1_method_20_code 3 (some FieldType.int) ∈ TB := TB_t 62 (by decide +kernel) rfl
theorem k63 : Cond.methodLink "SignReader" 87 yS_isSixteenBits ∈ TB := TB_t 63 (by decide +kernel) rfl
theorem k64 : Cond.static yS_isSixteenBits ∈ TB := TB_t 64 (by decide +kernel) rfl
theorem k65 : Cond.code yS_isSixteenBits prog_1_method_30_code 1 (some FieldType.boolean) ∈ TB := TB_t 65 (by decide +kernel) rfl
theorem k66 : Cond.methodLink "SignReader" 90 yS_numberOf16Bits ∈ TB := TB_t 66 (by decide +kernel) rfl
theorem k68 : Cond.instanceMethod yS_numberOf16Bits ∈ TB := TB_t 68 (by decide +kernel) rfl
theorem k69 : Cond.code yS_numberOf16Bits prog_1_method_23_code 5 (some FieldType.int) ∈ TB := TB_t 69 (by decide +kernel) rfl
theorem k70 : Cond.methodLink "SignReader" 105 yS_pairAt ∈ TB := TB_t 70 (by decide +kernel) rfl
theorem k72 : Cond.instanceMethod yS_pairAt ∈ TB := TB_t 72 (by decide +kernel) rfl
theorem k73 : Cond.code yS_pairAt prog_1_method_24_code 5 (some FieldType.int) ∈ TB := TB_t 73 (by decide +kernel) rfl
theorem k74 : Cond.methodLink "SignReader" 96 yS_came ∈ TB := TB_t 74 (by decide +kernel) rfl
theorem k75 : Cond.constant "SignReader" 108 (55296) ∈ TB := TB_t 75 (by decide +kernel) rfl
theorem k76 : Cond.constant "SignReader" 109 (56319) ∈ TB := TB_t 76 (by decide +kernel) rfl
theorem k77 : Cond.constant "SignReader" 110 (56320) ∈ TB := TB_t 77 (by decide +kernel) rfl
theorem k78 : Cond.constant "SignReader" 111 (57343) ∈ TB := TB_t 78 (by decide +kernel) rfl
theorem k79 : Cond.constant "SignReader" 112 (65536) ∈ TB := TB_t 79 (by decide +kernel) rfl
theorem k80 : Cond.methodLink "SignReader" 93 yS_numberOf8Bits ∈ TB := TB_t 80 (by decide +kernel) rfl
theorem k82 : Cond.instanceMethod yS_numberOf8Bits ∈ TB := TB_t 82 (by decide +kernel) rfl
theorem k83 : Cond.code yS_numberOf8Bits prog_1_method_21_code 7 (some FieldType.int) ∈ TB := TB_t 83 (by decide +kernel) rfl
theorem k84 : Cond.methodLink "SignReader" 99 yS_bytesBehind ∈ TB := TB_t 84 (by decide +kernel) rfl
theorem k85 : Cond.static yS_bytesBehind ∈ TB := TB_t 85 (by decide +kernel) rfl
theorem k86 : Cond.code yS_bytesBehind prog_1_method_22_code 1 (some FieldType.int) ∈ TB := TB_t 86 (by decide +kernel) rfl
theorem k87 : Cond.methodLink "SignReader" 102 yS_sizeOf8Bits ∈ TB := TB_t 87 (by decide +kernel) rfl
theorem k88 : Cond.static yS_sizeOf8Bits ∈ TB := TB_t 88 (by decide +kernel) rfl
theorem k89 : Cond.code yS_sizeOf8Bits prog_1_method_28_code 1 (some FieldType.int) ∈ TB := TB_t 89 (by decide +kernel) rfl
theorem k90 : Cond.constant "SignReader" 66 (65279) ∈ TB := TB_t 90 (by decide +kernel) rfl
theorem k91 : Cond.methodLink "SignReader" 50 yS_placeRefused ∈ TB := TB_t 91 (by decide +kernel) rfl
theorem k93 : Cond.instanceMethod yS_placeRefused ∈ TB := TB_t 93 (by decide +kernel) rfl
theorem k94 : Cond.code yS_placeRefused prog_1_method_17_code 5 (some FieldType.int) ∈ TB := TB_t 94 (by decide +kernel) rfl
theorem k95 : Cond.methodLink "SignReader" 81 yS_sizeOfMark ∈ TB := TB_t 95 (by decide +kernel) rfl
theorem k96 : Cond.static yS_sizeOfMark ∈ TB := TB_t 96 (by decide +kernel) rfl
theorem k97 : Cond.code yS_sizeOfMark prog_1_method_26_code 1 (some FieldType.int) ∈ TB := TB_t 97 (by decide +kernel) rfl
theorem k98 : Cond.methodLink "SignReader" 84 yS_sizeOf ∈ TB := TB_t 98 (by decide +kernel) rfl
theorem k99 : Cond.static yS_sizeOf ∈ TB := TB_t 99 (by decide +kernel) rfl
theorem k100 : Cond.code yS_sizeOf prog_1_method_27_code 2 (some FieldType.int) ∈ TB := TB_t 100 (by decide +kernel) rfl
theorem k101 : Cond.methodLink "SignReader" 113 yS_sizeOf16Bits ∈ TB := TB_t 101 (by decide +kernel) rfl
theorem k102 : Cond.static yS_sizeOf16Bits ∈ TB := TB_t 102 (by decide +kernel) rfl
theorem k103 : Cond.code yS_sizeOf16Bits prog_1_method_29_code 1 (some FieldType.int) ∈ TB := TB_t 103 (by decide +kernel) rfl
theorem k104 : Cond.methodLink "SignReader" 71 yS_isCharacter ∈ TB := TB_t 104 (by decide +kernel) rfl
theorem k105 : Cond.static yS_isCharacter ∈ TB := TB_t 105 (by decide +kernel) rfl
theorem k106 : Cond.code yS_isCharacter prog_1_method_38_code 1 (some FieldType.boolean) ∈ TB := TB_t 106 (by decide +kernel) rfl
theorem k107 : Cond.fieldLink "SignReader" 150 "SignReader" "CHARACTER_RANGES" "[I" ∈ TB := TB_t 107 (by decide +kernel) rfl
theorem k109 : Cond.methodLink "SignReader" 140 yS_isWithin ∈ TB := TB_t 109 (by decide +kernel) rfl
theorem k110 : Cond.static yS_isWithin ∈ TB := TB_t 110 (by decide +kernel) rfl
theorem k111 : Cond.code yS_isWithin prog_1_method_43_code 3 (some FieldType.boolean) ∈ TB := TB_t 111 (by decide +kernel) rfl
theorem k112 : Cond.methodLink "SignReader" 54 yS_takeText ∈ TB := TB_t 112 (by decide +kernel) rfl
theorem k114 : Cond.instanceMethod yS_takeText ∈ TB := TB_t 114 (by decide +kernel) rfl
theorem k115 : Cond.code yS_takeText prog_1_method_18_code 7 (none) ∈ TB := TB_t 115 (by decide +kernel) rfl
theorem k116 : Cond.methodLink "SignReader" 74 yS_putSign ∈ TB := TB_t 116 (by decide +kernel) rfl
theorem k118 : Cond.instanceMethod yS_putSign ∈ TB := TB_t 118 (by decide +kernel) rfl
theorem k119 : Cond.code yS_putSign prog_1_method_19_code 2 (none) ∈ TB := TB_t 119 (by decide +kernel) rfl
theorem k120 : Cond.methodLink "SignReaderLaw" 52 yS_length ∈ TB := TB_t 120 (by decide +kernel) rfl
theorem k121 : Cond.instanceMethod yS_length ∈ TB := TB_t 121 (by decide +kernel) rfl
theorem k122 : Cond.selects "SignReader" yS_length yS_length ∈ TB := TB_t 122 (by decide +kernel) rfl
theorem k123 : Cond.code yS_length prog_1_method_7_code 1 (some FieldType.int) ∈ TB := TB_t 123 (by decide +kernel) rfl
theorem k124 : Cond.methodLink "SignReaderLaw" 56 yS_sign ∈ TB := TB_t 124 (by decide +kernel) rfl
theorem k125 : Cond.instanceMethod yS_sign ∈ TB := TB_t 125 (by decide +kernel) rfl
theorem k126 : Cond.selects "SignReader" yS_sign yS_sign ∈ TB := TB_t 126 (by decide +kernel) rfl
theorem k127 : Cond.code yS_sign prog_1_method_8_code 2 (some FieldType.int) ∈ TB := TB_t 127 (by decide +kernel) rfl
theorem k128 : Cond.methodLink "SignReader" 57 yS_hasSign ∈ TB := TB_t 128 (by decide +kernel) rfl
theorem k130 : Cond.instanceMethod yS_hasSign ∈ TB := TB_t 130 (by decide +kernel) rfl
theorem k131 : Cond.code yS_hasSign prog_1_method_15_code 2 (some FieldType.boolean) ∈ TB := TB_t 131 (by decide +kernel) rfl
theorem k132 : Cond.methodLink "SignReaderLaw" 60 yS_way ∈ TB := TB_t 132 (by decide +kernel) rfl
theorem k133 : Cond.instanceMethod yS_way ∈ TB := TB_t 133 (by decide +kernel) rfl
theorem k134 : Cond.selects "SignReader" yS_way yS_way ∈ TB := TB_t 134 (by decide +kernel) rfl
theorem k135 : Cond.code yS_way prog_1_method_9_code 1 (some FieldType.int) ∈ TB := TB_t 135 (by decide +kernel) rfl
theorem k136 : Cond.methodLink "SignReaderLaw" 64 yS_kinds ∈ TB := TB_t 136 (by decide +kernel) rfl
theorem k137 : Cond.instanceMethod yS_kinds ∈ TB := TB_t 137 (by decide +kernel) rfl
theorem k138 : Cond.selects "SignReader" yS_kinds yS_kinds ∈ TB := TB_t 138 (by decide +kernel) rfl
theorem k139 : Cond.code yS_kinds prog_1_method_10_code 2 (some FieldType.int) ∈ TB := TB_t 139 (by decide +kernel) rfl
theorem k140 : Cond.methodLink "SignReader" 60 yS_kindsOf ∈ TB := TB_t 140 (by decide +kernel) rfl
theorem k141 : Cond.static yS_kindsOf ∈ TB := TB_t 141 (by decide +kernel) rfl
theorem k142 : Cond.code yS_kindsOf prog_1_method_37_code 2 (some FieldType.int) ∈ TB := TB_t 142 (by decide +kernel) rfl
theorem k143 : Cond.methodLink "SignReader" 128 yS_isSpace ∈ TB := TB_t 143 (by decide +kernel) rfl
theorem k144 : Cond.static yS_isSpace ∈ TB := TB_t 144 (by decide +kernel) rfl
theorem k145 : Cond.code yS_isSpace prog_1_method_39_code 1 (some FieldType.boolean) ∈ TB := TB_t 145 (by decide +kernel) rfl
theorem k146 : Cond.methodLink "SignReader" 131 yS_isLetter ∈ TB := TB_t 146 (by decide +kernel) rfl
theorem k147 : Cond.static yS_isLetter ∈ TB := TB_t 147 (by decide +kernel) rfl
theorem k148 : Cond.code yS_isLetter prog_1_method_40_code 1 (some FieldType.boolean) ∈ TB := TB_t 148 (by decide +kernel) rfl
theorem k149 : Cond.methodLink "SignReader" 134 yS_isDigit ∈ TB := TB_t 149 (by decide +kernel) rfl
theorem k150 : Cond.static yS_isDigit ∈ TB := TB_t 150 (by decide +kernel) rfl
theorem k151 : Cond.code yS_isDigit prog_1_method_41_code 1 (some FieldType.boolean) ∈ TB := TB_t 151 (by decide +kernel) rfl
theorem k152 : Cond.fieldLink "SignReader" 137 "SignReader" "NAME_START_RANGES" "[I" ∈ TB := TB_t 152 (by decide +kernel) rfl
theorem k154 : Cond.fieldLink "SignReader" 144 "SignReader" "MORE_NAME_RANGES" "[I" ∈ TB := TB_t 154 (by decide +kernel) rfl
theorem k156 : Cond.methodLink "SignReader" 147 yS_isPublic ∈ TB := TB_t 156 (by decide +kernel) rfl
theorem k157 : Cond.static yS_isPublic ∈ TB := TB_t 157 (by decide +kernel) rfl
theorem k158 : Cond.code yS_isPublic prog_1_method_42_code 1 (some FieldType.boolean) ∈ TB := TB_t 158 (by decide +kernel) rfl
theorem k160 : Cond.methodLink "SignReader" 155 yStr_indexOf1 ∈ TB := TB_t 160 (by decide +kernel) rfl
theorem k161 : Cond.instanceMethod yStr_indexOf1 ∈ TB := TB_t 161 (by decide +kernel) rfl
theorem k162 : Cond.selects "java/lang/String" yStr_indexOf1 yStr_indexOf1 ∈ TB := TB_t 162 (by decide +kernel) rfl
theorem k163 : Cond.code yStr_indexOf1 prog_10_method_79_code 2 (some FieldType.int) ∈ TB := TB_t 163 (by decide +kernel) rfl
theorem k164 : Cond.methodLink "java/lang/String" 633 yStr_indexOf2 ∈ TB := TB_t 164 (by decide +kernel) rfl
theorem k165 : Cond.instanceMethod yStr_indexOf2 ∈ TB := TB_t 165 (by decide +kernel) rfl
theorem k166 : Cond.selects "java/lang/String" yStr_indexOf2 yStr_indexOf2 ∈ TB := TB_t 166 (by decide +kernel) rfl
theorem k167 : Cond.code yStr_indexOf2 prog_10_method_80_code 3 (some FieldType.int) ∈ TB := TB_t 167 (by decide +kernel) rfl
theorem k168 : Cond.methodLink "java/lang/String" 492 yStr_isLatin1 ∈ TB := TB_t 168 (by decide +kernel) rfl
theorem k169 : Cond.instanceMethod yStr_isLatin1 ∈ TB := TB_t 169 (by decide +kernel) rfl
theorem k170 : Cond.selects "java/lang/String" yStr_isLatin1 yStr_isLatin1 ∈ TB := TB_t 170 (by decide +kernel) rfl
theorem k171 : Cond.code yStr_isLatin1 prog_10_method_154_code 1 (some FieldType.boolean) ∈ TB := TB_t 171 (by decide +kernel) rfl
theorem k172 : Cond.fieldLink "java/lang/String" 38 "java/lang/String" "COMPACT_STRINGS" "Z" ∈ TB := TB_t 172 (by decide +kernel) rfl
theorem k174 : Cond.methodLink "java/lang/String" 505 yStr_length ∈ TB := TB_t 174 (by decide +kernel) rfl
theorem k175 : Cond.instanceMethod yStr_length ∈ TB := TB_t 175 (by decide +kernel) rfl
theorem k176 : Cond.selects "java/lang/String" yStr_length yStr_length ∈ TB := TB_t 176 (by decide +kernel) rfl
theorem k177 : Cond.code yStr_length prog_10_method_54_code 1 (some FieldType.int) ∈ TB := TB_t 177 (by decide +kernel) rfl
theorem k178 : Cond.methodLink "java/lang/String" 335 yStr_coder ∈ TB := TB_t 178 (by decide +kernel) rfl
theorem k179 : Cond.instanceMethod yStr_coder ∈ TB := TB_t 179 (by decide +kernel) rfl
theorem k180 : Cond.selects "java/lang/String" yStr_coder yStr_coder ∈ TB := TB_t 180 (by decide +kernel) rfl
theorem k181 : Cond.code yStr_coder prog_10_method_152_code 1 (some FieldType.byte) ∈ TB := TB_t 181 (by decide +kernel) rfl
theorem k182 : Cond.methodLink "java/lang/String" 637 yLat_indexOf ∈ TB := TB_t 182 (by decide +kernel) rfl
theorem k183 : Cond.static yLat_indexOf ∈ TB := TB_t 183 (by decide +kernel) rfl
theorem k184 : Cond.code yLat_indexOf prog_11_method_22_code 4 (some FieldType.int) ∈ TB := TB_t 184 (by decide +kernel) rfl
theorem k185 : Cond.methodLink "java/lang/StringLatin1" 88 yLat_canEncode ∈ TB := TB_t 185 (by decide +kernel) rfl
theorem k186 : Cond.static yLat_canEncode ∈ TB := TB_t 186 (by decide +kernel) rfl
theorem k187 : Cond.code yLat_canEncode prog_11_method_4_code 1 (some FieldType.boolean) ∈ TB := TB_t 187 (by decide +kernel) rfl
theorem k188 : Cond.methodLink "java/lang/StringLatin1" 92 yMath_max ∈ TB := TB_t 188 (by decide +kernel) rfl
theorem k189 : Cond.static yMath_max ∈ TB := TB_t 189 (by decide +kernel) rfl
theorem k190 : Cond.code yMath_max prog_8_method_65_code 2 (some FieldType.int) ∈ TB := TB_t 190 (by decide +kernel) rfl
theorem k191 : Cond.methodLink "java/lang/StringLatin1" 38 yMath_min ∈ TB := TB_t 191 (by decide +kernel) rfl
theorem k192 : Cond.static yMath_min ∈ TB := TB_t 192 (by decide +kernel) rfl
theorem k193 : Cond.code yMath_min prog_8_method_69_code 2 (some FieldType.int) ∈ TB := TB_t 193 (by decide +kernel) rfl
theorem k194 : Cond.methodLink "java/lang/StringLatin1" 95 yLat_indexOfChar ∈ TB := TB_t 194 (by decide +kernel) rfl
theorem k195 : Cond.static yLat_indexOfChar ∈ TB := TB_t 195 (by decide +kernel) rfl
theorem k196 : Cond.code yLat_indexOfChar prog_11_method_23_code 6 (some FieldType.int) ∈ TB := TB_t 196 (by decide +kernel) rfl
theorem k197 : Cond.methodLink "java/lang/String" 640 yU16_indexOf ∈ TB := TB_t 197 (by decide +kernel) rfl
theorem k198 : Cond.static yU16_indexOf ∈ TB := TB_t 198 (by decide +kernel) rfl
theorem k199 : Cond.code yU16_indexOf prog_12_method_40_code 4 (some FieldType.int) ∈ TB := TB_t 199 (by decide +kernel) rfl
theorem k200 : Cond.methodLink "java/lang/StringUTF16" 224 yMath_max ∈ TB := TB_t 200 (by decide +kernel) rfl
theorem k201 : Cond.methodLink "java/lang/StringUTF16" 183 yMath_min ∈ TB := TB_t 201 (by decide +kernel) rfl
theorem k202 : Cond.constant "java/lang/StringUTF16" 227 (65536) ∈ TB := TB_t 202 (by decide +kernel) rfl
theorem k203 : Cond.methodLink "java/lang/StringUTF16" 228 yU16_indexOfChar ∈ TB := TB_t 203 (by decide +kernel) rfl
theorem k204 : Cond.static yU16_indexOfChar ∈ TB := TB_t 204 (by decide +kernel) rfl
theorem k205 : Cond.code yU16_indexOfChar prog_12_method_47_code 4 (some FieldType.int) ∈ TB := TB_t 205 (by decide +kernel) rfl
theorem k206 : Cond.methodLink "java/lang/StringUTF16" 96 yU16_checkBoundsBeginEnd ∈ TB := TB_t 206 (by decide +kernel) rfl
theorem k207 : Cond.static yU16_checkBoundsBeginEnd ∈ TB := TB_t 207 (by decide +kernel) rfl
theorem k208 : Cond.code yU16_checkBoundsBeginEnd prog_12_method_93_code 3 (none) ∈ TB := TB_t 208 (by decide +kernel) rfl
theorem k209 : Cond.methodLink "java/lang/StringUTF16" 48 yU16_length ∈ TB := TB_t 209 (by decide +kernel) rfl
theorem k210 : Cond.static yU16_length ∈ TB := TB_t 210 (by decide +kernel) rfl
theorem k211 : Cond.code yU16_length prog_12_method_6_code 1 (some FieldType.int) ∈ TB := TB_t 211 (by decide +kernel) rfl
theorem k212 : Cond.methodLink "java/lang/StringUTF16" 241 yStr_checkBoundsBeginEnd ∈ TB := TB_t 212 (by decide +kernel) rfl
theorem k213 : Cond.static yStr_checkBoundsBeginEnd ∈ TB := TB_t 213 (by decide +kernel) rfl
theorem k214 : Cond.code yStr_checkBoundsBeginEnd prog_10_method_158_code 3 (none) ∈ TB := TB_t 214 (by decide +kernel) rfl
theorem k215 : Cond.fieldLink "java/lang/String" 1053 "jdk/internal/util/Preconditions" "SIOOBE_FORMATTER" "Ljava/util/function/BiFunction;" ∈ TB := TB_t 215 (by decide +kernel) rfl
theorem k217 : Cond.methodLink "java/lang/String" 1062 yPre_checkFromToIndex ∈ TB := TB_t 217 (by decide +kernel) rfl
theorem k218 : Cond.static yPre_checkFromToIndex ∈ TB := TB_t 218 (by decide +kernel) rfl
theorem k219 : Cond.code yPre_checkFromToIndex prog_14_method_12_code 4 (some FieldType.int) ∈ TB := TB_t 219 (by decide +kernel) rfl
theorem k220 : Cond.methodLink "java/lang/StringUTF16" 244 yU16_indexOfCharUnsafe ∈ TB := TB_t 220 (by decide +kernel) rfl
theorem k221 : Cond.static yU16_indexOfCharUnsafe ∈ TB := TB_t 221 (by decide +kernel) rfl
theorem k222 : Cond.code yU16_indexOfCharUnsafe prog_12_method_48_code 5 (some FieldType.int) ∈ TB := TB_t 222 (by decide +kernel) rfl
theorem k223 : Cond.methodLink "java/lang/StringUTF16" 71 yU16_getChar ∈ TB := TB_t 223 (by decide +kernel) rfl
theorem k224 : Cond.static yU16_getChar ∈ TB := TB_t 224 (by decide +kernel) rfl
theorem k225 : Cond.code yU16_getChar prog_12_method_5_code 2 (some FieldType.char) ∈ TB := TB_t 225 (by decide +kernel) rfl
theorem k226 : Cond.fieldLink "java/lang/StringUTF16" 44 "java/lang/StringUTF16" "$assertionsDisabled" "Z" ∈ TB := TB_t 226 (by decide +kernel) rfl
theorem k228 : Cond.fieldLink "java/lang/StringUTF16" 59 "java/lang/StringUTF16" "HI_BYTE_SHIFT" "I" ∈ TB := TB_t 228 (by decide +kernel) rfl
theorem k230 : Cond.fieldLink "java/lang/StringUTF16" 63 "java/lang/StringUTF16" "LO_BYTE_SHIFT" "I" ∈ TB := TB_t 230 (by decide +kernel) rfl
theorem k232 : Cond.methodLink "java/lang/StringUTF16" 232 yU16_indexOfSupplementary ∈ TB := TB_t 232 (by decide +kernel) rfl
theorem k233 : Cond.static yU16_indexOfSupplementary ∈ TB := TB_t 233 (by decide +kernel) rfl
theorem k234 : Cond.code yU16_indexOfSupplementary prog_12_method_49_code 7 (some FieldType.int) ∈ TB := TB_t 234 (by decide +kernel) rfl
theorem k235 : Cond.methodLink "java/lang/StringUTF16" 164 yChr_isValidCodePoint ∈ TB := TB_t 235 (by decide +kernel) rfl
theorem k236 : Cond.static yChr_isValidCodePoint ∈ TB := TB_t 236 (by decide +kernel) rfl
theorem k237 : Cond.code yChr_isValidCodePoint prog_4_method_11_code 2 (some FieldType.boolean) ∈ TB := TB_t 237 (by decide +kernel) rfl
theorem k238 : Cond.methodLink "java/lang/StringUTF16" 157 yChr_highSurrogate ∈ TB := TB_t 238 (by decide +kernel) rfl
theorem k239 : Cond.static yChr_highSurrogate ∈ TB := TB_t 239 (by decide +kernel) rfl
theorem k240 : Cond.code yChr_highSurrogate prog_4_method_28_code 1 (some FieldType.char) ∈ TB := TB_t 240 (by decide +kernel) rfl
theorem k241 : Cond.constant "java/lang/Character" 110 (55232) ∈ TB := TB_t 241 (by decide +kernel) rfl
theorem k242 : Cond.methodLink "java/lang/StringUTF16" 161 yChr_lowSurrogate ∈ TB := TB_t 242 (by decide +kernel) rfl
theorem k243 : Cond.static yChr_lowSurrogate ∈ TB := TB_t 243 (by decide +kernel) rfl
theorem k244 : Cond.code yChr_lowSurrogate prog_4_method_29_code 1 (some FieldType.char) ∈ TB := TB_t 244 (by decide +kernel) rfl
theorem k245 : Cond.constant "java/lang/Character" 76 (56320) ∈ TB := TB_t 245 (by decide +kernel) rfl
theorem k246 : Cond.arrayClass FieldType.byte ∈ TB := TB_t 246 (by decide +kernel) rfl
theorem k247 : Cond.methodLink "SignReaderLaw" 68 yS_run ∈ TB := TB_t 247 (by decide +kernel) rfl
theorem k248 : Cond.instanceMethod yS_run ∈ TB := TB_t 248 (by decide +kernel) rfl
theorem k249 : Cond.selects "SignReader" yS_run yS_run ∈ TB := TB_t 249 (by decide +kernel) rfl
theorem k250 : Cond.code yS_run prog_1_method_11_code 4 (some FieldType.int) ∈ TB := TB_t 250 (by decide +kernel) rfl
theorem k251 : Cond.methodLink "SignReaderLaw" 72 yS_write ∈ TB := TB_t 251 (by decide +kernel) rfl
theorem k252 : Cond.instanceMethod yS_write ∈ TB := TB_t 252 (by decide +kernel) rfl
theorem k253 : Cond.selects "SignReader" yS_write yS_write ∈ TB := TB_t 253 (by decide +kernel) rfl
theorem k254 : Cond.code yS_write prog_1_method_12_code 3 (some FieldType.int) ∈ TB := TB_t 254 (by decide +kernel) rfl
theorem k255 : Cond.methodLink "SignReader" 63 yS_sizeWritten ∈ TB := TB_t 255 (by decide +kernel) rfl
theorem k257 : Cond.instanceMethod yS_sizeWritten ∈ TB := TB_t 257 (by decide +kernel) rfl
theorem k258 : Cond.code yS_sizeWritten prog_1_method_25_code 4 (some FieldType.int) ∈ TB := TB_t 258 (by decide +kernel) rfl
theorem k259 : Cond.methodLink "SignReader" 67 yS_putCharacter ∈ TB := TB_t 259 (by decide +kernel) rfl
theorem k261 : Cond.instanceMethod yS_putCharacter ∈ TB := TB_t 261 (by decide +kernel) rfl
theorem k262 : Cond.code yS_putCharacter prog_1_method_31_code 3 (none) ∈ TB := TB_t 262 (by decide +kernel) rfl
theorem k263 : Cond.methodLink "SignReader" 116 yS_put16Bits ∈ TB := TB_t 263 (by decide +kernel) rfl
theorem k265 : Cond.instanceMethod yS_put16Bits ∈ TB := TB_t 265 (by decide +kernel) rfl
theorem k266 : Cond.code yS_put16Bits prog_1_method_33_code 4 (none) ∈ TB := TB_t 266 (by decide +kernel) rfl
theorem k267 : Cond.methodLink "SignReader" 125 yS_putPair ∈ TB := TB_t 267 (by decide +kernel) rfl
theorem k269 : Cond.instanceMethod yS_putPair ∈ TB := TB_t 269 (by decide +kernel) rfl
theorem k270 : Cond.code yS_putPair prog_1_method_34_code 3 (none) ∈ TB := TB_t 270 (by decide +kernel) rfl
theorem k271 : Cond.methodLink "SignReader" 122 yS_putByte ∈ TB := TB_t 271 (by decide +kernel) rfl
theorem k273 : Cond.instanceMethod yS_putByte ∈ TB := TB_t 273 (by decide +kernel) rfl
theorem k274 : Cond.code yS_putByte prog_1_method_36_code 2 (none) ∈ TB := TB_t 274 (by decide +kernel) rfl
theorem k275 : Cond.methodLink "SignReader" 119 yS_put8Bits ∈ TB := TB_t 275 (by decide +kernel) rfl
theorem k277 : Cond.instanceMethod yS_put8Bits ∈ TB := TB_t 277 (by decide +kernel) rfl
theorem k278 : Cond.code yS_put8Bits prog_1_method_32_code 5 (none) ∈ TB := TB_t 278 (by decide +kernel) rfl
theorem k279 : Cond.methodLink "SignReaderLaw" 76 yS_add ∈ TB := TB_t 279 (by decide +kernel) rfl
theorem k280 : Cond.instanceMethod yS_add ∈ TB := TB_t 280 (by decide +kernel) rfl
theorem k281 : Cond.selects "SignReader" yS_add yS_add ∈ TB := TB_t 281 (by decide +kernel) rfl
theorem k282 : Cond.code yS_add prog_1_method_13_code 2 (some FieldType.int) ∈ TB := TB_t 282 (by decide +kernel) rfl
theorem k283 : Cond.methodLink "SignReaderLaw" 25 yL_feed ∈ TB := TB_t 283 (by decide +kernel) rfl
theorem k284 : Cond.static yL_feed ∈ TB := TB_t 284 (by decide +kernel) rfl
theorem k285 : Cond.codeWith yL_feed method_3_code 7 (some FieldType.int) [(0, 11, 14, 13)] ∈ TB := TB_t 285 (by decide +kernel) rfl
theorem k286 : Cond.classLink "SignReaderLaw" 13 "java/lang/IllegalStateException" ∈ TB := TB_t 286 (by decide +kernel) rfl
theorem k287 : Cond.methodLink "SignReaderLaw" 7 yS_feed ∈ TB := TB_t 287 (by decide +kernel) rfl
theorem k288 : Cond.instanceMethod yS_feed ∈ TB := TB_t 288 (by decide +kernel) rfl
theorem k289 : Cond.selects "SignReader" yS_feed yS_feed ∈ TB := TB_t 289 (by decide +kernel) rfl
theorem k290 : Cond.code yS_feed prog_1_method_2_code 6 (none) ∈ TB := TB_t 290 (by decide +kernel) rfl
theorem k291 : Cond.classLink "SignReader" 26 "java/lang/IllegalStateException" ∈ TB := TB_t 291 (by decide +kernel) rfl
theorem k292 : Cond.instantiable "java/lang/IllegalStateException" 6 ∈ TB := TB_t 292 (by decide +kernel) rfl
theorem k300 : Cond.selects "java/lang/IllegalStateException" yThr_fillInStackTraceI yThr_fillInStackTraceI ∈ TB := TB_t 300 (by decide +kernel) rfl
theorem k301 : Cond.selects "java/lang/IllegalStateException" yThr_fillInStackTrace yThr_fillInStackTrace ∈ TB := TB_t 301 (by decide +kernel) rfl
theorem k302 : Cond.lays "java/lang/IllegalStateException" "java/lang/Throwable" "cause" "Ljava/lang/Throwable;" ∈ TB := TB_t 302 (by decide +kernel) rfl
theorem k303 : Cond.lays "java/lang/Throwable" "java/lang/Throwable" "cause" "Ljava/lang/Throwable;" ∈ TB := TB_t 303 (by decide +kernel) rfl
theorem k304 : Cond.lays "java/lang/IllegalStateException" "java/lang/Throwable" "stackTrace" "[Ljava/lang/StackTraceElement;" ∈ TB := TB_t 304 (by decide +kernel) rfl
theorem k305 : Cond.lays "java/lang/Throwable" "java/lang/Throwable" "stackTrace" "[Ljava/lang/StackTraceElement;" ∈ TB := TB_t 305 (by decide +kernel) rfl
theorem k306 : Cond.lays "java/lang/IllegalStateException" "java/lang/Throwable" "suppressedExceptions" "Ljava/util/List;" ∈ TB := TB_t 306 (by decide +kernel) rfl
theorem k307 : Cond.lays "java/lang/Throwable" "java/lang/Throwable" "suppressedExceptions" "Ljava/util/List;" ∈ TB := TB_t 307 (by decide +kernel) rfl
theorem k308 : Cond.lays "java/lang/IllegalStateException" "java/lang/Throwable" "detailMessage" "Ljava/lang/String;" ∈ TB := TB_t 308 (by decide +kernel) rfl
theorem k309 : Cond.lays "java/lang/Throwable" "java/lang/Throwable" "detailMessage" "Ljava/lang/String;" ∈ TB := TB_t 309 (by decide +kernel) rfl
theorem k310 : Cond.lays "java/lang/IllegalStateException" "java/lang/Throwable" "backtrace" "Ljava/lang/Object;" ∈ TB := TB_t 310 (by decide +kernel) rfl
theorem k311 : Cond.lays "java/lang/Throwable" "java/lang/Throwable" "backtrace" "Ljava/lang/Object;" ∈ TB := TB_t 311 (by decide +kernel) rfl
theorem k312 : Cond.fieldLink "java/lang/Throwable" 198 "java/lang/Throwable" "backtrace" "Ljava/lang/Object;" ∈ TB := TB_t 312 (by decide +kernel) rfl
theorem k313 : Cond.superclass "java/lang/Throwable" "java/lang/Object" ∈ TB := TB_t 313 (by decide +kernel) rfl
theorem k314 : Cond.instanceMethod yThr_init0 ∈ TB := TB_t 314 (by decide +kernel) rfl
theorem k315 : Cond.code yThr_init0 prog_13_method_1_code 1 (none) ∈ TB := TB_t 315 (by decide +kernel) rfl
theorem k316 : Cond.methodLink "java/lang/Throwable" 1 yObj_init ∈ TB := TB_t 316 (by decide +kernel) rfl
theorem k317 : Cond.fieldLink "java/lang/Throwable" 13 "java/lang/Throwable" "UNASSIGNED_STACK" "[Ljava/lang/StackTraceElement;" ∈ TB := TB_t 317 (by decide +kernel) rfl
theorem k319 : Cond.fieldLink "java/lang/Throwable" 20 "java/lang/Throwable" "SUPPRESSED_SENTINEL" "Ljava/util/List;" ∈ TB := TB_t 319 (by decide +kernel) rfl
theorem k321 : Cond.methodLink "java/lang/Throwable" 27 yThr_fillInStackTrace ∈ TB := TB_t 321 (by decide +kernel) rfl
theorem k322 : Cond.instanceMethod yThr_fillInStackTrace ∈ TB := TB_t 322 (by decide +kernel) rfl
theorem k323 : Cond.sameMethod "java/lang/Throwable" "java/lang/Throwable" "fillInStackTrace" "()Ljava/lang/Throwable;" ∈ TB := TB_t 323 (by decide +kernel) rfl
theorem k324 : Cond.selects "java/lang/IllegalArgumentException" yThr_fillInStackTrace yThr_fillInStackTrace ∈ TB := TB_t 324 (by decide +kernel) rfl
theorem k325 : Cond.codeSync yThr_fillInStackTrace prog_13_method_18_code 1 (some (FieldType.object "java/lang/Throwable")) ∈ TB := TB_t 325 (by decide +kernel) rfl
theorem k326 : Cond.methodLink "java/lang/Throwable" 202 yThr_fillInStackTraceI ∈ TB := TB_t 326 (by decide +kernel) rfl
theorem k328 : Cond.instanceMethod yThr_fillInStackTraceI ∈ TB := TB_t 328 (by decide +kernel) rfl
theorem k329 : Cond.instantiable "java/lang/Throwable" 6 ∈ TB := TB_t 329 (by decide +kernel) rfl
theorem k330 : Cond.native yThr_fillInStackTraceI ∈ TB := TB_t 330 (by decide +kernel) rfl
theorem k332 : Cond.methodLink "SignReader" 30 yIse_init ∈ TB := TB_t 332 (by decide +kernel) rfl
theorem k333 : Cond.instanceMethod yIse_init ∈ TB := TB_t 333 (by decide +kernel) rfl
theorem k334 : Cond.code yIse_init prog_7_method_2_code 2 (none) ∈ TB := TB_t 334 (by decide +kernel) rfl
theorem k335 : Cond.methodLink "java/lang/IllegalStateException" 7 yRte_init ∈ TB := TB_t 335 (by decide +kernel) rfl
theorem k336 : Cond.instanceMethod yRte_init ∈ TB := TB_t 336 (by decide +kernel) rfl
theorem k337 : Cond.code yRte_init prog_9_method_2_code 2 (none) ∈ TB := TB_t 337 (by decide +kernel) rfl
theorem k338 : Cond.methodLink "java/lang/RuntimeException" 7 yExc_init ∈ TB := TB_t 338 (by decide +kernel) rfl
theorem k339 : Cond.instanceMethod yExc_init ∈ TB := TB_t 339 (by decide +kernel) rfl
theorem k340 : Cond.code yExc_init prog_5_method_2_code 2 (none) ∈ TB := TB_t 340 (by decide +kernel) rfl
theorem k341 : Cond.methodLink "java/lang/Exception" 7 yThr_initS ∈ TB := TB_t 341 (by decide +kernel) rfl
theorem k342 : Cond.instanceMethod yThr_initS ∈ TB := TB_t 342 (by decide +kernel) rfl
theorem k343 : Cond.code yThr_initS prog_13_method_2_code 2 (none) ∈ TB := TB_t 343 (by decide +kernel) rfl
theorem k344 : Cond.fieldLink "java/lang/Throwable" 198 "java/lang/Throwable" "backtrace" "Ljava/lang/Object;" ∈ TB := TB_t 344 (by decide +kernel) rfl
theorem k345 : Cond.fieldLink "java/lang/Throwable" 31 "java/lang/Throwable" "detailMessage" "Ljava/lang/String;" ∈ TB := TB_t 345 (by decide +kernel) rfl
theorem k346 : Cond.fieldLink "java/lang/Throwable" 7 "java/lang/Throwable" "cause" "Ljava/lang/Throwable;" ∈ TB := TB_t 346 (by decide +kernel) rfl
theorem k347 : Cond.fieldLink "java/lang/Throwable" 17 "java/lang/Throwable" "stackTrace" "[Ljava/lang/StackTraceElement;" ∈ TB := TB_t 347 (by decide +kernel) rfl
theorem k348 : Cond.fieldLink "java/lang/Throwable" 24 "java/lang/Throwable" "suppressedExceptions" "Ljava/util/List;" ∈ TB := TB_t 348 (by decide +kernel) rfl
theorem k349 : Cond.soleField "java/lang/Throwable" "backtrace" ∈ TB := TB_t 349 (by decide +kernel) rfl
theorem k350 : Cond.soleField "java/lang/Throwable" "detailMessage" ∈ TB := TB_t 350 (by decide +kernel) rfl
theorem k351 : Cond.soleField "java/lang/Throwable" "cause" ∈ TB := TB_t 351 (by decide +kernel) rfl
theorem k352 : Cond.soleField "java/lang/Throwable" "stackTrace" ∈ TB := TB_t 352 (by decide +kernel) rfl
theorem k353 : Cond.lays "java/lang/IllegalStateException" "java/lang/Throwable" "depth" "I" ∈ TB := TB_t 353 (by decide +kernel) rfl
theorem k354 : Cond.soleField "java/lang/Throwable" "depth" ∈ TB := TB_t 354 (by decide +kernel) rfl
theorem k355 : Cond.soleField "java/lang/Throwable" "suppressedExceptions" ∈ TB := TB_t 355 (by decide +kernel) rfl
theorem k356 : Cond.superclass "java/lang/IllegalStateException" "java/lang/RuntimeException" ∈ TB := TB_t 356 (by decide +kernel) rfl
theorem k357 : Cond.methodLink "SignReader" 33 yS_putFour ∈ TB := TB_t 357 (by decide +kernel) rfl
theorem k359 : Cond.instanceMethod yS_putFour ∈ TB := TB_t 359 (by decide +kernel) rfl
theorem k360 : Cond.code yS_putFour prog_1_method_35_code 2 (none) ∈ TB := TB_t 360 (by decide +kernel) rfl
theorem k361 : Cond.methodLink "SignReaderLaw" 35 yL_end ∈ TB := TB_t 361 (by decide +kernel) rfl
theorem k362 : Cond.static yL_end ∈ TB := TB_t 362 (by decide +kernel) rfl
theorem k363 : Cond.codeWith yL_end method_4_code 4 (some FieldType.int) [(0, 9, 12, 19)] ∈ TB := TB_t 363 (by decide +kernel) rfl
theorem k364 : Cond.classLink "SignReaderLaw" 19 "java/lang/IllegalArgumentException" ∈ TB := TB_t 364 (by decide +kernel) rfl
theorem k365 : Cond.methodLink "SignReaderLaw" 15 yS_end ∈ TB := TB_t 365 (by decide +kernel) rfl
theorem k366 : Cond.instanceMethod yS_end ∈ TB := TB_t 366 (by decide +kernel) rfl
theorem k367 : Cond.selects "SignReader" yS_end yS_end ∈ TB := TB_t 367 (by decide +kernel) rfl
theorem k368 : Cond.code yS_end prog_1_method_3_code 3 (some FieldType.int) ∈ TB := TB_t 368 (by decide +kernel) rfl
theorem k369 : Cond.classLink "SignReader" 37 "java/lang/IllegalArgumentException" ∈ TB := TB_t 369 (by decide +kernel) rfl
theorem k370 : Cond.instantiable "java/lang/IllegalArgumentException" 6 ∈ TB := TB_t 370 (by decide +kernel) rfl
theorem k372 : Cond.selects "java/lang/IllegalArgumentException" yThr_fillInStackTraceI yThr_fillInStackTraceI ∈ TB := TB_t 372 (by decide +kernel) rfl
theorem k373 : Cond.lays "java/lang/IllegalArgumentException" "java/lang/Throwable" "cause" "Ljava/lang/Throwable;" ∈ TB := TB_t 373 (by decide +kernel) rfl
theorem k374 : Cond.lays "java/lang/IllegalArgumentException" "java/lang/Throwable" "stackTrace" "[Ljava/lang/StackTraceElement;" ∈ TB := TB_t 374 (by decide +kernel) rfl
theorem k375 : Cond.lays "java/lang/IllegalArgumentException" "java/lang/Throwable" "suppressedExceptions" "Ljava/util/List;" ∈ TB := TB_t 375 (by decide +kernel) rfl
theorem k376 : Cond.lays "java/lang/IllegalArgumentException" "java/lang/Throwable" "detailMessage" "Ljava/lang/String;" ∈ TB := TB_t 376 (by decide +kernel) rfl
theorem k377 : Cond.lays "java/lang/IllegalArgumentException" "java/lang/Throwable" "backtrace" "Ljava/lang/Object;" ∈ TB := TB_t 377 (by decide +kernel) rfl
theorem k379 : Cond.methodLink "SignReader" 41 yIae_init ∈ TB := TB_t 379 (by decide +kernel) rfl
theorem k380 : Cond.instanceMethod yIae_init ∈ TB := TB_t 380 (by decide +kernel) rfl
theorem k381 : Cond.code yIae_init prog_6_method_2_code 2 (none) ∈ TB := TB_t 381 (by decide +kernel) rfl
theorem k382 : Cond.methodLink "java/lang/IllegalArgumentException" 7 yRte_init ∈ TB := TB_t 382 (by decide +kernel) rfl
theorem k383 : Cond.lays "java/lang/IllegalArgumentException" "java/lang/Throwable" "depth" "I" ∈ TB := TB_t 383 (by decide +kernel) rfl
theorem k384 : Cond.superclass "java/lang/IllegalArgumentException" "java/lang/RuntimeException" ∈ TB := TB_t 384 (by decide +kernel) rfl
theorem k385 : Cond.classLink "SignReaderLaw" 22 "SignReaderModel" ∈ TB := TB_t 385 (by decide +kernel) rfl
theorem k386 : Cond.instantiable "SignReaderModel" 9 ∈ TB := TB_t 386 (by decide +kernel) rfl
theorem k387 : Cond.methodLink "SignReaderLaw" 24 yM_init ∈ TB := TB_t 387 (by decide +kernel) rfl
theorem k388 : Cond.instanceMethod yM_init ∈ TB := TB_t 388 (by decide +kernel) rfl
theorem k389 : Cond.code yM_init prog_3_method_1_code 1 (none) ∈ TB := TB_t 389 (by decide +kernel) rfl
theorem k390 : Cond.methodLink "SignReaderModel" 1 yObj_init ∈ TB := TB_t 390 (by decide +kernel) rfl
theorem k391 : Cond.fieldLink "SignReaderModel" 19 "SignReaderModel" "code" "I" ∈ TB := TB_t 391 (by decide +kernel) rfl
theorem k392 : Cond.fieldLink "SignReaderModel" 7 "SignReaderModel" "bytes" "[I" ∈ TB := TB_t 392 (by decide +kernel) rfl
theorem k393 : Cond.fieldLink "SignReaderModel" 32 "SignReaderModel" "size" "I" ∈ TB := TB_t 393 (by decide +kernel) rfl
theorem k394 : Cond.fieldLink "SignReaderModel" 13 "SignReaderModel" "text" "[I" ∈ TB := TB_t 394 (by decide +kernel) rfl
theorem k395 : Cond.fieldLink "SignReaderModel" 68 "SignReaderModel" "length" "I" ∈ TB := TB_t 395 (by decide +kernel) rfl
theorem k396 : Cond.fieldLink "SignReaderModel" 71 "SignReaderModel" "way" "I" ∈ TB := TB_t 396 (by decide +kernel) rfl
theorem k397 : Cond.fieldLink "SignReaderModel" 16 "SignReaderModel" "aside" "[I" ∈ TB := TB_t 397 (by decide +kernel) rfl
theorem k398 : Cond.fieldLink "SignReaderModel" 93 "SignReaderModel" "count" "I" ∈ TB := TB_t 398 (by decide +kernel) rfl
theorem k399 : Cond.fieldLink "SignReaderModel" 39 "SignReaderModel" "found" "I" ∈ TB := TB_t 399 (by decide +kernel) rfl
theorem k400 : Cond.lays "SignReaderModel" "SignReaderModel" "code" "I" ∈ TB := TB_t 400 (by decide +kernel) rfl
theorem k401 : Cond.soleField "SignReaderModel" "code" ∈ TB := TB_t 401 (by decide +kernel) rfl
theorem k402 : Cond.laysFinal "SignReaderModel" "SignReaderModel" "bytes" "[I" ∈ TB := TB_t 402 (by decide +kernel) rfl
theorem k403 : Cond.soleField "SignReaderModel" "bytes" ∈ TB := TB_t 403 (by decide +kernel) rfl
theorem k404 : Cond.lays "SignReaderModel" "SignReaderModel" "size" "I" ∈ TB := TB_t 404 (by decide +kernel) rfl
theorem k405 : Cond.soleField "SignReaderModel" "size" ∈ TB := TB_t 405 (by decide +kernel) rfl
theorem k406 : Cond.laysFinal "SignReaderModel" "SignReaderModel" "text" "[I" ∈ TB := TB_t 406 (by decide +kernel) rfl
theorem k407 : Cond.soleField "SignReaderModel" "text" ∈ TB := TB_t 407 (by decide +kernel) rfl
theorem k408 : Cond.lays "SignReaderModel" "SignReaderModel" "length" "I" ∈ TB := TB_t 408 (by decide +kernel) rfl
theorem k409 : Cond.soleField "SignReaderModel" "length" ∈ TB := TB_t 409 (by decide +kernel) rfl
theorem k410 : Cond.lays "SignReaderModel" "SignReaderModel" "way" "I" ∈ TB := TB_t 410 (by decide +kernel) rfl
theorem k411 : Cond.soleField "SignReaderModel" "way" ∈ TB := TB_t 411 (by decide +kernel) rfl
theorem k412 : Cond.laysFinal "SignReaderModel" "SignReaderModel" "aside" "[I" ∈ TB := TB_t 412 (by decide +kernel) rfl
theorem k413 : Cond.soleField "SignReaderModel" "aside" ∈ TB := TB_t 413 (by decide +kernel) rfl
theorem k414 : Cond.lays "SignReaderModel" "SignReaderModel" "count" "I" ∈ TB := TB_t 414 (by decide +kernel) rfl
theorem k415 : Cond.soleField "SignReaderModel" "count" ∈ TB := TB_t 415 (by decide +kernel) rfl
theorem k416 : Cond.lays "SignReaderModel" "SignReaderModel" "found" "I" ∈ TB := TB_t 416 (by decide +kernel) rfl
theorem k417 : Cond.soleField "SignReaderModel" "found" ∈ TB := TB_t 417 (by decide +kernel) rfl
theorem k418 : Cond.superclass "SignReaderModel" "java/lang/Object" ∈ TB := TB_t 418 (by decide +kernel) rfl
theorem k419 : Cond.methodLink "SignReaderLaw" 31 yM_thrown ∈ TB := TB_t 419 (by decide +kernel) rfl
theorem k420 : Cond.instanceMethod yM_thrown ∈ TB := TB_t 420 (by decide +kernel) rfl
theorem k421 : Cond.selects "SignReaderModel" yM_thrown yM_thrown ∈ TB := TB_t 421 (by decide +kernel) rfl
theorem k422 : Cond.code yM_thrown prog_3_method_2_code 1 (some FieldType.int) ∈ TB := TB_t 422 (by decide +kernel) rfl
theorem k423 : Cond.methodLink "SignReaderLaw" 30 yM_feed ∈ TB := TB_t 423 (by decide +kernel) rfl
theorem k424 : Cond.instanceMethod yM_feed ∈ TB := TB_t 424 (by decide +kernel) rfl
theorem k425 : Cond.selects "SignReaderModel" yM_feed yM_feed ∈ TB := TB_t 425 (by decide +kernel) rfl
theorem k426 : Cond.code yM_feed prog_3_method_5_code 8 (none) ∈ TB := TB_t 426 (by decide +kernel) rfl
theorem k427 : Cond.methodLink "SignReaderLaw" 38 yM_end ∈ TB := TB_t 427 (by decide +kernel) rfl
theorem k428 : Cond.instanceMethod yM_end ∈ TB := TB_t 428 (by decide +kernel) rfl
theorem k429 : Cond.selects "SignReaderModel" yM_end yM_end ∈ TB := TB_t 429 (by decide +kernel) rfl
theorem k430 : Cond.code yM_end prog_3_method_6_code 3 (some FieldType.int) ∈ TB := TB_t 430 (by decide +kernel) rfl
theorem k431 : Cond.methodLink "SignReaderLaw" 47 yM_came ∈ TB := TB_t 431 (by decide +kernel) rfl
theorem k432 : Cond.instanceMethod yM_came ∈ TB := TB_t 432 (by decide +kernel) rfl
theorem k433 : Cond.selects "SignReaderModel" yM_came yM_came ∈ TB := TB_t 433 (by decide +kernel) rfl
theorem k434 : Cond.code yM_came prog_3_method_7_code 2 (some FieldType.int) ∈ TB := TB_t 434 (by decide +kernel) rfl
theorem k435 : Cond.methodLink "SignReaderLaw" 43 yM_change ∈ TB := TB_t 435 (by decide +kernel) rfl
theorem k436 : Cond.instanceMethod yM_change ∈ TB := TB_t 436 (by decide +kernel) rfl
theorem k437 : Cond.selects "SignReaderModel" yM_change yM_change ∈ TB := TB_t 437 (by decide +kernel) rfl
theorem k438 : Cond.code yM_change prog_3_method_8_code 4 (some FieldType.int) ∈ TB := TB_t 438 (by decide +kernel) rfl
theorem k439 : Cond.methodLink "SignReaderLaw" 51 yM_read ∈ TB := TB_t 439 (by decide +kernel) rfl
theorem k440 : Cond.instanceMethod yM_read ∈ TB := TB_t 440 (by decide +kernel) rfl
theorem k441 : Cond.selects "SignReaderModel" yM_read yM_read ∈ TB := TB_t 441 (by decide +kernel) rfl
theorem k442 : Cond.code yM_read prog_3_method_15_code 6 (some FieldType.int) ∈ TB := TB_t 442 (by decide +kernel) rfl
theorem k443 : Cond.methodLink "SignReaderModel" 54 yM_wayOfBytes ∈ TB := TB_t 443 (by decide +kernel) rfl
theorem k445 : Cond.instanceMethod yM_wayOfBytes ∈ TB := TB_t 445 (by decide +kernel) rfl
theorem k446 : Cond.code yM_wayOfBytes prog_3_method_10_code 1 (some FieldType.int) ∈ TB := TB_t 446 (by decide +kernel) rfl
theorem k447 : Cond.methodLink "SignReaderModel" 35 yM_begins ∈ TB := TB_t 447 (by decide +kernel) rfl
theorem k449 : Cond.instanceMethod yM_begins ∈ TB := TB_t 449 (by decide +kernel) rfl
theorem k450 : Cond.code yM_begins prog_3_method_9_code 3 (some FieldType.boolean) ∈ TB := TB_t 450 (by decide +kernel) rfl
theorem k451 : Cond.methodLink "SignReaderModel" 58 yM_takeSixteen ∈ TB := TB_t 451 (by decide +kernel) rfl
theorem k453 : Cond.instanceMethod yM_takeSixteen ∈ TB := TB_t 453 (by decide +kernel) rfl
theorem k454 : Cond.code yM_takeSixteen prog_3_method_14_code 4 (some FieldType.int) ∈ TB := TB_t 454 (by decide +kernel) rfl
theorem k455 : Cond.methodLink "SignReaderModel" 46 yM_unit ∈ TB := TB_t 455 (by decide +kernel) rfl
theorem k457 : Cond.instanceMethod yM_unit ∈ TB := TB_t 457 (by decide +kernel) rfl
theorem k458 : Cond.code yM_unit prog_3_method_11_code 3 (some FieldType.int) ∈ TB := TB_t 458 (by decide +kernel) rfl
theorem k459 : Cond.constant "SignReaderModel" 50 (55296) ∈ TB := TB_t 459 (by decide +kernel) rfl
theorem k460 : Cond.constant "SignReaderModel" 51 (56319) ∈ TB := TB_t 460 (by decide +kernel) rfl
theorem k461 : Cond.methodLink "SignReaderModel" 24 yM_isIn ∈ TB := TB_t 461 (by decide +kernel) rfl
theorem k462 : Cond.static yM_isIn ∈ TB := TB_t 462 (by decide +kernel) rfl
theorem k463 : Cond.code yM_isIn prog_3_method_3_code 3 (some FieldType.boolean) ∈ TB := TB_t 463 (by decide +kernel) rfl
theorem k464 : Cond.constant "SignReaderModel" 52 (56320) ∈ TB := TB_t 464 (by decide +kernel) rfl
theorem k465 : Cond.constant "SignReaderModel" 53 (57343) ∈ TB := TB_t 465 (by decide +kernel) rfl
theorem k466 : Cond.constant "SignReaderModel" 30 (65536) ∈ TB := TB_t 466 (by decide +kernel) rfl
theorem k467 : Cond.methodLink "SignReaderModel" 61 yM_takeEight ∈ TB := TB_t 467 (by decide +kernel) rfl
theorem k469 : Cond.instanceMethod yM_takeEight ∈ TB := TB_t 469 (by decide +kernel) rfl
theorem k470 : Cond.code yM_takeEight prog_3_method_13_code 6 (some FieldType.int) ∈ TB := TB_t 470 (by decide +kernel) rfl
theorem k471 : Cond.methodLink "SignReaderModel" 42 yM_bytesOf ∈ TB := TB_t 471 (by decide +kernel) rfl
theorem k472 : Cond.static yM_bytesOf ∈ TB := TB_t 472 (by decide +kernel) rfl
theorem k473 : Cond.code yM_bytesOf prog_3_method_12_code 1 (some FieldType.int) ∈ TB := TB_t 473 (by decide +kernel) rfl
theorem k474 : Cond.methodLink "SignReaderModel" 64 yM_isCharacter ∈ TB := TB_t 474 (by decide +kernel) rfl
theorem k475 : Cond.static yM_isCharacter ∈ TB := TB_t 475 (by decide +kernel) rfl
theorem k476 : Cond.code yM_isCharacter prog_3_method_4_code 1 (some FieldType.boolean) ∈ TB := TB_t 476 (by decide +kernel) rfl
theorem k477 : Cond.constant "SignReaderModel" 23 (55295) ∈ TB := TB_t 477 (by decide +kernel) rfl
theorem k478 : Cond.constant "SignReaderModel" 28 (57344) ∈ TB := TB_t 478 (by decide +kernel) rfl
theorem k479 : Cond.constant "SignReaderModel" 29 (65533) ∈ TB := TB_t 479 (by decide +kernel) rfl
theorem k480 : Cond.constant "SignReaderModel" 31 (1114111) ∈ TB := TB_t 480 (by decide +kernel) rfl
theorem k481 : Cond.methodLink "SignReaderLaw" 55 yM_length ∈ TB := TB_t 481 (by decide +kernel) rfl
theorem k482 : Cond.instanceMethod yM_length ∈ TB := TB_t 482 (by decide +kernel) rfl
theorem k483 : Cond.selects "SignReaderModel" yM_length yM_length ∈ TB := TB_t 483 (by decide +kernel) rfl
theorem k484 : Cond.code yM_length prog_3_method_16_code 1 (some FieldType.int) ∈ TB := TB_t 484 (by decide +kernel) rfl
theorem k485 : Cond.methodLink "SignReaderLaw" 59 yM_sign ∈ TB := TB_t 485 (by decide +kernel) rfl
theorem k486 : Cond.instanceMethod yM_sign ∈ TB := TB_t 486 (by decide +kernel) rfl
theorem k487 : Cond.selects "SignReaderModel" yM_sign yM_sign ∈ TB := TB_t 487 (by decide +kernel) rfl
theorem k488 : Cond.code yM_sign prog_3_method_17_code 2 (some FieldType.int) ∈ TB := TB_t 488 (by decide +kernel) rfl
theorem k489 : Cond.methodLink "SignReaderLaw" 63 yM_way ∈ TB := TB_t 489 (by decide +kernel) rfl
theorem k490 : Cond.instanceMethod yM_way ∈ TB := TB_t 490 (by decide +kernel) rfl
theorem k491 : Cond.selects "SignReaderModel" yM_way yM_way ∈ TB := TB_t 491 (by decide +kernel) rfl
theorem k492 : Cond.code yM_way prog_3_method_18_code 1 (some FieldType.int) ∈ TB := TB_t 492 (by decide +kernel) rfl
theorem k493 : Cond.methodLink "SignReaderLaw" 67 yM_kinds ∈ TB := TB_t 493 (by decide +kernel) rfl
theorem k494 : Cond.instanceMethod yM_kinds ∈ TB := TB_t 494 (by decide +kernel) rfl
theorem k495 : Cond.selects "SignReaderModel" yM_kinds yM_kinds ∈ TB := TB_t 495 (by decide +kernel) rfl
theorem k496 : Cond.code yM_kinds prog_3_method_24_code 2 (some FieldType.int) ∈ TB := TB_t 496 (by decide +kernel) rfl
theorem k497 : Cond.methodLink "SignReaderModel" 90 yM_kindsOf ∈ TB := TB_t 497 (by decide +kernel) rfl
theorem k498 : Cond.static yM_kindsOf ∈ TB := TB_t 498 (by decide +kernel) rfl
theorem k499 : Cond.code yM_kindsOf prog_3_method_23_code 2 (some FieldType.int) ∈ TB := TB_t 499 (by decide +kernel) rfl
theorem k500 : Cond.methodLink "SignReaderModel" 74 yM_isLetter ∈ TB := TB_t 500 (by decide +kernel) rfl
theorem k501 : Cond.static yM_isLetter ∈ TB := TB_t 501 (by decide +kernel) rfl
theorem k502 : Cond.code yM_isLetter prog_3_method_19_code 1 (some FieldType.boolean) ∈ TB := TB_t 502 (by decide +kernel) rfl
theorem k503 : Cond.methodLink "SignReaderModel" 81 yM_isStart ∈ TB := TB_t 503 (by decide +kernel) rfl
theorem k504 : Cond.static yM_isStart ∈ TB := TB_t 504 (by decide +kernel) rfl
theorem k505 : Cond.code yM_isStart prog_3_method_20_code 2 (some FieldType.boolean) ∈ TB := TB_t 505 (by decide +kernel) rfl
theorem k506 : Cond.constant "SignReaderModel" 77 (63744) ∈ TB := TB_t 506 (by decide +kernel) rfl
theorem k507 : Cond.constant "SignReaderModel" 78 (64975) ∈ TB := TB_t 507 (by decide +kernel) rfl
theorem k508 : Cond.constant "SignReaderModel" 79 (65008) ∈ TB := TB_t 508 (by decide +kernel) rfl
theorem k509 : Cond.constant "SignReaderModel" 80 (983039) ∈ TB := TB_t 509 (by decide +kernel) rfl
theorem k510 : Cond.methodLink "SignReaderModel" 84 yM_isNaming ∈ TB := TB_t 510 (by decide +kernel) rfl
theorem k511 : Cond.static yM_isNaming ∈ TB := TB_t 511 (by decide +kernel) rfl
theorem k512 : Cond.code yM_isNaming prog_3_method_21_code 1 (some FieldType.boolean) ∈ TB := TB_t 512 (by decide +kernel) rfl
theorem k513 : Cond.methodLink "SignReaderModel" 87 yM_isPublic ∈ TB := TB_t 513 (by decide +kernel) rfl
theorem k514 : Cond.static yM_isPublic ∈ TB := TB_t 514 (by decide +kernel) rfl
theorem k515 : Cond.code yM_isPublic prog_3_method_22_code 2 (some FieldType.boolean) ∈ TB := TB_t 515 (by decide +kernel) rfl
theorem k516 : Cond.methodLink "SignReaderLaw" 71 yM_run ∈ TB := TB_t 516 (by decide +kernel) rfl
theorem k517 : Cond.instanceMethod yM_run ∈ TB := TB_t 517 (by decide +kernel) rfl
theorem k518 : Cond.selects "SignReaderModel" yM_run yM_run ∈ TB := TB_t 518 (by decide +kernel) rfl
theorem k519 : Cond.code yM_run prog_3_method_25_code 4 (some FieldType.int) ∈ TB := TB_t 519 (by decide +kernel) rfl
theorem k520 : Cond.methodLink "SignReaderLaw" 75 yM_write ∈ TB := TB_t 520 (by decide +kernel) rfl
theorem k521 : Cond.instanceMethod yM_write ∈ TB := TB_t 521 (by decide +kernel) rfl
theorem k522 : Cond.selects "SignReaderModel" yM_write yM_write ∈ TB := TB_t 522 (by decide +kernel) rfl
theorem k523 : Cond.code yM_write prog_3_method_29_code 4 (some FieldType.int) ∈ TB := TB_t 523 (by decide +kernel) rfl
theorem k524 : Cond.constant "SignReaderModel" 101 (65279) ∈ TB := TB_t 524 (by decide +kernel) rfl
theorem k525 : Cond.methodLink "SignReaderModel" 102 yM_pair ∈ TB := TB_t 525 (by decide +kernel) rfl
theorem k527 : Cond.instanceMethod yM_pair ∈ TB := TB_t 527 (by decide +kernel) rfl
theorem k528 : Cond.code yM_pair prog_3_method_27_code 3 (none) ∈ TB := TB_t 528 (by decide +kernel) rfl
theorem k529 : Cond.methodLink "SignReaderModel" 96 yM_put ∈ TB := TB_t 529 (by decide +kernel) rfl
theorem k531 : Cond.instanceMethod yM_put ∈ TB := TB_t 531 (by decide +kernel) rfl
theorem k532 : Cond.code yM_put prog_3_method_26_code 2 (none) ∈ TB := TB_t 532 (by decide +kernel) rfl
theorem k533 : Cond.methodLink "SignReaderModel" 106 yM_writeEight ∈ TB := TB_t 533 (by decide +kernel) rfl
theorem k535 : Cond.instanceMethod yM_writeEight ∈ TB := TB_t 535 (by decide +kernel) rfl
theorem k536 : Cond.code yM_writeEight prog_3_method_28_code 4 (none) ∈ TB := TB_t 536 (by decide +kernel) rfl
theorem k537 : Cond.constant "SignReaderModel" 100 (262144) ∈ TB := TB_t 537 (by decide +kernel) rfl
theorem k538 : Cond.methodLink "SignReaderLaw" 79 yM_add ∈ TB := TB_t 538 (by decide +kernel) rfl
theorem k539 : Cond.instanceMethod yM_add ∈ TB := TB_t 539 (by decide +kernel) rfl
theorem k540 : Cond.selects "SignReaderModel" yM_add yM_add ∈ TB := TB_t 540 (by decide +kernel) rfl
theorem k541 : Cond.code yM_add prog_3_method_30_code 2 (some FieldType.int) ∈ TB := TB_t 541 (by decide +kernel) rfl
theorem k542 : Cond.arrayClass FieldType.long ∈ TB := TB_t 542 (by decide +kernel) rfl
theorem k543 : Cond.sameMethod "java/lang/Throwable" "java/lang/Throwable" "fillInStackTrace" "(I)Ljava/lang/Throwable;" ∈ TB := TB_t 543 (by decide +kernel) rfl
theorem k544 : Cond.fieldLink "java/lang/String" 15 "java/lang/String" "coder" "B" ∈ TB := TB_t 544 (by decide +kernel) rfl
theorem k545 : Cond.fieldLink "java/lang/String" 9 "java/lang/String" "value" "[B" ∈ TB := TB_t 545 (by decide +kernel) rfl
theorem ks0 : Cond.selects "SignReader" yS_hasByte yS_hasByte ∈ TB := TB_p (q := (yS_hasByte, 5)) 0 (by decide +kernel)
theorem ks1 : Cond.selects "SignReader" yS_wayOfBytes yS_wayOfBytes ∈ TB := TB_p (q := (yS_wayOfBytes, 5)) 1 (by decide +kernel)
theorem ks2 : Cond.selects "SignReader" yS_numberAt yS_numberAt ∈ TB := TB_p (q := (yS_numberAt, 5)) 2 (by decide +kernel)
theorem ks3 : Cond.selects "SignReader" yS_numberOf16Bits yS_numberOf16Bits ∈ TB := TB_p (q := (yS_numberOf16Bits, 5)) 3 (by decide +kernel)
theorem ks4 : Cond.selects "SignReader" yS_pairAt yS_pairAt ∈ TB := TB_p (q := (yS_pairAt, 5)) 4 (by decide +kernel)
theorem ks5 : Cond.selects "SignReader" yS_numberOf8Bits yS_numberOf8Bits ∈ TB := TB_p (q := (yS_numberOf8Bits, 5)) 5 (by decide +kernel)
theorem ks6 : Cond.selects "SignReader" yS_placeRefused yS_placeRefused ∈ TB := TB_p (q := (yS_placeRefused, 5)) 6 (by decide +kernel)
theorem ks7 : Cond.selects "SignReader" yS_takeText yS_takeText ∈ TB := TB_p (q := (yS_takeText, 5)) 7 (by decide +kernel)
theorem ks8 : Cond.selects "SignReader" yS_putSign yS_putSign ∈ TB := TB_p (q := (yS_putSign, 5)) 8 (by decide +kernel)
theorem ks9 : Cond.selects "SignReader" yS_hasSign yS_hasSign ∈ TB := TB_p (q := (yS_hasSign, 5)) 9 (by decide +kernel)
theorem ks10 : Cond.selects "SignReader" yS_sizeWritten yS_sizeWritten ∈ TB := TB_p (q := (yS_sizeWritten, 5)) 10 (by decide +kernel)
theorem ks11 : Cond.selects "SignReader" yS_putCharacter yS_putCharacter ∈ TB := TB_p (q := (yS_putCharacter, 5)) 11 (by decide +kernel)
theorem ks12 : Cond.selects "SignReader" yS_put16Bits yS_put16Bits ∈ TB := TB_p (q := (yS_put16Bits, 5)) 12 (by decide +kernel)
theorem ks13 : Cond.selects "SignReader" yS_putPair yS_putPair ∈ TB := TB_p (q := (yS_putPair, 5)) 13 (by decide +kernel)
theorem ks14 : Cond.selects "SignReader" yS_putByte yS_putByte ∈ TB := TB_p (q := (yS_putByte, 5)) 14 (by decide +kernel)
theorem ks15 : Cond.selects "SignReader" yS_put8Bits yS_put8Bits ∈ TB := TB_p (q := (yS_put8Bits, 5)) 15 (by decide +kernel)
theorem ks16 : Cond.selects "java/lang/Throwable" yThr_fillInStackTraceI yThr_fillInStackTraceI ∈ TB := TB_p (q := (yThr_fillInStackTraceI, 6)) 16 (by decide +kernel)
theorem ks17 : Cond.selects "SignReader" yS_putFour yS_putFour ∈ TB := TB_p (q := (yS_putFour, 5)) 17 (by decide +kernel)
theorem ks18 : Cond.selects "SignReaderModel" yM_wayOfBytes yM_wayOfBytes ∈ TB := TB_p (q := (yM_wayOfBytes, 9)) 18 (by decide +kernel)
theorem ks19 : Cond.selects "SignReaderModel" yM_begins yM_begins ∈ TB := TB_p (q := (yM_begins, 9)) 19 (by decide +kernel)
theorem ks20 : Cond.selects "SignReaderModel" yM_takeSixteen yM_takeSixteen ∈ TB := TB_p (q := (yM_takeSixteen, 9)) 20 (by decide +kernel)
theorem ks21 : Cond.selects "SignReaderModel" yM_unit yM_unit ∈ TB := TB_p (q := (yM_unit, 9)) 21 (by decide +kernel)
theorem ks22 : Cond.selects "SignReaderModel" yM_takeEight yM_takeEight ∈ TB := TB_p (q := (yM_takeEight, 9)) 22 (by decide +kernel)
theorem ks23 : Cond.selects "SignReaderModel" yM_pair yM_pair ∈ TB := TB_p (q := (yM_pair, 9)) 23 (by decide +kernel)
theorem ks24 : Cond.selects "SignReaderModel" yM_put yM_put ∈ TB := TB_p (q := (yM_put, 9)) 24 (by decide +kernel)
theorem ks25 : Cond.selects "SignReaderModel" yM_writeEight yM_writeEight ∈ TB := TB_p (q := (yM_writeEight, 9)) 25 (by decide +kernel)
end
section
theorem dS_init_0 : decode prog_1_method_1_code 0 = .ok (.aload_n 0, 1) := by decide +kernel
theorem dS_init_1 : decode prog_1_method_1_code 1 = .ok (.invokespecial 1, 3) := by decide +kernel
theorem dS_init_4 : decode prog_1_method_1_code 4 = .ok (.aload_n 0, 1) := by decide +kernel
theorem dS_init_5 : decode prog_1_method_1_code 5 = .ok (.sipush 4096, 3) := by decide +kernel
theorem dS_init_8 : decode prog_1_method_1_code 8 = .ok (.newarray .int, 2) := by decide +kernel
theorem dS_init_10 : decode prog_1_method_1_code 10 = .ok (.putfield 9, 3) := by decide +kernel
theorem dS_init_13 : decode prog_1_method_1_code 13 = .ok (.aload_n 0, 1) := by decide +kernel
theorem dS_init_14 : decode prog_1_method_1_code 14 = .ok (.sipush 4096, 3) := by decide +kernel
theorem dS_init_17 : decode prog_1_method_1_code 17 = .ok (.newarray .int, 2) := by decide +kernel
theorem dS_init_19 : decode prog_1_method_1_code 19 = .ok (.putfield 13, 3) := by decide +kernel
theorem dS_init_22 : decode prog_1_method_1_code 22 = .ok (.aload_n 0, 1) := by decide +kernel
theorem dS_init_23 : decode prog_1_method_1_code 23 = .ok (.iconst 0, 1) := by decide +kernel
theorem dS_init_24 : decode prog_1_method_1_code 24 = .ok (.putfield 16, 3) := by decide +kernel
theorem dS_init_27 : decode prog_1_method_1_code 27 = .ok (.aload_n 0, 1) := by decide +kernel
theorem dS_init_28 : decode prog_1_method_1_code 28 = .ok (.iconst 0, 1) := by decide +kernel
theorem dS_init_29 : decode prog_1_method_1_code 29 = .ok (.putfield 20, 3) := by decide +kernel
theorem dS_init_32 : decode prog_1_method_1_code 32 = .ok (.aload_n 0, 1) := by decide +kernel
theorem dS_init_33 : decode prog_1_method_1_code 33 = .ok (.iconst 0, 1) := by decide +kernel
theorem dS_init_34 : decode prog_1_method_1_code 34 = .ok (.putfield 23, 3) := by decide +kernel
theorem dS_init_37 : decode prog_1_method_1_code 37 = .ok (.return_, 1) := by decide +kernel
theorem dS_change_0 : decode prog_1_method_4_code 0 = .ok (.aload_n 0, 1) := by decide +kernel
theorem dS_change_1 : decode prog_1_method_4_code 1 = .ok (.iload_n 1, 1) := by decide +kernel
theorem dS_change_2 : decode prog_1_method_4_code 2 = .ok (.invokevirtual 42, 3) := by decide +kernel
theorem dS_change_5 : decode prog_1_method_4_code 5 = .ok (.ifCond .eq 14, 3) := by decide +kernel
theorem dS_change_8 : decode prog_1_method_4_code 8 = .ok (.iload_n 2, 1) := by decide +kernel
theorem dS_change_9 : decode prog_1_method_4_code 9 = .ok (.ifCond .lt 10, 3) := by decide +kernel
theorem dS_change_12 : decode prog_1_method_4_code 12 = .ok (.iload_n 2, 1) := by decide +kernel
theorem dS_change_13 : decode prog_1_method_4_code 13 = .ok (.sipush 255, 3) := by decide +kernel
theorem dS_change_16 : decode prog_1_method_4_code 16 = .ok (.if_icmp .le 5, 3) := by decide +kernel
theorem dS_change_19 : decode prog_1_method_4_code 19 = .ok (.iconst (-1), 1) := by decide +kernel
theorem dS_change_20 : decode prog_1_method_4_code 20 = .ok (.ireturn, 1) := by decide +kernel
theorem dS_change_21 : decode prog_1_method_4_code 21 = .ok (.aload_n 0, 1) := by decide +kernel
theorem dS_change_22 : decode prog_1_method_4_code 22 = .ok (.getfield 9, 3) := by decide +kernel
theorem dS_change_25 : decode prog_1_method_4_code 25 = .ok (.iload_n 1, 1) := by decide +kernel
theorem dS_change_26 : decode prog_1_method_4_code 26 = .ok (.iaload, 1) := by decide +kernel
theorem dS_change_27 : decode prog_1_method_4_code 27 = .ok (.istore_n 3, 1) := by decide +kernel
theorem dS_change_28 : decode prog_1_method_4_code 28 = .ok (.aload_n 0, 1) := by decide +kernel
theorem dS_change_29 : decode prog_1_method_4_code 29 = .ok (.getfield 9, 3) := by decide +kernel
theorem dS_change_32 : decode prog_1_method_4_code 32 = .ok (.iload_n 1, 1) := by decide +kernel
theorem dS_change_33 : decode prog_1_method_4_code 33 = .ok (.iload_n 2, 1) := by decide +kernel
theorem dS_change_34 : decode prog_1_method_4_code 34 = .ok (.iastore, 1) := by decide +kernel
theorem dS_change_35 : decode prog_1_method_4_code 35 = .ok (.iload_n 3, 1) := by decide +kernel
theorem dS_change_36 : decode prog_1_method_4_code 36 = .ok (.ireturn, 1) := by decide +kernel
theorem dS_hasByte_0 : decode prog_1_method_14_code 0 = .ok (.iload_n 1, 1) := by decide +kernel
theorem dS_hasByte_1 : decode prog_1_method_14_code 1 = .ok (.ifCond .lt 15, 3) := by decide +kernel
theorem dS_hasByte_4 : decode prog_1_method_14_code 4 = .ok (.iload_n 1, 1) := by decide +kernel
theorem dS_hasByte_5 : decode prog_1_method_14_code 5 = .ok (.aload_n 0, 1) := by decide +kernel
theorem dS_hasByte_6 : decode prog_1_method_14_code 6 = .ok (.getfield 16, 3) := by decide +kernel
theorem dS_hasByte_9 : decode prog_1_method_14_code 9 = .ok (.if_icmp .ge 7, 3) := by decide +kernel
theorem dS_hasByte_12 : decode prog_1_method_14_code 12 = .ok (.iconst 1, 1) := by decide +kernel
theorem dS_hasByte_13 : decode prog_1_method_14_code 13 = .ok (.goto 4, 3) := by decide +kernel
theorem dS_hasByte_16 : decode prog_1_method_14_code 16 = .ok (.iconst 0, 1) := by decide +kernel
theorem dS_hasByte_17 : decode prog_1_method_14_code 17 = .ok (.ireturn, 1) := by decide +kernel
theorem dS_came_0 : decode prog_1_method_5_code 0 = .ok (.aload_n 0, 1) := by decide +kernel
theorem dS_came_1 : decode prog_1_method_5_code 1 = .ok (.iload_n 1, 1) := by decide +kernel
theorem dS_came_2 : decode prog_1_method_5_code 2 = .ok (.invokevirtual 42, 3) := by decide +kernel
theorem dS_came_5 : decode prog_1_method_5_code 5 = .ok (.ifCond .eq 12, 3) := by decide +kernel
theorem dS_came_8 : decode prog_1_method_5_code 8 = .ok (.aload_n 0, 1) := by decide +kernel
theorem dS_came_9 : decode prog_1_method_5_code 9 = .ok (.getfield 9, 3) := by decide +kernel
theorem dS_came_12 : decode prog_1_method_5_code 12 = .ok (.iload_n 1, 1) := by decide +kernel
theorem dS_came_13 : decode prog_1_method_5_code 13 = .ok (.iaload, 1) := by decide +kernel
theorem dS_came_14 : decode prog_1_method_5_code 14 = .ok (.goto 4, 3) := by decide +kernel
theorem dS_came_17 : decode prog_1_method_5_code 17 = .ok (.iconst (-1), 1) := by decide +kernel
theorem dS_came_18 : decode prog_1_method_5_code 18 = .ok (.ireturn, 1) := by decide +kernel
theorem dS_read_0 : decode prog_1_method_6_code 0 = .ok (.aload_n 0, 1) := by decide +kernel
theorem dS_read_1 : decode prog_1_method_6_code 1 = .ok (.invokevirtual 46, 3) := by decide +kernel
theorem dS_read_4 : decode prog_1_method_6_code 4 = .ok (.istore_n 1, 1) := by decide +kernel
theorem dS_read_5 : decode prog_1_method_6_code 5 = .ok (.aload_n 0, 1) := by decide +kernel
theorem dS_read_6 : decode prog_1_method_6_code 6 = .ok (.iload_n 1, 1) := by decide +kernel
theorem dS_read_7 : decode prog_1_method_6_code 7 = .ok (.invokevirtual 50, 3) := by decide +kernel
theorem dS_read_10 : decode prog_1_method_6_code 10 = .ok (.istore_n 2, 1) := by decide +kernel
theorem dS_read_11 : decode prog_1_method_6_code 11 = .ok (.iload_n 2, 1) := by decide +kernel
theorem dS_read_12 : decode prog_1_method_6_code 12 = .ok (.iconst (-1), 1) := by decide +kernel
theorem dS_read_13 : decode prog_1_method_6_code 13 = .ok (.if_icmp .ne 13, 3) := by decide +kernel
theorem dS_read_16 : decode prog_1_method_6_code 16 = .ok (.aload_n 0, 1) := by decide +kernel
theorem dS_read_17 : decode prog_1_method_6_code 17 = .ok (.iload_n 1, 1) := by decide +kernel
theorem dS_read_18 : decode prog_1_method_6_code 18 = .ok (.invokevirtual 54, 3) := by decide +kernel
theorem dS_read_21 : decode prog_1_method_6_code 21 = .ok (.aload_n 0, 1) := by decide +kernel
theorem dS_read_22 : decode prog_1_method_6_code 22 = .ok (.iload_n 1, 1) := by decide +kernel
theorem dS_read_23 : decode prog_1_method_6_code 23 = .ok (.putfield 23, 3) := by decide +kernel
theorem dS_read_26 : decode prog_1_method_6_code 26 = .ok (.aload_n 0, 1) := by decide +kernel
theorem dS_read_27 : decode prog_1_method_6_code 27 = .ok (.iconst 0, 1) := by decide +kernel
theorem dS_read_28 : decode prog_1_method_6_code 28 = .ok (.putfield 16, 3) := by decide +kernel
theorem dS_read_31 : decode prog_1_method_6_code 31 = .ok (.iload_n 2, 1) := by decide +kernel
theorem dS_read_32 : decode prog_1_method_6_code 32 = .ok (.ireturn, 1) := by decide +kernel
theorem dS_wayOfBytes_0 : decode prog_1_method_16_code 0 = .ok (.iconst 1, 1) := by decide +kernel
theorem dS_wayOfBytes_1 : decode prog_1_method_16_code 1 = .ok (.istore_n 1, 1) := by decide +kernel
theorem dS_wayOfBytes_2 : decode prog_1_method_16_code 2 = .ok (.iload_n 1, 1) := by decide +kernel
theorem dS_wayOfBytes_3 : decode prog_1_method_16_code 3 = .ok (.iconst 3, 1) := by decide +kernel
theorem dS_wayOfBytes_4 : decode prog_1_method_16_code 4 = .ok (.if_icmp .gt 22, 3) := by decide +kernel
theorem dS_wayOfBytes_7 : decode prog_1_method_16_code 7 = .ok (.aload_n 0, 1) := by decide +kernel
theorem dS_wayOfBytes_8 : decode prog_1_method_16_code 8 = .ok (.iconst 0, 1) := by decide +kernel
theorem dS_wayOfBytes_9 : decode prog_1_method_16_code 9 = .ok (.iload_n 1, 1) := by decide +kernel
theorem dS_wayOfBytes_10 : decode prog_1_method_16_code 10 = .ok (.invokevirtual 77, 3) := by decide +kernel
theorem dS_wayOfBytes_13 : decode prog_1_method_16_code 13 = .ok (.ldc 66, 2) := by decide +kernel
theorem dS_wayOfBytes_15 : decode prog_1_method_16_code 15 = .ok (.if_icmp .ne 5, 3) := by decide +kernel
theorem dS_wayOfBytes_18 : decode prog_1_method_16_code 18 = .ok (.iload_n 1, 1) := by decide +kernel
theorem dS_wayOfBytes_19 : decode prog_1_method_16_code 19 = .ok (.ireturn, 1) := by decide +kernel
theorem dS_wayOfBytes_20 : decode prog_1_method_16_code 20 = .ok (.iinc 1 1, 3) := by decide +kernel
theorem dS_wayOfBytes_23 : decode prog_1_method_16_code 23 = .ok (.goto (-21), 3) := by decide +kernel
theorem dS_wayOfBytes_26 : decode prog_1_method_16_code 26 = .ok (.iconst 0, 1) := by decide +kernel
theorem dS_wayOfBytes_27 : decode prog_1_method_16_code 27 = .ok (.ireturn, 1) := by decide +kernel
theorem dS_numberAt_0 : decode prog_1_method_20_code 0 = .ok (.iload_n 2, 1) := by decide +kernel
theorem dS_numberAt_1 : decode prog_1_method_20_code 1 = .ok (.invokestatic 87, 3) := by decide +kernel
theorem dS_numberAt_4 : decode prog_1_method_20_code 4 = .ok (.ifCond .eq 12, 3) := by decide +kernel
theorem dS_numberAt_7 : decode prog_1_method_20_code 7 = .ok (.aload_n 0, 1) := by decide +kernel
theorem dS_numberAt_8 : decode prog_1_method_20_code 8 = .ok (.iload_n 1, 1) := by decide +kernel
theorem dS_numberAt_9 : decode prog_1_method_20_code 9 = .ok (.iload_n 2, 1) := by decide +kernel
theorem dS_numberAt_10 : decode prog_1_method_20_code 10 = .ok (.invokevirtual 90, 3) := by decide +kernel
theorem dS_numberAt_13 : decode prog_1_method_20_code 13 = .ok (.goto 8, 3) := by decide +kernel
theorem dS_numberAt_16 : decode prog_1_method_20_code 16 = .ok (.aload_n 0, 1) := by decide +kernel
theorem dS_numberAt_17 : decode prog_1_method_20_code 17 = .ok (.iload_n 1, 1) := by decide +kernel
theorem dS_numberAt_18 : decode prog_1_method_20_code 18 = .ok (.invokevirtual 93, 3) := by decide +kernel
theorem dS_numberAt_21 : decode prog_1_method_20_code 21 = .ok (.ireturn, 1) := by decide +kernel
theorem dS_isSixteenBits_0 : decode prog_1_method_30_code 0 = .ok (.iload_n 0, 1) := by decide +kernel
theorem dS_isSixteenBits_1 : decode prog_1_method_30_code 1 = .ok (.iconst 1, 1) := by decide +kernel
theorem dS_isSixteenBits_2 : decode prog_1_method_30_code 2 = .ok (.if_icmp .eq 8, 3) := by decide +kernel
theorem dS_isSixteenBits_5 : decode prog_1_method_30_code 5 = .ok (.iload_n 0, 1) := by decide +kernel
theorem dS_isSixteenBits_6 : decode prog_1_method_30_code 6 = .ok (.iconst 2, 1) := by decide +kernel
theorem dS_isSixteenBits_7 : decode prog_1_method_30_code 7 = .ok (.if_icmp .ne 7, 3) := by decide +kernel
theorem dS_isSixteenBits_10 : decode prog_1_method_30_code 10 = .ok (.iconst 1, 1) := by decide +kernel
theorem dS_isSixteenBits_11 : decode prog_1_method_30_code 11 = .ok (.goto 4, 3) := by decide +kernel
theorem dS_isSixteenBits_14 : decode prog_1_method_30_code 14 = .ok (.iconst 0, 1) := by decide +kernel
theorem dS_isSixteenBits_15 : decode prog_1_method_30_code 15 = .ok (.ireturn, 1) := by decide +kernel
theorem dS_numberOf16Bits_0 : decode prog_1_method_23_code 0 = .ok (.aload_n 0, 1) := by decide +kernel
theorem dS_numberOf16Bits_1 : decode prog_1_method_23_code 1 = .ok (.iload_n 1, 1) := by decide +kernel
theorem dS_numberOf16Bits_2 : decode prog_1_method_23_code 2 = .ok (.iload_n 2, 1) := by decide +kernel
theorem dS_numberOf16Bits_3 : decode prog_1_method_23_code 3 = .ok (.invokevirtual 105, 3) := by decide +kernel
theorem dS_numberOf16Bits_6 : decode prog_1_method_23_code 6 = .ok (.istore_n 3, 1) := by decide +kernel
theorem dS_numberOf16Bits_7 : decode prog_1_method_23_code 7 = .ok (.iload_n 3, 1) := by decide +kernel
theorem dS_numberOf16Bits_8 : decode prog_1_method_23_code 8 = .ok (.ldc 108, 2) := by decide +kernel
theorem dS_numberOf16Bits_10 : decode prog_1_method_23_code 10 = .ok (.if_icmp .lt 9, 3) := by decide +kernel
theorem dS_numberOf16Bits_13 : decode prog_1_method_23_code 13 = .ok (.iload_n 3, 1) := by decide +kernel
theorem dS_numberOf16Bits_14 : decode prog_1_method_23_code 14 = .ok (.ldc 109, 2) := by decide +kernel
theorem dS_numberOf16Bits_16 : decode prog_1_method_23_code 16 = .ok (.if_icmp .le 5, 3) := by decide +kernel
theorem dS_numberOf16Bits_19 : decode prog_1_method_23_code 19 = .ok (.iload_n 3, 1) := by decide +kernel
theorem dS_numberOf16Bits_20 : decode prog_1_method_23_code 20 = .ok (.ireturn, 1) := by decide +kernel
theorem dS_numberOf16Bits_21 : decode prog_1_method_23_code 21 = .ok (.aload_n 0, 1) := by decide +kernel
theorem dS_numberOf16Bits_22 : decode prog_1_method_23_code 22 = .ok (.iload_n 1, 1) := by decide +kernel
theorem dS_numberOf16Bits_23 : decode prog_1_method_23_code 23 = .ok (.iconst 2, 1) := by decide +kernel
theorem dS_numberOf16Bits_24 : decode prog_1_method_23_code 24 = .ok (.iadd, 1) := by decide +kernel
theorem dS_numberOf16Bits_25 : decode prog_1_method_23_code 25 = .ok (.iload_n 2, 1) := by decide +kernel
theorem dS_numberOf16Bits_26 : decode prog_1_method_23_code 26 = .ok (.invokevirtual 105, 3) := by decide +kernel
theorem dS_numberOf16Bits_29 : decode prog_1_method_23_code 29 = .ok (.istore 4, 2) := by decide +kernel
theorem dS_numberOf16Bits_31 : decode prog_1_method_23_code 31 = .ok (.iload 4, 2) := by decide +kernel
theorem dS_numberOf16Bits_33 : decode prog_1_method_23_code 33 = .ok (.ldc 110, 2) := by decide +kernel
theorem dS_numberOf16Bits_35 : decode prog_1_method_23_code 35 = .ok (.if_icmp .lt 10, 3) := by decide +kernel
theorem dS_numberOf16Bits_38 : decode prog_1_method_23_code 38 = .ok (.iload 4, 2) := by decide +kernel
theorem dS_numberOf16Bits_40 : decode prog_1_method_23_code 40 = .ok (.ldc 111, 2) := by decide +kernel
theorem dS_numberOf16Bits_42 : decode prog_1_method_23_code 42 = .ok (.if_icmp .le 5, 3) := by decide +kernel
theorem dS_numberOf16Bits_45 : decode prog_1_method_23_code 45 = .ok (.iload_n 3, 1) := by decide +kernel
theorem dS_numberOf16Bits_46 : decode prog_1_method_23_code 46 = .ok (.ireturn, 1) := by decide +kernel
theorem dS_numberOf16Bits_47 : decode prog_1_method_23_code 47 = .ok (.ldc 112, 2) := by decide +kernel
theorem dS_numberOf16Bits_49 : decode prog_1_method_23_code 49 = .ok (.sipush 1024, 3) := by decide +kernel
theorem dS_numberOf16Bits_52 : decode prog_1_method_23_code 52 = .ok (.iload_n 3, 1) := by decide +kernel
theorem dS_numberOf16Bits_53 : decode prog_1_method_23_code 53 = .ok (.ldc 108, 2) := by decide +kernel
theorem dS_numberOf16Bits_55 : decode prog_1_method_23_code 55 = .ok (.isub, 1) := by decide +kernel
theorem dS_numberOf16Bits_56 : decode prog_1_method_23_code 56 = .ok (.imul, 1) := by decide +kernel
theorem dS_numberOf16Bits_57 : decode prog_1_method_23_code 57 = .ok (.iadd, 1) := by decide +kernel
theorem dS_numberOf16Bits_58 : decode prog_1_method_23_code 58 = .ok (.iload 4, 2) := by decide +kernel
theorem dS_numberOf16Bits_60 : decode prog_1_method_23_code 60 = .ok (.ldc 110, 2) := by decide +kernel
theorem dS_numberOf16Bits_62 : decode prog_1_method_23_code 62 = .ok (.isub, 1) := by decide +kernel
theorem dS_numberOf16Bits_63 : decode prog_1_method_23_code 63 = .ok (.iadd, 1) := by decide +kernel
theorem dS_numberOf16Bits_64 : decode prog_1_method_23_code 64 = .ok (.ireturn, 1) := by decide +kernel
theorem dS_pairAt_0 : decode prog_1_method_24_code 0 = .ok (.aload_n 0, 1) := by decide +kernel
theorem dS_pairAt_1 : decode prog_1_method_24_code 1 = .ok (.iload_n 1, 1) := by decide +kernel
theorem dS_pairAt_2 : decode prog_1_method_24_code 2 = .ok (.invokevirtual 96, 3) := by decide +kernel
theorem dS_pairAt_5 : decode prog_1_method_24_code 5 = .ok (.istore_n 3, 1) := by decide +kernel
theorem dS_pairAt_6 : decode prog_1_method_24_code 6 = .ok (.aload_n 0, 1) := by decide +kernel
theorem dS_pairAt_7 : decode prog_1_method_24_code 7 = .ok (.iload_n 1, 1) := by decide +kernel
theorem dS_pairAt_8 : decode prog_1_method_24_code 8 = .ok (.iconst 1, 1) := by decide +kernel
theorem dS_pairAt_9 : decode prog_1_method_24_code 9 = .ok (.iadd, 1) := by decide +kernel
theorem dS_pairAt_10 : decode prog_1_method_24_code 10 = .ok (.invokevirtual 96, 3) := by decide +kernel
theorem dS_pairAt_13 : decode prog_1_method_24_code 13 = .ok (.istore 4, 2) := by decide +kernel
theorem dS_pairAt_15 : decode prog_1_method_24_code 15 = .ok (.iload_n 3, 1) := by decide +kernel
theorem dS_pairAt_16 : decode prog_1_method_24_code 16 = .ok (.iconst (-1), 1) := by decide +kernel
theorem dS_pairAt_17 : decode prog_1_method_24_code 17 = .ok (.if_icmp .eq 9, 3) := by decide +kernel
theorem dS_pairAt_20 : decode prog_1_method_24_code 20 = .ok (.iload 4, 2) := by decide +kernel
theorem dS_pairAt_22 : decode prog_1_method_24_code 22 = .ok (.iconst (-1), 1) := by decide +kernel
theorem dS_pairAt_23 : decode prog_1_method_24_code 23 = .ok (.if_icmp .ne 5, 3) := by decide +kernel
theorem dS_pairAt_26 : decode prog_1_method_24_code 26 = .ok (.iconst (-1), 1) := by decide +kernel
theorem dS_pairAt_27 : decode prog_1_method_24_code 27 = .ok (.ireturn, 1) := by decide +kernel
theorem dS_pairAt_28 : decode prog_1_method_24_code 28 = .ok (.iload_n 2, 1) := by decide +kernel
theorem dS_pairAt_29 : decode prog_1_method_24_code 29 = .ok (.iconst 1, 1) := by decide +kernel
theorem dS_pairAt_30 : decode prog_1_method_24_code 30 = .ok (.if_icmp .ne 14, 3) := by decide +kernel
theorem dS_pairAt_33 : decode prog_1_method_24_code 33 = .ok (.iload_n 3, 1) := by decide +kernel
theorem dS_pairAt_34 : decode prog_1_method_24_code 34 = .ok (.sipush 256, 3) := by decide +kernel
theorem dS_pairAt_37 : decode prog_1_method_24_code 37 = .ok (.imul, 1) := by decide +kernel
theorem dS_pairAt_38 : decode prog_1_method_24_code 38 = .ok (.iload 4, 2) := by decide +kernel
theorem dS_pairAt_40 : decode prog_1_method_24_code 40 = .ok (.iadd, 1) := by decide +kernel
theorem dS_pairAt_41 : decode prog_1_method_24_code 41 = .ok (.goto 11, 3) := by decide +kernel
theorem dS_pairAt_44 : decode prog_1_method_24_code 44 = .ok (.iload 4, 2) := by decide +kernel
theorem dS_pairAt_46 : decode prog_1_method_24_code 46 = .ok (.sipush 256, 3) := by decide +kernel
theorem dS_pairAt_49 : decode prog_1_method_24_code 49 = .ok (.imul, 1) := by decide +kernel
theorem dS_pairAt_50 : decode prog_1_method_24_code 50 = .ok (.iload_n 3, 1) := by decide +kernel
theorem dS_pairAt_51 : decode prog_1_method_24_code 51 = .ok (.iadd, 1) := by decide +kernel
theorem dS_pairAt_52 : decode prog_1_method_24_code 52 = .ok (.ireturn, 1) := by decide +kernel
theorem dS_numberOf8Bits_0 : decode prog_1_method_21_code 0 = .ok (.aload_n 0, 1) := by decide +kernel
theorem dS_numberOf8Bits_1 : decode prog_1_method_21_code 1 = .ok (.iload_n 1, 1) := by decide +kernel
theorem dS_numberOf8Bits_2 : decode prog_1_method_21_code 2 = .ok (.invokevirtual 96, 3) := by decide +kernel
theorem dS_numberOf8Bits_5 : decode prog_1_method_21_code 5 = .ok (.istore_n 2, 1) := by decide +kernel
theorem dS_numberOf8Bits_6 : decode prog_1_method_21_code 6 = .ok (.iload_n 2, 1) := by decide +kernel
theorem dS_numberOf8Bits_7 : decode prog_1_method_21_code 7 = .ok (.sipush 128, 3) := by decide +kernel
theorem dS_numberOf8Bits_10 : decode prog_1_method_21_code 10 = .ok (.if_icmp .ge 5, 3) := by decide +kernel
theorem dS_numberOf8Bits_13 : decode prog_1_method_21_code 13 = .ok (.iload_n 2, 1) := by decide +kernel
theorem dS_numberOf8Bits_14 : decode prog_1_method_21_code 14 = .ok (.ireturn, 1) := by decide +kernel
theorem dS_numberOf8Bits_15 : decode prog_1_method_21_code 15 = .ok (.iload_n 2, 1) := by decide +kernel
theorem dS_numberOf8Bits_16 : decode prog_1_method_21_code 16 = .ok (.invokestatic 99, 3) := by decide +kernel
theorem dS_numberOf8Bits_19 : decode prog_1_method_21_code 19 = .ok (.istore_n 3, 1) := by decide +kernel
theorem dS_numberOf8Bits_20 : decode prog_1_method_21_code 20 = .ok (.iload_n 3, 1) := by decide +kernel
theorem dS_numberOf8Bits_21 : decode prog_1_method_21_code 21 = .ok (.ifCond .ne 5, 3) := by decide +kernel
theorem dS_numberOf8Bits_24 : decode prog_1_method_21_code 24 = .ok (.iconst (-1), 1) := by decide +kernel
theorem dS_numberOf8Bits_25 : decode prog_1_method_21_code 25 = .ok (.ireturn, 1) := by decide +kernel
theorem dS_numberOf8Bits_26 : decode prog_1_method_21_code 26 = .ok (.iload_n 2, 1) := by decide +kernel
theorem dS_numberOf8Bits_27 : decode prog_1_method_21_code 27 = .ok (.bipush 63, 2) := by decide +kernel
theorem dS_numberOf8Bits_29 : decode prog_1_method_21_code 29 = .ok (.iload_n 3, 1) := by decide +kernel
theorem dS_numberOf8Bits_30 : decode prog_1_method_21_code 30 = .ok (.ishr, 1) := by decide +kernel
theorem dS_numberOf8Bits_31 : decode prog_1_method_21_code 31 = .ok (.iand, 1) := by decide +kernel
theorem dS_numberOf8Bits_32 : decode prog_1_method_21_code 32 = .ok (.istore 4, 2) := by decide +kernel
theorem dS_numberOf8Bits_34 : decode prog_1_method_21_code 34 = .ok (.iconst 1, 1) := by decide +kernel
theorem dS_numberOf8Bits_35 : decode prog_1_method_21_code 35 = .ok (.istore 5, 2) := by decide +kernel
theorem dS_numberOf8Bits_37 : decode prog_1_method_21_code 37 = .ok (.iload 5, 2) := by decide +kernel
theorem dS_numberOf8Bits_39 : decode prog_1_method_21_code 39 = .ok (.iload_n 3, 1) := by decide +kernel
theorem dS_numberOf8Bits_40 : decode prog_1_method_21_code 40 = .ok (.if_icmp .gt 51, 3) := by decide +kernel
theorem dS_numberOf8Bits_43 : decode prog_1_method_21_code 43 = .ok (.aload_n 0, 1) := by decide +kernel
theorem dS_numberOf8Bits_44 : decode prog_1_method_21_code 44 = .ok (.iload_n 1, 1) := by decide +kernel
theorem dS_numberOf8Bits_45 : decode prog_1_method_21_code 45 = .ok (.iload 5, 2) := by decide +kernel
theorem dS_numberOf8Bits_47 : decode prog_1_method_21_code 47 = .ok (.iadd, 1) := by decide +kernel
theorem dS_numberOf8Bits_48 : decode prog_1_method_21_code 48 = .ok (.invokevirtual 96, 3) := by decide +kernel
theorem dS_numberOf8Bits_51 : decode prog_1_method_21_code 51 = .ok (.istore 6, 2) := by decide +kernel
theorem dS_numberOf8Bits_53 : decode prog_1_method_21_code 53 = .ok (.iload 6, 2) := by decide +kernel
theorem dS_numberOf8Bits_55 : decode prog_1_method_21_code 55 = .ok (.sipush 128, 3) := by decide +kernel
theorem dS_numberOf8Bits_58 : decode prog_1_method_21_code 58 = .ok (.if_icmp .lt 11, 3) := by decide +kernel
theorem dS_numberOf8Bits_61 : decode prog_1_method_21_code 61 = .ok (.iload 6, 2) := by decide +kernel
theorem dS_numberOf8Bits_63 : decode prog_1_method_21_code 63 = .ok (.sipush 191, 3) := by decide +kernel
theorem dS_numberOf8Bits_66 : decode prog_1_method_21_code 66 = .ok (.if_icmp .le 5, 3) := by decide +kernel
theorem dS_numberOf8Bits_69 : decode prog_1_method_21_code 69 = .ok (.iconst (-1), 1) := by decide +kernel
theorem dS_numberOf8Bits_70 : decode prog_1_method_21_code 70 = .ok (.ireturn, 1) := by decide +kernel
theorem dS_numberOf8Bits_71 : decode prog_1_method_21_code 71 = .ok (.iload 4, 2) := by decide +kernel
theorem dS_numberOf8Bits_73 : decode prog_1_method_21_code 73 = .ok (.bipush 64, 2) := by decide +kernel
theorem dS_numberOf8Bits_75 : decode prog_1_method_21_code 75 = .ok (.imul, 1) := by decide +kernel
theorem dS_numberOf8Bits_76 : decode prog_1_method_21_code 76 = .ok (.iload 6, 2) := by decide +kernel
theorem dS_numberOf8Bits_78 : decode prog_1_method_21_code 78 = .ok (.sipush 128, 3) := by decide +kernel
theorem dS_numberOf8Bits_81 : decode prog_1_method_21_code 81 = .ok (.isub, 1) := by decide +kernel
theorem dS_numberOf8Bits_82 : decode prog_1_method_21_code 82 = .ok (.iadd, 1) := by decide +kernel
theorem dS_numberOf8Bits_83 : decode prog_1_method_21_code 83 = .ok (.istore 4, 2) := by decide +kernel
theorem dS_numberOf8Bits_85 : decode prog_1_method_21_code 85 = .ok (.iinc 5 1, 3) := by decide +kernel
theorem dS_numberOf8Bits_88 : decode prog_1_method_21_code 88 = .ok (.goto (-51), 3) := by decide +kernel
theorem dS_numberOf8Bits_91 : decode prog_1_method_21_code 91 = .ok (.iload 4, 2) := by decide +kernel
theorem dS_numberOf8Bits_93 : decode prog_1_method_21_code 93 = .ok (.invokestatic 102, 3) := by decide +kernel
theorem dS_numberOf8Bits_96 : decode prog_1_method_21_code 96 = .ok (.iload_n 3, 1) := by decide +kernel
theorem dS_numberOf8Bits_97 : decode prog_1_method_21_code 97 = .ok (.iconst 1, 1) := by decide +kernel
theorem dS_numberOf8Bits_98 : decode prog_1_method_21_code 98 = .ok (.iadd, 1) := by decide +kernel
theorem dS_numberOf8Bits_99 : decode prog_1_method_21_code 99 = .ok (.if_icmp .ne 8, 3) := by decide +kernel
theorem dS_numberOf8Bits_102 : decode prog_1_method_21_code 102 = .ok (.iload 4, 2) := by decide +kernel
theorem dS_numberOf8Bits_104 : decode prog_1_method_21_code 104 = .ok (.goto 4, 3) := by decide +kernel
theorem dS_numberOf8Bits_107 : decode prog_1_method_21_code 107 = .ok (.iconst (-1), 1) := by decide +kernel
theorem dS_numberOf8Bits_108 : decode prog_1_method_21_code 108 = .ok (.ireturn, 1) := by decide +kernel
theorem dS_bytesBehind_0 : decode prog_1_method_22_code 0 = .ok (.iload_n 0, 1) := by decide +kernel
theorem dS_bytesBehind_1 : decode prog_1_method_22_code 1 = .ok (.sipush 224, 3) := by decide +kernel
theorem dS_bytesBehind_4 : decode prog_1_method_22_code 4 = .ok (.iand, 1) := by decide +kernel
theorem dS_bytesBehind_5 : decode prog_1_method_22_code 5 = .ok (.sipush 192, 3) := by decide +kernel
theorem dS_bytesBehind_8 : decode prog_1_method_22_code 8 = .ok (.if_icmp .ne 5, 3) := by decide +kernel
theorem dS_bytesBehind_11 : decode prog_1_method_22_code 11 = .ok (.iconst 1, 1) := by decide +kernel
theorem dS_bytesBehind_12 : decode prog_1_method_22_code 12 = .ok (.ireturn, 1) := by decide +kernel
theorem dS_bytesBehind_13 : decode prog_1_method_22_code 13 = .ok (.iload_n 0, 1) := by decide +kernel
theorem dS_bytesBehind_14 : decode prog_1_method_22_code 14 = .ok (.sipush 240, 3) := by decide +kernel
theorem dS_bytesBehind_17 : decode prog_1_method_22_code 17 = .ok (.iand, 1) := by decide +kernel
theorem dS_bytesBehind_18 : decode prog_1_method_22_code 18 = .ok (.sipush 224, 3) := by decide +kernel
theorem dS_bytesBehind_21 : decode prog_1_method_22_code 21 = .ok (.if_icmp .ne 5, 3) := by decide +kernel
theorem dS_bytesBehind_24 : decode prog_1_method_22_code 24 = .ok (.iconst 2, 1) := by decide +kernel
theorem dS_bytesBehind_25 : decode prog_1_method_22_code 25 = .ok (.ireturn, 1) := by decide +kernel
theorem dS_bytesBehind_26 : decode prog_1_method_22_code 26 = .ok (.iload_n 0, 1) := by decide +kernel
theorem dS_bytesBehind_27 : decode prog_1_method_22_code 27 = .ok (.sipush 248, 3) := by decide +kernel
theorem dS_bytesBehind_30 : decode prog_1_method_22_code 30 = .ok (.iand, 1) := by decide +kernel
theorem dS_bytesBehind_31 : decode prog_1_method_22_code 31 = .ok (.sipush 240, 3) := by decide +kernel
theorem dS_bytesBehind_34 : decode prog_1_method_22_code 34 = .ok (.if_icmp .ne 7, 3) := by decide +kernel
theorem dS_bytesBehind_37 : decode prog_1_method_22_code 37 = .ok (.iconst 3, 1) := by decide +kernel
theorem dS_bytesBehind_38 : decode prog_1_method_22_code 38 = .ok (.goto 4, 3) := by decide +kernel
theorem dS_bytesBehind_41 : decode prog_1_method_22_code 41 = .ok (.iconst 0, 1) := by decide +kernel
theorem dS_bytesBehind_42 : decode prog_1_method_22_code 42 = .ok (.ireturn, 1) := by decide +kernel
theorem dS_sizeOf8Bits_0 : decode prog_1_method_28_code 0 = .ok (.iload_n 0, 1) := by decide +kernel
theorem dS_sizeOf8Bits_1 : decode prog_1_method_28_code 1 = .ok (.sipush 128, 3) := by decide +kernel
theorem dS_sizeOf8Bits_4 : decode prog_1_method_28_code 4 = .ok (.if_icmp .ge 5, 3) := by decide +kernel
theorem dS_sizeOf8Bits_7 : decode prog_1_method_28_code 7 = .ok (.iconst 1, 1) := by decide +kernel
theorem dS_sizeOf8Bits_8 : decode prog_1_method_28_code 8 = .ok (.ireturn, 1) := by decide +kernel
theorem dS_sizeOf8Bits_9 : decode prog_1_method_28_code 9 = .ok (.iload_n 0, 1) := by decide +kernel
theorem dS_sizeOf8Bits_10 : decode prog_1_method_28_code 10 = .ok (.sipush 2048, 3) := by decide +kernel
theorem dS_sizeOf8Bits_13 : decode prog_1_method_28_code 13 = .ok (.if_icmp .ge 5, 3) := by decide +kernel
theorem dS_sizeOf8Bits_16 : decode prog_1_method_28_code 16 = .ok (.iconst 2, 1) := by decide +kernel
theorem dS_sizeOf8Bits_17 : decode prog_1_method_28_code 17 = .ok (.ireturn, 1) := by decide +kernel
theorem dS_sizeOf8Bits_18 : decode prog_1_method_28_code 18 = .ok (.iload_n 0, 1) := by decide +kernel
theorem dS_sizeOf8Bits_19 : decode prog_1_method_28_code 19 = .ok (.ldc 112, 2) := by decide +kernel
theorem dS_sizeOf8Bits_21 : decode prog_1_method_28_code 21 = .ok (.if_icmp .ge 7, 3) := by decide +kernel
theorem dS_sizeOf8Bits_24 : decode prog_1_method_28_code 24 = .ok (.iconst 3, 1) := by decide +kernel
theorem dS_sizeOf8Bits_25 : decode prog_1_method_28_code 25 = .ok (.goto 4, 3) := by decide +kernel
theorem dS_sizeOf8Bits_28 : decode prog_1_method_28_code 28 = .ok (.iconst 4, 1) := by decide +kernel
theorem dS_sizeOf8Bits_29 : decode prog_1_method_28_code 29 = .ok (.ireturn, 1) := by decide +kernel
theorem dS_placeRefused_0 : decode prog_1_method_17_code 0 = .ok (.iload_n 1, 1) := by decide +kernel
theorem dS_placeRefused_1 : decode prog_1_method_17_code 1 = .ok (.invokestatic 81, 3) := by decide +kernel
theorem dS_placeRefused_4 : decode prog_1_method_17_code 4 = .ok (.istore_n 2, 1) := by decide +kernel
theorem dS_placeRefused_5 : decode prog_1_method_17_code 5 = .ok (.iconst 0, 1) := by decide +kernel
theorem dS_placeRefused_6 : decode prog_1_method_17_code 6 = .ok (.istore_n 3, 1) := by decide +kernel
theorem dS_placeRefused_7 : decode prog_1_method_17_code 7 = .ok (.iload_n 3, 1) := by decide +kernel
theorem dS_placeRefused_8 : decode prog_1_method_17_code 8 = .ok (.sipush 4096, 3) := by decide +kernel
theorem dS_placeRefused_11 : decode prog_1_method_17_code 11 = .ok (.if_icmp .ge 44, 3) := by decide +kernel
theorem dS_placeRefused_14 : decode prog_1_method_17_code 14 = .ok (.iload_n 2, 1) := by decide +kernel
theorem dS_placeRefused_15 : decode prog_1_method_17_code 15 = .ok (.aload_n 0, 1) := by decide +kernel
theorem dS_placeRefused_16 : decode prog_1_method_17_code 16 = .ok (.getfield 16, 3) := by decide +kernel
theorem dS_placeRefused_19 : decode prog_1_method_17_code 19 = .ok (.if_icmp .ge 36, 3) := by decide +kernel
theorem dS_placeRefused_22 : decode prog_1_method_17_code 22 = .ok (.aload_n 0, 1) := by decide +kernel
theorem dS_placeRefused_23 : decode prog_1_method_17_code 23 = .ok (.iload_n 2, 1) := by decide +kernel
theorem dS_placeRefused_24 : decode prog_1_method_17_code 24 = .ok (.iload_n 1, 1) := by decide +kernel
theorem dS_placeRefused_25 : decode prog_1_method_17_code 25 = .ok (.invokevirtual 77, 3) := by decide +kernel
theorem dS_placeRefused_28 : decode prog_1_method_17_code 28 = .ok (.istore 4, 2) := by decide +kernel
theorem dS_placeRefused_30 : decode prog_1_method_17_code 30 = .ok (.iload 4, 2) := by decide +kernel
theorem dS_placeRefused_32 : decode prog_1_method_17_code 32 = .ok (.invokestatic 71, 3) := by decide +kernel
theorem dS_placeRefused_35 : decode prog_1_method_17_code 35 = .ok (.ifCond .ne 5, 3) := by decide +kernel
theorem dS_placeRefused_38 : decode prog_1_method_17_code 38 = .ok (.iload_n 2, 1) := by decide +kernel
theorem dS_placeRefused_39 : decode prog_1_method_17_code 39 = .ok (.ireturn, 1) := by decide +kernel
theorem dS_placeRefused_40 : decode prog_1_method_17_code 40 = .ok (.iload_n 2, 1) := by decide +kernel
theorem dS_placeRefused_41 : decode prog_1_method_17_code 41 = .ok (.iload 4, 2) := by decide +kernel
theorem dS_placeRefused_43 : decode prog_1_method_17_code 43 = .ok (.iload_n 1, 1) := by decide +kernel
theorem dS_placeRefused_44 : decode prog_1_method_17_code 44 = .ok (.invokestatic 84, 3) := by decide +kernel
theorem dS_placeRefused_47 : decode prog_1_method_17_code 47 = .ok (.iadd, 1) := by decide +kernel
theorem dS_placeRefused_48 : decode prog_1_method_17_code 48 = .ok (.istore_n 2, 1) := by decide +kernel
theorem dS_placeRefused_49 : decode prog_1_method_17_code 49 = .ok (.iinc 3 1, 3) := by decide +kernel
theorem dS_placeRefused_52 : decode prog_1_method_17_code 52 = .ok (.goto (-45), 3) := by decide +kernel
theorem dS_placeRefused_55 : decode prog_1_method_17_code 55 = .ok (.iconst (-1), 1) := by decide +kernel
theorem dS_placeRefused_56 : decode prog_1_method_17_code 56 = .ok (.ireturn, 1) := by decide +kernel
theorem dS_sizeOfMark_0 : decode prog_1_method_26_code 0 = .ok (.iload_n 0, 1) := by decide +kernel
theorem dS_sizeOfMark_1 : decode prog_1_method_26_code 1 = .ok (.ifCond .ne 7, 3) := by decide +kernel
theorem dS_sizeOfMark_4 : decode prog_1_method_26_code 4 = .ok (.iconst 0, 1) := by decide +kernel
theorem dS_sizeOfMark_5 : decode prog_1_method_26_code 5 = .ok (.goto 9, 3) := by decide +kernel
theorem dS_sizeOfMark_8 : decode prog_1_method_26_code 8 = .ok (.ldc 66, 2) := by decide +kernel
theorem dS_sizeOfMark_10 : decode prog_1_method_26_code 10 = .ok (.iload_n 0, 1) := by decide +kernel
theorem dS_sizeOfMark_11 : decode prog_1_method_26_code 11 = .ok (.invokestatic 84, 3) := by decide +kernel
theorem dS_sizeOfMark_14 : decode prog_1_method_26_code 14 = .ok (.ireturn, 1) := by decide +kernel
theorem dS_sizeOf_0 : decode prog_1_method_27_code 0 = .ok (.iload_n 1, 1) := by decide +kernel
theorem dS_sizeOf_1 : decode prog_1_method_27_code 1 = .ok (.invokestatic 87, 3) := by decide +kernel
theorem dS_sizeOf_4 : decode prog_1_method_27_code 4 = .ok (.ifCond .eq 10, 3) := by decide +kernel
theorem dS_sizeOf_7 : decode prog_1_method_27_code 7 = .ok (.iload_n 0, 1) := by decide +kernel
theorem dS_sizeOf_8 : decode prog_1_method_27_code 8 = .ok (.invokestatic 113, 3) := by decide +kernel
theorem dS_sizeOf_11 : decode prog_1_method_27_code 11 = .ok (.goto 7, 3) := by decide +kernel
theorem dS_sizeOf_14 : decode prog_1_method_27_code 14 = .ok (.iload_n 0, 1) := by decide +kernel
theorem dS_sizeOf_15 : decode prog_1_method_27_code 15 = .ok (.invokestatic 102, 3) := by decide +kernel
theorem dS_sizeOf_18 : decode prog_1_method_27_code 18 = .ok (.ireturn, 1) := by decide +kernel
theorem dS_sizeOf16Bits_0 : decode prog_1_method_29_code 0 = .ok (.iload_n 0, 1) := by decide +kernel
theorem dS_sizeOf16Bits_1 : decode prog_1_method_29_code 1 = .ok (.ldc 112, 2) := by decide +kernel
theorem dS_sizeOf16Bits_3 : decode prog_1_method_29_code 3 = .ok (.if_icmp .ge 7, 3) := by decide +kernel
theorem dS_sizeOf16Bits_6 : decode prog_1_method_29_code 6 = .ok (.iconst 2, 1) := by decide +kernel
theorem dS_sizeOf16Bits_7 : decode prog_1_method_29_code 7 = .ok (.goto 4, 3) := by decide +kernel
theorem dS_sizeOf16Bits_10 : decode prog_1_method_29_code 10 = .ok (.iconst 4, 1) := by decide +kernel
theorem dS_sizeOf16Bits_11 : decode prog_1_method_29_code 11 = .ok (.ireturn, 1) := by decide +kernel
theorem dS_isCharacter_0 : decode prog_1_method_38_code 0 = .ok (.getstatic 150, 3) := by decide +kernel
theorem dS_isCharacter_3 : decode prog_1_method_38_code 3 = .ok (.iload_n 0, 1) := by decide +kernel
theorem dS_isCharacter_4 : decode prog_1_method_38_code 4 = .ok (.invokestatic 140, 3) := by decide +kernel
theorem dS_isCharacter_7 : decode prog_1_method_38_code 7 = .ok (.ireturn, 1) := by decide +kernel
theorem dS_isWithin_0 : decode prog_1_method_43_code 0 = .ok (.iconst 0, 1) := by decide +kernel
theorem dS_isWithin_1 : decode prog_1_method_43_code 1 = .ok (.istore_n 2, 1) := by decide +kernel
theorem dS_isWithin_2 : decode prog_1_method_43_code 2 = .ok (.iload_n 2, 1) := by decide +kernel
theorem dS_isWithin_3 : decode prog_1_method_43_code 3 = .ok (.iconst 1, 1) := by decide +kernel
theorem dS_isWithin_4 : decode prog_1_method_43_code 4 = .ok (.iadd, 1) := by decide +kernel
theorem dS_isWithin_5 : decode prog_1_method_43_code 5 = .ok (.aload_n 0, 1) := by decide +kernel
theorem dS_isWithin_6 : decode prog_1_method_43_code 6 = .ok (.arraylength, 1) := by decide +kernel
theorem dS_isWithin_7 : decode prog_1_method_43_code 7 = .ok (.if_icmp .ge 27, 3) := by decide +kernel
theorem dS_isWithin_10 : decode prog_1_method_43_code 10 = .ok (.iload_n 1, 1) := by decide +kernel
theorem dS_isWithin_11 : decode prog_1_method_43_code 11 = .ok (.aload_n 0, 1) := by decide +kernel
theorem dS_isWithin_12 : decode prog_1_method_43_code 12 = .ok (.iload_n 2, 1) := by decide +kernel
theorem dS_isWithin_13 : decode prog_1_method_43_code 13 = .ok (.iaload, 1) := by decide +kernel
theorem dS_isWithin_14 : decode prog_1_method_43_code 14 = .ok (.if_icmp .lt 14, 3) := by decide +kernel
theorem dS_isWithin_17 : decode prog_1_method_43_code 17 = .ok (.iload_n 1, 1) := by decide +kernel
theorem dS_isWithin_18 : decode prog_1_method_43_code 18 = .ok (.aload_n 0, 1) := by decide +kernel
theorem dS_isWithin_19 : decode prog_1_method_43_code 19 = .ok (.iload_n 2, 1) := by decide +kernel
theorem dS_isWithin_20 : decode prog_1_method_43_code 20 = .ok (.iconst 1, 1) := by decide +kernel
theorem dS_isWithin_21 : decode prog_1_method_43_code 21 = .ok (.iadd, 1) := by decide +kernel
theorem dS_isWithin_22 : decode prog_1_method_43_code 22 = .ok (.iaload, 1) := by decide +kernel
theorem dS_isWithin_23 : decode prog_1_method_43_code 23 = .ok (.if_icmp .gt 5, 3) := by decide +kernel
theorem dS_isWithin_26 : decode prog_1_method_43_code 26 = .ok (.iconst 1, 1) := by decide +kernel
theorem dS_isWithin_27 : decode prog_1_method_43_code 27 = .ok (.ireturn, 1) := by decide +kernel
theorem dS_isWithin_28 : decode prog_1_method_43_code 28 = .ok (.iinc 2 2, 3) := by decide +kernel
theorem dS_isWithin_31 : decode prog_1_method_43_code 31 = .ok (.goto (-29), 3) := by decide +kernel
theorem dS_isWithin_34 : decode prog_1_method_43_code 34 = .ok (.iconst 0, 1) := by decide +kernel
theorem dS_isWithin_35 : decode prog_1_method_43_code 35 = .ok (.ireturn, 1) := by decide +kernel
theorem dS_takeText_0 : decode prog_1_method_18_code 0 = .ok (.iload_n 1, 1) := by decide +kernel
theorem dS_takeText_1 : decode prog_1_method_18_code 1 = .ok (.invokestatic 81, 3) := by decide +kernel
theorem dS_takeText_4 : decode prog_1_method_18_code 4 = .ok (.istore_n 2, 1) := by decide +kernel
theorem dS_takeText_5 : decode prog_1_method_18_code 5 = .ok (.iconst (-1), 1) := by decide +kernel
theorem dS_takeText_6 : decode prog_1_method_18_code 6 = .ok (.istore_n 3, 1) := by decide +kernel
theorem dS_takeText_7 : decode prog_1_method_18_code 7 = .ok (.aload_n 0, 1) := by decide +kernel
theorem dS_takeText_8 : decode prog_1_method_18_code 8 = .ok (.iconst 0, 1) := by decide +kernel
theorem dS_takeText_9 : decode prog_1_method_18_code 9 = .ok (.putfield 20, 3) := by decide +kernel
theorem dS_takeText_12 : decode prog_1_method_18_code 12 = .ok (.iconst 0, 1) := by decide +kernel
theorem dS_takeText_13 : decode prog_1_method_18_code 13 = .ok (.istore 4, 2) := by decide +kernel
theorem dS_takeText_15 : decode prog_1_method_18_code 15 = .ok (.iload 4, 2) := by decide +kernel
theorem dS_takeText_17 : decode prog_1_method_18_code 17 = .ok (.sipush 4096, 3) := by decide +kernel
theorem dS_takeText_20 : decode prog_1_method_18_code 20 = .ok (.if_icmp .ge 80, 3) := by decide +kernel
theorem dS_takeText_23 : decode prog_1_method_18_code 23 = .ok (.iload_n 2, 1) := by decide +kernel
theorem dS_takeText_24 : decode prog_1_method_18_code 24 = .ok (.aload_n 0, 1) := by decide +kernel
theorem dS_takeText_25 : decode prog_1_method_18_code 25 = .ok (.getfield 16, 3) := by decide +kernel
theorem dS_takeText_28 : decode prog_1_method_18_code 28 = .ok (.if_icmp .ge 72, 3) := by decide +kernel
theorem dS_takeText_31 : decode prog_1_method_18_code 31 = .ok (.aload_n 0, 1) := by decide +kernel
theorem dS_takeText_32 : decode prog_1_method_18_code 32 = .ok (.iload_n 2, 1) := by decide +kernel
theorem dS_takeText_33 : decode prog_1_method_18_code 33 = .ok (.iload_n 1, 1) := by decide +kernel
theorem dS_takeText_34 : decode prog_1_method_18_code 34 = .ok (.invokevirtual 77, 3) := by decide +kernel
theorem dS_takeText_37 : decode prog_1_method_18_code 37 = .ok (.istore 5, 2) := by decide +kernel
theorem dS_takeText_39 : decode prog_1_method_18_code 39 = .ok (.iload_n 3, 1) := by decide +kernel
theorem dS_takeText_40 : decode prog_1_method_18_code 40 = .ok (.bipush 13, 2) := by decide +kernel
theorem dS_takeText_42 : decode prog_1_method_18_code 42 = .ok (.if_icmp .ne 14, 3) := by decide +kernel
theorem dS_takeText_45 : decode prog_1_method_18_code 45 = .ok (.iload 5, 2) := by decide +kernel
theorem dS_takeText_47 : decode prog_1_method_18_code 47 = .ok (.bipush 10, 2) := by decide +kernel
theorem dS_takeText_49 : decode prog_1_method_18_code 49 = .ok (.if_icmp .ne 7, 3) := by decide +kernel
theorem dS_takeText_52 : decode prog_1_method_18_code 52 = .ok (.iconst 1, 1) := by decide +kernel
theorem dS_takeText_53 : decode prog_1_method_18_code 53 = .ok (.goto 4, 3) := by decide +kernel
theorem dS_takeText_56 : decode prog_1_method_18_code 56 = .ok (.iconst 0, 1) := by decide +kernel
theorem dS_takeText_57 : decode prog_1_method_18_code 57 = .ok (.istore 6, 2) := by decide +kernel
theorem dS_takeText_59 : decode prog_1_method_18_code 59 = .ok (.iload 6, 2) := by decide +kernel
theorem dS_takeText_61 : decode prog_1_method_18_code 61 = .ok (.ifCond .ne 21, 3) := by decide +kernel
theorem dS_takeText_64 : decode prog_1_method_18_code 64 = .ok (.aload_n 0, 1) := by decide +kernel
theorem dS_takeText_65 : decode prog_1_method_18_code 65 = .ok (.iload 5, 2) := by decide +kernel
theorem dS_takeText_67 : decode prog_1_method_18_code 67 = .ok (.bipush 13, 2) := by decide +kernel
theorem dS_takeText_69 : decode prog_1_method_18_code 69 = .ok (.if_icmp .ne 8, 3) := by decide +kernel
theorem dS_takeText_72 : decode prog_1_method_18_code 72 = .ok (.bipush 10, 2) := by decide +kernel
theorem dS_takeText_74 : decode prog_1_method_18_code 74 = .ok (.goto 5, 3) := by decide +kernel
theorem dS_takeText_77 : decode prog_1_method_18_code 77 = .ok (.iload 5, 2) := by decide +kernel
theorem dS_takeText_79 : decode prog_1_method_18_code 79 = .ok (.invokevirtual 74, 3) := by decide +kernel
theorem dS_takeText_82 : decode prog_1_method_18_code 82 = .ok (.iload 5, 2) := by decide +kernel
theorem dS_takeText_84 : decode prog_1_method_18_code 84 = .ok (.istore_n 3, 1) := by decide +kernel
theorem dS_takeText_85 : decode prog_1_method_18_code 85 = .ok (.iload_n 2, 1) := by decide +kernel
theorem dS_takeText_86 : decode prog_1_method_18_code 86 = .ok (.iload 5, 2) := by decide +kernel
theorem dS_takeText_88 : decode prog_1_method_18_code 88 = .ok (.iload_n 1, 1) := by decide +kernel
theorem dS_takeText_89 : decode prog_1_method_18_code 89 = .ok (.invokestatic 84, 3) := by decide +kernel
theorem dS_takeText_92 : decode prog_1_method_18_code 92 = .ok (.iadd, 1) := by decide +kernel
theorem dS_takeText_93 : decode prog_1_method_18_code 93 = .ok (.istore_n 2, 1) := by decide +kernel
theorem dS_takeText_94 : decode prog_1_method_18_code 94 = .ok (.iinc 4 1, 3) := by decide +kernel
theorem dS_takeText_97 : decode prog_1_method_18_code 97 = .ok (.goto (-82), 3) := by decide +kernel
theorem dS_takeText_100 : decode prog_1_method_18_code 100 = .ok (.return_, 1) := by decide +kernel
theorem dS_putSign_0 : decode prog_1_method_19_code 0 = .ok (.aload_n 0, 1) := by decide +kernel
theorem dS_putSign_1 : decode prog_1_method_19_code 1 = .ok (.getfield 20, 3) := by decide +kernel
theorem dS_putSign_4 : decode prog_1_method_19_code 4 = .ok (.sipush 4096, 3) := by decide +kernel
theorem dS_putSign_7 : decode prog_1_method_19_code 7 = .ok (.if_icmp .ge 23, 3) := by decide +kernel
theorem dS_putSign_10 : decode prog_1_method_19_code 10 = .ok (.aload_n 0, 1) := by decide +kernel
theorem dS_putSign_11 : decode prog_1_method_19_code 11 = .ok (.getfield 13, 3) := by decide +kernel
theorem dS_putSign_14 : decode prog_1_method_19_code 14 = .ok (.aload_n 0, 1) := by decide +kernel
theorem dS_putSign_15 : decode prog_1_method_19_code 15 = .ok (.getfield 20, 3) := by decide +kernel
theorem dS_putSign_18 : decode prog_1_method_19_code 18 = .ok (.iload_n 1, 1) := by decide +kernel
theorem dS_putSign_19 : decode prog_1_method_19_code 19 = .ok (.iastore, 1) := by decide +kernel
theorem dS_putSign_20 : decode prog_1_method_19_code 20 = .ok (.aload_n 0, 1) := by decide +kernel
theorem dS_putSign_21 : decode prog_1_method_19_code 21 = .ok (.dup, 1) := by decide +kernel
theorem dS_putSign_22 : decode prog_1_method_19_code 22 = .ok (.getfield 20, 3) := by decide +kernel
theorem dS_putSign_25 : decode prog_1_method_19_code 25 = .ok (.iconst 1, 1) := by decide +kernel
theorem dS_putSign_26 : decode prog_1_method_19_code 26 = .ok (.iadd, 1) := by decide +kernel
theorem dS_putSign_27 : decode prog_1_method_19_code 27 = .ok (.putfield 20, 3) := by decide +kernel
theorem dS_putSign_30 : decode prog_1_method_19_code 30 = .ok (.return_, 1) := by decide +kernel
theorem dS_length_0 : decode prog_1_method_7_code 0 = .ok (.aload_n 0, 1) := by decide +kernel
theorem dS_length_1 : decode prog_1_method_7_code 1 = .ok (.getfield 20, 3) := by decide +kernel
theorem dS_length_4 : decode prog_1_method_7_code 4 = .ok (.ireturn, 1) := by decide +kernel
theorem dS_sign_0 : decode prog_1_method_8_code 0 = .ok (.aload_n 0, 1) := by decide +kernel
theorem dS_sign_1 : decode prog_1_method_8_code 1 = .ok (.iload_n 1, 1) := by decide +kernel
theorem dS_sign_2 : decode prog_1_method_8_code 2 = .ok (.invokevirtual 57, 3) := by decide +kernel
theorem dS_sign_5 : decode prog_1_method_8_code 5 = .ok (.ifCond .eq 12, 3) := by decide +kernel
theorem dS_sign_8 : decode prog_1_method_8_code 8 = .ok (.aload_n 0, 1) := by decide +kernel
theorem dS_sign_9 : decode prog_1_method_8_code 9 = .ok (.getfield 13, 3) := by decide +kernel
theorem dS_sign_12 : decode prog_1_method_8_code 12 = .ok (.iload_n 1, 1) := by decide +kernel
theorem dS_sign_13 : decode prog_1_method_8_code 13 = .ok (.iaload, 1) := by decide +kernel
theorem dS_sign_14 : decode prog_1_method_8_code 14 = .ok (.goto 4, 3) := by decide +kernel
theorem dS_sign_17 : decode prog_1_method_8_code 17 = .ok (.iconst (-1), 1) := by decide +kernel
theorem dS_sign_18 : decode prog_1_method_8_code 18 = .ok (.ireturn, 1) := by decide +kernel
theorem dS_hasSign_0 : decode prog_1_method_15_code 0 = .ok (.iload_n 1, 1) := by decide +kernel
theorem dS_hasSign_1 : decode prog_1_method_15_code 1 = .ok (.ifCond .lt 15, 3) := by decide +kernel
theorem dS_hasSign_4 : decode prog_1_method_15_code 4 = .ok (.iload_n 1, 1) := by decide +kernel
theorem dS_hasSign_5 : decode prog_1_method_15_code 5 = .ok (.aload_n 0, 1) := by decide +kernel
theorem dS_hasSign_6 : decode prog_1_method_15_code 6 = .ok (.getfield 20, 3) := by decide +kernel
theorem dS_hasSign_9 : decode prog_1_method_15_code 9 = .ok (.if_icmp .ge 7, 3) := by decide +kernel
theorem dS_hasSign_12 : decode prog_1_method_15_code 12 = .ok (.iconst 1, 1) := by decide +kernel
theorem dS_hasSign_13 : decode prog_1_method_15_code 13 = .ok (.goto 4, 3) := by decide +kernel
theorem dS_hasSign_16 : decode prog_1_method_15_code 16 = .ok (.iconst 0, 1) := by decide +kernel
theorem dS_hasSign_17 : decode prog_1_method_15_code 17 = .ok (.ireturn, 1) := by decide +kernel
theorem dS_way_0 : decode prog_1_method_9_code 0 = .ok (.aload_n 0, 1) := by decide +kernel
theorem dS_way_1 : decode prog_1_method_9_code 1 = .ok (.getfield 23, 3) := by decide +kernel
theorem dS_way_4 : decode prog_1_method_9_code 4 = .ok (.ireturn, 1) := by decide +kernel
theorem dS_kinds_0 : decode prog_1_method_10_code 0 = .ok (.iload_n 1, 1) := by decide +kernel
theorem dS_kinds_1 : decode prog_1_method_10_code 1 = .ok (.invokestatic 60, 3) := by decide +kernel
theorem dS_kinds_4 : decode prog_1_method_10_code 4 = .ok (.ireturn, 1) := by decide +kernel
theorem dS_kindsOf_0 : decode prog_1_method_37_code 0 = .ok (.iload_n 0, 1) := by decide +kernel
theorem dS_kindsOf_1 : decode prog_1_method_37_code 1 = .ok (.invokestatic 128, 3) := by decide +kernel
theorem dS_kindsOf_4 : decode prog_1_method_37_code 4 = .ok (.ifCond .eq 7, 3) := by decide +kernel
theorem dS_kindsOf_7 : decode prog_1_method_37_code 7 = .ok (.iconst 1, 1) := by decide +kernel
theorem dS_kindsOf_8 : decode prog_1_method_37_code 8 = .ok (.goto 4, 3) := by decide +kernel
theorem dS_kindsOf_11 : decode prog_1_method_37_code 11 = .ok (.iconst 0, 1) := by decide +kernel
theorem dS_kindsOf_12 : decode prog_1_method_37_code 12 = .ok (.istore_n 1, 1) := by decide +kernel
theorem dS_kindsOf_13 : decode prog_1_method_37_code 13 = .ok (.iload_n 0, 1) := by decide +kernel
theorem dS_kindsOf_14 : decode prog_1_method_37_code 14 = .ok (.invokestatic 131, 3) := by decide +kernel
theorem dS_kindsOf_17 : decode prog_1_method_37_code 17 = .ok (.ifCond .eq 6, 3) := by decide +kernel
theorem dS_kindsOf_20 : decode prog_1_method_37_code 20 = .ok (.iinc 1 2, 3) := by decide +kernel
theorem dS_kindsOf_23 : decode prog_1_method_37_code 23 = .ok (.iload_n 0, 1) := by decide +kernel
theorem dS_kindsOf_24 : decode prog_1_method_37_code 24 = .ok (.invokestatic 134, 3) := by decide +kernel
theorem dS_kindsOf_27 : decode prog_1_method_37_code 27 = .ok (.ifCond .eq 6, 3) := by decide +kernel
theorem dS_kindsOf_30 : decode prog_1_method_37_code 30 = .ok (.iinc 1 4, 3) := by decide +kernel
theorem dS_kindsOf_33 : decode prog_1_method_37_code 33 = .ok (.getstatic 137, 3) := by decide +kernel
theorem dS_kindsOf_36 : decode prog_1_method_37_code 36 = .ok (.iload_n 0, 1) := by decide +kernel
theorem dS_kindsOf_37 : decode prog_1_method_37_code 37 = .ok (.invokestatic 140, 3) := by decide +kernel
theorem dS_kindsOf_40 : decode prog_1_method_37_code 40 = .ok (.ifCond .eq 9, 3) := by decide +kernel
theorem dS_kindsOf_43 : decode prog_1_method_37_code 43 = .ok (.iinc 1 24, 3) := by decide +kernel
theorem dS_kindsOf_46 : decode prog_1_method_37_code 46 = .ok (.goto 16, 3) := by decide +kernel
theorem dS_kindsOf_49 : decode prog_1_method_37_code 49 = .ok (.getstatic 144, 3) := by decide +kernel
theorem dS_kindsOf_52 : decode prog_1_method_37_code 52 = .ok (.iload_n 0, 1) := by decide +kernel
theorem dS_kindsOf_53 : decode prog_1_method_37_code 53 = .ok (.invokestatic 140, 3) := by decide +kernel
theorem dS_kindsOf_56 : decode prog_1_method_37_code 56 = .ok (.ifCond .eq 6, 3) := by decide +kernel
theorem dS_kindsOf_59 : decode prog_1_method_37_code 59 = .ok (.iinc 1 16, 3) := by decide +kernel
theorem dS_kindsOf_62 : decode prog_1_method_37_code 62 = .ok (.iload_n 0, 1) := by decide +kernel
theorem dS_kindsOf_63 : decode prog_1_method_37_code 63 = .ok (.invokestatic 147, 3) := by decide +kernel
theorem dS_kindsOf_66 : decode prog_1_method_37_code 66 = .ok (.ifCond .eq 6, 3) := by decide +kernel
theorem dS_kindsOf_69 : decode prog_1_method_37_code 69 = .ok (.iinc 1 32, 3) := by decide +kernel
theorem dS_kindsOf_72 : decode prog_1_method_37_code 72 = .ok (.iload_n 1, 1) := by decide +kernel
theorem dS_kindsOf_73 : decode prog_1_method_37_code 73 = .ok (.ireturn, 1) := by decide +kernel
theorem dS_isSpace_0 : decode prog_1_method_39_code 0 = .ok (.iload_n 0, 1) := by decide +kernel
theorem dS_isSpace_1 : decode prog_1_method_39_code 1 = .ok (.bipush 32, 2) := by decide +kernel
theorem dS_isSpace_3 : decode prog_1_method_39_code 3 = .ok (.if_icmp .eq 21, 3) := by decide +kernel
theorem dS_isSpace_6 : decode prog_1_method_39_code 6 = .ok (.iload_n 0, 1) := by decide +kernel
theorem dS_isSpace_7 : decode prog_1_method_39_code 7 = .ok (.bipush 9, 2) := by decide +kernel
theorem dS_isSpace_9 : decode prog_1_method_39_code 9 = .ok (.if_icmp .eq 15, 3) := by decide +kernel
theorem dS_isSpace_12 : decode prog_1_method_39_code 12 = .ok (.iload_n 0, 1) := by decide +kernel
theorem dS_isSpace_13 : decode prog_1_method_39_code 13 = .ok (.bipush 13, 2) := by decide +kernel
theorem dS_isSpace_15 : decode prog_1_method_39_code 15 = .ok (.if_icmp .eq 9, 3) := by decide +kernel
theorem dS_isSpace_18 : decode prog_1_method_39_code 18 = .ok (.iload_n 0, 1) := by decide +kernel
theorem dS_isSpace_19 : decode prog_1_method_39_code 19 = .ok (.bipush 10, 2) := by decide +kernel
theorem dS_isSpace_21 : decode prog_1_method_39_code 21 = .ok (.if_icmp .ne 7, 3) := by decide +kernel
theorem dS_isSpace_24 : decode prog_1_method_39_code 24 = .ok (.iconst 1, 1) := by decide +kernel
theorem dS_isSpace_25 : decode prog_1_method_39_code 25 = .ok (.goto 4, 3) := by decide +kernel
theorem dS_isSpace_28 : decode prog_1_method_39_code 28 = .ok (.iconst 0, 1) := by decide +kernel
theorem dS_isSpace_29 : decode prog_1_method_39_code 29 = .ok (.ireturn, 1) := by decide +kernel
theorem dS_isLetter_0 : decode prog_1_method_40_code 0 = .ok (.iload_n 0, 1) := by decide +kernel
theorem dS_isLetter_1 : decode prog_1_method_40_code 1 = .ok (.bipush 65, 2) := by decide +kernel
theorem dS_isLetter_3 : decode prog_1_method_40_code 3 = .ok (.if_icmp .lt 9, 3) := by decide +kernel
theorem dS_isLetter_6 : decode prog_1_method_40_code 6 = .ok (.iload_n 0, 1) := by decide +kernel
theorem dS_isLetter_7 : decode prog_1_method_40_code 7 = .ok (.bipush 90, 2) := by decide +kernel
theorem dS_isLetter_9 : decode prog_1_method_40_code 9 = .ok (.if_icmp .le 15, 3) := by decide +kernel
theorem dS_isLetter_12 : decode prog_1_method_40_code 12 = .ok (.iload_n 0, 1) := by decide +kernel
theorem dS_isLetter_13 : decode prog_1_method_40_code 13 = .ok (.bipush 97, 2) := by decide +kernel
theorem dS_isLetter_15 : decode prog_1_method_40_code 15 = .ok (.if_icmp .lt 13, 3) := by decide +kernel
theorem dS_isLetter_18 : decode prog_1_method_40_code 18 = .ok (.iload_n 0, 1) := by decide +kernel
theorem dS_isLetter_19 : decode prog_1_method_40_code 19 = .ok (.bipush 122, 2) := by decide +kernel
theorem dS_isLetter_21 : decode prog_1_method_40_code 21 = .ok (.if_icmp .gt 7, 3) := by decide +kernel
theorem dS_isLetter_24 : decode prog_1_method_40_code 24 = .ok (.iconst 1, 1) := by decide +kernel
theorem dS_isLetter_25 : decode prog_1_method_40_code 25 = .ok (.goto 4, 3) := by decide +kernel
theorem dS_isLetter_28 : decode prog_1_method_40_code 28 = .ok (.iconst 0, 1) := by decide +kernel
theorem dS_isLetter_29 : decode prog_1_method_40_code 29 = .ok (.ireturn, 1) := by decide +kernel
theorem dS_isDigit_0 : decode prog_1_method_41_code 0 = .ok (.iload_n 0, 1) := by decide +kernel
theorem dS_isDigit_1 : decode prog_1_method_41_code 1 = .ok (.bipush 48, 2) := by decide +kernel
theorem dS_isDigit_3 : decode prog_1_method_41_code 3 = .ok (.if_icmp .lt 13, 3) := by decide +kernel
theorem dS_isDigit_6 : decode prog_1_method_41_code 6 = .ok (.iload_n 0, 1) := by decide +kernel
theorem dS_isDigit_7 : decode prog_1_method_41_code 7 = .ok (.bipush 57, 2) := by decide +kernel
theorem dS_isDigit_9 : decode prog_1_method_41_code 9 = .ok (.if_icmp .gt 7, 3) := by decide +kernel
theorem dS_isDigit_12 : decode prog_1_method_41_code 12 = .ok (.iconst 1, 1) := by decide +kernel
theorem dS_isDigit_13 : decode prog_1_method_41_code 13 = .ok (.goto 4, 3) := by decide +kernel
theorem dS_isDigit_16 : decode prog_1_method_41_code 16 = .ok (.iconst 0, 1) := by decide +kernel
theorem dS_isDigit_17 : decode prog_1_method_41_code 17 = .ok (.ireturn, 1) := by decide +kernel
theorem dS_isPublic_0 : decode prog_1_method_42_code 0 = .ok (.iload_n 0, 1) := by decide +kernel
theorem dS_isPublic_1 : decode prog_1_method_42_code 1 = .ok (.bipush 32, 2) := by decide +kernel
theorem dS_isPublic_3 : decode prog_1_method_42_code 3 = .ok (.if_icmp .eq 23, 3) := by decide +kernel
theorem dS_isPublic_6 : decode prog_1_method_42_code 6 = .ok (.iload_n 0, 1) := by decide +kernel
theorem dS_isPublic_7 : decode prog_1_method_42_code 7 = .ok (.bipush 10, 2) := by decide +kernel
theorem dS_isPublic_9 : decode prog_1_method_42_code 9 = .ok (.if_icmp .eq 17, 3) := by decide +kernel
theorem dS_isPublic_12 : decode prog_1_method_42_code 12 = .ok (.iload_n 0, 1) := by decide +kernel
theorem dS_isPublic_13 : decode prog_1_method_42_code 13 = .ok (.invokestatic 131, 3) := by decide +kernel
theorem dS_isPublic_16 : decode prog_1_method_42_code 16 = .ok (.ifCond .ne 10, 3) := by decide +kernel
theorem dS_isPublic_19 : decode prog_1_method_42_code 19 = .ok (.iload_n 0, 1) := by decide +kernel
theorem dS_isPublic_20 : decode prog_1_method_42_code 20 = .ok (.invokestatic 134, 3) := by decide +kernel
theorem dS_isPublic_23 : decode prog_1_method_42_code 23 = .ok (.ifCond .eq 5, 3) := by decide +kernel
theorem dS_isPublic_26 : decode prog_1_method_42_code 26 = .ok (.iconst 1, 1) := by decide +kernel
theorem dS_isPublic_27 : decode prog_1_method_42_code 27 = .ok (.ireturn, 1) := by decide +kernel
theorem dS_isPublic_28 : decode prog_1_method_42_code 28 = .ok (.iload_n 0, 1) := by decide +kernel
theorem dS_isPublic_29 : decode prog_1_method_42_code 29 = .ok (.bipush 32, 2) := by decide +kernel
theorem dS_isPublic_31 : decode prog_1_method_42_code 31 = .ok (.if_icmp .le 24, 3) := by decide +kernel
theorem dS_isPublic_34 : decode prog_1_method_42_code 34 = .ok (.iload_n 0, 1) := by decide +kernel
theorem dS_isPublic_35 : decode prog_1_method_42_code 35 = .ok (.sipush 128, 3) := by decide +kernel
theorem dS_isPublic_38 : decode prog_1_method_42_code 38 = .ok (.if_icmp .ge 17, 3) := by decide +kernel
theorem dS_isPublic_41 : decode prog_1_method_42_code 41 = .ok (.ldc 153, 2) := by decide +kernel
theorem dS_isPublic_43 : decode prog_1_method_42_code 43 = .ok (.iload_n 0, 1) := by decide +kernel
theorem dS_isPublic_44 : decode prog_1_method_42_code 44 = .ok (.i2c, 1) := by decide +kernel
theorem dS_isPublic_45 : decode prog_1_method_42_code 45 = .ok (.invokevirtual 155, 3) := by decide +kernel
theorem dS_isPublic_48 : decode prog_1_method_42_code 48 = .ok (.ifCond .lt 7, 3) := by decide +kernel
theorem dS_isPublic_51 : decode prog_1_method_42_code 51 = .ok (.iconst 1, 1) := by decide +kernel
theorem dS_isPublic_52 : decode prog_1_method_42_code 52 = .ok (.goto 4, 3) := by decide +kernel
theorem dS_isPublic_55 : decode prog_1_method_42_code 55 = .ok (.iconst 0, 1) := by decide +kernel
theorem dS_isPublic_56 : decode prog_1_method_42_code 56 = .ok (.ireturn, 1) := by decide +kernel
theorem dS_run_0 : decode prog_1_method_11_code 0 = .ok (.aload_n 0, 1) := by decide +kernel
theorem dS_run_1 : decode prog_1_method_11_code 1 = .ok (.iload_n 1, 1) := by decide +kernel
theorem dS_run_2 : decode prog_1_method_11_code 2 = .ok (.invokevirtual 57, 3) := by decide +kernel
theorem dS_run_5 : decode prog_1_method_11_code 5 = .ok (.ifCond .ne 5, 3) := by decide +kernel
theorem dS_run_8 : decode prog_1_method_11_code 8 = .ok (.iconst 0, 1) := by decide +kernel
theorem dS_run_9 : decode prog_1_method_11_code 9 = .ok (.ireturn, 1) := by decide +kernel
theorem dS_run_10 : decode prog_1_method_11_code 10 = .ok (.iload_n 1, 1) := by decide +kernel
theorem dS_run_11 : decode prog_1_method_11_code 11 = .ok (.istore_n 3, 1) := by decide +kernel
theorem dS_run_12 : decode prog_1_method_11_code 12 = .ok (.iload_n 3, 1) := by decide +kernel
theorem dS_run_13 : decode prog_1_method_11_code 13 = .ok (.aload_n 0, 1) := by decide +kernel
theorem dS_run_14 : decode prog_1_method_11_code 14 = .ok (.getfield 20, 3) := by decide +kernel
theorem dS_run_17 : decode prog_1_method_11_code 17 = .ok (.if_icmp .ge 23, 3) := by decide +kernel
theorem dS_run_20 : decode prog_1_method_11_code 20 = .ok (.aload_n 0, 1) := by decide +kernel
theorem dS_run_21 : decode prog_1_method_11_code 21 = .ok (.getfield 13, 3) := by decide +kernel
theorem dS_run_24 : decode prog_1_method_11_code 24 = .ok (.iload_n 3, 1) := by decide +kernel
theorem dS_run_25 : decode prog_1_method_11_code 25 = .ok (.iaload, 1) := by decide +kernel
theorem dS_run_26 : decode prog_1_method_11_code 26 = .ok (.invokestatic 60, 3) := by decide +kernel
theorem dS_run_29 : decode prog_1_method_11_code 29 = .ok (.iload_n 2, 1) := by decide +kernel
theorem dS_run_30 : decode prog_1_method_11_code 30 = .ok (.iand, 1) := by decide +kernel
theorem dS_run_31 : decode prog_1_method_11_code 31 = .ok (.ifCond .eq 9, 3) := by decide +kernel
theorem dS_run_34 : decode prog_1_method_11_code 34 = .ok (.iinc 3 1, 3) := by decide +kernel
theorem dS_run_37 : decode prog_1_method_11_code 37 = .ok (.goto (-25), 3) := by decide +kernel
theorem dS_run_40 : decode prog_1_method_11_code 40 = .ok (.iload_n 3, 1) := by decide +kernel
theorem dS_run_41 : decode prog_1_method_11_code 41 = .ok (.iload_n 1, 1) := by decide +kernel
theorem dS_run_42 : decode prog_1_method_11_code 42 = .ok (.isub, 1) := by decide +kernel
theorem dS_run_43 : decode prog_1_method_11_code 43 = .ok (.ireturn, 1) := by decide +kernel
theorem dS_write_0 : decode prog_1_method_12_code 0 = .ok (.iload_n 1, 1) := by decide +kernel
theorem dS_write_1 : decode prog_1_method_12_code 1 = .ok (.ifCond .lt 19, 3) := by decide +kernel
theorem dS_write_4 : decode prog_1_method_12_code 4 = .ok (.iload_n 1, 1) := by decide +kernel
theorem dS_write_5 : decode prog_1_method_12_code 5 = .ok (.iconst 3, 1) := by decide +kernel
theorem dS_write_6 : decode prog_1_method_12_code 6 = .ok (.if_icmp .gt 14, 3) := by decide +kernel
theorem dS_write_9 : decode prog_1_method_12_code 9 = .ok (.aload_n 0, 1) := by decide +kernel
theorem dS_write_10 : decode prog_1_method_12_code 10 = .ok (.iload_n 1, 1) := by decide +kernel
theorem dS_write_11 : decode prog_1_method_12_code 11 = .ok (.invokevirtual 63, 3) := by decide +kernel
theorem dS_write_14 : decode prog_1_method_12_code 14 = .ok (.sipush 4096, 3) := by decide +kernel
theorem dS_write_17 : decode prog_1_method_12_code 17 = .ok (.if_icmp .le 5, 3) := by decide +kernel
theorem dS_write_20 : decode prog_1_method_12_code 20 = .ok (.iconst (-1), 1) := by decide +kernel
theorem dS_write_21 : decode prog_1_method_12_code 21 = .ok (.ireturn, 1) := by decide +kernel
theorem dS_write_22 : decode prog_1_method_12_code 22 = .ok (.aload_n 0, 1) := by decide +kernel
theorem dS_write_23 : decode prog_1_method_12_code 23 = .ok (.iconst 0, 1) := by decide +kernel
theorem dS_write_24 : decode prog_1_method_12_code 24 = .ok (.putfield 16, 3) := by decide +kernel
theorem dS_write_27 : decode prog_1_method_12_code 27 = .ok (.iload_n 1, 1) := by decide +kernel
theorem dS_write_28 : decode prog_1_method_12_code 28 = .ok (.ifCond .eq 10, 3) := by decide +kernel
theorem dS_write_31 : decode prog_1_method_12_code 31 = .ok (.aload_n 0, 1) := by decide +kernel
theorem dS_write_32 : decode prog_1_method_12_code 32 = .ok (.ldc 66, 2) := by decide +kernel
theorem dS_write_34 : decode prog_1_method_12_code 34 = .ok (.iload_n 1, 1) := by decide +kernel
theorem dS_write_35 : decode prog_1_method_12_code 35 = .ok (.invokevirtual 67, 3) := by decide +kernel
theorem dS_write_38 : decode prog_1_method_12_code 38 = .ok (.iconst 0, 1) := by decide +kernel
theorem dS_write_39 : decode prog_1_method_12_code 39 = .ok (.istore_n 2, 1) := by decide +kernel
theorem dS_write_40 : decode prog_1_method_12_code 40 = .ok (.iload_n 2, 1) := by decide +kernel
theorem dS_write_41 : decode prog_1_method_12_code 41 = .ok (.aload_n 0, 1) := by decide +kernel
theorem dS_write_42 : decode prog_1_method_12_code 42 = .ok (.getfield 20, 3) := by decide +kernel
theorem dS_write_45 : decode prog_1_method_12_code 45 = .ok (.if_icmp .ge 20, 3) := by decide +kernel
theorem dS_write_48 : decode prog_1_method_12_code 48 = .ok (.aload_n 0, 1) := by decide +kernel
theorem dS_write_49 : decode prog_1_method_12_code 49 = .ok (.aload_n 0, 1) := by decide +kernel
theorem dS_write_50 : decode prog_1_method_12_code 50 = .ok (.getfield 13, 3) := by decide +kernel
theorem dS_write_53 : decode prog_1_method_12_code 53 = .ok (.iload_n 2, 1) := by decide +kernel
theorem dS_write_54 : decode prog_1_method_12_code 54 = .ok (.iaload, 1) := by decide +kernel
theorem dS_write_55 : decode prog_1_method_12_code 55 = .ok (.iload_n 1, 1) := by decide +kernel
theorem dS_write_56 : decode prog_1_method_12_code 56 = .ok (.invokevirtual 67, 3) := by decide +kernel
theorem dS_write_59 : decode prog_1_method_12_code 59 = .ok (.iinc 2 1, 3) := by decide +kernel
theorem dS_write_62 : decode prog_1_method_12_code 62 = .ok (.goto (-22), 3) := by decide +kernel
theorem dS_write_65 : decode prog_1_method_12_code 65 = .ok (.aload_n 0, 1) := by decide +kernel
theorem dS_write_66 : decode prog_1_method_12_code 66 = .ok (.getfield 16, 3) := by decide +kernel
theorem dS_write_69 : decode prog_1_method_12_code 69 = .ok (.ireturn, 1) := by decide +kernel
theorem dS_sizeWritten_0 : decode prog_1_method_25_code 0 = .ok (.iload_n 1, 1) := by decide +kernel
theorem dS_sizeWritten_1 : decode prog_1_method_25_code 1 = .ok (.invokestatic 81, 3) := by decide +kernel
theorem dS_sizeWritten_4 : decode prog_1_method_25_code 4 = .ok (.istore_n 2, 1) := by decide +kernel
theorem dS_sizeWritten_5 : decode prog_1_method_25_code 5 = .ok (.iconst 0, 1) := by decide +kernel
theorem dS_sizeWritten_6 : decode prog_1_method_25_code 6 = .ok (.istore_n 3, 1) := by decide +kernel
theorem dS_sizeWritten_7 : decode prog_1_method_25_code 7 = .ok (.iload_n 3, 1) := by decide +kernel
theorem dS_sizeWritten_8 : decode prog_1_method_25_code 8 = .ok (.aload_n 0, 1) := by decide +kernel
theorem dS_sizeWritten_9 : decode prog_1_method_25_code 9 = .ok (.getfield 20, 3) := by decide +kernel
theorem dS_sizeWritten_12 : decode prog_1_method_25_code 12 = .ok (.if_icmp .ge 22, 3) := by decide +kernel
theorem dS_sizeWritten_15 : decode prog_1_method_25_code 15 = .ok (.iload_n 2, 1) := by decide +kernel
theorem dS_sizeWritten_16 : decode prog_1_method_25_code 16 = .ok (.aload_n 0, 1) := by decide +kernel
theorem dS_sizeWritten_17 : decode prog_1_method_25_code 17 = .ok (.getfield 13, 3) := by decide +kernel
theorem dS_sizeWritten_20 : decode prog_1_method_25_code 20 = .ok (.iload_n 3, 1) := by decide +kernel
theorem dS_sizeWritten_21 : decode prog_1_method_25_code 21 = .ok (.iaload, 1) := by decide +kernel
theorem dS_sizeWritten_22 : decode prog_1_method_25_code 22 = .ok (.iload_n 1, 1) := by decide +kernel
theorem dS_sizeWritten_23 : decode prog_1_method_25_code 23 = .ok (.invokestatic 84, 3) := by decide +kernel
theorem dS_sizeWritten_26 : decode prog_1_method_25_code 26 = .ok (.iadd, 1) := by decide +kernel
theorem dS_sizeWritten_27 : decode prog_1_method_25_code 27 = .ok (.istore_n 2, 1) := by decide +kernel
theorem dS_sizeWritten_28 : decode prog_1_method_25_code 28 = .ok (.iinc 3 1, 3) := by decide +kernel
theorem dS_sizeWritten_31 : decode prog_1_method_25_code 31 = .ok (.goto (-24), 3) := by decide +kernel
theorem dS_sizeWritten_34 : decode prog_1_method_25_code 34 = .ok (.iload_n 2, 1) := by decide +kernel
theorem dS_sizeWritten_35 : decode prog_1_method_25_code 35 = .ok (.ireturn, 1) := by decide +kernel
theorem dS_putCharacter_0 : decode prog_1_method_31_code 0 = .ok (.iload_n 2, 1) := by decide +kernel
theorem dS_putCharacter_1 : decode prog_1_method_31_code 1 = .ok (.invokestatic 87, 3) := by decide +kernel
theorem dS_putCharacter_4 : decode prog_1_method_31_code 4 = .ok (.ifCond .eq 12, 3) := by decide +kernel
theorem dS_putCharacter_7 : decode prog_1_method_31_code 7 = .ok (.aload_n 0, 1) := by decide +kernel
theorem dS_putCharacter_8 : decode prog_1_method_31_code 8 = .ok (.iload_n 1, 1) := by decide +kernel
theorem dS_putCharacter_9 : decode prog_1_method_31_code 9 = .ok (.iload_n 2, 1) := by decide +kernel
theorem dS_putCharacter_10 : decode prog_1_method_31_code 10 = .ok (.invokevirtual 116, 3) := by decide +kernel
theorem dS_putCharacter_13 : decode prog_1_method_31_code 13 = .ok (.goto 8, 3) := by decide +kernel
theorem dS_putCharacter_16 : decode prog_1_method_31_code 16 = .ok (.aload_n 0, 1) := by decide +kernel
theorem dS_putCharacter_17 : decode prog_1_method_31_code 17 = .ok (.iload_n 1, 1) := by decide +kernel
theorem dS_putCharacter_18 : decode prog_1_method_31_code 18 = .ok (.invokevirtual 119, 3) := by decide +kernel
theorem dS_putCharacter_21 : decode prog_1_method_31_code 21 = .ok (.return_, 1) := by decide +kernel
theorem dS_put16Bits_0 : decode prog_1_method_33_code 0 = .ok (.iload_n 1, 1) := by decide +kernel
theorem dS_put16Bits_1 : decode prog_1_method_33_code 1 = .ok (.ldc 112, 2) := by decide +kernel
theorem dS_put16Bits_3 : decode prog_1_method_33_code 3 = .ok (.if_icmp .ge 10, 3) := by decide +kernel
theorem dS_put16Bits_6 : decode prog_1_method_33_code 6 = .ok (.aload_n 0, 1) := by decide +kernel
theorem dS_put16Bits_7 : decode prog_1_method_33_code 7 = .ok (.iload_n 1, 1) := by decide +kernel
theorem dS_put16Bits_8 : decode prog_1_method_33_code 8 = .ok (.iload_n 2, 1) := by decide +kernel
theorem dS_put16Bits_9 : decode prog_1_method_33_code 9 = .ok (.invokevirtual 125, 3) := by decide +kernel
theorem dS_put16Bits_12 : decode prog_1_method_33_code 12 = .ok (.return_, 1) := by decide +kernel
theorem dS_put16Bits_13 : decode prog_1_method_33_code 13 = .ok (.iload_n 1, 1) := by decide +kernel
theorem dS_put16Bits_14 : decode prog_1_method_33_code 14 = .ok (.ldc 112, 2) := by decide +kernel
theorem dS_put16Bits_16 : decode prog_1_method_33_code 16 = .ok (.isub, 1) := by decide +kernel
theorem dS_put16Bits_17 : decode prog_1_method_33_code 17 = .ok (.istore_n 3, 1) := by decide +kernel
theorem dS_put16Bits_18 : decode prog_1_method_33_code 18 = .ok (.aload_n 0, 1) := by decide +kernel
theorem dS_put16Bits_19 : decode prog_1_method_33_code 19 = .ok (.ldc 108, 2) := by decide +kernel
theorem dS_put16Bits_21 : decode prog_1_method_33_code 21 = .ok (.iload_n 3, 1) := by decide +kernel
theorem dS_put16Bits_22 : decode prog_1_method_33_code 22 = .ok (.bipush 10, 2) := by decide +kernel
theorem dS_put16Bits_24 : decode prog_1_method_33_code 24 = .ok (.ishr, 1) := by decide +kernel
theorem dS_put16Bits_25 : decode prog_1_method_33_code 25 = .ok (.iadd, 1) := by decide +kernel
theorem dS_put16Bits_26 : decode prog_1_method_33_code 26 = .ok (.iload_n 2, 1) := by decide +kernel
theorem dS_put16Bits_27 : decode prog_1_method_33_code 27 = .ok (.invokevirtual 125, 3) := by decide +kernel
theorem dS_put16Bits_30 : decode prog_1_method_33_code 30 = .ok (.aload_n 0, 1) := by decide +kernel
theorem dS_put16Bits_31 : decode prog_1_method_33_code 31 = .ok (.ldc 110, 2) := by decide +kernel
theorem dS_put16Bits_33 : decode prog_1_method_33_code 33 = .ok (.iload_n 3, 1) := by decide +kernel
theorem dS_put16Bits_34 : decode prog_1_method_33_code 34 = .ok (.sipush 1023, 3) := by decide +kernel
theorem dS_put16Bits_37 : decode prog_1_method_33_code 37 = .ok (.iand, 1) := by decide +kernel
theorem dS_put16Bits_38 : decode prog_1_method_33_code 38 = .ok (.iadd, 1) := by decide +kernel
theorem dS_put16Bits_39 : decode prog_1_method_33_code 39 = .ok (.iload_n 2, 1) := by decide +kernel
theorem dS_put16Bits_40 : decode prog_1_method_33_code 40 = .ok (.invokevirtual 125, 3) := by decide +kernel
theorem dS_put16Bits_43 : decode prog_1_method_33_code 43 = .ok (.return_, 1) := by decide +kernel
theorem dS_putPair_0 : decode prog_1_method_34_code 0 = .ok (.iload_n 2, 1) := by decide +kernel
theorem dS_putPair_1 : decode prog_1_method_34_code 1 = .ok (.iconst 1, 1) := by decide +kernel
theorem dS_putPair_2 : decode prog_1_method_34_code 2 = .ok (.if_icmp .ne 19, 3) := by decide +kernel
theorem dS_putPair_5 : decode prog_1_method_34_code 5 = .ok (.aload_n 0, 1) := by decide +kernel
theorem dS_putPair_6 : decode prog_1_method_34_code 6 = .ok (.iload_n 1, 1) := by decide +kernel
theorem dS_putPair_7 : decode prog_1_method_34_code 7 = .ok (.bipush 8, 2) := by decide +kernel
theorem dS_putPair_9 : decode prog_1_method_34_code 9 = .ok (.ishr, 1) := by decide +kernel
theorem dS_putPair_10 : decode prog_1_method_34_code 10 = .ok (.invokevirtual 122, 3) := by decide +kernel
theorem dS_putPair_13 : decode prog_1_method_34_code 13 = .ok (.aload_n 0, 1) := by decide +kernel
theorem dS_putPair_14 : decode prog_1_method_34_code 14 = .ok (.iload_n 1, 1) := by decide +kernel
theorem dS_putPair_15 : decode prog_1_method_34_code 15 = .ok (.invokevirtual 122, 3) := by decide +kernel
theorem dS_putPair_18 : decode prog_1_method_34_code 18 = .ok (.goto 16, 3) := by decide +kernel
theorem dS_putPair_21 : decode prog_1_method_34_code 21 = .ok (.aload_n 0, 1) := by decide +kernel
theorem dS_putPair_22 : decode prog_1_method_34_code 22 = .ok (.iload_n 1, 1) := by decide +kernel
theorem dS_putPair_23 : decode prog_1_method_34_code 23 = .ok (.invokevirtual 122, 3) := by decide +kernel
theorem dS_putPair_26 : decode prog_1_method_34_code 26 = .ok (.aload_n 0, 1) := by decide +kernel
theorem dS_putPair_27 : decode prog_1_method_34_code 27 = .ok (.iload_n 1, 1) := by decide +kernel
theorem dS_putPair_28 : decode prog_1_method_34_code 28 = .ok (.bipush 8, 2) := by decide +kernel
theorem dS_putPair_30 : decode prog_1_method_34_code 30 = .ok (.ishr, 1) := by decide +kernel
theorem dS_putPair_31 : decode prog_1_method_34_code 31 = .ok (.invokevirtual 122, 3) := by decide +kernel
theorem dS_putPair_34 : decode prog_1_method_34_code 34 = .ok (.return_, 1) := by decide +kernel
theorem dS_putByte_0 : decode prog_1_method_36_code 0 = .ok (.aload_n 0, 1) := by decide +kernel
theorem dS_putByte_1 : decode prog_1_method_36_code 1 = .ok (.getfield 16, 3) := by decide +kernel
theorem dS_putByte_4 : decode prog_1_method_36_code 4 = .ok (.sipush 4096, 3) := by decide +kernel
theorem dS_putByte_7 : decode prog_1_method_36_code 7 = .ok (.if_icmp .ge 27, 3) := by decide +kernel
theorem dS_putByte_10 : decode prog_1_method_36_code 10 = .ok (.aload_n 0, 1) := by decide +kernel
theorem dS_putByte_11 : decode prog_1_method_36_code 11 = .ok (.getfield 9, 3) := by decide +kernel
theorem dS_putByte_14 : decode prog_1_method_36_code 14 = .ok (.aload_n 0, 1) := by decide +kernel
theorem dS_putByte_15 : decode prog_1_method_36_code 15 = .ok (.getfield 16, 3) := by decide +kernel
theorem dS_putByte_18 : decode prog_1_method_36_code 18 = .ok (.iload_n 1, 1) := by decide +kernel
theorem dS_putByte_19 : decode prog_1_method_36_code 19 = .ok (.sipush 255, 3) := by decide +kernel
theorem dS_putByte_22 : decode prog_1_method_36_code 22 = .ok (.iand, 1) := by decide +kernel
theorem dS_putByte_23 : decode prog_1_method_36_code 23 = .ok (.iastore, 1) := by decide +kernel
theorem dS_putByte_24 : decode prog_1_method_36_code 24 = .ok (.aload_n 0, 1) := by decide +kernel
theorem dS_putByte_25 : decode prog_1_method_36_code 25 = .ok (.dup, 1) := by decide +kernel
theorem dS_putByte_26 : decode prog_1_method_36_code 26 = .ok (.getfield 16, 3) := by decide +kernel
theorem dS_putByte_29 : decode prog_1_method_36_code 29 = .ok (.iconst 1, 1) := by decide +kernel
theorem dS_putByte_30 : decode prog_1_method_36_code 30 = .ok (.iadd, 1) := by decide +kernel
theorem dS_putByte_31 : decode prog_1_method_36_code 31 = .ok (.putfield 16, 3) := by decide +kernel
theorem dS_putByte_34 : decode prog_1_method_36_code 34 = .ok (.return_, 1) := by decide +kernel
theorem dS_put8Bits_0 : decode prog_1_method_32_code 0 = .ok (.iload_n 1, 1) := by decide +kernel
theorem dS_put8Bits_1 : decode prog_1_method_32_code 1 = .ok (.invokestatic 102, 3) := by decide +kernel
theorem dS_put8Bits_4 : decode prog_1_method_32_code 4 = .ok (.iconst 1, 1) := by decide +kernel
theorem dS_put8Bits_5 : decode prog_1_method_32_code 5 = .ok (.isub, 1) := by decide +kernel
theorem dS_put8Bits_6 : decode prog_1_method_32_code 6 = .ok (.istore_n 2, 1) := by decide +kernel
theorem dS_put8Bits_7 : decode prog_1_method_32_code 7 = .ok (.iload_n 2, 1) := by decide +kernel
theorem dS_put8Bits_8 : decode prog_1_method_32_code 8 = .ok (.ifCond .ne 9, 3) := by decide +kernel
theorem dS_put8Bits_11 : decode prog_1_method_32_code 11 = .ok (.aload_n 0, 1) := by decide +kernel
theorem dS_put8Bits_12 : decode prog_1_method_32_code 12 = .ok (.iload_n 1, 1) := by decide +kernel
theorem dS_put8Bits_13 : decode prog_1_method_32_code 13 = .ok (.invokevirtual 122, 3) := by decide +kernel
theorem dS_put8Bits_16 : decode prog_1_method_32_code 16 = .ok (.return_, 1) := by decide +kernel
theorem dS_put8Bits_17 : decode prog_1_method_32_code 17 = .ok (.sipush 256, 3) := by decide +kernel
theorem dS_put8Bits_20 : decode prog_1_method_32_code 20 = .ok (.sipush 128, 3) := by decide +kernel
theorem dS_put8Bits_23 : decode prog_1_method_32_code 23 = .ok (.iload_n 2, 1) := by decide +kernel
theorem dS_put8Bits_24 : decode prog_1_method_32_code 24 = .ok (.ishr, 1) := by decide +kernel
theorem dS_put8Bits_25 : decode prog_1_method_32_code 25 = .ok (.isub, 1) := by decide +kernel
theorem dS_put8Bits_26 : decode prog_1_method_32_code 26 = .ok (.istore_n 3, 1) := by decide +kernel
theorem dS_put8Bits_27 : decode prog_1_method_32_code 27 = .ok (.aload_n 0, 1) := by decide +kernel
theorem dS_put8Bits_28 : decode prog_1_method_32_code 28 = .ok (.iload_n 3, 1) := by decide +kernel
theorem dS_put8Bits_29 : decode prog_1_method_32_code 29 = .ok (.iload_n 1, 1) := by decide +kernel
theorem dS_put8Bits_30 : decode prog_1_method_32_code 30 = .ok (.bipush 6, 2) := by decide +kernel
theorem dS_put8Bits_32 : decode prog_1_method_32_code 32 = .ok (.iload_n 2, 1) := by decide +kernel
theorem dS_put8Bits_33 : decode prog_1_method_32_code 33 = .ok (.imul, 1) := by decide +kernel
theorem dS_put8Bits_34 : decode prog_1_method_32_code 34 = .ok (.ishr, 1) := by decide +kernel
theorem dS_put8Bits_35 : decode prog_1_method_32_code 35 = .ok (.iadd, 1) := by decide +kernel
theorem dS_put8Bits_36 : decode prog_1_method_32_code 36 = .ok (.invokevirtual 122, 3) := by decide +kernel
theorem dS_put8Bits_39 : decode prog_1_method_32_code 39 = .ok (.iload_n 2, 1) := by decide +kernel
theorem dS_put8Bits_40 : decode prog_1_method_32_code 40 = .ok (.iconst 1, 1) := by decide +kernel
theorem dS_put8Bits_41 : decode prog_1_method_32_code 41 = .ok (.isub, 1) := by decide +kernel
theorem dS_put8Bits_42 : decode prog_1_method_32_code 42 = .ok (.istore 4, 2) := by decide +kernel
theorem dS_put8Bits_44 : decode prog_1_method_32_code 44 = .ok (.iload 4, 2) := by decide +kernel
theorem dS_put8Bits_46 : decode prog_1_method_32_code 46 = .ok (.ifCond .lt 27, 3) := by decide +kernel
theorem dS_put8Bits_49 : decode prog_1_method_32_code 49 = .ok (.aload_n 0, 1) := by decide +kernel
theorem dS_put8Bits_50 : decode prog_1_method_32_code 50 = .ok (.sipush 128, 3) := by decide +kernel
theorem dS_put8Bits_53 : decode prog_1_method_32_code 53 = .ok (.iload_n 1, 1) := by decide +kernel
theorem dS_put8Bits_54 : decode prog_1_method_32_code 54 = .ok (.bipush 6, 2) := by decide +kernel
theorem dS_put8Bits_56 : decode prog_1_method_32_code 56 = .ok (.iload 4, 2) := by decide +kernel
theorem dS_put8Bits_58 : decode prog_1_method_32_code 58 = .ok (.imul, 1) := by decide +kernel
theorem dS_put8Bits_59 : decode prog_1_method_32_code 59 = .ok (.ishr, 1) := by decide +kernel
theorem dS_put8Bits_60 : decode prog_1_method_32_code 60 = .ok (.bipush 63, 2) := by decide +kernel
theorem dS_put8Bits_62 : decode prog_1_method_32_code 62 = .ok (.iand, 1) := by decide +kernel
theorem dS_put8Bits_63 : decode prog_1_method_32_code 63 = .ok (.iadd, 1) := by decide +kernel
theorem dS_put8Bits_64 : decode prog_1_method_32_code 64 = .ok (.invokevirtual 122, 3) := by decide +kernel
theorem dS_put8Bits_67 : decode prog_1_method_32_code 67 = .ok (.iinc 4 (-1), 3) := by decide +kernel
theorem dS_put8Bits_70 : decode prog_1_method_32_code 70 = .ok (.goto (-26), 3) := by decide +kernel
theorem dS_put8Bits_73 : decode prog_1_method_32_code 73 = .ok (.return_, 1) := by decide +kernel
theorem dS_add_0 : decode prog_1_method_13_code 0 = .ok (.iload_n 1, 1) := by decide +kernel
theorem dS_add_1 : decode prog_1_method_13_code 1 = .ok (.invokestatic 71, 3) := by decide +kernel
theorem dS_add_4 : decode prog_1_method_13_code 4 = .ok (.ifCond .eq 19, 3) := by decide +kernel
theorem dS_add_7 : decode prog_1_method_13_code 7 = .ok (.iload_n 1, 1) := by decide +kernel
theorem dS_add_8 : decode prog_1_method_13_code 8 = .ok (.bipush 13, 2) := by decide +kernel
theorem dS_add_10 : decode prog_1_method_13_code 10 = .ok (.if_icmp .eq 13, 3) := by decide +kernel
theorem dS_add_13 : decode prog_1_method_13_code 13 = .ok (.aload_n 0, 1) := by decide +kernel
theorem dS_add_14 : decode prog_1_method_13_code 14 = .ok (.getfield 20, 3) := by decide +kernel
theorem dS_add_17 : decode prog_1_method_13_code 17 = .ok (.sipush 4096, 3) := by decide +kernel
theorem dS_add_20 : decode prog_1_method_13_code 20 = .ok (.if_icmp .lt 5, 3) := by decide +kernel
theorem dS_add_23 : decode prog_1_method_13_code 23 = .ok (.iconst (-1), 1) := by decide +kernel
theorem dS_add_24 : decode prog_1_method_13_code 24 = .ok (.ireturn, 1) := by decide +kernel
theorem dS_add_25 : decode prog_1_method_13_code 25 = .ok (.aload_n 0, 1) := by decide +kernel
theorem dS_add_26 : decode prog_1_method_13_code 26 = .ok (.iload_n 1, 1) := by decide +kernel
theorem dS_add_27 : decode prog_1_method_13_code 27 = .ok (.invokevirtual 74, 3) := by decide +kernel
theorem dS_add_30 : decode prog_1_method_13_code 30 = .ok (.aload_n 0, 1) := by decide +kernel
theorem dS_add_31 : decode prog_1_method_13_code 31 = .ok (.getfield 20, 3) := by decide +kernel
theorem dS_add_34 : decode prog_1_method_13_code 34 = .ok (.ireturn, 1) := by decide +kernel
theorem dS_feed_0 : decode prog_1_method_2_code 0 = .ok (.aload_n 0, 1) := by decide +kernel
theorem dS_feed_1 : decode prog_1_method_2_code 1 = .ok (.getfield 16, 3) := by decide +kernel
theorem dS_feed_4 : decode prog_1_method_2_code 4 = .ok (.sipush 4076, 3) := by decide +kernel
theorem dS_feed_7 : decode prog_1_method_2_code 7 = .ok (.if_icmp .le 13, 3) := by decide +kernel
theorem dS_feed_10 : decode prog_1_method_2_code 10 = .ok (.new 26, 3) := by decide +kernel
theorem dS_feed_13 : decode prog_1_method_2_code 13 = .ok (.dup, 1) := by decide +kernel
theorem dS_feed_14 : decode prog_1_method_2_code 14 = .ok (.ldc 28, 2) := by decide +kernel
theorem dS_feed_16 : decode prog_1_method_2_code 16 = .ok (.invokespecial 30, 3) := by decide +kernel
theorem dS_feed_19 : decode prog_1_method_2_code 19 = .ok (.athrow, 1) := by decide +kernel
theorem dS_feed_20 : decode prog_1_method_2_code 20 = .ok (.aload_n 0, 1) := by decide +kernel
theorem dS_feed_21 : decode prog_1_method_2_code 21 = .ok (.iload_n 1, 1) := by decide +kernel
theorem dS_feed_22 : decode prog_1_method_2_code 22 = .ok (.invokevirtual 33, 3) := by decide +kernel
theorem dS_feed_25 : decode prog_1_method_2_code 25 = .ok (.aload_n 0, 1) := by decide +kernel
theorem dS_feed_26 : decode prog_1_method_2_code 26 = .ok (.iload_n 2, 1) := by decide +kernel
theorem dS_feed_27 : decode prog_1_method_2_code 27 = .ok (.invokevirtual 33, 3) := by decide +kernel
theorem dS_feed_30 : decode prog_1_method_2_code 30 = .ok (.aload_n 0, 1) := by decide +kernel
theorem dS_feed_31 : decode prog_1_method_2_code 31 = .ok (.iload_n 3, 1) := by decide +kernel
theorem dS_feed_32 : decode prog_1_method_2_code 32 = .ok (.invokevirtual 33, 3) := by decide +kernel
theorem dS_feed_35 : decode prog_1_method_2_code 35 = .ok (.aload_n 0, 1) := by decide +kernel
theorem dS_feed_36 : decode prog_1_method_2_code 36 = .ok (.iload 4, 2) := by decide +kernel
theorem dS_feed_38 : decode prog_1_method_2_code 38 = .ok (.invokevirtual 33, 3) := by decide +kernel
theorem dS_feed_41 : decode prog_1_method_2_code 41 = .ok (.aload_n 0, 1) := by decide +kernel
theorem dS_feed_42 : decode prog_1_method_2_code 42 = .ok (.iload 5, 2) := by decide +kernel
theorem dS_feed_44 : decode prog_1_method_2_code 44 = .ok (.invokevirtual 33, 3) := by decide +kernel
theorem dS_feed_47 : decode prog_1_method_2_code 47 = .ok (.return_, 1) := by decide +kernel
theorem dS_putFour_0 : decode prog_1_method_35_code 0 = .ok (.aload_n 0, 1) := by decide +kernel
theorem dS_putFour_1 : decode prog_1_method_35_code 1 = .ok (.iload_n 1, 1) := by decide +kernel
theorem dS_putFour_2 : decode prog_1_method_35_code 2 = .ok (.bipush 24, 2) := by decide +kernel
theorem dS_putFour_4 : decode prog_1_method_35_code 4 = .ok (.ishr, 1) := by decide +kernel
theorem dS_putFour_5 : decode prog_1_method_35_code 5 = .ok (.invokevirtual 122, 3) := by decide +kernel
theorem dS_putFour_8 : decode prog_1_method_35_code 8 = .ok (.aload_n 0, 1) := by decide +kernel
theorem dS_putFour_9 : decode prog_1_method_35_code 9 = .ok (.iload_n 1, 1) := by decide +kernel
theorem dS_putFour_10 : decode prog_1_method_35_code 10 = .ok (.bipush 16, 2) := by decide +kernel
theorem dS_putFour_12 : decode prog_1_method_35_code 12 = .ok (.ishr, 1) := by decide +kernel
theorem dS_putFour_13 : decode prog_1_method_35_code 13 = .ok (.invokevirtual 122, 3) := by decide +kernel
theorem dS_putFour_16 : decode prog_1_method_35_code 16 = .ok (.aload_n 0, 1) := by decide +kernel
theorem dS_putFour_17 : decode prog_1_method_35_code 17 = .ok (.iload_n 1, 1) := by decide +kernel
theorem dS_putFour_18 : decode prog_1_method_35_code 18 = .ok (.bipush 8, 2) := by decide +kernel
theorem dS_putFour_20 : decode prog_1_method_35_code 20 = .ok (.ishr, 1) := by decide +kernel
theorem dS_putFour_21 : decode prog_1_method_35_code 21 = .ok (.invokevirtual 122, 3) := by decide +kernel
theorem dS_putFour_24 : decode prog_1_method_35_code 24 = .ok (.aload_n 0, 1) := by decide +kernel
theorem dS_putFour_25 : decode prog_1_method_35_code 25 = .ok (.iload_n 1, 1) := by decide +kernel
theorem dS_putFour_26 : decode prog_1_method_35_code 26 = .ok (.invokevirtual 122, 3) := by decide +kernel
theorem dS_putFour_29 : decode prog_1_method_35_code 29 = .ok (.return_, 1) := by decide +kernel
theorem dS_end_0 : decode prog_1_method_3_code 0 = .ok (.iload_n 1, 1) := by decide +kernel
theorem dS_end_1 : decode prog_1_method_3_code 1 = .ok (.ifCond .lt 11, 3) := by decide +kernel
theorem dS_end_4 : decode prog_1_method_3_code 4 = .ok (.iload_n 1, 1) := by decide +kernel
theorem dS_end_5 : decode prog_1_method_3_code 5 = .ok (.aload_n 0, 1) := by decide +kernel
theorem dS_end_6 : decode prog_1_method_3_code 6 = .ok (.getfield 16, 3) := by decide +kernel
theorem dS_end_9 : decode prog_1_method_3_code 9 = .ok (.if_icmp .le 13, 3) := by decide +kernel
theorem dS_end_12 : decode prog_1_method_3_code 12 = .ok (.new 37, 3) := by decide +kernel
theorem dS_end_15 : decode prog_1_method_3_code 15 = .ok (.dup, 1) := by decide +kernel
theorem dS_end_16 : decode prog_1_method_3_code 16 = .ok (.ldc 39, 2) := by decide +kernel
theorem dS_end_18 : decode prog_1_method_3_code 18 = .ok (.invokespecial 41, 3) := by decide +kernel
theorem dS_end_21 : decode prog_1_method_3_code 21 = .ok (.athrow, 1) := by decide +kernel
theorem dS_end_22 : decode prog_1_method_3_code 22 = .ok (.aload_n 0, 1) := by decide +kernel
theorem dS_end_23 : decode prog_1_method_3_code 23 = .ok (.getfield 16, 3) := by decide +kernel
theorem dS_end_26 : decode prog_1_method_3_code 26 = .ok (.istore_n 2, 1) := by decide +kernel
theorem dS_end_27 : decode prog_1_method_3_code 27 = .ok (.aload_n 0, 1) := by decide +kernel
theorem dS_end_28 : decode prog_1_method_3_code 28 = .ok (.iload_n 1, 1) := by decide +kernel
theorem dS_end_29 : decode prog_1_method_3_code 29 = .ok (.putfield 16, 3) := by decide +kernel
theorem dS_end_32 : decode prog_1_method_3_code 32 = .ok (.iload_n 2, 1) := by decide +kernel
theorem dS_end_33 : decode prog_1_method_3_code 33 = .ok (.ireturn, 1) := by decide +kernel
end
section
theorem dM_init_0 : decode prog_3_method_1_code 0 = .ok (.aload_n 0, 1) := by decide +kernel
theorem dM_init_1 : decode prog_3_method_1_code 1 = .ok (.invokespecial 1, 3) := by decide +kernel
theorem dM_init_4 : decode prog_3_method_1_code 4 = .ok (.aload_n 0, 1) := by decide +kernel
theorem dM_init_5 : decode prog_3_method_1_code 5 = .ok (.sipush 4096, 3) := by decide +kernel
theorem dM_init_8 : decode prog_3_method_1_code 8 = .ok (.newarray .int, 2) := by decide +kernel
theorem dM_init_10 : decode prog_3_method_1_code 10 = .ok (.putfield 7, 3) := by decide +kernel
theorem dM_init_13 : decode prog_3_method_1_code 13 = .ok (.aload_n 0, 1) := by decide +kernel
theorem dM_init_14 : decode prog_3_method_1_code 14 = .ok (.sipush 4096, 3) := by decide +kernel
theorem dM_init_17 : decode prog_3_method_1_code 17 = .ok (.newarray .int, 2) := by decide +kernel
theorem dM_init_19 : decode prog_3_method_1_code 19 = .ok (.putfield 13, 3) := by decide +kernel
theorem dM_init_22 : decode prog_3_method_1_code 22 = .ok (.aload_n 0, 1) := by decide +kernel
theorem dM_init_23 : decode prog_3_method_1_code 23 = .ok (.sipush 4100, 3) := by decide +kernel
theorem dM_init_26 : decode prog_3_method_1_code 26 = .ok (.newarray .int, 2) := by decide +kernel
theorem dM_init_28 : decode prog_3_method_1_code 28 = .ok (.putfield 16, 3) := by decide +kernel
theorem dM_init_31 : decode prog_3_method_1_code 31 = .ok (.return_, 1) := by decide +kernel
theorem dM_thrown_0 : decode prog_3_method_2_code 0 = .ok (.aload_n 0, 1) := by decide +kernel
theorem dM_thrown_1 : decode prog_3_method_2_code 1 = .ok (.getfield 19, 3) := by decide +kernel
theorem dM_thrown_4 : decode prog_3_method_2_code 4 = .ok (.ireturn, 1) := by decide +kernel
theorem dM_feed_0 : decode prog_3_method_5_code 0 = .ok (.aload_n 0, 1) := by decide +kernel
theorem dM_feed_1 : decode prog_3_method_5_code 1 = .ok (.aload_n 0, 1) := by decide +kernel
theorem dM_feed_2 : decode prog_3_method_5_code 2 = .ok (.getfield 32, 3) := by decide +kernel
theorem dM_feed_5 : decode prog_3_method_5_code 5 = .ok (.bipush 20, 2) := by decide +kernel
theorem dM_feed_7 : decode prog_3_method_5_code 7 = .ok (.iadd, 1) := by decide +kernel
theorem dM_feed_8 : decode prog_3_method_5_code 8 = .ok (.sipush 4096, 3) := by decide +kernel
theorem dM_feed_11 : decode prog_3_method_5_code 11 = .ok (.if_icmp .le 7, 3) := by decide +kernel
theorem dM_feed_14 : decode prog_3_method_5_code 14 = .ok (.iconst 1, 1) := by decide +kernel
theorem dM_feed_15 : decode prog_3_method_5_code 15 = .ok (.goto 4, 3) := by decide +kernel
theorem dM_feed_18 : decode prog_3_method_5_code 18 = .ok (.iconst 0, 1) := by decide +kernel
theorem dM_feed_19 : decode prog_3_method_5_code 19 = .ok (.putfield 19, 3) := by decide +kernel
theorem dM_feed_22 : decode prog_3_method_5_code 22 = .ok (.aload_n 0, 1) := by decide +kernel
theorem dM_feed_23 : decode prog_3_method_5_code 23 = .ok (.getfield 19, 3) := by decide +kernel
theorem dM_feed_26 : decode prog_3_method_5_code 26 = .ok (.ifCond .le 4, 3) := by decide +kernel
theorem dM_feed_29 : decode prog_3_method_5_code 29 = .ok (.return_, 1) := by decide +kernel
theorem dM_feed_30 : decode prog_3_method_5_code 30 = .ok (.iconst 0, 1) := by decide +kernel
theorem dM_feed_31 : decode prog_3_method_5_code 31 = .ok (.istore 6, 2) := by decide +kernel
theorem dM_feed_33 : decode prog_3_method_5_code 33 = .ok (.iload 6, 2) := by decide +kernel
theorem dM_feed_35 : decode prog_3_method_5_code 35 = .ok (.bipush 20, 2) := by decide +kernel
theorem dM_feed_37 : decode prog_3_method_5_code 37 = .ok (.if_icmp .ge 93, 3) := by decide +kernel
theorem dM_feed_40 : decode prog_3_method_5_code 40 = .ok (.iload 6, 2) := by decide +kernel
theorem dM_feed_42 : decode prog_3_method_5_code 42 = .ok (.iconst 4, 1) := by decide +kernel
theorem dM_feed_43 : decode prog_3_method_5_code 43 = .ok (.if_icmp .ge 7, 3) := by decide +kernel
theorem dM_feed_46 : decode prog_3_method_5_code 46 = .ok (.iload_n 1, 1) := by decide +kernel
theorem dM_feed_47 : decode prog_3_method_5_code 47 = .ok (.goto 39, 3) := by decide +kernel
theorem dM_feed_50 : decode prog_3_method_5_code 50 = .ok (.iload 6, 2) := by decide +kernel
theorem dM_feed_52 : decode prog_3_method_5_code 52 = .ok (.bipush 8, 2) := by decide +kernel
theorem dM_feed_54 : decode prog_3_method_5_code 54 = .ok (.if_icmp .ge 7, 3) := by decide +kernel
theorem dM_feed_57 : decode prog_3_method_5_code 57 = .ok (.iload_n 2, 1) := by decide +kernel
theorem dM_feed_58 : decode prog_3_method_5_code 58 = .ok (.goto 28, 3) := by decide +kernel
theorem dM_feed_61 : decode prog_3_method_5_code 61 = .ok (.iload 6, 2) := by decide +kernel
theorem dM_feed_63 : decode prog_3_method_5_code 63 = .ok (.bipush 12, 2) := by decide +kernel
theorem dM_feed_65 : decode prog_3_method_5_code 65 = .ok (.if_icmp .ge 7, 3) := by decide +kernel
theorem dM_feed_68 : decode prog_3_method_5_code 68 = .ok (.iload_n 3, 1) := by decide +kernel
theorem dM_feed_69 : decode prog_3_method_5_code 69 = .ok (.goto 17, 3) := by decide +kernel
theorem dM_feed_72 : decode prog_3_method_5_code 72 = .ok (.iload 6, 2) := by decide +kernel
theorem dM_feed_74 : decode prog_3_method_5_code 74 = .ok (.bipush 16, 2) := by decide +kernel
theorem dM_feed_76 : decode prog_3_method_5_code 76 = .ok (.if_icmp .ge 8, 3) := by decide +kernel
theorem dM_feed_79 : decode prog_3_method_5_code 79 = .ok (.iload 4, 2) := by decide +kernel
theorem dM_feed_81 : decode prog_3_method_5_code 81 = .ok (.goto 5, 3) := by decide +kernel
theorem dM_feed_84 : decode prog_3_method_5_code 84 = .ok (.iload 5, 2) := by decide +kernel
theorem dM_feed_86 : decode prog_3_method_5_code 86 = .ok (.istore 7, 2) := by decide +kernel
theorem dM_feed_88 : decode prog_3_method_5_code 88 = .ok (.aload_n 0, 1) := by decide +kernel
theorem dM_feed_89 : decode prog_3_method_5_code 89 = .ok (.getfield 7, 3) := by decide +kernel
theorem dM_feed_92 : decode prog_3_method_5_code 92 = .ok (.aload_n 0, 1) := by decide +kernel
theorem dM_feed_93 : decode prog_3_method_5_code 93 = .ok (.getfield 32, 3) := by decide +kernel
theorem dM_feed_96 : decode prog_3_method_5_code 96 = .ok (.iload 7, 2) := by decide +kernel
theorem dM_feed_98 : decode prog_3_method_5_code 98 = .ok (.bipush 24, 2) := by decide +kernel
theorem dM_feed_100 : decode prog_3_method_5_code 100 = .ok (.bipush 8, 2) := by decide +kernel
theorem dM_feed_102 : decode prog_3_method_5_code 102 = .ok (.iload 6, 2) := by decide +kernel
theorem dM_feed_104 : decode prog_3_method_5_code 104 = .ok (.iconst 4, 1) := by decide +kernel
theorem dM_feed_105 : decode prog_3_method_5_code 105 = .ok (.irem, 1) := by decide +kernel
theorem dM_feed_106 : decode prog_3_method_5_code 106 = .ok (.imul, 1) := by decide +kernel
theorem dM_feed_107 : decode prog_3_method_5_code 107 = .ok (.isub, 1) := by decide +kernel
theorem dM_feed_108 : decode prog_3_method_5_code 108 = .ok (.ishr, 1) := by decide +kernel
theorem dM_feed_109 : decode prog_3_method_5_code 109 = .ok (.sipush 255, 3) := by decide +kernel
theorem dM_feed_112 : decode prog_3_method_5_code 112 = .ok (.iand, 1) := by decide +kernel
theorem dM_feed_113 : decode prog_3_method_5_code 113 = .ok (.iastore, 1) := by decide +kernel
theorem dM_feed_114 : decode prog_3_method_5_code 114 = .ok (.aload_n 0, 1) := by decide +kernel
theorem dM_feed_115 : decode prog_3_method_5_code 115 = .ok (.aload_n 0, 1) := by decide +kernel
theorem dM_feed_116 : decode prog_3_method_5_code 116 = .ok (.getfield 32, 3) := by decide +kernel
theorem dM_feed_119 : decode prog_3_method_5_code 119 = .ok (.iconst 1, 1) := by decide +kernel
theorem dM_feed_120 : decode prog_3_method_5_code 120 = .ok (.iadd, 1) := by decide +kernel
theorem dM_feed_121 : decode prog_3_method_5_code 121 = .ok (.putfield 32, 3) := by decide +kernel
theorem dM_feed_124 : decode prog_3_method_5_code 124 = .ok (.iinc 6 1, 3) := by decide +kernel
theorem dM_feed_127 : decode prog_3_method_5_code 127 = .ok (.goto (-94), 3) := by decide +kernel
theorem dM_feed_130 : decode prog_3_method_5_code 130 = .ok (.return_, 1) := by decide +kernel
theorem dM_end_0 : decode prog_3_method_6_code 0 = .ok (.aload_n 0, 1) := by decide +kernel
theorem dM_end_1 : decode prog_3_method_6_code 1 = .ok (.iload_n 1, 1) := by decide +kernel
theorem dM_end_2 : decode prog_3_method_6_code 2 = .ok (.ifCond .lt 11, 3) := by decide +kernel
theorem dM_end_5 : decode prog_3_method_6_code 5 = .ok (.iload_n 1, 1) := by decide +kernel
theorem dM_end_6 : decode prog_3_method_6_code 6 = .ok (.aload_n 0, 1) := by decide +kernel
theorem dM_end_7 : decode prog_3_method_6_code 7 = .ok (.getfield 32, 3) := by decide +kernel
theorem dM_end_10 : decode prog_3_method_6_code 10 = .ok (.if_icmp .le 7, 3) := by decide +kernel
theorem dM_end_13 : decode prog_3_method_6_code 13 = .ok (.iconst 1, 1) := by decide +kernel
theorem dM_end_14 : decode prog_3_method_6_code 14 = .ok (.goto 4, 3) := by decide +kernel
theorem dM_end_17 : decode prog_3_method_6_code 17 = .ok (.iconst 0, 1) := by decide +kernel
theorem dM_end_18 : decode prog_3_method_6_code 18 = .ok (.putfield 19, 3) := by decide +kernel
theorem dM_end_21 : decode prog_3_method_6_code 21 = .ok (.aload_n 0, 1) := by decide +kernel
theorem dM_end_22 : decode prog_3_method_6_code 22 = .ok (.getfield 19, 3) := by decide +kernel
theorem dM_end_25 : decode prog_3_method_6_code 25 = .ok (.ifCond .le 5, 3) := by decide +kernel
theorem dM_end_28 : decode prog_3_method_6_code 28 = .ok (.iconst 0, 1) := by decide +kernel
theorem dM_end_29 : decode prog_3_method_6_code 29 = .ok (.ireturn, 1) := by decide +kernel
theorem dM_end_30 : decode prog_3_method_6_code 30 = .ok (.aload_n 0, 1) := by decide +kernel
theorem dM_end_31 : decode prog_3_method_6_code 31 = .ok (.getfield 32, 3) := by decide +kernel
theorem dM_end_34 : decode prog_3_method_6_code 34 = .ok (.istore_n 2, 1) := by decide +kernel
theorem dM_end_35 : decode prog_3_method_6_code 35 = .ok (.aload_n 0, 1) := by decide +kernel
theorem dM_end_36 : decode prog_3_method_6_code 36 = .ok (.iload_n 1, 1) := by decide +kernel
theorem dM_end_37 : decode prog_3_method_6_code 37 = .ok (.putfield 32, 3) := by decide +kernel
theorem dM_end_40 : decode prog_3_method_6_code 40 = .ok (.iload_n 2, 1) := by decide +kernel
theorem dM_end_41 : decode prog_3_method_6_code 41 = .ok (.ireturn, 1) := by decide +kernel
theorem dM_came_0 : decode prog_3_method_7_code 0 = .ok (.aload_n 0, 1) := by decide +kernel
theorem dM_came_1 : decode prog_3_method_7_code 1 = .ok (.iconst 0, 1) := by decide +kernel
theorem dM_came_2 : decode prog_3_method_7_code 2 = .ok (.putfield 19, 3) := by decide +kernel
theorem dM_came_5 : decode prog_3_method_7_code 5 = .ok (.iload_n 1, 1) := by decide +kernel
theorem dM_came_6 : decode prog_3_method_7_code 6 = .ok (.ifCond .lt 20, 3) := by decide +kernel
theorem dM_came_9 : decode prog_3_method_7_code 9 = .ok (.iload_n 1, 1) := by decide +kernel
theorem dM_came_10 : decode prog_3_method_7_code 10 = .ok (.aload_n 0, 1) := by decide +kernel
theorem dM_came_11 : decode prog_3_method_7_code 11 = .ok (.getfield 32, 3) := by decide +kernel
theorem dM_came_14 : decode prog_3_method_7_code 14 = .ok (.if_icmp .ge 12, 3) := by decide +kernel
theorem dM_came_17 : decode prog_3_method_7_code 17 = .ok (.aload_n 0, 1) := by decide +kernel
theorem dM_came_18 : decode prog_3_method_7_code 18 = .ok (.getfield 7, 3) := by decide +kernel
theorem dM_came_21 : decode prog_3_method_7_code 21 = .ok (.iload_n 1, 1) := by decide +kernel
theorem dM_came_22 : decode prog_3_method_7_code 22 = .ok (.iaload, 1) := by decide +kernel
theorem dM_came_23 : decode prog_3_method_7_code 23 = .ok (.goto 4, 3) := by decide +kernel
theorem dM_came_26 : decode prog_3_method_7_code 26 = .ok (.iconst (-1), 1) := by decide +kernel
theorem dM_came_27 : decode prog_3_method_7_code 27 = .ok (.ireturn, 1) := by decide +kernel
theorem dM_change_0 : decode prog_3_method_8_code 0 = .ok (.aload_n 0, 1) := by decide +kernel
theorem dM_change_1 : decode prog_3_method_8_code 1 = .ok (.iconst 0, 1) := by decide +kernel
theorem dM_change_2 : decode prog_3_method_8_code 2 = .ok (.putfield 19, 3) := by decide +kernel
theorem dM_change_5 : decode prog_3_method_8_code 5 = .ok (.iload_n 1, 1) := by decide +kernel
theorem dM_change_6 : decode prog_3_method_8_code 6 = .ok (.ifCond .lt 22, 3) := by decide +kernel
theorem dM_change_9 : decode prog_3_method_8_code 9 = .ok (.iload_n 1, 1) := by decide +kernel
theorem dM_change_10 : decode prog_3_method_8_code 10 = .ok (.aload_n 0, 1) := by decide +kernel
theorem dM_change_11 : decode prog_3_method_8_code 11 = .ok (.getfield 32, 3) := by decide +kernel
theorem dM_change_14 : decode prog_3_method_8_code 14 = .ok (.if_icmp .ge 14, 3) := by decide +kernel
theorem dM_change_17 : decode prog_3_method_8_code 17 = .ok (.iload_n 2, 1) := by decide +kernel
theorem dM_change_18 : decode prog_3_method_8_code 18 = .ok (.ifCond .lt 10, 3) := by decide +kernel
theorem dM_change_21 : decode prog_3_method_8_code 21 = .ok (.iload_n 2, 1) := by decide +kernel
theorem dM_change_22 : decode prog_3_method_8_code 22 = .ok (.sipush 255, 3) := by decide +kernel
theorem dM_change_25 : decode prog_3_method_8_code 25 = .ok (.if_icmp .le 5, 3) := by decide +kernel
theorem dM_change_28 : decode prog_3_method_8_code 28 = .ok (.iconst (-1), 1) := by decide +kernel
theorem dM_change_29 : decode prog_3_method_8_code 29 = .ok (.ireturn, 1) := by decide +kernel
theorem dM_change_30 : decode prog_3_method_8_code 30 = .ok (.aload_n 0, 1) := by decide +kernel
theorem dM_change_31 : decode prog_3_method_8_code 31 = .ok (.getfield 7, 3) := by decide +kernel
theorem dM_change_34 : decode prog_3_method_8_code 34 = .ok (.iload_n 1, 1) := by decide +kernel
theorem dM_change_35 : decode prog_3_method_8_code 35 = .ok (.iaload, 1) := by decide +kernel
theorem dM_change_36 : decode prog_3_method_8_code 36 = .ok (.istore_n 3, 1) := by decide +kernel
theorem dM_change_37 : decode prog_3_method_8_code 37 = .ok (.aload_n 0, 1) := by decide +kernel
theorem dM_change_38 : decode prog_3_method_8_code 38 = .ok (.getfield 7, 3) := by decide +kernel
theorem dM_change_41 : decode prog_3_method_8_code 41 = .ok (.iload_n 1, 1) := by decide +kernel
theorem dM_change_42 : decode prog_3_method_8_code 42 = .ok (.iload_n 2, 1) := by decide +kernel
theorem dM_change_43 : decode prog_3_method_8_code 43 = .ok (.iastore, 1) := by decide +kernel
theorem dM_change_44 : decode prog_3_method_8_code 44 = .ok (.iload_n 3, 1) := by decide +kernel
theorem dM_change_45 : decode prog_3_method_8_code 45 = .ok (.ireturn, 1) := by decide +kernel
theorem dM_read_0 : decode prog_3_method_15_code 0 = .ok (.aload_n 0, 1) := by decide +kernel
theorem dM_read_1 : decode prog_3_method_15_code 1 = .ok (.iconst 0, 1) := by decide +kernel
theorem dM_read_2 : decode prog_3_method_15_code 2 = .ok (.putfield 19, 3) := by decide +kernel
theorem dM_read_5 : decode prog_3_method_15_code 5 = .ok (.aload_n 0, 1) := by decide +kernel
theorem dM_read_6 : decode prog_3_method_15_code 6 = .ok (.invokevirtual 54, 3) := by decide +kernel
theorem dM_read_9 : decode prog_3_method_15_code 9 = .ok (.istore_n 1, 1) := by decide +kernel
theorem dM_read_10 : decode prog_3_method_15_code 10 = .ok (.iload_n 1, 1) := by decide +kernel
theorem dM_read_11 : decode prog_3_method_15_code 11 = .ok (.ifCond .ne 7, 3) := by decide +kernel
theorem dM_read_14 : decode prog_3_method_15_code 14 = .ok (.iconst 0, 1) := by decide +kernel
theorem dM_read_15 : decode prog_3_method_15_code 15 = .ok (.goto 13, 3) := by decide +kernel
theorem dM_read_18 : decode prog_3_method_15_code 18 = .ok (.iload_n 1, 1) := by decide +kernel
theorem dM_read_19 : decode prog_3_method_15_code 19 = .ok (.iconst 3, 1) := by decide +kernel
theorem dM_read_20 : decode prog_3_method_15_code 20 = .ok (.if_icmp .ne 7, 3) := by decide +kernel
theorem dM_read_23 : decode prog_3_method_15_code 23 = .ok (.iconst 3, 1) := by decide +kernel
theorem dM_read_24 : decode prog_3_method_15_code 24 = .ok (.goto 4, 3) := by decide +kernel
theorem dM_read_27 : decode prog_3_method_15_code 27 = .ok (.iconst 2, 1) := by decide +kernel
theorem dM_read_28 : decode prog_3_method_15_code 28 = .ok (.istore_n 2, 1) := by decide +kernel
theorem dM_read_29 : decode prog_3_method_15_code 29 = .ok (.iconst 0, 1) := by decide +kernel
theorem dM_read_30 : decode prog_3_method_15_code 30 = .ok (.istore_n 3, 1) := by decide +kernel
theorem dM_read_31 : decode prog_3_method_15_code 31 = .ok (.iconst 0, 1) := by decide +kernel
theorem dM_read_32 : decode prog_3_method_15_code 32 = .ok (.istore 4, 2) := by decide +kernel
theorem dM_read_34 : decode prog_3_method_15_code 34 = .ok (.iload_n 2, 1) := by decide +kernel
theorem dM_read_35 : decode prog_3_method_15_code 35 = .ok (.aload_n 0, 1) := by decide +kernel
theorem dM_read_36 : decode prog_3_method_15_code 36 = .ok (.getfield 32, 3) := by decide +kernel
theorem dM_read_39 : decode prog_3_method_15_code 39 = .ok (.if_icmp .ge 126, 3) := by decide +kernel
theorem dM_read_42 : decode prog_3_method_15_code 42 = .ok (.iload_n 1, 1) := by decide +kernel
theorem dM_read_43 : decode prog_3_method_15_code 43 = .ok (.iconst 1, 1) := by decide +kernel
theorem dM_read_44 : decode prog_3_method_15_code 44 = .ok (.if_icmp .eq 8, 3) := by decide +kernel
theorem dM_read_47 : decode prog_3_method_15_code 47 = .ok (.iload_n 1, 1) := by decide +kernel
theorem dM_read_48 : decode prog_3_method_15_code 48 = .ok (.iconst 2, 1) := by decide +kernel
theorem dM_read_49 : decode prog_3_method_15_code 49 = .ok (.if_icmp .ne 21, 3) := by decide +kernel
theorem dM_read_52 : decode prog_3_method_15_code 52 = .ok (.aload_n 0, 1) := by decide +kernel
theorem dM_read_53 : decode prog_3_method_15_code 53 = .ok (.iload_n 2, 1) := by decide +kernel
theorem dM_read_54 : decode prog_3_method_15_code 54 = .ok (.iload_n 1, 1) := by decide +kernel
theorem dM_read_55 : decode prog_3_method_15_code 55 = .ok (.iconst 1, 1) := by decide +kernel
theorem dM_read_56 : decode prog_3_method_15_code 56 = .ok (.if_icmp .ne 7, 3) := by decide +kernel
theorem dM_read_59 : decode prog_3_method_15_code 59 = .ok (.iconst 1, 1) := by decide +kernel
theorem dM_read_60 : decode prog_3_method_15_code 60 = .ok (.goto 4, 3) := by decide +kernel
theorem dM_read_63 : decode prog_3_method_15_code 63 = .ok (.iconst 0, 1) := by decide +kernel
theorem dM_read_64 : decode prog_3_method_15_code 64 = .ok (.invokevirtual 58, 3) := by decide +kernel
theorem dM_read_67 : decode prog_3_method_15_code 67 = .ok (.goto 8, 3) := by decide +kernel
theorem dM_read_70 : decode prog_3_method_15_code 70 = .ok (.aload_n 0, 1) := by decide +kernel
theorem dM_read_71 : decode prog_3_method_15_code 71 = .ok (.iload_n 2, 1) := by decide +kernel
theorem dM_read_72 : decode prog_3_method_15_code 72 = .ok (.invokevirtual 61, 3) := by decide +kernel
theorem dM_read_75 : decode prog_3_method_15_code 75 = .ok (.istore 5, 2) := by decide +kernel
theorem dM_read_77 : decode prog_3_method_15_code 77 = .ok (.iload 5, 2) := by decide +kernel
theorem dM_read_79 : decode prog_3_method_15_code 79 = .ok (.ifCond .lt 13, 3) := by decide +kernel
theorem dM_read_82 : decode prog_3_method_15_code 82 = .ok (.aload_n 0, 1) := by decide +kernel
theorem dM_read_83 : decode prog_3_method_15_code 83 = .ok (.getfield 39, 3) := by decide +kernel
theorem dM_read_86 : decode prog_3_method_15_code 86 = .ok (.invokestatic 64, 3) := by decide +kernel
theorem dM_read_89 : decode prog_3_method_15_code 89 = .ok (.ifCond .ne 10, 3) := by decide +kernel
theorem dM_read_92 : decode prog_3_method_15_code 92 = .ok (.aload_n 0, 1) := by decide +kernel
theorem dM_read_93 : decode prog_3_method_15_code 93 = .ok (.iconst 0, 1) := by decide +kernel
theorem dM_read_94 : decode prog_3_method_15_code 94 = .ok (.putfield 32, 3) := by decide +kernel
theorem dM_read_97 : decode prog_3_method_15_code 97 = .ok (.iload_n 2, 1) := by decide +kernel
theorem dM_read_98 : decode prog_3_method_15_code 98 = .ok (.ireturn, 1) := by decide +kernel
theorem dM_read_99 : decode prog_3_method_15_code 99 = .ok (.aload_n 0, 1) := by decide +kernel
theorem dM_read_100 : decode prog_3_method_15_code 100 = .ok (.getfield 39, 3) := by decide +kernel
theorem dM_read_103 : decode prog_3_method_15_code 103 = .ok (.bipush 10, 2) := by decide +kernel
theorem dM_read_105 : decode prog_3_method_15_code 105 = .ok (.if_icmp .ne 8, 3) := by decide +kernel
theorem dM_read_108 : decode prog_3_method_15_code 108 = .ok (.iload 4, 2) := by decide +kernel
theorem dM_read_110 : decode prog_3_method_15_code 110 = .ok (.ifCond .ne 31, 3) := by decide +kernel
theorem dM_read_113 : decode prog_3_method_15_code 113 = .ok (.aload_n 0, 1) := by decide +kernel
theorem dM_read_114 : decode prog_3_method_15_code 114 = .ok (.getfield 16, 3) := by decide +kernel
theorem dM_read_117 : decode prog_3_method_15_code 117 = .ok (.iload_n 3, 1) := by decide +kernel
theorem dM_read_118 : decode prog_3_method_15_code 118 = .ok (.aload_n 0, 1) := by decide +kernel
theorem dM_read_119 : decode prog_3_method_15_code 119 = .ok (.getfield 39, 3) := by decide +kernel
theorem dM_read_122 : decode prog_3_method_15_code 122 = .ok (.bipush 13, 2) := by decide +kernel
theorem dM_read_124 : decode prog_3_method_15_code 124 = .ok (.if_icmp .ne 8, 3) := by decide +kernel
theorem dM_read_127 : decode prog_3_method_15_code 127 = .ok (.bipush 10, 2) := by decide +kernel
theorem dM_read_129 : decode prog_3_method_15_code 129 = .ok (.goto 7, 3) := by decide +kernel
theorem dM_read_132 : decode prog_3_method_15_code 132 = .ok (.aload_n 0, 1) := by decide +kernel
theorem dM_read_133 : decode prog_3_method_15_code 133 = .ok (.getfield 39, 3) := by decide +kernel
theorem dM_read_136 : decode prog_3_method_15_code 136 = .ok (.iastore, 1) := by decide +kernel
theorem dM_read_137 : decode prog_3_method_15_code 137 = .ok (.iload_n 3, 1) := by decide +kernel
theorem dM_read_138 : decode prog_3_method_15_code 138 = .ok (.iconst 1, 1) := by decide +kernel
theorem dM_read_139 : decode prog_3_method_15_code 139 = .ok (.iadd, 1) := by decide +kernel
theorem dM_read_140 : decode prog_3_method_15_code 140 = .ok (.istore_n 3, 1) := by decide +kernel
theorem dM_read_141 : decode prog_3_method_15_code 141 = .ok (.aload_n 0, 1) := by decide +kernel
theorem dM_read_142 : decode prog_3_method_15_code 142 = .ok (.getfield 39, 3) := by decide +kernel
theorem dM_read_145 : decode prog_3_method_15_code 145 = .ok (.bipush 13, 2) := by decide +kernel
theorem dM_read_147 : decode prog_3_method_15_code 147 = .ok (.if_icmp .ne 7, 3) := by decide +kernel
theorem dM_read_150 : decode prog_3_method_15_code 150 = .ok (.iconst 1, 1) := by decide +kernel
theorem dM_read_151 : decode prog_3_method_15_code 151 = .ok (.goto 4, 3) := by decide +kernel
theorem dM_read_154 : decode prog_3_method_15_code 154 = .ok (.iconst 0, 1) := by decide +kernel
theorem dM_read_155 : decode prog_3_method_15_code 155 = .ok (.istore 4, 2) := by decide +kernel
theorem dM_read_157 : decode prog_3_method_15_code 157 = .ok (.iload_n 2, 1) := by decide +kernel
theorem dM_read_158 : decode prog_3_method_15_code 158 = .ok (.iload 5, 2) := by decide +kernel
theorem dM_read_160 : decode prog_3_method_15_code 160 = .ok (.iadd, 1) := by decide +kernel
theorem dM_read_161 : decode prog_3_method_15_code 161 = .ok (.istore_n 2, 1) := by decide +kernel
theorem dM_read_162 : decode prog_3_method_15_code 162 = .ok (.goto (-128), 3) := by decide +kernel
theorem dM_read_165 : decode prog_3_method_15_code 165 = .ok (.iconst 0, 1) := by decide +kernel
theorem dM_read_166 : decode prog_3_method_15_code 166 = .ok (.istore 5, 2) := by decide +kernel
theorem dM_read_168 : decode prog_3_method_15_code 168 = .ok (.iload 5, 2) := by decide +kernel
theorem dM_read_170 : decode prog_3_method_15_code 170 = .ok (.iload_n 3, 1) := by decide +kernel
theorem dM_read_171 : decode prog_3_method_15_code 171 = .ok (.if_icmp .ge 23, 3) := by decide +kernel
theorem dM_read_174 : decode prog_3_method_15_code 174 = .ok (.aload_n 0, 1) := by decide +kernel
theorem dM_read_175 : decode prog_3_method_15_code 175 = .ok (.getfield 13, 3) := by decide +kernel
theorem dM_read_178 : decode prog_3_method_15_code 178 = .ok (.iload 5, 2) := by decide +kernel
theorem dM_read_180 : decode prog_3_method_15_code 180 = .ok (.aload_n 0, 1) := by decide +kernel
theorem dM_read_181 : decode prog_3_method_15_code 181 = .ok (.getfield 16, 3) := by decide +kernel
theorem dM_read_184 : decode prog_3_method_15_code 184 = .ok (.iload 5, 2) := by decide +kernel
theorem dM_read_186 : decode prog_3_method_15_code 186 = .ok (.iaload, 1) := by decide +kernel
theorem dM_read_187 : decode prog_3_method_15_code 187 = .ok (.iastore, 1) := by decide +kernel
theorem dM_read_188 : decode prog_3_method_15_code 188 = .ok (.iinc 5 1, 3) := by decide +kernel
theorem dM_read_191 : decode prog_3_method_15_code 191 = .ok (.goto (-23), 3) := by decide +kernel
theorem dM_read_194 : decode prog_3_method_15_code 194 = .ok (.aload_n 0, 1) := by decide +kernel
theorem dM_read_195 : decode prog_3_method_15_code 195 = .ok (.iload_n 3, 1) := by decide +kernel
theorem dM_read_196 : decode prog_3_method_15_code 196 = .ok (.putfield 68, 3) := by decide +kernel
theorem dM_read_199 : decode prog_3_method_15_code 199 = .ok (.aload_n 0, 1) := by decide +kernel
theorem dM_read_200 : decode prog_3_method_15_code 200 = .ok (.iload_n 1, 1) := by decide +kernel
theorem dM_read_201 : decode prog_3_method_15_code 201 = .ok (.putfield 71, 3) := by decide +kernel
theorem dM_read_204 : decode prog_3_method_15_code 204 = .ok (.aload_n 0, 1) := by decide +kernel
theorem dM_read_205 : decode prog_3_method_15_code 205 = .ok (.iconst 0, 1) := by decide +kernel
theorem dM_read_206 : decode prog_3_method_15_code 206 = .ok (.putfield 32, 3) := by decide +kernel
theorem dM_read_209 : decode prog_3_method_15_code 209 = .ok (.iconst (-1), 1) := by decide +kernel
theorem dM_read_210 : decode prog_3_method_15_code 210 = .ok (.ireturn, 1) := by decide +kernel
theorem dM_wayOfBytes_0 : decode prog_3_method_10_code 0 = .ok (.aload_n 0, 1) := by decide +kernel
theorem dM_wayOfBytes_1 : decode prog_3_method_10_code 1 = .ok (.sipush 254, 3) := by decide +kernel
theorem dM_wayOfBytes_4 : decode prog_3_method_10_code 4 = .ok (.sipush 255, 3) := by decide +kernel
theorem dM_wayOfBytes_7 : decode prog_3_method_10_code 7 = .ok (.invokevirtual 35, 3) := by decide +kernel
theorem dM_wayOfBytes_10 : decode prog_3_method_10_code 10 = .ok (.ifCond .eq 7, 3) := by decide +kernel
theorem dM_wayOfBytes_13 : decode prog_3_method_10_code 13 = .ok (.iconst 1, 1) := by decide +kernel
theorem dM_wayOfBytes_14 : decode prog_3_method_10_code 14 = .ok (.goto 58, 3) := by decide +kernel
theorem dM_wayOfBytes_17 : decode prog_3_method_10_code 17 = .ok (.aload_n 0, 1) := by decide +kernel
theorem dM_wayOfBytes_18 : decode prog_3_method_10_code 18 = .ok (.sipush 255, 3) := by decide +kernel
theorem dM_wayOfBytes_21 : decode prog_3_method_10_code 21 = .ok (.sipush 254, 3) := by decide +kernel
theorem dM_wayOfBytes_24 : decode prog_3_method_10_code 24 = .ok (.invokevirtual 35, 3) := by decide +kernel
theorem dM_wayOfBytes_27 : decode prog_3_method_10_code 27 = .ok (.ifCond .eq 7, 3) := by decide +kernel
theorem dM_wayOfBytes_30 : decode prog_3_method_10_code 30 = .ok (.iconst 2, 1) := by decide +kernel
theorem dM_wayOfBytes_31 : decode prog_3_method_10_code 31 = .ok (.goto 41, 3) := by decide +kernel
theorem dM_wayOfBytes_34 : decode prog_3_method_10_code 34 = .ok (.aload_n 0, 1) := by decide +kernel
theorem dM_wayOfBytes_35 : decode prog_3_method_10_code 35 = .ok (.sipush 239, 3) := by decide +kernel
theorem dM_wayOfBytes_38 : decode prog_3_method_10_code 38 = .ok (.sipush 187, 3) := by decide +kernel
theorem dM_wayOfBytes_41 : decode prog_3_method_10_code 41 = .ok (.invokevirtual 35, 3) := by decide +kernel
theorem dM_wayOfBytes_44 : decode prog_3_method_10_code 44 = .ok (.ifCond .eq 27, 3) := by decide +kernel
theorem dM_wayOfBytes_47 : decode prog_3_method_10_code 47 = .ok (.aload_n 0, 1) := by decide +kernel
theorem dM_wayOfBytes_48 : decode prog_3_method_10_code 48 = .ok (.getfield 32, 3) := by decide +kernel
theorem dM_wayOfBytes_51 : decode prog_3_method_10_code 51 = .ok (.iconst 2, 1) := by decide +kernel
theorem dM_wayOfBytes_52 : decode prog_3_method_10_code 52 = .ok (.if_icmp .le 19, 3) := by decide +kernel
theorem dM_wayOfBytes_55 : decode prog_3_method_10_code 55 = .ok (.aload_n 0, 1) := by decide +kernel
theorem dM_wayOfBytes_56 : decode prog_3_method_10_code 56 = .ok (.getfield 7, 3) := by decide +kernel
theorem dM_wayOfBytes_59 : decode prog_3_method_10_code 59 = .ok (.iconst 2, 1) := by decide +kernel
theorem dM_wayOfBytes_60 : decode prog_3_method_10_code 60 = .ok (.iaload, 1) := by decide +kernel
theorem dM_wayOfBytes_61 : decode prog_3_method_10_code 61 = .ok (.sipush 191, 3) := by decide +kernel
theorem dM_wayOfBytes_64 : decode prog_3_method_10_code 64 = .ok (.if_icmp .ne 7, 3) := by decide +kernel
theorem dM_wayOfBytes_67 : decode prog_3_method_10_code 67 = .ok (.iconst 3, 1) := by decide +kernel
theorem dM_wayOfBytes_68 : decode prog_3_method_10_code 68 = .ok (.goto 4, 3) := by decide +kernel
theorem dM_wayOfBytes_71 : decode prog_3_method_10_code 71 = .ok (.iconst 0, 1) := by decide +kernel
theorem dM_wayOfBytes_72 : decode prog_3_method_10_code 72 = .ok (.ireturn, 1) := by decide +kernel
theorem dM_begins_0 : decode prog_3_method_9_code 0 = .ok (.aload_n 0, 1) := by decide +kernel
theorem dM_begins_1 : decode prog_3_method_9_code 1 = .ok (.getfield 32, 3) := by decide +kernel
theorem dM_begins_4 : decode prog_3_method_9_code 4 = .ok (.iconst 1, 1) := by decide +kernel
theorem dM_begins_5 : decode prog_3_method_9_code 5 = .ok (.if_icmp .le 27, 3) := by decide +kernel
theorem dM_begins_8 : decode prog_3_method_9_code 8 = .ok (.aload_n 0, 1) := by decide +kernel
theorem dM_begins_9 : decode prog_3_method_9_code 9 = .ok (.getfield 7, 3) := by decide +kernel
theorem dM_begins_12 : decode prog_3_method_9_code 12 = .ok (.iconst 0, 1) := by decide +kernel
theorem dM_begins_13 : decode prog_3_method_9_code 13 = .ok (.iaload, 1) := by decide +kernel
theorem dM_begins_14 : decode prog_3_method_9_code 14 = .ok (.iload_n 1, 1) := by decide +kernel
theorem dM_begins_15 : decode prog_3_method_9_code 15 = .ok (.if_icmp .ne 17, 3) := by decide +kernel
theorem dM_begins_18 : decode prog_3_method_9_code 18 = .ok (.aload_n 0, 1) := by decide +kernel
theorem dM_begins_19 : decode prog_3_method_9_code 19 = .ok (.getfield 7, 3) := by decide +kernel
theorem dM_begins_22 : decode prog_3_method_9_code 22 = .ok (.iconst 1, 1) := by decide +kernel
theorem dM_begins_23 : decode prog_3_method_9_code 23 = .ok (.iaload, 1) := by decide +kernel
theorem dM_begins_24 : decode prog_3_method_9_code 24 = .ok (.iload_n 2, 1) := by decide +kernel
theorem dM_begins_25 : decode prog_3_method_9_code 25 = .ok (.if_icmp .ne 7, 3) := by decide +kernel
theorem dM_begins_28 : decode prog_3_method_9_code 28 = .ok (.iconst 1, 1) := by decide +kernel
theorem dM_begins_29 : decode prog_3_method_9_code 29 = .ok (.goto 4, 3) := by decide +kernel
theorem dM_begins_32 : decode prog_3_method_9_code 32 = .ok (.iconst 0, 1) := by decide +kernel
theorem dM_begins_33 : decode prog_3_method_9_code 33 = .ok (.ireturn, 1) := by decide +kernel
theorem dM_takeSixteen_0 : decode prog_3_method_14_code 0 = .ok (.aload_n 0, 1) := by decide +kernel
theorem dM_takeSixteen_1 : decode prog_3_method_14_code 1 = .ok (.aload_n 0, 1) := by decide +kernel
theorem dM_takeSixteen_2 : decode prog_3_method_14_code 2 = .ok (.iload_n 1, 1) := by decide +kernel
theorem dM_takeSixteen_3 : decode prog_3_method_14_code 3 = .ok (.iload_n 2, 1) := by decide +kernel
theorem dM_takeSixteen_4 : decode prog_3_method_14_code 4 = .ok (.invokevirtual 46, 3) := by decide +kernel
theorem dM_takeSixteen_7 : decode prog_3_method_14_code 7 = .ok (.putfield 39, 3) := by decide +kernel
theorem dM_takeSixteen_10 : decode prog_3_method_14_code 10 = .ok (.aload_n 0, 1) := by decide +kernel
theorem dM_takeSixteen_11 : decode prog_3_method_14_code 11 = .ok (.getfield 39, 3) := by decide +kernel
theorem dM_takeSixteen_14 : decode prog_3_method_14_code 14 = .ok (.ifCond .ge 5, 3) := by decide +kernel
theorem dM_takeSixteen_17 : decode prog_3_method_14_code 17 = .ok (.iconst (-1), 1) := by decide +kernel
theorem dM_takeSixteen_18 : decode prog_3_method_14_code 18 = .ok (.ireturn, 1) := by decide +kernel
theorem dM_takeSixteen_19 : decode prog_3_method_14_code 19 = .ok (.aload_n 0, 1) := by decide +kernel
theorem dM_takeSixteen_20 : decode prog_3_method_14_code 20 = .ok (.iload_n 1, 1) := by decide +kernel
theorem dM_takeSixteen_21 : decode prog_3_method_14_code 21 = .ok (.iconst 2, 1) := by decide +kernel
theorem dM_takeSixteen_22 : decode prog_3_method_14_code 22 = .ok (.iadd, 1) := by decide +kernel
theorem dM_takeSixteen_23 : decode prog_3_method_14_code 23 = .ok (.iload_n 2, 1) := by decide +kernel
theorem dM_takeSixteen_24 : decode prog_3_method_14_code 24 = .ok (.invokevirtual 46, 3) := by decide +kernel
theorem dM_takeSixteen_27 : decode prog_3_method_14_code 27 = .ok (.istore_n 3, 1) := by decide +kernel
theorem dM_takeSixteen_28 : decode prog_3_method_14_code 28 = .ok (.aload_n 0, 1) := by decide +kernel
theorem dM_takeSixteen_29 : decode prog_3_method_14_code 29 = .ok (.getfield 39, 3) := by decide +kernel
theorem dM_takeSixteen_32 : decode prog_3_method_14_code 32 = .ok (.ldc 50, 2) := by decide +kernel
theorem dM_takeSixteen_34 : decode prog_3_method_14_code 34 = .ok (.ldc 51, 2) := by decide +kernel
theorem dM_takeSixteen_36 : decode prog_3_method_14_code 36 = .ok (.invokestatic 24, 3) := by decide +kernel
theorem dM_takeSixteen_39 : decode prog_3_method_14_code 39 = .ok (.ifCond .eq 39, 3) := by decide +kernel
theorem dM_takeSixteen_42 : decode prog_3_method_14_code 42 = .ok (.iload_n 3, 1) := by decide +kernel
theorem dM_takeSixteen_43 : decode prog_3_method_14_code 43 = .ok (.ldc 52, 2) := by decide +kernel
theorem dM_takeSixteen_45 : decode prog_3_method_14_code 45 = .ok (.ldc 53, 2) := by decide +kernel
theorem dM_takeSixteen_47 : decode prog_3_method_14_code 47 = .ok (.invokestatic 24, 3) := by decide +kernel
theorem dM_takeSixteen_50 : decode prog_3_method_14_code 50 = .ok (.ifCond .eq 28, 3) := by decide +kernel
theorem dM_takeSixteen_53 : decode prog_3_method_14_code 53 = .ok (.aload_n 0, 1) := by decide +kernel
theorem dM_takeSixteen_54 : decode prog_3_method_14_code 54 = .ok (.ldc 30, 2) := by decide +kernel
theorem dM_takeSixteen_56 : decode prog_3_method_14_code 56 = .ok (.sipush 1024, 3) := by decide +kernel
theorem dM_takeSixteen_59 : decode prog_3_method_14_code 59 = .ok (.aload_n 0, 1) := by decide +kernel
theorem dM_takeSixteen_60 : decode prog_3_method_14_code 60 = .ok (.getfield 39, 3) := by decide +kernel
theorem dM_takeSixteen_63 : decode prog_3_method_14_code 63 = .ok (.ldc 50, 2) := by decide +kernel
theorem dM_takeSixteen_65 : decode prog_3_method_14_code 65 = .ok (.isub, 1) := by decide +kernel
theorem dM_takeSixteen_66 : decode prog_3_method_14_code 66 = .ok (.imul, 1) := by decide +kernel
theorem dM_takeSixteen_67 : decode prog_3_method_14_code 67 = .ok (.iadd, 1) := by decide +kernel
theorem dM_takeSixteen_68 : decode prog_3_method_14_code 68 = .ok (.iload_n 3, 1) := by decide +kernel
theorem dM_takeSixteen_69 : decode prog_3_method_14_code 69 = .ok (.iadd, 1) := by decide +kernel
theorem dM_takeSixteen_70 : decode prog_3_method_14_code 70 = .ok (.ldc 52, 2) := by decide +kernel
theorem dM_takeSixteen_72 : decode prog_3_method_14_code 72 = .ok (.isub, 1) := by decide +kernel
theorem dM_takeSixteen_73 : decode prog_3_method_14_code 73 = .ok (.putfield 39, 3) := by decide +kernel
theorem dM_takeSixteen_76 : decode prog_3_method_14_code 76 = .ok (.iconst 4, 1) := by decide +kernel
theorem dM_takeSixteen_77 : decode prog_3_method_14_code 77 = .ok (.ireturn, 1) := by decide +kernel
theorem dM_takeSixteen_78 : decode prog_3_method_14_code 78 = .ok (.iconst 2, 1) := by decide +kernel
theorem dM_takeSixteen_79 : decode prog_3_method_14_code 79 = .ok (.ireturn, 1) := by decide +kernel
theorem dM_unit_0 : decode prog_3_method_11_code 0 = .ok (.iload_n 1, 1) := by decide +kernel
theorem dM_unit_1 : decode prog_3_method_11_code 1 = .ok (.iconst 1, 1) := by decide +kernel
theorem dM_unit_2 : decode prog_3_method_11_code 2 = .ok (.iadd, 1) := by decide +kernel
theorem dM_unit_3 : decode prog_3_method_11_code 3 = .ok (.aload_n 0, 1) := by decide +kernel
theorem dM_unit_4 : decode prog_3_method_11_code 4 = .ok (.getfield 32, 3) := by decide +kernel
theorem dM_unit_7 : decode prog_3_method_11_code 7 = .ok (.if_icmp .lt 7, 3) := by decide +kernel
theorem dM_unit_10 : decode prog_3_method_11_code 10 = .ok (.iconst (-1), 1) := by decide +kernel
theorem dM_unit_11 : decode prog_3_method_11_code 11 = .ok (.goto 48, 3) := by decide +kernel
theorem dM_unit_14 : decode prog_3_method_11_code 14 = .ok (.iload_n 2, 1) := by decide +kernel
theorem dM_unit_15 : decode prog_3_method_11_code 15 = .ok (.ifCond .eq 25, 3) := by decide +kernel
theorem dM_unit_18 : decode prog_3_method_11_code 18 = .ok (.sipush 256, 3) := by decide +kernel
theorem dM_unit_21 : decode prog_3_method_11_code 21 = .ok (.aload_n 0, 1) := by decide +kernel
theorem dM_unit_22 : decode prog_3_method_11_code 22 = .ok (.getfield 7, 3) := by decide +kernel
theorem dM_unit_25 : decode prog_3_method_11_code 25 = .ok (.iload_n 1, 1) := by decide +kernel
theorem dM_unit_26 : decode prog_3_method_11_code 26 = .ok (.iaload, 1) := by decide +kernel
theorem dM_unit_27 : decode prog_3_method_11_code 27 = .ok (.imul, 1) := by decide +kernel
theorem dM_unit_28 : decode prog_3_method_11_code 28 = .ok (.aload_n 0, 1) := by decide +kernel
theorem dM_unit_29 : decode prog_3_method_11_code 29 = .ok (.getfield 7, 3) := by decide +kernel
theorem dM_unit_32 : decode prog_3_method_11_code 32 = .ok (.iload_n 1, 1) := by decide +kernel
theorem dM_unit_33 : decode prog_3_method_11_code 33 = .ok (.iconst 1, 1) := by decide +kernel
theorem dM_unit_34 : decode prog_3_method_11_code 34 = .ok (.iadd, 1) := by decide +kernel
theorem dM_unit_35 : decode prog_3_method_11_code 35 = .ok (.iaload, 1) := by decide +kernel
theorem dM_unit_36 : decode prog_3_method_11_code 36 = .ok (.iadd, 1) := by decide +kernel
theorem dM_unit_37 : decode prog_3_method_11_code 37 = .ok (.goto 22, 3) := by decide +kernel
theorem dM_unit_40 : decode prog_3_method_11_code 40 = .ok (.sipush 256, 3) := by decide +kernel
theorem dM_unit_43 : decode prog_3_method_11_code 43 = .ok (.aload_n 0, 1) := by decide +kernel
theorem dM_unit_44 : decode prog_3_method_11_code 44 = .ok (.getfield 7, 3) := by decide +kernel
theorem dM_unit_47 : decode prog_3_method_11_code 47 = .ok (.iload_n 1, 1) := by decide +kernel
theorem dM_unit_48 : decode prog_3_method_11_code 48 = .ok (.iconst 1, 1) := by decide +kernel
theorem dM_unit_49 : decode prog_3_method_11_code 49 = .ok (.iadd, 1) := by decide +kernel
theorem dM_unit_50 : decode prog_3_method_11_code 50 = .ok (.iaload, 1) := by decide +kernel
theorem dM_unit_51 : decode prog_3_method_11_code 51 = .ok (.imul, 1) := by decide +kernel
theorem dM_unit_52 : decode prog_3_method_11_code 52 = .ok (.aload_n 0, 1) := by decide +kernel
theorem dM_unit_53 : decode prog_3_method_11_code 53 = .ok (.getfield 7, 3) := by decide +kernel
theorem dM_unit_56 : decode prog_3_method_11_code 56 = .ok (.iload_n 1, 1) := by decide +kernel
theorem dM_unit_57 : decode prog_3_method_11_code 57 = .ok (.iaload, 1) := by decide +kernel
theorem dM_unit_58 : decode prog_3_method_11_code 58 = .ok (.iadd, 1) := by decide +kernel
theorem dM_unit_59 : decode prog_3_method_11_code 59 = .ok (.ireturn, 1) := by decide +kernel
theorem dM_isIn_0 : decode prog_3_method_3_code 0 = .ok (.iload_n 0, 1) := by decide +kernel
theorem dM_isIn_1 : decode prog_3_method_3_code 1 = .ok (.iload_n 1, 1) := by decide +kernel
theorem dM_isIn_2 : decode prog_3_method_3_code 2 = .ok (.if_icmp .lt 12, 3) := by decide +kernel
theorem dM_isIn_5 : decode prog_3_method_3_code 5 = .ok (.iload_n 0, 1) := by decide +kernel
theorem dM_isIn_6 : decode prog_3_method_3_code 6 = .ok (.iload_n 2, 1) := by decide +kernel
theorem dM_isIn_7 : decode prog_3_method_3_code 7 = .ok (.if_icmp .gt 7, 3) := by decide +kernel
theorem dM_isIn_10 : decode prog_3_method_3_code 10 = .ok (.iconst 1, 1) := by decide +kernel
theorem dM_isIn_11 : decode prog_3_method_3_code 11 = .ok (.goto 4, 3) := by decide +kernel
theorem dM_isIn_14 : decode prog_3_method_3_code 14 = .ok (.iconst 0, 1) := by decide +kernel
theorem dM_isIn_15 : decode prog_3_method_3_code 15 = .ok (.ireturn, 1) := by decide +kernel
theorem dM_takeEight_0 : decode prog_3_method_13_code 0 = .ok (.aload_n 0, 1) := by decide +kernel
theorem dM_takeEight_1 : decode prog_3_method_13_code 1 = .ok (.getfield 7, 3) := by decide +kernel
theorem dM_takeEight_4 : decode prog_3_method_13_code 4 = .ok (.iload_n 1, 1) := by decide +kernel
theorem dM_takeEight_5 : decode prog_3_method_13_code 5 = .ok (.iaload, 1) := by decide +kernel
theorem dM_takeEight_6 : decode prog_3_method_13_code 6 = .ok (.istore_n 2, 1) := by decide +kernel
theorem dM_takeEight_7 : decode prog_3_method_13_code 7 = .ok (.aload_n 0, 1) := by decide +kernel
theorem dM_takeEight_8 : decode prog_3_method_13_code 8 = .ok (.iload_n 2, 1) := by decide +kernel
theorem dM_takeEight_9 : decode prog_3_method_13_code 9 = .ok (.putfield 39, 3) := by decide +kernel
theorem dM_takeEight_12 : decode prog_3_method_13_code 12 = .ok (.iload_n 2, 1) := by decide +kernel
theorem dM_takeEight_13 : decode prog_3_method_13_code 13 = .ok (.sipush 128, 3) := by decide +kernel
theorem dM_takeEight_16 : decode prog_3_method_13_code 16 = .ok (.if_icmp .ge 5, 3) := by decide +kernel
theorem dM_takeEight_19 : decode prog_3_method_13_code 19 = .ok (.iconst 1, 1) := by decide +kernel
theorem dM_takeEight_20 : decode prog_3_method_13_code 20 = .ok (.ireturn, 1) := by decide +kernel
theorem dM_takeEight_21 : decode prog_3_method_13_code 21 = .ok (.iload_n 2, 1) := by decide +kernel
theorem dM_takeEight_22 : decode prog_3_method_13_code 22 = .ok (.sipush 192, 3) := by decide +kernel
theorem dM_takeEight_25 : decode prog_3_method_13_code 25 = .ok (.if_icmp .ge 7, 3) := by decide +kernel
theorem dM_takeEight_28 : decode prog_3_method_13_code 28 = .ok (.iconst 0, 1) := by decide +kernel
theorem dM_takeEight_29 : decode prog_3_method_13_code 29 = .ok (.goto 37, 3) := by decide +kernel
theorem dM_takeEight_32 : decode prog_3_method_13_code 32 = .ok (.iload_n 2, 1) := by decide +kernel
theorem dM_takeEight_33 : decode prog_3_method_13_code 33 = .ok (.sipush 224, 3) := by decide +kernel
theorem dM_takeEight_36 : decode prog_3_method_13_code 36 = .ok (.if_icmp .ge 7, 3) := by decide +kernel
theorem dM_takeEight_39 : decode prog_3_method_13_code 39 = .ok (.iconst 2, 1) := by decide +kernel
theorem dM_takeEight_40 : decode prog_3_method_13_code 40 = .ok (.goto 26, 3) := by decide +kernel
theorem dM_takeEight_43 : decode prog_3_method_13_code 43 = .ok (.iload_n 2, 1) := by decide +kernel
theorem dM_takeEight_44 : decode prog_3_method_13_code 44 = .ok (.sipush 240, 3) := by decide +kernel
theorem dM_takeEight_47 : decode prog_3_method_13_code 47 = .ok (.if_icmp .ge 7, 3) := by decide +kernel
theorem dM_takeEight_50 : decode prog_3_method_13_code 50 = .ok (.iconst 3, 1) := by decide +kernel
theorem dM_takeEight_51 : decode prog_3_method_13_code 51 = .ok (.goto 15, 3) := by decide +kernel
theorem dM_takeEight_54 : decode prog_3_method_13_code 54 = .ok (.iload_n 2, 1) := by decide +kernel
theorem dM_takeEight_55 : decode prog_3_method_13_code 55 = .ok (.sipush 248, 3) := by decide +kernel
theorem dM_takeEight_58 : decode prog_3_method_13_code 58 = .ok (.if_icmp .ge 7, 3) := by decide +kernel
theorem dM_takeEight_61 : decode prog_3_method_13_code 61 = .ok (.iconst 4, 1) := by decide +kernel
theorem dM_takeEight_62 : decode prog_3_method_13_code 62 = .ok (.goto 4, 3) := by decide +kernel
theorem dM_takeEight_65 : decode prog_3_method_13_code 65 = .ok (.iconst 0, 1) := by decide +kernel
theorem dM_takeEight_66 : decode prog_3_method_13_code 66 = .ok (.istore_n 3, 1) := by decide +kernel
theorem dM_takeEight_67 : decode prog_3_method_13_code 67 = .ok (.iload_n 3, 1) := by decide +kernel
theorem dM_takeEight_68 : decode prog_3_method_13_code 68 = .ok (.ifCond .eq 13, 3) := by decide +kernel
theorem dM_takeEight_71 : decode prog_3_method_13_code 71 = .ok (.iload_n 1, 1) := by decide +kernel
theorem dM_takeEight_72 : decode prog_3_method_13_code 72 = .ok (.iload_n 3, 1) := by decide +kernel
theorem dM_takeEight_73 : decode prog_3_method_13_code 73 = .ok (.iadd, 1) := by decide +kernel
theorem dM_takeEight_74 : decode prog_3_method_13_code 74 = .ok (.aload_n 0, 1) := by decide +kernel
theorem dM_takeEight_75 : decode prog_3_method_13_code 75 = .ok (.getfield 32, 3) := by decide +kernel
theorem dM_takeEight_78 : decode prog_3_method_13_code 78 = .ok (.if_icmp .le 5, 3) := by decide +kernel
theorem dM_takeEight_81 : decode prog_3_method_13_code 81 = .ok (.iconst (-1), 1) := by decide +kernel
theorem dM_takeEight_82 : decode prog_3_method_13_code 82 = .ok (.ireturn, 1) := by decide +kernel
theorem dM_takeEight_83 : decode prog_3_method_13_code 83 = .ok (.iload_n 2, 1) := by decide +kernel
theorem dM_takeEight_84 : decode prog_3_method_13_code 84 = .ok (.iload_n 3, 1) := by decide +kernel
theorem dM_takeEight_85 : decode prog_3_method_13_code 85 = .ok (.iconst 2, 1) := by decide +kernel
theorem dM_takeEight_86 : decode prog_3_method_13_code 86 = .ok (.if_icmp .ne 8, 3) := by decide +kernel
theorem dM_takeEight_89 : decode prog_3_method_13_code 89 = .ok (.bipush 32, 2) := by decide +kernel
theorem dM_takeEight_91 : decode prog_3_method_13_code 91 = .ok (.goto 15, 3) := by decide +kernel
theorem dM_takeEight_94 : decode prog_3_method_13_code 94 = .ok (.iload_n 3, 1) := by decide +kernel
theorem dM_takeEight_95 : decode prog_3_method_13_code 95 = .ok (.iconst 3, 1) := by decide +kernel
theorem dM_takeEight_96 : decode prog_3_method_13_code 96 = .ok (.if_icmp .ne 8, 3) := by decide +kernel
theorem dM_takeEight_99 : decode prog_3_method_13_code 99 = .ok (.bipush 16, 2) := by decide +kernel
theorem dM_takeEight_101 : decode prog_3_method_13_code 101 = .ok (.goto 5, 3) := by decide +kernel
theorem dM_takeEight_104 : decode prog_3_method_13_code 104 = .ok (.bipush 8, 2) := by decide +kernel
theorem dM_takeEight_106 : decode prog_3_method_13_code 106 = .ok (.irem, 1) := by decide +kernel
theorem dM_takeEight_107 : decode prog_3_method_13_code 107 = .ok (.istore 4, 2) := by decide +kernel
theorem dM_takeEight_109 : decode prog_3_method_13_code 109 = .ok (.iconst 1, 1) := by decide +kernel
theorem dM_takeEight_110 : decode prog_3_method_13_code 110 = .ok (.istore 5, 2) := by decide +kernel
theorem dM_takeEight_112 : decode prog_3_method_13_code 112 = .ok (.iload 5, 2) := by decide +kernel
theorem dM_takeEight_114 : decode prog_3_method_13_code 114 = .ok (.iload_n 3, 1) := by decide +kernel
theorem dM_takeEight_115 : decode prog_3_method_13_code 115 = .ok (.if_icmp .ge 47, 3) := by decide +kernel
theorem dM_takeEight_118 : decode prog_3_method_13_code 118 = .ok (.aload_n 0, 1) := by decide +kernel
theorem dM_takeEight_119 : decode prog_3_method_13_code 119 = .ok (.getfield 7, 3) := by decide +kernel
theorem dM_takeEight_122 : decode prog_3_method_13_code 122 = .ok (.iload_n 1, 1) := by decide +kernel
theorem dM_takeEight_123 : decode prog_3_method_13_code 123 = .ok (.iload 5, 2) := by decide +kernel
theorem dM_takeEight_125 : decode prog_3_method_13_code 125 = .ok (.iadd, 1) := by decide +kernel
theorem dM_takeEight_126 : decode prog_3_method_13_code 126 = .ok (.iaload, 1) := by decide +kernel
theorem dM_takeEight_127 : decode prog_3_method_13_code 127 = .ok (.bipush 64, 2) := by decide +kernel
theorem dM_takeEight_129 : decode prog_3_method_13_code 129 = .ok (.idiv, 1) := by decide +kernel
theorem dM_takeEight_130 : decode prog_3_method_13_code 130 = .ok (.iconst 2, 1) := by decide +kernel
theorem dM_takeEight_131 : decode prog_3_method_13_code 131 = .ok (.if_icmp .eq 5, 3) := by decide +kernel
theorem dM_takeEight_134 : decode prog_3_method_13_code 134 = .ok (.iconst (-1), 1) := by decide +kernel
theorem dM_takeEight_135 : decode prog_3_method_13_code 135 = .ok (.ireturn, 1) := by decide +kernel
theorem dM_takeEight_136 : decode prog_3_method_13_code 136 = .ok (.bipush 64, 2) := by decide +kernel
theorem dM_takeEight_138 : decode prog_3_method_13_code 138 = .ok (.iload 4, 2) := by decide +kernel
theorem dM_takeEight_140 : decode prog_3_method_13_code 140 = .ok (.imul, 1) := by decide +kernel
theorem dM_takeEight_141 : decode prog_3_method_13_code 141 = .ok (.aload_n 0, 1) := by decide +kernel
theorem dM_takeEight_142 : decode prog_3_method_13_code 142 = .ok (.getfield 7, 3) := by decide +kernel
theorem dM_takeEight_145 : decode prog_3_method_13_code 145 = .ok (.iload_n 1, 1) := by decide +kernel
theorem dM_takeEight_146 : decode prog_3_method_13_code 146 = .ok (.iload 5, 2) := by decide +kernel
theorem dM_takeEight_148 : decode prog_3_method_13_code 148 = .ok (.iadd, 1) := by decide +kernel
theorem dM_takeEight_149 : decode prog_3_method_13_code 149 = .ok (.iaload, 1) := by decide +kernel
theorem dM_takeEight_150 : decode prog_3_method_13_code 150 = .ok (.bipush 64, 2) := by decide +kernel
theorem dM_takeEight_152 : decode prog_3_method_13_code 152 = .ok (.irem, 1) := by decide +kernel
theorem dM_takeEight_153 : decode prog_3_method_13_code 153 = .ok (.iadd, 1) := by decide +kernel
theorem dM_takeEight_154 : decode prog_3_method_13_code 154 = .ok (.istore 4, 2) := by decide +kernel
theorem dM_takeEight_156 : decode prog_3_method_13_code 156 = .ok (.iinc 5 1, 3) := by decide +kernel
theorem dM_takeEight_159 : decode prog_3_method_13_code 159 = .ok (.goto (-47), 3) := by decide +kernel
theorem dM_takeEight_162 : decode prog_3_method_13_code 162 = .ok (.aload_n 0, 1) := by decide +kernel
theorem dM_takeEight_163 : decode prog_3_method_13_code 163 = .ok (.iload 4, 2) := by decide +kernel
theorem dM_takeEight_165 : decode prog_3_method_13_code 165 = .ok (.putfield 39, 3) := by decide +kernel
theorem dM_takeEight_168 : decode prog_3_method_13_code 168 = .ok (.iload 4, 2) := by decide +kernel
theorem dM_takeEight_170 : decode prog_3_method_13_code 170 = .ok (.invokestatic 42, 3) := by decide +kernel
theorem dM_takeEight_173 : decode prog_3_method_13_code 173 = .ok (.iload_n 3, 1) := by decide +kernel
theorem dM_takeEight_174 : decode prog_3_method_13_code 174 = .ok (.if_icmp .ne 7, 3) := by decide +kernel
theorem dM_takeEight_177 : decode prog_3_method_13_code 177 = .ok (.iload_n 3, 1) := by decide +kernel
theorem dM_takeEight_178 : decode prog_3_method_13_code 178 = .ok (.goto 4, 3) := by decide +kernel
theorem dM_takeEight_181 : decode prog_3_method_13_code 181 = .ok (.iconst (-1), 1) := by decide +kernel
theorem dM_takeEight_182 : decode prog_3_method_13_code 182 = .ok (.ireturn, 1) := by decide +kernel
theorem dM_bytesOf_0 : decode prog_3_method_12_code 0 = .ok (.iload_n 0, 1) := by decide +kernel
theorem dM_bytesOf_1 : decode prog_3_method_12_code 1 = .ok (.sipush 128, 3) := by decide +kernel
theorem dM_bytesOf_4 : decode prog_3_method_12_code 4 = .ok (.if_icmp .ge 7, 3) := by decide +kernel
theorem dM_bytesOf_7 : decode prog_3_method_12_code 7 = .ok (.iconst 1, 1) := by decide +kernel
theorem dM_bytesOf_8 : decode prog_3_method_12_code 8 = .ok (.goto 25, 3) := by decide +kernel
theorem dM_bytesOf_11 : decode prog_3_method_12_code 11 = .ok (.iload_n 0, 1) := by decide +kernel
theorem dM_bytesOf_12 : decode prog_3_method_12_code 12 = .ok (.sipush 2048, 3) := by decide +kernel
theorem dM_bytesOf_15 : decode prog_3_method_12_code 15 = .ok (.if_icmp .ge 7, 3) := by decide +kernel
theorem dM_bytesOf_18 : decode prog_3_method_12_code 18 = .ok (.iconst 2, 1) := by decide +kernel
theorem dM_bytesOf_19 : decode prog_3_method_12_code 19 = .ok (.goto 14, 3) := by decide +kernel
theorem dM_bytesOf_22 : decode prog_3_method_12_code 22 = .ok (.iload_n 0, 1) := by decide +kernel
theorem dM_bytesOf_23 : decode prog_3_method_12_code 23 = .ok (.ldc 30, 2) := by decide +kernel
theorem dM_bytesOf_25 : decode prog_3_method_12_code 25 = .ok (.if_icmp .ge 7, 3) := by decide +kernel
theorem dM_bytesOf_28 : decode prog_3_method_12_code 28 = .ok (.iconst 3, 1) := by decide +kernel
theorem dM_bytesOf_29 : decode prog_3_method_12_code 29 = .ok (.goto 4, 3) := by decide +kernel
theorem dM_bytesOf_32 : decode prog_3_method_12_code 32 = .ok (.iconst 4, 1) := by decide +kernel
theorem dM_bytesOf_33 : decode prog_3_method_12_code 33 = .ok (.ireturn, 1) := by decide +kernel
theorem dM_isCharacter_0 : decode prog_3_method_4_code 0 = .ok (.iload_n 0, 1) := by decide +kernel
theorem dM_isCharacter_1 : decode prog_3_method_4_code 1 = .ok (.bipush 9, 2) := by decide +kernel
theorem dM_isCharacter_3 : decode prog_3_method_4_code 3 = .ok (.if_icmp .eq 48, 3) := by decide +kernel
theorem dM_isCharacter_6 : decode prog_3_method_4_code 6 = .ok (.iload_n 0, 1) := by decide +kernel
theorem dM_isCharacter_7 : decode prog_3_method_4_code 7 = .ok (.bipush 10, 2) := by decide +kernel
theorem dM_isCharacter_9 : decode prog_3_method_4_code 9 = .ok (.if_icmp .eq 42, 3) := by decide +kernel
theorem dM_isCharacter_12 : decode prog_3_method_4_code 12 = .ok (.iload_n 0, 1) := by decide +kernel
theorem dM_isCharacter_13 : decode prog_3_method_4_code 13 = .ok (.bipush 13, 2) := by decide +kernel
theorem dM_isCharacter_15 : decode prog_3_method_4_code 15 = .ok (.if_icmp .eq 36, 3) := by decide +kernel
theorem dM_isCharacter_18 : decode prog_3_method_4_code 18 = .ok (.iload_n 0, 1) := by decide +kernel
theorem dM_isCharacter_19 : decode prog_3_method_4_code 19 = .ok (.bipush 32, 2) := by decide +kernel
theorem dM_isCharacter_21 : decode prog_3_method_4_code 21 = .ok (.ldc 23, 2) := by decide +kernel
theorem dM_isCharacter_23 : decode prog_3_method_4_code 23 = .ok (.invokestatic 24, 3) := by decide +kernel
theorem dM_isCharacter_26 : decode prog_3_method_4_code 26 = .ok (.ifCond .ne 25, 3) := by decide +kernel
theorem dM_isCharacter_29 : decode prog_3_method_4_code 29 = .ok (.iload_n 0, 1) := by decide +kernel
theorem dM_isCharacter_30 : decode prog_3_method_4_code 30 = .ok (.ldc 28, 2) := by decide +kernel
theorem dM_isCharacter_32 : decode prog_3_method_4_code 32 = .ok (.ldc 29, 2) := by decide +kernel
theorem dM_isCharacter_34 : decode prog_3_method_4_code 34 = .ok (.invokestatic 24, 3) := by decide +kernel
theorem dM_isCharacter_37 : decode prog_3_method_4_code 37 = .ok (.ifCond .ne 14, 3) := by decide +kernel
theorem dM_isCharacter_40 : decode prog_3_method_4_code 40 = .ok (.iload_n 0, 1) := by decide +kernel
theorem dM_isCharacter_41 : decode prog_3_method_4_code 41 = .ok (.ldc 30, 2) := by decide +kernel
theorem dM_isCharacter_43 : decode prog_3_method_4_code 43 = .ok (.ldc 31, 2) := by decide +kernel
theorem dM_isCharacter_45 : decode prog_3_method_4_code 45 = .ok (.invokestatic 24, 3) := by decide +kernel
theorem dM_isCharacter_48 : decode prog_3_method_4_code 48 = .ok (.ifCond .eq 7, 3) := by decide +kernel
theorem dM_isCharacter_51 : decode prog_3_method_4_code 51 = .ok (.iconst 1, 1) := by decide +kernel
theorem dM_isCharacter_52 : decode prog_3_method_4_code 52 = .ok (.goto 4, 3) := by decide +kernel
theorem dM_isCharacter_55 : decode prog_3_method_4_code 55 = .ok (.iconst 0, 1) := by decide +kernel
theorem dM_isCharacter_56 : decode prog_3_method_4_code 56 = .ok (.ireturn, 1) := by decide +kernel
theorem dM_length_0 : decode prog_3_method_16_code 0 = .ok (.aload_n 0, 1) := by decide +kernel
theorem dM_length_1 : decode prog_3_method_16_code 1 = .ok (.iconst 0, 1) := by decide +kernel
theorem dM_length_2 : decode prog_3_method_16_code 2 = .ok (.putfield 19, 3) := by decide +kernel
theorem dM_length_5 : decode prog_3_method_16_code 5 = .ok (.aload_n 0, 1) := by decide +kernel
theorem dM_length_6 : decode prog_3_method_16_code 6 = .ok (.getfield 68, 3) := by decide +kernel
theorem dM_length_9 : decode prog_3_method_16_code 9 = .ok (.ireturn, 1) := by decide +kernel
theorem dM_sign_0 : decode prog_3_method_17_code 0 = .ok (.aload_n 0, 1) := by decide +kernel
theorem dM_sign_1 : decode prog_3_method_17_code 1 = .ok (.iconst 0, 1) := by decide +kernel
theorem dM_sign_2 : decode prog_3_method_17_code 2 = .ok (.putfield 19, 3) := by decide +kernel
theorem dM_sign_5 : decode prog_3_method_17_code 5 = .ok (.iload_n 1, 1) := by decide +kernel
theorem dM_sign_6 : decode prog_3_method_17_code 6 = .ok (.ifCond .lt 20, 3) := by decide +kernel
theorem dM_sign_9 : decode prog_3_method_17_code 9 = .ok (.iload_n 1, 1) := by decide +kernel
theorem dM_sign_10 : decode prog_3_method_17_code 10 = .ok (.aload_n 0, 1) := by decide +kernel
theorem dM_sign_11 : decode prog_3_method_17_code 11 = .ok (.getfield 68, 3) := by decide +kernel
theorem dM_sign_14 : decode prog_3_method_17_code 14 = .ok (.if_icmp .ge 12, 3) := by decide +kernel
theorem dM_sign_17 : decode prog_3_method_17_code 17 = .ok (.aload_n 0, 1) := by decide +kernel
theorem dM_sign_18 : decode prog_3_method_17_code 18 = .ok (.getfield 13, 3) := by decide +kernel
theorem dM_sign_21 : decode prog_3_method_17_code 21 = .ok (.iload_n 1, 1) := by decide +kernel
theorem dM_sign_22 : decode prog_3_method_17_code 22 = .ok (.iaload, 1) := by decide +kernel
theorem dM_sign_23 : decode prog_3_method_17_code 23 = .ok (.goto 4, 3) := by decide +kernel
theorem dM_sign_26 : decode prog_3_method_17_code 26 = .ok (.iconst (-1), 1) := by decide +kernel
theorem dM_sign_27 : decode prog_3_method_17_code 27 = .ok (.ireturn, 1) := by decide +kernel
theorem dM_way_0 : decode prog_3_method_18_code 0 = .ok (.aload_n 0, 1) := by decide +kernel
theorem dM_way_1 : decode prog_3_method_18_code 1 = .ok (.iconst 0, 1) := by decide +kernel
theorem dM_way_2 : decode prog_3_method_18_code 2 = .ok (.putfield 19, 3) := by decide +kernel
theorem dM_way_5 : decode prog_3_method_18_code 5 = .ok (.aload_n 0, 1) := by decide +kernel
theorem dM_way_6 : decode prog_3_method_18_code 6 = .ok (.getfield 71, 3) := by decide +kernel
theorem dM_way_9 : decode prog_3_method_18_code 9 = .ok (.ireturn, 1) := by decide +kernel
theorem dM_kinds_0 : decode prog_3_method_24_code 0 = .ok (.aload_n 0, 1) := by decide +kernel
theorem dM_kinds_1 : decode prog_3_method_24_code 1 = .ok (.iconst 0, 1) := by decide +kernel
theorem dM_kinds_2 : decode prog_3_method_24_code 2 = .ok (.putfield 19, 3) := by decide +kernel
theorem dM_kinds_5 : decode prog_3_method_24_code 5 = .ok (.iload_n 1, 1) := by decide +kernel
theorem dM_kinds_6 : decode prog_3_method_24_code 6 = .ok (.invokestatic 90, 3) := by decide +kernel
theorem dM_kinds_9 : decode prog_3_method_24_code 9 = .ok (.ireturn, 1) := by decide +kernel
theorem dM_kindsOf_0 : decode prog_3_method_23_code 0 = .ok (.iload_n 0, 1) := by decide +kernel
theorem dM_kindsOf_1 : decode prog_3_method_23_code 1 = .ok (.invokestatic 64, 3) := by decide +kernel
theorem dM_kindsOf_4 : decode prog_3_method_23_code 4 = .ok (.ifCond .ne 5, 3) := by decide +kernel
theorem dM_kindsOf_7 : decode prog_3_method_23_code 7 = .ok (.iconst 0, 1) := by decide +kernel
theorem dM_kindsOf_8 : decode prog_3_method_23_code 8 = .ok (.ireturn, 1) := by decide +kernel
theorem dM_kindsOf_9 : decode prog_3_method_23_code 9 = .ok (.iload_n 0, 1) := by decide +kernel
theorem dM_kindsOf_10 : decode prog_3_method_23_code 10 = .ok (.bipush 32, 2) := by decide +kernel
theorem dM_kindsOf_12 : decode prog_3_method_23_code 12 = .ok (.if_icmp .eq 21, 3) := by decide +kernel
theorem dM_kindsOf_15 : decode prog_3_method_23_code 15 = .ok (.iload_n 0, 1) := by decide +kernel
theorem dM_kindsOf_16 : decode prog_3_method_23_code 16 = .ok (.bipush 9, 2) := by decide +kernel
theorem dM_kindsOf_18 : decode prog_3_method_23_code 18 = .ok (.if_icmp .eq 15, 3) := by decide +kernel
theorem dM_kindsOf_21 : decode prog_3_method_23_code 21 = .ok (.iload_n 0, 1) := by decide +kernel
theorem dM_kindsOf_22 : decode prog_3_method_23_code 22 = .ok (.bipush 13, 2) := by decide +kernel
theorem dM_kindsOf_24 : decode prog_3_method_23_code 24 = .ok (.if_icmp .eq 9, 3) := by decide +kernel
theorem dM_kindsOf_27 : decode prog_3_method_23_code 27 = .ok (.iload_n 0, 1) := by decide +kernel
theorem dM_kindsOf_28 : decode prog_3_method_23_code 28 = .ok (.bipush 10, 2) := by decide +kernel
theorem dM_kindsOf_30 : decode prog_3_method_23_code 30 = .ok (.if_icmp .ne 7, 3) := by decide +kernel
theorem dM_kindsOf_33 : decode prog_3_method_23_code 33 = .ok (.iconst 1, 1) := by decide +kernel
theorem dM_kindsOf_34 : decode prog_3_method_23_code 34 = .ok (.goto 4, 3) := by decide +kernel
theorem dM_kindsOf_37 : decode prog_3_method_23_code 37 = .ok (.iconst 0, 1) := by decide +kernel
theorem dM_kindsOf_38 : decode prog_3_method_23_code 38 = .ok (.istore_n 1, 1) := by decide +kernel
theorem dM_kindsOf_39 : decode prog_3_method_23_code 39 = .ok (.iload_n 1, 1) := by decide +kernel
theorem dM_kindsOf_40 : decode prog_3_method_23_code 40 = .ok (.ifCond .eq 7, 3) := by decide +kernel
theorem dM_kindsOf_43 : decode prog_3_method_23_code 43 = .ok (.iconst 1, 1) := by decide +kernel
theorem dM_kindsOf_44 : decode prog_3_method_23_code 44 = .ok (.goto 4, 3) := by decide +kernel
theorem dM_kindsOf_47 : decode prog_3_method_23_code 47 = .ok (.iconst 0, 1) := by decide +kernel
theorem dM_kindsOf_48 : decode prog_3_method_23_code 48 = .ok (.iload_n 0, 1) := by decide +kernel
theorem dM_kindsOf_49 : decode prog_3_method_23_code 49 = .ok (.invokestatic 74, 3) := by decide +kernel
theorem dM_kindsOf_52 : decode prog_3_method_23_code 52 = .ok (.ifCond .eq 7, 3) := by decide +kernel
theorem dM_kindsOf_55 : decode prog_3_method_23_code 55 = .ok (.iconst 2, 1) := by decide +kernel
theorem dM_kindsOf_56 : decode prog_3_method_23_code 56 = .ok (.goto 4, 3) := by decide +kernel
theorem dM_kindsOf_59 : decode prog_3_method_23_code 59 = .ok (.iconst 0, 1) := by decide +kernel
theorem dM_kindsOf_60 : decode prog_3_method_23_code 60 = .ok (.iadd, 1) := by decide +kernel
theorem dM_kindsOf_61 : decode prog_3_method_23_code 61 = .ok (.iload_n 0, 1) := by decide +kernel
theorem dM_kindsOf_62 : decode prog_3_method_23_code 62 = .ok (.bipush 48, 2) := by decide +kernel
theorem dM_kindsOf_64 : decode prog_3_method_23_code 64 = .ok (.bipush 57, 2) := by decide +kernel
theorem dM_kindsOf_66 : decode prog_3_method_23_code 66 = .ok (.invokestatic 24, 3) := by decide +kernel
theorem dM_kindsOf_69 : decode prog_3_method_23_code 69 = .ok (.ifCond .eq 7, 3) := by decide +kernel
theorem dM_kindsOf_72 : decode prog_3_method_23_code 72 = .ok (.iconst 4, 1) := by decide +kernel
theorem dM_kindsOf_73 : decode prog_3_method_23_code 73 = .ok (.goto 4, 3) := by decide +kernel
theorem dM_kindsOf_76 : decode prog_3_method_23_code 76 = .ok (.iconst 0, 1) := by decide +kernel
theorem dM_kindsOf_77 : decode prog_3_method_23_code 77 = .ok (.iadd, 1) := by decide +kernel
theorem dM_kindsOf_78 : decode prog_3_method_23_code 78 = .ok (.iload_n 0, 1) := by decide +kernel
theorem dM_kindsOf_79 : decode prog_3_method_23_code 79 = .ok (.invokestatic 81, 3) := by decide +kernel
theorem dM_kindsOf_82 : decode prog_3_method_23_code 82 = .ok (.ifCond .eq 8, 3) := by decide +kernel
theorem dM_kindsOf_85 : decode prog_3_method_23_code 85 = .ok (.bipush 8, 2) := by decide +kernel
theorem dM_kindsOf_87 : decode prog_3_method_23_code 87 = .ok (.goto 4, 3) := by decide +kernel
theorem dM_kindsOf_90 : decode prog_3_method_23_code 90 = .ok (.iconst 0, 1) := by decide +kernel
theorem dM_kindsOf_91 : decode prog_3_method_23_code 91 = .ok (.iadd, 1) := by decide +kernel
theorem dM_kindsOf_92 : decode prog_3_method_23_code 92 = .ok (.iload_n 0, 1) := by decide +kernel
theorem dM_kindsOf_93 : decode prog_3_method_23_code 93 = .ok (.invokestatic 84, 3) := by decide +kernel
theorem dM_kindsOf_96 : decode prog_3_method_23_code 96 = .ok (.ifCond .eq 8, 3) := by decide +kernel
theorem dM_kindsOf_99 : decode prog_3_method_23_code 99 = .ok (.bipush 16, 2) := by decide +kernel
theorem dM_kindsOf_101 : decode prog_3_method_23_code 101 = .ok (.goto 4, 3) := by decide +kernel
theorem dM_kindsOf_104 : decode prog_3_method_23_code 104 = .ok (.iconst 0, 1) := by decide +kernel
theorem dM_kindsOf_105 : decode prog_3_method_23_code 105 = .ok (.iadd, 1) := by decide +kernel
theorem dM_kindsOf_106 : decode prog_3_method_23_code 106 = .ok (.iload_n 0, 1) := by decide +kernel
theorem dM_kindsOf_107 : decode prog_3_method_23_code 107 = .ok (.invokestatic 87, 3) := by decide +kernel
theorem dM_kindsOf_110 : decode prog_3_method_23_code 110 = .ok (.ifCond .eq 8, 3) := by decide +kernel
theorem dM_kindsOf_113 : decode prog_3_method_23_code 113 = .ok (.bipush 32, 2) := by decide +kernel
theorem dM_kindsOf_115 : decode prog_3_method_23_code 115 = .ok (.goto 4, 3) := by decide +kernel
theorem dM_kindsOf_118 : decode prog_3_method_23_code 118 = .ok (.iconst 0, 1) := by decide +kernel
theorem dM_kindsOf_119 : decode prog_3_method_23_code 119 = .ok (.iadd, 1) := by decide +kernel
theorem dM_kindsOf_120 : decode prog_3_method_23_code 120 = .ok (.ireturn, 1) := by decide +kernel
theorem dM_isLetter_0 : decode prog_3_method_19_code 0 = .ok (.iload_n 0, 1) := by decide +kernel
theorem dM_isLetter_1 : decode prog_3_method_19_code 1 = .ok (.bipush 65, 2) := by decide +kernel
theorem dM_isLetter_3 : decode prog_3_method_19_code 3 = .ok (.bipush 90, 2) := by decide +kernel
theorem dM_isLetter_5 : decode prog_3_method_19_code 5 = .ok (.invokestatic 24, 3) := by decide +kernel
theorem dM_isLetter_8 : decode prog_3_method_19_code 8 = .ok (.ifCond .ne 14, 3) := by decide +kernel
theorem dM_isLetter_11 : decode prog_3_method_19_code 11 = .ok (.iload_n 0, 1) := by decide +kernel
theorem dM_isLetter_12 : decode prog_3_method_19_code 12 = .ok (.bipush 97, 2) := by decide +kernel
theorem dM_isLetter_14 : decode prog_3_method_19_code 14 = .ok (.bipush 122, 2) := by decide +kernel
theorem dM_isLetter_16 : decode prog_3_method_19_code 16 = .ok (.invokestatic 24, 3) := by decide +kernel
theorem dM_isLetter_19 : decode prog_3_method_19_code 19 = .ok (.ifCond .eq 7, 3) := by decide +kernel
theorem dM_isLetter_22 : decode prog_3_method_19_code 22 = .ok (.iconst 1, 1) := by decide +kernel
theorem dM_isLetter_23 : decode prog_3_method_19_code 23 = .ok (.goto 4, 3) := by decide +kernel
theorem dM_isLetter_26 : decode prog_3_method_19_code 26 = .ok (.iconst 0, 1) := by decide +kernel
theorem dM_isLetter_27 : decode prog_3_method_19_code 27 = .ok (.ireturn, 1) := by decide +kernel
theorem dM_isStart_0 : decode prog_3_method_20_code 0 = .ok (.iload_n 0, 1) := by decide +kernel
theorem dM_isStart_1 : decode prog_3_method_20_code 1 = .ok (.invokestatic 74, 3) := by decide +kernel
theorem dM_isStart_4 : decode prog_3_method_20_code 4 = .ok (.ifCond .ne 80, 3) := by decide +kernel
theorem dM_isStart_7 : decode prog_3_method_20_code 7 = .ok (.iload_n 0, 1) := by decide +kernel
theorem dM_isStart_8 : decode prog_3_method_20_code 8 = .ok (.bipush 58, 2) := by decide +kernel
theorem dM_isStart_10 : decode prog_3_method_20_code 10 = .ok (.if_icmp .eq 74, 3) := by decide +kernel
theorem dM_isStart_13 : decode prog_3_method_20_code 13 = .ok (.iload_n 0, 1) := by decide +kernel
theorem dM_isStart_14 : decode prog_3_method_20_code 14 = .ok (.bipush 95, 2) := by decide +kernel
theorem dM_isStart_16 : decode prog_3_method_20_code 16 = .ok (.if_icmp .eq 68, 3) := by decide +kernel
theorem dM_isStart_19 : decode prog_3_method_20_code 19 = .ok (.iload_n 0, 1) := by decide +kernel
theorem dM_isStart_20 : decode prog_3_method_20_code 20 = .ok (.sipush 192, 3) := by decide +kernel
theorem dM_isStart_23 : decode prog_3_method_20_code 23 = .ok (.sipush 214, 3) := by decide +kernel
theorem dM_isStart_26 : decode prog_3_method_20_code 26 = .ok (.invokestatic 24, 3) := by decide +kernel
theorem dM_isStart_29 : decode prog_3_method_20_code 29 = .ok (.ifCond .ne 55, 3) := by decide +kernel
theorem dM_isStart_32 : decode prog_3_method_20_code 32 = .ok (.iload_n 0, 1) := by decide +kernel
theorem dM_isStart_33 : decode prog_3_method_20_code 33 = .ok (.sipush 216, 3) := by decide +kernel
theorem dM_isStart_36 : decode prog_3_method_20_code 36 = .ok (.sipush 246, 3) := by decide +kernel
theorem dM_isStart_39 : decode prog_3_method_20_code 39 = .ok (.invokestatic 24, 3) := by decide +kernel
theorem dM_isStart_42 : decode prog_3_method_20_code 42 = .ok (.ifCond .ne 42, 3) := by decide +kernel
theorem dM_isStart_45 : decode prog_3_method_20_code 45 = .ok (.iload_n 0, 1) := by decide +kernel
theorem dM_isStart_46 : decode prog_3_method_20_code 46 = .ok (.sipush 248, 3) := by decide +kernel
theorem dM_isStart_49 : decode prog_3_method_20_code 49 = .ok (.sipush 767, 3) := by decide +kernel
theorem dM_isStart_52 : decode prog_3_method_20_code 52 = .ok (.invokestatic 24, 3) := by decide +kernel
theorem dM_isStart_55 : decode prog_3_method_20_code 55 = .ok (.ifCond .ne 29, 3) := by decide +kernel
theorem dM_isStart_58 : decode prog_3_method_20_code 58 = .ok (.iload_n 0, 1) := by decide +kernel
theorem dM_isStart_59 : decode prog_3_method_20_code 59 = .ok (.sipush 880, 3) := by decide +kernel
theorem dM_isStart_62 : decode prog_3_method_20_code 62 = .ok (.sipush 893, 3) := by decide +kernel
theorem dM_isStart_65 : decode prog_3_method_20_code 65 = .ok (.invokestatic 24, 3) := by decide +kernel
theorem dM_isStart_68 : decode prog_3_method_20_code 68 = .ok (.ifCond .ne 16, 3) := by decide +kernel
theorem dM_isStart_71 : decode prog_3_method_20_code 71 = .ok (.iload_n 0, 1) := by decide +kernel
theorem dM_isStart_72 : decode prog_3_method_20_code 72 = .ok (.sipush 895, 3) := by decide +kernel
theorem dM_isStart_75 : decode prog_3_method_20_code 75 = .ok (.sipush 8191, 3) := by decide +kernel
theorem dM_isStart_78 : decode prog_3_method_20_code 78 = .ok (.invokestatic 24, 3) := by decide +kernel
theorem dM_isStart_81 : decode prog_3_method_20_code 81 = .ok (.ifCond .eq 7, 3) := by decide +kernel
theorem dM_isStart_84 : decode prog_3_method_20_code 84 = .ok (.iconst 1, 1) := by decide +kernel
theorem dM_isStart_85 : decode prog_3_method_20_code 85 = .ok (.goto 4, 3) := by decide +kernel
theorem dM_isStart_88 : decode prog_3_method_20_code 88 = .ok (.iconst 0, 1) := by decide +kernel
theorem dM_isStart_89 : decode prog_3_method_20_code 89 = .ok (.istore_n 1, 1) := by decide +kernel
theorem dM_isStart_90 : decode prog_3_method_20_code 90 = .ok (.iload_n 1, 1) := by decide +kernel
theorem dM_isStart_91 : decode prog_3_method_20_code 91 = .ok (.ifCond .ne 88, 3) := by decide +kernel
theorem dM_isStart_94 : decode prog_3_method_20_code 94 = .ok (.iload_n 0, 1) := by decide +kernel
theorem dM_isStart_95 : decode prog_3_method_20_code 95 = .ok (.sipush 8204, 3) := by decide +kernel
theorem dM_isStart_98 : decode prog_3_method_20_code 98 = .ok (.if_icmp .eq 81, 3) := by decide +kernel
theorem dM_isStart_101 : decode prog_3_method_20_code 101 = .ok (.iload_n 0, 1) := by decide +kernel
theorem dM_isStart_102 : decode prog_3_method_20_code 102 = .ok (.sipush 8205, 3) := by decide +kernel
theorem dM_isStart_105 : decode prog_3_method_20_code 105 = .ok (.if_icmp .eq 74, 3) := by decide +kernel
theorem dM_isStart_108 : decode prog_3_method_20_code 108 = .ok (.iload_n 0, 1) := by decide +kernel
theorem dM_isStart_109 : decode prog_3_method_20_code 109 = .ok (.sipush 8304, 3) := by decide +kernel
theorem dM_isStart_112 : decode prog_3_method_20_code 112 = .ok (.sipush 8591, 3) := by decide +kernel
theorem dM_isStart_115 : decode prog_3_method_20_code 115 = .ok (.invokestatic 24, 3) := by decide +kernel
theorem dM_isStart_118 : decode prog_3_method_20_code 118 = .ok (.ifCond .ne 61, 3) := by decide +kernel
theorem dM_isStart_121 : decode prog_3_method_20_code 121 = .ok (.iload_n 0, 1) := by decide +kernel
theorem dM_isStart_122 : decode prog_3_method_20_code 122 = .ok (.sipush 11264, 3) := by decide +kernel
theorem dM_isStart_125 : decode prog_3_method_20_code 125 = .ok (.sipush 12271, 3) := by decide +kernel
theorem dM_isStart_128 : decode prog_3_method_20_code 128 = .ok (.invokestatic 24, 3) := by decide +kernel
theorem dM_isStart_131 : decode prog_3_method_20_code 131 = .ok (.ifCond .ne 48, 3) := by decide +kernel
theorem dM_isStart_134 : decode prog_3_method_20_code 134 = .ok (.iload_n 0, 1) := by decide +kernel
theorem dM_isStart_135 : decode prog_3_method_20_code 135 = .ok (.sipush 12289, 3) := by decide +kernel
theorem dM_isStart_138 : decode prog_3_method_20_code 138 = .ok (.ldc 23, 2) := by decide +kernel
theorem dM_isStart_140 : decode prog_3_method_20_code 140 = .ok (.invokestatic 24, 3) := by decide +kernel
theorem dM_isStart_143 : decode prog_3_method_20_code 143 = .ok (.ifCond .ne 36, 3) := by decide +kernel
theorem dM_isStart_146 : decode prog_3_method_20_code 146 = .ok (.iload_n 0, 1) := by decide +kernel
theorem dM_isStart_147 : decode prog_3_method_20_code 147 = .ok (.ldc 77, 2) := by decide +kernel
theorem dM_isStart_149 : decode prog_3_method_20_code 149 = .ok (.ldc 78, 2) := by decide +kernel
theorem dM_isStart_151 : decode prog_3_method_20_code 151 = .ok (.invokestatic 24, 3) := by decide +kernel
theorem dM_isStart_154 : decode prog_3_method_20_code 154 = .ok (.ifCond .ne 25, 3) := by decide +kernel
theorem dM_isStart_157 : decode prog_3_method_20_code 157 = .ok (.iload_n 0, 1) := by decide +kernel
theorem dM_isStart_158 : decode prog_3_method_20_code 158 = .ok (.ldc 79, 2) := by decide +kernel
theorem dM_isStart_160 : decode prog_3_method_20_code 160 = .ok (.ldc 29, 2) := by decide +kernel
theorem dM_isStart_162 : decode prog_3_method_20_code 162 = .ok (.invokestatic 24, 3) := by decide +kernel
theorem dM_isStart_165 : decode prog_3_method_20_code 165 = .ok (.ifCond .ne 14, 3) := by decide +kernel
theorem dM_isStart_168 : decode prog_3_method_20_code 168 = .ok (.iload_n 0, 1) := by decide +kernel
theorem dM_isStart_169 : decode prog_3_method_20_code 169 = .ok (.ldc 30, 2) := by decide +kernel
theorem dM_isStart_171 : decode prog_3_method_20_code 171 = .ok (.ldc 80, 2) := by decide +kernel
theorem dM_isStart_173 : decode prog_3_method_20_code 173 = .ok (.invokestatic 24, 3) := by decide +kernel
theorem dM_isStart_176 : decode prog_3_method_20_code 176 = .ok (.ifCond .eq 7, 3) := by decide +kernel
theorem dM_isStart_179 : decode prog_3_method_20_code 179 = .ok (.iconst 1, 1) := by decide +kernel
theorem dM_isStart_180 : decode prog_3_method_20_code 180 = .ok (.goto 4, 3) := by decide +kernel
theorem dM_isStart_183 : decode prog_3_method_20_code 183 = .ok (.iconst 0, 1) := by decide +kernel
theorem dM_isStart_184 : decode prog_3_method_20_code 184 = .ok (.ireturn, 1) := by decide +kernel
theorem dM_isNaming_0 : decode prog_3_method_21_code 0 = .ok (.iload_n 0, 1) := by decide +kernel
theorem dM_isNaming_1 : decode prog_3_method_21_code 1 = .ok (.invokestatic 81, 3) := by decide +kernel
theorem dM_isNaming_4 : decode prog_3_method_21_code 4 = .ok (.ifCond .ne 60, 3) := by decide +kernel
theorem dM_isNaming_7 : decode prog_3_method_21_code 7 = .ok (.iload_n 0, 1) := by decide +kernel
theorem dM_isNaming_8 : decode prog_3_method_21_code 8 = .ok (.bipush 48, 2) := by decide +kernel
theorem dM_isNaming_10 : decode prog_3_method_21_code 10 = .ok (.bipush 57, 2) := by decide +kernel
theorem dM_isNaming_12 : decode prog_3_method_21_code 12 = .ok (.invokestatic 24, 3) := by decide +kernel
theorem dM_isNaming_15 : decode prog_3_method_21_code 15 = .ok (.ifCond .ne 49, 3) := by decide +kernel
theorem dM_isNaming_18 : decode prog_3_method_21_code 18 = .ok (.iload_n 0, 1) := by decide +kernel
theorem dM_isNaming_19 : decode prog_3_method_21_code 19 = .ok (.bipush 45, 2) := by decide +kernel
theorem dM_isNaming_21 : decode prog_3_method_21_code 21 = .ok (.if_icmp .eq 43, 3) := by decide +kernel
theorem dM_isNaming_24 : decode prog_3_method_21_code 24 = .ok (.iload_n 0, 1) := by decide +kernel
theorem dM_isNaming_25 : decode prog_3_method_21_code 25 = .ok (.bipush 46, 2) := by decide +kernel
theorem dM_isNaming_27 : decode prog_3_method_21_code 27 = .ok (.if_icmp .eq 37, 3) := by decide +kernel
theorem dM_isNaming_30 : decode prog_3_method_21_code 30 = .ok (.iload_n 0, 1) := by decide +kernel
theorem dM_isNaming_31 : decode prog_3_method_21_code 31 = .ok (.sipush 183, 3) := by decide +kernel
theorem dM_isNaming_34 : decode prog_3_method_21_code 34 = .ok (.if_icmp .eq 30, 3) := by decide +kernel
theorem dM_isNaming_37 : decode prog_3_method_21_code 37 = .ok (.iload_n 0, 1) := by decide +kernel
theorem dM_isNaming_38 : decode prog_3_method_21_code 38 = .ok (.sipush 768, 3) := by decide +kernel
theorem dM_isNaming_41 : decode prog_3_method_21_code 41 = .ok (.sipush 879, 3) := by decide +kernel
theorem dM_isNaming_44 : decode prog_3_method_21_code 44 = .ok (.invokestatic 24, 3) := by decide +kernel
theorem dM_isNaming_47 : decode prog_3_method_21_code 47 = .ok (.ifCond .ne 17, 3) := by decide +kernel
theorem dM_isNaming_50 : decode prog_3_method_21_code 50 = .ok (.iload_n 0, 1) := by decide +kernel
theorem dM_isNaming_51 : decode prog_3_method_21_code 51 = .ok (.sipush 8255, 3) := by decide +kernel
theorem dM_isNaming_54 : decode prog_3_method_21_code 54 = .ok (.if_icmp .eq 10, 3) := by decide +kernel
theorem dM_isNaming_57 : decode prog_3_method_21_code 57 = .ok (.iload_n 0, 1) := by decide +kernel
theorem dM_isNaming_58 : decode prog_3_method_21_code 58 = .ok (.sipush 8256, 3) := by decide +kernel
theorem dM_isNaming_61 : decode prog_3_method_21_code 61 = .ok (.if_icmp .ne 7, 3) := by decide +kernel
theorem dM_isNaming_64 : decode prog_3_method_21_code 64 = .ok (.iconst 1, 1) := by decide +kernel
theorem dM_isNaming_65 : decode prog_3_method_21_code 65 = .ok (.goto 4, 3) := by decide +kernel
theorem dM_isNaming_68 : decode prog_3_method_21_code 68 = .ok (.iconst 0, 1) := by decide +kernel
theorem dM_isNaming_69 : decode prog_3_method_21_code 69 = .ok (.ireturn, 1) := by decide +kernel
theorem dM_isPublic_0 : decode prog_3_method_22_code 0 = .ok (.iload_n 0, 1) := by decide +kernel
theorem dM_isPublic_1 : decode prog_3_method_22_code 1 = .ok (.bipush 32, 2) := by decide +kernel
theorem dM_isPublic_3 : decode prog_3_method_22_code 3 = .ok (.if_icmp .eq 73, 3) := by decide +kernel
theorem dM_isPublic_6 : decode prog_3_method_22_code 6 = .ok (.iload_n 0, 1) := by decide +kernel
theorem dM_isPublic_7 : decode prog_3_method_22_code 7 = .ok (.bipush 10, 2) := by decide +kernel
theorem dM_isPublic_9 : decode prog_3_method_22_code 9 = .ok (.if_icmp .eq 67, 3) := by decide +kernel
theorem dM_isPublic_12 : decode prog_3_method_22_code 12 = .ok (.iload_n 0, 1) := by decide +kernel
theorem dM_isPublic_13 : decode prog_3_method_22_code 13 = .ok (.bipush 33, 2) := by decide +kernel
theorem dM_isPublic_15 : decode prog_3_method_22_code 15 = .ok (.if_icmp .eq 61, 3) := by decide +kernel
theorem dM_isPublic_18 : decode prog_3_method_22_code 18 = .ok (.iload_n 0, 1) := by decide +kernel
theorem dM_isPublic_19 : decode prog_3_method_22_code 19 = .ok (.bipush 35, 2) := by decide +kernel
theorem dM_isPublic_21 : decode prog_3_method_22_code 21 = .ok (.bipush 37, 2) := by decide +kernel
theorem dM_isPublic_23 : decode prog_3_method_22_code 23 = .ok (.invokestatic 24, 3) := by decide +kernel
theorem dM_isPublic_26 : decode prog_3_method_22_code 26 = .ok (.ifCond .ne 50, 3) := by decide +kernel
theorem dM_isPublic_29 : decode prog_3_method_22_code 29 = .ok (.iload_n 0, 1) := by decide +kernel
theorem dM_isPublic_30 : decode prog_3_method_22_code 30 = .ok (.bipush 39, 2) := by decide +kernel
theorem dM_isPublic_32 : decode prog_3_method_22_code 32 = .ok (.bipush 47, 2) := by decide +kernel
theorem dM_isPublic_34 : decode prog_3_method_22_code 34 = .ok (.invokestatic 24, 3) := by decide +kernel
theorem dM_isPublic_37 : decode prog_3_method_22_code 37 = .ok (.ifCond .ne 39, 3) := by decide +kernel
theorem dM_isPublic_40 : decode prog_3_method_22_code 40 = .ok (.iload_n 0, 1) := by decide +kernel
theorem dM_isPublic_41 : decode prog_3_method_22_code 41 = .ok (.bipush 58, 2) := by decide +kernel
theorem dM_isPublic_43 : decode prog_3_method_22_code 43 = .ok (.if_icmp .eq 33, 3) := by decide +kernel
theorem dM_isPublic_46 : decode prog_3_method_22_code 46 = .ok (.iload_n 0, 1) := by decide +kernel
theorem dM_isPublic_47 : decode prog_3_method_22_code 47 = .ok (.bipush 59, 2) := by decide +kernel
theorem dM_isPublic_49 : decode prog_3_method_22_code 49 = .ok (.if_icmp .eq 27, 3) := by decide +kernel
theorem dM_isPublic_52 : decode prog_3_method_22_code 52 = .ok (.iload_n 0, 1) := by decide +kernel
theorem dM_isPublic_53 : decode prog_3_method_22_code 53 = .ok (.bipush 61, 2) := by decide +kernel
theorem dM_isPublic_55 : decode prog_3_method_22_code 55 = .ok (.if_icmp .eq 21, 3) := by decide +kernel
theorem dM_isPublic_58 : decode prog_3_method_22_code 58 = .ok (.iload_n 0, 1) := by decide +kernel
theorem dM_isPublic_59 : decode prog_3_method_22_code 59 = .ok (.bipush 63, 2) := by decide +kernel
theorem dM_isPublic_61 : decode prog_3_method_22_code 61 = .ok (.if_icmp .eq 15, 3) := by decide +kernel
theorem dM_isPublic_64 : decode prog_3_method_22_code 64 = .ok (.iload_n 0, 1) := by decide +kernel
theorem dM_isPublic_65 : decode prog_3_method_22_code 65 = .ok (.bipush 64, 2) := by decide +kernel
theorem dM_isPublic_67 : decode prog_3_method_22_code 67 = .ok (.if_icmp .eq 9, 3) := by decide +kernel
theorem dM_isPublic_70 : decode prog_3_method_22_code 70 = .ok (.iload_n 0, 1) := by decide +kernel
theorem dM_isPublic_71 : decode prog_3_method_22_code 71 = .ok (.bipush 95, 2) := by decide +kernel
theorem dM_isPublic_73 : decode prog_3_method_22_code 73 = .ok (.if_icmp .ne 7, 3) := by decide +kernel
theorem dM_isPublic_76 : decode prog_3_method_22_code 76 = .ok (.iconst 1, 1) := by decide +kernel
theorem dM_isPublic_77 : decode prog_3_method_22_code 77 = .ok (.goto 4, 3) := by decide +kernel
theorem dM_isPublic_80 : decode prog_3_method_22_code 80 = .ok (.iconst 0, 1) := by decide +kernel
theorem dM_isPublic_81 : decode prog_3_method_22_code 81 = .ok (.istore_n 1, 1) := by decide +kernel
theorem dM_isPublic_82 : decode prog_3_method_22_code 82 = .ok (.iload_n 1, 1) := by decide +kernel
theorem dM_isPublic_83 : decode prog_3_method_22_code 83 = .ok (.ifCond .ne 21, 3) := by decide +kernel
theorem dM_isPublic_86 : decode prog_3_method_22_code 86 = .ok (.iload_n 0, 1) := by decide +kernel
theorem dM_isPublic_87 : decode prog_3_method_22_code 87 = .ok (.invokestatic 74, 3) := by decide +kernel
theorem dM_isPublic_90 : decode prog_3_method_22_code 90 = .ok (.ifCond .ne 14, 3) := by decide +kernel
theorem dM_isPublic_93 : decode prog_3_method_22_code 93 = .ok (.iload_n 0, 1) := by decide +kernel
theorem dM_isPublic_94 : decode prog_3_method_22_code 94 = .ok (.bipush 48, 2) := by decide +kernel
theorem dM_isPublic_96 : decode prog_3_method_22_code 96 = .ok (.bipush 57, 2) := by decide +kernel
theorem dM_isPublic_98 : decode prog_3_method_22_code 98 = .ok (.invokestatic 24, 3) := by decide +kernel
theorem dM_isPublic_101 : decode prog_3_method_22_code 101 = .ok (.ifCond .eq 7, 3) := by decide +kernel
theorem dM_isPublic_104 : decode prog_3_method_22_code 104 = .ok (.iconst 1, 1) := by decide +kernel
theorem dM_isPublic_105 : decode prog_3_method_22_code 105 = .ok (.goto 4, 3) := by decide +kernel
theorem dM_isPublic_108 : decode prog_3_method_22_code 108 = .ok (.iconst 0, 1) := by decide +kernel
theorem dM_isPublic_109 : decode prog_3_method_22_code 109 = .ok (.ireturn, 1) := by decide +kernel
theorem dM_run_0 : decode prog_3_method_25_code 0 = .ok (.aload_n 0, 1) := by decide +kernel
theorem dM_run_1 : decode prog_3_method_25_code 1 = .ok (.iconst 0, 1) := by decide +kernel
theorem dM_run_2 : decode prog_3_method_25_code 2 = .ok (.putfield 19, 3) := by decide +kernel
theorem dM_run_5 : decode prog_3_method_25_code 5 = .ok (.iconst 0, 1) := by decide +kernel
theorem dM_run_6 : decode prog_3_method_25_code 6 = .ok (.istore_n 3, 1) := by decide +kernel
theorem dM_run_7 : decode prog_3_method_25_code 7 = .ok (.iload_n 1, 1) := by decide +kernel
theorem dM_run_8 : decode prog_3_method_25_code 8 = .ok (.ifCond .lt 44, 3) := by decide +kernel
theorem dM_run_11 : decode prog_3_method_25_code 11 = .ok (.iload_n 1, 1) := by decide +kernel
theorem dM_run_12 : decode prog_3_method_25_code 12 = .ok (.aload_n 0, 1) := by decide +kernel
theorem dM_run_13 : decode prog_3_method_25_code 13 = .ok (.getfield 68, 3) := by decide +kernel
theorem dM_run_16 : decode prog_3_method_25_code 16 = .ok (.if_icmp .ge 36, 3) := by decide +kernel
theorem dM_run_19 : decode prog_3_method_25_code 19 = .ok (.iload_n 1, 1) := by decide +kernel
theorem dM_run_20 : decode prog_3_method_25_code 20 = .ok (.iload_n 3, 1) := by decide +kernel
theorem dM_run_21 : decode prog_3_method_25_code 21 = .ok (.iadd, 1) := by decide +kernel
theorem dM_run_22 : decode prog_3_method_25_code 22 = .ok (.aload_n 0, 1) := by decide +kernel
theorem dM_run_23 : decode prog_3_method_25_code 23 = .ok (.getfield 68, 3) := by decide +kernel
theorem dM_run_26 : decode prog_3_method_25_code 26 = .ok (.if_icmp .ge 26, 3) := by decide +kernel
theorem dM_run_29 : decode prog_3_method_25_code 29 = .ok (.aload_n 0, 1) := by decide +kernel
theorem dM_run_30 : decode prog_3_method_25_code 30 = .ok (.getfield 13, 3) := by decide +kernel
theorem dM_run_33 : decode prog_3_method_25_code 33 = .ok (.iload_n 1, 1) := by decide +kernel
theorem dM_run_34 : decode prog_3_method_25_code 34 = .ok (.iload_n 3, 1) := by decide +kernel
theorem dM_run_35 : decode prog_3_method_25_code 35 = .ok (.iadd, 1) := by decide +kernel
theorem dM_run_36 : decode prog_3_method_25_code 36 = .ok (.iaload, 1) := by decide +kernel
theorem dM_run_37 : decode prog_3_method_25_code 37 = .ok (.invokestatic 90, 3) := by decide +kernel
theorem dM_run_40 : decode prog_3_method_25_code 40 = .ok (.iload_n 2, 1) := by decide +kernel
theorem dM_run_41 : decode prog_3_method_25_code 41 = .ok (.iand, 1) := by decide +kernel
theorem dM_run_42 : decode prog_3_method_25_code 42 = .ok (.ifCond .eq 10, 3) := by decide +kernel
theorem dM_run_45 : decode prog_3_method_25_code 45 = .ok (.iload_n 3, 1) := by decide +kernel
theorem dM_run_46 : decode prog_3_method_25_code 46 = .ok (.iconst 1, 1) := by decide +kernel
theorem dM_run_47 : decode prog_3_method_25_code 47 = .ok (.iadd, 1) := by decide +kernel
theorem dM_run_48 : decode prog_3_method_25_code 48 = .ok (.istore_n 3, 1) := by decide +kernel
theorem dM_run_49 : decode prog_3_method_25_code 49 = .ok (.goto (-30), 3) := by decide +kernel
theorem dM_run_52 : decode prog_3_method_25_code 52 = .ok (.iload_n 3, 1) := by decide +kernel
theorem dM_run_53 : decode prog_3_method_25_code 53 = .ok (.ireturn, 1) := by decide +kernel
theorem dM_write_0 : decode prog_3_method_29_code 0 = .ok (.aload_n 0, 1) := by decide +kernel
theorem dM_write_1 : decode prog_3_method_29_code 1 = .ok (.iconst 0, 1) := by decide +kernel
theorem dM_write_2 : decode prog_3_method_29_code 2 = .ok (.putfield 19, 3) := by decide +kernel
theorem dM_write_5 : decode prog_3_method_29_code 5 = .ok (.iload_n 1, 1) := by decide +kernel
theorem dM_write_6 : decode prog_3_method_29_code 6 = .ok (.ifCond .lt 8, 3) := by decide +kernel
theorem dM_write_9 : decode prog_3_method_29_code 9 = .ok (.iload_n 1, 1) := by decide +kernel
theorem dM_write_10 : decode prog_3_method_29_code 10 = .ok (.iconst 3, 1) := by decide +kernel
theorem dM_write_11 : decode prog_3_method_29_code 11 = .ok (.if_icmp .le 5, 3) := by decide +kernel
theorem dM_write_14 : decode prog_3_method_29_code 14 = .ok (.iconst (-1), 1) := by decide +kernel
theorem dM_write_15 : decode prog_3_method_29_code 15 = .ok (.ireturn, 1) := by decide +kernel
theorem dM_write_16 : decode prog_3_method_29_code 16 = .ok (.aload_n 0, 1) := by decide +kernel
theorem dM_write_17 : decode prog_3_method_29_code 17 = .ok (.iconst 0, 1) := by decide +kernel
theorem dM_write_18 : decode prog_3_method_29_code 18 = .ok (.putfield 93, 3) := by decide +kernel
theorem dM_write_21 : decode prog_3_method_29_code 21 = .ok (.iload_n 1, 1) := by decide +kernel
theorem dM_write_22 : decode prog_3_method_29_code 22 = .ok (.iconst 1, 1) := by decide +kernel
theorem dM_write_23 : decode prog_3_method_29_code 23 = .ok (.if_icmp .eq 8, 3) := by decide +kernel
theorem dM_write_26 : decode prog_3_method_29_code 26 = .ok (.iload_n 1, 1) := by decide +kernel
theorem dM_write_27 : decode prog_3_method_29_code 27 = .ok (.iconst 2, 1) := by decide +kernel
theorem dM_write_28 : decode prog_3_method_29_code 28 = .ok (.if_icmp .ne 22, 3) := by decide +kernel
theorem dM_write_31 : decode prog_3_method_29_code 31 = .ok (.aload_n 0, 1) := by decide +kernel
theorem dM_write_32 : decode prog_3_method_29_code 32 = .ok (.ldc 101, 2) := by decide +kernel
theorem dM_write_34 : decode prog_3_method_29_code 34 = .ok (.iload_n 1, 1) := by decide +kernel
theorem dM_write_35 : decode prog_3_method_29_code 35 = .ok (.iconst 1, 1) := by decide +kernel
theorem dM_write_36 : decode prog_3_method_29_code 36 = .ok (.if_icmp .ne 7, 3) := by decide +kernel
theorem dM_write_39 : decode prog_3_method_29_code 39 = .ok (.iconst 1, 1) := by decide +kernel
theorem dM_write_40 : decode prog_3_method_29_code 40 = .ok (.goto 4, 3) := by decide +kernel
theorem dM_write_43 : decode prog_3_method_29_code 43 = .ok (.iconst 0, 1) := by decide +kernel
theorem dM_write_44 : decode prog_3_method_29_code 44 = .ok (.invokevirtual 102, 3) := by decide +kernel
theorem dM_write_47 : decode prog_3_method_29_code 47 = .ok (.goto 14, 3) := by decide +kernel
theorem dM_write_50 : decode prog_3_method_29_code 50 = .ok (.iload_n 1, 1) := by decide +kernel
theorem dM_write_51 : decode prog_3_method_29_code 51 = .ok (.iconst 3, 1) := by decide +kernel
theorem dM_write_52 : decode prog_3_method_29_code 52 = .ok (.if_icmp .ne 9, 3) := by decide +kernel
theorem dM_write_55 : decode prog_3_method_29_code 55 = .ok (.aload_n 0, 1) := by decide +kernel
theorem dM_write_56 : decode prog_3_method_29_code 56 = .ok (.ldc 101, 2) := by decide +kernel
theorem dM_write_58 : decode prog_3_method_29_code 58 = .ok (.invokevirtual 106, 3) := by decide +kernel
theorem dM_write_61 : decode prog_3_method_29_code 61 = .ok (.iconst 0, 1) := by decide +kernel
theorem dM_write_62 : decode prog_3_method_29_code 62 = .ok (.istore_n 2, 1) := by decide +kernel
theorem dM_write_63 : decode prog_3_method_29_code 63 = .ok (.iload_n 2, 1) := by decide +kernel
theorem dM_write_64 : decode prog_3_method_29_code 64 = .ok (.aload_n 0, 1) := by decide +kernel
theorem dM_write_65 : decode prog_3_method_29_code 65 = .ok (.getfield 68, 3) := by decide +kernel
theorem dM_write_68 : decode prog_3_method_29_code 68 = .ok (.if_icmp .ge 107, 3) := by decide +kernel
theorem dM_write_71 : decode prog_3_method_29_code 71 = .ok (.aload_n 0, 1) := by decide +kernel
theorem dM_write_72 : decode prog_3_method_29_code 72 = .ok (.getfield 13, 3) := by decide +kernel
theorem dM_write_75 : decode prog_3_method_29_code 75 = .ok (.iload_n 2, 1) := by decide +kernel
theorem dM_write_76 : decode prog_3_method_29_code 76 = .ok (.iaload, 1) := by decide +kernel
theorem dM_write_77 : decode prog_3_method_29_code 77 = .ok (.istore_n 3, 1) := by decide +kernel
theorem dM_write_78 : decode prog_3_method_29_code 78 = .ok (.iload_n 1, 1) := by decide +kernel
theorem dM_write_79 : decode prog_3_method_29_code 79 = .ok (.ifCond .eq 8, 3) := by decide +kernel
theorem dM_write_82 : decode prog_3_method_29_code 82 = .ok (.iload_n 1, 1) := by decide +kernel
theorem dM_write_83 : decode prog_3_method_29_code 83 = .ok (.iconst 3, 1) := by decide +kernel
theorem dM_write_84 : decode prog_3_method_29_code 84 = .ok (.if_icmp .ne 11, 3) := by decide +kernel
theorem dM_write_87 : decode prog_3_method_29_code 87 = .ok (.aload_n 0, 1) := by decide +kernel
theorem dM_write_88 : decode prog_3_method_29_code 88 = .ok (.iload_n 3, 1) := by decide +kernel
theorem dM_write_89 : decode prog_3_method_29_code 89 = .ok (.invokevirtual 106, 3) := by decide +kernel
theorem dM_write_92 : decode prog_3_method_29_code 92 = .ok (.goto 77, 3) := by decide +kernel
theorem dM_write_95 : decode prog_3_method_29_code 95 = .ok (.iload_n 3, 1) := by decide +kernel
theorem dM_write_96 : decode prog_3_method_29_code 96 = .ok (.ldc 30, 2) := by decide +kernel
theorem dM_write_98 : decode prog_3_method_29_code 98 = .ok (.if_icmp .ge 21, 3) := by decide +kernel
theorem dM_write_101 : decode prog_3_method_29_code 101 = .ok (.aload_n 0, 1) := by decide +kernel
theorem dM_write_102 : decode prog_3_method_29_code 102 = .ok (.iload_n 3, 1) := by decide +kernel
theorem dM_write_103 : decode prog_3_method_29_code 103 = .ok (.iload_n 1, 1) := by decide +kernel
theorem dM_write_104 : decode prog_3_method_29_code 104 = .ok (.iconst 1, 1) := by decide +kernel
theorem dM_write_105 : decode prog_3_method_29_code 105 = .ok (.if_icmp .ne 7, 3) := by decide +kernel
theorem dM_write_108 : decode prog_3_method_29_code 108 = .ok (.iconst 1, 1) := by decide +kernel
theorem dM_write_109 : decode prog_3_method_29_code 109 = .ok (.goto 4, 3) := by decide +kernel
theorem dM_write_112 : decode prog_3_method_29_code 112 = .ok (.iconst 0, 1) := by decide +kernel
theorem dM_write_113 : decode prog_3_method_29_code 113 = .ok (.invokevirtual 102, 3) := by decide +kernel
theorem dM_write_116 : decode prog_3_method_29_code 116 = .ok (.goto 53, 3) := by decide +kernel
theorem dM_write_119 : decode prog_3_method_29_code 119 = .ok (.aload_n 0, 1) := by decide +kernel
theorem dM_write_120 : decode prog_3_method_29_code 120 = .ok (.ldc 50, 2) := by decide +kernel
theorem dM_write_122 : decode prog_3_method_29_code 122 = .ok (.iload_n 3, 1) := by decide +kernel
theorem dM_write_123 : decode prog_3_method_29_code 123 = .ok (.ldc 30, 2) := by decide +kernel
theorem dM_write_125 : decode prog_3_method_29_code 125 = .ok (.isub, 1) := by decide +kernel
theorem dM_write_126 : decode prog_3_method_29_code 126 = .ok (.sipush 1024, 3) := by decide +kernel
theorem dM_write_129 : decode prog_3_method_29_code 129 = .ok (.idiv, 1) := by decide +kernel
theorem dM_write_130 : decode prog_3_method_29_code 130 = .ok (.iadd, 1) := by decide +kernel
theorem dM_write_131 : decode prog_3_method_29_code 131 = .ok (.iload_n 1, 1) := by decide +kernel
theorem dM_write_132 : decode prog_3_method_29_code 132 = .ok (.iconst 1, 1) := by decide +kernel
theorem dM_write_133 : decode prog_3_method_29_code 133 = .ok (.if_icmp .ne 7, 3) := by decide +kernel
theorem dM_write_136 : decode prog_3_method_29_code 136 = .ok (.iconst 1, 1) := by decide +kernel
theorem dM_write_137 : decode prog_3_method_29_code 137 = .ok (.goto 4, 3) := by decide +kernel
theorem dM_write_140 : decode prog_3_method_29_code 140 = .ok (.iconst 0, 1) := by decide +kernel
theorem dM_write_141 : decode prog_3_method_29_code 141 = .ok (.invokevirtual 102, 3) := by decide +kernel
theorem dM_write_144 : decode prog_3_method_29_code 144 = .ok (.aload_n 0, 1) := by decide +kernel
theorem dM_write_145 : decode prog_3_method_29_code 145 = .ok (.ldc 52, 2) := by decide +kernel
theorem dM_write_147 : decode prog_3_method_29_code 147 = .ok (.iload_n 3, 1) := by decide +kernel
theorem dM_write_148 : decode prog_3_method_29_code 148 = .ok (.ldc 30, 2) := by decide +kernel
theorem dM_write_150 : decode prog_3_method_29_code 150 = .ok (.isub, 1) := by decide +kernel
theorem dM_write_151 : decode prog_3_method_29_code 151 = .ok (.sipush 1024, 3) := by decide +kernel
theorem dM_write_154 : decode prog_3_method_29_code 154 = .ok (.irem, 1) := by decide +kernel
theorem dM_write_155 : decode prog_3_method_29_code 155 = .ok (.iadd, 1) := by decide +kernel
theorem dM_write_156 : decode prog_3_method_29_code 156 = .ok (.iload_n 1, 1) := by decide +kernel
theorem dM_write_157 : decode prog_3_method_29_code 157 = .ok (.iconst 1, 1) := by decide +kernel
theorem dM_write_158 : decode prog_3_method_29_code 158 = .ok (.if_icmp .ne 7, 3) := by decide +kernel
theorem dM_write_161 : decode prog_3_method_29_code 161 = .ok (.iconst 1, 1) := by decide +kernel
theorem dM_write_162 : decode prog_3_method_29_code 162 = .ok (.goto 4, 3) := by decide +kernel
theorem dM_write_165 : decode prog_3_method_29_code 165 = .ok (.iconst 0, 1) := by decide +kernel
theorem dM_write_166 : decode prog_3_method_29_code 166 = .ok (.invokevirtual 102, 3) := by decide +kernel
theorem dM_write_169 : decode prog_3_method_29_code 169 = .ok (.iinc 2 1, 3) := by decide +kernel
theorem dM_write_172 : decode prog_3_method_29_code 172 = .ok (.goto (-109), 3) := by decide +kernel
theorem dM_write_175 : decode prog_3_method_29_code 175 = .ok (.aload_n 0, 1) := by decide +kernel
theorem dM_write_176 : decode prog_3_method_29_code 176 = .ok (.getfield 93, 3) := by decide +kernel
theorem dM_write_179 : decode prog_3_method_29_code 179 = .ok (.sipush 4096, 3) := by decide +kernel
theorem dM_write_182 : decode prog_3_method_29_code 182 = .ok (.if_icmp .le 5, 3) := by decide +kernel
theorem dM_write_185 : decode prog_3_method_29_code 185 = .ok (.iconst (-1), 1) := by decide +kernel
theorem dM_write_186 : decode prog_3_method_29_code 186 = .ok (.ireturn, 1) := by decide +kernel
theorem dM_write_187 : decode prog_3_method_29_code 187 = .ok (.iconst 0, 1) := by decide +kernel
theorem dM_write_188 : decode prog_3_method_29_code 188 = .ok (.istore_n 2, 1) := by decide +kernel
theorem dM_write_189 : decode prog_3_method_29_code 189 = .ok (.iload_n 2, 1) := by decide +kernel
theorem dM_write_190 : decode prog_3_method_29_code 190 = .ok (.aload_n 0, 1) := by decide +kernel
theorem dM_write_191 : decode prog_3_method_29_code 191 = .ok (.getfield 93, 3) := by decide +kernel
theorem dM_write_194 : decode prog_3_method_29_code 194 = .ok (.if_icmp .ge 21, 3) := by decide +kernel
theorem dM_write_197 : decode prog_3_method_29_code 197 = .ok (.aload_n 0, 1) := by decide +kernel
theorem dM_write_198 : decode prog_3_method_29_code 198 = .ok (.getfield 7, 3) := by decide +kernel
theorem dM_write_201 : decode prog_3_method_29_code 201 = .ok (.iload_n 2, 1) := by decide +kernel
theorem dM_write_202 : decode prog_3_method_29_code 202 = .ok (.aload_n 0, 1) := by decide +kernel
theorem dM_write_203 : decode prog_3_method_29_code 203 = .ok (.getfield 16, 3) := by decide +kernel
theorem dM_write_206 : decode prog_3_method_29_code 206 = .ok (.iload_n 2, 1) := by decide +kernel
theorem dM_write_207 : decode prog_3_method_29_code 207 = .ok (.iaload, 1) := by decide +kernel
theorem dM_write_208 : decode prog_3_method_29_code 208 = .ok (.iastore, 1) := by decide +kernel
theorem dM_write_209 : decode prog_3_method_29_code 209 = .ok (.iinc 2 1, 3) := by decide +kernel
theorem dM_write_212 : decode prog_3_method_29_code 212 = .ok (.goto (-23), 3) := by decide +kernel
theorem dM_write_215 : decode prog_3_method_29_code 215 = .ok (.aload_n 0, 1) := by decide +kernel
theorem dM_write_216 : decode prog_3_method_29_code 216 = .ok (.aload_n 0, 1) := by decide +kernel
theorem dM_write_217 : decode prog_3_method_29_code 217 = .ok (.getfield 93, 3) := by decide +kernel
theorem dM_write_220 : decode prog_3_method_29_code 220 = .ok (.putfield 32, 3) := by decide +kernel
theorem dM_write_223 : decode prog_3_method_29_code 223 = .ok (.aload_n 0, 1) := by decide +kernel
theorem dM_write_224 : decode prog_3_method_29_code 224 = .ok (.getfield 93, 3) := by decide +kernel
theorem dM_write_227 : decode prog_3_method_29_code 227 = .ok (.ireturn, 1) := by decide +kernel
theorem dM_pair_0 : decode prog_3_method_27_code 0 = .ok (.aload_n 0, 1) := by decide +kernel
theorem dM_pair_1 : decode prog_3_method_27_code 1 = .ok (.iload_n 2, 1) := by decide +kernel
theorem dM_pair_2 : decode prog_3_method_27_code 2 = .ok (.ifCond .eq 11, 3) := by decide +kernel
theorem dM_pair_5 : decode prog_3_method_27_code 5 = .ok (.iload_n 1, 1) := by decide +kernel
theorem dM_pair_6 : decode prog_3_method_27_code 6 = .ok (.sipush 256, 3) := by decide +kernel
theorem dM_pair_9 : decode prog_3_method_27_code 9 = .ok (.idiv, 1) := by decide +kernel
theorem dM_pair_10 : decode prog_3_method_27_code 10 = .ok (.goto 8, 3) := by decide +kernel
theorem dM_pair_13 : decode prog_3_method_27_code 13 = .ok (.iload_n 1, 1) := by decide +kernel
theorem dM_pair_14 : decode prog_3_method_27_code 14 = .ok (.sipush 256, 3) := by decide +kernel
theorem dM_pair_17 : decode prog_3_method_27_code 17 = .ok (.irem, 1) := by decide +kernel
theorem dM_pair_18 : decode prog_3_method_27_code 18 = .ok (.invokevirtual 96, 3) := by decide +kernel
theorem dM_pair_21 : decode prog_3_method_27_code 21 = .ok (.aload_n 0, 1) := by decide +kernel
theorem dM_pair_22 : decode prog_3_method_27_code 22 = .ok (.iload_n 2, 1) := by decide +kernel
theorem dM_pair_23 : decode prog_3_method_27_code 23 = .ok (.ifCond .eq 11, 3) := by decide +kernel
theorem dM_pair_26 : decode prog_3_method_27_code 26 = .ok (.iload_n 1, 1) := by decide +kernel
theorem dM_pair_27 : decode prog_3_method_27_code 27 = .ok (.sipush 256, 3) := by decide +kernel
theorem dM_pair_30 : decode prog_3_method_27_code 30 = .ok (.irem, 1) := by decide +kernel
theorem dM_pair_31 : decode prog_3_method_27_code 31 = .ok (.goto 8, 3) := by decide +kernel
theorem dM_pair_34 : decode prog_3_method_27_code 34 = .ok (.iload_n 1, 1) := by decide +kernel
theorem dM_pair_35 : decode prog_3_method_27_code 35 = .ok (.sipush 256, 3) := by decide +kernel
theorem dM_pair_38 : decode prog_3_method_27_code 38 = .ok (.idiv, 1) := by decide +kernel
theorem dM_pair_39 : decode prog_3_method_27_code 39 = .ok (.invokevirtual 96, 3) := by decide +kernel
theorem dM_pair_42 : decode prog_3_method_27_code 42 = .ok (.return_, 1) := by decide +kernel
theorem dM_put_0 : decode prog_3_method_26_code 0 = .ok (.aload_n 0, 1) := by decide +kernel
theorem dM_put_1 : decode prog_3_method_26_code 1 = .ok (.getfield 93, 3) := by decide +kernel
theorem dM_put_4 : decode prog_3_method_26_code 4 = .ok (.sipush 4100, 3) := by decide +kernel
theorem dM_put_7 : decode prog_3_method_26_code 7 = .ok (.if_icmp .ge 13, 3) := by decide +kernel
theorem dM_put_10 : decode prog_3_method_26_code 10 = .ok (.aload_n 0, 1) := by decide +kernel
theorem dM_put_11 : decode prog_3_method_26_code 11 = .ok (.getfield 16, 3) := by decide +kernel
theorem dM_put_14 : decode prog_3_method_26_code 14 = .ok (.aload_n 0, 1) := by decide +kernel
theorem dM_put_15 : decode prog_3_method_26_code 15 = .ok (.getfield 93, 3) := by decide +kernel
theorem dM_put_18 : decode prog_3_method_26_code 18 = .ok (.iload_n 1, 1) := by decide +kernel
theorem dM_put_19 : decode prog_3_method_26_code 19 = .ok (.iastore, 1) := by decide +kernel
theorem dM_put_20 : decode prog_3_method_26_code 20 = .ok (.aload_n 0, 1) := by decide +kernel
theorem dM_put_21 : decode prog_3_method_26_code 21 = .ok (.aload_n 0, 1) := by decide +kernel
theorem dM_put_22 : decode prog_3_method_26_code 22 = .ok (.getfield 93, 3) := by decide +kernel
theorem dM_put_25 : decode prog_3_method_26_code 25 = .ok (.iconst 1, 1) := by decide +kernel
theorem dM_put_26 : decode prog_3_method_26_code 26 = .ok (.iadd, 1) := by decide +kernel
theorem dM_put_27 : decode prog_3_method_26_code 27 = .ok (.putfield 93, 3) := by decide +kernel
theorem dM_put_30 : decode prog_3_method_26_code 30 = .ok (.return_, 1) := by decide +kernel
theorem dM_writeEight_0 : decode prog_3_method_28_code 0 = .ok (.iload_n 1, 1) := by decide +kernel
theorem dM_writeEight_1 : decode prog_3_method_28_code 1 = .ok (.invokestatic 42, 3) := by decide +kernel
theorem dM_writeEight_4 : decode prog_3_method_28_code 4 = .ok (.istore_n 2, 1) := by decide +kernel
theorem dM_writeEight_5 : decode prog_3_method_28_code 5 = .ok (.iload_n 2, 1) := by decide +kernel
theorem dM_writeEight_6 : decode prog_3_method_28_code 6 = .ok (.iconst 1, 1) := by decide +kernel
theorem dM_writeEight_7 : decode prog_3_method_28_code 7 = .ok (.if_icmp .ne 9, 3) := by decide +kernel
theorem dM_writeEight_10 : decode prog_3_method_28_code 10 = .ok (.aload_n 0, 1) := by decide +kernel
theorem dM_writeEight_11 : decode prog_3_method_28_code 11 = .ok (.iload_n 1, 1) := by decide +kernel
theorem dM_writeEight_12 : decode prog_3_method_28_code 12 = .ok (.invokevirtual 96, 3) := by decide +kernel
theorem dM_writeEight_15 : decode prog_3_method_28_code 15 = .ok (.return_, 1) := by decide +kernel
theorem dM_writeEight_16 : decode prog_3_method_28_code 16 = .ok (.iload_n 2, 1) := by decide +kernel
theorem dM_writeEight_17 : decode prog_3_method_28_code 17 = .ok (.iconst 2, 1) := by decide +kernel
theorem dM_writeEight_18 : decode prog_3_method_28_code 18 = .ok (.if_icmp .ne 8, 3) := by decide +kernel
theorem dM_writeEight_21 : decode prog_3_method_28_code 21 = .ok (.bipush 64, 2) := by decide +kernel
theorem dM_writeEight_23 : decode prog_3_method_28_code 23 = .ok (.goto 16, 3) := by decide +kernel
theorem dM_writeEight_26 : decode prog_3_method_28_code 26 = .ok (.iload_n 2, 1) := by decide +kernel
theorem dM_writeEight_27 : decode prog_3_method_28_code 27 = .ok (.iconst 3, 1) := by decide +kernel
theorem dM_writeEight_28 : decode prog_3_method_28_code 28 = .ok (.if_icmp .ne 9, 3) := by decide +kernel
theorem dM_writeEight_31 : decode prog_3_method_28_code 31 = .ok (.sipush 4096, 3) := by decide +kernel
theorem dM_writeEight_34 : decode prog_3_method_28_code 34 = .ok (.goto 5, 3) := by decide +kernel
theorem dM_writeEight_37 : decode prog_3_method_28_code 37 = .ok (.ldc 100, 2) := by decide +kernel
theorem dM_writeEight_39 : decode prog_3_method_28_code 39 = .ok (.istore_n 3, 1) := by decide +kernel
theorem dM_writeEight_40 : decode prog_3_method_28_code 40 = .ok (.aload_n 0, 1) := by decide +kernel
theorem dM_writeEight_41 : decode prog_3_method_28_code 41 = .ok (.iload_n 2, 1) := by decide +kernel
theorem dM_writeEight_42 : decode prog_3_method_28_code 42 = .ok (.iconst 2, 1) := by decide +kernel
theorem dM_writeEight_43 : decode prog_3_method_28_code 43 = .ok (.if_icmp .ne 9, 3) := by decide +kernel
theorem dM_writeEight_46 : decode prog_3_method_28_code 46 = .ok (.sipush 192, 3) := by decide +kernel
theorem dM_writeEight_49 : decode prog_3_method_28_code 49 = .ok (.goto 17, 3) := by decide +kernel
theorem dM_writeEight_52 : decode prog_3_method_28_code 52 = .ok (.iload_n 2, 1) := by decide +kernel
theorem dM_writeEight_53 : decode prog_3_method_28_code 53 = .ok (.iconst 3, 1) := by decide +kernel
theorem dM_writeEight_54 : decode prog_3_method_28_code 54 = .ok (.if_icmp .ne 9, 3) := by decide +kernel
theorem dM_writeEight_57 : decode prog_3_method_28_code 57 = .ok (.sipush 224, 3) := by decide +kernel
theorem dM_writeEight_60 : decode prog_3_method_28_code 60 = .ok (.goto 6, 3) := by decide +kernel
theorem dM_writeEight_63 : decode prog_3_method_28_code 63 = .ok (.sipush 240, 3) := by decide +kernel
theorem dM_writeEight_66 : decode prog_3_method_28_code 66 = .ok (.iload_n 1, 1) := by decide +kernel
theorem dM_writeEight_67 : decode prog_3_method_28_code 67 = .ok (.iload_n 3, 1) := by decide +kernel
theorem dM_writeEight_68 : decode prog_3_method_28_code 68 = .ok (.idiv, 1) := by decide +kernel
theorem dM_writeEight_69 : decode prog_3_method_28_code 69 = .ok (.iadd, 1) := by decide +kernel
theorem dM_writeEight_70 : decode prog_3_method_28_code 70 = .ok (.invokevirtual 96, 3) := by decide +kernel
theorem dM_writeEight_73 : decode prog_3_method_28_code 73 = .ok (.iload_n 3, 1) := by decide +kernel
theorem dM_writeEight_74 : decode prog_3_method_28_code 74 = .ok (.iconst 1, 1) := by decide +kernel
theorem dM_writeEight_75 : decode prog_3_method_28_code 75 = .ok (.if_icmp .le 25, 3) := by decide +kernel
theorem dM_writeEight_78 : decode prog_3_method_28_code 78 = .ok (.iload_n 3, 1) := by decide +kernel
theorem dM_writeEight_79 : decode prog_3_method_28_code 79 = .ok (.bipush 64, 2) := by decide +kernel
theorem dM_writeEight_81 : decode prog_3_method_28_code 81 = .ok (.idiv, 1) := by decide +kernel
theorem dM_writeEight_82 : decode prog_3_method_28_code 82 = .ok (.istore_n 3, 1) := by decide +kernel
theorem dM_writeEight_83 : decode prog_3_method_28_code 83 = .ok (.aload_n 0, 1) := by decide +kernel
theorem dM_writeEight_84 : decode prog_3_method_28_code 84 = .ok (.sipush 128, 3) := by decide +kernel
theorem dM_writeEight_87 : decode prog_3_method_28_code 87 = .ok (.iload_n 1, 1) := by decide +kernel
theorem dM_writeEight_88 : decode prog_3_method_28_code 88 = .ok (.iload_n 3, 1) := by decide +kernel
theorem dM_writeEight_89 : decode prog_3_method_28_code 89 = .ok (.idiv, 1) := by decide +kernel
theorem dM_writeEight_90 : decode prog_3_method_28_code 90 = .ok (.bipush 64, 2) := by decide +kernel
theorem dM_writeEight_92 : decode prog_3_method_28_code 92 = .ok (.irem, 1) := by decide +kernel
theorem dM_writeEight_93 : decode prog_3_method_28_code 93 = .ok (.iadd, 1) := by decide +kernel
theorem dM_writeEight_94 : decode prog_3_method_28_code 94 = .ok (.invokevirtual 96, 3) := by decide +kernel
theorem dM_writeEight_97 : decode prog_3_method_28_code 97 = .ok (.goto (-24), 3) := by decide +kernel
theorem dM_writeEight_100 : decode prog_3_method_28_code 100 = .ok (.return_, 1) := by decide +kernel
theorem dM_add_0 : decode prog_3_method_30_code 0 = .ok (.aload_n 0, 1) := by decide +kernel
theorem dM_add_1 : decode prog_3_method_30_code 1 = .ok (.iconst 0, 1) := by decide +kernel
theorem dM_add_2 : decode prog_3_method_30_code 2 = .ok (.putfield 19, 3) := by decide +kernel
theorem dM_add_5 : decode prog_3_method_30_code 5 = .ok (.iload_n 1, 1) := by decide +kernel
theorem dM_add_6 : decode prog_3_method_30_code 6 = .ok (.invokestatic 64, 3) := by decide +kernel
theorem dM_add_9 : decode prog_3_method_30_code 9 = .ok (.ifCond .eq 19, 3) := by decide +kernel
theorem dM_add_12 : decode prog_3_method_30_code 12 = .ok (.iload_n 1, 1) := by decide +kernel
theorem dM_add_13 : decode prog_3_method_30_code 13 = .ok (.bipush 13, 2) := by decide +kernel
theorem dM_add_15 : decode prog_3_method_30_code 15 = .ok (.if_icmp .eq 13, 3) := by decide +kernel
theorem dM_add_18 : decode prog_3_method_30_code 18 = .ok (.aload_n 0, 1) := by decide +kernel
theorem dM_add_19 : decode prog_3_method_30_code 19 = .ok (.getfield 68, 3) := by decide +kernel
theorem dM_add_22 : decode prog_3_method_30_code 22 = .ok (.sipush 4096, 3) := by decide +kernel
theorem dM_add_25 : decode prog_3_method_30_code 25 = .ok (.if_icmp .ne 5, 3) := by decide +kernel
theorem dM_add_28 : decode prog_3_method_30_code 28 = .ok (.iconst (-1), 1) := by decide +kernel
theorem dM_add_29 : decode prog_3_method_30_code 29 = .ok (.ireturn, 1) := by decide +kernel
theorem dM_add_30 : decode prog_3_method_30_code 30 = .ok (.aload_n 0, 1) := by decide +kernel
theorem dM_add_31 : decode prog_3_method_30_code 31 = .ok (.getfield 13, 3) := by decide +kernel
theorem dM_add_34 : decode prog_3_method_30_code 34 = .ok (.aload_n 0, 1) := by decide +kernel
theorem dM_add_35 : decode prog_3_method_30_code 35 = .ok (.getfield 68, 3) := by decide +kernel
theorem dM_add_38 : decode prog_3_method_30_code 38 = .ok (.iload_n 1, 1) := by decide +kernel
theorem dM_add_39 : decode prog_3_method_30_code 39 = .ok (.iastore, 1) := by decide +kernel
theorem dM_add_40 : decode prog_3_method_30_code 40 = .ok (.aload_n 0, 1) := by decide +kernel
theorem dM_add_41 : decode prog_3_method_30_code 41 = .ok (.aload_n 0, 1) := by decide +kernel
theorem dM_add_42 : decode prog_3_method_30_code 42 = .ok (.getfield 68, 3) := by decide +kernel
theorem dM_add_45 : decode prog_3_method_30_code 45 = .ok (.iconst 1, 1) := by decide +kernel
theorem dM_add_46 : decode prog_3_method_30_code 46 = .ok (.iadd, 1) := by decide +kernel
theorem dM_add_47 : decode prog_3_method_30_code 47 = .ok (.putfield 68, 3) := by decide +kernel
theorem dM_add_50 : decode prog_3_method_30_code 50 = .ok (.aload_n 0, 1) := by decide +kernel
theorem dM_add_51 : decode prog_3_method_30_code 51 = .ok (.getfield 68, 3) := by decide +kernel
theorem dM_add_54 : decode prog_3_method_30_code 54 = .ok (.ireturn, 1) := by decide +kernel
end
section
theorem dObj_init_0 : decode object_method_1_code 0 = .ok (.return_, 1) := by decide +kernel
theorem dStr_indexOf1_0 : decode prog_10_method_79_code 0 = .ok (.aload_n 0, 1) := by decide +kernel
theorem dStr_indexOf1_1 : decode prog_10_method_79_code 1 = .ok (.iload_n 1, 1) := by decide +kernel
theorem dStr_indexOf1_2 : decode prog_10_method_79_code 2 = .ok (.iconst 0, 1) := by decide +kernel
theorem dStr_indexOf1_3 : decode prog_10_method_79_code 3 = .ok (.invokevirtual 633, 3) := by decide +kernel
theorem dStr_indexOf1_6 : decode prog_10_method_79_code 6 = .ok (.ireturn, 1) := by decide +kernel
theorem dStr_indexOf2_0 : decode prog_10_method_80_code 0 = .ok (.aload_n 0, 1) := by decide +kernel
theorem dStr_indexOf2_1 : decode prog_10_method_80_code 1 = .ok (.invokevirtual 492, 3) := by decide +kernel
theorem dStr_indexOf2_4 : decode prog_10_method_80_code 4 = .ok (.ifCond .eq 19, 3) := by decide +kernel
theorem dStr_indexOf2_7 : decode prog_10_method_80_code 7 = .ok (.aload_n 0, 1) := by decide +kernel
theorem dStr_indexOf2_8 : decode prog_10_method_80_code 8 = .ok (.getfield 9, 3) := by decide +kernel
theorem dStr_indexOf2_11 : decode prog_10_method_80_code 11 = .ok (.iload_n 1, 1) := by decide +kernel
theorem dStr_indexOf2_12 : decode prog_10_method_80_code 12 = .ok (.iload_n 2, 1) := by decide +kernel
theorem dStr_indexOf2_13 : decode prog_10_method_80_code 13 = .ok (.aload_n 0, 1) := by decide +kernel
theorem dStr_indexOf2_14 : decode prog_10_method_80_code 14 = .ok (.invokevirtual 505, 3) := by decide +kernel
theorem dStr_indexOf2_17 : decode prog_10_method_80_code 17 = .ok (.invokestatic 637, 3) := by decide +kernel
theorem dStr_indexOf2_20 : decode prog_10_method_80_code 20 = .ok (.goto 16, 3) := by decide +kernel
theorem dStr_indexOf2_23 : decode prog_10_method_80_code 23 = .ok (.aload_n 0, 1) := by decide +kernel
theorem dStr_indexOf2_24 : decode prog_10_method_80_code 24 = .ok (.getfield 9, 3) := by decide +kernel
theorem dStr_indexOf2_27 : decode prog_10_method_80_code 27 = .ok (.iload_n 1, 1) := by decide +kernel
theorem dStr_indexOf2_28 : decode prog_10_method_80_code 28 = .ok (.iload_n 2, 1) := by decide +kernel
theorem dStr_indexOf2_29 : decode prog_10_method_80_code 29 = .ok (.aload_n 0, 1) := by decide +kernel
theorem dStr_indexOf2_30 : decode prog_10_method_80_code 30 = .ok (.invokevirtual 505, 3) := by decide +kernel
theorem dStr_indexOf2_33 : decode prog_10_method_80_code 33 = .ok (.invokestatic 640, 3) := by decide +kernel
theorem dStr_indexOf2_36 : decode prog_10_method_80_code 36 = .ok (.ireturn, 1) := by decide +kernel
theorem dStr_isLatin1_0 : decode prog_10_method_154_code 0 = .ok (.getstatic 38, 3) := by decide +kernel
theorem dStr_isLatin1_3 : decode prog_10_method_154_code 3 = .ok (.ifCond .eq 14, 3) := by decide +kernel
theorem dStr_isLatin1_6 : decode prog_10_method_154_code 6 = .ok (.aload_n 0, 1) := by decide +kernel
theorem dStr_isLatin1_7 : decode prog_10_method_154_code 7 = .ok (.getfield 15, 3) := by decide +kernel
theorem dStr_isLatin1_10 : decode prog_10_method_154_code 10 = .ok (.ifCond .ne 7, 3) := by decide +kernel
theorem dStr_isLatin1_13 : decode prog_10_method_154_code 13 = .ok (.iconst 1, 1) := by decide +kernel
theorem dStr_isLatin1_14 : decode prog_10_method_154_code 14 = .ok (.goto 4, 3) := by decide +kernel
theorem dStr_isLatin1_17 : decode prog_10_method_154_code 17 = .ok (.iconst 0, 1) := by decide +kernel
theorem dStr_isLatin1_18 : decode prog_10_method_154_code 18 = .ok (.ireturn, 1) := by decide +kernel
theorem dStr_length_0 : decode prog_10_method_54_code 0 = .ok (.aload_n 0, 1) := by decide +kernel
theorem dStr_length_1 : decode prog_10_method_54_code 1 = .ok (.getfield 9, 3) := by decide +kernel
theorem dStr_length_4 : decode prog_10_method_54_code 4 = .ok (.arraylength, 1) := by decide +kernel
theorem dStr_length_5 : decode prog_10_method_54_code 5 = .ok (.aload_n 0, 1) := by decide +kernel
theorem dStr_length_6 : decode prog_10_method_54_code 6 = .ok (.invokevirtual 335, 3) := by decide +kernel
theorem dStr_length_9 : decode prog_10_method_54_code 9 = .ok (.ishr, 1) := by decide +kernel
theorem dStr_length_10 : decode prog_10_method_54_code 10 = .ok (.ireturn, 1) := by decide +kernel
theorem dStr_coder_0 : decode prog_10_method_152_code 0 = .ok (.getstatic 38, 3) := by decide +kernel
theorem dStr_coder_3 : decode prog_10_method_152_code 3 = .ok (.ifCond .eq 10, 3) := by decide +kernel
theorem dStr_coder_6 : decode prog_10_method_152_code 6 = .ok (.aload_n 0, 1) := by decide +kernel
theorem dStr_coder_7 : decode prog_10_method_152_code 7 = .ok (.getfield 15, 3) := by decide +kernel
theorem dStr_coder_10 : decode prog_10_method_152_code 10 = .ok (.goto 4, 3) := by decide +kernel
theorem dStr_coder_13 : decode prog_10_method_152_code 13 = .ok (.iconst 1, 1) := by decide +kernel
theorem dStr_coder_14 : decode prog_10_method_152_code 14 = .ok (.ireturn, 1) := by decide +kernel
theorem dLat_indexOf_0 : decode prog_11_method_22_code 0 = .ok (.iload_n 1, 1) := by decide +kernel
theorem dLat_indexOf_1 : decode prog_11_method_22_code 1 = .ok (.invokestatic 88, 3) := by decide +kernel
theorem dLat_indexOf_4 : decode prog_11_method_22_code 4 = .ok (.ifCond .ne 5, 3) := by decide +kernel
theorem dLat_indexOf_7 : decode prog_11_method_22_code 7 = .ok (.iconst (-1), 1) := by decide +kernel
theorem dLat_indexOf_8 : decode prog_11_method_22_code 8 = .ok (.ireturn, 1) := by decide +kernel
theorem dLat_indexOf_9 : decode prog_11_method_22_code 9 = .ok (.iload_n 2, 1) := by decide +kernel
theorem dLat_indexOf_10 : decode prog_11_method_22_code 10 = .ok (.iconst 0, 1) := by decide +kernel
theorem dLat_indexOf_11 : decode prog_11_method_22_code 11 = .ok (.invokestatic 92, 3) := by decide +kernel
theorem dLat_indexOf_14 : decode prog_11_method_22_code 14 = .ok (.istore_n 2, 1) := by decide +kernel
theorem dLat_indexOf_15 : decode prog_11_method_22_code 15 = .ok (.iload_n 3, 1) := by decide +kernel
theorem dLat_indexOf_16 : decode prog_11_method_22_code 16 = .ok (.aload_n 0, 1) := by decide +kernel
theorem dLat_indexOf_17 : decode prog_11_method_22_code 17 = .ok (.arraylength, 1) := by decide +kernel
theorem dLat_indexOf_18 : decode prog_11_method_22_code 18 = .ok (.invokestatic 38, 3) := by decide +kernel
theorem dLat_indexOf_21 : decode prog_11_method_22_code 21 = .ok (.istore_n 3, 1) := by decide +kernel
theorem dLat_indexOf_22 : decode prog_11_method_22_code 22 = .ok (.iload_n 2, 1) := by decide +kernel
theorem dLat_indexOf_23 : decode prog_11_method_22_code 23 = .ok (.iload_n 3, 1) := by decide +kernel
theorem dLat_indexOf_24 : decode prog_11_method_22_code 24 = .ok (.if_icmp .lt 5, 3) := by decide +kernel
theorem dLat_indexOf_27 : decode prog_11_method_22_code 27 = .ok (.iconst (-1), 1) := by decide +kernel
theorem dLat_indexOf_28 : decode prog_11_method_22_code 28 = .ok (.ireturn, 1) := by decide +kernel
theorem dLat_indexOf_29 : decode prog_11_method_22_code 29 = .ok (.aload_n 0, 1) := by decide +kernel
theorem dLat_indexOf_30 : decode prog_11_method_22_code 30 = .ok (.iload_n 1, 1) := by decide +kernel
theorem dLat_indexOf_31 : decode prog_11_method_22_code 31 = .ok (.iload_n 2, 1) := by decide +kernel
theorem dLat_indexOf_32 : decode prog_11_method_22_code 32 = .ok (.iload_n 3, 1) := by decide +kernel
theorem dLat_indexOf_33 : decode prog_11_method_22_code 33 = .ok (.invokestatic 95, 3) := by decide +kernel
theorem dLat_indexOf_36 : decode prog_11_method_22_code 36 = .ok (.ireturn, 1) := by decide +kernel
theorem dLat_canEncode_0 : decode prog_11_method_4_code 0 = .ok (.iload_n 0, 1) := by decide +kernel
theorem dLat_canEncode_1 : decode prog_11_method_4_code 1 = .ok (.ifCond .lt 14, 3) := by decide +kernel
theorem dLat_canEncode_4 : decode prog_11_method_4_code 4 = .ok (.iload_n 0, 1) := by decide +kernel
theorem dLat_canEncode_5 : decode prog_11_method_4_code 5 = .ok (.sipush 255, 3) := by decide +kernel
theorem dLat_canEncode_8 : decode prog_11_method_4_code 8 = .ok (.if_icmp .gt 7, 3) := by decide +kernel
theorem dLat_canEncode_11 : decode prog_11_method_4_code 11 = .ok (.iconst 1, 1) := by decide +kernel
theorem dLat_canEncode_12 : decode prog_11_method_4_code 12 = .ok (.goto 4, 3) := by decide +kernel
theorem dLat_canEncode_15 : decode prog_11_method_4_code 15 = .ok (.iconst 0, 1) := by decide +kernel
theorem dLat_canEncode_16 : decode prog_11_method_4_code 16 = .ok (.ireturn, 1) := by decide +kernel
theorem dMath_max_0 : decode prog_8_method_65_code 0 = .ok (.iload_n 0, 1) := by decide +kernel
theorem dMath_max_1 : decode prog_8_method_65_code 1 = .ok (.iload_n 1, 1) := by decide +kernel
theorem dMath_max_2 : decode prog_8_method_65_code 2 = .ok (.if_icmp .lt 7, 3) := by decide +kernel
theorem dMath_max_5 : decode prog_8_method_65_code 5 = .ok (.iload_n 0, 1) := by decide +kernel
theorem dMath_max_6 : decode prog_8_method_65_code 6 = .ok (.goto 4, 3) := by decide +kernel
theorem dMath_max_9 : decode prog_8_method_65_code 9 = .ok (.iload_n 1, 1) := by decide +kernel
theorem dMath_max_10 : decode prog_8_method_65_code 10 = .ok (.ireturn, 1) := by decide +kernel
theorem dMath_min_0 : decode prog_8_method_69_code 0 = .ok (.iload_n 0, 1) := by decide +kernel
theorem dMath_min_1 : decode prog_8_method_69_code 1 = .ok (.iload_n 1, 1) := by decide +kernel
theorem dMath_min_2 : decode prog_8_method_69_code 2 = .ok (.if_icmp .gt 7, 3) := by decide +kernel
theorem dMath_min_5 : decode prog_8_method_69_code 5 = .ok (.iload_n 0, 1) := by decide +kernel
theorem dMath_min_6 : decode prog_8_method_69_code 6 = .ok (.goto 4, 3) := by decide +kernel
theorem dMath_min_9 : decode prog_8_method_69_code 9 = .ok (.iload_n 1, 1) := by decide +kernel
theorem dMath_min_10 : decode prog_8_method_69_code 10 = .ok (.ireturn, 1) := by decide +kernel
theorem dLat_indexOfChar_0 : decode prog_11_method_23_code 0 = .ok (.iload_n 1, 1) := by decide +kernel
theorem dLat_indexOfChar_1 : decode prog_11_method_23_code 1 = .ok (.i2b, 1) := by decide +kernel
theorem dLat_indexOfChar_2 : decode prog_11_method_23_code 2 = .ok (.istore 4, 2) := by decide +kernel
theorem dLat_indexOfChar_4 : decode prog_11_method_23_code 4 = .ok (.iload_n 2, 1) := by decide +kernel
theorem dLat_indexOfChar_5 : decode prog_11_method_23_code 5 = .ok (.istore 5, 2) := by decide +kernel
theorem dLat_indexOfChar_7 : decode prog_11_method_23_code 7 = .ok (.iload 5, 2) := by decide +kernel
theorem dLat_indexOfChar_9 : decode prog_11_method_23_code 9 = .ok (.iload_n 3, 1) := by decide +kernel
theorem dLat_indexOfChar_10 : decode prog_11_method_23_code 10 = .ok (.if_icmp .ge 21, 3) := by decide +kernel
theorem dLat_indexOfChar_13 : decode prog_11_method_23_code 13 = .ok (.aload_n 0, 1) := by decide +kernel
theorem dLat_indexOfChar_14 : decode prog_11_method_23_code 14 = .ok (.iload 5, 2) := by decide +kernel
theorem dLat_indexOfChar_16 : decode prog_11_method_23_code 16 = .ok (.baload, 1) := by decide +kernel
theorem dLat_indexOfChar_17 : decode prog_11_method_23_code 17 = .ok (.iload 4, 2) := by decide +kernel
theorem dLat_indexOfChar_19 : decode prog_11_method_23_code 19 = .ok (.if_icmp .ne 6, 3) := by decide +kernel
theorem dLat_indexOfChar_22 : decode prog_11_method_23_code 22 = .ok (.iload 5, 2) := by decide +kernel
theorem dLat_indexOfChar_24 : decode prog_11_method_23_code 24 = .ok (.ireturn, 1) := by decide +kernel
theorem dLat_indexOfChar_25 : decode prog_11_method_23_code 25 = .ok (.iinc 5 1, 3) := by decide +kernel
theorem dLat_indexOfChar_28 : decode prog_11_method_23_code 28 = .ok (.goto (-21), 3) := by decide +kernel
theorem dLat_indexOfChar_31 : decode prog_11_method_23_code 31 = .ok (.iconst (-1), 1) := by decide +kernel
theorem dLat_indexOfChar_32 : decode prog_11_method_23_code 32 = .ok (.ireturn, 1) := by decide +kernel
theorem dThr_init0_0 : decode prog_13_method_1_code 0 = .ok (.aload_n 0, 1) := by decide +kernel
theorem dThr_init0_1 : decode prog_13_method_1_code 1 = .ok (.invokespecial 1, 3) := by decide +kernel
theorem dThr_init0_4 : decode prog_13_method_1_code 4 = .ok (.aload_n 0, 1) := by decide +kernel
theorem dThr_init0_5 : decode prog_13_method_1_code 5 = .ok (.aload_n 0, 1) := by decide +kernel
theorem dThr_init0_6 : decode prog_13_method_1_code 6 = .ok (.putfield 7, 3) := by decide +kernel
theorem dThr_init0_9 : decode prog_13_method_1_code 9 = .ok (.aload_n 0, 1) := by decide +kernel
theorem dThr_init0_10 : decode prog_13_method_1_code 10 = .ok (.getstatic 13, 3) := by decide +kernel
theorem dThr_init0_13 : decode prog_13_method_1_code 13 = .ok (.putfield 17, 3) := by decide +kernel
theorem dThr_init0_16 : decode prog_13_method_1_code 16 = .ok (.aload_n 0, 1) := by decide +kernel
theorem dThr_init0_17 : decode prog_13_method_1_code 17 = .ok (.getstatic 20, 3) := by decide +kernel
theorem dThr_init0_20 : decode prog_13_method_1_code 20 = .ok (.putfield 24, 3) := by decide +kernel
theorem dThr_init0_23 : decode prog_13_method_1_code 23 = .ok (.aload_n 0, 1) := by decide +kernel
theorem dThr_init0_24 : decode prog_13_method_1_code 24 = .ok (.invokevirtual 27, 3) := by decide +kernel
theorem dThr_init0_27 : decode prog_13_method_1_code 27 = .ok (.pop, 1) := by decide +kernel
theorem dThr_init0_28 : decode prog_13_method_1_code 28 = .ok (.return_, 1) := by decide +kernel
theorem dThr_fillInStackTrace_0 : decode prog_13_method_18_code 0 = .ok (.aload_n 0, 1) := by decide +kernel
theorem dThr_fillInStackTrace_1 : decode prog_13_method_18_code 1 = .ok (.getfield 17, 3) := by decide +kernel
theorem dThr_fillInStackTrace_4 : decode prog_13_method_18_code 4 = .ok (.ifnonnull 10, 3) := by decide +kernel
theorem dThr_fillInStackTrace_7 : decode prog_13_method_18_code 7 = .ok (.aload_n 0, 1) := by decide +kernel
theorem dThr_fillInStackTrace_8 : decode prog_13_method_18_code 8 = .ok (.getfield 198, 3) := by decide +kernel
theorem dThr_fillInStackTrace_11 : decode prog_13_method_18_code 11 = .ok (.ifnull 16, 3) := by decide +kernel
theorem dThr_fillInStackTrace_14 : decode prog_13_method_18_code 14 = .ok (.aload_n 0, 1) := by decide +kernel
theorem dThr_fillInStackTrace_15 : decode prog_13_method_18_code 15 = .ok (.iconst 0, 1) := by decide +kernel
theorem dThr_fillInStackTrace_16 : decode prog_13_method_18_code 16 = .ok (.invokevirtual 202, 3) := by decide +kernel
theorem dThr_fillInStackTrace_19 : decode prog_13_method_18_code 19 = .ok (.pop, 1) := by decide +kernel
theorem dThr_fillInStackTrace_20 : decode prog_13_method_18_code 20 = .ok (.aload_n 0, 1) := by decide +kernel
theorem dThr_fillInStackTrace_21 : decode prog_13_method_18_code 21 = .ok (.getstatic 13, 3) := by decide +kernel
theorem dThr_fillInStackTrace_24 : decode prog_13_method_18_code 24 = .ok (.putfield 17, 3) := by decide +kernel
theorem dThr_fillInStackTrace_27 : decode prog_13_method_18_code 27 = .ok (.aload_n 0, 1) := by decide +kernel
theorem dThr_fillInStackTrace_28 : decode prog_13_method_18_code 28 = .ok (.areturn, 1) := by decide +kernel
theorem dIse_init_0 : decode prog_7_method_2_code 0 = .ok (.aload_n 0, 1) := by decide +kernel
theorem dIse_init_1 : decode prog_7_method_2_code 1 = .ok (.aload_n 1, 1) := by decide +kernel
theorem dIse_init_2 : decode prog_7_method_2_code 2 = .ok (.invokespecial 7, 3) := by decide +kernel
theorem dIse_init_5 : decode prog_7_method_2_code 5 = .ok (.return_, 1) := by decide +kernel
theorem dRte_init_0 : decode prog_9_method_2_code 0 = .ok (.aload_n 0, 1) := by decide +kernel
theorem dRte_init_1 : decode prog_9_method_2_code 1 = .ok (.aload_n 1, 1) := by decide +kernel
theorem dRte_init_2 : decode prog_9_method_2_code 2 = .ok (.invokespecial 7, 3) := by decide +kernel
theorem dRte_init_5 : decode prog_9_method_2_code 5 = .ok (.return_, 1) := by decide +kernel
theorem dExc_init_0 : decode prog_5_method_2_code 0 = .ok (.aload_n 0, 1) := by decide +kernel
theorem dExc_init_1 : decode prog_5_method_2_code 1 = .ok (.aload_n 1, 1) := by decide +kernel
theorem dExc_init_2 : decode prog_5_method_2_code 2 = .ok (.invokespecial 7, 3) := by decide +kernel
theorem dExc_init_5 : decode prog_5_method_2_code 5 = .ok (.return_, 1) := by decide +kernel
theorem dThr_initS_0 : decode prog_13_method_2_code 0 = .ok (.aload_n 0, 1) := by decide +kernel
theorem dThr_initS_1 : decode prog_13_method_2_code 1 = .ok (.invokespecial 1, 3) := by decide +kernel
theorem dThr_initS_4 : decode prog_13_method_2_code 4 = .ok (.aload_n 0, 1) := by decide +kernel
theorem dThr_initS_5 : decode prog_13_method_2_code 5 = .ok (.aload_n 0, 1) := by decide +kernel
theorem dThr_initS_6 : decode prog_13_method_2_code 6 = .ok (.putfield 7, 3) := by decide +kernel
theorem dThr_initS_9 : decode prog_13_method_2_code 9 = .ok (.aload_n 0, 1) := by decide +kernel
theorem dThr_initS_10 : decode prog_13_method_2_code 10 = .ok (.getstatic 13, 3) := by decide +kernel
theorem dThr_initS_13 : decode prog_13_method_2_code 13 = .ok (.putfield 17, 3) := by decide +kernel
theorem dThr_initS_16 : decode prog_13_method_2_code 16 = .ok (.aload_n 0, 1) := by decide +kernel
theorem dThr_initS_17 : decode prog_13_method_2_code 17 = .ok (.getstatic 20, 3) := by decide +kernel
theorem dThr_initS_20 : decode prog_13_method_2_code 20 = .ok (.putfield 24, 3) := by decide +kernel
theorem dThr_initS_23 : decode prog_13_method_2_code 23 = .ok (.aload_n 0, 1) := by decide +kernel
theorem dThr_initS_24 : decode prog_13_method_2_code 24 = .ok (.invokevirtual 27, 3) := by decide +kernel
theorem dThr_initS_27 : decode prog_13_method_2_code 27 = .ok (.pop, 1) := by decide +kernel
theorem dThr_initS_28 : decode prog_13_method_2_code 28 = .ok (.aload_n 0, 1) := by decide +kernel
theorem dThr_initS_29 : decode prog_13_method_2_code 29 = .ok (.aload_n 1, 1) := by decide +kernel
theorem dThr_initS_30 : decode prog_13_method_2_code 30 = .ok (.putfield 31, 3) := by decide +kernel
theorem dThr_initS_33 : decode prog_13_method_2_code 33 = .ok (.return_, 1) := by decide +kernel
theorem dIae_init_0 : decode prog_6_method_2_code 0 = .ok (.aload_n 0, 1) := by decide +kernel
theorem dIae_init_1 : decode prog_6_method_2_code 1 = .ok (.aload_n 1, 1) := by decide +kernel
theorem dIae_init_2 : decode prog_6_method_2_code 2 = .ok (.invokespecial 7, 3) := by decide +kernel
theorem dIae_init_5 : decode prog_6_method_2_code 5 = .ok (.return_, 1) := by decide +kernel
end
section
theorem dL_feed_0 : decode method_3_code 0 = .ok (.aload_n 0, 1) := by decide +kernel
theorem dL_feed_1 : decode method_3_code 1 = .ok (.iload_n 1, 1) := by decide +kernel
theorem dL_feed_2 : decode method_3_code 2 = .ok (.iload_n 2, 1) := by decide +kernel
theorem dL_feed_3 : decode method_3_code 3 = .ok (.iload_n 3, 1) := by decide +kernel
theorem dL_feed_4 : decode method_3_code 4 = .ok (.iload 4, 2) := by decide +kernel
theorem dL_feed_6 : decode method_3_code 6 = .ok (.iload 5, 2) := by decide +kernel
theorem dL_feed_8 : decode method_3_code 8 = .ok (.invokevirtual 7, 3) := by decide +kernel
theorem dL_feed_11 : decode method_3_code 11 = .ok (.goto 7, 3) := by decide +kernel
theorem dL_feed_14 : decode method_3_code 14 = .ok (.astore 6, 2) := by decide +kernel
theorem dL_feed_16 : decode method_3_code 16 = .ok (.iconst 1, 1) := by decide +kernel
theorem dL_feed_17 : decode method_3_code 17 = .ok (.ireturn, 1) := by decide +kernel
theorem dL_feed_18 : decode method_3_code 18 = .ok (.iconst 0, 1) := by decide +kernel
theorem dL_feed_19 : decode method_3_code 19 = .ok (.ireturn, 1) := by decide +kernel
theorem dL_end_0 : decode method_4_code 0 = .ok (.aload_n 2, 1) := by decide +kernel
theorem dL_end_1 : decode method_4_code 1 = .ok (.iconst 0, 1) := by decide +kernel
theorem dL_end_2 : decode method_4_code 2 = .ok (.aload_n 0, 1) := by decide +kernel
theorem dL_end_3 : decode method_4_code 3 = .ok (.iload_n 1, 1) := by decide +kernel
theorem dL_end_4 : decode method_4_code 4 = .ok (.invokevirtual 15, 3) := by decide +kernel
theorem dL_end_7 : decode method_4_code 7 = .ok (.i2l, 1) := by decide +kernel
theorem dL_end_8 : decode method_4_code 8 = .ok (.lastore, 1) := by decide +kernel
theorem dL_end_9 : decode method_4_code 9 = .ok (.goto 6, 3) := by decide +kernel
theorem dL_end_12 : decode method_4_code 12 = .ok (.astore_n 3, 1) := by decide +kernel
theorem dL_end_13 : decode method_4_code 13 = .ok (.iconst 1, 1) := by decide +kernel
theorem dL_end_14 : decode method_4_code 14 = .ok (.ireturn, 1) := by decide +kernel
theorem dL_end_15 : decode method_4_code 15 = .ok (.iconst 0, 1) := by decide +kernel
theorem dL_end_16 : decode method_4_code 16 = .ok (.ireturn, 1) := by decide +kernel
theorem dL_law_0 : decode code 0 = .ok (.new 8, 3) := by decide +kernel
theorem dL_law_3 : decode code 3 = .ok (.dup, 1) := by decide +kernel
theorem dL_law_4 : decode code 4 = .ok (.invokespecial 21, 3) := by decide +kernel
theorem dL_law_7 : decode code 7 = .ok (.astore_n 1, 1) := by decide +kernel
theorem dL_law_8 : decode code 8 = .ok (.new 22, 3) := by decide +kernel
theorem dL_law_11 : decode code 11 = .ok (.dup, 1) := by decide +kernel
theorem dL_law_12 : decode code 12 = .ok (.invokespecial 24, 3) := by decide +kernel
theorem dL_law_15 : decode code 15 = .ok (.astore_n 2, 1) := by decide +kernel
theorem dL_law_16 : decode code 16 = .ok (.iconst 1, 1) := by decide +kernel
theorem dL_law_17 : decode code 17 = .ok (.newarray .long, 2) := by decide +kernel
theorem dL_law_19 : decode code 19 = .ok (.astore_n 3, 1) := by decide +kernel
theorem dL_law_20 : decode code 20 = .ok (.iconst 0, 1) := by decide +kernel
theorem dL_law_21 : decode code 21 = .ok (.istore 4, 2) := by decide +kernel
theorem dL_law_23 : decode code 23 = .ok (.iload 4, 2) := by decide +kernel
theorem dL_law_25 : decode code 25 = .ok (.aload_n 0, 1) := by decide +kernel
theorem dL_law_26 : decode code 26 = .ok (.arraylength, 1) := by decide +kernel
theorem dL_law_27 : decode code 27 = .ok (.bipush 6, 2) := by decide +kernel
theorem dL_law_29 : decode code 29 = .ok (.isub, 1) := by decide +kernel
theorem dL_law_30 : decode code 30 = .ok (.if_icmp .gt 458, 3) := by decide +kernel
theorem dL_law_33 : decode code 33 = .ok (.aload_n 0, 1) := by decide +kernel
theorem dL_law_34 : decode code 34 = .ok (.iload 4, 2) := by decide +kernel
theorem dL_law_36 : decode code 36 = .ok (.iaload, 1) := by decide +kernel
theorem dL_law_37 : decode code 37 = .ok (.bipush 15, 2) := by decide +kernel
theorem dL_law_39 : decode code 39 = .ok (.iand, 1) := by decide +kernel
theorem dL_law_40 : decode code 40 = .ok (.tableswitch 442 0 11 #[64, 148, 204, 241, 266, 279, 292, 317, 330, 355, 392, 417], 64) := by decide +kernel
theorem dL_law_104 : decode code 104 = .ok (.aload_n 1, 1) := by decide +kernel
theorem dL_law_105 : decode code 105 = .ok (.aload_n 0, 1) := by decide +kernel
theorem dL_law_106 : decode code 106 = .ok (.iload 4, 2) := by decide +kernel
theorem dL_law_108 : decode code 108 = .ok (.iconst 1, 1) := by decide +kernel
theorem dL_law_109 : decode code 109 = .ok (.iadd, 1) := by decide +kernel
theorem dL_law_110 : decode code 110 = .ok (.iaload, 1) := by decide +kernel
theorem dL_law_111 : decode code 111 = .ok (.aload_n 0, 1) := by decide +kernel
theorem dL_law_112 : decode code 112 = .ok (.iload 4, 2) := by decide +kernel
theorem dL_law_114 : decode code 114 = .ok (.iconst 2, 1) := by decide +kernel
theorem dL_law_115 : decode code 115 = .ok (.iadd, 1) := by decide +kernel
theorem dL_law_116 : decode code 116 = .ok (.iaload, 1) := by decide +kernel
theorem dL_law_117 : decode code 117 = .ok (.aload_n 0, 1) := by decide +kernel
theorem dL_law_118 : decode code 118 = .ok (.iload 4, 2) := by decide +kernel
theorem dL_law_120 : decode code 120 = .ok (.iconst 3, 1) := by decide +kernel
theorem dL_law_121 : decode code 121 = .ok (.iadd, 1) := by decide +kernel
theorem dL_law_122 : decode code 122 = .ok (.iaload, 1) := by decide +kernel
theorem dL_law_123 : decode code 123 = .ok (.aload_n 0, 1) := by decide +kernel
theorem dL_law_124 : decode code 124 = .ok (.iload 4, 2) := by decide +kernel
theorem dL_law_126 : decode code 126 = .ok (.iconst 4, 1) := by decide +kernel
theorem dL_law_127 : decode code 127 = .ok (.iadd, 1) := by decide +kernel
theorem dL_law_128 : decode code 128 = .ok (.iaload, 1) := by decide +kernel
theorem dL_law_129 : decode code 129 = .ok (.aload_n 0, 1) := by decide +kernel
theorem dL_law_130 : decode code 130 = .ok (.iload 4, 2) := by decide +kernel
theorem dL_law_132 : decode code 132 = .ok (.iconst 5, 1) := by decide +kernel
theorem dL_law_133 : decode code 133 = .ok (.iadd, 1) := by decide +kernel
theorem dL_law_134 : decode code 134 = .ok (.iaload, 1) := by decide +kernel
theorem dL_law_135 : decode code 135 = .ok (.invokestatic 25, 3) := by decide +kernel
theorem dL_law_138 : decode code 138 = .ok (.istore 5, 2) := by decide +kernel
theorem dL_law_140 : decode code 140 = .ok (.aload_n 2, 1) := by decide +kernel
theorem dL_law_141 : decode code 141 = .ok (.aload_n 0, 1) := by decide +kernel
theorem dL_law_142 : decode code 142 = .ok (.iload 4, 2) := by decide +kernel
theorem dL_law_144 : decode code 144 = .ok (.iconst 1, 1) := by decide +kernel
theorem dL_law_145 : decode code 145 = .ok (.iadd, 1) := by decide +kernel
theorem dL_law_146 : decode code 146 = .ok (.iaload, 1) := by decide +kernel
theorem dL_law_147 : decode code 147 = .ok (.aload_n 0, 1) := by decide +kernel
theorem dL_law_148 : decode code 148 = .ok (.iload 4, 2) := by decide +kernel
theorem dL_law_150 : decode code 150 = .ok (.iconst 2, 1) := by decide +kernel
theorem dL_law_151 : decode code 151 = .ok (.iadd, 1) := by decide +kernel
theorem dL_law_152 : decode code 152 = .ok (.iaload, 1) := by decide +kernel
theorem dL_law_153 : decode code 153 = .ok (.aload_n 0, 1) := by decide +kernel
theorem dL_law_154 : decode code 154 = .ok (.iload 4, 2) := by decide +kernel
theorem dL_law_156 : decode code 156 = .ok (.iconst 3, 1) := by decide +kernel
theorem dL_law_157 : decode code 157 = .ok (.iadd, 1) := by decide +kernel
theorem dL_law_158 : decode code 158 = .ok (.iaload, 1) := by decide +kernel
theorem dL_law_159 : decode code 159 = .ok (.aload_n 0, 1) := by decide +kernel
theorem dL_law_160 : decode code 160 = .ok (.iload 4, 2) := by decide +kernel
theorem dL_law_162 : decode code 162 = .ok (.iconst 4, 1) := by decide +kernel
theorem dL_law_163 : decode code 163 = .ok (.iadd, 1) := by decide +kernel
theorem dL_law_164 : decode code 164 = .ok (.iaload, 1) := by decide +kernel
theorem dL_law_165 : decode code 165 = .ok (.aload_n 0, 1) := by decide +kernel
theorem dL_law_166 : decode code 166 = .ok (.iload 4, 2) := by decide +kernel
theorem dL_law_168 : decode code 168 = .ok (.iconst 5, 1) := by decide +kernel
theorem dL_law_169 : decode code 169 = .ok (.iadd, 1) := by decide +kernel
theorem dL_law_170 : decode code 170 = .ok (.iaload, 1) := by decide +kernel
theorem dL_law_171 : decode code 171 = .ok (.invokevirtual 30, 3) := by decide +kernel
theorem dL_law_174 : decode code 174 = .ok (.aload_n 2, 1) := by decide +kernel
theorem dL_law_175 : decode code 175 = .ok (.invokevirtual 31, 3) := by decide +kernel
theorem dL_law_178 : decode code 178 = .ok (.iload 5, 2) := by decide +kernel
theorem dL_law_180 : decode code 180 = .ok (.if_icmp .eq 5, 3) := by decide +kernel
theorem dL_law_183 : decode code 183 = .ok (.iconst 0, 1) := by decide +kernel
theorem dL_law_184 : decode code 184 = .ok (.ireturn, 1) := by decide +kernel
theorem dL_law_185 : decode code 185 = .ok (.goto 297, 3) := by decide +kernel
theorem dL_law_188 : decode code 188 = .ok (.aload_n 1, 1) := by decide +kernel
theorem dL_law_189 : decode code 189 = .ok (.aload_n 0, 1) := by decide +kernel
theorem dL_law_190 : decode code 190 = .ok (.iload 4, 2) := by decide +kernel
theorem dL_law_192 : decode code 192 = .ok (.iconst 1, 1) := by decide +kernel
theorem dL_law_193 : decode code 193 = .ok (.iadd, 1) := by decide +kernel
theorem dL_law_194 : decode code 194 = .ok (.iaload, 1) := by decide +kernel
theorem dL_law_195 : decode code 195 = .ok (.aload_n 3, 1) := by decide +kernel
theorem dL_law_196 : decode code 196 = .ok (.invokestatic 35, 3) := by decide +kernel
theorem dL_law_199 : decode code 199 = .ok (.istore 5, 2) := by decide +kernel
theorem dL_law_201 : decode code 201 = .ok (.aload_n 2, 1) := by decide +kernel
theorem dL_law_202 : decode code 202 = .ok (.aload_n 0, 1) := by decide +kernel
theorem dL_law_203 : decode code 203 = .ok (.iload 4, 2) := by decide +kernel
theorem dL_law_205 : decode code 205 = .ok (.iconst 1, 1) := by decide +kernel
theorem dL_law_206 : decode code 206 = .ok (.iadd, 1) := by decide +kernel
theorem dL_law_207 : decode code 207 = .ok (.iaload, 1) := by decide +kernel
theorem dL_law_208 : decode code 208 = .ok (.invokevirtual 38, 3) := by decide +kernel
theorem dL_law_211 : decode code 211 = .ok (.istore 6, 2) := by decide +kernel
theorem dL_law_213 : decode code 213 = .ok (.aload_n 2, 1) := by decide +kernel
theorem dL_law_214 : decode code 214 = .ok (.invokevirtual 31, 3) := by decide +kernel
theorem dL_law_217 : decode code 217 = .ok (.iload 5, 2) := by decide +kernel
theorem dL_law_219 : decode code 219 = .ok (.if_icmp .eq 5, 3) := by decide +kernel
theorem dL_law_222 : decode code 222 = .ok (.iconst 0, 1) := by decide +kernel
theorem dL_law_223 : decode code 223 = .ok (.ireturn, 1) := by decide +kernel
theorem dL_law_224 : decode code 224 = .ok (.iload 5, 2) := by decide +kernel
theorem dL_law_226 : decode code 226 = .ok (.ifCond .ne 15, 3) := by decide +kernel
theorem dL_law_229 : decode code 229 = .ok (.aload_n 3, 1) := by decide +kernel
theorem dL_law_230 : decode code 230 = .ok (.iconst 0, 1) := by decide +kernel
theorem dL_law_231 : decode code 231 = .ok (.laload, 1) := by decide +kernel
theorem dL_law_232 : decode code 232 = .ok (.iload 6, 2) := by decide +kernel
theorem dL_law_234 : decode code 234 = .ok (.i2l, 1) := by decide +kernel
theorem dL_law_235 : decode code 235 = .ok (.lcmp, 1) := by decide +kernel
theorem dL_law_236 : decode code 236 = .ok (.ifCond .eq 5, 3) := by decide +kernel
theorem dL_law_239 : decode code 239 = .ok (.iconst 0, 1) := by decide +kernel
theorem dL_law_240 : decode code 240 = .ok (.ireturn, 1) := by decide +kernel
theorem dL_law_241 : decode code 241 = .ok (.goto 241, 3) := by decide +kernel
theorem dL_law_244 : decode code 244 = .ok (.aload_n 1, 1) := by decide +kernel
theorem dL_law_245 : decode code 245 = .ok (.aload_n 0, 1) := by decide +kernel
theorem dL_law_246 : decode code 246 = .ok (.iload 4, 2) := by decide +kernel
theorem dL_law_248 : decode code 248 = .ok (.iconst 1, 1) := by decide +kernel
theorem dL_law_249 : decode code 249 = .ok (.iadd, 1) := by decide +kernel
theorem dL_law_250 : decode code 250 = .ok (.iaload, 1) := by decide +kernel
theorem dL_law_251 : decode code 251 = .ok (.aload_n 0, 1) := by decide +kernel
theorem dL_law_252 : decode code 252 = .ok (.iload 4, 2) := by decide +kernel
theorem dL_law_254 : decode code 254 = .ok (.iconst 2, 1) := by decide +kernel
theorem dL_law_255 : decode code 255 = .ok (.iadd, 1) := by decide +kernel
theorem dL_law_256 : decode code 256 = .ok (.iaload, 1) := by decide +kernel
theorem dL_law_257 : decode code 257 = .ok (.invokevirtual 39, 3) := by decide +kernel
theorem dL_law_260 : decode code 260 = .ok (.aload_n 2, 1) := by decide +kernel
theorem dL_law_261 : decode code 261 = .ok (.aload_n 0, 1) := by decide +kernel
theorem dL_law_262 : decode code 262 = .ok (.iload 4, 2) := by decide +kernel
theorem dL_law_264 : decode code 264 = .ok (.iconst 1, 1) := by decide +kernel
theorem dL_law_265 : decode code 265 = .ok (.iadd, 1) := by decide +kernel
theorem dL_law_266 : decode code 266 = .ok (.iaload, 1) := by decide +kernel
theorem dL_law_267 : decode code 267 = .ok (.aload_n 0, 1) := by decide +kernel
theorem dL_law_268 : decode code 268 = .ok (.iload 4, 2) := by decide +kernel
theorem dL_law_270 : decode code 270 = .ok (.iconst 2, 1) := by decide +kernel
theorem dL_law_271 : decode code 271 = .ok (.iadd, 1) := by decide +kernel
theorem dL_law_272 : decode code 272 = .ok (.iaload, 1) := by decide +kernel
theorem dL_law_273 : decode code 273 = .ok (.invokevirtual 43, 3) := by decide +kernel
theorem dL_law_276 : decode code 276 = .ok (.if_icmp .eq 206, 3) := by decide +kernel
theorem dL_law_279 : decode code 279 = .ok (.iconst 0, 1) := by decide +kernel
theorem dL_law_280 : decode code 280 = .ok (.ireturn, 1) := by decide +kernel
theorem dL_law_281 : decode code 281 = .ok (.aload_n 1, 1) := by decide +kernel
theorem dL_law_282 : decode code 282 = .ok (.aload_n 0, 1) := by decide +kernel
theorem dL_law_283 : decode code 283 = .ok (.iload 4, 2) := by decide +kernel
theorem dL_law_285 : decode code 285 = .ok (.iconst 1, 1) := by decide +kernel
theorem dL_law_286 : decode code 286 = .ok (.iadd, 1) := by decide +kernel
theorem dL_law_287 : decode code 287 = .ok (.iaload, 1) := by decide +kernel
theorem dL_law_288 : decode code 288 = .ok (.invokevirtual 44, 3) := by decide +kernel
theorem dL_law_291 : decode code 291 = .ok (.aload_n 2, 1) := by decide +kernel
theorem dL_law_292 : decode code 292 = .ok (.aload_n 0, 1) := by decide +kernel
theorem dL_law_293 : decode code 293 = .ok (.iload 4, 2) := by decide +kernel
theorem dL_law_295 : decode code 295 = .ok (.iconst 1, 1) := by decide +kernel
theorem dL_law_296 : decode code 296 = .ok (.iadd, 1) := by decide +kernel
theorem dL_law_297 : decode code 297 = .ok (.iaload, 1) := by decide +kernel
theorem dL_law_298 : decode code 298 = .ok (.invokevirtual 47, 3) := by decide +kernel
theorem dL_law_301 : decode code 301 = .ok (.if_icmp .eq 181, 3) := by decide +kernel
theorem dL_law_304 : decode code 304 = .ok (.iconst 0, 1) := by decide +kernel
theorem dL_law_305 : decode code 305 = .ok (.ireturn, 1) := by decide +kernel
theorem dL_law_306 : decode code 306 = .ok (.aload_n 1, 1) := by decide +kernel
theorem dL_law_307 : decode code 307 = .ok (.invokevirtual 48, 3) := by decide +kernel
theorem dL_law_310 : decode code 310 = .ok (.aload_n 2, 1) := by decide +kernel
theorem dL_law_311 : decode code 311 = .ok (.invokevirtual 51, 3) := by decide +kernel
theorem dL_law_314 : decode code 314 = .ok (.if_icmp .eq 168, 3) := by decide +kernel
theorem dL_law_317 : decode code 317 = .ok (.iconst 0, 1) := by decide +kernel
theorem dL_law_318 : decode code 318 = .ok (.ireturn, 1) := by decide +kernel
theorem dL_law_319 : decode code 319 = .ok (.aload_n 1, 1) := by decide +kernel
theorem dL_law_320 : decode code 320 = .ok (.invokevirtual 52, 3) := by decide +kernel
theorem dL_law_323 : decode code 323 = .ok (.aload_n 2, 1) := by decide +kernel
theorem dL_law_324 : decode code 324 = .ok (.invokevirtual 55, 3) := by decide +kernel
theorem dL_law_327 : decode code 327 = .ok (.if_icmp .eq 155, 3) := by decide +kernel
theorem dL_law_330 : decode code 330 = .ok (.iconst 0, 1) := by decide +kernel
theorem dL_law_331 : decode code 331 = .ok (.ireturn, 1) := by decide +kernel
theorem dL_law_332 : decode code 332 = .ok (.aload_n 1, 1) := by decide +kernel
theorem dL_law_333 : decode code 333 = .ok (.aload_n 0, 1) := by decide +kernel
theorem dL_law_334 : decode code 334 = .ok (.iload 4, 2) := by decide +kernel
theorem dL_law_336 : decode code 336 = .ok (.iconst 1, 1) := by decide +kernel
theorem dL_law_337 : decode code 337 = .ok (.iadd, 1) := by decide +kernel
theorem dL_law_338 : decode code 338 = .ok (.iaload, 1) := by decide +kernel
theorem dL_law_339 : decode code 339 = .ok (.invokevirtual 56, 3) := by decide +kernel
theorem dL_law_342 : decode code 342 = .ok (.aload_n 2, 1) := by decide +kernel
theorem dL_law_343 : decode code 343 = .ok (.aload_n 0, 1) := by decide +kernel
theorem dL_law_344 : decode code 344 = .ok (.iload 4, 2) := by decide +kernel
theorem dL_law_346 : decode code 346 = .ok (.iconst 1, 1) := by decide +kernel
theorem dL_law_347 : decode code 347 = .ok (.iadd, 1) := by decide +kernel
theorem dL_law_348 : decode code 348 = .ok (.iaload, 1) := by decide +kernel
theorem dL_law_349 : decode code 349 = .ok (.invokevirtual 59, 3) := by decide +kernel
theorem dL_law_352 : decode code 352 = .ok (.if_icmp .eq 130, 3) := by decide +kernel
theorem dL_law_355 : decode code 355 = .ok (.iconst 0, 1) := by decide +kernel
theorem dL_law_356 : decode code 356 = .ok (.ireturn, 1) := by decide +kernel
theorem dL_law_357 : decode code 357 = .ok (.aload_n 1, 1) := by decide +kernel
theorem dL_law_358 : decode code 358 = .ok (.invokevirtual 60, 3) := by decide +kernel
theorem dL_law_361 : decode code 361 = .ok (.aload_n 2, 1) := by decide +kernel
theorem dL_law_362 : decode code 362 = .ok (.invokevirtual 63, 3) := by decide +kernel
theorem dL_law_365 : decode code 365 = .ok (.if_icmp .eq 117, 3) := by decide +kernel
theorem dL_law_368 : decode code 368 = .ok (.iconst 0, 1) := by decide +kernel
theorem dL_law_369 : decode code 369 = .ok (.ireturn, 1) := by decide +kernel
theorem dL_law_370 : decode code 370 = .ok (.aload_n 1, 1) := by decide +kernel
theorem dL_law_371 : decode code 371 = .ok (.aload_n 0, 1) := by decide +kernel
theorem dL_law_372 : decode code 372 = .ok (.iload 4, 2) := by decide +kernel
theorem dL_law_374 : decode code 374 = .ok (.iconst 1, 1) := by decide +kernel
theorem dL_law_375 : decode code 375 = .ok (.iadd, 1) := by decide +kernel
theorem dL_law_376 : decode code 376 = .ok (.iaload, 1) := by decide +kernel
theorem dL_law_377 : decode code 377 = .ok (.invokevirtual 64, 3) := by decide +kernel
theorem dL_law_380 : decode code 380 = .ok (.aload_n 2, 1) := by decide +kernel
theorem dL_law_381 : decode code 381 = .ok (.aload_n 0, 1) := by decide +kernel
theorem dL_law_382 : decode code 382 = .ok (.iload 4, 2) := by decide +kernel
theorem dL_law_384 : decode code 384 = .ok (.iconst 1, 1) := by decide +kernel
theorem dL_law_385 : decode code 385 = .ok (.iadd, 1) := by decide +kernel
theorem dL_law_386 : decode code 386 = .ok (.iaload, 1) := by decide +kernel
theorem dL_law_387 : decode code 387 = .ok (.invokevirtual 67, 3) := by decide +kernel
theorem dL_law_390 : decode code 390 = .ok (.if_icmp .eq 92, 3) := by decide +kernel
theorem dL_law_393 : decode code 393 = .ok (.iconst 0, 1) := by decide +kernel
theorem dL_law_394 : decode code 394 = .ok (.ireturn, 1) := by decide +kernel
theorem dL_law_395 : decode code 395 = .ok (.aload_n 1, 1) := by decide +kernel
theorem dL_law_396 : decode code 396 = .ok (.aload_n 0, 1) := by decide +kernel
theorem dL_law_397 : decode code 397 = .ok (.iload 4, 2) := by decide +kernel
theorem dL_law_399 : decode code 399 = .ok (.iconst 1, 1) := by decide +kernel
theorem dL_law_400 : decode code 400 = .ok (.iadd, 1) := by decide +kernel
theorem dL_law_401 : decode code 401 = .ok (.iaload, 1) := by decide +kernel
theorem dL_law_402 : decode code 402 = .ok (.aload_n 0, 1) := by decide +kernel
theorem dL_law_403 : decode code 403 = .ok (.iload 4, 2) := by decide +kernel
theorem dL_law_405 : decode code 405 = .ok (.iconst 2, 1) := by decide +kernel
theorem dL_law_406 : decode code 406 = .ok (.iadd, 1) := by decide +kernel
theorem dL_law_407 : decode code 407 = .ok (.iaload, 1) := by decide +kernel
theorem dL_law_408 : decode code 408 = .ok (.invokevirtual 68, 3) := by decide +kernel
theorem dL_law_411 : decode code 411 = .ok (.aload_n 2, 1) := by decide +kernel
theorem dL_law_412 : decode code 412 = .ok (.aload_n 0, 1) := by decide +kernel
theorem dL_law_413 : decode code 413 = .ok (.iload 4, 2) := by decide +kernel
theorem dL_law_415 : decode code 415 = .ok (.iconst 1, 1) := by decide +kernel
theorem dL_law_416 : decode code 416 = .ok (.iadd, 1) := by decide +kernel
theorem dL_law_417 : decode code 417 = .ok (.iaload, 1) := by decide +kernel
theorem dL_law_418 : decode code 418 = .ok (.aload_n 0, 1) := by decide +kernel
theorem dL_law_419 : decode code 419 = .ok (.iload 4, 2) := by decide +kernel
theorem dL_law_421 : decode code 421 = .ok (.iconst 2, 1) := by decide +kernel
theorem dL_law_422 : decode code 422 = .ok (.iadd, 1) := by decide +kernel
theorem dL_law_423 : decode code 423 = .ok (.iaload, 1) := by decide +kernel
theorem dL_law_424 : decode code 424 = .ok (.invokevirtual 71, 3) := by decide +kernel
theorem dL_law_427 : decode code 427 = .ok (.if_icmp .eq 55, 3) := by decide +kernel
theorem dL_law_430 : decode code 430 = .ok (.iconst 0, 1) := by decide +kernel
theorem dL_law_431 : decode code 431 = .ok (.ireturn, 1) := by decide +kernel
theorem dL_law_432 : decode code 432 = .ok (.aload_n 1, 1) := by decide +kernel
theorem dL_law_433 : decode code 433 = .ok (.aload_n 0, 1) := by decide +kernel
theorem dL_law_434 : decode code 434 = .ok (.iload 4, 2) := by decide +kernel
theorem dL_law_436 : decode code 436 = .ok (.iconst 1, 1) := by decide +kernel
theorem dL_law_437 : decode code 437 = .ok (.iadd, 1) := by decide +kernel
theorem dL_law_438 : decode code 438 = .ok (.iaload, 1) := by decide +kernel
theorem dL_law_439 : decode code 439 = .ok (.invokevirtual 72, 3) := by decide +kernel
theorem dL_law_442 : decode code 442 = .ok (.aload_n 2, 1) := by decide +kernel
theorem dL_law_443 : decode code 443 = .ok (.aload_n 0, 1) := by decide +kernel
theorem dL_law_444 : decode code 444 = .ok (.iload 4, 2) := by decide +kernel
theorem dL_law_446 : decode code 446 = .ok (.iconst 1, 1) := by decide +kernel
theorem dL_law_447 : decode code 447 = .ok (.iadd, 1) := by decide +kernel
theorem dL_law_448 : decode code 448 = .ok (.iaload, 1) := by decide +kernel
theorem dL_law_449 : decode code 449 = .ok (.invokevirtual 75, 3) := by decide +kernel
theorem dL_law_452 : decode code 452 = .ok (.if_icmp .eq 30, 3) := by decide +kernel
theorem dL_law_455 : decode code 455 = .ok (.iconst 0, 1) := by decide +kernel
theorem dL_law_456 : decode code 456 = .ok (.ireturn, 1) := by decide +kernel
theorem dL_law_457 : decode code 457 = .ok (.aload_n 1, 1) := by decide +kernel
theorem dL_law_458 : decode code 458 = .ok (.aload_n 0, 1) := by decide +kernel
theorem dL_law_459 : decode code 459 = .ok (.iload 4, 2) := by decide +kernel
theorem dL_law_461 : decode code 461 = .ok (.iconst 1, 1) := by decide +kernel
theorem dL_law_462 : decode code 462 = .ok (.iadd, 1) := by decide +kernel
theorem dL_law_463 : decode code 463 = .ok (.iaload, 1) := by decide +kernel
theorem dL_law_464 : decode code 464 = .ok (.invokevirtual 76, 3) := by decide +kernel
theorem dL_law_467 : decode code 467 = .ok (.aload_n 2, 1) := by decide +kernel
theorem dL_law_468 : decode code 468 = .ok (.aload_n 0, 1) := by decide +kernel
theorem dL_law_469 : decode code 469 = .ok (.iload 4, 2) := by decide +kernel
theorem dL_law_471 : decode code 471 = .ok (.iconst 1, 1) := by decide +kernel
theorem dL_law_472 : decode code 472 = .ok (.iadd, 1) := by decide +kernel
theorem dL_law_473 : decode code 473 = .ok (.iaload, 1) := by decide +kernel
theorem dL_law_474 : decode code 474 = .ok (.invokevirtual 79, 3) := by decide +kernel
theorem dL_law_477 : decode code 477 = .ok (.if_icmp .eq 5, 3) := by decide +kernel
theorem dL_law_480 : decode code 480 = .ok (.iconst 0, 1) := by decide +kernel
theorem dL_law_481 : decode code 481 = .ok (.ireturn, 1) := by decide +kernel
theorem dL_law_482 : decode code 482 = .ok (.iinc 4 6, 3) := by decide +kernel
theorem dL_law_485 : decode code 485 = .ok (.goto (-462), 3) := by decide +kernel
theorem dL_law_488 : decode code 488 = .ok (.iconst 1, 1) := by decide +kernel
theorem dL_law_489 : decode code 489 = .ok (.ireturn, 1) := by decide +kernel
end
section
/-! base: the classes' field tables, contracts over the one word list TB, calls of methods that only read -/
def T_S : u_T := fun k => match k with
  | 0 => ("SignReader", "bytes", "[I", true)
  | 1 => ("SignReader", "text", "[I", true)
  | 2 => ("SignReader", "byteCount", "I", false)
  | 3 => ("SignReader", "textLength", "I", false)
  | _ => ("SignReader", "textWay", "I", false)
def t_S : Nat → FieldType := fun k => match k with
  | 0 => .array .int
  | 1 => .array .int
  | _ => .int
theorem n_S : ∀ a, a < 5 → ∀ b, b < 5 → a ≠ b → (T_S a).2.1 ≠ (T_S b).2.1 := by decide +kernel
theorem t_S_ok : ∀ k, k < 5 → parseFieldDescriptor (T_S k).2.2.1 = some (t_S k) := by decide +kernel
theorem i_S : ∀ w ∈ u_ws "SignReader" T_S 5, w ∈ TB := by decide +kernel
def T_M : u_T := fun k => match k with
  | 0 => ("SignReaderModel", "code", "I", false)
  | 1 => ("SignReaderModel", "bytes", "[I", true)
  | 2 => ("SignReaderModel", "size", "I", false)
  | 3 => ("SignReaderModel", "text", "[I", true)
  | 4 => ("SignReaderModel", "length", "I", false)
  | 5 => ("SignReaderModel", "way", "I", false)
  | 6 => ("SignReaderModel", "aside", "[I", true)
  | 7 => ("SignReaderModel", "count", "I", false)
  | _ => ("SignReaderModel", "found", "I", false)
def t_M : Nat → FieldType := fun k => match k with
  | 1 => .array .int
  | 3 => .array .int
  | 6 => .array .int
  | _ => .int
theorem n_M : ∀ a, a < 9 → ∀ b, b < 9 → a ≠ b → (T_M a).2.1 ≠ (T_M b).2.1 := by decide +kernel
theorem t_M_ok : ∀ k, k < 9 → parseFieldDescriptor (T_M k).2.2.1 = some (t_M k) := by decide +kernel
theorem i_M : ∀ w ∈ u_ws "SignReaderModel" T_M 9, w ∈ TB := by decide +kernel
abbrev CL : List vw_C := [("SignReader", T_S, 5), ("SignReaderModel", T_M, 9)]
theorem good_TB {y : MethodName} {bytes : ByteArray} {maxL : Nat} {ret : Option FieldType} (hc : Cond.code y bytes maxL ret ∈ TB) : GoodIn TB (Cond.code y bytes maxL ret :: TB) := fun w h => by
  rcases List.mem_cons.mp h with rfl | h
  · exact ⟨hc, TB_good _ hc⟩
  · exact ⟨h, TB_good _ h⟩
abbrev okName (y : MethodName) (n : Nat) : Prop := y.cls ≠ "java/lang/invoke/MethodHandle" ∧ y.cls ≠ "java/lang/invoke/VarHandle" ∧ (parseMethodDescriptor y.desc).map (fun d => d.parameters.length) = some n
section Base
variable {p : Program} {l : Launch} {e : Env} {R : Room} {s : State} {m : MethodId} {args : Array Value} {below : List Frame} {meth : Method} {c : Code} {H : Heap} {locs : List Loc} {cells slots : Nat} {Q : State → Prop}
variable {y : MethodName} {bytes cc : ByteArray} {maxL nL index n mc ms pc : Nat} {ret : Option FieldType} {rm : Room} {Pc : Array Value → State → Prop} {Qc : Array Value → State → Outcome → State → Prop} {free : Addr → Prop} {own C : String} {b : Addr} {As rest st : List Value} {ls : Array Slot} {r : Int32}
/-- a method's contract out of the walk of its body -/
theorem mt_of (hy : plainName y.cls = true) (body : ∀ p e s m args below meth c, CallFix p m c cc maxL s args TB y.cls → meth.sig.returnType = ret → meth.locks = false → (y.name = "<init>" → meth.name = "<init>") → Pc args s →
    W p l e rm s m args below meth c s.heap [] 0 0 (MQ below Qc args s mc ms free) (entryFrame m args maxL)) : Met l y (Cond.code y cc maxL ret :: TB) rm Pc Qc mc ms free := by
  refine Met.ofW (cc := cc) (maxL := maxL) (ret := ret) hy rfl ?_
  intro p e s m args below meth c s₁ B hml hv
  have hts := atoms_spec (ws := Cond.code y cc maxL ret :: TB) B.pre
  exact body p e s m args below meth c ⟨B.exec, B.bytes, hml, findClass_of_methodNamed B.named, fun w h => hts w (List.mem_cons_of_mem _ h)⟩ B.returns B.notSynchronized (fun h => (name_of_methodNamed B.named B.method).1.trans h) hv
theorem cb_of (ht : ∀ w ∈ TB, w.before args s = true) (hc : Cond.code y bytes maxL ret ∈ TB) (hi : Cond.initialized y.cls ∈ TB) (hl : Cond.methodLink own index y ∈ TB) (hd : okName y n) (hR : rm.frames + 1 ≤ R.frames ∧ 8 + (maxL + 11) + rm.locals ≤ R.locals) :
    CallB R s args own index y bytes maxL ret (Cond.code y bytes maxL ret :: TB) rm rm.cells rm.slots n :=
  callB_of n ht (good_TB hc) rfl rfl rfl (ht _ hi) (ht _ hl) hd hR
/-- a call of a static method that only reads -/
theorem ro_S (S : CallFix p m c cc nL s args TB own) (hM : Met l y (Cond.code y bytes maxL ret :: TB) rm Pc (QcRead r) 0 0 (fun _ => False)) (hc : Cond.code y bytes maxL ret ∈ TB) (hi : Cond.initialized y.cls ∈ TB) (hs : Cond.static y ∈ TB) (hd : okName y n) (hrc : rm.cells = 0 ∧ rm.slots = 0)
    (hl : Cond.methodLink own index y ∈ TB) (hR : rm.frames + 1 ≤ R.frames ∧ 8 + (maxL + 11) + rm.locals ≤ R.locals) (hp : PreS s H Pc As) (hn : As.length = n) (hst : st = As.reverse ++ rest) (hsize : ls.size = nL) (hW : (rest.map fun v => v.category).sum ≤ 8) (hf : cells ≤ R.cells ∧ slots ≤ R.slots) (hdg : decode cc pc = .ok (.invokestatic index, 3))
    (kk : W p l e R s m args below meth c H locs cells slots Q (F0 m (pc + 3) ls (.int r :: rest))) : W p l e R s m args below meth c H locs cells slots Q (F0 m pc ls st) := by
  have cw := cb_of (R := R) (rm := rm) S.2.2.2.2 hc hi hl hd hR
  rw [hrc.1, hrc.2] at cw
  exact W.callR (W.runS (As := As) (rest := rest) S hM ⟨cw, S.2.2.2.2 _ hs⟩ hp rfl hn hsize hst (lv_room hW) hdg ⟨hf.1, hf.2⟩) kk
/-- a call of an instance method that only reads -/
theorem ro_V (S : CallFix p m c cc nL s args TB own) (hM : Met l y (Cond.code y bytes maxL ret :: TB) rm Pc (QcRead r) 0 0 (fun _ => False)) (hc : Cond.code y bytes maxL ret ∈ TB) (hi : Cond.initialized y.cls ∈ TB) (hs : Cond.instanceMethod y ∈ TB) (hse : Cond.selects C y y ∈ TB) (hd : okName y n) (hrc : rm.cells = 0 ∧ rm.slots = 0)
    (hl : Cond.methodLink own index y ∈ TB) (hR : rm.frames + 1 ≤ R.frames ∧ 8 + (maxL + 11) + rm.locals ≤ R.locals) (hp : PreV s H C b Pc As) (hn : As.length = n) (hst : st = As.reverse ++ .ref b :: rest) (hsize : ls.size = nL) (hW : (rest.map fun v => v.category).sum ≤ 8) (hf : cells ≤ R.cells ∧ slots ≤ R.slots) (hdg : decode cc pc = .ok (.invokevirtual index, 3))
    (kk : W p l e R s m args below meth c H locs cells slots Q (F0 m (pc + 3) ls (.int r :: rest))) : W p l e R s m args below meth c H locs cells slots Q (F0 m pc ls st) := by
  have cw := cb_of (R := R) (rm := rm) S.2.2.2.2 hc hi hl hd hR
  rw [hrc.1, hrc.2] at cw
  exact W.callR (W.runV (As := As) (rest := rest) S hM ⟨cw, S.2.2.2.2 _ hs, S.2.2.2.2 _ hse⟩ hp rfl hn hsize hst (lv_room hW) hdg ⟨hf.1, hf.2⟩) kk
/-- the end of a method that only reads -/
theorem ro_ret {v : Int32} (S : CallFix p m c cc nL s args TB own) (hr : meth.sig.returnType = some .int) (hk : meth.locks = false) (hv : v = r) (hdg : decode cc pc = .ok (.ireturn, 1)) : W p l e R s m args below meth c s.heap [] 0 0 (MQ below (QcRead r) args s 0 0 (fun _ => False)) (F0 m pc ls [.int v]) :=
  W.iret S.1 S.2.1 hr (fun t ht _ => ⟨by rw [hv], ht⟩) (fun q h => by cases h) hdg hk
theorem ro_retZ {v : Int32} (S : CallFix p m c cc nL s args TB own) (hr : meth.sig.returnType = some .boolean) (hk : meth.locks = false) (hn : narrow .boolean (.int v) = .int v) (hv : v = r) (hdg : decode cc pc = .ok (.ireturn, 1)) : W p l e R s m args below meth c s.heap [] 0 0 (MQ below (QcRead r) args s 0 0 (fun _ => False)) (F0 m pc ls [.int v]) :=
  W.zret S.1 S.2.1 hr hn (fun t ht _ => ⟨by rw [hv], ht⟩) (fun q h => by cases h) hdg hk
theorem ro_retB {v : Int32} {ty : FieldType} (S : CallFix p m c cc nL s args TB own) (hr : meth.sig.returnType = some ty) (hk : meth.locks = false) (hn : narrow ty (.int v) = .int v) (hv : v = r) (hdg : decode cc pc = .ok (.ireturn, 1)) : W p l e R s m args below meth c s.heap [] 0 0 (MQ below (QcRead r) args s 0 0 (fun _ => False)) (F0 m pc ls [.int v]) :=
  W.zret S.1 S.2.1 hr hn (fun t ht _ => ⟨by rw [hv], ht⟩) (fun q h => by cases h) hdg hk
end Base
/-- pure arguments: a method that looks at no cell -/
abbrev pu (As : List Value) : Array Value → State → Prop := fun v _ => v = As.toArray
/-- what a method that reads a world is given -/
def rd (D : va_G) (tys : List (ClassId × FieldType)) (ws : va_W) (As : List Value) : Array Value → State → Prop := fun v U => v = As.toArray ∧ va_P D CL ws U.heap ∧ va_K D CL tys U
theorem rd_blind {D : va_G} {tys : List (ClassId × FieldType)} {ws : va_W} {As : List Value} : FrameBlind (rd D tys ws As) := fun a U g mk q => ⟨q.1, q.2.1, va_K.moved (u := U) (U := U.calling g mk a) (Vm.Alike.refl U.vm) q.2.2⟩
theorem rd_preV {D : va_G} {tys : List (ClassId × FieldType)} {ws : va_W} {As : List Value} {s : State} {H : Heap} {b q0 ci : Nat} {fs : List Value} {q : vw_C} (hP : va_P D CL ws H) (hK : va_K D CL tys s) (hc : CL[ci]? = some q) (he : ws[q0]? = some (b, .inr (ci, fs))) : PreV s H q.1 b (rd D tys ws (.ref b :: As)) As :=
  ⟨rd_blind, va_recv hK hP hc he, fun U hU hW => ⟨rfl, by rw [hU]; exact hP, va_K.moved hW.alike hK⟩⟩
end
section
/-! methods of numbers alone -/
def bI (b : Bool) : Int32 := if b then 1 else 0
theorem bI_t {b : Bool} (h : ¬ bI b = 0) : b = true := by cases b; exact absurd rfl h; rfl
theorem bI_f {b : Bool} (h : bI b = 0) : b = false := by cases b; rfl; exact absurd h (by decide)
theorem bI_n (b : Bool) : narrow .boolean (.int (bI b)) = .int (bI b) := by cases b <;> rfl
def sIn (c lo hi : Int32) : Bool := decide (lo ≤ c) && decide (c ≤ hi)
set_option maxHeartbeats 4000000 in
set_option maxRecDepth 100000 in
theorem cM_isIn (l : Launch) (c lo hi : Int32) : Met l yM_isIn (Cond.code yM_isIn prog_3_method_3_code 3 (some .boolean) :: TB) { frames := 0, cells := 0, slots := 0, locals := 0 } (pu [.int c, .int lo, .int hi]) (QcRead (bI (sIn c lo hi))) 0 0 (fun _ => False) := by
  refine mt_of (by decide) ?_
  intro p e s m args below meth cd S hr hk hin hv
  subst hv
  have hx := S.1
  have hb := S.2.1
  have hown := S.2.2.2.1
  have hts := S.2.2.2.2
  have hl := lv_entry ([.int c, .int lo, .int hi]) (n := 3) (Nat.le_of_ble_eq_true rfl)
  rw [lg_entry_eq]
  generalize (lg_sl ([.int c, .int lo, .int hi]) ++ List.replicate (3 - (lg_sl ([.int c, .int lo, .int hi])).length) Slot.unset).toArray = ls at hl ⊢
  have hl : lv_has ls 3 [(0, .int c), (1, .int lo), (2, .int hi)] := hl
  refine lv_iload_n hx hb dM_isIn_0 rfl (lv_at hl 0 rfl) ?_
  refine lv_iload_n hx hb dM_isIn_1 rfl (lv_at hl 1 rfl) ?_
  refine lv_icmp_lt (tgt := 14) hx hb dM_isIn_2 (by decide) (fun c1 => ?_) (fun c1 => ?_)
  · skip
    replace c1 := Int32.not_le.mpr c1
    refine lv_iconst (v := 0) hx hb dM_isIn_14 (by decide) ?_
    exact ro_retZ S hr hk (by rfl) (by simp [sIn, bI, c1]) dM_isIn_15
  · skip
    replace c1 := Int32.not_lt.mp c1
    refine lv_iload_n hx hb dM_isIn_5 rfl (lv_at hl 0 rfl) ?_
    refine lv_iload_n hx hb dM_isIn_6 rfl (lv_at hl 2 rfl) ?_
    refine lv_icmp_gt (tgt := 14) hx hb dM_isIn_7 (by decide) (fun c2 => ?_) (fun c2 => ?_)
    · skip
      replace c2 := Int32.not_le.mpr c2
      refine lv_iconst (v := 0) hx hb dM_isIn_14 (by decide) ?_
      exact ro_retZ S hr hk (by rfl) (by simp [sIn, bI, c1, c2]) dM_isIn_15
    · skip
      replace c2 := Int32.not_lt.mp c2
      refine lv_iconst (v := 1) hx hb dM_isIn_10 (by decide) ?_
      refine lv_goto (tgt := 15) hx hb dM_isIn_11 (by decide) ?_
      exact ro_retZ S hr hk (by rfl) (by simp [sIn, bI, c1, c2]) dM_isIn_15
def s16 (w : Int32) : Bool := decide (w = 1) || decide (w = 2)
set_option maxHeartbeats 4000000 in
set_option maxRecDepth 100000 in
theorem cS_isSixteenBits (l : Launch) (w : Int32) : Met l yS_isSixteenBits (Cond.code yS_isSixteenBits prog_1_method_30_code 1 (some .boolean) :: TB) { frames := 0, cells := 0, slots := 0, locals := 0 } (pu [.int w]) (QcRead (bI (s16 w))) 0 0 (fun _ => False) := by
  refine mt_of (by decide) ?_
  intro p e s m args below meth cd S hr hk hin hv
  subst hv
  have hx := S.1
  have hb := S.2.1
  have hown := S.2.2.2.1
  have hts := S.2.2.2.2
  have hl := lv_entry ([.int w]) (n := 1) (Nat.le_of_ble_eq_true rfl)
  rw [lg_entry_eq]
  generalize (lg_sl ([.int w]) ++ List.replicate (1 - (lg_sl ([.int w])).length) Slot.unset).toArray = ls at hl ⊢
  have hl : lv_has ls 1 [(0, .int w)] := hl
  refine lv_iload_n hx hb dS_isSixteenBits_0 rfl (lv_at hl 0 rfl) ?_
  refine lv_iconst (v := 1) hx hb dS_isSixteenBits_1 (by decide) ?_
  refine lv_icmp_eq (tgt := 10) hx hb dS_isSixteenBits_2 (by decide) (fun c1 => ?_) (fun c1 => ?_)
  · skip
    refine lv_iconst (v := 1) hx hb dS_isSixteenBits_10 (by decide) ?_
    refine lv_goto (tgt := 15) hx hb dS_isSixteenBits_11 (by decide) ?_
    exact ro_retZ S hr hk (by rfl) (by simp [s16, bI, c1]) dS_isSixteenBits_15
  · skip
    refine lv_iload_n hx hb dS_isSixteenBits_5 rfl (lv_at hl 0 rfl) ?_
    refine lv_iconst (v := 2) hx hb dS_isSixteenBits_6 (by decide) ?_
    refine lv_icmp_ne (tgt := 14) hx hb dS_isSixteenBits_7 (by decide) (fun c2 => ?_) (fun c2 => ?_)
    · skip
      refine lv_iconst (v := 0) hx hb dS_isSixteenBits_14 (by decide) ?_
      exact ro_retZ S hr hk (by rfl) (by simp [s16, bI, c1, c2]) dS_isSixteenBits_15
    · skip
      refine lv_iconst (v := 1) hx hb dS_isSixteenBits_10 (by decide) ?_
      refine lv_goto (tgt := 15) hx hb dS_isSixteenBits_11 (by decide) ?_
      exact ro_retZ S hr hk (by rfl) (by simp [s16, bI, c1, c2]) dS_isSixteenBits_15
def sBehind (a : Int32) : Int32 := if a &&& 224 = 192 then 1 else if a &&& 240 = 224 then 2 else if a &&& 248 = 240 then 3 else 0
set_option maxHeartbeats 4000000 in
set_option maxRecDepth 100000 in
theorem cS_bytesBehind (l : Launch) (a : Int32) : Met l yS_bytesBehind (Cond.code yS_bytesBehind prog_1_method_22_code 1 (some .int) :: TB) { frames := 0, cells := 0, slots := 0, locals := 0 } (pu [.int a]) (QcRead (sBehind a)) 0 0 (fun _ => False) := by
  refine mt_of (by decide) ?_
  intro p e s m args below meth cd S hr hk hin hv
  subst hv
  have hx := S.1
  have hb := S.2.1
  have hown := S.2.2.2.1
  have hts := S.2.2.2.2
  have hl := lv_entry ([.int a]) (n := 1) (Nat.le_of_ble_eq_true rfl)
  rw [lg_entry_eq]
  generalize (lg_sl ([.int a]) ++ List.replicate (1 - (lg_sl ([.int a])).length) Slot.unset).toArray = ls at hl ⊢
  have hl : lv_has ls 1 [(0, .int a)] := hl
  refine lv_iload_n hx hb dS_bytesBehind_0 rfl (lv_at hl 0 rfl) ?_
  refine lv_sipush (v := 224) hx hb dS_bytesBehind_1 (by decide) ?_
  refine lv_iand hx hb dS_bytesBehind_4 ?_
  refine lv_sipush (v := 192) hx hb dS_bytesBehind_5 (by decide) ?_
  refine lv_icmp_ne (tgt := 13) hx hb dS_bytesBehind_8 (by decide) (fun c1 => ?_) (fun c1 => ?_)
  · skip
    refine lv_iload_n hx hb dS_bytesBehind_13 rfl (lv_at hl 0 rfl) ?_
    refine lv_sipush (v := 240) hx hb dS_bytesBehind_14 (by decide) ?_
    refine lv_iand hx hb dS_bytesBehind_17 ?_
    refine lv_sipush (v := 224) hx hb dS_bytesBehind_18 (by decide) ?_
    refine lv_icmp_ne (tgt := 26) hx hb dS_bytesBehind_21 (by decide) (fun c2 => ?_) (fun c2 => ?_)
    · skip
      refine lv_iload_n hx hb dS_bytesBehind_26 rfl (lv_at hl 0 rfl) ?_
      refine lv_sipush (v := 248) hx hb dS_bytesBehind_27 (by decide) ?_
      refine lv_iand hx hb dS_bytesBehind_30 ?_
      refine lv_sipush (v := 240) hx hb dS_bytesBehind_31 (by decide) ?_
      refine lv_icmp_ne (tgt := 41) hx hb dS_bytesBehind_34 (by decide) (fun c3 => ?_) (fun c3 => ?_)
      · skip
        refine lv_iconst (v := 0) hx hb dS_bytesBehind_41 (by decide) ?_
        exact ro_ret S hr hk (by simp [sBehind, c1, c2, c3]) dS_bytesBehind_42
      · skip
        refine lv_iconst (v := 3) hx hb dS_bytesBehind_37 (by decide) ?_
        refine lv_goto (tgt := 42) hx hb dS_bytesBehind_38 (by decide) ?_
        exact ro_ret S hr hk (by simp [sBehind, c1, c2, c3]) dS_bytesBehind_42
    · skip
      refine lv_iconst (v := 2) hx hb dS_bytesBehind_24 (by decide) ?_
      exact ro_ret S hr hk (by simp [sBehind, c1, c2]) dS_bytesBehind_25
  · skip
    refine lv_iconst (v := 1) hx hb dS_bytesBehind_11 (by decide) ?_
    exact ro_ret S hr hk (by simp [sBehind, c1]) dS_bytesBehind_12
def sSize8 (c : Int32) : Int32 := if 128 ≤ c then (if 2048 ≤ c then (if 65536 ≤ c then 4 else 3) else 2) else 1
set_option maxHeartbeats 4000000 in
set_option maxRecDepth 100000 in
theorem cS_sizeOf8Bits (l : Launch) (c : Int32) : Met l yS_sizeOf8Bits (Cond.code yS_sizeOf8Bits prog_1_method_28_code 1 (some .int) :: TB) { frames := 0, cells := 0, slots := 0, locals := 0 } (pu [.int c]) (QcRead (sSize8 c)) 0 0 (fun _ => False) := by
  refine mt_of (by decide) ?_
  intro p e s m args below meth cd S hr hk hin hv
  subst hv
  have hx := S.1
  have hb := S.2.1
  have hown := S.2.2.2.1
  have hts := S.2.2.2.2
  have hl := lv_entry ([.int c]) (n := 1) (Nat.le_of_ble_eq_true rfl)
  rw [lg_entry_eq]
  generalize (lg_sl ([.int c]) ++ List.replicate (1 - (lg_sl ([.int c])).length) Slot.unset).toArray = ls at hl ⊢
  have hl : lv_has ls 1 [(0, .int c)] := hl
  refine lv_iload_n hx hb dS_sizeOf8Bits_0 rfl (lv_at hl 0 rfl) ?_
  refine lv_sipush (v := 128) hx hb dS_sizeOf8Bits_1 (by decide) ?_
  refine lv_icmp_ge (tgt := 9) hx hb dS_sizeOf8Bits_4 (by decide) (fun c1 => ?_) (fun c1 => ?_)
  · skip
    refine lv_iload_n hx hb dS_sizeOf8Bits_9 rfl (lv_at hl 0 rfl) ?_
    refine lv_sipush (v := 2048) hx hb dS_sizeOf8Bits_10 (by decide) ?_
    refine lv_icmp_ge (tgt := 18) hx hb dS_sizeOf8Bits_13 (by decide) (fun c2 => ?_) (fun c2 => ?_)
    · skip
      refine lv_iload_n hx hb dS_sizeOf8Bits_18 rfl (lv_at hl 0 rfl) ?_
      refine lv_ldc (v := 65536) hx hb hown (hts _ k79) dS_sizeOf8Bits_19 ?_
      refine lv_icmp_ge (tgt := 28) hx hb dS_sizeOf8Bits_21 (by decide) (fun c3 => ?_) (fun c3 => ?_)
      · skip
        refine lv_iconst (v := 4) hx hb dS_sizeOf8Bits_28 (by decide) ?_
        exact ro_ret S hr hk (by simp [sSize8, c1, c2, c3]) dS_sizeOf8Bits_29
      · skip
        refine lv_iconst (v := 3) hx hb dS_sizeOf8Bits_24 (by decide) ?_
        refine lv_goto (tgt := 29) hx hb dS_sizeOf8Bits_25 (by decide) ?_
        exact ro_ret S hr hk (by simp [sSize8, c1, c2, c3]) dS_sizeOf8Bits_29
    · skip
      refine lv_iconst (v := 2) hx hb dS_sizeOf8Bits_16 (by decide) ?_
      exact ro_ret S hr hk (by simp [sSize8, c1, c2]) dS_sizeOf8Bits_17
  · skip
    refine lv_iconst (v := 1) hx hb dS_sizeOf8Bits_7 (by decide) ?_
    exact ro_ret S hr hk (by simp [sSize8, c1]) dS_sizeOf8Bits_8
set_option maxHeartbeats 4000000 in
set_option maxRecDepth 100000 in
theorem cM_bytesOf (l : Launch) (c : Int32) : Met l yM_bytesOf (Cond.code yM_bytesOf prog_3_method_12_code 1 (some .int) :: TB) { frames := 0, cells := 0, slots := 0, locals := 0 } (pu [.int c]) (QcRead (sSize8 c)) 0 0 (fun _ => False) := by
  refine mt_of (by decide) ?_
  intro p e s m args below meth cd S hr hk hin hv
  subst hv
  have hx := S.1
  have hb := S.2.1
  have hown := S.2.2.2.1
  have hts := S.2.2.2.2
  have hl := lv_entry ([.int c]) (n := 1) (Nat.le_of_ble_eq_true rfl)
  rw [lg_entry_eq]
  generalize (lg_sl ([.int c]) ++ List.replicate (1 - (lg_sl ([.int c])).length) Slot.unset).toArray = ls at hl ⊢
  have hl : lv_has ls 1 [(0, .int c)] := hl
  refine lv_iload_n hx hb dM_bytesOf_0 rfl (lv_at hl 0 rfl) ?_
  refine lv_sipush (v := 128) hx hb dM_bytesOf_1 (by decide) ?_
  refine lv_icmp_ge (tgt := 11) hx hb dM_bytesOf_4 (by decide) (fun c1 => ?_) (fun c1 => ?_)
  · skip
    refine lv_iload_n hx hb dM_bytesOf_11 rfl (lv_at hl 0 rfl) ?_
    refine lv_sipush (v := 2048) hx hb dM_bytesOf_12 (by decide) ?_
    refine lv_icmp_ge (tgt := 22) hx hb dM_bytesOf_15 (by decide) (fun c2 => ?_) (fun c2 => ?_)
    · skip
      refine lv_iload_n hx hb dM_bytesOf_22 rfl (lv_at hl 0 rfl) ?_
      refine lv_ldc (v := 65536) hx hb hown (hts _ k466) dM_bytesOf_23 ?_
      refine lv_icmp_ge (tgt := 32) hx hb dM_bytesOf_25 (by decide) (fun c3 => ?_) (fun c3 => ?_)
      · skip
        refine lv_iconst (v := 4) hx hb dM_bytesOf_32 (by decide) ?_
        exact ro_ret S hr hk (by simp [sSize8, c1, c2, c3]) dM_bytesOf_33
      · skip
        refine lv_iconst (v := 3) hx hb dM_bytesOf_28 (by decide) ?_
        refine lv_goto (tgt := 33) hx hb dM_bytesOf_29 (by decide) ?_
        exact ro_ret S hr hk (by simp [sSize8, c1, c2, c3]) dM_bytesOf_33
    · skip
      refine lv_iconst (v := 2) hx hb dM_bytesOf_18 (by decide) ?_
      refine lv_goto (tgt := 33) hx hb dM_bytesOf_19 (by decide) ?_
      exact ro_ret S hr hk (by simp [sSize8, c1, c2]) dM_bytesOf_33
  · skip
    refine lv_iconst (v := 1) hx hb dM_bytesOf_7 (by decide) ?_
    refine lv_goto (tgt := 33) hx hb dM_bytesOf_8 (by decide) ?_
    exact ro_ret S hr hk (by simp [sSize8, c1]) dM_bytesOf_33
def sSize16 (c : Int32) : Int32 := if 65536 ≤ c then 4 else 2
set_option maxHeartbeats 4000000 in
set_option maxRecDepth 100000 in
theorem cS_sizeOf16Bits (l : Launch) (c : Int32) : Met l yS_sizeOf16Bits (Cond.code yS_sizeOf16Bits prog_1_method_29_code 1 (some .int) :: TB) { frames := 0, cells := 0, slots := 0, locals := 0 } (pu [.int c]) (QcRead (sSize16 c)) 0 0 (fun _ => False) := by
  refine mt_of (by decide) ?_
  intro p e s m args below meth cd S hr hk hin hv
  subst hv
  have hx := S.1
  have hb := S.2.1
  have hown := S.2.2.2.1
  have hts := S.2.2.2.2
  have hl := lv_entry ([.int c]) (n := 1) (Nat.le_of_ble_eq_true rfl)
  rw [lg_entry_eq]
  generalize (lg_sl ([.int c]) ++ List.replicate (1 - (lg_sl ([.int c])).length) Slot.unset).toArray = ls at hl ⊢
  have hl : lv_has ls 1 [(0, .int c)] := hl
  refine lv_iload_n hx hb dS_sizeOf16Bits_0 rfl (lv_at hl 0 rfl) ?_
  refine lv_ldc (v := 65536) hx hb hown (hts _ k79) dS_sizeOf16Bits_1 ?_
  refine lv_icmp_ge (tgt := 10) hx hb dS_sizeOf16Bits_3 (by decide) (fun c1 => ?_) (fun c1 => ?_)
  · skip
    refine lv_iconst (v := 4) hx hb dS_sizeOf16Bits_10 (by decide) ?_
    exact ro_ret S hr hk (by simp [sSize16, c1]) dS_sizeOf16Bits_11
  · skip
    refine lv_iconst (v := 2) hx hb dS_sizeOf16Bits_6 (by decide) ?_
    refine lv_goto (tgt := 11) hx hb dS_sizeOf16Bits_7 (by decide) ?_
    exact ro_ret S hr hk (by simp [sSize16, c1]) dS_sizeOf16Bits_11
def sSize (c w : Int32) : Int32 := if s16 w = true then sSize16 c else sSize8 c
set_option maxHeartbeats 4000000 in
set_option maxRecDepth 100000 in
theorem cS_sizeOf (l : Launch) (c w : Int32) : Met l yS_sizeOf (Cond.code yS_sizeOf prog_1_method_27_code 2 (some .int) :: TB) { frames := 1, cells := 0, slots := 0, locals := 20 } (pu [.int c, .int w]) (QcRead (sSize c w)) 0 0 (fun _ => False) := by
  refine mt_of (by decide) ?_
  intro p e s m args below meth cd S hr hk hin hv
  subst hv
  have hx := S.1
  have hb := S.2.1
  have hown := S.2.2.2.1
  have hts := S.2.2.2.2
  have hl := lv_entry ([.int c, .int w]) (n := 2) (Nat.le_of_ble_eq_true rfl)
  rw [lg_entry_eq]
  generalize (lg_sl ([.int c, .int w]) ++ List.replicate (2 - (lg_sl ([.int c, .int w])).length) Slot.unset).toArray = ls at hl ⊢
  have hl : lv_has ls 2 [(0, .int c), (1, .int w)] := hl
  refine lv_iload_n hx hb dS_sizeOf_0 rfl (lv_at hl 1 rfl) ?_
  refine ro_S (As := [.int w]) (rest := []) (n := 1) S (cS_isSixteenBits l (w)) k65 k1 k64 (by decide +kernel) ⟨rfl, rfl⟩ k63 (by decide) preEq rfl rfl hl.1 (Nat.le_of_ble_eq_true rfl) ⟨Nat.le_refl _, Nat.le_refl _⟩ dS_sizeOf_1 ?_
  refine lv_if_eq (tgt := 14) hx hb dS_sizeOf_4 (by decide) (fun c1 => ?_) (fun c1 => ?_)
  · skip
    replace c1 := bI_f c1
    refine lv_iload_n hx hb dS_sizeOf_14 rfl (lv_at hl 0 rfl) ?_
    refine ro_S (As := [.int c]) (rest := []) (n := 1) S (cS_sizeOf8Bits l (c)) k89 k1 k88 (by decide +kernel) ⟨rfl, rfl⟩ k87 (by decide) preEq rfl rfl hl.1 (Nat.le_of_ble_eq_true rfl) ⟨Nat.le_refl _, Nat.le_refl _⟩ dS_sizeOf_15 ?_
    exact ro_ret S hr hk (by simp [sSize, c1]) dS_sizeOf_18
  · skip
    replace c1 := bI_t c1
    refine lv_iload_n hx hb dS_sizeOf_7 rfl (lv_at hl 0 rfl) ?_
    refine ro_S (As := [.int c]) (rest := []) (n := 1) S (cS_sizeOf16Bits l (c)) k103 k1 k102 (by decide +kernel) ⟨rfl, rfl⟩ k101 (by decide) preEq rfl rfl hl.1 (Nat.le_of_ble_eq_true rfl) ⟨Nat.le_refl _, Nat.le_refl _⟩ dS_sizeOf_8 ?_
    refine lv_goto (tgt := 18) hx hb dS_sizeOf_11 (by decide) ?_
    exact ro_ret S hr hk (by simp [sSize, c1]) dS_sizeOf_18
def sMark (w : Int32) : Int32 := if w = 0 then 0 else sSize 65279 w
set_option maxHeartbeats 4000000 in
set_option maxRecDepth 100000 in
theorem cS_sizeOfMark (l : Launch) (w : Int32) : Met l yS_sizeOfMark (Cond.code yS_sizeOfMark prog_1_method_26_code 1 (some .int) :: TB) { frames := 2, cells := 0, slots := 0, locals := 41 } (pu [.int w]) (QcRead (sMark w)) 0 0 (fun _ => False) := by
  refine mt_of (by decide) ?_
  intro p e s m args below meth cd S hr hk hin hv
  subst hv
  have hx := S.1
  have hb := S.2.1
  have hown := S.2.2.2.1
  have hts := S.2.2.2.2
  have hl := lv_entry ([.int w]) (n := 1) (Nat.le_of_ble_eq_true rfl)
  rw [lg_entry_eq]
  generalize (lg_sl ([.int w]) ++ List.replicate (1 - (lg_sl ([.int w])).length) Slot.unset).toArray = ls at hl ⊢
  have hl : lv_has ls 1 [(0, .int w)] := hl
  refine lv_iload_n hx hb dS_sizeOfMark_0 rfl (lv_at hl 0 rfl) ?_
  refine lv_if_ne (tgt := 8) hx hb dS_sizeOfMark_1 (by decide) (fun c1 => ?_) (fun c1 => ?_)
  · skip
    refine lv_ldc (v := 65279) hx hb hown (hts _ k90) dS_sizeOfMark_8 ?_
    refine lv_iload_n hx hb dS_sizeOfMark_10 rfl (lv_at hl 0 rfl) ?_
    refine ro_S (As := [.int 65279, .int w]) (rest := []) (n := 2) S (cS_sizeOf l (65279) (w)) k100 k1 k99 (by decide +kernel) ⟨rfl, rfl⟩ k98 (by decide) preEq rfl rfl hl.1 (Nat.le_of_ble_eq_true rfl) ⟨Nat.le_refl _, Nat.le_refl _⟩ dS_sizeOfMark_11 ?_
    exact ro_ret S hr hk (by simp [sMark, c1]) dS_sizeOfMark_14
  · skip
    refine lv_iconst (v := 0) hx hb dS_sizeOfMark_4 (by decide) ?_
    refine lv_goto (tgt := 14) hx hb dS_sizeOfMark_5 (by decide) ?_
    exact ro_ret S hr hk (by simp [sMark, c1]) dS_sizeOfMark_14
def sSpace (c : Int32) : Bool := decide (c = 32) || decide (c = 9) || decide (c = 13) || decide (c = 10)
set_option maxHeartbeats 4000000 in
set_option maxRecDepth 100000 in
theorem cS_isSpace (l : Launch) (c : Int32) : Met l yS_isSpace (Cond.code yS_isSpace prog_1_method_39_code 1 (some .boolean) :: TB) { frames := 0, cells := 0, slots := 0, locals := 0 } (pu [.int c]) (QcRead (bI (sSpace c))) 0 0 (fun _ => False) := by
  refine mt_of (by decide) ?_
  intro p e s m args below meth cd S hr hk hin hv
  subst hv
  have hx := S.1
  have hb := S.2.1
  have hown := S.2.2.2.1
  have hts := S.2.2.2.2
  have hl := lv_entry ([.int c]) (n := 1) (Nat.le_of_ble_eq_true rfl)
  rw [lg_entry_eq]
  generalize (lg_sl ([.int c]) ++ List.replicate (1 - (lg_sl ([.int c])).length) Slot.unset).toArray = ls at hl ⊢
  have hl : lv_has ls 1 [(0, .int c)] := hl
  refine lv_iload_n hx hb dS_isSpace_0 rfl (lv_at hl 0 rfl) ?_
  refine lv_bipush (v := 32) hx hb dS_isSpace_1 (by decide) ?_
  refine lv_icmp_eq (tgt := 24) hx hb dS_isSpace_3 (by decide) (fun c1 => ?_) (fun c1 => ?_)
  · skip
    refine lv_iconst (v := 1) hx hb dS_isSpace_24 (by decide) ?_
    refine lv_goto (tgt := 29) hx hb dS_isSpace_25 (by decide) ?_
    exact ro_retZ S hr hk (by rfl) (by simp [sSpace, bI, c1]) dS_isSpace_29
  · skip
    refine lv_iload_n hx hb dS_isSpace_6 rfl (lv_at hl 0 rfl) ?_
    refine lv_bipush (v := 9) hx hb dS_isSpace_7 (by decide) ?_
    refine lv_icmp_eq (tgt := 24) hx hb dS_isSpace_9 (by decide) (fun c2 => ?_) (fun c2 => ?_)
    · skip
      refine lv_iconst (v := 1) hx hb dS_isSpace_24 (by decide) ?_
      refine lv_goto (tgt := 29) hx hb dS_isSpace_25 (by decide) ?_
      exact ro_retZ S hr hk (by rfl) (by simp [sSpace, bI, c1, c2]) dS_isSpace_29
    · skip
      refine lv_iload_n hx hb dS_isSpace_12 rfl (lv_at hl 0 rfl) ?_
      refine lv_bipush (v := 13) hx hb dS_isSpace_13 (by decide) ?_
      refine lv_icmp_eq (tgt := 24) hx hb dS_isSpace_15 (by decide) (fun c3 => ?_) (fun c3 => ?_)
      · skip
        refine lv_iconst (v := 1) hx hb dS_isSpace_24 (by decide) ?_
        refine lv_goto (tgt := 29) hx hb dS_isSpace_25 (by decide) ?_
        exact ro_retZ S hr hk (by rfl) (by simp [sSpace, bI, c1, c2, c3]) dS_isSpace_29
      · skip
        refine lv_iload_n hx hb dS_isSpace_18 rfl (lv_at hl 0 rfl) ?_
        refine lv_bipush (v := 10) hx hb dS_isSpace_19 (by decide) ?_
        refine lv_icmp_ne (tgt := 28) hx hb dS_isSpace_21 (by decide) (fun c4 => ?_) (fun c4 => ?_)
        · skip
          refine lv_iconst (v := 0) hx hb dS_isSpace_28 (by decide) ?_
          exact ro_retZ S hr hk (by rfl) (by simp [sSpace, bI, c1, c2, c3, c4]) dS_isSpace_29
        · skip
          refine lv_iconst (v := 1) hx hb dS_isSpace_24 (by decide) ?_
          refine lv_goto (tgt := 29) hx hb dS_isSpace_25 (by decide) ?_
          exact ro_retZ S hr hk (by rfl) (by simp [sSpace, bI, c1, c2, c3, c4]) dS_isSpace_29
def sLetter (c : Int32) : Bool := sIn c 65 90 || sIn c 97 122
set_option maxHeartbeats 4000000 in
set_option maxRecDepth 100000 in
theorem cS_isLetter (l : Launch) (c : Int32) : Met l yS_isLetter (Cond.code yS_isLetter prog_1_method_40_code 1 (some .boolean) :: TB) { frames := 0, cells := 0, slots := 0, locals := 0 } (pu [.int c]) (QcRead (bI (sLetter c))) 0 0 (fun _ => False) := by
  refine mt_of (by decide) ?_
  intro p e s m args below meth cd S hr hk hin hv
  subst hv
  have hx := S.1
  have hb := S.2.1
  have hown := S.2.2.2.1
  have hts := S.2.2.2.2
  have hl := lv_entry ([.int c]) (n := 1) (Nat.le_of_ble_eq_true rfl)
  rw [lg_entry_eq]
  generalize (lg_sl ([.int c]) ++ List.replicate (1 - (lg_sl ([.int c])).length) Slot.unset).toArray = ls at hl ⊢
  have hl : lv_has ls 1 [(0, .int c)] := hl
  refine lv_iload_n hx hb dS_isLetter_0 rfl (lv_at hl 0 rfl) ?_
  refine lv_bipush (v := 65) hx hb dS_isLetter_1 (by decide) ?_
  refine lv_icmp_lt (tgt := 12) hx hb dS_isLetter_3 (by decide) (fun c1 => ?_) (fun c1 => ?_)
  · skip
    replace c1 := Int32.not_le.mpr c1
    refine lv_iload_n hx hb dS_isLetter_12 rfl (lv_at hl 0 rfl) ?_
    refine lv_bipush (v := 97) hx hb dS_isLetter_13 (by decide) ?_
    refine lv_icmp_lt (tgt := 28) hx hb dS_isLetter_15 (by decide) (fun c2 => ?_) (fun c2 => ?_)
    · skip
      replace c2 := Int32.not_le.mpr c2
      refine lv_iconst (v := 0) hx hb dS_isLetter_28 (by decide) ?_
      exact ro_retZ S hr hk (by rfl) (by simp [sLetter, sIn, bI, c1, c2]) dS_isLetter_29
    · skip
      replace c2 := Int32.not_lt.mp c2
      refine lv_iload_n hx hb dS_isLetter_18 rfl (lv_at hl 0 rfl) ?_
      refine lv_bipush (v := 122) hx hb dS_isLetter_19 (by decide) ?_
      refine lv_icmp_gt (tgt := 28) hx hb dS_isLetter_21 (by decide) (fun c3 => ?_) (fun c3 => ?_)
      · skip
        replace c3 := Int32.not_le.mpr c3
        refine lv_iconst (v := 0) hx hb dS_isLetter_28 (by decide) ?_
        exact ro_retZ S hr hk (by rfl) (by simp [sLetter, sIn, bI, c1, c2, c3]) dS_isLetter_29
      · skip
        replace c3 := Int32.not_lt.mp c3
        refine lv_iconst (v := 1) hx hb dS_isLetter_24 (by decide) ?_
        refine lv_goto (tgt := 29) hx hb dS_isLetter_25 (by decide) ?_
        exact ro_retZ S hr hk (by rfl) (by simp [sLetter, sIn, bI, c1, c2, c3]) dS_isLetter_29
  · skip
    replace c1 := Int32.not_lt.mp c1
    refine lv_iload_n hx hb dS_isLetter_6 rfl (lv_at hl 0 rfl) ?_
    refine lv_bipush (v := 90) hx hb dS_isLetter_7 (by decide) ?_
    refine lv_icmp_le (tgt := 24) hx hb dS_isLetter_9 (by decide) (fun c4 => ?_) (fun c4 => ?_)
    · skip
      refine lv_iconst (v := 1) hx hb dS_isLetter_24 (by decide) ?_
      refine lv_goto (tgt := 29) hx hb dS_isLetter_25 (by decide) ?_
      exact ro_retZ S hr hk (by rfl) (by simp [sLetter, sIn, bI, c1, c4]) dS_isLetter_29
    · skip
      refine lv_iload_n hx hb dS_isLetter_12 rfl (lv_at hl 0 rfl) ?_
      refine lv_bipush (v := 97) hx hb dS_isLetter_13 (by decide) ?_
      refine lv_icmp_lt (tgt := 28) hx hb dS_isLetter_15 (by decide) (fun c5 => ?_) (fun c5 => ?_)
      · skip
        replace c5 := Int32.not_le.mpr c5
        refine lv_iconst (v := 0) hx hb dS_isLetter_28 (by decide) ?_
        exact ro_retZ S hr hk (by rfl) (by simp [sLetter, sIn, bI, c1, c4, c5]) dS_isLetter_29
      · skip
        replace c5 := Int32.not_lt.mp c5
        refine lv_iload_n hx hb dS_isLetter_18 rfl (lv_at hl 0 rfl) ?_
        refine lv_bipush (v := 122) hx hb dS_isLetter_19 (by decide) ?_
        refine lv_icmp_gt (tgt := 28) hx hb dS_isLetter_21 (by decide) (fun c6 => ?_) (fun c6 => ?_)
        · skip
          replace c6 := Int32.not_le.mpr c6
          refine lv_iconst (v := 0) hx hb dS_isLetter_28 (by decide) ?_
          exact ro_retZ S hr hk (by rfl) (by simp [sLetter, sIn, bI, c1, c4, c5, c6]) dS_isLetter_29
        · skip
          replace c6 := Int32.not_lt.mp c6
          refine lv_iconst (v := 1) hx hb dS_isLetter_24 (by decide) ?_
          refine lv_goto (tgt := 29) hx hb dS_isLetter_25 (by decide) ?_
          exact ro_retZ S hr hk (by rfl) (by simp [sLetter, sIn, bI, c1, c4, c5, c6]) dS_isLetter_29
set_option maxHeartbeats 4000000 in
set_option maxRecDepth 100000 in
theorem cM_isLetter (l : Launch) (c : Int32) : Met l yM_isLetter (Cond.code yM_isLetter prog_3_method_19_code 1 (some .boolean) :: TB) { frames := 1, cells := 0, slots := 0, locals := 22 } (pu [.int c]) (QcRead (bI (sLetter c))) 0 0 (fun _ => False) := by
  refine mt_of (by decide) ?_
  intro p e s m args below meth cd S hr hk hin hv
  subst hv
  have hx := S.1
  have hb := S.2.1
  have hown := S.2.2.2.1
  have hts := S.2.2.2.2
  have hl := lv_entry ([.int c]) (n := 1) (Nat.le_of_ble_eq_true rfl)
  rw [lg_entry_eq]
  generalize (lg_sl ([.int c]) ++ List.replicate (1 - (lg_sl ([.int c])).length) Slot.unset).toArray = ls at hl ⊢
  have hl : lv_has ls 1 [(0, .int c)] := hl
  refine lv_iload_n hx hb dM_isLetter_0 rfl (lv_at hl 0 rfl) ?_
  refine lv_bipush (v := 65) hx hb dM_isLetter_1 (by decide) ?_
  refine lv_bipush (v := 90) hx hb dM_isLetter_3 (by decide) ?_
  refine ro_S (As := [.int c, .int 65, .int 90]) (rest := []) (n := 3) S (cM_isIn l (c) (65) (90)) k463 k2 k462 (by decide +kernel) ⟨rfl, rfl⟩ k461 (by decide) preEq rfl rfl hl.1 (Nat.le_of_ble_eq_true rfl) ⟨Nat.le_refl _, Nat.le_refl _⟩ dM_isLetter_5 ?_
  refine lv_if_ne (tgt := 22) hx hb dM_isLetter_8 (by decide) (fun c1 => ?_) (fun c1 => ?_)
  · skip
    replace c1 := bI_t c1
    refine lv_iconst (v := 1) hx hb dM_isLetter_22 (by decide) ?_
    refine lv_goto (tgt := 27) hx hb dM_isLetter_23 (by decide) ?_
    exact ro_retZ S hr hk (by rfl) (by simp [sLetter, bI, c1]) dM_isLetter_27
  · skip
    replace c1 := bI_f c1
    refine lv_iload_n hx hb dM_isLetter_11 rfl (lv_at hl 0 rfl) ?_
    refine lv_bipush (v := 97) hx hb dM_isLetter_12 (by decide) ?_
    refine lv_bipush (v := 122) hx hb dM_isLetter_14 (by decide) ?_
    refine ro_S (As := [.int c, .int 97, .int 122]) (rest := []) (n := 3) S (cM_isIn l (c) (97) (122)) k463 k2 k462 (by decide +kernel) ⟨rfl, rfl⟩ k461 (by decide) preEq rfl rfl hl.1 (Nat.le_of_ble_eq_true rfl) ⟨Nat.le_refl _, Nat.le_refl _⟩ dM_isLetter_16 ?_
    refine lv_if_eq (tgt := 26) hx hb dM_isLetter_19 (by decide) (fun c2 => ?_) (fun c2 => ?_)
    · skip
      replace c2 := bI_f c2
      refine lv_iconst (v := 0) hx hb dM_isLetter_26 (by decide) ?_
      exact ro_retZ S hr hk (by rfl) (by simp [sLetter, bI, c1, c2]) dM_isLetter_27
    · skip
      replace c2 := bI_t c2
      refine lv_iconst (v := 1) hx hb dM_isLetter_22 (by decide) ?_
      refine lv_goto (tgt := 27) hx hb dM_isLetter_23 (by decide) ?_
      exact ro_retZ S hr hk (by rfl) (by simp [sLetter, bI, c1, c2]) dM_isLetter_27
def sDigit (c : Int32) : Bool := sIn c 48 57
set_option maxHeartbeats 4000000 in
set_option maxRecDepth 100000 in
theorem cS_isDigit (l : Launch) (c : Int32) : Met l yS_isDigit (Cond.code yS_isDigit prog_1_method_41_code 1 (some .boolean) :: TB) { frames := 0, cells := 0, slots := 0, locals := 0 } (pu [.int c]) (QcRead (bI (sDigit c))) 0 0 (fun _ => False) := by
  refine mt_of (by decide) ?_
  intro p e s m args below meth cd S hr hk hin hv
  subst hv
  have hx := S.1
  have hb := S.2.1
  have hown := S.2.2.2.1
  have hts := S.2.2.2.2
  have hl := lv_entry ([.int c]) (n := 1) (Nat.le_of_ble_eq_true rfl)
  rw [lg_entry_eq]
  generalize (lg_sl ([.int c]) ++ List.replicate (1 - (lg_sl ([.int c])).length) Slot.unset).toArray = ls at hl ⊢
  have hl : lv_has ls 1 [(0, .int c)] := hl
  refine lv_iload_n hx hb dS_isDigit_0 rfl (lv_at hl 0 rfl) ?_
  refine lv_bipush (v := 48) hx hb dS_isDigit_1 (by decide) ?_
  refine lv_icmp_lt (tgt := 16) hx hb dS_isDigit_3 (by decide) (fun c1 => ?_) (fun c1 => ?_)
  · skip
    replace c1 := Int32.not_le.mpr c1
    refine lv_iconst (v := 0) hx hb dS_isDigit_16 (by decide) ?_
    exact ro_retZ S hr hk (by rfl) (by simp [sDigit, sIn, bI, c1]) dS_isDigit_17
  · skip
    replace c1 := Int32.not_lt.mp c1
    refine lv_iload_n hx hb dS_isDigit_6 rfl (lv_at hl 0 rfl) ?_
    refine lv_bipush (v := 57) hx hb dS_isDigit_7 (by decide) ?_
    refine lv_icmp_gt (tgt := 16) hx hb dS_isDigit_9 (by decide) (fun c2 => ?_) (fun c2 => ?_)
    · skip
      replace c2 := Int32.not_le.mpr c2
      refine lv_iconst (v := 0) hx hb dS_isDigit_16 (by decide) ?_
      exact ro_retZ S hr hk (by rfl) (by simp [sDigit, sIn, bI, c1, c2]) dS_isDigit_17
    · skip
      replace c2 := Int32.not_lt.mp c2
      refine lv_iconst (v := 1) hx hb dS_isDigit_12 (by decide) ?_
      refine lv_goto (tgt := 17) hx hb dS_isDigit_13 (by decide) ?_
      exact ro_retZ S hr hk (by rfl) (by simp [sDigit, sIn, bI, c1, c2]) dS_isDigit_17
def sChar (c : Int32) : Bool := decide (c = 9) || decide (c = 10) || decide (c = 13) || sIn c 32 55295 || sIn c 57344 65533 || sIn c 65536 1114111
set_option maxHeartbeats 4000000 in
set_option maxRecDepth 100000 in
theorem cM_isCharacter (l : Launch) (c : Int32) : Met l yM_isCharacter (Cond.code yM_isCharacter prog_3_method_4_code 1 (some .boolean) :: TB) { frames := 1, cells := 0, slots := 0, locals := 22 } (pu [.int c]) (QcRead (bI (sChar c))) 0 0 (fun _ => False) := by
  refine mt_of (by decide) ?_
  intro p e s m args below meth cd S hr hk hin hv
  subst hv
  have hx := S.1
  have hb := S.2.1
  have hown := S.2.2.2.1
  have hts := S.2.2.2.2
  have hl := lv_entry ([.int c]) (n := 1) (Nat.le_of_ble_eq_true rfl)
  rw [lg_entry_eq]
  generalize (lg_sl ([.int c]) ++ List.replicate (1 - (lg_sl ([.int c])).length) Slot.unset).toArray = ls at hl ⊢
  have hl : lv_has ls 1 [(0, .int c)] := hl
  refine lv_iload_n hx hb dM_isCharacter_0 rfl (lv_at hl 0 rfl) ?_
  refine lv_bipush (v := 9) hx hb dM_isCharacter_1 (by decide) ?_
  refine lv_icmp_eq (tgt := 51) hx hb dM_isCharacter_3 (by decide) (fun c1 => ?_) (fun c1 => ?_)
  · skip
    refine lv_iconst (v := 1) hx hb dM_isCharacter_51 (by decide) ?_
    refine lv_goto (tgt := 56) hx hb dM_isCharacter_52 (by decide) ?_
    exact ro_retZ S hr hk (by rfl) (by simp [sChar, bI, c1]) dM_isCharacter_56
  · skip
    refine lv_iload_n hx hb dM_isCharacter_6 rfl (lv_at hl 0 rfl) ?_
    refine lv_bipush (v := 10) hx hb dM_isCharacter_7 (by decide) ?_
    refine lv_icmp_eq (tgt := 51) hx hb dM_isCharacter_9 (by decide) (fun c2 => ?_) (fun c2 => ?_)
    · skip
      refine lv_iconst (v := 1) hx hb dM_isCharacter_51 (by decide) ?_
      refine lv_goto (tgt := 56) hx hb dM_isCharacter_52 (by decide) ?_
      exact ro_retZ S hr hk (by rfl) (by simp [sChar, bI, c1, c2]) dM_isCharacter_56
    · skip
      refine lv_iload_n hx hb dM_isCharacter_12 rfl (lv_at hl 0 rfl) ?_
      refine lv_bipush (v := 13) hx hb dM_isCharacter_13 (by decide) ?_
      refine lv_icmp_eq (tgt := 51) hx hb dM_isCharacter_15 (by decide) (fun c3 => ?_) (fun c3 => ?_)
      · skip
        refine lv_iconst (v := 1) hx hb dM_isCharacter_51 (by decide) ?_
        refine lv_goto (tgt := 56) hx hb dM_isCharacter_52 (by decide) ?_
        exact ro_retZ S hr hk (by rfl) (by simp [sChar, bI, c1, c2, c3]) dM_isCharacter_56
      · skip
        refine lv_iload_n hx hb dM_isCharacter_18 rfl (lv_at hl 0 rfl) ?_
        refine lv_bipush (v := 32) hx hb dM_isCharacter_19 (by decide) ?_
        refine lv_ldc (v := 55295) hx hb hown (hts _ k477) dM_isCharacter_21 ?_
        refine ro_S (As := [.int c, .int 32, .int 55295]) (rest := []) (n := 3) S (cM_isIn l (c) (32) (55295)) k463 k2 k462 (by decide +kernel) ⟨rfl, rfl⟩ k461 (by decide) preEq rfl rfl hl.1 (Nat.le_of_ble_eq_true rfl) ⟨Nat.le_refl _, Nat.le_refl _⟩ dM_isCharacter_23 ?_
        refine lv_if_ne (tgt := 51) hx hb dM_isCharacter_26 (by decide) (fun c4 => ?_) (fun c4 => ?_)
        · skip
          replace c4 := bI_t c4
          refine lv_iconst (v := 1) hx hb dM_isCharacter_51 (by decide) ?_
          refine lv_goto (tgt := 56) hx hb dM_isCharacter_52 (by decide) ?_
          exact ro_retZ S hr hk (by rfl) (by simp [sChar, bI, c1, c2, c3, c4]) dM_isCharacter_56
        · skip
          replace c4 := bI_f c4
          refine lv_iload_n hx hb dM_isCharacter_29 rfl (lv_at hl 0 rfl) ?_
          refine lv_ldc (v := 57344) hx hb hown (hts _ k478) dM_isCharacter_30 ?_
          refine lv_ldc (v := 65533) hx hb hown (hts _ k479) dM_isCharacter_32 ?_
          refine ro_S (As := [.int c, .int 57344, .int 65533]) (rest := []) (n := 3) S (cM_isIn l (c) (57344) (65533)) k463 k2 k462 (by decide +kernel) ⟨rfl, rfl⟩ k461 (by decide) preEq rfl rfl hl.1 (Nat.le_of_ble_eq_true rfl) ⟨Nat.le_refl _, Nat.le_refl _⟩ dM_isCharacter_34 ?_
          refine lv_if_ne (tgt := 51) hx hb dM_isCharacter_37 (by decide) (fun c5 => ?_) (fun c5 => ?_)
          · skip
            replace c5 := bI_t c5
            refine lv_iconst (v := 1) hx hb dM_isCharacter_51 (by decide) ?_
            refine lv_goto (tgt := 56) hx hb dM_isCharacter_52 (by decide) ?_
            exact ro_retZ S hr hk (by rfl) (by simp [sChar, bI, c1, c2, c3, c4, c5]) dM_isCharacter_56
          · skip
            replace c5 := bI_f c5
            refine lv_iload_n hx hb dM_isCharacter_40 rfl (lv_at hl 0 rfl) ?_
            refine lv_ldc (v := 65536) hx hb hown (hts _ k466) dM_isCharacter_41 ?_
            refine lv_ldc (v := 1114111) hx hb hown (hts _ k480) dM_isCharacter_43 ?_
            refine ro_S (As := [.int c, .int 65536, .int 1114111]) (rest := []) (n := 3) S (cM_isIn l (c) (65536) (1114111)) k463 k2 k462 (by decide +kernel) ⟨rfl, rfl⟩ k461 (by decide) preEq rfl rfl hl.1 (Nat.le_of_ble_eq_true rfl) ⟨Nat.le_refl _, Nat.le_refl _⟩ dM_isCharacter_45 ?_
            refine lv_if_eq (tgt := 55) hx hb dM_isCharacter_48 (by decide) (fun c6 => ?_) (fun c6 => ?_)
            · skip
              replace c6 := bI_f c6
              refine lv_iconst (v := 0) hx hb dM_isCharacter_55 (by decide) ?_
              exact ro_retZ S hr hk (by rfl) (by simp [sChar, bI, c1, c2, c3, c4, c5, c6]) dM_isCharacter_56
            · skip
              replace c6 := bI_t c6
              refine lv_iconst (v := 1) hx hb dM_isCharacter_51 (by decide) ?_
              refine lv_goto (tgt := 56) hx hb dM_isCharacter_52 (by decide) ?_
              exact ro_retZ S hr hk (by rfl) (by simp [sChar, bI, c1, c2, c3, c4, c5, c6]) dM_isCharacter_56
end
section
/-! the kinds, as the reference tells them -/
def sNear (c : Int32) : Bool := sLetter c || decide (c = 58) || decide (c = 95) || sIn c 192 214 || sIn c 216 246 || sIn c 248 767 || sIn c 880 893 || sIn c 895 8191
def sStart (c : Int32) : Bool := sNear c || decide (c = 8204) || decide (c = 8205) || sIn c 8304 8591 || sIn c 11264 12271 || sIn c 12289 55295 || sIn c 63744 64975 || sIn c 65008 65533 || sIn c 65536 983039
set_option maxHeartbeats 4000000 in
set_option maxRecDepth 100000 in
theorem cM_isStart (l : Launch) (c : Int32) : Met l yM_isStart (Cond.code yM_isStart prog_3_method_20_code 2 (some .boolean) :: TB) { frames := 2, cells := 0, slots := 0, locals := 42 } (pu [.int c]) (QcRead (bI (sStart c))) 0 0 (fun _ => False) := by
  refine mt_of (by decide) ?_
  intro p e s m args below meth cd S hr hk hin hv
  subst hv
  have hx := S.1
  have hb := S.2.1
  have hown := S.2.2.2.1
  have hts := S.2.2.2.2
  have hl := lv_entry ([.int c]) (n := 2) (Nat.le_of_ble_eq_true rfl)
  rw [lg_entry_eq]
  generalize (lg_sl ([.int c]) ++ List.replicate (2 - (lg_sl ([.int c])).length) Slot.unset).toArray = ls at hl ⊢
  have hl : lv_has ls 2 [(0, .int c)] := hl
  have J89 : ∀ (x : Int32), x = bI (sNear c) → ∀ ls : Array Slot, lv_has ls 2 [(0, .int c)] → W p l e { frames := 2, cells := 0, slots := 0, locals := 42 } s m [.int c].toArray below meth cd s.heap [] 0 0 (MQ below (QcRead (bI (sStart c))) [.int c].toArray s 0 0 (fun _ => False)) (F0 m 89 ls [.int x]) := by
    intro x hx9 ls hl
    subst hx9
    refine lv_istore_n (lv' := [(1, .int (bI (sNear c))), (0, .int c)]) hx hb dM_isStart_89 rfl hl (by decide) rfl (fun ls hl => ?_)
    refine lv_iload_n hx hb dM_isStart_90 rfl (lv_at hl 0 rfl) ?_
    refine lv_if_ne (tgt := 179) hx hb dM_isStart_91 (by decide) (fun c1 => ?_) (fun c1 => ?_)
    · skip
      replace c1 := bI_t c1
      refine lv_iconst (v := 1) hx hb dM_isStart_179 (by decide) ?_
      refine lv_goto (tgt := 184) hx hb dM_isStart_180 (by decide) ?_
      exact ro_retZ S hr hk (by rfl) (by simp [sStart, bI, c1]) dM_isStart_184
    · skip
      replace c1 := bI_f c1
      refine lv_iload_n hx hb dM_isStart_94 rfl (lv_at hl 1 rfl) ?_
      refine lv_sipush (v := 8204) hx hb dM_isStart_95 (by decide) ?_
      refine lv_icmp_eq (tgt := 179) hx hb dM_isStart_98 (by decide) (fun c2 => ?_) (fun c2 => ?_)
      · skip
        refine lv_iconst (v := 1) hx hb dM_isStart_179 (by decide) ?_
        refine lv_goto (tgt := 184) hx hb dM_isStart_180 (by decide) ?_
        exact ro_retZ S hr hk (by rfl) (by simp [sStart, bI, c1, c2]) dM_isStart_184
      · skip
        refine lv_iload_n hx hb dM_isStart_101 rfl (lv_at hl 1 rfl) ?_
        refine lv_sipush (v := 8205) hx hb dM_isStart_102 (by decide) ?_
        refine lv_icmp_eq (tgt := 179) hx hb dM_isStart_105 (by decide) (fun c3 => ?_) (fun c3 => ?_)
        · skip
          refine lv_iconst (v := 1) hx hb dM_isStart_179 (by decide) ?_
          refine lv_goto (tgt := 184) hx hb dM_isStart_180 (by decide) ?_
          exact ro_retZ S hr hk (by rfl) (by simp [sStart, bI, c1, c2, c3]) dM_isStart_184
        · skip
          refine lv_iload_n hx hb dM_isStart_108 rfl (lv_at hl 1 rfl) ?_
          refine lv_sipush (v := 8304) hx hb dM_isStart_109 (by decide) ?_
          refine lv_sipush (v := 8591) hx hb dM_isStart_112 (by decide) ?_
          refine ro_S (As := [.int c, .int 8304, .int 8591]) (rest := []) (n := 3) S (cM_isIn l (c) (8304) (8591)) k463 k2 k462 (by decide +kernel) ⟨rfl, rfl⟩ k461 (by decide) preEq rfl rfl hl.1 (Nat.le_of_ble_eq_true rfl) ⟨Nat.le_refl _, Nat.le_refl _⟩ dM_isStart_115 ?_
          refine lv_if_ne (tgt := 179) hx hb dM_isStart_118 (by decide) (fun c4 => ?_) (fun c4 => ?_)
          · skip
            replace c4 := bI_t c4
            refine lv_iconst (v := 1) hx hb dM_isStart_179 (by decide) ?_
            refine lv_goto (tgt := 184) hx hb dM_isStart_180 (by decide) ?_
            exact ro_retZ S hr hk (by rfl) (by simp [sStart, bI, c1, c2, c3, c4]) dM_isStart_184
          · skip
            replace c4 := bI_f c4
            refine lv_iload_n hx hb dM_isStart_121 rfl (lv_at hl 1 rfl) ?_
            refine lv_sipush (v := 11264) hx hb dM_isStart_122 (by decide) ?_
            refine lv_sipush (v := 12271) hx hb dM_isStart_125 (by decide) ?_
            refine ro_S (As := [.int c, .int 11264, .int 12271]) (rest := []) (n := 3) S (cM_isIn l (c) (11264) (12271)) k463 k2 k462 (by decide +kernel) ⟨rfl, rfl⟩ k461 (by decide) preEq rfl rfl hl.1 (Nat.le_of_ble_eq_true rfl) ⟨Nat.le_refl _, Nat.le_refl _⟩ dM_isStart_128 ?_
            refine lv_if_ne (tgt := 179) hx hb dM_isStart_131 (by decide) (fun c5 => ?_) (fun c5 => ?_)
            · skip
              replace c5 := bI_t c5
              refine lv_iconst (v := 1) hx hb dM_isStart_179 (by decide) ?_
              refine lv_goto (tgt := 184) hx hb dM_isStart_180 (by decide) ?_
              exact ro_retZ S hr hk (by rfl) (by simp [sStart, bI, c1, c2, c3, c4, c5]) dM_isStart_184
            · skip
              replace c5 := bI_f c5
              refine lv_iload_n hx hb dM_isStart_134 rfl (lv_at hl 1 rfl) ?_
              refine lv_sipush (v := 12289) hx hb dM_isStart_135 (by decide) ?_
              refine lv_ldc (v := 55295) hx hb hown (hts _ k477) dM_isStart_138 ?_
              refine ro_S (As := [.int c, .int 12289, .int 55295]) (rest := []) (n := 3) S (cM_isIn l (c) (12289) (55295)) k463 k2 k462 (by decide +kernel) ⟨rfl, rfl⟩ k461 (by decide) preEq rfl rfl hl.1 (Nat.le_of_ble_eq_true rfl) ⟨Nat.le_refl _, Nat.le_refl _⟩ dM_isStart_140 ?_
              refine lv_if_ne (tgt := 179) hx hb dM_isStart_143 (by decide) (fun c6 => ?_) (fun c6 => ?_)
              · skip
                replace c6 := bI_t c6
                refine lv_iconst (v := 1) hx hb dM_isStart_179 (by decide) ?_
                refine lv_goto (tgt := 184) hx hb dM_isStart_180 (by decide) ?_
                exact ro_retZ S hr hk (by rfl) (by simp [sStart, bI, c1, c2, c3, c4, c5, c6]) dM_isStart_184
              · skip
                replace c6 := bI_f c6
                refine lv_iload_n hx hb dM_isStart_146 rfl (lv_at hl 1 rfl) ?_
                refine lv_ldc (v := 63744) hx hb hown (hts _ k506) dM_isStart_147 ?_
                refine lv_ldc (v := 64975) hx hb hown (hts _ k507) dM_isStart_149 ?_
                refine ro_S (As := [.int c, .int 63744, .int 64975]) (rest := []) (n := 3) S (cM_isIn l (c) (63744) (64975)) k463 k2 k462 (by decide +kernel) ⟨rfl, rfl⟩ k461 (by decide) preEq rfl rfl hl.1 (Nat.le_of_ble_eq_true rfl) ⟨Nat.le_refl _, Nat.le_refl _⟩ dM_isStart_151 ?_
                refine lv_if_ne (tgt := 179) hx hb dM_isStart_154 (by decide) (fun c7 => ?_) (fun c7 => ?_)
                · skip
                  replace c7 := bI_t c7
                  refine lv_iconst (v := 1) hx hb dM_isStart_179 (by decide) ?_
                  refine lv_goto (tgt := 184) hx hb dM_isStart_180 (by decide) ?_
                  exact ro_retZ S hr hk (by rfl) (by simp [sStart, bI, c1, c2, c3, c4, c5, c6, c7]) dM_isStart_184
                · skip
                  replace c7 := bI_f c7
                  refine lv_iload_n hx hb dM_isStart_157 rfl (lv_at hl 1 rfl) ?_
                  refine lv_ldc (v := 65008) hx hb hown (hts _ k508) dM_isStart_158 ?_
                  refine lv_ldc (v := 65533) hx hb hown (hts _ k479) dM_isStart_160 ?_
                  refine ro_S (As := [.int c, .int 65008, .int 65533]) (rest := []) (n := 3) S (cM_isIn l (c) (65008) (65533)) k463 k2 k462 (by decide +kernel) ⟨rfl, rfl⟩ k461 (by decide) preEq rfl rfl hl.1 (Nat.le_of_ble_eq_true rfl) ⟨Nat.le_refl _, Nat.le_refl _⟩ dM_isStart_162 ?_
                  refine lv_if_ne (tgt := 179) hx hb dM_isStart_165 (by decide) (fun c8 => ?_) (fun c8 => ?_)
                  · skip
                    replace c8 := bI_t c8
                    refine lv_iconst (v := 1) hx hb dM_isStart_179 (by decide) ?_
                    refine lv_goto (tgt := 184) hx hb dM_isStart_180 (by decide) ?_
                    exact ro_retZ S hr hk (by rfl) (by simp [sStart, bI, c1, c2, c3, c4, c5, c6, c7, c8]) dM_isStart_184
                  · skip
                    replace c8 := bI_f c8
                    refine lv_iload_n hx hb dM_isStart_168 rfl (lv_at hl 1 rfl) ?_
                    refine lv_ldc (v := 65536) hx hb hown (hts _ k466) dM_isStart_169 ?_
                    refine lv_ldc (v := 983039) hx hb hown (hts _ k509) dM_isStart_171 ?_
                    refine ro_S (As := [.int c, .int 65536, .int 983039]) (rest := []) (n := 3) S (cM_isIn l (c) (65536) (983039)) k463 k2 k462 (by decide +kernel) ⟨rfl, rfl⟩ k461 (by decide) preEq rfl rfl hl.1 (Nat.le_of_ble_eq_true rfl) ⟨Nat.le_refl _, Nat.le_refl _⟩ dM_isStart_173 ?_
                    refine lv_if_eq (tgt := 183) hx hb dM_isStart_176 (by decide) (fun c9 => ?_) (fun c9 => ?_)
                    · skip
                      replace c9 := bI_f c9
                      refine lv_iconst (v := 0) hx hb dM_isStart_183 (by decide) ?_
                      exact ro_retZ S hr hk (by rfl) (by simp [sStart, bI, c1, c2, c3, c4, c5, c6, c7, c8, c9]) dM_isStart_184
                    · skip
                      replace c9 := bI_t c9
                      refine lv_iconst (v := 1) hx hb dM_isStart_179 (by decide) ?_
                      refine lv_goto (tgt := 184) hx hb dM_isStart_180 (by decide) ?_
                      exact ro_retZ S hr hk (by rfl) (by simp [sStart, bI, c1, c2, c3, c4, c5, c6, c7, c8, c9]) dM_isStart_184
  refine lv_iload_n hx hb dM_isStart_0 rfl (lv_at hl 0 rfl) ?_
  refine ro_S (As := [.int c]) (rest := []) (n := 1) S (cM_isLetter l (c)) k502 k2 k501 (by decide +kernel) ⟨rfl, rfl⟩ k500 (by decide) preEq rfl rfl hl.1 (Nat.le_of_ble_eq_true rfl) ⟨Nat.le_refl _, Nat.le_refl _⟩ dM_isStart_1 ?_
  refine lv_if_ne (tgt := 84) hx hb dM_isStart_4 (by decide) (fun c10 => ?_) (fun c10 => ?_)
  · skip
    replace c10 := bI_t c10
    refine lv_iconst (v := 1) hx hb dM_isStart_84 (by decide) ?_
    refine lv_goto (tgt := 89) hx hb dM_isStart_85 (by decide) ?_
    exact J89  (1) (by simp [sNear, bI, c10]) ls (lv_sub hl [0] rfl) 
  · skip
    replace c10 := bI_f c10
    refine lv_iload_n hx hb dM_isStart_7 rfl (lv_at hl 0 rfl) ?_
    refine lv_bipush (v := 58) hx hb dM_isStart_8 (by decide) ?_
    refine lv_icmp_eq (tgt := 84) hx hb dM_isStart_10 (by decide) (fun c11 => ?_) (fun c11 => ?_)
    · skip
      refine lv_iconst (v := 1) hx hb dM_isStart_84 (by decide) ?_
      refine lv_goto (tgt := 89) hx hb dM_isStart_85 (by decide) ?_
      exact J89  (1) (by simp [sNear, bI, c10, c11]) ls (lv_sub hl [0] rfl) 
    · skip
      refine lv_iload_n hx hb dM_isStart_13 rfl (lv_at hl 0 rfl) ?_
      refine lv_bipush (v := 95) hx hb dM_isStart_14 (by decide) ?_
      refine lv_icmp_eq (tgt := 84) hx hb dM_isStart_16 (by decide) (fun c12 => ?_) (fun c12 => ?_)
      · skip
        refine lv_iconst (v := 1) hx hb dM_isStart_84 (by decide) ?_
        refine lv_goto (tgt := 89) hx hb dM_isStart_85 (by decide) ?_
        exact J89  (1) (by simp [sNear, bI, c10, c11, c12]) ls (lv_sub hl [0] rfl) 
      · skip
        refine lv_iload_n hx hb dM_isStart_19 rfl (lv_at hl 0 rfl) ?_
        refine lv_sipush (v := 192) hx hb dM_isStart_20 (by decide) ?_
        refine lv_sipush (v := 214) hx hb dM_isStart_23 (by decide) ?_
        refine ro_S (As := [.int c, .int 192, .int 214]) (rest := []) (n := 3) S (cM_isIn l (c) (192) (214)) k463 k2 k462 (by decide +kernel) ⟨rfl, rfl⟩ k461 (by decide) preEq rfl rfl hl.1 (Nat.le_of_ble_eq_true rfl) ⟨Nat.le_refl _, Nat.le_refl _⟩ dM_isStart_26 ?_
        refine lv_if_ne (tgt := 84) hx hb dM_isStart_29 (by decide) (fun c13 => ?_) (fun c13 => ?_)
        · skip
          replace c13 := bI_t c13
          refine lv_iconst (v := 1) hx hb dM_isStart_84 (by decide) ?_
          refine lv_goto (tgt := 89) hx hb dM_isStart_85 (by decide) ?_
          exact J89  (1) (by simp [sNear, bI, c10, c11, c12, c13]) ls (lv_sub hl [0] rfl) 
        · skip
          replace c13 := bI_f c13
          refine lv_iload_n hx hb dM_isStart_32 rfl (lv_at hl 0 rfl) ?_
          refine lv_sipush (v := 216) hx hb dM_isStart_33 (by decide) ?_
          refine lv_sipush (v := 246) hx hb dM_isStart_36 (by decide) ?_
          refine ro_S (As := [.int c, .int 216, .int 246]) (rest := []) (n := 3) S (cM_isIn l (c) (216) (246)) k463 k2 k462 (by decide +kernel) ⟨rfl, rfl⟩ k461 (by decide) preEq rfl rfl hl.1 (Nat.le_of_ble_eq_true rfl) ⟨Nat.le_refl _, Nat.le_refl _⟩ dM_isStart_39 ?_
          refine lv_if_ne (tgt := 84) hx hb dM_isStart_42 (by decide) (fun c14 => ?_) (fun c14 => ?_)
          · skip
            replace c14 := bI_t c14
            refine lv_iconst (v := 1) hx hb dM_isStart_84 (by decide) ?_
            refine lv_goto (tgt := 89) hx hb dM_isStart_85 (by decide) ?_
            exact J89  (1) (by simp [sNear, bI, c10, c11, c12, c13, c14]) ls (lv_sub hl [0] rfl) 
          · skip
            replace c14 := bI_f c14
            refine lv_iload_n hx hb dM_isStart_45 rfl (lv_at hl 0 rfl) ?_
            refine lv_sipush (v := 248) hx hb dM_isStart_46 (by decide) ?_
            refine lv_sipush (v := 767) hx hb dM_isStart_49 (by decide) ?_
            refine ro_S (As := [.int c, .int 248, .int 767]) (rest := []) (n := 3) S (cM_isIn l (c) (248) (767)) k463 k2 k462 (by decide +kernel) ⟨rfl, rfl⟩ k461 (by decide) preEq rfl rfl hl.1 (Nat.le_of_ble_eq_true rfl) ⟨Nat.le_refl _, Nat.le_refl _⟩ dM_isStart_52 ?_
            refine lv_if_ne (tgt := 84) hx hb dM_isStart_55 (by decide) (fun c15 => ?_) (fun c15 => ?_)
            · skip
              replace c15 := bI_t c15
              refine lv_iconst (v := 1) hx hb dM_isStart_84 (by decide) ?_
              refine lv_goto (tgt := 89) hx hb dM_isStart_85 (by decide) ?_
              exact J89  (1) (by simp [sNear, bI, c10, c11, c12, c13, c14, c15]) ls (lv_sub hl [0] rfl) 
            · skip
              replace c15 := bI_f c15
              refine lv_iload_n hx hb dM_isStart_58 rfl (lv_at hl 0 rfl) ?_
              refine lv_sipush (v := 880) hx hb dM_isStart_59 (by decide) ?_
              refine lv_sipush (v := 893) hx hb dM_isStart_62 (by decide) ?_
              refine ro_S (As := [.int c, .int 880, .int 893]) (rest := []) (n := 3) S (cM_isIn l (c) (880) (893)) k463 k2 k462 (by decide +kernel) ⟨rfl, rfl⟩ k461 (by decide) preEq rfl rfl hl.1 (Nat.le_of_ble_eq_true rfl) ⟨Nat.le_refl _, Nat.le_refl _⟩ dM_isStart_65 ?_
              refine lv_if_ne (tgt := 84) hx hb dM_isStart_68 (by decide) (fun c16 => ?_) (fun c16 => ?_)
              · skip
                replace c16 := bI_t c16
                refine lv_iconst (v := 1) hx hb dM_isStart_84 (by decide) ?_
                refine lv_goto (tgt := 89) hx hb dM_isStart_85 (by decide) ?_
                exact J89  (1) (by simp [sNear, bI, c10, c11, c12, c13, c14, c15, c16]) ls (lv_sub hl [0] rfl) 
              · skip
                replace c16 := bI_f c16
                refine lv_iload_n hx hb dM_isStart_71 rfl (lv_at hl 0 rfl) ?_
                refine lv_sipush (v := 895) hx hb dM_isStart_72 (by decide) ?_
                refine lv_sipush (v := 8191) hx hb dM_isStart_75 (by decide) ?_
                refine ro_S (As := [.int c, .int 895, .int 8191]) (rest := []) (n := 3) S (cM_isIn l (c) (895) (8191)) k463 k2 k462 (by decide +kernel) ⟨rfl, rfl⟩ k461 (by decide) preEq rfl rfl hl.1 (Nat.le_of_ble_eq_true rfl) ⟨Nat.le_refl _, Nat.le_refl _⟩ dM_isStart_78 ?_
                refine lv_if_eq (tgt := 88) hx hb dM_isStart_81 (by decide) (fun c17 => ?_) (fun c17 => ?_)
                · skip
                  replace c17 := bI_f c17
                  refine lv_iconst (v := 0) hx hb dM_isStart_88 (by decide) ?_
                  exact J89  (0) (by simp [sNear, bI, c10, c11, c12, c13, c14, c15, c16, c17]) ls (lv_sub hl [0] rfl) 
                · skip
                  replace c17 := bI_t c17
                  refine lv_iconst (v := 1) hx hb dM_isStart_84 (by decide) ?_
                  refine lv_goto (tgt := 89) hx hb dM_isStart_85 (by decide) ?_
                  exact J89  (1) (by simp [sNear, bI, c10, c11, c12, c13, c14, c15, c16, c17]) ls (lv_sub hl [0] rfl) 
def sNaming (c : Int32) : Bool := sStart c || sIn c 48 57 || decide (c = 45) || decide (c = 46) || decide (c = 183) || sIn c 768 879 || decide (c = 8255) || decide (c = 8256)
set_option maxHeartbeats 4000000 in
set_option maxRecDepth 100000 in
theorem cM_isNaming (l : Launch) (c : Int32) : Met l yM_isNaming (Cond.code yM_isNaming prog_3_method_21_code 1 (some .boolean) :: TB) { frames := 3, cells := 0, slots := 0, locals := 63 } (pu [.int c]) (QcRead (bI (sNaming c))) 0 0 (fun _ => False) := by
  refine mt_of (by decide) ?_
  intro p e s m args below meth cd S hr hk hin hv
  subst hv
  have hx := S.1
  have hb := S.2.1
  have hown := S.2.2.2.1
  have hts := S.2.2.2.2
  have hl := lv_entry ([.int c]) (n := 1) (Nat.le_of_ble_eq_true rfl)
  rw [lg_entry_eq]
  generalize (lg_sl ([.int c]) ++ List.replicate (1 - (lg_sl ([.int c])).length) Slot.unset).toArray = ls at hl ⊢
  have hl : lv_has ls 1 [(0, .int c)] := hl
  refine lv_iload_n hx hb dM_isNaming_0 rfl (lv_at hl 0 rfl) ?_
  refine ro_S (As := [.int c]) (rest := []) (n := 1) S (cM_isStart l (c)) k505 k2 k504 (by decide +kernel) ⟨rfl, rfl⟩ k503 (by decide) preEq rfl rfl hl.1 (Nat.le_of_ble_eq_true rfl) ⟨Nat.le_refl _, Nat.le_refl _⟩ dM_isNaming_1 ?_
  refine lv_if_ne (tgt := 64) hx hb dM_isNaming_4 (by decide) (fun c1 => ?_) (fun c1 => ?_)
  · skip
    replace c1 := bI_t c1
    refine lv_iconst (v := 1) hx hb dM_isNaming_64 (by decide) ?_
    refine lv_goto (tgt := 69) hx hb dM_isNaming_65 (by decide) ?_
    exact ro_retZ S hr hk (by rfl) (by simp [sNaming, bI, c1]) dM_isNaming_69
  · skip
    replace c1 := bI_f c1
    refine lv_iload_n hx hb dM_isNaming_7 rfl (lv_at hl 0 rfl) ?_
    refine lv_bipush (v := 48) hx hb dM_isNaming_8 (by decide) ?_
    refine lv_bipush (v := 57) hx hb dM_isNaming_10 (by decide) ?_
    refine ro_S (As := [.int c, .int 48, .int 57]) (rest := []) (n := 3) S (cM_isIn l (c) (48) (57)) k463 k2 k462 (by decide +kernel) ⟨rfl, rfl⟩ k461 (by decide) preEq rfl rfl hl.1 (Nat.le_of_ble_eq_true rfl) ⟨Nat.le_refl _, Nat.le_refl _⟩ dM_isNaming_12 ?_
    refine lv_if_ne (tgt := 64) hx hb dM_isNaming_15 (by decide) (fun c2 => ?_) (fun c2 => ?_)
    · skip
      replace c2 := bI_t c2
      refine lv_iconst (v := 1) hx hb dM_isNaming_64 (by decide) ?_
      refine lv_goto (tgt := 69) hx hb dM_isNaming_65 (by decide) ?_
      exact ro_retZ S hr hk (by rfl) (by simp [sNaming, bI, c1, c2]) dM_isNaming_69
    · skip
      replace c2 := bI_f c2
      refine lv_iload_n hx hb dM_isNaming_18 rfl (lv_at hl 0 rfl) ?_
      refine lv_bipush (v := 45) hx hb dM_isNaming_19 (by decide) ?_
      refine lv_icmp_eq (tgt := 64) hx hb dM_isNaming_21 (by decide) (fun c3 => ?_) (fun c3 => ?_)
      · skip
        refine lv_iconst (v := 1) hx hb dM_isNaming_64 (by decide) ?_
        refine lv_goto (tgt := 69) hx hb dM_isNaming_65 (by decide) ?_
        exact ro_retZ S hr hk (by rfl) (by simp [sNaming, bI, c1, c2, c3]) dM_isNaming_69
      · skip
        refine lv_iload_n hx hb dM_isNaming_24 rfl (lv_at hl 0 rfl) ?_
        refine lv_bipush (v := 46) hx hb dM_isNaming_25 (by decide) ?_
        refine lv_icmp_eq (tgt := 64) hx hb dM_isNaming_27 (by decide) (fun c4 => ?_) (fun c4 => ?_)
        · skip
          refine lv_iconst (v := 1) hx hb dM_isNaming_64 (by decide) ?_
          refine lv_goto (tgt := 69) hx hb dM_isNaming_65 (by decide) ?_
          exact ro_retZ S hr hk (by rfl) (by simp [sNaming, bI, c1, c2, c3, c4]) dM_isNaming_69
        · skip
          refine lv_iload_n hx hb dM_isNaming_30 rfl (lv_at hl 0 rfl) ?_
          refine lv_sipush (v := 183) hx hb dM_isNaming_31 (by decide) ?_
          refine lv_icmp_eq (tgt := 64) hx hb dM_isNaming_34 (by decide) (fun c5 => ?_) (fun c5 => ?_)
          · skip
            refine lv_iconst (v := 1) hx hb dM_isNaming_64 (by decide) ?_
            refine lv_goto (tgt := 69) hx hb dM_isNaming_65 (by decide) ?_
            exact ro_retZ S hr hk (by rfl) (by simp [sNaming, bI, c1, c2, c3, c4, c5]) dM_isNaming_69
          · skip
            refine lv_iload_n hx hb dM_isNaming_37 rfl (lv_at hl 0 rfl) ?_
            refine lv_sipush (v := 768) hx hb dM_isNaming_38 (by decide) ?_
            refine lv_sipush (v := 879) hx hb dM_isNaming_41 (by decide) ?_
            refine ro_S (As := [.int c, .int 768, .int 879]) (rest := []) (n := 3) S (cM_isIn l (c) (768) (879)) k463 k2 k462 (by decide +kernel) ⟨rfl, rfl⟩ k461 (by decide) preEq rfl rfl hl.1 (Nat.le_of_ble_eq_true rfl) ⟨Nat.le_refl _, Nat.le_refl _⟩ dM_isNaming_44 ?_
            refine lv_if_ne (tgt := 64) hx hb dM_isNaming_47 (by decide) (fun c6 => ?_) (fun c6 => ?_)
            · skip
              replace c6 := bI_t c6
              refine lv_iconst (v := 1) hx hb dM_isNaming_64 (by decide) ?_
              refine lv_goto (tgt := 69) hx hb dM_isNaming_65 (by decide) ?_
              exact ro_retZ S hr hk (by rfl) (by simp [sNaming, bI, c1, c2, c3, c4, c5, c6]) dM_isNaming_69
            · skip
              replace c6 := bI_f c6
              refine lv_iload_n hx hb dM_isNaming_50 rfl (lv_at hl 0 rfl) ?_
              refine lv_sipush (v := 8255) hx hb dM_isNaming_51 (by decide) ?_
              refine lv_icmp_eq (tgt := 64) hx hb dM_isNaming_54 (by decide) (fun c7 => ?_) (fun c7 => ?_)
              · skip
                refine lv_iconst (v := 1) hx hb dM_isNaming_64 (by decide) ?_
                refine lv_goto (tgt := 69) hx hb dM_isNaming_65 (by decide) ?_
                exact ro_retZ S hr hk (by rfl) (by simp [sNaming, bI, c1, c2, c3, c4, c5, c6, c7]) dM_isNaming_69
              · skip
                refine lv_iload_n hx hb dM_isNaming_57 rfl (lv_at hl 0 rfl) ?_
                refine lv_sipush (v := 8256) hx hb dM_isNaming_58 (by decide) ?_
                refine lv_icmp_ne (tgt := 68) hx hb dM_isNaming_61 (by decide) (fun c8 => ?_) (fun c8 => ?_)
                · skip
                  refine lv_iconst (v := 0) hx hb dM_isNaming_68 (by decide) ?_
                  exact ro_retZ S hr hk (by rfl) (by simp [sNaming, bI, c1, c2, c3, c4, c5, c6, c7, c8]) dM_isNaming_69
                · skip
                  refine lv_iconst (v := 1) hx hb dM_isNaming_64 (by decide) ?_
                  refine lv_goto (tgt := 69) hx hb dM_isNaming_65 (by decide) ?_
                  exact ro_retZ S hr hk (by rfl) (by simp [sNaming, bI, c1, c2, c3, c4, c5, c6, c7, c8]) dM_isNaming_69
def sSign (c : Int32) : Bool := decide (c = 32) || decide (c = 10) || decide (c = 33) || sIn c 35 37 || sIn c 39 47 || decide (c = 58) || decide (c = 59) || decide (c = 61) || decide (c = 63) || decide (c = 64) || decide (c = 95)
def sPub (c : Int32) : Bool := sSign c || sLetter c || sIn c 48 57
set_option maxHeartbeats 4000000 in
set_option maxRecDepth 100000 in
theorem cM_isPublic (l : Launch) (c : Int32) : Met l yM_isPublic (Cond.code yM_isPublic prog_3_method_22_code 2 (some .boolean) :: TB) { frames := 2, cells := 0, slots := 0, locals := 42 } (pu [.int c]) (QcRead (bI (sPub c))) 0 0 (fun _ => False) := by
  refine mt_of (by decide) ?_
  intro p e s m args below meth cd S hr hk hin hv
  subst hv
  have hx := S.1
  have hb := S.2.1
  have hown := S.2.2.2.1
  have hts := S.2.2.2.2
  have hl := lv_entry ([.int c]) (n := 2) (Nat.le_of_ble_eq_true rfl)
  rw [lg_entry_eq]
  generalize (lg_sl ([.int c]) ++ List.replicate (2 - (lg_sl ([.int c])).length) Slot.unset).toArray = ls at hl ⊢
  have hl : lv_has ls 2 [(0, .int c)] := hl
  have J81 : ∀ (x : Int32), x = bI (sSign c) → ∀ ls : Array Slot, lv_has ls 2 [(0, .int c)] → W p l e { frames := 2, cells := 0, slots := 0, locals := 42 } s m [.int c].toArray below meth cd s.heap [] 0 0 (MQ below (QcRead (bI (sPub c))) [.int c].toArray s 0 0 (fun _ => False)) (F0 m 81 ls [.int x]) := by
    intro x hx9 ls hl
    subst hx9
    refine lv_istore_n (lv' := [(1, .int (bI (sSign c))), (0, .int c)]) hx hb dM_isPublic_81 rfl hl (by decide) rfl (fun ls hl => ?_)
    refine lv_iload_n hx hb dM_isPublic_82 rfl (lv_at hl 0 rfl) ?_
    refine lv_if_ne (tgt := 104) hx hb dM_isPublic_83 (by decide) (fun c1 => ?_) (fun c1 => ?_)
    · skip
      replace c1 := bI_t c1
      refine lv_iconst (v := 1) hx hb dM_isPublic_104 (by decide) ?_
      refine lv_goto (tgt := 109) hx hb dM_isPublic_105 (by decide) ?_
      exact ro_retZ S hr hk (by rfl) (by simp [sPub, bI, c1]) dM_isPublic_109
    · skip
      replace c1 := bI_f c1
      refine lv_iload_n hx hb dM_isPublic_86 rfl (lv_at hl 1 rfl) ?_
      refine ro_S (As := [.int c]) (rest := []) (n := 1) S (cM_isLetter l (c)) k502 k2 k501 (by decide +kernel) ⟨rfl, rfl⟩ k500 (by decide) preEq rfl rfl hl.1 (Nat.le_of_ble_eq_true rfl) ⟨Nat.le_refl _, Nat.le_refl _⟩ dM_isPublic_87 ?_
      refine lv_if_ne (tgt := 104) hx hb dM_isPublic_90 (by decide) (fun c2 => ?_) (fun c2 => ?_)
      · skip
        replace c2 := bI_t c2
        refine lv_iconst (v := 1) hx hb dM_isPublic_104 (by decide) ?_
        refine lv_goto (tgt := 109) hx hb dM_isPublic_105 (by decide) ?_
        exact ro_retZ S hr hk (by rfl) (by simp [sPub, bI, c1, c2]) dM_isPublic_109
      · skip
        replace c2 := bI_f c2
        refine lv_iload_n hx hb dM_isPublic_93 rfl (lv_at hl 1 rfl) ?_
        refine lv_bipush (v := 48) hx hb dM_isPublic_94 (by decide) ?_
        refine lv_bipush (v := 57) hx hb dM_isPublic_96 (by decide) ?_
        refine ro_S (As := [.int c, .int 48, .int 57]) (rest := []) (n := 3) S (cM_isIn l (c) (48) (57)) k463 k2 k462 (by decide +kernel) ⟨rfl, rfl⟩ k461 (by decide) preEq rfl rfl hl.1 (Nat.le_of_ble_eq_true rfl) ⟨Nat.le_refl _, Nat.le_refl _⟩ dM_isPublic_98 ?_
        refine lv_if_eq (tgt := 108) hx hb dM_isPublic_101 (by decide) (fun c3 => ?_) (fun c3 => ?_)
        · skip
          replace c3 := bI_f c3
          refine lv_iconst (v := 0) hx hb dM_isPublic_108 (by decide) ?_
          exact ro_retZ S hr hk (by rfl) (by simp [sPub, bI, c1, c2, c3]) dM_isPublic_109
        · skip
          replace c3 := bI_t c3
          refine lv_iconst (v := 1) hx hb dM_isPublic_104 (by decide) ?_
          refine lv_goto (tgt := 109) hx hb dM_isPublic_105 (by decide) ?_
          exact ro_retZ S hr hk (by rfl) (by simp [sPub, bI, c1, c2, c3]) dM_isPublic_109
  refine lv_iload_n hx hb dM_isPublic_0 rfl (lv_at hl 0 rfl) ?_
  refine lv_bipush (v := 32) hx hb dM_isPublic_1 (by decide) ?_
  refine lv_icmp_eq (tgt := 76) hx hb dM_isPublic_3 (by decide) (fun c4 => ?_) (fun c4 => ?_)
  · skip
    refine lv_iconst (v := 1) hx hb dM_isPublic_76 (by decide) ?_
    refine lv_goto (tgt := 81) hx hb dM_isPublic_77 (by decide) ?_
    exact J81  (1) (by simp [sSign, bI, c4]) ls (lv_sub hl [0] rfl) 
  · skip
    refine lv_iload_n hx hb dM_isPublic_6 rfl (lv_at hl 0 rfl) ?_
    refine lv_bipush (v := 10) hx hb dM_isPublic_7 (by decide) ?_
    refine lv_icmp_eq (tgt := 76) hx hb dM_isPublic_9 (by decide) (fun c5 => ?_) (fun c5 => ?_)
    · skip
      refine lv_iconst (v := 1) hx hb dM_isPublic_76 (by decide) ?_
      refine lv_goto (tgt := 81) hx hb dM_isPublic_77 (by decide) ?_
      exact J81  (1) (by simp [sSign, bI, c4, c5]) ls (lv_sub hl [0] rfl) 
    · skip
      refine lv_iload_n hx hb dM_isPublic_12 rfl (lv_at hl 0 rfl) ?_
      refine lv_bipush (v := 33) hx hb dM_isPublic_13 (by decide) ?_
      refine lv_icmp_eq (tgt := 76) hx hb dM_isPublic_15 (by decide) (fun c6 => ?_) (fun c6 => ?_)
      · skip
        refine lv_iconst (v := 1) hx hb dM_isPublic_76 (by decide) ?_
        refine lv_goto (tgt := 81) hx hb dM_isPublic_77 (by decide) ?_
        exact J81  (1) (by simp [sSign, bI, c4, c5, c6]) ls (lv_sub hl [0] rfl) 
      · skip
        refine lv_iload_n hx hb dM_isPublic_18 rfl (lv_at hl 0 rfl) ?_
        refine lv_bipush (v := 35) hx hb dM_isPublic_19 (by decide) ?_
        refine lv_bipush (v := 37) hx hb dM_isPublic_21 (by decide) ?_
        refine ro_S (As := [.int c, .int 35, .int 37]) (rest := []) (n := 3) S (cM_isIn l (c) (35) (37)) k463 k2 k462 (by decide +kernel) ⟨rfl, rfl⟩ k461 (by decide) preEq rfl rfl hl.1 (Nat.le_of_ble_eq_true rfl) ⟨Nat.le_refl _, Nat.le_refl _⟩ dM_isPublic_23 ?_
        refine lv_if_ne (tgt := 76) hx hb dM_isPublic_26 (by decide) (fun c7 => ?_) (fun c7 => ?_)
        · skip
          replace c7 := bI_t c7
          refine lv_iconst (v := 1) hx hb dM_isPublic_76 (by decide) ?_
          refine lv_goto (tgt := 81) hx hb dM_isPublic_77 (by decide) ?_
          exact J81  (1) (by simp [sSign, bI, c4, c5, c6, c7]) ls (lv_sub hl [0] rfl) 
        · skip
          replace c7 := bI_f c7
          refine lv_iload_n hx hb dM_isPublic_29 rfl (lv_at hl 0 rfl) ?_
          refine lv_bipush (v := 39) hx hb dM_isPublic_30 (by decide) ?_
          refine lv_bipush (v := 47) hx hb dM_isPublic_32 (by decide) ?_
          refine ro_S (As := [.int c, .int 39, .int 47]) (rest := []) (n := 3) S (cM_isIn l (c) (39) (47)) k463 k2 k462 (by decide +kernel) ⟨rfl, rfl⟩ k461 (by decide) preEq rfl rfl hl.1 (Nat.le_of_ble_eq_true rfl) ⟨Nat.le_refl _, Nat.le_refl _⟩ dM_isPublic_34 ?_
          refine lv_if_ne (tgt := 76) hx hb dM_isPublic_37 (by decide) (fun c8 => ?_) (fun c8 => ?_)
          · skip
            replace c8 := bI_t c8
            refine lv_iconst (v := 1) hx hb dM_isPublic_76 (by decide) ?_
            refine lv_goto (tgt := 81) hx hb dM_isPublic_77 (by decide) ?_
            exact J81  (1) (by simp [sSign, bI, c4, c5, c6, c7, c8]) ls (lv_sub hl [0] rfl) 
          · skip
            replace c8 := bI_f c8
            refine lv_iload_n hx hb dM_isPublic_40 rfl (lv_at hl 0 rfl) ?_
            refine lv_bipush (v := 58) hx hb dM_isPublic_41 (by decide) ?_
            refine lv_icmp_eq (tgt := 76) hx hb dM_isPublic_43 (by decide) (fun c9 => ?_) (fun c9 => ?_)
            · skip
              refine lv_iconst (v := 1) hx hb dM_isPublic_76 (by decide) ?_
              refine lv_goto (tgt := 81) hx hb dM_isPublic_77 (by decide) ?_
              exact J81  (1) (by simp [sSign, bI, c4, c5, c6, c7, c8, c9]) ls (lv_sub hl [0] rfl) 
            · skip
              refine lv_iload_n hx hb dM_isPublic_46 rfl (lv_at hl 0 rfl) ?_
              refine lv_bipush (v := 59) hx hb dM_isPublic_47 (by decide) ?_
              refine lv_icmp_eq (tgt := 76) hx hb dM_isPublic_49 (by decide) (fun c10 => ?_) (fun c10 => ?_)
              · skip
                refine lv_iconst (v := 1) hx hb dM_isPublic_76 (by decide) ?_
                refine lv_goto (tgt := 81) hx hb dM_isPublic_77 (by decide) ?_
                exact J81  (1) (by simp [sSign, bI, c4, c5, c6, c7, c8, c9, c10]) ls (lv_sub hl [0] rfl) 
              · skip
                refine lv_iload_n hx hb dM_isPublic_52 rfl (lv_at hl 0 rfl) ?_
                refine lv_bipush (v := 61) hx hb dM_isPublic_53 (by decide) ?_
                refine lv_icmp_eq (tgt := 76) hx hb dM_isPublic_55 (by decide) (fun c11 => ?_) (fun c11 => ?_)
                · skip
                  refine lv_iconst (v := 1) hx hb dM_isPublic_76 (by decide) ?_
                  refine lv_goto (tgt := 81) hx hb dM_isPublic_77 (by decide) ?_
                  exact J81  (1) (by simp [sSign, bI, c4, c5, c6, c7, c8, c9, c10, c11]) ls (lv_sub hl [0] rfl) 
                · skip
                  refine lv_iload_n hx hb dM_isPublic_58 rfl (lv_at hl 0 rfl) ?_
                  refine lv_bipush (v := 63) hx hb dM_isPublic_59 (by decide) ?_
                  refine lv_icmp_eq (tgt := 76) hx hb dM_isPublic_61 (by decide) (fun c12 => ?_) (fun c12 => ?_)
                  · skip
                    refine lv_iconst (v := 1) hx hb dM_isPublic_76 (by decide) ?_
                    refine lv_goto (tgt := 81) hx hb dM_isPublic_77 (by decide) ?_
                    exact J81  (1) (by simp [sSign, bI, c4, c5, c6, c7, c8, c9, c10, c11, c12]) ls (lv_sub hl [0] rfl) 
                  · skip
                    refine lv_iload_n hx hb dM_isPublic_64 rfl (lv_at hl 0 rfl) ?_
                    refine lv_bipush (v := 64) hx hb dM_isPublic_65 (by decide) ?_
                    refine lv_icmp_eq (tgt := 76) hx hb dM_isPublic_67 (by decide) (fun c13 => ?_) (fun c13 => ?_)
                    · skip
                      refine lv_iconst (v := 1) hx hb dM_isPublic_76 (by decide) ?_
                      refine lv_goto (tgt := 81) hx hb dM_isPublic_77 (by decide) ?_
                      exact J81  (1) (by simp [sSign, bI, c4, c5, c6, c7, c8, c9, c10, c11, c12, c13]) ls (lv_sub hl [0] rfl) 
                    · skip
                      refine lv_iload_n hx hb dM_isPublic_70 rfl (lv_at hl 0 rfl) ?_
                      refine lv_bipush (v := 95) hx hb dM_isPublic_71 (by decide) ?_
                      refine lv_icmp_ne (tgt := 80) hx hb dM_isPublic_73 (by decide) (fun c14 => ?_) (fun c14 => ?_)
                      · skip
                        refine lv_iconst (v := 0) hx hb dM_isPublic_80 (by decide) ?_
                        exact J81  (0) (by simp [sSign, bI, c4, c5, c6, c7, c8, c9, c10, c11, c12, c13, c14]) ls (lv_sub hl [0] rfl) 
                      · skip
                        refine lv_iconst (v := 1) hx hb dM_isPublic_76 (by decide) ?_
                        refine lv_goto (tgt := 81) hx hb dM_isPublic_77 (by decide) ?_
                        exact J81  (1) (by simp [sSign, bI, c4, c5, c6, c7, c8, c9, c10, c11, c12, c13, c14]) ls (lv_sub hl [0] rfl) 
def bK (b : Bool) (k : Int32) : Int32 := if b then k else 0
def kM (c : Int32) : Int32 := if sChar c = true then bI (sSpace c) + bK (sLetter c) 2 + bK (sIn c 48 57) 4 + bK (sStart c) 8 + bK (sNaming c) 16 + bK (sPub c) 32 else 0
set_option maxHeartbeats 4000000 in
set_option maxRecDepth 100000 in
theorem cM_kindsOf (l : Launch) (c : Int32) : Met l yM_kindsOf (Cond.code yM_kindsOf prog_3_method_23_code 2 (some .int) :: TB) { frames := 4, cells := 0, slots := 0, locals := 83 } (pu [.int c]) (QcRead (kM c)) 0 0 (fun _ => False) := by
  refine mt_of (by decide) ?_
  intro p e s m args below meth cd S hr hk hin hv
  subst hv
  have hx := S.1
  have hb := S.2.1
  have hown := S.2.2.2.1
  have hts := S.2.2.2.2
  have hl := lv_entry ([.int c]) (n := 2) (Nat.le_of_ble_eq_true rfl)
  rw [lg_entry_eq]
  generalize (lg_sl ([.int c]) ++ List.replicate (2 - (lg_sl ([.int c])).length) Slot.unset).toArray = ls at hl ⊢
  have hl : lv_has ls 2 [(0, .int c)] := hl
  refine lv_iload_n hx hb dM_kindsOf_0 rfl (lv_at hl 0 rfl) ?_
  refine ro_S (As := [.int c]) (rest := []) (n := 1) S (cM_isCharacter l (c)) k476 k2 k475 (by decide +kernel) ⟨rfl, rfl⟩ k474 (by decide) preEq rfl rfl hl.1 (Nat.le_of_ble_eq_true rfl) ⟨Nat.le_refl _, Nat.le_refl _⟩ dM_kindsOf_1 ?_
  refine lv_if_ne (tgt := 9) hx hb dM_kindsOf_4 (by decide) (fun c1 => ?_) (fun c1 => ?_)
  · skip
    replace c1 := bI_t c1
    have J38 : ∀ (x : Int32), x = bI (sSpace c) → ∀ ls : Array Slot, lv_has ls 2 [(0, .int c)] → W p l e { frames := 4, cells := 0, slots := 0, locals := 83 } s m [.int c].toArray below meth cd s.heap [] 0 0 (MQ below (QcRead (kM c)) [.int c].toArray s 0 0 (fun _ => False)) (F0 m 38 ls [.int x]) := by
      intro x hx9 ls hl
      subst hx9
      refine lv_istore_n (lv' := [(1, .int (bI (sSpace c))), (0, .int c)]) hx hb dM_kindsOf_38 rfl hl (by decide) rfl (fun ls hl => ?_)
      have J48 : ∀ (x : Int32), x = bI (sSpace c) → ∀ ls : Array Slot, lv_has ls 2 [(1, .int (bI (sSpace c))), (0, .int c)] → W p l e { frames := 4, cells := 0, slots := 0, locals := 83 } s m [.int c].toArray below meth cd s.heap [] 0 0 (MQ below (QcRead (kM c)) [.int c].toArray s 0 0 (fun _ => False)) (F0 m 48 ls [.int x]) := by
        intro x hx9 ls hl
        subst hx9
        have J60 : ∀ (x : Int32), x = bK (sLetter c) 2 → ∀ ls : Array Slot, lv_has ls 2 [(1, .int (bI (sSpace c))), (0, .int c)] → W p l e { frames := 4, cells := 0, slots := 0, locals := 83 } s m [.int c].toArray below meth cd s.heap [] 0 0 (MQ below (QcRead (kM c)) [.int c].toArray s 0 0 (fun _ => False)) (F0 m 60 ls [.int x, .int (bI (sSpace c))]) := by
          intro x hx9 ls hl
          subst hx9
          refine lv_iadd hx hb dM_kindsOf_60 ?_
          have J77 : ∀ (x : Int32), x = bK (sIn c 48 57) 4 → ∀ ls : Array Slot, lv_has ls 2 [(1, .int (bI (sSpace c))), (0, .int c)] → W p l e { frames := 4, cells := 0, slots := 0, locals := 83 } s m [.int c].toArray below meth cd s.heap [] 0 0 (MQ below (QcRead (kM c)) [.int c].toArray s 0 0 (fun _ => False)) (F0 m 77 ls [.int x, .int ((bI (sSpace c)) + (bK (sLetter c) 2))]) := by
            intro x hx9 ls hl
            subst hx9
            refine lv_iadd hx hb dM_kindsOf_77 ?_
            have J91 : ∀ (x : Int32), x = bK (sStart c) 8 → ∀ ls : Array Slot, lv_has ls 2 [(1, .int (bI (sSpace c))), (0, .int c)] → W p l e { frames := 4, cells := 0, slots := 0, locals := 83 } s m [.int c].toArray below meth cd s.heap [] 0 0 (MQ below (QcRead (kM c)) [.int c].toArray s 0 0 (fun _ => False)) (F0 m 91 ls [.int x, .int (((bI (sSpace c)) + (bK (sLetter c) 2)) + (bK (sIn c 48 57) 4))]) := by
              intro x hx9 ls hl
              subst hx9
              refine lv_iadd hx hb dM_kindsOf_91 ?_
              have J105 : ∀ (x : Int32), x = bK (sNaming c) 16 → ∀ ls : Array Slot, lv_has ls 2 [(1, .int (bI (sSpace c))), (0, .int c)] → W p l e { frames := 4, cells := 0, slots := 0, locals := 83 } s m [.int c].toArray below meth cd s.heap [] 0 0 (MQ below (QcRead (kM c)) [.int c].toArray s 0 0 (fun _ => False)) (F0 m 105 ls [.int x, .int ((((bI (sSpace c)) + (bK (sLetter c) 2)) + (bK (sIn c 48 57) 4)) + (bK (sStart c) 8))]) := by
                intro x hx9 ls hl
                subst hx9
                refine lv_iadd hx hb dM_kindsOf_105 ?_
                have J119 : ∀ (x : Int32), x = bK (sPub c) 32 → ∀ ls : Array Slot, lv_has ls 2 [(1, .int (bI (sSpace c))), (0, .int c)] → W p l e { frames := 4, cells := 0, slots := 0, locals := 83 } s m [.int c].toArray below meth cd s.heap [] 0 0 (MQ below (QcRead (kM c)) [.int c].toArray s 0 0 (fun _ => False)) (F0 m 119 ls [.int x, .int (((((bI (sSpace c)) + (bK (sLetter c) 2)) + (bK (sIn c 48 57) 4)) + (bK (sStart c) 8)) + (bK (sNaming c) 16))]) := by
                  intro x hx9 ls hl
                  subst hx9
                  refine lv_iadd hx hb dM_kindsOf_119 ?_
                  exact ro_ret S hr hk (by simp [kM, c1]) dM_kindsOf_120
                refine lv_iload_n hx hb dM_kindsOf_106 rfl (lv_at hl 1 rfl) ?_
                refine ro_S (As := [.int c]) (rest := [.int (((((bI (sSpace c)) + (bK (sLetter c) 2)) + (bK (sIn c 48 57) 4)) + (bK (sStart c) 8)) + (bK (sNaming c) 16))]) (n := 1) S (cM_isPublic l (c)) k515 k2 k514 (by decide +kernel) ⟨rfl, rfl⟩ k513 (by decide) preEq rfl rfl hl.1 (Nat.le_of_ble_eq_true rfl) ⟨Nat.le_refl _, Nat.le_refl _⟩ dM_kindsOf_107 ?_
                refine lv_if_eq (tgt := 118) hx hb dM_kindsOf_110 (by decide) (fun c2 => ?_) (fun c2 => ?_)
                · skip
                  replace c2 := bI_f c2
                  refine lv_iconst (v := 0) hx hb dM_kindsOf_118 (by decide) ?_
                  exact J119  (0) (by simp [bK, c1, c2]) ls (lv_sub hl [0, 1] rfl) 
                · skip
                  replace c2 := bI_t c2
                  refine lv_bipush (v := 32) hx hb dM_kindsOf_113 (by decide) ?_
                  refine lv_goto (tgt := 119) hx hb dM_kindsOf_115 (by decide) ?_
                  exact J119  (32) (by simp [bK, c1, c2]) ls (lv_sub hl [0, 1] rfl) 
              refine lv_iload_n hx hb dM_kindsOf_92 rfl (lv_at hl 1 rfl) ?_
              refine ro_S (As := [.int c]) (rest := [.int ((((bI (sSpace c)) + (bK (sLetter c) 2)) + (bK (sIn c 48 57) 4)) + (bK (sStart c) 8))]) (n := 1) S (cM_isNaming l (c)) k512 k2 k511 (by decide +kernel) ⟨rfl, rfl⟩ k510 (by decide) preEq rfl rfl hl.1 (Nat.le_of_ble_eq_true rfl) ⟨Nat.le_refl _, Nat.le_refl _⟩ dM_kindsOf_93 ?_
              refine lv_if_eq (tgt := 104) hx hb dM_kindsOf_96 (by decide) (fun c3 => ?_) (fun c3 => ?_)
              · skip
                replace c3 := bI_f c3
                refine lv_iconst (v := 0) hx hb dM_kindsOf_104 (by decide) ?_
                exact J105  (0) (by simp [bK, c1, c3]) ls (lv_sub hl [0, 1] rfl) 
              · skip
                replace c3 := bI_t c3
                refine lv_bipush (v := 16) hx hb dM_kindsOf_99 (by decide) ?_
                refine lv_goto (tgt := 105) hx hb dM_kindsOf_101 (by decide) ?_
                exact J105  (16) (by simp [bK, c1, c3]) ls (lv_sub hl [0, 1] rfl) 
            refine lv_iload_n hx hb dM_kindsOf_78 rfl (lv_at hl 1 rfl) ?_
            refine ro_S (As := [.int c]) (rest := [.int (((bI (sSpace c)) + (bK (sLetter c) 2)) + (bK (sIn c 48 57) 4))]) (n := 1) S (cM_isStart l (c)) k505 k2 k504 (by decide +kernel) ⟨rfl, rfl⟩ k503 (by decide) preEq rfl rfl hl.1 (Nat.le_of_ble_eq_true rfl) ⟨Nat.le_refl _, Nat.le_refl _⟩ dM_kindsOf_79 ?_
            refine lv_if_eq (tgt := 90) hx hb dM_kindsOf_82 (by decide) (fun c4 => ?_) (fun c4 => ?_)
            · skip
              replace c4 := bI_f c4
              refine lv_iconst (v := 0) hx hb dM_kindsOf_90 (by decide) ?_
              exact J91  (0) (by simp [bK, c1, c4]) ls (lv_sub hl [0, 1] rfl) 
            · skip
              replace c4 := bI_t c4
              refine lv_bipush (v := 8) hx hb dM_kindsOf_85 (by decide) ?_
              refine lv_goto (tgt := 91) hx hb dM_kindsOf_87 (by decide) ?_
              exact J91  (8) (by simp [bK, c1, c4]) ls (lv_sub hl [0, 1] rfl) 
          refine lv_iload_n hx hb dM_kindsOf_61 rfl (lv_at hl 1 rfl) ?_
          refine lv_bipush (v := 48) hx hb dM_kindsOf_62 (by decide) ?_
          refine lv_bipush (v := 57) hx hb dM_kindsOf_64 (by decide) ?_
          refine ro_S (As := [.int c, .int 48, .int 57]) (rest := [.int ((bI (sSpace c)) + (bK (sLetter c) 2))]) (n := 3) S (cM_isIn l (c) (48) (57)) k463 k2 k462 (by decide +kernel) ⟨rfl, rfl⟩ k461 (by decide) preEq rfl rfl hl.1 (Nat.le_of_ble_eq_true rfl) ⟨Nat.le_refl _, Nat.le_refl _⟩ dM_kindsOf_66 ?_
          refine lv_if_eq (tgt := 76) hx hb dM_kindsOf_69 (by decide) (fun c5 => ?_) (fun c5 => ?_)
          · skip
            replace c5 := bI_f c5
            refine lv_iconst (v := 0) hx hb dM_kindsOf_76 (by decide) ?_
            exact J77  (0) (by simp [bK, c1, c5]) ls (lv_sub hl [0, 1] rfl) 
          · skip
            replace c5 := bI_t c5
            refine lv_iconst (v := 4) hx hb dM_kindsOf_72 (by decide) ?_
            refine lv_goto (tgt := 77) hx hb dM_kindsOf_73 (by decide) ?_
            exact J77  (4) (by simp [bK, c1, c5]) ls (lv_sub hl [0, 1] rfl) 
        refine lv_iload_n hx hb dM_kindsOf_48 rfl (lv_at hl 1 rfl) ?_
        refine ro_S (As := [.int c]) (rest := [.int (bI (sSpace c))]) (n := 1) S (cM_isLetter l (c)) k502 k2 k501 (by decide +kernel) ⟨rfl, rfl⟩ k500 (by decide) preEq rfl rfl hl.1 (Nat.le_of_ble_eq_true rfl) ⟨Nat.le_refl _, Nat.le_refl _⟩ dM_kindsOf_49 ?_
        refine lv_if_eq (tgt := 59) hx hb dM_kindsOf_52 (by decide) (fun c6 => ?_) (fun c6 => ?_)
        · skip
          replace c6 := bI_f c6
          refine lv_iconst (v := 0) hx hb dM_kindsOf_59 (by decide) ?_
          exact J60  (0) (by simp [bK, c1, c6]) ls (lv_sub hl [0, 1] rfl) 
        · skip
          replace c6 := bI_t c6
          refine lv_iconst (v := 2) hx hb dM_kindsOf_55 (by decide) ?_
          refine lv_goto (tgt := 60) hx hb dM_kindsOf_56 (by decide) ?_
          exact J60  (2) (by simp [bK, c1, c6]) ls (lv_sub hl [0, 1] rfl) 
      refine lv_iload_n hx hb dM_kindsOf_39 rfl (lv_at hl 0 rfl) ?_
      refine lv_if_eq (tgt := 47) hx hb dM_kindsOf_40 (by decide) (fun c7 => ?_) (fun c7 => ?_)
      · skip
        replace c7 := bI_f c7
        refine lv_iconst (v := 0) hx hb dM_kindsOf_47 (by decide) ?_
        exact J48  (0) (by simp [bI, c1, c7]) ls (lv_sub hl [0, 1] rfl) 
      · skip
        replace c7 := bI_t c7
        refine lv_iconst (v := 1) hx hb dM_kindsOf_43 (by decide) ?_
        refine lv_goto (tgt := 48) hx hb dM_kindsOf_44 (by decide) ?_
        exact J48  (1) (by simp [bI, c1, c7]) ls (lv_sub hl [0, 1] rfl) 
    refine lv_iload_n hx hb dM_kindsOf_9 rfl (lv_at hl 0 rfl) ?_
    refine lv_bipush (v := 32) hx hb dM_kindsOf_10 (by decide) ?_
    refine lv_icmp_eq (tgt := 33) hx hb dM_kindsOf_12 (by decide) (fun c8 => ?_) (fun c8 => ?_)
    · skip
      refine lv_iconst (v := 1) hx hb dM_kindsOf_33 (by decide) ?_
      refine lv_goto (tgt := 38) hx hb dM_kindsOf_34 (by decide) ?_
      exact J38  (1) (by simp [sSpace, bI, c1, c8]) ls (lv_sub hl [0] rfl) 
    · skip
      refine lv_iload_n hx hb dM_kindsOf_15 rfl (lv_at hl 0 rfl) ?_
      refine lv_bipush (v := 9) hx hb dM_kindsOf_16 (by decide) ?_
      refine lv_icmp_eq (tgt := 33) hx hb dM_kindsOf_18 (by decide) (fun c9 => ?_) (fun c9 => ?_)
      · skip
        refine lv_iconst (v := 1) hx hb dM_kindsOf_33 (by decide) ?_
        refine lv_goto (tgt := 38) hx hb dM_kindsOf_34 (by decide) ?_
        exact J38  (1) (by simp [sSpace, bI, c1, c8, c9]) ls (lv_sub hl [0] rfl) 
      · skip
        refine lv_iload_n hx hb dM_kindsOf_21 rfl (lv_at hl 0 rfl) ?_
        refine lv_bipush (v := 13) hx hb dM_kindsOf_22 (by decide) ?_
        refine lv_icmp_eq (tgt := 33) hx hb dM_kindsOf_24 (by decide) (fun c10 => ?_) (fun c10 => ?_)
        · skip
          refine lv_iconst (v := 1) hx hb dM_kindsOf_33 (by decide) ?_
          refine lv_goto (tgt := 38) hx hb dM_kindsOf_34 (by decide) ?_
          exact J38  (1) (by simp [sSpace, bI, c1, c8, c9, c10]) ls (lv_sub hl [0] rfl) 
        · skip
          refine lv_iload_n hx hb dM_kindsOf_27 rfl (lv_at hl 0 rfl) ?_
          refine lv_bipush (v := 10) hx hb dM_kindsOf_28 (by decide) ?_
          refine lv_icmp_ne (tgt := 37) hx hb dM_kindsOf_30 (by decide) (fun c11 => ?_) (fun c11 => ?_)
          · skip
            refine lv_iconst (v := 0) hx hb dM_kindsOf_37 (by decide) ?_
            exact J38  (0) (by simp [sSpace, bI, c1, c8, c9, c10, c11]) ls (lv_sub hl [0] rfl) 
          · skip
            refine lv_iconst (v := 1) hx hb dM_kindsOf_33 (by decide) ?_
            refine lv_goto (tgt := 38) hx hb dM_kindsOf_34 (by decide) ?_
            exact J38  (1) (by simp [sSpace, bI, c1, c8, c9, c10, c11]) ls (lv_sub hl [0] rfl) 
  · skip
    replace c1 := bI_f c1
    refine lv_iconst (v := 0) hx hb dM_kindsOf_7 (by decide) ?_
    exact ro_ret S hr hk (by simp [kM, c1]) dM_kindsOf_8
end
section
/-! methods that only read; what they are given stays true when the tables grow warmer -/
def okX (X : State → Heap → Prop) : Prop := ∀ (s U : State) (H : Heap), s.WarmedH U.vm → X s H → X U H
def gx (X : State → Heap → Prop) (As : List Value) : Array Value → State → Prop := fun v U => v = As.toArray ∧ X U U.heap
theorem gx_blind {X : State → Heap → Prop} {As : List Value} (h : okX X) : FrameBlind (gx X As) := fun a U g mk q => ⟨q.1, h U (U.calling g mk a) U.heap (State.WarmedH.refl U) q.2⟩
theorem gx_S {X : State → Heap → Prop} {As : List Value} {s : State} {H : Heap} (h : okX X) (hX : X s H) : PreS s H (gx X As) As := ⟨gx_blind h, fun U hU hW => ⟨rfl, by rw [hU]; exact h s U H hW hX⟩⟩
theorem gx_V {X : State → Heap → Prop} {As : List Value} {s : State} {H : Heap} {C : String} {b : Nat} (h : okX X) (hX : X s H) (hr : ∃ cellB : Cell, H[b]? = some cellB ∧ cellB.vm.isStatics = false ∧ s.vm.findClass C = some cellB.cls) : PreV s H C b (gx X (.ref b :: As)) As := ⟨gx_blind h, hr, fun U hU hW => ⟨rfl, by rw [hU]; exact h s U H hW hX⟩⟩
theorem ok_and {X Y : State → Heap → Prop} (h : okX X) (k : okX Y) : okX (fun U H => X U H ∧ Y U H) := fun s U H hW q => ⟨h s U H hW q.1, k s U H hW q.2⟩
abbrev nA : Nat → Prop := fun _ => False
/-- a table of ranges, by their first and last numbers -/
def flat (rs : List (Int32 × Int32)) (j : Nat) : Int32 := if j % 2 = 0 then (rs.getD (j / 2) (0, 0)).1 else (rs.getD (j / 2) (0, 0)).2
def xT (t : Nat) (rs : List (Int32 × Int32)) : State → Heap → Prop := fun U H => va_T .int t (2 * rs.length) (fun j => .int (flat rs j)) nA U H
theorem xT_ok {t : Nat} {rs : List (Int32 × Int32)} : okX (xT t rs) := fun s U H hW h => va_T.moved hW.alike h
def sWithin (rs : List (Int32 × Int32)) (c : Int32) : Bool := rs.any (fun q => sIn c q.1 q.2)
theorem flat_0 (rs : List (Int32 × Int32)) (k : Nat) : flat rs (2 * k) = (rs.getD k (0, 0)).1 := by simp [flat]
theorem flat_1 (rs : List (Int32 × Int32)) (k : Nat) : flat rs (2 * k + 1) = (rs.getD k (0, 0)).2 := by
  have h1 : (2 * k + 1) % 2 = 1 := by omega
  have h2 : (2 * k + 1) / 2 = k := by omega
  simp [flat, h1, h2]
theorem drop_any {rs : List (Int32 × Int32)} {c : Int32} {k : Nat} (h : k < rs.length) : (rs.drop k).any (fun q => sIn c q.1 q.2) = (sIn c (rs.getD k (0, 0)).1 (rs.getD k (0, 0)).2 || (rs.drop (k + 1)).any (fun q => sIn c q.1 q.2)) := by
  rw [List.drop_eq_getElem_cons h, List.any_cons, show rs.getD k (0, 0) = rs[k] by simp [h]]
set_option maxHeartbeats 4000000 in
set_option maxRecDepth 100000 in
theorem cS_isWithin (l : Launch) (t : Nat) (rs : List (Int32 × Int32)) (c : Int32) (hN : rs.length < 1000) : Met l yS_isWithin (Cond.code yS_isWithin prog_1_method_43_code 3 (some .boolean) :: TB) { frames := 0, cells := 0, slots := 0, locals := 0 } (gx (xT t rs) [.ref t, .int c]) (QcRead (bI (sWithin rs c))) 0 0 (fun _ => False) := by
  refine mt_of (by decide) ?_
  intro p e s m args below meth cd S hr hk hin hv
  obtain ⟨rfl, hX⟩ := hv
  have hx := S.1
  have hb := S.2.1
  have hown := S.2.2.2.1
  have hts := S.2.2.2.2
  have hl := lv_entry ([.ref t, .int c]) (n := 3) (Nat.le_of_ble_eq_true rfl)
  rw [lg_entry_eq]
  generalize (lg_sl ([.ref t, .int c]) ++ List.replicate (3 - (lg_sl ([.ref t, .int c])).length) Slot.unset).toArray = ls at hl ⊢
  have hl : lv_has ls 3 [(0, .ref t), (1, .int c)] := hl
  refine lv_iconst (v := 0) hx hb dS_isWithin_0 (by decide) ?_
  refine lv_istore_n (lv' := [(2, .int 0), (0, .ref t), (1, .int c)]) hx hb dS_isWithin_1 rfl hl (by decide) rfl (fun ls hl => ?_)
  have J2 : ∀ (fu : Nat) (x : Int32) (k : Nat), x = nI (2 * k) → k ≤ rs.length → rs.length < k + fu → sWithin rs c = (rs.drop k).any (fun q => sIn c q.1 q.2) → ∀ ls : Array Slot, lv_has ls 3 [(0, .ref t), (1, .int c), (2, .int x)] → W p l e { frames := 0, cells := 0, slots := 0, locals := 0 } s m [.ref t, .int c].toArray below meth cd s.heap [] 0 0 (MQ below (QcRead (bI (sWithin rs c))) [.ref t, .int c].toArray s 0 0 (fun _ => False)) (F0 m 2 ls []) := by
    intro fu
    induction fu with
    | zero =>
      intro x k hx9 hk9 hf9 hR ls hl
      exact absurd hf9 (by omega)
    | succ fu ih =>
      intro x k hx9 hk9 hf9 hR ls hl
      subst hx9
      refine lv_iload_n hx hb dS_isWithin_2 rfl (lv_at hl 2 rfl) ?_
      refine lv_iconst (v := 1) hx hb dS_isWithin_3 (by decide) ?_
      refine lv_iadd hx hb dS_isWithin_4 ?_
      refine lv_aload_n hx hb dS_isWithin_5 rfl (lv_at hl 0 rfl) ?_
      refine va_tlen (A := nA) (v := nI (2 * rs.length)) hx hb hX va_S.rf rfl dS_isWithin_6 ?_
      refine lv_icmp_ge (tgt := 34) hx hb dS_isWithin_7 (by decide) (fun c1 => ?_) (fun c1 => ?_)
      · skip
        rw [nI_1, nI_leI (by omega) (by omega)] at c1
        have hk8 : rs.length ≤ k := by omega
        refine lv_iconst (v := 0) hx hb dS_isWithin_34 (by decide) ?_
        exact ro_retZ S hr hk (by rfl) (by rw [hR, List.drop_eq_nil_of_le hk8]; rfl) dS_isWithin_35
      · skip
        rw [nI_1, nI_leI (by omega) (by omega)] at c1
        have hk8 : k < rs.length := by omega
        refine lv_iload_n hx hb dS_isWithin_10 rfl (lv_at hl 1 rfl) ?_
        refine lv_aload_n hx hb dS_isWithin_11 rfl (lv_at hl 0 rfl) ?_
        refine lv_iload_n hx hb dS_isWithin_12 rfl (lv_at hl 2 rfl) ?_
        refine va_ti (A := nA) hx hb hX va_S.rf (by exact vp_in_nI (by omega) (by omega)) (v := .int (flat rs ((nI (2 * k))).toNatClampNeg)) rfl dS_isWithin_13 ?_
        refine lv_icmp_lt (tgt := 28) hx hb dS_isWithin_14 (by decide) (fun c2 => ?_) (fun c2 => ?_)
        · skip
          replace c2 := Int32.not_le.mpr c2
          rw [nI_clamp (by omega), flat_0] at c2
          refine lv_iinc (v := ((nI (2 * k)) + 2)) (lv' := [(2, .int ((nI (2 * k)) + 2)), (0, .ref t), (1, .int c)]) hx hb dS_isWithin_28 hl (k := 2) rfl rfl (by decide) rfl (fun ls hl => ?_)
          refine lv_goto (tgt := 2) hx hb dS_isWithin_31 (by decide) ?_
          exact ih (((nI (2 * k)) + 2)) (k + 1) (nI_add (2 * k) 2) (hk8) (by omega) (by rw [hR, drop_any hk8, show sIn c (rs.getD k (0, 0)).1 (rs.getD k (0, 0)).2 = false by unfold sIn; simp only [c2, decide_true, decide_false, Bool.and_false, Bool.false_and], Bool.false_or]) ls (lv_sub hl [1, 2, 0] rfl) 
        · skip
          replace c2 := Int32.not_lt.mp c2
          rw [nI_clamp (by omega), flat_0] at c2
          refine lv_iload_n hx hb dS_isWithin_17 rfl (lv_at hl 1 rfl) ?_
          refine lv_aload_n hx hb dS_isWithin_18 rfl (lv_at hl 0 rfl) ?_
          refine lv_iload_n hx hb dS_isWithin_19 rfl (lv_at hl 2 rfl) ?_
          refine lv_iconst (v := 1) hx hb dS_isWithin_20 (by decide) ?_
          refine lv_iadd hx hb dS_isWithin_21 ?_
          refine va_ti (A := nA) hx hb hX va_S.rf (by rw [nI_1]; exact vp_in_nI (by omega) (by omega)) (v := .int (flat rs (((nI (2 * k)) + 1)).toNatClampNeg)) rfl dS_isWithin_22 ?_
          refine lv_icmp_gt (tgt := 28) hx hb dS_isWithin_23 (by decide) (fun c3 => ?_) (fun c3 => ?_)
          · skip
            replace c3 := Int32.not_le.mpr c3
            rw [nI_1, nI_clamp (by omega), flat_1] at c3
            refine lv_iinc (v := ((nI (2 * k)) + 2)) (lv' := [(2, .int ((nI (2 * k)) + 2)), (0, .ref t), (1, .int c)]) hx hb dS_isWithin_28 hl (k := 2) rfl rfl (by decide) rfl (fun ls hl => ?_)
            refine lv_goto (tgt := 2) hx hb dS_isWithin_31 (by decide) ?_
            exact ih (((nI (2 * k)) + 2)) (k + 1) (nI_add (2 * k) 2) (hk8) (by omega) (by rw [hR, drop_any hk8, show sIn c (rs.getD k (0, 0)).1 (rs.getD k (0, 0)).2 = false by unfold sIn; simp only [c2, c3, decide_true, decide_false, Bool.and_false, Bool.false_and], Bool.false_or]) ls (lv_sub hl [1, 2, 0] rfl) 
          · skip
            replace c3 := Int32.not_lt.mp c3
            rw [nI_1, nI_clamp (by omega), flat_1] at c3
            refine lv_iconst (v := 1) hx hb dS_isWithin_26 (by decide) ?_
            exact ro_retZ S hr hk (by rfl) (by rw [hR, drop_any hk8, show sIn c (rs.getD k (0, 0)).1 (rs.getD k (0, 0)).2 = true by unfold sIn; simp only [c2, c3, decide_true, Bool.and_true], Bool.true_or]; rfl) dS_isWithin_27
  exact J2 (rs.length + 1) (0) (0) (rfl) (Nat.zero_le _) (by omega) (by rw [List.drop_zero]; rfl) ls (lv_sub hl [1, 2, 0] rfl) 
def CHR : List (Int32 × Int32) := [(9, 10), (13, 13), (32, 55295), (57344, 65533), (65536, 1114111)]
def NSR : List (Int32 × Int32) := [(58, 58), (95, 95), (65, 90), (97, 122), (192, 214), (216, 246), (248, 767), (880, 893), (895, 8191), (8204, 8205), (8304, 8591), (11264, 12271), (12289, 55295), (63744, 64975), (65008, 65533), (65536, 983039)]
def MNR : List (Int32 × Int32) := [(48, 57), (45, 45), (46, 46), (183, 183), (768, 879), (8255, 8256)]
def xZ (nm : String) (t : Nat) : State → Heap → Prop := fun U H => va_Z "SignReader" nm "[I" (.ref t) nA U H
theorem xZ_ok {nm : String} {t : Nat} : okX (xZ nm t) := fun s U H hW h => va_Z.moved hW.alike h
def xC (t : Nat) : State → Heap → Prop := fun U H => xZ "CHARACTER_RANGES" t U H ∧ xT t CHR U H
theorem xC_ok {t : Nat} : okX (xC t) := ok_and xZ_ok xT_ok
theorem i32_eq {x y : Int32} : x = y ↔ x.toInt = y.toInt := Int32.toInt_inj.symm
theorem sIn_iff {c lo hi : Int32} : sIn c lo hi = true ↔ lo.toInt ≤ c.toInt ∧ c.toInt ≤ hi.toInt := by
  simp [sIn, Int32.le_iff_toInt_le]
theorem chr_eq (c : Int32) : sWithin CHR c = sChar c := by
  rw [Bool.eq_iff_iff]
  simp only [sWithin, CHR, sChar, List.any_cons, List.any_nil, Bool.or_eq_true, decide_eq_true_eq, sIn_iff, i32_eq, Bool.or_false]
  simp
  omega
set_option maxHeartbeats 4000000 in
set_option maxRecDepth 100000 in
theorem cS_isCharacter (l : Launch) (tc : Nat) (c : Int32) : Met l yS_isCharacter (Cond.code yS_isCharacter prog_1_method_38_code 1 (some .boolean) :: TB) { frames := 1, cells := 0, slots := 0, locals := 22 } (gx (xC tc) [.int c]) (QcRead (bI (sChar c))) 0 0 (fun _ => False) := by
  refine mt_of (by decide) ?_
  intro p e s m args below meth cd S hr hk hin hv
  obtain ⟨rfl, hX⟩ := hv
  have hx := S.1
  have hb := S.2.1
  have hown := S.2.2.2.1
  have hts := S.2.2.2.2
  have hl := lv_entry ([.int c]) (n := 1) (Nat.le_of_ble_eq_true rfl)
  rw [lg_entry_eq]
  generalize (lg_sl ([.int c]) ++ List.replicate (1 - (lg_sl ([.int c])).length) Slot.unset).toArray = ls at hl ⊢
  have hl : lv_has ls 1 [(0, .int c)] := hl
  refine va_gets (A := nA) hx hb hX.1 va_S.rf hown (hts _ k107) (fun _ h9 => h9) dS_isCharacter_0 ?_
  refine lv_iload_n hx hb dS_isCharacter_3 rfl (lv_at hl 0 rfl) ?_
  refine ro_S (As := [.ref tc, .int c]) (rest := []) (n := 2) S (cS_isWithin l tc CHR (c) (by decide)) k111 k1 k110 (by decide +kernel) ⟨rfl, rfl⟩ k109 (by decide) (gx_S xT_ok hX.2) rfl rfl hl.1 (Nat.le_of_ble_eq_true rfl) ⟨Nat.le_refl _, Nat.le_refl _⟩ dS_isCharacter_4 ?_
  exact ro_retZ S hr hk (bI_n _) (by rw [chr_eq]) dS_isCharacter_7
end
section
/-! the class: methods that read its object -/
abbrev srW (h qb qt : Nat) (cI : ClassId) (nb tl wy : Int32) (f g : Nat → Int32) : va_W := [(h, .inr (0, [.ref qb, .ref qt, .int nb, .int tl, .int wy])), (qb, .inl (cI, 4096, .inl f)), (qt, .inl (cI, 4096, .inl g))]
def xW (D : va_G) (h qb qt : Nat) (cI : ClassId) (n tl : Nat) (wy : Int32) (f g : Nat → Int32) : State → Heap → Prop := fun U H => va_P D CL (srW h qb qt cI (nI n) (nI tl) wy f g) H ∧ va_K D CL [(cI, .int)] U
theorem xW_ok {D : va_G} {h qb qt : Nat} {cI : ClassId} {n tl : Nat} {wy : Int32} {f g : Nat → Int32} : okX (xW D h qb qt cI n tl wy f g) := fun s U H hW q => ⟨q.1, va_K.moved hW.alike q.2⟩
theorem xW_V {D : va_G} {h qb qt : Nat} {cI : ClassId} {n tl : Nat} {wy : Int32} {f g : Nat → Int32} {s : State} {H : Heap} {As : List Value} (q : xW D h qb qt cI n tl wy f g s H) : PreV s H "SignReader" h (gx (xW D h qb qt cI n tl wy f g) (.ref h :: As)) As :=
  gx_V xW_ok q (va_recv q.2 q.1 (ci := 0) (q0 := 0) (q := ("SignReader", T_S, 5)) rfl rfl)
def sHas (n : Nat) (i : Int32) : Bool := decide (0 ≤ i) && !decide (nI n ≤ i)
theorem sHas_iff {n : Nat} {i : Int32} (hn : n < 2 ^ 31) : sHas n i = true ↔ ∃ j : Nat, j < n ∧ i = nI j := by
  constructor
  · intro h
    simp only [sHas, Bool.and_eq_true, decide_eq_true_eq, Bool.not_eq_true', decide_eq_false_iff_not] at h
    rcases pk_ix i hn with q | q | q
    · exact absurd h.1 (Int32.not_le.mpr q)
    · exact absurd q h.2
    · exact q
  · rintro ⟨j, hj, rfl⟩
    simp only [sHas, Bool.and_eq_true, decide_eq_true_eq, Bool.not_eq_true', decide_eq_false_iff_not]
    exact ⟨nI_pos' (by omega), nI_ge hj hn⟩
theorem sHas_in {n : Nat} {i : Int32} (hn : n ≤ 4096) (h : sHas n i = true) : vp_in i 4096 := by
  obtain ⟨j, hj, rfl⟩ := (sHas_iff (by omega)).mp h
  exact vp_in_nI (by omega) (by omega)
def sCame (f : Nat → Int32) (n : Nat) (i : Int32) : Int32 := if sHas n i = true then f i.toNatClampNeg else -1
set_option maxHeartbeats 4000000 in
set_option maxRecDepth 100000 in
theorem cS_hasByte (l : Launch) (D : va_G) (h qb qt : Nat) (cI : ClassId) (n tl : Nat) (wy : Int32) (f g : Nat → Int32) (hn : n ≤ 4096) (ht : tl ≤ 4096) (i : Int32) : Met l yS_hasByte (Cond.code yS_hasByte prog_1_method_14_code 2 (some .boolean) :: TB) { frames := 0, cells := 0, slots := 0, locals := 0 } (gx (xW D h qb qt cI n tl wy f g) [.ref h, .int i]) (QcRead (bI (sHas n i))) 0 0 (fun _ => False) := by
  refine mt_of (by decide) ?_
  intro p e s m args below meth cd S hr hk hin hv
  obtain ⟨rfl, hX⟩ := hv
  have hP := hX.1
  have hK := hX.2
  have hx := S.1
  have hb := S.2.1
  have hown := S.2.2.2.1
  have hts := S.2.2.2.2
  have hl := lv_entry ([.ref h, .int i]) (n := 2) (Nat.le_of_ble_eq_true rfl)
  rw [lg_entry_eq]
  generalize (lg_sl ([.ref h, .int i]) ++ List.replicate (2 - (lg_sl ([.ref h, .int i])).length) Slot.unset).toArray = ls at hl ⊢
  have hl : lv_has ls 2 [(0, .ref h), (1, .int i)] := hl
  refine lv_iload_n hx hb dS_hasByte_0 rfl (lv_at hl 1 rfl) ?_
  refine lv_if_lt (tgt := 16) hx hb dS_hasByte_1 (by decide) (fun c1 => ?_) (fun c1 => ?_)
  · skip
    replace c1 := Int32.not_le.mpr c1
    refine lv_iconst (v := 0) hx hb dS_hasByte_16 (by decide) ?_
    exact ro_retZ S hr hk (by rfl) (by simp [sHas, bI, c1]) dS_hasByte_17
  · skip
    replace c1 := Int32.not_lt.mp c1
    refine lv_iload_n hx hb dS_hasByte_4 rfl (lv_at hl 1 rfl) ?_
    refine lv_aload_n hx hb dS_hasByte_5 rfl (lv_at hl 0 rfl) ?_
    refine va_get (D := D) (ci := 0) (v := .int (nI n)) (C := "SignReader") (T := T_S) (N := 5) hx hb hts i_S hown hK hP 0 rfl rfl 2 (by decide) (hts _ k24) (fun _ h9 => h9) rfl dS_hasByte_6 ?_
    refine lv_icmp_ge (tgt := 16) hx hb dS_hasByte_9 (by decide) (fun c2 => ?_) (fun c2 => ?_)
    · skip
      refine lv_iconst (v := 0) hx hb dS_hasByte_16 (by decide) ?_
      exact ro_retZ S hr hk (by rfl) (by simp [sHas, bI, c1, c2]) dS_hasByte_17
    · skip
      refine lv_iconst (v := 1) hx hb dS_hasByte_12 (by decide) ?_
      refine lv_goto (tgt := 17) hx hb dS_hasByte_13 (by decide) ?_
      exact ro_retZ S hr hk (by rfl) (by simp [sHas, bI, c1, c2]) dS_hasByte_17
set_option maxHeartbeats 4000000 in
set_option maxRecDepth 100000 in
theorem cS_came (l : Launch) (D : va_G) (h qb qt : Nat) (cI : ClassId) (n tl : Nat) (wy : Int32) (f g : Nat → Int32) (hn : n ≤ 4096) (ht : tl ≤ 4096) (i : Int32) : Met l yS_came (Cond.code yS_came prog_1_method_5_code 2 (some .int) :: TB) { frames := 1, cells := 0, slots := 0, locals := 21 } (gx (xW D h qb qt cI n tl wy f g) [.ref h, .int i]) (QcRead (sCame f n i)) 0 0 (fun _ => False) := by
  refine mt_of (by decide) ?_
  intro p e s m args below meth cd S hr hk hin hv
  obtain ⟨rfl, hX⟩ := hv
  have hP := hX.1
  have hK := hX.2
  have hx := S.1
  have hb := S.2.1
  have hown := S.2.2.2.1
  have hts := S.2.2.2.2
  have hl := lv_entry ([.ref h, .int i]) (n := 2) (Nat.le_of_ble_eq_true rfl)
  rw [lg_entry_eq]
  generalize (lg_sl ([.ref h, .int i]) ++ List.replicate (2 - (lg_sl ([.ref h, .int i])).length) Slot.unset).toArray = ls at hl ⊢
  have hl : lv_has ls 2 [(0, .ref h), (1, .int i)] := hl
  refine lv_aload_n hx hb dS_came_0 rfl (lv_at hl 0 rfl) ?_
  refine lv_iload_n hx hb dS_came_1 rfl (lv_at hl 1 rfl) ?_
  refine ro_V (r := (bI (sHas n i))) (As := [.int i]) (rest := []) (n := 1) (C := "SignReader") S (cS_hasByte l D h qb qt cI n tl wy f g hn ht (i)) k46 k1 k45 ks0 (by decide +kernel) ⟨rfl, rfl⟩ k43 (by decide) (xW_V hX) rfl rfl hl.1 (Nat.le_of_ble_eq_true rfl) ⟨Nat.le_refl _, Nat.le_refl _⟩ dS_came_2 ?_
  refine lv_if_eq (tgt := 17) hx hb dS_came_5 (by decide) (fun c1 => ?_) (fun c1 => ?_)
  · skip
    replace c1 := bI_f c1
    refine lv_iconst (v := (-1)) hx hb dS_came_17 (by decide) ?_
    exact ro_ret S hr hk (by simp [sCame, c1]) dS_came_18
  · skip
    replace c1 := bI_t c1
    refine lv_aload_n hx hb dS_came_8 rfl (lv_at hl 0 rfl) ?_
    refine va_get (D := D) (ci := 0) (v := .ref qb) (C := "SignReader") (T := T_S) (N := 5) hx hb hts i_S hown hK hP 0 rfl rfl 0 (by decide) (hts _ k22) (fun _ h9 => h9) rfl dS_came_9 ?_
    refine lv_iload_n hx hb dS_came_12 rfl (lv_at hl 1 rfl) ?_
    refine va_iald hx hb hK hP 1 0 rfl rfl (sHas_in hn c1) dS_came_13 ?_
    refine lv_goto (tgt := 18) hx hb dS_came_14 (by decide) ?_
    exact ro_ret S hr hk (by simp [sCame, c1]) dS_came_18
set_option maxHeartbeats 4000000 in
set_option maxRecDepth 100000 in
theorem cS_hasSign (l : Launch) (D : va_G) (h qb qt : Nat) (cI : ClassId) (n tl : Nat) (wy : Int32) (f g : Nat → Int32) (hn : n ≤ 4096) (ht : tl ≤ 4096) (i : Int32) : Met l yS_hasSign (Cond.code yS_hasSign prog_1_method_15_code 2 (some .boolean) :: TB) { frames := 0, cells := 0, slots := 0, locals := 0 } (gx (xW D h qb qt cI n tl wy f g) [.ref h, .int i]) (QcRead (bI (sHas tl i))) 0 0 (fun _ => False) := by
  refine mt_of (by decide) ?_
  intro p e s m args below meth cd S hr hk hin hv
  obtain ⟨rfl, hX⟩ := hv
  have hP := hX.1
  have hK := hX.2
  have hx := S.1
  have hb := S.2.1
  have hown := S.2.2.2.1
  have hts := S.2.2.2.2
  have hl := lv_entry ([.ref h, .int i]) (n := 2) (Nat.le_of_ble_eq_true rfl)
  rw [lg_entry_eq]
  generalize (lg_sl ([.ref h, .int i]) ++ List.replicate (2 - (lg_sl ([.ref h, .int i])).length) Slot.unset).toArray = ls at hl ⊢
  have hl : lv_has ls 2 [(0, .ref h), (1, .int i)] := hl
  refine lv_iload_n hx hb dS_hasSign_0 rfl (lv_at hl 1 rfl) ?_
  refine lv_if_lt (tgt := 16) hx hb dS_hasSign_1 (by decide) (fun c1 => ?_) (fun c1 => ?_)
  · skip
    replace c1 := Int32.not_le.mpr c1
    refine lv_iconst (v := 0) hx hb dS_hasSign_16 (by decide) ?_
    exact ro_retZ S hr hk (by rfl) (by simp [sHas, bI, c1]) dS_hasSign_17
  · skip
    replace c1 := Int32.not_lt.mp c1
    refine lv_iload_n hx hb dS_hasSign_4 rfl (lv_at hl 1 rfl) ?_
    refine lv_aload_n hx hb dS_hasSign_5 rfl (lv_at hl 0 rfl) ?_
    refine va_get (D := D) (ci := 0) (v := .int (nI tl)) (C := "SignReader") (T := T_S) (N := 5) hx hb hts i_S hown hK hP 0 rfl rfl 3 (by decide) (hts _ k25) (fun _ h9 => h9) rfl dS_hasSign_6 ?_
    refine lv_icmp_ge (tgt := 16) hx hb dS_hasSign_9 (by decide) (fun c2 => ?_) (fun c2 => ?_)
    · skip
      refine lv_iconst (v := 0) hx hb dS_hasSign_16 (by decide) ?_
      exact ro_retZ S hr hk (by rfl) (by simp [sHas, bI, c1, c2]) dS_hasSign_17
    · skip
      refine lv_iconst (v := 1) hx hb dS_hasSign_12 (by decide) ?_
      refine lv_goto (tgt := 17) hx hb dS_hasSign_13 (by decide) ?_
      exact ro_retZ S hr hk (by rfl) (by simp [sHas, bI, c1, c2]) dS_hasSign_17
set_option maxHeartbeats 4000000 in
set_option maxRecDepth 100000 in
theorem cS_sign (l : Launch) (D : va_G) (h qb qt : Nat) (cI : ClassId) (n tl : Nat) (wy : Int32) (f g : Nat → Int32) (hn : n ≤ 4096) (ht : tl ≤ 4096) (i : Int32) : Met l yS_sign (Cond.code yS_sign prog_1_method_8_code 2 (some .int) :: TB) { frames := 1, cells := 0, slots := 0, locals := 21 } (gx (xW D h qb qt cI n tl wy f g) [.ref h, .int i]) (QcRead (sCame g tl i)) 0 0 (fun _ => False) := by
  refine mt_of (by decide) ?_
  intro p e s m args below meth cd S hr hk hin hv
  obtain ⟨rfl, hX⟩ := hv
  have hP := hX.1
  have hK := hX.2
  have hx := S.1
  have hb := S.2.1
  have hown := S.2.2.2.1
  have hts := S.2.2.2.2
  have hl := lv_entry ([.ref h, .int i]) (n := 2) (Nat.le_of_ble_eq_true rfl)
  rw [lg_entry_eq]
  generalize (lg_sl ([.ref h, .int i]) ++ List.replicate (2 - (lg_sl ([.ref h, .int i])).length) Slot.unset).toArray = ls at hl ⊢
  have hl : lv_has ls 2 [(0, .ref h), (1, .int i)] := hl
  refine lv_aload_n hx hb dS_sign_0 rfl (lv_at hl 0 rfl) ?_
  refine lv_iload_n hx hb dS_sign_1 rfl (lv_at hl 1 rfl) ?_
  refine ro_V (r := (bI (sHas tl i))) (As := [.int i]) (rest := []) (n := 1) (C := "SignReader") S (cS_hasSign l D h qb qt cI n tl wy f g hn ht (i)) k131 k1 k130 ks9 (by decide +kernel) ⟨rfl, rfl⟩ k128 (by decide) (xW_V hX) rfl rfl hl.1 (Nat.le_of_ble_eq_true rfl) ⟨Nat.le_refl _, Nat.le_refl _⟩ dS_sign_2 ?_
  refine lv_if_eq (tgt := 17) hx hb dS_sign_5 (by decide) (fun c1 => ?_) (fun c1 => ?_)
  · skip
    replace c1 := bI_f c1
    refine lv_iconst (v := (-1)) hx hb dS_sign_17 (by decide) ?_
    exact ro_ret S hr hk (by simp [sCame, c1]) dS_sign_18
  · skip
    replace c1 := bI_t c1
    refine lv_aload_n hx hb dS_sign_8 rfl (lv_at hl 0 rfl) ?_
    refine va_get (D := D) (ci := 0) (v := .ref qt) (C := "SignReader") (T := T_S) (N := 5) hx hb hts i_S hown hK hP 0 rfl rfl 1 (by decide) (hts _ k23) (fun _ h9 => h9) rfl dS_sign_9 ?_
    refine lv_iload_n hx hb dS_sign_12 rfl (lv_at hl 1 rfl) ?_
    refine va_iald hx hb hK hP 2 0 rfl rfl (sHas_in ht c1) dS_sign_13 ?_
    refine lv_goto (tgt := 18) hx hb dS_sign_14 (by decide) ?_
    exact ro_ret S hr hk (by simp [sCame, c1]) dS_sign_18
set_option maxHeartbeats 4000000 in
set_option maxRecDepth 100000 in
theorem cS_length (l : Launch) (D : va_G) (h qb qt : Nat) (cI : ClassId) (n tl : Nat) (wy : Int32) (f g : Nat → Int32) (hn : n ≤ 4096) (ht : tl ≤ 4096) : Met l yS_length (Cond.code yS_length prog_1_method_7_code 1 (some .int) :: TB) { frames := 0, cells := 0, slots := 0, locals := 0 } (gx (xW D h qb qt cI n tl wy f g) [.ref h]) (QcRead (nI tl)) 0 0 (fun _ => False) := by
  refine mt_of (by decide) ?_
  intro p e s m args below meth cd S hr hk hin hv
  obtain ⟨rfl, hX⟩ := hv
  have hP := hX.1
  have hK := hX.2
  have hx := S.1
  have hb := S.2.1
  have hown := S.2.2.2.1
  have hts := S.2.2.2.2
  have hl := lv_entry ([.ref h]) (n := 1) (Nat.le_of_ble_eq_true rfl)
  rw [lg_entry_eq]
  generalize (lg_sl ([.ref h]) ++ List.replicate (1 - (lg_sl ([.ref h])).length) Slot.unset).toArray = ls at hl ⊢
  have hl : lv_has ls 1 [(0, .ref h)] := hl
  refine lv_aload_n hx hb dS_length_0 rfl (lv_at hl 0 rfl) ?_
  refine va_get (D := D) (ci := 0) (v := .int (nI tl)) (C := "SignReader") (T := T_S) (N := 5) hx hb hts i_S hown hK hP 0 rfl rfl 3 (by decide) (hts _ k25) (fun _ h9 => h9) rfl dS_length_1 ?_
  exact ro_ret S hr hk (rfl) dS_length_4
set_option maxHeartbeats 4000000 in
set_option maxRecDepth 100000 in
theorem cS_way (l : Launch) (D : va_G) (h qb qt : Nat) (cI : ClassId) (n tl : Nat) (wy : Int32) (f g : Nat → Int32) (hn : n ≤ 4096) (ht : tl ≤ 4096) : Met l yS_way (Cond.code yS_way prog_1_method_9_code 1 (some .int) :: TB) { frames := 0, cells := 0, slots := 0, locals := 0 } (gx (xW D h qb qt cI n tl wy f g) [.ref h]) (QcRead (wy)) 0 0 (fun _ => False) := by
  refine mt_of (by decide) ?_
  intro p e s m args below meth cd S hr hk hin hv
  obtain ⟨rfl, hX⟩ := hv
  have hP := hX.1
  have hK := hX.2
  have hx := S.1
  have hb := S.2.1
  have hown := S.2.2.2.1
  have hts := S.2.2.2.2
  have hl := lv_entry ([.ref h]) (n := 1) (Nat.le_of_ble_eq_true rfl)
  rw [lg_entry_eq]
  generalize (lg_sl ([.ref h]) ++ List.replicate (1 - (lg_sl ([.ref h])).length) Slot.unset).toArray = ls at hl ⊢
  have hl : lv_has ls 1 [(0, .ref h)] := hl
  refine lv_aload_n hx hb dS_way_0 rfl (lv_at hl 0 rfl) ?_
  refine va_get (D := D) (ci := 0) (v := .int wy) (C := "SignReader") (T := T_S) (N := 5) hx hb hts i_S hown hK hP 0 rfl rfl 4 (by decide) (hts _ k26) (fun _ h9 => h9) rfl dS_way_1 ?_
  exact ro_ret S hr hk (rfl) dS_way_4
def sPair (f : Nat → Int32) (n : Nat) (i w : Int32) : Int32 := if sCame f n i = -1 then -1 else if sCame f n (i + 1) = -1 then -1 else if w = 1 then sCame f n i * 256 + sCame f n (i + 1) else sCame f n (i + 1) * 256 + sCame f n i
set_option maxHeartbeats 4000000 in
set_option maxRecDepth 100000 in
theorem cS_pairAt (l : Launch) (D : va_G) (h qb qt : Nat) (cI : ClassId) (n tl : Nat) (wy : Int32) (f g : Nat → Int32) (hn : n ≤ 4096) (ht : tl ≤ 4096) (i w : Int32) : Met l yS_pairAt (Cond.code yS_pairAt prog_1_method_24_code 5 (some .int) :: TB) { frames := 2, cells := 0, slots := 0, locals := 42 } (gx (xW D h qb qt cI n tl wy f g) [.ref h, .int i, .int w]) (QcRead (sPair f n i w)) 0 0 (fun _ => False) := by
  refine mt_of (by decide) ?_
  intro p e s m args below meth cd S hr hk hin hv
  obtain ⟨rfl, hX⟩ := hv
  have hP := hX.1
  have hK := hX.2
  have hx := S.1
  have hb := S.2.1
  have hown := S.2.2.2.1
  have hts := S.2.2.2.2
  have hl := lv_entry ([.ref h, .int i, .int w]) (n := 5) (Nat.le_of_ble_eq_true rfl)
  rw [lg_entry_eq]
  generalize (lg_sl ([.ref h, .int i, .int w]) ++ List.replicate (5 - (lg_sl ([.ref h, .int i, .int w])).length) Slot.unset).toArray = ls at hl ⊢
  have hl : lv_has ls 5 [(0, .ref h), (1, .int i), (2, .int w)] := hl
  refine lv_aload_n hx hb dS_pairAt_0 rfl (lv_at hl 0 rfl) ?_
  refine lv_iload_n hx hb dS_pairAt_1 rfl (lv_at hl 1 rfl) ?_
  refine ro_V (r := (sCame f n i)) (As := [.int i]) (rest := []) (n := 1) (C := "SignReader") S (cS_came l D h qb qt cI n tl wy f g hn ht (i)) k50 k1 k48 k49 (by decide +kernel) ⟨rfl, rfl⟩ k74 (by decide) (xW_V hX) rfl rfl hl.1 (Nat.le_of_ble_eq_true rfl) ⟨Nat.le_refl _, Nat.le_refl _⟩ dS_pairAt_2 ?_
  refine lv_istore_n (lv' := [(3, .int (sCame f n i)), (0, .ref h), (1, .int i), (2, .int w)]) hx hb dS_pairAt_5 rfl hl (by decide) rfl (fun ls hl => ?_)
  refine lv_aload_n hx hb dS_pairAt_6 rfl (lv_at hl 1 rfl) ?_
  refine lv_iload_n hx hb dS_pairAt_7 rfl (lv_at hl 2 rfl) ?_
  refine lv_iconst (v := 1) hx hb dS_pairAt_8 (by decide) ?_
  refine lv_iadd hx hb dS_pairAt_9 ?_
  refine ro_V (r := (sCame f n ((i + 1)))) (As := [.int (i + 1)]) (rest := []) (n := 1) (C := "SignReader") S (cS_came l D h qb qt cI n tl wy f g hn ht ((i + 1))) k50 k1 k48 k49 (by decide +kernel) ⟨rfl, rfl⟩ k74 (by decide) (xW_V hX) rfl rfl hl.1 (Nat.le_of_ble_eq_true rfl) ⟨Nat.le_refl _, Nat.le_refl _⟩ dS_pairAt_10 ?_
  refine lv_istore (lv' := [(4, .int (sCame f n ((i + 1)))), (3, .int (sCame f n i)), (0, .ref h), (1, .int i), (2, .int w)]) hx hb dS_pairAt_13 hl (by decide) rfl (fun ls hl => ?_)
  refine lv_iload_n hx hb dS_pairAt_15 rfl (lv_at hl 1 rfl) ?_
  refine lv_iconst (v := (-1)) hx hb dS_pairAt_16 (by decide) ?_
  refine lv_icmp_eq (tgt := 26) hx hb dS_pairAt_17 (by decide) (fun c1 => ?_) (fun c1 => ?_)
  · skip
    refine lv_iconst (v := (-1)) hx hb dS_pairAt_26 (by decide) ?_
    exact ro_ret S hr hk (by simp [sPair, c1]) dS_pairAt_27
  · skip
    refine lv_iload hx hb dS_pairAt_20 (lv_at hl 0 rfl) ?_
    refine lv_iconst (v := (-1)) hx hb dS_pairAt_22 (by decide) ?_
    refine lv_icmp_ne (tgt := 28) hx hb dS_pairAt_23 (by decide) (fun c2 => ?_) (fun c2 => ?_)
    · skip
      refine lv_iload_n hx hb dS_pairAt_28 rfl (lv_at hl 4 rfl) ?_
      refine lv_iconst (v := 1) hx hb dS_pairAt_29 (by decide) ?_
      refine lv_icmp_ne (tgt := 44) hx hb dS_pairAt_30 (by decide) (fun c3 => ?_) (fun c3 => ?_)
      · skip
        refine lv_iload hx hb dS_pairAt_44 (lv_at hl 0 rfl) ?_
        refine lv_sipush (v := 256) hx hb dS_pairAt_46 (by decide) ?_
        refine lv_imul hx hb dS_pairAt_49 ?_
        refine lv_iload_n hx hb dS_pairAt_50 rfl (lv_at hl 1 rfl) ?_
        refine lv_iadd hx hb dS_pairAt_51 ?_
        exact ro_ret S hr hk (by simp [sPair, c1, c2, c3]) dS_pairAt_52
      · skip
        refine lv_iload_n hx hb dS_pairAt_33 rfl (lv_at hl 1 rfl) ?_
        refine lv_sipush (v := 256) hx hb dS_pairAt_34 (by decide) ?_
        refine lv_imul hx hb dS_pairAt_37 ?_
        refine lv_iload hx hb dS_pairAt_38 (lv_at hl 0 rfl) ?_
        refine lv_iadd hx hb dS_pairAt_40 ?_
        refine lv_goto (tgt := 52) hx hb dS_pairAt_41 (by decide) ?_
        exact ro_ret S hr hk (by simp [sPair, c1, c2, c3]) dS_pairAt_52
    · skip
      refine lv_iconst (v := (-1)) hx hb dS_pairAt_26 (by decide) ?_
      exact ro_ret S hr hk (by simp [sPair, c1, c2]) dS_pairAt_27
def sN16 (f : Nat → Int32) (n : Nat) (i w : Int32) : Int32 := if 55296 ≤ sPair f n i w then (if sPair f n i w ≤ 56319 then (if 56320 ≤ sPair f n (i + 2) w then (if sPair f n (i + 2) w ≤ 57343 then 65536 + 1024 * (sPair f n i w - 55296) + (sPair f n (i + 2) w - 56320) else sPair f n i w) else sPair f n i w) else sPair f n i w) else sPair f n i w
set_option maxHeartbeats 4000000 in
set_option maxRecDepth 100000 in
theorem cS_numberOf16Bits (l : Launch) (D : va_G) (h qb qt : Nat) (cI : ClassId) (n tl : Nat) (wy : Int32) (f g : Nat → Int32) (hn : n ≤ 4096) (ht : tl ≤ 4096) (i w : Int32) : Met l yS_numberOf16Bits (Cond.code yS_numberOf16Bits prog_1_method_23_code 5 (some .int) :: TB) { frames := 3, cells := 0, slots := 0, locals := 66 } (gx (xW D h qb qt cI n tl wy f g) [.ref h, .int i, .int w]) (QcRead (sN16 f n i w)) 0 0 (fun _ => False) := by
  refine mt_of (by decide) ?_
  intro p e s m args below meth cd S hr hk hin hv
  obtain ⟨rfl, hX⟩ := hv
  have hP := hX.1
  have hK := hX.2
  have hx := S.1
  have hb := S.2.1
  have hown := S.2.2.2.1
  have hts := S.2.2.2.2
  have hl := lv_entry ([.ref h, .int i, .int w]) (n := 5) (Nat.le_of_ble_eq_true rfl)
  rw [lg_entry_eq]
  generalize (lg_sl ([.ref h, .int i, .int w]) ++ List.replicate (5 - (lg_sl ([.ref h, .int i, .int w])).length) Slot.unset).toArray = ls at hl ⊢
  have hl : lv_has ls 5 [(0, .ref h), (1, .int i), (2, .int w)] := hl
  refine lv_aload_n hx hb dS_numberOf16Bits_0 rfl (lv_at hl 0 rfl) ?_
  refine lv_iload_n hx hb dS_numberOf16Bits_1 rfl (lv_at hl 1 rfl) ?_
  refine lv_iload_n hx hb dS_numberOf16Bits_2 rfl (lv_at hl 2 rfl) ?_
  refine ro_V (r := (sPair f n i w)) (As := [.int i, .int w]) (rest := []) (n := 2) (C := "SignReader") S (cS_pairAt l D h qb qt cI n tl wy f g hn ht (i) (w)) k73 k1 k72 ks4 (by decide +kernel) ⟨rfl, rfl⟩ k70 (by decide) (xW_V hX) rfl rfl hl.1 (Nat.le_of_ble_eq_true rfl) ⟨Nat.le_refl _, Nat.le_refl _⟩ dS_numberOf16Bits_3 ?_
  refine lv_istore_n (lv' := [(3, .int (sPair f n i w)), (0, .ref h), (1, .int i), (2, .int w)]) hx hb dS_numberOf16Bits_6 rfl hl (by decide) rfl (fun ls hl => ?_)
  refine lv_iload_n hx hb dS_numberOf16Bits_7 rfl (lv_at hl 0 rfl) ?_
  refine lv_ldc (v := 55296) hx hb hown (hts _ k75) dS_numberOf16Bits_8 ?_
  refine lv_icmp_lt (tgt := 19) hx hb dS_numberOf16Bits_10 (by decide) (fun c1 => ?_) (fun c1 => ?_)
  · skip
    replace c1 := Int32.not_le.mpr c1
    refine lv_iload_n hx hb dS_numberOf16Bits_19 rfl (lv_at hl 0 rfl) ?_
    exact ro_ret S hr hk (by simp only [sN16, c1, ↓reduceIte]) dS_numberOf16Bits_20
  · skip
    replace c1 := Int32.not_lt.mp c1
    refine lv_iload_n hx hb dS_numberOf16Bits_13 rfl (lv_at hl 0 rfl) ?_
    refine lv_ldc (v := 56319) hx hb hown (hts _ k76) dS_numberOf16Bits_14 ?_
    refine lv_icmp_le (tgt := 21) hx hb dS_numberOf16Bits_16 (by decide) (fun c2 => ?_) (fun c2 => ?_)
    · skip
      refine lv_aload_n hx hb dS_numberOf16Bits_21 rfl (lv_at hl 1 rfl) ?_
      refine lv_iload_n hx hb dS_numberOf16Bits_22 rfl (lv_at hl 2 rfl) ?_
      refine lv_iconst (v := 2) hx hb dS_numberOf16Bits_23 (by decide) ?_
      refine lv_iadd hx hb dS_numberOf16Bits_24 ?_
      refine lv_iload_n hx hb dS_numberOf16Bits_25 rfl (lv_at hl 3 rfl) ?_
      refine ro_V (r := (sPair f n ((i + 2)) w)) (As := [.int (i + 2), .int w]) (rest := []) (n := 2) (C := "SignReader") S (cS_pairAt l D h qb qt cI n tl wy f g hn ht ((i + 2)) (w)) k73 k1 k72 ks4 (by decide +kernel) ⟨rfl, rfl⟩ k70 (by decide) (xW_V hX) rfl rfl hl.1 (Nat.le_of_ble_eq_true rfl) ⟨Nat.le_refl _, Nat.le_refl _⟩ dS_numberOf16Bits_26 ?_
      refine lv_istore (lv' := [(4, .int (sPair f n ((i + 2)) w)), (3, .int (sPair f n i w)), (0, .ref h), (1, .int i), (2, .int w)]) hx hb dS_numberOf16Bits_29 hl (by decide) rfl (fun ls hl => ?_)
      refine lv_iload hx hb dS_numberOf16Bits_31 (lv_at hl 0 rfl) ?_
      refine lv_ldc (v := 56320) hx hb hown (hts _ k77) dS_numberOf16Bits_33 ?_
      refine lv_icmp_lt (tgt := 45) hx hb dS_numberOf16Bits_35 (by decide) (fun c3 => ?_) (fun c3 => ?_)
      · skip
        replace c3 := Int32.not_le.mpr c3
        refine lv_iload_n hx hb dS_numberOf16Bits_45 rfl (lv_at hl 1 rfl) ?_
        exact ro_ret S hr hk (by simp only [sN16, c1, c2, c3, ↓reduceIte]) dS_numberOf16Bits_46
      · skip
        replace c3 := Int32.not_lt.mp c3
        refine lv_iload hx hb dS_numberOf16Bits_38 (lv_at hl 0 rfl) ?_
        refine lv_ldc (v := 57343) hx hb hown (hts _ k78) dS_numberOf16Bits_40 ?_
        refine lv_icmp_le (tgt := 47) hx hb dS_numberOf16Bits_42 (by decide) (fun c4 => ?_) (fun c4 => ?_)
        · skip
          refine lv_ldc (v := 65536) hx hb hown (hts _ k79) dS_numberOf16Bits_47 ?_
          refine lv_sipush (v := 1024) hx hb dS_numberOf16Bits_49 (by decide) ?_
          refine lv_iload_n hx hb dS_numberOf16Bits_52 rfl (lv_at hl 1 rfl) ?_
          refine lv_ldc (v := 55296) hx hb hown (hts _ k75) dS_numberOf16Bits_53 ?_
          refine lv_isub hx hb dS_numberOf16Bits_55 ?_
          refine lv_imul hx hb dS_numberOf16Bits_56 ?_
          refine lv_iadd hx hb dS_numberOf16Bits_57 ?_
          refine lv_iload hx hb dS_numberOf16Bits_58 (lv_at hl 0 rfl) ?_
          refine lv_ldc (v := 56320) hx hb hown (hts _ k77) dS_numberOf16Bits_60 ?_
          refine lv_isub hx hb dS_numberOf16Bits_62 ?_
          refine lv_iadd hx hb dS_numberOf16Bits_63 ?_
          exact ro_ret S hr hk (by simp only [sN16, c1, c2, c3, c4, ↓reduceIte]) dS_numberOf16Bits_64
        · skip
          refine lv_iload_n hx hb dS_numberOf16Bits_45 rfl (lv_at hl 1 rfl) ?_
          exact ro_ret S hr hk (by simp only [sN16, c1, c2, c3, c4, ↓reduceIte]) dS_numberOf16Bits_46
    · skip
      refine lv_iload_n hx hb dS_numberOf16Bits_19 rfl (lv_at hl 0 rfl) ?_
      exact ro_ret S hr hk (by simp only [sN16, c1, c2, ↓reduceIte]) dS_numberOf16Bits_20
end
section
/-! the class: numbers out of bytes -/
def bN (a : Int32) : Nat := if a &&& 224 = 192 then 1 else if a &&& 240 = 224 then 2 else if a &&& 248 = 240 then 3 else 0
theorem sBehind_nI (a : Int32) : sBehind a = nI (bN a) := by
  unfold sBehind bN
  split
  · rfl
  · split
    · rfl
    · split <;> rfl
theorem bN_le (a : Int32) : bN a ≤ 3 := by
  unfold bN
  split
  · omega
  · split
    · omega
    · split <;> omega
def sTail (f : Nat → Int32) (n : Nat) (i : Int32) : Nat → Nat → Int32 → Option Int32
  | 0, _, v => some v
  | j + 1, k, v => if 128 ≤ sCame f n (i + nI k) then (if sCame f n (i + nI k) ≤ 191 then sTail f n i j (k + 1) (v * 64 + (sCame f n (i + nI k) - 128)) else none) else none
def sFin (B : Nat) : Option Int32 → Int32
  | none => -1
  | some v => if sSize8 v = nI B + 1 then v else -1
def sN8 (f : Nat → Int32) (n : Nat) (i : Int32) : Int32 := if 128 ≤ sCame f n i then (if sBehind (sCame f n i) = 0 then -1 else sFin (bN (sCame f n i)) (sTail f n i (bN (sCame f n i)) 1 (sCame f n i &&& (63 >>> (sBehind (sCame f n i) &&& 31))))) else sCame f n i
set_option maxHeartbeats 4000000 in
set_option maxRecDepth 100000 in
theorem cS_numberOf8Bits (l : Launch) (D : va_G) (h qb qt : Nat) (cI : ClassId) (n tl : Nat) (wy : Int32) (f g : Nat → Int32) (hn : n ≤ 4096) (ht : tl ≤ 4096) (i : Int32) : Met l yS_numberOf8Bits (Cond.code yS_numberOf8Bits prog_1_method_21_code 7 (some .int) :: TB) { frames := 2, cells := 0, slots := 0, locals := 42 } (gx (xW D h qb qt cI n tl wy f g) [.ref h, .int i]) (QcRead (sN8 f n i)) 0 0 (fun _ => False) := by
  refine mt_of (by decide) ?_
  intro p e s m args below meth cd S hr hk hin hv
  obtain ⟨rfl, hX⟩ := hv
  have hP := hX.1
  have hK := hX.2
  have hx := S.1
  have hb := S.2.1
  have hown := S.2.2.2.1
  have hts := S.2.2.2.2
  have hl := lv_entry ([.ref h, .int i]) (n := 7) (Nat.le_of_ble_eq_true rfl)
  rw [lg_entry_eq]
  generalize (lg_sl ([.ref h, .int i]) ++ List.replicate (7 - (lg_sl ([.ref h, .int i])).length) Slot.unset).toArray = ls at hl ⊢
  have hl : lv_has ls 7 [(0, .ref h), (1, .int i)] := hl
  refine lv_aload_n hx hb dS_numberOf8Bits_0 rfl (lv_at hl 0 rfl) ?_
  refine lv_iload_n hx hb dS_numberOf8Bits_1 rfl (lv_at hl 1 rfl) ?_
  refine ro_V (r := (sCame f n i)) (As := [.int i]) (rest := []) (n := 1) (C := "SignReader") S (cS_came l D h qb qt cI n tl wy f g hn ht (i)) k50 k1 k48 k49 (by decide +kernel) ⟨rfl, rfl⟩ k74 (by decide) (xW_V hX) rfl rfl hl.1 (Nat.le_of_ble_eq_true rfl) ⟨Nat.le_refl _, Nat.le_refl _⟩ dS_numberOf8Bits_2 ?_
  refine lv_istore_n (lv' := [(2, .int (sCame f n i)), (0, .ref h), (1, .int i)]) hx hb dS_numberOf8Bits_5 rfl hl (by decide) rfl (fun ls hl => ?_)
  refine lv_iload_n hx hb dS_numberOf8Bits_6 rfl (lv_at hl 0 rfl) ?_
  refine lv_sipush (v := 128) hx hb dS_numberOf8Bits_7 (by decide) ?_
  refine lv_icmp_ge (tgt := 15) hx hb dS_numberOf8Bits_10 (by decide) (fun c1 => ?_) (fun c1 => ?_)
  · skip
    refine lv_iload_n hx hb dS_numberOf8Bits_15 rfl (lv_at hl 0 rfl) ?_
    refine ro_S (As := [.int (sCame f n i)]) (rest := []) (n := 1) S (cS_bytesBehind l ((sCame f n i))) k86 k1 k85 (by decide +kernel) ⟨rfl, rfl⟩ k84 (by decide) preEq rfl rfl hl.1 (Nat.le_of_ble_eq_true rfl) ⟨Nat.le_refl _, Nat.le_refl _⟩ dS_numberOf8Bits_16 ?_
    refine lv_istore_n (lv' := [(3, .int (sBehind (sCame f n i))), (2, .int (sCame f n i)), (0, .ref h), (1, .int i)]) hx hb dS_numberOf8Bits_19 rfl hl (by decide) rfl (fun ls hl => ?_)
    refine lv_iload_n hx hb dS_numberOf8Bits_20 rfl (lv_at hl 0 rfl) ?_
    refine lv_if_ne (tgt := 26) hx hb dS_numberOf8Bits_21 (by decide) (fun c2 => ?_) (fun c2 => ?_)
    · skip
      refine lv_iload_n hx hb dS_numberOf8Bits_26 rfl (lv_at hl 1 rfl) ?_
      refine lv_bipush (v := 63) hx hb dS_numberOf8Bits_27 (by decide) ?_
      refine lv_iload_n hx hb dS_numberOf8Bits_29 rfl (lv_at hl 0 rfl) ?_
      refine lv_ishr hx hb dS_numberOf8Bits_30 ?_
      refine lv_iand hx hb dS_numberOf8Bits_31 ?_
      refine lv_istore (lv' := [(4, .int ((sCame f n i) &&& ((63 : Int32) >>> ((sBehind (sCame f n i)) &&& 31) : Int32))), (3, .int (sBehind (sCame f n i))), (2, .int (sCame f n i)), (0, .ref h), (1, .int i)]) hx hb dS_numberOf8Bits_32 hl (by decide) rfl (fun ls hl => ?_)
      refine lv_iconst (v := 1) hx hb dS_numberOf8Bits_34 (by decide) ?_
      refine lv_istore (lv' := [(5, .int 1), (4, .int ((sCame f n i) &&& ((63 : Int32) >>> ((sBehind (sCame f n i)) &&& 31) : Int32))), (3, .int (sBehind (sCame f n i))), (2, .int (sCame f n i)), (0, .ref h), (1, .int i)]) hx hb dS_numberOf8Bits_35 hl (by decide) rfl (fun ls hl => ?_)
      have J37 : ∀ (fu : Nat) (v : Int32) (x : Int32) (k : Nat), x = nI k → k ≤ bN (sCame f n i) + 1 → bN (sCame f n i) + 1 < k + fu → sN8 f n i = sFin (bN (sCame f n i)) (sTail f n i (bN (sCame f n i) + 1 - k) k v) → ∀ ls : Array Slot, lv_has ls 7 [(3, .int (sBehind (sCame f n i))), (2, .int (sCame f n i)), (0, .ref h), (1, .int i), (4, .int v), (5, .int x)] → W p l e { frames := 2, cells := 0, slots := 0, locals := 42 } s m [.ref h, .int i].toArray below meth cd s.heap [] 0 0 (MQ below (QcRead (sN8 f n i)) [.ref h, .int i].toArray s 0 0 (fun _ => False)) (F0 m 37 ls []) := by
        intro fu
        induction fu with
        | zero =>
          intro v x k hx9 hk9 hf9 hR ls hl
          exact absurd hf9 (by omega)
        | succ fu ih =>
          intro v x k hx9 hk9 hf9 hR ls hl
          subst hx9
          have hB := bN_le (sCame f n i)
          refine lv_iload hx hb dS_numberOf8Bits_37 (lv_at hl 5 rfl) ?_
          refine lv_iload_n hx hb dS_numberOf8Bits_39 rfl (lv_at hl 0 rfl) ?_
          refine lv_icmp_gt (tgt := 91) hx hb dS_numberOf8Bits_40 (by decide) (fun c3 => ?_) (fun c3 => ?_)
          · skip
            replace c3 := Int32.not_le.mpr c3
            rw [sBehind_nI, nI_leI (by omega) (by omega)] at c3
            rw [show bN (sCame f n i) + 1 - k = 0 by omega] at hR
            refine lv_iload hx hb dS_numberOf8Bits_91 (lv_at hl 4 rfl) ?_
            refine ro_S (As := [.int v]) (rest := []) (n := 1) S (cS_sizeOf8Bits l (v)) k89 k1 k88 (by decide +kernel) ⟨rfl, rfl⟩ k87 (by decide) preEq rfl rfl hl.1 (Nat.le_of_ble_eq_true rfl) ⟨Nat.le_refl _, Nat.le_refl _⟩ dS_numberOf8Bits_93 ?_
            refine lv_iload_n hx hb dS_numberOf8Bits_96 rfl (lv_at hl 0 rfl) ?_
            refine lv_iconst (v := 1) hx hb dS_numberOf8Bits_97 (by decide) ?_
            refine lv_iadd hx hb dS_numberOf8Bits_98 ?_
            refine lv_icmp_ne (tgt := 107) hx hb dS_numberOf8Bits_99 (by decide) (fun c4 => ?_) (fun c4 => ?_)
            · skip
              refine lv_iconst (v := (-1)) hx hb dS_numberOf8Bits_107 (by decide) ?_
              exact ro_ret S hr hk (by rw [hR]; simp only [sTail, sFin, ← sBehind_nI, c4, ↓reduceIte]) dS_numberOf8Bits_108
            · skip
              refine lv_iload hx hb dS_numberOf8Bits_102 (lv_at hl 4 rfl) ?_
              refine lv_goto (tgt := 108) hx hb dS_numberOf8Bits_104 (by decide) ?_
              exact ro_ret S hr hk (by rw [hR]; simp only [sTail, sFin, ← sBehind_nI, c4, ↓reduceIte]) dS_numberOf8Bits_108
          · skip
            replace c3 := Int32.not_lt.mp c3
            rw [sBehind_nI, nI_leI (by omega) (by omega)] at c3
            rw [show bN (sCame f n i) + 1 - k = (bN (sCame f n i) - k) + 1 by omega] at hR
            simp only [sTail] at hR
            refine lv_aload_n hx hb dS_numberOf8Bits_43 rfl (lv_at hl 2 rfl) ?_
            refine lv_iload_n hx hb dS_numberOf8Bits_44 rfl (lv_at hl 3 rfl) ?_
            refine lv_iload hx hb dS_numberOf8Bits_45 (lv_at hl 5 rfl) ?_
            refine lv_iadd hx hb dS_numberOf8Bits_47 ?_
            refine ro_V (r := (sCame f n ((i + (nI k))))) (As := [.int (i + (nI k))]) (rest := []) (n := 1) (C := "SignReader") S (cS_came l D h qb qt cI n tl wy f g hn ht ((i + (nI k)))) k50 k1 k48 k49 (by decide +kernel) ⟨rfl, rfl⟩ k74 (by decide) (xW_V hX) rfl rfl hl.1 (Nat.le_of_ble_eq_true rfl) ⟨Nat.le_refl _, Nat.le_refl _⟩ dS_numberOf8Bits_48 ?_
            refine lv_istore (lv' := [(6, .int (sCame f n ((i + (nI k))))), (3, .int (sBehind (sCame f n i))), (2, .int (sCame f n i)), (0, .ref h), (1, .int i), (4, .int v), (5, .int (nI k))]) hx hb dS_numberOf8Bits_51 hl (by decide) rfl (fun ls hl => ?_)
            refine lv_iload hx hb dS_numberOf8Bits_53 (lv_at hl 0 rfl) ?_
            refine lv_sipush (v := 128) hx hb dS_numberOf8Bits_55 (by decide) ?_
            refine lv_icmp_lt (tgt := 69) hx hb dS_numberOf8Bits_58 (by decide) (fun c5 => ?_) (fun c5 => ?_)
            · skip
              replace c5 := Int32.not_le.mpr c5
              refine lv_iconst (v := (-1)) hx hb dS_numberOf8Bits_69 (by decide) ?_
              exact ro_ret S hr hk (by rw [hR]; simp only [sFin, c3, c5, ↓reduceIte]) dS_numberOf8Bits_70
            · skip
              replace c5 := Int32.not_lt.mp c5
              refine lv_iload hx hb dS_numberOf8Bits_61 (lv_at hl 0 rfl) ?_
              refine lv_sipush (v := 191) hx hb dS_numberOf8Bits_63 (by decide) ?_
              refine lv_icmp_le (tgt := 71) hx hb dS_numberOf8Bits_66 (by decide) (fun c6 => ?_) (fun c6 => ?_)
              · skip
                refine lv_iload hx hb dS_numberOf8Bits_71 (lv_at hl 5 rfl) ?_
                refine lv_bipush (v := 64) hx hb dS_numberOf8Bits_73 (by decide) ?_
                refine lv_imul hx hb dS_numberOf8Bits_75 ?_
                refine lv_iload hx hb dS_numberOf8Bits_76 (lv_at hl 0 rfl) ?_
                refine lv_sipush (v := 128) hx hb dS_numberOf8Bits_78 (by decide) ?_
                refine lv_isub hx hb dS_numberOf8Bits_81 ?_
                refine lv_iadd hx hb dS_numberOf8Bits_82 ?_
                refine lv_istore (lv' := [(4, .int ((v * 64) + ((sCame f n ((i + (nI k)))) - 128))), (6, .int (sCame f n ((i + (nI k))))), (3, .int (sBehind (sCame f n i))), (2, .int (sCame f n i)), (0, .ref h), (1, .int i), (5, .int (nI k))]) hx hb dS_numberOf8Bits_83 hl (by decide) rfl (fun ls hl => ?_)
                refine lv_iinc (v := ((nI k) + 1)) (lv' := [(5, .int ((nI k) + 1)), (4, .int ((v * 64) + ((sCame f n ((i + (nI k)))) - 128))), (6, .int (sCame f n ((i + (nI k))))), (3, .int (sBehind (sCame f n i))), (2, .int (sCame f n i)), (0, .ref h), (1, .int i)]) hx hb dS_numberOf8Bits_85 hl (k := 6) rfl rfl (by decide) rfl (fun ls hl => ?_)
                refine lv_goto (tgt := 37) hx hb dS_numberOf8Bits_88 (by decide) ?_
                exact ih (((v * 64) + ((sCame f n ((i + (nI k)))) - 128))) (((nI k) + 1)) (k + 1) (nI_1 k) (by omega) (by omega) (by rw [hR]; simp only [c5, c6, ↓reduceIte]; rw [show bN (sCame f n i) + 1 - (k + 1) = bN (sCame f n i) - k by omega]) ls (lv_sub hl [3, 4, 5, 6, 1, 0] rfl) 
              · skip
                refine lv_iconst (v := (-1)) hx hb dS_numberOf8Bits_69 (by decide) ?_
                exact ro_ret S hr hk (by rw [hR]; simp only [sFin, c5, c6, ↓reduceIte]) dS_numberOf8Bits_70
      exact J37 (bN (sCame f n i) + 2) (((sCame f n i) &&& ((63 : Int32) >>> ((sBehind (sCame f n i)) &&& 31) : Int32))) (1) (1) (rfl) (by omega) (by omega) (by simp only [sN8, c1, c2, ↓reduceIte, Nat.add_sub_cancel]) ls (lv_sub hl [2, 3, 4, 5, 1, 0] rfl) 
    · skip
      refine lv_iconst (v := (-1)) hx hb dS_numberOf8Bits_24 (by decide) ?_
      exact ro_ret S hr hk (by simp only [sN8, c1, c2, ↓reduceIte]) dS_numberOf8Bits_25
  · skip
    refine lv_iload_n hx hb dS_numberOf8Bits_13 rfl (lv_at hl 0 rfl) ?_
    exact ro_ret S hr hk (by simp only [sN8, c1, ↓reduceIte]) dS_numberOf8Bits_14
def sN (f : Nat → Int32) (n : Nat) (i w : Int32) : Int32 := if s16 w = true then sN16 f n i w else sN8 f n i
set_option maxHeartbeats 4000000 in
set_option maxRecDepth 100000 in
theorem cS_numberAt (l : Launch) (D : va_G) (h qb qt : Nat) (cI : ClassId) (n tl : Nat) (wy : Int32) (f g : Nat → Int32) (hn : n ≤ 4096) (ht : tl ≤ 4096) (i w : Int32) : Met l yS_numberAt (Cond.code yS_numberAt prog_1_method_20_code 3 (some .int) :: TB) { frames := 4, cells := 0, slots := 0, locals := 90 } (gx (xW D h qb qt cI n tl wy f g) [.ref h, .int i, .int w]) (QcRead (sN f n i w)) 0 0 (fun _ => False) := by
  refine mt_of (by decide) ?_
  intro p e s m args below meth cd S hr hk hin hv
  obtain ⟨rfl, hX⟩ := hv
  have hP := hX.1
  have hK := hX.2
  have hx := S.1
  have hb := S.2.1
  have hown := S.2.2.2.1
  have hts := S.2.2.2.2
  have hl := lv_entry ([.ref h, .int i, .int w]) (n := 3) (Nat.le_of_ble_eq_true rfl)
  rw [lg_entry_eq]
  generalize (lg_sl ([.ref h, .int i, .int w]) ++ List.replicate (3 - (lg_sl ([.ref h, .int i, .int w])).length) Slot.unset).toArray = ls at hl ⊢
  have hl : lv_has ls 3 [(0, .ref h), (1, .int i), (2, .int w)] := hl
  refine lv_iload_n hx hb dS_numberAt_0 rfl (lv_at hl 2 rfl) ?_
  refine ro_S (As := [.int w]) (rest := []) (n := 1) S (cS_isSixteenBits l (w)) k65 k1 k64 (by decide +kernel) ⟨rfl, rfl⟩ k63 (by decide) preEq rfl rfl hl.1 (Nat.le_of_ble_eq_true rfl) ⟨Nat.le_refl _, Nat.le_refl _⟩ dS_numberAt_1 ?_
  refine lv_if_eq (tgt := 16) hx hb dS_numberAt_4 (by decide) (fun c1 => ?_) (fun c1 => ?_)
  · skip
    replace c1 := bI_f c1
    refine lv_aload_n hx hb dS_numberAt_16 rfl (lv_at hl 0 rfl) ?_
    refine lv_iload_n hx hb dS_numberAt_17 rfl (lv_at hl 1 rfl) ?_
    refine ro_V (r := (sN8 f n i)) (As := [.int i]) (rest := []) (n := 1) (C := "SignReader") S (cS_numberOf8Bits l D h qb qt cI n tl wy f g hn ht (i)) k83 k1 k82 ks5 (by decide +kernel) ⟨rfl, rfl⟩ k80 (by decide) (xW_V hX) rfl rfl hl.1 (Nat.le_of_ble_eq_true rfl) ⟨Nat.le_refl _, Nat.le_refl _⟩ dS_numberAt_18 ?_
    exact ro_ret S hr hk (by simp [sN, c1]) dS_numberAt_21
  · skip
    replace c1 := bI_t c1
    refine lv_aload_n hx hb dS_numberAt_7 rfl (lv_at hl 0 rfl) ?_
    refine lv_iload_n hx hb dS_numberAt_8 rfl (lv_at hl 1 rfl) ?_
    refine lv_iload_n hx hb dS_numberAt_9 rfl (lv_at hl 2 rfl) ?_
    refine ro_V (r := (sN16 f n i w)) (As := [.int i, .int w]) (rest := []) (n := 2) (C := "SignReader") S (cS_numberOf16Bits l D h qb qt cI n tl wy f g hn ht (i) (w)) k69 k1 k68 ks3 (by decide +kernel) ⟨rfl, rfl⟩ k66 (by decide) (xW_V hX) rfl rfl hl.1 (Nat.le_of_ble_eq_true rfl) ⟨Nat.le_refl _, Nat.le_refl _⟩ dS_numberAt_10 ?_
    refine lv_goto (tgt := 21) hx hb dS_numberAt_13 (by decide) ?_
    exact ro_ret S hr hk (by simp [sN, c1]) dS_numberAt_21
def sWay (f : Nat → Int32) (n : Nat) : Int32 := if sN f n 0 1 = 65279 then 1 else if sN f n 0 2 = 65279 then 2 else if sN f n 0 3 = 65279 then 3 else 0
set_option maxHeartbeats 4000000 in
set_option maxRecDepth 100000 in
theorem cS_wayOfBytes (l : Launch) (D : va_G) (h qb qt : Nat) (cI : ClassId) (n tl : Nat) (wy : Int32) (f g : Nat → Int32) (hn : n ≤ 4096) (ht : tl ≤ 4096) : Met l yS_wayOfBytes (Cond.code yS_wayOfBytes prog_1_method_16_code 2 (some .int) :: TB) { frames := 5, cells := 0, slots := 0, locals := 112 } (gx (xW D h qb qt cI n tl wy f g) [.ref h]) (QcRead (sWay f n)) 0 0 (fun _ => False) := by
  refine mt_of (by decide) ?_
  intro p e s m args below meth cd S hr hk hin hv
  obtain ⟨rfl, hX⟩ := hv
  have hP := hX.1
  have hK := hX.2
  have hx := S.1
  have hb := S.2.1
  have hown := S.2.2.2.1
  have hts := S.2.2.2.2
  have hl := lv_entry ([.ref h]) (n := 2) (Nat.le_of_ble_eq_true rfl)
  rw [lg_entry_eq]
  generalize (lg_sl ([.ref h]) ++ List.replicate (2 - (lg_sl ([.ref h])).length) Slot.unset).toArray = ls at hl ⊢
  have hl : lv_has ls 2 [(0, .ref h)] := hl
  refine lv_iconst (v := 1) hx hb dS_wayOfBytes_0 (by decide) ?_
  refine lv_istore_n (lv' := [(1, .int 1), (0, .ref h)]) hx hb dS_wayOfBytes_1 rfl hl (by decide) rfl (fun ls hl => ?_)
  refine lv_iload_n hx hb dS_wayOfBytes_2 rfl (lv_at hl 0 rfl) ?_
  refine lv_iconst (v := 3) hx hb dS_wayOfBytes_3 (by decide) ?_
  refine lv_icmp_gt (tgt := 26) hx hb dS_wayOfBytes_4 (by decide) (fun c1 => absurd c1 (by decide)) (fun c1 => ?_)
  refine lv_aload_n hx hb dS_wayOfBytes_7 rfl (lv_at hl 1 rfl) ?_
  refine lv_iconst (v := 0) hx hb dS_wayOfBytes_8 (by decide) ?_
  refine lv_iload_n hx hb dS_wayOfBytes_9 rfl (lv_at hl 0 rfl) ?_
  refine ro_V (r := (sN f n 0 1)) (As := [.int 0, .int 1]) (rest := []) (n := 2) (C := "SignReader") S (cS_numberAt l D h qb qt cI n tl wy f g hn ht (0) (1)) k62 k1 k61 ks2 (by decide +kernel) ⟨rfl, rfl⟩ k59 (by decide) (xW_V hX) rfl rfl hl.1 (Nat.le_of_ble_eq_true rfl) ⟨Nat.le_refl _, Nat.le_refl _⟩ dS_wayOfBytes_10 ?_
  refine lv_ldc (v := 65279) hx hb hown (hts _ k90) dS_wayOfBytes_13 ?_
  refine lv_icmp_ne (tgt := 20) hx hb dS_wayOfBytes_15 (by decide) (fun c2 => ?_) (fun c2 => ?_)
  · skip
    refine lv_iinc (v := 2) (lv' := [(1, .int 2), (0, .ref h)]) hx hb dS_wayOfBytes_20 hl (k := 0) rfl (by decide) (by decide) rfl (fun ls hl => ?_)
    refine lv_goto (tgt := 2) hx hb dS_wayOfBytes_23 (by decide) ?_
    refine lv_iload_n hx hb dS_wayOfBytes_2 rfl (lv_at hl 0 rfl) ?_
    refine lv_iconst (v := 3) hx hb dS_wayOfBytes_3 (by decide) ?_
    refine lv_icmp_gt (tgt := 26) hx hb dS_wayOfBytes_4 (by decide) (fun c3 => absurd c3 (by decide)) (fun c3 => ?_)
    refine lv_aload_n hx hb dS_wayOfBytes_7 rfl (lv_at hl 1 rfl) ?_
    refine lv_iconst (v := 0) hx hb dS_wayOfBytes_8 (by decide) ?_
    refine lv_iload_n hx hb dS_wayOfBytes_9 rfl (lv_at hl 0 rfl) ?_
    refine ro_V (r := (sN f n 0 2)) (As := [.int 0, .int 2]) (rest := []) (n := 2) (C := "SignReader") S (cS_numberAt l D h qb qt cI n tl wy f g hn ht (0) (2)) k62 k1 k61 ks2 (by decide +kernel) ⟨rfl, rfl⟩ k59 (by decide) (xW_V hX) rfl rfl hl.1 (Nat.le_of_ble_eq_true rfl) ⟨Nat.le_refl _, Nat.le_refl _⟩ dS_wayOfBytes_10 ?_
    refine lv_ldc (v := 65279) hx hb hown (hts _ k90) dS_wayOfBytes_13 ?_
    refine lv_icmp_ne (tgt := 20) hx hb dS_wayOfBytes_15 (by decide) (fun c4 => ?_) (fun c4 => ?_)
    · skip
      refine lv_iinc (v := 3) (lv' := [(1, .int 3), (0, .ref h)]) hx hb dS_wayOfBytes_20 hl (k := 0) rfl (by decide) (by decide) rfl (fun ls hl => ?_)
      refine lv_goto (tgt := 2) hx hb dS_wayOfBytes_23 (by decide) ?_
      refine lv_iload_n hx hb dS_wayOfBytes_2 rfl (lv_at hl 0 rfl) ?_
      refine lv_iconst (v := 3) hx hb dS_wayOfBytes_3 (by decide) ?_
      refine lv_icmp_gt (tgt := 26) hx hb dS_wayOfBytes_4 (by decide) (fun c5 => absurd c5 (by decide)) (fun c5 => ?_)
      refine lv_aload_n hx hb dS_wayOfBytes_7 rfl (lv_at hl 1 rfl) ?_
      refine lv_iconst (v := 0) hx hb dS_wayOfBytes_8 (by decide) ?_
      refine lv_iload_n hx hb dS_wayOfBytes_9 rfl (lv_at hl 0 rfl) ?_
      refine ro_V (r := (sN f n 0 3)) (As := [.int 0, .int 3]) (rest := []) (n := 2) (C := "SignReader") S (cS_numberAt l D h qb qt cI n tl wy f g hn ht (0) (3)) k62 k1 k61 ks2 (by decide +kernel) ⟨rfl, rfl⟩ k59 (by decide) (xW_V hX) rfl rfl hl.1 (Nat.le_of_ble_eq_true rfl) ⟨Nat.le_refl _, Nat.le_refl _⟩ dS_wayOfBytes_10 ?_
      refine lv_ldc (v := 65279) hx hb hown (hts _ k90) dS_wayOfBytes_13 ?_
      refine lv_icmp_ne (tgt := 20) hx hb dS_wayOfBytes_15 (by decide) (fun c6 => ?_) (fun c6 => ?_)
      · skip
        refine lv_iinc (v := 4) (lv' := [(1, .int 4), (0, .ref h)]) hx hb dS_wayOfBytes_20 hl (k := 0) rfl (by decide) (by decide) rfl (fun ls hl => ?_)
        refine lv_goto (tgt := 2) hx hb dS_wayOfBytes_23 (by decide) ?_
        refine lv_iload_n hx hb dS_wayOfBytes_2 rfl (lv_at hl 0 rfl) ?_
        refine lv_iconst (v := 3) hx hb dS_wayOfBytes_3 (by decide) ?_
        refine lv_icmp_gt (tgt := 26) hx hb dS_wayOfBytes_4 (by decide) (fun c7 => ?_) (fun c7 => absurd c7 (by decide))
        refine lv_iconst (v := 0) hx hb dS_wayOfBytes_26 (by decide) ?_
        exact ro_ret S hr hk (by simp [sWay, c2, c4, c6]) dS_wayOfBytes_27
      · skip
        refine lv_iload_n hx hb dS_wayOfBytes_18 rfl (lv_at hl 0 rfl) ?_
        exact ro_ret S hr hk (by simp [sWay, c2, c4, c6]) dS_wayOfBytes_19
    · skip
      refine lv_iload_n hx hb dS_wayOfBytes_18 rfl (lv_at hl 0 rfl) ?_
      exact ro_ret S hr hk (by simp [sWay, c2, c4]) dS_wayOfBytes_19
  · skip
    refine lv_iload_n hx hb dS_wayOfBytes_18 rfl (lv_at hl 0 rfl) ?_
    exact ro_ret S hr hk (by simp [sWay, c2]) dS_wayOfBytes_19
def sRef (f : Nat → Int32) (n : Nat) (w : Int32) : Nat → Int32 → Int32
  | 0, _ => -1
  | j + 1, x => if nI n ≤ x then -1 else if sChar (sN f n x w) = true then sRef f n w j (x + sSize (sN f n x w) w) else x
def sPlace (f : Nat → Int32) (n : Nat) (w : Int32) : Int32 := sRef f n w 4096 (sMark w)
def xWC (D : va_G) (h qb qt : Nat) (cI : ClassId) (n tl : Nat) (wy : Int32) (f g : Nat → Int32) (tc : Nat) : State → Heap → Prop := fun U H => xW D h qb qt cI n tl wy f g U H ∧ xC tc U H
theorem xWC_V {D : va_G} {h qb qt : Nat} {cI : ClassId} {n tl : Nat} {wy : Int32} {f g : Nat → Int32} {tc : Nat} {s : State} {H : Heap} {As : List Value} (q : xWC D h qb qt cI n tl wy f g tc s H) : PreV s H "SignReader" h (gx (xWC D h qb qt cI n tl wy f g tc) (.ref h :: As)) As := gx_V (ok_and xW_ok xC_ok) q (va_recv q.1.2 q.1.1 (ci := 0) (q0 := 0) (q := ("SignReader", T_S, 5)) rfl rfl)
set_option maxHeartbeats 4000000 in
set_option maxRecDepth 100000 in
theorem cS_placeRefused (l : Launch) (D : va_G) (h qb qt : Nat) (cI : ClassId) (n tl : Nat) (wy : Int32) (f g : Nat → Int32) (hn : n ≤ 4096) (ht : tl ≤ 4096) (tc : Nat) (w : Int32) : Met l yS_placeRefused (Cond.code yS_placeRefused prog_1_method_17_code 5 (some .int) :: TB) { frames := 5, cells := 0, slots := 0, locals := 112 } (gx (xWC D h qb qt cI n tl wy f g tc) [.ref h, .int w]) (QcRead (sPlace f n w)) 0 0 (fun _ => False) := by
  refine mt_of (by decide) ?_
  intro p e s m args below meth cd S hr hk hin hv
  obtain ⟨rfl, hX⟩ := hv
  have hP := hX.1.1
  have hK := hX.1.2
  have hx := S.1
  have hb := S.2.1
  have hown := S.2.2.2.1
  have hts := S.2.2.2.2
  have hl := lv_entry ([.ref h, .int w]) (n := 5) (Nat.le_of_ble_eq_true rfl)
  rw [lg_entry_eq]
  generalize (lg_sl ([.ref h, .int w]) ++ List.replicate (5 - (lg_sl ([.ref h, .int w])).length) Slot.unset).toArray = ls at hl ⊢
  have hl : lv_has ls 5 [(0, .ref h), (1, .int w)] := hl
  refine lv_iload_n hx hb dS_placeRefused_0 rfl (lv_at hl 1 rfl) ?_
  refine ro_S (As := [.int w]) (rest := []) (n := 1) S (cS_sizeOfMark l (w)) k97 k1 k96 (by decide +kernel) ⟨rfl, rfl⟩ k95 (by decide) preEq rfl rfl hl.1 (Nat.le_of_ble_eq_true rfl) ⟨Nat.le_refl _, Nat.le_refl _⟩ dS_placeRefused_1 ?_
  refine lv_istore_n (lv' := [(2, .int (sMark w)), (0, .ref h), (1, .int w)]) hx hb dS_placeRefused_4 rfl hl (by decide) rfl (fun ls hl => ?_)
  refine lv_iconst (v := 0) hx hb dS_placeRefused_5 (by decide) ?_
  refine lv_istore_n (lv' := [(3, .int 0), (2, .int (sMark w)), (0, .ref h), (1, .int w)]) hx hb dS_placeRefused_6 rfl hl (by decide) rfl (fun ls hl => ?_)
  have J7 : ∀ (fu : Nat) (z : Int32) (x : Int32) (k : Nat), x = nI k → k ≤ 4096 → 4096 < k + fu → sPlace f n w = sRef f n w (4096 - k) z → ∀ ls : Array Slot, lv_has ls 5 [(0, .ref h), (1, .int w), (2, .int z), (3, .int x)] → W p l e { frames := 5, cells := 0, slots := 0, locals := 112 } s m [.ref h, .int w].toArray below meth cd s.heap [] 0 0 (MQ below (QcRead (sPlace f n w)) [.ref h, .int w].toArray s 0 0 (fun _ => False)) (F0 m 7 ls []) := by
    intro fu
    induction fu with
    | zero =>
      intro z x k hx9 hk9 hf9 hR ls hl
      exact absurd hf9 (by omega)
    | succ fu ih =>
      intro z x k hx9 hk9 hf9 hR ls hl
      subst hx9
      refine lv_iload_n hx hb dS_placeRefused_7 rfl (lv_at hl 3 rfl) ?_
      refine lv_sipush (v := 4096) hx hb dS_placeRefused_8 (by decide) ?_
      refine lv_icmp_ge (tgt := 55) hx hb dS_placeRefused_11 (by decide) (fun c1 => ?_) (fun c1 => ?_)
      · skip
        rw [show (4096 : Int32) = nI 4096 from rfl, nI_leI (by omega) (by omega)] at c1
        rw [show 4096 - k = 0 by omega] at hR
        refine lv_iconst (v := (-1)) hx hb dS_placeRefused_55 (by decide) ?_
        exact ro_ret S hr hk (by rw [hR]; rfl) dS_placeRefused_56
      · skip
        rw [show (4096 : Int32) = nI 4096 from rfl, nI_leI (by omega) (by omega)] at c1
        rw [show 4096 - k = (4095 - k) + 1 by omega] at hR
        simp only [sRef] at hR
        refine lv_iload_n hx hb dS_placeRefused_14 rfl (lv_at hl 2 rfl) ?_
        refine lv_aload_n hx hb dS_placeRefused_15 rfl (lv_at hl 0 rfl) ?_
        refine va_get (D := D) (ci := 0) (v := .int (nI n)) (C := "SignReader") (T := T_S) (N := 5) hx hb hts i_S hown hK hP 0 rfl rfl 2 (by decide) (hts _ k24) (fun _ h9 => h9) rfl dS_placeRefused_16 ?_
        refine lv_icmp_ge (tgt := 55) hx hb dS_placeRefused_19 (by decide) (fun c2 => ?_) (fun c2 => ?_)
        · skip
          refine lv_iconst (v := (-1)) hx hb dS_placeRefused_55 (by decide) ?_
          exact ro_ret S hr hk (by rw [hR]; simp only [sRef, c2, Bool.false_eq_true, ↓reduceIte]) dS_placeRefused_56
        · skip
          refine lv_aload_n hx hb dS_placeRefused_22 rfl (lv_at hl 0 rfl) ?_
          refine lv_iload_n hx hb dS_placeRefused_23 rfl (lv_at hl 2 rfl) ?_
          refine lv_iload_n hx hb dS_placeRefused_24 rfl (lv_at hl 1 rfl) ?_
          refine ro_V (r := (sN f n z w)) (As := [.int z, .int w]) (rest := []) (n := 2) (C := "SignReader") S (cS_numberAt l D h qb qt cI n tl wy f g hn ht (z) (w)) k62 k1 k61 ks2 (by decide +kernel) ⟨rfl, rfl⟩ k59 (by decide) (xW_V hX.1) rfl rfl hl.1 (Nat.le_of_ble_eq_true rfl) ⟨Nat.le_refl _, Nat.le_refl _⟩ dS_placeRefused_25 ?_
          refine lv_istore (lv' := [(4, .int (sN f n z w)), (0, .ref h), (1, .int w), (2, .int z), (3, .int (nI k))]) hx hb dS_placeRefused_28 hl (by decide) rfl (fun ls hl => ?_)
          refine lv_iload hx hb dS_placeRefused_30 (lv_at hl 0 rfl) ?_
          refine ro_S (As := [.int (sN f n z w)]) (rest := []) (n := 1) S (cS_isCharacter l tc ((sN f n z w))) k106 k1 k105 (by decide +kernel) ⟨rfl, rfl⟩ k104 (by decide) (gx_S xC_ok hX.2) rfl rfl hl.1 (Nat.le_of_ble_eq_true rfl) ⟨Nat.le_refl _, Nat.le_refl _⟩ dS_placeRefused_32 ?_
          refine lv_if_ne (tgt := 40) hx hb dS_placeRefused_35 (by decide) (fun c3 => ?_) (fun c3 => ?_)
          · skip
            replace c3 := bI_t c3
            refine lv_iload_n hx hb dS_placeRefused_40 rfl (lv_at hl 3 rfl) ?_
            refine lv_iload hx hb dS_placeRefused_41 (lv_at hl 0 rfl) ?_
            refine lv_iload_n hx hb dS_placeRefused_43 rfl (lv_at hl 2 rfl) ?_
            refine ro_S (As := [.int (sN f n z w), .int w]) (rest := [.int z]) (n := 2) S (cS_sizeOf l ((sN f n z w)) (w)) k100 k1 k99 (by decide +kernel) ⟨rfl, rfl⟩ k98 (by decide) preEq rfl rfl hl.1 (Nat.le_of_ble_eq_true rfl) ⟨Nat.le_refl _, Nat.le_refl _⟩ dS_placeRefused_44 ?_
            refine lv_iadd hx hb dS_placeRefused_47 ?_
            refine lv_istore_n (lv' := [(2, .int (z + (sSize (sN f n z w) w))), (4, .int (sN f n z w)), (0, .ref h), (1, .int w), (3, .int (nI k))]) hx hb dS_placeRefused_48 rfl hl (by decide) rfl (fun ls hl => ?_)
            refine lv_iinc (v := ((nI k) + 1)) (lv' := [(3, .int ((nI k) + 1)), (2, .int (z + (sSize (sN f n z w) w))), (4, .int (sN f n z w)), (0, .ref h), (1, .int w)]) hx hb dS_placeRefused_49 hl (k := 4) rfl rfl (by decide) rfl (fun ls hl => ?_)
            refine lv_goto (tgt := 7) hx hb dS_placeRefused_52 (by decide) ?_
            exact ih ((z + (sSize (sN f n z w) w))) (((nI k) + 1)) (k + 1) (nI_1 k) (by omega) (by omega) (by rw [hR]; simp only [c2, c3, ↓reduceIte]; rw [show 4096 - (k + 1) = 4095 - k by omega]) ls (lv_sub hl [3, 4, 1, 0] rfl) 
          · skip
            replace c3 := bI_f c3
            refine lv_iload_n hx hb dS_placeRefused_38 rfl (lv_at hl 3 rfl) ?_
            exact ro_ret S hr hk (by rw [hR]; simp only [sRef, c2, c3, Bool.false_eq_true, ↓reduceIte]) dS_placeRefused_39
  exact J7 (4097) ((sMark w)) (0) (0) (rfl) (by omega) (by omega) (by unfold sPlace; rw [Nat.sub_zero]) ls (lv_sub hl [2, 3, 1, 0] rfl) 
def sWr (g : Nat → Int32) (w : Int32) : Nat → Int32
  | 0 => sMark w
  | k + 1 => sWr g w k + sSize (g k) w
set_option maxHeartbeats 4000000 in
set_option maxRecDepth 100000 in
theorem cS_sizeWritten (l : Launch) (D : va_G) (h qb qt : Nat) (cI : ClassId) (n tl : Nat) (wy : Int32) (f g : Nat → Int32) (hn : n ≤ 4096) (ht : tl ≤ 4096) (w : Int32) : Met l yS_sizeWritten (Cond.code yS_sizeWritten prog_1_method_25_code 4 (some .int) :: TB) { frames := 3, cells := 0, slots := 0, locals := 61 } (gx (xW D h qb qt cI n tl wy f g) [.ref h, .int w]) (QcRead (sWr g w tl)) 0 0 (fun _ => False) := by
  refine mt_of (by decide) ?_
  intro p e s m args below meth cd S hr hk hin hv
  obtain ⟨rfl, hX⟩ := hv
  have hP := hX.1
  have hK := hX.2
  have hx := S.1
  have hb := S.2.1
  have hown := S.2.2.2.1
  have hts := S.2.2.2.2
  have hl := lv_entry ([.ref h, .int w]) (n := 4) (Nat.le_of_ble_eq_true rfl)
  rw [lg_entry_eq]
  generalize (lg_sl ([.ref h, .int w]) ++ List.replicate (4 - (lg_sl ([.ref h, .int w])).length) Slot.unset).toArray = ls at hl ⊢
  have hl : lv_has ls 4 [(0, .ref h), (1, .int w)] := hl
  refine lv_iload_n hx hb dS_sizeWritten_0 rfl (lv_at hl 1 rfl) ?_
  refine ro_S (As := [.int w]) (rest := []) (n := 1) S (cS_sizeOfMark l (w)) k97 k1 k96 (by decide +kernel) ⟨rfl, rfl⟩ k95 (by decide) preEq rfl rfl hl.1 (Nat.le_of_ble_eq_true rfl) ⟨Nat.le_refl _, Nat.le_refl _⟩ dS_sizeWritten_1 ?_
  refine lv_istore_n (lv' := [(2, .int (sMark w)), (0, .ref h), (1, .int w)]) hx hb dS_sizeWritten_4 rfl hl (by decide) rfl (fun ls hl => ?_)
  refine lv_iconst (v := 0) hx hb dS_sizeWritten_5 (by decide) ?_
  refine lv_istore_n (lv' := [(3, .int 0), (2, .int (sMark w)), (0, .ref h), (1, .int w)]) hx hb dS_sizeWritten_6 rfl hl (by decide) rfl (fun ls hl => ?_)
  have J7 : ∀ (fu : Nat) (z : Int32) (x : Int32) (k : Nat), x = nI k → k ≤ tl → tl < k + fu → z = sWr g w k → ∀ ls : Array Slot, lv_has ls 4 [(0, .ref h), (1, .int w), (2, .int z), (3, .int x)] → W p l e { frames := 3, cells := 0, slots := 0, locals := 61 } s m [.ref h, .int w].toArray below meth cd s.heap [] 0 0 (MQ below (QcRead (sWr g w tl)) [.ref h, .int w].toArray s 0 0 (fun _ => False)) (F0 m 7 ls []) := by
    intro fu
    induction fu with
    | zero =>
      intro z x k hx9 hk9 hf9 hR ls hl
      exact absurd hf9 (by omega)
    | succ fu ih =>
      intro z x k hx9 hk9 hf9 hR ls hl
      subst hx9
      subst hR
      refine lv_iload_n hx hb dS_sizeWritten_7 rfl (lv_at hl 3 rfl) ?_
      refine lv_aload_n hx hb dS_sizeWritten_8 rfl (lv_at hl 0 rfl) ?_
      refine va_get (D := D) (ci := 0) (v := .int (nI tl)) (C := "SignReader") (T := T_S) (N := 5) hx hb hts i_S hown hK hP 0 rfl rfl 3 (by decide) (hts _ k25) (fun _ h9 => h9) rfl dS_sizeWritten_9 ?_
      refine lv_icmp_ge (tgt := 34) hx hb dS_sizeWritten_12 (by decide) (fun c1 => ?_) (fun c1 => ?_)
      · skip
        rw [nI_leI (by omega) (by omega)] at c1
        refine lv_iload_n hx hb dS_sizeWritten_34 rfl (lv_at hl 2 rfl) ?_
        exact ro_ret S hr hk (by rw [show k = tl by omega]) dS_sizeWritten_35
      · skip
        rw [nI_leI (by omega) (by omega)] at c1
        refine lv_iload_n hx hb dS_sizeWritten_15 rfl (lv_at hl 2 rfl) ?_
        refine lv_aload_n hx hb dS_sizeWritten_16 rfl (lv_at hl 0 rfl) ?_
        refine va_get (D := D) (ci := 0) (v := .ref qt) (C := "SignReader") (T := T_S) (N := 5) hx hb hts i_S hown hK hP 0 rfl rfl 1 (by decide) (hts _ k23) (fun _ h9 => h9) rfl dS_sizeWritten_17 ?_
        refine lv_iload_n hx hb dS_sizeWritten_20 rfl (lv_at hl 3 rfl) ?_
        refine va_iald hx hb hK hP 2 0 rfl rfl (by exact vp_in_nI (by omega) (by omega)) dS_sizeWritten_21 ?_
        rw [nI_clamp (n := k) (by omega)]
        refine lv_iload_n hx hb dS_sizeWritten_22 rfl (lv_at hl 1 rfl) ?_
        refine ro_S (As := [.int (g k), .int w]) (rest := [.int (sWr g w k)]) (n := 2) S (cS_sizeOf l ((g k)) (w)) k100 k1 k99 (by decide +kernel) ⟨rfl, rfl⟩ k98 (by decide) preEq rfl rfl hl.1 (Nat.le_of_ble_eq_true rfl) ⟨Nat.le_refl _, Nat.le_refl _⟩ dS_sizeWritten_23 ?_
        refine lv_iadd hx hb dS_sizeWritten_26 ?_
        refine lv_istore_n (lv' := [(2, .int ((sWr g w k) + (sSize (g k) w))), (0, .ref h), (1, .int w), (3, .int (nI k))]) hx hb dS_sizeWritten_27 rfl hl (by decide) rfl (fun ls hl => ?_)
        refine lv_iinc (v := ((nI k) + 1)) (lv' := [(3, .int ((nI k) + 1)), (2, .int ((sWr g w k) + (sSize (g k) w))), (0, .ref h), (1, .int w)]) hx hb dS_sizeWritten_28 hl (k := 3) rfl rfl (by decide) rfl (fun ls hl => ?_)
        refine lv_goto (tgt := 7) hx hb dS_sizeWritten_31 (by decide) ?_
        exact ih (((sWr g w k) + (sSize (g k) w))) (((nI k) + 1)) (k + 1) (nI_1 k) (by omega) (by omega) (rfl) ls (lv_sub hl [2, 3, 1, 0] rfl) 
  exact J7 (tl + 1) ((sMark w)) (0) (0) (rfl) (by omega) (by omega) (rfl) ls (lv_sub hl [2, 3, 1, 0] rfl) 
end
section
/-! the JDK's search of a sign in a text; the kinds as the class tells them -/
def xB (v : Nat) (bs : List Int32) : State → Heap → Prop := fun U H => va_T .byte v bs.length (fun j => .int (bs.getD j 0)) nA U H
theorem xB_ok {v : Nat} {bs : List Int32} : okX (xB v bs) := fun s U H hW h => va_T.moved hW.alike h
def xS (q v : Nat) (bs : List Int32) : State → Heap → Prop := fun U H => va_O "java/lang/String" q nA U H ∧ va_OF "java/lang/String" "coder" "B" (.int 0) q nA U H ∧ va_OF "java/lang/String" "value" "[B" (.ref v) q nA U H ∧ xB v bs U H ∧ va_Z "java/lang/String" "COMPACT_STRINGS" "Z" (.int 1) nA U H
theorem xS_ok {q v : Nat} {bs : List Int32} : okX (xS q v bs) := fun s U H hW h => ⟨va_O.moved hW.alike h.1, va_OF.moved hW.alike h.2.1, va_OF.moved hW.alike h.2.2.1, xB_ok s U H hW h.2.2.2.1, va_Z.moved hW.alike h.2.2.2.2⟩
theorem xS_V {q v : Nat} {bs : List Int32} {s : State} {H : Heap} {As : List Value} (x : xS q v bs s H) : PreV s H "java/lang/String" q (gx (xS q v bs) (.ref q :: As)) As := gx_V xS_ok x (by obtain ⟨cell, h1, h2, h3, -⟩ := x.1; exact ⟨cell, h1, h2, h3⟩)
def sIx (b : Int32) : List Int32 → Nat → Int32
  | [], _ => -1
  | x :: xs, k => if x = b then nI k else sIx b xs (k + 1)
theorem sIx_drop {b : Int32} {bs : List Int32} {k : Nat} (h : k < bs.length) : sIx b (bs.drop k) k = if bs.getD k 0 = b then nI k else sIx b (bs.drop (k + 1)) (k + 1) := by
  rw [List.drop_eq_getElem_cons h, sIx, show bs.getD k 0 = bs[k] by simp [h]]
set_option maxHeartbeats 4000000 in
set_option maxRecDepth 100000 in
theorem cLat_canEncode (l : Launch) (c : Int32) : Met l yLat_canEncode (Cond.code yLat_canEncode prog_11_method_4_code 1 (some .boolean) :: TB) { frames := 0, cells := 0, slots := 0, locals := 0 } (pu [.int c]) (QcRead (bI (sIn c 0 255))) 0 0 (fun _ => False) := by
  refine mt_of (by decide) ?_
  intro p e s m args below meth cd S hr hk hin hv
  subst hv
  have hx := S.1
  have hb := S.2.1
  have hown := S.2.2.2.1
  have hts := S.2.2.2.2
  have hl := lv_entry ([.int c]) (n := 1) (Nat.le_of_ble_eq_true rfl)
  rw [lg_entry_eq]
  generalize (lg_sl ([.int c]) ++ List.replicate (1 - (lg_sl ([.int c])).length) Slot.unset).toArray = ls at hl ⊢
  have hl : lv_has ls 1 [(0, .int c)] := hl
  refine lv_iload_n hx hb dLat_canEncode_0 rfl (lv_at hl 0 rfl) ?_
  refine lv_if_lt (tgt := 15) hx hb dLat_canEncode_1 (by decide) (fun c1 => ?_) (fun c1 => ?_)
  · skip
    replace c1 := Int32.not_le.mpr c1
    refine lv_iconst (v := 0) hx hb dLat_canEncode_15 (by decide) ?_
    exact ro_retZ S hr hk (by rfl) (by simp [sIn, bI, c1]) dLat_canEncode_16
  · skip
    replace c1 := Int32.not_lt.mp c1
    refine lv_iload_n hx hb dLat_canEncode_4 rfl (lv_at hl 0 rfl) ?_
    refine lv_sipush (v := 255) hx hb dLat_canEncode_5 (by decide) ?_
    refine lv_icmp_gt (tgt := 15) hx hb dLat_canEncode_8 (by decide) (fun c2 => ?_) (fun c2 => ?_)
    · skip
      replace c2 := Int32.not_le.mpr c2
      refine lv_iconst (v := 0) hx hb dLat_canEncode_15 (by decide) ?_
      exact ro_retZ S hr hk (by rfl) (by simp [sIn, bI, c1, c2]) dLat_canEncode_16
    · skip
      replace c2 := Int32.not_lt.mp c2
      refine lv_iconst (v := 1) hx hb dLat_canEncode_11 (by decide) ?_
      refine lv_goto (tgt := 16) hx hb dLat_canEncode_12 (by decide) ?_
      exact ro_retZ S hr hk (by rfl) (by simp [sIn, bI, c1, c2]) dLat_canEncode_16
set_option maxHeartbeats 4000000 in
set_option maxRecDepth 100000 in
theorem cLat_indexOfChar (l : Launch) (v : Nat) (bs : List Int32) (c : Int32) (hN : bs.length < 1000) : Met l yLat_indexOfChar (Cond.code yLat_indexOfChar prog_11_method_23_code 6 (some .int) :: TB) { frames := 0, cells := 0, slots := 0, locals := 0 } (gx (xB v bs) [.ref v, .int c, .int 0, .int (nI bs.length)]) (QcRead (sIx ((Int32.toInt8 c).toInt32) bs 0)) 0 0 (fun _ => False) := by
  refine mt_of (by decide) ?_
  intro p e s m args below meth cd S hr hk hin hv
  obtain ⟨rfl, hX⟩ := hv
  have hx := S.1
  have hb := S.2.1
  have hown := S.2.2.2.1
  have hts := S.2.2.2.2
  have hl := lv_entry ([.ref v, .int c, .int 0, .int (nI bs.length)]) (n := 6) (Nat.le_of_ble_eq_true rfl)
  rw [lg_entry_eq]
  generalize (lg_sl ([.ref v, .int c, .int 0, .int (nI bs.length)]) ++ List.replicate (6 - (lg_sl ([.ref v, .int c, .int 0, .int (nI bs.length)])).length) Slot.unset).toArray = ls at hl ⊢
  have hl : lv_has ls 6 [(0, .ref v), (1, .int c), (2, .int 0), (3, .int (nI bs.length))] := hl
  refine lv_iload_n hx hb dLat_indexOfChar_0 rfl (lv_at hl 1 rfl) ?_
  refine lv_i2b (v := (Int32.toInt8 c).toInt32) hx hb dLat_indexOfChar_1 rfl ?_
  refine lv_istore (lv' := [(4, .int ((Int32.toInt8 c).toInt32)), (0, .ref v), (1, .int c), (2, .int 0), (3, .int (nI bs.length))]) hx hb dLat_indexOfChar_2 hl (by decide) rfl (fun ls hl => ?_)
  refine lv_iload_n hx hb dLat_indexOfChar_4 rfl (lv_at hl 3 rfl) ?_
  refine lv_istore (lv' := [(5, .int 0), (4, .int ((Int32.toInt8 c).toInt32)), (0, .ref v), (1, .int c), (2, .int 0), (3, .int (nI bs.length))]) hx hb dLat_indexOfChar_5 hl (by decide) rfl (fun ls hl => ?_)
  have J7 : ∀ (fu : Nat) (x : Int32) (k : Nat), x = nI k → k ≤ bs.length → bs.length < k + fu → sIx ((Int32.toInt8 c).toInt32) bs 0 = sIx ((Int32.toInt8 c).toInt32) (bs.drop k) k → ∀ ls : Array Slot, lv_has ls 6 [(4, .int ((Int32.toInt8 c).toInt32)), (0, .ref v), (1, .int c), (2, .int 0), (3, .int (nI bs.length)), (5, .int x)] → W p l e { frames := 0, cells := 0, slots := 0, locals := 0 } s m [.ref v, .int c, .int 0, .int (nI bs.length)].toArray below meth cd s.heap [] 0 0 (MQ below (QcRead (sIx ((Int32.toInt8 c).toInt32) bs 0)) [.ref v, .int c, .int 0, .int (nI bs.length)].toArray s 0 0 (fun _ => False)) (F0 m 7 ls []) := by
    intro fu
    induction fu with
    | zero =>
      intro x k hx9 hk9 hf9 hR ls hl
      exact absurd hf9 (by omega)
    | succ fu ih =>
      intro x k hx9 hk9 hf9 hR ls hl
      subst hx9
      refine lv_iload hx hb dLat_indexOfChar_7 (lv_at hl 5 rfl) ?_
      refine lv_iload_n hx hb dLat_indexOfChar_9 rfl (lv_at hl 4 rfl) ?_
      refine lv_icmp_ge (tgt := 31) hx hb dLat_indexOfChar_10 (by decide) (fun c1 => ?_) (fun c1 => ?_)
      · skip
        rw [nI_leI (by omega) (by omega)] at c1
        refine lv_iconst (v := (-1)) hx hb dLat_indexOfChar_31 (by decide) ?_
        exact ro_ret S hr hk (by rw [hR, List.drop_eq_nil_of_le (by omega)]; rfl) dLat_indexOfChar_32
      · skip
        rw [nI_leI (by omega) (by omega)] at c1
        refine lv_aload_n hx hb dLat_indexOfChar_13 rfl (lv_at hl 1 rfl) ?_
        refine lv_iload hx hb dLat_indexOfChar_14 (lv_at hl 5 rfl) ?_
        refine va_tb (A := nA) hx hb hX va_S.rf (by exact vp_in_nI (by omega) (by omega)) (v := .int (bs.getD ((nI k)).toNatClampNeg 0)) rfl dLat_indexOfChar_16 ?_
        rw [nI_clamp (n := k) (by omega)]
        refine lv_iload hx hb dLat_indexOfChar_17 (lv_at hl 0 rfl) ?_
        refine lv_icmp_ne (tgt := 25) hx hb dLat_indexOfChar_19 (by decide) (fun c2 => ?_) (fun c2 => ?_)
        · skip
          refine lv_iinc (v := ((nI k) + 1)) (lv' := [(5, .int ((nI k) + 1)), (4, .int ((Int32.toInt8 c).toInt32)), (0, .ref v), (1, .int c), (2, .int 0), (3, .int (nI bs.length))]) hx hb dLat_indexOfChar_25 hl (k := 5) rfl rfl (by decide) rfl (fun ls hl => ?_)
          refine lv_goto (tgt := 7) hx hb dLat_indexOfChar_28 (by decide) ?_
          exact ih (((nI k) + 1)) (k + 1) (nI_1 k) (by omega) (by omega) (by rw [hR, sIx_drop (by omega), if_neg c2]) ls (lv_sub hl [1, 2, 3, 4, 5, 0] rfl) 
        · skip
          refine lv_iload hx hb dLat_indexOfChar_22 (lv_at hl 5 rfl) ?_
          exact ro_ret S hr hk (by rw [hR, sIx_drop (by omega), if_pos c2]) dLat_indexOfChar_24
  exact J7 (bs.length + 1) (0) (0) (rfl) (by omega) (by omega) (by rw [List.drop_zero]) ls (lv_sub hl [1, 2, 3, 4, 5, 0] rfl) 
set_option maxHeartbeats 4000000 in
set_option maxRecDepth 100000 in
theorem cLat_indexOf (l : Launch) (v : Nat) (bs : List Int32) (c : Int32) (hN : bs.length < 1000) (h0 : 0 < bs.length) (hc : sIn c 0 255 = true) : Met l yLat_indexOf (Cond.code yLat_indexOf prog_11_method_22_code 4 (some .int) :: TB) { frames := 1, cells := 0, slots := 0, locals := 25 } (gx (xB v bs) [.ref v, .int c, .int 0, .int (nI bs.length)]) (QcRead (sIx ((Int32.toInt8 c).toInt32) bs 0)) 0 0 (fun _ => False) := by
  refine mt_of (by decide) ?_
  intro p e s m args below meth cd S hr hk hin hv
  obtain ⟨rfl, hX⟩ := hv
  have hx := S.1
  have hb := S.2.1
  have hown := S.2.2.2.1
  have hts := S.2.2.2.2
  have hl := lv_entry ([.ref v, .int c, .int 0, .int (nI bs.length)]) (n := 4) (Nat.le_of_ble_eq_true rfl)
  rw [lg_entry_eq]
  generalize (lg_sl ([.ref v, .int c, .int 0, .int (nI bs.length)]) ++ List.replicate (4 - (lg_sl ([.ref v, .int c, .int 0, .int (nI bs.length)])).length) Slot.unset).toArray = ls at hl ⊢
  have hl : lv_has ls 4 [(0, .ref v), (1, .int c), (2, .int 0), (3, .int (nI bs.length))] := hl
  refine lv_iload_n hx hb dLat_indexOf_0 rfl (lv_at hl 1 rfl) ?_
  refine ro_S (As := [.int c]) (rest := []) (n := 1) S (cLat_canEncode l (c)) k187 k9 k186 (by decide +kernel) ⟨rfl, rfl⟩ k185 (by decide) preEq rfl rfl hl.1 (Nat.le_of_ble_eq_true rfl) ⟨Nat.le_refl _, Nat.le_refl _⟩ dLat_indexOf_1 ?_
  refine lv_if_ne (tgt := 9) hx hb dLat_indexOf_4 (by decide) (fun c1 => ?_) (fun c1 => absurd c1 (by simp [bI, hc]))
  refine lv_iload_n hx hb dLat_indexOf_9 rfl (lv_at hl 2 rfl) ?_
  refine lv_iconst (v := 0) hx hb dLat_indexOf_10 (by decide) ?_
  refine va_mmax hx hb (S.2.2.1.trans hl.1.symm) hown (hts _ k188) (hts _ k189) (hts _ k10) (hts (Cond.code Lib.Math.max.name Lib.Math.max.code 2 (some .int)) (TB_t 190 (by decide +kernel) rfl)) (by decide) (by decide) (Nat.le_refl _) (Nat.le_refl _) dLat_indexOf_11 ?_
  rw [show (if (0 : Int32) < 0 then (0 : Int32) else 0) = 0 from rfl]
  refine lv_istore_n (lv' := [(2, .int 0), (0, .ref v), (1, .int c), (3, .int (nI bs.length))]) hx hb dLat_indexOf_14 rfl hl (by decide) rfl (fun ls hl => ?_)
  refine lv_iload_n hx hb dLat_indexOf_15 rfl (lv_at hl 3 rfl) ?_
  refine lv_aload_n hx hb dLat_indexOf_16 rfl (lv_at hl 1 rfl) ?_
  refine va_tlen (A := nA) (v := nI bs.length) hx hb hX va_S.rf rfl dLat_indexOf_17 ?_
  refine va_mmin hx hb (S.2.2.1.trans hl.1.symm) hown (hts _ k191) (hts _ k192) (hts _ k10) (hts (Cond.code Lib.Math.min.name Lib.Math.min.code 2 (some .int)) (TB_t 193 (by decide +kernel) rfl)) (by decide) (by decide) (Nat.le_refl _) (Nat.le_refl _) dLat_indexOf_18 ?_
  rw [ite_self]
  refine lv_istore_n (lv' := [(3, .int (nI bs.length)), (2, .int 0), (0, .ref v), (1, .int c)]) hx hb dLat_indexOf_21 rfl hl (by decide) rfl (fun ls hl => ?_)
  refine lv_iload_n hx hb dLat_indexOf_22 rfl (lv_at hl 1 rfl) ?_
  refine lv_iload_n hx hb dLat_indexOf_23 rfl (lv_at hl 0 rfl) ?_
  refine lv_icmp_lt (tgt := 29) hx hb dLat_indexOf_24 (by decide) (fun c2 => ?_) (fun c2 => absurd c2 (fun h9 => h9 (nI_lt h0 (by omega))))
  refine lv_aload_n hx hb dLat_indexOf_29 rfl (lv_at hl 2 rfl) ?_
  refine lv_iload_n hx hb dLat_indexOf_30 rfl (lv_at hl 3 rfl) ?_
  refine lv_iload_n hx hb dLat_indexOf_31 rfl (lv_at hl 1 rfl) ?_
  refine lv_iload_n hx hb dLat_indexOf_32 rfl (lv_at hl 0 rfl) ?_
  refine ro_S (As := [.ref v, .int c, .int 0, .int (nI bs.length)]) (rest := []) (n := 4) S (cLat_indexOfChar l v bs (c) hN) k196 k9 k195 (by decide +kernel) ⟨rfl, rfl⟩ k194 (by decide) (gx_S xB_ok hX) rfl rfl hl.1 (Nat.le_of_ble_eq_true rfl) ⟨Nat.le_refl _, Nat.le_refl _⟩ dLat_indexOf_33 ?_
  exact ro_ret S hr hk (rfl) dLat_indexOf_36
set_option maxHeartbeats 4000000 in
set_option maxRecDepth 100000 in
theorem cStr_isLatin1 (l : Launch) (q v : Nat) (bs : List Int32) : Met l yStr_isLatin1 (Cond.code yStr_isLatin1 prog_10_method_154_code 1 (some .boolean) :: TB) { frames := 0, cells := 0, slots := 0, locals := 0 } (gx (xS q v bs) [.ref q]) (QcRead (1)) 0 0 (fun _ => False) := by
  refine mt_of (by decide) ?_
  intro p e s m args below meth cd S hr hk hin hv
  obtain ⟨rfl, hX⟩ := hv
  have hx := S.1
  have hb := S.2.1
  have hown := S.2.2.2.1
  have hts := S.2.2.2.2
  have hl := lv_entry ([.ref q]) (n := 1) (Nat.le_of_ble_eq_true rfl)
  rw [lg_entry_eq]
  generalize (lg_sl ([.ref q]) ++ List.replicate (1 - (lg_sl ([.ref q])).length) Slot.unset).toArray = ls at hl ⊢
  have hl : lv_has ls 1 [(0, .ref q)] := hl
  refine va_gets (A := nA) hx hb hX.2.2.2.2 va_S.rf hown (hts _ k172) (fun _ h9 => h9) dStr_isLatin1_0 ?_
  refine lv_if_eq (tgt := 17) hx hb dStr_isLatin1_3 (by decide) (fun c1 => absurd c1 (by decide)) (fun c1 => ?_)
  refine lv_aload_n hx hb dStr_isLatin1_6 rfl (lv_at hl 0 rfl) ?_
  refine vk_getf (A := nA) hx hb hX.2.1 va_S.rf hown (hts _ k544) (fun _ h9 => h9) dStr_isLatin1_7 ?_
  refine lv_if_ne (tgt := 17) hx hb dStr_isLatin1_10 (by decide) (fun c2 => absurd c2 (by decide)) (fun c2 => ?_)
  refine lv_iconst (v := 1) hx hb dStr_isLatin1_13 (by decide) ?_
  refine lv_goto (tgt := 18) hx hb dStr_isLatin1_14 (by decide) ?_
  exact ro_retZ S hr hk (by rfl) (rfl) dStr_isLatin1_18
set_option maxHeartbeats 4000000 in
set_option maxRecDepth 100000 in
theorem cStr_coder (l : Launch) (q v : Nat) (bs : List Int32) : Met l yStr_coder (Cond.code yStr_coder prog_10_method_152_code 1 (some .byte) :: TB) { frames := 0, cells := 0, slots := 0, locals := 0 } (gx (xS q v bs) [.ref q]) (QcRead (0)) 0 0 (fun _ => False) := by
  refine mt_of (by decide) ?_
  intro p e s m args below meth cd S hr hk hin hv
  obtain ⟨rfl, hX⟩ := hv
  have hx := S.1
  have hb := S.2.1
  have hown := S.2.2.2.1
  have hts := S.2.2.2.2
  have hl := lv_entry ([.ref q]) (n := 1) (Nat.le_of_ble_eq_true rfl)
  rw [lg_entry_eq]
  generalize (lg_sl ([.ref q]) ++ List.replicate (1 - (lg_sl ([.ref q])).length) Slot.unset).toArray = ls at hl ⊢
  have hl : lv_has ls 1 [(0, .ref q)] := hl
  refine va_gets (A := nA) hx hb hX.2.2.2.2 va_S.rf hown (hts _ k172) (fun _ h9 => h9) dStr_coder_0 ?_
  refine lv_if_eq (tgt := 13) hx hb dStr_coder_3 (by decide) (fun c1 => absurd c1 (by decide)) (fun c1 => ?_)
  refine lv_aload_n hx hb dStr_coder_6 rfl (lv_at hl 0 rfl) ?_
  refine vk_getf (A := nA) hx hb hX.2.1 va_S.rf hown (hts _ k544) (fun _ h9 => h9) dStr_coder_7 ?_
  refine lv_goto (tgt := 14) hx hb dStr_coder_10 (by decide) ?_
  exact ro_retB S hr hk (by rfl) (rfl) dStr_coder_14
set_option maxHeartbeats 4000000 in
set_option maxRecDepth 100000 in
theorem cStr_length (l : Launch) (q v : Nat) (bs : List Int32) : Met l yStr_length (Cond.code yStr_length prog_10_method_54_code 1 (some .int) :: TB) { frames := 1, cells := 0, slots := 0, locals := 20 } (gx (xS q v bs) [.ref q]) (QcRead (nI bs.length)) 0 0 (fun _ => False) := by
  refine mt_of (by decide) ?_
  intro p e s m args below meth cd S hr hk hin hv
  obtain ⟨rfl, hX⟩ := hv
  have hx := S.1
  have hb := S.2.1
  have hown := S.2.2.2.1
  have hts := S.2.2.2.2
  have hl := lv_entry ([.ref q]) (n := 1) (Nat.le_of_ble_eq_true rfl)
  rw [lg_entry_eq]
  generalize (lg_sl ([.ref q]) ++ List.replicate (1 - (lg_sl ([.ref q])).length) Slot.unset).toArray = ls at hl ⊢
  have hl : lv_has ls 1 [(0, .ref q)] := hl
  refine lv_aload_n hx hb dStr_length_0 rfl (lv_at hl 0 rfl) ?_
  refine vk_getf (A := nA) hx hb hX.2.2.1 va_S.rf hown (hts _ k545) (fun _ h9 => h9) dStr_length_1 ?_
  refine va_tlen (A := nA) (v := nI bs.length) hx hb hX.2.2.2.1 va_S.rf rfl dStr_length_4 ?_
  refine lv_aload_n hx hb dStr_length_5 rfl (lv_at hl 0 rfl) ?_
  refine ro_V (r := (0)) (As := []) (rest := [.int (nI bs.length)]) (n := 0) (C := "java/lang/String") S (cStr_coder l q v bs  ) k181 k8 k179 k180 (by decide +kernel) ⟨rfl, rfl⟩ k178 (by decide) (xS_V hX) rfl rfl hl.1 (Nat.le_of_ble_eq_true rfl) ⟨Nat.le_refl _, Nat.le_refl _⟩ dStr_length_6 ?_
  refine lv_ishr hx hb dStr_length_9 ?_
  exact ro_ret S hr hk (sb_shr0 _) dStr_length_10
set_option maxHeartbeats 4000000 in
set_option maxRecDepth 100000 in
theorem cStr_indexOf2 (l : Launch) (q v : Nat) (bs : List Int32) (c : Int32) (hN : bs.length < 1000) (h0 : 0 < bs.length) (hc : sIn c 0 255 = true) : Met l yStr_indexOf2 (Cond.code yStr_indexOf2 prog_10_method_80_code 3 (some .int) :: TB) { frames := 2, cells := 0, slots := 0, locals := 48 } (gx (xS q v bs) [.ref q, .int c, .int 0]) (QcRead (sIx ((Int32.toInt8 c).toInt32) bs 0)) 0 0 (fun _ => False) := by
  refine mt_of (by decide) ?_
  intro p e s m args below meth cd S hr hk hin hv
  obtain ⟨rfl, hX⟩ := hv
  have hx := S.1
  have hb := S.2.1
  have hown := S.2.2.2.1
  have hts := S.2.2.2.2
  have hl := lv_entry ([.ref q, .int c, .int 0]) (n := 3) (Nat.le_of_ble_eq_true rfl)
  rw [lg_entry_eq]
  generalize (lg_sl ([.ref q, .int c, .int 0]) ++ List.replicate (3 - (lg_sl ([.ref q, .int c, .int 0])).length) Slot.unset).toArray = ls at hl ⊢
  have hl : lv_has ls 3 [(0, .ref q), (1, .int c), (2, .int 0)] := hl
  refine lv_aload_n hx hb dStr_indexOf2_0 rfl (lv_at hl 0 rfl) ?_
  refine ro_V (r := (1)) (As := []) (rest := []) (n := 0) (C := "java/lang/String") S (cStr_isLatin1 l q v bs  ) k171 k8 k169 k170 (by decide +kernel) ⟨rfl, rfl⟩ k168 (by decide) (xS_V hX) rfl rfl hl.1 (Nat.le_of_ble_eq_true rfl) ⟨Nat.le_refl _, Nat.le_refl _⟩ dStr_indexOf2_1 ?_
  refine lv_if_eq (tgt := 23) hx hb dStr_indexOf2_4 (by decide) (fun c1 => absurd c1 (by decide)) (fun c1 => ?_)
  refine lv_aload_n hx hb dStr_indexOf2_7 rfl (lv_at hl 0 rfl) ?_
  refine vk_getf (A := nA) hx hb hX.2.2.1 va_S.rf hown (hts _ k545) (fun _ h9 => h9) dStr_indexOf2_8 ?_
  refine lv_iload_n hx hb dStr_indexOf2_11 rfl (lv_at hl 1 rfl) ?_
  refine lv_iload_n hx hb dStr_indexOf2_12 rfl (lv_at hl 2 rfl) ?_
  refine lv_aload_n hx hb dStr_indexOf2_13 rfl (lv_at hl 0 rfl) ?_
  refine ro_V (r := (nI bs.length)) (As := []) (rest := [.int 0, .int c, .ref v]) (n := 0) (C := "java/lang/String") S (cStr_length l q v bs  ) k177 k8 k175 k176 (by decide +kernel) ⟨rfl, rfl⟩ k174 (by decide) (xS_V hX) rfl rfl hl.1 (Nat.le_of_ble_eq_true rfl) ⟨Nat.le_refl _, Nat.le_refl _⟩ dStr_indexOf2_14 ?_
  refine ro_S (As := [.ref v, .int c, .int 0, .int (nI bs.length)]) (rest := []) (n := 4) S (cLat_indexOf l v bs (c) hN h0 hc) k184 k9 k183 (by decide +kernel) ⟨rfl, rfl⟩ k182 (by decide) (gx_S xB_ok hX.2.2.2.1) rfl rfl hl.1 (Nat.le_of_ble_eq_true rfl) ⟨Nat.le_refl _, Nat.le_refl _⟩ dStr_indexOf2_17 ?_
  refine lv_goto (tgt := 36) hx hb dStr_indexOf2_20 (by decide) ?_
  exact ro_ret S hr hk (rfl) dStr_indexOf2_36
set_option maxHeartbeats 4000000 in
set_option maxRecDepth 100000 in
theorem cStr_indexOf1 (l : Launch) (q v : Nat) (bs : List Int32) (c : Int32) (hN : bs.length < 1000) (h0 : 0 < bs.length) (hc : sIn c 0 255 = true) : Met l yStr_indexOf1 (Cond.code yStr_indexOf1 prog_10_method_79_code 2 (some .int) :: TB) { frames := 3, cells := 0, slots := 0, locals := 70 } (gx (xS q v bs) [.ref q, .int c]) (QcRead (sIx ((Int32.toInt8 c).toInt32) bs 0)) 0 0 (fun _ => False) := by
  refine mt_of (by decide) ?_
  intro p e s m args below meth cd S hr hk hin hv
  obtain ⟨rfl, hX⟩ := hv
  have hx := S.1
  have hb := S.2.1
  have hown := S.2.2.2.1
  have hts := S.2.2.2.2
  have hl := lv_entry ([.ref q, .int c]) (n := 2) (Nat.le_of_ble_eq_true rfl)
  rw [lg_entry_eq]
  generalize (lg_sl ([.ref q, .int c]) ++ List.replicate (2 - (lg_sl ([.ref q, .int c])).length) Slot.unset).toArray = ls at hl ⊢
  have hl : lv_has ls 2 [(0, .ref q), (1, .int c)] := hl
  refine lv_aload_n hx hb dStr_indexOf1_0 rfl (lv_at hl 0 rfl) ?_
  refine lv_iload_n hx hb dStr_indexOf1_1 rfl (lv_at hl 1 rfl) ?_
  refine lv_iconst (v := 0) hx hb dStr_indexOf1_2 (by decide) ?_
  refine ro_V (r := (sIx ((Int32.toInt8 c).toInt32) bs 0)) (As := [.int c, .int 0]) (rest := []) (n := 2) (C := "java/lang/String") S (cStr_indexOf2 l q v bs (c) hN h0 hc) k167 k8 k165 k166 (by decide +kernel) ⟨rfl, rfl⟩ k164 (by decide) (xS_V hX) rfl rfl hl.1 (Nat.le_of_ble_eq_true rfl) ⟨Nat.le_refl _, Nat.le_refl _⟩ dStr_indexOf1_3 ?_
  exact ro_ret S hr hk (rfl) dStr_indexOf1_6
def PBS : List Int32 := [45, 39, 40, 41, 43, 44, 46, 47, 58, 61, 63, 59, 33, 42, 35, 64, 36, 95, 37]
/-- what is given of the class's own constants -/
def xD (tc ts tm q v : Nat) : State → Heap → Prop := fun U H => xC tc U H ∧ (xZ "NAME_START_RANGES" ts U H ∧ xT ts NSR U H) ∧ (xZ "MORE_NAME_RANGES" tm U H ∧ xT tm MNR U H) ∧ xS q v PBS U H ∧ vk_R "SignReader" 153 "-'()+,./:=?;!*#@$_%" q U
theorem xD_ok {tc ts tm q v : Nat} : okX (xD tc ts tm q v) := fun s U H hW h => ⟨xC_ok s U H hW h.1, ok_and xZ_ok xT_ok s U H hW h.2.1, ok_and xZ_ok xT_ok s U H hW h.2.2.1, xS_ok s U H hW h.2.2.2.1, vk_R.warm hW h.2.2.2.2⟩
def sC16 (c : Int32) : Int32 := (Int32.toUInt32 c % 65536).toInt32
def sPubS (c : Int32) : Bool := decide (c = 32) || decide (c = 10) || sLetter c || sDigit c || (!decide (c ≤ 32) && !decide (128 ≤ c) && decide (0 ≤ sIx ((Int32.toInt8 (sC16 c)).toInt32) PBS 0))
theorem pub_small : ∀ j : Nat, j < 128 → 32 < j → (sIn (sC16 (nI j)) 0 255 = true ∧ decide (0 ≤ sIx ((Int32.toInt8 (sC16 (nI j))).toInt32) PBS 0) = (sSign (nI j))) := by decide +kernel
theorem pub_range {c : Int32} (h1 : ¬ c ≤ 32) (h2 : ¬ 128 ≤ c) : ∃ j : Nat, j < 128 ∧ 32 < j ∧ c = nI j := by
  rw [Int32.le_iff_toInt_le] at h1 h2
  have e1 : (32 : Int32).toInt = 32 := by decide
  have e2 : (128 : Int32).toInt = 128 := by decide
  rw [e1] at h1
  rw [e2] at h2
  refine ⟨c.toInt.toNat, by omega, by omega, ?_⟩
  rw [i32_eq, nI_toInt (by omega)]
  omega
theorem pub_enc {c : Int32} (h1 : ¬ c ≤ 32) (h2 : ¬ 128 ≤ c) : sIn (sC16 c) 0 255 = true := by
  obtain ⟨j, hj, hk, rfl⟩ := pub_range h1 h2
  exact (pub_small j hj hk).1
theorem pub_eq (c : Int32) : sPubS c = sPub c := by
  by_cases h1 : c ≤ 32
  · unfold sPubS sPub sSign sDigit
    simp only [h1, decide_true, Bool.not_true, Bool.false_and, Bool.or_false]
    rw [Bool.eq_iff_iff]
    simp only [Bool.or_eq_true, decide_eq_true_eq, sIn_iff, i32_eq, sLetter]
    rw [Int32.le_iff_toInt_le] at h1
    simp at h1 ⊢
    omega
  · by_cases h2 : 128 ≤ c
    · unfold sPubS sPub sSign sDigit
      simp only [h2, decide_true, Bool.not_true, Bool.and_false, Bool.false_and, Bool.or_false]
      rw [Bool.eq_iff_iff]
      simp only [Bool.or_eq_true, decide_eq_true_eq, sIn_iff, i32_eq, sLetter]
      rw [Int32.le_iff_toInt_le] at h2
      simp at h2 ⊢
      omega
    · obtain ⟨j, hj, hk, rfl⟩ := pub_range h1 h2
      unfold sPubS sPub
      rw [(pub_small j hj hk).2]
      simp only [h1, h2, decide_false, Bool.not_false, Bool.true_and, sDigit]
      have e1 : decide (nI j = 32) = true → sSign (nI j) = true := by simp only [decide_eq_true_eq]; intro h; rw [h]; decide
      have e2 : decide (nI j = 10) = true → sSign (nI j) = true := by simp only [decide_eq_true_eq]; intro h; rw [h]; decide
      revert e1 e2
      cases decide (nI j = 32) <;> cases decide (nI j = 10) <;> cases sSign (nI j) <;> cases sLetter (nI j) <;> cases sIn (nI j) 48 57 <;> simp
set_option maxHeartbeats 4000000 in
set_option maxRecDepth 100000 in
theorem cS_isPublic (l : Launch) (tc ts tm q v : Nat) (c : Int32) : Met l yS_isPublic (Cond.code yS_isPublic prog_1_method_42_code 1 (some .boolean) :: TB) { frames := 4, cells := 0, slots := 0, locals := 91 } (gx (xD tc ts tm q v) [.int c]) (QcRead (bI (sPub c))) 0 0 (fun _ => False) := by
  refine mt_of (by decide) ?_
  intro p e s m args below meth cd S hr hk hin hv
  obtain ⟨rfl, hX⟩ := hv
  have hx := S.1
  have hb := S.2.1
  have hown := S.2.2.2.1
  have hts := S.2.2.2.2
  have hl := lv_entry ([.int c]) (n := 1) (Nat.le_of_ble_eq_true rfl)
  rw [lg_entry_eq]
  generalize (lg_sl ([.int c]) ++ List.replicate (1 - (lg_sl ([.int c])).length) Slot.unset).toArray = ls at hl ⊢
  have hl : lv_has ls 1 [(0, .int c)] := hl
  refine lv_iload_n hx hb dS_isPublic_0 rfl (lv_at hl 0 rfl) ?_
  refine lv_bipush (v := 32) hx hb dS_isPublic_1 (by decide) ?_
  refine lv_icmp_eq (tgt := 26) hx hb dS_isPublic_3 (by decide) (fun c1 => ?_) (fun c1 => ?_)
  · skip
    refine lv_iconst (v := 1) hx hb dS_isPublic_26 (by decide) ?_
    exact ro_retZ S hr hk (by rfl) (by rw [← pub_eq]; simp [sPubS, bI, c1]) dS_isPublic_27
  · skip
    refine lv_iload_n hx hb dS_isPublic_6 rfl (lv_at hl 0 rfl) ?_
    refine lv_bipush (v := 10) hx hb dS_isPublic_7 (by decide) ?_
    refine lv_icmp_eq (tgt := 26) hx hb dS_isPublic_9 (by decide) (fun c2 => ?_) (fun c2 => ?_)
    · skip
      refine lv_iconst (v := 1) hx hb dS_isPublic_26 (by decide) ?_
      exact ro_retZ S hr hk (by rfl) (by rw [← pub_eq]; simp [sPubS, bI, c1, c2]) dS_isPublic_27
    · skip
      refine lv_iload_n hx hb dS_isPublic_12 rfl (lv_at hl 0 rfl) ?_
      refine ro_S (As := [.int c]) (rest := []) (n := 1) S (cS_isLetter l (c)) k148 k1 k147 (by decide +kernel) ⟨rfl, rfl⟩ k146 (by decide) preEq rfl rfl hl.1 (Nat.le_of_ble_eq_true rfl) ⟨Nat.le_refl _, Nat.le_refl _⟩ dS_isPublic_13 ?_
      refine lv_if_ne (tgt := 26) hx hb dS_isPublic_16 (by decide) (fun c3 => ?_) (fun c3 => ?_)
      · skip
        replace c3 := bI_t c3
        refine lv_iconst (v := 1) hx hb dS_isPublic_26 (by decide) ?_
        exact ro_retZ S hr hk (by rfl) (by rw [← pub_eq]; simp [sPubS, bI, c1, c2, c3]) dS_isPublic_27
      · skip
        replace c3 := bI_f c3
        refine lv_iload_n hx hb dS_isPublic_19 rfl (lv_at hl 0 rfl) ?_
        refine ro_S (As := [.int c]) (rest := []) (n := 1) S (cS_isDigit l (c)) k151 k1 k150 (by decide +kernel) ⟨rfl, rfl⟩ k149 (by decide) preEq rfl rfl hl.1 (Nat.le_of_ble_eq_true rfl) ⟨Nat.le_refl _, Nat.le_refl _⟩ dS_isPublic_20 ?_
        refine lv_if_eq (tgt := 28) hx hb dS_isPublic_23 (by decide) (fun c4 => ?_) (fun c4 => ?_)
        · skip
          replace c4 := bI_f c4
          refine lv_iload_n hx hb dS_isPublic_28 rfl (lv_at hl 0 rfl) ?_
          refine lv_bipush (v := 32) hx hb dS_isPublic_29 (by decide) ?_
          refine lv_icmp_le (tgt := 55) hx hb dS_isPublic_31 (by decide) (fun c5 => ?_) (fun c5 => ?_)
          · skip
            refine lv_iconst (v := 0) hx hb dS_isPublic_55 (by decide) ?_
            exact ro_retZ S hr hk (by rfl) (by rw [← pub_eq]; simp [sPubS, bI, c1, c2, c3, c4, c5]) dS_isPublic_56
          · skip
            refine lv_iload_n hx hb dS_isPublic_34 rfl (lv_at hl 0 rfl) ?_
            refine lv_sipush (v := 128) hx hb dS_isPublic_35 (by decide) ?_
            refine lv_icmp_ge (tgt := 55) hx hb dS_isPublic_38 (by decide) (fun c6 => ?_) (fun c6 => ?_)
            · skip
              refine lv_iconst (v := 0) hx hb dS_isPublic_55 (by decide) ?_
              exact ro_retZ S hr hk (by rfl) (by rw [← pub_eq]; simp [sPubS, bI, c1, c2, c3, c4, c5, c6]) dS_isPublic_56
            · skip
              refine va_ldcS hx hb hown hX.2.2.2.2 dS_isPublic_41 ?_
              refine lv_iload_n hx hb dS_isPublic_43 rfl (lv_at hl 0 rfl) ?_
              refine lv_i2c (v := sC16 c) hx hb dS_isPublic_44 rfl ?_
              refine ro_V (r := (sIx ((Int32.toInt8 ((sC16 c))).toInt32) PBS 0)) (As := [.int (sC16 c)]) (rest := []) (n := 1) (C := "java/lang/String") S (cStr_indexOf1 l q v PBS ((sC16 c)) (by decide) (by decide) (pub_enc c5 c6)) k163 k8 k161 k162 (by decide +kernel) ⟨rfl, rfl⟩ k160 (by decide) (xS_V hX.2.2.2.1) rfl rfl hl.1 (Nat.le_of_ble_eq_true rfl) ⟨Nat.le_refl _, Nat.le_refl _⟩ dS_isPublic_45 ?_
              refine lv_if_lt (tgt := 55) hx hb dS_isPublic_48 (by decide) (fun c7 => ?_) (fun c7 => ?_)
              · skip
                replace c7 := Int32.not_le.mpr c7
                refine lv_iconst (v := 0) hx hb dS_isPublic_55 (by decide) ?_
                exact ro_retZ S hr hk (by rfl) (by rw [← pub_eq]; simp [sPubS, bI, c1, c2, c3, c4, c5, c6, c7]) dS_isPublic_56
              · skip
                replace c7 := Int32.not_lt.mp c7
                refine lv_iconst (v := 1) hx hb dS_isPublic_51 (by decide) ?_
                refine lv_goto (tgt := 56) hx hb dS_isPublic_52 (by decide) ?_
                exact ro_retZ S hr hk (by rfl) (by rw [← pub_eq]; simp [sPubS, bI, c1, c2, c3, c4, c5, c6, c7]) dS_isPublic_56
        · skip
          replace c4 := bI_t c4
          refine lv_iconst (v := 1) hx hb dS_isPublic_26 (by decide) ?_
          exact ro_retZ S hr hk (by rfl) (by rw [← pub_eq]; simp [sPubS, bI, c1, c2, c3, c4]) dS_isPublic_27
def kS (c : Int32) : Int32 := bI (sSpace c) + bK (sLetter c) 2 + bK (sDigit c) 4 + (if sWithin NSR c = true then 24 else if sWithin MNR c = true then 16 else 0) + bK (sPub c) 32
set_option maxHeartbeats 4000000 in
set_option maxRecDepth 100000 in
theorem cS_kindsOf (l : Launch) (tc ts tm q v : Nat) (c : Int32) : Met l yS_kindsOf (Cond.code yS_kindsOf prog_1_method_37_code 2 (some .int) :: TB) { frames := 5, cells := 0, slots := 0, locals := 111 } (gx (xD tc ts tm q v) [.int c]) (QcRead (kS c)) 0 0 (fun _ => False) := by
  refine mt_of (by decide) ?_
  intro p e s m args below meth cd S hr hk hin hv
  obtain ⟨rfl, hX⟩ := hv
  have hx := S.1
  have hb := S.2.1
  have hown := S.2.2.2.1
  have hts := S.2.2.2.2
  have hl := lv_entry ([.int c]) (n := 2) (Nat.le_of_ble_eq_true rfl)
  rw [lg_entry_eq]
  generalize (lg_sl ([.int c]) ++ List.replicate (2 - (lg_sl ([.int c])).length) Slot.unset).toArray = ls at hl ⊢
  have hl : lv_has ls 2 [(0, .int c)] := hl
  have J12 : ∀ (x : Int32), x = bI (sSpace c) → ∀ ls : Array Slot, lv_has ls 2 [(0, .int c)] → W p l e { frames := 5, cells := 0, slots := 0, locals := 111 } s m [.int c].toArray below meth cd s.heap [] 0 0 (MQ below (QcRead (kS c)) [.int c].toArray s 0 0 (fun _ => False)) (F0 m 12 ls [.int x]) := by
    intro x hx9 ls hl
    subst hx9
    have J23 : ∀ (x : Int32), x = bI (sSpace c) + bK (sLetter c) 2 → ∀ ls : Array Slot, lv_has ls 2 [(0, .int c), (1, .int x)] → W p l e { frames := 5, cells := 0, slots := 0, locals := 111 } s m [.int c].toArray below meth cd s.heap [] 0 0 (MQ below (QcRead (kS c)) [.int c].toArray s 0 0 (fun _ => False)) (F0 m 23 ls []) := by
      intro x hx9 ls hl
      have J33 : ∀ (z : Int32), z = x + bK (sDigit c) 4 → ∀ ls : Array Slot, lv_has ls 2 [(0, .int c), (1, .int z)] → W p l e { frames := 5, cells := 0, slots := 0, locals := 111 } s m [.int c].toArray below meth cd s.heap [] 0 0 (MQ below (QcRead (kS c)) [.int c].toArray s 0 0 (fun _ => False)) (F0 m 33 ls []) := by
        intro z hz9 ls hl
        have J62 : ∀ (u : Int32), u = z + (if sWithin NSR c = true then 24 else if sWithin MNR c = true then 16 else 0) → ∀ ls : Array Slot, lv_has ls 2 [(0, .int c), (1, .int u)] → W p l e { frames := 5, cells := 0, slots := 0, locals := 111 } s m [.int c].toArray below meth cd s.heap [] 0 0 (MQ below (QcRead (kS c)) [.int c].toArray s 0 0 (fun _ => False)) (F0 m 62 ls []) := by
          intro u hu9 ls hl
          have J72 : ∀ (r9 : Int32), r9 = u + bK (sPub c) 32 → ∀ ls : Array Slot, lv_has ls 2 [(0, .int c), (1, .int r9)] → W p l e { frames := 5, cells := 0, slots := 0, locals := 111 } s m [.int c].toArray below meth cd s.heap [] 0 0 (MQ below (QcRead (kS c)) [.int c].toArray s 0 0 (fun _ => False)) (F0 m 72 ls []) := by
            intro r9 hr9 ls hl
            refine lv_iload_n hx hb dS_kindsOf_72 rfl (lv_at hl 1 rfl) ?_
            exact ro_ret S hr hk (by rw [hr9, hu9, hz9, hx9]; rfl) dS_kindsOf_73
          refine lv_iload_n hx hb dS_kindsOf_62 rfl (lv_at hl 0 rfl) ?_
          refine ro_S (As := [.int c]) (rest := []) (n := 1) S (cS_isPublic l tc ts tm q v (c)) k158 k1 k157 (by decide +kernel) ⟨rfl, rfl⟩ k156 (by decide) (gx_S xD_ok hX) rfl rfl hl.1 (Nat.le_of_ble_eq_true rfl) ⟨Nat.le_refl _, Nat.le_refl _⟩ dS_kindsOf_63 ?_
          refine lv_if_eq (tgt := 72) hx hb dS_kindsOf_66 (by decide) (fun c1 => ?_) (fun c1 => ?_)
          · skip
            replace c1 := bI_f c1
            exact J72  (u) (by simp [bK, c1]) ls (lv_sub hl [0, 1] rfl) 
          · skip
            replace c1 := bI_t c1
            refine lv_iinc (v := (u + 32)) (lv' := [(1, .int (u + 32)), (0, .int c)]) hx hb dS_kindsOf_69 hl (k := 1) rfl rfl (by decide) rfl (fun ls hl => ?_)
            exact J72  ((u + 32)) (by simp [bK, c1]) ls (lv_sub hl [1, 0] rfl) 
        refine va_gets (A := nA) hx hb hX.2.1.1 va_S.rf hown (hts _ k152) (fun _ h9 => h9) dS_kindsOf_33 ?_
        refine lv_iload_n hx hb dS_kindsOf_36 rfl (lv_at hl 0 rfl) ?_
        refine ro_S (As := [.ref ts, .int c]) (rest := []) (n := 2) S (cS_isWithin l ts NSR (c) (by decide)) k111 k1 k110 (by decide +kernel) ⟨rfl, rfl⟩ k109 (by decide) (gx_S xT_ok hX.2.1.2) rfl rfl hl.1 (Nat.le_of_ble_eq_true rfl) ⟨Nat.le_refl _, Nat.le_refl _⟩ dS_kindsOf_37 ?_
        refine lv_if_eq (tgt := 49) hx hb dS_kindsOf_40 (by decide) (fun c2 => ?_) (fun c2 => ?_)
        · skip
          replace c2 := bI_f c2
          refine va_gets (A := nA) hx hb hX.2.2.1.1 va_S.rf hown (hts _ k154) (fun _ h9 => h9) dS_kindsOf_49 ?_
          refine lv_iload_n hx hb dS_kindsOf_52 rfl (lv_at hl 0 rfl) ?_
          refine ro_S (As := [.ref tm, .int c]) (rest := []) (n := 2) S (cS_isWithin l tm MNR (c) (by decide)) k111 k1 k110 (by decide +kernel) ⟨rfl, rfl⟩ k109 (by decide) (gx_S xT_ok hX.2.2.1.2) rfl rfl hl.1 (Nat.le_of_ble_eq_true rfl) ⟨Nat.le_refl _, Nat.le_refl _⟩ dS_kindsOf_53 ?_
          refine lv_if_eq (tgt := 62) hx hb dS_kindsOf_56 (by decide) (fun c3 => ?_) (fun c3 => ?_)
          · skip
            replace c3 := bI_f c3
            exact J62  (z) (by simp [c2, c3]) ls (lv_sub hl [0, 1] rfl) 
          · skip
            replace c3 := bI_t c3
            refine lv_iinc (v := (z + 16)) (lv' := [(1, .int (z + 16)), (0, .int c)]) hx hb dS_kindsOf_59 hl (k := 1) rfl rfl (by decide) rfl (fun ls hl => ?_)
            exact J62  ((z + 16)) (by simp [c2, c3]) ls (lv_sub hl [1, 0] rfl) 
        · skip
          replace c2 := bI_t c2
          refine lv_iinc (v := (z + 24)) (lv' := [(1, .int (z + 24)), (0, .int c)]) hx hb dS_kindsOf_43 hl (k := 1) rfl rfl (by decide) rfl (fun ls hl => ?_)
          refine lv_goto (tgt := 62) hx hb dS_kindsOf_46 (by decide) ?_
          exact J62  ((z + 24)) (by simp [c2]) ls (lv_sub hl [1, 0] rfl) 
      refine lv_iload_n hx hb dS_kindsOf_23 rfl (lv_at hl 0 rfl) ?_
      refine ro_S (As := [.int c]) (rest := []) (n := 1) S (cS_isDigit l (c)) k151 k1 k150 (by decide +kernel) ⟨rfl, rfl⟩ k149 (by decide) preEq rfl rfl hl.1 (Nat.le_of_ble_eq_true rfl) ⟨Nat.le_refl _, Nat.le_refl _⟩ dS_kindsOf_24 ?_
      refine lv_if_eq (tgt := 33) hx hb dS_kindsOf_27 (by decide) (fun c4 => ?_) (fun c4 => ?_)
      · skip
        replace c4 := bI_f c4
        exact J33  (x) (by simp [bK, c4]) ls (lv_sub hl [0, 1] rfl) 
      · skip
        replace c4 := bI_t c4
        refine lv_iinc (v := (x + 4)) (lv' := [(1, .int (x + 4)), (0, .int c)]) hx hb dS_kindsOf_30 hl (k := 1) rfl rfl (by decide) rfl (fun ls hl => ?_)
        exact J33  ((x + 4)) (by simp [bK, c4]) ls (lv_sub hl [1, 0] rfl) 
    refine lv_istore_n (lv' := [(1, .int (bI (sSpace c))), (0, .int c)]) hx hb dS_kindsOf_12 rfl hl (by decide) rfl (fun ls hl => ?_)
    refine lv_iload_n hx hb dS_kindsOf_13 rfl (lv_at hl 1 rfl) ?_
    refine ro_S (As := [.int c]) (rest := []) (n := 1) S (cS_isLetter l (c)) k148 k1 k147 (by decide +kernel) ⟨rfl, rfl⟩ k146 (by decide) preEq rfl rfl hl.1 (Nat.le_of_ble_eq_true rfl) ⟨Nat.le_refl _, Nat.le_refl _⟩ dS_kindsOf_14 ?_
    refine lv_if_eq (tgt := 23) hx hb dS_kindsOf_17 (by decide) (fun c5 => ?_) (fun c5 => ?_)
    · skip
      replace c5 := bI_f c5
      exact J23  ((bI (sSpace c))) (by simp [bK, c5]) ls (lv_sub hl [1, 0] rfl) 
    · skip
      replace c5 := bI_t c5
      refine lv_iinc (v := ((bI (sSpace c)) + 2)) (lv' := [(1, .int ((bI (sSpace c)) + 2)), (0, .int c)]) hx hb dS_kindsOf_20 hl (k := 0) rfl rfl (by decide) rfl (fun ls hl => ?_)
      exact J23  (((bI (sSpace c)) + 2)) (by simp [bK, c5]) ls (lv_sub hl [1, 0] rfl) 
  refine lv_iload_n hx hb dS_kindsOf_0 rfl (lv_at hl 0 rfl) ?_
  refine ro_S (As := [.int c]) (rest := []) (n := 1) S (cS_isSpace l (c)) k145 k1 k144 (by decide +kernel) ⟨rfl, rfl⟩ k143 (by decide) preEq rfl rfl hl.1 (Nat.le_of_ble_eq_true rfl) ⟨Nat.le_refl _, Nat.le_refl _⟩ dS_kindsOf_1 ?_
  refine lv_if_eq (tgt := 11) hx hb dS_kindsOf_4 (by decide) (fun c6 => ?_) (fun c6 => ?_)
  · skip
    replace c6 := bI_f c6
    refine lv_iconst (v := 0) hx hb dS_kindsOf_11 (by decide) ?_
    exact J12  (0) (by simp [bI, c6]) ls (lv_sub hl [0] rfl) 
  · skip
    replace c6 := bI_t c6
    refine lv_iconst (v := 1) hx hb dS_kindsOf_7 (by decide) ?_
    refine lv_goto (tgt := 12) hx hb dS_kindsOf_8 (by decide) ?_
    exact J12  (1) (by simp [bI, c6]) ls (lv_sub hl [0] rfl) 
theorem nsr_eq (c : Int32) : sWithin NSR c = sStart c := by
  rw [Bool.eq_iff_iff]
  simp only [sWithin, NSR, sStart, sNear, sLetter, List.any_cons, List.any_nil, Bool.or_eq_true, decide_eq_true_eq, sIn_iff, i32_eq, Bool.or_false]
  simp
  omega
theorem mnr_eq (c : Int32) : sNaming c = (sStart c || sWithin MNR c) := by
  rw [Bool.eq_iff_iff]
  simp only [sWithin, MNR, sNaming, List.any_cons, List.any_nil, Bool.or_eq_true, decide_eq_true_eq, sIn_iff, i32_eq, Bool.or_false]
  cases sStart c
  · simp
    omega
  · simp
theorem start_chr {c : Int32} (h : sStart c = true) : sChar c = true := by
  simp only [sChar, sStart, sNear, sLetter, Bool.or_eq_true, decide_eq_true_eq, sIn_iff, i32_eq] at h ⊢
  simp at h ⊢
  omega
theorem more_chr {c : Int32} (h : sWithin MNR c = true) : sChar c = true := by
  simp only [sWithin, MNR, sChar, List.any_cons, List.any_nil, Bool.or_eq_true, decide_eq_true_eq, sIn_iff, i32_eq, Bool.or_false] at h ⊢
  simp at h ⊢
  omega
theorem rest_chr {c : Int32} (h : (sSpace c || sLetter c || sDigit c || sPub c) = true) : sChar c = true := by
  simp only [sSpace, sLetter, sDigit, sPub, sSign, sChar, Bool.or_eq_true, decide_eq_true_eq, sIn_iff, i32_eq, Bool.or_false] at h ⊢
  simp at h ⊢
  omega
theorem kinds_eq (c : Int32) : kS c = kM c := by
  have h1 := @start_chr c
  have h2 := @more_chr c
  have h3 := @rest_chr c
  have h4 : sIn c 48 57 = sDigit c := rfl
  unfold kS kM
  rw [nsr_eq, mnr_eq, h4]
  revert h1 h2 h3
  generalize sSpace c = b1
  generalize sLetter c = b2
  generalize sDigit c = b3
  generalize sStart c = b4
  generalize sWithin MNR c = b5
  generalize sPub c = b6
  generalize sChar c = b7
  revert b1 b2 b3 b4 b5 b6 b7
  decide +kernel
end
section
/-! the class: methods that change its object -/
abbrev SS : Type := Nat × Nat × Int32 × (Nat → Int32) × (Nat → Int32)
abbrev srZ (h qb qt : Nat) (cI : ClassId) (z : SS) : va_W := srW h qb qt cI (nI z.1) (nI z.2.1) z.2.2.1 z.2.2.2.1 z.2.2.2.2
abbrev xZ9 (D : va_G) (h qb qt : Nat) (cI : ClassId) (z : SS) : State → Heap → Prop := xW D h qb qt cI z.1 z.2.1 z.2.2.1 z.2.2.2.1 z.2.2.2.2
def okZ (z : SS) : Prop := z.1 ≤ 4096 ∧ z.2.1 ≤ 4096
def ap3 (h qb qt : Nat) : Prop := h ≠ qb ∧ h ≠ qt ∧ qb ≠ qt
def A3 (h qb qt : Nat) : Nat → Prop := fun q => q = h ∨ q = qb ∨ q = qt
theorem srD {h qb qt : Nat} {cI : ClassId} {nb tl wy : Int32} {f g : Nat → Int32} (hd : ap3 h qb qt) : va_D (A3 h qb qt) (srW h qb qt cI nb tl wy f g) := by
  obtain ⟨h1, h2, h3⟩ := hd
  constructor
  · intro i j p q hi hj he
    match i, j, hi, hj with
    | 0, 0, hi, hj => rfl
    | 1, 1, hi, hj => rfl
    | 2, 2, hi, hj => rfl
    | 0, 1, hi, hj => cases hi; cases hj; exact absurd he h1
    | 0, 2, hi, hj => cases hi; cases hj; exact absurd he h2
    | 1, 0, hi, hj => cases hi; cases hj; exact absurd he.symm h1
    | 1, 2, hi, hj => cases hi; cases hj; exact absurd he h3
    | 2, 0, hi, hj => cases hi; cases hj; exact absurd he.symm h2
    | 2, 1, hi, hj => cases hi; cases hj; exact absurd he.symm h3
    | k + 3, _, hi, hj => simp at hi
    | _, k + 3, hi, hj => simp at hj
  · intro k q hq
    match k, hq with
    | 0, hq => cases hq; exact Or.inl rfl
    | 1, hq => cases hq; exact Or.inr (Or.inl rfl)
    | 2, hq => cases hq; exact Or.inr (Or.inr rfl)
    | k + 3, hq => simp at hq
def mQ (o : Option Value) (D : va_G) (ws : va_W) (A : Nat → Prop) : Array Value → State → Outcome → State → Prop := fun _ st oc t => oc = .returned o ∧ va_P D CL ws t.heap ∧ va_F A st t
theorem va_Pe {D : va_G} {ws ws' : va_W} {H : Heap} (e : ws = ws') (h : va_P D CL ws H) : va_P D CL ws' H := by rw [← e]; exact h
section Mut
variable {p : Program} {l : Launch} {e : Env} {R : Room} {s : State} {m : MethodId} {args : Array Value} {below : List Frame} {meth : Method} {c : Code} {H H0 : Heap} {locs : List Loc} {cells slots : Nat} {Q : State → Prop}
variable {y : MethodName} {bytes cc : ByteArray} {maxL nL index n pc : Nat} {ret : Option FieldType} {rm : Room} {Pc : Array Value → State → Prop} {own C : String} {b : Addr} {As rest st : List Value} {ls : Array Slot} {r : Int32} {o : Option Value} {D : va_G} {ws : va_W} {A A0 : Nat → Prop}
theorem mu_V (S : CallFix p m c cc nL s args TB own) (hM : Met l y (Cond.code y bytes maxL ret :: TB) rm Pc (mQ o D ws A) 0 0 A) (hc : Cond.code y bytes maxL ret ∈ TB) (hi : Cond.initialized y.cls ∈ TB) (hs : Cond.instanceMethod y ∈ TB) (hse : Cond.selects C y y ∈ TB) (hd : okName y n) (hrc : rm.cells = 0 ∧ rm.slots = 0)
    (hl : Cond.methodLink own index y ∈ TB) (hR : rm.frames + 1 ≤ R.frames ∧ 8 + (maxL + 11) + rm.locals ≤ R.locals) (hp : PreV s H C b Pc As) (hn : As.length = n) (hst : st = As.reverse ++ .ref b :: rest) (hsize : ls.size = nL) (hW : (rest.map fun v => v.category).sum ≤ 8) (hf : cells ≤ R.cells ∧ slots ≤ R.slots) (hdg : decode cc pc = .ok (.invokevirtual index, 3))
    (hS : va_S A0 H0 H locs) (hA : ∀ q, A q → A0 q)
    (kk : ∀ (H1 : Heap) (locs1 : List Loc), va_P D CL ws H1 → va_S A0 H0 H1 locs1 → W p l e R s m args below meth c H1 locs1 cells slots Q (F0 m (pc + 3) ls (o.toList ++ rest))) : W p l e R s m args below meth c H locs cells slots Q (F0 m pc ls st) := by
  have cw := cb_of (R := R) (rm := rm) S.2.2.2.2 hc hi hl hd hR
  rw [hrc.1, hrc.2] at cw
  have hr := W.runV (p := p) (e := e) (below := below) (meth := meth) (H := H) (locs := locs) (cells := cells) (slots := slots) (g := F0 m pc ls st) (As := As) (rest := rest) S hM ⟨cw, S.2.2.2.2 _ hs, S.2.2.2.2 _ hse⟩ hp rfl hn hsize hst (lv_room hW) hdg ⟨hf.1, hf.2⟩
  intro T hT X
  obtain ⟨v, st₀, t, T', L, h0, X', hL, e1, ⟨hv, hP, hz, hk⟩, sp⟩ := hr T hT X
  cases hv
  rw [h0] at hz hk
  obtain ⟨t2, a1, b1⟩ := kk T'.heap (locs ++ L) (by rw [e1]; exact hP) ⟨Nat.le_trans hS.1 (by rw [e1]; exact hz), fun q h1 h2 => by rw [e1, hk q (Nat.lt_of_lt_of_le h1 hS.1) (fun z => h2 (hA q z))]; exact hS.2.1 q h1 h2, fun q hq => by
      rcases List.mem_append.mp hq with h | h
      · exact hS.2.2 q h
      · exact hA _ (hL q h)⟩ T' rfl X'
  exact ⟨t2, sp t2 a1, b1⟩
theorem mu_ret0 (S : CallFix p m c cc nL s args TB own) (hr : meth.sig.returnType = none) (hk : meth.locks = false) (hP : va_P D CL ws H) (hS : va_S A s.heap H locs) (hdg : decode cc pc = .ok (.return_, 1)) : W p l e R s m args below meth c H locs 0 0 (MQ below (mQ none D ws A) args s 0 0 A) (F0 m pc ls []) :=
  W.vret S.1 S.2.1 hr (fun t ht _ => ⟨rfl, by rw [ht]; exact hP, hS.F ht⟩) hS.2.2 hdg hk
theorem mu_retI {v : Int32} (S : CallFix p m c cc nL s args TB own) (hr : meth.sig.returnType = some .int) (hk : meth.locks = false) (hv : v = r) (hP : va_P D CL ws H) (hS : va_S A s.heap H locs) (hdg : decode cc pc = .ok (.ireturn, 1)) : W p l e R s m args below meth c H locs 0 0 (MQ below (mQ (some (.int r)) D ws A) args s 0 0 A) (F0 m pc ls [.int v]) :=
  W.iret S.1 S.2.1 hr (fun t ht _ => ⟨by rw [hv], by rw [ht]; exact hP, hS.F ht⟩) hS.2.2 hdg hk
end Mut
/-- a byte behind those that came in -/
def wB (z : SS) (b : Int32) : SS := if z.1 < 4096 then (z.1 + 1, z.2.1, z.2.2.1, upd z.2.2.2.1 z.1 (b &&& 255), z.2.2.2.2) else z
theorem wB_ok {z : SS} {b : Int32} (hz : okZ z) : okZ (wB z b) := by
  unfold wB
  split
  · exact ⟨by show z.1 + 1 ≤ 4096; omega, hz.2⟩
  · exact hz
/-- a sign behind those of the text -/
def wG (z : SS) (c : Int32) : SS := if z.2.1 < 4096 then (z.1, z.2.1 + 1, z.2.2.1, z.2.2.2.1, upd z.2.2.2.2 z.2.1 c) else z
theorem wG_ok {z : SS} {c : Int32} (hz : okZ z) : okZ (wG z c) := by
  unfold wG
  split
  · exact ⟨hz.1, by show z.2.1 + 1 ≤ 4096; omega⟩
  · exact hz
set_option maxHeartbeats 4000000 in
set_option maxRecDepth 100000 in
theorem cS_putByte (l : Launch) (D : va_G) (h qb qt : Nat) (cI : ClassId) (z : SS) (b : Int32) (hd : ap3 h qb qt) (hz : okZ z) : Met l yS_putByte (Cond.code yS_putByte prog_1_method_36_code 2 none :: TB) { frames := 0, cells := 0, slots := 0, locals := 0 } (gx (xZ9 D h qb qt cI z) [.ref h, .int b]) (mQ (none) D (srZ h qb qt cI (wB z b)) (A3 h qb qt)) 0 0 (A3 h qb qt) := by
  refine mt_of (by decide) ?_
  intro p e s m args below meth cd S hr hk hin hv
  obtain ⟨rfl, hX⟩ := hv
  have hP : va_P D CL (srZ h qb qt cI z) s.heap := hX.1
  have hK := hX.2
  have hz1 := hz.1
  have hz2 := hz.2
  have hS : va_S (A3 h qb qt) s.heap s.heap [] := va_S.rf
  have hx := S.1
  have hb := S.2.1
  have hown := S.2.2.2.1
  have hts := S.2.2.2.2
  have hl := lv_entry ([.ref h, .int b]) (n := 2) (Nat.le_of_ble_eq_true rfl)
  rw [lg_entry_eq]
  generalize (lg_sl ([.ref h, .int b]) ++ List.replicate (2 - (lg_sl ([.ref h, .int b])).length) Slot.unset).toArray = ls at hl ⊢
  have hl : lv_has ls 2 [(0, .ref h), (1, .int b)] := hl
  refine lv_aload_n hx hb dS_putByte_0 rfl (lv_at hl 0 rfl) ?_
  refine va_get (D := D) (ci := 0) (v := .int (nI z.1)) (C := "SignReader") (T := T_S) (N := 5) hx hb hts i_S hown hK hP 0 rfl rfl 2 (by decide) (hts _ k24) (fun _ h9 => h9) rfl dS_putByte_1 ?_
  refine lv_sipush (v := 4096) hx hb dS_putByte_4 (by decide) ?_
  refine lv_icmp_ge (tgt := 34) hx hb dS_putByte_7 (by decide) (fun c1 => ?_) (fun c1 => ?_)
  · skip
    rw [show (4096 : Int32) = nI 4096 from rfl, nI_leI (by omega) (by omega)] at c1
    have hP : va_P D CL (srZ h qb qt cI (wB z b)) _ := va_Pe (congrArg (srZ h qb qt cI) (by rw [wB, if_neg (by omega)] : (z : SS) = wB z b)) hP
    exact mu_ret0 S hr hk hP hS dS_putByte_34
  · skip
    rw [show (4096 : Int32) = nI 4096 from rfl, nI_leI (by omega) (by omega)] at c1
    refine lv_aload_n hx hb dS_putByte_10 rfl (lv_at hl 0 rfl) ?_
    refine va_get (D := D) (ci := 0) (v := .ref qb) (C := "SignReader") (T := T_S) (N := 5) hx hb hts i_S hown hK hP 0 rfl rfl 0 (by decide) (hts _ k22) (fun _ h9 => h9) rfl dS_putByte_11 ?_
    refine lv_aload_n hx hb dS_putByte_14 rfl (lv_at hl 0 rfl) ?_
    refine va_get (D := D) (ci := 0) (v := .int (nI z.1)) (C := "SignReader") (T := T_S) (N := 5) hx hb hts i_S hown hK hP 0 rfl rfl 2 (by decide) (hts _ k24) (fun _ h9 => h9) rfl dS_putByte_15 ?_
    refine lv_iload_n hx hb dS_putByte_18 rfl (lv_at hl 1 rfl) ?_
    refine lv_sipush (v := 255) hx hb dS_putByte_19 (by decide) ?_
    refine lv_iand hx hb dS_putByte_22 ?_
    refine va_iast hx hb hK hP (srD hd) hS 1 0 rfl rfl (vp_in_nI (by omega) (by omega)) dS_putByte_23 (fun H locs hP _ hS => ?_)
    have hP : va_P D CL (srW h qb qt cI (nI z.1) (nI z.2.1) (z.2.2.1) (upd (z.2.2.2.1) ((nI z.1)).toNatClampNeg ((b &&& 255))) (z.2.2.2.2)) H := hP
    refine lv_aload_n hx hb dS_putByte_24 rfl (lv_at hl 0 rfl) ?_
    refine lv_dup hx hb dS_putByte_25 rfl ?_
    refine va_get (D := D) (ci := 0) (v := .int (nI z.1)) (C := "SignReader") (T := T_S) (N := 5) hx hb hts i_S hown hK hP 0 rfl rfl 2 (by decide) (hts _ k24) (fun _ h9 => h9) rfl dS_putByte_26 ?_
    refine lv_iconst (v := 1) hx hb dS_putByte_29 (by decide) ?_
    refine lv_iadd hx hb dS_putByte_30 ?_
    refine va_put (D := D) (ci := 0) (v := .int ((nI z.1) + 1)) (ty := .int) (C := "SignReader") (T := T_S) (N := 5) hx hb hts i_S t_S t_S_ok n_S hown hK hP (srD hd) hS 0 rfl rfl 2 (by decide) (hts _ k24) (fun _ h9 => h9) rfl (by decide +kernel) rfl rfl (Nat.le_of_ble_eq_true rfl) dS_putByte_31 (fun H locs hP _ hS => ?_)
    have hP : va_P D CL (srW h qb qt cI (((nI z.1) + 1)) (nI z.2.1) (z.2.2.1) (upd (z.2.2.2.1) ((nI z.1)).toNatClampNeg ((b &&& 255))) (z.2.2.2.2)) H := hP
    have hP : va_P D CL (srZ h qb qt cI (wB z b)) _ := va_Pe (by simp only [wB, nI_1, nI_clamp (show z.1 < 2 ^ 31 by omega)]; rw [if_pos (by omega)] : srW h qb qt cI (((nI z.1) + 1)) (nI z.2.1) (z.2.2.1) (upd (z.2.2.2.1) ((nI z.1)).toNatClampNeg ((b &&& 255))) (z.2.2.2.2) = srZ h qb qt cI (wB z b)) hP
    exact mu_ret0 S hr hk hP hS dS_putByte_34
set_option maxHeartbeats 4000000 in
set_option maxRecDepth 100000 in
theorem cS_putSign (l : Launch) (D : va_G) (h qb qt : Nat) (cI : ClassId) (z : SS) (c : Int32) (hd : ap3 h qb qt) (hz : okZ z) : Met l yS_putSign (Cond.code yS_putSign prog_1_method_19_code 2 none :: TB) { frames := 0, cells := 0, slots := 0, locals := 0 } (gx (xZ9 D h qb qt cI z) [.ref h, .int c]) (mQ (none) D (srZ h qb qt cI (wG z c)) (A3 h qb qt)) 0 0 (A3 h qb qt) := by
  refine mt_of (by decide) ?_
  intro p e s m args below meth cd S hr hk hin hv
  obtain ⟨rfl, hX⟩ := hv
  have hP : va_P D CL (srZ h qb qt cI z) s.heap := hX.1
  have hK := hX.2
  have hz1 := hz.1
  have hz2 := hz.2
  have hS : va_S (A3 h qb qt) s.heap s.heap [] := va_S.rf
  have hx := S.1
  have hb := S.2.1
  have hown := S.2.2.2.1
  have hts := S.2.2.2.2
  have hl := lv_entry ([.ref h, .int c]) (n := 2) (Nat.le_of_ble_eq_true rfl)
  rw [lg_entry_eq]
  generalize (lg_sl ([.ref h, .int c]) ++ List.replicate (2 - (lg_sl ([.ref h, .int c])).length) Slot.unset).toArray = ls at hl ⊢
  have hl : lv_has ls 2 [(0, .ref h), (1, .int c)] := hl
  refine lv_aload_n hx hb dS_putSign_0 rfl (lv_at hl 0 rfl) ?_
  refine va_get (D := D) (ci := 0) (v := .int (nI z.2.1)) (C := "SignReader") (T := T_S) (N := 5) hx hb hts i_S hown hK hP 0 rfl rfl 3 (by decide) (hts _ k25) (fun _ h9 => h9) rfl dS_putSign_1 ?_
  refine lv_sipush (v := 4096) hx hb dS_putSign_4 (by decide) ?_
  refine lv_icmp_ge (tgt := 30) hx hb dS_putSign_7 (by decide) (fun c1 => ?_) (fun c1 => ?_)
  · skip
    rw [show (4096 : Int32) = nI 4096 from rfl, nI_leI (by omega) (by omega)] at c1
    have hP : va_P D CL (srZ h qb qt cI (wG z c)) _ := va_Pe (congrArg (srZ h qb qt cI) (by rw [wG, if_neg (by omega)] : (z : SS) = wG z c)) hP
    exact mu_ret0 S hr hk hP hS dS_putSign_30
  · skip
    rw [show (4096 : Int32) = nI 4096 from rfl, nI_leI (by omega) (by omega)] at c1
    refine lv_aload_n hx hb dS_putSign_10 rfl (lv_at hl 0 rfl) ?_
    refine va_get (D := D) (ci := 0) (v := .ref qt) (C := "SignReader") (T := T_S) (N := 5) hx hb hts i_S hown hK hP 0 rfl rfl 1 (by decide) (hts _ k23) (fun _ h9 => h9) rfl dS_putSign_11 ?_
    refine lv_aload_n hx hb dS_putSign_14 rfl (lv_at hl 0 rfl) ?_
    refine va_get (D := D) (ci := 0) (v := .int (nI z.2.1)) (C := "SignReader") (T := T_S) (N := 5) hx hb hts i_S hown hK hP 0 rfl rfl 3 (by decide) (hts _ k25) (fun _ h9 => h9) rfl dS_putSign_15 ?_
    refine lv_iload_n hx hb dS_putSign_18 rfl (lv_at hl 1 rfl) ?_
    refine va_iast hx hb hK hP (srD hd) hS 2 0 rfl rfl (vp_in_nI (by omega) (by omega)) dS_putSign_19 (fun H locs hP _ hS => ?_)
    have hP : va_P D CL (srW h qb qt cI (nI z.1) (nI z.2.1) (z.2.2.1) (z.2.2.2.1) (upd (z.2.2.2.2) ((nI z.2.1)).toNatClampNeg (c))) H := hP
    refine lv_aload_n hx hb dS_putSign_20 rfl (lv_at hl 0 rfl) ?_
    refine lv_dup hx hb dS_putSign_21 rfl ?_
    refine va_get (D := D) (ci := 0) (v := .int (nI z.2.1)) (C := "SignReader") (T := T_S) (N := 5) hx hb hts i_S hown hK hP 0 rfl rfl 3 (by decide) (hts _ k25) (fun _ h9 => h9) rfl dS_putSign_22 ?_
    refine lv_iconst (v := 1) hx hb dS_putSign_25 (by decide) ?_
    refine lv_iadd hx hb dS_putSign_26 ?_
    refine va_put (D := D) (ci := 0) (v := .int ((nI z.2.1) + 1)) (ty := .int) (C := "SignReader") (T := T_S) (N := 5) hx hb hts i_S t_S t_S_ok n_S hown hK hP (srD hd) hS 0 rfl rfl 3 (by decide) (hts _ k25) (fun _ h9 => h9) rfl (by decide +kernel) rfl rfl (Nat.le_of_ble_eq_true rfl) dS_putSign_27 (fun H locs hP _ hS => ?_)
    have hP : va_P D CL (srW h qb qt cI (nI z.1) (((nI z.2.1) + 1)) (z.2.2.1) (z.2.2.2.1) (upd (z.2.2.2.2) ((nI z.2.1)).toNatClampNeg (c))) H := hP
    have hP : va_P D CL (srZ h qb qt cI (wG z c)) _ := va_Pe (by simp only [wG, nI_1, nI_clamp (show z.2.1 < 2 ^ 31 by omega)]; rw [if_pos (by omega)] : srW h qb qt cI (nI z.1) (((nI z.2.1) + 1)) (z.2.2.1) (z.2.2.2.1) (upd (z.2.2.2.2) ((nI z.2.1)).toNatClampNeg (c)) = srZ h qb qt cI (wG z c)) hP
    exact mu_ret0 S hr hk hP hS dS_putSign_30
def w4 (z : SS) (v : Int32) : SS := wB (wB (wB (wB z (v >>> ((24 : Int32) &&& 31))) (v >>> ((16 : Int32) &&& 31))) (v >>> ((8 : Int32) &&& 31))) v
theorem w4_ok {z : SS} {v : Int32} (hz : okZ z) : okZ (w4 z v) := wB_ok (wB_ok (wB_ok (wB_ok hz)))
set_option maxHeartbeats 4000000 in
set_option maxRecDepth 100000 in
theorem cS_putFour (l : Launch) (D : va_G) (h qb qt : Nat) (cI : ClassId) (z : SS) (v : Int32) (hd : ap3 h qb qt) (hz : okZ z) : Met l yS_putFour (Cond.code yS_putFour prog_1_method_35_code 2 none :: TB) { frames := 1, cells := 0, slots := 0, locals := 21 } (gx (xZ9 D h qb qt cI z) [.ref h, .int v]) (mQ (none) D (srZ h qb qt cI (w4 z v)) (A3 h qb qt)) 0 0 (A3 h qb qt) := by
  refine mt_of (by decide) ?_
  intro p e s m args below meth cd S hr hk hin hv
  obtain ⟨rfl, hX⟩ := hv
  have hP : va_P D CL (srZ h qb qt cI z) s.heap := hX.1
  have hK := hX.2
  have hS : va_S (A3 h qb qt) s.heap s.heap [] := va_S.rf
  have hx := S.1
  have hb := S.2.1
  have hown := S.2.2.2.1
  have hts := S.2.2.2.2
  have hl := lv_entry ([.ref h, .int v]) (n := 2) (Nat.le_of_ble_eq_true rfl)
  rw [lg_entry_eq]
  generalize (lg_sl ([.ref h, .int v]) ++ List.replicate (2 - (lg_sl ([.ref h, .int v])).length) Slot.unset).toArray = ls at hl ⊢
  have hl : lv_has ls 2 [(0, .ref h), (1, .int v)] := hl
  refine lv_aload_n hx hb dS_putFour_0 rfl (lv_at hl 0 rfl) ?_
  refine lv_iload_n hx hb dS_putFour_1 rfl (lv_at hl 1 rfl) ?_
  refine lv_bipush (v := 24) hx hb dS_putFour_2 (by decide) ?_
  refine lv_ishr hx hb dS_putFour_4 ?_
  refine mu_V (As := [.int (v >>> ((24 : Int32) &&& 31) : Int32)]) (rest := []) (n := 1) (C := "SignReader") S (cS_putByte l D h qb qt cI (z)  ((v >>> ((24 : Int32) &&& 31) : Int32)) hd hz ) k274 k1 k273 ks14 (by decide +kernel) ⟨rfl, rfl⟩ k271 (by decide) (xW_V ⟨hP, hK⟩) rfl rfl hl.1 (Nat.le_of_ble_eq_true rfl) ⟨Nat.le_refl _, Nat.le_refl _⟩ dS_putFour_5 hS (fun _ h9 => h9) (fun H locs hP hS => ?_)
  have hP : va_P D CL (srZ h qb qt cI (wB z ((v >>> ((24 : Int32) &&& 31) : Int32)))) H := hP
  refine lv_aload_n hx hb dS_putFour_8 rfl (lv_at hl 0 rfl) ?_
  refine lv_iload_n hx hb dS_putFour_9 rfl (lv_at hl 1 rfl) ?_
  refine lv_bipush (v := 16) hx hb dS_putFour_10 (by decide) ?_
  refine lv_ishr hx hb dS_putFour_12 ?_
  refine mu_V (As := [.int (v >>> ((16 : Int32) &&& 31) : Int32)]) (rest := []) (n := 1) (C := "SignReader") S (cS_putByte l D h qb qt cI (wB z ((v >>> ((24 : Int32) &&& 31) : Int32)))  ((v >>> ((16 : Int32) &&& 31) : Int32)) hd (wB_ok hz) ) k274 k1 k273 ks14 (by decide +kernel) ⟨rfl, rfl⟩ k271 (by decide) (xW_V ⟨hP, hK⟩) rfl rfl hl.1 (Nat.le_of_ble_eq_true rfl) ⟨Nat.le_refl _, Nat.le_refl _⟩ dS_putFour_13 hS (fun _ h9 => h9) (fun H locs hP hS => ?_)
  have hP : va_P D CL (srZ h qb qt cI (wB (wB z ((v >>> ((24 : Int32) &&& 31) : Int32))) ((v >>> ((16 : Int32) &&& 31) : Int32)))) H := hP
  refine lv_aload_n hx hb dS_putFour_16 rfl (lv_at hl 0 rfl) ?_
  refine lv_iload_n hx hb dS_putFour_17 rfl (lv_at hl 1 rfl) ?_
  refine lv_bipush (v := 8) hx hb dS_putFour_18 (by decide) ?_
  refine lv_ishr hx hb dS_putFour_20 ?_
  refine mu_V (As := [.int (v >>> ((8 : Int32) &&& 31) : Int32)]) (rest := []) (n := 1) (C := "SignReader") S (cS_putByte l D h qb qt cI (wB (wB z ((v >>> ((24 : Int32) &&& 31) : Int32))) ((v >>> ((16 : Int32) &&& 31) : Int32)))  ((v >>> ((8 : Int32) &&& 31) : Int32)) hd (wB_ok (wB_ok hz)) ) k274 k1 k273 ks14 (by decide +kernel) ⟨rfl, rfl⟩ k271 (by decide) (xW_V ⟨hP, hK⟩) rfl rfl hl.1 (Nat.le_of_ble_eq_true rfl) ⟨Nat.le_refl _, Nat.le_refl _⟩ dS_putFour_21 hS (fun _ h9 => h9) (fun H locs hP hS => ?_)
  have hP : va_P D CL (srZ h qb qt cI (wB (wB (wB z ((v >>> ((24 : Int32) &&& 31) : Int32))) ((v >>> ((16 : Int32) &&& 31) : Int32))) ((v >>> ((8 : Int32) &&& 31) : Int32)))) H := hP
  refine lv_aload_n hx hb dS_putFour_24 rfl (lv_at hl 0 rfl) ?_
  refine lv_iload_n hx hb dS_putFour_25 rfl (lv_at hl 1 rfl) ?_
  refine mu_V (As := [.int v]) (rest := []) (n := 1) (C := "SignReader") S (cS_putByte l D h qb qt cI (wB (wB (wB z ((v >>> ((24 : Int32) &&& 31) : Int32))) ((v >>> ((16 : Int32) &&& 31) : Int32))) ((v >>> ((8 : Int32) &&& 31) : Int32)))  (v) hd (wB_ok (wB_ok (wB_ok hz))) ) k274 k1 k273 ks14 (by decide +kernel) ⟨rfl, rfl⟩ k271 (by decide) (xW_V ⟨hP, hK⟩) rfl rfl hl.1 (Nat.le_of_ble_eq_true rfl) ⟨Nat.le_refl _, Nat.le_refl _⟩ dS_putFour_26 hS (fun _ h9 => h9) (fun H locs hP hS => ?_)
  have hP : va_P D CL (srZ h qb qt cI (wB (wB (wB (wB z ((v >>> ((24 : Int32) &&& 31) : Int32))) ((v >>> ((16 : Int32) &&& 31) : Int32))) ((v >>> ((8 : Int32) &&& 31) : Int32))) v)) H := hP
  have hP : va_P D CL (srZ h qb qt cI (w4 z v)) _ := va_Pe (congrArg (srZ h qb qt cI) (rfl : (wB (wB (wB (wB z ((v >>> ((24 : Int32) &&& 31) : Int32))) ((v >>> ((16 : Int32) &&& 31) : Int32))) ((v >>> ((8 : Int32) &&& 31) : Int32))) v : SS) = w4 z v)) hP
  exact mu_ret0 S hr hk hP hS dS_putFour_29
def w2 (z : SS) (u w : Int32) : SS := if w = 1 then wB (wB z (u >>> ((8 : Int32) &&& 31))) u else wB (wB z u) (u >>> ((8 : Int32) &&& 31))
theorem w2_ok {z : SS} {u w : Int32} (hz : okZ z) : okZ (w2 z u w) := by unfold w2; split <;> exact wB_ok (wB_ok hz)
set_option maxHeartbeats 4000000 in
set_option maxRecDepth 100000 in
theorem cS_putPair (l : Launch) (D : va_G) (h qb qt : Nat) (cI : ClassId) (z : SS) (u w : Int32) (hd : ap3 h qb qt) (hz : okZ z) : Met l yS_putPair (Cond.code yS_putPair prog_1_method_34_code 3 none :: TB) { frames := 1, cells := 0, slots := 0, locals := 21 } (gx (xZ9 D h qb qt cI z) [.ref h, .int u, .int w]) (mQ (none) D (srZ h qb qt cI (w2 z u w)) (A3 h qb qt)) 0 0 (A3 h qb qt) := by
  refine mt_of (by decide) ?_
  intro p e s m args below meth cd S hr hk hin hv
  obtain ⟨rfl, hX⟩ := hv
  have hP : va_P D CL (srZ h qb qt cI z) s.heap := hX.1
  have hK := hX.2
  have hS : va_S (A3 h qb qt) s.heap s.heap [] := va_S.rf
  have hx := S.1
  have hb := S.2.1
  have hown := S.2.2.2.1
  have hts := S.2.2.2.2
  have hl := lv_entry ([.ref h, .int u, .int w]) (n := 3) (Nat.le_of_ble_eq_true rfl)
  rw [lg_entry_eq]
  generalize (lg_sl ([.ref h, .int u, .int w]) ++ List.replicate (3 - (lg_sl ([.ref h, .int u, .int w])).length) Slot.unset).toArray = ls at hl ⊢
  have hl : lv_has ls 3 [(0, .ref h), (1, .int u), (2, .int w)] := hl
  refine lv_iload_n hx hb dS_putPair_0 rfl (lv_at hl 2 rfl) ?_
  refine lv_iconst (v := 1) hx hb dS_putPair_1 (by decide) ?_
  refine lv_icmp_ne (tgt := 21) hx hb dS_putPair_2 (by decide) (fun c1 => ?_) (fun c1 => ?_)
  · skip
    refine lv_aload_n hx hb dS_putPair_21 rfl (lv_at hl 0 rfl) ?_
    refine lv_iload_n hx hb dS_putPair_22 rfl (lv_at hl 1 rfl) ?_
    refine mu_V (As := [.int u]) (rest := []) (n := 1) (C := "SignReader") S (cS_putByte l D h qb qt cI (z)  (u) hd hz ) k274 k1 k273 ks14 (by decide +kernel) ⟨rfl, rfl⟩ k271 (by decide) (xW_V ⟨hP, hK⟩) rfl rfl hl.1 (Nat.le_of_ble_eq_true rfl) ⟨Nat.le_refl _, Nat.le_refl _⟩ dS_putPair_23 hS (fun _ h9 => h9) (fun H locs hP hS => ?_)
    have hP : va_P D CL (srZ h qb qt cI (wB z u)) H := hP
    refine lv_aload_n hx hb dS_putPair_26 rfl (lv_at hl 0 rfl) ?_
    refine lv_iload_n hx hb dS_putPair_27 rfl (lv_at hl 1 rfl) ?_
    refine lv_bipush (v := 8) hx hb dS_putPair_28 (by decide) ?_
    refine lv_ishr hx hb dS_putPair_30 ?_
    refine mu_V (As := [.int (u >>> ((8 : Int32) &&& 31) : Int32)]) (rest := []) (n := 1) (C := "SignReader") S (cS_putByte l D h qb qt cI (wB z u)  ((u >>> ((8 : Int32) &&& 31) : Int32)) hd (wB_ok hz) ) k274 k1 k273 ks14 (by decide +kernel) ⟨rfl, rfl⟩ k271 (by decide) (xW_V ⟨hP, hK⟩) rfl rfl hl.1 (Nat.le_of_ble_eq_true rfl) ⟨Nat.le_refl _, Nat.le_refl _⟩ dS_putPair_31 hS (fun _ h9 => h9) (fun H locs hP hS => ?_)
    have hP : va_P D CL (srZ h qb qt cI (wB (wB z u) ((u >>> ((8 : Int32) &&& 31) : Int32)))) H := hP
    have hP : va_P D CL (srZ h qb qt cI (w2 z u w)) _ := va_Pe (congrArg (srZ h qb qt cI) (by simp only [w2, c1, ↓reduceIte] : (wB (wB z u) ((u >>> ((8 : Int32) &&& 31) : Int32)) : SS) = w2 z u w)) hP
    exact mu_ret0 S hr hk hP hS dS_putPair_34
  · skip
    refine lv_aload_n hx hb dS_putPair_5 rfl (lv_at hl 0 rfl) ?_
    refine lv_iload_n hx hb dS_putPair_6 rfl (lv_at hl 1 rfl) ?_
    refine lv_bipush (v := 8) hx hb dS_putPair_7 (by decide) ?_
    refine lv_ishr hx hb dS_putPair_9 ?_
    refine mu_V (As := [.int (u >>> ((8 : Int32) &&& 31) : Int32)]) (rest := []) (n := 1) (C := "SignReader") S (cS_putByte l D h qb qt cI (z)  ((u >>> ((8 : Int32) &&& 31) : Int32)) hd hz ) k274 k1 k273 ks14 (by decide +kernel) ⟨rfl, rfl⟩ k271 (by decide) (xW_V ⟨hP, hK⟩) rfl rfl hl.1 (Nat.le_of_ble_eq_true rfl) ⟨Nat.le_refl _, Nat.le_refl _⟩ dS_putPair_10 hS (fun _ h9 => h9) (fun H locs hP hS => ?_)
    have hP : va_P D CL (srZ h qb qt cI (wB z ((u >>> ((8 : Int32) &&& 31) : Int32)))) H := hP
    refine lv_aload_n hx hb dS_putPair_13 rfl (lv_at hl 0 rfl) ?_
    refine lv_iload_n hx hb dS_putPair_14 rfl (lv_at hl 1 rfl) ?_
    refine mu_V (As := [.int u]) (rest := []) (n := 1) (C := "SignReader") S (cS_putByte l D h qb qt cI (wB z ((u >>> ((8 : Int32) &&& 31) : Int32)))  (u) hd (wB_ok hz) ) k274 k1 k273 ks14 (by decide +kernel) ⟨rfl, rfl⟩ k271 (by decide) (xW_V ⟨hP, hK⟩) rfl rfl hl.1 (Nat.le_of_ble_eq_true rfl) ⟨Nat.le_refl _, Nat.le_refl _⟩ dS_putPair_15 hS (fun _ h9 => h9) (fun H locs hP hS => ?_)
    have hP : va_P D CL (srZ h qb qt cI (wB (wB z ((u >>> ((8 : Int32) &&& 31) : Int32))) u)) H := hP
    refine lv_goto (tgt := 34) hx hb dS_putPair_18 (by decide) ?_
    have hP : va_P D CL (srZ h qb qt cI (w2 z u w)) _ := va_Pe (congrArg (srZ h qb qt cI) (by simp only [w2, c1, ↓reduceIte] : (wB (wB z ((u >>> ((8 : Int32) &&& 31) : Int32))) u : SS) = w2 z u w)) hP
    exact mu_ret0 S hr hk hP hS dS_putPair_34
def w16 (z : SS) (c w : Int32) : SS := if 65536 ≤ c then w2 (w2 z (55296 + ((c - 65536) >>> ((10 : Int32) &&& 31) : Int32)) w) (56320 + ((c - 65536) &&& 1023)) w else w2 z c w
theorem w16_ok {z : SS} {c w : Int32} (hz : okZ z) : okZ (w16 z c w) := by
  unfold w16
  split
  · exact w2_ok (w2_ok hz)
  · exact w2_ok hz
set_option maxHeartbeats 4000000 in
set_option maxRecDepth 100000 in
theorem cS_put16Bits (l : Launch) (D : va_G) (h qb qt : Nat) (cI : ClassId) (z : SS) (c w : Int32) (hd : ap3 h qb qt) (hz : okZ z) : Met l yS_put16Bits (Cond.code yS_put16Bits prog_1_method_33_code 4 none :: TB) { frames := 2, cells := 0, slots := 0, locals := 43 } (gx (xZ9 D h qb qt cI z) [.ref h, .int c, .int w]) (mQ (none) D (srZ h qb qt cI (w16 z c w)) (A3 h qb qt)) 0 0 (A3 h qb qt) := by
  refine mt_of (by decide) ?_
  intro p e s m args below meth cd S hr hk hin hv
  obtain ⟨rfl, hX⟩ := hv
  have hP : va_P D CL (srZ h qb qt cI z) s.heap := hX.1
  have hK := hX.2
  have hS : va_S (A3 h qb qt) s.heap s.heap [] := va_S.rf
  have hx := S.1
  have hb := S.2.1
  have hown := S.2.2.2.1
  have hts := S.2.2.2.2
  have hl := lv_entry ([.ref h, .int c, .int w]) (n := 4) (Nat.le_of_ble_eq_true rfl)
  rw [lg_entry_eq]
  generalize (lg_sl ([.ref h, .int c, .int w]) ++ List.replicate (4 - (lg_sl ([.ref h, .int c, .int w])).length) Slot.unset).toArray = ls at hl ⊢
  have hl : lv_has ls 4 [(0, .ref h), (1, .int c), (2, .int w)] := hl
  refine lv_iload_n hx hb dS_put16Bits_0 rfl (lv_at hl 1 rfl) ?_
  refine lv_ldc (v := 65536) hx hb hown (hts _ k79) dS_put16Bits_1 ?_
  refine lv_icmp_ge (tgt := 13) hx hb dS_put16Bits_3 (by decide) (fun c1 => ?_) (fun c1 => ?_)
  · skip
    refine lv_iload_n hx hb dS_put16Bits_13 rfl (lv_at hl 1 rfl) ?_
    refine lv_ldc (v := 65536) hx hb hown (hts _ k79) dS_put16Bits_14 ?_
    refine lv_isub hx hb dS_put16Bits_16 ?_
    refine lv_istore_n (lv' := [(3, .int (c - 65536)), (0, .ref h), (1, .int c), (2, .int w)]) hx hb dS_put16Bits_17 rfl hl (by decide) rfl (fun ls hl => ?_)
    refine lv_aload_n hx hb dS_put16Bits_18 rfl (lv_at hl 1 rfl) ?_
    refine lv_ldc (v := 55296) hx hb hown (hts _ k75) dS_put16Bits_19 ?_
    refine lv_iload_n hx hb dS_put16Bits_21 rfl (lv_at hl 0 rfl) ?_
    refine lv_bipush (v := 10) hx hb dS_put16Bits_22 (by decide) ?_
    refine lv_ishr hx hb dS_put16Bits_24 ?_
    refine lv_iadd hx hb dS_put16Bits_25 ?_
    refine lv_iload_n hx hb dS_put16Bits_26 rfl (lv_at hl 3 rfl) ?_
    refine mu_V (As := [.int (55296 + ((c - 65536) >>> ((10 : Int32) &&& 31) : Int32)), .int w]) (rest := []) (n := 2) (C := "SignReader") S (cS_putPair l D h qb qt cI (z)  ((55296 + ((c - 65536) >>> ((10 : Int32) &&& 31) : Int32))) (w) hd hz ) k270 k1 k269 ks13 (by decide +kernel) ⟨rfl, rfl⟩ k267 (by decide) (xW_V ⟨hP, hK⟩) rfl rfl hl.1 (Nat.le_of_ble_eq_true rfl) ⟨Nat.le_refl _, Nat.le_refl _⟩ dS_put16Bits_27 hS (fun _ h9 => h9) (fun H locs hP hS => ?_)
    have hP : va_P D CL (srZ h qb qt cI (w2 z ((55296 + ((c - 65536) >>> ((10 : Int32) &&& 31) : Int32))) w)) H := hP
    refine lv_aload_n hx hb dS_put16Bits_30 rfl (lv_at hl 1 rfl) ?_
    refine lv_ldc (v := 56320) hx hb hown (hts _ k77) dS_put16Bits_31 ?_
    refine lv_iload_n hx hb dS_put16Bits_33 rfl (lv_at hl 0 rfl) ?_
    refine lv_sipush (v := 1023) hx hb dS_put16Bits_34 (by decide) ?_
    refine lv_iand hx hb dS_put16Bits_37 ?_
    refine lv_iadd hx hb dS_put16Bits_38 ?_
    refine lv_iload_n hx hb dS_put16Bits_39 rfl (lv_at hl 3 rfl) ?_
    refine mu_V (As := [.int (56320 + ((c - 65536) &&& 1023)), .int w]) (rest := []) (n := 2) (C := "SignReader") S (cS_putPair l D h qb qt cI (w2 z ((55296 + ((c - 65536) >>> ((10 : Int32) &&& 31) : Int32))) w)  ((56320 + ((c - 65536) &&& 1023))) (w) hd (w2_ok hz) ) k270 k1 k269 ks13 (by decide +kernel) ⟨rfl, rfl⟩ k267 (by decide) (xW_V ⟨hP, hK⟩) rfl rfl hl.1 (Nat.le_of_ble_eq_true rfl) ⟨Nat.le_refl _, Nat.le_refl _⟩ dS_put16Bits_40 hS (fun _ h9 => h9) (fun H locs hP hS => ?_)
    have hP : va_P D CL (srZ h qb qt cI (w2 (w2 z ((55296 + ((c - 65536) >>> ((10 : Int32) &&& 31) : Int32))) w) ((56320 + ((c - 65536) &&& 1023))) w)) H := hP
    have hP : va_P D CL (srZ h qb qt cI (w16 z c w)) _ := va_Pe (congrArg (srZ h qb qt cI) (by simp only [w16, c1, ↓reduceIte] : (w2 (w2 z ((55296 + ((c - 65536) >>> ((10 : Int32) &&& 31) : Int32))) w) ((56320 + ((c - 65536) &&& 1023))) w : SS) = w16 z c w)) hP
    exact mu_ret0 S hr hk hP hS dS_put16Bits_43
  · skip
    refine lv_aload_n hx hb dS_put16Bits_6 rfl (lv_at hl 0 rfl) ?_
    refine lv_iload_n hx hb dS_put16Bits_7 rfl (lv_at hl 1 rfl) ?_
    refine lv_iload_n hx hb dS_put16Bits_8 rfl (lv_at hl 2 rfl) ?_
    refine mu_V (As := [.int c, .int w]) (rest := []) (n := 2) (C := "SignReader") S (cS_putPair l D h qb qt cI (z)  (c) (w) hd hz ) k270 k1 k269 ks13 (by decide +kernel) ⟨rfl, rfl⟩ k267 (by decide) (xW_V ⟨hP, hK⟩) rfl rfl hl.1 (Nat.le_of_ble_eq_true rfl) ⟨Nat.le_refl _, Nat.le_refl _⟩ dS_put16Bits_9 hS (fun _ h9 => h9) (fun H locs hP hS => ?_)
    have hP : va_P D CL (srZ h qb qt cI (w2 z c w)) H := hP
    have hP : va_P D CL (srZ h qb qt cI (w16 z c w)) _ := va_Pe (congrArg (srZ h qb qt cI) (by simp only [w16, c1, ↓reduceIte] : (w2 z c w : SS) = w16 z c w)) hP
    exact mu_ret0 S hr hk hP hS dS_put16Bits_12
/-- the bytes behind the first one of a character in 8 bits -/
def wT (c : Int32) : Nat → SS → SS
  | 0, z => z
  | k + 1, z => wT c k (wB z (128 + ((c >>> ((6 * nI k) &&& 31) : Int32) &&& 63)))
theorem wT_ok {c : Int32} : ∀ {k : Nat} {z : SS}, okZ z → okZ (wT c k z)
  | 0, _, h => h
  | k + 1, _, h => wT_ok (k := k) (wB_ok h)
def sz8 (c : Int32) : Nat := if 128 ≤ c then (if 2048 ≤ c then (if 65536 ≤ c then 3 else 2) else 1) else 0
theorem sz8_eq (c : Int32) : sSize8 c - 1 = nI (sz8 c) := by
  unfold sSize8 sz8
  split
  · split
    · split <;> rfl
    · rfl
  · rfl
theorem sz8_le (c : Int32) : sz8 c ≤ 3 := by
  unfold sz8
  split
  · split
    · split <;> omega
    · omega
  · omega
def w8 (z : SS) (c : Int32) : SS := if sz8 c = 0 then wB z c else wT c (sz8 c) (wB z (256 - ((128 : Int32) >>> (nI (sz8 c) &&& 31) : Int32) + (c >>> ((6 * nI (sz8 c)) &&& 31) : Int32)))
theorem w8_ok {z : SS} {c : Int32} (hz : okZ z) : okZ (w8 z c) := by
  unfold w8
  split
  · exact wB_ok hz
  · exact wT_ok (wB_ok hz)
set_option maxHeartbeats 4000000 in
set_option maxRecDepth 100000 in
theorem cS_put8Bits (l : Launch) (D : va_G) (h qb qt : Nat) (cI : ClassId) (z : SS) (c : Int32) (hd : ap3 h qb qt) (hz : okZ z) : Met l yS_put8Bits (Cond.code yS_put8Bits prog_1_method_32_code 5 none :: TB) { frames := 1, cells := 0, slots := 0, locals := 21 } (gx (xZ9 D h qb qt cI z) [.ref h, .int c]) (mQ (none) D (srZ h qb qt cI (w8 z c)) (A3 h qb qt)) 0 0 (A3 h qb qt) := by
  refine mt_of (by decide) ?_
  intro p e s m args below meth cd S hr hk hin hv
  obtain ⟨rfl, hX⟩ := hv
  have hP : va_P D CL (srZ h qb qt cI z) s.heap := hX.1
  have hK := hX.2
  have hS : va_S (A3 h qb qt) s.heap s.heap [] := va_S.rf
  have hx := S.1
  have hb := S.2.1
  have hown := S.2.2.2.1
  have hts := S.2.2.2.2
  have hl := lv_entry ([.ref h, .int c]) (n := 5) (Nat.le_of_ble_eq_true rfl)
  rw [lg_entry_eq]
  generalize (lg_sl ([.ref h, .int c]) ++ List.replicate (5 - (lg_sl ([.ref h, .int c])).length) Slot.unset).toArray = ls at hl ⊢
  have hl : lv_has ls 5 [(0, .ref h), (1, .int c)] := hl
  refine lv_iload_n hx hb dS_put8Bits_0 rfl (lv_at hl 1 rfl) ?_
  refine ro_S (As := [.int c]) (rest := []) (n := 1) S (cS_sizeOf8Bits l (c)) k89 k1 k88 (by decide +kernel) ⟨rfl, rfl⟩ k87 (by decide) preEq rfl rfl hl.1 (Nat.le_of_ble_eq_true rfl) ⟨Nat.le_refl _, Nat.le_refl _⟩ dS_put8Bits_1 ?_
  refine lv_iconst (v := 1) hx hb dS_put8Bits_4 (by decide) ?_
  refine lv_isub hx hb dS_put8Bits_5 ?_
  rw [sz8_eq]
  refine lv_istore_n (lv' := [(2, .int (nI (sz8 c))), (0, .ref h), (1, .int c)]) hx hb dS_put8Bits_6 rfl hl (by decide) rfl (fun ls hl => ?_)
  refine lv_iload_n hx hb dS_put8Bits_7 rfl (lv_at hl 0 rfl) ?_
  refine lv_if_ne (tgt := 17) hx hb dS_put8Bits_8 (by decide) (fun c1 => ?_) (fun c1 => ?_)
  · skip
    have hc9 : ¬ sz8 c = 0 := fun q => c1 (by rw [q]; rfl)
    refine lv_sipush (v := 256) hx hb dS_put8Bits_17 (by decide) ?_
    refine lv_sipush (v := 128) hx hb dS_put8Bits_20 (by decide) ?_
    refine lv_iload_n hx hb dS_put8Bits_23 rfl (lv_at hl 0 rfl) ?_
    refine lv_ishr hx hb dS_put8Bits_24 ?_
    refine lv_isub hx hb dS_put8Bits_25 ?_
    refine lv_istore_n (lv' := [(3, .int (256 - ((128 : Int32) >>> ((nI (sz8 c)) &&& 31) : Int32))), (2, .int (nI (sz8 c))), (0, .ref h), (1, .int c)]) hx hb dS_put8Bits_26 rfl hl (by decide) rfl (fun ls hl => ?_)
    refine lv_aload_n hx hb dS_put8Bits_27 rfl (lv_at hl 2 rfl) ?_
    refine lv_iload_n hx hb dS_put8Bits_28 rfl (lv_at hl 0 rfl) ?_
    refine lv_iload_n hx hb dS_put8Bits_29 rfl (lv_at hl 3 rfl) ?_
    refine lv_bipush (v := 6) hx hb dS_put8Bits_30 (by decide) ?_
    refine lv_iload_n hx hb dS_put8Bits_32 rfl (lv_at hl 1 rfl) ?_
    refine lv_imul hx hb dS_put8Bits_33 ?_
    refine lv_ishr hx hb dS_put8Bits_34 ?_
    refine lv_iadd hx hb dS_put8Bits_35 ?_
    refine mu_V (As := [.int ((256 - ((128 : Int32) >>> ((nI (sz8 c)) &&& 31) : Int32)) + (c >>> ((6 * (nI (sz8 c))) &&& 31) : Int32))]) (rest := []) (n := 1) (C := "SignReader") S (cS_putByte l D h qb qt cI (z)  (((256 - ((128 : Int32) >>> ((nI (sz8 c)) &&& 31) : Int32)) + (c >>> ((6 * (nI (sz8 c))) &&& 31) : Int32))) hd hz ) k274 k1 k273 ks14 (by decide +kernel) ⟨rfl, rfl⟩ k271 (by decide) (xW_V ⟨hP, hK⟩) rfl rfl hl.1 (Nat.le_of_ble_eq_true rfl) ⟨Nat.le_refl _, Nat.le_refl _⟩ dS_put8Bits_36 hS (fun _ h9 => h9) (fun H locs hP hS => ?_)
    have hP : va_P D CL (srZ h qb qt cI (wB z (((256 - ((128 : Int32) >>> ((nI (sz8 c)) &&& 31) : Int32)) + (c >>> ((6 * (nI (sz8 c))) &&& 31) : Int32))))) H := hP
    refine lv_iload_n hx hb dS_put8Bits_39 rfl (lv_at hl 1 rfl) ?_
    refine lv_iconst (v := 1) hx hb dS_put8Bits_40 (by decide) ?_
    refine lv_isub hx hb dS_put8Bits_41 ?_
    refine lv_istore (lv' := [(4, .int ((nI (sz8 c)) - 1)), (3, .int (256 - ((128 : Int32) >>> ((nI (sz8 c)) &&& 31) : Int32))), (2, .int (nI (sz8 c))), (0, .ref h), (1, .int c)]) hx hb dS_put8Bits_42 hl (by decide) rfl (fun ls hl => ?_)
    have J44 : ∀ (fu : Nat) (x : Int32) (k : Nat) (z9 : SS) (H : Heap) (locs : List Loc), x = nI k - 1 → k ≤ 3 → k < fu → w8 z c = wT c k z9 → okZ z9 → va_P D CL (srZ h qb qt cI z9) H → va_S (A3 h qb qt) s.heap H locs → ∀ ls : Array Slot, lv_has ls 5 [(3, .int (256 - ((128 : Int32) >>> ((nI (sz8 c)) &&& 31) : Int32))), (2, .int (nI (sz8 c))), (0, .ref h), (1, .int c), (4, .int x)] → W p l e { frames := 1, cells := 0, slots := 0, locals := 21 } s m [.ref h, .int c].toArray below meth cd H locs 0 0 (MQ below (mQ (none) D (srZ h qb qt cI (w8 z c)) (A3 h qb qt)) [.ref h, .int c].toArray s 0 0 (A3 h qb qt)) (F0 m 44 ls []) := by
      intro fu
      induction fu with
      | zero =>
        intro x k z9 H locs hx9 hk9 hf9 hR hz9 hP hS ls hl
        exact absurd hf9 (by omega)
      | succ fu ih =>
        intro x k z9 H locs hx9 hk9 hf9 hR hz9 hP hS ls hl
        subst hx9
        refine lv_iload hx hb dS_put8Bits_44 (lv_at hl 4 rfl) ?_
        refine lv_if_lt (tgt := 73) hx hb dS_put8Bits_46 (by decide) (fun c2 => ?_) (fun c2 => ?_)
        · skip
          replace c2 := Int32.not_le.mpr c2
          have hk0 : k = 0 := by rcases k with _ | k; rfl; exact absurd (by rw [nI_pred]; exact nI_pos' (by omega)) c2
          subst hk0
          have hP : va_P D CL (srZ h qb qt cI (w8 z c)) _ := va_Pe (congrArg (srZ h qb qt cI) (hR.symm : (z9 : SS) = w8 z c)) hP
          exact mu_ret0 S hr hk hP hS dS_put8Bits_73
        · skip
          replace c2 := Int32.not_lt.mp c2
          obtain ⟨k9, rfl⟩ : ∃ k9, k = k9 + 1 := ⟨k - 1, by rcases k with _ | k; exact absurd c2 (by decide); omega⟩
          rw [nI_pred] at *
          refine lv_aload_n hx hb dS_put8Bits_49 rfl (lv_at hl 2 rfl) ?_
          refine lv_sipush (v := 128) hx hb dS_put8Bits_50 (by decide) ?_
          refine lv_iload_n hx hb dS_put8Bits_53 rfl (lv_at hl 3 rfl) ?_
          refine lv_bipush (v := 6) hx hb dS_put8Bits_54 (by decide) ?_
          refine lv_iload hx hb dS_put8Bits_56 (lv_at hl 4 rfl) ?_
          refine lv_imul hx hb dS_put8Bits_58 ?_
          refine lv_ishr hx hb dS_put8Bits_59 ?_
          refine lv_bipush (v := 63) hx hb dS_put8Bits_60 (by decide) ?_
          refine lv_iand hx hb dS_put8Bits_62 ?_
          refine lv_iadd hx hb dS_put8Bits_63 ?_
          refine mu_V (As := [.int (128 + ((c >>> ((6 * (nI k9)) &&& 31) : Int32) &&& 63))]) (rest := []) (n := 1) (C := "SignReader") S (cS_putByte l D h qb qt cI (z9)  ((128 + ((c >>> ((6 * (nI k9)) &&& 31) : Int32) &&& 63))) hd hz9 ) k274 k1 k273 ks14 (by decide +kernel) ⟨rfl, rfl⟩ k271 (by decide) (xW_V ⟨hP, hK⟩) rfl rfl hl.1 (Nat.le_of_ble_eq_true rfl) ⟨Nat.le_refl _, Nat.le_refl _⟩ dS_put8Bits_64 hS (fun _ h9 => h9) (fun H locs hP hS => ?_)
          have hP : va_P D CL (srZ h qb qt cI (wB z9 ((128 + ((c >>> ((6 * (nI k9)) &&& 31) : Int32) &&& 63))))) H := hP
          refine lv_iinc (v := ((nI k9) + (-1))) (lv' := [(4, .int ((nI k9) + (-1))), (3, .int (256 - ((128 : Int32) >>> ((nI (sz8 c)) &&& 31) : Int32))), (2, .int (nI (sz8 c))), (0, .ref h), (1, .int c)]) hx hb dS_put8Bits_67 hl (k := 4) rfl rfl (by decide) rfl (fun ls hl => ?_)
          refine lv_goto (tgt := 44) hx hb dS_put8Bits_70 (by decide) ?_
          exact ih (((nI k9) + (-1))) (k9) (wB z9 ((128 + ((c >>> ((6 * (nI k9)) &&& 31) : Int32) &&& 63)))) (_) (_) (by rw [Int32.sub_eq_add_neg]) (by omega) (by omega) (hR) ((wB_ok hz9)) (hP) (hS) ls (lv_sub hl [1, 2, 3, 4, 0] rfl) 
    exact J44 (sz8 c + 1) (((nI (sz8 c)) - 1)) (sz8 c) (wB z (((256 - ((128 : Int32) >>> ((nI (sz8 c)) &&& 31) : Int32)) + (c >>> ((6 * (nI (sz8 c))) &&& 31) : Int32)))) (_) (_) (rfl) (sz8_le c) (by omega) (by rw [w8, if_neg hc9]) ((wB_ok hz)) (hP) (hS) ls (lv_sub hl [1, 2, 3, 4, 0] rfl) 
  · skip
    have hc9 : sz8 c = 0 := (nI_eq (by have := sz8_le c; omega) (by omega)).mp (by rw [nI_0]; exact c1)
    refine lv_aload_n hx hb dS_put8Bits_11 rfl (lv_at hl 1 rfl) ?_
    refine lv_iload_n hx hb dS_put8Bits_12 rfl (lv_at hl 2 rfl) ?_
    refine mu_V (As := [.int c]) (rest := []) (n := 1) (C := "SignReader") S (cS_putByte l D h qb qt cI (z)  (c) hd hz ) k274 k1 k273 ks14 (by decide +kernel) ⟨rfl, rfl⟩ k271 (by decide) (xW_V ⟨hP, hK⟩) rfl rfl hl.1 (Nat.le_of_ble_eq_true rfl) ⟨Nat.le_refl _, Nat.le_refl _⟩ dS_put8Bits_13 hS (fun _ h9 => h9) (fun H locs hP hS => ?_)
    have hP : va_P D CL (srZ h qb qt cI (wB z c)) H := hP
    have hP : va_P D CL (srZ h qb qt cI (w8 z c)) _ := va_Pe (congrArg (srZ h qb qt cI) (by rw [w8, if_pos hc9] : (wB z c : SS) = w8 z c)) hP
    exact mu_ret0 S hr hk hP hS dS_put8Bits_16
def wC (z : SS) (c w : Int32) : SS := if s16 w = true then w16 z c w else w8 z c
theorem wC_ok {z : SS} {c w : Int32} (hz : okZ z) : okZ (wC z c w) := by
  unfold wC
  split
  · exact w16_ok hz
  · exact w8_ok hz
set_option maxHeartbeats 4000000 in
set_option maxRecDepth 100000 in
theorem cS_putCharacter (l : Launch) (D : va_G) (h qb qt : Nat) (cI : ClassId) (z : SS) (c w : Int32) (hd : ap3 h qb qt) (hz : okZ z) : Met l yS_putCharacter (Cond.code yS_putCharacter prog_1_method_31_code 3 none :: TB) { frames := 3, cells := 0, slots := 0, locals := 66 } (gx (xZ9 D h qb qt cI z) [.ref h, .int c, .int w]) (mQ (none) D (srZ h qb qt cI (wC z c w)) (A3 h qb qt)) 0 0 (A3 h qb qt) := by
  refine mt_of (by decide) ?_
  intro p e s m args below meth cd S hr hk hin hv
  obtain ⟨rfl, hX⟩ := hv
  have hP : va_P D CL (srZ h qb qt cI z) s.heap := hX.1
  have hK := hX.2
  have hS : va_S (A3 h qb qt) s.heap s.heap [] := va_S.rf
  have hx := S.1
  have hb := S.2.1
  have hown := S.2.2.2.1
  have hts := S.2.2.2.2
  have hl := lv_entry ([.ref h, .int c, .int w]) (n := 3) (Nat.le_of_ble_eq_true rfl)
  rw [lg_entry_eq]
  generalize (lg_sl ([.ref h, .int c, .int w]) ++ List.replicate (3 - (lg_sl ([.ref h, .int c, .int w])).length) Slot.unset).toArray = ls at hl ⊢
  have hl : lv_has ls 3 [(0, .ref h), (1, .int c), (2, .int w)] := hl
  refine lv_iload_n hx hb dS_putCharacter_0 rfl (lv_at hl 2 rfl) ?_
  refine ro_S (As := [.int w]) (rest := []) (n := 1) S (cS_isSixteenBits l (w)) k65 k1 k64 (by decide +kernel) ⟨rfl, rfl⟩ k63 (by decide) preEq rfl rfl hl.1 (Nat.le_of_ble_eq_true rfl) ⟨Nat.le_refl _, Nat.le_refl _⟩ dS_putCharacter_1 ?_
  refine lv_if_eq (tgt := 16) hx hb dS_putCharacter_4 (by decide) (fun c1 => ?_) (fun c1 => ?_)
  · skip
    replace c1 := bI_f c1
    refine lv_aload_n hx hb dS_putCharacter_16 rfl (lv_at hl 0 rfl) ?_
    refine lv_iload_n hx hb dS_putCharacter_17 rfl (lv_at hl 1 rfl) ?_
    refine mu_V (As := [.int c]) (rest := []) (n := 1) (C := "SignReader") S (cS_put8Bits l D h qb qt cI (z)  (c) hd hz ) k278 k1 k277 ks15 (by decide +kernel) ⟨rfl, rfl⟩ k275 (by decide) (xW_V ⟨hP, hK⟩) rfl rfl hl.1 (Nat.le_of_ble_eq_true rfl) ⟨Nat.le_refl _, Nat.le_refl _⟩ dS_putCharacter_18 hS (fun _ h9 => h9) (fun H locs hP hS => ?_)
    have hP : va_P D CL (srZ h qb qt cI (w8 z c)) H := hP
    have hP : va_P D CL (srZ h qb qt cI (wC z c w)) _ := va_Pe (congrArg (srZ h qb qt cI) (by simp [wC, c1] : (w8 z c : SS) = wC z c w)) hP
    exact mu_ret0 S hr hk hP hS dS_putCharacter_21
  · skip
    replace c1 := bI_t c1
    refine lv_aload_n hx hb dS_putCharacter_7 rfl (lv_at hl 0 rfl) ?_
    refine lv_iload_n hx hb dS_putCharacter_8 rfl (lv_at hl 1 rfl) ?_
    refine lv_iload_n hx hb dS_putCharacter_9 rfl (lv_at hl 2 rfl) ?_
    refine mu_V (As := [.int c, .int w]) (rest := []) (n := 2) (C := "SignReader") S (cS_put16Bits l D h qb qt cI (z)  (c) (w) hd hz ) k266 k1 k265 ks12 (by decide +kernel) ⟨rfl, rfl⟩ k263 (by decide) (xW_V ⟨hP, hK⟩) rfl rfl hl.1 (Nat.le_of_ble_eq_true rfl) ⟨Nat.le_refl _, Nat.le_refl _⟩ dS_putCharacter_10 hS (fun _ h9 => h9) (fun H locs hP hS => ?_)
    have hP : va_P D CL (srZ h qb qt cI (w16 z c w)) H := hP
    refine lv_goto (tgt := 21) hx hb dS_putCharacter_13 (by decide) ?_
    have hP : va_P D CL (srZ h qb qt cI (wC z c w)) _ := va_Pe (congrArg (srZ h qb qt cI) (by simp [wC, c1] : (w16 z c w : SS) = wC z c w)) hP
    exact mu_ret0 S hr hk hP hS dS_putCharacter_21
end
section
/-! the class: its face, but for what throws -/
def xWD (D : va_G) (h qb qt : Nat) (cI : ClassId) (n tl : Nat) (wy : Int32) (f g : Nat → Int32) (tc ts tm q v : Nat) : State → Heap → Prop := fun U H => xW D h qb qt cI n tl wy f g U H ∧ xD tc ts tm q v U H
theorem xWD_V {D : va_G} {h qb qt : Nat} {cI : ClassId} {n tl : Nat} {wy : Int32} {f g : Nat → Int32} {tc ts tm q v : Nat} {s : State} {H : Heap} {As : List Value} (x : xWD D h qb qt cI n tl wy f g tc ts tm q v s H) : PreV s H "SignReader" h (gx (xWD D h qb qt cI n tl wy f g tc ts tm q v) (.ref h :: As)) As := gx_V (ok_and xW_ok xD_ok) x (va_recv x.1.2 x.1.1 (ci := 0) (q0 := 0) (q := ("SignReader", T_S, 5)) rfl rfl)
set_option maxHeartbeats 4000000 in
set_option maxRecDepth 100000 in
theorem cS_kinds (l : Launch) (D : va_G) (h qb qt : Nat) (cI : ClassId) (n tl : Nat) (wy : Int32) (f g : Nat → Int32) (hn : n ≤ 4096) (ht : tl ≤ 4096) (tc ts tm q v : Nat) (c : Int32) : Met l yS_kinds (Cond.code yS_kinds prog_1_method_10_code 2 (some .int) :: TB) { frames := 6, cells := 0, slots := 0, locals := 132 } (gx (xWD D h qb qt cI n tl wy f g tc ts tm q v) [.ref h, .int c]) (QcRead (kS c)) 0 0 (fun _ => False) := by
  refine mt_of (by decide) ?_
  intro p e s m args below meth cd S hr hk hin hv
  obtain ⟨rfl, hX⟩ := hv
  have hP := hX.1.1
  have hK := hX.1.2
  have hx := S.1
  have hb := S.2.1
  have hown := S.2.2.2.1
  have hts := S.2.2.2.2
  have hl := lv_entry ([.ref h, .int c]) (n := 2) (Nat.le_of_ble_eq_true rfl)
  rw [lg_entry_eq]
  generalize (lg_sl ([.ref h, .int c]) ++ List.replicate (2 - (lg_sl ([.ref h, .int c])).length) Slot.unset).toArray = ls at hl ⊢
  have hl : lv_has ls 2 [(0, .ref h), (1, .int c)] := hl
  refine lv_iload_n hx hb dS_kinds_0 rfl (lv_at hl 1 rfl) ?_
  refine ro_S (As := [.int c]) (rest := []) (n := 1) S (cS_kindsOf l tc ts tm q v (c)) k142 k1 k141 (by decide +kernel) ⟨rfl, rfl⟩ k140 (by decide) (gx_S xD_ok hX.2) rfl rfl hl.1 (Nat.le_of_ble_eq_true rfl) ⟨Nat.le_refl _, Nat.le_refl _⟩ dS_kinds_1 ?_
  exact ro_ret S hr hk (rfl) dS_kinds_4
def sEnd (g : Nat → Int32) (kd : Int32) : Nat → Nat → Nat
  | 0, k => k
  | j + 1, k => if kS (g k) &&& kd = 0 then k else sEnd g kd j (k + 1)
def sRun (g : Nat → Int32) (tl : Nat) (i kd : Int32) : Int32 := if sHas tl i = true then nI (sEnd g kd (tl - i.toNatClampNeg) i.toNatClampNeg) - i else 0
set_option maxHeartbeats 4000000 in
set_option maxRecDepth 100000 in
theorem cS_run (l : Launch) (D : va_G) (h qb qt : Nat) (cI : ClassId) (n tl : Nat) (wy : Int32) (f g : Nat → Int32) (hn : n ≤ 4096) (ht : tl ≤ 4096) (tc ts tm q v : Nat) (i kd : Int32) : Met l yS_run (Cond.code yS_run prog_1_method_11_code 4 (some .int) :: TB) { frames := 6, cells := 0, slots := 0, locals := 132 } (gx (xWD D h qb qt cI n tl wy f g tc ts tm q v) [.ref h, .int i, .int kd]) (QcRead (sRun g tl i kd)) 0 0 (fun _ => False) := by
  refine mt_of (by decide) ?_
  intro p e s m args below meth cd S hr hk hin hv
  obtain ⟨rfl, hX⟩ := hv
  have hP := hX.1.1
  have hK := hX.1.2
  have hx := S.1
  have hb := S.2.1
  have hown := S.2.2.2.1
  have hts := S.2.2.2.2
  have hl := lv_entry ([.ref h, .int i, .int kd]) (n := 4) (Nat.le_of_ble_eq_true rfl)
  rw [lg_entry_eq]
  generalize (lg_sl ([.ref h, .int i, .int kd]) ++ List.replicate (4 - (lg_sl ([.ref h, .int i, .int kd])).length) Slot.unset).toArray = ls at hl ⊢
  have hl : lv_has ls 4 [(0, .ref h), (1, .int i), (2, .int kd)] := hl
  refine lv_aload_n hx hb dS_run_0 rfl (lv_at hl 0 rfl) ?_
  refine lv_iload_n hx hb dS_run_1 rfl (lv_at hl 1 rfl) ?_
  refine ro_V (r := (bI (sHas tl i))) (As := [.int i]) (rest := []) (n := 1) (C := "SignReader") S (cS_hasSign l D h qb qt cI n tl wy f g hn ht (i)) k131 k1 k130 ks9 (by decide +kernel) ⟨rfl, rfl⟩ k128 (by decide) (xW_V hX.1) rfl rfl hl.1 (Nat.le_of_ble_eq_true rfl) ⟨Nat.le_refl _, Nat.le_refl _⟩ dS_run_2 ?_
  refine lv_if_ne (tgt := 10) hx hb dS_run_5 (by decide) (fun c1 => ?_) (fun c1 => ?_)
  · skip
    replace c1 := bI_t c1
    obtain ⟨i0, hi0, hi9⟩ := (sHas_iff (by omega)).mp c1
    have hi8 : i.toNatClampNeg = i0 := by rw [hi9]; exact nI_clamp (by omega)
    refine lv_iload_n hx hb dS_run_10 rfl (lv_at hl 1 rfl) ?_
    refine lv_istore_n (lv' := [(3, .int i), (0, .ref h), (1, .int i), (2, .int kd)]) hx hb dS_run_11 rfl hl (by decide) rfl (fun ls hl => ?_)
    have J12 : ∀ (fu : Nat) (x : Int32) (k : Nat), x = nI k → k ≤ tl → tl < k + fu → sEnd g kd (tl - i0) i0 = sEnd g kd (tl - k) k → ∀ ls : Array Slot, lv_has ls 4 [(0, .ref h), (1, .int i), (2, .int kd), (3, .int x)] → W p l e { frames := 6, cells := 0, slots := 0, locals := 132 } s m [.ref h, .int i, .int kd].toArray below meth cd s.heap [] 0 0 (MQ below (QcRead (sRun g tl i kd)) [.ref h, .int i, .int kd].toArray s 0 0 (fun _ => False)) (F0 m 12 ls []) := by
      intro fu
      induction fu with
      | zero =>
        intro x k hx9 hk9 hf9 hR ls hl
        exact absurd hf9 (by omega)
      | succ fu ih =>
        intro x k hx9 hk9 hf9 hR ls hl
        subst hx9
        refine lv_iload_n hx hb dS_run_12 rfl (lv_at hl 3 rfl) ?_
        refine lv_aload_n hx hb dS_run_13 rfl (lv_at hl 0 rfl) ?_
        refine va_get (D := D) (ci := 0) (v := .int (nI tl)) (C := "SignReader") (T := T_S) (N := 5) hx hb hts i_S hown hK hP 0 rfl rfl 3 (by decide) (hts _ k25) (fun _ h9 => h9) rfl dS_run_14 ?_
        refine lv_icmp_ge (tgt := 40) hx hb dS_run_17 (by decide) (fun c2 => ?_) (fun c2 => ?_)
        · skip
          rw [nI_leI (by omega) (by omega)] at c2
          rw [show tl - k = 0 by omega] at hR
          refine lv_iload_n hx hb dS_run_40 rfl (lv_at hl 3 rfl) ?_
          refine lv_iload_n hx hb dS_run_41 rfl (lv_at hl 1 rfl) ?_
          refine lv_isub hx hb dS_run_42 ?_
          exact ro_ret S hr hk (by rw [sRun, if_pos c1, hi8, hR]; rfl) dS_run_43
        · skip
          rw [nI_leI (by omega) (by omega)] at c2
          rw [show tl - k = (tl - k - 1) + 1 by omega] at hR
          simp only [sEnd] at hR
          refine lv_aload_n hx hb dS_run_20 rfl (lv_at hl 0 rfl) ?_
          refine va_get (D := D) (ci := 0) (v := .ref qt) (C := "SignReader") (T := T_S) (N := 5) hx hb hts i_S hown hK hP 0 rfl rfl 1 (by decide) (hts _ k23) (fun _ h9 => h9) rfl dS_run_21 ?_
          refine lv_iload_n hx hb dS_run_24 rfl (lv_at hl 3 rfl) ?_
          refine va_iald hx hb hK hP 2 0 rfl rfl (by exact vp_in_nI (by omega) (by omega)) dS_run_25 ?_
          rw [nI_clamp (n := k) (by omega)]
          refine ro_S (As := [.int (g k)]) (rest := []) (n := 1) S (cS_kindsOf l tc ts tm q v ((g k))) k142 k1 k141 (by decide +kernel) ⟨rfl, rfl⟩ k140 (by decide) (gx_S xD_ok hX.2) rfl rfl hl.1 (Nat.le_of_ble_eq_true rfl) ⟨Nat.le_refl _, Nat.le_refl _⟩ dS_run_26 ?_
          refine lv_iload_n hx hb dS_run_29 rfl (lv_at hl 2 rfl) ?_
          refine lv_iand hx hb dS_run_30 ?_
          refine lv_if_eq (tgt := 40) hx hb dS_run_31 (by decide) (fun c3 => ?_) (fun c3 => ?_)
          · skip
            refine lv_iload_n hx hb dS_run_40 rfl (lv_at hl 3 rfl) ?_
            refine lv_iload_n hx hb dS_run_41 rfl (lv_at hl 1 rfl) ?_
            refine lv_isub hx hb dS_run_42 ?_
            exact ro_ret S hr hk (by rw [sRun, if_pos c1, hi8, hR, if_pos c3]) dS_run_43
          · skip
            refine lv_iinc (v := ((nI k) + 1)) (lv' := [(3, .int ((nI k) + 1)), (0, .ref h), (1, .int i), (2, .int kd)]) hx hb dS_run_34 hl (k := 3) rfl rfl (by decide) rfl (fun ls hl => ?_)
            refine lv_goto (tgt := 12) hx hb dS_run_37 (by decide) ?_
            exact ih (((nI k) + 1)) (k + 1) (nI_1 k) (by omega) (by omega) (by rw [hR, if_neg c3, show tl - (k + 1) = tl - k - 1 by omega]) ls (lv_sub hl [1, 2, 3, 0] rfl) 
    exact J12 (tl + 1) (i) (i0) (hi9) (by omega) (by omega) (rfl) ls (lv_sub hl [1, 2, 3, 0] rfl) 
  · skip
    replace c1 := bI_f c1
    refine lv_iconst (v := 0) hx hb dS_run_8 (by decide) ?_
    exact ro_ret S hr hk (by simp [sRun, c1]) dS_run_9
def tT (w : Int32) : Nat → Int32 → Int32 → SS → SS
  | 0, _, _, z => z
  | j + 1, x, b, z => if nI z.1 ≤ x then z else tT w j (x + sSize (sN z.2.2.2.1 z.1 x w) w) (sN z.2.2.2.1 z.1 x w) (if b = 13 then (if sN z.2.2.2.1 z.1 x w = 10 then z else wG z (if sN z.2.2.2.1 z.1 x w = 13 then 10 else sN z.2.2.2.1 z.1 x w)) else wG z (if sN z.2.2.2.1 z.1 x w = 13 then 10 else sN z.2.2.2.1 z.1 x w))
theorem tT_ok {w : Int32} : ∀ {j : Nat} {x b : Int32} {z : SS}, okZ z → okZ (tT w j x b z)
  | 0, _, _, _, h => h
  | j + 1, x, b, z, h => by
    rw [tT]
    split
    · exact h
    · refine tT_ok (j := j) ?_
      split
      · split
        · exact h
        · exact wG_ok h
      · exact wG_ok h
def zText (z : SS) (w : Int32) : SS := tT w 4096 (sMark w) (-1) (z.1, 0, z.2.2)
theorem z0_ok {z : SS} (hz : okZ z) : okZ (z.1, 0, z.2.2) := ⟨hz.1, Nat.zero_le _⟩
theorem zText_ok {z : SS} {w : Int32} (hz : okZ z) : okZ (zText z w) := tT_ok (z0_ok hz)
set_option maxHeartbeats 4000000 in
set_option maxRecDepth 100000 in
theorem cS_takeText (l : Launch) (D : va_G) (h qb qt : Nat) (cI : ClassId) (z : SS) (w : Int32) (hd : ap3 h qb qt) (hz : okZ z) : Met l yS_takeText (Cond.code yS_takeText prog_1_method_18_code 7 none :: TB) { frames := 5, cells := 0, slots := 0, locals := 112 } (gx (xZ9 D h qb qt cI z) [.ref h, .int w]) (mQ (none) D (srZ h qb qt cI (zText z w)) (A3 h qb qt)) 0 0 (A3 h qb qt) := by
  refine mt_of (by decide) ?_
  intro p e s m args below meth cd S hr hk hin hv
  obtain ⟨rfl, hX⟩ := hv
  have hP : va_P D CL (srZ h qb qt cI z) s.heap := hX.1
  have hK := hX.2
  have hS : va_S (A3 h qb qt) s.heap s.heap [] := va_S.rf
  have hx := S.1
  have hb := S.2.1
  have hown := S.2.2.2.1
  have hts := S.2.2.2.2
  have hl := lv_entry ([.ref h, .int w]) (n := 7) (Nat.le_of_ble_eq_true rfl)
  rw [lg_entry_eq]
  generalize (lg_sl ([.ref h, .int w]) ++ List.replicate (7 - (lg_sl ([.ref h, .int w])).length) Slot.unset).toArray = ls at hl ⊢
  have hl : lv_has ls 7 [(0, .ref h), (1, .int w)] := hl
  refine lv_iload_n hx hb dS_takeText_0 rfl (lv_at hl 1 rfl) ?_
  refine ro_S (As := [.int w]) (rest := []) (n := 1) S (cS_sizeOfMark l (w)) k97 k1 k96 (by decide +kernel) ⟨rfl, rfl⟩ k95 (by decide) preEq rfl rfl hl.1 (Nat.le_of_ble_eq_true rfl) ⟨Nat.le_refl _, Nat.le_refl _⟩ dS_takeText_1 ?_
  refine lv_istore_n (lv' := [(2, .int (sMark w)), (0, .ref h), (1, .int w)]) hx hb dS_takeText_4 rfl hl (by decide) rfl (fun ls hl => ?_)
  refine lv_iconst (v := (-1)) hx hb dS_takeText_5 (by decide) ?_
  refine lv_istore_n (lv' := [(3, .int (-1)), (2, .int (sMark w)), (0, .ref h), (1, .int w)]) hx hb dS_takeText_6 rfl hl (by decide) rfl (fun ls hl => ?_)
  refine lv_aload_n hx hb dS_takeText_7 rfl (lv_at hl 2 rfl) ?_
  refine lv_iconst (v := 0) hx hb dS_takeText_8 (by decide) ?_
  refine va_put (D := D) (ci := 0) (v := .int 0) (ty := .int) (C := "SignReader") (T := T_S) (N := 5) hx hb hts i_S t_S t_S_ok n_S hown hK hP (srD hd) hS 0 rfl rfl 3 (by decide) (hts _ k25) (fun _ h9 => h9) rfl (by decide +kernel) rfl rfl (Nat.le_of_ble_eq_true rfl) dS_takeText_9 (fun H locs hP _ hS => ?_)
  have hP : va_P D CL (srW h qb qt cI (nI z.1) (0) (z.2.2.1) (z.2.2.2.1) (z.2.2.2.2)) H := hP
  have hP : va_P D CL (srZ h qb qt cI ((z.1, 0, z.2.2))) _ := va_Pe (by show _ = srW h qb qt cI _ (nI 0) _ _ _; rw [nI_0] : srW h qb qt cI (nI z.1) (0) (z.2.2.1) (z.2.2.2.1) (z.2.2.2.2) = srZ h qb qt cI ((z.1, 0, z.2.2))) hP
  refine lv_iconst (v := 0) hx hb dS_takeText_12 (by decide) ?_
  refine lv_istore (lv' := [(4, .int 0), (3, .int (-1)), (2, .int (sMark w)), (0, .ref h), (1, .int w)]) hx hb dS_takeText_13 hl (by decide) rfl (fun ls hl => ?_)
  have J15 : ∀ (fu : Nat) (a : Int32) (b : Int32) (x : Int32) (k : Nat) (z9 : SS) (H : Heap) (locs : List Loc), x = nI k → k ≤ 4096 → 4096 < k + fu → zText z w = tT w (4096 - k) a b z9 → okZ z9 → va_P D CL (srZ h qb qt cI z9) H → va_S (A3 h qb qt) s.heap H locs → ∀ ls : Array Slot, lv_has ls 7 [(0, .ref h), (1, .int w), (2, .int a), (3, .int b), (4, .int x)] → W p l e { frames := 5, cells := 0, slots := 0, locals := 112 } s m [.ref h, .int w].toArray below meth cd H locs 0 0 (MQ below (mQ (none) D (srZ h qb qt cI (zText z w)) (A3 h qb qt)) [.ref h, .int w].toArray s 0 0 (A3 h qb qt)) (F0 m 15 ls []) := by
    intro fu
    induction fu with
    | zero =>
      intro a b x k z9 H locs hx9 hk9 hf9 hR hz9 hP hS ls hl
      exact absurd hf9 (by omega)
    | succ fu ih =>
      intro a b x k z9 H locs hx9 hk9 hf9 hR hz9 hP hS ls hl
      subst hx9
      refine lv_iload hx hb dS_takeText_15 (lv_at hl 4 rfl) ?_
      refine lv_sipush (v := 4096) hx hb dS_takeText_17 (by decide) ?_
      refine lv_icmp_ge (tgt := 100) hx hb dS_takeText_20 (by decide) (fun c1 => ?_) (fun c1 => ?_)
      · skip
        rw [show (4096 : Int32) = nI 4096 from rfl, nI_leI (by omega) (by omega)] at c1
        rw [show 4096 - k = 0 by omega] at hR
        have hP : va_P D CL (srZ h qb qt cI (zText z w)) _ := va_Pe (congrArg (srZ h qb qt cI) (by rw [hR]; rfl : (z9 : SS) = zText z w)) hP
        exact mu_ret0 S hr hk hP hS dS_takeText_100
      · skip
        rw [show (4096 : Int32) = nI 4096 from rfl, nI_leI (by omega) (by omega)] at c1
        rw [show 4096 - k = (4095 - k) + 1 by omega] at hR
        simp only [tT] at hR
        refine lv_iload_n hx hb dS_takeText_23 rfl (lv_at hl 2 rfl) ?_
        refine lv_aload_n hx hb dS_takeText_24 rfl (lv_at hl 0 rfl) ?_
        refine va_get (D := D) (ci := 0) (v := .int (nI z9.1)) (C := "SignReader") (T := T_S) (N := 5) hx hb hts i_S hown hK hP 0 rfl rfl 2 (by decide) (hts _ k24) (fun _ h9 => h9) rfl dS_takeText_25 ?_
        refine lv_icmp_ge (tgt := 100) hx hb dS_takeText_28 (by decide) (fun c2 => ?_) (fun c2 => ?_)
        · skip
          have hP : va_P D CL (srZ h qb qt cI (zText z w)) _ := va_Pe (congrArg (srZ h qb qt cI) (by rw [hR, if_pos c2] : (z9 : SS) = zText z w)) hP
          exact mu_ret0 S hr hk hP hS dS_takeText_100
        · skip
          refine lv_aload_n hx hb dS_takeText_31 rfl (lv_at hl 0 rfl) ?_
          refine lv_iload_n hx hb dS_takeText_32 rfl (lv_at hl 2 rfl) ?_
          refine lv_iload_n hx hb dS_takeText_33 rfl (lv_at hl 1 rfl) ?_
          refine ro_V (r := (sN z9.2.2.2.1 z9.1 (a) (w))) (As := [.int a, .int w]) (rest := []) (n := 2) (C := "SignReader") S (cS_numberAt l D h qb qt cI z9.1 z9.2.1 z9.2.2.1 z9.2.2.2.1 z9.2.2.2.2 hz9.1 hz9.2 (a) (w)) k62 k1 k61 ks2 (by decide +kernel) ⟨rfl, rfl⟩ k59 (by decide) (xW_V ⟨hP, hK⟩) rfl rfl hl.1 (Nat.le_of_ble_eq_true rfl) ⟨Nat.le_refl _, Nat.le_refl _⟩ dS_takeText_34 ?_
          refine lv_istore (lv' := [(5, .int (sN z9.2.2.2.1 z9.1 (a) (w))), (0, .ref h), (1, .int w), (2, .int a), (3, .int b), (4, .int (nI k))]) hx hb dS_takeText_37 hl (by decide) rfl (fun ls hl => ?_)
          refine lv_iload_n hx hb dS_takeText_39 rfl (lv_at hl 4 rfl) ?_
          refine lv_bipush (v := 13) hx hb dS_takeText_40 (by decide) ?_
          refine lv_icmp_ne (tgt := 56) hx hb dS_takeText_42 (by decide) (fun c3 => ?_) (fun c3 => ?_)
          · skip
            refine lv_iconst (v := 0) hx hb dS_takeText_56 (by decide) ?_
            refine lv_istore (lv' := [(6, .int 0), (5, .int (sN z9.2.2.2.1 z9.1 (a) (w))), (0, .ref h), (1, .int w), (2, .int a), (3, .int b), (4, .int (nI k))]) hx hb dS_takeText_57 hl (by decide) rfl (fun ls hl => ?_)
            refine lv_iload hx hb dS_takeText_59 (lv_at hl 0 rfl) ?_
            refine lv_if_ne (tgt := 82) hx hb dS_takeText_61 (by decide) (fun c4 => absurd c4 (by decide)) (fun c4 => ?_)
            refine lv_aload_n hx hb dS_takeText_64 rfl (lv_at hl 2 rfl) ?_
            refine lv_iload hx hb dS_takeText_65 (lv_at hl 1 rfl) ?_
            refine lv_bipush (v := 13) hx hb dS_takeText_67 (by decide) ?_
            refine lv_icmp_ne (tgt := 77) hx hb dS_takeText_69 (by decide) (fun c5 => ?_) (fun c5 => ?_)
            · skip
              refine lv_iload hx hb dS_takeText_77 (lv_at hl 1 rfl) ?_
              refine mu_V (As := [.int (sN z9.2.2.2.1 z9.1 (a) (w))]) (rest := []) (n := 1) (C := "SignReader") S (cS_putSign l D h qb qt cI (z9)  ((sN z9.2.2.2.1 z9.1 (a) (w))) hd hz9 ) k119 k1 k118 ks8 (by decide +kernel) ⟨rfl, rfl⟩ k116 (by decide) (xW_V ⟨hP, hK⟩) rfl rfl hl.1 (Nat.le_of_ble_eq_true rfl) ⟨Nat.le_refl _, Nat.le_refl _⟩ dS_takeText_79 hS (fun _ h9 => h9) (fun H locs hP hS => ?_)
              have hP : va_P D CL (srZ h qb qt cI (wG z9 ((sN z9.2.2.2.1 z9.1 (a) (w))))) H := hP
              refine lv_iload hx hb dS_takeText_82 (lv_at hl 1 rfl) ?_
              refine lv_istore_n (lv' := [(3, .int (sN z9.2.2.2.1 z9.1 (a) (w))), (6, .int 0), (5, .int (sN z9.2.2.2.1 z9.1 (a) (w))), (0, .ref h), (1, .int w), (2, .int a), (4, .int (nI k))]) hx hb dS_takeText_84 rfl hl (by decide) rfl (fun ls hl => ?_)
              refine lv_iload_n hx hb dS_takeText_85 rfl (lv_at hl 5 rfl) ?_
              refine lv_iload hx hb dS_takeText_86 (lv_at hl 2 rfl) ?_
              refine lv_iload_n hx hb dS_takeText_88 rfl (lv_at hl 4 rfl) ?_
              refine ro_S (As := [.int (sN z9.2.2.2.1 z9.1 (a) (w)), .int w]) (rest := [.int a]) (n := 2) S (cS_sizeOf l ((sN z9.2.2.2.1 z9.1 (a) (w))) (w)) k100 k1 k99 (by decide +kernel) ⟨rfl, rfl⟩ k98 (by decide) preEq rfl rfl hl.1 (Nat.le_of_ble_eq_true rfl) ⟨Nat.le_refl _, Nat.le_refl _⟩ dS_takeText_89 ?_
              refine lv_iadd hx hb dS_takeText_92 ?_
              refine lv_istore_n (lv' := [(2, .int (a + (sSize (sN z9.2.2.2.1 z9.1 (a) (w)) w))), (3, .int (sN z9.2.2.2.1 z9.1 (a) (w))), (6, .int 0), (5, .int (sN z9.2.2.2.1 z9.1 (a) (w))), (0, .ref h), (1, .int w), (4, .int (nI k))]) hx hb dS_takeText_93 rfl hl (by decide) rfl (fun ls hl => ?_)
              refine lv_iinc (v := ((nI k) + 1)) (lv' := [(4, .int ((nI k) + 1)), (2, .int (a + (sSize (sN z9.2.2.2.1 z9.1 (a) (w)) w))), (3, .int (sN z9.2.2.2.1 z9.1 (a) (w))), (6, .int 0), (5, .int (sN z9.2.2.2.1 z9.1 (a) (w))), (0, .ref h), (1, .int w)]) hx hb dS_takeText_94 hl (k := 6) rfl rfl (by decide) rfl (fun ls hl => ?_)
              refine lv_goto (tgt := 15) hx hb dS_takeText_97 (by decide) ?_
              exact ih ((a + (sSize (sN z9.2.2.2.1 z9.1 (a) (w)) w))) ((sN z9.2.2.2.1 z9.1 (a) (w))) (((nI k) + 1)) (k + 1) (wG z9 ((sN z9.2.2.2.1 z9.1 (a) (w)))) (_) (_) (nI_1 k) (by omega) (by omega) (by rw [hR]; simp only [c2, c3, c5, (by decide : ¬ ((13 : Int32) = 10)), ↓reduceIte]; rw [show 4096 - (k + 1) = 4095 - k by omega]) ((wG_ok hz9)) (hP) (hS) ls (lv_sub hl [5, 6, 1, 2, 0] rfl) 
            · skip
              refine lv_bipush (v := 10) hx hb dS_takeText_72 (by decide) ?_
              refine lv_goto (tgt := 79) hx hb dS_takeText_74 (by decide) ?_
              refine mu_V (As := [.int 10]) (rest := []) (n := 1) (C := "SignReader") S (cS_putSign l D h qb qt cI (z9)  (10) hd hz9 ) k119 k1 k118 ks8 (by decide +kernel) ⟨rfl, rfl⟩ k116 (by decide) (xW_V ⟨hP, hK⟩) rfl rfl hl.1 (Nat.le_of_ble_eq_true rfl) ⟨Nat.le_refl _, Nat.le_refl _⟩ dS_takeText_79 hS (fun _ h9 => h9) (fun H locs hP hS => ?_)
              have hP : va_P D CL (srZ h qb qt cI (wG z9 10)) H := hP
              refine lv_iload hx hb dS_takeText_82 (lv_at hl 1 rfl) ?_
              refine lv_istore_n (lv' := [(3, .int (sN z9.2.2.2.1 z9.1 (a) (w))), (6, .int 0), (5, .int (sN z9.2.2.2.1 z9.1 (a) (w))), (0, .ref h), (1, .int w), (2, .int a), (4, .int (nI k))]) hx hb dS_takeText_84 rfl hl (by decide) rfl (fun ls hl => ?_)
              refine lv_iload_n hx hb dS_takeText_85 rfl (lv_at hl 5 rfl) ?_
              refine lv_iload hx hb dS_takeText_86 (lv_at hl 2 rfl) ?_
              refine lv_iload_n hx hb dS_takeText_88 rfl (lv_at hl 4 rfl) ?_
              refine ro_S (As := [.int (sN z9.2.2.2.1 z9.1 (a) (w)), .int w]) (rest := [.int a]) (n := 2) S (cS_sizeOf l ((sN z9.2.2.2.1 z9.1 (a) (w))) (w)) k100 k1 k99 (by decide +kernel) ⟨rfl, rfl⟩ k98 (by decide) preEq rfl rfl hl.1 (Nat.le_of_ble_eq_true rfl) ⟨Nat.le_refl _, Nat.le_refl _⟩ dS_takeText_89 ?_
              refine lv_iadd hx hb dS_takeText_92 ?_
              refine lv_istore_n (lv' := [(2, .int (a + (sSize (sN z9.2.2.2.1 z9.1 (a) (w)) w))), (3, .int (sN z9.2.2.2.1 z9.1 (a) (w))), (6, .int 0), (5, .int (sN z9.2.2.2.1 z9.1 (a) (w))), (0, .ref h), (1, .int w), (4, .int (nI k))]) hx hb dS_takeText_93 rfl hl (by decide) rfl (fun ls hl => ?_)
              refine lv_iinc (v := ((nI k) + 1)) (lv' := [(4, .int ((nI k) + 1)), (2, .int (a + (sSize (sN z9.2.2.2.1 z9.1 (a) (w)) w))), (3, .int (sN z9.2.2.2.1 z9.1 (a) (w))), (6, .int 0), (5, .int (sN z9.2.2.2.1 z9.1 (a) (w))), (0, .ref h), (1, .int w)]) hx hb dS_takeText_94 hl (k := 6) rfl rfl (by decide) rfl (fun ls hl => ?_)
              refine lv_goto (tgt := 15) hx hb dS_takeText_97 (by decide) ?_
              exact ih ((a + (sSize (sN z9.2.2.2.1 z9.1 (a) (w)) w))) ((sN z9.2.2.2.1 z9.1 (a) (w))) (((nI k) + 1)) (k + 1) (wG z9 10) (_) (_) (nI_1 k) (by omega) (by omega) (by rw [hR]; simp only [c2, c3, c5, (by decide : ¬ ((13 : Int32) = 10)), ↓reduceIte]; rw [show 4096 - (k + 1) = 4095 - k by omega]) ((wG_ok hz9)) (hP) (hS) ls (lv_sub hl [5, 6, 1, 2, 0] rfl) 
          · skip
            refine lv_iload hx hb dS_takeText_45 (lv_at hl 0 rfl) ?_
            refine lv_bipush (v := 10) hx hb dS_takeText_47 (by decide) ?_
            refine lv_icmp_ne (tgt := 56) hx hb dS_takeText_49 (by decide) (fun c6 => ?_) (fun c6 => ?_)
            · skip
              refine lv_iconst (v := 0) hx hb dS_takeText_56 (by decide) ?_
              refine lv_istore (lv' := [(6, .int 0), (5, .int (sN z9.2.2.2.1 z9.1 (a) (w))), (0, .ref h), (1, .int w), (2, .int a), (3, .int b), (4, .int (nI k))]) hx hb dS_takeText_57 hl (by decide) rfl (fun ls hl => ?_)
              refine lv_iload hx hb dS_takeText_59 (lv_at hl 0 rfl) ?_
              refine lv_if_ne (tgt := 82) hx hb dS_takeText_61 (by decide) (fun c7 => absurd c7 (by decide)) (fun c7 => ?_)
              refine lv_aload_n hx hb dS_takeText_64 rfl (lv_at hl 2 rfl) ?_
              refine lv_iload hx hb dS_takeText_65 (lv_at hl 1 rfl) ?_
              refine lv_bipush (v := 13) hx hb dS_takeText_67 (by decide) ?_
              refine lv_icmp_ne (tgt := 77) hx hb dS_takeText_69 (by decide) (fun c8 => ?_) (fun c8 => ?_)
              · skip
                refine lv_iload hx hb dS_takeText_77 (lv_at hl 1 rfl) ?_
                refine mu_V (As := [.int (sN z9.2.2.2.1 z9.1 (a) (w))]) (rest := []) (n := 1) (C := "SignReader") S (cS_putSign l D h qb qt cI (z9)  ((sN z9.2.2.2.1 z9.1 (a) (w))) hd hz9 ) k119 k1 k118 ks8 (by decide +kernel) ⟨rfl, rfl⟩ k116 (by decide) (xW_V ⟨hP, hK⟩) rfl rfl hl.1 (Nat.le_of_ble_eq_true rfl) ⟨Nat.le_refl _, Nat.le_refl _⟩ dS_takeText_79 hS (fun _ h9 => h9) (fun H locs hP hS => ?_)
                have hP : va_P D CL (srZ h qb qt cI (wG z9 ((sN z9.2.2.2.1 z9.1 (a) (w))))) H := hP
                refine lv_iload hx hb dS_takeText_82 (lv_at hl 1 rfl) ?_
                refine lv_istore_n (lv' := [(3, .int (sN z9.2.2.2.1 z9.1 (a) (w))), (6, .int 0), (5, .int (sN z9.2.2.2.1 z9.1 (a) (w))), (0, .ref h), (1, .int w), (2, .int a), (4, .int (nI k))]) hx hb dS_takeText_84 rfl hl (by decide) rfl (fun ls hl => ?_)
                refine lv_iload_n hx hb dS_takeText_85 rfl (lv_at hl 5 rfl) ?_
                refine lv_iload hx hb dS_takeText_86 (lv_at hl 2 rfl) ?_
                refine lv_iload_n hx hb dS_takeText_88 rfl (lv_at hl 4 rfl) ?_
                refine ro_S (As := [.int (sN z9.2.2.2.1 z9.1 (a) (w)), .int w]) (rest := [.int a]) (n := 2) S (cS_sizeOf l ((sN z9.2.2.2.1 z9.1 (a) (w))) (w)) k100 k1 k99 (by decide +kernel) ⟨rfl, rfl⟩ k98 (by decide) preEq rfl rfl hl.1 (Nat.le_of_ble_eq_true rfl) ⟨Nat.le_refl _, Nat.le_refl _⟩ dS_takeText_89 ?_
                refine lv_iadd hx hb dS_takeText_92 ?_
                refine lv_istore_n (lv' := [(2, .int (a + (sSize (sN z9.2.2.2.1 z9.1 (a) (w)) w))), (3, .int (sN z9.2.2.2.1 z9.1 (a) (w))), (6, .int 0), (5, .int (sN z9.2.2.2.1 z9.1 (a) (w))), (0, .ref h), (1, .int w), (4, .int (nI k))]) hx hb dS_takeText_93 rfl hl (by decide) rfl (fun ls hl => ?_)
                refine lv_iinc (v := ((nI k) + 1)) (lv' := [(4, .int ((nI k) + 1)), (2, .int (a + (sSize (sN z9.2.2.2.1 z9.1 (a) (w)) w))), (3, .int (sN z9.2.2.2.1 z9.1 (a) (w))), (6, .int 0), (5, .int (sN z9.2.2.2.1 z9.1 (a) (w))), (0, .ref h), (1, .int w)]) hx hb dS_takeText_94 hl (k := 6) rfl rfl (by decide) rfl (fun ls hl => ?_)
                refine lv_goto (tgt := 15) hx hb dS_takeText_97 (by decide) ?_
                exact ih ((a + (sSize (sN z9.2.2.2.1 z9.1 (a) (w)) w))) ((sN z9.2.2.2.1 z9.1 (a) (w))) (((nI k) + 1)) (k + 1) (wG z9 ((sN z9.2.2.2.1 z9.1 (a) (w)))) (_) (_) (nI_1 k) (by omega) (by omega) (by rw [hR]; simp only [c2, c3, c6, c8, (by decide : ¬ ((13 : Int32) = 10)), ↓reduceIte]; rw [show 4096 - (k + 1) = 4095 - k by omega]) ((wG_ok hz9)) (hP) (hS) ls (lv_sub hl [5, 6, 1, 2, 0] rfl) 
              · skip
                refine lv_bipush (v := 10) hx hb dS_takeText_72 (by decide) ?_
                refine lv_goto (tgt := 79) hx hb dS_takeText_74 (by decide) ?_
                refine mu_V (As := [.int 10]) (rest := []) (n := 1) (C := "SignReader") S (cS_putSign l D h qb qt cI (z9)  (10) hd hz9 ) k119 k1 k118 ks8 (by decide +kernel) ⟨rfl, rfl⟩ k116 (by decide) (xW_V ⟨hP, hK⟩) rfl rfl hl.1 (Nat.le_of_ble_eq_true rfl) ⟨Nat.le_refl _, Nat.le_refl _⟩ dS_takeText_79 hS (fun _ h9 => h9) (fun H locs hP hS => ?_)
                have hP : va_P D CL (srZ h qb qt cI (wG z9 10)) H := hP
                refine lv_iload hx hb dS_takeText_82 (lv_at hl 1 rfl) ?_
                refine lv_istore_n (lv' := [(3, .int (sN z9.2.2.2.1 z9.1 (a) (w))), (6, .int 0), (5, .int (sN z9.2.2.2.1 z9.1 (a) (w))), (0, .ref h), (1, .int w), (2, .int a), (4, .int (nI k))]) hx hb dS_takeText_84 rfl hl (by decide) rfl (fun ls hl => ?_)
                refine lv_iload_n hx hb dS_takeText_85 rfl (lv_at hl 5 rfl) ?_
                refine lv_iload hx hb dS_takeText_86 (lv_at hl 2 rfl) ?_
                refine lv_iload_n hx hb dS_takeText_88 rfl (lv_at hl 4 rfl) ?_
                refine ro_S (As := [.int (sN z9.2.2.2.1 z9.1 (a) (w)), .int w]) (rest := [.int a]) (n := 2) S (cS_sizeOf l ((sN z9.2.2.2.1 z9.1 (a) (w))) (w)) k100 k1 k99 (by decide +kernel) ⟨rfl, rfl⟩ k98 (by decide) preEq rfl rfl hl.1 (Nat.le_of_ble_eq_true rfl) ⟨Nat.le_refl _, Nat.le_refl _⟩ dS_takeText_89 ?_
                refine lv_iadd hx hb dS_takeText_92 ?_
                refine lv_istore_n (lv' := [(2, .int (a + (sSize (sN z9.2.2.2.1 z9.1 (a) (w)) w))), (3, .int (sN z9.2.2.2.1 z9.1 (a) (w))), (6, .int 0), (5, .int (sN z9.2.2.2.1 z9.1 (a) (w))), (0, .ref h), (1, .int w), (4, .int (nI k))]) hx hb dS_takeText_93 rfl hl (by decide) rfl (fun ls hl => ?_)
                refine lv_iinc (v := ((nI k) + 1)) (lv' := [(4, .int ((nI k) + 1)), (2, .int (a + (sSize (sN z9.2.2.2.1 z9.1 (a) (w)) w))), (3, .int (sN z9.2.2.2.1 z9.1 (a) (w))), (6, .int 0), (5, .int (sN z9.2.2.2.1 z9.1 (a) (w))), (0, .ref h), (1, .int w)]) hx hb dS_takeText_94 hl (k := 6) rfl rfl (by decide) rfl (fun ls hl => ?_)
                refine lv_goto (tgt := 15) hx hb dS_takeText_97 (by decide) ?_
                exact ih ((a + (sSize (sN z9.2.2.2.1 z9.1 (a) (w)) w))) ((sN z9.2.2.2.1 z9.1 (a) (w))) (((nI k) + 1)) (k + 1) (wG z9 10) (_) (_) (nI_1 k) (by omega) (by omega) (by rw [hR]; simp only [c2, c3, c6, c8, (by decide : ¬ ((13 : Int32) = 10)), ↓reduceIte]; rw [show 4096 - (k + 1) = 4095 - k by omega]) ((wG_ok hz9)) (hP) (hS) ls (lv_sub hl [5, 6, 1, 2, 0] rfl) 
            · skip
              refine lv_iconst (v := 1) hx hb dS_takeText_52 (by decide) ?_
              refine lv_goto (tgt := 57) hx hb dS_takeText_53 (by decide) ?_
              refine lv_istore (lv' := [(6, .int 1), (5, .int (sN z9.2.2.2.1 z9.1 (a) (w))), (0, .ref h), (1, .int w), (2, .int a), (3, .int b), (4, .int (nI k))]) hx hb dS_takeText_57 hl (by decide) rfl (fun ls hl => ?_)
              refine lv_iload hx hb dS_takeText_59 (lv_at hl 0 rfl) ?_
              refine lv_if_ne (tgt := 82) hx hb dS_takeText_61 (by decide) (fun c9 => ?_) (fun c9 => absurd c9 (by decide))
              refine lv_iload hx hb dS_takeText_82 (lv_at hl 1 rfl) ?_
              refine lv_istore_n (lv' := [(3, .int (sN z9.2.2.2.1 z9.1 (a) (w))), (6, .int 1), (5, .int (sN z9.2.2.2.1 z9.1 (a) (w))), (0, .ref h), (1, .int w), (2, .int a), (4, .int (nI k))]) hx hb dS_takeText_84 rfl hl (by decide) rfl (fun ls hl => ?_)
              refine lv_iload_n hx hb dS_takeText_85 rfl (lv_at hl 5 rfl) ?_
              refine lv_iload hx hb dS_takeText_86 (lv_at hl 2 rfl) ?_
              refine lv_iload_n hx hb dS_takeText_88 rfl (lv_at hl 4 rfl) ?_
              refine ro_S (As := [.int (sN z9.2.2.2.1 z9.1 (a) (w)), .int w]) (rest := [.int a]) (n := 2) S (cS_sizeOf l ((sN z9.2.2.2.1 z9.1 (a) (w))) (w)) k100 k1 k99 (by decide +kernel) ⟨rfl, rfl⟩ k98 (by decide) preEq rfl rfl hl.1 (Nat.le_of_ble_eq_true rfl) ⟨Nat.le_refl _, Nat.le_refl _⟩ dS_takeText_89 ?_
              refine lv_iadd hx hb dS_takeText_92 ?_
              refine lv_istore_n (lv' := [(2, .int (a + (sSize (sN z9.2.2.2.1 z9.1 (a) (w)) w))), (3, .int (sN z9.2.2.2.1 z9.1 (a) (w))), (6, .int 1), (5, .int (sN z9.2.2.2.1 z9.1 (a) (w))), (0, .ref h), (1, .int w), (4, .int (nI k))]) hx hb dS_takeText_93 rfl hl (by decide) rfl (fun ls hl => ?_)
              refine lv_iinc (v := ((nI k) + 1)) (lv' := [(4, .int ((nI k) + 1)), (2, .int (a + (sSize (sN z9.2.2.2.1 z9.1 (a) (w)) w))), (3, .int (sN z9.2.2.2.1 z9.1 (a) (w))), (6, .int 1), (5, .int (sN z9.2.2.2.1 z9.1 (a) (w))), (0, .ref h), (1, .int w)]) hx hb dS_takeText_94 hl (k := 6) rfl rfl (by decide) rfl (fun ls hl => ?_)
              refine lv_goto (tgt := 15) hx hb dS_takeText_97 (by decide) ?_
              exact ih ((a + (sSize (sN z9.2.2.2.1 z9.1 (a) (w)) w))) ((sN z9.2.2.2.1 z9.1 (a) (w))) (((nI k) + 1)) (k + 1) (z9) (_) (_) (nI_1 k) (by omega) (by omega) (by rw [hR]; simp only [c2, c3, c6, (by decide : ¬ ((13 : Int32) = 10)), ↓reduceIte]; rw [show 4096 - (k + 1) = 4095 - k by omega]) (hz9) (hP) (hS) ls (lv_sub hl [5, 6, 1, 2, 0] rfl) 
  exact J15 (4097) ((sMark w)) ((-1)) (0) (0) ((z.1, 0, z.2.2)) (_) (_) (rfl) (by omega) (by omega) (by unfold zText; rw [Nat.sub_zero]) ((z0_ok hz)) (hP) (hS) ls (lv_sub hl [3, 4, 2, 1, 0] rfl) 
def zTk (y : SS) (w : Int32) : SS := (0, y.2.1, w, y.2.2.2)
theorem zTk_ok {y : SS} {w : Int32} (h : okZ y) : okZ (zTk y w) := ⟨Nat.zero_le _, h.2⟩
theorem srZ_tk {h qb qt : Nat} {cI : ClassId} (y : SS) (w : Int32) : srW h qb qt cI 0 (nI y.2.1) w y.2.2.2.1 y.2.2.2.2 = srZ h qb qt cI (zTk y w) := by
  show _ = srW h qb qt cI (nI 0) _ _ _ _
  rw [nI_0]
  rfl
theorem srZ_0 {h qb qt : Nat} {cI : ClassId} (z : SS) : srW h qb qt cI 0 (nI z.2.1) z.2.2.1 z.2.2.2.1 z.2.2.2.2 = srZ h qb qt cI (0, z.2) := by
  show _ = srW h qb qt cI (nI 0) _ _ _ _
  rw [nI_0]
theorem z00_ok {z : SS} (hz : okZ z) : okZ (0, z.2) := ⟨Nat.zero_le _, hz.2⟩
def zRead (z : SS) : SS := if sPlace z.2.2.2.1 z.1 (sWay z.2.2.2.1 z.1) = -1 then zTk (zText z (sWay z.2.2.2.1 z.1)) (sWay z.2.2.2.1 z.1) else (0, z.2)
theorem zRead_ok {z : SS} (hz : okZ z) : okZ (zRead z) := by
  rw [zRead]
  split
  · exact zTk_ok (zText_ok hz)
  · exact z00_ok hz
set_option maxHeartbeats 4000000 in
set_option maxRecDepth 100000 in
theorem cS_read (l : Launch) (D : va_G) (h qb qt : Nat) (cI : ClassId) (z : SS) (tc : Nat) (hd : ap3 h qb qt) (hz : okZ z) : Met l yS_read (Cond.code yS_read prog_1_method_6_code 3 (some .int) :: TB) { frames := 6, cells := 0, slots := 0, locals := 138 } (gx (xWC D h qb qt cI z.1 z.2.1 z.2.2.1 z.2.2.2.1 z.2.2.2.2 tc) [.ref h]) (mQ (some (.int (sPlace z.2.2.2.1 z.1 (sWay z.2.2.2.1 z.1)))) D (srZ h qb qt cI (zRead z)) (A3 h qb qt)) 0 0 (A3 h qb qt) := by
  refine mt_of (by decide) ?_
  intro p e s m args below meth cd S hr hk hin hv
  obtain ⟨rfl, hX⟩ := hv
  have hP : va_P D CL (srZ h qb qt cI z) s.heap := hX.1.1
  have hK := hX.1.2
  have hC := hX.2
  have hS : va_S (A3 h qb qt) s.heap s.heap [] := va_S.rf
  have hx := S.1
  have hb := S.2.1
  have hown := S.2.2.2.1
  have hts := S.2.2.2.2
  have hl := lv_entry ([.ref h]) (n := 3) (Nat.le_of_ble_eq_true rfl)
  rw [lg_entry_eq]
  generalize (lg_sl ([.ref h]) ++ List.replicate (3 - (lg_sl ([.ref h])).length) Slot.unset).toArray = ls at hl ⊢
  have hl : lv_has ls 3 [(0, .ref h)] := hl
  refine lv_aload_n hx hb dS_read_0 rfl (lv_at hl 0 rfl) ?_
  refine ro_V (r := (sWay z.2.2.2.1 z.1)) (As := []) (rest := []) (n := 0) (C := "SignReader") S (cS_wayOfBytes l D h qb qt cI z.1 z.2.1 z.2.2.1 z.2.2.2.1 z.2.2.2.2 hz.1 hz.2 ) k58 k1 k57 ks1 (by decide +kernel) ⟨rfl, rfl⟩ k55 (by decide) (xW_V ⟨hP, hK⟩) rfl rfl hl.1 (Nat.le_of_ble_eq_true rfl) ⟨Nat.le_refl _, Nat.le_refl _⟩ dS_read_1 ?_
  refine lv_istore_n (lv' := [(1, .int (sWay z.2.2.2.1 z.1)), (0, .ref h)]) hx hb dS_read_4 rfl hl (by decide) rfl (fun ls hl => ?_)
  refine lv_aload_n hx hb dS_read_5 rfl (lv_at hl 1 rfl) ?_
  refine lv_iload_n hx hb dS_read_6 rfl (lv_at hl 0 rfl) ?_
  refine ro_V (r := (sPlace z.2.2.2.1 z.1 ((sWay z.2.2.2.1 z.1)))) (As := [.int (sWay z.2.2.2.1 z.1)]) (rest := []) (n := 1) (C := "SignReader") S (cS_placeRefused l D h qb qt cI z.1 z.2.1 z.2.2.1 z.2.2.2.1 z.2.2.2.2 hz.1 hz.2 tc ((sWay z.2.2.2.1 z.1))) k94 k1 k93 ks6 (by decide +kernel) ⟨rfl, rfl⟩ k91 (by decide) (xWC_V ⟨⟨hP, hK⟩, hC⟩) rfl rfl hl.1 (Nat.le_of_ble_eq_true rfl) ⟨Nat.le_refl _, Nat.le_refl _⟩ dS_read_7 ?_
  refine lv_istore_n (lv' := [(2, .int (sPlace z.2.2.2.1 z.1 ((sWay z.2.2.2.1 z.1)))), (1, .int (sWay z.2.2.2.1 z.1)), (0, .ref h)]) hx hb dS_read_10 rfl hl (by decide) rfl (fun ls hl => ?_)
  refine lv_iload_n hx hb dS_read_11 rfl (lv_at hl 0 rfl) ?_
  refine lv_iconst (v := (-1)) hx hb dS_read_12 (by decide) ?_
  refine lv_icmp_ne (tgt := 26) hx hb dS_read_13 (by decide) (fun c1 => ?_) (fun c1 => ?_)
  · skip
    refine lv_aload_n hx hb dS_read_26 rfl (lv_at hl 2 rfl) ?_
    refine lv_iconst (v := 0) hx hb dS_read_27 (by decide) ?_
    refine va_put (D := D) (ci := 0) (v := .int 0) (ty := .int) (C := "SignReader") (T := T_S) (N := 5) hx hb hts i_S t_S t_S_ok n_S hown hK hP (srD hd) hS 0 rfl rfl 2 (by decide) (hts _ k24) (fun _ h9 => h9) rfl (by decide +kernel) rfl rfl (Nat.le_of_ble_eq_true rfl) dS_read_28 (fun H locs hP _ hS => ?_)
    have hP : va_P D CL (srW h qb qt cI (0) (nI z.2.1) (z.2.2.1) (z.2.2.2.1) (z.2.2.2.2)) H := hP
    refine lv_iload_n hx hb dS_read_31 rfl (lv_at hl 0 rfl) ?_
    have hP : va_P D CL (srZ h qb qt cI (zRead z)) _ := va_Pe (by rw [zRead, if_neg c1]; exact srZ_0 _ : srW h qb qt cI (0) (nI z.2.1) (z.2.2.1) (z.2.2.2.1) (z.2.2.2.2) = srZ h qb qt cI (zRead z)) hP
    exact mu_retI S hr hk (rfl) hP hS dS_read_32
  · skip
    refine lv_aload_n hx hb dS_read_16 rfl (lv_at hl 2 rfl) ?_
    refine lv_iload_n hx hb dS_read_17 rfl (lv_at hl 1 rfl) ?_
    refine mu_V (As := [.int (sWay z.2.2.2.1 z.1)]) (rest := []) (n := 1) (C := "SignReader") S (cS_takeText l D h qb qt cI (z)  ((sWay z.2.2.2.1 z.1)) hd hz ) k115 k1 k114 ks7 (by decide +kernel) ⟨rfl, rfl⟩ k112 (by decide) (xW_V ⟨hP, hK⟩) rfl rfl hl.1 (Nat.le_of_ble_eq_true rfl) ⟨Nat.le_refl _, Nat.le_refl _⟩ dS_read_18 hS (fun _ h9 => h9) (fun H locs hP hS => ?_)
    have hP : va_P D CL (srZ h qb qt cI (zText z ((sWay z.2.2.2.1 z.1)))) H := hP
    refine lv_aload_n hx hb dS_read_21 rfl (lv_at hl 2 rfl) ?_
    refine lv_iload_n hx hb dS_read_22 rfl (lv_at hl 1 rfl) ?_
    refine va_put (D := D) (ci := 0) (v := .int (sWay z.2.2.2.1 z.1)) (ty := .int) (C := "SignReader") (T := T_S) (N := 5) hx hb hts i_S t_S t_S_ok n_S hown hK hP (srD hd) hS 0 rfl rfl 4 (by decide) (hts _ k26) (fun _ h9 => h9) rfl (by decide +kernel) rfl rfl (Nat.le_of_ble_eq_true rfl) dS_read_23 (fun H locs hP _ hS => ?_)
    have hP : va_P D CL (srW h qb qt cI (nI (zText z ((sWay z.2.2.2.1 z.1))).1) (nI (zText z ((sWay z.2.2.2.1 z.1))).2.1) ((sWay z.2.2.2.1 z.1)) ((zText z ((sWay z.2.2.2.1 z.1))).2.2.2.1) ((zText z ((sWay z.2.2.2.1 z.1))).2.2.2.2)) H := hP
    refine lv_aload_n hx hb dS_read_26 rfl (lv_at hl 2 rfl) ?_
    refine lv_iconst (v := 0) hx hb dS_read_27 (by decide) ?_
    refine va_put (D := D) (ci := 0) (v := .int 0) (ty := .int) (C := "SignReader") (T := T_S) (N := 5) hx hb hts i_S t_S t_S_ok n_S hown hK hP (srD hd) hS 0 rfl rfl 2 (by decide) (hts _ k24) (fun _ h9 => h9) rfl (by decide +kernel) rfl rfl (Nat.le_of_ble_eq_true rfl) dS_read_28 (fun H locs hP _ hS => ?_)
    have hP : va_P D CL (srW h qb qt cI (0) (nI (zText z ((sWay z.2.2.2.1 z.1))).2.1) ((sWay z.2.2.2.1 z.1)) ((zText z ((sWay z.2.2.2.1 z.1))).2.2.2.1) ((zText z ((sWay z.2.2.2.1 z.1))).2.2.2.2)) H := hP
    refine lv_iload_n hx hb dS_read_31 rfl (lv_at hl 0 rfl) ?_
    have hP : va_P D CL (srZ h qb qt cI (zRead z)) _ := va_Pe (by rw [zRead, if_pos c1]; exact srZ_tk _ _ : srW h qb qt cI (0) (nI (zText z ((sWay z.2.2.2.1 z.1))).2.1) ((sWay z.2.2.2.1 z.1)) ((zText z ((sWay z.2.2.2.1 z.1))).2.2.2.1) ((zText z ((sWay z.2.2.2.1 z.1))).2.2.2.2) = srZ h qb qt cI (zRead z)) hP
    exact mu_retI S hr hk (rfl) hP hS dS_read_32
def zW (z : SS) (w : Int32) : Nat → SS
  | 0 => if w = 0 then (0, z.2) else wC (0, z.2) 65279 w
  | k + 1 => wC (zW z w k) ((zW z w k).2.2.2.2 k) w
theorem wB_t (z : SS) (b : Int32) : (wB z b).2.1 = z.2.1 ∧ (wB z b).2.2.1 = z.2.2.1 ∧ (wB z b).2.2.2.2 = z.2.2.2.2 := by unfold wB; split <;> exact ⟨rfl, rfl, rfl⟩
def sameT (y z : SS) : Prop := y.2.1 = z.2.1 ∧ y.2.2.1 = z.2.2.1 ∧ y.2.2.2.2 = z.2.2.2.2
theorem sameT.tr {x y z : SS} (h : sameT x y) (k : sameT y z) : sameT x z := ⟨h.1.trans k.1, h.2.1.trans k.2.1, h.2.2.trans k.2.2⟩
theorem w2_t (z : SS) (u w : Int32) : sameT (w2 z u w) z := by unfold w2; split <;> exact sameT.tr (wB_t _ _) (wB_t _ _)
theorem w16_t (z : SS) (c w : Int32) : sameT (w16 z c w) z := by
  unfold w16
  split
  · exact sameT.tr (w2_t _ _ _) (w2_t _ _ _)
  · exact w2_t _ _ _
theorem wT_t {c : Int32} : ∀ (k : Nat) (z : SS), sameT (wT c k z) z
  | 0, _ => ⟨rfl, rfl, rfl⟩
  | k + 1, z => sameT.tr (wT_t k _) (wB_t _ _)
theorem w8_t (z : SS) (c : Int32) : sameT (w8 z c) z := by
  unfold w8
  split
  · exact wB_t _ _
  · exact sameT.tr (wT_t _ _) (wB_t _ _)
theorem wC_t (z : SS) (c w : Int32) : sameT (wC z c w) z := by
  unfold wC
  split
  · exact w16_t _ _ _
  · exact w8_t _ _
theorem zW_t (z : SS) (w : Int32) : ∀ k : Nat, sameT (zW z w k) z
  | 0 => by
    rw [zW]
    split
    · exact ⟨rfl, rfl, rfl⟩
    · exact sameT.tr (wC_t _ _ _) ⟨rfl, rfl, rfl⟩
  | k + 1 => sameT.tr (wC_t _ _ _) (zW_t z w k)
theorem zW_ok {z : SS} {w : Int32} (hz : okZ z) : ∀ {k : Nat}, okZ (zW z w k)
  | 0 => by
    rw [zW]
    split
    · exact z00_ok hz
    · exact wC_ok (z00_ok hz)
  | k + 1 => wC_ok (zW_ok hz (k := k))
def wOk (z : SS) (w : Int32) : Bool := decide (0 ≤ w) && decide (w ≤ 3) && decide (sWr z.2.2.2.2 w z.2.1 ≤ 4096)
def zWrite (z : SS) (w : Int32) : SS := if wOk z w = true then zW z w z.2.1 else z
theorem zWrite_ok {z : SS} {w : Int32} (hz : okZ z) : okZ (zWrite z w) := by
  unfold zWrite
  split
  · exact zW_ok hz
  · exact hz
set_option maxHeartbeats 4000000 in
set_option maxRecDepth 100000 in
theorem cS_write (l : Launch) (D : va_G) (h qb qt : Nat) (cI : ClassId) (z : SS) (w : Int32) (hd : ap3 h qb qt) (hz : okZ z) : Met l yS_write (Cond.code yS_write prog_1_method_12_code 3 (some .int) :: TB) { frames := 4, cells := 0, slots := 0, locals := 88 } (gx (xZ9 D h qb qt cI z) [.ref h, .int w]) (mQ (some (.int (if wOk z w = true then nI (zW z w z.2.1).1 else -1))) D (srZ h qb qt cI (zWrite z w)) (A3 h qb qt)) 0 0 (A3 h qb qt) := by
  refine mt_of (by decide) ?_
  intro p e s m args below meth cd S hr hk hin hv
  obtain ⟨rfl, hX⟩ := hv
  have hP : va_P D CL (srZ h qb qt cI z) s.heap := hX.1
  have hK := hX.2
  have hz1 := hz.1
  have hz2 := hz.2
  have hS : va_S (A3 h qb qt) s.heap s.heap [] := va_S.rf
  have hx := S.1
  have hb := S.2.1
  have hown := S.2.2.2.1
  have hts := S.2.2.2.2
  have hl := lv_entry ([.ref h, .int w]) (n := 3) (Nat.le_of_ble_eq_true rfl)
  rw [lg_entry_eq]
  generalize (lg_sl ([.ref h, .int w]) ++ List.replicate (3 - (lg_sl ([.ref h, .int w])).length) Slot.unset).toArray = ls at hl ⊢
  have hl : lv_has ls 3 [(0, .ref h), (1, .int w)] := hl
  refine lv_iload_n hx hb dS_write_0 rfl (lv_at hl 1 rfl) ?_
  refine lv_if_lt (tgt := 20) hx hb dS_write_1 (by decide) (fun c1 => ?_) (fun c1 => ?_)
  · skip
    replace c1 := Int32.not_le.mpr c1
    refine lv_iconst (v := (-1)) hx hb dS_write_20 (by decide) ?_
    have hP : va_P D CL (srZ h qb qt cI (zWrite z w)) _ := va_Pe (congrArg (srZ h qb qt cI) (by rw [zWrite, if_neg (by simp [wOk, c1])] : (z : SS) = zWrite z w)) hP
    exact mu_retI S hr hk (by rw [if_neg (by simp [wOk, c1])]) hP hS dS_write_21
  · skip
    replace c1 := Int32.not_lt.mp c1
    refine lv_iload_n hx hb dS_write_4 rfl (lv_at hl 1 rfl) ?_
    refine lv_iconst (v := 3) hx hb dS_write_5 (by decide) ?_
    refine lv_icmp_gt (tgt := 20) hx hb dS_write_6 (by decide) (fun c2 => ?_) (fun c2 => ?_)
    · skip
      replace c2 := Int32.not_le.mpr c2
      refine lv_iconst (v := (-1)) hx hb dS_write_20 (by decide) ?_
      have hP : va_P D CL (srZ h qb qt cI (zWrite z w)) _ := va_Pe (congrArg (srZ h qb qt cI) (by rw [zWrite, if_neg (by simp [wOk, c1, c2])] : (z : SS) = zWrite z w)) hP
      exact mu_retI S hr hk (by rw [if_neg (by simp [wOk, c1, c2])]) hP hS dS_write_21
    · skip
      replace c2 := Int32.not_lt.mp c2
      refine lv_aload_n hx hb dS_write_9 rfl (lv_at hl 0 rfl) ?_
      refine lv_iload_n hx hb dS_write_10 rfl (lv_at hl 1 rfl) ?_
      refine ro_V (r := (sWr z.2.2.2.2 (w) z.2.1)) (As := [.int w]) (rest := []) (n := 1) (C := "SignReader") S (cS_sizeWritten l D h qb qt cI z.1 z.2.1 z.2.2.1 z.2.2.2.1 z.2.2.2.2 hz.1 hz.2 (w)) k258 k1 k257 ks10 (by decide +kernel) ⟨rfl, rfl⟩ k255 (by decide) (xW_V ⟨hP, hK⟩) rfl rfl hl.1 (Nat.le_of_ble_eq_true rfl) ⟨Nat.le_refl _, Nat.le_refl _⟩ dS_write_11 ?_
      refine lv_sipush (v := 4096) hx hb dS_write_14 (by decide) ?_
      refine lv_icmp_le (tgt := 22) hx hb dS_write_17 (by decide) (fun c3 => ?_) (fun c3 => ?_)
      · skip
        have hw9 : wOk z w = true := by simp [wOk, c1, c2, c3]
        refine lv_aload_n hx hb dS_write_22 rfl (lv_at hl 0 rfl) ?_
        refine lv_iconst (v := 0) hx hb dS_write_23 (by decide) ?_
        refine va_put (D := D) (ci := 0) (v := .int 0) (ty := .int) (C := "SignReader") (T := T_S) (N := 5) hx hb hts i_S t_S t_S_ok n_S hown hK hP (srD hd) hS 0 rfl rfl 2 (by decide) (hts _ k24) (fun _ h9 => h9) rfl (by decide +kernel) rfl rfl (Nat.le_of_ble_eq_true rfl) dS_write_24 (fun H locs hP _ hS => ?_)
        have hP : va_P D CL (srW h qb qt cI (0) (nI z.2.1) (z.2.2.1) (z.2.2.2.1) (z.2.2.2.2)) H := hP
        have hP : va_P D CL (srZ h qb qt cI ((0, z.2))) _ := va_Pe (by show _ = srW h qb qt cI (nI 0) _ _ _ _; rw [nI_0] : srW h qb qt cI (0) (nI z.2.1) (z.2.2.1) (z.2.2.2.1) (z.2.2.2.2) = srZ h qb qt cI ((0, z.2))) hP
        have J38 : ∀ (y9 : SS) (H : Heap) (locs : List Loc), y9 = zW z w 0 → va_P D CL (srZ h qb qt cI y9) H → va_S (A3 h qb qt) s.heap H locs → ∀ ls : Array Slot, lv_has ls 3 [(0, .ref h), (1, .int w)] → W p l e { frames := 4, cells := 0, slots := 0, locals := 88 } s m [.ref h, .int w].toArray below meth cd H locs 0 0 (MQ below (mQ (some (.int (if wOk z w = true then nI (zW z w z.2.1).1 else -1))) D (srZ h qb qt cI (zWrite z w)) (A3 h qb qt)) [.ref h, .int w].toArray s 0 0 (A3 h qb qt)) (F0 m 38 ls []) := by
          intro y9 H locs hy9 hP hS ls hl
          subst hy9
          refine lv_iconst (v := 0) hx hb dS_write_38 (by decide) ?_
          refine lv_istore_n (lv' := [(2, .int 0), (0, .ref h), (1, .int w)]) hx hb dS_write_39 rfl hl (by decide) rfl (fun ls hl => ?_)
          have J40 : ∀ (fu : Nat) (x : Int32) (k : Nat) (H : Heap) (locs : List Loc), x = nI k → k ≤ z.2.1 → z.2.1 < k + fu → va_P D CL (srZ h qb qt cI (zW z w k)) H → va_S (A3 h qb qt) s.heap H locs → ∀ ls : Array Slot, lv_has ls 3 [(0, .ref h), (1, .int w), (2, .int x)] → W p l e { frames := 4, cells := 0, slots := 0, locals := 88 } s m [.ref h, .int w].toArray below meth cd H locs 0 0 (MQ below (mQ (some (.int (if wOk z w = true then nI (zW z w z.2.1).1 else -1))) D (srZ h qb qt cI (zWrite z w)) (A3 h qb qt)) [.ref h, .int w].toArray s 0 0 (A3 h qb qt)) (F0 m 40 ls []) := by
            intro fu
            induction fu with
            | zero =>
              intro x k H locs hx9 hk9 hf9 hP hS ls hl
              exact absurd hf9 (by omega)
            | succ fu ih =>
              intro x k H locs hx9 hk9 hf9 hP hS ls hl
              subst hx9
              have ht9 := (zW_t z w k).1
              refine lv_iload_n hx hb dS_write_40 rfl (lv_at hl 2 rfl) ?_
              refine lv_aload_n hx hb dS_write_41 rfl (lv_at hl 0 rfl) ?_
              refine va_get (D := D) (ci := 0) (v := .int (nI (zW z w k).2.1)) (C := "SignReader") (T := T_S) (N := 5) hx hb hts i_S hown hK hP 0 rfl rfl 3 (by decide) (hts _ k25) (fun _ h9 => h9) rfl dS_write_42 ?_
              refine lv_icmp_ge (tgt := 65) hx hb dS_write_45 (by decide) (fun c4 => ?_) (fun c4 => ?_)
              · skip
                rw [nI_leI (by omega) (by omega), ht9] at c4
                have hk8 : k = z.2.1 := by omega
                refine lv_aload_n hx hb dS_write_65 rfl (lv_at hl 0 rfl) ?_
                refine va_get (D := D) (ci := 0) (v := .int (nI (zW z w k).1)) (C := "SignReader") (T := T_S) (N := 5) hx hb hts i_S hown hK hP 0 rfl rfl 2 (by decide) (hts _ k24) (fun _ h9 => h9) rfl dS_write_66 ?_
                have hP : va_P D CL (srZ h qb qt cI (zWrite z w)) _ := va_Pe (congrArg (srZ h qb qt cI) (by rw [zWrite, if_pos hw9, hk8] : (zW z w k : SS) = zWrite z w)) hP
                exact mu_retI S hr hk (by rw [if_pos hw9, hk8]) hP hS dS_write_69
              · skip
                rw [nI_leI (by omega) (by omega), ht9] at c4
                refine lv_aload_n hx hb dS_write_48 rfl (lv_at hl 0 rfl) ?_
                refine lv_aload_n hx hb dS_write_49 rfl (lv_at hl 0 rfl) ?_
                refine va_get (D := D) (ci := 0) (v := .ref qt) (C := "SignReader") (T := T_S) (N := 5) hx hb hts i_S hown hK hP 0 rfl rfl 1 (by decide) (hts _ k23) (fun _ h9 => h9) rfl dS_write_50 ?_
                refine lv_iload_n hx hb dS_write_53 rfl (lv_at hl 2 rfl) ?_
                refine va_iald hx hb hK hP 2 0 rfl rfl (by exact vp_in_nI (by omega) (by omega)) dS_write_54 ?_
                rw [nI_clamp (n := k) (by omega)]
                refine lv_iload_n hx hb dS_write_55 rfl (lv_at hl 1 rfl) ?_
                refine mu_V (As := [.int (((zW z w k).2.2.2.2) k), .int w]) (rest := []) (n := 2) (C := "SignReader") S (cS_putCharacter l D h qb qt cI (zW z w k)  ((((zW z w k).2.2.2.2) k)) (w) hd (zW_ok hz) ) k262 k1 k261 ks11 (by decide +kernel) ⟨rfl, rfl⟩ k259 (by decide) (xW_V ⟨hP, hK⟩) rfl rfl hl.1 (Nat.le_of_ble_eq_true rfl) ⟨Nat.le_refl _, Nat.le_refl _⟩ dS_write_56 hS (fun _ h9 => h9) (fun H locs hP hS => ?_)
                have hP : va_P D CL (srZ h qb qt cI (wC (zW z w k) ((((zW z w k).2.2.2.2) k)) w)) H := hP
                refine lv_iinc (v := ((nI k) + 1)) (lv' := [(2, .int ((nI k) + 1)), (0, .ref h), (1, .int w)]) hx hb dS_write_59 hl (k := 2) rfl rfl (by decide) rfl (fun ls hl => ?_)
                refine lv_goto (tgt := 40) hx hb dS_write_62 (by decide) ?_
                exact ih (((nI k) + 1)) (k + 1) (_) (_) (nI_1 k) (by omega) (by omega) (hP) (hS) ls (lv_sub hl [1, 2, 0] rfl) 
          exact J40 (z.2.1 + 1) (0) (0) (_) (_) (rfl) (by omega) (by omega) (hP) (hS) ls (lv_sub hl [1, 2, 0] rfl) 
        refine lv_iload_n hx hb dS_write_27 rfl (lv_at hl 1 rfl) ?_
        refine lv_if_eq (tgt := 38) hx hb dS_write_28 (by decide) (fun c5 => ?_) (fun c5 => ?_)
        · skip
          exact J38  ((0, z.2)) (_) (_) (by simp only [zW, c5, ↓reduceIte]) (hP) (hS) ls (lv_sub hl [0, 1] rfl) 
        · skip
          refine lv_aload_n hx hb dS_write_31 rfl (lv_at hl 0 rfl) ?_
          refine lv_ldc (v := 65279) hx hb hown (hts _ k90) dS_write_32 ?_
          refine lv_iload_n hx hb dS_write_34 rfl (lv_at hl 1 rfl) ?_
          refine mu_V (As := [.int 65279, .int w]) (rest := []) (n := 2) (C := "SignReader") S (cS_putCharacter l D h qb qt cI ((0, z.2))  (65279) (w) hd (z00_ok hz) ) k262 k1 k261 ks11 (by decide +kernel) ⟨rfl, rfl⟩ k259 (by decide) (xW_V ⟨hP, hK⟩) rfl rfl hl.1 (Nat.le_of_ble_eq_true rfl) ⟨Nat.le_refl _, Nat.le_refl _⟩ dS_write_35 hS (fun _ h9 => h9) (fun H locs hP hS => ?_)
          have hP : va_P D CL (srZ h qb qt cI (wC ((0, z.2)) 65279 w)) H := hP
          exact J38  (wC ((0, z.2)) 65279 w) (_) (_) (by simp only [zW, c5, ↓reduceIte]) (hP) (hS) ls (lv_sub hl [0, 1] rfl) 
      · skip
        refine lv_iconst (v := (-1)) hx hb dS_write_20 (by decide) ?_
        have hP : va_P D CL (srZ h qb qt cI (zWrite z w)) _ := va_Pe (congrArg (srZ h qb qt cI) (by rw [zWrite, if_neg (by simp [wOk, c1, c2, c3])] : (z : SS) = zWrite z w)) hP
        exact mu_retI S hr hk (by rw [if_neg (by simp [wOk, c1, c2, c3])]) hP hS dS_write_21
def cOk (z : SS) (i b : Int32) : Bool := sHas z.1 i && decide (0 ≤ b) && decide (b ≤ 255)
def zChange (z : SS) (i b : Int32) : SS := if cOk z i b = true then (z.1, z.2.1, z.2.2.1, upd z.2.2.2.1 i.toNatClampNeg b, z.2.2.2.2) else z
theorem zChange_ok {z : SS} {i b : Int32} (hz : okZ z) : okZ (zChange z i b) := by unfold zChange; split <;> exact hz
set_option maxHeartbeats 4000000 in
set_option maxRecDepth 100000 in
theorem cS_change (l : Launch) (D : va_G) (h qb qt : Nat) (cI : ClassId) (z : SS) (i b : Int32) (hd : ap3 h qb qt) (hz : okZ z) : Met l yS_change (Cond.code yS_change prog_1_method_4_code 4 (some .int) :: TB) { frames := 1, cells := 0, slots := 0, locals := 21 } (gx (xZ9 D h qb qt cI z) [.ref h, .int i, .int b]) (mQ (some (.int (if cOk z i b = true then z.2.2.2.1 i.toNatClampNeg else -1))) D (srZ h qb qt cI (zChange z i b)) (A3 h qb qt)) 0 0 (A3 h qb qt) := by
  refine mt_of (by decide) ?_
  intro p e s m args below meth cd S hr hk hin hv
  obtain ⟨rfl, hX⟩ := hv
  have hP : va_P D CL (srZ h qb qt cI z) s.heap := hX.1
  have hK := hX.2
  have hS : va_S (A3 h qb qt) s.heap s.heap [] := va_S.rf
  have hx := S.1
  have hb := S.2.1
  have hown := S.2.2.2.1
  have hts := S.2.2.2.2
  have hl := lv_entry ([.ref h, .int i, .int b]) (n := 4) (Nat.le_of_ble_eq_true rfl)
  rw [lg_entry_eq]
  generalize (lg_sl ([.ref h, .int i, .int b]) ++ List.replicate (4 - (lg_sl ([.ref h, .int i, .int b])).length) Slot.unset).toArray = ls at hl ⊢
  have hl : lv_has ls 4 [(0, .ref h), (1, .int i), (2, .int b)] := hl
  refine lv_aload_n hx hb dS_change_0 rfl (lv_at hl 0 rfl) ?_
  refine lv_iload_n hx hb dS_change_1 rfl (lv_at hl 1 rfl) ?_
  refine ro_V (r := (bI (sHas z.1 (i)))) (As := [.int i]) (rest := []) (n := 1) (C := "SignReader") S (cS_hasByte l D h qb qt cI z.1 z.2.1 z.2.2.1 z.2.2.2.1 z.2.2.2.2 hz.1 hz.2 (i)) k46 k1 k45 ks0 (by decide +kernel) ⟨rfl, rfl⟩ k43 (by decide) (xW_V ⟨hP, hK⟩) rfl rfl hl.1 (Nat.le_of_ble_eq_true rfl) ⟨Nat.le_refl _, Nat.le_refl _⟩ dS_change_2 ?_
  refine lv_if_eq (tgt := 19) hx hb dS_change_5 (by decide) (fun c1 => ?_) (fun c1 => ?_)
  · skip
    replace c1 := bI_f c1
    refine lv_iconst (v := (-1)) hx hb dS_change_19 (by decide) ?_
    have hP : va_P D CL (srZ h qb qt cI (zChange z i b)) _ := va_Pe (congrArg (srZ h qb qt cI) (by simp [zChange, cOk, c1] : (z : SS) = zChange z i b)) hP
    exact mu_retI S hr hk (by simp [cOk, c1]) hP hS dS_change_20
  · skip
    replace c1 := bI_t c1
    refine lv_iload_n hx hb dS_change_8 rfl (lv_at hl 2 rfl) ?_
    refine lv_if_lt (tgt := 19) hx hb dS_change_9 (by decide) (fun c2 => ?_) (fun c2 => ?_)
    · skip
      replace c2 := Int32.not_le.mpr c2
      refine lv_iconst (v := (-1)) hx hb dS_change_19 (by decide) ?_
      have hP : va_P D CL (srZ h qb qt cI (zChange z i b)) _ := va_Pe (congrArg (srZ h qb qt cI) (by simp [zChange, cOk, c1, c2] : (z : SS) = zChange z i b)) hP
      exact mu_retI S hr hk (by simp [cOk, c1, c2]) hP hS dS_change_20
    · skip
      replace c2 := Int32.not_lt.mp c2
      refine lv_iload_n hx hb dS_change_12 rfl (lv_at hl 2 rfl) ?_
      refine lv_sipush (v := 255) hx hb dS_change_13 (by decide) ?_
      refine lv_icmp_le (tgt := 21) hx hb dS_change_16 (by decide) (fun c3 => ?_) (fun c3 => ?_)
      · skip
        refine lv_aload_n hx hb dS_change_21 rfl (lv_at hl 0 rfl) ?_
        refine va_get (D := D) (ci := 0) (v := .ref qb) (C := "SignReader") (T := T_S) (N := 5) hx hb hts i_S hown hK hP 0 rfl rfl 0 (by decide) (hts _ k22) (fun _ h9 => h9) rfl dS_change_22 ?_
        refine lv_iload_n hx hb dS_change_25 rfl (lv_at hl 1 rfl) ?_
        refine va_iald hx hb hK hP 1 0 rfl rfl (sHas_in hz.1 c1) dS_change_26 ?_
        refine lv_istore_n (lv' := [(3, .int ((z.2.2.2.1) (i).toNatClampNeg)), (0, .ref h), (1, .int i), (2, .int b)]) hx hb dS_change_27 rfl hl (by decide) rfl (fun ls hl => ?_)
        refine lv_aload_n hx hb dS_change_28 rfl (lv_at hl 1 rfl) ?_
        refine va_get (D := D) (ci := 0) (v := .ref qb) (C := "SignReader") (T := T_S) (N := 5) hx hb hts i_S hown hK hP 0 rfl rfl 0 (by decide) (hts _ k22) (fun _ h9 => h9) rfl dS_change_29 ?_
        refine lv_iload_n hx hb dS_change_32 rfl (lv_at hl 2 rfl) ?_
        refine lv_iload_n hx hb dS_change_33 rfl (lv_at hl 3 rfl) ?_
        refine va_iast hx hb hK hP (srD hd) hS 1 0 rfl rfl (sHas_in hz.1 c1) dS_change_34 (fun H locs hP _ hS => ?_)
        have hP : va_P D CL (srW h qb qt cI (nI z.1) (nI z.2.1) (z.2.2.1) (upd (z.2.2.2.1) (i).toNatClampNeg (b)) (z.2.2.2.2)) H := hP
        refine lv_iload_n hx hb dS_change_35 rfl (lv_at hl 0 rfl) ?_
        have hP : va_P D CL (srZ h qb qt cI (zChange z i b)) _ := va_Pe (by simp [zChange, cOk, c1, c2, c3] : srW h qb qt cI (nI z.1) (nI z.2.1) (z.2.2.1) (upd (z.2.2.2.1) (i).toNatClampNeg (b)) (z.2.2.2.2) = srZ h qb qt cI (zChange z i b)) hP
        exact mu_retI S hr hk (by simp [cOk, c1, c2, c3]) hP hS dS_change_36
      · skip
        refine lv_iconst (v := (-1)) hx hb dS_change_19 (by decide) ?_
        have hP : va_P D CL (srZ h qb qt cI (zChange z i b)) _ := va_Pe (congrArg (srZ h qb qt cI) (by simp [zChange, cOk, c1, c2, c3] : (z : SS) = zChange z i b)) hP
        exact mu_retI S hr hk (by simp [cOk, c1, c2, c3]) hP hS dS_change_20
def aOk (z : SS) (c : Int32) : Bool := sChar c && !decide (c = 13) && decide (z.2.1 < 4096)
def zAdd (z : SS) (c : Int32) : SS := if aOk z c = true then wG z c else z
theorem zAdd_ok {z : SS} {c : Int32} (hz : okZ z) : okZ (zAdd z c) := by
  unfold zAdd
  split
  · exact wG_ok hz
  · exact hz
set_option maxHeartbeats 4000000 in
set_option maxRecDepth 100000 in
theorem cS_add (l : Launch) (D : va_G) (h qb qt : Nat) (cI : ClassId) (z : SS) (tc : Nat) (c : Int32) (hd : ap3 h qb qt) (hz : okZ z) : Met l yS_add (Cond.code yS_add prog_1_method_13_code 2 (some .int) :: TB) { frames := 2, cells := 0, slots := 0, locals := 42 } (gx (xWC D h qb qt cI z.1 z.2.1 z.2.2.1 z.2.2.2.1 z.2.2.2.2 tc) [.ref h, .int c]) (mQ (some (.int (if aOk z c = true then nI (wG z c).2.1 else -1))) D (srZ h qb qt cI (zAdd z c)) (A3 h qb qt)) 0 0 (A3 h qb qt) := by
  refine mt_of (by decide) ?_
  intro p e s m args below meth cd S hr hk hin hv
  obtain ⟨rfl, hX⟩ := hv
  have hP : va_P D CL (srZ h qb qt cI z) s.heap := hX.1.1
  have hK := hX.1.2
  have hC := hX.2
  have hS : va_S (A3 h qb qt) s.heap s.heap [] := va_S.rf
  have hx := S.1
  have hb := S.2.1
  have hown := S.2.2.2.1
  have hts := S.2.2.2.2
  have hl := lv_entry ([.ref h, .int c]) (n := 2) (Nat.le_of_ble_eq_true rfl)
  rw [lg_entry_eq]
  generalize (lg_sl ([.ref h, .int c]) ++ List.replicate (2 - (lg_sl ([.ref h, .int c])).length) Slot.unset).toArray = ls at hl ⊢
  have hl : lv_has ls 2 [(0, .ref h), (1, .int c)] := hl
  refine lv_iload_n hx hb dS_add_0 rfl (lv_at hl 1 rfl) ?_
  refine ro_S (As := [.int c]) (rest := []) (n := 1) S (cS_isCharacter l tc (c)) k106 k1 k105 (by decide +kernel) ⟨rfl, rfl⟩ k104 (by decide) (gx_S xC_ok hC) rfl rfl hl.1 (Nat.le_of_ble_eq_true rfl) ⟨Nat.le_refl _, Nat.le_refl _⟩ dS_add_1 ?_
  refine lv_if_eq (tgt := 23) hx hb dS_add_4 (by decide) (fun c1 => ?_) (fun c1 => ?_)
  · skip
    replace c1 := bI_f c1
    refine lv_iconst (v := (-1)) hx hb dS_add_23 (by decide) ?_
    have hP : va_P D CL (srZ h qb qt cI (zAdd z c)) _ := va_Pe (congrArg (srZ h qb qt cI) (by simp [zAdd, aOk, c1] : (z : SS) = zAdd z c)) hP
    exact mu_retI S hr hk (by simp [aOk, c1]) hP hS dS_add_24
  · skip
    replace c1 := bI_t c1
    refine lv_iload_n hx hb dS_add_7 rfl (lv_at hl 1 rfl) ?_
    refine lv_bipush (v := 13) hx hb dS_add_8 (by decide) ?_
    refine lv_icmp_eq (tgt := 23) hx hb dS_add_10 (by decide) (fun c2 => ?_) (fun c2 => ?_)
    · skip
      refine lv_iconst (v := (-1)) hx hb dS_add_23 (by decide) ?_
      have hP : va_P D CL (srZ h qb qt cI (zAdd z c)) _ := va_Pe (congrArg (srZ h qb qt cI) (by simp [zAdd, aOk, c1, c2] : (z : SS) = zAdd z c)) hP
      exact mu_retI S hr hk (by simp [aOk, c1, c2]) hP hS dS_add_24
    · skip
      refine lv_aload_n hx hb dS_add_13 rfl (lv_at hl 0 rfl) ?_
      refine va_get (D := D) (ci := 0) (v := .int (nI z.2.1)) (C := "SignReader") (T := T_S) (N := 5) hx hb hts i_S hown hK hP 0 rfl rfl 3 (by decide) (hts _ k25) (fun _ h9 => h9) rfl dS_add_14 ?_
      refine lv_sipush (v := 4096) hx hb dS_add_17 (by decide) ?_
      refine lv_icmp_lt (tgt := 25) hx hb dS_add_20 (by decide) (fun c3 => ?_) (fun c3 => ?_)
      · skip
        replace c3 := Int32.not_le.mpr c3
        rw [show (4096 : Int32) = nI 4096 from rfl, nI_leI (by omega) (by have := hz.2; omega)] at c3
        have hl9 : z.2.1 < 4096 := by omega
        refine lv_aload_n hx hb dS_add_25 rfl (lv_at hl 0 rfl) ?_
        refine lv_iload_n hx hb dS_add_26 rfl (lv_at hl 1 rfl) ?_
        refine mu_V (As := [.int c]) (rest := []) (n := 1) (C := "SignReader") S (cS_putSign l D h qb qt cI (z)  (c) hd hz ) k119 k1 k118 ks8 (by decide +kernel) ⟨rfl, rfl⟩ k116 (by decide) (xW_V ⟨hP, hK⟩) rfl rfl hl.1 (Nat.le_of_ble_eq_true rfl) ⟨Nat.le_refl _, Nat.le_refl _⟩ dS_add_27 hS (fun _ h9 => h9) (fun H locs hP hS => ?_)
        have hP : va_P D CL (srZ h qb qt cI (wG z c)) H := hP
        refine lv_aload_n hx hb dS_add_30 rfl (lv_at hl 0 rfl) ?_
        refine va_get (D := D) (ci := 0) (v := .int (nI (wG z c).2.1)) (C := "SignReader") (T := T_S) (N := 5) hx hb hts i_S hown hK hP 0 rfl rfl 3 (by decide) (hts _ k25) (fun _ h9 => h9) rfl dS_add_31 ?_
        have hP : va_P D CL (srZ h qb qt cI (zAdd z c)) _ := va_Pe (congrArg (srZ h qb qt cI) (by simp [zAdd, aOk, c1, c2, hl9] : (wG z c : SS) = zAdd z c)) hP
        exact mu_retI S hr hk (by simp [aOk, c1, c2, hl9]) hP hS dS_add_34
      · skip
        replace c3 := Int32.not_lt.mp c3
        rw [show (4096 : Int32) = nI 4096 from rfl, nI_leI (by omega) (by have := hz.2; omega)] at c3
        have hl9 : ¬ z.2.1 < 4096 := by omega
        refine lv_iconst (v := (-1)) hx hb dS_add_23 (by decide) ?_
        have hP : va_P D CL (srZ h qb qt cI (zAdd z c)) _ := va_Pe (congrArg (srZ h qb qt cI) (by simp [zAdd, aOk, c1, c2, hl9] : (z : SS) = zAdd z c)) hP
        exact mu_retI S hr hk (by simp [aOk, c1, c2, hl9]) hP hS dS_add_24
end
section
/-! the reference: its object -/
abbrev moW (h qb qt qa : Nat) (cI : ClassId) (co sz ln wy ct fo : Int32) (f g a : Nat → Int32) : va_W := [(h, .inr (1, [.int co, .ref qb, .int sz, .ref qt, .int ln, .int wy, .ref qa, .int ct, .int fo])), (qb, .inl (cI, 4096, .inl f)), (qt, .inl (cI, 4096, .inl g)), (qa, .inl (cI, 4100, .inl a))]
/-- code, size, length, way, count, found, bytes, text, aside -/
abbrev MS : Type := Int32 × Nat × Nat × Int32 × Nat × Int32 × (Nat → Int32) × (Nat → Int32) × (Nat → Int32)
abbrev moZ (h qb qt qa : Nat) (cI : ClassId) (y : MS) : va_W := moW h qb qt qa cI y.1 (nI y.2.1) (nI y.2.2.1) y.2.2.2.1 (nI y.2.2.2.2.1) y.2.2.2.2.2.1 y.2.2.2.2.2.2.1 y.2.2.2.2.2.2.2.1 y.2.2.2.2.2.2.2.2
def okY (y : MS) : Prop := y.2.1 ≤ 4096 ∧ y.2.2.1 ≤ 4096 ∧ y.2.2.2.2.1 ≤ 1000000
def xM (D : va_G) (h qb qt qa : Nat) (cI : ClassId) (y : MS) : State → Heap → Prop := fun U H => va_P D CL (moZ h qb qt qa cI y) H ∧ va_K D CL [(cI, .int)] U
theorem xM_ok {D : va_G} {h qb qt qa : Nat} {cI : ClassId} {y : MS} : okX (xM D h qb qt qa cI y) := fun s U H hW q => ⟨q.1, va_K.moved hW.alike q.2⟩
theorem xM_V {D : va_G} {h qb qt qa : Nat} {cI : ClassId} {y : MS} {s : State} {H : Heap} {As : List Value} (q : xM D h qb qt qa cI y s H) : PreV s H "SignReaderModel" h (gx (xM D h qb qt qa cI y) (.ref h :: As)) As :=
  gx_V xM_ok q (va_recv q.2 q.1 (ci := 1) (q0 := 0) (q := ("SignReaderModel", T_M, 9)) rfl rfl)
def ap4 (h qb qt qa : Nat) : Prop := (h ≠ qb ∧ h ≠ qt ∧ h ≠ qa) ∧ qb ≠ qt ∧ qb ≠ qa ∧ qt ≠ qa
def A4 (h qb qt qa : Nat) : Nat → Prop := fun q => q = h ∨ q = qb ∨ q = qt ∨ q = qa
theorem moD {h qb qt qa : Nat} {cI : ClassId} {co sz ln wy ct fo : Int32} {f g a : Nat → Int32} (hd : ap4 h qb qt qa) : va_D (A4 h qb qt qa) (moW h qb qt qa cI co sz ln wy ct fo f g a) := by
  obtain ⟨⟨h1, h2, h3⟩, h4, h5, h6⟩ := hd
  have key : ∀ (k : Nat) (q : Nat × va_E), (moW h qb qt qa cI co sz ln wy ct fo f g a)[k]? = some q → (k = 0 ∧ q.1 = h) ∨ (k = 1 ∧ q.1 = qb) ∨ (k = 2 ∧ q.1 = qt) ∨ (k = 3 ∧ q.1 = qa) := by
    intro k q hq
    match k, hq with
    | 0, hq => cases hq; exact Or.inl ⟨rfl, rfl⟩
    | 1, hq => cases hq; exact Or.inr (Or.inl ⟨rfl, rfl⟩)
    | 2, hq => cases hq; exact Or.inr (Or.inr (Or.inl ⟨rfl, rfl⟩))
    | 3, hq => cases hq; exact Or.inr (Or.inr (Or.inr ⟨rfl, rfl⟩))
    | k + 4, hq => simp at hq
  constructor
  · intro i j p q hi hj he
    have a1 := key i p hi
    have a2 := key j q hj
    rcases a1 with ⟨rfl, e1⟩ | ⟨rfl, e1⟩ | ⟨rfl, e1⟩ | ⟨rfl, e1⟩ <;> rcases a2 with ⟨rfl, e2⟩ | ⟨rfl, e2⟩ | ⟨rfl, e2⟩ | ⟨rfl, e2⟩ <;> first | rfl | (exfalso; rw [e1, e2] at he; first | exact h1 he | exact h1 he.symm | exact h2 he | exact h2 he.symm | exact h3 he | exact h3 he.symm | exact h4 he | exact h4 he.symm | exact h5 he | exact h5 he.symm | exact h6 he | exact h6 he.symm)
  · intro k q hq
    rcases key k q hq with ⟨-, e⟩ | ⟨-, e⟩ | ⟨-, e⟩ | ⟨-, e⟩
    · exact Or.inl e
    · exact Or.inr (Or.inl e)
    · exact Or.inr (Or.inr (Or.inl e))
    · exact Or.inr (Or.inr (Or.inr e))
theorem y0_ok {y : MS} {c : Int32} (hy : okY y) : okY (c, y.2) := hy
theorem nI_nat {i : Int32} (h : 0 ≤ i) : nI i.toNatClampNeg = i := by
  obtain ⟨j, hj, rfl⟩ := nI_of (Int32.not_lt.mpr h)
  rw [nI_clamp hj]
set_option maxHeartbeats 4000000 in
set_option maxRecDepth 100000 in
theorem cM_thrown (l : Launch) (D : va_G) (h qb qt qa : Nat) (cI : ClassId) (y : MS) (hy : okY y) : Met l yM_thrown (Cond.code yM_thrown prog_3_method_2_code 1 (some .int) :: TB) { frames := 0, cells := 0, slots := 0, locals := 0 } (gx (xM D h qb qt qa cI y) [.ref h]) (QcRead (y.1)) 0 0 (fun _ => False) := by
  refine mt_of (by decide) ?_
  intro p e s m args below meth cd S hr hk hin hv
  obtain ⟨rfl, hX⟩ := hv
  have hP := hX.1
  have hK := hX.2
  have hy1 := hy.1
  have hy2 := hy.2.1
  have hy3 := hy.2.2
  have hx := S.1
  have hb := S.2.1
  have hown := S.2.2.2.1
  have hts := S.2.2.2.2
  have hl := lv_entry ([.ref h]) (n := 1) (Nat.le_of_ble_eq_true rfl)
  rw [lg_entry_eq]
  generalize (lg_sl ([.ref h]) ++ List.replicate (1 - (lg_sl ([.ref h])).length) Slot.unset).toArray = ls at hl ⊢
  have hl : lv_has ls 1 [(0, .ref h)] := hl
  refine lv_aload_n hx hb dM_thrown_0 rfl (lv_at hl 0 rfl) ?_
  refine va_get (D := D) (ci := 1) (v := .int (y.1)) (C := "SignReaderModel") (T := T_M) (N := 9) hx hb hts i_M hown hK hP 0 rfl rfl 0 (by decide) (hts _ k391) (fun _ h9 => h9) rfl dM_thrown_1 ?_
  exact ro_ret S hr hk (rfl) dM_thrown_4
set_option maxHeartbeats 4000000 in
set_option maxRecDepth 100000 in
theorem cM_came (l : Launch) (D : va_G) (h qb qt qa : Nat) (cI : ClassId) (y : MS) (i : Int32) (hd : ap4 h qb qt qa) (hy : okY y) : Met l yM_came (Cond.code yM_came prog_3_method_7_code 2 (some .int) :: TB) { frames := 0, cells := 0, slots := 0, locals := 0 } (gx (xM D h qb qt qa cI y) [.ref h, .int i]) (mQ (some (.int (sCame y.2.2.2.2.2.2.1 y.2.1 i))) D (moZ h qb qt qa cI ((0, y.2))) (A4 h qb qt qa)) 0 0 (A4 h qb qt qa) := by
  refine mt_of (by decide) ?_
  intro p e s m args below meth cd S hr hk hin hv
  obtain ⟨rfl, hX⟩ := hv
  have hP : va_P D CL (moZ h qb qt qa cI y) s.heap := hX.1
  have hK := hX.2
  have hy1 := hy.1
  have hy2 := hy.2.1
  have hy3 := hy.2.2
  have hS : va_S (A4 h qb qt qa) s.heap s.heap [] := va_S.rf
  have hx := S.1
  have hb := S.2.1
  have hown := S.2.2.2.1
  have hts := S.2.2.2.2
  have hl := lv_entry ([.ref h, .int i]) (n := 2) (Nat.le_of_ble_eq_true rfl)
  rw [lg_entry_eq]
  generalize (lg_sl ([.ref h, .int i]) ++ List.replicate (2 - (lg_sl ([.ref h, .int i])).length) Slot.unset).toArray = ls at hl ⊢
  have hl : lv_has ls 2 [(0, .ref h), (1, .int i)] := hl
  refine lv_aload_n hx hb dM_came_0 rfl (lv_at hl 0 rfl) ?_
  refine lv_iconst (v := 0) hx hb dM_came_1 (by decide) ?_
  refine va_put (D := D) (ci := 1) (v := .int 0) (ty := .int) (C := "SignReaderModel") (T := T_M) (N := 9) hx hb hts i_M t_M t_M_ok n_M hown hK hP (moD hd) hS 0 rfl rfl 0 (by decide) (hts _ k391) (fun _ h9 => h9) rfl (by decide +kernel) rfl rfl (Nat.le_of_ble_eq_true rfl) dM_came_2 (fun H locs hP _ hS => ?_)
  have hP : va_P D CL (moW h qb qt qa cI (0) (nI y.2.1) (nI y.2.2.1) (y.2.2.2.1) (nI y.2.2.2.2.1) (y.2.2.2.2.2.1) (y.2.2.2.2.2.2.1) (y.2.2.2.2.2.2.2.1) (y.2.2.2.2.2.2.2.2)) H := hP
  have hP : va_P D CL (moZ h qb qt qa cI ((0, y.2))) _ := va_Pe (rfl : moW h qb qt qa cI (0) (nI y.2.1) (nI y.2.2.1) (y.2.2.2.1) (nI y.2.2.2.2.1) (y.2.2.2.2.2.1) (y.2.2.2.2.2.2.1) (y.2.2.2.2.2.2.2.1) (y.2.2.2.2.2.2.2.2) = moZ h qb qt qa cI ((0, y.2))) hP
  refine lv_iload_n hx hb dM_came_5 rfl (lv_at hl 1 rfl) ?_
  refine lv_if_lt (tgt := 26) hx hb dM_came_6 (by decide) (fun c1 => ?_) (fun c1 => ?_)
  · skip
    replace c1 := Int32.not_le.mpr c1
    refine lv_iconst (v := (-1)) hx hb dM_came_26 (by decide) ?_
    have hP : va_P D CL (moZ h qb qt qa cI ((0, y.2))) _ := va_Pe (congrArg (moZ h qb qt qa cI) (rfl : ((0, y.2) : MS) = (0, y.2))) hP
    exact mu_retI S hr hk (by simp [sCame, sHas, c1]) hP hS dM_came_27
  · skip
    replace c1 := Int32.not_lt.mp c1
    refine lv_iload_n hx hb dM_came_9 rfl (lv_at hl 1 rfl) ?_
    refine lv_aload_n hx hb dM_came_10 rfl (lv_at hl 0 rfl) ?_
    refine va_get (D := D) (ci := 1) (v := .int (nI y.2.1)) (C := "SignReaderModel") (T := T_M) (N := 9) hx hb hts i_M hown hK hP 0 rfl rfl 2 (by decide) (hts _ k393) (fun _ h9 => h9) rfl dM_came_11 ?_
    refine lv_icmp_ge (tgt := 26) hx hb dM_came_14 (by decide) (fun c2 => ?_) (fun c2 => ?_)
    · skip
      refine lv_iconst (v := (-1)) hx hb dM_came_26 (by decide) ?_
      have hP : va_P D CL (moZ h qb qt qa cI ((0, y.2))) _ := va_Pe (congrArg (moZ h qb qt qa cI) (rfl : ((0, y.2) : MS) = (0, y.2))) hP
      exact mu_retI S hr hk (by simp [sCame, sHas, c1, c2]) hP hS dM_came_27
    · skip
      refine lv_aload_n hx hb dM_came_17 rfl (lv_at hl 0 rfl) ?_
      refine va_get (D := D) (ci := 1) (v := .ref qb) (C := "SignReaderModel") (T := T_M) (N := 9) hx hb hts i_M hown hK hP 0 rfl rfl 1 (by decide) (hts _ k392) (fun _ h9 => h9) rfl dM_came_18 ?_
      refine lv_iload_n hx hb dM_came_21 rfl (lv_at hl 1 rfl) ?_
      refine va_iald hx hb hK hP 1 0 rfl rfl (sHas_in hy.1 (by simp [sHas, c1, c2])) dM_came_22 ?_
      refine lv_goto (tgt := 27) hx hb dM_came_23 (by decide) ?_
      have hP : va_P D CL (moZ h qb qt qa cI ((0, y.2))) _ := va_Pe (congrArg (moZ h qb qt qa cI) (rfl : ((0, y.2) : MS) = (0, y.2))) hP
      exact mu_retI S hr hk (by simp [sCame, sHas, c1, c2]) hP hS dM_came_27
set_option maxHeartbeats 4000000 in
set_option maxRecDepth 100000 in
theorem cM_sign (l : Launch) (D : va_G) (h qb qt qa : Nat) (cI : ClassId) (y : MS) (i : Int32) (hd : ap4 h qb qt qa) (hy : okY y) : Met l yM_sign (Cond.code yM_sign prog_3_method_17_code 2 (some .int) :: TB) { frames := 0, cells := 0, slots := 0, locals := 0 } (gx (xM D h qb qt qa cI y) [.ref h, .int i]) (mQ (some (.int (sCame y.2.2.2.2.2.2.2.1 y.2.2.1 i))) D (moZ h qb qt qa cI ((0, y.2))) (A4 h qb qt qa)) 0 0 (A4 h qb qt qa) := by
  refine mt_of (by decide) ?_
  intro p e s m args below meth cd S hr hk hin hv
  obtain ⟨rfl, hX⟩ := hv
  have hP : va_P D CL (moZ h qb qt qa cI y) s.heap := hX.1
  have hK := hX.2
  have hy1 := hy.1
  have hy2 := hy.2.1
  have hy3 := hy.2.2
  have hS : va_S (A4 h qb qt qa) s.heap s.heap [] := va_S.rf
  have hx := S.1
  have hb := S.2.1
  have hown := S.2.2.2.1
  have hts := S.2.2.2.2
  have hl := lv_entry ([.ref h, .int i]) (n := 2) (Nat.le_of_ble_eq_true rfl)
  rw [lg_entry_eq]
  generalize (lg_sl ([.ref h, .int i]) ++ List.replicate (2 - (lg_sl ([.ref h, .int i])).length) Slot.unset).toArray = ls at hl ⊢
  have hl : lv_has ls 2 [(0, .ref h), (1, .int i)] := hl
  refine lv_aload_n hx hb dM_sign_0 rfl (lv_at hl 0 rfl) ?_
  refine lv_iconst (v := 0) hx hb dM_sign_1 (by decide) ?_
  refine va_put (D := D) (ci := 1) (v := .int 0) (ty := .int) (C := "SignReaderModel") (T := T_M) (N := 9) hx hb hts i_M t_M t_M_ok n_M hown hK hP (moD hd) hS 0 rfl rfl 0 (by decide) (hts _ k391) (fun _ h9 => h9) rfl (by decide +kernel) rfl rfl (Nat.le_of_ble_eq_true rfl) dM_sign_2 (fun H locs hP _ hS => ?_)
  have hP : va_P D CL (moW h qb qt qa cI (0) (nI y.2.1) (nI y.2.2.1) (y.2.2.2.1) (nI y.2.2.2.2.1) (y.2.2.2.2.2.1) (y.2.2.2.2.2.2.1) (y.2.2.2.2.2.2.2.1) (y.2.2.2.2.2.2.2.2)) H := hP
  have hP : va_P D CL (moZ h qb qt qa cI ((0, y.2))) _ := va_Pe (rfl : moW h qb qt qa cI (0) (nI y.2.1) (nI y.2.2.1) (y.2.2.2.1) (nI y.2.2.2.2.1) (y.2.2.2.2.2.1) (y.2.2.2.2.2.2.1) (y.2.2.2.2.2.2.2.1) (y.2.2.2.2.2.2.2.2) = moZ h qb qt qa cI ((0, y.2))) hP
  refine lv_iload_n hx hb dM_sign_5 rfl (lv_at hl 1 rfl) ?_
  refine lv_if_lt (tgt := 26) hx hb dM_sign_6 (by decide) (fun c1 => ?_) (fun c1 => ?_)
  · skip
    replace c1 := Int32.not_le.mpr c1
    refine lv_iconst (v := (-1)) hx hb dM_sign_26 (by decide) ?_
    have hP : va_P D CL (moZ h qb qt qa cI ((0, y.2))) _ := va_Pe (congrArg (moZ h qb qt qa cI) (rfl : ((0, y.2) : MS) = (0, y.2))) hP
    exact mu_retI S hr hk (by simp [sCame, sHas, c1]) hP hS dM_sign_27
  · skip
    replace c1 := Int32.not_lt.mp c1
    refine lv_iload_n hx hb dM_sign_9 rfl (lv_at hl 1 rfl) ?_
    refine lv_aload_n hx hb dM_sign_10 rfl (lv_at hl 0 rfl) ?_
    refine va_get (D := D) (ci := 1) (v := .int (nI y.2.2.1)) (C := "SignReaderModel") (T := T_M) (N := 9) hx hb hts i_M hown hK hP 0 rfl rfl 4 (by decide) (hts _ k395) (fun _ h9 => h9) rfl dM_sign_11 ?_
    refine lv_icmp_ge (tgt := 26) hx hb dM_sign_14 (by decide) (fun c2 => ?_) (fun c2 => ?_)
    · skip
      refine lv_iconst (v := (-1)) hx hb dM_sign_26 (by decide) ?_
      have hP : va_P D CL (moZ h qb qt qa cI ((0, y.2))) _ := va_Pe (congrArg (moZ h qb qt qa cI) (rfl : ((0, y.2) : MS) = (0, y.2))) hP
      exact mu_retI S hr hk (by simp [sCame, sHas, c1, c2]) hP hS dM_sign_27
    · skip
      refine lv_aload_n hx hb dM_sign_17 rfl (lv_at hl 0 rfl) ?_
      refine va_get (D := D) (ci := 1) (v := .ref qt) (C := "SignReaderModel") (T := T_M) (N := 9) hx hb hts i_M hown hK hP 0 rfl rfl 3 (by decide) (hts _ k394) (fun _ h9 => h9) rfl dM_sign_18 ?_
      refine lv_iload_n hx hb dM_sign_21 rfl (lv_at hl 1 rfl) ?_
      refine va_iald hx hb hK hP 2 0 rfl rfl (sHas_in hy.2.1 (by simp [sHas, c1, c2])) dM_sign_22 ?_
      refine lv_goto (tgt := 27) hx hb dM_sign_23 (by decide) ?_
      have hP : va_P D CL (moZ h qb qt qa cI ((0, y.2))) _ := va_Pe (congrArg (moZ h qb qt qa cI) (rfl : ((0, y.2) : MS) = (0, y.2))) hP
      exact mu_retI S hr hk (by simp [sCame, sHas, c1, c2]) hP hS dM_sign_27
set_option maxHeartbeats 4000000 in
set_option maxRecDepth 100000 in
theorem cM_length (l : Launch) (D : va_G) (h qb qt qa : Nat) (cI : ClassId) (y : MS) (hd : ap4 h qb qt qa) (hy : okY y) : Met l yM_length (Cond.code yM_length prog_3_method_16_code 1 (some .int) :: TB) { frames := 0, cells := 0, slots := 0, locals := 0 } (gx (xM D h qb qt qa cI y) [.ref h]) (mQ (some (.int (nI y.2.2.1))) D (moZ h qb qt qa cI ((0, y.2))) (A4 h qb qt qa)) 0 0 (A4 h qb qt qa) := by
  refine mt_of (by decide) ?_
  intro p e s m args below meth cd S hr hk hin hv
  obtain ⟨rfl, hX⟩ := hv
  have hP : va_P D CL (moZ h qb qt qa cI y) s.heap := hX.1
  have hK := hX.2
  have hy1 := hy.1
  have hy2 := hy.2.1
  have hy3 := hy.2.2
  have hS : va_S (A4 h qb qt qa) s.heap s.heap [] := va_S.rf
  have hx := S.1
  have hb := S.2.1
  have hown := S.2.2.2.1
  have hts := S.2.2.2.2
  have hl := lv_entry ([.ref h]) (n := 1) (Nat.le_of_ble_eq_true rfl)
  rw [lg_entry_eq]
  generalize (lg_sl ([.ref h]) ++ List.replicate (1 - (lg_sl ([.ref h])).length) Slot.unset).toArray = ls at hl ⊢
  have hl : lv_has ls 1 [(0, .ref h)] := hl
  refine lv_aload_n hx hb dM_length_0 rfl (lv_at hl 0 rfl) ?_
  refine lv_iconst (v := 0) hx hb dM_length_1 (by decide) ?_
  refine va_put (D := D) (ci := 1) (v := .int 0) (ty := .int) (C := "SignReaderModel") (T := T_M) (N := 9) hx hb hts i_M t_M t_M_ok n_M hown hK hP (moD hd) hS 0 rfl rfl 0 (by decide) (hts _ k391) (fun _ h9 => h9) rfl (by decide +kernel) rfl rfl (Nat.le_of_ble_eq_true rfl) dM_length_2 (fun H locs hP _ hS => ?_)
  have hP : va_P D CL (moW h qb qt qa cI (0) (nI y.2.1) (nI y.2.2.1) (y.2.2.2.1) (nI y.2.2.2.2.1) (y.2.2.2.2.2.1) (y.2.2.2.2.2.2.1) (y.2.2.2.2.2.2.2.1) (y.2.2.2.2.2.2.2.2)) H := hP
  have hP : va_P D CL (moZ h qb qt qa cI ((0, y.2))) _ := va_Pe (rfl : moW h qb qt qa cI (0) (nI y.2.1) (nI y.2.2.1) (y.2.2.2.1) (nI y.2.2.2.2.1) (y.2.2.2.2.2.1) (y.2.2.2.2.2.2.1) (y.2.2.2.2.2.2.2.1) (y.2.2.2.2.2.2.2.2) = moZ h qb qt qa cI ((0, y.2))) hP
  refine lv_aload_n hx hb dM_length_5 rfl (lv_at hl 0 rfl) ?_
  refine va_get (D := D) (ci := 1) (v := .int (nI y.2.2.1)) (C := "SignReaderModel") (T := T_M) (N := 9) hx hb hts i_M hown hK hP 0 rfl rfl 4 (by decide) (hts _ k395) (fun _ h9 => h9) rfl dM_length_6 ?_
  have hP : va_P D CL (moZ h qb qt qa cI ((0, y.2))) _ := va_Pe (congrArg (moZ h qb qt qa cI) (rfl : ((0, y.2) : MS) = (0, y.2))) hP
  exact mu_retI S hr hk (rfl) hP hS dM_length_9
set_option maxHeartbeats 4000000 in
set_option maxRecDepth 100000 in
theorem cM_way (l : Launch) (D : va_G) (h qb qt qa : Nat) (cI : ClassId) (y : MS) (hd : ap4 h qb qt qa) (hy : okY y) : Met l yM_way (Cond.code yM_way prog_3_method_18_code 1 (some .int) :: TB) { frames := 0, cells := 0, slots := 0, locals := 0 } (gx (xM D h qb qt qa cI y) [.ref h]) (mQ (some (.int (y.2.2.2.1))) D (moZ h qb qt qa cI ((0, y.2))) (A4 h qb qt qa)) 0 0 (A4 h qb qt qa) := by
  refine mt_of (by decide) ?_
  intro p e s m args below meth cd S hr hk hin hv
  obtain ⟨rfl, hX⟩ := hv
  have hP : va_P D CL (moZ h qb qt qa cI y) s.heap := hX.1
  have hK := hX.2
  have hy1 := hy.1
  have hy2 := hy.2.1
  have hy3 := hy.2.2
  have hS : va_S (A4 h qb qt qa) s.heap s.heap [] := va_S.rf
  have hx := S.1
  have hb := S.2.1
  have hown := S.2.2.2.1
  have hts := S.2.2.2.2
  have hl := lv_entry ([.ref h]) (n := 1) (Nat.le_of_ble_eq_true rfl)
  rw [lg_entry_eq]
  generalize (lg_sl ([.ref h]) ++ List.replicate (1 - (lg_sl ([.ref h])).length) Slot.unset).toArray = ls at hl ⊢
  have hl : lv_has ls 1 [(0, .ref h)] := hl
  refine lv_aload_n hx hb dM_way_0 rfl (lv_at hl 0 rfl) ?_
  refine lv_iconst (v := 0) hx hb dM_way_1 (by decide) ?_
  refine va_put (D := D) (ci := 1) (v := .int 0) (ty := .int) (C := "SignReaderModel") (T := T_M) (N := 9) hx hb hts i_M t_M t_M_ok n_M hown hK hP (moD hd) hS 0 rfl rfl 0 (by decide) (hts _ k391) (fun _ h9 => h9) rfl (by decide +kernel) rfl rfl (Nat.le_of_ble_eq_true rfl) dM_way_2 (fun H locs hP _ hS => ?_)
  have hP : va_P D CL (moW h qb qt qa cI (0) (nI y.2.1) (nI y.2.2.1) (y.2.2.2.1) (nI y.2.2.2.2.1) (y.2.2.2.2.2.1) (y.2.2.2.2.2.2.1) (y.2.2.2.2.2.2.2.1) (y.2.2.2.2.2.2.2.2)) H := hP
  have hP : va_P D CL (moZ h qb qt qa cI ((0, y.2))) _ := va_Pe (rfl : moW h qb qt qa cI (0) (nI y.2.1) (nI y.2.2.1) (y.2.2.2.1) (nI y.2.2.2.2.1) (y.2.2.2.2.2.1) (y.2.2.2.2.2.2.1) (y.2.2.2.2.2.2.2.1) (y.2.2.2.2.2.2.2.2) = moZ h qb qt qa cI ((0, y.2))) hP
  refine lv_aload_n hx hb dM_way_5 rfl (lv_at hl 0 rfl) ?_
  refine va_get (D := D) (ci := 1) (v := .int (y.2.2.2.1)) (C := "SignReaderModel") (T := T_M) (N := 9) hx hb hts i_M hown hK hP 0 rfl rfl 5 (by decide) (hts _ k396) (fun _ h9 => h9) rfl dM_way_6 ?_
  have hP : va_P D CL (moZ h qb qt qa cI ((0, y.2))) _ := va_Pe (congrArg (moZ h qb qt qa cI) (rfl : ((0, y.2) : MS) = (0, y.2))) hP
  exact mu_retI S hr hk (rfl) hP hS dM_way_9
set_option maxHeartbeats 4000000 in
set_option maxRecDepth 100000 in
theorem cM_kinds (l : Launch) (D : va_G) (h qb qt qa : Nat) (cI : ClassId) (y : MS) (c : Int32) (hd : ap4 h qb qt qa) (hy : okY y) : Met l yM_kinds (Cond.code yM_kinds prog_3_method_24_code 2 (some .int) :: TB) { frames := 5, cells := 0, slots := 0, locals := 104 } (gx (xM D h qb qt qa cI y) [.ref h, .int c]) (mQ (some (.int (kM c))) D (moZ h qb qt qa cI ((0, y.2))) (A4 h qb qt qa)) 0 0 (A4 h qb qt qa) := by
  refine mt_of (by decide) ?_
  intro p e s m args below meth cd S hr hk hin hv
  obtain ⟨rfl, hX⟩ := hv
  have hP : va_P D CL (moZ h qb qt qa cI y) s.heap := hX.1
  have hK := hX.2
  have hy1 := hy.1
  have hy2 := hy.2.1
  have hy3 := hy.2.2
  have hS : va_S (A4 h qb qt qa) s.heap s.heap [] := va_S.rf
  have hx := S.1
  have hb := S.2.1
  have hown := S.2.2.2.1
  have hts := S.2.2.2.2
  have hl := lv_entry ([.ref h, .int c]) (n := 2) (Nat.le_of_ble_eq_true rfl)
  rw [lg_entry_eq]
  generalize (lg_sl ([.ref h, .int c]) ++ List.replicate (2 - (lg_sl ([.ref h, .int c])).length) Slot.unset).toArray = ls at hl ⊢
  have hl : lv_has ls 2 [(0, .ref h), (1, .int c)] := hl
  refine lv_aload_n hx hb dM_kinds_0 rfl (lv_at hl 0 rfl) ?_
  refine lv_iconst (v := 0) hx hb dM_kinds_1 (by decide) ?_
  refine va_put (D := D) (ci := 1) (v := .int 0) (ty := .int) (C := "SignReaderModel") (T := T_M) (N := 9) hx hb hts i_M t_M t_M_ok n_M hown hK hP (moD hd) hS 0 rfl rfl 0 (by decide) (hts _ k391) (fun _ h9 => h9) rfl (by decide +kernel) rfl rfl (Nat.le_of_ble_eq_true rfl) dM_kinds_2 (fun H locs hP _ hS => ?_)
  have hP : va_P D CL (moW h qb qt qa cI (0) (nI y.2.1) (nI y.2.2.1) (y.2.2.2.1) (nI y.2.2.2.2.1) (y.2.2.2.2.2.1) (y.2.2.2.2.2.2.1) (y.2.2.2.2.2.2.2.1) (y.2.2.2.2.2.2.2.2)) H := hP
  have hP : va_P D CL (moZ h qb qt qa cI ((0, y.2))) _ := va_Pe (rfl : moW h qb qt qa cI (0) (nI y.2.1) (nI y.2.2.1) (y.2.2.2.1) (nI y.2.2.2.2.1) (y.2.2.2.2.2.1) (y.2.2.2.2.2.2.1) (y.2.2.2.2.2.2.2.1) (y.2.2.2.2.2.2.2.2) = moZ h qb qt qa cI ((0, y.2))) hP
  refine lv_iload_n hx hb dM_kinds_5 rfl (lv_at hl 1 rfl) ?_
  refine ro_S (As := [.int c]) (rest := []) (n := 1) S (cM_kindsOf l (c)) k499 k2 k498 (by decide +kernel) ⟨rfl, rfl⟩ k497 (by decide) preEq rfl rfl hl.1 (Nat.le_of_ble_eq_true rfl) ⟨Nat.le_refl _, Nat.le_refl _⟩ dM_kinds_6 ?_
  have hP : va_P D CL (moZ h qb qt qa cI ((0, y.2))) _ := va_Pe (congrArg (moZ h qb qt qa cI) (rfl : ((0, y.2) : MS) = (0, y.2))) hP
  exact mu_retI S hr hk (rfl) hP hS dM_kinds_9
def mcOk (y : MS) (i b : Int32) : Bool := sHas y.2.1 i && decide (0 ≤ b) && decide (b ≤ 255)
def yCh (y : MS) (i b : Int32) : MS := if mcOk y i b = true then (0, y.2.1, y.2.2.1, y.2.2.2.1, y.2.2.2.2.1, y.2.2.2.2.2.1, upd y.2.2.2.2.2.2.1 i.toNatClampNeg b, y.2.2.2.2.2.2.2.1, y.2.2.2.2.2.2.2.2) else (0, y.2)
theorem yCh_ok {y : MS} {i b : Int32} (hy : okY y) : okY (yCh y i b) := by unfold yCh; split <;> exact hy
set_option maxHeartbeats 4000000 in
set_option maxRecDepth 100000 in
theorem cM_change (l : Launch) (D : va_G) (h qb qt qa : Nat) (cI : ClassId) (y : MS) (i b : Int32) (hd : ap4 h qb qt qa) (hy : okY y) : Met l yM_change (Cond.code yM_change prog_3_method_8_code 4 (some .int) :: TB) { frames := 0, cells := 0, slots := 0, locals := 0 } (gx (xM D h qb qt qa cI y) [.ref h, .int i, .int b]) (mQ (some (.int (if mcOk y i b = true then y.2.2.2.2.2.2.1 i.toNatClampNeg else -1))) D (moZ h qb qt qa cI (yCh y i b)) (A4 h qb qt qa)) 0 0 (A4 h qb qt qa) := by
  refine mt_of (by decide) ?_
  intro p e s m args below meth cd S hr hk hin hv
  obtain ⟨rfl, hX⟩ := hv
  have hP : va_P D CL (moZ h qb qt qa cI y) s.heap := hX.1
  have hK := hX.2
  have hy1 := hy.1
  have hy2 := hy.2.1
  have hy3 := hy.2.2
  have hS : va_S (A4 h qb qt qa) s.heap s.heap [] := va_S.rf
  have hx := S.1
  have hb := S.2.1
  have hown := S.2.2.2.1
  have hts := S.2.2.2.2
  have hl := lv_entry ([.ref h, .int i, .int b]) (n := 4) (Nat.le_of_ble_eq_true rfl)
  rw [lg_entry_eq]
  generalize (lg_sl ([.ref h, .int i, .int b]) ++ List.replicate (4 - (lg_sl ([.ref h, .int i, .int b])).length) Slot.unset).toArray = ls at hl ⊢
  have hl : lv_has ls 4 [(0, .ref h), (1, .int i), (2, .int b)] := hl
  refine lv_aload_n hx hb dM_change_0 rfl (lv_at hl 0 rfl) ?_
  refine lv_iconst (v := 0) hx hb dM_change_1 (by decide) ?_
  refine va_put (D := D) (ci := 1) (v := .int 0) (ty := .int) (C := "SignReaderModel") (T := T_M) (N := 9) hx hb hts i_M t_M t_M_ok n_M hown hK hP (moD hd) hS 0 rfl rfl 0 (by decide) (hts _ k391) (fun _ h9 => h9) rfl (by decide +kernel) rfl rfl (Nat.le_of_ble_eq_true rfl) dM_change_2 (fun H locs hP _ hS => ?_)
  have hP : va_P D CL (moW h qb qt qa cI (0) (nI y.2.1) (nI y.2.2.1) (y.2.2.2.1) (nI y.2.2.2.2.1) (y.2.2.2.2.2.1) (y.2.2.2.2.2.2.1) (y.2.2.2.2.2.2.2.1) (y.2.2.2.2.2.2.2.2)) H := hP
  have hP : va_P D CL (moZ h qb qt qa cI ((0, y.2))) _ := va_Pe (rfl : moW h qb qt qa cI (0) (nI y.2.1) (nI y.2.2.1) (y.2.2.2.1) (nI y.2.2.2.2.1) (y.2.2.2.2.2.1) (y.2.2.2.2.2.2.1) (y.2.2.2.2.2.2.2.1) (y.2.2.2.2.2.2.2.2) = moZ h qb qt qa cI ((0, y.2))) hP
  refine lv_iload_n hx hb dM_change_5 rfl (lv_at hl 1 rfl) ?_
  refine lv_if_lt (tgt := 28) hx hb dM_change_6 (by decide) (fun c1 => ?_) (fun c1 => ?_)
  · skip
    replace c1 := Int32.not_le.mpr c1
    refine lv_iconst (v := (-1)) hx hb dM_change_28 (by decide) ?_
    have hP : va_P D CL (moZ h qb qt qa cI (yCh y i b)) _ := va_Pe (congrArg (moZ h qb qt qa cI) (by simp [yCh, mcOk, sHas, c1] : ((0, y.2) : MS) = yCh y i b)) hP
    exact mu_retI S hr hk (by simp [mcOk, sHas, c1]) hP hS dM_change_29
  · skip
    replace c1 := Int32.not_lt.mp c1
    refine lv_iload_n hx hb dM_change_9 rfl (lv_at hl 1 rfl) ?_
    refine lv_aload_n hx hb dM_change_10 rfl (lv_at hl 0 rfl) ?_
    refine va_get (D := D) (ci := 1) (v := .int (nI y.2.1)) (C := "SignReaderModel") (T := T_M) (N := 9) hx hb hts i_M hown hK hP 0 rfl rfl 2 (by decide) (hts _ k393) (fun _ h9 => h9) rfl dM_change_11 ?_
    refine lv_icmp_ge (tgt := 28) hx hb dM_change_14 (by decide) (fun c2 => ?_) (fun c2 => ?_)
    · skip
      refine lv_iconst (v := (-1)) hx hb dM_change_28 (by decide) ?_
      have hP : va_P D CL (moZ h qb qt qa cI (yCh y i b)) _ := va_Pe (congrArg (moZ h qb qt qa cI) (by simp [yCh, mcOk, sHas, c1, c2] : ((0, y.2) : MS) = yCh y i b)) hP
      exact mu_retI S hr hk (by simp [mcOk, sHas, c1, c2]) hP hS dM_change_29
    · skip
      refine lv_iload_n hx hb dM_change_17 rfl (lv_at hl 2 rfl) ?_
      refine lv_if_lt (tgt := 28) hx hb dM_change_18 (by decide) (fun c3 => ?_) (fun c3 => ?_)
      · skip
        replace c3 := Int32.not_le.mpr c3
        refine lv_iconst (v := (-1)) hx hb dM_change_28 (by decide) ?_
        have hP : va_P D CL (moZ h qb qt qa cI (yCh y i b)) _ := va_Pe (congrArg (moZ h qb qt qa cI) (by simp [yCh, mcOk, sHas, c1, c2, c3] : ((0, y.2) : MS) = yCh y i b)) hP
        exact mu_retI S hr hk (by simp [mcOk, sHas, c1, c2, c3]) hP hS dM_change_29
      · skip
        replace c3 := Int32.not_lt.mp c3
        refine lv_iload_n hx hb dM_change_21 rfl (lv_at hl 2 rfl) ?_
        refine lv_sipush (v := 255) hx hb dM_change_22 (by decide) ?_
        refine lv_icmp_le (tgt := 30) hx hb dM_change_25 (by decide) (fun c4 => ?_) (fun c4 => ?_)
        · skip
          refine lv_aload_n hx hb dM_change_30 rfl (lv_at hl 0 rfl) ?_
          refine va_get (D := D) (ci := 1) (v := .ref qb) (C := "SignReaderModel") (T := T_M) (N := 9) hx hb hts i_M hown hK hP 0 rfl rfl 1 (by decide) (hts _ k392) (fun _ h9 => h9) rfl dM_change_31 ?_
          refine lv_iload_n hx hb dM_change_34 rfl (lv_at hl 1 rfl) ?_
          refine va_iald hx hb hK hP 1 0 rfl rfl (sHas_in hy.1 (by simp [sHas, c1, c2])) dM_change_35 ?_
          refine lv_istore_n (lv' := [(3, .int ((y.2.2.2.2.2.2.1) (i).toNatClampNeg)), (0, .ref h), (1, .int i), (2, .int b)]) hx hb dM_change_36 rfl hl (by decide) rfl (fun ls hl => ?_)
          refine lv_aload_n hx hb dM_change_37 rfl (lv_at hl 1 rfl) ?_
          refine va_get (D := D) (ci := 1) (v := .ref qb) (C := "SignReaderModel") (T := T_M) (N := 9) hx hb hts i_M hown hK hP 0 rfl rfl 1 (by decide) (hts _ k392) (fun _ h9 => h9) rfl dM_change_38 ?_
          refine lv_iload_n hx hb dM_change_41 rfl (lv_at hl 2 rfl) ?_
          refine lv_iload_n hx hb dM_change_42 rfl (lv_at hl 3 rfl) ?_
          refine va_iast hx hb hK hP (moD hd) hS 1 0 rfl rfl (sHas_in hy.1 (by simp [sHas, c1, c2])) dM_change_43 (fun H locs hP _ hS => ?_)
          have hP : va_P D CL (moW h qb qt qa cI (0) (nI y.2.1) (nI y.2.2.1) (y.2.2.2.1) (nI y.2.2.2.2.1) (y.2.2.2.2.2.1) (upd (y.2.2.2.2.2.2.1) (i).toNatClampNeg (b)) (y.2.2.2.2.2.2.2.1) (y.2.2.2.2.2.2.2.2)) H := hP
          refine lv_iload_n hx hb dM_change_44 rfl (lv_at hl 0 rfl) ?_
          have hP : va_P D CL (moZ h qb qt qa cI (yCh y i b)) _ := va_Pe (by simp [yCh, mcOk, sHas, c1, c2, c3, c4] : moW h qb qt qa cI (0) (nI y.2.1) (nI y.2.2.1) (y.2.2.2.1) (nI y.2.2.2.2.1) (y.2.2.2.2.2.1) (upd (y.2.2.2.2.2.2.1) (i).toNatClampNeg (b)) (y.2.2.2.2.2.2.2.1) (y.2.2.2.2.2.2.2.2) = moZ h qb qt qa cI (yCh y i b)) hP
          exact mu_retI S hr hk (by simp [mcOk, sHas, c1, c2, c3, c4]) hP hS dM_change_45
        · skip
          refine lv_iconst (v := (-1)) hx hb dM_change_28 (by decide) ?_
          have hP : va_P D CL (moZ h qb qt qa cI (yCh y i b)) _ := va_Pe (congrArg (moZ h qb qt qa cI) (by simp [yCh, mcOk, sHas, c1, c2, c3, c4] : ((0, y.2) : MS) = yCh y i b)) hP
          exact mu_retI S hr hk (by simp [mcOk, sHas, c1, c2, c3, c4]) hP hS dM_change_29
def meOk (y : MS) (i : Int32) : Bool := decide (0 ≤ i) && decide (i ≤ nI y.2.1)
def yEnd (y : MS) (i : Int32) : MS := if meOk y i = true then (0, i.toNatClampNeg, y.2.2) else (1, y.2)
theorem yEnd_ok {y : MS} {i : Int32} (hy : okY y) : okY (yEnd y i) := by
  unfold yEnd
  split
  · next h =>
    simp only [meOk, Bool.and_eq_true, decide_eq_true_eq] at h
    have h2 := h.2
    rw [← nI_nat h.1] at h2
    obtain ⟨j, hj, rfl⟩ := nI_of (Int32.not_lt.mpr h.1)
    rw [nI_clamp hj] at *
    have := hy.1
    rw [nI_leI hj (by omega)] at h2
    exact ⟨by show j ≤ 4096; omega, hy.2⟩
  · exact hy
set_option maxHeartbeats 4000000 in
set_option maxRecDepth 100000 in
theorem cM_end (l : Launch) (D : va_G) (h qb qt qa : Nat) (cI : ClassId) (y : MS) (i : Int32) (hd : ap4 h qb qt qa) (hy : okY y) : Met l yM_end (Cond.code yM_end prog_3_method_6_code 3 (some .int) :: TB) { frames := 0, cells := 0, slots := 0, locals := 0 } (gx (xM D h qb qt qa cI y) [.ref h, .int i]) (mQ (some (.int (if meOk y i = true then nI y.2.1 else 0))) D (moZ h qb qt qa cI (yEnd y i)) (A4 h qb qt qa)) 0 0 (A4 h qb qt qa) := by
  refine mt_of (by decide) ?_
  intro p e s m args below meth cd S hr hk hin hv
  obtain ⟨rfl, hX⟩ := hv
  have hP : va_P D CL (moZ h qb qt qa cI y) s.heap := hX.1
  have hK := hX.2
  have hy1 := hy.1
  have hy2 := hy.2.1
  have hy3 := hy.2.2
  have hS : va_S (A4 h qb qt qa) s.heap s.heap [] := va_S.rf
  have hx := S.1
  have hb := S.2.1
  have hown := S.2.2.2.1
  have hts := S.2.2.2.2
  have hl := lv_entry ([.ref h, .int i]) (n := 3) (Nat.le_of_ble_eq_true rfl)
  rw [lg_entry_eq]
  generalize (lg_sl ([.ref h, .int i]) ++ List.replicate (3 - (lg_sl ([.ref h, .int i])).length) Slot.unset).toArray = ls at hl ⊢
  have hl : lv_has ls 3 [(0, .ref h), (1, .int i)] := hl
  refine lv_aload_n hx hb dM_end_0 rfl (lv_at hl 0 rfl) ?_
  refine lv_iload_n hx hb dM_end_1 rfl (lv_at hl 1 rfl) ?_
  refine lv_if_lt (tgt := 13) hx hb dM_end_2 (by decide) (fun c1 => ?_) (fun c1 => ?_)
  · skip
    replace c1 := Int32.not_le.mpr c1
    refine lv_iconst (v := 1) hx hb dM_end_13 (by decide) ?_
    refine lv_goto (tgt := 18) hx hb dM_end_14 (by decide) ?_
    refine va_put (D := D) (ci := 1) (v := .int 1) (ty := .int) (C := "SignReaderModel") (T := T_M) (N := 9) hx hb hts i_M t_M t_M_ok n_M hown hK hP (moD hd) hS 0 rfl rfl 0 (by decide) (hts _ k391) (fun _ h9 => h9) rfl (by decide +kernel) rfl rfl (Nat.le_of_ble_eq_true rfl) dM_end_18 (fun H locs hP _ hS => ?_)
    have hP : va_P D CL (moW h qb qt qa cI (1) (nI y.2.1) (nI y.2.2.1) (y.2.2.2.1) (nI y.2.2.2.2.1) (y.2.2.2.2.2.1) (y.2.2.2.2.2.2.1) (y.2.2.2.2.2.2.2.1) (y.2.2.2.2.2.2.2.2)) H := hP
    refine lv_aload_n hx hb dM_end_21 rfl (lv_at hl 0 rfl) ?_
    refine va_get (D := D) (ci := 1) (v := .int 1) (C := "SignReaderModel") (T := T_M) (N := 9) hx hb hts i_M hown hK hP 0 rfl rfl 0 (by decide) (hts _ k391) (fun _ h9 => h9) rfl dM_end_22 ?_
    refine lv_if_le (tgt := 30) hx hb dM_end_25 (by decide) (fun c2 => absurd c2 (by decide)) (fun c2 => ?_)
    refine lv_iconst (v := 0) hx hb dM_end_28 (by decide) ?_
    have hP : va_P D CL (moZ h qb qt qa cI (yEnd y i)) _ := va_Pe (by simp [yEnd, meOk, c1] : moW h qb qt qa cI (1) (nI y.2.1) (nI y.2.2.1) (y.2.2.2.1) (nI y.2.2.2.2.1) (y.2.2.2.2.2.1) (y.2.2.2.2.2.2.1) (y.2.2.2.2.2.2.2.1) (y.2.2.2.2.2.2.2.2) = moZ h qb qt qa cI (yEnd y i)) hP
    exact mu_retI S hr hk (by simp [meOk, c1]) hP hS dM_end_29
  · skip
    replace c1 := Int32.not_lt.mp c1
    refine lv_iload_n hx hb dM_end_5 rfl (lv_at hl 1 rfl) ?_
    refine lv_aload_n hx hb dM_end_6 rfl (lv_at hl 0 rfl) ?_
    refine va_get (D := D) (ci := 1) (v := .int (nI y.2.1)) (C := "SignReaderModel") (T := T_M) (N := 9) hx hb hts i_M hown hK hP 0 rfl rfl 2 (by decide) (hts _ k393) (fun _ h9 => h9) rfl dM_end_7 ?_
    refine lv_icmp_le (tgt := 17) hx hb dM_end_10 (by decide) (fun c3 => ?_) (fun c3 => ?_)
    · skip
      refine lv_iconst (v := 0) hx hb dM_end_17 (by decide) ?_
      refine va_put (D := D) (ci := 1) (v := .int 0) (ty := .int) (C := "SignReaderModel") (T := T_M) (N := 9) hx hb hts i_M t_M t_M_ok n_M hown hK hP (moD hd) hS 0 rfl rfl 0 (by decide) (hts _ k391) (fun _ h9 => h9) rfl (by decide +kernel) rfl rfl (Nat.le_of_ble_eq_true rfl) dM_end_18 (fun H locs hP _ hS => ?_)
      have hP : va_P D CL (moW h qb qt qa cI (0) (nI y.2.1) (nI y.2.2.1) (y.2.2.2.1) (nI y.2.2.2.2.1) (y.2.2.2.2.2.1) (y.2.2.2.2.2.2.1) (y.2.2.2.2.2.2.2.1) (y.2.2.2.2.2.2.2.2)) H := hP
      refine lv_aload_n hx hb dM_end_21 rfl (lv_at hl 0 rfl) ?_
      refine va_get (D := D) (ci := 1) (v := .int 0) (C := "SignReaderModel") (T := T_M) (N := 9) hx hb hts i_M hown hK hP 0 rfl rfl 0 (by decide) (hts _ k391) (fun _ h9 => h9) rfl dM_end_22 ?_
      refine lv_if_le (tgt := 30) hx hb dM_end_25 (by decide) (fun c4 => ?_) (fun c4 => absurd c4 (by decide))
      refine lv_aload_n hx hb dM_end_30 rfl (lv_at hl 0 rfl) ?_
      refine va_get (D := D) (ci := 1) (v := .int (nI y.2.1)) (C := "SignReaderModel") (T := T_M) (N := 9) hx hb hts i_M hown hK hP 0 rfl rfl 2 (by decide) (hts _ k393) (fun _ h9 => h9) rfl dM_end_31 ?_
      refine lv_istore_n (lv' := [(2, .int (nI y.2.1)), (0, .ref h), (1, .int i)]) hx hb dM_end_34 rfl hl (by decide) rfl (fun ls hl => ?_)
      refine lv_aload_n hx hb dM_end_35 rfl (lv_at hl 1 rfl) ?_
      refine lv_iload_n hx hb dM_end_36 rfl (lv_at hl 2 rfl) ?_
      refine va_put (D := D) (ci := 1) (v := .int i) (ty := .int) (C := "SignReaderModel") (T := T_M) (N := 9) hx hb hts i_M t_M t_M_ok n_M hown hK hP (moD hd) hS 0 rfl rfl 2 (by decide) (hts _ k393) (fun _ h9 => h9) rfl (by decide +kernel) rfl rfl (Nat.le_of_ble_eq_true rfl) dM_end_37 (fun H locs hP _ hS => ?_)
      have hP : va_P D CL (moW h qb qt qa cI (0) (i) (nI y.2.2.1) (y.2.2.2.1) (nI y.2.2.2.2.1) (y.2.2.2.2.2.1) (y.2.2.2.2.2.2.1) (y.2.2.2.2.2.2.2.1) (y.2.2.2.2.2.2.2.2)) H := hP
      refine lv_iload_n hx hb dM_end_40 rfl (lv_at hl 0 rfl) ?_
      have hP : va_P D CL (moZ h qb qt qa cI (yEnd y i)) _ := va_Pe (by simp [yEnd, meOk, nI_nat, c1, c3] : moW h qb qt qa cI (0) (i) (nI y.2.2.1) (y.2.2.2.1) (nI y.2.2.2.2.1) (y.2.2.2.2.2.1) (y.2.2.2.2.2.2.1) (y.2.2.2.2.2.2.2.1) (y.2.2.2.2.2.2.2.2) = moZ h qb qt qa cI (yEnd y i)) hP
      exact mu_retI S hr hk (by simp [meOk, c1, c3]) hP hS dM_end_41
    · skip
      refine lv_iconst (v := 1) hx hb dM_end_13 (by decide) ?_
      refine lv_goto (tgt := 18) hx hb dM_end_14 (by decide) ?_
      refine va_put (D := D) (ci := 1) (v := .int 1) (ty := .int) (C := "SignReaderModel") (T := T_M) (N := 9) hx hb hts i_M t_M t_M_ok n_M hown hK hP (moD hd) hS 0 rfl rfl 0 (by decide) (hts _ k391) (fun _ h9 => h9) rfl (by decide +kernel) rfl rfl (Nat.le_of_ble_eq_true rfl) dM_end_18 (fun H locs hP _ hS => ?_)
      have hP : va_P D CL (moW h qb qt qa cI (1) (nI y.2.1) (nI y.2.2.1) (y.2.2.2.1) (nI y.2.2.2.2.1) (y.2.2.2.2.2.1) (y.2.2.2.2.2.2.1) (y.2.2.2.2.2.2.2.1) (y.2.2.2.2.2.2.2.2)) H := hP
      refine lv_aload_n hx hb dM_end_21 rfl (lv_at hl 0 rfl) ?_
      refine va_get (D := D) (ci := 1) (v := .int 1) (C := "SignReaderModel") (T := T_M) (N := 9) hx hb hts i_M hown hK hP 0 rfl rfl 0 (by decide) (hts _ k391) (fun _ h9 => h9) rfl dM_end_22 ?_
      refine lv_if_le (tgt := 30) hx hb dM_end_25 (by decide) (fun c5 => absurd c5 (by decide)) (fun c5 => ?_)
      refine lv_iconst (v := 0) hx hb dM_end_28 (by decide) ?_
      have hP : va_P D CL (moZ h qb qt qa cI (yEnd y i)) _ := va_Pe (by simp [yEnd, meOk, c1, c3] : moW h qb qt qa cI (1) (nI y.2.1) (nI y.2.2.1) (y.2.2.2.1) (nI y.2.2.2.2.1) (y.2.2.2.2.2.1) (y.2.2.2.2.2.2.1) (y.2.2.2.2.2.2.2.1) (y.2.2.2.2.2.2.2.2) = moZ h qb qt qa cI (yEnd y i)) hP
      exact mu_retI S hr hk (by simp [meOk, c1, c3]) hP hS dM_end_29
def maOk (y : MS) (c : Int32) : Bool := sChar c && !decide (c = 13) && decide (y.2.2.1 < 4096)
def yAdd (y : MS) (c : Int32) : MS := if maOk y c = true then (0, y.2.1, y.2.2.1 + 1, y.2.2.2.1, y.2.2.2.2.1, y.2.2.2.2.2.1, y.2.2.2.2.2.2.1, upd y.2.2.2.2.2.2.2.1 y.2.2.1 c, y.2.2.2.2.2.2.2.2) else (0, y.2)
theorem yAdd_ok {y : MS} {c : Int32} (hy : okY y) : okY (yAdd y c) := by
  unfold yAdd
  split
  · next h =>
    simp only [maOk, Bool.and_eq_true, decide_eq_true_eq] at h
    exact ⟨hy.1, by show y.2.2.1 + 1 ≤ 4096; omega, hy.2.2⟩
  · exact hy
set_option maxHeartbeats 4000000 in
set_option maxRecDepth 100000 in
theorem cM_add (l : Launch) (D : va_G) (h qb qt qa : Nat) (cI : ClassId) (y : MS) (c : Int32) (hd : ap4 h qb qt qa) (hy : okY y) : Met l yM_add (Cond.code yM_add prog_3_method_30_code 2 (some .int) :: TB) { frames := 2, cells := 0, slots := 0, locals := 42 } (gx (xM D h qb qt qa cI y) [.ref h, .int c]) (mQ (some (.int (if maOk y c = true then nI (y.2.2.1 + 1) else -1))) D (moZ h qb qt qa cI (yAdd y c)) (A4 h qb qt qa)) 0 0 (A4 h qb qt qa) := by
  refine mt_of (by decide) ?_
  intro p e s m args below meth cd S hr hk hin hv
  obtain ⟨rfl, hX⟩ := hv
  have hP : va_P D CL (moZ h qb qt qa cI y) s.heap := hX.1
  have hK := hX.2
  have hy1 := hy.1
  have hy2 := hy.2.1
  have hy3 := hy.2.2
  have hS : va_S (A4 h qb qt qa) s.heap s.heap [] := va_S.rf
  have hx := S.1
  have hb := S.2.1
  have hown := S.2.2.2.1
  have hts := S.2.2.2.2
  have hl := lv_entry ([.ref h, .int c]) (n := 2) (Nat.le_of_ble_eq_true rfl)
  rw [lg_entry_eq]
  generalize (lg_sl ([.ref h, .int c]) ++ List.replicate (2 - (lg_sl ([.ref h, .int c])).length) Slot.unset).toArray = ls at hl ⊢
  have hl : lv_has ls 2 [(0, .ref h), (1, .int c)] := hl
  refine lv_aload_n hx hb dM_add_0 rfl (lv_at hl 0 rfl) ?_
  refine lv_iconst (v := 0) hx hb dM_add_1 (by decide) ?_
  refine va_put (D := D) (ci := 1) (v := .int 0) (ty := .int) (C := "SignReaderModel") (T := T_M) (N := 9) hx hb hts i_M t_M t_M_ok n_M hown hK hP (moD hd) hS 0 rfl rfl 0 (by decide) (hts _ k391) (fun _ h9 => h9) rfl (by decide +kernel) rfl rfl (Nat.le_of_ble_eq_true rfl) dM_add_2 (fun H locs hP _ hS => ?_)
  have hP : va_P D CL (moW h qb qt qa cI (0) (nI y.2.1) (nI y.2.2.1) (y.2.2.2.1) (nI y.2.2.2.2.1) (y.2.2.2.2.2.1) (y.2.2.2.2.2.2.1) (y.2.2.2.2.2.2.2.1) (y.2.2.2.2.2.2.2.2)) H := hP
  have hP : va_P D CL (moZ h qb qt qa cI ((0, y.2))) _ := va_Pe (rfl : moW h qb qt qa cI (0) (nI y.2.1) (nI y.2.2.1) (y.2.2.2.1) (nI y.2.2.2.2.1) (y.2.2.2.2.2.1) (y.2.2.2.2.2.2.1) (y.2.2.2.2.2.2.2.1) (y.2.2.2.2.2.2.2.2) = moZ h qb qt qa cI ((0, y.2))) hP
  refine lv_iload_n hx hb dM_add_5 rfl (lv_at hl 1 rfl) ?_
  refine ro_S (As := [.int c]) (rest := []) (n := 1) S (cM_isCharacter l (c)) k476 k2 k475 (by decide +kernel) ⟨rfl, rfl⟩ k474 (by decide) preEq rfl rfl hl.1 (Nat.le_of_ble_eq_true rfl) ⟨Nat.le_refl _, Nat.le_refl _⟩ dM_add_6 ?_
  refine lv_if_eq (tgt := 28) hx hb dM_add_9 (by decide) (fun c1 => ?_) (fun c1 => ?_)
  · skip
    replace c1 := bI_f c1
    refine lv_iconst (v := (-1)) hx hb dM_add_28 (by decide) ?_
    have hP : va_P D CL (moZ h qb qt qa cI (yAdd y c)) _ := va_Pe (congrArg (moZ h qb qt qa cI) (by simp [yAdd, maOk, nI_1, nI_clamp (show y.2.2.1 < 2 ^ 31 by omega), c1] : ((0, y.2) : MS) = yAdd y c)) hP
    exact mu_retI S hr hk (by simp [maOk, nI_1, c1]) hP hS dM_add_29
  · skip
    replace c1 := bI_t c1
    refine lv_iload_n hx hb dM_add_12 rfl (lv_at hl 1 rfl) ?_
    refine lv_bipush (v := 13) hx hb dM_add_13 (by decide) ?_
    refine lv_icmp_eq (tgt := 28) hx hb dM_add_15 (by decide) (fun c2 => ?_) (fun c2 => ?_)
    · skip
      refine lv_iconst (v := (-1)) hx hb dM_add_28 (by decide) ?_
      have hP : va_P D CL (moZ h qb qt qa cI (yAdd y c)) _ := va_Pe (congrArg (moZ h qb qt qa cI) (by simp [yAdd, maOk, nI_1, nI_clamp (show y.2.2.1 < 2 ^ 31 by omega), c1, c2] : ((0, y.2) : MS) = yAdd y c)) hP
      exact mu_retI S hr hk (by simp [maOk, nI_1, c1, c2]) hP hS dM_add_29
    · skip
      refine lv_aload_n hx hb dM_add_18 rfl (lv_at hl 0 rfl) ?_
      refine va_get (D := D) (ci := 1) (v := .int (nI y.2.2.1)) (C := "SignReaderModel") (T := T_M) (N := 9) hx hb hts i_M hown hK hP 0 rfl rfl 4 (by decide) (hts _ k395) (fun _ h9 => h9) rfl dM_add_19 ?_
      refine lv_sipush (v := 4096) hx hb dM_add_22 (by decide) ?_
      refine lv_icmp_ne (tgt := 30) hx hb dM_add_25 (by decide) (fun c3 => ?_) (fun c3 => ?_)
      · skip
        have hl9 : y.2.2.1 < 4096 := by rcases Nat.lt_or_ge y.2.2.1 4096 with q | q; exact q; exact absurd (show nI y.2.2.1 = 4096 by rw [show y.2.2.1 = 4096 by omega]; rfl) c3
        refine lv_aload_n hx hb dM_add_30 rfl (lv_at hl 0 rfl) ?_
        refine va_get (D := D) (ci := 1) (v := .ref qt) (C := "SignReaderModel") (T := T_M) (N := 9) hx hb hts i_M hown hK hP 0 rfl rfl 3 (by decide) (hts _ k394) (fun _ h9 => h9) rfl dM_add_31 ?_
        refine lv_aload_n hx hb dM_add_34 rfl (lv_at hl 0 rfl) ?_
        refine va_get (D := D) (ci := 1) (v := .int (nI y.2.2.1)) (C := "SignReaderModel") (T := T_M) (N := 9) hx hb hts i_M hown hK hP 0 rfl rfl 4 (by decide) (hts _ k395) (fun _ h9 => h9) rfl dM_add_35 ?_
        refine lv_iload_n hx hb dM_add_38 rfl (lv_at hl 1 rfl) ?_
        refine va_iast hx hb hK hP (moD hd) hS 2 0 rfl rfl (vp_in_nI (by omega) (by omega)) dM_add_39 (fun H locs hP _ hS => ?_)
        have hP : va_P D CL (moW h qb qt qa cI (0) (nI y.2.1) (nI y.2.2.1) (y.2.2.2.1) (nI y.2.2.2.2.1) (y.2.2.2.2.2.1) (y.2.2.2.2.2.2.1) (upd (y.2.2.2.2.2.2.2.1) ((nI y.2.2.1)).toNatClampNeg (c)) (y.2.2.2.2.2.2.2.2)) H := hP
        refine lv_aload_n hx hb dM_add_40 rfl (lv_at hl 0 rfl) ?_
        refine lv_aload_n hx hb dM_add_41 rfl (lv_at hl 0 rfl) ?_
        refine va_get (D := D) (ci := 1) (v := .int (nI y.2.2.1)) (C := "SignReaderModel") (T := T_M) (N := 9) hx hb hts i_M hown hK hP 0 rfl rfl 4 (by decide) (hts _ k395) (fun _ h9 => h9) rfl dM_add_42 ?_
        refine lv_iconst (v := 1) hx hb dM_add_45 (by decide) ?_
        refine lv_iadd hx hb dM_add_46 ?_
        refine va_put (D := D) (ci := 1) (v := .int ((nI y.2.2.1) + 1)) (ty := .int) (C := "SignReaderModel") (T := T_M) (N := 9) hx hb hts i_M t_M t_M_ok n_M hown hK hP (moD hd) hS 0 rfl rfl 4 (by decide) (hts _ k395) (fun _ h9 => h9) rfl (by decide +kernel) rfl rfl (Nat.le_of_ble_eq_true rfl) dM_add_47 (fun H locs hP _ hS => ?_)
        have hP : va_P D CL (moW h qb qt qa cI (0) (nI y.2.1) (((nI y.2.2.1) + 1)) (y.2.2.2.1) (nI y.2.2.2.2.1) (y.2.2.2.2.2.1) (y.2.2.2.2.2.2.1) (upd (y.2.2.2.2.2.2.2.1) ((nI y.2.2.1)).toNatClampNeg (c)) (y.2.2.2.2.2.2.2.2)) H := hP
        refine lv_aload_n hx hb dM_add_50 rfl (lv_at hl 0 rfl) ?_
        refine va_get (D := D) (ci := 1) (v := .int (((nI y.2.2.1) + 1))) (C := "SignReaderModel") (T := T_M) (N := 9) hx hb hts i_M hown hK hP 0 rfl rfl 4 (by decide) (hts _ k395) (fun _ h9 => h9) rfl dM_add_51 ?_
        have hP : va_P D CL (moZ h qb qt qa cI (yAdd y c)) _ := va_Pe (by simp [yAdd, maOk, nI_1, nI_clamp (show y.2.2.1 < 2 ^ 31 by omega), c1, c2, hl9] : moW h qb qt qa cI (0) (nI y.2.1) (((nI y.2.2.1) + 1)) (y.2.2.2.1) (nI y.2.2.2.2.1) (y.2.2.2.2.2.1) (y.2.2.2.2.2.2.1) (upd (y.2.2.2.2.2.2.2.1) ((nI y.2.2.1)).toNatClampNeg (c)) (y.2.2.2.2.2.2.2.2) = moZ h qb qt qa cI (yAdd y c)) hP
        exact mu_retI S hr hk (by simp [maOk, nI_1, c1, c2, hl9]) hP hS dM_add_54
      · skip
        have hl9 : ¬ y.2.2.1 < 4096 := fun q => by have e9 : nI y.2.2.1 = nI 4096 := c3; rw [nI_eq (by omega) (by omega)] at e9; omega
        refine lv_iconst (v := (-1)) hx hb dM_add_28 (by decide) ?_
        have hP : va_P D CL (moZ h qb qt qa cI (yAdd y c)) _ := va_Pe (congrArg (moZ h qb qt qa cI) (by simp [yAdd, maOk, nI_1, nI_clamp (show y.2.2.1 < 2 ^ 31 by omega), c1, c2, hl9] : ((0, y.2) : MS) = yAdd y c)) hP
        exact mu_retI S hr hk (by simp [maOk, nI_1, c1, c2, hl9]) hP hS dM_add_29
end
section
/-! the reference: run, marks, units, taking a number -/
theorem kSM : kS = kM := funext kinds_eq
def mRun (g : Nat → Int32) (tl : Nat) (i kd : Int32) : Int32 := if sHas tl i = true then nI (sEnd g kd (tl - i.toNatClampNeg) i.toNatClampNeg - i.toNatClampNeg) else 0
set_option maxHeartbeats 4000000 in
set_option maxRecDepth 100000 in
theorem cM_run (l : Launch) (D : va_G) (h qb qt qa : Nat) (cI : ClassId) (y : MS) (i kd : Int32) (hd : ap4 h qb qt qa) (hy : okY y) : Met l yM_run (Cond.code yM_run prog_3_method_25_code 4 (some .int) :: TB) { frames := 5, cells := 0, slots := 0, locals := 104 } (gx (xM D h qb qt qa cI y) [.ref h, .int i, .int kd]) (mQ (some (.int (mRun y.2.2.2.2.2.2.2.1 y.2.2.1 i kd))) D (moZ h qb qt qa cI ((0, y.2))) (A4 h qb qt qa)) 0 0 (A4 h qb qt qa) := by
  refine mt_of (by decide) ?_
  intro p e s m args below meth cd S hr hk hin hv
  obtain ⟨rfl, hX⟩ := hv
  have hP : va_P D CL (moZ h qb qt qa cI y) s.heap := hX.1
  have hK := hX.2
  have hy1 := hy.1
  have hy2 := hy.2.1
  have hy3 := hy.2.2
  have hS : va_S (A4 h qb qt qa) s.heap s.heap [] := va_S.rf
  have hx := S.1
  have hb := S.2.1
  have hown := S.2.2.2.1
  have hts := S.2.2.2.2
  have hl := lv_entry ([.ref h, .int i, .int kd]) (n := 4) (Nat.le_of_ble_eq_true rfl)
  rw [lg_entry_eq]
  generalize (lg_sl ([.ref h, .int i, .int kd]) ++ List.replicate (4 - (lg_sl ([.ref h, .int i, .int kd])).length) Slot.unset).toArray = ls at hl ⊢
  have hl : lv_has ls 4 [(0, .ref h), (1, .int i), (2, .int kd)] := hl
  refine lv_aload_n hx hb dM_run_0 rfl (lv_at hl 0 rfl) ?_
  refine lv_iconst (v := 0) hx hb dM_run_1 (by decide) ?_
  refine va_put (D := D) (ci := 1) (v := .int 0) (ty := .int) (C := "SignReaderModel") (T := T_M) (N := 9) hx hb hts i_M t_M t_M_ok n_M hown hK hP (moD hd) hS 0 rfl rfl 0 (by decide) (hts _ k391) (fun _ h9 => h9) rfl (by decide +kernel) rfl rfl (Nat.le_of_ble_eq_true rfl) dM_run_2 (fun H locs hP _ hS => ?_)
  have hP : va_P D CL (moW h qb qt qa cI (0) (nI y.2.1) (nI y.2.2.1) (y.2.2.2.1) (nI y.2.2.2.2.1) (y.2.2.2.2.2.1) (y.2.2.2.2.2.2.1) (y.2.2.2.2.2.2.2.1) (y.2.2.2.2.2.2.2.2)) H := hP
  have hP : va_P D CL (moZ h qb qt qa cI ((0, y.2))) _ := va_Pe (rfl : moW h qb qt qa cI (0) (nI y.2.1) (nI y.2.2.1) (y.2.2.2.1) (nI y.2.2.2.2.1) (y.2.2.2.2.2.1) (y.2.2.2.2.2.2.1) (y.2.2.2.2.2.2.2.1) (y.2.2.2.2.2.2.2.2) = moZ h qb qt qa cI ((0, y.2))) hP
  refine lv_iconst (v := 0) hx hb dM_run_5 (by decide) ?_
  refine lv_istore_n (lv' := [(3, .int 0), (0, .ref h), (1, .int i), (2, .int kd)]) hx hb dM_run_6 rfl hl (by decide) rfl (fun ls hl => ?_)
  refine lv_iload_n hx hb dM_run_7 rfl (lv_at hl 2 rfl) ?_
  refine lv_if_lt (tgt := 52) hx hb dM_run_8 (by decide) (fun c1 => ?_) (fun c1 => ?_)
  · skip
    replace c1 := Int32.not_le.mpr c1
    refine lv_iload_n hx hb dM_run_52 rfl (lv_at hl 0 rfl) ?_
    have hP : va_P D CL (moZ h qb qt qa cI ((0, y.2))) _ := va_Pe (congrArg (moZ h qb qt qa cI) (rfl : ((0, y.2) : MS) = (0, y.2))) hP
    exact mu_retI S hr hk (by simp [mRun, sHas, c1]) hP hS dM_run_53
  · skip
    replace c1 := Int32.not_lt.mp c1
    refine lv_iload_n hx hb dM_run_11 rfl (lv_at hl 2 rfl) ?_
    refine lv_aload_n hx hb dM_run_12 rfl (lv_at hl 1 rfl) ?_
    refine va_get (D := D) (ci := 1) (v := .int (nI y.2.2.1)) (C := "SignReaderModel") (T := T_M) (N := 9) hx hb hts i_M hown hK hP 0 rfl rfl 4 (by decide) (hts _ k395) (fun _ h9 => h9) rfl dM_run_13 ?_
    refine lv_icmp_ge (tgt := 52) hx hb dM_run_16 (by decide) (fun c2 => ?_) (fun c2 => ?_)
    · skip
      refine lv_iload_n hx hb dM_run_52 rfl (lv_at hl 0 rfl) ?_
      have hP : va_P D CL (moZ h qb qt qa cI ((0, y.2))) _ := va_Pe (congrArg (moZ h qb qt qa cI) (rfl : ((0, y.2) : MS) = (0, y.2))) hP
      exact mu_retI S hr hk (by simp [mRun, sHas, c1, c2]) hP hS dM_run_53
    · skip
      have hs9 : sHas y.2.2.1 i = true := by simp [sHas, c1, c2]
      obtain ⟨i0, hi0, hi9⟩ := (sHas_iff (by omega)).mp hs9
      have hi8 : i.toNatClampNeg = i0 := by rw [hi9]; exact nI_clamp (by omega)
      have J19 : ∀ (fu : Nat) (x : Int32) (j : Nat), x = nI j → i0 + j ≤ y.2.2.1 → y.2.2.1 < i0 + j + fu → sEnd y.2.2.2.2.2.2.2.1 kd (y.2.2.1 - i0) i0 = sEnd y.2.2.2.2.2.2.2.1 kd (y.2.2.1 - (i0 + j)) (i0 + j) → ∀ ls : Array Slot, lv_has ls 4 [(0, .ref h), (1, .int i), (2, .int kd), (3, .int x)] → W p l e { frames := 5, cells := 0, slots := 0, locals := 104 } s m [.ref h, .int i, .int kd].toArray below meth cd H locs 0 0 (MQ below (mQ (some (.int (mRun y.2.2.2.2.2.2.2.1 y.2.2.1 i kd))) D (moZ h qb qt qa cI ((0, y.2))) (A4 h qb qt qa)) [.ref h, .int i, .int kd].toArray s 0 0 (A4 h qb qt qa)) (F0 m 19 ls []) := by
        intro fu
        induction fu with
        | zero =>
          intro x j hx9 hk9 hf9 hR ls hl
          exact absurd hf9 (by omega)
        | succ fu ih =>
          intro x j hx9 hk9 hf9 hR ls hl
          subst hx9
          refine lv_iload_n hx hb dM_run_19 rfl (lv_at hl 1 rfl) ?_
          refine lv_iload_n hx hb dM_run_20 rfl (lv_at hl 3 rfl) ?_
          refine lv_iadd hx hb dM_run_21 ?_
          refine lv_aload_n hx hb dM_run_22 rfl (lv_at hl 0 rfl) ?_
          refine va_get (D := D) (ci := 1) (v := .int (nI y.2.2.1)) (C := "SignReaderModel") (T := T_M) (N := 9) hx hb hts i_M hown hK hP 0 rfl rfl 4 (by decide) (hts _ k395) (fun _ h9 => h9) rfl dM_run_23 ?_
          refine lv_icmp_ge (tgt := 52) hx hb dM_run_26 (by decide) (fun c3 => ?_) (fun c3 => ?_)
          · skip
            rw [hi9, nI_add, nI_leI (by omega) (by omega)] at c3
            rw [show y.2.2.1 - (i0 + j) = 0 by omega] at hR
            refine lv_iload_n hx hb dM_run_52 rfl (lv_at hl 3 rfl) ?_
            have hP : va_P D CL (moZ h qb qt qa cI ((0, y.2))) _ := va_Pe (congrArg (moZ h qb qt qa cI) (rfl : ((0, y.2) : MS) = (0, y.2))) hP
            exact mu_retI S hr hk (by rw [mRun, if_pos hs9, hi8, hR]; show _ = nI (i0 + j - i0); rw [Nat.add_sub_cancel_left]) hP hS dM_run_53
          · skip
            rw [hi9, nI_add, nI_leI (by omega) (by omega)] at c3
            rw [show y.2.2.1 - (i0 + j) = (y.2.2.1 - (i0 + j) - 1) + 1 by omega] at hR
            simp only [sEnd, kSM] at hR
            refine lv_aload_n hx hb dM_run_29 rfl (lv_at hl 0 rfl) ?_
            refine va_get (D := D) (ci := 1) (v := .ref qt) (C := "SignReaderModel") (T := T_M) (N := 9) hx hb hts i_M hown hK hP 0 rfl rfl 3 (by decide) (hts _ k394) (fun _ h9 => h9) rfl dM_run_30 ?_
            refine lv_iload_n hx hb dM_run_33 rfl (lv_at hl 1 rfl) ?_
            refine lv_iload_n hx hb dM_run_34 rfl (lv_at hl 3 rfl) ?_
            refine lv_iadd hx hb dM_run_35 ?_
            refine va_iald hx hb hK hP 2 0 rfl rfl (by rw [hi9, nI_add]; exact vp_in_nI (by omega) (by omega)) dM_run_36 ?_
            rw [show (i + nI j).toNatClampNeg = i0 + j by rw [hi9, nI_add]; exact nI_clamp (by omega)]
            refine ro_S (As := [.int ((y.2.2.2.2.2.2.2.1) (i0 + j))]) (rest := []) (n := 1) S (cM_kindsOf l (((y.2.2.2.2.2.2.2.1) (i0 + j)))) k499 k2 k498 (by decide +kernel) ⟨rfl, rfl⟩ k497 (by decide) preEq rfl rfl hl.1 (Nat.le_of_ble_eq_true rfl) ⟨Nat.le_refl _, Nat.le_refl _⟩ dM_run_37 ?_
            refine lv_iload_n hx hb dM_run_40 rfl (lv_at hl 2 rfl) ?_
            refine lv_iand hx hb dM_run_41 ?_
            refine lv_if_eq (tgt := 52) hx hb dM_run_42 (by decide) (fun c4 => ?_) (fun c4 => ?_)
            · skip
              refine lv_iload_n hx hb dM_run_52 rfl (lv_at hl 3 rfl) ?_
              have hP : va_P D CL (moZ h qb qt qa cI ((0, y.2))) _ := va_Pe (congrArg (moZ h qb qt qa cI) (rfl : ((0, y.2) : MS) = (0, y.2))) hP
              exact mu_retI S hr hk (by rw [mRun, if_pos hs9, hi8, hR, if_pos c4, Nat.add_sub_cancel_left]) hP hS dM_run_53
            · skip
              refine lv_iload_n hx hb dM_run_45 rfl (lv_at hl 3 rfl) ?_
              refine lv_iconst (v := 1) hx hb dM_run_46 (by decide) ?_
              refine lv_iadd hx hb dM_run_47 ?_
              refine lv_istore_n (lv' := [(3, .int ((nI j) + 1)), (0, .ref h), (1, .int i), (2, .int kd)]) hx hb dM_run_48 rfl hl (by decide) rfl (fun ls hl => ?_)
              refine lv_goto (tgt := 19) hx hb dM_run_49 (by decide) ?_
              exact ih (((nI j) + 1)) (j + 1) (nI_1 j) (by omega) (by omega) (by rw [hR, if_neg c4, show y.2.2.1 - (i0 + (j + 1)) = y.2.2.1 - (i0 + j) - 1 by omega]; rfl) ls (lv_sub hl [1, 2, 3, 0] rfl) 
      exact J19 (y.2.2.1 + 1) (0) (0) (rfl) (by omega) (by omega) (rfl) ls (lv_sub hl [1, 2, 3, 0] rfl) 
def mBeg (f : Nat → Int32) (n : Nat) (a b : Int32) : Bool := !decide (nI n ≤ 1) && decide (f 0 = a) && decide (f 1 = b)
set_option maxHeartbeats 4000000 in
set_option maxRecDepth 100000 in
theorem cM_begins (l : Launch) (D : va_G) (h qb qt qa : Nat) (cI : ClassId) (y : MS) (hy : okY y) (a b : Int32) : Met l yM_begins (Cond.code yM_begins prog_3_method_9_code 3 (some .boolean) :: TB) { frames := 0, cells := 0, slots := 0, locals := 0 } (gx (xM D h qb qt qa cI y) [.ref h, .int a, .int b]) (QcRead (bI (mBeg y.2.2.2.2.2.2.1 y.2.1 a b))) 0 0 (fun _ => False) := by
  refine mt_of (by decide) ?_
  intro p e s m args below meth cd S hr hk hin hv
  obtain ⟨rfl, hX⟩ := hv
  have hP := hX.1
  have hK := hX.2
  have hy1 := hy.1
  have hy2 := hy.2.1
  have hy3 := hy.2.2
  have hx := S.1
  have hb := S.2.1
  have hown := S.2.2.2.1
  have hts := S.2.2.2.2
  have hl := lv_entry ([.ref h, .int a, .int b]) (n := 3) (Nat.le_of_ble_eq_true rfl)
  rw [lg_entry_eq]
  generalize (lg_sl ([.ref h, .int a, .int b]) ++ List.replicate (3 - (lg_sl ([.ref h, .int a, .int b])).length) Slot.unset).toArray = ls at hl ⊢
  have hl : lv_has ls 3 [(0, .ref h), (1, .int a), (2, .int b)] := hl
  refine lv_aload_n hx hb dM_begins_0 rfl (lv_at hl 0 rfl) ?_
  refine va_get (D := D) (ci := 1) (v := .int (nI y.2.1)) (C := "SignReaderModel") (T := T_M) (N := 9) hx hb hts i_M hown hK hP 0 rfl rfl 2 (by decide) (hts _ k393) (fun _ h9 => h9) rfl dM_begins_1 ?_
  refine lv_iconst (v := 1) hx hb dM_begins_4 (by decide) ?_
  refine lv_icmp_le (tgt := 32) hx hb dM_begins_5 (by decide) (fun c1 => ?_) (fun c1 => ?_)
  · skip
    refine lv_iconst (v := 0) hx hb dM_begins_32 (by decide) ?_
    exact ro_retZ S hr hk (by rfl) (by simp [mBeg, bI, c1]) dM_begins_33
  · skip
    refine lv_aload_n hx hb dM_begins_8 rfl (lv_at hl 0 rfl) ?_
    refine va_get (D := D) (ci := 1) (v := .ref qb) (C := "SignReaderModel") (T := T_M) (N := 9) hx hb hts i_M hown hK hP 0 rfl rfl 1 (by decide) (hts _ k392) (fun _ h9 => h9) rfl dM_begins_9 ?_
    refine lv_iconst (v := 0) hx hb dM_begins_12 (by decide) ?_
    refine va_iald hx hb hK hP 1 0 rfl rfl (by unfold vp_in; decide) dM_begins_13 ?_
    rw [show (0 : Int32).toNatClampNeg = 0 from rfl]
    refine lv_iload_n hx hb dM_begins_14 rfl (lv_at hl 1 rfl) ?_
    refine lv_icmp_ne (tgt := 32) hx hb dM_begins_15 (by decide) (fun c2 => ?_) (fun c2 => ?_)
    · skip
      refine lv_iconst (v := 0) hx hb dM_begins_32 (by decide) ?_
      exact ro_retZ S hr hk (by rfl) (by simp [mBeg, bI, c1, c2]) dM_begins_33
    · skip
      refine lv_aload_n hx hb dM_begins_18 rfl (lv_at hl 0 rfl) ?_
      refine va_get (D := D) (ci := 1) (v := .ref qb) (C := "SignReaderModel") (T := T_M) (N := 9) hx hb hts i_M hown hK hP 0 rfl rfl 1 (by decide) (hts _ k392) (fun _ h9 => h9) rfl dM_begins_19 ?_
      refine lv_iconst (v := 1) hx hb dM_begins_22 (by decide) ?_
      refine va_iald hx hb hK hP 1 0 rfl rfl (by unfold vp_in; decide) dM_begins_23 ?_
      rw [show (1 : Int32).toNatClampNeg = 1 from rfl]
      refine lv_iload_n hx hb dM_begins_24 rfl (lv_at hl 2 rfl) ?_
      refine lv_icmp_ne (tgt := 32) hx hb dM_begins_25 (by decide) (fun c3 => ?_) (fun c3 => ?_)
      · skip
        refine lv_iconst (v := 0) hx hb dM_begins_32 (by decide) ?_
        exact ro_retZ S hr hk (by rfl) (by simp [mBeg, bI, c1, c2, c3]) dM_begins_33
      · skip
        refine lv_iconst (v := 1) hx hb dM_begins_28 (by decide) ?_
        refine lv_goto (tgt := 33) hx hb dM_begins_29 (by decide) ?_
        exact ro_retZ S hr hk (by rfl) (by simp [mBeg, bI, c1, c2, c3]) dM_begins_33
def mWay (f : Nat → Int32) (n : Nat) : Int32 := if mBeg f n 254 255 = true then 1 else if mBeg f n 255 254 = true then 2 else if mBeg f n 239 187 = true then (if nI n ≤ 2 then 0 else if f 2 = 191 then 3 else 0) else 0
set_option maxHeartbeats 4000000 in
set_option maxRecDepth 100000 in
theorem cM_wayOfBytes (l : Launch) (D : va_G) (h qb qt qa : Nat) (cI : ClassId) (y : MS) (hy : okY y) : Met l yM_wayOfBytes (Cond.code yM_wayOfBytes prog_3_method_10_code 1 (some .int) :: TB) { frames := 1, cells := 0, slots := 0, locals := 22 } (gx (xM D h qb qt qa cI y) [.ref h]) (QcRead (mWay y.2.2.2.2.2.2.1 y.2.1)) 0 0 (fun _ => False) := by
  refine mt_of (by decide) ?_
  intro p e s m args below meth cd S hr hk hin hv
  obtain ⟨rfl, hX⟩ := hv
  have hP := hX.1
  have hK := hX.2
  have hy1 := hy.1
  have hy2 := hy.2.1
  have hy3 := hy.2.2
  have hx := S.1
  have hb := S.2.1
  have hown := S.2.2.2.1
  have hts := S.2.2.2.2
  have hl := lv_entry ([.ref h]) (n := 1) (Nat.le_of_ble_eq_true rfl)
  rw [lg_entry_eq]
  generalize (lg_sl ([.ref h]) ++ List.replicate (1 - (lg_sl ([.ref h])).length) Slot.unset).toArray = ls at hl ⊢
  have hl : lv_has ls 1 [(0, .ref h)] := hl
  refine lv_aload_n hx hb dM_wayOfBytes_0 rfl (lv_at hl 0 rfl) ?_
  refine lv_sipush (v := 254) hx hb dM_wayOfBytes_1 (by decide) ?_
  refine lv_sipush (v := 255) hx hb dM_wayOfBytes_4 (by decide) ?_
  refine ro_V (r := (bI (mBeg y.2.2.2.2.2.2.1 y.2.1 254 255))) (As := [.int 254, .int 255]) (rest := []) (n := 2) (C := "SignReaderModel") S (cM_begins l D h qb qt qa cI y hy (254) (255)) k450 k2 k449 ks19 (by decide +kernel) ⟨rfl, rfl⟩ k447 (by decide) (xM_V hX) rfl rfl hl.1 (Nat.le_of_ble_eq_true rfl) ⟨Nat.le_refl _, Nat.le_refl _⟩ dM_wayOfBytes_7 ?_
  refine lv_if_eq (tgt := 17) hx hb dM_wayOfBytes_10 (by decide) (fun c1 => ?_) (fun c1 => ?_)
  · skip
    replace c1 := bI_f c1
    refine lv_aload_n hx hb dM_wayOfBytes_17 rfl (lv_at hl 0 rfl) ?_
    refine lv_sipush (v := 255) hx hb dM_wayOfBytes_18 (by decide) ?_
    refine lv_sipush (v := 254) hx hb dM_wayOfBytes_21 (by decide) ?_
    refine ro_V (r := (bI (mBeg y.2.2.2.2.2.2.1 y.2.1 255 254))) (As := [.int 255, .int 254]) (rest := []) (n := 2) (C := "SignReaderModel") S (cM_begins l D h qb qt qa cI y hy (255) (254)) k450 k2 k449 ks19 (by decide +kernel) ⟨rfl, rfl⟩ k447 (by decide) (xM_V hX) rfl rfl hl.1 (Nat.le_of_ble_eq_true rfl) ⟨Nat.le_refl _, Nat.le_refl _⟩ dM_wayOfBytes_24 ?_
    refine lv_if_eq (tgt := 34) hx hb dM_wayOfBytes_27 (by decide) (fun c2 => ?_) (fun c2 => ?_)
    · skip
      replace c2 := bI_f c2
      refine lv_aload_n hx hb dM_wayOfBytes_34 rfl (lv_at hl 0 rfl) ?_
      refine lv_sipush (v := 239) hx hb dM_wayOfBytes_35 (by decide) ?_
      refine lv_sipush (v := 187) hx hb dM_wayOfBytes_38 (by decide) ?_
      refine ro_V (r := (bI (mBeg y.2.2.2.2.2.2.1 y.2.1 239 187))) (As := [.int 239, .int 187]) (rest := []) (n := 2) (C := "SignReaderModel") S (cM_begins l D h qb qt qa cI y hy (239) (187)) k450 k2 k449 ks19 (by decide +kernel) ⟨rfl, rfl⟩ k447 (by decide) (xM_V hX) rfl rfl hl.1 (Nat.le_of_ble_eq_true rfl) ⟨Nat.le_refl _, Nat.le_refl _⟩ dM_wayOfBytes_41 ?_
      refine lv_if_eq (tgt := 71) hx hb dM_wayOfBytes_44 (by decide) (fun c3 => ?_) (fun c3 => ?_)
      · skip
        replace c3 := bI_f c3
        refine lv_iconst (v := 0) hx hb dM_wayOfBytes_71 (by decide) ?_
        exact ro_ret S hr hk (by simp [mWay, c1, c2, c3]) dM_wayOfBytes_72
      · skip
        replace c3 := bI_t c3
        refine lv_aload_n hx hb dM_wayOfBytes_47 rfl (lv_at hl 0 rfl) ?_
        refine va_get (D := D) (ci := 1) (v := .int (nI y.2.1)) (C := "SignReaderModel") (T := T_M) (N := 9) hx hb hts i_M hown hK hP 0 rfl rfl 2 (by decide) (hts _ k393) (fun _ h9 => h9) rfl dM_wayOfBytes_48 ?_
        refine lv_iconst (v := 2) hx hb dM_wayOfBytes_51 (by decide) ?_
        refine lv_icmp_le (tgt := 71) hx hb dM_wayOfBytes_52 (by decide) (fun c4 => ?_) (fun c4 => ?_)
        · skip
          refine lv_iconst (v := 0) hx hb dM_wayOfBytes_71 (by decide) ?_
          exact ro_ret S hr hk (by simp [mWay, c1, c2, c3, c4]) dM_wayOfBytes_72
        · skip
          refine lv_aload_n hx hb dM_wayOfBytes_55 rfl (lv_at hl 0 rfl) ?_
          refine va_get (D := D) (ci := 1) (v := .ref qb) (C := "SignReaderModel") (T := T_M) (N := 9) hx hb hts i_M hown hK hP 0 rfl rfl 1 (by decide) (hts _ k392) (fun _ h9 => h9) rfl dM_wayOfBytes_56 ?_
          refine lv_iconst (v := 2) hx hb dM_wayOfBytes_59 (by decide) ?_
          refine va_iald hx hb hK hP 1 0 rfl rfl (by unfold vp_in; decide) dM_wayOfBytes_60 ?_
          rw [show (2 : Int32).toNatClampNeg = 2 from rfl]
          refine lv_sipush (v := 191) hx hb dM_wayOfBytes_61 (by decide) ?_
          refine lv_icmp_ne (tgt := 71) hx hb dM_wayOfBytes_64 (by decide) (fun c5 => ?_) (fun c5 => ?_)
          · skip
            refine lv_iconst (v := 0) hx hb dM_wayOfBytes_71 (by decide) ?_
            exact ro_ret S hr hk (by simp [mWay, c1, c2, c3, c4, c5]) dM_wayOfBytes_72
          · skip
            refine lv_iconst (v := 3) hx hb dM_wayOfBytes_67 (by decide) ?_
            refine lv_goto (tgt := 72) hx hb dM_wayOfBytes_68 (by decide) ?_
            exact ro_ret S hr hk (by simp [mWay, c1, c2, c3, c4, c5]) dM_wayOfBytes_72
    · skip
      replace c2 := bI_t c2
      refine lv_iconst (v := 2) hx hb dM_wayOfBytes_30 (by decide) ?_
      refine lv_goto (tgt := 72) hx hb dM_wayOfBytes_31 (by decide) ?_
      exact ro_ret S hr hk (by simp [mWay, c1, c2]) dM_wayOfBytes_72
  · skip
    replace c1 := bI_t c1
    refine lv_iconst (v := 1) hx hb dM_wayOfBytes_13 (by decide) ?_
    refine lv_goto (tgt := 72) hx hb dM_wayOfBytes_14 (by decide) ?_
    exact ro_ret S hr hk (by simp [mWay, c1]) dM_wayOfBytes_72
def mUnit (f : Nat → Int32) (n k : Nat) (hi : Int32) : Int32 := if n ≤ k + 1 then -1 else if hi = 0 then 256 * f (k + 1) + f k else 256 * f k + f (k + 1)
set_option maxHeartbeats 4000000 in
set_option maxRecDepth 100000 in
theorem cM_unit (l : Launch) (D : va_G) (h qb qt qa : Nat) (cI : ClassId) (y : MS) (hy : okY y) (k : Nat) (hi : Int32) (hk9 : k ≤ 5000) : Met l yM_unit (Cond.code yM_unit prog_3_method_11_code 3 (some .int) :: TB) { frames := 0, cells := 0, slots := 0, locals := 0 } (gx (xM D h qb qt qa cI y) [.ref h, .int (nI k), .int hi]) (QcRead (mUnit y.2.2.2.2.2.2.1 y.2.1 k hi)) 0 0 (fun _ => False) := by
  refine mt_of (by decide) ?_
  intro p e s m args below meth cd S hr hk hin hv
  obtain ⟨rfl, hX⟩ := hv
  have hP := hX.1
  have hK := hX.2
  have hy1 := hy.1
  have hy2 := hy.2.1
  have hy3 := hy.2.2
  have hx := S.1
  have hb := S.2.1
  have hown := S.2.2.2.1
  have hts := S.2.2.2.2
  have hl := lv_entry ([.ref h, .int (nI k), .int hi]) (n := 3) (Nat.le_of_ble_eq_true rfl)
  rw [lg_entry_eq]
  generalize (lg_sl ([.ref h, .int (nI k), .int hi]) ++ List.replicate (3 - (lg_sl ([.ref h, .int (nI k), .int hi])).length) Slot.unset).toArray = ls at hl ⊢
  have hl : lv_has ls 3 [(0, .ref h), (1, .int (nI k)), (2, .int hi)] := hl
  refine lv_iload_n hx hb dM_unit_0 rfl (lv_at hl 1 rfl) ?_
  refine lv_iconst (v := 1) hx hb dM_unit_1 (by decide) ?_
  refine lv_iadd hx hb dM_unit_2 ?_
  refine lv_aload_n hx hb dM_unit_3 rfl (lv_at hl 0 rfl) ?_
  refine va_get (D := D) (ci := 1) (v := .int (nI y.2.1)) (C := "SignReaderModel") (T := T_M) (N := 9) hx hb hts i_M hown hK hP 0 rfl rfl 2 (by decide) (hts _ k393) (fun _ h9 => h9) rfl dM_unit_4 ?_
  refine lv_icmp_lt (tgt := 14) hx hb dM_unit_7 (by decide) (fun c1 => ?_) (fun c1 => ?_)
  · skip
    replace c1 := Int32.not_le.mpr c1
    rw [nI_1, nI_leI (by omega) (by omega)] at c1
    refine lv_iload_n hx hb dM_unit_14 rfl (lv_at hl 2 rfl) ?_
    refine lv_if_eq (tgt := 40) hx hb dM_unit_15 (by decide) (fun c2 => ?_) (fun c2 => ?_)
    · skip
      refine lv_sipush (v := 256) hx hb dM_unit_40 (by decide) ?_
      refine lv_aload_n hx hb dM_unit_43 rfl (lv_at hl 0 rfl) ?_
      refine va_get (D := D) (ci := 1) (v := .ref qb) (C := "SignReaderModel") (T := T_M) (N := 9) hx hb hts i_M hown hK hP 0 rfl rfl 1 (by decide) (hts _ k392) (fun _ h9 => h9) rfl dM_unit_44 ?_
      refine lv_iload_n hx hb dM_unit_47 rfl (lv_at hl 1 rfl) ?_
      refine lv_iconst (v := 1) hx hb dM_unit_48 (by decide) ?_
      refine lv_iadd hx hb dM_unit_49 ?_
      refine va_iald hx hb hK hP 1 0 rfl rfl (by first | exact vp_in_nI (by omega) (by omega) | (rw [nI_1]; exact vp_in_nI (by omega) (by omega))) dM_unit_50 ?_
      rw [nI_1, nI_clamp (n := k + 1) (by omega)]
      refine lv_imul hx hb dM_unit_51 ?_
      refine lv_aload_n hx hb dM_unit_52 rfl (lv_at hl 0 rfl) ?_
      refine va_get (D := D) (ci := 1) (v := .ref qb) (C := "SignReaderModel") (T := T_M) (N := 9) hx hb hts i_M hown hK hP 0 rfl rfl 1 (by decide) (hts _ k392) (fun _ h9 => h9) rfl dM_unit_53 ?_
      refine lv_iload_n hx hb dM_unit_56 rfl (lv_at hl 1 rfl) ?_
      refine va_iald hx hb hK hP 1 0 rfl rfl (by first | exact vp_in_nI (by omega) (by omega) | (rw [nI_1]; exact vp_in_nI (by omega) (by omega))) dM_unit_57 ?_
      rw [nI_clamp (n := k) (by omega)]
      refine lv_iadd hx hb dM_unit_58 ?_
      exact ro_ret S hr hk (by simp only [mUnit, c1, c2, ↓reduceIte]) dM_unit_59
    · skip
      refine lv_sipush (v := 256) hx hb dM_unit_18 (by decide) ?_
      refine lv_aload_n hx hb dM_unit_21 rfl (lv_at hl 0 rfl) ?_
      refine va_get (D := D) (ci := 1) (v := .ref qb) (C := "SignReaderModel") (T := T_M) (N := 9) hx hb hts i_M hown hK hP 0 rfl rfl 1 (by decide) (hts _ k392) (fun _ h9 => h9) rfl dM_unit_22 ?_
      refine lv_iload_n hx hb dM_unit_25 rfl (lv_at hl 1 rfl) ?_
      refine va_iald hx hb hK hP 1 0 rfl rfl (by first | exact vp_in_nI (by omega) (by omega) | (rw [nI_1]; exact vp_in_nI (by omega) (by omega))) dM_unit_26 ?_
      rw [nI_clamp (n := k) (by omega)]
      refine lv_imul hx hb dM_unit_27 ?_
      refine lv_aload_n hx hb dM_unit_28 rfl (lv_at hl 0 rfl) ?_
      refine va_get (D := D) (ci := 1) (v := .ref qb) (C := "SignReaderModel") (T := T_M) (N := 9) hx hb hts i_M hown hK hP 0 rfl rfl 1 (by decide) (hts _ k392) (fun _ h9 => h9) rfl dM_unit_29 ?_
      refine lv_iload_n hx hb dM_unit_32 rfl (lv_at hl 1 rfl) ?_
      refine lv_iconst (v := 1) hx hb dM_unit_33 (by decide) ?_
      refine lv_iadd hx hb dM_unit_34 ?_
      refine va_iald hx hb hK hP 1 0 rfl rfl (by first | exact vp_in_nI (by omega) (by omega) | (rw [nI_1]; exact vp_in_nI (by omega) (by omega))) dM_unit_35 ?_
      rw [nI_1, nI_clamp (n := k + 1) (by omega)]
      refine lv_iadd hx hb dM_unit_36 ?_
      refine lv_goto (tgt := 59) hx hb dM_unit_37 (by decide) ?_
      exact ro_ret S hr hk (by simp only [mUnit, c1, c2, ↓reduceIte]) dM_unit_59
  · skip
    replace c1 := Int32.not_lt.mp c1
    rw [nI_1, nI_leI (by omega) (by omega)] at c1
    refine lv_iconst (v := (-1)) hx hb dM_unit_10 (by decide) ?_
    refine lv_goto (tgt := 59) hx hb dM_unit_11 (by decide) ?_
    exact ro_ret S hr hk (by simp only [mUnit, c1, ↓reduceIte]) dM_unit_59
def setF (y : MS) (v : Int32) : MS := (y.1, y.2.1, y.2.2.1, y.2.2.2.1, y.2.2.2.2.1, v, y.2.2.2.2.2.2)
theorem setF_ok {y : MS} {v : Int32} (hy : okY y) : okY (setF y v) := hy
/-- (how many bytes were taken, the number found) -/
def m16 (f : Nat → Int32) (n k : Nat) (hi : Int32) : Int32 × Int32 := if 0 ≤ mUnit f n k hi then (if sIn (mUnit f n k hi) 55296 56319 = true then (if sIn (mUnit f n (k + 2) hi) 56320 57343 = true then (4, 65536 + 1024 * (mUnit f n k hi - 55296) + mUnit f n (k + 2) hi - 56320) else (2, mUnit f n k hi)) else (2, mUnit f n k hi)) else (-1, mUnit f n k hi)
def y16 (y : MS) (k : Nat) (hi : Int32) : MS := setF y (m16 y.2.2.2.2.2.2.1 y.2.1 k hi).2
def m8N (a : Int32) : Nat := if 192 ≤ a then (if 224 ≤ a then (if 240 ≤ a then (if 248 ≤ a then 0 else 4) else 3) else 2) else 0
theorem m8N_le (a : Int32) : m8N a ≤ 4 := by
  unfold m8N
  split
  · split
    · split
      · split <;> omega
      · omega
    · omega
  · omega
def m8d (N : Nat) : Int32 := if nI N = 2 then 32 else if nI N = 3 then 16 else 8
theorem m8d_ne (N : Nat) : ¬ m8d N = 0 := by
  unfold m8d
  split
  · decide
  · split <;> decide
def m8l (f : Nat → Int32) (k : Nat) : Nat → Nat → Int32 → Option Int32
  | 0, _, v => some v
  | r + 1, j, v => if f (k + j) / 64 = 2 then m8l f k r (j + 1) (64 * v + (f (k + j) - f (k + j) / 64 * 64)) else none
def m8F (a : Int32) (N : Nat) : Option Int32 → Int32 × Int32
  | none => (-1, a)
  | some v => (if sSize8 v = nI N then nI N else -1, v)
def m8 (f : Nat → Int32) (n k : Nat) : Int32 × Int32 := if 128 ≤ f k then (if nI (m8N (f k)) = 0 then (-1, f k) else if k + m8N (f k) ≤ n then m8F (f k) (m8N (f k)) (m8l f k (m8N (f k) - 1) 1 (f k - f k / m8d (m8N (f k)) * m8d (m8N (f k)))) else (-1, f k)) else (1, f k)
def y8 (y : MS) (k : Nat) : MS := setF y (m8 y.2.2.2.2.2.2.1 y.2.1 k).2
theorem y16_ok {y : MS} {k : Nat} {hi : Int32} (hy : okY y) : okY (y16 y k hi) := hy
theorem y8_ok {y : MS} {k : Nat} (hy : okY y) : okY (y8 y k) := hy
set_option maxHeartbeats 4000000 in
set_option maxRecDepth 100000 in
theorem cM_takeSixteen (l : Launch) (D : va_G) (h qb qt qa : Nat) (cI : ClassId) (y : MS) (k : Nat) (hi : Int32) (hd : ap4 h qb qt qa) (hy : okY y) (hk9 : k ≤ 4096) : Met l yM_takeSixteen (Cond.code yM_takeSixteen prog_3_method_14_code 4 (some .int) :: TB) { frames := 1, cells := 0, slots := 0, locals := 22 } (gx (xM D h qb qt qa cI y) [.ref h, .int (nI k), .int hi]) (mQ (some (.int ((m16 y.2.2.2.2.2.2.1 y.2.1 k hi).1))) D (moZ h qb qt qa cI (y16 y k hi)) (A4 h qb qt qa)) 0 0 (A4 h qb qt qa) := by
  refine mt_of (by decide) ?_
  intro p e s m args below meth cd S hr hk hin hv
  obtain ⟨rfl, hX⟩ := hv
  have hP : va_P D CL (moZ h qb qt qa cI y) s.heap := hX.1
  have hK := hX.2
  have hy1 := hy.1
  have hy2 := hy.2.1
  have hy3 := hy.2.2
  have hS : va_S (A4 h qb qt qa) s.heap s.heap [] := va_S.rf
  have hx := S.1
  have hb := S.2.1
  have hown := S.2.2.2.1
  have hts := S.2.2.2.2
  have hl := lv_entry ([.ref h, .int (nI k), .int hi]) (n := 4) (Nat.le_of_ble_eq_true rfl)
  rw [lg_entry_eq]
  generalize (lg_sl ([.ref h, .int (nI k), .int hi]) ++ List.replicate (4 - (lg_sl ([.ref h, .int (nI k), .int hi])).length) Slot.unset).toArray = ls at hl ⊢
  have hl : lv_has ls 4 [(0, .ref h), (1, .int (nI k)), (2, .int hi)] := hl
  refine lv_aload_n hx hb dM_takeSixteen_0 rfl (lv_at hl 0 rfl) ?_
  refine lv_aload_n hx hb dM_takeSixteen_1 rfl (lv_at hl 0 rfl) ?_
  refine lv_iload_n hx hb dM_takeSixteen_2 rfl (lv_at hl 1 rfl) ?_
  refine lv_iload_n hx hb dM_takeSixteen_3 rfl (lv_at hl 2 rfl) ?_
  refine ro_V (r := (mUnit y.2.2.2.2.2.2.1 y.2.1 k hi)) (As := [.int (nI k), .int hi]) (rest := [.ref h]) (n := 2) (C := "SignReaderModel") S (cM_unit l D h qb qt qa cI y hy (k) (hi) (by omega)) k458 k2 k457 ks21 (by decide +kernel) ⟨rfl, rfl⟩ k455 (by decide) (xM_V ⟨hP, hK⟩) rfl rfl hl.1 (Nat.le_of_ble_eq_true rfl) ⟨Nat.le_refl _, Nat.le_refl _⟩ dM_takeSixteen_4 ?_
  refine va_put (D := D) (ci := 1) (v := .int (mUnit y.2.2.2.2.2.2.1 y.2.1 k hi)) (ty := .int) (C := "SignReaderModel") (T := T_M) (N := 9) hx hb hts i_M t_M t_M_ok n_M hown hK hP (moD hd) hS 0 rfl rfl 8 (by decide) (hts _ k399) (fun _ h9 => h9) rfl (by decide +kernel) rfl rfl (Nat.le_of_ble_eq_true rfl) dM_takeSixteen_7 (fun H locs hP _ hS => ?_)
  have hP : va_P D CL (moW h qb qt qa cI (y.1) (nI y.2.1) (nI y.2.2.1) (y.2.2.2.1) (nI y.2.2.2.2.1) ((mUnit y.2.2.2.2.2.2.1 y.2.1 k hi)) (y.2.2.2.2.2.2.1) (y.2.2.2.2.2.2.2.1) (y.2.2.2.2.2.2.2.2)) H := hP
  have hP : va_P D CL (moZ h qb qt qa cI (setF y (mUnit y.2.2.2.2.2.2.1 y.2.1 k hi))) _ := va_Pe (rfl : moW h qb qt qa cI (y.1) (nI y.2.1) (nI y.2.2.1) (y.2.2.2.1) (nI y.2.2.2.2.1) ((mUnit y.2.2.2.2.2.2.1 y.2.1 k hi)) (y.2.2.2.2.2.2.1) (y.2.2.2.2.2.2.2.1) (y.2.2.2.2.2.2.2.2) = moZ h qb qt qa cI (setF y (mUnit y.2.2.2.2.2.2.1 y.2.1 k hi))) hP
  refine lv_aload_n hx hb dM_takeSixteen_10 rfl (lv_at hl 0 rfl) ?_
  refine va_get (D := D) (ci := 1) (v := .int (mUnit y.2.2.2.2.2.2.1 y.2.1 k hi)) (C := "SignReaderModel") (T := T_M) (N := 9) hx hb hts i_M hown hK hP 0 rfl rfl 8 (by decide) (hts _ k399) (fun _ h9 => h9) rfl dM_takeSixteen_11 ?_
  refine lv_if_ge (tgt := 19) hx hb dM_takeSixteen_14 (by decide) (fun c1 => ?_) (fun c1 => ?_)
  · skip
    refine lv_aload_n hx hb dM_takeSixteen_19 rfl (lv_at hl 0 rfl) ?_
    refine lv_iload_n hx hb dM_takeSixteen_20 rfl (lv_at hl 1 rfl) ?_
    refine lv_iconst (v := 2) hx hb dM_takeSixteen_21 (by decide) ?_
    refine lv_iadd hx hb dM_takeSixteen_22 ?_
    rw [show nI k + 2 = nI (k + 2) from nI_add k 2]
    refine lv_iload_n hx hb dM_takeSixteen_23 rfl (lv_at hl 2 rfl) ?_
    refine ro_V (r := (mUnit y.2.2.2.2.2.2.1 y.2.1 ((k + 2)) hi)) (As := [.int (nI (k + 2)), .int hi]) (rest := []) (n := 2) (C := "SignReaderModel") S (cM_unit l D h qb qt qa cI (setF y (mUnit y.2.2.2.2.2.2.1 y.2.1 k hi)) (setF_ok hy) ((k + 2)) (hi) (by omega)) k458 k2 k457 ks21 (by decide +kernel) ⟨rfl, rfl⟩ k455 (by decide) (xM_V ⟨hP, hK⟩) rfl rfl hl.1 (Nat.le_of_ble_eq_true rfl) ⟨Nat.le_refl _, Nat.le_refl _⟩ dM_takeSixteen_24 ?_
    refine lv_istore_n (lv' := [(3, .int (mUnit y.2.2.2.2.2.2.1 y.2.1 ((k + 2)) hi)), (0, .ref h), (1, .int (nI k)), (2, .int hi)]) hx hb dM_takeSixteen_27 rfl hl (by decide) rfl (fun ls hl => ?_)
    refine lv_aload_n hx hb dM_takeSixteen_28 rfl (lv_at hl 1 rfl) ?_
    refine va_get (D := D) (ci := 1) (v := .int (mUnit y.2.2.2.2.2.2.1 y.2.1 k hi)) (C := "SignReaderModel") (T := T_M) (N := 9) hx hb hts i_M hown hK hP 0 rfl rfl 8 (by decide) (hts _ k399) (fun _ h9 => h9) rfl dM_takeSixteen_29 ?_
    refine lv_ldc (v := 55296) hx hb hown (hts _ k459) dM_takeSixteen_32 ?_
    refine lv_ldc (v := 56319) hx hb hown (hts _ k460) dM_takeSixteen_34 ?_
    refine ro_S (As := [.int (mUnit y.2.2.2.2.2.2.1 y.2.1 k hi), .int 55296, .int 56319]) (rest := []) (n := 3) S (cM_isIn l ((mUnit y.2.2.2.2.2.2.1 y.2.1 k hi)) (55296) (56319)) k463 k2 k462 (by decide +kernel) ⟨rfl, rfl⟩ k461 (by decide) preEq rfl rfl hl.1 (Nat.le_of_ble_eq_true rfl) ⟨Nat.le_refl _, Nat.le_refl _⟩ dM_takeSixteen_36 ?_
    refine lv_if_eq (tgt := 78) hx hb dM_takeSixteen_39 (by decide) (fun c2 => ?_) (fun c2 => ?_)
    · skip
      replace c2 := bI_f c2
      refine lv_iconst (v := 2) hx hb dM_takeSixteen_78 (by decide) ?_
      have hP : va_P D CL (moZ h qb qt qa cI (y16 y k hi)) _ := va_Pe (congrArg (moZ h qb qt qa cI) (by simp only [y16, m16, c1, c2, ↓reduceIte, Bool.false_eq_true] : (setF y (mUnit y.2.2.2.2.2.2.1 y.2.1 k hi) : MS) = y16 y k hi)) hP
      exact mu_retI S hr hk (by simp only [m16, c1, c2, ↓reduceIte, Bool.false_eq_true]) hP hS dM_takeSixteen_79
    · skip
      replace c2 := bI_t c2
      refine lv_iload_n hx hb dM_takeSixteen_42 rfl (lv_at hl 0 rfl) ?_
      refine lv_ldc (v := 56320) hx hb hown (hts _ k464) dM_takeSixteen_43 ?_
      refine lv_ldc (v := 57343) hx hb hown (hts _ k465) dM_takeSixteen_45 ?_
      refine ro_S (As := [.int (mUnit y.2.2.2.2.2.2.1 y.2.1 ((k + 2)) hi), .int 56320, .int 57343]) (rest := []) (n := 3) S (cM_isIn l ((mUnit y.2.2.2.2.2.2.1 y.2.1 ((k + 2)) hi)) (56320) (57343)) k463 k2 k462 (by decide +kernel) ⟨rfl, rfl⟩ k461 (by decide) preEq rfl rfl hl.1 (Nat.le_of_ble_eq_true rfl) ⟨Nat.le_refl _, Nat.le_refl _⟩ dM_takeSixteen_47 ?_
      refine lv_if_eq (tgt := 78) hx hb dM_takeSixteen_50 (by decide) (fun c3 => ?_) (fun c3 => ?_)
      · skip
        replace c3 := bI_f c3
        refine lv_iconst (v := 2) hx hb dM_takeSixteen_78 (by decide) ?_
        have hP : va_P D CL (moZ h qb qt qa cI (y16 y k hi)) _ := va_Pe (congrArg (moZ h qb qt qa cI) (by simp only [y16, m16, c1, c2, c3, ↓reduceIte, Bool.false_eq_true] : (setF y (mUnit y.2.2.2.2.2.2.1 y.2.1 k hi) : MS) = y16 y k hi)) hP
        exact mu_retI S hr hk (by simp only [m16, c1, c2, c3, ↓reduceIte, Bool.false_eq_true]) hP hS dM_takeSixteen_79
      · skip
        replace c3 := bI_t c3
        refine lv_aload_n hx hb dM_takeSixteen_53 rfl (lv_at hl 1 rfl) ?_
        refine lv_ldc (v := 65536) hx hb hown (hts _ k466) dM_takeSixteen_54 ?_
        refine lv_sipush (v := 1024) hx hb dM_takeSixteen_56 (by decide) ?_
        refine lv_aload_n hx hb dM_takeSixteen_59 rfl (lv_at hl 1 rfl) ?_
        refine va_get (D := D) (ci := 1) (v := .int (mUnit y.2.2.2.2.2.2.1 y.2.1 k hi)) (C := "SignReaderModel") (T := T_M) (N := 9) hx hb hts i_M hown hK hP 0 rfl rfl 8 (by decide) (hts _ k399) (fun _ h9 => h9) rfl dM_takeSixteen_60 ?_
        refine lv_ldc (v := 55296) hx hb hown (hts _ k459) dM_takeSixteen_63 ?_
        refine lv_isub hx hb dM_takeSixteen_65 ?_
        refine lv_imul hx hb dM_takeSixteen_66 ?_
        refine lv_iadd hx hb dM_takeSixteen_67 ?_
        refine lv_iload_n hx hb dM_takeSixteen_68 rfl (lv_at hl 0 rfl) ?_
        refine lv_iadd hx hb dM_takeSixteen_69 ?_
        refine lv_ldc (v := 56320) hx hb hown (hts _ k464) dM_takeSixteen_70 ?_
        refine lv_isub hx hb dM_takeSixteen_72 ?_
        refine va_put (D := D) (ci := 1) (v := .int (((65536 + (1024 * ((mUnit y.2.2.2.2.2.2.1 y.2.1 k hi) - 55296))) + (mUnit y.2.2.2.2.2.2.1 y.2.1 ((k + 2)) hi)) - 56320)) (ty := .int) (C := "SignReaderModel") (T := T_M) (N := 9) hx hb hts i_M t_M t_M_ok n_M hown hK hP (moD hd) hS 0 rfl rfl 8 (by decide) (hts _ k399) (fun _ h9 => h9) rfl (by decide +kernel) rfl rfl (Nat.le_of_ble_eq_true rfl) dM_takeSixteen_73 (fun H locs hP _ hS => ?_)
        have hP : va_P D CL (moW h qb qt qa cI (y.1) (nI y.2.1) (nI y.2.2.1) (y.2.2.2.1) (nI y.2.2.2.2.1) ((((65536 + (1024 * ((mUnit y.2.2.2.2.2.2.1 y.2.1 k hi) - 55296))) + (mUnit y.2.2.2.2.2.2.1 y.2.1 ((k + 2)) hi)) - 56320)) (y.2.2.2.2.2.2.1) (y.2.2.2.2.2.2.2.1) (y.2.2.2.2.2.2.2.2)) H := hP
        have hP : va_P D CL (moZ h qb qt qa cI (setF y (65536 + 1024 * (mUnit y.2.2.2.2.2.2.1 y.2.1 k hi - 55296) + mUnit y.2.2.2.2.2.2.1 y.2.1 (k + 2) hi - 56320))) _ := va_Pe (rfl : moW h qb qt qa cI (y.1) (nI y.2.1) (nI y.2.2.1) (y.2.2.2.1) (nI y.2.2.2.2.1) ((((65536 + (1024 * ((mUnit y.2.2.2.2.2.2.1 y.2.1 k hi) - 55296))) + (mUnit y.2.2.2.2.2.2.1 y.2.1 ((k + 2)) hi)) - 56320)) (y.2.2.2.2.2.2.1) (y.2.2.2.2.2.2.2.1) (y.2.2.2.2.2.2.2.2) = moZ h qb qt qa cI (setF y (65536 + 1024 * (mUnit y.2.2.2.2.2.2.1 y.2.1 k hi - 55296) + mUnit y.2.2.2.2.2.2.1 y.2.1 (k + 2) hi - 56320))) hP
        refine lv_iconst (v := 4) hx hb dM_takeSixteen_76 (by decide) ?_
        have hP : va_P D CL (moZ h qb qt qa cI (y16 y k hi)) _ := va_Pe (congrArg (moZ h qb qt qa cI) (by simp only [y16, m16, c1, c2, c3, ↓reduceIte, Bool.false_eq_true] : (setF y (65536 + 1024 * (mUnit y.2.2.2.2.2.2.1 y.2.1 k hi - 55296) + mUnit y.2.2.2.2.2.2.1 y.2.1 (k + 2) hi - 56320) : MS) = y16 y k hi)) hP
        exact mu_retI S hr hk (by simp only [m16, c1, c2, c3, ↓reduceIte, Bool.false_eq_true]) hP hS dM_takeSixteen_77
  · skip
    refine lv_iconst (v := (-1)) hx hb dM_takeSixteen_17 (by decide) ?_
    have hP : va_P D CL (moZ h qb qt qa cI (y16 y k hi)) _ := va_Pe (congrArg (moZ h qb qt qa cI) (by simp only [y16, m16, c1, ↓reduceIte, Bool.false_eq_true] : (setF y (mUnit y.2.2.2.2.2.2.1 y.2.1 k hi) : MS) = y16 y k hi)) hP
    exact mu_retI S hr hk (by simp only [m16, c1, ↓reduceIte, Bool.false_eq_true]) hP hS dM_takeSixteen_18
end
section
/-! the reference: a number of 8 bits; putting bytes aside; feed -/
set_option maxHeartbeats 4000000 in
set_option maxRecDepth 100000 in
theorem cM_takeEight (l : Launch) (D : va_G) (h qb qt qa : Nat) (cI : ClassId) (y : MS) (k : Nat) (hd : ap4 h qb qt qa) (hy : okY y) (hk9 : k < y.2.1) : Met l yM_takeEight (Cond.code yM_takeEight prog_3_method_13_code 6 (some .int) :: TB) { frames := 1, cells := 0, slots := 0, locals := 20 } (gx (xM D h qb qt qa cI y) [.ref h, .int (nI k)]) (mQ (some (.int ((m8 y.2.2.2.2.2.2.1 y.2.1 k).1))) D (moZ h qb qt qa cI (y8 y k)) (A4 h qb qt qa)) 0 0 (A4 h qb qt qa) := by
  refine mt_of (by decide) ?_
  intro p e s m args below meth cd S hr hk hin hv
  obtain ⟨rfl, hX⟩ := hv
  have hP : va_P D CL (moZ h qb qt qa cI y) s.heap := hX.1
  have hK := hX.2
  have hy1 := hy.1
  have hy2 := hy.2.1
  have hy3 := hy.2.2
  have hS : va_S (A4 h qb qt qa) s.heap s.heap [] := va_S.rf
  have hx := S.1
  have hb := S.2.1
  have hown := S.2.2.2.1
  have hts := S.2.2.2.2
  have hl := lv_entry ([.ref h, .int (nI k)]) (n := 6) (Nat.le_of_ble_eq_true rfl)
  rw [lg_entry_eq]
  generalize (lg_sl ([.ref h, .int (nI k)]) ++ List.replicate (6 - (lg_sl ([.ref h, .int (nI k)])).length) Slot.unset).toArray = ls at hl ⊢
  have hl : lv_has ls 6 [(0, .ref h), (1, .int (nI k))] := hl
  refine lv_aload_n hx hb dM_takeEight_0 rfl (lv_at hl 0 rfl) ?_
  refine va_get (D := D) (ci := 1) (v := .ref qb) (C := "SignReaderModel") (T := T_M) (N := 9) hx hb hts i_M hown hK hP 0 rfl rfl 1 (by decide) (hts _ k392) (fun _ h9 => h9) rfl dM_takeEight_1 ?_
  refine lv_iload_n hx hb dM_takeEight_4 rfl (lv_at hl 1 rfl) ?_
  refine va_iald (f := (y.2.2.2.2.2.2.1)) hx hb hK hP 1 0 rfl rfl (vp_in_nI (by omega) (by omega)) dM_takeEight_5 ?_
  rw [nI_clamp (n := k) (by omega)]
  refine lv_istore_n (lv' := [(2, .int ((y.2.2.2.2.2.2.1) k)), (0, .ref h), (1, .int (nI k))]) hx hb dM_takeEight_6 rfl hl (by decide) rfl (fun ls hl => ?_)
  refine lv_aload_n hx hb dM_takeEight_7 rfl (lv_at hl 1 rfl) ?_
  refine lv_iload_n hx hb dM_takeEight_8 rfl (lv_at hl 0 rfl) ?_
  refine va_put (D := D) (ci := 1) (v := .int ((y.2.2.2.2.2.2.1) k)) (ty := .int) (C := "SignReaderModel") (T := T_M) (N := 9) hx hb hts i_M t_M t_M_ok n_M hown hK hP (moD hd) hS 0 rfl rfl 8 (by decide) (hts _ k399) (fun _ h9 => h9) rfl (by decide +kernel) rfl rfl (Nat.le_of_ble_eq_true rfl) dM_takeEight_9 (fun H locs hP _ hS => ?_)
  have hP : va_P D CL (moW h qb qt qa cI (y.1) (nI y.2.1) (nI y.2.2.1) (y.2.2.2.1) (nI y.2.2.2.2.1) (((y.2.2.2.2.2.2.1) k)) (y.2.2.2.2.2.2.1) (y.2.2.2.2.2.2.2.1) (y.2.2.2.2.2.2.2.2)) H := hP
  have hP : va_P D CL (moZ h qb qt qa cI (setF y (y.2.2.2.2.2.2.1 k))) _ := va_Pe (rfl : moW h qb qt qa cI (y.1) (nI y.2.1) (nI y.2.2.1) (y.2.2.2.1) (nI y.2.2.2.2.1) (((y.2.2.2.2.2.2.1) k)) (y.2.2.2.2.2.2.1) (y.2.2.2.2.2.2.2.1) (y.2.2.2.2.2.2.2.2) = moZ h qb qt qa cI (setF y (y.2.2.2.2.2.2.1 k))) hP
  refine lv_iload_n hx hb dM_takeEight_12 rfl (lv_at hl 0 rfl) ?_
  refine lv_sipush (v := 128) hx hb dM_takeEight_13 (by decide) ?_
  refine lv_icmp_ge (tgt := 21) hx hb dM_takeEight_16 (by decide) (fun c1 => ?_) (fun c1 => ?_)
  · skip
    have J66 : ∀ (x : Int32), x = nI (m8N (y.2.2.2.2.2.2.1 k)) → ∀ ls : Array Slot, lv_has ls 6 [(2, .int ((y.2.2.2.2.2.2.1) k)), (0, .ref h), (1, .int (nI k))] → W p l e { frames := 1, cells := 0, slots := 0, locals := 20 } s m [.ref h, .int (nI k)].toArray below meth cd H locs 0 0 (MQ below (mQ (some (.int ((m8 y.2.2.2.2.2.2.1 y.2.1 k).1))) D (moZ h qb qt qa cI (y8 y k)) (A4 h qb qt qa)) [.ref h, .int (nI k)].toArray s 0 0 (A4 h qb qt qa)) (F0 m 66 ls [.int x]) := by
      intro x hx9 ls hl
      subst hx9
      refine lv_istore_n (lv' := [(3, .int (nI (m8N (y.2.2.2.2.2.2.1 k)))), (2, .int ((y.2.2.2.2.2.2.1) k)), (0, .ref h), (1, .int (nI k))]) hx hb dM_takeEight_66 rfl hl (by decide) rfl (fun ls hl => ?_)
      refine lv_iload_n hx hb dM_takeEight_67 rfl (lv_at hl 0 rfl) ?_
      refine lv_if_eq (tgt := 81) hx hb dM_takeEight_68 (by decide) (fun c2 => ?_) (fun c2 => ?_)
      · skip
        refine lv_iconst (v := (-1)) hx hb dM_takeEight_81 (by decide) ?_
        have hP : va_P D CL (moZ h qb qt qa cI (y8 y k)) _ := va_Pe (congrArg (moZ h qb qt qa cI) (by rw [y8, show m8 y.2.2.2.2.2.2.1 y.2.1 k = (-1, y.2.2.2.2.2.2.1 k) by simp only [m8, c1, c2, ↓reduceIte]] : (setF y (y.2.2.2.2.2.2.1 k) : MS) = y8 y k)) hP
        exact mu_retI S hr hk (by rw [show m8 y.2.2.2.2.2.2.1 y.2.1 k = (-1, y.2.2.2.2.2.2.1 k) by simp only [m8, c1, c2, ↓reduceIte]]) hP hS dM_takeEight_82
      · skip
        have hN1 : 1 ≤ m8N (y.2.2.2.2.2.2.1 k) := by rcases Nat.eq_zero_or_pos (m8N (y.2.2.2.2.2.2.1 k)) with q | q; exact absurd (by rw [q]; rfl) c2; exact q
        have hN4 := m8N_le (y.2.2.2.2.2.2.1 k)
        refine lv_iload_n hx hb dM_takeEight_71 rfl (lv_at hl 3 rfl) ?_
        refine lv_iload_n hx hb dM_takeEight_72 rfl (lv_at hl 0 rfl) ?_
        refine lv_iadd hx hb dM_takeEight_73 ?_
        refine lv_aload_n hx hb dM_takeEight_74 rfl (lv_at hl 2 rfl) ?_
        refine va_get (D := D) (ci := 1) (v := .int (nI y.2.1)) (C := "SignReaderModel") (T := T_M) (N := 9) hx hb hts i_M hown hK hP 0 rfl rfl 2 (by decide) (hts _ k393) (fun _ h9 => h9) rfl dM_takeEight_75 ?_
        refine lv_icmp_le (tgt := 83) hx hb dM_takeEight_78 (by decide) (fun c3 => ?_) (fun c3 => ?_)
        · skip
          rw [nI_add, nI_leI (by omega) (by omega)] at c3
          have J106 : ∀ (x : Int32), x = m8d (m8N (y.2.2.2.2.2.2.1 k)) → ∀ ls : Array Slot, lv_has ls 6 [(3, .int (nI (m8N (y.2.2.2.2.2.2.1 k)))), (2, .int ((y.2.2.2.2.2.2.1) k)), (0, .ref h), (1, .int (nI k))] → W p l e { frames := 1, cells := 0, slots := 0, locals := 20 } s m [.ref h, .int (nI k)].toArray below meth cd H locs 0 0 (MQ below (mQ (some (.int ((m8 y.2.2.2.2.2.2.1 y.2.1 k).1))) D (moZ h qb qt qa cI (y8 y k)) (A4 h qb qt qa)) [.ref h, .int (nI k)].toArray s 0 0 (A4 h qb qt qa)) (F0 m 106 ls [.int x, .int (y.2.2.2.2.2.2.1 k)]) := by
            intro x hd9 ls hl
            refine lv_irem hx hb dM_takeEight_106 (by rw [hd9]; exact m8d_ne _) ?_
            refine lv_istore (lv' := [(4, .int ((y.2.2.2.2.2.2.1 k) - (y.2.2.2.2.2.2.1 k) / x * x)), (3, .int (nI (m8N (y.2.2.2.2.2.2.1 k)))), (2, .int ((y.2.2.2.2.2.2.1) k)), (0, .ref h), (1, .int (nI k))]) hx hb dM_takeEight_107 hl (by decide) rfl (fun ls hl => ?_)
            refine lv_iconst (v := 1) hx hb dM_takeEight_109 (by decide) ?_
            refine lv_istore (lv' := [(5, .int 1), (4, .int ((y.2.2.2.2.2.2.1 k) - (y.2.2.2.2.2.2.1 k) / x * x)), (3, .int (nI (m8N (y.2.2.2.2.2.2.1 k)))), (2, .int ((y.2.2.2.2.2.2.1) k)), (0, .ref h), (1, .int (nI k))]) hx hb dM_takeEight_110 hl (by decide) rfl (fun ls hl => ?_)
            have J112 : ∀ (fu : Nat) (v : Int32) (u : Int32) (j : Nat), u = nI j → 1 ≤ j → j ≤ m8N (y.2.2.2.2.2.2.1 k) → m8N (y.2.2.2.2.2.2.1 k) < j + fu → m8 y.2.2.2.2.2.2.1 y.2.1 k = m8F (y.2.2.2.2.2.2.1 k) (m8N (y.2.2.2.2.2.2.1 k)) (m8l y.2.2.2.2.2.2.1 k (m8N (y.2.2.2.2.2.2.1 k) - j) j v) → ∀ ls : Array Slot, lv_has ls 6 [(3, .int (nI (m8N (y.2.2.2.2.2.2.1 k)))), (2, .int ((y.2.2.2.2.2.2.1) k)), (0, .ref h), (1, .int (nI k)), (4, .int v), (5, .int u)] → W p l e { frames := 1, cells := 0, slots := 0, locals := 20 } s m [.ref h, .int (nI k)].toArray below meth cd H locs 0 0 (MQ below (mQ (some (.int ((m8 y.2.2.2.2.2.2.1 y.2.1 k).1))) D (moZ h qb qt qa cI (y8 y k)) (A4 h qb qt qa)) [.ref h, .int (nI k)].toArray s 0 0 (A4 h qb qt qa)) (F0 m 112 ls []) := by
              intro fu
              induction fu with
              | zero =>
                intro v u j hx9 hj1 hj2 hf9 hR ls hl
                exact absurd hf9 (by omega)
              | succ fu ih =>
                intro v u j hx9 hj1 hj2 hf9 hR ls hl
                subst hx9
                have hN4 := m8N_le (y.2.2.2.2.2.2.1 k)
                refine lv_iload hx hb dM_takeEight_112 (lv_at hl 5 rfl) ?_
                refine lv_iload_n hx hb dM_takeEight_114 rfl (lv_at hl 0 rfl) ?_
                refine lv_icmp_ge (tgt := 162) hx hb dM_takeEight_115 (by decide) (fun c4 => ?_) (fun c4 => ?_)
                · skip
                  rw [nI_leI (by omega) (by omega)] at c4
                  rw [show m8N (y.2.2.2.2.2.2.1 k) - j = 0 by omega] at hR
                  simp only [m8l] at hR
                  refine lv_aload_n hx hb dM_takeEight_162 rfl (lv_at hl 2 rfl) ?_
                  refine lv_iload hx hb dM_takeEight_163 (lv_at hl 4 rfl) ?_
                  refine va_put (D := D) (ci := 1) (v := .int v) (ty := .int) (C := "SignReaderModel") (T := T_M) (N := 9) hx hb hts i_M t_M t_M_ok n_M hown hK hP (moD hd) hS 0 rfl rfl 8 (by decide) (hts _ k399) (fun _ h9 => h9) rfl (by decide +kernel) rfl rfl (Nat.le_of_ble_eq_true rfl) dM_takeEight_165 (fun H locs hP _ hS => ?_)
                  have hP : va_P D CL (moW h qb qt qa cI (y.1) (nI y.2.1) (nI y.2.2.1) (y.2.2.2.1) (nI y.2.2.2.2.1) (v) (y.2.2.2.2.2.2.1) (y.2.2.2.2.2.2.2.1) (y.2.2.2.2.2.2.2.2)) H := hP
                  have hP : va_P D CL (moZ h qb qt qa cI (setF y (v))) _ := va_Pe (rfl : moW h qb qt qa cI (y.1) (nI y.2.1) (nI y.2.2.1) (y.2.2.2.1) (nI y.2.2.2.2.1) (v) (y.2.2.2.2.2.2.1) (y.2.2.2.2.2.2.2.1) (y.2.2.2.2.2.2.2.2) = moZ h qb qt qa cI (setF y (v))) hP
                  refine lv_iload hx hb dM_takeEight_168 (lv_at hl 4 rfl) ?_
                  refine ro_S (As := [.int v]) (rest := []) (n := 1) S (cM_bytesOf l (v)) k473 k2 k472 (by decide +kernel) ⟨rfl, rfl⟩ k471 (by decide) preEq rfl rfl hl.1 (Nat.le_of_ble_eq_true rfl) ⟨Nat.le_refl _, Nat.le_refl _⟩ dM_takeEight_170 ?_
                  refine lv_iload_n hx hb dM_takeEight_173 rfl (lv_at hl 0 rfl) ?_
                  refine lv_icmp_ne (tgt := 181) hx hb dM_takeEight_174 (by decide) (fun c5 => ?_) (fun c5 => ?_)
                  · skip
                    refine lv_iconst (v := (-1)) hx hb dM_takeEight_181 (by decide) ?_
                    have hP : va_P D CL (moZ h qb qt qa cI (y8 y k)) _ := va_Pe (congrArg (moZ h qb qt qa cI) (by rw [y8, hR, m8F] : (setF y (v) : MS) = y8 y k)) hP
                    exact mu_retI S hr hk (by rw [hR, m8F]; simp only [c5, ↓reduceIte]) hP hS dM_takeEight_182
                  · skip
                    refine lv_iload_n hx hb dM_takeEight_177 rfl (lv_at hl 0 rfl) ?_
                    refine lv_goto (tgt := 182) hx hb dM_takeEight_178 (by decide) ?_
                    have hP : va_P D CL (moZ h qb qt qa cI (y8 y k)) _ := va_Pe (congrArg (moZ h qb qt qa cI) (by rw [y8, hR, m8F] : (setF y (v) : MS) = y8 y k)) hP
                    exact mu_retI S hr hk (by rw [hR, m8F]; simp only [c5, ↓reduceIte]) hP hS dM_takeEight_182
                · skip
                  rw [nI_leI (by omega) (by omega)] at c4
                  rw [show m8N (y.2.2.2.2.2.2.1 k) - j = (m8N (y.2.2.2.2.2.2.1 k) - j - 1) + 1 by omega] at hR
                  simp only [m8l] at hR
                  refine lv_aload_n hx hb dM_takeEight_118 rfl (lv_at hl 2 rfl) ?_
                  refine va_get (D := D) (ci := 1) (v := .ref qb) (C := "SignReaderModel") (T := T_M) (N := 9) hx hb hts i_M hown hK hP 0 rfl rfl 1 (by decide) (hts _ k392) (fun _ h9 => h9) rfl dM_takeEight_119 ?_
                  refine lv_iload_n hx hb dM_takeEight_122 rfl (lv_at hl 3 rfl) ?_
                  refine lv_iload hx hb dM_takeEight_123 (lv_at hl 5 rfl) ?_
                  refine lv_iadd hx hb dM_takeEight_125 ?_
                  refine va_iald (f := (y.2.2.2.2.2.2.1)) hx hb hK hP 1 0 rfl rfl (by rw [nI_add]; exact vp_in_nI (by omega) (by omega)) dM_takeEight_126 ?_
                  rw [nI_add, nI_clamp (n := k + j) (by omega)]
                  refine lv_bipush (v := 64) hx hb dM_takeEight_127 (by decide) ?_
                  refine lv_idiv hx hb dM_takeEight_129 (by decide) ?_
                  refine lv_iconst (v := 2) hx hb dM_takeEight_130 (by decide) ?_
                  refine lv_icmp_eq (tgt := 136) hx hb dM_takeEight_131 (by decide) (fun c6 => ?_) (fun c6 => ?_)
                  · skip
                    refine lv_bipush (v := 64) hx hb dM_takeEight_136 (by decide) ?_
                    refine lv_iload hx hb dM_takeEight_138 (lv_at hl 4 rfl) ?_
                    refine lv_imul hx hb dM_takeEight_140 ?_
                    refine lv_aload_n hx hb dM_takeEight_141 rfl (lv_at hl 2 rfl) ?_
                    refine va_get (D := D) (ci := 1) (v := .ref qb) (C := "SignReaderModel") (T := T_M) (N := 9) hx hb hts i_M hown hK hP 0 rfl rfl 1 (by decide) (hts _ k392) (fun _ h9 => h9) rfl dM_takeEight_142 ?_
                    refine lv_iload_n hx hb dM_takeEight_145 rfl (lv_at hl 3 rfl) ?_
                    refine lv_iload hx hb dM_takeEight_146 (lv_at hl 5 rfl) ?_
                    refine lv_iadd hx hb dM_takeEight_148 ?_
                    refine va_iald (f := (y.2.2.2.2.2.2.1)) hx hb hK hP 1 0 rfl rfl (by rw [nI_add]; exact vp_in_nI (by omega) (by omega)) dM_takeEight_149 ?_
                    rw [show (nI k + nI j).toNatClampNeg = k + j by rw [nI_add]; exact nI_clamp (by omega)]
                    refine lv_bipush (v := 64) hx hb dM_takeEight_150 (by decide) ?_
                    refine lv_irem hx hb dM_takeEight_152 (by decide) ?_
                    refine lv_iadd hx hb dM_takeEight_153 ?_
                    refine lv_istore (lv' := [(4, .int ((64 * v) + (((y.2.2.2.2.2.2.1) (k + j)) - ((y.2.2.2.2.2.2.1) (k + j)) / 64 * 64))), (3, .int (nI (m8N (y.2.2.2.2.2.2.1 k)))), (2, .int ((y.2.2.2.2.2.2.1) k)), (0, .ref h), (1, .int (nI k)), (5, .int (nI j))]) hx hb dM_takeEight_154 hl (by decide) rfl (fun ls hl => ?_)
                    refine lv_iinc (v := ((nI j) + 1)) (lv' := [(5, .int ((nI j) + 1)), (4, .int ((64 * v) + (((y.2.2.2.2.2.2.1) (k + j)) - ((y.2.2.2.2.2.2.1) (k + j)) / 64 * 64))), (3, .int (nI (m8N (y.2.2.2.2.2.2.1 k)))), (2, .int ((y.2.2.2.2.2.2.1) k)), (0, .ref h), (1, .int (nI k))]) hx hb dM_takeEight_156 hl (k := 5) rfl rfl (by decide) rfl (fun ls hl => ?_)
                    refine lv_goto (tgt := 112) hx hb dM_takeEight_159 (by decide) ?_
                    exact ih (((64 * v) + (((y.2.2.2.2.2.2.1) (k + j)) - ((y.2.2.2.2.2.2.1) (k + j)) / 64 * 64))) (((nI j) + 1)) (j + 1) (nI_1 j) (by omega) (by omega) (by omega) (by rw [hR, if_pos c6, show m8N (y.2.2.2.2.2.2.1 k) - (j + 1) = m8N (y.2.2.2.2.2.2.1 k) - j - 1 by omega]) ls (lv_sub hl [2, 3, 4, 5, 1, 0] rfl) 
                  · skip
                    refine lv_iconst (v := (-1)) hx hb dM_takeEight_134 (by decide) ?_
                    have hP : va_P D CL (moZ h qb qt qa cI (y8 y k)) _ := va_Pe (congrArg (moZ h qb qt qa cI) (by rw [y8, hR, if_neg c6, m8F] : (setF y (y.2.2.2.2.2.2.1 k) : MS) = y8 y k)) hP
                    exact mu_retI S hr hk (by rw [hR, if_neg c6, m8F]) hP hS dM_takeEight_135
            exact J112 (m8N (y.2.2.2.2.2.2.1 k) + 1) (((y.2.2.2.2.2.2.1 k) - (y.2.2.2.2.2.2.1 k) / x * x)) (1) (1) (rfl) (by omega) (hN1) (by omega) (by rw [hd9]; simp only [m8, c1, c2, c3, ↓reduceIte]) ls (lv_sub hl [2, 3, 4, 5, 1, 0] rfl) 
          refine lv_iload_n hx hb dM_takeEight_83 rfl (lv_at hl 1 rfl) ?_
          refine lv_iload_n hx hb dM_takeEight_84 rfl (lv_at hl 0 rfl) ?_
          refine lv_iconst (v := 2) hx hb dM_takeEight_85 (by decide) ?_
          refine lv_icmp_ne (tgt := 94) hx hb dM_takeEight_86 (by decide) (fun c7 => ?_) (fun c7 => ?_)
          · skip
            refine lv_iload_n hx hb dM_takeEight_94 rfl (lv_at hl 0 rfl) ?_
            refine lv_iconst (v := 3) hx hb dM_takeEight_95 (by decide) ?_
            refine lv_icmp_ne (tgt := 104) hx hb dM_takeEight_96 (by decide) (fun c8 => ?_) (fun c8 => ?_)
            · skip
              refine lv_bipush (v := 8) hx hb dM_takeEight_104 (by decide) ?_
              exact J106  (8) (by rw [m8d, if_neg c7, if_neg c8]) ls (lv_sub hl [0, 1, 2, 3] rfl) 
            · skip
              refine lv_bipush (v := 16) hx hb dM_takeEight_99 (by decide) ?_
              refine lv_goto (tgt := 106) hx hb dM_takeEight_101 (by decide) ?_
              exact J106  (16) (by rw [m8d, if_neg c7, if_pos c8]) ls (lv_sub hl [0, 1, 2, 3] rfl) 
          · skip
            refine lv_bipush (v := 32) hx hb dM_takeEight_89 (by decide) ?_
            refine lv_goto (tgt := 106) hx hb dM_takeEight_91 (by decide) ?_
            exact J106  (32) (by rw [m8d, if_pos c7]) ls (lv_sub hl [0, 1, 2, 3] rfl) 
        · skip
          rw [nI_add, nI_leI (by omega) (by omega)] at c3
          refine lv_iconst (v := (-1)) hx hb dM_takeEight_81 (by decide) ?_
          have hP : va_P D CL (moZ h qb qt qa cI (y8 y k)) _ := va_Pe (congrArg (moZ h qb qt qa cI) (by rw [y8, show m8 y.2.2.2.2.2.2.1 y.2.1 k = (-1, y.2.2.2.2.2.2.1 k) by simp only [m8, c1, c2, c3, ↓reduceIte]] : (setF y (y.2.2.2.2.2.2.1 k) : MS) = y8 y k)) hP
          exact mu_retI S hr hk (by rw [show m8 y.2.2.2.2.2.2.1 y.2.1 k = (-1, y.2.2.2.2.2.2.1 k) by simp only [m8, c1, c2, c3, ↓reduceIte]]) hP hS dM_takeEight_82
    refine lv_iload_n hx hb dM_takeEight_21 rfl (lv_at hl 0 rfl) ?_
    refine lv_sipush (v := 192) hx hb dM_takeEight_22 (by decide) ?_
    refine lv_icmp_ge (tgt := 32) hx hb dM_takeEight_25 (by decide) (fun c9 => ?_) (fun c9 => ?_)
    · skip
      refine lv_iload_n hx hb dM_takeEight_32 rfl (lv_at hl 0 rfl) ?_
      refine lv_sipush (v := 224) hx hb dM_takeEight_33 (by decide) ?_
      refine lv_icmp_ge (tgt := 43) hx hb dM_takeEight_36 (by decide) (fun c10 => ?_) (fun c10 => ?_)
      · skip
        refine lv_iload_n hx hb dM_takeEight_43 rfl (lv_at hl 0 rfl) ?_
        refine lv_sipush (v := 240) hx hb dM_takeEight_44 (by decide) ?_
        refine lv_icmp_ge (tgt := 54) hx hb dM_takeEight_47 (by decide) (fun c11 => ?_) (fun c11 => ?_)
        · skip
          refine lv_iload_n hx hb dM_takeEight_54 rfl (lv_at hl 0 rfl) ?_
          refine lv_sipush (v := 248) hx hb dM_takeEight_55 (by decide) ?_
          refine lv_icmp_ge (tgt := 65) hx hb dM_takeEight_58 (by decide) (fun c12 => ?_) (fun c12 => ?_)
          · skip
            refine lv_iconst (v := 0) hx hb dM_takeEight_65 (by decide) ?_
            exact J66  (0) (by simp only [m8N, c9, c10, c11, c12, ↓reduceIte]; rfl) ls (lv_sub hl [0, 1, 2] rfl) 
          · skip
            refine lv_iconst (v := 4) hx hb dM_takeEight_61 (by decide) ?_
            refine lv_goto (tgt := 66) hx hb dM_takeEight_62 (by decide) ?_
            exact J66  (4) (by simp only [m8N, c9, c10, c11, c12, ↓reduceIte]; rfl) ls (lv_sub hl [0, 1, 2] rfl) 
        · skip
          refine lv_iconst (v := 3) hx hb dM_takeEight_50 (by decide) ?_
          refine lv_goto (tgt := 66) hx hb dM_takeEight_51 (by decide) ?_
          exact J66  (3) (by simp only [m8N, c9, c10, c11, ↓reduceIte]; rfl) ls (lv_sub hl [0, 1, 2] rfl) 
      · skip
        refine lv_iconst (v := 2) hx hb dM_takeEight_39 (by decide) ?_
        refine lv_goto (tgt := 66) hx hb dM_takeEight_40 (by decide) ?_
        exact J66  (2) (by simp only [m8N, c9, c10, ↓reduceIte]; rfl) ls (lv_sub hl [0, 1, 2] rfl) 
    · skip
      refine lv_iconst (v := 0) hx hb dM_takeEight_28 (by decide) ?_
      refine lv_goto (tgt := 66) hx hb dM_takeEight_29 (by decide) ?_
      exact J66  (0) (by simp only [m8N, c9, ↓reduceIte]; rfl) ls (lv_sub hl [0, 1, 2] rfl) 
  · skip
    refine lv_iconst (v := 1) hx hb dM_takeEight_19 (by decide) ?_
    have hP : va_P D CL (moZ h qb qt qa cI (y8 y k)) _ := va_Pe (congrArg (moZ h qb qt qa cI) (by rw [y8, show m8 y.2.2.2.2.2.2.1 y.2.1 k = (1, y.2.2.2.2.2.2.1 k) by simp only [m8, c1, ↓reduceIte]] : (setF y (y.2.2.2.2.2.2.1 k) : MS) = y8 y k)) hP
    exact mu_retI S hr hk (by rw [show m8 y.2.2.2.2.2.2.1 y.2.1 k = (1, y.2.2.2.2.2.2.1 k) by simp only [m8, c1, ↓reduceIte]]) hP hS dM_takeEight_20
def yP (y : MS) (b : Int32) : MS := (y.1, y.2.1, y.2.2.1, y.2.2.2.1, y.2.2.2.2.1 + 1, y.2.2.2.2.2.1, y.2.2.2.2.2.2.1, y.2.2.2.2.2.2.2.1, if y.2.2.2.2.1 < 4100 then upd y.2.2.2.2.2.2.2.2 y.2.2.2.2.1 b else y.2.2.2.2.2.2.2.2)
theorem yP_ok {y : MS} {b : Int32} (hy : okY y ∧ y.2.2.2.2.1 < 1000000) : okY (yP y b) := ⟨hy.1.1, hy.1.2.1, by show y.2.2.2.2.1 + 1 ≤ 1000000; omega⟩
set_option maxHeartbeats 4000000 in
set_option maxRecDepth 100000 in
theorem cM_put (l : Launch) (D : va_G) (h qb qt qa : Nat) (cI : ClassId) (y : MS) (b : Int32) (hd : ap4 h qb qt qa) (hy : okY y) (hct : y.2.2.2.2.1 < 1000000) : Met l yM_put (Cond.code yM_put prog_3_method_26_code 2 none :: TB) { frames := 0, cells := 0, slots := 0, locals := 0 } (gx (xM D h qb qt qa cI y) [.ref h, .int b]) (mQ (none) D (moZ h qb qt qa cI (yP y b)) (A4 h qb qt qa)) 0 0 (A4 h qb qt qa) := by
  refine mt_of (by decide) ?_
  intro p e s m args below meth cd S hr hk hin hv
  obtain ⟨rfl, hX⟩ := hv
  have hP : va_P D CL (moZ h qb qt qa cI y) s.heap := hX.1
  have hK := hX.2
  have hy1 := hy.1
  have hy2 := hy.2.1
  have hy3 := hy.2.2
  have hS : va_S (A4 h qb qt qa) s.heap s.heap [] := va_S.rf
  have hx := S.1
  have hb := S.2.1
  have hown := S.2.2.2.1
  have hts := S.2.2.2.2
  have hl := lv_entry ([.ref h, .int b]) (n := 2) (Nat.le_of_ble_eq_true rfl)
  rw [lg_entry_eq]
  generalize (lg_sl ([.ref h, .int b]) ++ List.replicate (2 - (lg_sl ([.ref h, .int b])).length) Slot.unset).toArray = ls at hl ⊢
  have hl : lv_has ls 2 [(0, .ref h), (1, .int b)] := hl
  refine lv_aload_n hx hb dM_put_0 rfl (lv_at hl 0 rfl) ?_
  refine va_get (D := D) (ci := 1) (v := .int (nI y.2.2.2.2.1)) (C := "SignReaderModel") (T := T_M) (N := 9) hx hb hts i_M hown hK hP 0 rfl rfl 7 (by decide) (hts _ k398) (fun _ h9 => h9) rfl dM_put_1 ?_
  refine lv_sipush (v := 4100) hx hb dM_put_4 (by decide) ?_
  refine lv_icmp_ge (tgt := 20) hx hb dM_put_7 (by decide) (fun c1 => ?_) (fun c1 => ?_)
  · skip
    rw [show (4100 : Int32) = nI 4100 from rfl, nI_leI (by omega) (by omega)] at c1
    refine lv_aload_n hx hb dM_put_20 rfl (lv_at hl 0 rfl) ?_
    refine lv_aload_n hx hb dM_put_21 rfl (lv_at hl 0 rfl) ?_
    refine va_get (D := D) (ci := 1) (v := .int (nI y.2.2.2.2.1)) (C := "SignReaderModel") (T := T_M) (N := 9) hx hb hts i_M hown hK hP 0 rfl rfl 7 (by decide) (hts _ k398) (fun _ h9 => h9) rfl dM_put_22 ?_
    refine lv_iconst (v := 1) hx hb dM_put_25 (by decide) ?_
    refine lv_iadd hx hb dM_put_26 ?_
    refine va_put (D := D) (ci := 1) (v := .int ((nI y.2.2.2.2.1) + 1)) (ty := .int) (C := "SignReaderModel") (T := T_M) (N := 9) hx hb hts i_M t_M t_M_ok n_M hown hK hP (moD hd) hS 0 rfl rfl 7 (by decide) (hts _ k398) (fun _ h9 => h9) rfl (by decide +kernel) rfl rfl (Nat.le_of_ble_eq_true rfl) dM_put_27 (fun H locs hP _ hS => ?_)
    have hP : va_P D CL (moW h qb qt qa cI (y.1) (nI y.2.1) (nI y.2.2.1) (y.2.2.2.1) (((nI y.2.2.2.2.1) + 1)) (y.2.2.2.2.2.1) (y.2.2.2.2.2.2.1) (y.2.2.2.2.2.2.2.1) (y.2.2.2.2.2.2.2.2)) H := hP
    have hP : va_P D CL (moZ h qb qt qa cI (yP y b)) _ := va_Pe (by simp only [yP, nI_1]; rw [if_neg (by omega)] : moW h qb qt qa cI (y.1) (nI y.2.1) (nI y.2.2.1) (y.2.2.2.1) (((nI y.2.2.2.2.1) + 1)) (y.2.2.2.2.2.1) (y.2.2.2.2.2.2.1) (y.2.2.2.2.2.2.2.1) (y.2.2.2.2.2.2.2.2) = moZ h qb qt qa cI (yP y b)) hP
    exact mu_ret0 S hr hk hP hS dM_put_30
  · skip
    rw [show (4100 : Int32) = nI 4100 from rfl, nI_leI (by omega) (by omega)] at c1
    refine lv_aload_n hx hb dM_put_10 rfl (lv_at hl 0 rfl) ?_
    refine va_get (D := D) (ci := 1) (v := .ref qa) (C := "SignReaderModel") (T := T_M) (N := 9) hx hb hts i_M hown hK hP 0 rfl rfl 6 (by decide) (hts _ k397) (fun _ h9 => h9) rfl dM_put_11 ?_
    refine lv_aload_n hx hb dM_put_14 rfl (lv_at hl 0 rfl) ?_
    refine va_get (D := D) (ci := 1) (v := .int (nI y.2.2.2.2.1)) (C := "SignReaderModel") (T := T_M) (N := 9) hx hb hts i_M hown hK hP 0 rfl rfl 7 (by decide) (hts _ k398) (fun _ h9 => h9) rfl dM_put_15 ?_
    refine lv_iload_n hx hb dM_put_18 rfl (lv_at hl 1 rfl) ?_
    refine va_iast hx hb hK hP (moD hd) hS 3 0 rfl rfl (vp_in_nI (by omega) (by omega)) dM_put_19 (fun H locs hP _ hS => ?_)
    have hP : va_P D CL (moW h qb qt qa cI (y.1) (nI y.2.1) (nI y.2.2.1) (y.2.2.2.1) (nI y.2.2.2.2.1) (y.2.2.2.2.2.1) (y.2.2.2.2.2.2.1) (y.2.2.2.2.2.2.2.1) (upd (y.2.2.2.2.2.2.2.2) ((nI y.2.2.2.2.1)).toNatClampNeg (b))) H := hP
    refine lv_aload_n hx hb dM_put_20 rfl (lv_at hl 0 rfl) ?_
    refine lv_aload_n hx hb dM_put_21 rfl (lv_at hl 0 rfl) ?_
    refine va_get (D := D) (ci := 1) (v := .int (nI y.2.2.2.2.1)) (C := "SignReaderModel") (T := T_M) (N := 9) hx hb hts i_M hown hK hP 0 rfl rfl 7 (by decide) (hts _ k398) (fun _ h9 => h9) rfl dM_put_22 ?_
    refine lv_iconst (v := 1) hx hb dM_put_25 (by decide) ?_
    refine lv_iadd hx hb dM_put_26 ?_
    refine va_put (D := D) (ci := 1) (v := .int ((nI y.2.2.2.2.1) + 1)) (ty := .int) (C := "SignReaderModel") (T := T_M) (N := 9) hx hb hts i_M t_M t_M_ok n_M hown hK hP (moD hd) hS 0 rfl rfl 7 (by decide) (hts _ k398) (fun _ h9 => h9) rfl (by decide +kernel) rfl rfl (Nat.le_of_ble_eq_true rfl) dM_put_27 (fun H locs hP _ hS => ?_)
    have hP : va_P D CL (moW h qb qt qa cI (y.1) (nI y.2.1) (nI y.2.2.1) (y.2.2.2.1) (((nI y.2.2.2.2.1) + 1)) (y.2.2.2.2.2.1) (y.2.2.2.2.2.2.1) (y.2.2.2.2.2.2.2.1) (upd (y.2.2.2.2.2.2.2.2) ((nI y.2.2.2.2.1)).toNatClampNeg (b))) H := hP
    have hP : va_P D CL (moZ h qb qt qa cI (yP y b)) _ := va_Pe (by simp only [yP, nI_1, nI_clamp (show y.2.2.2.2.1 < 2 ^ 31 by omega)]; rw [if_pos (by omega)] : moW h qb qt qa cI (y.1) (nI y.2.1) (nI y.2.2.1) (y.2.2.2.1) (((nI y.2.2.2.2.1) + 1)) (y.2.2.2.2.2.1) (y.2.2.2.2.2.2.1) (y.2.2.2.2.2.2.2.1) (upd (y.2.2.2.2.2.2.2.2) ((nI y.2.2.2.2.1)).toNatClampNeg (b)) = moZ h qb qt qa cI (yP y b)) hP
    exact mu_ret0 S hr hk hP hS dM_put_30
def yPair (y : MS) (u hi : Int32) : MS := if hi = 0 then yP (yP y (u - u / 256 * 256)) (u / 256) else yP (yP y (u / 256)) (u - u / 256 * 256)
theorem yPair_ct (y : MS) (u hi : Int32) : (yPair y u hi).2.2.2.2.1 = y.2.2.2.2.1 + 2 := by unfold yPair; split <;> rfl
theorem yPair_ok {y : MS} {u hi : Int32} (hy : okY y ∧ y.2.2.2.2.1 + 2 ≤ 1000000) : okY (yPair y u hi) := by
  obtain ⟨h, hc⟩ := hy
  unfold yPair
  split <;> exact yP_ok ⟨yP_ok ⟨h, by omega⟩, by show _ + 1 < 1000000; omega⟩
set_option maxHeartbeats 4000000 in
set_option maxRecDepth 100000 in
theorem cM_pair (l : Launch) (D : va_G) (h qb qt qa : Nat) (cI : ClassId) (y : MS) (u hi : Int32) (hd : ap4 h qb qt qa) (hy : okY y) (hct : y.2.2.2.2.1 + 2 ≤ 1000000) : Met l yM_pair (Cond.code yM_pair prog_3_method_27_code 3 none :: TB) { frames := 1, cells := 0, slots := 0, locals := 21 } (gx (xM D h qb qt qa cI y) [.ref h, .int u, .int hi]) (mQ (none) D (moZ h qb qt qa cI (yPair y u hi)) (A4 h qb qt qa)) 0 0 (A4 h qb qt qa) := by
  refine mt_of (by decide) ?_
  intro p e s m args below meth cd S hr hk hin hv
  obtain ⟨rfl, hX⟩ := hv
  have hP : va_P D CL (moZ h qb qt qa cI y) s.heap := hX.1
  have hK := hX.2
  have hy1 := hy.1
  have hy2 := hy.2.1
  have hy3 := hy.2.2
  have hS : va_S (A4 h qb qt qa) s.heap s.heap [] := va_S.rf
  have hx := S.1
  have hb := S.2.1
  have hown := S.2.2.2.1
  have hts := S.2.2.2.2
  have hl := lv_entry ([.ref h, .int u, .int hi]) (n := 3) (Nat.le_of_ble_eq_true rfl)
  rw [lg_entry_eq]
  generalize (lg_sl ([.ref h, .int u, .int hi]) ++ List.replicate (3 - (lg_sl ([.ref h, .int u, .int hi])).length) Slot.unset).toArray = ls at hl ⊢
  have hl : lv_has ls 3 [(0, .ref h), (1, .int u), (2, .int hi)] := hl
  refine lv_aload_n hx hb dM_pair_0 rfl (lv_at hl 0 rfl) ?_
  refine lv_iload_n hx hb dM_pair_1 rfl (lv_at hl 2 rfl) ?_
  refine lv_if_eq (tgt := 13) hx hb dM_pair_2 (by decide) (fun c1 => ?_) (fun c1 => ?_)
  · skip
    refine lv_iload_n hx hb dM_pair_13 rfl (lv_at hl 1 rfl) ?_
    refine lv_sipush (v := 256) hx hb dM_pair_14 (by decide) ?_
    refine lv_irem hx hb dM_pair_17 (by decide) ?_
    refine mu_V (As := [.int (u - u / 256 * 256)]) (rest := []) (n := 1) (C := "SignReaderModel") S (cM_put l D h qb qt qa cI (y)  ((u - u / 256 * 256)) hd hy (by omega)) k532 k2 k531 ks24 (by decide +kernel) ⟨rfl, rfl⟩ k529 (by decide) (xM_V ⟨hP, hK⟩) rfl rfl hl.1 (Nat.le_of_ble_eq_true rfl) ⟨Nat.le_refl _, Nat.le_refl _⟩ dM_pair_18 hS (fun _ h9 => h9) (fun H locs hP hS => ?_)
    have hP : va_P D CL (moZ h qb qt qa cI (yP y ((u - u / 256 * 256)))) H := hP
    refine lv_aload_n hx hb dM_pair_21 rfl (lv_at hl 0 rfl) ?_
    refine lv_iload_n hx hb dM_pair_22 rfl (lv_at hl 2 rfl) ?_
    refine lv_if_eq (tgt := 34) hx hb dM_pair_23 (by decide) (fun c2 => ?_) (fun c2 => absurd c2 (fun h9 => h9 c1))
    refine lv_iload_n hx hb dM_pair_34 rfl (lv_at hl 1 rfl) ?_
    refine lv_sipush (v := 256) hx hb dM_pair_35 (by decide) ?_
    refine lv_idiv hx hb dM_pair_38 (by decide) ?_
    refine mu_V (As := [.int (u / 256)]) (rest := []) (n := 1) (C := "SignReaderModel") S (cM_put l D h qb qt qa cI (yP y ((u - u / 256 * 256)))  ((u / 256)) hd (yP_ok ⟨hy, (by omega)⟩) (by show _ + 1 < 1000000; omega)) k532 k2 k531 ks24 (by decide +kernel) ⟨rfl, rfl⟩ k529 (by decide) (xM_V ⟨hP, hK⟩) rfl rfl hl.1 (Nat.le_of_ble_eq_true rfl) ⟨Nat.le_refl _, Nat.le_refl _⟩ dM_pair_39 hS (fun _ h9 => h9) (fun H locs hP hS => ?_)
    have hP : va_P D CL (moZ h qb qt qa cI (yP (yP y ((u - u / 256 * 256))) ((u / 256)))) H := hP
    have hP : va_P D CL (moZ h qb qt qa cI (yPair y u hi)) _ := va_Pe (congrArg (moZ h qb qt qa cI) (by simp only [yPair, c1, ↓reduceIte] : (yP (yP y ((u - u / 256 * 256))) ((u / 256)) : MS) = yPair y u hi)) hP
    exact mu_ret0 S hr hk hP hS dM_pair_42
  · skip
    refine lv_iload_n hx hb dM_pair_5 rfl (lv_at hl 1 rfl) ?_
    refine lv_sipush (v := 256) hx hb dM_pair_6 (by decide) ?_
    refine lv_idiv hx hb dM_pair_9 (by decide) ?_
    refine lv_goto (tgt := 18) hx hb dM_pair_10 (by decide) ?_
    refine mu_V (As := [.int (u / 256)]) (rest := []) (n := 1) (C := "SignReaderModel") S (cM_put l D h qb qt qa cI (y)  ((u / 256)) hd hy (by omega)) k532 k2 k531 ks24 (by decide +kernel) ⟨rfl, rfl⟩ k529 (by decide) (xM_V ⟨hP, hK⟩) rfl rfl hl.1 (Nat.le_of_ble_eq_true rfl) ⟨Nat.le_refl _, Nat.le_refl _⟩ dM_pair_18 hS (fun _ h9 => h9) (fun H locs hP hS => ?_)
    have hP : va_P D CL (moZ h qb qt qa cI (yP y ((u / 256)))) H := hP
    refine lv_aload_n hx hb dM_pair_21 rfl (lv_at hl 0 rfl) ?_
    refine lv_iload_n hx hb dM_pair_22 rfl (lv_at hl 2 rfl) ?_
    refine lv_if_eq (tgt := 34) hx hb dM_pair_23 (by decide) (fun c3 => absurd c3 c1) (fun c3 => ?_)
    refine lv_iload_n hx hb dM_pair_26 rfl (lv_at hl 1 rfl) ?_
    refine lv_sipush (v := 256) hx hb dM_pair_27 (by decide) ?_
    refine lv_irem hx hb dM_pair_30 (by decide) ?_
    refine lv_goto (tgt := 39) hx hb dM_pair_31 (by decide) ?_
    refine mu_V (As := [.int (u - u / 256 * 256)]) (rest := []) (n := 1) (C := "SignReaderModel") S (cM_put l D h qb qt qa cI (yP y ((u / 256)))  ((u - u / 256 * 256)) hd (yP_ok ⟨hy, (by omega)⟩) (by show _ + 1 < 1000000; omega)) k532 k2 k531 ks24 (by decide +kernel) ⟨rfl, rfl⟩ k529 (by decide) (xM_V ⟨hP, hK⟩) rfl rfl hl.1 (Nat.le_of_ble_eq_true rfl) ⟨Nat.le_refl _, Nat.le_refl _⟩ dM_pair_39 hS (fun _ h9 => h9) (fun H locs hP hS => ?_)
    have hP : va_P D CL (moZ h qb qt qa cI (yP (yP y ((u / 256))) ((u - u / 256 * 256)))) H := hP
    have hP : va_P D CL (moZ h qb qt qa cI (yPair y u hi)) _ := va_Pe (congrArg (moZ h qb qt qa cI) (by simp only [yPair, c1, ↓reduceIte] : (yP (yP y ((u / 256))) ((u - u / 256 * 256)) : MS) = yPair y u hi)) hP
    exact mu_ret0 S hr hk hP hS dM_pair_42
def y8w (y : MS) (c : Int32) : MS := if sSize8 c = 1 then yP y c else if sSize8 c = 2 then yP (yP y (192 + c / 64)) (128 + (c / 1 - c / 1 / 64 * 64)) else if sSize8 c = 3 then yP (yP (yP y (224 + c / 4096)) (128 + (c / 64 - c / 64 / 64 * 64))) (128 + (c / 1 - c / 1 / 64 * 64)) else yP (yP (yP (yP y (240 + c / 262144)) (128 + (c / 4096 - c / 4096 / 64 * 64))) (128 + (c / 64 - c / 64 / 64 * 64))) (128 + (c / 1 - c / 1 / 64 * 64))
theorem y8w_ok {y : MS} {c : Int32} (hy : okY y ∧ y.2.2.2.2.1 + 4 ≤ 1000000) : okY (y8w y c) ∧ (y8w y c).2.2.2.2.1 ≤ y.2.2.2.2.1 + 4 := by
  obtain ⟨⟨h1, h2, h3⟩, hc⟩ := hy
  unfold y8w
  split
  · exact ⟨⟨h1, h2, by show _ + 1 ≤ 1000000; omega⟩, by show _ + 1 ≤ _; omega⟩
  · split
    · exact ⟨⟨h1, h2, by show _ + 1 + 1 ≤ 1000000; omega⟩, by show _ + 1 + 1 ≤ _; omega⟩
    · split
      · exact ⟨⟨h1, h2, by show _ + 1 + 1 + 1 ≤ 1000000; omega⟩, by show _ + 1 + 1 + 1 ≤ _; omega⟩
      · exact ⟨⟨h1, h2, by show _ + 1 + 1 + 1 + 1 ≤ 1000000; omega⟩, by show _ + 1 + 1 + 1 + 1 ≤ _; omega⟩
set_option maxHeartbeats 4000000 in
set_option maxRecDepth 100000 in
theorem cM_writeEight (l : Launch) (D : va_G) (h qb qt qa : Nat) (cI : ClassId) (y : MS) (c : Int32) (hd : ap4 h qb qt qa) (hy : okY y) (hct : y.2.2.2.2.1 + 4 ≤ 1000000) : Met l yM_writeEight (Cond.code yM_writeEight prog_3_method_28_code 4 none :: TB) { frames := 1, cells := 0, slots := 0, locals := 21 } (gx (xM D h qb qt qa cI y) [.ref h, .int c]) (mQ (none) D (moZ h qb qt qa cI (y8w y c)) (A4 h qb qt qa)) 0 0 (A4 h qb qt qa) := by
  refine mt_of (by decide) ?_
  intro p e s m args below meth cd S hr hk hin hv
  obtain ⟨rfl, hX⟩ := hv
  have hP : va_P D CL (moZ h qb qt qa cI y) s.heap := hX.1
  have hK := hX.2
  have hy1 := hy.1
  have hy2 := hy.2.1
  have hy3 := hy.2.2
  have hS : va_S (A4 h qb qt qa) s.heap s.heap [] := va_S.rf
  have hx := S.1
  have hb := S.2.1
  have hown := S.2.2.2.1
  have hts := S.2.2.2.2
  have hl := lv_entry ([.ref h, .int c]) (n := 4) (Nat.le_of_ble_eq_true rfl)
  rw [lg_entry_eq]
  generalize (lg_sl ([.ref h, .int c]) ++ List.replicate (4 - (lg_sl ([.ref h, .int c])).length) Slot.unset).toArray = ls at hl ⊢
  have hl : lv_has ls 4 [(0, .ref h), (1, .int c)] := hl
  refine lv_iload_n hx hb dM_writeEight_0 rfl (lv_at hl 1 rfl) ?_
  refine ro_S (As := [.int c]) (rest := []) (n := 1) S (cM_bytesOf l (c)) k473 k2 k472 (by decide +kernel) ⟨rfl, rfl⟩ k471 (by decide) preEq rfl rfl hl.1 (Nat.le_of_ble_eq_true rfl) ⟨Nat.le_refl _, Nat.le_refl _⟩ dM_writeEight_1 ?_
  refine lv_istore_n (lv' := [(2, .int (sSize8 c)), (0, .ref h), (1, .int c)]) hx hb dM_writeEight_4 rfl hl (by decide) rfl (fun ls hl => ?_)
  refine lv_iload_n hx hb dM_writeEight_5 rfl (lv_at hl 0 rfl) ?_
  refine lv_iconst (v := 1) hx hb dM_writeEight_6 (by decide) ?_
  refine lv_icmp_ne (tgt := 16) hx hb dM_writeEight_7 (by decide) (fun c1 => ?_) (fun c1 => ?_)
  · skip
    refine lv_iload_n hx hb dM_writeEight_16 rfl (lv_at hl 0 rfl) ?_
    refine lv_iconst (v := 2) hx hb dM_writeEight_17 (by decide) ?_
    refine lv_icmp_ne (tgt := 26) hx hb dM_writeEight_18 (by decide) (fun c2 => ?_) (fun c2 => ?_)
    · skip
      refine lv_iload_n hx hb dM_writeEight_26 rfl (lv_at hl 0 rfl) ?_
      refine lv_iconst (v := 3) hx hb dM_writeEight_27 (by decide) ?_
      refine lv_icmp_ne (tgt := 37) hx hb dM_writeEight_28 (by decide) (fun c3 => ?_) (fun c3 => ?_)
      · skip
        refine lv_ldc (v := 262144) hx hb hown (hts _ k537) dM_writeEight_37 ?_
        refine lv_istore_n (lv' := [(3, .int 262144), (2, .int (sSize8 c)), (0, .ref h), (1, .int c)]) hx hb dM_writeEight_39 rfl hl (by decide) rfl (fun ls hl => ?_)
        refine lv_aload_n hx hb dM_writeEight_40 rfl (lv_at hl 2 rfl) ?_
        refine lv_iload_n hx hb dM_writeEight_41 rfl (lv_at hl 1 rfl) ?_
        refine lv_iconst (v := 2) hx hb dM_writeEight_42 (by decide) ?_
        refine lv_icmp_ne (tgt := 52) hx hb dM_writeEight_43 (by decide) (fun c4 => ?_) (fun c4 => absurd c4 c2)
        refine lv_iload_n hx hb dM_writeEight_52 rfl (lv_at hl 1 rfl) ?_
        refine lv_iconst (v := 3) hx hb dM_writeEight_53 (by decide) ?_
        refine lv_icmp_ne (tgt := 63) hx hb dM_writeEight_54 (by decide) (fun c5 => ?_) (fun c5 => absurd c5 c3)
        refine lv_sipush (v := 240) hx hb dM_writeEight_63 (by decide) ?_
        refine lv_iload_n hx hb dM_writeEight_66 rfl (lv_at hl 3 rfl) ?_
        refine lv_iload_n hx hb dM_writeEight_67 rfl (lv_at hl 0 rfl) ?_
        refine lv_idiv hx hb dM_writeEight_68 (by decide) ?_
        refine lv_iadd hx hb dM_writeEight_69 ?_
        refine mu_V (As := [.int (240 + (c / 262144))]) (rest := []) (n := 1) (C := "SignReaderModel") S (cM_put l D h qb qt qa cI (y)  ((240 + (c / 262144))) hd hy (by omega)) k532 k2 k531 ks24 (by decide +kernel) ⟨rfl, rfl⟩ k529 (by decide) (xM_V ⟨hP, hK⟩) rfl rfl hl.1 (Nat.le_of_ble_eq_true rfl) ⟨Nat.le_refl _, Nat.le_refl _⟩ dM_writeEight_70 hS (fun _ h9 => h9) (fun H locs hP hS => ?_)
        have hP : va_P D CL (moZ h qb qt qa cI (yP y ((240 + (c / 262144))))) H := hP
        refine lv_iload_n hx hb dM_writeEight_73 rfl (lv_at hl 0 rfl) ?_
        refine lv_iconst (v := 1) hx hb dM_writeEight_74 (by decide) ?_
        refine lv_icmp_le (tgt := 100) hx hb dM_writeEight_75 (by decide) (fun c6 => absurd c6 (by decide)) (fun c6 => ?_)
        refine lv_iload_n hx hb dM_writeEight_78 rfl (lv_at hl 0 rfl) ?_
        refine lv_bipush (v := 64) hx hb dM_writeEight_79 (by decide) ?_
        refine lv_idiv hx hb dM_writeEight_81 (by decide) ?_
        rw [show (262144 / 64 : Int32) = 4096 from by decide]
        refine lv_istore_n (lv' := [(3, .int 4096), (2, .int (sSize8 c)), (0, .ref h), (1, .int c)]) hx hb dM_writeEight_82 rfl hl (by decide) rfl (fun ls hl => ?_)
        refine lv_aload_n hx hb dM_writeEight_83 rfl (lv_at hl 2 rfl) ?_
        refine lv_sipush (v := 128) hx hb dM_writeEight_84 (by decide) ?_
        refine lv_iload_n hx hb dM_writeEight_87 rfl (lv_at hl 3 rfl) ?_
        refine lv_iload_n hx hb dM_writeEight_88 rfl (lv_at hl 0 rfl) ?_
        refine lv_idiv hx hb dM_writeEight_89 (by decide) ?_
        refine lv_bipush (v := 64) hx hb dM_writeEight_90 (by decide) ?_
        refine lv_irem hx hb dM_writeEight_92 (by decide) ?_
        refine lv_iadd hx hb dM_writeEight_93 ?_
        refine mu_V (As := [.int (128 + ((c / 4096) - (c / 4096) / 64 * 64))]) (rest := []) (n := 1) (C := "SignReaderModel") S (cM_put l D h qb qt qa cI (yP y ((240 + (c / 262144))))  ((128 + ((c / 4096) - (c / 4096) / 64 * 64))) hd (yP_ok ⟨hy, (by omega)⟩) (by show _ + 1 < 1000000; omega)) k532 k2 k531 ks24 (by decide +kernel) ⟨rfl, rfl⟩ k529 (by decide) (xM_V ⟨hP, hK⟩) rfl rfl hl.1 (Nat.le_of_ble_eq_true rfl) ⟨Nat.le_refl _, Nat.le_refl _⟩ dM_writeEight_94 hS (fun _ h9 => h9) (fun H locs hP hS => ?_)
        have hP : va_P D CL (moZ h qb qt qa cI (yP (yP y ((240 + (c / 262144)))) ((128 + ((c / 4096) - (c / 4096) / 64 * 64))))) H := hP
        refine lv_goto (tgt := 73) hx hb dM_writeEight_97 (by decide) ?_
        refine lv_iload_n hx hb dM_writeEight_73 rfl (lv_at hl 0 rfl) ?_
        refine lv_iconst (v := 1) hx hb dM_writeEight_74 (by decide) ?_
        refine lv_icmp_le (tgt := 100) hx hb dM_writeEight_75 (by decide) (fun c7 => absurd c7 (by decide)) (fun c7 => ?_)
        refine lv_iload_n hx hb dM_writeEight_78 rfl (lv_at hl 0 rfl) ?_
        refine lv_bipush (v := 64) hx hb dM_writeEight_79 (by decide) ?_
        refine lv_idiv hx hb dM_writeEight_81 (by decide) ?_
        rw [show (4096 / 64 : Int32) = 64 from by decide]
        refine lv_istore_n (lv' := [(3, .int 64), (2, .int (sSize8 c)), (0, .ref h), (1, .int c)]) hx hb dM_writeEight_82 rfl hl (by decide) rfl (fun ls hl => ?_)
        refine lv_aload_n hx hb dM_writeEight_83 rfl (lv_at hl 2 rfl) ?_
        refine lv_sipush (v := 128) hx hb dM_writeEight_84 (by decide) ?_
        refine lv_iload_n hx hb dM_writeEight_87 rfl (lv_at hl 3 rfl) ?_
        refine lv_iload_n hx hb dM_writeEight_88 rfl (lv_at hl 0 rfl) ?_
        refine lv_idiv hx hb dM_writeEight_89 (by decide) ?_
        refine lv_bipush (v := 64) hx hb dM_writeEight_90 (by decide) ?_
        refine lv_irem hx hb dM_writeEight_92 (by decide) ?_
        refine lv_iadd hx hb dM_writeEight_93 ?_
        refine mu_V (As := [.int (128 + ((c / 64) - (c / 64) / 64 * 64))]) (rest := []) (n := 1) (C := "SignReaderModel") S (cM_put l D h qb qt qa cI (yP (yP y ((240 + (c / 262144)))) ((128 + ((c / 4096) - (c / 4096) / 64 * 64))))  ((128 + ((c / 64) - (c / 64) / 64 * 64))) hd (yP_ok ⟨(yP_ok ⟨hy, (by omega)⟩), (by show _ + 1 < 1000000; omega)⟩) (by show _ + 1 + 1 < 1000000; omega)) k532 k2 k531 ks24 (by decide +kernel) ⟨rfl, rfl⟩ k529 (by decide) (xM_V ⟨hP, hK⟩) rfl rfl hl.1 (Nat.le_of_ble_eq_true rfl) ⟨Nat.le_refl _, Nat.le_refl _⟩ dM_writeEight_94 hS (fun _ h9 => h9) (fun H locs hP hS => ?_)
        have hP : va_P D CL (moZ h qb qt qa cI (yP (yP (yP y ((240 + (c / 262144)))) ((128 + ((c / 4096) - (c / 4096) / 64 * 64)))) ((128 + ((c / 64) - (c / 64) / 64 * 64))))) H := hP
        refine lv_goto (tgt := 73) hx hb dM_writeEight_97 (by decide) ?_
        refine lv_iload_n hx hb dM_writeEight_73 rfl (lv_at hl 0 rfl) ?_
        refine lv_iconst (v := 1) hx hb dM_writeEight_74 (by decide) ?_
        refine lv_icmp_le (tgt := 100) hx hb dM_writeEight_75 (by decide) (fun c8 => absurd c8 (by decide)) (fun c8 => ?_)
        refine lv_iload_n hx hb dM_writeEight_78 rfl (lv_at hl 0 rfl) ?_
        refine lv_bipush (v := 64) hx hb dM_writeEight_79 (by decide) ?_
        refine lv_idiv hx hb dM_writeEight_81 (by decide) ?_
        rw [show (64 / 64 : Int32) = 1 from by decide]
        refine lv_istore_n (lv' := [(3, .int 1), (2, .int (sSize8 c)), (0, .ref h), (1, .int c)]) hx hb dM_writeEight_82 rfl hl (by decide) rfl (fun ls hl => ?_)
        refine lv_aload_n hx hb dM_writeEight_83 rfl (lv_at hl 2 rfl) ?_
        refine lv_sipush (v := 128) hx hb dM_writeEight_84 (by decide) ?_
        refine lv_iload_n hx hb dM_writeEight_87 rfl (lv_at hl 3 rfl) ?_
        refine lv_iload_n hx hb dM_writeEight_88 rfl (lv_at hl 0 rfl) ?_
        refine lv_idiv hx hb dM_writeEight_89 (by decide) ?_
        refine lv_bipush (v := 64) hx hb dM_writeEight_90 (by decide) ?_
        refine lv_irem hx hb dM_writeEight_92 (by decide) ?_
        refine lv_iadd hx hb dM_writeEight_93 ?_
        refine mu_V (As := [.int (128 + ((c / 1) - (c / 1) / 64 * 64))]) (rest := []) (n := 1) (C := "SignReaderModel") S (cM_put l D h qb qt qa cI (yP (yP (yP y ((240 + (c / 262144)))) ((128 + ((c / 4096) - (c / 4096) / 64 * 64)))) ((128 + ((c / 64) - (c / 64) / 64 * 64))))  ((128 + ((c / 1) - (c / 1) / 64 * 64))) hd (yP_ok ⟨(yP_ok ⟨(yP_ok ⟨hy, (by omega)⟩), (by show _ + 1 < 1000000; omega)⟩), (by show _ + 1 + 1 < 1000000; omega)⟩) (by show _ + 1 + 1 + 1 < 1000000; omega)) k532 k2 k531 ks24 (by decide +kernel) ⟨rfl, rfl⟩ k529 (by decide) (xM_V ⟨hP, hK⟩) rfl rfl hl.1 (Nat.le_of_ble_eq_true rfl) ⟨Nat.le_refl _, Nat.le_refl _⟩ dM_writeEight_94 hS (fun _ h9 => h9) (fun H locs hP hS => ?_)
        have hP : va_P D CL (moZ h qb qt qa cI (yP (yP (yP (yP y ((240 + (c / 262144)))) ((128 + ((c / 4096) - (c / 4096) / 64 * 64)))) ((128 + ((c / 64) - (c / 64) / 64 * 64)))) ((128 + ((c / 1) - (c / 1) / 64 * 64))))) H := hP
        refine lv_goto (tgt := 73) hx hb dM_writeEight_97 (by decide) ?_
        refine lv_iload_n hx hb dM_writeEight_73 rfl (lv_at hl 0 rfl) ?_
        refine lv_iconst (v := 1) hx hb dM_writeEight_74 (by decide) ?_
        refine lv_icmp_le (tgt := 100) hx hb dM_writeEight_75 (by decide) (fun c9 => ?_) (fun c9 => absurd c9 (by decide))
        have hP : va_P D CL (moZ h qb qt qa cI (y8w y c)) _ := va_Pe (congrArg (moZ h qb qt qa cI) (by rw [y8w, if_neg c1, if_neg c2, if_neg c3] : (yP (yP (yP (yP y ((240 + (c / 262144)))) ((128 + ((c / 4096) - (c / 4096) / 64 * 64)))) ((128 + ((c / 64) - (c / 64) / 64 * 64)))) ((128 + ((c / 1) - (c / 1) / 64 * 64))) : MS) = y8w y c)) hP
        exact mu_ret0 S hr hk hP hS dM_writeEight_100
      · skip
        refine lv_sipush (v := 4096) hx hb dM_writeEight_31 (by decide) ?_
        refine lv_goto (tgt := 39) hx hb dM_writeEight_34 (by decide) ?_
        refine lv_istore_n (lv' := [(3, .int 4096), (2, .int (sSize8 c)), (0, .ref h), (1, .int c)]) hx hb dM_writeEight_39 rfl hl (by decide) rfl (fun ls hl => ?_)
        refine lv_aload_n hx hb dM_writeEight_40 rfl (lv_at hl 2 rfl) ?_
        refine lv_iload_n hx hb dM_writeEight_41 rfl (lv_at hl 1 rfl) ?_
        refine lv_iconst (v := 2) hx hb dM_writeEight_42 (by decide) ?_
        refine lv_icmp_ne (tgt := 52) hx hb dM_writeEight_43 (by decide) (fun c10 => ?_) (fun c10 => absurd c10 c2)
        refine lv_iload_n hx hb dM_writeEight_52 rfl (lv_at hl 1 rfl) ?_
        refine lv_iconst (v := 3) hx hb dM_writeEight_53 (by decide) ?_
        refine lv_icmp_ne (tgt := 63) hx hb dM_writeEight_54 (by decide) (fun c11 => absurd c11 (fun h9 => h9 c3)) (fun c11 => ?_)
        refine lv_sipush (v := 224) hx hb dM_writeEight_57 (by decide) ?_
        refine lv_goto (tgt := 66) hx hb dM_writeEight_60 (by decide) ?_
        refine lv_iload_n hx hb dM_writeEight_66 rfl (lv_at hl 3 rfl) ?_
        refine lv_iload_n hx hb dM_writeEight_67 rfl (lv_at hl 0 rfl) ?_
        refine lv_idiv hx hb dM_writeEight_68 (by decide) ?_
        refine lv_iadd hx hb dM_writeEight_69 ?_
        refine mu_V (As := [.int (224 + (c / 4096))]) (rest := []) (n := 1) (C := "SignReaderModel") S (cM_put l D h qb qt qa cI (y)  ((224 + (c / 4096))) hd hy (by omega)) k532 k2 k531 ks24 (by decide +kernel) ⟨rfl, rfl⟩ k529 (by decide) (xM_V ⟨hP, hK⟩) rfl rfl hl.1 (Nat.le_of_ble_eq_true rfl) ⟨Nat.le_refl _, Nat.le_refl _⟩ dM_writeEight_70 hS (fun _ h9 => h9) (fun H locs hP hS => ?_)
        have hP : va_P D CL (moZ h qb qt qa cI (yP y ((224 + (c / 4096))))) H := hP
        refine lv_iload_n hx hb dM_writeEight_73 rfl (lv_at hl 0 rfl) ?_
        refine lv_iconst (v := 1) hx hb dM_writeEight_74 (by decide) ?_
        refine lv_icmp_le (tgt := 100) hx hb dM_writeEight_75 (by decide) (fun c12 => absurd c12 (by decide)) (fun c12 => ?_)
        refine lv_iload_n hx hb dM_writeEight_78 rfl (lv_at hl 0 rfl) ?_
        refine lv_bipush (v := 64) hx hb dM_writeEight_79 (by decide) ?_
        refine lv_idiv hx hb dM_writeEight_81 (by decide) ?_
        rw [show (4096 / 64 : Int32) = 64 from by decide]
        refine lv_istore_n (lv' := [(3, .int 64), (2, .int (sSize8 c)), (0, .ref h), (1, .int c)]) hx hb dM_writeEight_82 rfl hl (by decide) rfl (fun ls hl => ?_)
        refine lv_aload_n hx hb dM_writeEight_83 rfl (lv_at hl 2 rfl) ?_
        refine lv_sipush (v := 128) hx hb dM_writeEight_84 (by decide) ?_
        refine lv_iload_n hx hb dM_writeEight_87 rfl (lv_at hl 3 rfl) ?_
        refine lv_iload_n hx hb dM_writeEight_88 rfl (lv_at hl 0 rfl) ?_
        refine lv_idiv hx hb dM_writeEight_89 (by decide) ?_
        refine lv_bipush (v := 64) hx hb dM_writeEight_90 (by decide) ?_
        refine lv_irem hx hb dM_writeEight_92 (by decide) ?_
        refine lv_iadd hx hb dM_writeEight_93 ?_
        refine mu_V (As := [.int (128 + ((c / 64) - (c / 64) / 64 * 64))]) (rest := []) (n := 1) (C := "SignReaderModel") S (cM_put l D h qb qt qa cI (yP y ((224 + (c / 4096))))  ((128 + ((c / 64) - (c / 64) / 64 * 64))) hd (yP_ok ⟨hy, (by omega)⟩) (by show _ + 1 < 1000000; omega)) k532 k2 k531 ks24 (by decide +kernel) ⟨rfl, rfl⟩ k529 (by decide) (xM_V ⟨hP, hK⟩) rfl rfl hl.1 (Nat.le_of_ble_eq_true rfl) ⟨Nat.le_refl _, Nat.le_refl _⟩ dM_writeEight_94 hS (fun _ h9 => h9) (fun H locs hP hS => ?_)
        have hP : va_P D CL (moZ h qb qt qa cI (yP (yP y ((224 + (c / 4096)))) ((128 + ((c / 64) - (c / 64) / 64 * 64))))) H := hP
        refine lv_goto (tgt := 73) hx hb dM_writeEight_97 (by decide) ?_
        refine lv_iload_n hx hb dM_writeEight_73 rfl (lv_at hl 0 rfl) ?_
        refine lv_iconst (v := 1) hx hb dM_writeEight_74 (by decide) ?_
        refine lv_icmp_le (tgt := 100) hx hb dM_writeEight_75 (by decide) (fun c13 => absurd c13 (by decide)) (fun c13 => ?_)
        refine lv_iload_n hx hb dM_writeEight_78 rfl (lv_at hl 0 rfl) ?_
        refine lv_bipush (v := 64) hx hb dM_writeEight_79 (by decide) ?_
        refine lv_idiv hx hb dM_writeEight_81 (by decide) ?_
        rw [show (64 / 64 : Int32) = 1 from by decide]
        refine lv_istore_n (lv' := [(3, .int 1), (2, .int (sSize8 c)), (0, .ref h), (1, .int c)]) hx hb dM_writeEight_82 rfl hl (by decide) rfl (fun ls hl => ?_)
        refine lv_aload_n hx hb dM_writeEight_83 rfl (lv_at hl 2 rfl) ?_
        refine lv_sipush (v := 128) hx hb dM_writeEight_84 (by decide) ?_
        refine lv_iload_n hx hb dM_writeEight_87 rfl (lv_at hl 3 rfl) ?_
        refine lv_iload_n hx hb dM_writeEight_88 rfl (lv_at hl 0 rfl) ?_
        refine lv_idiv hx hb dM_writeEight_89 (by decide) ?_
        refine lv_bipush (v := 64) hx hb dM_writeEight_90 (by decide) ?_
        refine lv_irem hx hb dM_writeEight_92 (by decide) ?_
        refine lv_iadd hx hb dM_writeEight_93 ?_
        refine mu_V (As := [.int (128 + ((c / 1) - (c / 1) / 64 * 64))]) (rest := []) (n := 1) (C := "SignReaderModel") S (cM_put l D h qb qt qa cI (yP (yP y ((224 + (c / 4096)))) ((128 + ((c / 64) - (c / 64) / 64 * 64))))  ((128 + ((c / 1) - (c / 1) / 64 * 64))) hd (yP_ok ⟨(yP_ok ⟨hy, (by omega)⟩), (by show _ + 1 < 1000000; omega)⟩) (by show _ + 1 + 1 < 1000000; omega)) k532 k2 k531 ks24 (by decide +kernel) ⟨rfl, rfl⟩ k529 (by decide) (xM_V ⟨hP, hK⟩) rfl rfl hl.1 (Nat.le_of_ble_eq_true rfl) ⟨Nat.le_refl _, Nat.le_refl _⟩ dM_writeEight_94 hS (fun _ h9 => h9) (fun H locs hP hS => ?_)
        have hP : va_P D CL (moZ h qb qt qa cI (yP (yP (yP y ((224 + (c / 4096)))) ((128 + ((c / 64) - (c / 64) / 64 * 64)))) ((128 + ((c / 1) - (c / 1) / 64 * 64))))) H := hP
        refine lv_goto (tgt := 73) hx hb dM_writeEight_97 (by decide) ?_
        refine lv_iload_n hx hb dM_writeEight_73 rfl (lv_at hl 0 rfl) ?_
        refine lv_iconst (v := 1) hx hb dM_writeEight_74 (by decide) ?_
        refine lv_icmp_le (tgt := 100) hx hb dM_writeEight_75 (by decide) (fun c14 => ?_) (fun c14 => absurd c14 (by decide))
        have hP : va_P D CL (moZ h qb qt qa cI (y8w y c)) _ := va_Pe (congrArg (moZ h qb qt qa cI) (by rw [y8w, if_neg c1, if_neg c2, if_pos c3] : (yP (yP (yP y ((224 + (c / 4096)))) ((128 + ((c / 64) - (c / 64) / 64 * 64)))) ((128 + ((c / 1) - (c / 1) / 64 * 64))) : MS) = y8w y c)) hP
        exact mu_ret0 S hr hk hP hS dM_writeEight_100
    · skip
      refine lv_bipush (v := 64) hx hb dM_writeEight_21 (by decide) ?_
      refine lv_goto (tgt := 39) hx hb dM_writeEight_23 (by decide) ?_
      refine lv_istore_n (lv' := [(3, .int 64), (2, .int (sSize8 c)), (0, .ref h), (1, .int c)]) hx hb dM_writeEight_39 rfl hl (by decide) rfl (fun ls hl => ?_)
      refine lv_aload_n hx hb dM_writeEight_40 rfl (lv_at hl 2 rfl) ?_
      refine lv_iload_n hx hb dM_writeEight_41 rfl (lv_at hl 1 rfl) ?_
      refine lv_iconst (v := 2) hx hb dM_writeEight_42 (by decide) ?_
      refine lv_icmp_ne (tgt := 52) hx hb dM_writeEight_43 (by decide) (fun c15 => absurd c15 (fun h9 => h9 c2)) (fun c15 => ?_)
      refine lv_sipush (v := 192) hx hb dM_writeEight_46 (by decide) ?_
      refine lv_goto (tgt := 66) hx hb dM_writeEight_49 (by decide) ?_
      refine lv_iload_n hx hb dM_writeEight_66 rfl (lv_at hl 3 rfl) ?_
      refine lv_iload_n hx hb dM_writeEight_67 rfl (lv_at hl 0 rfl) ?_
      refine lv_idiv hx hb dM_writeEight_68 (by decide) ?_
      refine lv_iadd hx hb dM_writeEight_69 ?_
      refine mu_V (As := [.int (192 + (c / 64))]) (rest := []) (n := 1) (C := "SignReaderModel") S (cM_put l D h qb qt qa cI (y)  ((192 + (c / 64))) hd hy (by omega)) k532 k2 k531 ks24 (by decide +kernel) ⟨rfl, rfl⟩ k529 (by decide) (xM_V ⟨hP, hK⟩) rfl rfl hl.1 (Nat.le_of_ble_eq_true rfl) ⟨Nat.le_refl _, Nat.le_refl _⟩ dM_writeEight_70 hS (fun _ h9 => h9) (fun H locs hP hS => ?_)
      have hP : va_P D CL (moZ h qb qt qa cI (yP y ((192 + (c / 64))))) H := hP
      refine lv_iload_n hx hb dM_writeEight_73 rfl (lv_at hl 0 rfl) ?_
      refine lv_iconst (v := 1) hx hb dM_writeEight_74 (by decide) ?_
      refine lv_icmp_le (tgt := 100) hx hb dM_writeEight_75 (by decide) (fun c16 => absurd c16 (by decide)) (fun c16 => ?_)
      refine lv_iload_n hx hb dM_writeEight_78 rfl (lv_at hl 0 rfl) ?_
      refine lv_bipush (v := 64) hx hb dM_writeEight_79 (by decide) ?_
      refine lv_idiv hx hb dM_writeEight_81 (by decide) ?_
      rw [show (64 / 64 : Int32) = 1 from by decide]
      refine lv_istore_n (lv' := [(3, .int 1), (2, .int (sSize8 c)), (0, .ref h), (1, .int c)]) hx hb dM_writeEight_82 rfl hl (by decide) rfl (fun ls hl => ?_)
      refine lv_aload_n hx hb dM_writeEight_83 rfl (lv_at hl 2 rfl) ?_
      refine lv_sipush (v := 128) hx hb dM_writeEight_84 (by decide) ?_
      refine lv_iload_n hx hb dM_writeEight_87 rfl (lv_at hl 3 rfl) ?_
      refine lv_iload_n hx hb dM_writeEight_88 rfl (lv_at hl 0 rfl) ?_
      refine lv_idiv hx hb dM_writeEight_89 (by decide) ?_
      refine lv_bipush (v := 64) hx hb dM_writeEight_90 (by decide) ?_
      refine lv_irem hx hb dM_writeEight_92 (by decide) ?_
      refine lv_iadd hx hb dM_writeEight_93 ?_
      refine mu_V (As := [.int (128 + ((c / 1) - (c / 1) / 64 * 64))]) (rest := []) (n := 1) (C := "SignReaderModel") S (cM_put l D h qb qt qa cI (yP y ((192 + (c / 64))))  ((128 + ((c / 1) - (c / 1) / 64 * 64))) hd (yP_ok ⟨hy, (by omega)⟩) (by show _ + 1 < 1000000; omega)) k532 k2 k531 ks24 (by decide +kernel) ⟨rfl, rfl⟩ k529 (by decide) (xM_V ⟨hP, hK⟩) rfl rfl hl.1 (Nat.le_of_ble_eq_true rfl) ⟨Nat.le_refl _, Nat.le_refl _⟩ dM_writeEight_94 hS (fun _ h9 => h9) (fun H locs hP hS => ?_)
      have hP : va_P D CL (moZ h qb qt qa cI (yP (yP y ((192 + (c / 64)))) ((128 + ((c / 1) - (c / 1) / 64 * 64))))) H := hP
      refine lv_goto (tgt := 73) hx hb dM_writeEight_97 (by decide) ?_
      refine lv_iload_n hx hb dM_writeEight_73 rfl (lv_at hl 0 rfl) ?_
      refine lv_iconst (v := 1) hx hb dM_writeEight_74 (by decide) ?_
      refine lv_icmp_le (tgt := 100) hx hb dM_writeEight_75 (by decide) (fun c17 => ?_) (fun c17 => absurd c17 (by decide))
      have hP : va_P D CL (moZ h qb qt qa cI (y8w y c)) _ := va_Pe (congrArg (moZ h qb qt qa cI) (by rw [y8w, if_neg c1, if_pos c2] : (yP (yP y ((192 + (c / 64)))) ((128 + ((c / 1) - (c / 1) / 64 * 64))) : MS) = y8w y c)) hP
      exact mu_ret0 S hr hk hP hS dM_writeEight_100
  · skip
    refine lv_aload_n hx hb dM_writeEight_10 rfl (lv_at hl 1 rfl) ?_
    refine lv_iload_n hx hb dM_writeEight_11 rfl (lv_at hl 2 rfl) ?_
    refine mu_V (As := [.int c]) (rest := []) (n := 1) (C := "SignReaderModel") S (cM_put l D h qb qt qa cI (y)  (c) hd hy (by omega)) k532 k2 k531 ks24 (by decide +kernel) ⟨rfl, rfl⟩ k529 (by decide) (xM_V ⟨hP, hK⟩) rfl rfl hl.1 (Nat.le_of_ble_eq_true rfl) ⟨Nat.le_refl _, Nat.le_refl _⟩ dM_writeEight_12 hS (fun _ h9 => h9) (fun H locs hP hS => ?_)
    have hP : va_P D CL (moZ h qb qt qa cI (yP y c)) H := hP
    have hP : va_P D CL (moZ h qb qt qa cI (y8w y c)) _ := va_Pe (congrArg (moZ h qb qt qa cI) (by rw [y8w, if_pos c1] : (yP y c : MS) = y8w y c)) hP
    exact mu_ret0 S hr hk hP hS dM_writeEight_15
end
section
/-! the reference: feed -/
def fV (a1 a2 a3 a4 a5 : Int32) (k : Nat) : Int32 := if 4 ≤ k then (if 8 ≤ k then (if 12 ≤ k then (if 16 ≤ k then a5 else a4) else a3) else a2) else a1
def fB (a1 a2 a3 a4 a5 : Int32) (k : Nat) : Int32 := (fV a1 a2 a3 a4 a5 k >>> ((24 - 8 * (nI k - nI k / 4 * 4)) &&& 31) : Int32) &&& 255
def yPush (y : MS) (b : Int32) : MS := (y.1, y.2.1 + 1, y.2.2.1, y.2.2.2.1, y.2.2.2.2.1, y.2.2.2.2.2.1, upd y.2.2.2.2.2.2.1 y.2.1 b, y.2.2.2.2.2.2.2)
def yF (a1 a2 a3 a4 a5 : Int32) : Nat → MS → MS
  | 0, y => y
  | k + 1, y => yPush (yF a1 a2 a3 a4 a5 k y) (fB a1 a2 a3 a4 a5 k)
theorem yF_n {a1 a2 a3 a4 a5 : Int32} {y : MS} : ∀ k : Nat, (yF a1 a2 a3 a4 a5 k y).2.1 = y.2.1 + k ∧ (yF a1 a2 a3 a4 a5 k y).2.2.1 = y.2.2.1 ∧ (yF a1 a2 a3 a4 a5 k y).2.2.2.2.1 = y.2.2.2.2.1
  | 0 => ⟨rfl, rfl, rfl⟩
  | k + 1 => by
    obtain ⟨h1, h2, h3⟩ := yF_n (a1 := a1) (a2 := a2) (a3 := a3) (a4 := a4) (a5 := a5) (y := y) k
    exact ⟨by show _ + 1 = _; rw [h1]; omega, h2, h3⟩
theorem yF_ok {a1 a2 a3 a4 a5 : Int32} {y : MS} {k : Nat} (hy : okY y) (hk : y.2.1 + k ≤ 4096) : okY (yF a1 a2 a3 a4 a5 k y) := by
  obtain ⟨h1, h2, h3⟩ := yF_n (a1 := a1) (a2 := a2) (a3 := a3) (a4 := a4) (a5 := a5) (y := y) k
  exact ⟨by rw [h1]; exact hk, by rw [h2]; exact hy.2.1, by rw [h3]; exact hy.2.2⟩
def yFeed (y : MS) (a1 a2 a3 a4 a5 : Int32) : MS := if y.2.1 + 20 ≤ 4096 then yF a1 a2 a3 a4 a5 20 (0, y.2) else (1, y.2)
theorem yFeed_ok {y : MS} {a1 a2 a3 a4 a5 : Int32} (hy : okY y) : okY (yFeed y a1 a2 a3 a4 a5) := by
  unfold yFeed
  split
  · next h => exact yF_ok (y := (0, y.2)) hy h
  · exact hy
set_option maxHeartbeats 4000000 in
set_option maxRecDepth 100000 in
theorem cM_feed (l : Launch) (D : va_G) (h qb qt qa : Nat) (cI : ClassId) (y : MS) (a1 a2 a3 a4 a5 : Int32) (hd : ap4 h qb qt qa) (hy : okY y) : Met l yM_feed (Cond.code yM_feed prog_3_method_5_code 8 none :: TB) { frames := 0, cells := 0, slots := 0, locals := 0 } (gx (xM D h qb qt qa cI y) [.ref h, .int a1, .int a2, .int a3, .int a4, .int a5]) (mQ (none) D (moZ h qb qt qa cI (yFeed y a1 a2 a3 a4 a5)) (A4 h qb qt qa)) 0 0 (A4 h qb qt qa) := by
  refine mt_of (by decide) ?_
  intro p e s m args below meth cd S hr hk hin hv
  obtain ⟨rfl, hX⟩ := hv
  have hP : va_P D CL (moZ h qb qt qa cI y) s.heap := hX.1
  have hK := hX.2
  have hy1 := hy.1
  have hy2 := hy.2.1
  have hy3 := hy.2.2
  have hS : va_S (A4 h qb qt qa) s.heap s.heap [] := va_S.rf
  have hx := S.1
  have hb := S.2.1
  have hown := S.2.2.2.1
  have hts := S.2.2.2.2
  have hl := lv_entry ([.ref h, .int a1, .int a2, .int a3, .int a4, .int a5]) (n := 8) (Nat.le_of_ble_eq_true rfl)
  rw [lg_entry_eq]
  generalize (lg_sl ([.ref h, .int a1, .int a2, .int a3, .int a4, .int a5]) ++ List.replicate (8 - (lg_sl ([.ref h, .int a1, .int a2, .int a3, .int a4, .int a5])).length) Slot.unset).toArray = ls at hl ⊢
  have hl : lv_has ls 8 [(0, .ref h), (1, .int a1), (2, .int a2), (3, .int a3), (4, .int a4), (5, .int a5)] := hl
  refine lv_aload_n hx hb dM_feed_0 rfl (lv_at hl 0 rfl) ?_
  refine lv_aload_n hx hb dM_feed_1 rfl (lv_at hl 0 rfl) ?_
  refine va_get (D := D) (ci := 1) (v := .int (nI y.2.1)) (C := "SignReaderModel") (T := T_M) (N := 9) hx hb hts i_M hown hK hP 0 rfl rfl 2 (by decide) (hts _ k393) (fun _ h9 => h9) rfl dM_feed_2 ?_
  refine lv_bipush (v := 20) hx hb dM_feed_5 (by decide) ?_
  refine lv_iadd hx hb dM_feed_7 ?_
  refine lv_sipush (v := 4096) hx hb dM_feed_8 (by decide) ?_
  refine lv_icmp_le (tgt := 18) hx hb dM_feed_11 (by decide) (fun c1 => ?_) (fun c1 => ?_)
  · skip
    rw [show (20 : Int32) = nI 20 from rfl, nI_add, show (4096 : Int32) = nI 4096 from rfl, nI_leI (by omega) (by omega)] at c1
    refine lv_iconst (v := 0) hx hb dM_feed_18 (by decide) ?_
    refine va_put (D := D) (ci := 1) (v := .int 0) (ty := .int) (C := "SignReaderModel") (T := T_M) (N := 9) hx hb hts i_M t_M t_M_ok n_M hown hK hP (moD hd) hS 0 rfl rfl 0 (by decide) (hts _ k391) (fun _ h9 => h9) rfl (by decide +kernel) rfl rfl (Nat.le_of_ble_eq_true rfl) dM_feed_19 (fun H locs hP _ hS => ?_)
    have hP : va_P D CL (moW h qb qt qa cI (0) (nI y.2.1) (nI y.2.2.1) (y.2.2.2.1) (nI y.2.2.2.2.1) (y.2.2.2.2.2.1) (y.2.2.2.2.2.2.1) (y.2.2.2.2.2.2.2.1) (y.2.2.2.2.2.2.2.2)) H := hP
    have hP : va_P D CL (moZ h qb qt qa cI ((0, y.2))) _ := va_Pe (rfl : moW h qb qt qa cI (0) (nI y.2.1) (nI y.2.2.1) (y.2.2.2.1) (nI y.2.2.2.2.1) (y.2.2.2.2.2.1) (y.2.2.2.2.2.2.1) (y.2.2.2.2.2.2.2.1) (y.2.2.2.2.2.2.2.2) = moZ h qb qt qa cI ((0, y.2))) hP
    refine lv_aload_n hx hb dM_feed_22 rfl (lv_at hl 0 rfl) ?_
    refine va_get (D := D) (ci := 1) (v := .int 0) (C := "SignReaderModel") (T := T_M) (N := 9) hx hb hts i_M hown hK hP 0 rfl rfl 0 (by decide) (hts _ k391) (fun _ h9 => h9) rfl dM_feed_23 ?_
    refine lv_if_le (tgt := 30) hx hb dM_feed_26 (by decide) (fun c2 => ?_) (fun c2 => absurd c2 (by decide))
    refine lv_iconst (v := 0) hx hb dM_feed_30 (by decide) ?_
    refine lv_istore (lv' := [(6, .int 0), (0, .ref h), (1, .int a1), (2, .int a2), (3, .int a3), (4, .int a4), (5, .int a5)]) hx hb dM_feed_31 hl (by decide) rfl (fun ls hl => ?_)
    have J33 : ∀ (fu : Nat) (x : Int32) (k : Nat) (H : Heap) (locs : List Loc), x = nI k → k ≤ 20 → 20 < k + fu → va_P D CL (moZ h qb qt qa cI (yF a1 a2 a3 a4 a5 k (0, y.2))) H → va_S (A4 h qb qt qa) s.heap H locs → ∀ ls : Array Slot, lv_has ls 8 [(0, .ref h), (1, .int a1), (2, .int a2), (3, .int a3), (4, .int a4), (5, .int a5), (6, .int x)] → W p l e { frames := 0, cells := 0, slots := 0, locals := 0 } s m [.ref h, .int a1, .int a2, .int a3, .int a4, .int a5].toArray below meth cd H locs 0 0 (MQ below (mQ (none) D (moZ h qb qt qa cI (yFeed y a1 a2 a3 a4 a5)) (A4 h qb qt qa)) [.ref h, .int a1, .int a2, .int a3, .int a4, .int a5].toArray s 0 0 (A4 h qb qt qa)) (F0 m 33 ls []) := by
      intro fu
      induction fu with
      | zero =>
        intro x k H locs hx9 hk9 hf9 hP hS ls hl
        exact absurd hf9 (by omega)
      | succ fu ih =>
        intro x k H locs hx9 hk9 hf9 hP hS ls hl
        subst hx9
        have hs9 : (yF a1 a2 a3 a4 a5 k (0, y.2)).2.1 = y.2.1 + k := (yF_n k).1
        refine lv_iload hx hb dM_feed_33 (lv_at hl 6 rfl) ?_
        refine lv_bipush (v := 20) hx hb dM_feed_35 (by decide) ?_
        refine lv_icmp_ge (tgt := 130) hx hb dM_feed_37 (by decide) (fun c3 => ?_) (fun c3 => ?_)
        · skip
          rw [show (20 : Int32) = nI 20 from rfl, nI_leI (by omega) (by omega)] at c3
          have hP : va_P D CL (moZ h qb qt qa cI (yFeed y a1 a2 a3 a4 a5)) _ := va_Pe (congrArg (moZ h qb qt qa cI) (by rw [yFeed, if_pos c1, show k = 20 by omega] : (yF a1 a2 a3 a4 a5 k (0, y.2) : MS) = yFeed y a1 a2 a3 a4 a5)) hP
          exact mu_ret0 S hr hk hP hS dM_feed_130
        · skip
          rw [show (20 : Int32) = nI 20 from rfl, nI_leI (by omega) (by omega)] at c3
          have J86 : ∀ (u : Int32), u = fV a1 a2 a3 a4 a5 k → ∀ ls : Array Slot, lv_has ls 8 [(0, .ref h), (1, .int a1), (2, .int a2), (3, .int a3), (4, .int a4), (5, .int a5), (6, .int (nI k))] → W p l e { frames := 0, cells := 0, slots := 0, locals := 0 } s m [.ref h, .int a1, .int a2, .int a3, .int a4, .int a5].toArray below meth cd H locs 0 0 (MQ below (mQ (none) D (moZ h qb qt qa cI (yFeed y a1 a2 a3 a4 a5)) (A4 h qb qt qa)) [.ref h, .int a1, .int a2, .int a3, .int a4, .int a5].toArray s 0 0 (A4 h qb qt qa)) (F0 m 86 ls [.int u]) := by
            intro u hu9 ls hl
            subst hu9
            refine lv_istore (lv' := [(7, .int (fV a1 a2 a3 a4 a5 k)), (0, .ref h), (1, .int a1), (2, .int a2), (3, .int a3), (4, .int a4), (5, .int a5), (6, .int (nI k))]) hx hb dM_feed_86 hl (by decide) rfl (fun ls hl => ?_)
            refine lv_aload_n hx hb dM_feed_88 rfl (lv_at hl 1 rfl) ?_
            refine va_get (D := D) (ci := 1) (v := .ref qb) (C := "SignReaderModel") (T := T_M) (N := 9) hx hb hts i_M hown hK hP 0 rfl rfl 1 (by decide) (hts _ k392) (fun _ h9 => h9) rfl dM_feed_89 ?_
            refine lv_aload_n hx hb dM_feed_92 rfl (lv_at hl 1 rfl) ?_
            refine va_get (D := D) (ci := 1) (v := .int (nI (yF a1 a2 a3 a4 a5 k (0, y.2)).2.1)) (C := "SignReaderModel") (T := T_M) (N := 9) hx hb hts i_M hown hK hP 0 rfl rfl 2 (by decide) (hts _ k393) (fun _ h9 => h9) rfl dM_feed_93 ?_
            refine lv_iload hx hb dM_feed_96 (lv_at hl 0 rfl) ?_
            refine lv_bipush (v := 24) hx hb dM_feed_98 (by decide) ?_
            refine lv_bipush (v := 8) hx hb dM_feed_100 (by decide) ?_
            refine lv_iload hx hb dM_feed_102 (lv_at hl 7 rfl) ?_
            refine lv_iconst (v := 4) hx hb dM_feed_104 (by decide) ?_
            refine lv_irem hx hb dM_feed_105 (by decide) ?_
            refine lv_imul hx hb dM_feed_106 ?_
            refine lv_isub hx hb dM_feed_107 ?_
            refine lv_ishr hx hb dM_feed_108 ?_
            refine lv_sipush (v := 255) hx hb dM_feed_109 (by decide) ?_
            refine lv_iand hx hb dM_feed_112 ?_
            refine va_iast hx hb hK hP (moD hd) hS 1 0 rfl rfl (by rw [hs9]; exact vp_in_nI (by omega) (by omega)) dM_feed_113 (fun H locs hP _ hS => ?_)
            have hP : va_P D CL (moW h qb qt qa cI ((yF a1 a2 a3 a4 a5 k (0, y.2)).1) (nI (yF a1 a2 a3 a4 a5 k (0, y.2)).2.1) (nI (yF a1 a2 a3 a4 a5 k (0, y.2)).2.2.1) ((yF a1 a2 a3 a4 a5 k (0, y.2)).2.2.2.1) (nI (yF a1 a2 a3 a4 a5 k (0, y.2)).2.2.2.2.1) ((yF a1 a2 a3 a4 a5 k (0, y.2)).2.2.2.2.2.1) (upd ((yF a1 a2 a3 a4 a5 k (0, y.2)).2.2.2.2.2.2.1) ((nI (yF a1 a2 a3 a4 a5 k (0, y.2)).2.1)).toNatClampNeg ((((fV a1 a2 a3 a4 a5 k) >>> ((24 - (8 * ((nI k) - (nI k) / 4 * 4))) &&& 31) : Int32) &&& 255))) ((yF a1 a2 a3 a4 a5 k (0, y.2)).2.2.2.2.2.2.2.1) ((yF a1 a2 a3 a4 a5 k (0, y.2)).2.2.2.2.2.2.2.2)) H := hP
            refine lv_aload_n hx hb dM_feed_114 rfl (lv_at hl 1 rfl) ?_
            refine lv_aload_n hx hb dM_feed_115 rfl (lv_at hl 1 rfl) ?_
            refine va_get (D := D) (ci := 1) (v := .int (nI (yF a1 a2 a3 a4 a5 k (0, y.2)).2.1)) (C := "SignReaderModel") (T := T_M) (N := 9) hx hb hts i_M hown hK hP 0 rfl rfl 2 (by decide) (hts _ k393) (fun _ h9 => h9) rfl dM_feed_116 ?_
            refine lv_iconst (v := 1) hx hb dM_feed_119 (by decide) ?_
            refine lv_iadd hx hb dM_feed_120 ?_
            refine va_put (D := D) (ci := 1) (v := .int ((nI (yF a1 a2 a3 a4 a5 k (0, y.2)).2.1) + 1)) (ty := .int) (C := "SignReaderModel") (T := T_M) (N := 9) hx hb hts i_M t_M t_M_ok n_M hown hK hP (moD hd) hS 0 rfl rfl 2 (by decide) (hts _ k393) (fun _ h9 => h9) rfl (by decide +kernel) rfl rfl (Nat.le_of_ble_eq_true rfl) dM_feed_121 (fun H locs hP _ hS => ?_)
            have hP : va_P D CL (moW h qb qt qa cI ((yF a1 a2 a3 a4 a5 k (0, y.2)).1) (((nI (yF a1 a2 a3 a4 a5 k (0, y.2)).2.1) + 1)) (nI (yF a1 a2 a3 a4 a5 k (0, y.2)).2.2.1) ((yF a1 a2 a3 a4 a5 k (0, y.2)).2.2.2.1) (nI (yF a1 a2 a3 a4 a5 k (0, y.2)).2.2.2.2.1) ((yF a1 a2 a3 a4 a5 k (0, y.2)).2.2.2.2.2.1) (upd ((yF a1 a2 a3 a4 a5 k (0, y.2)).2.2.2.2.2.2.1) ((nI (yF a1 a2 a3 a4 a5 k (0, y.2)).2.1)).toNatClampNeg ((((fV a1 a2 a3 a4 a5 k) >>> ((24 - (8 * ((nI k) - (nI k) / 4 * 4))) &&& 31) : Int32) &&& 255))) ((yF a1 a2 a3 a4 a5 k (0, y.2)).2.2.2.2.2.2.2.1) ((yF a1 a2 a3 a4 a5 k (0, y.2)).2.2.2.2.2.2.2.2)) H := hP
            have hP : va_P D CL (moZ h qb qt qa cI (yF a1 a2 a3 a4 a5 (k + 1) (0, y.2))) _ := va_Pe (by simp only [yF, yPush, fB, nI_1, nI_clamp (show (yF a1 a2 a3 a4 a5 k (0, y.2)).2.1 < 2 ^ 31 by rw [hs9]; show y.2.1 + k < 2 ^ 31; omega)] : moW h qb qt qa cI ((yF a1 a2 a3 a4 a5 k (0, y.2)).1) (((nI (yF a1 a2 a3 a4 a5 k (0, y.2)).2.1) + 1)) (nI (yF a1 a2 a3 a4 a5 k (0, y.2)).2.2.1) ((yF a1 a2 a3 a4 a5 k (0, y.2)).2.2.2.1) (nI (yF a1 a2 a3 a4 a5 k (0, y.2)).2.2.2.2.1) ((yF a1 a2 a3 a4 a5 k (0, y.2)).2.2.2.2.2.1) (upd ((yF a1 a2 a3 a4 a5 k (0, y.2)).2.2.2.2.2.2.1) ((nI (yF a1 a2 a3 a4 a5 k (0, y.2)).2.1)).toNatClampNeg ((((fV a1 a2 a3 a4 a5 k) >>> ((24 - (8 * ((nI k) - (nI k) / 4 * 4))) &&& 31) : Int32) &&& 255))) ((yF a1 a2 a3 a4 a5 k (0, y.2)).2.2.2.2.2.2.2.1) ((yF a1 a2 a3 a4 a5 k (0, y.2)).2.2.2.2.2.2.2.2) = moZ h qb qt qa cI (yF a1 a2 a3 a4 a5 (k + 1) (0, y.2))) hP
            refine lv_iinc (v := ((nI k) + 1)) (lv' := [(6, .int ((nI k) + 1)), (7, .int (fV a1 a2 a3 a4 a5 k)), (0, .ref h), (1, .int a1), (2, .int a2), (3, .int a3), (4, .int a4), (5, .int a5)]) hx hb dM_feed_124 hl (k := 7) rfl rfl (by decide) rfl (fun ls hl => ?_)
            refine lv_goto (tgt := 33) hx hb dM_feed_127 (by decide) ?_
            exact ih (((nI k) + 1)) (k + 1) (_) (_) (nI_1 k) (by omega) (by omega) (hP) (hS) ls (lv_sub hl [2, 3, 4, 5, 6, 7, 0] rfl) 
          refine lv_iload hx hb dM_feed_40 (lv_at hl 6 rfl) ?_
          refine lv_iconst (v := 4) hx hb dM_feed_42 (by decide) ?_
          refine lv_icmp_ge (tgt := 50) hx hb dM_feed_43 (by decide) (fun c4 => ?_) (fun c4 => ?_)
          · skip
            rw [show (4 : Int32) = nI 4 from rfl, nI_leI (by omega) (by omega)] at c4
            refine lv_iload hx hb dM_feed_50 (lv_at hl 6 rfl) ?_
            refine lv_bipush (v := 8) hx hb dM_feed_52 (by decide) ?_
            refine lv_icmp_ge (tgt := 61) hx hb dM_feed_54 (by decide) (fun c5 => ?_) (fun c5 => ?_)
            · skip
              rw [show (8 : Int32) = nI 8 from rfl, nI_leI (by omega) (by omega)] at c5
              refine lv_iload hx hb dM_feed_61 (lv_at hl 6 rfl) ?_
              refine lv_bipush (v := 12) hx hb dM_feed_63 (by decide) ?_
              refine lv_icmp_ge (tgt := 72) hx hb dM_feed_65 (by decide) (fun c6 => ?_) (fun c6 => ?_)
              · skip
                rw [show (12 : Int32) = nI 12 from rfl, nI_leI (by omega) (by omega)] at c6
                refine lv_iload hx hb dM_feed_72 (lv_at hl 6 rfl) ?_
                refine lv_bipush (v := 16) hx hb dM_feed_74 (by decide) ?_
                refine lv_icmp_ge (tgt := 84) hx hb dM_feed_76 (by decide) (fun c7 => ?_) (fun c7 => ?_)
                · skip
                  rw [show (16 : Int32) = nI 16 from rfl, nI_leI (by omega) (by omega)] at c7
                  refine lv_iload hx hb dM_feed_84 (lv_at hl 5 rfl) ?_
                  exact J86  (a5) (by simp only [fV, c4, c5, c6, c7, ↓reduceIte]) ls (lv_sub hl [0, 1, 2, 3, 4, 5, 6] rfl) 
                · skip
                  rw [show (16 : Int32) = nI 16 from rfl, nI_leI (by omega) (by omega)] at c7
                  refine lv_iload hx hb dM_feed_79 (lv_at hl 4 rfl) ?_
                  refine lv_goto (tgt := 86) hx hb dM_feed_81 (by decide) ?_
                  exact J86  (a4) (by simp only [fV, c4, c5, c6, c7, ↓reduceIte]) ls (lv_sub hl [0, 1, 2, 3, 4, 5, 6] rfl) 
              · skip
                rw [show (12 : Int32) = nI 12 from rfl, nI_leI (by omega) (by omega)] at c6
                refine lv_iload_n hx hb dM_feed_68 rfl (lv_at hl 3 rfl) ?_
                refine lv_goto (tgt := 86) hx hb dM_feed_69 (by decide) ?_
                exact J86  (a3) (by simp only [fV, c4, c5, c6, ↓reduceIte]) ls (lv_sub hl [0, 1, 2, 3, 4, 5, 6] rfl) 
            · skip
              rw [show (8 : Int32) = nI 8 from rfl, nI_leI (by omega) (by omega)] at c5
              refine lv_iload_n hx hb dM_feed_57 rfl (lv_at hl 2 rfl) ?_
              refine lv_goto (tgt := 86) hx hb dM_feed_58 (by decide) ?_
              exact J86  (a2) (by simp only [fV, c4, c5, ↓reduceIte]) ls (lv_sub hl [0, 1, 2, 3, 4, 5, 6] rfl) 
          · skip
            rw [show (4 : Int32) = nI 4 from rfl, nI_leI (by omega) (by omega)] at c4
            refine lv_iload_n hx hb dM_feed_46 rfl (lv_at hl 1 rfl) ?_
            refine lv_goto (tgt := 86) hx hb dM_feed_47 (by decide) ?_
            exact J86  (a1) (by simp only [fV, c4, ↓reduceIte]) ls (lv_sub hl [0, 1, 2, 3, 4, 5, 6] rfl) 
    exact J33 (21) (0) (0) (_) (_) (rfl) (by omega) (by omega) (hP) (hS) ls (lv_sub hl [1, 2, 3, 4, 5, 6, 0] rfl) 
  · skip
    rw [show (20 : Int32) = nI 20 from rfl, nI_add, show (4096 : Int32) = nI 4096 from rfl, nI_leI (by omega) (by omega)] at c1
    refine lv_iconst (v := 1) hx hb dM_feed_14 (by decide) ?_
    refine lv_goto (tgt := 19) hx hb dM_feed_15 (by decide) ?_
    refine va_put (D := D) (ci := 1) (v := .int 1) (ty := .int) (C := "SignReaderModel") (T := T_M) (N := 9) hx hb hts i_M t_M t_M_ok n_M hown hK hP (moD hd) hS 0 rfl rfl 0 (by decide) (hts _ k391) (fun _ h9 => h9) rfl (by decide +kernel) rfl rfl (Nat.le_of_ble_eq_true rfl) dM_feed_19 (fun H locs hP _ hS => ?_)
    have hP : va_P D CL (moW h qb qt qa cI (1) (nI y.2.1) (nI y.2.2.1) (y.2.2.2.1) (nI y.2.2.2.2.1) (y.2.2.2.2.2.1) (y.2.2.2.2.2.2.1) (y.2.2.2.2.2.2.2.1) (y.2.2.2.2.2.2.2.2)) H := hP
    have hP : va_P D CL (moZ h qb qt qa cI ((1, y.2))) _ := va_Pe (rfl : moW h qb qt qa cI (1) (nI y.2.1) (nI y.2.2.1) (y.2.2.2.1) (nI y.2.2.2.2.1) (y.2.2.2.2.2.1) (y.2.2.2.2.2.2.1) (y.2.2.2.2.2.2.2.1) (y.2.2.2.2.2.2.2.2) = moZ h qb qt qa cI ((1, y.2))) hP
    refine lv_aload_n hx hb dM_feed_22 rfl (lv_at hl 0 rfl) ?_
    refine va_get (D := D) (ci := 1) (v := .int 1) (C := "SignReaderModel") (T := T_M) (N := 9) hx hb hts i_M hown hK hP 0 rfl rfl 0 (by decide) (hts _ k391) (fun _ h9 => h9) rfl dM_feed_23 ?_
    refine lv_if_le (tgt := 30) hx hb dM_feed_26 (by decide) (fun c8 => absurd c8 (by decide)) (fun c8 => ?_)
    have hP : va_P D CL (moZ h qb qt qa cI (yFeed y a1 a2 a3 a4 a5)) _ := va_Pe (congrArg (moZ h qb qt qa cI) (by rw [yFeed, if_neg c1] : ((1, y.2) : MS) = yFeed y a1 a2 a3 a4 a5)) hP
    exact mu_ret0 S hr hk hP hS dM_feed_29
end
section
/-! the reference: read -/
theorem m16_le (f : Nat → Int32) (n k : Nat) (hi : Int32) (h : 0 ≤ (m16 f n k hi).1) : 1 ≤ (m16 f n k hi).1.toNatClampNeg ∧ (m16 f n k hi).1.toNatClampNeg ≤ 4 := by
  revert h
  unfold m16
  split
  · split
    · split
      · intro _; show 1 ≤ (4 : Int32).toNatClampNeg ∧ (4 : Int32).toNatClampNeg ≤ 4; decide
      · intro _; show 1 ≤ (2 : Int32).toNatClampNeg ∧ (2 : Int32).toNatClampNeg ≤ 4; decide
    · intro _; show 1 ≤ (2 : Int32).toNatClampNeg ∧ (2 : Int32).toNatClampNeg ≤ 4; decide
  · intro h; exact absurd h (by show ¬ (0 : Int32) ≤ -1; decide)
theorem m8_le (f : Nat → Int32) (n k : Nat) (h : 0 ≤ (m8 f n k).1) : 1 ≤ (m8 f n k).1.toNatClampNeg ∧ (m8 f n k).1.toNatClampNeg ≤ 4 := by
  have key : ∀ q : Int32 × Int32, q.1 = -1 → 0 ≤ q.1 → 1 ≤ q.1.toNatClampNeg ∧ q.1.toNatClampNeg ≤ 4 := by
    intro q e h
    rw [e] at h
    exact absurd h (by decide)
  revert h
  unfold m8
  split
  · split
    · exact key _ rfl
    · next hN =>
      split
      · have h4 := m8N_le (f k)
        have h1 : 1 ≤ m8N (f k) := by
          rcases Nat.eq_zero_or_pos (m8N (f k)) with q | q
          · exact absurd (by rw [q]; rfl) hN
          · exact q
        cases m8l f k (m8N (f k) - 1) 1 (f k - f k / m8d (m8N (f k)) * m8d (m8N (f k))) with
        | none => exact key _ rfl
        | some v =>
          rw [m8F]
          split
          · intro _
            show 1 ≤ (nI (m8N (f k))).toNatClampNeg ∧ (nI (m8N (f k))).toNatClampNeg ≤ 4
            rw [nI_clamp (by omega)]
            omega
          · exact key _ rfl
      · exact key _ rfl
  · intro _; show 1 ≤ (1 : Int32).toNatClampNeg ∧ (1 : Int32).toNatClampNeg ≤ 4; decide
def tkY (w : Int32) (y : MS) (k : Nat) : MS := if w = 1 then y16 y k 1 else if w = 2 then y16 y k 0 else y8 y k
def tkR (w : Int32) (y : MS) (k : Nat) : Int32 := if w = 1 then (m16 y.2.2.2.2.2.2.1 y.2.1 k 1).1 else if w = 2 then (m16 y.2.2.2.2.2.2.1 y.2.1 k 0).1 else (m8 y.2.2.2.2.2.2.1 y.2.1 k).1
theorem tkR_le (w : Int32) (y : MS) (k : Nat) (h : 0 ≤ tkR w y k) : 1 ≤ (tkR w y k).toNatClampNeg ∧ (tkR w y k).toNatClampNeg ≤ 4 := by
  revert h
  unfold tkR
  split
  · exact m16_le _ _ _ _
  · split
    · exact m16_le _ _ _ _
    · exact m8_le _ _ _
theorem tkY_eq (w : Int32) (y : MS) (k : Nat) : ∃ v : Int32, tkY w y k = setF y v := by
  unfold tkY
  split
  · exact ⟨_, rfl⟩
  · split
    · exact ⟨_, rfl⟩
    · exact ⟨_, rfl⟩
theorem tkY_n (w : Int32) (y : MS) (k : Nat) : (tkY w y k).2.1 = y.2.1 := by obtain ⟨v, e⟩ := tkY_eq w y k; rw [e]; rfl
theorem tkY_ok {w : Int32} {y : MS} {k : Nat} (hy : okY y) : okY (tkY w y k) := by obtain ⟨v, e⟩ := tkY_eq w y k; rw [e]; exact hy
def setA (y : MS) (j : Nat) (v : Int32) : MS := (y.1, y.2.1, y.2.2.1, y.2.2.2.1, y.2.2.2.2.1, y.2.2.2.2.2.1, y.2.2.2.2.2.2.1, y.2.2.2.2.2.2.2.1, upd y.2.2.2.2.2.2.2.2 j v)
theorem setA_ok {y : MS} {j : Nat} {v : Int32} (hy : okY y) : okY (setA y j v) := hy
theorem addT {k : Nat} {t : Int32} (h : 0 ≤ t) : nI k + t = nI (k + t.toNatClampNeg) := by rw [← nI_add, nI_nat h]
theorem nI_m1 {k : Nat} (h : k < 2 ^ 31) : ¬ nI k = -1 := by
  intro e
  have := nI_pos' h
  rw [e] at this
  exact absurd this (by decide)
def yRd (w : Int32) : Nat → Nat → Nat → Int32 → MS → Int32 × Nat × MS
  | 0, _, j, _, y => (-1, j, y)
  | u + 1, k, j, b, y => if y.2.1 ≤ k then (-1, j, y) else if 0 ≤ tkR w y k then (if sChar (tkY w y k).2.2.2.2.2.1 = true then (if (tkY w y k).2.2.2.2.2.1 = 10 then (if b = 0 then yRd w u (k + (tkR w y k).toNatClampNeg) (j + 1) (if (tkY w y k).2.2.2.2.2.1 = 13 then 1 else 0) (setA (tkY w y k) j (if (tkY w y k).2.2.2.2.2.1 = 13 then 10 else (tkY w y k).2.2.2.2.2.1)) else yRd w u (k + (tkR w y k).toNatClampNeg) j (if (tkY w y k).2.2.2.2.2.1 = 13 then 1 else 0) (tkY w y k)) else yRd w u (k + (tkR w y k).toNatClampNeg) (j + 1) (if (tkY w y k).2.2.2.2.2.1 = 13 then 1 else 0) (setA (tkY w y k) j (if (tkY w y k).2.2.2.2.2.1 = 13 then 10 else (tkY w y k).2.2.2.2.2.1))) else (nI k, j, tkY w y k)) else (nI k, j, tkY w y k)
def stW (w : Int32) : Nat := if w = 0 then 0 else if w = 3 then 3 else 2
def yRR (y : MS) : Int32 × Nat × MS := yRd (mWay y.2.2.2.2.2.2.1 y.2.1) 4110 (stW (mWay y.2.2.2.2.2.2.1 y.2.1)) 0 0 (0, y.2)
def cpT (y : MS) (i : Nat) : Nat → Int32 := fun q => if q < i then y.2.2.2.2.2.2.2.2 q else y.2.2.2.2.2.2.2.1 q
def cpY (y : MS) (i : Nat) : MS := (y.1, y.2.1, y.2.2.1, y.2.2.2.1, y.2.2.2.2.1, y.2.2.2.2.2.1, y.2.2.2.2.2.2.1, cpT y i, y.2.2.2.2.2.2.2.2)
theorem cpY_ok {y : MS} {i : Nat} (hy : okY y) : okY (cpY y i) := hy
theorem cpT_s (y : MS) (i : Nat) : upd (cpT y i) i (y.2.2.2.2.2.2.2.2 i) = cpT y (i + 1) := by
  funext q
  simp only [upd, cpT]
  by_cases h : q = i
  · subst h; simp
  · by_cases h2 : q < i
    · simp [h, h2, show q < i + 1 by omega]
    · simp [h, h2, show ¬ q < i + 1 by omega]
theorem cpT_0 (y : MS) : cpT y 0 = y.2.2.2.2.2.2.2.1 := by funext q; simp [cpT]
def yRf (y : MS) : MS := (y.1, 0, y.2.2)
def yFin (y : MS) (j : Nat) (w : Int32) : MS := (y.1, 0, j, w, y.2.2.2.2.1, y.2.2.2.2.2.1, y.2.2.2.2.2.2.1, cpT y j, y.2.2.2.2.2.2.2.2)
theorem moZ_f {h qb qt qa : Nat} {cI : ClassId} (y : MS) (j : Nat) (w : Int32) : moW h qb qt qa cI y.1 0 (nI j) w (nI y.2.2.2.2.1) y.2.2.2.2.2.1 y.2.2.2.2.2.2.1 (cpT y j) y.2.2.2.2.2.2.2.2 = moZ h qb qt qa cI (yFin y j w) := by
  show _ = moW h qb qt qa cI _ (nI 0) _ _ _ _ _ _ _
  rw [nI_0]
  rfl
theorem moZ_r {h qb qt qa : Nat} {cI : ClassId} (y : MS) : moW h qb qt qa cI y.1 0 (nI y.2.2.1) y.2.2.2.1 (nI y.2.2.2.2.1) y.2.2.2.2.2.1 y.2.2.2.2.2.2.1 y.2.2.2.2.2.2.2.1 y.2.2.2.2.2.2.2.2 = moZ h qb qt qa cI (yRf y) := by
  show _ = moW h qb qt qa cI _ (nI 0) _ _ _ _ _ _ _
  rw [nI_0]
  rfl
def yRead (y : MS) : MS := if (yRR y).1 = -1 then yFin (yRR y).2.2 (yRR y).2.1 (mWay y.2.2.2.2.2.2.1 y.2.1) else yRf (yRR y).2.2
set_option maxHeartbeats 4000000 in
set_option maxRecDepth 100000 in
theorem cM_read (l : Launch) (D : va_G) (h qb qt qa : Nat) (cI : ClassId) (y : MS) (hd : ap4 h qb qt qa) (hy : okY y) : Met l yM_read (Cond.code yM_read prog_3_method_15_code 6 (some .int) :: TB) { frames := 2, cells := 0, slots := 0, locals := 45 } (gx (xM D h qb qt qa cI y) [.ref h]) (mQ (some (.int ((yRR y).1))) D (moZ h qb qt qa cI (yRead y)) (A4 h qb qt qa)) 0 0 (A4 h qb qt qa) := by
  refine mt_of (by decide) ?_
  intro p e s m args below meth cd S hr hk hin hv
  obtain ⟨rfl, hX⟩ := hv
  have hP : va_P D CL (moZ h qb qt qa cI y) s.heap := hX.1
  have hK := hX.2
  have hy1 := hy.1
  have hy2 := hy.2.1
  have hy3 := hy.2.2
  have hS : va_S (A4 h qb qt qa) s.heap s.heap [] := va_S.rf
  have hx := S.1
  have hb := S.2.1
  have hown := S.2.2.2.1
  have hts := S.2.2.2.2
  have hl := lv_entry ([.ref h]) (n := 6) (Nat.le_of_ble_eq_true rfl)
  rw [lg_entry_eq]
  generalize (lg_sl ([.ref h]) ++ List.replicate (6 - (lg_sl ([.ref h])).length) Slot.unset).toArray = ls at hl ⊢
  have hl : lv_has ls 6 [(0, .ref h)] := hl
  refine lv_aload_n hx hb dM_read_0 rfl (lv_at hl 0 rfl) ?_
  refine lv_iconst (v := 0) hx hb dM_read_1 (by decide) ?_
  refine va_put (D := D) (ci := 1) (v := .int 0) (ty := .int) (C := "SignReaderModel") (T := T_M) (N := 9) hx hb hts i_M t_M t_M_ok n_M hown hK hP (moD hd) hS 0 rfl rfl 0 (by decide) (hts _ k391) (fun _ h9 => h9) rfl (by decide +kernel) rfl rfl (Nat.le_of_ble_eq_true rfl) dM_read_2 (fun H locs hP _ hS => ?_)
  have hP : va_P D CL (moW h qb qt qa cI (0) (nI y.2.1) (nI y.2.2.1) (y.2.2.2.1) (nI y.2.2.2.2.1) (y.2.2.2.2.2.1) (y.2.2.2.2.2.2.1) (y.2.2.2.2.2.2.2.1) (y.2.2.2.2.2.2.2.2)) H := hP
  have hP : va_P D CL (moZ h qb qt qa cI ((0, y.2))) _ := va_Pe (rfl : moW h qb qt qa cI (0) (nI y.2.1) (nI y.2.2.1) (y.2.2.2.1) (nI y.2.2.2.2.1) (y.2.2.2.2.2.1) (y.2.2.2.2.2.2.1) (y.2.2.2.2.2.2.2.1) (y.2.2.2.2.2.2.2.2) = moZ h qb qt qa cI ((0, y.2))) hP
  refine lv_aload_n hx hb dM_read_5 rfl (lv_at hl 0 rfl) ?_
  refine ro_V (r := (mWay ((0, y.2)).2.2.2.2.2.2.1 ((0, y.2)).2.1)) (As := []) (rest := []) (n := 0) (C := "SignReaderModel") S (cM_wayOfBytes l D h qb qt qa cI ((0, y.2)) (y0_ok hy) ) k446 k2 k445 ks18 (by decide +kernel) ⟨rfl, rfl⟩ k443 (by decide) (xM_V ⟨hP, hK⟩) rfl rfl hl.1 (Nat.le_of_ble_eq_true rfl) ⟨Nat.le_refl _, Nat.le_refl _⟩ dM_read_6 ?_
  refine lv_istore_n (lv' := [(1, .int (mWay ((0, y.2)).2.2.2.2.2.2.1 ((0, y.2)).2.1)), (0, .ref h)]) hx hb dM_read_9 rfl hl (by decide) rfl (fun ls hl => ?_)
  have J28 : ∀ (x : Int32), x = nI (stW (mWay y.2.2.2.2.2.2.1 y.2.1)) → ∀ ls : Array Slot, lv_has ls 6 [(1, .int (mWay ((0, y.2)).2.2.2.2.2.2.1 ((0, y.2)).2.1)), (0, .ref h)] → W p l e { frames := 2, cells := 0, slots := 0, locals := 45 } s m [.ref h].toArray below meth cd H locs 0 0 (MQ below (mQ (some (.int ((yRR y).1))) D (moZ h qb qt qa cI (yRead y)) (A4 h qb qt qa)) [.ref h].toArray s 0 0 (A4 h qb qt qa)) (F0 m 28 ls [.int x]) := by
    intro x hx9 ls hl
    subst hx9
    refine lv_istore_n (lv' := [(2, .int (nI (stW (mWay y.2.2.2.2.2.2.1 y.2.1)))), (1, .int (mWay ((0, y.2)).2.2.2.2.2.2.1 ((0, y.2)).2.1)), (0, .ref h)]) hx hb dM_read_28 rfl hl (by decide) rfl (fun ls hl => ?_)
    refine lv_iconst (v := 0) hx hb dM_read_29 (by decide) ?_
    refine lv_istore_n (lv' := [(3, .int 0), (2, .int (nI (stW (mWay y.2.2.2.2.2.2.1 y.2.1)))), (1, .int (mWay ((0, y.2)).2.2.2.2.2.2.1 ((0, y.2)).2.1)), (0, .ref h)]) hx hb dM_read_30 rfl hl (by decide) rfl (fun ls hl => ?_)
    refine lv_iconst (v := 0) hx hb dM_read_31 (by decide) ?_
    refine lv_istore (lv' := [(4, .int 0), (3, .int 0), (2, .int (nI (stW (mWay y.2.2.2.2.2.2.1 y.2.1)))), (1, .int (mWay ((0, y.2)).2.2.2.2.2.2.1 ((0, y.2)).2.1)), (0, .ref h)]) hx hb dM_read_32 hl (by decide) rfl (fun ls hl => ?_)
    have J34 : ∀ (fu : Nat) (i9 : Int32) (x : Int32) (b : Int32) (k : Nat) (j : Nat) (y9 : MS) (H : Heap) (locs : List Loc), i9 = nI k → x = nI j → k ≤ 4100 → j ≤ k ∧ j ≤ 4096 → y9.2.1 = y.2.1 → okY y9 → 4100 < k + fu → yRR y = yRd (mWay y.2.2.2.2.2.2.1 y.2.1) fu k j b y9 → va_P D CL (moZ h qb qt qa cI y9) H → va_S (A4 h qb qt qa) s.heap H locs → ∀ ls : Array Slot, lv_has ls 6 [(1, .int (mWay ((0, y.2)).2.2.2.2.2.2.1 ((0, y.2)).2.1)), (0, .ref h), (2, .int i9), (3, .int x), (4, .int b)] → W p l e { frames := 2, cells := 0, slots := 0, locals := 45 } s m [.ref h].toArray below meth cd H locs 0 0 (MQ below (mQ (some (.int ((yRR y).1))) D (moZ h qb qt qa cI (yRead y)) (A4 h qb qt qa)) [.ref h].toArray s 0 0 (A4 h qb qt qa)) (F0 m 34 ls []) := by
      intro fu
      induction fu with
      | zero =>
        intro i9 x b k j y9 H locs hi9 hx9 hk9 hj9 hsz hyo hf9 hR hP hS ls hl
        exact absurd hf9 (by omega)
      | succ fu ih =>
        intro i9 x b k j y9 H locs hi9 hx9 hk9 hj9 hsz hyo hf9 hR hP hS ls hl
        subst hi9
        subst hx9
        refine lv_iload_n hx hb dM_read_34 rfl (lv_at hl 2 rfl) ?_
        refine lv_aload_n hx hb dM_read_35 rfl (lv_at hl 1 rfl) ?_
        refine va_get (D := D) (ci := 1) (v := .int (nI y9.2.1)) (C := "SignReaderModel") (T := T_M) (N := 9) hx hb hts i_M hown hK hP 0 rfl rfl 2 (by decide) (hts _ k393) (fun _ h9 => h9) rfl dM_read_36 ?_
        refine lv_icmp_ge (tgt := 165) hx hb dM_read_39 (by decide) (fun c1 => ?_) (fun c1 => ?_)
        · skip
          rw [nI_leI (by have := hyo.1; omega) (by omega)] at c1
          simp only [yRd] at hR
          rw [if_pos c1] at hR
          refine lv_iconst (v := 0) hx hb dM_read_165 (by decide) ?_
          refine lv_istore (lv' := [(5, .int 0), (1, .int (mWay ((0, y.2)).2.2.2.2.2.2.1 ((0, y.2)).2.1)), (0, .ref h), (2, .int (nI k)), (3, .int (nI j)), (4, .int b)]) hx hb dM_read_166 hl (by decide) rfl (fun ls hl => ?_)
          have J168 : ∀ (fu : Nat) (x5 : Int32) (i : Nat) (H : Heap) (locs : List Loc), x5 = nI i → i ≤ j → j < i + fu → va_P D CL (moZ h qb qt qa cI (cpY y9 i)) H → va_S (A4 h qb qt qa) s.heap H locs → ∀ ls : Array Slot, lv_has ls 6 [(1, .int (mWay ((0, y.2)).2.2.2.2.2.2.1 ((0, y.2)).2.1)), (0, .ref h), (2, .int (nI k)), (3, .int (nI j)), (4, .int b), (5, .int x5)] → W p l e { frames := 2, cells := 0, slots := 0, locals := 45 } s m [.ref h].toArray below meth cd H locs 0 0 (MQ below (mQ (some (.int ((yRR y).1))) D (moZ h qb qt qa cI (yRead y)) (A4 h qb qt qa)) [.ref h].toArray s 0 0 (A4 h qb qt qa)) (F0 m 168 ls []) := by
            intro fu
            induction fu with
            | zero =>
              intro x5 i H locs hx5 hi5 hf5 hP hS ls hl
              exact absurd hf5 (by omega)
            | succ fu ih =>
              intro x5 i H locs hx5 hi5 hf5 hP hS ls hl
              subst hx5
              refine lv_iload hx hb dM_read_168 (lv_at hl 5 rfl) ?_
              refine lv_iload_n hx hb dM_read_170 rfl (lv_at hl 3 rfl) ?_
              refine lv_icmp_ge (tgt := 194) hx hb dM_read_171 (by decide) (fun c2 => ?_) (fun c2 => ?_)
              · skip
                rw [nI_leI (by omega) (by omega)] at c2
                refine lv_aload_n hx hb dM_read_194 rfl (lv_at hl 1 rfl) ?_
                refine lv_iload_n hx hb dM_read_195 rfl (lv_at hl 3 rfl) ?_
                refine va_put (D := D) (ci := 1) (v := .int (nI j)) (ty := .int) (C := "SignReaderModel") (T := T_M) (N := 9) hx hb hts i_M t_M t_M_ok n_M hown hK hP (moD hd) hS 0 rfl rfl 4 (by decide) (hts _ k395) (fun _ h9 => h9) rfl (by decide +kernel) rfl rfl (Nat.le_of_ble_eq_true rfl) dM_read_196 (fun H locs hP _ hS => ?_)
                have hP : va_P D CL (moW h qb qt qa cI (y9.1) (nI y9.2.1) ((nI j)) (y9.2.2.2.1) (nI y9.2.2.2.2.1) (y9.2.2.2.2.2.1) (y9.2.2.2.2.2.2.1) (cpT y9 i) (y9.2.2.2.2.2.2.2.2)) H := hP
                refine lv_aload_n hx hb dM_read_199 rfl (lv_at hl 1 rfl) ?_
                refine lv_iload_n hx hb dM_read_200 rfl (lv_at hl 0 rfl) ?_
                refine va_put (D := D) (ci := 1) (v := .int (mWay ((0, y.2)).2.2.2.2.2.2.1 ((0, y.2)).2.1)) (ty := .int) (C := "SignReaderModel") (T := T_M) (N := 9) hx hb hts i_M t_M t_M_ok n_M hown hK hP (moD hd) hS 0 rfl rfl 5 (by decide) (hts _ k396) (fun _ h9 => h9) rfl (by decide +kernel) rfl rfl (Nat.le_of_ble_eq_true rfl) dM_read_201 (fun H locs hP _ hS => ?_)
                have hP : va_P D CL (moW h qb qt qa cI (y9.1) (nI y9.2.1) ((nI j)) ((mWay ((0, y.2)).2.2.2.2.2.2.1 ((0, y.2)).2.1)) (nI y9.2.2.2.2.1) (y9.2.2.2.2.2.1) (y9.2.2.2.2.2.2.1) (cpT y9 i) (y9.2.2.2.2.2.2.2.2)) H := hP
                refine lv_aload_n hx hb dM_read_204 rfl (lv_at hl 1 rfl) ?_
                refine lv_iconst (v := 0) hx hb dM_read_205 (by decide) ?_
                refine va_put (D := D) (ci := 1) (v := .int 0) (ty := .int) (C := "SignReaderModel") (T := T_M) (N := 9) hx hb hts i_M t_M t_M_ok n_M hown hK hP (moD hd) hS 0 rfl rfl 2 (by decide) (hts _ k393) (fun _ h9 => h9) rfl (by decide +kernel) rfl rfl (Nat.le_of_ble_eq_true rfl) dM_read_206 (fun H locs hP _ hS => ?_)
                have hP : va_P D CL (moW h qb qt qa cI (y9.1) (0) ((nI j)) ((mWay ((0, y.2)).2.2.2.2.2.2.1 ((0, y.2)).2.1)) (nI y9.2.2.2.2.1) (y9.2.2.2.2.2.1) (y9.2.2.2.2.2.2.1) (cpT y9 i) (y9.2.2.2.2.2.2.2.2)) H := hP
                refine lv_iconst (v := (-1)) hx hb dM_read_209 (by decide) ?_
                have hP : va_P D CL (moZ h qb qt qa cI (yRead y)) _ := va_Pe (by rw [yRead, hR, if_pos rfl, show i = j by omega]; exact moZ_f _ _ _ : moW h qb qt qa cI (y9.1) (0) ((nI j)) ((mWay ((0, y.2)).2.2.2.2.2.2.1 ((0, y.2)).2.1)) (nI y9.2.2.2.2.1) (y9.2.2.2.2.2.1) (y9.2.2.2.2.2.2.1) (cpT y9 i) (y9.2.2.2.2.2.2.2.2) = moZ h qb qt qa cI (yRead y)) hP
                exact mu_retI S hr hk (by rw [hR]) hP hS dM_read_210
              · skip
                rw [nI_leI (by omega) (by omega)] at c2
                refine lv_aload_n hx hb dM_read_174 rfl (lv_at hl 1 rfl) ?_
                refine va_get (D := D) (ci := 1) (v := .ref qt) (C := "SignReaderModel") (T := T_M) (N := 9) hx hb hts i_M hown hK hP 0 rfl rfl 3 (by decide) (hts _ k394) (fun _ h9 => h9) rfl dM_read_175 ?_
                refine lv_iload hx hb dM_read_178 (lv_at hl 5 rfl) ?_
                refine lv_aload_n hx hb dM_read_180 rfl (lv_at hl 1 rfl) ?_
                refine va_get (D := D) (ci := 1) (v := .ref qa) (C := "SignReaderModel") (T := T_M) (N := 9) hx hb hts i_M hown hK hP 0 rfl rfl 6 (by decide) (hts _ k397) (fun _ h9 => h9) rfl dM_read_181 ?_
                refine lv_iload hx hb dM_read_184 (lv_at hl 5 rfl) ?_
                refine va_iald (f := (y9.2.2.2.2.2.2.2.2)) hx hb hK hP 3 0 rfl rfl (vp_in_nI (by omega) (by omega)) dM_read_186 ?_
                rw [nI_clamp (n := i) (by omega)]
                refine va_iast hx hb hK hP (moD hd) hS 2 0 rfl rfl (vp_in_nI (by omega) (by omega)) dM_read_187 (fun H locs hP _ hS => ?_)
                have hP : va_P D CL (moW h qb qt qa cI (y9.1) (nI y9.2.1) (nI y9.2.2.1) (y9.2.2.2.1) (nI y9.2.2.2.2.1) (y9.2.2.2.2.2.1) (y9.2.2.2.2.2.2.1) (upd (cpT y9 i) ((nI i)).toNatClampNeg (((y9.2.2.2.2.2.2.2.2) i))) (y9.2.2.2.2.2.2.2.2)) H := hP
                have hP : va_P D CL (moZ h qb qt qa cI (cpY y9 (i + 1))) _ := va_Pe (by simp only [cpY, nI_clamp (show i < 2 ^ 31 by omega), cpT_s] : moW h qb qt qa cI (y9.1) (nI y9.2.1) (nI y9.2.2.1) (y9.2.2.2.1) (nI y9.2.2.2.2.1) (y9.2.2.2.2.2.1) (y9.2.2.2.2.2.2.1) (upd (cpT y9 i) ((nI i)).toNatClampNeg (((y9.2.2.2.2.2.2.2.2) i))) (y9.2.2.2.2.2.2.2.2) = moZ h qb qt qa cI (cpY y9 (i + 1))) hP
                refine lv_iinc (v := ((nI i) + 1)) (lv' := [(5, .int ((nI i) + 1)), (1, .int (mWay ((0, y.2)).2.2.2.2.2.2.1 ((0, y.2)).2.1)), (0, .ref h), (2, .int (nI k)), (3, .int (nI j)), (4, .int b)]) hx hb dM_read_188 hl (k := 5) rfl rfl (by decide) rfl (fun ls hl => ?_)
                refine lv_goto (tgt := 168) hx hb dM_read_191 (by decide) ?_
                exact ih (((nI i) + 1)) (i + 1) (_) (_) (nI_1 i) (by omega) (by omega) (hP) (hS) ls (lv_sub hl [1, 2, 3, 4, 5, 0] rfl) 
          exact J168 (j + 1) (0) (0) (_) (_) (rfl) (by omega) (by omega) (by rw [cpY, cpT_0]; exact hP) (hS) ls (lv_sub hl [1, 2, 3, 4, 5, 0] rfl) 
        · skip
          rw [nI_leI (by have := hyo.1; omega) (by omega)] at c1
          simp only [yRd] at hR
          rw [if_neg c1] at hR
          have J75 : ∀ (t9 : Int32) (Y : MS) (H : Heap) (locs : List Loc), t9 = tkR (mWay y.2.2.2.2.2.2.1 y.2.1) y9 k → Y = tkY (mWay y.2.2.2.2.2.2.1 y.2.1) y9 k → va_P D CL (moZ h qb qt qa cI Y) H → va_S (A4 h qb qt qa) s.heap H locs → ∀ ls : Array Slot, lv_has ls 6 [(1, .int (mWay ((0, y.2)).2.2.2.2.2.2.1 ((0, y.2)).2.1)), (0, .ref h), (2, .int (nI k)), (3, .int (nI j)), (4, .int b)] → W p l e { frames := 2, cells := 0, slots := 0, locals := 45 } s m [.ref h].toArray below meth cd H locs 0 0 (MQ below (mQ (some (.int ((yRR y).1))) D (moZ h qb qt qa cI (yRead y)) (A4 h qb qt qa)) [.ref h].toArray s 0 0 (A4 h qb qt qa)) (F0 m 75 ls [.int t9]) := by
            intro t9 Y H locs ht9 hY9 hP hS ls hl
            subst ht9
            subst hY9
            have hT9 := tkR_le (mWay y.2.2.2.2.2.2.1 y.2.1) y9 k
            refine lv_istore (lv' := [(5, .int (tkR (mWay y.2.2.2.2.2.2.1 y.2.1) y9 k)), (1, .int (mWay ((0, y.2)).2.2.2.2.2.2.1 ((0, y.2)).2.1)), (0, .ref h), (2, .int (nI k)), (3, .int (nI j)), (4, .int b)]) hx hb dM_read_75 hl (by decide) rfl (fun ls hl => ?_)
            refine lv_iload hx hb dM_read_77 (lv_at hl 0 rfl) ?_
            refine lv_if_lt (tgt := 92) hx hb dM_read_79 (by decide) (fun c3 => ?_) (fun c3 => ?_)
            · skip
              replace c3 := Int32.not_le.mpr c3
              refine lv_aload_n hx hb dM_read_92 rfl (lv_at hl 2 rfl) ?_
              refine lv_iconst (v := 0) hx hb dM_read_93 (by decide) ?_
              refine va_put (D := D) (ci := 1) (v := .int 0) (ty := .int) (C := "SignReaderModel") (T := T_M) (N := 9) hx hb hts i_M t_M t_M_ok n_M hown hK hP (moD hd) hS 0 rfl rfl 2 (by decide) (hts _ k393) (fun _ h9 => h9) rfl (by decide +kernel) rfl rfl (Nat.le_of_ble_eq_true rfl) dM_read_94 (fun H locs hP _ hS => ?_)
              have hP : va_P D CL (moW h qb qt qa cI ((tkY (mWay y.2.2.2.2.2.2.1 y.2.1) y9 k).1) (0) (nI (tkY (mWay y.2.2.2.2.2.2.1 y.2.1) y9 k).2.2.1) ((tkY (mWay y.2.2.2.2.2.2.1 y.2.1) y9 k).2.2.2.1) (nI (tkY (mWay y.2.2.2.2.2.2.1 y.2.1) y9 k).2.2.2.2.1) ((tkY (mWay y.2.2.2.2.2.2.1 y.2.1) y9 k).2.2.2.2.2.1) ((tkY (mWay y.2.2.2.2.2.2.1 y.2.1) y9 k).2.2.2.2.2.2.1) ((tkY (mWay y.2.2.2.2.2.2.1 y.2.1) y9 k).2.2.2.2.2.2.2.1) ((tkY (mWay y.2.2.2.2.2.2.1 y.2.1) y9 k).2.2.2.2.2.2.2.2)) H := hP
              refine lv_iload_n hx hb dM_read_97 rfl (lv_at hl 3 rfl) ?_
              have hP : va_P D CL (moZ h qb qt qa cI (yRead y)) _ := va_Pe (by rw [yRead, hR]; simp only [if_neg c3]; rw [if_neg (nI_m1 (by omega))]; exact moZ_r _ : moW h qb qt qa cI ((tkY (mWay y.2.2.2.2.2.2.1 y.2.1) y9 k).1) (0) (nI (tkY (mWay y.2.2.2.2.2.2.1 y.2.1) y9 k).2.2.1) ((tkY (mWay y.2.2.2.2.2.2.1 y.2.1) y9 k).2.2.2.1) (nI (tkY (mWay y.2.2.2.2.2.2.1 y.2.1) y9 k).2.2.2.2.1) ((tkY (mWay y.2.2.2.2.2.2.1 y.2.1) y9 k).2.2.2.2.2.1) ((tkY (mWay y.2.2.2.2.2.2.1 y.2.1) y9 k).2.2.2.2.2.2.1) ((tkY (mWay y.2.2.2.2.2.2.1 y.2.1) y9 k).2.2.2.2.2.2.2.1) ((tkY (mWay y.2.2.2.2.2.2.1 y.2.1) y9 k).2.2.2.2.2.2.2.2) = moZ h qb qt qa cI (yRead y)) hP
              exact mu_retI S hr hk (by rw [hR]; simp only [if_neg c3]) hP hS dM_read_98
            · skip
              replace c3 := Int32.not_lt.mp c3
              have hT8 := hT9 c3
              refine lv_aload_n hx hb dM_read_82 rfl (lv_at hl 2 rfl) ?_
              refine va_get (D := D) (ci := 1) (v := .int ((tkY (mWay y.2.2.2.2.2.2.1 y.2.1) y9 k).2.2.2.2.2.1)) (C := "SignReaderModel") (T := T_M) (N := 9) hx hb hts i_M hown hK hP 0 rfl rfl 8 (by decide) (hts _ k399) (fun _ h9 => h9) rfl dM_read_83 ?_
              refine ro_S (As := [.int ((tkY (mWay y.2.2.2.2.2.2.1 y.2.1) y9 k).2.2.2.2.2.1)]) (rest := []) (n := 1) S (cM_isCharacter l (((tkY (mWay y.2.2.2.2.2.2.1 y.2.1) y9 k).2.2.2.2.2.1))) k476 k2 k475 (by decide +kernel) ⟨rfl, rfl⟩ k474 (by decide) preEq rfl rfl hl.1 (Nat.le_of_ble_eq_true rfl) ⟨Nat.le_refl _, Nat.le_refl _⟩ dM_read_86 ?_
              refine lv_if_ne (tgt := 99) hx hb dM_read_89 (by decide) (fun c4 => ?_) (fun c4 => ?_)
              · skip
                replace c4 := bI_t c4
                refine lv_aload_n hx hb dM_read_99 rfl (lv_at hl 2 rfl) ?_
                refine va_get (D := D) (ci := 1) (v := .int ((tkY (mWay y.2.2.2.2.2.2.1 y.2.1) y9 k).2.2.2.2.2.1)) (C := "SignReaderModel") (T := T_M) (N := 9) hx hb hts i_M hown hK hP 0 rfl rfl 8 (by decide) (hts _ k399) (fun _ h9 => h9) rfl dM_read_100 ?_
                refine lv_bipush (v := 10) hx hb dM_read_103 (by decide) ?_
                refine lv_icmp_ne (tgt := 113) hx hb dM_read_105 (by decide) (fun c5 => ?_) (fun c5 => ?_)
                · skip
                  refine lv_aload_n hx hb dM_read_113 rfl (lv_at hl 2 rfl) ?_
                  refine va_get (D := D) (ci := 1) (v := .ref qa) (C := "SignReaderModel") (T := T_M) (N := 9) hx hb hts i_M hown hK hP 0 rfl rfl 6 (by decide) (hts _ k397) (fun _ h9 => h9) rfl dM_read_114 ?_
                  refine lv_iload_n hx hb dM_read_117 rfl (lv_at hl 4 rfl) ?_
                  refine lv_aload_n hx hb dM_read_118 rfl (lv_at hl 2 rfl) ?_
                  refine va_get (D := D) (ci := 1) (v := .int ((tkY (mWay y.2.2.2.2.2.2.1 y.2.1) y9 k).2.2.2.2.2.1)) (C := "SignReaderModel") (T := T_M) (N := 9) hx hb hts i_M hown hK hP 0 rfl rfl 8 (by decide) (hts _ k399) (fun _ h9 => h9) rfl dM_read_119 ?_
                  refine lv_bipush (v := 13) hx hb dM_read_122 (by decide) ?_
                  refine lv_icmp_ne (tgt := 132) hx hb dM_read_124 (by decide) (fun c6 => ?_) (fun c6 => ?_)
                  · skip
                    refine lv_aload_n hx hb dM_read_132 rfl (lv_at hl 2 rfl) ?_
                    refine va_get (D := D) (ci := 1) (v := .int ((tkY (mWay y.2.2.2.2.2.2.1 y.2.1) y9 k).2.2.2.2.2.1)) (C := "SignReaderModel") (T := T_M) (N := 9) hx hb hts i_M hown hK hP 0 rfl rfl 8 (by decide) (hts _ k399) (fun _ h9 => h9) rfl dM_read_133 ?_
                    refine va_iast hx hb hK hP (moD hd) hS 3 0 rfl rfl (vp_in_nI (by have := hyo.1; omega) (by omega)) dM_read_136 (fun H locs hP _ hS => ?_)
                    have hP : va_P D CL (moW h qb qt qa cI ((tkY (mWay y.2.2.2.2.2.2.1 y.2.1) y9 k).1) (nI (tkY (mWay y.2.2.2.2.2.2.1 y.2.1) y9 k).2.1) (nI (tkY (mWay y.2.2.2.2.2.2.1 y.2.1) y9 k).2.2.1) ((tkY (mWay y.2.2.2.2.2.2.1 y.2.1) y9 k).2.2.2.1) (nI (tkY (mWay y.2.2.2.2.2.2.1 y.2.1) y9 k).2.2.2.2.1) ((tkY (mWay y.2.2.2.2.2.2.1 y.2.1) y9 k).2.2.2.2.2.1) ((tkY (mWay y.2.2.2.2.2.2.1 y.2.1) y9 k).2.2.2.2.2.2.1) ((tkY (mWay y.2.2.2.2.2.2.1 y.2.1) y9 k).2.2.2.2.2.2.2.1) (upd ((tkY (mWay y.2.2.2.2.2.2.1 y.2.1) y9 k).2.2.2.2.2.2.2.2) ((nI j)).toNatClampNeg (((tkY (mWay y.2.2.2.2.2.2.1 y.2.1) y9 k).2.2.2.2.2.1)))) H := hP
                    have hP : va_P D CL (moZ h qb qt qa cI (setA (tkY (mWay y.2.2.2.2.2.2.1 y.2.1) y9 k) j ((tkY (mWay y.2.2.2.2.2.2.1 y.2.1) y9 k).2.2.2.2.2.1))) _ := va_Pe (by simp only [setA, nI_clamp (show j < 2 ^ 31 by omega)] : moW h qb qt qa cI ((tkY (mWay y.2.2.2.2.2.2.1 y.2.1) y9 k).1) (nI (tkY (mWay y.2.2.2.2.2.2.1 y.2.1) y9 k).2.1) (nI (tkY (mWay y.2.2.2.2.2.2.1 y.2.1) y9 k).2.2.1) ((tkY (mWay y.2.2.2.2.2.2.1 y.2.1) y9 k).2.2.2.1) (nI (tkY (mWay y.2.2.2.2.2.2.1 y.2.1) y9 k).2.2.2.2.1) ((tkY (mWay y.2.2.2.2.2.2.1 y.2.1) y9 k).2.2.2.2.2.1) ((tkY (mWay y.2.2.2.2.2.2.1 y.2.1) y9 k).2.2.2.2.2.2.1) ((tkY (mWay y.2.2.2.2.2.2.1 y.2.1) y9 k).2.2.2.2.2.2.2.1) (upd ((tkY (mWay y.2.2.2.2.2.2.1 y.2.1) y9 k).2.2.2.2.2.2.2.2) ((nI j)).toNatClampNeg (((tkY (mWay y.2.2.2.2.2.2.1 y.2.1) y9 k).2.2.2.2.2.1))) = moZ h qb qt qa cI (setA (tkY (mWay y.2.2.2.2.2.2.1 y.2.1) y9 k) j ((tkY (mWay y.2.2.2.2.2.2.1 y.2.1) y9 k).2.2.2.2.2.1))) hP
                    refine lv_iload_n hx hb dM_read_137 rfl (lv_at hl 4 rfl) ?_
                    refine lv_iconst (v := 1) hx hb dM_read_138 (by decide) ?_
                    refine lv_iadd hx hb dM_read_139 ?_
                    refine lv_istore_n (lv' := [(3, .int ((nI j) + 1)), (5, .int (tkR (mWay y.2.2.2.2.2.2.1 y.2.1) y9 k)), (1, .int (mWay ((0, y.2)).2.2.2.2.2.2.1 ((0, y.2)).2.1)), (0, .ref h), (2, .int (nI k)), (4, .int b)]) hx hb dM_read_140 rfl hl (by decide) rfl (fun ls hl => ?_)
                    refine lv_aload_n hx hb dM_read_141 rfl (lv_at hl 3 rfl) ?_
                    refine va_get (D := D) (ci := 1) (v := .int ((tkY (mWay y.2.2.2.2.2.2.1 y.2.1) y9 k).2.2.2.2.2.1)) (C := "SignReaderModel") (T := T_M) (N := 9) hx hb hts i_M hown hK hP 0 rfl rfl 8 (by decide) (hts _ k399) (fun _ h9 => h9) rfl dM_read_142 ?_
                    refine lv_bipush (v := 13) hx hb dM_read_145 (by decide) ?_
                    refine lv_icmp_ne (tgt := 154) hx hb dM_read_147 (by decide) (fun c7 => ?_) (fun c7 => absurd c7 c6)
                    refine lv_iconst (v := 0) hx hb dM_read_154 (by decide) ?_
                    refine lv_istore (lv' := [(4, .int 0), (3, .int ((nI j) + 1)), (5, .int (tkR (mWay y.2.2.2.2.2.2.1 y.2.1) y9 k)), (1, .int (mWay ((0, y.2)).2.2.2.2.2.2.1 ((0, y.2)).2.1)), (0, .ref h), (2, .int (nI k))]) hx hb dM_read_155 hl (by decide) rfl (fun ls hl => ?_)
                    refine lv_iload_n hx hb dM_read_157 rfl (lv_at hl 5 rfl) ?_
                    refine lv_iload hx hb dM_read_158 (lv_at hl 2 rfl) ?_
                    refine lv_iadd hx hb dM_read_160 ?_
                    refine lv_istore_n (lv' := [(2, .int ((nI k) + (tkR (mWay y.2.2.2.2.2.2.1 y.2.1) y9 k))), (4, .int 0), (3, .int ((nI j) + 1)), (5, .int (tkR (mWay y.2.2.2.2.2.2.1 y.2.1) y9 k)), (1, .int (mWay ((0, y.2)).2.2.2.2.2.2.1 ((0, y.2)).2.1)), (0, .ref h)]) hx hb dM_read_161 rfl hl (by decide) rfl (fun ls hl => ?_)
                    refine lv_goto (tgt := 34) hx hb dM_read_162 (by decide) ?_
                    exact ih (((nI k) + (tkR (mWay y.2.2.2.2.2.2.1 y.2.1) y9 k))) (((nI j) + 1)) (0) (k + (tkR (mWay y.2.2.2.2.2.2.1 y.2.1) y9 k).toNatClampNeg) (j + 1) (setA (tkY (mWay y.2.2.2.2.2.2.1 y.2.1) y9 k) j ((tkY (mWay y.2.2.2.2.2.2.1 y.2.1) y9 k).2.2.2.2.2.1)) (_) (_) (addT c3) (nI_1 j) (by have := hyo.1; omega) (by have := hyo.1; omega) ((by show (setA _ _ _).2.1 = _; exact (tkY_n _ _ _).trans hsz)) ((setA_ok (tkY_ok hyo))) (by omega) (by rw [hR]; simp only [if_pos c3, if_pos c4, if_neg c5, if_neg c6]) (hP) (hS) ls (lv_sub hl [4, 5, 0, 2, 1] rfl) 
                  · skip
                    refine lv_bipush (v := 10) hx hb dM_read_127 (by decide) ?_
                    refine lv_goto (tgt := 136) hx hb dM_read_129 (by decide) ?_
                    refine va_iast hx hb hK hP (moD hd) hS 3 0 rfl rfl (vp_in_nI (by have := hyo.1; omega) (by omega)) dM_read_136 (fun H locs hP _ hS => ?_)
                    have hP : va_P D CL (moW h qb qt qa cI ((tkY (mWay y.2.2.2.2.2.2.1 y.2.1) y9 k).1) (nI (tkY (mWay y.2.2.2.2.2.2.1 y.2.1) y9 k).2.1) (nI (tkY (mWay y.2.2.2.2.2.2.1 y.2.1) y9 k).2.2.1) ((tkY (mWay y.2.2.2.2.2.2.1 y.2.1) y9 k).2.2.2.1) (nI (tkY (mWay y.2.2.2.2.2.2.1 y.2.1) y9 k).2.2.2.2.1) ((tkY (mWay y.2.2.2.2.2.2.1 y.2.1) y9 k).2.2.2.2.2.1) ((tkY (mWay y.2.2.2.2.2.2.1 y.2.1) y9 k).2.2.2.2.2.2.1) ((tkY (mWay y.2.2.2.2.2.2.1 y.2.1) y9 k).2.2.2.2.2.2.2.1) (upd ((tkY (mWay y.2.2.2.2.2.2.1 y.2.1) y9 k).2.2.2.2.2.2.2.2) ((nI j)).toNatClampNeg (10))) H := hP
                    have hP : va_P D CL (moZ h qb qt qa cI (setA (tkY (mWay y.2.2.2.2.2.2.1 y.2.1) y9 k) j (10))) _ := va_Pe (by simp only [setA, nI_clamp (show j < 2 ^ 31 by omega)] : moW h qb qt qa cI ((tkY (mWay y.2.2.2.2.2.2.1 y.2.1) y9 k).1) (nI (tkY (mWay y.2.2.2.2.2.2.1 y.2.1) y9 k).2.1) (nI (tkY (mWay y.2.2.2.2.2.2.1 y.2.1) y9 k).2.2.1) ((tkY (mWay y.2.2.2.2.2.2.1 y.2.1) y9 k).2.2.2.1) (nI (tkY (mWay y.2.2.2.2.2.2.1 y.2.1) y9 k).2.2.2.2.1) ((tkY (mWay y.2.2.2.2.2.2.1 y.2.1) y9 k).2.2.2.2.2.1) ((tkY (mWay y.2.2.2.2.2.2.1 y.2.1) y9 k).2.2.2.2.2.2.1) ((tkY (mWay y.2.2.2.2.2.2.1 y.2.1) y9 k).2.2.2.2.2.2.2.1) (upd ((tkY (mWay y.2.2.2.2.2.2.1 y.2.1) y9 k).2.2.2.2.2.2.2.2) ((nI j)).toNatClampNeg (10)) = moZ h qb qt qa cI (setA (tkY (mWay y.2.2.2.2.2.2.1 y.2.1) y9 k) j (10))) hP
                    refine lv_iload_n hx hb dM_read_137 rfl (lv_at hl 4 rfl) ?_
                    refine lv_iconst (v := 1) hx hb dM_read_138 (by decide) ?_
                    refine lv_iadd hx hb dM_read_139 ?_
                    refine lv_istore_n (lv' := [(3, .int ((nI j) + 1)), (5, .int (tkR (mWay y.2.2.2.2.2.2.1 y.2.1) y9 k)), (1, .int (mWay ((0, y.2)).2.2.2.2.2.2.1 ((0, y.2)).2.1)), (0, .ref h), (2, .int (nI k)), (4, .int b)]) hx hb dM_read_140 rfl hl (by decide) rfl (fun ls hl => ?_)
                    refine lv_aload_n hx hb dM_read_141 rfl (lv_at hl 3 rfl) ?_
                    refine va_get (D := D) (ci := 1) (v := .int ((tkY (mWay y.2.2.2.2.2.2.1 y.2.1) y9 k).2.2.2.2.2.1)) (C := "SignReaderModel") (T := T_M) (N := 9) hx hb hts i_M hown hK hP 0 rfl rfl 8 (by decide) (hts _ k399) (fun _ h9 => h9) rfl dM_read_142 ?_
                    refine lv_bipush (v := 13) hx hb dM_read_145 (by decide) ?_
                    refine lv_icmp_ne (tgt := 154) hx hb dM_read_147 (by decide) (fun c8 => absurd c8 (fun h9 => h9 c6)) (fun c8 => ?_)
                    refine lv_iconst (v := 1) hx hb dM_read_150 (by decide) ?_
                    refine lv_goto (tgt := 155) hx hb dM_read_151 (by decide) ?_
                    refine lv_istore (lv' := [(4, .int 1), (3, .int ((nI j) + 1)), (5, .int (tkR (mWay y.2.2.2.2.2.2.1 y.2.1) y9 k)), (1, .int (mWay ((0, y.2)).2.2.2.2.2.2.1 ((0, y.2)).2.1)), (0, .ref h), (2, .int (nI k))]) hx hb dM_read_155 hl (by decide) rfl (fun ls hl => ?_)
                    refine lv_iload_n hx hb dM_read_157 rfl (lv_at hl 5 rfl) ?_
                    refine lv_iload hx hb dM_read_158 (lv_at hl 2 rfl) ?_
                    refine lv_iadd hx hb dM_read_160 ?_
                    refine lv_istore_n (lv' := [(2, .int ((nI k) + (tkR (mWay y.2.2.2.2.2.2.1 y.2.1) y9 k))), (4, .int 1), (3, .int ((nI j) + 1)), (5, .int (tkR (mWay y.2.2.2.2.2.2.1 y.2.1) y9 k)), (1, .int (mWay ((0, y.2)).2.2.2.2.2.2.1 ((0, y.2)).2.1)), (0, .ref h)]) hx hb dM_read_161 rfl hl (by decide) rfl (fun ls hl => ?_)
                    refine lv_goto (tgt := 34) hx hb dM_read_162 (by decide) ?_
                    exact ih (((nI k) + (tkR (mWay y.2.2.2.2.2.2.1 y.2.1) y9 k))) (((nI j) + 1)) (1) (k + (tkR (mWay y.2.2.2.2.2.2.1 y.2.1) y9 k).toNatClampNeg) (j + 1) (setA (tkY (mWay y.2.2.2.2.2.2.1 y.2.1) y9 k) j (10)) (_) (_) (addT c3) (nI_1 j) (by have := hyo.1; omega) (by have := hyo.1; omega) ((by show (setA _ _ _).2.1 = _; exact (tkY_n _ _ _).trans hsz)) ((setA_ok (tkY_ok hyo))) (by omega) (by rw [hR]; simp only [if_pos c3, if_pos c4, if_neg c5, if_pos c6]) (hP) (hS) ls (lv_sub hl [4, 5, 0, 2, 1] rfl) 
                · skip
                  refine lv_iload hx hb dM_read_108 (lv_at hl 5 rfl) ?_
                  refine lv_if_ne (tgt := 141) hx hb dM_read_110 (by decide) (fun c9 => ?_) (fun c9 => ?_)
                  · skip
                    refine lv_aload_n hx hb dM_read_141 rfl (lv_at hl 2 rfl) ?_
                    refine va_get (D := D) (ci := 1) (v := .int ((tkY (mWay y.2.2.2.2.2.2.1 y.2.1) y9 k).2.2.2.2.2.1)) (C := "SignReaderModel") (T := T_M) (N := 9) hx hb hts i_M hown hK hP 0 rfl rfl 8 (by decide) (hts _ k399) (fun _ h9 => h9) rfl dM_read_142 ?_
                    refine lv_bipush (v := 13) hx hb dM_read_145 (by decide) ?_
                    refine lv_icmp_ne (tgt := 154) hx hb dM_read_147 (by decide) (fun c10 => ?_) (fun c10 => ?_)
                    · skip
                      refine lv_iconst (v := 0) hx hb dM_read_154 (by decide) ?_
                      refine lv_istore (lv' := [(4, .int 0), (5, .int (tkR (mWay y.2.2.2.2.2.2.1 y.2.1) y9 k)), (1, .int (mWay ((0, y.2)).2.2.2.2.2.2.1 ((0, y.2)).2.1)), (0, .ref h), (2, .int (nI k)), (3, .int (nI j))]) hx hb dM_read_155 hl (by decide) rfl (fun ls hl => ?_)
                      refine lv_iload_n hx hb dM_read_157 rfl (lv_at hl 4 rfl) ?_
                      refine lv_iload hx hb dM_read_158 (lv_at hl 1 rfl) ?_
                      refine lv_iadd hx hb dM_read_160 ?_
                      refine lv_istore_n (lv' := [(2, .int ((nI k) + (tkR (mWay y.2.2.2.2.2.2.1 y.2.1) y9 k))), (4, .int 0), (5, .int (tkR (mWay y.2.2.2.2.2.2.1 y.2.1) y9 k)), (1, .int (mWay ((0, y.2)).2.2.2.2.2.2.1 ((0, y.2)).2.1)), (0, .ref h), (3, .int (nI j))]) hx hb dM_read_161 rfl hl (by decide) rfl (fun ls hl => ?_)
                      refine lv_goto (tgt := 34) hx hb dM_read_162 (by decide) ?_
                      exact ih (((nI k) + (tkR (mWay y.2.2.2.2.2.2.1 y.2.1) y9 k))) ((nI j)) (0) (k + (tkR (mWay y.2.2.2.2.2.2.1 y.2.1) y9 k).toNatClampNeg) (j) (tkY (mWay y.2.2.2.2.2.2.1 y.2.1) y9 k) (_) (_) (addT c3) (rfl) (by have := hyo.1; omega) (by have := hyo.1; omega) ((tkY_n _ _ _).trans hsz) ((tkY_ok hyo)) (by omega) (by rw [hR]; simp only [if_pos c3, if_pos c4, if_pos c5, if_neg c9, if_neg c10]) (hP) (hS) ls (lv_sub hl [3, 4, 0, 5, 1] rfl) 
                    · skip
                      refine lv_iconst (v := 1) hx hb dM_read_150 (by decide) ?_
                      refine lv_goto (tgt := 155) hx hb dM_read_151 (by decide) ?_
                      refine lv_istore (lv' := [(4, .int 1), (5, .int (tkR (mWay y.2.2.2.2.2.2.1 y.2.1) y9 k)), (1, .int (mWay ((0, y.2)).2.2.2.2.2.2.1 ((0, y.2)).2.1)), (0, .ref h), (2, .int (nI k)), (3, .int (nI j))]) hx hb dM_read_155 hl (by decide) rfl (fun ls hl => ?_)
                      refine lv_iload_n hx hb dM_read_157 rfl (lv_at hl 4 rfl) ?_
                      refine lv_iload hx hb dM_read_158 (lv_at hl 1 rfl) ?_
                      refine lv_iadd hx hb dM_read_160 ?_
                      refine lv_istore_n (lv' := [(2, .int ((nI k) + (tkR (mWay y.2.2.2.2.2.2.1 y.2.1) y9 k))), (4, .int 1), (5, .int (tkR (mWay y.2.2.2.2.2.2.1 y.2.1) y9 k)), (1, .int (mWay ((0, y.2)).2.2.2.2.2.2.1 ((0, y.2)).2.1)), (0, .ref h), (3, .int (nI j))]) hx hb dM_read_161 rfl hl (by decide) rfl (fun ls hl => ?_)
                      refine lv_goto (tgt := 34) hx hb dM_read_162 (by decide) ?_
                      exact ih (((nI k) + (tkR (mWay y.2.2.2.2.2.2.1 y.2.1) y9 k))) ((nI j)) (1) (k + (tkR (mWay y.2.2.2.2.2.2.1 y.2.1) y9 k).toNatClampNeg) (j) (tkY (mWay y.2.2.2.2.2.2.1 y.2.1) y9 k) (_) (_) (addT c3) (rfl) (by have := hyo.1; omega) (by have := hyo.1; omega) ((tkY_n _ _ _).trans hsz) ((tkY_ok hyo)) (by omega) (by rw [hR]; simp only [if_pos c3, if_pos c4, if_pos c5, if_neg c9, if_pos c10]) (hP) (hS) ls (lv_sub hl [3, 4, 0, 5, 1] rfl) 
                  · skip
                    refine lv_aload_n hx hb dM_read_113 rfl (lv_at hl 2 rfl) ?_
                    refine va_get (D := D) (ci := 1) (v := .ref qa) (C := "SignReaderModel") (T := T_M) (N := 9) hx hb hts i_M hown hK hP 0 rfl rfl 6 (by decide) (hts _ k397) (fun _ h9 => h9) rfl dM_read_114 ?_
                    refine lv_iload_n hx hb dM_read_117 rfl (lv_at hl 4 rfl) ?_
                    refine lv_aload_n hx hb dM_read_118 rfl (lv_at hl 2 rfl) ?_
                    refine va_get (D := D) (ci := 1) (v := .int ((tkY (mWay y.2.2.2.2.2.2.1 y.2.1) y9 k).2.2.2.2.2.1)) (C := "SignReaderModel") (T := T_M) (N := 9) hx hb hts i_M hown hK hP 0 rfl rfl 8 (by decide) (hts _ k399) (fun _ h9 => h9) rfl dM_read_119 ?_
                    refine lv_bipush (v := 13) hx hb dM_read_122 (by decide) ?_
                    refine lv_icmp_ne (tgt := 132) hx hb dM_read_124 (by decide) (fun c11 => ?_) (fun c11 => ?_)
                    · skip
                      refine lv_aload_n hx hb dM_read_132 rfl (lv_at hl 2 rfl) ?_
                      refine va_get (D := D) (ci := 1) (v := .int ((tkY (mWay y.2.2.2.2.2.2.1 y.2.1) y9 k).2.2.2.2.2.1)) (C := "SignReaderModel") (T := T_M) (N := 9) hx hb hts i_M hown hK hP 0 rfl rfl 8 (by decide) (hts _ k399) (fun _ h9 => h9) rfl dM_read_133 ?_
                      refine va_iast hx hb hK hP (moD hd) hS 3 0 rfl rfl (vp_in_nI (by have := hyo.1; omega) (by omega)) dM_read_136 (fun H locs hP _ hS => ?_)
                      have hP : va_P D CL (moW h qb qt qa cI ((tkY (mWay y.2.2.2.2.2.2.1 y.2.1) y9 k).1) (nI (tkY (mWay y.2.2.2.2.2.2.1 y.2.1) y9 k).2.1) (nI (tkY (mWay y.2.2.2.2.2.2.1 y.2.1) y9 k).2.2.1) ((tkY (mWay y.2.2.2.2.2.2.1 y.2.1) y9 k).2.2.2.1) (nI (tkY (mWay y.2.2.2.2.2.2.1 y.2.1) y9 k).2.2.2.2.1) ((tkY (mWay y.2.2.2.2.2.2.1 y.2.1) y9 k).2.2.2.2.2.1) ((tkY (mWay y.2.2.2.2.2.2.1 y.2.1) y9 k).2.2.2.2.2.2.1) ((tkY (mWay y.2.2.2.2.2.2.1 y.2.1) y9 k).2.2.2.2.2.2.2.1) (upd ((tkY (mWay y.2.2.2.2.2.2.1 y.2.1) y9 k).2.2.2.2.2.2.2.2) ((nI j)).toNatClampNeg (((tkY (mWay y.2.2.2.2.2.2.1 y.2.1) y9 k).2.2.2.2.2.1)))) H := hP
                      have hP : va_P D CL (moZ h qb qt qa cI (setA (tkY (mWay y.2.2.2.2.2.2.1 y.2.1) y9 k) j ((tkY (mWay y.2.2.2.2.2.2.1 y.2.1) y9 k).2.2.2.2.2.1))) _ := va_Pe (by simp only [setA, nI_clamp (show j < 2 ^ 31 by omega)] : moW h qb qt qa cI ((tkY (mWay y.2.2.2.2.2.2.1 y.2.1) y9 k).1) (nI (tkY (mWay y.2.2.2.2.2.2.1 y.2.1) y9 k).2.1) (nI (tkY (mWay y.2.2.2.2.2.2.1 y.2.1) y9 k).2.2.1) ((tkY (mWay y.2.2.2.2.2.2.1 y.2.1) y9 k).2.2.2.1) (nI (tkY (mWay y.2.2.2.2.2.2.1 y.2.1) y9 k).2.2.2.2.1) ((tkY (mWay y.2.2.2.2.2.2.1 y.2.1) y9 k).2.2.2.2.2.1) ((tkY (mWay y.2.2.2.2.2.2.1 y.2.1) y9 k).2.2.2.2.2.2.1) ((tkY (mWay y.2.2.2.2.2.2.1 y.2.1) y9 k).2.2.2.2.2.2.2.1) (upd ((tkY (mWay y.2.2.2.2.2.2.1 y.2.1) y9 k).2.2.2.2.2.2.2.2) ((nI j)).toNatClampNeg (((tkY (mWay y.2.2.2.2.2.2.1 y.2.1) y9 k).2.2.2.2.2.1))) = moZ h qb qt qa cI (setA (tkY (mWay y.2.2.2.2.2.2.1 y.2.1) y9 k) j ((tkY (mWay y.2.2.2.2.2.2.1 y.2.1) y9 k).2.2.2.2.2.1))) hP
                      refine lv_iload_n hx hb dM_read_137 rfl (lv_at hl 4 rfl) ?_
                      refine lv_iconst (v := 1) hx hb dM_read_138 (by decide) ?_
                      refine lv_iadd hx hb dM_read_139 ?_
                      refine lv_istore_n (lv' := [(3, .int ((nI j) + 1)), (5, .int (tkR (mWay y.2.2.2.2.2.2.1 y.2.1) y9 k)), (1, .int (mWay ((0, y.2)).2.2.2.2.2.2.1 ((0, y.2)).2.1)), (0, .ref h), (2, .int (nI k)), (4, .int b)]) hx hb dM_read_140 rfl hl (by decide) rfl (fun ls hl => ?_)
                      refine lv_aload_n hx hb dM_read_141 rfl (lv_at hl 3 rfl) ?_
                      refine va_get (D := D) (ci := 1) (v := .int ((tkY (mWay y.2.2.2.2.2.2.1 y.2.1) y9 k).2.2.2.2.2.1)) (C := "SignReaderModel") (T := T_M) (N := 9) hx hb hts i_M hown hK hP 0 rfl rfl 8 (by decide) (hts _ k399) (fun _ h9 => h9) rfl dM_read_142 ?_
                      refine lv_bipush (v := 13) hx hb dM_read_145 (by decide) ?_
                      refine lv_icmp_ne (tgt := 154) hx hb dM_read_147 (by decide) (fun c12 => ?_) (fun c12 => absurd c12 c11)
                      refine lv_iconst (v := 0) hx hb dM_read_154 (by decide) ?_
                      refine lv_istore (lv' := [(4, .int 0), (3, .int ((nI j) + 1)), (5, .int (tkR (mWay y.2.2.2.2.2.2.1 y.2.1) y9 k)), (1, .int (mWay ((0, y.2)).2.2.2.2.2.2.1 ((0, y.2)).2.1)), (0, .ref h), (2, .int (nI k))]) hx hb dM_read_155 hl (by decide) rfl (fun ls hl => ?_)
                      refine lv_iload_n hx hb dM_read_157 rfl (lv_at hl 5 rfl) ?_
                      refine lv_iload hx hb dM_read_158 (lv_at hl 2 rfl) ?_
                      refine lv_iadd hx hb dM_read_160 ?_
                      refine lv_istore_n (lv' := [(2, .int ((nI k) + (tkR (mWay y.2.2.2.2.2.2.1 y.2.1) y9 k))), (4, .int 0), (3, .int ((nI j) + 1)), (5, .int (tkR (mWay y.2.2.2.2.2.2.1 y.2.1) y9 k)), (1, .int (mWay ((0, y.2)).2.2.2.2.2.2.1 ((0, y.2)).2.1)), (0, .ref h)]) hx hb dM_read_161 rfl hl (by decide) rfl (fun ls hl => ?_)
                      refine lv_goto (tgt := 34) hx hb dM_read_162 (by decide) ?_
                      exact ih (((nI k) + (tkR (mWay y.2.2.2.2.2.2.1 y.2.1) y9 k))) (((nI j) + 1)) (0) (k + (tkR (mWay y.2.2.2.2.2.2.1 y.2.1) y9 k).toNatClampNeg) (j + 1) (setA (tkY (mWay y.2.2.2.2.2.2.1 y.2.1) y9 k) j ((tkY (mWay y.2.2.2.2.2.2.1 y.2.1) y9 k).2.2.2.2.2.1)) (_) (_) (addT c3) (nI_1 j) (by have := hyo.1; omega) (by have := hyo.1; omega) ((by show (setA _ _ _).2.1 = _; exact (tkY_n _ _ _).trans hsz)) ((setA_ok (tkY_ok hyo))) (by omega) (by rw [hR]; simp only [if_pos c3, if_pos c4, if_pos c5, if_pos c9, if_neg c11]) (hP) (hS) ls (lv_sub hl [4, 5, 0, 2, 1] rfl) 
                    · skip
                      refine lv_bipush (v := 10) hx hb dM_read_127 (by decide) ?_
                      refine lv_goto (tgt := 136) hx hb dM_read_129 (by decide) ?_
                      refine va_iast hx hb hK hP (moD hd) hS 3 0 rfl rfl (vp_in_nI (by have := hyo.1; omega) (by omega)) dM_read_136 (fun H locs hP _ hS => ?_)
                      have hP : va_P D CL (moW h qb qt qa cI ((tkY (mWay y.2.2.2.2.2.2.1 y.2.1) y9 k).1) (nI (tkY (mWay y.2.2.2.2.2.2.1 y.2.1) y9 k).2.1) (nI (tkY (mWay y.2.2.2.2.2.2.1 y.2.1) y9 k).2.2.1) ((tkY (mWay y.2.2.2.2.2.2.1 y.2.1) y9 k).2.2.2.1) (nI (tkY (mWay y.2.2.2.2.2.2.1 y.2.1) y9 k).2.2.2.2.1) ((tkY (mWay y.2.2.2.2.2.2.1 y.2.1) y9 k).2.2.2.2.2.1) ((tkY (mWay y.2.2.2.2.2.2.1 y.2.1) y9 k).2.2.2.2.2.2.1) ((tkY (mWay y.2.2.2.2.2.2.1 y.2.1) y9 k).2.2.2.2.2.2.2.1) (upd ((tkY (mWay y.2.2.2.2.2.2.1 y.2.1) y9 k).2.2.2.2.2.2.2.2) ((nI j)).toNatClampNeg (10))) H := hP
                      have hP : va_P D CL (moZ h qb qt qa cI (setA (tkY (mWay y.2.2.2.2.2.2.1 y.2.1) y9 k) j (10))) _ := va_Pe (by simp only [setA, nI_clamp (show j < 2 ^ 31 by omega)] : moW h qb qt qa cI ((tkY (mWay y.2.2.2.2.2.2.1 y.2.1) y9 k).1) (nI (tkY (mWay y.2.2.2.2.2.2.1 y.2.1) y9 k).2.1) (nI (tkY (mWay y.2.2.2.2.2.2.1 y.2.1) y9 k).2.2.1) ((tkY (mWay y.2.2.2.2.2.2.1 y.2.1) y9 k).2.2.2.1) (nI (tkY (mWay y.2.2.2.2.2.2.1 y.2.1) y9 k).2.2.2.2.1) ((tkY (mWay y.2.2.2.2.2.2.1 y.2.1) y9 k).2.2.2.2.2.1) ((tkY (mWay y.2.2.2.2.2.2.1 y.2.1) y9 k).2.2.2.2.2.2.1) ((tkY (mWay y.2.2.2.2.2.2.1 y.2.1) y9 k).2.2.2.2.2.2.2.1) (upd ((tkY (mWay y.2.2.2.2.2.2.1 y.2.1) y9 k).2.2.2.2.2.2.2.2) ((nI j)).toNatClampNeg (10)) = moZ h qb qt qa cI (setA (tkY (mWay y.2.2.2.2.2.2.1 y.2.1) y9 k) j (10))) hP
                      refine lv_iload_n hx hb dM_read_137 rfl (lv_at hl 4 rfl) ?_
                      refine lv_iconst (v := 1) hx hb dM_read_138 (by decide) ?_
                      refine lv_iadd hx hb dM_read_139 ?_
                      refine lv_istore_n (lv' := [(3, .int ((nI j) + 1)), (5, .int (tkR (mWay y.2.2.2.2.2.2.1 y.2.1) y9 k)), (1, .int (mWay ((0, y.2)).2.2.2.2.2.2.1 ((0, y.2)).2.1)), (0, .ref h), (2, .int (nI k)), (4, .int b)]) hx hb dM_read_140 rfl hl (by decide) rfl (fun ls hl => ?_)
                      refine lv_aload_n hx hb dM_read_141 rfl (lv_at hl 3 rfl) ?_
                      refine va_get (D := D) (ci := 1) (v := .int ((tkY (mWay y.2.2.2.2.2.2.1 y.2.1) y9 k).2.2.2.2.2.1)) (C := "SignReaderModel") (T := T_M) (N := 9) hx hb hts i_M hown hK hP 0 rfl rfl 8 (by decide) (hts _ k399) (fun _ h9 => h9) rfl dM_read_142 ?_
                      refine lv_bipush (v := 13) hx hb dM_read_145 (by decide) ?_
                      refine lv_icmp_ne (tgt := 154) hx hb dM_read_147 (by decide) (fun c13 => absurd c13 (fun h9 => h9 c11)) (fun c13 => ?_)
                      refine lv_iconst (v := 1) hx hb dM_read_150 (by decide) ?_
                      refine lv_goto (tgt := 155) hx hb dM_read_151 (by decide) ?_
                      refine lv_istore (lv' := [(4, .int 1), (3, .int ((nI j) + 1)), (5, .int (tkR (mWay y.2.2.2.2.2.2.1 y.2.1) y9 k)), (1, .int (mWay ((0, y.2)).2.2.2.2.2.2.1 ((0, y.2)).2.1)), (0, .ref h), (2, .int (nI k))]) hx hb dM_read_155 hl (by decide) rfl (fun ls hl => ?_)
                      refine lv_iload_n hx hb dM_read_157 rfl (lv_at hl 5 rfl) ?_
                      refine lv_iload hx hb dM_read_158 (lv_at hl 2 rfl) ?_
                      refine lv_iadd hx hb dM_read_160 ?_
                      refine lv_istore_n (lv' := [(2, .int ((nI k) + (tkR (mWay y.2.2.2.2.2.2.1 y.2.1) y9 k))), (4, .int 1), (3, .int ((nI j) + 1)), (5, .int (tkR (mWay y.2.2.2.2.2.2.1 y.2.1) y9 k)), (1, .int (mWay ((0, y.2)).2.2.2.2.2.2.1 ((0, y.2)).2.1)), (0, .ref h)]) hx hb dM_read_161 rfl hl (by decide) rfl (fun ls hl => ?_)
                      refine lv_goto (tgt := 34) hx hb dM_read_162 (by decide) ?_
                      exact ih (((nI k) + (tkR (mWay y.2.2.2.2.2.2.1 y.2.1) y9 k))) (((nI j) + 1)) (1) (k + (tkR (mWay y.2.2.2.2.2.2.1 y.2.1) y9 k).toNatClampNeg) (j + 1) (setA (tkY (mWay y.2.2.2.2.2.2.1 y.2.1) y9 k) j (10)) (_) (_) (addT c3) (nI_1 j) (by have := hyo.1; omega) (by have := hyo.1; omega) ((by show (setA _ _ _).2.1 = _; exact (tkY_n _ _ _).trans hsz)) ((setA_ok (tkY_ok hyo))) (by omega) (by rw [hR]; simp only [if_pos c3, if_pos c4, if_pos c5, if_pos c9, if_pos c11]) (hP) (hS) ls (lv_sub hl [4, 5, 0, 2, 1] rfl) 
              · skip
                replace c4 := bI_f c4
                refine lv_aload_n hx hb dM_read_92 rfl (lv_at hl 2 rfl) ?_
                refine lv_iconst (v := 0) hx hb dM_read_93 (by decide) ?_
                refine va_put (D := D) (ci := 1) (v := .int 0) (ty := .int) (C := "SignReaderModel") (T := T_M) (N := 9) hx hb hts i_M t_M t_M_ok n_M hown hK hP (moD hd) hS 0 rfl rfl 2 (by decide) (hts _ k393) (fun _ h9 => h9) rfl (by decide +kernel) rfl rfl (Nat.le_of_ble_eq_true rfl) dM_read_94 (fun H locs hP _ hS => ?_)
                have hP : va_P D CL (moW h qb qt qa cI ((tkY (mWay y.2.2.2.2.2.2.1 y.2.1) y9 k).1) (0) (nI (tkY (mWay y.2.2.2.2.2.2.1 y.2.1) y9 k).2.2.1) ((tkY (mWay y.2.2.2.2.2.2.1 y.2.1) y9 k).2.2.2.1) (nI (tkY (mWay y.2.2.2.2.2.2.1 y.2.1) y9 k).2.2.2.2.1) ((tkY (mWay y.2.2.2.2.2.2.1 y.2.1) y9 k).2.2.2.2.2.1) ((tkY (mWay y.2.2.2.2.2.2.1 y.2.1) y9 k).2.2.2.2.2.2.1) ((tkY (mWay y.2.2.2.2.2.2.1 y.2.1) y9 k).2.2.2.2.2.2.2.1) ((tkY (mWay y.2.2.2.2.2.2.1 y.2.1) y9 k).2.2.2.2.2.2.2.2)) H := hP
                refine lv_iload_n hx hb dM_read_97 rfl (lv_at hl 3 rfl) ?_
                have hP : va_P D CL (moZ h qb qt qa cI (yRead y)) _ := va_Pe (by rw [yRead, hR]; simp only [if_pos c3, if_neg (Bool.eq_false_iff.mp c4)]; rw [if_neg (nI_m1 (by omega))]; exact moZ_r _ : moW h qb qt qa cI ((tkY (mWay y.2.2.2.2.2.2.1 y.2.1) y9 k).1) (0) (nI (tkY (mWay y.2.2.2.2.2.2.1 y.2.1) y9 k).2.2.1) ((tkY (mWay y.2.2.2.2.2.2.1 y.2.1) y9 k).2.2.2.1) (nI (tkY (mWay y.2.2.2.2.2.2.1 y.2.1) y9 k).2.2.2.2.1) ((tkY (mWay y.2.2.2.2.2.2.1 y.2.1) y9 k).2.2.2.2.2.1) ((tkY (mWay y.2.2.2.2.2.2.1 y.2.1) y9 k).2.2.2.2.2.2.1) ((tkY (mWay y.2.2.2.2.2.2.1 y.2.1) y9 k).2.2.2.2.2.2.2.1) ((tkY (mWay y.2.2.2.2.2.2.1 y.2.1) y9 k).2.2.2.2.2.2.2.2) = moZ h qb qt qa cI (yRead y)) hP
                exact mu_retI S hr hk (by rw [hR]; simp only [if_pos c3, if_neg (Bool.eq_false_iff.mp c4)]) hP hS dM_read_98
          refine lv_iload_n hx hb dM_read_42 rfl (lv_at hl 0 rfl) ?_
          refine lv_iconst (v := 1) hx hb dM_read_43 (by decide) ?_
          refine lv_icmp_eq (tgt := 52) hx hb dM_read_44 (by decide) (fun c14 => ?_) (fun c14 => ?_)
          · skip
            refine lv_aload_n hx hb dM_read_52 rfl (lv_at hl 1 rfl) ?_
            refine lv_iload_n hx hb dM_read_53 rfl (lv_at hl 2 rfl) ?_
            refine lv_iload_n hx hb dM_read_54 rfl (lv_at hl 0 rfl) ?_
            refine lv_iconst (v := 1) hx hb dM_read_55 (by decide) ?_
            refine lv_icmp_ne (tgt := 63) hx hb dM_read_56 (by decide) (fun c15 => absurd c15 (fun h9 => h9 c14)) (fun c15 => ?_)
            refine lv_iconst (v := 1) hx hb dM_read_59 (by decide) ?_
            refine lv_goto (tgt := 64) hx hb dM_read_60 (by decide) ?_
            refine mu_V (As := [.int (nI k), .int 1]) (rest := []) (n := 2) (C := "SignReaderModel") S (cM_takeSixteen l D h qb qt qa cI (y9) (k) (1) hd hyo (by omega)) k454 k2 k453 ks20 (by decide +kernel) ⟨rfl, rfl⟩ k451 (by decide) (xM_V ⟨hP, hK⟩) rfl rfl hl.1 (Nat.le_of_ble_eq_true rfl) ⟨Nat.le_refl _, Nat.le_refl _⟩ dM_read_64 hS (fun _ h9 => h9) (fun H locs hP hS => ?_)
            have hP : va_P D CL (moZ h qb qt qa cI (y16 y9 k 1)) H := hP
            refine lv_goto (tgt := 75) hx hb dM_read_67 (by decide) ?_
            exact J75  (((m16 y9.2.2.2.2.2.2.1 y9.2.1 k 1).1)) (y16 y9 k 1) (_) (_) (by rw [tkR, if_pos c14]) (by rw [tkY, if_pos c14]) (hP) (hS) ls (lv_sub hl [0, 1, 2, 3, 4] rfl) 
          · skip
            refine lv_iload_n hx hb dM_read_47 rfl (lv_at hl 0 rfl) ?_
            refine lv_iconst (v := 2) hx hb dM_read_48 (by decide) ?_
            refine lv_icmp_ne (tgt := 70) hx hb dM_read_49 (by decide) (fun c16 => ?_) (fun c16 => ?_)
            · skip
              refine lv_aload_n hx hb dM_read_70 rfl (lv_at hl 1 rfl) ?_
              refine lv_iload_n hx hb dM_read_71 rfl (lv_at hl 2 rfl) ?_
              refine mu_V (As := [.int (nI k)]) (rest := []) (n := 1) (C := "SignReaderModel") S (cM_takeEight l D h qb qt qa cI (y9) (k) hd hyo (by omega)) k470 k2 k469 ks22 (by decide +kernel) ⟨rfl, rfl⟩ k467 (by decide) (xM_V ⟨hP, hK⟩) rfl rfl hl.1 (Nat.le_of_ble_eq_true rfl) ⟨Nat.le_refl _, Nat.le_refl _⟩ dM_read_72 hS (fun _ h9 => h9) (fun H locs hP hS => ?_)
              have hP : va_P D CL (moZ h qb qt qa cI (y8 y9 k)) H := hP
              exact J75  (((m8 y9.2.2.2.2.2.2.1 y9.2.1 k).1)) (y8 y9 k) (_) (_) (by rw [tkR, if_neg c14, if_neg c16]) (by rw [tkY, if_neg c14, if_neg c16]) (hP) (hS) ls (lv_sub hl [0, 1, 2, 3, 4] rfl) 
            · skip
              refine lv_aload_n hx hb dM_read_52 rfl (lv_at hl 1 rfl) ?_
              refine lv_iload_n hx hb dM_read_53 rfl (lv_at hl 2 rfl) ?_
              refine lv_iload_n hx hb dM_read_54 rfl (lv_at hl 0 rfl) ?_
              refine lv_iconst (v := 1) hx hb dM_read_55 (by decide) ?_
              refine lv_icmp_ne (tgt := 63) hx hb dM_read_56 (by decide) (fun c17 => ?_) (fun c17 => absurd c17 c14)
              refine lv_iconst (v := 0) hx hb dM_read_63 (by decide) ?_
              refine mu_V (As := [.int (nI k), .int 0]) (rest := []) (n := 2) (C := "SignReaderModel") S (cM_takeSixteen l D h qb qt qa cI (y9) (k) (0) hd hyo (by omega)) k454 k2 k453 ks20 (by decide +kernel) ⟨rfl, rfl⟩ k451 (by decide) (xM_V ⟨hP, hK⟩) rfl rfl hl.1 (Nat.le_of_ble_eq_true rfl) ⟨Nat.le_refl _, Nat.le_refl _⟩ dM_read_64 hS (fun _ h9 => h9) (fun H locs hP hS => ?_)
              have hP : va_P D CL (moZ h qb qt qa cI (y16 y9 k 0)) H := hP
              refine lv_goto (tgt := 75) hx hb dM_read_67 (by decide) ?_
              exact J75  (((m16 y9.2.2.2.2.2.2.1 y9.2.1 k 0).1)) (y16 y9 k 0) (_) (_) (by rw [tkR, if_neg c14, if_pos c16]) (by rw [tkY, if_neg c14, if_pos c16]) (hP) (hS) ls (lv_sub hl [0, 1, 2, 3, 4] rfl) 
    exact J34 (4110) ((nI (stW (mWay y.2.2.2.2.2.2.1 y.2.1)))) (0) (0) (stW (mWay y.2.2.2.2.2.2.1 y.2.1)) (0) ((0, y.2)) (_) (_) (rfl) (rfl) (by unfold stW; split; omega; split <;> omega) (by omega) (rfl) ((y0_ok hy)) (by omega) (by rw [yRR]) (hP) (hS) ls (lv_sub hl [3, 4, 2, 1, 0] rfl) 
  refine lv_iload_n hx hb dM_read_10 rfl (lv_at hl 0 rfl) ?_
  refine lv_if_ne (tgt := 18) hx hb dM_read_11 (by decide) (fun c18 => ?_) (fun c18 => ?_)
  · skip
    refine lv_iload_n hx hb dM_read_18 rfl (lv_at hl 0 rfl) ?_
    refine lv_iconst (v := 3) hx hb dM_read_19 (by decide) ?_
    refine lv_icmp_ne (tgt := 27) hx hb dM_read_20 (by decide) (fun c19 => ?_) (fun c19 => ?_)
    · skip
      refine lv_iconst (v := 2) hx hb dM_read_27 (by decide) ?_
      exact J28  (2) (by rw [stW, if_neg c18, if_neg c19]; rfl) ls (lv_sub hl [0, 1] rfl) 
    · skip
      refine lv_iconst (v := 3) hx hb dM_read_23 (by decide) ?_
      refine lv_goto (tgt := 28) hx hb dM_read_24 (by decide) ?_
      exact J28  (3) (by rw [stW, if_neg c18, if_pos c19]; rfl) ls (lv_sub hl [0, 1] rfl) 
  · skip
    refine lv_iconst (v := 0) hx hb dM_read_14 (by decide) ?_
    refine lv_goto (tgt := 28) hx hb dM_read_15 (by decide) ?_
    exact J28  (0) (by rw [stW, if_pos c18]; rfl) ls (lv_sub hl [0, 1] rfl) 
end
section
/-! the reference: write -/
def yK0 (y : MS) : MS := (0, y.2.1, y.2.2.1, y.2.2.2.1, 0, y.2.2.2.2.2)
def hiW (w : Int32) : Int32 := if w = 1 then 1 else 0
def yWc (w : Int32) (y : MS) (c : Int32) : MS := if w = 0 then y8w y c else if w = 3 then y8w y c else if 65536 ≤ c then yPair (yPair y (55296 + (c - 65536) / 1024) (hiW w)) (56320 + (c - 65536 - (c - 65536) / 1024 * 1024)) (hiW w) else yPair y c (hiW w)
def yWk (w : Int32) (y : MS) : Nat → MS
  | 0 => if w = 1 then yPair (yK0 y) 65279 1 else if w = 2 then yPair (yK0 y) 65279 0 else if w = 3 then y8w (yK0 y) 65279 else yK0 y
  | k + 1 => yWc w (yWk w y k) ((yWk w y k).2.2.2.2.2.2.2.1 k)
/-- all but count and aside are the same -/
def sameM (x y : MS) : Prop := x.1 = y.1 ∧ x.2.1 = y.2.1 ∧ x.2.2.1 = y.2.2.1 ∧ x.2.2.2.1 = y.2.2.2.1 ∧ x.2.2.2.2.2.2.1 = y.2.2.2.2.2.2.1 ∧ x.2.2.2.2.2.2.2.1 = y.2.2.2.2.2.2.2.1
theorem sameM.rf {y : MS} : sameM y y := ⟨rfl, rfl, rfl, rfl, rfl, rfl⟩
theorem sameM.tr {x y z : MS} (h : sameM x y) (k : sameM y z) : sameM x z := ⟨h.1.trans k.1, h.2.1.trans k.2.1, h.2.2.1.trans k.2.2.1, h.2.2.2.1.trans k.2.2.2.1, h.2.2.2.2.1.trans k.2.2.2.2.1, h.2.2.2.2.2.trans k.2.2.2.2.2⟩
theorem yPair_s (y : MS) (u hi : Int32) : sameM (yPair y u hi) y := by unfold yPair; split <;> exact ⟨rfl, rfl, rfl, rfl, rfl, rfl⟩
theorem y8w_s (y : MS) (c : Int32) : sameM (y8w y c) y ∧ (y8w y c).2.2.2.2.1 ≤ y.2.2.2.2.1 + 4 := by
  unfold y8w
  split
  · exact ⟨⟨rfl, rfl, rfl, rfl, rfl, rfl⟩, by show _ + 1 ≤ _; omega⟩
  · split
    · exact ⟨⟨rfl, rfl, rfl, rfl, rfl, rfl⟩, by show _ + 1 + 1 ≤ _; omega⟩
    · split
      · exact ⟨⟨rfl, rfl, rfl, rfl, rfl, rfl⟩, by show _ + 1 + 1 + 1 ≤ _; omega⟩
      · exact ⟨⟨rfl, rfl, rfl, rfl, rfl, rfl⟩, by show _ + 1 + 1 + 1 + 1 ≤ _; omega⟩
theorem yWc_s (w : Int32) (y : MS) (c : Int32) : sameM (yWc w y c) y ∧ (yWc w y c).2.2.2.2.1 ≤ y.2.2.2.2.1 + 4 := by
  unfold yWc
  split
  · exact y8w_s _ _
  · split
    · exact y8w_s _ _
    · split
      · exact ⟨(yPair_s _ _ _).tr (yPair_s _ _ _), by rw [yPair_ct, yPair_ct]; omega⟩
      · exact ⟨yPair_s _ _ _, by rw [yPair_ct]; omega⟩
theorem yWk_s (w : Int32) (y : MS) : ∀ k : Nat, sameM (yWk w y k) (yK0 y) ∧ (yWk w y k).2.2.2.2.1 ≤ 4 + 4 * k
  | 0 => by
    unfold yWk
    split
    · exact ⟨yPair_s _ _ _, by rw [yPair_ct]; show 0 + 2 ≤ _; omega⟩
    · split
      · exact ⟨yPair_s _ _ _, by rw [yPair_ct]; show 0 + 2 ≤ _; omega⟩
      · split
        · have := y8w_s (yK0 y) 65279
          exact ⟨this.1, this.2⟩
        · exact ⟨sameM.rf, by show 0 ≤ _; omega⟩
  | k + 1 => by
    have h1 := yWk_s w y k
    have h2 := yWc_s w (yWk w y k) ((yWk w y k).2.2.2.2.2.2.2.1 k)
    exact ⟨h2.1.tr h1.1, by show (yWc w (yWk w y k) _).2.2.2.2.1 ≤ _; omega⟩
theorem yWk_ok {w : Int32} {y : MS} {k : Nat} (hy : okY y) (hk : k ≤ 5000) : okY (yWk w y k) := by
  obtain ⟨h, hc⟩ := yWk_s w y k
  exact ⟨by rw [h.2.1]; exact hy.1, by rw [h.2.2.1]; exact hy.2.1, by omega⟩
def cpF (y : MS) (i : Nat) : Nat → Int32 := fun q => if q < i then y.2.2.2.2.2.2.2.2 q else y.2.2.2.2.2.2.1 q
def cpB (y : MS) (i : Nat) : MS := (y.1, y.2.1, y.2.2.1, y.2.2.2.1, y.2.2.2.2.1, y.2.2.2.2.2.1, cpF y i, y.2.2.2.2.2.2.2.1, y.2.2.2.2.2.2.2.2)
theorem cpB_ok {y : MS} {i : Nat} (hy : okY y) : okY (cpB y i) := hy
theorem cpF_s (y : MS) (i : Nat) : upd (cpF y i) i (y.2.2.2.2.2.2.2.2 i) = cpF y (i + 1) := by
  funext q
  simp only [upd, cpF]
  by_cases h : q = i
  · subst h; simp
  · by_cases h2 : q < i
    · simp [h, h2, show q < i + 1 by omega]
    · simp [h, h2, show ¬ q < i + 1 by omega]
theorem cpF_0 (y : MS) : cpF y 0 = y.2.2.2.2.2.2.1 := by funext q; simp [cpF]
def yWf (y : MS) : MS := (y.1, y.2.2.2.2.1, y.2.2.1, y.2.2.2.1, y.2.2.2.2.1, y.2.2.2.2.2.1, cpF y y.2.2.2.2.1, y.2.2.2.2.2.2.2.1, y.2.2.2.2.2.2.2.2)
def mwOk (w : Int32) : Bool := decide (0 ≤ w) && decide (w ≤ 3)
def yWrite (y : MS) (w : Int32) : MS := if mwOk w = true then (if (yWk w y y.2.2.1).2.2.2.2.1 ≤ 4096 then yWf (yWk w y y.2.2.1) else yWk w y y.2.2.1) else (0, y.2)
def rWrite (y : MS) (w : Int32) : Int32 := if mwOk w = true then (if (yWk w y y.2.2.1).2.2.2.2.1 ≤ 4096 then nI (yWk w y y.2.2.1).2.2.2.2.1 else -1) else -1
theorem yWrite_ok {y : MS} {w : Int32} (hy : okY y) : okY (yWrite y w) := by
  have h := yWk_ok (w := w) (k := y.2.2.1) hy (by have := hy.2.1; omega)
  unfold yWrite
  split
  · split
    · next hc => exact ⟨hc, h.2⟩
    · exact h
  · exact hy
set_option maxHeartbeats 4000000 in
set_option maxRecDepth 100000 in
theorem cM_write (l : Launch) (D : va_G) (h qb qt qa : Nat) (cI : ClassId) (y : MS) (w : Int32) (hd : ap4 h qb qt qa) (hy : okY y) : Met l yM_write (Cond.code yM_write prog_3_method_29_code 4 (some .int) :: TB) { frames := 2, cells := 0, slots := 0, locals := 44 } (gx (xM D h qb qt qa cI y) [.ref h, .int w]) (mQ (some (.int (rWrite y w))) D (moZ h qb qt qa cI (yWrite y w)) (A4 h qb qt qa)) 0 0 (A4 h qb qt qa) := by
  refine mt_of (by decide) ?_
  intro p e s m args below meth cd S hr hk hin hv
  obtain ⟨rfl, hX⟩ := hv
  have hP : va_P D CL (moZ h qb qt qa cI y) s.heap := hX.1
  have hK := hX.2
  have hy1 := hy.1
  have hy2 := hy.2.1
  have hy3 := hy.2.2
  have hS : va_S (A4 h qb qt qa) s.heap s.heap [] := va_S.rf
  have hx := S.1
  have hb := S.2.1
  have hown := S.2.2.2.1
  have hts := S.2.2.2.2
  have hl := lv_entry ([.ref h, .int w]) (n := 4) (Nat.le_of_ble_eq_true rfl)
  rw [lg_entry_eq]
  generalize (lg_sl ([.ref h, .int w]) ++ List.replicate (4 - (lg_sl ([.ref h, .int w])).length) Slot.unset).toArray = ls at hl ⊢
  have hl : lv_has ls 4 [(0, .ref h), (1, .int w)] := hl
  refine lv_aload_n hx hb dM_write_0 rfl (lv_at hl 0 rfl) ?_
  refine lv_iconst (v := 0) hx hb dM_write_1 (by decide) ?_
  refine va_put (D := D) (ci := 1) (v := .int 0) (ty := .int) (C := "SignReaderModel") (T := T_M) (N := 9) hx hb hts i_M t_M t_M_ok n_M hown hK hP (moD hd) hS 0 rfl rfl 0 (by decide) (hts _ k391) (fun _ h9 => h9) rfl (by decide +kernel) rfl rfl (Nat.le_of_ble_eq_true rfl) dM_write_2 (fun H locs hP _ hS => ?_)
  have hP : va_P D CL (moW h qb qt qa cI (0) (nI y.2.1) (nI y.2.2.1) (y.2.2.2.1) (nI y.2.2.2.2.1) (y.2.2.2.2.2.1) (y.2.2.2.2.2.2.1) (y.2.2.2.2.2.2.2.1) (y.2.2.2.2.2.2.2.2)) H := hP
  have hP : va_P D CL (moZ h qb qt qa cI ((0, y.2))) _ := va_Pe (rfl : moW h qb qt qa cI (0) (nI y.2.1) (nI y.2.2.1) (y.2.2.2.1) (nI y.2.2.2.2.1) (y.2.2.2.2.2.1) (y.2.2.2.2.2.2.1) (y.2.2.2.2.2.2.2.1) (y.2.2.2.2.2.2.2.2) = moZ h qb qt qa cI ((0, y.2))) hP
  refine lv_iload_n hx hb dM_write_5 rfl (lv_at hl 1 rfl) ?_
  refine lv_if_lt (tgt := 14) hx hb dM_write_6 (by decide) (fun c1 => ?_) (fun c1 => ?_)
  · skip
    replace c1 := Int32.not_le.mpr c1
    refine lv_iconst (v := (-1)) hx hb dM_write_14 (by decide) ?_
    have hP : va_P D CL (moZ h qb qt qa cI (yWrite y w)) _ := va_Pe (congrArg (moZ h qb qt qa cI) (by rw [yWrite, if_neg (by simp [mwOk, c1])] : ((0, y.2) : MS) = yWrite y w)) hP
    exact mu_retI S hr hk (by rw [rWrite, if_neg (by simp [mwOk, c1])]) hP hS dM_write_15
  · skip
    replace c1 := Int32.not_lt.mp c1
    refine lv_iload_n hx hb dM_write_9 rfl (lv_at hl 1 rfl) ?_
    refine lv_iconst (v := 3) hx hb dM_write_10 (by decide) ?_
    refine lv_icmp_le (tgt := 16) hx hb dM_write_11 (by decide) (fun c2 => ?_) (fun c2 => ?_)
    · skip
      have hw9 : mwOk w = true := by simp [mwOk, c1, c2]
      refine lv_aload_n hx hb dM_write_16 rfl (lv_at hl 0 rfl) ?_
      refine lv_iconst (v := 0) hx hb dM_write_17 (by decide) ?_
      refine va_put (D := D) (ci := 1) (v := .int 0) (ty := .int) (C := "SignReaderModel") (T := T_M) (N := 9) hx hb hts i_M t_M t_M_ok n_M hown hK hP (moD hd) hS 0 rfl rfl 7 (by decide) (hts _ k398) (fun _ h9 => h9) rfl (by decide +kernel) rfl rfl (Nat.le_of_ble_eq_true rfl) dM_write_18 (fun H locs hP _ hS => ?_)
      have hP : va_P D CL (moW h qb qt qa cI (0) (nI y.2.1) (nI y.2.2.1) (y.2.2.2.1) (0) (y.2.2.2.2.2.1) (y.2.2.2.2.2.2.1) (y.2.2.2.2.2.2.2.1) (y.2.2.2.2.2.2.2.2)) H := hP
      have hP : va_P D CL (moZ h qb qt qa cI (yK0 y)) _ := va_Pe (by show _ = moW h qb qt qa cI _ _ _ _ (nI 0) _ _ _ _; rw [nI_0]; rfl : moW h qb qt qa cI (0) (nI y.2.1) (nI y.2.2.1) (y.2.2.2.1) (0) (y.2.2.2.2.2.1) (y.2.2.2.2.2.2.1) (y.2.2.2.2.2.2.2.1) (y.2.2.2.2.2.2.2.2) = moZ h qb qt qa cI (yK0 y)) hP
      have J61 : ∀ (Y : MS) (H : Heap) (locs : List Loc), Y = yWk w y 0 → va_P D CL (moZ h qb qt qa cI Y) H → va_S (A4 h qb qt qa) s.heap H locs → ∀ ls : Array Slot, lv_has ls 4 [(0, .ref h), (1, .int w)] → W p l e { frames := 2, cells := 0, slots := 0, locals := 44 } s m [.ref h, .int w].toArray below meth cd H locs 0 0 (MQ below (mQ (some (.int (rWrite y w))) D (moZ h qb qt qa cI (yWrite y w)) (A4 h qb qt qa)) [.ref h, .int w].toArray s 0 0 (A4 h qb qt qa)) (F0 m 61 ls []) := by
        intro Y H locs hY9 hP hS ls hl
        subst hY9
        refine lv_iconst (v := 0) hx hb dM_write_61 (by decide) ?_
        refine lv_istore_n (lv' := [(2, .int 0), (0, .ref h), (1, .int w)]) hx hb dM_write_62 rfl hl (by decide) rfl (fun ls hl => ?_)
        have J63 : ∀ (fu : Nat) (x : Int32) (k : Nat) (H : Heap) (locs : List Loc), x = nI k → k ≤ y.2.2.1 → y.2.2.1 < k + fu → va_P D CL (moZ h qb qt qa cI (yWk w y k)) H → va_S (A4 h qb qt qa) s.heap H locs → ∀ ls : Array Slot, lv_has ls 4 [(0, .ref h), (1, .int w), (2, .int x)] → W p l e { frames := 2, cells := 0, slots := 0, locals := 44 } s m [.ref h, .int w].toArray below meth cd H locs 0 0 (MQ below (mQ (some (.int (rWrite y w))) D (moZ h qb qt qa cI (yWrite y w)) (A4 h qb qt qa)) [.ref h, .int w].toArray s 0 0 (A4 h qb qt qa)) (F0 m 63 ls []) := by
          intro fu
          induction fu with
          | zero =>
            intro x k H locs hx9 hk9 hf9 hP hS ls hl
            exact absurd hf9 (by omega)
          | succ fu ih =>
            intro x k H locs hx9 hk9 hf9 hP hS ls hl
            subst hx9
            obtain ⟨hs9, hc9⟩ := yWk_s w y k
            have hl9 : (yWk w y k).2.2.1 = y.2.2.1 := hs9.2.2.1
            refine lv_iload_n hx hb dM_write_63 rfl (lv_at hl 2 rfl) ?_
            refine lv_aload_n hx hb dM_write_64 rfl (lv_at hl 0 rfl) ?_
            refine va_get (D := D) (ci := 1) (v := .int (nI (yWk w y k).2.2.1)) (C := "SignReaderModel") (T := T_M) (N := 9) hx hb hts i_M hown hK hP 0 rfl rfl 4 (by decide) (hts _ k395) (fun _ h9 => h9) rfl dM_write_65 ?_
            refine lv_icmp_ge (tgt := 175) hx hb dM_write_68 (by decide) (fun c3 => ?_) (fun c3 => ?_)
            · skip
              rw [nI_leI (by omega) (by omega), hl9] at c3
              have hk8 : k = y.2.2.1 := by omega
              rw [hk8] at hP hc9
              have hyo := yWk_ok (w := w) (k := y.2.2.1) hy (by omega)
              refine lv_aload_n hx hb dM_write_175 rfl (lv_at hl 0 rfl) ?_
              refine va_get (D := D) (ci := 1) (v := .int (nI (yWk w y y.2.2.1).2.2.2.2.1)) (C := "SignReaderModel") (T := T_M) (N := 9) hx hb hts i_M hown hK hP 0 rfl rfl 7 (by decide) (hts _ k398) (fun _ h9 => h9) rfl dM_write_176 ?_
              refine lv_sipush (v := 4096) hx hb dM_write_179 (by decide) ?_
              refine lv_icmp_le (tgt := 187) hx hb dM_write_182 (by decide) (fun c4 => ?_) (fun c4 => ?_)
              · skip
                rw [show (4096 : Int32) = nI 4096 from rfl, nI_leI (by omega) (by omega)] at c4
                refine lv_iconst (v := 0) hx hb dM_write_187 (by decide) ?_
                refine lv_istore_n (lv' := [(2, .int 0), (0, .ref h), (1, .int w)]) hx hb dM_write_188 rfl hl (by decide) rfl (fun ls hl => ?_)
                have J189 : ∀ (fu : Nat) (x5 : Int32) (i : Nat) (H : Heap) (locs : List Loc), x5 = nI i → i ≤ (yWk w y y.2.2.1).2.2.2.2.1 → (yWk w y y.2.2.1).2.2.2.2.1 < i + fu → va_P D CL (moZ h qb qt qa cI (cpB (yWk w y y.2.2.1) i)) H → va_S (A4 h qb qt qa) s.heap H locs → ∀ ls : Array Slot, lv_has ls 4 [(0, .ref h), (1, .int w), (2, .int x5)] → W p l e { frames := 2, cells := 0, slots := 0, locals := 44 } s m [.ref h, .int w].toArray below meth cd H locs 0 0 (MQ below (mQ (some (.int (rWrite y w))) D (moZ h qb qt qa cI (yWrite y w)) (A4 h qb qt qa)) [.ref h, .int w].toArray s 0 0 (A4 h qb qt qa)) (F0 m 189 ls []) := by
                  intro fu
                  induction fu with
                  | zero =>
                    intro x5 i H locs hx5 hi5 hf5 hP hS ls hl
                    exact absurd hf5 (by omega)
                  | succ fu ih =>
                    intro x5 i H locs hx5 hi5 hf5 hP hS ls hl
                    subst hx5
                    refine lv_iload_n hx hb dM_write_189 rfl (lv_at hl 2 rfl) ?_
                    refine lv_aload_n hx hb dM_write_190 rfl (lv_at hl 0 rfl) ?_
                    refine va_get (D := D) (ci := 1) (v := .int (nI (yWk w y y.2.2.1).2.2.2.2.1)) (C := "SignReaderModel") (T := T_M) (N := 9) hx hb hts i_M hown hK hP 0 rfl rfl 7 (by decide) (hts _ k398) (fun _ h9 => h9) rfl dM_write_191 ?_
                    refine lv_icmp_ge (tgt := 215) hx hb dM_write_194 (by decide) (fun c5 => ?_) (fun c5 => ?_)
                    · skip
                      rw [nI_leI (by omega) (by omega)] at c5
                      refine lv_aload_n hx hb dM_write_215 rfl (lv_at hl 0 rfl) ?_
                      refine lv_aload_n hx hb dM_write_216 rfl (lv_at hl 0 rfl) ?_
                      refine va_get (D := D) (ci := 1) (v := .int (nI (yWk w y y.2.2.1).2.2.2.2.1)) (C := "SignReaderModel") (T := T_M) (N := 9) hx hb hts i_M hown hK hP 0 rfl rfl 7 (by decide) (hts _ k398) (fun _ h9 => h9) rfl dM_write_217 ?_
                      refine va_put (D := D) (ci := 1) (v := .int (nI (yWk w y y.2.2.1).2.2.2.2.1)) (ty := .int) (C := "SignReaderModel") (T := T_M) (N := 9) hx hb hts i_M t_M t_M_ok n_M hown hK hP (moD hd) hS 0 rfl rfl 2 (by decide) (hts _ k393) (fun _ h9 => h9) rfl (by decide +kernel) rfl rfl (Nat.le_of_ble_eq_true rfl) dM_write_220 (fun H locs hP _ hS => ?_)
                      have hP : va_P D CL (moW h qb qt qa cI ((yWk w y y.2.2.1).1) ((nI (yWk w y y.2.2.1).2.2.2.2.1)) (nI (yWk w y y.2.2.1).2.2.1) ((yWk w y y.2.2.1).2.2.2.1) (nI (yWk w y y.2.2.1).2.2.2.2.1) ((yWk w y y.2.2.1).2.2.2.2.2.1) (cpF (yWk w y y.2.2.1) i) ((yWk w y y.2.2.1).2.2.2.2.2.2.2.1) ((yWk w y y.2.2.1).2.2.2.2.2.2.2.2)) H := hP
                      refine lv_aload_n hx hb dM_write_223 rfl (lv_at hl 0 rfl) ?_
                      refine va_get (D := D) (ci := 1) (v := .int (nI (yWk w y y.2.2.1).2.2.2.2.1)) (C := "SignReaderModel") (T := T_M) (N := 9) hx hb hts i_M hown hK hP 0 rfl rfl 7 (by decide) (hts _ k398) (fun _ h9 => h9) rfl dM_write_224 ?_
                      have hP : va_P D CL (moZ h qb qt qa cI (yWrite y w)) _ := va_Pe (by rw [yWrite, if_pos hw9, if_pos c4, show i = (yWk w y y.2.2.1).2.2.2.2.1 by omega]; rfl : moW h qb qt qa cI ((yWk w y y.2.2.1).1) ((nI (yWk w y y.2.2.1).2.2.2.2.1)) (nI (yWk w y y.2.2.1).2.2.1) ((yWk w y y.2.2.1).2.2.2.1) (nI (yWk w y y.2.2.1).2.2.2.2.1) ((yWk w y y.2.2.1).2.2.2.2.2.1) (cpF (yWk w y y.2.2.1) i) ((yWk w y y.2.2.1).2.2.2.2.2.2.2.1) ((yWk w y y.2.2.1).2.2.2.2.2.2.2.2) = moZ h qb qt qa cI (yWrite y w)) hP
                      exact mu_retI S hr hk (by rw [rWrite, if_pos hw9, if_pos c4]) hP hS dM_write_227
                    · skip
                      rw [nI_leI (by omega) (by omega)] at c5
                      refine lv_aload_n hx hb dM_write_197 rfl (lv_at hl 0 rfl) ?_
                      refine va_get (D := D) (ci := 1) (v := .ref qb) (C := "SignReaderModel") (T := T_M) (N := 9) hx hb hts i_M hown hK hP 0 rfl rfl 1 (by decide) (hts _ k392) (fun _ h9 => h9) rfl dM_write_198 ?_
                      refine lv_iload_n hx hb dM_write_201 rfl (lv_at hl 2 rfl) ?_
                      refine lv_aload_n hx hb dM_write_202 rfl (lv_at hl 0 rfl) ?_
                      refine va_get (D := D) (ci := 1) (v := .ref qa) (C := "SignReaderModel") (T := T_M) (N := 9) hx hb hts i_M hown hK hP 0 rfl rfl 6 (by decide) (hts _ k397) (fun _ h9 => h9) rfl dM_write_203 ?_
                      refine lv_iload_n hx hb dM_write_206 rfl (lv_at hl 2 rfl) ?_
                      refine va_iald (f := ((yWk w y y.2.2.1).2.2.2.2.2.2.2.2)) hx hb hK hP 3 0 rfl rfl (vp_in_nI (by omega) (by omega)) dM_write_207 ?_
                      rw [nI_clamp (n := i) (by omega)]
                      refine va_iast hx hb hK hP (moD hd) hS 1 0 rfl rfl (vp_in_nI (by omega) (by omega)) dM_write_208 (fun H locs hP _ hS => ?_)
                      have hP : va_P D CL (moW h qb qt qa cI ((yWk w y y.2.2.1).1) (nI (yWk w y y.2.2.1).2.1) (nI (yWk w y y.2.2.1).2.2.1) ((yWk w y y.2.2.1).2.2.2.1) (nI (yWk w y y.2.2.1).2.2.2.2.1) ((yWk w y y.2.2.1).2.2.2.2.2.1) (upd (cpF (yWk w y y.2.2.1) i) ((nI i)).toNatClampNeg ((((yWk w y y.2.2.1).2.2.2.2.2.2.2.2) i))) ((yWk w y y.2.2.1).2.2.2.2.2.2.2.1) ((yWk w y y.2.2.1).2.2.2.2.2.2.2.2)) H := hP
                      have hP : va_P D CL (moZ h qb qt qa cI (cpB (yWk w y y.2.2.1) (i + 1))) _ := va_Pe (by simp only [cpB, nI_clamp (show i < 2 ^ 31 by omega), cpF_s] : moW h qb qt qa cI ((yWk w y y.2.2.1).1) (nI (yWk w y y.2.2.1).2.1) (nI (yWk w y y.2.2.1).2.2.1) ((yWk w y y.2.2.1).2.2.2.1) (nI (yWk w y y.2.2.1).2.2.2.2.1) ((yWk w y y.2.2.1).2.2.2.2.2.1) (upd (cpF (yWk w y y.2.2.1) i) ((nI i)).toNatClampNeg ((((yWk w y y.2.2.1).2.2.2.2.2.2.2.2) i))) ((yWk w y y.2.2.1).2.2.2.2.2.2.2.1) ((yWk w y y.2.2.1).2.2.2.2.2.2.2.2) = moZ h qb qt qa cI (cpB (yWk w y y.2.2.1) (i + 1))) hP
                      refine lv_iinc (v := ((nI i) + 1)) (lv' := [(2, .int ((nI i) + 1)), (0, .ref h), (1, .int w)]) hx hb dM_write_209 hl (k := 2) rfl rfl (by decide) rfl (fun ls hl => ?_)
                      refine lv_goto (tgt := 189) hx hb dM_write_212 (by decide) ?_
                      exact ih (((nI i) + 1)) (i + 1) (_) (_) (nI_1 i) (by omega) (by omega) (hP) (hS) ls (lv_sub hl [1, 2, 0] rfl) 
                exact J189 ((yWk w y y.2.2.1).2.2.2.2.1 + 1) (0) (0) (_) (_) (rfl) (by omega) (by omega) (by rw [cpB, cpF_0]; exact hP) (hS) ls (lv_sub hl [1, 2, 0] rfl) 
              · skip
                rw [show (4096 : Int32) = nI 4096 from rfl, nI_leI (by omega) (by omega)] at c4
                refine lv_iconst (v := (-1)) hx hb dM_write_185 (by decide) ?_
                have hP : va_P D CL (moZ h qb qt qa cI (yWrite y w)) _ := va_Pe (congrArg (moZ h qb qt qa cI) (by rw [yWrite, if_pos hw9, if_neg c4] : (yWk w y y.2.2.1 : MS) = yWrite y w)) hP
                exact mu_retI S hr hk (by rw [rWrite, if_pos hw9, if_neg c4]) hP hS dM_write_186
            · skip
              rw [nI_leI (by omega) (by omega), hl9] at c3
              refine lv_aload_n hx hb dM_write_71 rfl (lv_at hl 0 rfl) ?_
              refine va_get (D := D) (ci := 1) (v := .ref qt) (C := "SignReaderModel") (T := T_M) (N := 9) hx hb hts i_M hown hK hP 0 rfl rfl 3 (by decide) (hts _ k394) (fun _ h9 => h9) rfl dM_write_72 ?_
              refine lv_iload_n hx hb dM_write_75 rfl (lv_at hl 2 rfl) ?_
              refine va_iald (f := ((yWk w y k).2.2.2.2.2.2.2.1)) hx hb hK hP 2 0 rfl rfl (vp_in_nI (by omega) (by omega)) dM_write_76 ?_
              rw [nI_clamp (n := k) (by omega)]
              refine lv_istore_n (lv' := [(3, .int (((yWk w y k).2.2.2.2.2.2.2.1) k)), (0, .ref h), (1, .int w), (2, .int (nI k))]) hx hb dM_write_77 rfl hl (by decide) rfl (fun ls hl => ?_)
              have J169 : ∀ (Y : MS) (H : Heap) (locs : List Loc), Y = yWk w y (k + 1) → va_P D CL (moZ h qb qt qa cI Y) H → va_S (A4 h qb qt qa) s.heap H locs → ∀ ls : Array Slot, lv_has ls 4 [(3, .int (((yWk w y k).2.2.2.2.2.2.2.1) k)), (0, .ref h), (1, .int w), (2, .int (nI k))] → W p l e { frames := 2, cells := 0, slots := 0, locals := 44 } s m [.ref h, .int w].toArray below meth cd H locs 0 0 (MQ below (mQ (some (.int (rWrite y w))) D (moZ h qb qt qa cI (yWrite y w)) (A4 h qb qt qa)) [.ref h, .int w].toArray s 0 0 (A4 h qb qt qa)) (F0 m 169 ls []) := by
                intro Y H locs hY9 hP hS ls hl
                subst hY9
                refine lv_iinc (v := ((nI k) + 1)) (lv' := [(2, .int ((nI k) + 1)), (3, .int (((yWk w y k).2.2.2.2.2.2.2.1) k)), (0, .ref h), (1, .int w)]) hx hb dM_write_169 hl (k := 3) rfl rfl (by decide) rfl (fun ls hl => ?_)
                refine lv_goto (tgt := 63) hx hb dM_write_172 (by decide) ?_
                exact ih (((nI k) + 1)) (k + 1) (_) (_) (nI_1 k) (by omega) (by omega) (hP) (hS) ls (lv_sub hl [2, 3, 0] rfl) 
              refine lv_iload_n hx hb dM_write_78 rfl (lv_at hl 2 rfl) ?_
              refine lv_if_eq (tgt := 87) hx hb dM_write_79 (by decide) (fun c6 => ?_) (fun c6 => ?_)
              · skip
                refine lv_aload_n hx hb dM_write_87 rfl (lv_at hl 1 rfl) ?_
                refine lv_iload_n hx hb dM_write_88 rfl (lv_at hl 0 rfl) ?_
                refine mu_V (As := [.int (((yWk w y k).2.2.2.2.2.2.2.1) k)]) (rest := []) (n := 1) (C := "SignReaderModel") S (cM_writeEight l D h qb qt qa cI (yWk w y k)  ((((yWk w y k).2.2.2.2.2.2.2.1) k)) hd (yWk_ok hy (by omega)) (by omega)) k536 k2 k535 ks25 (by decide +kernel) ⟨rfl, rfl⟩ k533 (by decide) (xM_V ⟨hP, hK⟩) rfl rfl hl.1 (Nat.le_of_ble_eq_true rfl) ⟨Nat.le_refl _, Nat.le_refl _⟩ dM_write_89 hS (fun _ h9 => h9) (fun H locs hP hS => ?_)
                have hP : va_P D CL (moZ h qb qt qa cI (y8w (yWk w y k) ((((yWk w y k).2.2.2.2.2.2.2.1) k)))) H := hP
                refine lv_goto (tgt := 169) hx hb dM_write_92 (by decide) ?_
                exact J169  (y8w (yWk w y k) ((((yWk w y k).2.2.2.2.2.2.2.1) k))) (_) (_) (by rw [yWk, yWc, if_pos c6]) (hP) (hS) ls (lv_sub hl [0, 1, 2, 3] rfl) 
              · skip
                refine lv_iload_n hx hb dM_write_82 rfl (lv_at hl 2 rfl) ?_
                refine lv_iconst (v := 3) hx hb dM_write_83 (by decide) ?_
                refine lv_icmp_ne (tgt := 95) hx hb dM_write_84 (by decide) (fun c7 => ?_) (fun c7 => ?_)
                · skip
                  refine lv_iload_n hx hb dM_write_95 rfl (lv_at hl 0 rfl) ?_
                  refine lv_ldc (v := 65536) hx hb hown (hts _ k466) dM_write_96 ?_
                  refine lv_icmp_ge (tgt := 119) hx hb dM_write_98 (by decide) (fun c8 => ?_) (fun c8 => ?_)
                  · skip
                    refine lv_aload_n hx hb dM_write_119 rfl (lv_at hl 1 rfl) ?_
                    refine lv_ldc (v := 55296) hx hb hown (hts _ k459) dM_write_120 ?_
                    refine lv_iload_n hx hb dM_write_122 rfl (lv_at hl 0 rfl) ?_
                    refine lv_ldc (v := 65536) hx hb hown (hts _ k466) dM_write_123 ?_
                    refine lv_isub hx hb dM_write_125 ?_
                    refine lv_sipush (v := 1024) hx hb dM_write_126 (by decide) ?_
                    refine lv_idiv hx hb dM_write_129 (by decide) ?_
                    refine lv_iadd hx hb dM_write_130 ?_
                    refine lv_iload_n hx hb dM_write_131 rfl (lv_at hl 2 rfl) ?_
                    refine lv_iconst (v := 1) hx hb dM_write_132 (by decide) ?_
                    refine lv_icmp_ne (tgt := 140) hx hb dM_write_133 (by decide) (fun c9 => ?_) (fun c9 => ?_)
                    · skip
                      refine lv_iconst (v := 0) hx hb dM_write_140 (by decide) ?_
                      refine mu_V (As := [.int (55296 + (((((yWk w y k).2.2.2.2.2.2.2.1) k) - 65536) / 1024)), .int 0]) (rest := []) (n := 2) (C := "SignReaderModel") S (cM_pair l D h qb qt qa cI (yWk w y k)  ((55296 + (((((yWk w y k).2.2.2.2.2.2.2.1) k) - 65536) / 1024))) (0) hd (yWk_ok hy (by omega)) (by omega)) k528 k2 k527 ks23 (by decide +kernel) ⟨rfl, rfl⟩ k525 (by decide) (xM_V ⟨hP, hK⟩) rfl rfl hl.1 (Nat.le_of_ble_eq_true rfl) ⟨Nat.le_refl _, Nat.le_refl _⟩ dM_write_141 hS (fun _ h9 => h9) (fun H locs hP hS => ?_)
                      have hP : va_P D CL (moZ h qb qt qa cI (yPair (yWk w y k) ((55296 + (((((yWk w y k).2.2.2.2.2.2.2.1) k) - 65536) / 1024))) 0)) H := hP
                      refine lv_aload_n hx hb dM_write_144 rfl (lv_at hl 1 rfl) ?_
                      refine lv_ldc (v := 56320) hx hb hown (hts _ k464) dM_write_145 ?_
                      refine lv_iload_n hx hb dM_write_147 rfl (lv_at hl 0 rfl) ?_
                      refine lv_ldc (v := 65536) hx hb hown (hts _ k466) dM_write_148 ?_
                      refine lv_isub hx hb dM_write_150 ?_
                      refine lv_sipush (v := 1024) hx hb dM_write_151 (by decide) ?_
                      refine lv_irem hx hb dM_write_154 (by decide) ?_
                      refine lv_iadd hx hb dM_write_155 ?_
                      refine lv_iload_n hx hb dM_write_156 rfl (lv_at hl 2 rfl) ?_
                      refine lv_iconst (v := 1) hx hb dM_write_157 (by decide) ?_
                      refine lv_icmp_ne (tgt := 165) hx hb dM_write_158 (by decide) (fun c10 => ?_) (fun c10 => absurd c10 c9)
                      refine lv_iconst (v := 0) hx hb dM_write_165 (by decide) ?_
                      refine mu_V (As := [.int (56320 + (((((yWk w y k).2.2.2.2.2.2.2.1) k) - 65536) - ((((yWk w y k).2.2.2.2.2.2.2.1) k) - 65536) / 1024 * 1024)), .int 0]) (rest := []) (n := 2) (C := "SignReaderModel") S (cM_pair l D h qb qt qa cI (yPair (yWk w y k) ((55296 + (((((yWk w y k).2.2.2.2.2.2.2.1) k) - 65536) / 1024))) 0)  ((56320 + (((((yWk w y k).2.2.2.2.2.2.2.1) k) - 65536) - ((((yWk w y k).2.2.2.2.2.2.2.1) k) - 65536) / 1024 * 1024))) (0) hd (yPair_ok ⟨(yWk_ok hy (by omega)), (by omega)⟩) (by rw [yPair_ct]; omega)) k528 k2 k527 ks23 (by decide +kernel) ⟨rfl, rfl⟩ k525 (by decide) (xM_V ⟨hP, hK⟩) rfl rfl hl.1 (Nat.le_of_ble_eq_true rfl) ⟨Nat.le_refl _, Nat.le_refl _⟩ dM_write_166 hS (fun _ h9 => h9) (fun H locs hP hS => ?_)
                      have hP : va_P D CL (moZ h qb qt qa cI (yPair (yPair (yWk w y k) ((55296 + (((((yWk w y k).2.2.2.2.2.2.2.1) k) - 65536) / 1024))) 0) ((56320 + (((((yWk w y k).2.2.2.2.2.2.2.1) k) - 65536) - ((((yWk w y k).2.2.2.2.2.2.2.1) k) - 65536) / 1024 * 1024))) 0)) H := hP
                      exact J169  (yPair (yPair (yWk w y k) ((55296 + (((((yWk w y k).2.2.2.2.2.2.2.1) k) - 65536) / 1024))) 0) ((56320 + (((((yWk w y k).2.2.2.2.2.2.2.1) k) - 65536) - ((((yWk w y k).2.2.2.2.2.2.2.1) k) - 65536) / 1024 * 1024))) 0) (_) (_) (by rw [yWk, yWc, if_neg c6, if_neg c7, if_pos c8, hiW, if_neg c9]) (hP) (hS) ls (lv_sub hl [0, 1, 2, 3] rfl) 
                    · skip
                      refine lv_iconst (v := 1) hx hb dM_write_136 (by decide) ?_
                      refine lv_goto (tgt := 141) hx hb dM_write_137 (by decide) ?_
                      refine mu_V (As := [.int (55296 + (((((yWk w y k).2.2.2.2.2.2.2.1) k) - 65536) / 1024)), .int 1]) (rest := []) (n := 2) (C := "SignReaderModel") S (cM_pair l D h qb qt qa cI (yWk w y k)  ((55296 + (((((yWk w y k).2.2.2.2.2.2.2.1) k) - 65536) / 1024))) (1) hd (yWk_ok hy (by omega)) (by omega)) k528 k2 k527 ks23 (by decide +kernel) ⟨rfl, rfl⟩ k525 (by decide) (xM_V ⟨hP, hK⟩) rfl rfl hl.1 (Nat.le_of_ble_eq_true rfl) ⟨Nat.le_refl _, Nat.le_refl _⟩ dM_write_141 hS (fun _ h9 => h9) (fun H locs hP hS => ?_)
                      have hP : va_P D CL (moZ h qb qt qa cI (yPair (yWk w y k) ((55296 + (((((yWk w y k).2.2.2.2.2.2.2.1) k) - 65536) / 1024))) 1)) H := hP
                      refine lv_aload_n hx hb dM_write_144 rfl (lv_at hl 1 rfl) ?_
                      refine lv_ldc (v := 56320) hx hb hown (hts _ k464) dM_write_145 ?_
                      refine lv_iload_n hx hb dM_write_147 rfl (lv_at hl 0 rfl) ?_
                      refine lv_ldc (v := 65536) hx hb hown (hts _ k466) dM_write_148 ?_
                      refine lv_isub hx hb dM_write_150 ?_
                      refine lv_sipush (v := 1024) hx hb dM_write_151 (by decide) ?_
                      refine lv_irem hx hb dM_write_154 (by decide) ?_
                      refine lv_iadd hx hb dM_write_155 ?_
                      refine lv_iload_n hx hb dM_write_156 rfl (lv_at hl 2 rfl) ?_
                      refine lv_iconst (v := 1) hx hb dM_write_157 (by decide) ?_
                      refine lv_icmp_ne (tgt := 165) hx hb dM_write_158 (by decide) (fun c11 => absurd c11 (fun h9 => h9 c9)) (fun c11 => ?_)
                      refine lv_iconst (v := 1) hx hb dM_write_161 (by decide) ?_
                      refine lv_goto (tgt := 166) hx hb dM_write_162 (by decide) ?_
                      refine mu_V (As := [.int (56320 + (((((yWk w y k).2.2.2.2.2.2.2.1) k) - 65536) - ((((yWk w y k).2.2.2.2.2.2.2.1) k) - 65536) / 1024 * 1024)), .int 1]) (rest := []) (n := 2) (C := "SignReaderModel") S (cM_pair l D h qb qt qa cI (yPair (yWk w y k) ((55296 + (((((yWk w y k).2.2.2.2.2.2.2.1) k) - 65536) / 1024))) 1)  ((56320 + (((((yWk w y k).2.2.2.2.2.2.2.1) k) - 65536) - ((((yWk w y k).2.2.2.2.2.2.2.1) k) - 65536) / 1024 * 1024))) (1) hd (yPair_ok ⟨(yWk_ok hy (by omega)), (by omega)⟩) (by rw [yPair_ct]; omega)) k528 k2 k527 ks23 (by decide +kernel) ⟨rfl, rfl⟩ k525 (by decide) (xM_V ⟨hP, hK⟩) rfl rfl hl.1 (Nat.le_of_ble_eq_true rfl) ⟨Nat.le_refl _, Nat.le_refl _⟩ dM_write_166 hS (fun _ h9 => h9) (fun H locs hP hS => ?_)
                      have hP : va_P D CL (moZ h qb qt qa cI (yPair (yPair (yWk w y k) ((55296 + (((((yWk w y k).2.2.2.2.2.2.2.1) k) - 65536) / 1024))) 1) ((56320 + (((((yWk w y k).2.2.2.2.2.2.2.1) k) - 65536) - ((((yWk w y k).2.2.2.2.2.2.2.1) k) - 65536) / 1024 * 1024))) 1)) H := hP
                      exact J169  (yPair (yPair (yWk w y k) ((55296 + (((((yWk w y k).2.2.2.2.2.2.2.1) k) - 65536) / 1024))) 1) ((56320 + (((((yWk w y k).2.2.2.2.2.2.2.1) k) - 65536) - ((((yWk w y k).2.2.2.2.2.2.2.1) k) - 65536) / 1024 * 1024))) 1) (_) (_) (by rw [yWk, yWc, if_neg c6, if_neg c7, if_pos c8, hiW, if_pos c9]) (hP) (hS) ls (lv_sub hl [0, 1, 2, 3] rfl) 
                  · skip
                    refine lv_aload_n hx hb dM_write_101 rfl (lv_at hl 1 rfl) ?_
                    refine lv_iload_n hx hb dM_write_102 rfl (lv_at hl 0 rfl) ?_
                    refine lv_iload_n hx hb dM_write_103 rfl (lv_at hl 2 rfl) ?_
                    refine lv_iconst (v := 1) hx hb dM_write_104 (by decide) ?_
                    refine lv_icmp_ne (tgt := 112) hx hb dM_write_105 (by decide) (fun c12 => ?_) (fun c12 => ?_)
                    · skip
                      refine lv_iconst (v := 0) hx hb dM_write_112 (by decide) ?_
                      refine mu_V (As := [.int (((yWk w y k).2.2.2.2.2.2.2.1) k), .int 0]) (rest := []) (n := 2) (C := "SignReaderModel") S (cM_pair l D h qb qt qa cI (yWk w y k)  ((((yWk w y k).2.2.2.2.2.2.2.1) k)) (0) hd (yWk_ok hy (by omega)) (by omega)) k528 k2 k527 ks23 (by decide +kernel) ⟨rfl, rfl⟩ k525 (by decide) (xM_V ⟨hP, hK⟩) rfl rfl hl.1 (Nat.le_of_ble_eq_true rfl) ⟨Nat.le_refl _, Nat.le_refl _⟩ dM_write_113 hS (fun _ h9 => h9) (fun H locs hP hS => ?_)
                      have hP : va_P D CL (moZ h qb qt qa cI (yPair (yWk w y k) ((((yWk w y k).2.2.2.2.2.2.2.1) k)) 0)) H := hP
                      refine lv_goto (tgt := 169) hx hb dM_write_116 (by decide) ?_
                      exact J169  (yPair (yWk w y k) ((((yWk w y k).2.2.2.2.2.2.2.1) k)) 0) (_) (_) (by rw [yWk, yWc, if_neg c6, if_neg c7, if_neg c8, hiW, if_neg c12]) (hP) (hS) ls (lv_sub hl [0, 1, 2, 3] rfl) 
                    · skip
                      refine lv_iconst (v := 1) hx hb dM_write_108 (by decide) ?_
                      refine lv_goto (tgt := 113) hx hb dM_write_109 (by decide) ?_
                      refine mu_V (As := [.int (((yWk w y k).2.2.2.2.2.2.2.1) k), .int 1]) (rest := []) (n := 2) (C := "SignReaderModel") S (cM_pair l D h qb qt qa cI (yWk w y k)  ((((yWk w y k).2.2.2.2.2.2.2.1) k)) (1) hd (yWk_ok hy (by omega)) (by omega)) k528 k2 k527 ks23 (by decide +kernel) ⟨rfl, rfl⟩ k525 (by decide) (xM_V ⟨hP, hK⟩) rfl rfl hl.1 (Nat.le_of_ble_eq_true rfl) ⟨Nat.le_refl _, Nat.le_refl _⟩ dM_write_113 hS (fun _ h9 => h9) (fun H locs hP hS => ?_)
                      have hP : va_P D CL (moZ h qb qt qa cI (yPair (yWk w y k) ((((yWk w y k).2.2.2.2.2.2.2.1) k)) 1)) H := hP
                      refine lv_goto (tgt := 169) hx hb dM_write_116 (by decide) ?_
                      exact J169  (yPair (yWk w y k) ((((yWk w y k).2.2.2.2.2.2.2.1) k)) 1) (_) (_) (by rw [yWk, yWc, if_neg c6, if_neg c7, if_neg c8, hiW, if_pos c12]) (hP) (hS) ls (lv_sub hl [0, 1, 2, 3] rfl) 
                · skip
                  refine lv_aload_n hx hb dM_write_87 rfl (lv_at hl 1 rfl) ?_
                  refine lv_iload_n hx hb dM_write_88 rfl (lv_at hl 0 rfl) ?_
                  refine mu_V (As := [.int (((yWk w y k).2.2.2.2.2.2.2.1) k)]) (rest := []) (n := 1) (C := "SignReaderModel") S (cM_writeEight l D h qb qt qa cI (yWk w y k)  ((((yWk w y k).2.2.2.2.2.2.2.1) k)) hd (yWk_ok hy (by omega)) (by omega)) k536 k2 k535 ks25 (by decide +kernel) ⟨rfl, rfl⟩ k533 (by decide) (xM_V ⟨hP, hK⟩) rfl rfl hl.1 (Nat.le_of_ble_eq_true rfl) ⟨Nat.le_refl _, Nat.le_refl _⟩ dM_write_89 hS (fun _ h9 => h9) (fun H locs hP hS => ?_)
                  have hP : va_P D CL (moZ h qb qt qa cI (y8w (yWk w y k) ((((yWk w y k).2.2.2.2.2.2.2.1) k)))) H := hP
                  refine lv_goto (tgt := 169) hx hb dM_write_92 (by decide) ?_
                  exact J169  (y8w (yWk w y k) ((((yWk w y k).2.2.2.2.2.2.2.1) k))) (_) (_) (by rw [yWk, yWc, if_neg c6, if_pos c7]) (hP) (hS) ls (lv_sub hl [0, 1, 2, 3] rfl) 
        exact J63 (y.2.2.1 + 1) (0) (0) (_) (_) (rfl) (by omega) (by omega) (hP) (hS) ls (lv_sub hl [1, 2, 0] rfl) 
      refine lv_iload_n hx hb dM_write_21 rfl (lv_at hl 1 rfl) ?_
      refine lv_iconst (v := 1) hx hb dM_write_22 (by decide) ?_
      refine lv_icmp_eq (tgt := 31) hx hb dM_write_23 (by decide) (fun c13 => ?_) (fun c13 => ?_)
      · skip
        refine lv_aload_n hx hb dM_write_31 rfl (lv_at hl 0 rfl) ?_
        refine lv_ldc (v := 65279) hx hb hown (hts _ k524) dM_write_32 ?_
        refine lv_iload_n hx hb dM_write_34 rfl (lv_at hl 1 rfl) ?_
        refine lv_iconst (v := 1) hx hb dM_write_35 (by decide) ?_
        refine lv_icmp_ne (tgt := 43) hx hb dM_write_36 (by decide) (fun c14 => absurd c14 (fun h9 => h9 c13)) (fun c14 => ?_)
        refine lv_iconst (v := 1) hx hb dM_write_39 (by decide) ?_
        refine lv_goto (tgt := 44) hx hb dM_write_40 (by decide) ?_
        refine mu_V (As := [.int 65279, .int 1]) (rest := []) (n := 2) (C := "SignReaderModel") S (cM_pair l D h qb qt qa cI (yK0 y)  (65279) (1) hd (show okY (yK0 y) from ⟨hy.1, hy.2.1, Nat.zero_le _⟩) (by show 0 + _ ≤ _; omega)) k528 k2 k527 ks23 (by decide +kernel) ⟨rfl, rfl⟩ k525 (by decide) (xM_V ⟨hP, hK⟩) rfl rfl hl.1 (Nat.le_of_ble_eq_true rfl) ⟨Nat.le_refl _, Nat.le_refl _⟩ dM_write_44 hS (fun _ h9 => h9) (fun H locs hP hS => ?_)
        have hP : va_P D CL (moZ h qb qt qa cI (yPair (yK0 y) 65279 1)) H := hP
        refine lv_goto (tgt := 61) hx hb dM_write_47 (by decide) ?_
        exact J61  (yPair (yK0 y) 65279 1) (_) (_) (by rw [yWk, if_pos c13]) (hP) (hS) ls (lv_sub hl [0, 1] rfl) 
      · skip
        refine lv_iload_n hx hb dM_write_26 rfl (lv_at hl 1 rfl) ?_
        refine lv_iconst (v := 2) hx hb dM_write_27 (by decide) ?_
        refine lv_icmp_ne (tgt := 50) hx hb dM_write_28 (by decide) (fun c15 => ?_) (fun c15 => ?_)
        · skip
          refine lv_iload_n hx hb dM_write_50 rfl (lv_at hl 1 rfl) ?_
          refine lv_iconst (v := 3) hx hb dM_write_51 (by decide) ?_
          refine lv_icmp_ne (tgt := 61) hx hb dM_write_52 (by decide) (fun c16 => ?_) (fun c16 => ?_)
          · skip
            exact J61  (yK0 y) (_) (_) (by rw [yWk, if_neg c13, if_neg c15, if_neg c16]) (hP) (hS) ls (lv_sub hl [0, 1] rfl) 
          · skip
            refine lv_aload_n hx hb dM_write_55 rfl (lv_at hl 0 rfl) ?_
            refine lv_ldc (v := 65279) hx hb hown (hts _ k524) dM_write_56 ?_
            refine mu_V (As := [.int 65279]) (rest := []) (n := 1) (C := "SignReaderModel") S (cM_writeEight l D h qb qt qa cI (yK0 y)  (65279) hd (show okY (yK0 y) from ⟨hy.1, hy.2.1, Nat.zero_le _⟩) (by show 0 + _ ≤ _; omega)) k536 k2 k535 ks25 (by decide +kernel) ⟨rfl, rfl⟩ k533 (by decide) (xM_V ⟨hP, hK⟩) rfl rfl hl.1 (Nat.le_of_ble_eq_true rfl) ⟨Nat.le_refl _, Nat.le_refl _⟩ dM_write_58 hS (fun _ h9 => h9) (fun H locs hP hS => ?_)
            have hP : va_P D CL (moZ h qb qt qa cI (y8w (yK0 y) 65279)) H := hP
            exact J61  (y8w (yK0 y) 65279) (_) (_) (by rw [yWk, if_neg c13, if_neg c15, if_pos c16]) (hP) (hS) ls (lv_sub hl [0, 1] rfl) 
        · skip
          refine lv_aload_n hx hb dM_write_31 rfl (lv_at hl 0 rfl) ?_
          refine lv_ldc (v := 65279) hx hb hown (hts _ k524) dM_write_32 ?_
          refine lv_iload_n hx hb dM_write_34 rfl (lv_at hl 1 rfl) ?_
          refine lv_iconst (v := 1) hx hb dM_write_35 (by decide) ?_
          refine lv_icmp_ne (tgt := 43) hx hb dM_write_36 (by decide) (fun c17 => ?_) (fun c17 => absurd c17 c13)
          refine lv_iconst (v := 0) hx hb dM_write_43 (by decide) ?_
          refine mu_V (As := [.int 65279, .int 0]) (rest := []) (n := 2) (C := "SignReaderModel") S (cM_pair l D h qb qt qa cI (yK0 y)  (65279) (0) hd (show okY (yK0 y) from ⟨hy.1, hy.2.1, Nat.zero_le _⟩) (by show 0 + _ ≤ _; omega)) k528 k2 k527 ks23 (by decide +kernel) ⟨rfl, rfl⟩ k525 (by decide) (xM_V ⟨hP, hK⟩) rfl rfl hl.1 (Nat.le_of_ble_eq_true rfl) ⟨Nat.le_refl _, Nat.le_refl _⟩ dM_write_44 hS (fun _ h9 => h9) (fun H locs hP hS => ?_)
          have hP : va_P D CL (moZ h qb qt qa cI (yPair (yK0 y) 65279 0)) H := hP
          refine lv_goto (tgt := 61) hx hb dM_write_47 (by decide) ?_
          exact J61  (yPair (yK0 y) 65279 0) (_) (_) (by rw [yWk, if_neg c13, if_pos c15]) (hP) (hS) ls (lv_sub hl [0, 1] rfl) 
    · skip
      refine lv_iconst (v := (-1)) hx hb dM_write_14 (by decide) ?_
      have hP : va_P D CL (moZ h qb qt qa cI (yWrite y w)) _ := va_Pe (congrArg (moZ h qb qt qa cI) (by rw [yWrite, if_neg (by simp [mwOk, c1, c2])] : ((0, y.2) : MS) = yWrite y w)) hP
      exact mu_retI S hr hk (by rw [rWrite, if_neg (by simp [mwOk, c1, c2])]) hP hS dM_write_15
end
section
/-! new objects -/
def A1 (h sz : Nat) : Nat → Prop := fun q => q = h ∨ sz ≤ q
theorem d1 {A : Nat → Prop} {h : Nat} {e : va_E} (hA : A h) : va_D A [(h, e)] := by
  constructor
  · intro i j p q hi hj _
    match i, j, hi, hj with
    | 0, 0, _, _ => rfl
    | 0, k + 1, _, hj => simp at hj
    | k + 1, _, hi, _ => simp at hi
  · intro k q hq
    match k, hq with
    | 0, hq => cases hq; exact hA
    | k + 1, hq => simp at hq
theorem ap_of {A : Nat → Prop} {ws : va_W} (hD : va_D A ws) (i j : Nat) {p q : Nat × va_E} (hi : ws[i]? = some p) (hj : ws[j]? = some q) (hij : i ≠ j) : p.1 ≠ q.1 := fun he => hij (hD.1 i j p q hi hj he)
theorem nw_of {h sz : Nat} {ws : va_W} (hD : va_D (A1 h sz) ws) (k : Nat) {e : va_E} (h0 : ws[0]? = some (h, e)) {q : Nat × va_E} (hk : ws[k]? = some q) (hk0 : k ≠ 0) : sz ≤ q.1 := by
  rcases hD.2 k q hk with h9 | h9
  · exact absurd (hD.1 k 0 q _ hk h0 h9) hk0
  · exact h9
theorem cI_eq {D : va_G} {c1 c2 : ClassId} {s : State} {tys : List (ClassId × FieldType)} {i j : Nat} (h : va_K D CL tys s) (h1 : tys[i]? = some (c1, .int)) (h2 : tys[j]? = some (c2, .int)) : c1 = c2 := by
  have a := (h.2 i _ h1).2
  have b := (h.2 j _ h2).2
  exact Option.some.inj (Eq.trans (Eq.symm a) b)
abbrev z0 : SS := (0, 0, 0, fun _ => 0, fun _ => 0)
abbrev y0m : MS := (0, 0, 0, 0, 0, 0, fun _ => 0, fun _ => 0, fun _ => 0)
set_option maxHeartbeats 4000000 in
set_option maxRecDepth 100000 in
theorem cS_init (l : Launch) (D : va_G) (h N : Nat) (cI : ClassId) : Met l yS_init (Cond.code yS_init prog_1_method_1_code 1 none :: TB) { frames := 1, cells := 2, slots := 8192, locals := 12 } (gx (fun U H => va_P D CL [(h, .inr (0, [.null, .null, .int 0, .int 0, .int 0]))] H ∧ va_K D CL [(cI, .int)] U ∧ N ≤ H.size) [.ref h]) (fun _ st oc t => oc = .returned none ∧ (∃ qb qt : Nat, (ap3 h qb qt ∧ st.heap.size ≤ qb ∧ st.heap.size ≤ qt) ∧ va_P D CL (srZ h qb qt cI z0) t.heap) ∧ va_F (fun q => q = h) st t) 2 8192 (A1 h N) := by
  refine mt_of (by decide) ?_
  intro p e s m args below meth cd S hr hk hin hv
  obtain ⟨rfl, hP, hK, hN⟩ := hv
  have hx := S.1
  have hb := S.2.1
  have hml := S.2.2.1
  have hown := S.2.2.2.1
  have hts := S.2.2.2.2
  have hl := lv_entry ([.ref h]) (n := 1) (Nat.le_of_ble_eq_true rfl)
  rw [lg_entry_eq]
  generalize (lg_sl ([.ref h]) ++ List.replicate (1 - (lg_sl ([.ref h])).length) Slot.unset).toArray = ls at hl ⊢
  have hl : lv_has ls 1 [(0, .ref h)] := hl
  have hh : h < s.heap.size := (hP 0 _ rfl).lt
  have hA : ∀ q : Nat, s.heap.size ≤ q → A1 h s.heap.size q := fun q h9 => Or.inr h9
  have hD : va_D (A1 h s.heap.size) [(h, .inr (0, [.null, .null, .int 0, .int 0, .int 0]))] := d1 (Or.inl rfl)
  have hS : va_S (A1 h s.heap.size) s.heap s.heap [] := va_S.rf
  refine lv_aload_n hx hb dS_init_0 rfl (lv_at hl 0 rfl) ?_
  refine W.objInit hx hb hown (hts _ k19) (hts _ k20) (hts (Cond.code Lib.objectInit ⟨#[0xb1]⟩ 1 none) (TB_t 21 (by decide +kernel) rfl)) rfl (by rw [hml]; exact hl.1) rfl dS_init_1 (Nat.le_of_ble_eq_true rfl) (Nat.le_of_ble_eq_true rfl) ?_
  refine W.eq (g2 := F0 m 4 ls []) rfl ?_
  refine lv_aload_n hx hb dS_init_4 rfl (lv_at hl 0 rfl) ?_
  refine lv_sipush (v := 4096) hx hb dS_init_5 (by decide) ?_
  refine va_newa (atype := .int) (ty := .int) (a0 := (4096, .inl fun _ => 0)) (N' := 4096) hx hb (hts _ k38) rfl hK hP hD hS hA (fun _ => rfl) (by decide) (by decide) (by decide) (Nat.le_of_ble_eq_true rfl) (Nat.le_of_ble_eq_true rfl) dS_init_8 (fun qb cA H hK9 hP hD hS => ?_)
  have hc9 : cI = cA := cI_eq (i := 0) (j := 1) hK9 rfl rfl
  subst hc9
  have hK : va_K D CL [(cI, .int)] s := hK9.sub [0] rfl
  have hP : va_P D CL [(h, .inr (0, [.null, .null, .int 0, .int 0, .int 0])), (qb, .inl (cI, 4096, .inl fun _ => 0))] H := hP
  have hD : va_D (A1 h s.heap.size) [(h, .inr (0, [.null, .null, .int 0, .int 0, .int 0])), (qb, .inl (cI, 4096, .inl fun _ => 0))] := hD
  refine W.widen (k := 1) (n := 4096) (Nat.le_refl _) (Nat.le_of_ble_eq_true rfl) ?_
  refine va_putF (D := D) (ci := 0) (v := .ref qb) (ty := .array .int) (C := "SignReader") (T := T_S) (N := 5) hx hb hts i_S t_S t_S_ok n_S hown hK hP hD hS 0 rfl rfl 0 (by decide) (hts _ k22) (fun _ h9 => h9) rfl (hin rfl) rfl (by decide +kernel) rfl rfl (Nat.le_of_ble_eq_true rfl) dS_init_10 (fun H locs hP hD hS => ?_)
  have hP : va_P D CL [(h, .inr (0, [.ref qb, .null, .int 0, .int 0, .int 0])), (qb, .inl (cI, 4096, .inl fun _ => 0))] H := hP
  have hD : va_D (A1 h s.heap.size) [(h, .inr (0, [.ref qb, .null, .int 0, .int 0, .int 0])), (qb, .inl (cI, 4096, .inl fun _ => 0))] := hD
  refine lv_aload_n hx hb dS_init_13 rfl (lv_at hl 0 rfl) ?_
  refine lv_sipush (v := 4096) hx hb dS_init_14 (by decide) ?_
  refine va_newa (atype := .int) (ty := .int) (a0 := (4096, .inl fun _ => 0)) (N' := 4096) hx hb (hts _ k38) rfl hK hP hD hS hA (fun _ => rfl) (by decide) (by decide) (by decide) (Nat.le_of_ble_eq_true rfl) (Nat.le_of_ble_eq_true rfl) dS_init_17 (fun qt cA H hK9 hP hD hS => ?_)
  have hc9 : cI = cA := cI_eq (i := 0) (j := 1) hK9 rfl rfl
  subst hc9
  have hK : va_K D CL [(cI, .int)] s := hK9.sub [0] rfl
  have hP : va_P D CL [(h, .inr (0, [.ref qb, .null, .int 0, .int 0, .int 0])), (qb, .inl (cI, 4096, .inl fun _ => 0)), (qt, .inl (cI, 4096, .inl fun _ => 0))] H := hP
  have hD : va_D (A1 h s.heap.size) [(h, .inr (0, [.ref qb, .null, .int 0, .int 0, .int 0])), (qb, .inl (cI, 4096, .inl fun _ => 0)), (qt, .inl (cI, 4096, .inl fun _ => 0))] := hD
  refine W.widen (k := 2) (n := 8192) (Nat.le_refl _) (Nat.le_of_ble_eq_true rfl) ?_
  refine va_putF (D := D) (ci := 0) (v := .ref qt) (ty := .array .int) (C := "SignReader") (T := T_S) (N := 5) hx hb hts i_S t_S t_S_ok n_S hown hK hP hD hS 0 rfl rfl 1 (by decide) (hts _ k23) (fun _ h9 => h9) rfl (hin rfl) rfl (by decide +kernel) rfl rfl (Nat.le_of_ble_eq_true rfl) dS_init_19 (fun H locs hP hD hS => ?_)
  have hP : va_P D CL [(h, .inr (0, [.ref qb, .ref qt, .int 0, .int 0, .int 0])), (qb, .inl (cI, 4096, .inl fun _ => 0)), (qt, .inl (cI, 4096, .inl fun _ => 0))] H := hP
  have hD : va_D (A1 h s.heap.size) [(h, .inr (0, [.ref qb, .ref qt, .int 0, .int 0, .int 0])), (qb, .inl (cI, 4096, .inl fun _ => 0)), (qt, .inl (cI, 4096, .inl fun _ => 0))] := hD
  refine lv_aload_n hx hb dS_init_22 rfl (lv_at hl 0 rfl) ?_
  refine lv_iconst (v := 0) hx hb dS_init_23 (by decide) ?_
  refine va_put (D := D) (ci := 0) (v := .int 0) (ty := .int) (C := "SignReader") (T := T_S) (N := 5) hx hb hts i_S t_S t_S_ok n_S hown hK hP hD hS 0 rfl rfl 2 (by decide) (hts _ k24) (fun _ h9 => h9) rfl (by decide +kernel) rfl rfl (Nat.le_of_ble_eq_true rfl) dS_init_24 (fun H locs hP hD hS => ?_)
  have hP : va_P D CL [(h, .inr (0, [.ref qb, .ref qt, .int 0, .int 0, .int 0])), (qb, .inl (cI, 4096, .inl fun _ => 0)), (qt, .inl (cI, 4096, .inl fun _ => 0))] H := hP
  have hD : va_D (A1 h s.heap.size) [(h, .inr (0, [.ref qb, .ref qt, .int 0, .int 0, .int 0])), (qb, .inl (cI, 4096, .inl fun _ => 0)), (qt, .inl (cI, 4096, .inl fun _ => 0))] := hD
  refine lv_aload_n hx hb dS_init_27 rfl (lv_at hl 0 rfl) ?_
  refine lv_iconst (v := 0) hx hb dS_init_28 (by decide) ?_
  refine va_put (D := D) (ci := 0) (v := .int 0) (ty := .int) (C := "SignReader") (T := T_S) (N := 5) hx hb hts i_S t_S t_S_ok n_S hown hK hP hD hS 0 rfl rfl 3 (by decide) (hts _ k25) (fun _ h9 => h9) rfl (by decide +kernel) rfl rfl (Nat.le_of_ble_eq_true rfl) dS_init_29 (fun H locs hP hD hS => ?_)
  have hP : va_P D CL [(h, .inr (0, [.ref qb, .ref qt, .int 0, .int 0, .int 0])), (qb, .inl (cI, 4096, .inl fun _ => 0)), (qt, .inl (cI, 4096, .inl fun _ => 0))] H := hP
  have hD : va_D (A1 h s.heap.size) [(h, .inr (0, [.ref qb, .ref qt, .int 0, .int 0, .int 0])), (qb, .inl (cI, 4096, .inl fun _ => 0)), (qt, .inl (cI, 4096, .inl fun _ => 0))] := hD
  refine lv_aload_n hx hb dS_init_32 rfl (lv_at hl 0 rfl) ?_
  refine lv_iconst (v := 0) hx hb dS_init_33 (by decide) ?_
  refine va_put (D := D) (ci := 0) (v := .int 0) (ty := .int) (C := "SignReader") (T := T_S) (N := 5) hx hb hts i_S t_S t_S_ok n_S hown hK hP hD hS 0 rfl rfl 4 (by decide) (hts _ k26) (fun _ h9 => h9) rfl (by decide +kernel) rfl rfl (Nat.le_of_ble_eq_true rfl) dS_init_34 (fun H locs hP hD hS => ?_)
  have hP : va_P D CL [(h, .inr (0, [.ref qb, .ref qt, .int 0, .int 0, .int 0])), (qb, .inl (cI, 4096, .inl fun _ => 0)), (qt, .inl (cI, 4096, .inl fun _ => 0))] H := hP
  have hD : va_D (A1 h s.heap.size) [(h, .inr (0, [.ref qb, .ref qt, .int 0, .int 0, .int 0])), (qb, .inl (cI, 4096, .inl fun _ => 0)), (qt, .inl (cI, 4096, .inl fun _ => 0))] := hD
  refine W.vret hx hb hr (fun t ht _ => ⟨rfl, ⟨qb, qt, ⟨⟨ap_of hD 0 1 rfl rfl (by decide), ap_of hD 0 2 rfl rfl (by decide), ap_of hD 1 2 rfl rfl (by decide)⟩, nw_of hD 1 rfl rfl (by decide), nw_of hD 2 rfl rfl (by decide)⟩, by rw [ht]; exact hP⟩, ⟨by rw [ht]; exact hS.1, fun q h1 h2 => by rw [ht]; exact hS.2.1 q h1 (fun h3 => h3.elim h2 (fun h4 => absurd h1 (by omega)))⟩⟩) (fun q h9 => (hS.2.2 q h9).imp id (fun h8 => Nat.le_trans hN h8)) dS_init_37 hk
set_option maxHeartbeats 4000000 in
set_option maxRecDepth 100000 in
theorem cM_init (l : Launch) (D : va_G) (h N : Nat) (cI : ClassId) : Met l yM_init (Cond.code yM_init prog_3_method_1_code 1 none :: TB) { frames := 1, cells := 3, slots := 12292, locals := 12 } (gx (fun U H => va_P D CL [(h, .inr (1, [.int 0, .null, .int 0, .null, .int 0, .int 0, .null, .int 0, .int 0]))] H ∧ va_K D CL [(cI, .int)] U ∧ N ≤ H.size) [.ref h]) (fun _ st oc t => oc = .returned none ∧ (∃ qb qt qa : Nat, (ap4 h qb qt qa ∧ st.heap.size ≤ qb ∧ st.heap.size ≤ qt ∧ st.heap.size ≤ qa) ∧ va_P D CL (moZ h qb qt qa cI y0m) t.heap) ∧ va_F (fun q => q = h) st t) 3 12292 (A1 h N) := by
  refine mt_of (by decide) ?_
  intro p e s m args below meth cd S hr hk hin hv
  obtain ⟨rfl, hP, hK, hN⟩ := hv
  have hx := S.1
  have hb := S.2.1
  have hml := S.2.2.1
  have hown := S.2.2.2.1
  have hts := S.2.2.2.2
  have hl := lv_entry ([.ref h]) (n := 1) (Nat.le_of_ble_eq_true rfl)
  rw [lg_entry_eq]
  generalize (lg_sl ([.ref h]) ++ List.replicate (1 - (lg_sl ([.ref h])).length) Slot.unset).toArray = ls at hl ⊢
  have hl : lv_has ls 1 [(0, .ref h)] := hl
  have hh : h < s.heap.size := (hP 0 _ rfl).lt
  have hA : ∀ q : Nat, s.heap.size ≤ q → A1 h s.heap.size q := fun q h9 => Or.inr h9
  have hD : va_D (A1 h s.heap.size) [(h, .inr (1, [.int 0, .null, .int 0, .null, .int 0, .int 0, .null, .int 0, .int 0]))] := d1 (Or.inl rfl)
  have hS : va_S (A1 h s.heap.size) s.heap s.heap [] := va_S.rf
  refine lv_aload_n hx hb dM_init_0 rfl (lv_at hl 0 rfl) ?_
  refine W.objInit hx hb hown (hts _ k390) (hts _ k20) (hts (Cond.code Lib.objectInit ⟨#[0xb1]⟩ 1 none) (TB_t 21 (by decide +kernel) rfl)) rfl (by rw [hml]; exact hl.1) rfl dM_init_1 (Nat.le_of_ble_eq_true rfl) (Nat.le_of_ble_eq_true rfl) ?_
  refine W.eq (g2 := F0 m 4 ls []) rfl ?_
  refine lv_aload_n hx hb dM_init_4 rfl (lv_at hl 0 rfl) ?_
  refine lv_sipush (v := 4096) hx hb dM_init_5 (by decide) ?_
  refine va_newa (atype := .int) (ty := .int) (a0 := (4096, .inl fun _ => 0)) (N' := 4096) hx hb (hts _ k38) rfl hK hP hD hS hA (fun _ => rfl) (by decide) (by decide) (by decide) (Nat.le_of_ble_eq_true rfl) (Nat.le_of_ble_eq_true rfl) dM_init_8 (fun qb cA H hK9 hP hD hS => ?_)
  have hc9 : cI = cA := cI_eq (i := 0) (j := 1) hK9 rfl rfl
  subst hc9
  have hK : va_K D CL [(cI, .int)] s := hK9.sub [0] rfl
  have hP : va_P D CL [(h, .inr (1, [.int 0, .null, .int 0, .null, .int 0, .int 0, .null, .int 0, .int 0])), (qb, .inl (cI, 4096, .inl fun _ => 0))] H := hP
  have hD : va_D (A1 h s.heap.size) [(h, .inr (1, [.int 0, .null, .int 0, .null, .int 0, .int 0, .null, .int 0, .int 0])), (qb, .inl (cI, 4096, .inl fun _ => 0))] := hD
  refine W.widen (k := 1) (n := 4096) (Nat.le_refl _) (Nat.le_of_ble_eq_true rfl) ?_
  refine va_putF (D := D) (ci := 1) (v := .ref qb) (ty := .array .int) (C := "SignReaderModel") (T := T_M) (N := 9) hx hb hts i_M t_M t_M_ok n_M hown hK hP hD hS 0 rfl rfl 1 (by decide) (hts _ k392) (fun _ h9 => h9) rfl (hin rfl) rfl (by decide +kernel) rfl rfl (Nat.le_of_ble_eq_true rfl) dM_init_10 (fun H locs hP hD hS => ?_)
  have hP : va_P D CL [(h, .inr (1, [.int 0, .ref qb, .int 0, .null, .int 0, .int 0, .null, .int 0, .int 0])), (qb, .inl (cI, 4096, .inl fun _ => 0))] H := hP
  have hD : va_D (A1 h s.heap.size) [(h, .inr (1, [.int 0, .ref qb, .int 0, .null, .int 0, .int 0, .null, .int 0, .int 0])), (qb, .inl (cI, 4096, .inl fun _ => 0))] := hD
  refine lv_aload_n hx hb dM_init_13 rfl (lv_at hl 0 rfl) ?_
  refine lv_sipush (v := 4096) hx hb dM_init_14 (by decide) ?_
  refine va_newa (atype := .int) (ty := .int) (a0 := (4096, .inl fun _ => 0)) (N' := 4096) hx hb (hts _ k38) rfl hK hP hD hS hA (fun _ => rfl) (by decide) (by decide) (by decide) (Nat.le_of_ble_eq_true rfl) (Nat.le_of_ble_eq_true rfl) dM_init_17 (fun qt cA H hK9 hP hD hS => ?_)
  have hc9 : cI = cA := cI_eq (i := 0) (j := 1) hK9 rfl rfl
  subst hc9
  have hK : va_K D CL [(cI, .int)] s := hK9.sub [0] rfl
  have hP : va_P D CL [(h, .inr (1, [.int 0, .ref qb, .int 0, .null, .int 0, .int 0, .null, .int 0, .int 0])), (qb, .inl (cI, 4096, .inl fun _ => 0)), (qt, .inl (cI, 4096, .inl fun _ => 0))] H := hP
  have hD : va_D (A1 h s.heap.size) [(h, .inr (1, [.int 0, .ref qb, .int 0, .null, .int 0, .int 0, .null, .int 0, .int 0])), (qb, .inl (cI, 4096, .inl fun _ => 0)), (qt, .inl (cI, 4096, .inl fun _ => 0))] := hD
  refine W.widen (k := 2) (n := 8192) (Nat.le_refl _) (Nat.le_of_ble_eq_true rfl) ?_
  refine va_putF (D := D) (ci := 1) (v := .ref qt) (ty := .array .int) (C := "SignReaderModel") (T := T_M) (N := 9) hx hb hts i_M t_M t_M_ok n_M hown hK hP hD hS 0 rfl rfl 3 (by decide) (hts _ k394) (fun _ h9 => h9) rfl (hin rfl) rfl (by decide +kernel) rfl rfl (Nat.le_of_ble_eq_true rfl) dM_init_19 (fun H locs hP hD hS => ?_)
  have hP : va_P D CL [(h, .inr (1, [.int 0, .ref qb, .int 0, .ref qt, .int 0, .int 0, .null, .int 0, .int 0])), (qb, .inl (cI, 4096, .inl fun _ => 0)), (qt, .inl (cI, 4096, .inl fun _ => 0))] H := hP
  have hD : va_D (A1 h s.heap.size) [(h, .inr (1, [.int 0, .ref qb, .int 0, .ref qt, .int 0, .int 0, .null, .int 0, .int 0])), (qb, .inl (cI, 4096, .inl fun _ => 0)), (qt, .inl (cI, 4096, .inl fun _ => 0))] := hD
  refine lv_aload_n hx hb dM_init_22 rfl (lv_at hl 0 rfl) ?_
  refine lv_sipush (v := 4100) hx hb dM_init_23 (by decide) ?_
  refine va_newa (atype := .int) (ty := .int) (a0 := (4100, .inl fun _ => 0)) (N' := 4100) hx hb (hts _ k38) rfl hK hP hD hS hA (fun _ => rfl) (by decide) (by decide) (by decide) (Nat.le_of_ble_eq_true rfl) (Nat.le_of_ble_eq_true rfl) dM_init_26 (fun qa cA H hK9 hP hD hS => ?_)
  have hc9 : cI = cA := cI_eq (i := 0) (j := 1) hK9 rfl rfl
  subst hc9
  have hK : va_K D CL [(cI, .int)] s := hK9.sub [0] rfl
  have hP : va_P D CL [(h, .inr (1, [.int 0, .ref qb, .int 0, .ref qt, .int 0, .int 0, .null, .int 0, .int 0])), (qb, .inl (cI, 4096, .inl fun _ => 0)), (qt, .inl (cI, 4096, .inl fun _ => 0)), (qa, .inl (cI, 4100, .inl fun _ => 0))] H := hP
  have hD : va_D (A1 h s.heap.size) [(h, .inr (1, [.int 0, .ref qb, .int 0, .ref qt, .int 0, .int 0, .null, .int 0, .int 0])), (qb, .inl (cI, 4096, .inl fun _ => 0)), (qt, .inl (cI, 4096, .inl fun _ => 0)), (qa, .inl (cI, 4100, .inl fun _ => 0))] := hD
  refine W.widen (k := 3) (n := 12292) (Nat.le_refl _) (Nat.le_of_ble_eq_true rfl) ?_
  refine va_putF (D := D) (ci := 1) (v := .ref qa) (ty := .array .int) (C := "SignReaderModel") (T := T_M) (N := 9) hx hb hts i_M t_M t_M_ok n_M hown hK hP hD hS 0 rfl rfl 6 (by decide) (hts _ k397) (fun _ h9 => h9) rfl (hin rfl) rfl (by decide +kernel) rfl rfl (Nat.le_of_ble_eq_true rfl) dM_init_28 (fun H locs hP hD hS => ?_)
  have hP : va_P D CL [(h, .inr (1, [.int 0, .ref qb, .int 0, .ref qt, .int 0, .int 0, .ref qa, .int 0, .int 0])), (qb, .inl (cI, 4096, .inl fun _ => 0)), (qt, .inl (cI, 4096, .inl fun _ => 0)), (qa, .inl (cI, 4100, .inl fun _ => 0))] H := hP
  have hD : va_D (A1 h s.heap.size) [(h, .inr (1, [.int 0, .ref qb, .int 0, .ref qt, .int 0, .int 0, .ref qa, .int 0, .int 0])), (qb, .inl (cI, 4096, .inl fun _ => 0)), (qt, .inl (cI, 4096, .inl fun _ => 0)), (qa, .inl (cI, 4100, .inl fun _ => 0))] := hD
  refine W.vret hx hb hr (fun t ht _ => ⟨rfl, ⟨qb, qt, qa, ⟨⟨⟨ap_of hD 0 1 rfl rfl (by decide), ap_of hD 0 2 rfl rfl (by decide), ap_of hD 0 3 rfl rfl (by decide)⟩, ap_of hD 1 2 rfl rfl (by decide), ap_of hD 1 3 rfl rfl (by decide), ap_of hD 2 3 rfl rfl (by decide)⟩, nw_of hD 1 rfl rfl (by decide), nw_of hD 2 rfl rfl (by decide), nw_of hD 3 rfl rfl (by decide)⟩, by rw [ht]; exact hP⟩, ⟨by rw [ht]; exact hS.1, fun q h1 h2 => by rw [ht]; exact hS.2.1 q h1 (fun h3 => h3.elim h2 (fun h4 => absurd h1 (by omega)))⟩⟩) (fun q h9 => (hS.2.2 q h9).imp id (fun h8 => Nat.le_trans hN h8)) dM_init_31 hk
end
section
/-! the class and the reference side by side: pure -/
def isB (x : Int32) : Prop := ∃ b : Nat, b < 256 ∧ x = nI b
def isC (x : Int32) : Prop := sChar x = true
def Rel (z : SS) (y : MS) : Prop := (okZ z ∧ okY y) ∧ (y.2.1 = z.1 ∧ y.2.2.1 = z.2.1 ∧ y.2.2.2.1 = z.2.2.1) ∧ (∀ j, j < z.1 → y.2.2.2.2.2.2.1 j = z.2.2.2.1 j ∧ isB (z.2.2.2.1 j)) ∧ (∀ j, j < z.2.1 → y.2.2.2.2.2.2.2.1 j = z.2.2.2.2 j ∧ isC (z.2.2.2.2 j))
theorem Rel0 : Rel z0 y0m := ⟨⟨⟨Nat.zero_le _, Nat.zero_le _⟩, Nat.zero_le _, Nat.zero_le _, Nat.zero_le _⟩, ⟨rfl, rfl, rfl⟩, fun j h => absurd h (Nat.not_lt_zero j), fun j h => absurd h (Nat.not_lt_zero j)⟩
theorem Rel.code {z : SS} {y : MS} (c : Int32) (h : Rel z y) : Rel z (c, y.2) := h
theorem isB_and (x : Int32) : isB (x &&& 255) := by
  obtain ⟨j, hj, e⟩ := pk_andE x (m := 255) 8 (by decide)
  exact ⟨j, hj, e⟩
theorem Rel.push {z : SS} {y : MS} (h : Rel z y) (hn : z.1 < 4096) (b : Int32) : Rel (wB z b) (yPush y (b &&& 255)) := by
  obtain ⟨⟨⟨h1, h2⟩, h3, h4, h5⟩, ⟨e1, e2, e3⟩, hb, ht⟩ := h
  rw [wB, if_pos hn]
  refine ⟨⟨⟨hn, h2⟩, ?_, h4, h5⟩, ⟨?_, e2, e3⟩, ?_, ht⟩
  · show y.2.1 + 1 ≤ 4096; omega
  · show y.2.1 + 1 = z.1 + 1; omega
  · intro j hj
    show upd y.2.2.2.2.2.2.1 y.2.1 (b &&& 255) j = upd z.2.2.2.1 z.1 (b &&& 255) j ∧ isB (upd z.2.2.2.1 z.1 (b &&& 255) j)
    have hj' : j < z.1 + 1 := hj
    rw [e1]
    simp only [upd]
    by_cases q : j = z.1
    · simp only [q, ↓reduceIte]
      exact ⟨trivial, isB_and b⟩
    · simp only [q, ↓reduceIte]
      exact hb j (by omega)
theorem wB_n {z : SS} {b : Int32} (h : z.1 < 4096) : (wB z b).1 = z.1 + 1 := by rw [wB, if_pos h]
/-- the bytes of five numbers, in order -/
def fS (a1 a2 a3 a4 a5 : Int32) (k : Nat) : Int32 := if k % 4 = 0 then fV a1 a2 a3 a4 a5 k >>> ((24 : Int32) &&& 31) else if k % 4 = 1 then fV a1 a2 a3 a4 a5 k >>> ((16 : Int32) &&& 31) else if k % 4 = 2 then fV a1 a2 a3 a4 a5 k >>> ((8 : Int32) &&& 31) else fV a1 a2 a3 a4 a5 k
theorem sh_k : ∀ k : Nat, k < 20 → (24 - 8 * (nI k - nI k / 4 * 4)) &&& 31 = (if k % 4 = 0 then (24 : Int32) &&& 31 else if k % 4 = 1 then (16 : Int32) &&& 31 else if k % 4 = 2 then (8 : Int32) &&& 31 else (0 : Int32) &&& 31) := by decide +kernel
theorem fB_fS (a1 a2 a3 a4 a5 : Int32) {k : Nat} (hk : k < 20) : fB a1 a2 a3 a4 a5 k = fS a1 a2 a3 a4 a5 k &&& 255 := by
  unfold fB fS
  rw [sh_k k hk]
  split
  · rfl
  · split
    · rfl
    · split
      · rfl
      · rw [sb_shr0]
def zF (a1 a2 a3 a4 a5 : Int32) : Nat → SS → SS
  | 0, z => z
  | k + 1, z => wB (zF a1 a2 a3 a4 a5 k z) (fS a1 a2 a3 a4 a5 k)
def zFeed (z : SS) (a1 a2 a3 a4 a5 : Int32) : SS := w4 (w4 (w4 (w4 (w4 z a1) a2) a3) a4) a5
theorem zFeed_eq (z : SS) (a1 a2 a3 a4 a5 : Int32) : zFeed z a1 a2 a3 a4 a5 = zF a1 a2 a3 a4 a5 20 z := rfl
theorem feed_k (a1 a2 a3 a4 a5 : Int32) {z : SS} {y : MS} (h : Rel z y) (hn : z.1 + 20 ≤ 4096) : ∀ k : Nat, k ≤ 20 → Rel (zF a1 a2 a3 a4 a5 k z) (yF a1 a2 a3 a4 a5 k (0, y.2)) ∧ (zF a1 a2 a3 a4 a5 k z).1 = z.1 + k
  | 0, _ => ⟨h.code 0, rfl⟩
  | k + 1, hk => by
    obtain ⟨h1, h2⟩ := feed_k a1 a2 a3 a4 a5 h hn k (by omega)
    have hlt : (zF a1 a2 a3 a4 a5 k z).1 < 4096 := by omega
    refine ⟨?_, ?_⟩
    · show Rel (wB _ _) (yPush _ (fB a1 a2 a3 a4 a5 k))
      rw [fB_fS a1 a2 a3 a4 a5 (by omega)]
      exact h1.push hlt _
    · show (wB _ _).1 = _
      rw [wB_n hlt]
      omega
theorem rel_feed {z : SS} {y : MS} (h : Rel z y) (hn : z.1 + 20 ≤ 4096) (a1 a2 a3 a4 a5 : Int32) : Rel (zFeed z a1 a2 a3 a4 a5) (yFeed y a1 a2 a3 a4 a5) := by
  rw [zFeed_eq, yFeed, if_pos (by rw [h.2.1.1]; exact hn)]
  exact (feed_k a1 a2 a3 a4 a5 h hn 20 (Nat.le_refl _)).1
theorem rel_came {z : SS} {y : MS} (h : Rel z y) (i : Int32) : sCame z.2.2.2.1 z.1 i = sCame y.2.2.2.2.2.2.1 y.2.1 i := by
  obtain ⟨⟨⟨h1, h2⟩, -⟩, ⟨e1, e2, e3⟩, hb, ht⟩ := h
  unfold sCame
  rw [e1]
  by_cases q : sHas z.1 i = true
  · rw [if_pos q, if_pos q]
    obtain ⟨j, hj, rfl⟩ := (sHas_iff (by omega)).mp q
    rw [nI_clamp (by omega)]
    exact (hb j hj).1.symm
  · rw [if_neg q, if_neg q]
theorem rel_sign {z : SS} {y : MS} (h : Rel z y) (i : Int32) : sCame z.2.2.2.2 z.2.1 i = sCame y.2.2.2.2.2.2.2.1 y.2.2.1 i := by
  obtain ⟨⟨⟨h1, h2⟩, -⟩, ⟨e1, e2, e3⟩, hb, ht⟩ := h
  unfold sCame
  rw [e2]
  by_cases q : sHas z.2.1 i = true
  · rw [if_pos q, if_pos q]
    obtain ⟨j, hj, rfl⟩ := (sHas_iff (by omega)).mp q
    rw [nI_clamp (by omega)]
    exact (ht j hj).1.symm
  · rw [if_neg q, if_neg q]
theorem sEnd_congr {g g' : Nat → Int32} {kd : Int32} {tl : Nat} (h : ∀ j, j < tl → g' j = g j) : ∀ (u k : Nat), k + u ≤ tl → sEnd g' kd u k = sEnd g kd u k
  | 0, k, _ => rfl
  | u + 1, k, hk => by
    rw [sEnd, sEnd, h k (by omega), sEnd_congr h u (k + 1) (by omega)]
theorem sEnd_ge (g : Nat → Int32) (kd : Int32) : ∀ (u k : Nat), k ≤ sEnd g kd u k
  | 0, k => Nat.le_refl k
  | u + 1, k => by
    rw [sEnd]
    split
    · exact Nat.le_refl k
    · exact Nat.le_trans (Nat.le_succ k) (sEnd_ge g kd u (k + 1))
theorem rel_run {z : SS} {y : MS} (h : Rel z y) (i kd : Int32) : sRun z.2.2.2.2 z.2.1 i kd = mRun y.2.2.2.2.2.2.2.1 y.2.2.1 i kd := by
  obtain ⟨⟨⟨h1, h2⟩, -⟩, ⟨e1, e2, e3⟩, hb, ht⟩ := h
  unfold sRun mRun
  rw [e2]
  by_cases q : sHas z.2.1 i = true
  · rw [if_pos q, if_pos q]
    obtain ⟨j, hj, rfl⟩ := (sHas_iff (by omega)).mp q
    rw [nI_clamp (by omega), sEnd_congr (g := z.2.2.2.2) (fun j hj => (ht j hj).1) _ _ (by omega)]
    exact pk_sub (sEnd_ge _ _ _ _)
  · rw [if_neg q, if_neg q]
theorem rel_change {z : SS} {y : MS} (h : Rel z y) (i b : Int32) : Rel (zChange z i b) (yCh y i b) ∧ (if cOk z i b = true then z.2.2.2.1 i.toNatClampNeg else -1) = (if mcOk y i b = true then y.2.2.2.2.2.2.1 i.toNatClampNeg else -1) := by
  have e : mcOk y i b = cOk z i b := by unfold mcOk cOk; rw [h.2.1.1]
  unfold zChange yCh
  rw [e]
  by_cases q : cOk z i b = true
  · rw [if_pos q, if_pos q, if_pos q, if_pos q]
    obtain ⟨⟨⟨h1, h2⟩, h3⟩, ⟨e1, e2, e3⟩, hb, ht⟩ := h
    simp only [cOk, Bool.and_eq_true, decide_eq_true_eq] at q
    obtain ⟨⟨q1, q2⟩, q3⟩ := q
    obtain ⟨j, hj, rfl⟩ := (sHas_iff (by omega)).mp q1
    rw [nI_clamp (by omega)]
    refine ⟨⟨⟨⟨h1, h2⟩, h3⟩, ⟨e1, e2, e3⟩, ?_, ht⟩, (hb j hj).1.symm⟩
    intro k hk
    show upd y.2.2.2.2.2.2.1 j b k = upd z.2.2.2.1 j b k ∧ isB (upd z.2.2.2.1 j b k)
    simp only [upd]
    by_cases q : k = j
    · simp only [q, ↓reduceIte]
      obtain ⟨v, hv, rfl⟩ := nI_of2 (n := 255) (M := 255) (by decide) (Int32.not_lt.mpr q2) q3
      exact ⟨trivial, v, by omega, rfl⟩
    · simp only [q, ↓reduceIte]
      exact hb k hk
  · rw [if_neg q, if_neg q, if_neg q, if_neg q]
    exact ⟨h.code 0, rfl⟩
theorem rel_add {z : SS} {y : MS} (h : Rel z y) (c : Int32) : Rel (zAdd z c) (yAdd y c) ∧ (if aOk z c = true then nI (wG z c).2.1 else -1) = (if maOk y c = true then nI (y.2.2.1 + 1) else -1) := by
  have e : maOk y c = aOk z c := by unfold maOk aOk; rw [h.2.1.2.1]
  unfold zAdd yAdd
  rw [e]
  by_cases q : aOk z c = true
  · rw [if_pos q, if_pos q, if_pos q, if_pos q]
    obtain ⟨⟨⟨h1, h2⟩, h3, h4, h5⟩, ⟨e1, e2, e3⟩, hb, ht⟩ := h
    simp only [aOk, Bool.and_eq_true, decide_eq_true_eq] at q
    obtain ⟨⟨q1, q2⟩, q3⟩ := q
    rw [wG, if_pos q3]
    refine ⟨⟨⟨⟨h1, q3⟩, h3, ?_, h5⟩, ⟨e1, ?_, e3⟩, hb, ?_⟩, ?_⟩
    · show y.2.2.1 + 1 ≤ 4096; omega
    · show y.2.2.1 + 1 = z.2.1 + 1; omega
    · intro j hj
      have hj' : j < z.2.1 + 1 := hj
      show upd y.2.2.2.2.2.2.2.1 y.2.2.1 c j = upd z.2.2.2.2 z.2.1 c j ∧ isC (upd z.2.2.2.2 z.2.1 c j)
      rw [e2]
      simp only [upd]
      by_cases q : j = z.2.1
      · simp only [q, ↓reduceIte]
        exact ⟨trivial, q1⟩
      · simp only [q, ↓reduceIte]
        exact ht j (by omega)
    · show nI (z.2.1 + 1) = nI (y.2.2.1 + 1); rw [e2]
  · rw [if_neg q, if_neg q, if_neg q, if_neg q]
    exact ⟨h.code 0, rfl⟩
def eOk (z : SS) (i : Int32) : Bool := decide (0 ≤ i) && decide (i ≤ nI z.1)
def zEnd (z : SS) (i : Int32) : SS := (i.toNatClampNeg, z.2)
theorem eOk_le {z : SS} {i : Int32} (h1 : z.1 ≤ 4096) (h : eOk z i = true) : ∃ j : Nat, j ≤ z.1 ∧ i = nI j := by
  simp only [eOk, Bool.and_eq_true, decide_eq_true_eq] at h
  obtain ⟨j, hj, rfl⟩ := nI_of (Int32.not_lt.mpr h.1)
  exact ⟨j, (nI_leI hj (by omega)).mp h.2, rfl⟩
theorem rel_end {z : SS} {y : MS} (h : Rel z y) (i : Int32) : meOk y i = eOk z i ∧ (eOk z i = true → Rel (zEnd z i) (yEnd y i) ∧ y.2.1 = z.1) := by
  have e : meOk y i = eOk z i := by unfold meOk eOk; rw [h.2.1.1]
  refine ⟨e, fun q => ?_⟩
  have e1 := h.2.1.1
  obtain ⟨j, hj, rfl⟩ := eOk_le h.1.1.1 q
  rw [yEnd, e, if_pos q, zEnd, nI_clamp (by have := h.1.1.1; omega)]
  obtain ⟨⟨⟨h1, h2⟩, h3, h4⟩, ⟨e1, e2, e3⟩, hb, ht⟩ := h
  exact ⟨⟨⟨⟨by show j ≤ 4096; omega, h2⟩, by show j ≤ 4096; omega, h4⟩, ⟨rfl, e2, e3⟩, fun k hk => hb k (Nat.lt_of_lt_of_le hk hj), ht⟩, e1⟩
end
section
/-! write: the same bytes on both sides -/
def E8 (n : Nat) : List Nat := if n < 128 then [n] else if n < 2048 then [192 + n / 64, 128 + n % 64] else if n < 65536 then [224 + n / 4096, 128 + n / 64 % 64, 128 + n % 64] else [240 + n / 262144, 128 + n / 4096 % 64, 128 + n / 64 % 64, 128 + n % 64]
def PR (w : Int32) (u : Nat) : List Nat := if w = 1 then [u / 256, u % 256] else [u % 256, u / 256]
def E16 (w : Int32) (n : Nat) : List Nat := if n < 65536 then PR w n else PR w (55296 + (n - 65536) / 1024) ++ PR w (56320 + (n - 65536) % 1024)
def EB (w : Int32) (n : Nat) : List Nat := if s16 w = true then E16 w n else E8 n
def wL (z : SS) (L : List Nat) : SS := L.foldl (fun z b => wB z (nI b)) z
def yL (y : MS) (L : List Nat) : MS := L.foldl (fun y b => yP y (nI b)) y
theorem wL_app (z : SS) (L M : List Nat) : wL z (L ++ M) = wL (wL z L) M := List.foldl_append
theorem yL_app (y : MS) (L M : List Nat) : yL y (L ++ M) = yL (yL y L) M := List.foldl_append
theorem lit (n : Nat) (x : Int32) (h : x = nI n) : x = nI n := h
theorem sz_le {n m : Nat} (hn : n < 2 ^ 31) (hm : m < 2 ^ 31) : (nI m ≤ nI n) = (m ≤ n) := propext (nI_leI hm hn)
theorem sSize8_n {n : Nat} (hn : n < 2 ^ 31) : sSize8 (nI n) = nI (E8 n).length := by
  unfold sSize8 E8
  rw [show (128 : Int32) = nI 128 from rfl, show (2048 : Int32) = nI 2048 from rfl, show (65536 : Int32) = nI 65536 from rfl]
  simp only [sz_le hn (show 128 < 2 ^ 31 by omega), sz_le hn (show 2048 < 2 ^ 31 by omega), sz_le hn (show 65536 < 2 ^ 31 by omega)]
  by_cases h1 : n < 128
  · rw [if_neg (by omega), if_pos h1]; rfl
  · rw [if_pos (by omega), if_neg h1]
    by_cases h2 : n < 2048
    · rw [if_neg (by omega), if_pos h2]; rfl
    · rw [if_pos (by omega), if_neg h2]
      by_cases h3 : n < 65536
      · rw [if_neg (by omega), if_pos h3]; rfl
      · rw [if_pos (by omega), if_neg h3]; rfl
theorem rem_n {a d : Nat} (ha : a < 2 ^ 31) (h0 : 0 < d) (hd : d < 2 ^ 31) : nI a - nI a / nI d * nI d = nI (a % d) := pk_rem ha h0 hd
/-- the reference: a character in 8 bits -/
theorem y8w_n (y : MS) {n : Nat} (hn : n < 1114112) : y8w y (nI n) = yL y (E8 n) := by
  have hn' : n < 2 ^ 31 := by omega
  unfold y8w
  rw [sSize8_n hn']
  have d1 : nI n / 1 = nI n := by rw [show (1 : Int32) = nI 1 from rfl, pk_div hn' (by omega) (by omega), Nat.div_one]
  have d64 : nI n / 64 = nI (n / 64) := pk_div (d := 64) hn' (by omega) (by omega)
  have d4 : nI n / 4096 = nI (n / 4096) := pk_div (d := 4096) hn' (by omega) (by omega)
  have d26 : nI n / 262144 = nI (n / 262144) := pk_div (d := 262144) hn' (by omega) (by omega)
  have m1 : nI n - nI n / 64 * 64 = nI (n % 64) := pk_rem (d := 64) hn' (by omega) (by omega)
  have m2 : nI (n / 64) - nI (n / 64) / 64 * 64 = nI (n / 64 % 64) := pk_rem (d := 64) (by omega) (by omega) (by omega)
  have m3 : nI (n / 4096) - nI (n / 4096) / 64 * 64 = nI (n / 4096 % 64) := pk_rem (d := 64) (by omega) (by omega) (by omega)
  have p1 : ∀ k : Nat, (128 : Int32) + nI k = nI (128 + k) := fun k => nI_add 128 k
  have p2 : ∀ k : Nat, (192 : Int32) + nI k = nI (192 + k) := fun k => nI_add 192 k
  have p3 : ∀ k : Nat, (224 : Int32) + nI k = nI (224 + k) := fun k => nI_add 224 k
  have p4 : ∀ k : Nat, (240 : Int32) + nI k = nI (240 + k) := fun k => nI_add 240 k
  rw [d1, m1, d64, m2, d4, m3, d26, p1, p1, p1, p2, p3, p4]
  unfold E8
  by_cases h1 : n < 128
  · rw [if_pos h1, if_pos (by show nI 1 = 1; decide)]; rfl
  · rw [if_neg h1]
    by_cases h2 : n < 2048
    · rw [if_pos h2, if_neg (by show ¬ nI 2 = 1; decide), if_pos (by show nI 2 = 2; decide)]; rfl
    · rw [if_neg h2]
      by_cases h3 : n < 65536
      · rw [if_pos h3, if_neg (by show ¬ nI 3 = 1; decide), if_neg (by show ¬ nI 3 = 2; decide), if_pos (by show nI 3 = 3; decide)]; rfl
      · rw [if_neg h3, if_neg (by show ¬ nI 4 = 1; decide), if_neg (by show ¬ nI 4 = 2; decide), if_neg (by show ¬ nI 4 = 3; decide)]; rfl
theorem yPair_n (y : MS) {u : Nat} (hu : u < 2 ^ 31) (w : Int32) : yPair y (nI u) (hiW w) = yL y (PR w u) := by
  have d : nI u / 256 = nI (u / 256) := pk_div (d := 256) hu (by omega) (by omega)
  have m : nI u - nI u / 256 * 256 = nI (u % 256) := pk_rem (d := 256) hu (by omega) (by omega)
  unfold yPair hiW PR
  rw [m, d]
  by_cases h : w = 1
  · rw [if_pos h, if_pos h, if_neg (by decide)]; rfl
  · rw [if_neg h, if_neg h, if_pos rfl]; rfl
theorem yWc_n (y : MS) {n : Nat} (hn : n < 1114112) {w : Int32} (hw : w = 0 ∨ w = 1 ∨ w = 2 ∨ w = 3) : yWc w y (nI n) = yL y (EB w n) := by
  unfold yWc EB
  rcases hw with rfl | rfl | rfl | rfl
  · rw [if_pos rfl, y8w_n y hn, if_neg (by decide)]
  · rw [if_neg (by decide), if_neg (by decide), if_pos (show s16 1 = true by decide), E16]
    have hq : (65536 : Int32) ≤ nI n ↔ 65536 ≤ n := nI_leI (a := 65536) (by omega) (by omega)
    by_cases h : n < 65536
    · rw [if_neg (fun q => by have := hq.mp q; omega), if_pos h, yPair_n y (by omega)]
    · rw [if_pos (hq.mpr (by omega)), if_neg h, yL_app]
      rw [show nI n - 65536 = nI (n - 65536) from pk_sub (b := 65536) (by omega), show nI (n - 65536) / 1024 = nI ((n - 65536) / 1024) from pk_div (d := 1024) (by omega) (by omega) (by omega)]
      rw [show nI (n - 65536) - nI ((n - 65536) / 1024) * 1024 = nI ((n - 65536) % 1024) from by rw [← pk_rem (d := 1024) (show n - 65536 < 2 ^ 31 by omega) (by omega) (by omega), ← pk_div (d := 1024) (show n - 65536 < 2 ^ 31 by omega) (by omega) (by omega)]; rfl]
      rw [show (55296 : Int32) + nI ((n - 65536) / 1024) = nI (55296 + (n - 65536) / 1024) from nI_add 55296 _, show (56320 : Int32) + nI ((n - 65536) % 1024) = nI (56320 + (n - 65536) % 1024) from nI_add 56320 _]
      rw [yPair_n y (by omega), yPair_n _ (by omega)]
  · rw [if_neg (by decide), if_neg (by decide), if_pos (show s16 2 = true by decide), E16]
    have hq : (65536 : Int32) ≤ nI n ↔ 65536 ≤ n := nI_leI (a := 65536) (by omega) (by omega)
    by_cases h : n < 65536
    · rw [if_neg (fun q => by have := hq.mp q; omega), if_pos h, yPair_n y (by omega)]
    · rw [if_pos (hq.mpr (by omega)), if_neg h, yL_app]
      rw [show nI n - 65536 = nI (n - 65536) from pk_sub (b := 65536) (by omega), show nI (n - 65536) / 1024 = nI ((n - 65536) / 1024) from pk_div (d := 1024) (by omega) (by omega) (by omega)]
      rw [show nI (n - 65536) - nI ((n - 65536) / 1024) * 1024 = nI ((n - 65536) % 1024) from by rw [← pk_rem (d := 1024) (show n - 65536 < 2 ^ 31 by omega) (by omega) (by omega), ← pk_div (d := 1024) (show n - 65536 < 2 ^ 31 by omega) (by omega) (by omega)]; rfl]
      rw [show (55296 : Int32) + nI ((n - 65536) / 1024) = nI (55296 + (n - 65536) / 1024) from nI_add 55296 _, show (56320 : Int32) + nI ((n - 65536) % 1024) = nI (56320 + (n - 65536) % 1024) from nI_add 56320 _]
      rw [yPair_n y (by omega), yPair_n _ (by omega)]
  · rw [if_neg (by decide), if_pos rfl, y8w_n y hn, if_neg (by decide)]
/-- the class: a character in 8 bits -/
theorem wB_and (z : SS) {b c : Int32} (h : b &&& 255 = c &&& 255) : wB z b = wB z c := by unfold wB; rw [h]
theorem shr_n {n k : Nat} (hn : n < 2 ^ 31) (s : Int32) (hs : (s.toBitVec.smod 32).toNat = k) : nI n >>> s = nI (n / 2 ^ k) := pk_shrN hn s k hs
theorem sz8_n {n : Nat} (hn : n < 2 ^ 31) : sz8 (nI n) = (E8 n).length - 1 := by
  unfold sz8 E8
  rw [show (128 : Int32) = nI 128 from rfl, show (2048 : Int32) = nI 2048 from rfl, show (65536 : Int32) = nI 65536 from rfl]
  simp only [sz_le hn (show 128 < 2 ^ 31 by omega), sz_le hn (show 2048 < 2 ^ 31 by omega), sz_le hn (show 65536 < 2 ^ 31 by omega)]
  by_cases h1 : n < 128
  · rw [if_neg (by omega), if_pos h1]; rfl
  · rw [if_pos (by omega), if_neg h1]
    by_cases h2 : n < 2048
    · rw [if_neg (by omega), if_pos h2]; rfl
    · rw [if_pos (by omega), if_neg h2]
      by_cases h3 : n < 65536
      · rw [if_neg (by omega), if_pos h3]; rfl
      · rw [if_pos (by omega), if_neg h3]; rfl
theorem w8_n (z : SS) {n : Nat} (hn : n < 1114112) : w8 z (nI n) = wL z (E8 n) := by
  have hn' : n < 2 ^ 31 := by omega
  have a63 : ∀ k : Nat, k < 2 ^ 31 → nI k &&& 63 = nI (k % 64) := fun k hk => pk_andN (by omega) 6 (by decide)
  have t0 : (128 : Int32) + ((nI n >>> ((6 * nI 0) &&& 31) : Int32) &&& 63) = nI (128 + n % 64) := by
    rw [shr_n hn' _ (k := 0) (by decide), Nat.pow_zero, Nat.div_one, a63 n hn']; exact nI_add 128 _
  have t1 : (128 : Int32) + ((nI n >>> ((6 * nI 1) &&& 31) : Int32) &&& 63) = nI (128 + n / 64 % 64) := by
    rw [shr_n hn' _ (k := 6) (by decide), show 2 ^ 6 = 64 from rfl, a63 _ (by omega)]; exact nI_add 128 _
  have t2 : (128 : Int32) + ((nI n >>> ((6 * nI 2) &&& 31) : Int32) &&& 63) = nI (128 + n / 4096 % 64) := by
    rw [shr_n hn' _ (k := 12) (by decide), show 2 ^ 12 = 4096 from rfl, a63 _ (by omega)]; exact nI_add 128 _
  unfold w8
  rw [sz8_n hn']
  unfold E8
  by_cases h1 : n < 128
  · rw [if_pos h1, if_pos (by show 0 = 0; rfl)]; rfl
  · rw [if_neg h1]
    by_cases h2 : n < 2048
    · rw [if_pos h2, if_neg (by show ¬ 1 = 0; decide)]
      show wB (wB z (256 - ((128 : Int32) >>> (nI 1 &&& 31) : Int32) + (nI n >>> ((6 * nI 1) &&& 31) : Int32))) (128 + ((nI n >>> ((6 * nI 0) &&& 31) : Int32) &&& 63)) = _
      rw [t0, shr_n hn' _ (k := 6) (by decide), show 256 - ((128 : Int32) >>> (nI 1 &&& 31) : Int32) = nI 192 from by decide, nI_add]; rfl
    · rw [if_neg h2]
      by_cases h3 : n < 65536
      · rw [if_pos h3, if_neg (by show ¬ 2 = 0; decide)]
        show wB (wB (wB z (256 - ((128 : Int32) >>> (nI 2 &&& 31) : Int32) + (nI n >>> ((6 * nI 2) &&& 31) : Int32))) (128 + ((nI n >>> ((6 * nI 1) &&& 31) : Int32) &&& 63))) (128 + ((nI n >>> ((6 * nI 0) &&& 31) : Int32) &&& 63)) = _
        rw [t0, t1, shr_n hn' _ (k := 12) (by decide), show 256 - ((128 : Int32) >>> (nI 2 &&& 31) : Int32) = nI 224 from by decide, nI_add]; rfl
      · rw [if_neg h3, if_neg (by show ¬ 3 = 0; decide)]
        show wB (wB (wB (wB z (256 - ((128 : Int32) >>> (nI 3 &&& 31) : Int32) + (nI n >>> ((6 * nI 3) &&& 31) : Int32))) (128 + ((nI n >>> ((6 * nI 2) &&& 31) : Int32) &&& 63))) (128 + ((nI n >>> ((6 * nI 1) &&& 31) : Int32) &&& 63))) (128 + ((nI n >>> ((6 * nI 0) &&& 31) : Int32) &&& 63)) = _
        rw [t0, t1, t2, shr_n hn' _ (k := 18) (by decide), show 256 - ((128 : Int32) >>> (nI 3 &&& 31) : Int32) = nI 240 from by decide, nI_add]; rfl
theorem w2_n (z : SS) {u : Nat} (hu : u < 65536) (w : Int32) : w2 z (nI u) w = wL z (PR w u) := by
  have d : nI u >>> ((8 : Int32) &&& 31) = nI (u / 256) := shr_n (k := 8) (by omega) _ (by decide)
  have m : nI u &&& 255 = nI (u % 256) &&& 255 := by
    rw [pk_andN (by omega) 8 (by decide), pk_andN (by omega) 8 (by decide), show 2 ^ 8 = 256 from rfl, Nat.mod_mod]
  unfold w2 PR
  rw [d]
  by_cases h : w = 1
  · rw [if_pos h, if_pos h, wB_and _ m]; rfl
  · rw [if_neg h, if_neg h, wB_and z m]; rfl
theorem w16_n (z : SS) {n : Nat} (hn : n < 1114112) (w : Int32) : w16 z (nI n) w = wL z (E16 w n) := by
  unfold w16 E16
  have hq : (65536 : Int32) ≤ nI n ↔ 65536 ≤ n := nI_leI (a := 65536) (by omega) (by omega)
  by_cases h : n < 65536
  · rw [if_neg (fun q => by have := hq.mp q; omega), if_pos h, w2_n z h]
  · rw [if_pos (hq.mpr (by omega)), if_neg h, wL_app]
    rw [show nI n - 65536 = nI (n - 65536) from pk_sub (b := 65536) (by omega), show nI (n - 65536) >>> ((10 : Int32) &&& 31) = nI ((n - 65536) / 1024) from shr_n (k := 10) (by omega) _ (by decide)]
    rw [show nI (n - 65536) &&& 1023 = nI ((n - 65536) % 1024) from pk_andN (by omega) 10 (by decide)]
    rw [show (55296 : Int32) + nI ((n - 65536) / 1024) = nI (55296 + (n - 65536) / 1024) from nI_add 55296 _, show (56320 : Int32) + nI ((n - 65536) % 1024) = nI (56320 + (n - 65536) % 1024) from nI_add 56320 _]
    rw [w2_n z (by omega), w2_n _ (by omega)]
theorem wC_n (z : SS) {n : Nat} (hn : n < 1114112) (w : Int32) : wC z (nI n) w = wL z (EB w n) := by
  unfold wC EB
  by_cases h : s16 w = true
  · rw [if_pos h, if_pos h, w16_n z hn]
  · rw [if_neg h, if_neg h, w8_n z hn]
theorem isC_n {c : Int32} (h : isC c) : ∃ n : Nat, n < 1114112 ∧ c = nI n := by
  have h' : sChar c = true := h
  simp only [sChar, Bool.or_eq_true, decide_eq_true_eq, sIn_iff, i32_eq] at h'
  refine ⟨c.toInt.toNat, ?_, ?_⟩
  · simp at h'; omega
  · rw [i32_eq, nI_toInt (by simp at h'; omega)]
    simp at h'; omega
end
section
/-! write: the relation -/
theorem E8_b {n : Nat} (hn : n < 1114112) : ∀ b ∈ E8 n, b < 256 := by
  unfold E8
  intro b hb
  split at hb
  · simp at hb; omega
  · split at hb
    · simp at hb; omega
    · split at hb
      · simp at hb; omega
      · simp at hb; omega
theorem PR_b {w : Int32} {u : Nat} (hu : u < 65536) : ∀ b ∈ PR w u, b < 256 := by
  unfold PR
  intro b hb
  split at hb
  · simp at hb; omega
  · simp at hb; omega
theorem EB_b {w : Int32} {n : Nat} (hn : n < 1114112) : ∀ b ∈ EB w n, b < 256 := by
  unfold EB
  split
  · unfold E16
    split
    · next h => exact PR_b h
    · intro b hb
      rcases List.mem_append.mp hb with h | h
      · exact PR_b (by omega) b h
      · exact PR_b (by omega) b h
  · exact E8_b hn
theorem PR_len (w : Int32) (u : Nat) : (PR w u).length = 2 := by unfold PR; split <;> rfl
theorem EB_len {w : Int32} {n : Nat} (hn : n < 1114112) : sSize (nI n) w = nI (EB w n).length ∧ (EB w n).length ≤ 4 := by
  unfold sSize EB
  by_cases h : s16 w = true
  · rw [if_pos h, if_pos h]
    unfold sSize16 E16
    have hq : (65536 : Int32) ≤ nI n ↔ 65536 ≤ n := nI_leI (a := 65536) (by omega) (by omega)
    by_cases h : n < 65536
    · rw [if_neg (fun q => by have := hq.mp q; omega), if_pos h, PR_len]; exact ⟨rfl, by omega⟩
    · rw [if_pos (hq.mpr (by omega)), if_neg h, List.length_append, PR_len, PR_len]; exact ⟨rfl, by omega⟩
  · rw [if_neg h, if_neg h]
    refine ⟨sSize8_n (by omega), ?_⟩
    unfold E8
    split
    · show 1 ≤ 4; omega
    · split
      · show 2 ≤ 4; omega
      · split
        · show 3 ≤ 4; omega
        · show 4 ≤ 4; omega
def MK (w : Int32) : List Nat := if w = 0 then [] else EB w 65279
def EL (w : Int32) (cn : Nat → Nat) : Nat → List Nat
  | 0 => MK w
  | k + 1 => EL w cn k ++ EB w (cn k)
theorem EL_b {w : Int32} {cn : Nat → Nat} : ∀ {k : Nat}, (∀ j, j < k → cn j < 1114112) → ∀ b ∈ EL w cn k, b < 256
  | 0, _, b, hb => by
    have hb : b ∈ MK w := hb
    unfold MK at hb
    split at hb
    · simp at hb
    · exact EB_b (by omega) b hb
  | k + 1, h, b, hb => by
    rcases List.mem_append.mp hb with q | q
    · exact EL_b (k := k) (fun j hj => h j (by omega)) b q
    · exact EB_b (h k (by omega)) b q
theorem EL_len {w : Int32} {cn : Nat → Nat} {g : Nat → Int32} : ∀ {k : Nat}, (∀ j, j < k → cn j < 1114112 ∧ g j = nI (cn j)) → sWr g w k = nI (EL w cn k).length ∧ (EL w cn k).length ≤ 4 + 4 * k
  | 0, _ => by
    show sMark w = nI (MK w).length ∧ (MK w).length ≤ 4
    unfold sMark MK
    by_cases h : w = 0
    · rw [if_pos h, if_pos h]; exact ⟨rfl, by show 0 ≤ 4; omega⟩
    · rw [if_neg h, if_neg h]; exact EB_len (n := 65279) (by omega)
  | k + 1, h => by
    obtain ⟨h1, h2⟩ := EL_len (w := w) (k := k) (fun j hj => h j (by omega))
    obtain ⟨h3, h4⟩ := h k (by omega)
    obtain ⟨h5, h6⟩ := EB_len (w := w) h3
    show sWr g w k + sSize (g k) w = nI (EL w cn k ++ EB w (cn k)).length ∧ (EL w cn k ++ EB w (cn k)).length ≤ _
    rw [h1, h4, h5, nI_add, List.length_append]
    exact ⟨rfl, by omega⟩
theorem wL_snoc (z : SS) (L : List Nat) (b : Nat) : wL z (L ++ [b]) = wB (wL z L) (nI b) := by rw [wL_app]; rfl
theorem yL_snoc (y : MS) (L : List Nat) (b : Nat) : yL y (L ++ [b]) = yP (yL y L) (nI b) := by rw [yL_app]; rfl
theorem snoc_ind {P : List Nat → Prop} (h0 : P []) (h1 : ∀ (L : List Nat) (b : Nat), P L → P (L ++ [b])) (L : List Nat) : P L := by
  have key : ∀ M : List Nat, P M.reverse := by
    intro M
    induction M with
    | nil => exact h0
    | cons b M ih => rw [List.reverse_cons]; exact h1 _ _ ih
  have := key L.reverse
  rwa [List.reverse_reverse] at this
/-- what a list of bytes leaves, where there is room for it -/
theorem wL_f (z : SS) (L : List Nat) (hL : ∀ b ∈ L, b < 256) : z.1 + L.length ≤ 4096 → (wL z L).1 = z.1 + L.length ∧ sameT (wL z L) z ∧ ∀ j, j < L.length → (wL z L).2.2.2.1 (z.1 + j) = nI (L.getD j 0) := by
  induction L using snoc_ind with
  | h0 => intro _; exact ⟨rfl, ⟨rfl, rfl, rfl⟩, fun j hj => absurd hj (Nat.not_lt_zero j)⟩
  | h1 L b ih =>
    intro h
    rw [List.length_append] at h
    have h' : z.1 + L.length + 1 ≤ 4096 := h
    obtain ⟨h1, h2, h3⟩ := ih (fun x hx => hL x (List.mem_append_left _ hx)) (by omega)
    have hb : b < 256 := hL b (List.mem_append_right _ (List.mem_singleton.mpr rfl))
    have hlt : (wL z L).1 < 4096 := by omega
    rw [wL_snoc]
    refine ⟨by rw [wB_n hlt, h1, List.length_append]; rfl, sameT.tr (wB_t _ _) h2, fun j hj => ?_⟩
    rw [wB, if_pos hlt]
    show upd (wL z L).2.2.2.1 (wL z L).1 (nI b &&& 255) (z.1 + j) = _
    rw [h1]
    simp only [upd]
    rw [List.length_append] at hj
    have hj' : j < L.length + 1 := hj
    by_cases q : j = L.length
    · subst q
      rw [if_pos rfl, pk_andN (by omega) 8 (by decide), Nat.mod_eq_of_lt (by exact hb)]
      simp
    · rw [if_neg (by omega), h3 j (by omega)]
      rw [List.getD_eq_getElem?_getD, List.getD_eq_getElem?_getD, List.getElem?_append_left (by omega)]
theorem yL_f (y : MS) (L : List Nat) : (yL y L).2.2.2.2.1 = y.2.2.2.2.1 + L.length ∧ sameM (yL y L) y ∧ ∀ j, j < L.length → y.2.2.2.2.1 + j < 4100 → (yL y L).2.2.2.2.2.2.2.2 (y.2.2.2.2.1 + j) = nI (L.getD j 0) := by
  induction L using snoc_ind with
  | h0 => exact ⟨rfl, sameM.rf, fun j hj => absurd hj (Nat.not_lt_zero j)⟩
  | h1 L b ih =>
    obtain ⟨h1, h2, h3⟩ := ih
    rw [yL_snoc]
    refine ⟨by show (yL y L).2.2.2.2.1 + 1 = _; rw [h1, List.length_append]; rfl, sameM.tr ⟨rfl, rfl, rfl, rfl, rfl, rfl⟩ h2, fun j hj hj4 => ?_⟩
    show (if (yL y L).2.2.2.2.1 < 4100 then upd (yL y L).2.2.2.2.2.2.2.2 (yL y L).2.2.2.2.1 (nI b) else (yL y L).2.2.2.2.2.2.2.2) (y.2.2.2.2.1 + j) = _
    rw [h1]
    rw [List.length_append] at hj
    have hj' : j < L.length + 1 := hj
    by_cases q : j = L.length
    · subst q
      rw [if_pos hj4]
      simp [upd]
    · have e : (L ++ [b]).getD j 0 = L.getD j 0 := by
        rw [List.getD_eq_getElem?_getD, List.getD_eq_getElem?_getD, List.getElem?_append_left (by omega)]
      rw [e, ← h3 j (by omega) hj4]
      split
      · simp only [upd]
        rw [if_neg (by omega)]
      · rfl
theorem mw4 {w : Int32} (h : mwOk w = true) : w = 0 ∨ w = 1 ∨ w = 2 ∨ w = 3 := by
  simp only [mwOk, Bool.and_eq_true, decide_eq_true_eq] at h
  obtain ⟨j, hj, rfl⟩ := nI_of2 (n := 3) (M := 3) (by decide) (Int32.not_lt.mpr h.1) h.2
  rcases (show j = 0 ∨ j = 1 ∨ j = 2 ∨ j = 3 by omega) with rfl | rfl | rfl | rfl
  · exact Or.inl rfl
  · exact Or.inr (Or.inl rfl)
  · exact Or.inr (Or.inr (Or.inl rfl))
  · exact Or.inr (Or.inr (Or.inr rfl))
theorem zW_L {z : SS} {w : Int32} {cn : Nat → Nat} (h : ∀ j, j < z.2.1 → cn j < 1114112 ∧ z.2.2.2.2 j = nI (cn j)) : ∀ k : Nat, k ≤ z.2.1 → zW z w k = wL (0, z.2) (EL w cn k)
  | 0, _ => by
    show (if w = 0 then (0, z.2) else wC (0, z.2) 65279 w) = wL (0, z.2) (MK w)
    unfold MK
    by_cases q : w = 0
    · rw [if_pos q, if_pos q]; rfl
    · rw [if_neg q, if_neg q]; exact wC_n (n := 65279) (0, z.2) (by omega) w
  | k + 1, hk => by
    show wC (zW z w k) ((zW z w k).2.2.2.2 k) w = wL (0, z.2) (EL w cn k ++ EB w (cn k))
    rw [(zW_t z w k).2.2, (h k (by omega)).2, wC_n _ (h k (by omega)).1, zW_L h k (by omega), wL_app]
theorem yWk_L {y : MS} {w : Int32} {cn : Nat → Nat} {tl : Nat} (hw : w = 0 ∨ w = 1 ∨ w = 2 ∨ w = 3) (h : ∀ j, j < tl → cn j < 1114112 ∧ y.2.2.2.2.2.2.2.1 j = nI (cn j)) : ∀ k : Nat, k ≤ tl → yWk w y k = yL (yK0 y) (EL w cn k)
  | 0, _ => by
    show yWk w y 0 = yL (yK0 y) (MK w)
    unfold yWk MK
    rcases hw with rfl | rfl | rfl | rfl
    · rfl
    · rw [if_pos rfl, if_neg (by decide)]; exact yPair_n (u := 65279) (yK0 y) (by omega) 1
    · rw [if_neg (by decide), if_pos rfl, if_neg (by decide)]; exact yPair_n (u := 65279) (yK0 y) (by omega) 2
    · rw [if_neg (by decide), if_neg (by decide), if_pos rfl, if_neg (by decide)]; exact y8w_n (n := 65279) (yK0 y) (by omega)
  | k + 1, hk => by
    show yWc w (yWk w y k) ((yWk w y k).2.2.2.2.2.2.2.1 k) = yL (yK0 y) (EL w cn k ++ EB w (cn k))
    have e : (yWk w y k).2.2.2.2.2.2.2.1 = y.2.2.2.2.2.2.2.1 := (yWk_s w y k).1.2.2.2.2.2
    rw [e, (h k (by omega)).2, yWc_n _ (h k (by omega)).1 hw, yWk_L hw h k (by omega), yL_app]
theorem rel_write {z : SS} {y : MS} (h : Rel z y) (w : Int32) : Rel (zWrite z w) (yWrite y w) ∧ (if wOk z w = true then nI (zW z w z.2.1).1 else -1) = rWrite y w := by
  by_cases hw : mwOk w = true
  · have hw4 := mw4 hw
    obtain ⟨cn, hcn⟩ : ∃ cn : Nat → Nat, ∀ j, j < z.2.1 → cn j < 1114112 ∧ z.2.2.2.2 j = nI (cn j) := by
      refine ⟨fun j => (z.2.2.2.2 j).toNatClampNeg, fun j hj => ?_⟩
      obtain ⟨n, hn, e⟩ := isC_n (h.2.2.2 j hj).2
      show (z.2.2.2.2 j).toNatClampNeg < _ ∧ z.2.2.2.2 j = nI (z.2.2.2.2 j).toNatClampNeg
      rw [e, nI_clamp (by omega)]
      exact ⟨hn, rfl⟩
    have hcm : ∀ j, j < z.2.1 → cn j < 1114112 ∧ y.2.2.2.2.2.2.2.1 j = nI (cn j) := fun j hj => ⟨(hcn j hj).1, (h.2.2.2 j hj).1.trans (hcn j hj).2⟩
    have hs := zW_L (w := w) hcn z.2.1 (Nat.le_refl _)
    have hm := yWk_L hw4 hcm z.2.1 (Nat.le_refl _)
    obtain ⟨l1, l2⟩ := EL_len (w := w) (k := z.2.1) hcn
    obtain ⟨m1, m2, m3⟩ := yL_f (yK0 y) (EL w cn z.2.1)
    have m1' : (yL (yK0 y) (EL w cn z.2.1)).2.2.2.2.1 = (EL w cn z.2.1).length := by rw [m1]; show 0 + _ = _; omega
    have e2 := h.2.1.2.1
    have hz2 := h.1.1.2
    unfold zWrite yWrite rWrite
    rw [if_pos hw, if_pos hw, e2, hm, m1']
    by_cases hN : (EL w cn z.2.1).length ≤ 4096
    · have hk : wOk z w = true := by
        simp only [mwOk, Bool.and_eq_true, decide_eq_true_eq] at hw
        simp only [wOk, Bool.and_eq_true, decide_eq_true_eq]
        refine ⟨hw, ?_⟩
        rw [l1]
        exact (nI_leI (b := 4096) (by omega) (by omega)).mpr hN
      rw [if_pos hk, if_pos hk, if_pos hN, if_pos hN, hs]
      obtain ⟨s1, s2, s3⟩ := wL_f (0, z.2) (EL w cn z.2.1) (EL_b (fun j hj => (hcn j hj).1)) (by show 0 + _ ≤ 4096; omega)
      have s1' : (wL (0, z.2) (EL w cn z.2.1)).1 = (EL w cn z.2.1).length := by rw [s1]; show 0 + _ = _; omega
      refine ⟨⟨⟨⟨by rw [s1']; exact hN, by rw [s2.1]; exact hz2⟩, by show (yL (yK0 y) _).2.2.2.2.1 ≤ 4096; rw [m1']; exact hN, by show (yL (yK0 y) _).2.2.1 ≤ 4096; rw [m2.2.2.1]; exact h.1.2.2.1, by show (yL (yK0 y) _).2.2.2.2.1 ≤ 1000000; rw [m1']; omega⟩, ⟨?_, ?_, ?_⟩, ?_, ?_⟩, by rw [s1']⟩
      · show (yL (yK0 y) _).2.2.2.2.1 = _; rw [m1', s1']
      · show (yL (yK0 y) _).2.2.1 = _; rw [m2.2.2.1, s2.1]; exact e2
      · show (yL (yK0 y) _).2.2.2.1 = _; rw [m2.2.2.2.1, s2.2.1]; exact h.2.1.2.2
      · intro j hj
        rw [s1'] at hj
        show cpF (yL (yK0 y) _) (yL (yK0 y) _).2.2.2.2.1 j = _ ∧ _
        have a1 := m3 j hj (by show 0 + j < 4100; omega)
        have a2 := s3 j hj
        have a1' : (yL (yK0 y) (EL w cn z.2.1)).2.2.2.2.2.2.2.2 j = nI ((EL w cn z.2.1).getD j 0) := by rw [show (yK0 y).2.2.2.2.1 + j = j from Nat.zero_add j] at a1; exact a1
        have a2' : (wL (0, z.2) (EL w cn z.2.1)).2.2.2.1 j = nI ((EL w cn z.2.1).getD j 0) := by rw [show ((0, z.2) : SS).1 + j = j from Nat.zero_add j] at a2; exact a2
        rw [a2']
        unfold cpF
        rw [m1', if_pos hj, a1']
        refine ⟨rfl, _, ?_, rfl⟩
        rw [List.getD_eq_getElem?_getD, List.getElem?_eq_getElem hj]
        exact EL_b (fun j hj => (hcn j hj).1) _ (List.getElem_mem hj)
      · intro j hj
        rw [s2.1] at hj
        show (yL (yK0 y) _).2.2.2.2.2.2.2.1 j = _ ∧ _
        rw [m2.2.2.2.2.2, s2.2.2]
        exact h.2.2.2 j hj
    · have hk : ¬ wOk z w = true := by
        intro q
        simp only [wOk, Bool.and_eq_true, decide_eq_true_eq] at q
        have q3 := q.2
        rw [l1] at q3
        exact hN ((nI_leI (b := 4096) (by omega) (by omega)).mp q3)
      rw [if_neg hk, if_neg hk, if_neg hN, if_neg hN]
      refine ⟨⟨⟨h.1.1, by rw [m2.2.1]; exact h.1.2.1, by rw [m2.2.2.1]; exact h.1.2.2.1, by rw [m1']; omega⟩, ⟨by rw [m2.2.1]; exact h.2.1.1, by rw [m2.2.2.1]; exact e2, by rw [m2.2.2.2.1]; exact h.2.1.2.2⟩, ?_, ?_⟩, rfl⟩
      · intro j hj; rw [m2.2.2.2.2.1]; exact h.2.2.1 j hj
      · intro j hj; rw [m2.2.2.2.2.2]; exact h.2.2.2 j hj
  · have hk : ¬ wOk z w = true := by
      intro q
      simp only [wOk, Bool.and_eq_true, decide_eq_true_eq] at q
      exact hw (by simp only [mwOk, Bool.and_eq_true, decide_eq_true_eq]; exact q.1)
    unfold zWrite yWrite rWrite
    rw [if_neg hw, if_neg hw, if_neg hk, if_neg hk]
    exact ⟨h.code 0, rfl⟩
end
section
/-! read: a number on both sides -/
def okB (F : Nat → Int32) (n : Nat) : Prop := n ≤ 4096 ∧ ∀ j, j < n → isB (F j)
theorem came_n {F : Nat → Int32} {n k : Nat} (hn : n ≤ 4096) (hk : k < n) : sCame F n (nI k) = F k := by
  rw [sCame, if_pos ((sHas_iff (by omega)).mpr ⟨k, hk, rfl⟩), nI_clamp (by omega)]
theorem came_o {F : Nat → Int32} {n k : Nat} (hn : n ≤ 4096) (hk : n ≤ k) (hk2 : k < 2 ^ 31) : sCame F n (nI k) = -1 := by
  rw [sCame, if_neg]
  intro q
  obtain ⟨j, hj, e⟩ := (sHas_iff (by omega)).mp q
  rw [nI_eq hk2 (by omega)] at e
  omega
theorem isB_ne {x : Int32} (h : isB x) : ¬ x = -1 := by
  obtain ⟨b, hb, rfl⟩ := h
  exact nI_m1 (by omega)
theorem pair_eq {F : Nat → Int32} {n k : Nat} (hB : okB F n) (hk : k < 5000) (w : Int32) : sPair F n (nI k) w = mUnit F n k (hiW w) := by
  obtain ⟨hn, hb⟩ := hB
  unfold sPair mUnit hiW
  rw [nI_1]
  by_cases h : n ≤ k + 1
  · rw [if_pos h, came_o hn h (by omega)]
    split
    · rfl
    · rw [if_pos rfl]
  · rw [if_neg h, came_n hn (show k < n by omega), came_n hn (show k + 1 < n by omega), if_neg (isB_ne (hb k (by omega))), if_neg (isB_ne (hb (k + 1) (by omega)))]
    by_cases q : w = 1
    · rw [if_pos q, if_pos q, if_neg (by decide), Int32.mul_comm]
    · rw [if_neg q, if_neg q, if_pos rfl, Int32.mul_comm]
theorem unit_n {F : Nat → Int32} {n k : Nat} (hB : okB F n) (hi : Int32) : mUnit F n k hi = -1 ∨ ∃ u : Nat, u < 65536 ∧ mUnit F n k hi = nI u := by
  obtain ⟨hn, hb⟩ := hB
  unfold mUnit
  by_cases h : n ≤ k + 1
  · rw [if_pos h]; exact Or.inl rfl
  · rw [if_neg h]
    right
    obtain ⟨a, ha, ea⟩ := hb k (by omega)
    obtain ⟨b, hb', eb⟩ := hb (k + 1) (by omega)
    rw [ea, eb]
    split
    · exact ⟨256 * b + a, by omega, by rw [show (256 : Int32) = nI 256 from rfl, pk_mul, nI_add]⟩
    · exact ⟨256 * a + b, by omega, by rw [show (256 : Int32) = nI 256 from rfl, pk_mul, nI_add]⟩
theorem chr_m1 : sChar (-1) = false := by decide
/-- one number of 16 bits: what the class reads, and what the reference takes and finds -/
theorem n16_eq {F : Nat → Int32} {n k : Nat} (hB : okB F n) (hk : k < 4500) (w : Int32) (hw : s16 w = true) : (0 ≤ (m16 F n k (hiW w)).1 → sN F n (nI k) w = (m16 F n k (hiW w)).2 ∧ sSize (sN F n (nI k) w) w = (m16 F n k (hiW w)).1) ∧ (¬ 0 ≤ (m16 F n k (hiW w)).1 → sChar (sN F n (nI k) w) = false) := by
  unfold sN sSize
  rw [if_pos hw, if_pos hw]
  unfold sN16
  rw [show nI k + 2 = nI (k + 2) from nI_add k 2, pair_eq hB (by omega), pair_eq hB (by omega)]
  unfold m16
  rcases unit_n (k := k) hB (hiW w) with e | ⟨u, hu, e⟩
  · rw [e]
    rw [if_neg (show ¬ (55296 : Int32) ≤ -1 by decide), if_neg (show ¬ (0 : Int32) ≤ -1 by decide)]
    exact ⟨fun q => absurd q (by show ¬ (0 : Int32) ≤ -1; decide), fun _ => chr_m1⟩
  · rw [e, if_pos (nI_pos' (by omega))]
    have hs2 : sSize16 (nI u) = 2 := by
      rw [sSize16, if_neg]
      intro q
      have := (nI_leI (a := 65536) (b := u) (by omega) (by omega)).mp q
      omega
    have i1 : (55296 : Int32) ≤ nI u ↔ 55296 ≤ u := nI_leI (a := 55296) (by omega) (by omega)
    have i2 : nI u ≤ (56319 : Int32) ↔ u ≤ 56319 := nI_leI (b := 56319) (by omega) (by omega)
    have two : ∀ {P : Prop}, ((0 : Int32) ≤ 2 → nI u = nI u ∧ sSize16 (nI u) = 2) ∧ (¬ (0 : Int32) ≤ 2 → P) := fun {P} => ⟨fun _ => ⟨rfl, hs2⟩, fun q => absurd (by decide) q⟩
    by_cases h1 : 55296 ≤ u
    · rw [if_pos (i1.mpr h1)]
      by_cases h2 : u ≤ 56319
      · rw [if_pos (i2.mpr h2), if_pos (show sIn (nI u) 55296 56319 = true by simp [sIn, i1.mpr h1, i2.mpr h2])]
        rcases unit_n (k := k + 2) hB (hiW w) with e2 | ⟨v, hv, e2⟩
        · rw [e2, if_neg (show ¬ (56320 : Int32) ≤ -1 by decide), if_neg (show ¬ sIn (-1) 56320 57343 = true by decide)]
          exact two
        · have j1 : (56320 : Int32) ≤ nI v ↔ 56320 ≤ v := nI_leI (a := 56320) (by omega) (by omega)
          have j2 : nI v ≤ (57343 : Int32) ↔ v ≤ 57343 := nI_leI (b := 57343) (by omega) (by omega)
          rw [e2]
          by_cases h3 : 56320 ≤ v
          · rw [if_pos (j1.mpr h3)]
            by_cases h4 : v ≤ 57343
            · rw [if_pos (j2.mpr h4), if_pos (show sIn (nI v) 56320 57343 = true by simp [sIn, j1.mpr h3, j2.mpr h4])]
              have q1 : nI u - 55296 = nI (u - 55296) := pk_sub (b := 55296) h1
              have q2 : nI v - 56320 = nI (v - 56320) := pk_sub (b := 56320) h3
              have q3 : (65536 : Int32) + 1024 * nI (u - 55296) = nI (65536 + 1024 * (u - 55296)) := by rw [show (1024 : Int32) = nI 1024 from rfl, pk_mul, show (65536 : Int32) = nI 65536 from rfl, nI_add]
              have q4 : nI (65536 + 1024 * (u - 55296)) + nI v - 56320 = nI (65536 + 1024 * (u - 55296) + (v - 56320)) := by
                rw [nI_add, show (56320 : Int32) = nI 56320 from rfl, pk_sub (by omega)]; exact congrArg nI (by omega)
              rw [q1, q2, q3, q4, nI_add]
              refine ⟨fun _ => ⟨rfl, ?_⟩, fun q => absurd (by show (0 : Int32) ≤ 4; decide) q⟩
              show sSize16 _ = 4
              rw [sSize16, if_pos (show (65536 : Int32) ≤ nI (65536 + 1024 * (u - 55296) + (v - 56320)) from (nI_leI (a := 65536) (by omega) (by omega)).mpr (by omega))]
            · rw [if_neg (fun q => h4 (j2.mp q)), if_neg (show ¬ sIn (nI v) 56320 57343 = true by simp only [sIn, Bool.and_eq_true, decide_eq_true_eq]; exact fun q => h4 (j2.mp q.2))]
              exact two
          · rw [if_neg (fun q => h3 (j1.mp q)), if_neg (show ¬ sIn (nI v) 56320 57343 = true by simp only [sIn, Bool.and_eq_true, decide_eq_true_eq]; exact fun q => h3 (j1.mp q.1))]
            exact two
      · rw [if_neg (fun q => h2 (i2.mp q)), if_neg (show ¬ sIn (nI u) 55296 56319 = true by simp only [sIn, Bool.and_eq_true, decide_eq_true_eq]; exact fun q => h2 (i2.mp q.2))]
        exact two
    · rw [if_neg (fun q => h1 (i1.mp q)), if_neg (show ¬ sIn (nI u) 55296 56319 = true by simp only [sIn, Bool.and_eq_true, decide_eq_true_eq]; exact fun q => h1 (i1.mp q.1))]
      exact two
/-- one number of 8 bits -/
theorem tab8 : ∀ b : Nat, b < 256 → 128 ≤ b → (bN (nI b) = m8N (nI b) - 1) ∧ (sBehind (nI b) = 0 ↔ m8N (nI b) = 0) ∧ (m8N (nI b) = 0 ∨ 2 ≤ m8N (nI b)) ∧ (m8N (nI b) = 0 ∨ nI b &&& (63 >>> (sBehind (nI b) &&& 31)) = nI b - nI b / m8d (m8N (nI b)) * m8d (m8N (nI b))) := by decide +kernel
theorem tabT : ∀ b : Nat, b < 256 → ((128 ≤ nI b ∧ nI b ≤ 191) ↔ nI b / 64 = 2) ∧ (nI b / 64 = 2 → nI b - 128 = nI b - nI b / 64 * 64) := by decide +kernel
theorem tail_in {F : Nat → Int32} {n k : Nat} (hB : okB F n) : ∀ (r j : Nat) (v : Int32), k + j + r ≤ n → sTail F n (nI k) r j v = m8l F k r j v
  | 0, _, _, _ => rfl
  | r + 1, j, v, h => by
    rw [sTail, m8l, nI_add, came_n hB.1 (show k + j < n by omega)]
    obtain ⟨b, hb, e⟩ := hB.2 (k + j) (by omega)
    rw [e]
    obtain ⟨t1, t2⟩ := tabT b hb
    by_cases q : nI b / 64 = 2
    · rw [if_pos q, if_pos (t1.mpr q).1, if_pos (t1.mpr q).2, t2 q, tail_in hB r (j + 1) _ (by omega), Int32.mul_comm]
    · rw [if_neg q]
      by_cases q1 : 128 ≤ nI b
      · rw [if_pos q1, if_neg (fun q2 => q (t1.mp ⟨q1, q2⟩))]
      · rw [if_neg q1]
theorem tail_out {F : Nat → Int32} {n k : Nat} (hB : okB F n) (hk : k < 5000) : ∀ (r j : Nat) (v : Int32), j < 5000 → k + j ≤ n → n < k + j + r → sTail F n (nI k) r j v = none
  | 0, _, _, _, h1, h2 => absurd h2 (by omega)
  | r + 1, j, v, hj, h1, h2 => by
    rw [sTail, nI_add]
    by_cases q : n ≤ k + j
    · rw [came_o hB.1 q (by omega), if_neg (by decide)]
    · split
      · split
        · exact tail_out hB hk r (j + 1) _ (by have := hB.1; omega) (by omega) (by omega)
        · rfl
      · rfl
theorem n8_eq {F : Nat → Int32} {n k : Nat} (hB : okB F n) (hk : k < n) : (0 ≤ (m8 F n k).1 → sN8 F n (nI k) = (m8 F n k).2 ∧ sSize8 (sN8 F n (nI k)) = (m8 F n k).1) ∧ (¬ 0 ≤ (m8 F n k).1 → sChar (sN8 F n (nI k)) = false) := by
  have hn := hB.1
  have no : ∀ x : Int32, (0 ≤ (-1 : Int32) → (-1 : Int32) = x ∧ sSize8 (-1) = -1) ∧ (¬ 0 ≤ (-1 : Int32) → sChar (-1) = false) := fun x => ⟨fun q => absurd q (by decide), fun _ => chr_m1⟩
  unfold sN8 m8
  rw [came_n hn hk]
  obtain ⟨b, hb, e⟩ := hB.2 k hk
  by_cases h : 128 ≤ F k
  · rw [if_pos h, if_pos h]
    have hb2 : 128 ≤ b := by
      rw [e] at h
      exact (nI_leI (a := 128) (by omega) (by omega)).mp h
    obtain ⟨t1, t2, t3, t4⟩ := tab8 b hb hb2
    rw [← e] at t1 t2 t3 t4
    have h4 := m8N_le (F k)
    by_cases q : m8N (F k) = 0
    · rw [if_pos (t2.mpr q), if_pos (by rw [q]; rfl)]
      exact no _
    · have q2 : 2 ≤ m8N (F k) := t3.resolve_left q
      rw [if_neg (fun z => q (t2.mp z)), if_neg (show ¬ nI (m8N (F k)) = 0 from fun z => q ((nI_eq (b := 0) (by omega) (by omega)).mp z)), t1, t4.resolve_left q]
      by_cases r : k + m8N (F k) ≤ n
      · rw [if_pos r, tail_in hB _ _ _ (by omega)]
        cases m8l F k (m8N (F k) - 1) 1 (F k - F k / m8d (m8N (F k)) * m8d (m8N (F k))) with
        | none => exact no _
        | some v =>
          rw [sFin, m8F, nI_1, show m8N (F k) - 1 + 1 = m8N (F k) by omega]
          by_cases u : sSize8 v = nI (m8N (F k))
          · rw [if_pos u, if_pos u]
            exact ⟨fun _ => ⟨rfl, u⟩, fun z => absurd (nI_pos' (by omega)) z⟩
          · rw [if_neg u, if_neg u]
            exact no _
      · rw [if_neg r, tail_out hB (by omega) _ _ _ (by omega) (by omega) (by omega)]
        exact no _
  · rw [if_neg h, if_neg h]
    refine ⟨fun _ => ⟨rfl, ?_⟩, fun z => absurd (by show (0 : Int32) ≤ 1; decide) z⟩
    show sSize8 (F k) = 1
    rw [sSize8, if_neg h]
end
section
/-! read: the way -/
theorem mk16 {F : Nat → Int32} {n : Nat} (hB : okB F n) (w : Int32) : sN16 F n 0 w = 65279 ↔ mUnit F n 0 (hiW w) = 65279 := by
  unfold sN16
  rw [show (0 : Int32) = nI 0 from rfl, show nI 0 + 2 = nI 2 from rfl, pair_eq hB (by omega), pair_eq hB (by omega)]
  rcases unit_n (k := 0) hB (hiW w) with e | ⟨u, hu, e⟩
  · rw [e, if_neg (show ¬ (55296 : Int32) ≤ -1 by decide)]
  · rw [e]
    have i1 : (55296 : Int32) ≤ nI u ↔ 55296 ≤ u := nI_leI (a := 55296) (by omega) (by omega)
    have i2 : nI u ≤ (56319 : Int32) ↔ u ≤ 56319 := nI_leI (b := 56319) (by omega) (by omega)
    have ne : ∀ x : Nat, x < 2 ^ 31 → (nI x = 65279 ↔ x = 65279) := fun x hx => nI_eq (b := 65279) hx (by omega)
    by_cases h1 : 55296 ≤ u
    · rw [if_pos (i1.mpr h1)]
      by_cases h2 : u ≤ 56319
      · rw [if_pos (i2.mpr h2)]
        have hno : ¬ nI u = 65279 := fun q => by have := (ne u (by omega)).mp q; omega
        rcases unit_n (k := 2) hB (hiW w) with e2 | ⟨v, hv, e2⟩
        · rw [e2, if_neg (show ¬ (56320 : Int32) ≤ -1 by decide)]
        · rw [e2]
          by_cases h3 : (56320 : Int32) ≤ nI v
          · rw [if_pos h3]
            by_cases h4 : nI v ≤ 57343
            · rw [if_pos h4]
              have h3' : 56320 ≤ v := (nI_leI (a := 56320) (by omega) (by omega)).mp h3
              rw [show nI u - 55296 = nI (u - 55296) from pk_sub (b := 55296) h1, show nI v - 56320 = nI (v - 56320) from pk_sub (b := 56320) h3', show (65536 : Int32) + 1024 * nI (u - 55296) = nI (65536 + 1024 * (u - 55296)) from by rw [show (1024 : Int32) = nI 1024 from rfl, pk_mul, show (65536 : Int32) = nI 65536 from rfl, nI_add], nI_add]
              refine ⟨fun q => ?_, fun q => absurd q hno⟩
              have := (ne _ (by omega)).mp q
              omega
            · rw [if_neg h4]
          · rw [if_neg h3]
      · rw [if_neg (fun q => h2 (i2.mp q))]
    · rw [if_neg (fun q => h1 (i1.mp q))]
theorem beg_iff {F : Nat → Int32} {n : Nat} (hn : n ≤ 4096) (a b : Int32) : mBeg F n a b = true ↔ 2 ≤ n ∧ F 0 = a ∧ F 1 = b := by
  simp only [mBeg, Bool.and_eq_true, Bool.not_eq_true', decide_eq_true_eq, decide_eq_false_iff_not]
  have : nI n ≤ 1 ↔ n ≤ 1 := nI_leI (b := 1) (by omega) (by omega)
  rw [this]
  constructor
  · rintro ⟨⟨h1, h2⟩, h3⟩; exact ⟨by omega, h2, h3⟩
  · rintro ⟨h1, h2, h3⟩; exact ⟨⟨by omega, h2⟩, h3⟩
theorem un_iff {F : Nat → Int32} {n : Nat} (hB : okB F n) (w : Int32) : mUnit F n 0 (hiW w) = 65279 ↔ (2 ≤ n ∧ (if w = 1 then F 0 = 254 ∧ F 1 = 255 else F 0 = 255 ∧ F 1 = 254)) := by
  obtain ⟨hn, hb⟩ := hB
  unfold mUnit hiW
  by_cases h : n ≤ 0 + 1
  · rw [if_pos h]
    exact ⟨fun q => absurd q (by decide), fun q => absurd q.1 (by omega)⟩
  · rw [if_neg h]
    obtain ⟨a, ha, ea⟩ := hb 0 (by omega)
    obtain ⟨b, hb', eb⟩ := hb (0 + 1) (by omega)
    have ne : ∀ x y : Nat, x < 2 ^ 31 → y < 2 ^ 31 → (nI x = nI y ↔ x = y) := fun x y hx hy => nI_eq hx hy
    rw [ea, eb]
    by_cases q : w = 1
    · rw [if_pos q, if_pos q, if_neg (by decide), show (256 : Int32) = nI 256 from rfl, pk_mul, nI_add, show (65279 : Int32) = nI 65279 from rfl, show (254 : Int32) = nI 254 from rfl, show (255 : Int32) = nI 255 from rfl, ne _ _ (by omega) (by omega), ne _ _ (by omega) (by omega), ne _ _ (by omega) (by omega)]
      omega
    · rw [if_neg q, if_neg q, if_pos rfl, show (256 : Int32) = nI 256 from rfl, pk_mul, nI_add, show (65279 : Int32) = nI 65279 from rfl, show (254 : Int32) = nI 254 from rfl, show (255 : Int32) = nI 255 from rfl, ne _ _ (by omega) (by omega), ne _ _ (by omega) (by omega), ne _ _ (by omega) (by omega)]
      omega
theorem tabL : ∀ b : Nat, b < 256 → (nI b / 64 = 2 ↔ b / 64 = 2) ∧ nI b - nI b / 64 * 64 = nI (b % 64) := by decide +kernel
theorem m8l_s {F : Nat → Int32} {k r j b : Nat} {a : Nat} (e : F (k + j) = nI b) (hb : b < 256) : m8l F k (r + 1) j (nI a) = if b / 64 = 2 then m8l F k r (j + 1) (nI (64 * a + b % 64)) else none := by
  obtain ⟨t1, t2⟩ := tabL b hb
  rw [m8l, e, t2, show (64 : Int32) * nI a = nI (64 * a) from pk_mul 64 a, nI_add]
  by_cases q : b / 64 = 2
  · rw [if_pos q, if_pos (t1.mpr q)]
  · rw [if_neg q, if_neg (fun z => q (t1.mp z))]
theorem tabM : ∀ b : Nat, b < 256 → 128 ≤ b → (m8N (nI b) = 0 ∨ (m8N (nI b) = 2 ∧ 192 ≤ b ∧ b < 224 ∧ nI b - nI b / m8d (m8N (nI b)) * m8d (m8N (nI b)) = nI (b % 32)) ∨ (m8N (nI b) = 3 ∧ 224 ≤ b ∧ b < 240 ∧ nI b - nI b / m8d (m8N (nI b)) * m8d (m8N (nI b)) = nI (b % 16)) ∨ (m8N (nI b) = 4 ∧ 240 ≤ b ∧ b < 248 ∧ nI b - nI b / m8d (m8N (nI b)) * m8d (m8N (nI b)) = nI (b % 8))) := by decide +kernel
theorem m8_mk {F : Nat → Int32} {n : Nat} (hB : okB F n) (h0 : 0 < n) : (0 ≤ (m8 F n 0).1 ∧ (m8 F n 0).2 = 65279) ↔ (3 ≤ n ∧ F 0 = 239 ∧ F 1 = 187 ∧ F 2 = 191) := by
  obtain ⟨hn, hb⟩ := hB
  have ne : ∀ x y : Nat, x < 2 ^ 31 → y < 2 ^ 31 → (nI x = nI y ↔ x = y) := fun x y hx hy => nI_eq hx hy
  have no : ∀ {P : Prop} (x : Int32), ¬ P → ((0 ≤ (-1 : Int32) ∧ x = 65279) ↔ P) := fun x hp => ⟨fun q => absurd q.1 (by decide), fun q => absurd q hp⟩
  obtain ⟨b0, hb0, e0⟩ := hb 0 h0
  have i239 : F 0 = 239 ↔ b0 = 239 := by rw [e0]; exact ne b0 239 (by omega) (by omega)
  unfold m8
  by_cases h : 128 ≤ F 0
  · rw [if_pos h]
    have hb2 : 128 ≤ b0 := by
      rw [e0] at h
      exact (nI_leI (a := 128) (by omega) (by omega)).mp h
    have tm := tabM b0 hb0 hb2
    rw [← e0] at tm
    rcases tm with t | ⟨t, r1, r2, t5⟩ | ⟨t, r1, r2, t5⟩ | ⟨t, r1, r2, t5⟩
    · rw [if_pos (by rw [t]; rfl)]
      refine no _ (fun q => ?_)
      have : b0 = 239 := i239.mp q.2.1
      rw [e0, this] at t
      exact absurd t (by decide)
    · rw [if_neg (by rw [t]; decide), t5, t]
      have hr : ¬ (3 ≤ n ∧ F 0 = 239 ∧ F 1 = 187 ∧ F 2 = 191) := fun q => by have := i239.mp q.2.1; omega
      by_cases r : 0 + 2 ≤ n
      · rw [if_pos r]
        obtain ⟨b1, hb1, e1⟩ := hb (0 + 1) (by omega)
        rw [m8l_s e1 hb1]
        by_cases q : b1 / 64 = 2
        · rw [if_pos q]
          show (0 ≤ (if sSize8 (nI (64 * (b0 % 32) + b1 % 64)) = nI 2 then nI 2 else -1) ∧ nI (64 * (b0 % 32) + b1 % 64) = 65279) ↔ _
          refine ⟨fun z => ?_, fun z => absurd z hr⟩
          have := (ne _ 65279 (by omega) (by omega)).mp z.2
          omega
        · rw [if_neg q]; exact no _ hr
      · rw [if_neg r]; exact no _ hr
    · rw [if_neg (by rw [t]; decide), t5, t]
      by_cases r : 0 + 3 ≤ n
      · rw [if_pos r]
        obtain ⟨b1, hb1, e1⟩ := hb (0 + 1) (by omega)
        obtain ⟨b2, hb2', e2⟩ := hb (0 + 2) (by omega)
        have j1 : F 1 = 187 ↔ b1 = 187 := by rw [show F 1 = nI b1 from e1]; exact ne b1 187 (by omega) (by omega)
        have j2 : F 2 = 191 ↔ b2 = 191 := by rw [show F 2 = nI b2 from e2]; exact ne b2 191 (by omega) (by omega)
        rw [i239, j1, j2, m8l_s (r := 1) e1 hb1]
        by_cases q : b1 / 64 = 2
        · rw [if_pos q, m8l_s (r := 0) (j := 2) e2 hb2']
          by_cases q2 : b2 / 64 = 2
          · rw [if_pos q2]
            show (0 ≤ (if sSize8 (nI (64 * (64 * (b0 % 16) + b1 % 64) + b2 % 64)) = nI 3 then nI 3 else -1) ∧ nI (64 * (64 * (b0 % 16) + b1 % 64) + b2 % 64) = 65279) ↔ _
            have i := ne (64 * (64 * (b0 % 16) + b1 % 64) + b2 % 64) 65279 (by omega) (by omega)
            constructor
            · intro z
              have := i.mp z.2
              omega
            · intro z
              have e : 64 * (64 * (b0 % 16) + b1 % 64) + b2 % 64 = 65279 := by omega
              rw [e]
              exact ⟨by decide, rfl⟩
          · rw [if_neg q2]; exact no _ (fun z => by omega)
        · rw [if_neg q]; exact no _ (fun z => by omega)
      · rw [if_neg r]; exact no _ (fun z => by omega)
    · rw [if_neg (by rw [t]; decide), t5, t]
      have hr : ¬ (3 ≤ n ∧ F 0 = 239 ∧ F 1 = 187 ∧ F 2 = 191) := fun q => by have := i239.mp q.2.1; omega
      by_cases r : 0 + 4 ≤ n
      · rw [if_pos r]
        obtain ⟨b1, hb1, e1⟩ := hb (0 + 1) (by omega)
        obtain ⟨b2, hb2', e2⟩ := hb (0 + 2) (by omega)
        obtain ⟨b3, hb3, e3⟩ := hb (0 + 3) (by omega)
        rw [m8l_s (r := 2) e1 hb1]
        by_cases q : b1 / 64 = 2
        · rw [if_pos q, m8l_s (r := 1) (j := 2) e2 hb2']
          by_cases q2 : b2 / 64 = 2
          · rw [if_pos q2, m8l_s (r := 0) (j := 3) e3 hb3]
            by_cases q3 : b3 / 64 = 2
            · rw [if_pos q3]
              show (0 ≤ (if sSize8 (nI (64 * (64 * (64 * (b0 % 8) + b1 % 64) + b2 % 64) + b3 % 64)) = nI 4 then nI 4 else -1) ∧ nI (64 * (64 * (64 * (b0 % 8) + b1 % 64) + b2 % 64) + b3 % 64) = 65279) ↔ _
              refine ⟨fun z => ?_, fun z => absurd z hr⟩
              have z1 := z.1
              rw [z.2] at z1
              exact absurd z1 (by decide)
            · rw [if_neg q3]; exact no _ hr
          · rw [if_neg q2]; exact no _ hr
        · rw [if_neg q]; exact no _ hr
      · rw [if_neg r]; exact no _ hr
  · rw [if_neg h]
    refine ⟨fun q => ?_, fun q => ?_⟩
    · have q2 : F 0 = 65279 := q.2
      rw [e0] at q2
      have := (ne b0 65279 (by omega) (by omega)).mp q2
      omega
    · exact absurd (show (128 : Int32) ≤ F 0 by rw [q.2.1]; decide) h
theorem mk8 {F : Nat → Int32} {n : Nat} (hB : okB F n) : sN8 F n 0 = 65279 ↔ (3 ≤ n ∧ F 0 = 239 ∧ F 1 = 187 ∧ F 2 = 191) := by
  by_cases h0 : 0 < n
  · rw [← m8_mk hB h0]
    obtain ⟨g1, g2⟩ := n8_eq hB h0
    constructor
    · intro q
      by_cases z : 0 ≤ (m8 F n 0).1
      · exact ⟨z, (g1 z).1.symm.trans q⟩
      · have := g2 z
        rw [show sN8 F n (nI 0) = 65279 from q] at this
        exact absurd this (by decide)
    · intro q
      exact (g1 q.1).1.trans q.2
  · have e : sCame F n 0 = -1 := came_o (k := 0) hB.1 (by omega) (by omega)
    unfold sN8
    rw [e, if_neg (by decide)]
    exact ⟨fun q => absurd q (by decide), fun q => absurd q.1 (by omega)⟩
theorem way_eq {F : Nat → Int32} {n : Nat} (hB : okB F n) : sWay F n = mWay F n := by
  have hn := hB.1
  have w1 : sN F n 0 1 = 65279 ↔ mBeg F n 254 255 = true := by
    rw [sN, if_pos (by decide), mk16 hB, un_iff hB, if_pos rfl, beg_iff hn]
  have w2 : sN F n 0 2 = 65279 ↔ mBeg F n 255 254 = true := by
    rw [sN, if_pos (by decide), mk16 hB, un_iff hB, if_neg (by decide), beg_iff hn]
  have w3 : sN F n 0 3 = 65279 ↔ (mBeg F n 239 187 = true ∧ ¬ nI n ≤ 2 ∧ F 2 = 191) := by
    have i : nI n ≤ 2 ↔ n ≤ 2 := nI_leI (b := 2) (by omega) (by omega)
    rw [sN, if_neg (by decide), mk8 hB, beg_iff hn, i]
    constructor
    · rintro ⟨a, b, c, d⟩; exact ⟨⟨by omega, b, c⟩, by omega, d⟩
    · rintro ⟨⟨a, b, c⟩, d, e⟩; exact ⟨by omega, b, c, e⟩
  unfold sWay mWay
  by_cases q1 : mBeg F n 254 255 = true
  · rw [if_pos q1, if_pos (w1.mpr q1)]
  · rw [if_neg q1, if_neg (fun z => q1 (w1.mp z))]
    by_cases q2 : mBeg F n 255 254 = true
    · rw [if_pos q2, if_pos (w2.mpr q2)]
    · rw [if_neg q2, if_neg (fun z => q2 (w2.mp z))]
      by_cases q3 : mBeg F n 239 187 = true
      · rw [if_pos q3]
        by_cases q4 : nI n ≤ 2
        · rw [if_pos q4, if_neg (fun z => (w3.mp z).2.1 q4)]
        · rw [if_neg q4]
          by_cases q5 : F 2 = 191
          · rw [if_pos q5, if_pos (w3.mpr ⟨q3, q4, q5⟩)]
          · rw [if_neg q5, if_neg (fun z => q5 (w3.mp z).2.2)]
      · rw [if_neg q3, if_neg (fun z => q3 (w3.mp z).1)]
end
section
/-! read: the relation -/
theorem sCame_cg {F G : Nat → Int32} {n : Nat} (hn : n ≤ 4096) (h : ∀ j, j < n → G j = F j) (i : Int32) : sCame F n i = sCame G n i := by
  unfold sCame
  by_cases q : sHas n i = true
  · rw [if_pos q, if_pos q]
    obtain ⟨j, hj, rfl⟩ := (sHas_iff (by omega)).mp q
    rw [nI_clamp (by omega)]
    exact (h j hj).symm
  · rw [if_neg q, if_neg q]
theorem sTail_cg {F G : Nat → Int32} {n : Nat} (hc : ∀ i, sCame F n i = sCame G n i) (i : Int32) : ∀ (r j : Nat) (v : Int32), sTail F n i r j v = sTail G n i r j v
  | 0, _, _ => rfl
  | r + 1, j, v => by
    rw [sTail, sTail, hc]
    simp only [sTail_cg hc i r]
theorem sN_cg {F G : Nat → Int32} {n : Nat} (hn : n ≤ 4096) (h : ∀ j, j < n → G j = F j) (i w : Int32) : sN F n i w = sN G n i w := by
  have hc := sCame_cg hn h
  have hp : ∀ i, sPair F n i w = sPair G n i w := fun i => by unfold sPair; rw [hc, hc]
  unfold sN
  by_cases q : s16 w = true
  · rw [if_pos q, if_pos q]; unfold sN16; rw [hp, hp]
  · rw [if_neg q, if_neg q]; unfold sN8; rw [hc, sTail_cg hc]
theorem sWay_cg {F G : Nat → Int32} {n : Nat} (hn : n ≤ 4096) (h : ∀ j, j < n → G j = F j) : sWay F n = sWay G n := by
  unfold sWay
  rw [sN_cg hn h, sN_cg hn h, sN_cg hn h]
theorem sRef_cg {F G : Nat → Int32} {n : Nat} (hn : n ≤ 4096) (h : ∀ j, j < n → G j = F j) (w : Int32) : ∀ (u : Nat) (x : Int32), sRef F n w u x = sRef G n w u x
  | 0, _ => rfl
  | u + 1, x => by rw [sRef, sRef, sN_cg hn h, sRef_cg hn h w u]
theorem way4 {F : Nat → Int32} {n : Nat} : mWay F n = 0 ∨ mWay F n = 1 ∨ mWay F n = 2 ∨ mWay F n = 3 := by
  unfold mWay
  split
  · exact Or.inr (Or.inl rfl)
  · split
    · exact Or.inr (Or.inr (Or.inl rfl))
    · split
      · split
        · exact Or.inl rfl
        · split
          · exact Or.inr (Or.inr (Or.inr rfl))
          · exact Or.inl rfl
      · exact Or.inl rfl
theorem num_eq {w : Int32} (hw : w = 0 ∨ w = 1 ∨ w = 2 ∨ w = 3) {y : MS} {n k : Nat} (hn : y.2.1 = n) (hB : okB y.2.2.2.2.2.2.1 n) (hk : k < n) : (0 ≤ tkR w y k → sN y.2.2.2.2.2.2.1 n (nI k) w = (tkY w y k).2.2.2.2.2.1 ∧ sSize (sN y.2.2.2.2.2.2.1 n (nI k) w) w = tkR w y k) ∧ (¬ 0 ≤ tkR w y k → sChar (sN y.2.2.2.2.2.2.1 n (nI k) w) = false) := by
  subst hn
  have h8 := n8_eq hB hk
  have h16 := fun w hw => n16_eq (k := k) hB (by have := hB.1; omega) w hw
  rcases hw with rfl | rfl | rfl | rfl
  · exact h8
  · exact h16 1 (by decide)
  · exact h16 2 (by decide)
  · exact h8
theorem sRef_o {F : Nat → Int32} {n k : Nat} (hk : n ≤ k) (hk2 : k < 2 ^ 31) (w : Int32) : ∀ u : Nat, sRef F n w u (nI k) = -1
  | 0 => rfl
  | u + 1 => by rw [sRef, if_pos ((nI_leI (by omega) hk2).mpr hk)]
theorem tT_o {z : SS} {k : Nat} (hk : z.1 ≤ k) (hk2 : k < 2 ^ 31) (w b : Int32) : ∀ u : Nat, tT w u (nI k) b z = z
  | 0 => rfl
  | u + 1 => by rw [tT, if_pos ((nI_leI (by omega) hk2).mpr hk)]
theorem yRd_o {y : MS} {k j : Nat} (hk : y.2.1 ≤ k) (w b : Int32) : ∀ u : Nat, yRd w u k j b y = (-1, j, y)
  | 0 => rfl
  | u + 1 => by rw [yRd, if_pos hk]
/-- what both have taken so far -/
def tok (j : Nat) (y : MS) (z : SS) : Prop := j = z.2.1 ∧ ∀ i, i < j → y.2.2.2.2.2.2.2.2 i = z.2.2.2.2 i ∧ isC (z.2.2.2.2 i)
theorem tok_add {j : Nat} {y : MS} {z : SS} (h : tok j y z) (hj : j < 4096) {c : Int32} (hc : isC c) : tok (j + 1) (setA y j c) (wG z c) := by
  obtain ⟨h1, h2⟩ := h
  rw [wG, if_pos (by omega)]
  refine ⟨by show j + 1 = z.2.1 + 1; omega, fun i hi => ?_⟩
  show upd y.2.2.2.2.2.2.2.2 j c i = upd z.2.2.2.2 z.2.1 c i ∧ isC (upd z.2.2.2.2 z.2.1 c i)
  rw [← h1]
  simp only [upd]
  by_cases q : i = j
  · simp only [q, ↓reduceIte]; exact ⟨trivial, hc⟩
  · simp only [q, ↓reduceIte]; exact h2 i (by omega)
theorem isC_nl {c : Int32} (h : sChar c = true) : isC (if c = 13 then 10 else c) := by
  split
  · show sChar 10 = true; decide
  · exact h
def sameR (x y : MS) : Prop := x.1 = y.1 ∧ x.2.1 = y.2.1 ∧ x.2.2.1 = y.2.2.1 ∧ x.2.2.2.1 = y.2.2.2.1 ∧ x.2.2.2.2.1 = y.2.2.2.2.1 ∧ x.2.2.2.2.2.2.1 = y.2.2.2.2.2.2.1 ∧ x.2.2.2.2.2.2.2.1 = y.2.2.2.2.2.2.2.1
theorem sameR.rf {y : MS} : sameR y y := ⟨rfl, rfl, rfl, rfl, rfl, rfl, rfl⟩
theorem sameR.tr {a b c : MS} (h1 : sameR a b) (h2 : sameR b c) : sameR a c := ⟨h1.1.trans h2.1, h1.2.1.trans h2.2.1, h1.2.2.1.trans h2.2.2.1, h1.2.2.2.1.trans h2.2.2.2.1, h1.2.2.2.2.1.trans h2.2.2.2.2.1, h1.2.2.2.2.2.1.trans h2.2.2.2.2.2.1, h1.2.2.2.2.2.2.trans h2.2.2.2.2.2.2⟩
theorem tkY_s (w : Int32) (y : MS) (k : Nat) : sameR (tkY w y k) y := by obtain ⟨v, e⟩ := tkY_eq w y k; rw [e]; exact sameR.rf
theorem tkY_a (w : Int32) (y : MS) (k : Nat) : (tkY w y k).2.2.2.2.2.2.2.2 = y.2.2.2.2.2.2.2.2 := by obtain ⟨v, e⟩ := tkY_eq w y k; rw [e]; rfl
theorem setA_s (y : MS) (j : Nat) (v : Int32) : sameR (setA y j v) y := sameR.rf
theorem wG_s (z : SS) (c : Int32) : (wG z c).1 = z.1 ∧ (wG z c).2.2.2.1 = z.2.2.2.1 := by
  unfold wG; split
  · exact ⟨rfl, rfl⟩
  · exact ⟨rfl, rfl⟩
def rdQ (G : Nat → Int32) (n : Nat) (w : Int32) (us k : Nat) (b' : Int32) (y : MS) (z : SS) (R : Int32 × Nat × MS) : Prop := sameR R.2.2 y ∧ sRef G n w us (nI k) = R.1 ∧ (R.1 = -1 → tok R.2.1 R.2.2 (tT w us (nI k) b' z)) ∧ R.2.1 ≤ 4096
theorem rd_eq {w : Int32} (hw : w = 0 ∨ w = 1 ∨ w = 2 ∨ w = 3) {n : Nat} {G F : Nat → Int32} (hB : okB G n) (hF : ∀ x, sN F n x w = sN G n x w) : ∀ (u us k j : Nat) (b b' : Int32) (y : MS) (z : SS), y.2.1 = n → y.2.2.2.2.2.2.1 = G → z.1 = n → z.2.2.2.1 = F → n ≤ k + u → n ≤ k + us → (b = 0 ↔ ¬ b' = 13) → tok j y z → j ≤ k → j ≤ 4096 → k ≤ 4200 → rdQ G n w us k b' y z (yRd w u k j b y) := by
  intro u
  induction u with
  | zero =>
    intro us k j b b' y z hy hG hz hzF hu hus hbb ht hj hj2 hk
    rw [yRd_o (by omega)]
    exact ⟨sameR.rf, sRef_o (by omega) (by omega) w us, fun _ => by rw [tT_o (by omega) (by omega)]; exact ht, hj2⟩
  | succ u ih =>
    intro us k j b b' y z hy hG hz hzF hu hus hbb ht hj hj2 hk
    have hn := hB.1
    by_cases hnk : n ≤ k
    · rw [yRd_o (by omega)]
      exact ⟨sameR.rf, sRef_o (by omega) (by omega) w us, fun _ => by rw [tT_o (by omega) (by omega)]; exact ht, hj2⟩
    · obtain ⟨us, rfl⟩ : ∃ v, us = v + 1 := ⟨us - 1, by omega⟩
      have hle : ¬ nI n ≤ nI k := fun q => hnk ((nI_leI (by omega) (by omega)).mp q)
      obtain ⟨g1, g2⟩ := num_eq hw (y := y) (n := n) (k := k) hy (by rw [hG]; exact hB) (by omega)
      rw [hG] at g1 g2
      have gS := tkY_s w y k
      have gA := tkY_a w y k
      rw [yRd, if_neg (by omega)]
      by_cases t0 : 0 ≤ tkR w y k
      · rw [if_pos t0]
        obtain ⟨e1, e2⟩ := g1 t0
        obtain ⟨l1, l2⟩ := tkR_le w y k t0
        have ek : nI k + sSize (sN G n (nI k) w) w = nI (k + (tkR w y k).toNatClampNeg) := by rw [e2]; exact addT t0
        generalize ec : (tkY w y k).2.2.2.2.2.1 = c at *
        generalize et : (tkR w y k).toNatClampNeg = t at *
        rw [e1] at ek
        have eR : sRef G n w (us + 1) (nI k) = if sChar c = true then sRef G n w us (nI (k + t)) else nI k := by rw [sRef, if_neg hle, e1, ek]
        have eT : tT w (us + 1) (nI k) b' z = tT w us (nI (k + t)) c (if b' = 13 then (if c = 10 then z else wG z (if c = 13 then 10 else c)) else wG z (if c = 13 then 10 else c)) := by
          rw [tT, hz, if_neg hle, hzF, hF, e1, ek]
        by_cases hc : sChar c = true
        · rw [if_pos hc]
          rw [if_pos hc] at eR
          have b2 : (if c = 13 then (1 : Int32) else 0) = 0 ↔ ¬ c = 13 := by
            split
            · next h => exact ⟨fun q => absurd q (by decide), fun q => absurd h q⟩
            · next h => exact ⟨fun _ => h, fun _ => rfl⟩
          have tk2 : tok j (tkY w y k) z := ⟨ht.1, fun i hi => by rw [gA]; exact ht.2 i hi⟩
          have hjn : j < 4096 := by omega
          have go : ∀ (j2 : Nat) (y2 : MS) (z2 : SS), sameR y2 y → z2.1 = z.1 ∧ z2.2.2.2.1 = z.2.2.2.1 → tok j2 y2 z2 → j2 ≤ j + 1 → tT w (us + 1) (nI k) b' z = tT w us (nI (k + t)) c z2 → rdQ G n w (us + 1) k b' y z (yRd w u (k + t) j2 (if c = 13 then 1 else 0) y2) := by
            intro j2 y2 z2 s2 hz2 t2 hj2' e
            obtain ⟨r1, r2, r3, r4⟩ := ih us (k + t) j2 (if c = 13 then 1 else 0) c y2 z2 (s2.2.1.trans hy) (s2.2.2.2.2.2.1.trans hG) (hz2.1.trans hz) (hz2.2.trans hzF) (by omega) (by omega) b2 t2 (by omega) (by omega) (by omega)
            exact ⟨r1.tr s2, by rw [eR]; exact r2, fun q => by rw [e]; exact r3 q, r4⟩
          by_cases h10 : c = 10
          · rw [if_pos h10]
            by_cases hb0 : b = 0
            · rw [if_pos hb0]
              exact go _ _ _ ((setA_s _ _ _).tr gS) (wG_s _ _) (tok_add tk2 hjn (isC_nl hc)) (by omega) (by rw [eT, if_neg (hbb.mp hb0)])
            · rw [if_neg hb0]
              exact go _ _ _ gS ⟨rfl, rfl⟩ tk2 (by omega) (by rw [eT, if_pos (Decidable.not_not.mp (fun q => hb0 (hbb.mpr q))), if_pos h10])
          · rw [if_neg h10]
            exact go _ _ _ ((setA_s _ _ _).tr gS) (wG_s _ _) (tok_add tk2 hjn (isC_nl hc)) (by omega) (by
              rw [eT, if_neg h10]
              split
              · rfl
              · rfl)
        · rw [if_neg hc]
          rw [if_neg hc] at eR
          exact ⟨gS, eR, fun q => absurd q (nI_m1 (by omega)), hj2⟩
      · rw [if_neg t0]
        refine ⟨gS, ?_, fun q => absurd q (nI_m1 (by omega)), hj2⟩
        rw [sRef, if_neg hle, if_neg (by rw [g2 t0]; decide)]
theorem stW_eq {w : Int32} (hw : w = 0 ∨ w = 1 ∨ w = 2 ∨ w = 3) : sMark w = nI (stW w) ∧ stW w ≤ 3 := by
  rcases hw with rfl | rfl | rfl | rfl
  · exact ⟨rfl, by decide⟩
  · exact ⟨rfl, by decide⟩
  · exact ⟨rfl, by decide⟩
  · exact ⟨rfl, by decide⟩
theorem rel_read {z : SS} {y : MS} (h : Rel z y) : Rel (zRead z) (yRead y) ∧ sPlace z.2.2.2.1 z.1 (sWay z.2.2.2.1 z.1) = (yRR y).1 := by
  obtain ⟨⟨⟨h1, h2⟩, h3, h4, h5⟩, ⟨e1, e2, e3⟩, hb, ht⟩ := h
  have hB : okB y.2.2.2.2.2.2.1 z.1 := ⟨h1, fun j hj => by rw [(hb j hj).1]; exact (hb j hj).2⟩
  have hg : ∀ j, j < z.1 → y.2.2.2.2.2.2.1 j = z.2.2.2.1 j := fun j hj => (hb j hj).1
  have hw : sWay z.2.2.2.1 z.1 = mWay y.2.2.2.2.2.2.1 y.2.1 := by rw [sWay_cg h1 hg, way_eq hB, e1]
  have hw4 := way4 (F := y.2.2.2.2.2.2.1) (n := y.2.1)
  unfold zRead yRead zText sPlace
  rw [hw, sRef_cg h1 hg]
  unfold yRR
  generalize mWay y.2.2.2.2.2.2.1 y.2.1 = w at *
  obtain ⟨m1, m2⟩ := stW_eq hw4
  rw [m1]
  obtain ⟨r1, r2, r3, r4⟩ := rd_eq hw4 (F := z.2.2.2.1) hB (fun x => sN_cg h1 hg x w) 4110 4096 (stW w) 0 0 (-1) (0, y.2) (z.1, 0, z.2.2) e1 rfl rfl rfl (by omega) (by omega) ⟨fun _ => by decide, fun _ => rfl⟩ ⟨rfl, fun i hi => absurd hi (Nat.not_lt_zero i)⟩ (by omega) (by omega) (by omega)
  generalize yRd w 4110 (stW w) 0 0 (0, y.2) = R at *
  generalize tT w 4096 (nI (stW w)) (-1) (z.1, 0, z.2.2) = Z at *
  rw [r2]
  refine ⟨?_, rfl⟩
  obtain ⟨s1, s2, s3, s4, s5, s6, s7⟩ := r1
  by_cases q : R.1 = -1
  · rw [if_pos q, if_pos q]
    obtain ⟨t1, t2⟩ := r3 q
    refine ⟨⟨⟨Nat.zero_le _, ?_⟩, Nat.zero_le _, r4, ?_⟩, ⟨rfl, t1, rfl⟩, fun j hj => absurd hj (Nat.not_lt_zero j), ?_⟩
    · show Z.2.1 ≤ 4096; rw [← t1]; exact r4
    · show R.2.2.2.2.2.2.1 ≤ 1000000; rw [s5]; exact h5
    · intro j hj
      have hj' : j < R.2.1 := by rw [t1]; exact hj
      show cpT R.2.2 R.2.1 j = Z.2.2.2.2 j ∧ isC (Z.2.2.2.2 j)
      unfold cpT
      rw [if_pos hj']
      exact t2 j hj'
  · rw [if_neg q, if_neg q]
    refine ⟨⟨⟨Nat.zero_le _, h2⟩, Nat.zero_le _, ?_, ?_⟩, ⟨rfl, ?_, ?_⟩, fun j hj => absurd hj (Nat.not_lt_zero j), ?_⟩
    · show R.2.2.2.2.1 ≤ 4096; rw [s3]; exact h4
    · show R.2.2.2.2.2.2.1 ≤ 1000000; rw [s5]; exact h5
    · show R.2.2.2.2.1 = z.2.1; rw [s3]; exact e2
    · show R.2.2.2.2.2.1 = z.2.2.1; rw [s4]; exact e3
    · intro j hj
      show R.2.2.2.2.2.2.2.2.2.1 j = z.2.2.2.2 j ∧ _
      rw [s7]
      exact ht j hj
end
section
/-! feed and end: the calls that are not refused -/
theorem zFeed_ok {z : SS} {a1 a2 a3 a4 a5 : Int32} (hz : okZ z) : okZ (zFeed z a1 a2 a3 a4 a5) := w4_ok (w4_ok (w4_ok (w4_ok (w4_ok hz))))
theorem zEnd_ok {z : SS} {i : Int32} (hz : okZ z) (h : eOk z i = true) : okZ (zEnd z i) := by
  obtain ⟨j, hj, rfl⟩ := eOk_le hz.1 h
  have := hz.1
  refine ⟨?_, hz.2⟩
  show (nI j).toNatClampNeg ≤ 4096
  rw [nI_clamp (by omega)]
  omega
theorem eOk_2 {z : SS} {i : Int32} (h : eOk z i = true) : 0 ≤ i ∧ i ≤ nI z.1 := by
  simp only [eOk, Bool.and_eq_true, decide_eq_true_eq] at h
  exact h
set_option maxHeartbeats 4000000 in
set_option maxRecDepth 100000 in
theorem cS_feed (l : Launch) (D : va_G) (h qb qt : Nat) (cI : ClassId) (z : SS) (a1 a2 a3 a4 a5 : Int32) (hd : ap3 h qb qt) (hz : okZ z) (hn : z.1 + 20 ≤ 4096) : Met l yS_feed (Cond.code yS_feed prog_1_method_2_code 6 none :: TB) { frames := 2, cells := 0, slots := 0, locals := 42 } (gx (xZ9 D h qb qt cI z) [.ref h, .int a1, .int a2, .int a3, .int a4, .int a5]) (mQ (none) D (srZ h qb qt cI (zFeed z a1 a2 a3 a4 a5)) (A3 h qb qt)) 0 0 (A3 h qb qt) := by
  refine mt_of (by decide) ?_
  intro p e s m args below meth cd S hr hk hin hv
  obtain ⟨rfl, hX⟩ := hv
  have hP : va_P D CL (srZ h qb qt cI z) s.heap := hX.1
  have hK := hX.2
  have hn9 : nI z.1 ≤ 4076 := (nI_leI (b := 4076) (by omega) (by omega)).mpr (by omega)
  have hS : va_S (A3 h qb qt) s.heap s.heap [] := va_S.rf
  have hx := S.1
  have hb := S.2.1
  have hown := S.2.2.2.1
  have hts := S.2.2.2.2
  have hl := lv_entry ([.ref h, .int a1, .int a2, .int a3, .int a4, .int a5]) (n := 6) (Nat.le_of_ble_eq_true rfl)
  rw [lg_entry_eq]
  generalize (lg_sl ([.ref h, .int a1, .int a2, .int a3, .int a4, .int a5]) ++ List.replicate (6 - (lg_sl ([.ref h, .int a1, .int a2, .int a3, .int a4, .int a5])).length) Slot.unset).toArray = ls at hl ⊢
  have hl : lv_has ls 6 [(0, .ref h), (1, .int a1), (2, .int a2), (3, .int a3), (4, .int a4), (5, .int a5)] := hl
  refine lv_aload_n hx hb dS_feed_0 rfl (lv_at hl 0 rfl) ?_
  refine va_get (D := D) (ci := 0) (v := .int (nI z.1)) (C := "SignReader") (T := T_S) (N := 5) hx hb hts i_S hown hK hP 0 rfl rfl 2 (by decide) (hts _ k24) (fun _ h9 => h9) rfl dS_feed_1 ?_
  refine lv_sipush (v := 4076) hx hb dS_feed_4 (by decide) ?_
  refine lv_icmp_le (tgt := 20) hx hb dS_feed_7 (by decide) (fun c1 => ?_) (fun c1 => absurd c1 (fun h9 => h9 hn9))
  refine lv_aload_n hx hb dS_feed_20 rfl (lv_at hl 0 rfl) ?_
  refine lv_iload_n hx hb dS_feed_21 rfl (lv_at hl 1 rfl) ?_
  refine mu_V (As := [.int a1]) (rest := []) (n := 1) (C := "SignReader") S (cS_putFour l D h qb qt cI (z)  (a1) hd hz ) k360 k1 k359 ks17 (by decide +kernel) ⟨rfl, rfl⟩ k357 (by decide) (xW_V ⟨hP, hK⟩) rfl rfl hl.1 (Nat.le_of_ble_eq_true rfl) ⟨Nat.le_refl _, Nat.le_refl _⟩ dS_feed_22 hS (fun _ h9 => h9) (fun H locs hP hS => ?_)
  have hP : va_P D CL (srZ h qb qt cI (w4 z a1)) H := hP
  refine lv_aload_n hx hb dS_feed_25 rfl (lv_at hl 0 rfl) ?_
  refine lv_iload_n hx hb dS_feed_26 rfl (lv_at hl 2 rfl) ?_
  refine mu_V (As := [.int a2]) (rest := []) (n := 1) (C := "SignReader") S (cS_putFour l D h qb qt cI (w4 z a1)  (a2) hd (w4_ok hz) ) k360 k1 k359 ks17 (by decide +kernel) ⟨rfl, rfl⟩ k357 (by decide) (xW_V ⟨hP, hK⟩) rfl rfl hl.1 (Nat.le_of_ble_eq_true rfl) ⟨Nat.le_refl _, Nat.le_refl _⟩ dS_feed_27 hS (fun _ h9 => h9) (fun H locs hP hS => ?_)
  have hP : va_P D CL (srZ h qb qt cI (w4 (w4 z a1) a2)) H := hP
  refine lv_aload_n hx hb dS_feed_30 rfl (lv_at hl 0 rfl) ?_
  refine lv_iload_n hx hb dS_feed_31 rfl (lv_at hl 3 rfl) ?_
  refine mu_V (As := [.int a3]) (rest := []) (n := 1) (C := "SignReader") S (cS_putFour l D h qb qt cI (w4 (w4 z a1) a2)  (a3) hd (w4_ok (w4_ok hz)) ) k360 k1 k359 ks17 (by decide +kernel) ⟨rfl, rfl⟩ k357 (by decide) (xW_V ⟨hP, hK⟩) rfl rfl hl.1 (Nat.le_of_ble_eq_true rfl) ⟨Nat.le_refl _, Nat.le_refl _⟩ dS_feed_32 hS (fun _ h9 => h9) (fun H locs hP hS => ?_)
  have hP : va_P D CL (srZ h qb qt cI (w4 (w4 (w4 z a1) a2) a3)) H := hP
  refine lv_aload_n hx hb dS_feed_35 rfl (lv_at hl 0 rfl) ?_
  refine lv_iload hx hb dS_feed_36 (lv_at hl 4 rfl) ?_
  refine mu_V (As := [.int a4]) (rest := []) (n := 1) (C := "SignReader") S (cS_putFour l D h qb qt cI (w4 (w4 (w4 z a1) a2) a3)  (a4) hd (w4_ok (w4_ok (w4_ok hz))) ) k360 k1 k359 ks17 (by decide +kernel) ⟨rfl, rfl⟩ k357 (by decide) (xW_V ⟨hP, hK⟩) rfl rfl hl.1 (Nat.le_of_ble_eq_true rfl) ⟨Nat.le_refl _, Nat.le_refl _⟩ dS_feed_38 hS (fun _ h9 => h9) (fun H locs hP hS => ?_)
  have hP : va_P D CL (srZ h qb qt cI (w4 (w4 (w4 (w4 z a1) a2) a3) a4)) H := hP
  refine lv_aload_n hx hb dS_feed_41 rfl (lv_at hl 0 rfl) ?_
  refine lv_iload hx hb dS_feed_42 (lv_at hl 5 rfl) ?_
  refine mu_V (As := [.int a5]) (rest := []) (n := 1) (C := "SignReader") S (cS_putFour l D h qb qt cI (w4 (w4 (w4 (w4 z a1) a2) a3) a4)  (a5) hd (w4_ok (w4_ok (w4_ok (w4_ok hz)))) ) k360 k1 k359 ks17 (by decide +kernel) ⟨rfl, rfl⟩ k357 (by decide) (xW_V ⟨hP, hK⟩) rfl rfl hl.1 (Nat.le_of_ble_eq_true rfl) ⟨Nat.le_refl _, Nat.le_refl _⟩ dS_feed_44 hS (fun _ h9 => h9) (fun H locs hP hS => ?_)
  have hP : va_P D CL (srZ h qb qt cI (w4 (w4 (w4 (w4 (w4 z a1) a2) a3) a4) a5)) H := hP
  have hP : va_P D CL (srZ h qb qt cI (zFeed z a1 a2 a3 a4 a5)) _ := va_Pe (congrArg (srZ h qb qt cI) (rfl : (w4 (w4 (w4 (w4 (w4 z a1) a2) a3) a4) a5 : SS) = zFeed z a1 a2 a3 a4 a5)) hP
  exact mu_ret0 S hr hk hP hS dS_feed_47
set_option maxHeartbeats 4000000 in
set_option maxRecDepth 100000 in
theorem cS_end (l : Launch) (D : va_G) (h qb qt : Nat) (cI : ClassId) (z : SS) (i : Int32) (hd : ap3 h qb qt) (hz : okZ z) (hn : eOk z i = true) : Met l yS_end (Cond.code yS_end prog_1_method_3_code 3 (some .int) :: TB) { frames := 0, cells := 0, slots := 0, locals := 0 } (gx (xZ9 D h qb qt cI z) [.ref h, .int i]) (mQ (some (.int (nI z.1))) D (srZ h qb qt cI (zEnd z i)) (A3 h qb qt)) 0 0 (A3 h qb qt) := by
  refine mt_of (by decide) ?_
  intro p e s m args below meth cd S hr hk hin hv
  obtain ⟨rfl, hX⟩ := hv
  have hP : va_P D CL (srZ h qb qt cI z) s.heap := hX.1
  have hK := hX.2
  obtain ⟨hn1, hn2⟩ := eOk_2 hn
  have hS : va_S (A3 h qb qt) s.heap s.heap [] := va_S.rf
  have hx := S.1
  have hb := S.2.1
  have hown := S.2.2.2.1
  have hts := S.2.2.2.2
  have hl := lv_entry ([.ref h, .int i]) (n := 3) (Nat.le_of_ble_eq_true rfl)
  rw [lg_entry_eq]
  generalize (lg_sl ([.ref h, .int i]) ++ List.replicate (3 - (lg_sl ([.ref h, .int i])).length) Slot.unset).toArray = ls at hl ⊢
  have hl : lv_has ls 3 [(0, .ref h), (1, .int i)] := hl
  refine lv_iload_n hx hb dS_end_0 rfl (lv_at hl 1 rfl) ?_
  refine lv_if_lt (tgt := 12) hx hb dS_end_1 (by decide) (fun c1 => absurd c1 (Int32.not_lt.mpr hn1)) (fun c1 => ?_)
  refine lv_iload_n hx hb dS_end_4 rfl (lv_at hl 1 rfl) ?_
  refine lv_aload_n hx hb dS_end_5 rfl (lv_at hl 0 rfl) ?_
  refine va_get (D := D) (ci := 0) (v := .int (nI z.1)) (C := "SignReader") (T := T_S) (N := 5) hx hb hts i_S hown hK hP 0 rfl rfl 2 (by decide) (hts _ k24) (fun _ h9 => h9) rfl dS_end_6 ?_
  refine lv_icmp_le (tgt := 22) hx hb dS_end_9 (by decide) (fun c2 => ?_) (fun c2 => absurd c2 (fun h9 => h9 hn2))
  refine lv_aload_n hx hb dS_end_22 rfl (lv_at hl 0 rfl) ?_
  refine va_get (D := D) (ci := 0) (v := .int (nI z.1)) (C := "SignReader") (T := T_S) (N := 5) hx hb hts i_S hown hK hP 0 rfl rfl 2 (by decide) (hts _ k24) (fun _ h9 => h9) rfl dS_end_23 ?_
  refine lv_istore_n (lv' := [(2, .int (nI z.1)), (0, .ref h), (1, .int i)]) hx hb dS_end_26 rfl hl (by decide) rfl (fun ls hl => ?_)
  refine lv_aload_n hx hb dS_end_27 rfl (lv_at hl 1 rfl) ?_
  refine lv_iload_n hx hb dS_end_28 rfl (lv_at hl 2 rfl) ?_
  refine va_put (D := D) (ci := 0) (v := .int i) (ty := .int) (C := "SignReader") (T := T_S) (N := 5) hx hb hts i_S t_S t_S_ok n_S hown hK hP (srD hd) hS 0 rfl rfl 2 (by decide) (hts _ k24) (fun _ h9 => h9) rfl (by decide +kernel) rfl rfl (Nat.le_of_ble_eq_true rfl) dS_end_29 (fun H locs hP _ hS => ?_)
  have hP : va_P D CL (srW h qb qt cI (i) (nI z.2.1) (z.2.2.1) (z.2.2.2.1) (z.2.2.2.2)) H := hP
  have hP : va_P D CL (srZ h qb qt cI (zEnd z i)) _ := va_Pe (by show _ = srW h qb qt cI (nI i.toNatClampNeg) _ _ _ _; rw [nI_nat hn1]; rfl : srW h qb qt cI (i) (nI z.2.1) (z.2.2.1) (z.2.2.2.1) (z.2.2.2.2) = srZ h qb qt cI (zEnd z i)) hP
  refine lv_iload_n hx hb dS_end_32 rfl (lv_at hl 0 rfl) ?_
  have hP : va_P D CL (srZ h qb qt cI (zEnd z i)) _ := va_Pe (congrArg (srZ h qb qt cI) (rfl : (zEnd z i : SS) = zEnd z i)) hP
  exact mu_retI S hr hk (rfl) hP hS dS_end_33
end
section
/-! calls that end by a throw: what is left behind, the contract, the caller's handler -/
abbrev tUN : Cond := .isRef (.static "java/lang/Throwable" "UNASSIGNED_STACK" "[Ljava/lang/StackTraceElement;")
abbrev tSE : Cond := .isRef (.static "java/lang/Throwable" "SUPPRESSED_SENTINEL" "Ljava/util/List;")
abbrev tL1 : Cond := .laysStatic "java/lang/Throwable" "UNASSIGNED_STACK" "[Ljava/lang/StackTraceElement;"
abbrev tL2 : Cond := .laysStatic "java/lang/Throwable" "SUPPRESSED_SENTINEL" "Ljava/util/List;"
/-- further words of a throw, of the tables alone -/
def EW : List Cond := [.declares ⟨"java/lang/RuntimeException", "<init>", "(Ljava/lang/String;)V"⟩, .declares ⟨"java/lang/Exception", "<init>", "(Ljava/lang/String;)V"⟩, .declares ⟨"java/lang/Throwable", "<init>", "(Ljava/lang/String;)V"⟩, .castable "java/lang/IllegalStateException" "java/lang/IllegalStateException", .castable "java/lang/IllegalArgumentException" "java/lang/IllegalArgumentException"]
theorem own_28 : ∀ a ∈ Bundle.ownAtoms "SignReader" 30 "java/lang/IllegalStateException" ["java/lang/RuntimeException", "java/lang/Exception"], a ∈ TB ∨ a ∈ EW ∨ a = tL1 ∨ a = tL2 ∨ a = tUN ∨ a = tSE := by decide +kernel
theorem own_39 : ∀ a ∈ Bundle.ownAtoms "SignReader" 41 "java/lang/IllegalArgumentException" ["java/lang/RuntimeException", "java/lang/Exception"], a ∈ TB ∨ a ∈ EW ∨ a = tL1 ∨ a = tL2 ∨ a = tUN ∨ a = tSE := by decide +kernel
theorem EW_face : ∀ w ∈ EW, w.faceAtom = true := by decide +kernel
def xE (A : Nat → Prop) (U : State) (H : Heap) : Prop := (∀ w ∈ EW, w.before #[] U = true) ∧ (tL1.before #[] ({ U with heap := H } : State) = true ∧ tL2.before #[] ({ U with heap := H } : State) = true) ∧ va_Zq "java/lang/Throwable" "UNASSIGNED_STACK" "[Ljava/lang/StackTraceElement;" A U H ∧ va_Zq "java/lang/Throwable" "SUPPRESSED_SENTINEL" "Ljava/util/List;" A U H
theorem ew_move {s U : State} (hv : s.vm.Alike U.vm) {a b : Array Value} {w : Cond} (hw : w ∈ EW) (h : w.before a s = true) : w.before b U = true := by
  have h1 := Cond.faceAtom_setVm hv w (EW_face w hw) h
  simp only [EW, List.mem_cons, List.not_mem_nil, or_false] at hw
  rcases hw with rfl | rfl | rfl | rfl | rfl
  · exact h1
  · exact h1
  · exact h1
  · exact h1
  · exact h1
theorem ls_move {s U : State} (hv : s.vm.Alike U.vm) {a b : Array Value} {C n d : String} (hH : ∀ q : Nat, q < s.heap.size → U.heap[q]? = s.heap[q]?) (h : (Cond.laysStatic C n d).before a s = true) : (Cond.laysStatic C n d).before b U = true := by
  obtain ⟨c, k, i, f, q, cell, hc, hi, hst, ha, hcell, hs, hcls, hlt, hty⟩ := Cond.laysStatic_spec h
  obtain ⟨k', hi', hek⟩ := State.fieldFound?_setVm hv hi
  exact Cond.laysStatic_of (s := U) (by rw [hv.findClass]; exact hc) hi' hst (by rw [hek]; exact ha) (by rw [hH q (Array.getElem?_eq_some_iff.mp hcell).1]; exact hcell) hs hcls hlt (by rw [hek]; exact hty)
theorem zq_ref {U : State} {A : Nat → Prop} {C n d : String} {a : Array Value} (h : va_Zq C n d A U U.heap) : (Cond.isRef (.static C n d)).before a U = true := by
  rcases h with ⟨cf, kf, fi, f, q, cell, h1, h2, h3, h4, h5, h6, h7, h8⟩ | ⟨t, cf, kf, fi, f, q, cell, h1, h2, h3, h4, h5, h6, h7, h8⟩
  · simp [Cond.before, Cond.holds, Cond.value, Term.eval, State.fieldNamed?, h1, h2, h4, h5, h6, h7]
  · simp [Cond.before, Cond.holds, Cond.value, Term.eval, State.fieldNamed?, h1, h2, h4, h5, h6, h7]
theorem xE_move {A B : Nat → Prop} {s U : State} {H0 H : Heap} (hv : s.vm.Alike U.vm) (hH : ∀ q : Nat, q < H0.size → H[q]? = H0[q]?) (hAB : ∀ q, B q → A q) (h : xE A s H0) : xE B U H := by
  obtain ⟨h1, ⟨h2, h3⟩, h4, h5⟩ := h
  refine ⟨fun w hw => ew_move hv hw (h1 w hw), ⟨ls_move (s := { s with heap := H0 }) (U := { U with heap := H }) hv hH h2, ls_move (s := { s with heap := H0 }) (U := { U with heap := H }) hv hH h3⟩, ?_, ?_⟩
  · exact ((h4.kept (fun q h _ => hH q h)).moved hv).narrow hAB
  · exact ((h5.kept (fun q h _ => hH q h)).moved hv).narrow hAB
theorem xE_word {A : Nat → Prop} {s : State} {a : Array Value} {w : Cond} (ht : ∀ w ∈ TB, w.before a s = true) (h : xE A s s.heap) (hw : w ∈ TB ∨ w ∈ EW ∨ w = tL1 ∨ w = tL2 ∨ w = tUN ∨ w = tSE) : w.before a s = true := by
  obtain ⟨h1, ⟨h2, h3⟩, h4, h5⟩ := h
  rcases hw with h | h | rfl | rfl | rfl | rfl
  · exact ht w h
  · exact ew_move (Vm.Alike.refl s.vm) h (h1 w h)
  · exact ls_move (Vm.Alike.refl s.vm) (fun _ _ => rfl) h2
  · exact ls_move (Vm.Alike.refl s.vm) (fun _ _ => rfl) h3
  · exact zq_ref h4
  · exact zq_ref h5
/-- behind a throw: the object, the tables, nothing old changed -/
def tE (cls : String) (st : State) (x : Addr) (t : State) (mc ms : Nat) : Prop := (∃ ce : Cell, t.heap[x]? = some ce ∧ ce.vm.isStatics = false ∧ st.vm.findClass cls = some ce.cls ∧ st.vm.assignable ce.cls ce.cls = true) ∧ st.WarmedH t.vm ∧ st.sameButNew ({ t with vm := st.vm } : State) [] mc ms
def TQ (below : List Frame) (cls : String) (s : State) (mc ms : Nat) : State → Prop := fun t => ∃ x, t.status = .running ∧ Ended t below (.threw x) ∧ tE cls s x t mc ms
def Thr (l : Launch) (y : MethodName) (ws : List Cond) (rm : Room) (Pc : Array Value → State → Prop) (cls : String) (mc ms : Nat) : Prop := MetFree l y (headSpec ws rm) Pc (fun _ _ _ _ _ => True) (fun _ st o t => ∃ x, o = .threw x ∧ tE cls st x t mc ms)
section Thr
variable {p : Program} {l : Launch} {e : Env} {R : Room} {s : State} {m : MethodId} {args : Array Value} {below : List Frame} {meth : Method} {c : Code} {H : Heap} {locs : List Loc} {cells slots : Nat} {Q : State → Prop}
variable {y : MethodName} {bytes cc : ByteArray} {maxL nL index n mc ms pc : Nat} {ret : Option FieldType} {rm : Room} {Pc : Array Value → State → Prop} {own C cls : String} {b : Addr} {As rest st : List Value} {ls : Array Slot}
theorem th_of (hy : plainName y.cls = true) (body : ∀ p e s m args below meth c, CallFix p m c cc maxL s args TB y.cls → c.exceptionTable.isEmpty = true → meth.locks = false → Pc args s →
    W p l e rm s m args below meth c s.heap [] 0 0 (TQ below cls s mc ms) (entryFrame m args maxL)) : Thr l y (Cond.code y cc maxL ret :: TB) rm Pc cls mc ms := by
  refine MetFree.of_bodyS (code := cc) (maxLocals := maxL) (ret := ret) hy ?_ ?_
  · intro args s m h hn
    obtain ⟨meth, c, h1, h2, h3, h4, h5, h6, -, -⟩ := Cond.code_spec hn (atoms_spec (ws := Cond.code y cc maxL ret :: TB) h _ List.mem_cons_self)
    exact ⟨meth, c, h1, h2, h3, h4, h5, h6⟩
  · intro p e s m args below meth c s₁ B hml hP _
    have hts := atoms_spec (ws := Cond.code y cc maxL ret :: TB) B.pre
    obtain ⟨meth', c', h1, h2, -, -, -, -, h7, -⟩ := Cond.code_spec B.named (hts _ List.mem_cons_self)
    have X := Stand.of_body B
    cases h1.symm.trans B.method
    cases h2.symm.trans X.code
    have hh0 : s₁.heap = s.heap := by rw [B.state]; rfl
    obtain ⟨t, a1, x, b1, b2, b3⟩ := body p e s m args below _ _ ⟨B.exec, B.bytes, hml, findClass_of_methodNamed B.named, fun w h => hts w (List.mem_cons_of_mem _ h)⟩ h7 B.notSynchronized hP s₁ hh0 X
    exact ⟨t, _, a1, b1, b2, x, rfl, b3⟩
/-- the end: the exception's constructor, and athrow -/
theorem th_end (S : CallFix p m c cc nL s args TB own) (hex : c.exceptionTable.isEmpty = true) (hk : meth.locks = false) (htr : l.stackTraces = false) {names : List String} {ic : Nat} (hcls : Bundle.fit cls = true) (hnames : ∀ n ∈ names, Bundle.fit n = true) (h : ∀ a ∈ Bundle.ownAtoms own ic cls names, a.before args s = true)
    {a q : Addr} {cX : ClassId} {kX : Class} (hfX : s.vm.findClass cls = some cX) (hkX : s.vm.classes[cX]? = some kX) (hcell : H[a]? = some (freshCell cX kX)) (hnew : s.heap.size ≤ a) (hsize : ls.size = nL)
    (hd6 : decode cc pc = .ok (.invokespecial ic, 3)) (hd9 : decode cc (pc + 3) = .ok (.athrow, 1)) (hRf : names.length + 3 < R.frames) (hRl : 1 + (13 * (names.length + 1) + 42) ≤ R.locals) :
    W p l e R s m args below meth c H [] cells slots (TQ below cls s cells slots) (F0 m pc ls [.ref q, .ref a, .ref a]) := by
  obtain ⟨hx, hb, hml, ho, -⟩ := S
  intro T hT X
  have ht : e.platform.stackTraces = false := by rw [X.admits.platform]; exact htr
  have he : ∀ x ∈ c.exceptionTable.toList, covers x (pc + 3) = false := fun x hx' => by
    rw [Array.isEmpty_iff.mp hex] at hx'
    cases hx'
  obtain ⟨U, st, hrun, hend, hW, hsame, ce, hce, OC⟩ := X.ctorThrowS hx ht ho hcls hnames h (fun x hx' => by cases hx') hfX hkX (by rw [hT]; exact hcell) hnew (msg := .ref q) rfl (g := F0 m pc ls [.ref q, .ref a, .ref a]) rfl (hsize.trans hml.symm) rfl rfl (rest := []) rfl (by rw [hb]; exact hd6) (by rw [hb]; exact hd9) he hRf (by exact hRl) hk
  exact ⟨U, st, a, hrun, hend, ⟨ce, hce, by rw [OC.vm]; rfl, OC.cls, OC.self⟩, hW, hsame⟩
end Thr
end
section
/-! a caller that catches; methods with a handler -/
section Cat
variable {p : Program} {l : Launch} {e : Env} {R : Room} {s : State} {m : MethodId} {args : Array Value} {below : List Frame} {meth : Method} {c : Code} {H : Heap} {locs : List Loc} {cells slots : Nat} {Q : State → Prop}
variable {y : MethodName} {bytes cc : ByteArray} {maxL nL index n mc ms pc : Nat} {ret : Option FieldType} {rm : Room} {Pc : Array Value → State → Prop} {Qc : Array Value → State → Outcome → State → Prop} {free : Addr → Prop} {own C cls : String} {b : Addr} {As rest st : List Value} {ls : Array Slot}
/-- one entry in the table, and it takes the object: its class is noted in the pool, and the frame goes on at the handler -/
theorem ct_link {T : State} (X : Stand p l e R s m args below meth c T locs cells slots) (x : Addr) {g : JFrame} (hg : g.method = m) (hown : s.vm.findClass own = some m.cls) {xe : ExceptionTableEntry} (htab : c.exceptionTable.toList = [xe]) (hcov : covers xe g.pc = true) (h0 : xe.catchType ≠ 0)
    (hlk : (Cond.classLink own xe.catchType cls).before args s = true) {ce : Cell} (hce : T.heap[x]? = some ce) (hns : ce.vm.isStatics = false) (hcl : s.vm.findClass cls = some ce.cls) (hself : s.vm.assignable ce.cls ce.cls = true) :
    ∃ vm', Stand p l e R s m args below meth c (T.setVm vm') locs cells slots ∧ ∀ tg, Steps p.tables e below ((T.setVm vm').setTop { g with pc := xe.handlerPc, stack := [.ref x] }) tg → Steps p.tables e below ((T.setTop g).pushFrame (.throwing x)) tg := by
  subst hg
  obtain ⟨k0, hk0, hL⟩ := Cond.classLink_spec hown hlk e.platform (by rw [X.admits.platform])
  obtain rfl := Option.some.inj (hcl.symm.trans hk0)
  have hLT := X.warmed.classLinks hL
  obtain ⟨dk, _, _, kt, hdk, _, _, _, _, hkt, _, hopen⟩ := hL.here
  have hWn : s.WarmedH (T.vm.noted g.method.cls xe.catchType (.cls ce.cls)) := X.warmed.noted hdk hopen (State.rightAt_cls hL)
  refine ⟨_, X.noted hWn, fun tg hgo => ?_⟩
  have hA := X.here
  obtain ⟨kT, hkT, -⟩ := hWn.alike.2.2 _ _ hkt
  have hfit : (T.vm.noted g.method.cls xe.catchType (.cls ce.cls)).assignable ce.cls ce.cls = true := by rw [hWn.alike.assignable]; exact hself
  have hns' := VmData.ne_statics_of hns
  have hS1 : ((T.setTop g).pushFrame (.throwing x)).vm = T.vm := Stand.throwing_vm T g x
  have hS2 : ((T.setTop g).pushFrame (.throwing x)).heap[x]? = some ce := by rw [Stand.throwing_heap]; exact hce
  have hfind : ∀ (Q : Handler → Pre) (E : CtlPost) (d : Bool) (acts : List Action), wp (findHandler g x) Q E e d acts ((T.setTop g).pushFrame (.throwing x)) ↔ Q (.found xe.handlerPc) d acts (((T.setTop g).pushFrame (.throwing x)).setVm (T.vm.noted g.method.cls xe.catchType (.cls ce.cls))) := by
    intro Q E d acts
    rw [Jvm.W.findHandler_eq (meth := meth) (code := c) (by rw [hS1]; exact X.method') X.code, htab]
    have hop := (resolveClass_links e.toSetting (vm := ((T.setTop g).pushFrame (.throwing x)).vm) (by rw [hS1]; exact hLT)).op (op := VmOp.resolveClass g.method.cls xe.catchType) rfl
    rw [hS1] at hop
    have hcov' := hcov
    simp only [covers] at hcov'
    simp [findHandler.go, hcov', h0, hS1, hop.1, hop.2, hS2, hns', hkT, hfit, VmOp.dirties, VmOp.acts]
  have hstep : (stepThrowing e ((T.setTop g).pushFrame (.throwing x)) x (.java g :: below)).1 = (((T.setTop g).pushFrame (.throwing x)).setVm (T.vm.noted g.method.cls xe.catchType (.cls ce.cls))).setFrames (.java { g with pc := xe.handlerPc, stack := [.ref x] } :: below) := by
    simp only [stepThrowing, searchFrame, vmDo]
    generalize hr : Sem.go _ e false [] ((T.setTop g).pushFrame (.throwing x)) = res
    obtain ⟨as, rfl, ha⟩ := Sem.eq_ok_of hr (a := Handler.found xe.handlerPc) (s' := ((T.setTop g).pushFrame (.throwing x)).setVm (T.vm.noted g.method.cls xe.catchType (.cls ce.cls))) (acts' := []) (by simp [hfind _ _ _ _])
    rfl
  obtain ⟨hon, hwi⟩ := hA.throwing x
  refine Steps.head hon hwi ?_
  obtain ⟨g₀, hfr⟩ := X.frames_eq
  rw [stepThread_throwing (frames_entered hA.top _), X.tail, hstep]
  have hfr' : (T.setVm (T.vm.noted g.method.cls xe.catchType (.cls ce.cls))).frames = .java g₀ :: below := hfr
  rw [State.setTop_of_frames _ hfr'] at hgo
  have e1 : (((T.setTop g).pushFrame (.throwing x)).setVm (T.vm.noted g.method.cls xe.catchType (.cls ce.cls))).setFrames (.java { g with pc := xe.handlerPc, stack := [.ref x] } :: below) = (T.setVm (T.vm.noted g.method.cls xe.catchType (.cls ce.cls))).setFrames (.java { g with pc := xe.handlerPc, stack := [.ref x] } :: below) := by
    rw [State.setTop_of_frames _ hfr, State.pushFrame, State.setFrames_setFrames]
    exact State.setFrames_setFrames (T.setVm (T.vm.noted g.method.cls xe.catchType (.cls ce.cls))) _ _
  rw [e1]
  exact hgo
end Cat
end
section
/-! the law's calls -/
section Law
variable {p : Program} {l : Launch} {e : Env} {R : Room} {s : State} {m : MethodId} {args : Array Value} {below : List Frame} {meth : Method} {c : Code} {H H0 : Heap} {locs : List Loc} {cells slots : Nat} {Q : State → Prop}
variable {y : MethodName} {bytes cc : ByteArray} {maxL nL index n mc ms pc : Nat} {ret : Option FieldType} {rm : Room} {Pc : Array Value → State → Prop} {Qc : Array Value → State → Outcome → State → Prop} {free : Addr → Prop} {own C cls : String} {b : Addr} {As rest st : List Value} {ls : Array Slot} {r : Int32} {o : Option Value} {D : va_G} {ws : va_W} {A A0 : Nat → Prop} {hs : List (Nat × Nat × Nat × Nat)}
/-- a call that ends by a throw, caught by the one handler -/
theorem th_V (S : CallFix p m c cc nL s args TB own) (hM : Thr l y (Cond.code y bytes maxL ret :: TB) rm Pc cls mc ms) (hc : Cond.code y bytes maxL ret ∈ TB) (hs : Cond.instanceMethod y ∈ TB) (hse : Cond.selects C y y ∈ TB) (hi : Cond.initialized y.cls ∈ TB) (hd : okName y n) (hrc : rm.cells = mc ∧ rm.slots = ms)
    (hl : Cond.methodLink own index y ∈ TB) (hR : rm.frames + 1 ≤ R.frames ∧ 8 + (maxL + 11) + rm.locals ≤ R.locals) (hp : PreV s H C b Pc As) (hn : As.length = n) (hst : st = As.reverse ++ .ref b :: rest) (hsize : ls.size = nL) (hW : (rest.map fun v => v.category).sum ≤ 8) (hf : cells + mc ≤ R.cells ∧ slots + ms ≤ R.slots) (hdg : decode cc pc = .ok (.invokevirtual index, 3))
    {xe : ExceptionTableEntry} (htab : c.exceptionTable.toList = [xe]) (hcov : covers xe pc = true) (h0 : xe.catchType ≠ 0) (hlk : Cond.classLink own xe.catchType cls ∈ TB)
    (kk : ∀ (x : Addr) (H1 : Heap), H.size ≤ H1.size → (∀ q : Nat, q < H.size → H1[q]? = H[q]?) → W p l e R s m args below meth c H1 locs (cells + mc) (slots + ms) Q (F0 m xe.handlerPc ls [.ref x])) : W p l e R s m args below meth c H locs cells slots Q (F0 m pc ls st) := by
  obtain ⟨hx, hb, hml, ho, hts⟩ := S
  obtain ⟨hbl, ⟨cellB, hcB, hoB, hclB⟩, hPc⟩ := hp
  obtain ⟨mk, methM, hnamed, hmethM, hstM, habM⟩ := Cond.instanceMethod_spec (hts _ hs)
  obtain ⟨methM', cM, hmethM', hcM, -, hlM, -, -, -, hsigM⟩ := Cond.code_spec hnamed (hts _ hc)
  obtain rfl := Option.some.inj (hmethM.symm.trans hmethM')
  obtain ⟨c2, r2, m2, q1, q2, q3, q4, kP, hkP, hkPi⟩ := Cond.selects_spec (hts _ hse)
  obtain rfl := Option.some.inj (hclB.symm.trans q1)
  obtain rfl := Option.some.inj ((State.methodFound?_of_named hnamed ⟨hd.1, hd.2.1⟩).symm.trans q2)
  obtain rfl := Option.some.inj (hnamed.symm.trans q3)
  have hlen : As.length = methM.sig.parameters.length := by
    have h2 := hd.2.2
    rw [hsigM] at h2
    exact hn.trans (Option.some.inj h2).symm
  intro T hT X
  obtain ⟨vm₁, X₁, st₁⟩ := X.invokevirtual hx ho (hts _ hl) hnamed hmethM hstM hkP hkPi ⟨hd.1, hd.2.1⟩ (a := b) (cell := cellB) (by rw [hT]; exact hcB) (fun z h => by rw [h] at hoB; cases hoB) (by rw [Launch.admits_selectMethod X.admits]; exact q4) hmethM habM hkP hkPi (g := F0 m pc ls st) rfl (argsL := As) (rest := rest) hlen hst (by rw [hb]; exact hdg)
  have hn1 := X₁.named hnamed
  have hal : s.vm.Alike vm₁ := X₁.warmed.alike
  obtain ⟨kP1, hkP1, heP1⟩ := X₁.warmed.alike.2.2 _ _ hkP
  have hini0 : kP.init = .initialized := Cond.initialized_spec (findClass_of_methodNamed hnamed) hkP (hts _ hi)
  have hini : kP1.init = .initialized := by rw [heP1]; exact hini0
  have happ : (headSpec (Cond.code y bytes maxL ret :: TB) rm).appliesLoose y e.platform ((T.setVm vm₁).calling (F0 m pc ls rest) mk (Value.ref b :: As).toArray) = true := by
    refine Spec.appliesLoose_calling (g := F0 m pc ls rest) X₁.here (by rw [hb]; exact hdg) hn1 hkP1 hini (X₁.room_calling (g := F0 m pc ls rest) (R' := rm) (hsize.trans hml.symm) (by show vm₁.method? mk = some methM; rw [hal.method?]; exact hmethM) hcM hR.1 (by rw [hlM]; exact Nat.le_trans (Nat.add_le_add_right (Nat.add_le_add_right (lv_room hW) _) _) hR.2) (by rw [hrc.1]; exact hf.1) (by rw [hrc.2]; exact hf.2)) ?_
    exact atoms_intro fun w hw => pay_in hts (good_TB hc) w hw _ _ X₁.warmed
  obtain ⟨mid, hmid⟩ := X₁.here.above
  have hfr : ((T.setVm vm₁).setTop (F0 m pc ls rest)).frames = (.java (F0 m pc ls rest) :: mid) ++ below := by rw [State.frames_setTop' _ X₁.here.top, hmid]; rfl
  obtain ⟨o, s₂, hsteps, -, hend, x, rfl, hE⟩ := Jvm.Free.Steps.callFree hM p X.admits X.cas X.clock (acts := []) hfr happ (hbl _ _ _ _ (hPc (T.setVm vm₁) hT X₁.warmed)) trivial
  rw [State.frames_setTop' _ X₁.here.top, X₁.tail] at hend
  obtain ⟨⟨ce, hce, hns, hfc, hself⟩, hWt, hsame⟩ := hE
  obtain ⟨T', X', hTW, hTs, ht⟩ := X₁.outOfThrown (g := F0 m pc ls rest) rfl (mk := mk) (a := (Value.ref b :: As).toArray) hend hWt hsame
  have hfc' : s.vm.findClass cls = some ce.cls := by
    have q : vm₁.findClass cls = some ce.cls := hfc
    rw [hal.findClass] at q
    exact q
  have hself' : s.vm.assignable ce.cls ce.cls = true := by
    have q : vm₁.assignable ce.cls ce.cls = true := hself
    rw [hal.assignable] at q
    exact q
  rw [ht, Stand.throwing_heap] at hce
  obtain ⟨vm', X'', st₂⟩ := ct_link X' x (g := F0 m pc ls rest) rfl ho htab hcov h0 (hts _ hlk) hce hns hfc' hself'
  rw [List.append_nil] at X''
  have hold : ∀ q : Nat, q < H.size → T'.heap[q]? = H[q]? := fun q hq => by
    have h9 : (T.setVm vm₁).heap[q]? = some H[q] := by show T.heap[q]? = _; rw [hT]; exact Array.getElem?_eq_getElem hq
    have h8 := State.sameButNew.old_cell hTs h9
    rw [Array.getElem?_eq_getElem hq]
    exact h8
  have hsz : H.size ≤ T'.heap.size := by
    have h9 : T.heap.size ≤ T'.heap.size := hTs.2.1
    rw [hT] at h9
    exact h9
  obtain ⟨t, a1, b1⟩ := kk x T'.heap hsz hold (T'.setVm vm') rfl X''
  refine ⟨t, st₁ t (fun acts => ?_), b1⟩
  rw [doInvoke_state]
  refine hsteps.trans ?_
  rw [ht]
  exact st₂ t a1
/-- a method with handlers: its contract out of the walk of its body -/
theorem mw_of (hy : plainName y.cls = true) (hcw : Cond.codeWith y cc maxL ret hs ∈ TB) (body : ∀ p e s m args below meth c, CallFix p m c cc maxL s args TB y.cls → c.exceptionTable.toList.map (fun h => (h.startPc, h.endPc, h.handlerPc, h.catchType)) = hs → meth.sig.returnType = ret → meth.locks = false → Pc args s →
    W p l e rm s m args below meth c s.heap [] 0 0 (MQ below Qc args s mc ms free) (entryFrame m args maxL)) : Met l y TB rm Pc Qc mc ms free := by
  refine MetFree.of_bodyS (code := cc) (maxLocals := maxL) (ret := ret) hy ?_ ?_
  · intro args s m h hn
    obtain ⟨m', meth, c, h0, h1, h2, h3, h4, -, h5, h6, -⟩ := Cond.codeWith_spec (atoms_spec (ws := TB) h _ hcw)
    obtain rfl := Option.some.inj (hn.symm.trans h0)
    exact ⟨meth, c, h1, h2, h3, h4, h5, h6⟩
  · intro p e s m args below meth c s₁ B hml hP _
    have hts := atoms_spec (ws := TB) B.pre
    obtain ⟨m', meth', c', h0, h1, h2, -, -, h7, -⟩ := Cond.codeWith_spec (hts _ hcw)
    have X := Stand.of_body B
    obtain rfl := Option.some.inj (B.named.symm.trans h0)
    obtain rfl := Option.some.inj (h1.symm.trans B.method)
    obtain rfl := Option.some.inj (h2.symm.trans X.code)
    have hh0 : s₁.heap = s.heap := by rw [B.state]; rfl
    obtain ⟨t, a1, o, b1, b2, b3, b4⟩ := body p e s _ args below _ _ ⟨B.exec, B.bytes, hml, findClass_of_methodNamed B.named, hts⟩ h7 B.returns B.notSynchronized hP s₁ hh0 X
    exact ⟨t, o, a1, b1, b2, b3, b4⟩
theorem one_entry {L : List ExceptionTableEntry} {a b c d : Nat} (h : L.map (fun h => (h.startPc, h.endPc, h.handlerPc, h.catchType)) = [(a, b, c, d)]) : ∃ xe : ExceptionTableEntry, L = [xe] ∧ (xe.startPc = a ∧ xe.endPc = b) ∧ xe.handlerPc = c ∧ xe.catchType = d := by
  match L, h with
  | [xe], h =>
    simp only [List.map_cons, List.map_nil, List.cons.injEq, Prod.mk.injEq, and_true] at h
    exact ⟨xe, rfl, ⟨h.1, h.2.1⟩, h.2.2.1, h.2.2.2⟩
/-- behind a call: what the callee left, and what it left alone -/
theorem kept_S (hS : va_S A0 H0 H locs) {H1 : Heap} {L : List Loc} (hA : ∀ q, A q → A0 q) (hz : H.size ≤ H1.size) (hk : ∀ q : Nat, q < H.size → ¬ A q → H1[q]? = H[q]?) (hL : ∀ q ∈ L, A q.base) : va_S A0 H0 H1 (locs ++ L) :=
  ⟨Nat.le_trans hS.1 hz, fun q h1 h2 => by rw [hk q (Nat.lt_of_lt_of_le h1 hS.1) (fun z => h2 (hA q z))]; exact hS.2.1 q h1 h2, fun q hq => by
    rcases List.mem_append.mp hq with h | h
    · exact hS.2.2 q h
    · exact hA _ (hL q h)⟩
/-- a call of an object's method that changes the object: beside its world, what stays -/
theorem lw_V (S : CallFix p m c cc nL s args TB own) (hM : Met l y (Cond.code y bytes maxL ret :: TB) rm Pc (mQ o D ws A) 0 0 A) (hc : Cond.code y bytes maxL ret ∈ TB) (hi : Cond.initialized y.cls ∈ TB) (hs : Cond.instanceMethod y ∈ TB) (hse : Cond.selects C y y ∈ TB) (hd : okName y n) (hrc : rm.cells = 0 ∧ rm.slots = 0)
    (hl : Cond.methodLink own index y ∈ TB) (hR : rm.frames + 1 ≤ R.frames ∧ 8 + (maxL + 11) + rm.locals ≤ R.locals) (hp : PreV s H C b Pc As) (hn : As.length = n) (hst : st = As.reverse ++ .ref b :: rest) (hsize : ls.size = nL) (hW : (rest.map fun v => v.category).sum ≤ 8) (hf : cells ≤ R.cells ∧ slots ≤ R.slots) (hdg : decode cc pc = .ok (.invokevirtual index, 3))
    (hS : va_S A0 H0 H locs) (hA : ∀ q, A q → A0 q)
    (kk : ∀ (H1 : Heap) (locs1 : List Loc), va_P D CL ws H1 → H.size ≤ H1.size → (∀ q : Nat, q < H.size → ¬ A q → H1[q]? = H[q]?) → va_S A0 H0 H1 locs1 → W p l e R s m args below meth c H1 locs1 cells slots Q (F0 m (pc + 3) ls (o.toList ++ rest))) : W p l e R s m args below meth c H locs cells slots Q (F0 m pc ls st) := by
  have cw := cb_of (R := R) (rm := rm) S.2.2.2.2 hc hi hl hd hR
  rw [hrc.1, hrc.2] at cw
  have hr := W.runV (p := p) (e := e) (below := below) (meth := meth) (H := H) (locs := locs) (cells := cells) (slots := slots) (g := F0 m pc ls st) (As := As) (rest := rest) S hM ⟨cw, S.2.2.2.2 _ hs, S.2.2.2.2 _ hse⟩ hp rfl hn hsize hst (lv_room hW) hdg ⟨hf.1, hf.2⟩
  intro T hT X
  obtain ⟨v, st₀, t, T', L, h0, X', hL, e1, ⟨hv, hP, hz, hk⟩, sp⟩ := hr T hT X
  cases hv
  rw [h0] at hz hk
  rw [← e1] at hz hk hP
  obtain ⟨t2, a1, b1⟩ := kk T'.heap (locs ++ L) hP hz hk (kept_S hS hA hz hk hL) T' rfl X'
  exact ⟨t2, sp t2 a1, b1⟩
/-- a call of a static method that has handlers -/
theorem sw_S (S : CallFix p m c cc nL s args TB own) (hM : Met l y TB rm Pc (mQ o D ws A) mc ms A) (hc : Cond.codeWith y bytes maxL ret hs ∈ TB) (hi : Cond.initialized y.cls ∈ TB) (hsc : Cond.static y ∈ TB) (hd : okName y n) (hrc : rm.cells = mc ∧ rm.slots = ms)
    (hl : Cond.methodLink own index y ∈ TB) (hR : rm.frames + 1 ≤ R.frames ∧ 8 + (maxL + 11) + rm.locals ≤ R.locals) (hp : PreS s H Pc As) (hn : As.length = n) (hst : st = As.reverse ++ rest) (hsize : ls.size = nL) (hW : (rest.map fun v => v.category).sum ≤ 8) (hf : cells + mc ≤ R.cells ∧ slots + ms ≤ R.slots) (hdg : decode cc pc = .ok (.invokestatic index, 3))
    (hS : va_S A0 H0 H locs) (hA : ∀ q, A q → A0 q)
    (kk : ∀ (H1 : Heap) (locs1 : List Loc), va_P D CL ws H1 → H.size ≤ H1.size → (∀ q : Nat, q < H.size → ¬ A q → H1[q]? = H[q]?) → va_S A0 H0 H1 locs1 → W p l e R s m args below meth c H1 locs1 (cells + mc) (slots + ms) Q (F0 m (pc + 3) ls (o.toList ++ rest))) : W p l e R s m args below meth c H locs cells slots Q (F0 m pc ls st) := by
  obtain ⟨hx, hb, hml, ho, hts⟩ := S
  have hws : ∀ w ∈ TB, ∀ (a' : Array Value) (U : State), s.WarmedH U.vm → w.before a' U = true := fun w hw => pay_in hts (fun w h => ⟨h, TB_good _ h⟩) w hw
  have hK : Back l R p e below s args y 3 8 (PreOf R mc ms Pc) (PostOf (mQ o D ws A) mc ms A) := by
    refine Jvm.Free.Back.of_freeWith (S := headSpec TB rm) (P := Pc) (K := fun _ _ _ _ _ => True) (Q := fun a st oc t => mQ o D ws A a st oc t ∧ ∃ L, FrameEnd st oc t L mc ms ∧ ∀ q ∈ L, A q.base) (bytes := bytes) (maxL := maxL) (ret := ret) (handlers := hs)
      (E := fun a st oc t L k n => k = mc ∧ n = ms ∧ ∀ q ∈ L, A q.base) hM hR.1 hR.2 ?_ ?_ (fun _ _ _ _ _ _ _ _ _ => trivial) ?_ ?_
    · intro m meth c A a X hp
      exact ⟨atoms_intro fun w hw => hws w hw _ _ X.warmed, hws _ hc _ _ X.warmed, hws _ hi _ _ X.warmed, by rw [show (headSpec TB rm).room.cells = mc from hrc.1]; exact hp.1, by rw [show (headSpec TB rm).room.slots = ms from hrc.2]; exact hp.2.1⟩
    · intro m meth c A a g mk X hp'
      exact hp.1 _ _ _ _ hp'.2.2
    · intro a st oc t ⟨hq, L, hF, hL⟩
      exact ⟨L, mc, ms, hF, rfl, rfl, hL⟩
    · intro m meth c A a g mk v t L k n X hp hq hF ⟨e1, e2, hL⟩
      subst e1; subst e2
      exact ⟨g, mk, t, L, rfl, rfl, hq.1, rfl, hL, rfl, rfl⟩
  obtain ⟨mk, methM, cM, hnamed, hmethM, hcM, -, hlM, -, -, -, hsigM⟩ := Cond.codeWith_spec (hts _ hc)
  have hstat : methM.isStatic = true := Cond.static_spec hnamed hmethM (hts _ hsc)
  obtain ⟨kP, hkP, -⟩ := className_of_methodNamed hnamed
  have hini : kP.init = .initialized := Cond.initialized_spec (findClass_of_methodNamed hnamed) hkP (hts _ hi)
  have hlen : As.length = methM.sig.parameters.length := by
    have h2 := hd.2.2
    rw [hsigM] at h2
    exact hn.trans (Option.some.inj h2).symm
  intro T hT X
  obtain ⟨vm₁, X₁, st₁⟩ := X.invokestatic hx ho (hts _ hl) hnamed hmethM hstat hkP hini ⟨hd.1, hd.2.1⟩ (g := F0 m pc ls st) rfl (argsL := As) (rest := rest) hlen hst (by rw [hb]; exact hdg)
  obtain ⟨v, ⟨U', l2, c2, s2⟩, X', ⟨g', mk', t, L, e1, e2, ⟨hv, hP, hz, hk⟩, h1, hL, h2, h3⟩, hsteps⟩ := hK m meth c ⟨T.setVm vm₁, locs, cells, slots⟩ (F0 m pc ls rest) (.invokestatic index) mk As.toArray X₁ rfl (hsize.trans hml.symm) (by rw [hb]; exact hdg) (lv_room hW) (X₁.named hnamed) ⟨hf.1, hf.2, hp.2 (T.setVm vm₁) hT X₁.warmed⟩
  cases hv
  dsimp only [Pt.U, Pt.locs, Pt.cells, Pt.slots] at X' e1 e2 h1 h2 h3 hsteps
  subst h1; subst h2; subst h3
  rw [← e1] at hz hk hP
  have hz' : H.size ≤ U'.heap.size := by rw [← hT]; exact hz
  have hk' : ∀ q : Nat, q < H.size → ¬ A q → U'.heap[q]? = H[q]? := fun q h1 h2 => by rw [← hT]; exact hk q (by rw [← hT] at h1; exact h1) h2
  obtain ⟨t2, a1, b1⟩ := kk U'.heap (locs ++ L) hP hz' hk' (kept_S hS hA hz' hk' hL) U' rfl X'
  refine ⟨t2, st₁ t2 (fun acts => ?_), b1⟩
  rw [doInvoke_state]
  exact hsteps.trans a1
end Law
end
section
/-! feed and end: the calls that are refused; the law's two methods that catch -/
def xF (D : va_G) (h qb qt : Nat) (cI : ClassId) (z : SS) (k : Nat) (tx : String) (q : Nat) : State → Heap → Prop := fun U H => xZ9 D h qb qt cI z U H ∧ xE nA U H ∧ vk_R "SignReader" k tx q U
theorem xF_ok {D : va_G} {h qb qt : Nat} {cI : ClassId} {z : SS} {k : Nat} {tx : String} {q : Nat} : okX (xF D h qb qt cI z k tx q) := fun s U H hW x => ⟨xW_ok s U H hW x.1, xE_move hW.alike (fun _ _ => rfl) (fun _ h => h) x.2.1, vk_R.warm hW x.2.2⟩
theorem xF_V {D : va_G} {h qb qt : Nat} {cI : ClassId} {z : SS} {k : Nat} {tx : String} {q : Nat} {s : State} {H : Heap} {As : List Value} (x : xF D h qb qt cI z k tx q s H) : PreV s H "SignReader" h (gx (xF D h qb qt cI z k tx q) (.ref h :: As)) As :=
  gx_V xF_ok x (va_recv x.1.2 x.1.1 (ci := 0) (q0 := 0) (q := ("SignReader", T_S, 5)) rfl rfl)
abbrev tx28 : String := "there would be more than 4096 bytes"
abbrev tx39 : String := "there are not so many bytes"
set_option maxHeartbeats 4000000 in
set_option maxRecDepth 100000 in
theorem tS_feed (l : Launch) (htr : l.stackTraces = false) (D : va_G) (h qb qt : Nat) (cI : ClassId) (z : SS) (q : Nat) (a1 a2 a3 a4 a5 : Int32) (hz : okZ z) (hn : ¬ z.1 + 20 ≤ 4096) : Thr l yS_feed (Cond.code yS_feed prog_1_method_2_code 6 none :: TB) { frames := 6, cells := 1, slots := 6, locals := 82 } (gx (xF D h qb qt cI z 28 tx28 q) [.ref h, .int a1, .int a2, .int a3, .int a4, .int a5]) "java/lang/IllegalStateException" 1 6 := by
  refine th_of (by decide) ?_
  intro p e s m args below meth cd S hex hk hv
  obtain ⟨rfl, hX⟩ := hv
  have hP : va_P D CL (srZ h qb qt cI z) s.heap := hX.1.1
  have hK := hX.1.2
  have hx := S.1
  have hb := S.2.1
  have hown := S.2.2.2.1
  have hts := S.2.2.2.2
  have hz1 := hz.1
  have hl := lv_entry ([.ref h, .int a1, .int a2, .int a3, .int a4, .int a5]) (n := 6) (Nat.le_of_ble_eq_true rfl)
  rw [lg_entry_eq]
  generalize (lg_sl ([.ref h, .int a1, .int a2, .int a3, .int a4, .int a5]) ++ List.replicate (6 - (lg_sl ([.ref h, .int a1, .int a2, .int a3, .int a4, .int a5])).length) Slot.unset).toArray = ls at hl ⊢
  have hl : lv_has ls 6 [(0, .ref h), (1, .int a1), (2, .int a2), (3, .int a3), (4, .int a4), (5, .int a5)] := hl
  refine lv_aload_n hx hb dS_feed_0 rfl (lv_at hl 0 rfl) ?_
  refine va_get (D := D) (ci := 0) (v := .int (nI z.1)) (C := "SignReader") (T := T_S) (N := 5) hx hb hts i_S hown hK hP 0 rfl rfl 2 (by decide) (hts _ k24) (fun _ h9 => h9) rfl dS_feed_1 ?_
  refine lv_sipush (v := 4076) hx hb dS_feed_4 (by decide) ?_
  refine lv_icmp_le (tgt := 20) hx hb dS_feed_7 (by decide) (fun c1 => absurd ((nI_leI (b := 4076) (by omega) (by omega)).mp c1) (by omega)) (fun _ => ?_)
  refine W.newc (n := 6) hx hb hown (hts _ k291) (hts _ k292) (hts _ k6) rfl dS_feed_10 (Nat.le_refl _) (Nat.le_refl _) (fun cC kC h1 h2 h3 h4 => ?_)
  refine W.eq (g2 := F0 m 13 ls [.ref s.heap.size]) rfl ?_
  refine lv_dup hx hb dS_feed_13 rfl ?_
  refine va_ldcS hx hb hown hX.2.2 dS_feed_14 ?_
  exact th_end S hex hk htr (names := ["java/lang/RuntimeException", "java/lang/Exception"]) (ic := 30) (by decide) (by decide) (fun a ha => xE_word hts hX.2.1 (own_28 a ha)) h1 h2 (by simp) (Nat.le_refl _) hl.1 dS_feed_16 dS_feed_19 (by decide) (by decide)
set_option maxHeartbeats 4000000 in
set_option maxRecDepth 100000 in
theorem tS_end (l : Launch) (htr : l.stackTraces = false) (D : va_G) (h qb qt : Nat) (cI : ClassId) (z : SS) (q : Nat) (i : Int32) (hz : okZ z) (hn : ¬ eOk z i = true) : Thr l yS_end (Cond.code yS_end prog_1_method_3_code 3 (some .int) :: TB) { frames := 6, cells := 1, slots := 6, locals := 82 } (gx (xF D h qb qt cI z 39 tx39 q) [.ref h, .int i]) "java/lang/IllegalArgumentException" 1 6 := by
  refine th_of (by decide) ?_
  intro p e s m args below meth cd S hex hk hv
  obtain ⟨rfl, hX⟩ := hv
  have hP : va_P D CL (srZ h qb qt cI z) s.heap := hX.1.1
  have hK := hX.1.2
  have hx := S.1
  have hb := S.2.1
  have hown := S.2.2.2.1
  have hts := S.2.2.2.2
  have hl := lv_entry ([.ref h, .int i]) (n := 3) (Nat.le_of_ble_eq_true rfl)
  rw [lg_entry_eq]
  generalize (lg_sl ([.ref h, .int i]) ++ List.replicate (3 - (lg_sl ([.ref h, .int i])).length) Slot.unset).toArray = ls at hl ⊢
  have hl : lv_has ls 3 [(0, .ref h), (1, .int i)] := hl
  have J12 : W p l e { frames := 6, cells := 1, slots := 6, locals := 82 } s m [.ref h, .int i].toArray below meth cd s.heap [] 0 0 (TQ below "java/lang/IllegalArgumentException" s 1 6) (F0 m 12 ls []) := by
    refine W.newc (n := 6) hx hb hown (hts _ k369) (hts _ k370) (hts _ k7) rfl dS_end_12 (Nat.le_refl _) (Nat.le_refl _) (fun cC kC h1 h2 h3 h4 => ?_)
    refine W.eq (g2 := F0 m 15 ls [.ref s.heap.size]) rfl ?_
    refine lv_dup hx hb dS_end_15 rfl ?_
    refine va_ldcS hx hb hown hX.2.2 dS_end_16 ?_
    exact th_end S hex hk htr (names := ["java/lang/RuntimeException", "java/lang/Exception"]) (ic := 41) (by decide) (by decide) (fun a ha => xE_word hts hX.2.1 (own_39 a ha)) h1 h2 (by simp) (Nat.le_refl _) hl.1 dS_end_18 dS_end_21 (by decide) (by decide)
  refine lv_iload_n hx hb dS_end_0 rfl (lv_at hl 1 rfl) ?_
  refine lv_if_lt (tgt := 12) hx hb dS_end_1 (by decide) (fun _ => J12) (fun c1 => ?_)
  replace c1 := Int32.not_lt.mp c1
  refine lv_iload_n hx hb dS_end_4 rfl (lv_at hl 1 rfl) ?_
  refine lv_aload_n hx hb dS_end_5 rfl (lv_at hl 0 rfl) ?_
  refine va_get (D := D) (ci := 0) (v := .int (nI z.1)) (C := "SignReader") (T := T_S) (N := 5) hx hb hts i_S hown hK hP 0 rfl rfl 2 (by decide) (hts _ k24) (fun _ h9 => h9) rfl dS_end_6 ?_
  refine lv_icmp_le (tgt := 22) hx hb dS_end_9 (by decide) (fun c2 => absurd (by simp only [eOk, Bool.and_eq_true, decide_eq_true_eq]; exact ⟨c1, c2⟩) hn) (fun _ => J12)
set_option maxHeartbeats 4000000 in
set_option maxRecDepth 100000 in
theorem cL_feed (l : Launch) (htr : l.stackTraces = false) (D : va_G) (h qb qt : Nat) (cI : ClassId) (z : SS) (q : Nat) (a1 a2 a3 a4 a5 : Int32) (hd : ap3 h qb qt) (hz : okZ z) : Met l yL_feed TB { frames := 7, cells := 1, slots := 6, locals := 107 } (gx (xF D h qb qt cI z 28 tx28 q) [.ref h, .int a1, .int a2, .int a3, .int a4, .int a5])
    (mQ (some (.int (if z.1 + 20 ≤ 4096 then 0 else 1))) D (srZ h qb qt cI (if z.1 + 20 ≤ 4096 then zFeed z a1 a2 a3 a4 a5 else z)) (A3 h qb qt)) 1 6 (A3 h qb qt) := by
  refine mw_of (by decide) k285 ?_
  intro p e s m args below meth cd S htab hr hk hv
  obtain ⟨rfl, hX⟩ := hv
  have hP : va_P D CL (srZ h qb qt cI z) s.heap := hX.1.1
  have hK := hX.1.2
  have hx := S.1
  have hb := S.2.1
  have hown := S.2.2.2.1
  have hts := S.2.2.2.2
  have hS : va_S (A3 h qb qt) s.heap s.heap [] := va_S.rf
  have hl := lv_entry ([.ref h, .int a1, .int a2, .int a3, .int a4, .int a5]) (n := 7) (Nat.le_of_ble_eq_true rfl)
  rw [lg_entry_eq]
  generalize (lg_sl ([.ref h, .int a1, .int a2, .int a3, .int a4, .int a5]) ++ List.replicate (7 - (lg_sl ([.ref h, .int a1, .int a2, .int a3, .int a4, .int a5])).length) Slot.unset).toArray = ls at hl ⊢
  have hl : lv_has ls 7 [(0, .ref h), (1, .int a1), (2, .int a2), (3, .int a3), (4, .int a4), (5, .int a5)] := hl
  refine lv_aload_n hx hb dL_feed_0 rfl (lv_at hl 0 rfl) ?_
  refine lv_iload_n hx hb dL_feed_1 rfl (lv_at hl 1 rfl) ?_
  refine lv_iload_n hx hb dL_feed_2 rfl (lv_at hl 2 rfl) ?_
  refine lv_iload_n hx hb dL_feed_3 rfl (lv_at hl 3 rfl) ?_
  refine lv_iload hx hb dL_feed_4 (lv_at hl 4 rfl) ?_
  refine lv_iload hx hb dL_feed_6 (lv_at hl 5 rfl) ?_
  by_cases hn : z.1 + 20 ≤ 4096
  · simp only [hn, ↓reduceIte]
    refine mu_V (As := [.int a1, .int a2, .int a3, .int a4, .int a5]) (rest := []) (n := 5) (C := "SignReader") S (cS_feed l D h qb qt cI z a1 a2 a3 a4 a5 hd hz hn) k290 k1 k288 k289 (by decide +kernel) ⟨rfl, rfl⟩ k287 (by decide) (xW_V ⟨hP, hK⟩) rfl rfl hl.1 (Nat.le_of_ble_eq_true rfl) ⟨Nat.zero_le _, Nat.zero_le _⟩ dL_feed_8 hS (fun _ h9 => h9) (fun H locs hP hS => ?_)
    refine lv_goto (tgt := 18) hx hb dL_feed_11 (by decide) ?_
    refine lv_iconst (v := 0) hx hb dL_feed_18 (by decide) ?_
    refine W.widen (k := 1) (n := 6) (Nat.zero_le _) (Nat.zero_le _) ?_
    exact W.iret hx hb hr (fun t ht _ => ⟨rfl, by rw [ht]; exact hP, hS.F ht⟩) hS.2.2 dL_feed_19 hk
  · simp only [hn, ↓reduceIte]
    obtain ⟨xe, he, ⟨he1, he2⟩, he3, he4⟩ := one_entry htab
    refine th_V (As := [.int a1, .int a2, .int a3, .int a4, .int a5]) (rest := []) (n := 5) (C := "SignReader") (cls := "java/lang/IllegalStateException") S (tS_feed l htr D h qb qt cI z q a1 a2 a3 a4 a5 hz hn) k290 k288 k289 k1 (by decide +kernel) ⟨rfl, rfl⟩ k287 (by decide) (xF_V hX) rfl rfl hl.1 (Nat.le_of_ble_eq_true rfl) ⟨Nat.le_refl _, Nat.le_refl _⟩ dL_feed_8 he (by simp only [covers, he1, he2]; decide) (by rw [he4]; decide) (by rw [he4]; exact k286) (fun x H1 hz1 hold => ?_)
    rw [he3]
    refine lv_astore (lv' := [(6, .ref x), (0, .ref h), (1, .int a1), (2, .int a2), (3, .int a3), (4, .int a4), (5, .int a5)]) hx hb dL_feed_14 hl (by decide) rfl (fun ls hl => ?_)
    refine lv_iconst (v := 1) hx hb dL_feed_16 (by decide) ?_
    have hP1 : va_P D CL (srZ h qb qt cI z) H1 := fun k q hq => (hP k q hq).kept (hold q.1 (hP k q hq).lt)
    exact W.iret hx hb hr (fun t ht _ => ⟨rfl, by rw [ht]; exact hP1, ⟨by rw [ht]; exact hz1, fun q h1 _ => by rw [ht]; exact hold q h1⟩⟩) (fun q hq => by cases hq) dL_feed_17 hk
end
section
/-! the law's end -/
abbrev oW (qo : Nat) (cL : ClassId) (f : Nat → Int64) : va_W := [(qo, .inl (cL, 1, .inr (.inl f)))]
theorem P_kept {D : va_G} {ws : va_W} {H H1 : Heap} {A : Nat → Prop} (hP : va_P D CL ws H) (hk : ∀ q : Nat, q < H.size → ¬ A q → H1[q]? = H[q]?) (hA : ∀ (k : Nat) (q : Nat × va_E), ws[k]? = some q → ¬ A q.1) : va_P D CL ws H1 := fun k q hq => (hP k q hq).kept (hk q.1 (hP k q hq).lt (hA k q hq))
theorem o_not {A : Nat → Prop} {qo : Nat} {cL : ClassId} {f : Nat → Int64} (h : ¬ A qo) : ∀ (k : Nat) (q : Nat × va_E), (oW qo cL f)[k]? = some q → ¬ A q.1 := fun k q hq => by
  match k, hq with
  | 0, hq => cases hq; exact h
  | k + 1, hq => simp at hq
def A3o (h qb qt qo : Nat) : Nat → Prop := fun q => A3 h qb qt q ∨ q = qo
theorem srDo {h qb qt qo : Nat} {cI cL : ClassId} {nb tl wy : Int32} {f g : Nat → Int32} {fo : Nat → Int64} (hd : ap3 h qb qt) (ho : ¬ A3 h qb qt qo) : va_D (A3o h qb qt qo) (srW h qb qt cI nb tl wy f g ++ oW qo cL fo) := by
  refine va_D.app ((srD hd).weaken (fun k q _ h9 => Or.inl h9)) (d1 (Or.inr rfl)) ?_
  intro i j p q hi hj he
  have h1 := (srD (cI := cI) (nb := nb) (tl := tl) (wy := wy) (f := f) (g := g) hd).2 i p hi
  match j, hj with
  | 0, hj => cases hj; exact ho ((show p.1 = qo from he) ▸ h1)
  | j + 1, hj => simp at hj
def xG (D : va_G) (h qb qt : Nat) (cI : ClassId) (z : SS) (q qo : Nat) (cL : ClassId) (f : Nat → Int64) : State → Heap → Prop := fun U H => xF D h qb qt cI z 39 tx39 q U H ∧ va_P D CL (oW qo cL f) H ∧ va_K D CL [(cI, .int), (cL, .long)] U
theorem xG_ok {D : va_G} {h qb qt : Nat} {cI : ClassId} {z : SS} {q qo : Nat} {cL : ClassId} {f : Nat → Int64} : okX (xG D h qb qt cI z q qo cL f) := fun s U H hW x => ⟨xF_ok s U H hW x.1, x.2.1, va_K.moved hW.alike x.2.2⟩
set_option maxHeartbeats 4000000 in
set_option maxRecDepth 100000 in
theorem cL_end (l : Launch) (htr : l.stackTraces = false) (D : va_G) (h qb qt : Nat) (cI : ClassId) (z : SS) (q qo : Nat) (cL : ClassId) (f : Nat → Int64) (i : Int32) (hd : ap3 h qb qt) (hz : okZ z) (ho : ¬ A3 h qb qt qo) : Met l yL_end TB { frames := 7, cells := 1, slots := 6, locals := 104 } (gx (xG D h qb qt cI z q qo cL f) [.ref h, .int i, .ref qo])
    (mQ (some (.int (if eOk z i = true then 0 else 1))) D (srZ h qb qt cI (if eOk z i = true then zEnd z i else z) ++ oW qo cL (if eOk z i = true then vp_updL f 0 (nI z.1).toInt64 else f)) (A3o h qb qt qo)) 1 6 (A3o h qb qt qo) := by
  refine mw_of (by decide) k363 ?_
  intro p e s m args below meth cd S htab hr hk hv
  obtain ⟨rfl, hX, hPo, hK2⟩ := hv
  have hP : va_P D CL (srZ h qb qt cI z) s.heap := hX.1.1
  have hK := hX.1.2
  have hx := S.1
  have hb := S.2.1
  have hown := S.2.2.2.1
  have hts := S.2.2.2.2
  have hS : va_S (A3o h qb qt qo) s.heap s.heap [] := va_S.rf
  have hl := lv_entry ([.ref h, .int i, .ref qo]) (n := 4) (Nat.le_of_ble_eq_true rfl)
  rw [lg_entry_eq]
  generalize (lg_sl ([.ref h, .int i, .ref qo]) ++ List.replicate (4 - (lg_sl ([.ref h, .int i, .ref qo])).length) Slot.unset).toArray = ls at hl ⊢
  have hl : lv_has ls 4 [(0, .ref h), (1, .int i), (2, .ref qo)] := hl
  refine lv_aload_n hx hb dL_end_0 rfl (lv_at hl 2 rfl) ?_
  refine lv_iconst (v := 0) hx hb dL_end_1 (by decide) ?_
  refine lv_aload_n hx hb dL_end_2 rfl (lv_at hl 0 rfl) ?_
  refine lv_iload_n hx hb dL_end_3 rfl (lv_at hl 1 rfl) ?_
  by_cases hn : eOk z i = true
  · simp only [hn, ↓reduceIte]
    refine lw_V (As := [.int i]) (rest := [.int 0, .ref qo]) (n := 1) (C := "SignReader") S (cS_end l D h qb qt cI z i hd hz hn) k368 k1 k366 k367 (by decide +kernel) ⟨rfl, rfl⟩ k365 (by decide) (xW_V ⟨hP, hK⟩) rfl rfl hl.1 (Nat.le_of_ble_eq_true rfl) ⟨Nat.zero_le _, Nat.zero_le _⟩ dL_end_4 hS (fun _ h9 => Or.inl h9) (fun H locs hP hz1 hkp hS => ?_)
    have hPo1 : va_P D CL (oW qo cL f) H := P_kept hPo hkp (o_not ho)
    have hPP : va_P D CL (srZ h qb qt cI (zEnd z i) ++ oW qo cL f) H := va_P.app hP hPo1
    refine lv_i2l (v := (nI z.1).toInt64) hx hb dL_end_7 rfl ?_
    refine va_last (i := 0) hx hb hK2 hPP (srDo hd ho) hS 3 1 rfl rfl (by unfold vp_in; decide) dL_end_8 (fun H locs hP _ hS => ?_)
    refine lv_goto (tgt := 15) hx hb dL_end_9 (by decide) ?_
    refine lv_iconst (v := 0) hx hb dL_end_15 (by decide) ?_
    refine W.widen (k := 1) (n := 6) (Nat.zero_le _) (Nat.zero_le _) ?_
    exact W.iret hx hb hr (fun t ht _ => ⟨rfl, by rw [ht]; exact hP, hS.F ht⟩) hS.2.2 dL_end_16 hk
  · simp only [hn, ↓reduceIte]
    obtain ⟨xe, he, ⟨he1, he2⟩, he3, he4⟩ := one_entry htab
    refine th_V (As := [.int i]) (rest := [.int 0, .ref qo]) (n := 1) (C := "SignReader") (cls := "java/lang/IllegalArgumentException") S (tS_end l htr D h qb qt cI z q i hz hn) k368 k366 k367 k1 (by decide +kernel) ⟨rfl, rfl⟩ k365 (by decide) (xF_V hX) rfl rfl hl.1 (Nat.le_of_ble_eq_true rfl) ⟨Nat.le_refl _, Nat.le_refl _⟩ dL_end_4 he (by simp only [covers, he1, he2]; decide) (by rw [he4]; decide) (by rw [he4]; exact k364) (fun x H1 hz1 hold => ?_)
    rw [he3]
    refine lv_astore_n (lv' := [(3, .ref x), (0, .ref h), (1, .int i), (2, .ref qo)]) hx hb dL_end_12 rfl hl (by decide) rfl (fun ls hl => ?_)
    refine lv_iconst (v := 1) hx hb dL_end_13 (by decide) ?_
    have hP1 : va_P D CL (srZ h qb qt cI z ++ oW qo cL f) H1 := fun k q hq => ((va_P.app hP hPo) k q hq).kept (hold q.1 ((va_P.app hP hPo) k q hq).lt)
    exact W.iret hx hb hr (fun t ht _ => ⟨rfl, by rw [ht]; exact hP1, ⟨by rw [ht]; exact hz1, fun q h1 _ => by rw [ht]; exact hold q h1⟩⟩) (fun q hq => by cases hq) dL_end_14 hk
end
