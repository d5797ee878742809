-- ===== PART A: goes FIRST, ahead of the names: the tables' words, and 'selects' of the private methods out of them =====
/-- a private method of a class that the tables say can be made, by its rows of tables_1 -/
def lw_okq (q : MethodName × Nat) : Prop := (q.1.cls ≠ "java/lang/invoke/MethodHandle" ∧ q.1.cls ≠ "java/lang/invoke/VarHandle") ∧ Cond.instantiable q.1.cls q.2 ∈ tables_1 ∧ Cond.privateMethod q.1 ∈ tables_1 ∧ Cond.instanceMethod q.1 ∈ tables_1
theorem lw_p0 : lw_okq (⟨"ShuffleAlgebra", "isLyndonCode", "(I)Z"⟩, 10) := ⟨⟨by decide +kernel, by decide +kernel⟩, List.mem_of_getElem? (i := 24) (by decide +kernel), List.mem_of_getElem? (i := 232) (by decide +kernel), List.mem_of_getElem? (i := 233) (by decide +kernel)⟩
theorem lw_p1 : lw_okq (⟨"ShuffleAlgebra$Factors", "isSame", "(II)Z"⟩, 5) := ⟨⟨by decide +kernel, by decide +kernel⟩, List.mem_of_getElem? (i := 85) (by decide +kernel), List.mem_of_getElem? (i := 252) (by decide +kernel), List.mem_of_getElem? (i := 253) (by decide +kernel)⟩
theorem lw_p2 : lw_okq (⟨"ShuffleAlgebra$Factors", "sizeOf", "(I)I"⟩, 5) := ⟨⟨by decide +kernel, by decide +kernel⟩, List.mem_of_getElem? (i := 85) (by decide +kernel), List.mem_of_getElem? (i := 256) (by decide +kernel), List.mem_of_getElem? (i := 257) (by decide +kernel)⟩
theorem lw_p3 : lw_okq (⟨"ShuffleAlgebra$Factors", "letterOf", "(II)I"⟩, 5) := ⟨⟨by decide +kernel, by decide +kernel⟩, List.mem_of_getElem? (i := 85) (by decide +kernel), List.mem_of_getElem? (i := 260) (by decide +kernel), List.mem_of_getElem? (i := 261) (by decide +kernel)⟩
theorem lw_p4 : lw_okq (⟨"ShuffleAlgebra", "registerAt", "(I)LShuffleAlgebra$Polynomial;"⟩, 10) := ⟨⟨by decide +kernel, by decide +kernel⟩, List.mem_of_getElem? (i := 24) (by decide +kernel), List.mem_of_getElem? (i := 307) (by decide +kernel), List.mem_of_getElem? (i := 308) (by decide +kernel)⟩
theorem lw_p5 : lw_okq (⟨"ShuffleAlgebra$Sum", "countTerms", "()I"⟩, 3) := ⟨⟨by decide +kernel, by decide +kernel⟩, List.mem_of_getElem? (i := 68) (by decide +kernel), List.mem_of_getElem? (i := 343) (by decide +kernel), List.mem_of_getElem? (i := 344) (by decide +kernel)⟩
theorem lw_p6 : lw_okq (⟨"ShuffleAlgebra", "takeInput", "()Ljava/lang/String;"⟩, 10) := ⟨⟨by decide +kernel, by decide +kernel⟩, List.mem_of_getElem? (i := 24) (by decide +kernel), List.mem_of_getElem? (i := 647) (by decide +kernel), List.mem_of_getElem? (i := 648) (by decide +kernel)⟩
theorem lw_p7 : lw_okq (⟨"ShuffleAlgebra", "addTransformed", "(Ljava/lang/String;IJ)V"⟩, 10) := ⟨⟨by decide +kernel, by decide +kernel⟩, List.mem_of_getElem? (i := 24) (by decide +kernel), List.mem_of_getElem? (i := 851) (by decide +kernel), List.mem_of_getElem? (i := 852) (by decide +kernel)⟩
theorem lw_p8 : lw_okq (⟨"ShuffleAlgebra", "isKept", "(Ljava/lang/String;I)Z"⟩, 10) := ⟨⟨by decide +kernel, by decide +kernel⟩, List.mem_of_getElem? (i := 24) (by decide +kernel), List.mem_of_getElem? (i := 855) (by decide +kernel), List.mem_of_getElem? (i := 856) (by decide +kernel)⟩
theorem lw_p9 : lw_okq (⟨"ShuffleAlgebraModel", "countSubwords", "(IIII)I"⟩, 30) := ⟨⟨by decide +kernel, by decide +kernel⟩, List.mem_of_getElem? (i := 876) (by decide +kernel), List.mem_of_getElem? (i := 1010) (by decide +kernel), List.mem_of_getElem? (i := 1011) (by decide +kernel)⟩
theorem lw_p10 : lw_okq (⟨"ShuffleAlgebraModel", "countCovers", "(IIIIIIZ)I"⟩, 30) := ⟨⟨by decide +kernel, by decide +kernel⟩, List.mem_of_getElem? (i := 876) (by decide +kernel), List.mem_of_getElem? (i := 1018) (by decide +kernel), List.mem_of_getElem? (i := 1019) (by decide +kernel)⟩
theorem lw_p11 : lw_okq (⟨"ShuffleAlgebraModel", "offset", "(I)I"⟩, 30) := ⟨⟨by decide +kernel, by decide +kernel⟩, List.mem_of_getElem? (i := 876) (by decide +kernel), List.mem_of_getElem? (i := 1051) (by decide +kernel), List.mem_of_getElem? (i := 1052) (by decide +kernel)⟩
theorem lw_p12 : lw_okq (⟨"ShuffleAlgebraModel", "decode", "(I[I)I"⟩, 30) := ⟨⟨by decide +kernel, by decide +kernel⟩, List.mem_of_getElem? (i := 876) (by decide +kernel), List.mem_of_getElem? (i := 1055) (by decide +kernel), List.mem_of_getElem? (i := 1056) (by decide +kernel)⟩
theorem lw_p13 : lw_okq (⟨"ShuffleAlgebraModel", "lengthOf", "(I)I"⟩, 30) := ⟨⟨by decide +kernel, by decide +kernel⟩, List.mem_of_getElem? (i := 876) (by decide +kernel), List.mem_of_getElem? (i := 1059) (by decide +kernel), List.mem_of_getElem? (i := 1060) (by decide +kernel)⟩
theorem lw_p14 : lw_okq (⟨"ShuffleAlgebraModel", "clearSum", "()V"⟩, 30) := ⟨⟨by decide +kernel, by decide +kernel⟩, List.mem_of_getElem? (i := 876) (by decide +kernel), List.mem_of_getElem? (i := 1075) (by decide +kernel), List.mem_of_getElem? (i := 1076) (by decide +kernel)⟩
theorem lw_p15 : lw_okq (⟨"ShuffleAlgebraModel", "appendBracket", "([IIIII)V"⟩, 30) := ⟨⟨by decide +kernel, by decide +kernel⟩, List.mem_of_getElem? (i := 876) (by decide +kernel), List.mem_of_getElem? (i := 1079) (by decide +kernel), List.mem_of_getElem? (i := 1080) (by decide +kernel)⟩
def lw_privs_1 : List (MethodName × Nat) := [(⟨"ShuffleAlgebra", "isLyndonCode", "(I)Z"⟩, 10), (⟨"ShuffleAlgebra$Factors", "isSame", "(II)Z"⟩, 5), (⟨"ShuffleAlgebra$Factors", "sizeOf", "(I)I"⟩, 5), (⟨"ShuffleAlgebra$Factors", "letterOf", "(II)I"⟩, 5), (⟨"ShuffleAlgebra", "registerAt", "(I)LShuffleAlgebra$Polynomial;"⟩, 10), (⟨"ShuffleAlgebra$Sum", "countTerms", "()I"⟩, 3), (⟨"ShuffleAlgebra", "takeInput", "()Ljava/lang/String;"⟩, 10), (⟨"ShuffleAlgebra", "addTransformed", "(Ljava/lang/String;IJ)V"⟩, 10), (⟨"ShuffleAlgebra", "isKept", "(Ljava/lang/String;I)Z"⟩, 10), (⟨"ShuffleAlgebraModel", "countSubwords", "(IIII)I"⟩, 30), (⟨"ShuffleAlgebraModel", "countCovers", "(IIIIIIZ)I"⟩, 30), (⟨"ShuffleAlgebraModel", "offset", "(I)I"⟩, 30), (⟨"ShuffleAlgebraModel", "decode", "(I[I)I"⟩, 30), (⟨"ShuffleAlgebraModel", "lengthOf", "(I)I"⟩, 30), (⟨"ShuffleAlgebraModel", "clearSum", "()V"⟩, 30), (⟨"ShuffleAlgebraModel", "appendBracket", "([IIIII)V"⟩, 30)]
theorem lw_r1 : ∀ q ∈ lw_privs_1, lw_okq q := List.forall_mem_cons.mpr ⟨lw_p0, List.forall_mem_cons.mpr ⟨lw_p1, List.forall_mem_cons.mpr ⟨lw_p2, List.forall_mem_cons.mpr ⟨lw_p3, List.forall_mem_cons.mpr ⟨lw_p4, List.forall_mem_cons.mpr ⟨lw_p5, List.forall_mem_cons.mpr ⟨lw_p6, List.forall_mem_cons.mpr ⟨lw_p7, List.forall_mem_cons.mpr ⟨lw_p8, List.forall_mem_cons.mpr ⟨lw_p9, List.forall_mem_cons.mpr ⟨lw_p10, List.forall_mem_cons.mpr ⟨lw_p11, List.forall_mem_cons.mpr ⟨lw_p12, List.forall_mem_cons.mpr ⟨lw_p13, List.forall_mem_cons.mpr ⟨lw_p14, List.forall_mem_cons.mpr ⟨lw_p15, fun _ h => absurd h List.not_mem_nil⟩⟩⟩⟩⟩⟩⟩⟩⟩⟩⟩⟩⟩⟩⟩⟩
theorem lw_p16 : lw_okq (⟨"ShuffleAlgebraModel", "encode", "([III)I"⟩, 30) := ⟨⟨by decide +kernel, by decide +kernel⟩, List.mem_of_getElem? (i := 876) (by decide +kernel), List.mem_of_getElem? (i := 1083) (by decide +kernel), List.mem_of_getElem? (i := 1084) (by decide +kernel)⟩
theorem lw_p17 : lw_okq (⟨"ShuffleAlgebraModel", "store", "(I)I"⟩, 30) := ⟨⟨by decide +kernel, by decide +kernel⟩, List.mem_of_getElem? (i := 876) (by decide +kernel), List.mem_of_getElem? (i := 1090) (by decide +kernel), List.mem_of_getElem? (i := 1091) (by decide +kernel)⟩
theorem lw_p18 : lw_okq (⟨"ShuffleAlgebraModel", "makeBasis", "([II)V"⟩, 30) := ⟨⟨by decide +kernel, by decide +kernel⟩, List.mem_of_getElem? (i := 876) (by decide +kernel), List.mem_of_getElem? (i := 1100) (by decide +kernel), List.mem_of_getElem? (i := 1101) (by decide +kernel)⟩
theorem lw_p19 : lw_okq (⟨"ShuffleAlgebraModel", "shuffleInto", "(II[IIIIIJ)V"⟩, 30) := ⟨⟨by decide +kernel, by decide +kernel⟩, List.mem_of_getElem? (i := 876) (by decide +kernel), List.mem_of_getElem? (i := 1104) (by decide +kernel), List.mem_of_getElem? (i := 1105) (by decide +kernel)⟩
theorem lw_p20 : lw_okq (⟨"ShuffleAlgebraModel", "load", "(I)V"⟩, 30) := ⟨⟨by decide +kernel, by decide +kernel⟩, List.mem_of_getElem? (i := 876) (by decide +kernel), List.mem_of_getElem? (i := 1112) (by decide +kernel), List.mem_of_getElem? (i := 1113) (by decide +kernel)⟩
theorem lw_p21 : lw_okq (⟨"ShuffleAlgebraModel", "addRegister", "(IJ)V"⟩, 30) := ⟨⟨by decide +kernel, by decide +kernel⟩, List.mem_of_getElem? (i := 876) (by decide +kernel), List.mem_of_getElem? (i := 1116) (by decide +kernel), List.mem_of_getElem? (i := 1117) (by decide +kernel)⟩
theorem lw_p22 : lw_okq (⟨"ShuffleAlgebraModel", "encodeLeft", "(II)I"⟩, 30) := ⟨⟨by decide +kernel, by decide +kernel⟩, List.mem_of_getElem? (i := 876) (by decide +kernel), List.mem_of_getElem? (i := 1124) (by decide +kernel), List.mem_of_getElem? (i := 1125) (by decide +kernel)⟩
theorem lw_p23 : lw_okq (⟨"ShuffleAlgebraModel", "wordOf", "(I)I"⟩, 30) := ⟨⟨by decide +kernel, by decide +kernel⟩, List.mem_of_getElem? (i := 876) (by decide +kernel), List.mem_of_getElem? (i := 1136) (by decide +kernel), List.mem_of_getElem? (i := 1137) (by decide +kernel)⟩
theorem lw_p24 : lw_okq (⟨"ShuffleAlgebraModel", "isTerm", "(II)Z"⟩, 30) := ⟨⟨by decide +kernel, by decide +kernel⟩, List.mem_of_getElem? (i := 876) (by decide +kernel), List.mem_of_getElem? (i := 1153) (by decide +kernel), List.mem_of_getElem? (i := 1154) (by decide +kernel)⟩
theorem lw_p25 : lw_okq (⟨"ShuffleAlgebraModel", "longest", "(I)I"⟩, 30) := ⟨⟨by decide +kernel, by decide +kernel⟩, List.mem_of_getElem? (i := 876) (by decide +kernel), List.mem_of_getElem? (i := 1177) (by decide +kernel), List.mem_of_getElem? (i := 1178) (by decide +kernel)⟩
theorem lw_p26 : lw_okq (⟨"ShuffleAlgebraModel", "merge", "(IIIIIIZJ)V"⟩, 30) := ⟨⟨by decide +kernel, by decide +kernel⟩, List.mem_of_getElem? (i := 876) (by decide +kernel), List.mem_of_getElem? (i := 1181) (by decide +kernel), List.mem_of_getElem? (i := 1182) (by decide +kernel)⟩
theorem lw_p27 : lw_okq (⟨"ShuffleAlgebraModel", "reversed", "(I)I"⟩, 30) := ⟨⟨by decide +kernel, by decide +kernel⟩, List.mem_of_getElem? (i := 876) (by decide +kernel), List.mem_of_getElem? (i := 1189) (by decide +kernel), List.mem_of_getElem? (i := 1190) (by decide +kernel)⟩
theorem lw_p28 : lw_okq (⟨"ShuffleAlgebraModel", "readPolynomial", "()Z"⟩, 30) := ⟨⟨by decide +kernel, by decide +kernel⟩, List.mem_of_getElem? (i := 876) (by decide +kernel), List.mem_of_getElem? (i := 1213) (by decide +kernel), List.mem_of_getElem? (i := 1214) (by decide +kernel)⟩
theorem lw_p29 : lw_okq (⟨"ShuffleAlgebraModel", "current", "()I"⟩, 30) := ⟨⟨by decide +kernel, by decide +kernel⟩, List.mem_of_getElem? (i := 876) (by decide +kernel), List.mem_of_getElem? (i := 1217) (by decide +kernel), List.mem_of_getElem? (i := 1218) (by decide +kernel)⟩
theorem lw_p30 : lw_okq (⟨"ShuffleAlgebraModel", "readTerm", "(Z)Z"⟩, 30) := ⟨⟨by decide +kernel, by decide +kernel⟩, List.mem_of_getElem? (i := 876) (by decide +kernel), List.mem_of_getElem? (i := 1221) (by decide +kernel), List.mem_of_getElem? (i := 1222) (by decide +kernel)⟩
theorem lw_p31 : lw_okq (⟨"ShuffleAlgebraModel", "isDigit", "()Z"⟩, 30) := ⟨⟨by decide +kernel, by decide +kernel⟩, List.mem_of_getElem? (i := 876) (by decide +kernel), List.mem_of_getElem? (i := 1225) (by decide +kernel), List.mem_of_getElem? (i := 1226) (by decide +kernel)⟩
def lw_privs_2 : List (MethodName × Nat) := [(⟨"ShuffleAlgebraModel", "encode", "([III)I"⟩, 30), (⟨"ShuffleAlgebraModel", "store", "(I)I"⟩, 30), (⟨"ShuffleAlgebraModel", "makeBasis", "([II)V"⟩, 30), (⟨"ShuffleAlgebraModel", "shuffleInto", "(II[IIIIIJ)V"⟩, 30), (⟨"ShuffleAlgebraModel", "load", "(I)V"⟩, 30), (⟨"ShuffleAlgebraModel", "addRegister", "(IJ)V"⟩, 30), (⟨"ShuffleAlgebraModel", "encodeLeft", "(II)I"⟩, 30), (⟨"ShuffleAlgebraModel", "wordOf", "(I)I"⟩, 30), (⟨"ShuffleAlgebraModel", "isTerm", "(II)Z"⟩, 30), (⟨"ShuffleAlgebraModel", "longest", "(I)I"⟩, 30), (⟨"ShuffleAlgebraModel", "merge", "(IIIIIIZJ)V"⟩, 30), (⟨"ShuffleAlgebraModel", "reversed", "(I)I"⟩, 30), (⟨"ShuffleAlgebraModel", "readPolynomial", "()Z"⟩, 30), (⟨"ShuffleAlgebraModel", "current", "()I"⟩, 30), (⟨"ShuffleAlgebraModel", "readTerm", "(Z)Z"⟩, 30), (⟨"ShuffleAlgebraModel", "isDigit", "()Z"⟩, 30)]
theorem lw_r2 : ∀ q ∈ lw_privs_2, lw_okq q := List.forall_mem_cons.mpr ⟨lw_p16, List.forall_mem_cons.mpr ⟨lw_p17, List.forall_mem_cons.mpr ⟨lw_p18, List.forall_mem_cons.mpr ⟨lw_p19, List.forall_mem_cons.mpr ⟨lw_p20, List.forall_mem_cons.mpr ⟨lw_p21, List.forall_mem_cons.mpr ⟨lw_p22, List.forall_mem_cons.mpr ⟨lw_p23, List.forall_mem_cons.mpr ⟨lw_p24, List.forall_mem_cons.mpr ⟨lw_p25, List.forall_mem_cons.mpr ⟨lw_p26, List.forall_mem_cons.mpr ⟨lw_p27, List.forall_mem_cons.mpr ⟨lw_p28, List.forall_mem_cons.mpr ⟨lw_p29, List.forall_mem_cons.mpr ⟨lw_p30, List.forall_mem_cons.mpr ⟨lw_p31, fun _ h => absurd h List.not_mem_nil⟩⟩⟩⟩⟩⟩⟩⟩⟩⟩⟩⟩⟩⟩⟩⟩
theorem lw_p32 : lw_okq (⟨"ShuffleAlgebraModel", "write", "(IZ)V"⟩, 30) := ⟨⟨by decide +kernel, by decide +kernel⟩, List.mem_of_getElem? (i := 876) (by decide +kernel), List.mem_of_getElem? (i := 1235) (by decide +kernel), List.mem_of_getElem? (i := 1236) (by decide +kernel)⟩
theorem lw_p33 : lw_okq (⟨"ShuffleAlgebraModel", "writeNumber", "(J)V"⟩, 30) := ⟨⟨by decide +kernel, by decide +kernel⟩, List.mem_of_getElem? (i := 876) (by decide +kernel), List.mem_of_getElem? (i := 1240) (by decide +kernel), List.mem_of_getElem? (i := 1241) (by decide +kernel)⟩
theorem lw_p34 : lw_okq (⟨"ShuffleAlgebraModel", "transformation", "()I"⟩, 30) := ⟨⟨by decide +kernel, by decide +kernel⟩, List.mem_of_getElem? (i := 876) (by decide +kernel), List.mem_of_getElem? (i := 1252) (by decide +kernel), List.mem_of_getElem? (i := 1253) (by decide +kernel)⟩
theorem lw_p35 : lw_okq (⟨"ShuffleAlgebraModel", "isInput", "(Ljava/lang/String;)Z"⟩, 30) := ⟨⟨by decide +kernel, by decide +kernel⟩, List.mem_of_getElem? (i := 876) (by decide +kernel), List.mem_of_getElem? (i := 1257) (by decide +kernel), List.mem_of_getElem? (i := 1258) (by decide +kernel)⟩
theorem lw_p36 : lw_okq (⟨"ShuffleAlgebraModel", "totalTerms", "()I"⟩, 30) := ⟨⟨by decide +kernel, by decide +kernel⟩, List.mem_of_getElem? (i := 876) (by decide +kernel), List.mem_of_getElem? (i := 1274) (by decide +kernel), List.mem_of_getElem? (i := 1275) (by decide +kernel)⟩
def lw_privs_3 : List (MethodName × Nat) := [(⟨"ShuffleAlgebraModel", "write", "(IZ)V"⟩, 30), (⟨"ShuffleAlgebraModel", "writeNumber", "(J)V"⟩, 30), (⟨"ShuffleAlgebraModel", "transformation", "()I"⟩, 30), (⟨"ShuffleAlgebraModel", "isInput", "(Ljava/lang/String;)Z"⟩, 30), (⟨"ShuffleAlgebraModel", "totalTerms", "()I"⟩, 30)]
theorem lw_r3 : ∀ q ∈ lw_privs_3, lw_okq q := List.forall_mem_cons.mpr ⟨lw_p32, List.forall_mem_cons.mpr ⟨lw_p33, List.forall_mem_cons.mpr ⟨lw_p34, List.forall_mem_cons.mpr ⟨lw_p35, List.forall_mem_cons.mpr ⟨lw_p36, fun _ h => absurd h List.not_mem_nil⟩⟩⟩⟩⟩
def lw_privs : List (MethodName × Nat) := lw_privs_1 ++ (lw_privs_2 ++ (lw_privs_3))
def lw_tbl : List Cond := k2_sels lw_privs ++ tables_1
theorem lw_privs_ok : ∀ q ∈ lw_privs, lw_okq q := by
  show ∀ q ∈ lw_privs_1 ++ (lw_privs_2 ++ (lw_privs_3)), lw_okq q
  exact List.forall_mem_append.mpr ⟨lw_r1, List.forall_mem_append.mpr ⟨lw_r2, lw_r3⟩⟩

theorem goodIn_r {big : List Cond} (ws : List Cond) (ps : List Nat) (hp : ws = ps.filterMap (fun i => big[i]?)) (h : ws.all goodWord = true) : GoodIn big ws := by
  intro w hw
  have h1 := List.all_eq_true.mp h w hw
  rw [hp] at hw
  obtain ⟨i, -, hi⟩ := List.mem_filterMap.mp hw
  have hm : w ∈ big := by first | exact List.mem_of_getElem? hi | exact List.getElem?_mem hi
  exact ⟨hm, good_of_word h1⟩
theorem goodIn_app {big a b : List Cond} (ha : GoodIn big a) (hb : GoodIn big b) : GoodIn big (a ++ b) := fun w h => (List.mem_append.mp h).elim (ha w) (hb w)
theorem goodIn_ca {big a b : List Cond} {c : Cond} (ha : GoodIn big (c :: a)) (hb : GoodIn big b) : GoodIn big (c :: (a ++ b)) := fun w h => (List.mem_cons.mp h).elim (fun e => ha w (List.mem_cons.mpr (Or.inl e))) (fun h => (List.mem_append.mp h).elim (fun h => ha w (List.mem_cons.mpr (Or.inr h))) (hb w))
theorem goodIn_sub {big ws : List Cond} (hm : ∀ w ∈ ws, w ∈ big) (h : ws.all goodWord = true) : GoodIn big ws := fun w hw => ⟨hm w hw, good_of_word (List.all_eq_true.mp h w hw)⟩

def RX0 : String := "ShuffleAlgebra$Brackets"
def RX1 : String := "ShuffleAlgebra$Factors"
def RX2 : String := "ShuffleAlgebra$Lyndon"
def RX3 : String := "ShuffleAlgebra$Polynomial"
def RX4 : String := "ShuffleAlgebra$Products"
def RX5 : String := "ShuffleAlgebra$Subwords"
def RX6 : String := "ShuffleAlgebra$Sum"
def RX7 : String := "ShuffleAlgebra$Text"
def RX8 : String := "ShuffleAlgebra$Words"
def RX9 : String := "ShuffleAlgebra"
def RX10 : String := "ShuffleAlgebraModel"
def RJ5 : String := "java/lang/AbstractStringBuilder"
def RJx8e188 : String := "java/lang/Cloneable"
def RJ6 : String := "java/lang/Integer"
def RJ9 : String := "java/lang/Math"
def RJ0 : String := "java/lang/String"
def RJ4 : String := "java/lang/StringBuilder"
def RJ1 : String := "java/lang/StringLatin1"
def RJ2 : String := "java/lang/StringUTF16"
def RJ10 : String := "java/lang/System"
def RJ7 : String := "java/util/Arrays"
def RJ8 : String := "jdk/internal/util/ArraysSupport"
def RJ3 : String := "jdk/internal/util/Preconditions"
def TJ0 : u_T := fun k => match k with
  | 0 => ("java/lang/String", "value", "[B", true)
  | 1 => ("java/lang/String", "coder", "B", true)
  | 2 => ("java/lang/String", "hash", "I", false)
  | _ => ("java/lang/String", "hashIsZero", "Z", false)
def tyJ0 : Nat → FieldType := fun k => match k with
  | 0 => .array .byte
  | 1 => .byte
  | 2 => .int
  | _ => .boolean
theorem nmJ0 : ∀ a, a < 4 → ∀ b, b < 4 → a ≠ b → (TJ0 a).2.1 ≠ (TJ0 b).2.1 := by decide +kernel
theorem tyJ0_ok : ∀ k, k < 4 → parseFieldDescriptor (TJ0 k).2.2.1 = some (tyJ0 k) := by decide +kernel
theorem inJ0 : GoodIn lw_tbl (u_ws RJ0 TJ0 4) := goodIn_r (big := lw_tbl) (u_ws RJ0 TJ0 4) [732, 734, 736, 738] (by decide +kernel) (by decide +kernel)
def TJ4 : u_T := fun k => match k with
  | 0 => ("java/lang/AbstractStringBuilder", "value", "[B", false)
  | 1 => ("java/lang/AbstractStringBuilder", "coder", "B", false)
  | 2 => ("java/lang/AbstractStringBuilder", "maybeLatin1", "Z", false)
  | _ => ("java/lang/AbstractStringBuilder", "count", "I", false)
def tyJ4 : Nat → FieldType := fun k => match k with
  | 0 => .array .byte
  | 1 => .byte
  | 2 => .boolean
  | _ => .int
theorem nmJ4 : ∀ a, a < 4 → ∀ b, b < 4 → a ≠ b → (TJ4 a).2.1 ≠ (TJ4 b).2.1 := by decide +kernel
theorem tyJ4_ok : ∀ k, k < 4 → parseFieldDescriptor (TJ4 k).2.2.1 = some (tyJ4 k) := by decide +kernel
theorem inJ4 : GoodIn lw_tbl (u_ws RJ4 TJ4 4) := goodIn_r (big := lw_tbl) (u_ws RJ4 TJ4 4) [93, 95, 97, 99] (by decide +kernel) (by decide +kernel)
def TX1 : u_T := fun k => match k with
  | 0 => ("ShuffleAlgebra$Factors", "letters", "[I", true)
  | 1 => ("ShuffleAlgebra$Factors", "starts", "[I", true)
  | 2 => ("ShuffleAlgebra$Factors", "used", "[I", true)
  | 3 => ("ShuffleAlgebra$Factors", "repeated", "[Z", true)
  | _ => ("ShuffleAlgebra$Factors", "size", "I", false)
def tyX1 : Nat → FieldType := fun k => match k with
  | 0 => .array .int
  | 1 => .array .int
  | 2 => .array .int
  | 3 => .array .boolean
  | _ => .int
theorem nmX1 : ∀ a, a < 5 → ∀ b, b < 5 → a ≠ b → (TX1 a).2.1 ≠ (TX1 b).2.1 := by decide +kernel
theorem tyX1_ok : ∀ k, k < 5 → parseFieldDescriptor (TX1 k).2.2.1 = some (tyX1 k) := by decide +kernel
theorem inX1 : GoodIn lw_tbl (u_ws RX1 TX1 5) := goodIn_r (big := lw_tbl) (u_ws RX1 TX1 5) [132, 134, 136, 138, 140] (by decide +kernel) (by decide +kernel)
def TX3 : u_T := fun k => match k with
  | 0 => ("ShuffleAlgebra$Polynomial", "codes", "[I", true)
  | 1 => ("ShuffleAlgebra$Polynomial", "numbers", "[I", true)
  | _ => ("ShuffleAlgebra$Polynomial", "size", "I", false)
def tyX3 : Nat → FieldType := fun k => match k with
  | 0 => .array .int
  | 1 => .array .int
  | _ => .int
theorem nmX3 : ∀ a, a < 3 → ∀ b, b < 3 → a ≠ b → (TX3 a).2.1 ≠ (TX3 b).2.1 := by decide +kernel
theorem tyX3_ok : ∀ k, k < 3 → parseFieldDescriptor (TX3 k).2.2.1 = some (tyX3 k) := by decide +kernel
theorem inX3 : GoodIn lw_tbl (u_ws RX3 TX3 3) := goodIn_r (big := lw_tbl) (u_ws RX3 TX3 3) [152, 154, 156] (by decide +kernel) (by decide +kernel)
def TX6 : u_T := fun k => match k with
  | 0 => ("ShuffleAlgebra$Sum", "amounts", "[J", true)
  | 1 => ("ShuffleAlgebra$Sum", "lowest", "I", false)
  | _ => ("ShuffleAlgebra$Sum", "highest", "I", false)
def tyX6 : Nat → FieldType := fun k => match k with
  | 0 => .array .long
  | 1 => .int
  | _ => .int
theorem nmX6 : ∀ a, a < 3 → ∀ b, b < 3 → a ≠ b → (TX6 a).2.1 ≠ (TX6 b).2.1 := by decide +kernel
theorem tyX6_ok : ∀ k, k < 3 → parseFieldDescriptor (TX6 k).2.2.1 = some (tyX6 k) := by decide +kernel
theorem inX6 : GoodIn lw_tbl (u_ws RX6 TX6 3) := goodIn_r (big := lw_tbl) (u_ws RX6 TX6 3) [113, 115, 117] (by decide +kernel) (by decide +kernel)
def TX9 : u_T := fun k => match k with
  | 0 => ("ShuffleAlgebra", "words", "[I", true)
  | 1 => ("ShuffleAlgebra", "savedWords", "[I", true)
  | 2 => ("ShuffleAlgebra", "registers", "[LShuffleAlgebra$Polynomial;", true)
  | 3 => ("ShuffleAlgebra", "savedRegisters", "[LShuffleAlgebra$Polynomial;", true)
  | 4 => ("ShuffleAlgebra", "saved", "Z", false)
  | 5 => ("ShuffleAlgebra", "input", "Ljava/lang/StringBuilder;", true)
  | 6 => ("ShuffleAlgebra", "output", "Ljava/lang/StringBuilder;", true)
  | 7 => ("ShuffleAlgebra", "sum", "LShuffleAlgebra$Sum;", true)
  | 8 => ("ShuffleAlgebra", "factors", "LShuffleAlgebra$Factors;", true)
  | _ => ("ShuffleAlgebra", "letters", "[I", true)
def tyX9 : Nat → FieldType := fun k => match k with
  | 0 => .array .int
  | 1 => .array .int
  | 2 => .array (.object "ShuffleAlgebra$Polynomial")
  | 3 => .array (.object "ShuffleAlgebra$Polynomial")
  | 4 => .boolean
  | 5 => .object "java/lang/StringBuilder"
  | 6 => .object "java/lang/StringBuilder"
  | 7 => .object "ShuffleAlgebra$Sum"
  | 8 => .object "ShuffleAlgebra$Factors"
  | _ => .array .int
theorem nmX9 : ∀ a, a < 10 → ∀ b, b < 10 → a ≠ b → (TX9 a).2.1 ≠ (TX9 b).2.1 := by decide +kernel
theorem tyX9_ok : ∀ k, k < 10 → parseFieldDescriptor (TX9 k).2.2.1 = some (tyX9 k) := by decide +kernel
theorem inX9 : GoodIn lw_tbl (u_ws RX9 TX9 10) := goodIn_r (big := lw_tbl) (u_ws RX9 TX9 10) [169, 171, 173, 175, 177, 179, 181, 183, 185, 187] (by decide +kernel) (by decide +kernel)
def TX10 : u_T := fun k => match k with
  | 0 => ("ShuffleAlgebraModel", "power", "[I", true)
  | 1 => ("ShuffleAlgebraModel", "lengths", "[I", true)
  | 2 => ("ShuffleAlgebraModel", "letters", "[[I", true)
  | 3 => ("ShuffleAlgebraModel", "counts", "[I", true)
  | 4 => ("ShuffleAlgebraModel", "words", "[[I", true)
  | 5 => ("ShuffleAlgebraModel", "coefficients", "[[J", true)
  | 6 => ("ShuffleAlgebraModel", "row", "[I", true)
  | 7 => ("ShuffleAlgebraModel", "other", "[I", true)
  | 8 => ("ShuffleAlgebraModel", "made", "[I", true)
  | 9 => ("ShuffleAlgebraModel", "lyndon", "[J", true)
  | 10 => ("ShuffleAlgebraModel", "sum", "[J", true)
  | 11 => ("ShuffleAlgebraModel", "madeLength", "I", false)
  | 12 => ("ShuffleAlgebraModel", "list", "[I", true)
  | 13 => ("ShuffleAlgebraModel", "nextList", "[I", true)
  | 14 => ("ShuffleAlgebraModel", "times", "[J", true)
  | 15 => ("ShuffleAlgebraModel", "nextTimes", "[J", true)
  | 16 => ("ShuffleAlgebraModel", "listSize", "I", false)
  | 17 => ("ShuffleAlgebraModel", "nextSize", "I", false)
  | 18 => ("ShuffleAlgebraModel", "whole", "[I", true)
  | 19 => ("ShuffleAlgebraModel", "input", "[I", true)
  | 20 => ("ShuffleAlgebraModel", "inputLength", "I", false)
  | 21 => ("ShuffleAlgebraModel", "at", "I", false)
  | 22 => ("ShuffleAlgebraModel", "output", "[I", true)
  | 23 => ("ShuffleAlgebraModel", "outputLength", "I", false)
  | 24 => ("ShuffleAlgebraModel", "isSaved", "Z", false)
  | 25 => ("ShuffleAlgebraModel", "savedLengths", "[I", true)
  | 26 => ("ShuffleAlgebraModel", "savedCounts", "[I", true)
  | 27 => ("ShuffleAlgebraModel", "savedLetters", "[[I", true)
  | 28 => ("ShuffleAlgebraModel", "savedWords", "[[I", true)
  | _ => ("ShuffleAlgebraModel", "savedCoefficients", "[[J", true)
def tyX10 : Nat → FieldType := fun k => match k with
  | 0 => .array .int
  | 1 => .array .int
  | 2 => .array (.array .int)
  | 3 => .array .int
  | 4 => .array (.array .int)
  | 5 => .array (.array .long)
  | 6 => .array .int
  | 7 => .array .int
  | 8 => .array .int
  | 9 => .array .long
  | 10 => .array .long
  | 11 => .int
  | 12 => .array .int
  | 13 => .array .int
  | 14 => .array .long
  | 15 => .array .long
  | 16 => .int
  | 17 => .int
  | 18 => .array .int
  | 19 => .array .int
  | 20 => .int
  | 21 => .int
  | 22 => .array .int
  | 23 => .int
  | 24 => .boolean
  | 25 => .array .int
  | 26 => .array .int
  | 27 => .array (.array .int)
  | 28 => .array (.array .int)
  | _ => .array (.array .long)
theorem nmX10 : ∀ a, a < 30 → ∀ b, b < 30 → a ≠ b → (TX10 a).2.1 ≠ (TX10 b).2.1 := by decide +kernel
theorem tyX10_ok : ∀ k, k < 30 → parseFieldDescriptor (TX10 k).2.2.1 = some (tyX10 k) := by decide +kernel
theorem inX10 : GoodIn lw_tbl (u_ws RX10 TX10 30) := goodIn_r (big := lw_tbl) (u_ws RX10 TX10 30) [952, 954, 956, 958, 960, 962, 964, 966, 968, 970, 972, 974, 976, 978, 980, 982, 984, 986, 988, 990, 992, 994, 996, 998, 1000, 1002, 1004, 1006, 1008, 1010] (by decide +kernel) (by decide +kernel)
abbrev vwCl : List vw_C := [(RJ0, TJ0, 4), (RJ4, TJ4, 4), (RX1, TX1, 5), (RX3, TX3, 3), (RX6, TX6, 3), (RX9, TX9, 10), (RX10, TX10, 30)]
abbrev cX0_addBracket : ByteArray := prog_2_method_2_code
def yX0_addBracket : MethodName := ⟨RX0, "addBracket", "(LShuffleAlgebra$Sum;[IIZJ)V"⟩
abbrev cX0_appendSwapped : ByteArray := prog_2_method_3_code
def yX0_appendSwapped : MethodName := ⟨RX0, "appendSwapped", "(I[IIIZI)I"⟩
abbrev cX0_standardGap : ByteArray := prog_2_method_4_code
def yX0_standardGap : MethodName := ⟨RX0, "standardGap", "([III)I"⟩
abbrev cX1_init : ByteArray := prog_3_method_1_code
def yX1_init : MethodName := ⟨RX1, "<init>", "()V"⟩
abbrev cX1_read : ByteArray := prog_3_method_2_code
def yX1_read : MethodName := ⟨RX1, "read", "(I)V"⟩
abbrev cX1_size : ByteArray := prog_3_method_3_code
def yX1_size : MethodName := ⟨RX1, "size", "()I"⟩
abbrev cX1_startOf : ByteArray := prog_3_method_4_code
def yX1_startOf : MethodName := ⟨RX1, "startOf", "(I)I"⟩
abbrev cX1_sizeOf : ByteArray := prog_3_method_5_code
def yX1_sizeOf : MethodName := ⟨RX1, "sizeOf", "(I)I"⟩
abbrev cX1_isSame : ByteArray := prog_3_method_6_code
def yX1_isSame : MethodName := ⟨RX1, "isSame", "(II)Z"⟩
abbrev cX1_letterOf : ByteArray := prog_3_method_7_code
def yX1_letterOf : MethodName := ⟨RX1, "letterOf", "(II)I"⟩
abbrev cX1_canTake : ByteArray := prog_3_method_8_code
def yX1_canTake : MethodName := ⟨RX1, "canTake", "(I)Z"⟩
abbrev cX1_nextLetter : ByteArray := prog_3_method_9_code
def yX1_nextLetter : MethodName := ⟨RX1, "nextLetter", "(I)I"⟩
abbrev cX1_take : ByteArray := prog_3_method_10_code
def yX1_take : MethodName := ⟨RX1, "take", "(I)V"⟩
abbrev cX1_giveBack : ByteArray := prog_3_method_11_code
def yX1_giveBack : MethodName := ⟨RX1, "giveBack", "(I)V"⟩
abbrev cX2_countOf : ByteArray := prog_4_method_2_code
def yX2_countOf : MethodName := ⟨RX2, "countOf", "(I)I"⟩
abbrev cX2_prefixLength : ByteArray := prog_4_method_3_code
def yX2_prefixLength : MethodName := ⟨RX2, "prefixLength", "([III)I"⟩
abbrev cX2_letterOf : ByteArray := prog_4_method_4_code
def yX2_letterOf : MethodName := ⟨RX2, "letterOf", "([II)I"⟩
abbrev cX2_isWhole : ByteArray := prog_4_method_5_code
def yX2_isWhole : MethodName := ⟨RX2, "isWhole", "([III)Z"⟩
abbrev cX2_codeAfter : ByteArray := prog_4_method_6_code
def yX2_codeAfter : MethodName := ⟨RX2, "codeAfter", "([III)I"⟩
abbrev cX2_goOnWithPeriod : ByteArray := prog_4_method_7_code
def yX2_goOnWithPeriod : MethodName := ⟨RX2, "goOnWithPeriod", "([III)V"⟩
abbrev cX3_init : ByteArray := prog_5_method_1_code
def yX3_init : MethodName := ⟨RX3, "<init>", "()V"⟩
abbrev cX3_size : ByteArray := prog_5_method_2_code
def yX3_size : MethodName := ⟨RX3, "size", "()I"⟩
abbrev cX3_hasTerm : ByteArray := prog_5_method_3_code
def yX3_hasTerm : MethodName := ⟨RX3, "hasTerm", "(I)Z"⟩
abbrev cX3_codeAt : ByteArray := prog_5_method_4_code
def yX3_codeAt : MethodName := ⟨RX3, "codeAt", "(I)I"⟩
abbrev cX3_numberAt : ByteArray := prog_5_method_5_code
def yX3_numberAt : MethodName := ⟨RX3, "numberAt", "(I)J"⟩
abbrev cX3_numberOf : ByteArray := prog_5_method_6_code
def yX3_numberOf : MethodName := ⟨RX3, "numberOf", "(I)J"⟩
abbrev cX3_longestWord : ByteArray := prog_5_method_7_code
def yX3_longestWord : MethodName := ⟨RX3, "longestWord", "()I"⟩
abbrev cX3_clear : ByteArray := prog_5_method_8_code
def yX3_clear : MethodName := ⟨RX3, "clear", "()V"⟩
abbrev cX3_append : ByteArray := prog_5_method_9_code
def yX3_append : MethodName := ⟨RX3, "append", "(IJ)V"⟩
abbrev cX3_copyFrom : ByteArray := prog_5_method_10_code
def yX3_copyFrom : MethodName := ⟨RX3, "copyFrom", "(LShuffleAlgebra$Polynomial;)V"⟩
abbrev cX4_addProduct : ByteArray := prog_6_method_2_code
def yX4_addProduct : MethodName := ⟨RX4, "addProduct", "(LShuffleAlgebra$Sum;ILShuffleAlgebra$Polynomial;LShuffleAlgebra$Polynomial;)V"⟩
abbrev cX4_addWords : ByteArray := prog_6_method_3_code
def yX4_addWords : MethodName := ⟨RX4, "addWords", "(LShuffleAlgebra$Sum;IIIJ)V"⟩
abbrev cX4_addMixtures : ByteArray := prog_6_method_4_code
def yX4_addMixtures : MethodName := ⟨RX4, "addMixtures", "(LShuffleAlgebra$Sum;ZIIIJ)V"⟩
abbrev cX4_addShuffles : ByteArray := prog_6_method_5_code
def yX4_addShuffles : MethodName := ⟨RX4, "addShuffles", "(LShuffleAlgebra$Sum;LShuffleAlgebra$Factors;IJ)V"⟩
abbrev cX5_occurrences : ByteArray := prog_7_method_2_code
def yX5_occurrences : MethodName := ⟨RX5, "occurrences", "(II)I"⟩
abbrev cX5_covers : ByteArray := prog_7_method_3_code
def yX5_covers : MethodName := ⟨RX5, "covers", "(IIIZ)I"⟩
abbrev cX6_init : ByteArray := prog_8_method_1_code
def yX6_init : MethodName := ⟨RX6, "<init>", "()V"⟩
abbrev cX6_put : ByteArray := prog_8_method_2_code
def yX6_put : MethodName := ⟨RX6, "put", "(IJ)V"⟩
abbrev cX6_putAll : ByteArray := prog_8_method_3_code
def yX6_putAll : MethodName := ⟨RX6, "putAll", "(LShuffleAlgebra$Polynomial;I)V"⟩
abbrev cX6_amountOf : ByteArray := prog_8_method_4_code
def yX6_amountOf : MethodName := ⟨RX6, "amountOf", "(I)J"⟩
abbrev cX6_highestCode : ByteArray := prog_8_method_5_code
def yX6_highestCode : MethodName := ⟨RX6, "highestCode", "()I"⟩
abbrev cX6_isZero : ByteArray := prog_8_method_6_code
def yX6_isZero : MethodName := ⟨RX6, "isZero", "()Z"⟩
abbrev cX6_clear : ByteArray := prog_8_method_7_code
def yX6_clear : MethodName := ⟨RX6, "clear", "()V"⟩
abbrev cX6_moveTo : ByteArray := prog_8_method_8_code
def yX6_moveTo : MethodName := ⟨RX6, "moveTo", "(LShuffleAlgebra$Polynomial;)I"⟩
abbrev cX6_countTerms : ByteArray := prog_8_method_9_code
def yX6_countTerms : MethodName := ⟨RX6, "countTerms", "()I"⟩
abbrev cX7_errorPosition : ByteArray := prog_9_method_2_code
def yX7_errorPosition : MethodName := ⟨RX7, "errorPosition", "(Ljava/lang/String;)I"⟩
abbrev cX7_addTerms : ByteArray := prog_9_method_3_code
def yX7_addTerms : MethodName := ⟨RX7, "addTerms", "(LShuffleAlgebra$Sum;Ljava/lang/String;)V"⟩
abbrev cX7_addSignedTerm : ByteArray := prog_9_method_4_code
def yX7_addSignedTerm : MethodName := ⟨RX7, "addSignedTerm", "(LShuffleAlgebra$Sum;Ljava/lang/String;II)V"⟩
abbrev cX7_appendTerm : ByteArray := prog_9_method_5_code
def yX7_appendTerm : MethodName := ⟨RX7, "appendTerm", "(Ljava/lang/StringBuilder;IJ)V"⟩
abbrev cX7_isLetter : ByteArray := prog_9_method_6_code
def yX7_isLetter : MethodName := ⟨RX7, "isLetter", "(C)Z"⟩
abbrev cX7_isDigit : ByteArray := prog_9_method_7_code
def yX7_isDigit : MethodName := ⟨RX7, "isDigit", "(C)Z"⟩
abbrev cX7_isSign : ByteArray := prog_9_method_8_code
def yX7_isSign : MethodName := ⟨RX7, "isSign", "(C)Z"⟩
abbrev cX8_hasLetter : ByteArray := prog_10_method_2_code
def yX8_hasLetter : MethodName := ⟨RX8, "hasLetter", "(I)Z"⟩
abbrev cX8_appended : ByteArray := prog_10_method_3_code
def yX8_appended : MethodName := ⟨RX8, "appended", "(II)I"⟩
abbrev cX8_lastLetter : ByteArray := prog_10_method_4_code
def yX8_lastLetter : MethodName := ⟨RX8, "lastLetter", "(I)I"⟩
abbrev cX8_withoutLast : ByteArray := prog_10_method_5_code
def yX8_withoutLast : MethodName := ⟨RX8, "withoutLast", "(I)I"⟩
abbrev cX8_lengthOf : ByteArray := prog_10_method_6_code
def yX8_lengthOf : MethodName := ⟨RX8, "lengthOf", "(I)I"⟩
abbrev cX8_hasEvenLength : ByteArray := prog_10_method_7_code
def yX8_hasEvenLength : MethodName := ⟨RX8, "hasEvenLength", "(I)Z"⟩
abbrev cX8_reversed : ByteArray := prog_10_method_8_code
def yX8_reversed : MethodName := ⟨RX8, "reversed", "(I)I"⟩
abbrev cX8_powerOf : ByteArray := prog_10_method_9_code
def yX8_powerOf : MethodName := ⟨RX8, "powerOf", "(I)I"⟩
abbrev cX8_concatenated : ByteArray := prog_10_method_10_code
def yX8_concatenated : MethodName := ⟨RX8, "concatenated", "(II)I"⟩
abbrev cX8_headOf : ByteArray := prog_10_method_11_code
def yX8_headOf : MethodName := ⟨RX8, "headOf", "(II)I"⟩
abbrev cX8_letterAt : ByteArray := prog_10_method_12_code
def yX8_letterAt : MethodName := ⟨RX8, "letterAt", "(II)I"⟩
abbrev cX8_withoutLetter : ByteArray := prog_10_method_13_code
def yX8_withoutLetter : MethodName := ⟨RX8, "withoutLetter", "(II)I"⟩
abbrev cX8_unpack : ByteArray := prog_10_method_14_code
def yX8_unpack : MethodName := ⟨RX8, "unpack", "(I[I)I"⟩
abbrev cX9_init : ByteArray := prog_1_method_1_code
def yX9_init : MethodName := ⟨RX9, "<init>", "()V"⟩
abbrev cX9_appendLetter : ByteArray := prog_1_method_2_code
def yX9_appendLetter : MethodName := ⟨RX9, "appendLetter", "(II)I"⟩
abbrev cX9_clearWord : ByteArray := prog_1_method_3_code
def yX9_clearWord : MethodName := ⟨RX9, "clearWord", "(I)I"⟩
abbrev cX9_wordLength : ByteArray := prog_1_method_4_code
def yX9_wordLength : MethodName := ⟨RX9, "wordLength", "(I)I"⟩
abbrev cX9_wordLetter : ByteArray := prog_1_method_5_code
def yX9_wordLetter : MethodName := ⟨RX9, "wordLetter", "(II)I"⟩
abbrev cX9_reverseWord : ByteArray := prog_1_method_6_code
def yX9_reverseWord : MethodName := ⟨RX9, "reverseWord", "(II)I"⟩
abbrev cX9_subwordCount : ByteArray := prog_1_method_7_code
def yX9_subwordCount : MethodName := ⟨RX9, "subwordCount", "(II)I"⟩
abbrev cX9_splitCount : ByteArray := prog_1_method_8_code
def yX9_splitCount : MethodName := ⟨RX9, "splitCount", "(III)I"⟩
abbrev cX9_coverCount : ByteArray := prog_1_method_9_code
def yX9_coverCount : MethodName := ⟨RX9, "coverCount", "(III)I"⟩
abbrev cX9_isLyndon : ByteArray := prog_1_method_10_code
def yX9_isLyndon : MethodName := ⟨RX9, "isLyndon", "(I)I"⟩
abbrev cX9_factorCount : ByteArray := prog_1_method_11_code
def yX9_factorCount : MethodName := ⟨RX9, "factorCount", "(I)I"⟩
abbrev cX9_factorStart : ByteArray := prog_1_method_12_code
def yX9_factorStart : MethodName := ⟨RX9, "factorStart", "(II)I"⟩
abbrev cX9_nextLyndon : ByteArray := prog_1_method_13_code
def yX9_nextLyndon : MethodName := ⟨RX9, "nextLyndon", "(II)I"⟩
abbrev cX9_lyndonCount : ByteArray := prog_1_method_14_code
def yX9_lyndonCount : MethodName := ⟨RX9, "lyndonCount", "(I)I"⟩
abbrev cX9_bracket : ByteArray := prog_1_method_15_code
def yX9_bracket : MethodName := ⟨RX9, "bracket", "(II)I"⟩
abbrev cX9_basis : ByteArray := prog_1_method_16_code
def yX9_basis : MethodName := ⟨RX9, "basis", "(II)I"⟩
abbrev cX9_clearPolynomial : ByteArray := prog_1_method_17_code
def yX9_clearPolynomial : MethodName := ⟨RX9, "clearPolynomial", "(I)I"⟩
abbrev cX9_addTerm : ByteArray := prog_1_method_18_code
def yX9_addTerm : MethodName := ⟨RX9, "addTerm", "(III)I"⟩
abbrev cX9_coefficient : ByteArray := prog_1_method_19_code
def yX9_coefficient : MethodName := ⟨RX9, "coefficient", "(II)J"⟩
abbrev cX9_termCount : ByteArray := prog_1_method_20_code
def yX9_termCount : MethodName := ⟨RX9, "termCount", "(I)I"⟩
abbrev cX9_termLength : ByteArray := prog_1_method_21_code
def yX9_termLength : MethodName := ⟨RX9, "termLength", "(II)I"⟩
abbrev cX9_termLetter : ByteArray := prog_1_method_22_code
def yX9_termLetter : MethodName := ⟨RX9, "termLetter", "(III)I"⟩
abbrev cX9_termCoefficient : ByteArray := prog_1_method_23_code
def yX9_termCoefficient : MethodName := ⟨RX9, "termCoefficient", "(II)J"⟩
abbrev cX9_add : ByteArray := prog_1_method_24_code
def yX9_add : MethodName := ⟨RX9, "add", "(III)I"⟩
abbrev cX9_scale : ByteArray := prog_1_method_25_code
def yX9_scale : MethodName := ⟨RX9, "scale", "(III)I"⟩
abbrev cX9_multiply : ByteArray := prog_1_method_26_code
def yX9_multiply : MethodName := ⟨RX9, "multiply", "(IIII)I"⟩
abbrev cX9_antipode : ByteArray := prog_1_method_27_code
def yX9_antipode : MethodName := ⟨RX9, "antipode", "(II)I"⟩
abbrev cX9_residual : ByteArray := prog_1_method_28_code
def yX9_residual : MethodName := ⟨RX9, "residual", "(IIII)I"⟩
abbrev cX9_derive : ByteArray := prog_1_method_29_code
def yX9_derive : MethodName := ⟨RX9, "derive", "(III)I"⟩
abbrev cX9_pair : ByteArray := prog_1_method_30_code
def yX9_pair : MethodName := ⟨RX9, "pair", "(II)J"⟩
abbrev cX9_coordinates : ByteArray := prog_1_method_31_code
def yX9_coordinates : MethodName := ⟨RX9, "coordinates", "(II)I"⟩
abbrev cX9_isLie : ByteArray := prog_1_method_32_code
def yX9_isLie : MethodName := ⟨RX9, "isLie", "(I)I"⟩
abbrev cX9_appendCharacter : ByteArray := prog_1_method_33_code
def yX9_appendCharacter : MethodName := ⟨RX9, "appendCharacter", "(I)I"⟩
abbrev cX9_parsePolynomial : ByteArray := prog_1_method_34_code
def yX9_parsePolynomial : MethodName := ⟨RX9, "parsePolynomial", "(I)I"⟩
abbrev cX9_write : ByteArray := prog_1_method_35_code
def yX9_write : MethodName := ⟨RX9, "write", "(I)I"⟩
abbrev cX9_outputCharacter : ByteArray := prog_1_method_36_code
def yX9_outputCharacter : MethodName := ⟨RX9, "outputCharacter", "(I)I"⟩
abbrev cX9_transform : ByteArray := prog_1_method_37_code
def yX9_transform : MethodName := ⟨RX9, "transform", "(II)I"⟩
abbrev cX9_saveSnapshot : ByteArray := prog_1_method_38_code
def yX9_saveSnapshot : MethodName := ⟨RX9, "saveSnapshot", "()I"⟩
abbrev cX9_restoreSnapshot : ByteArray := prog_1_method_39_code
def yX9_restoreSnapshot : MethodName := ⟨RX9, "restoreSnapshot", "()I"⟩
abbrev cX9_hasWord : ByteArray := prog_1_method_40_code
def yX9_hasWord : MethodName := ⟨RX9, "hasWord", "(I)Z"⟩
abbrev cX9_fits : ByteArray := prog_1_method_41_code
def yX9_fits : MethodName := ⟨RX9, "fits", "(J)Z"⟩
abbrev cX9_registerAt : ByteArray := prog_1_method_42_code
def yX9_registerAt : MethodName := ⟨RX9, "registerAt", "(I)LShuffleAlgebra$Polynomial;"⟩
abbrev cX9_letterOrNone : ByteArray := prog_1_method_43_code
def yX9_letterOrNone : MethodName := ⟨RX9, "letterOrNone", "(II)I"⟩
abbrev cX9_isLyndonCode : ByteArray := prog_1_method_44_code
def yX9_isLyndonCode : MethodName := ⟨RX9, "isLyndonCode", "(I)Z"⟩
abbrev cX9_takeInput : ByteArray := prog_1_method_45_code
def yX9_takeInput : MethodName := ⟨RX9, "takeInput", "()Ljava/lang/String;"⟩
abbrev cX9_isTransformation : ByteArray := prog_1_method_46_code
def yX9_isTransformation : MethodName := ⟨RX9, "isTransformation", "(Ljava/lang/String;)Z"⟩
abbrev cX9_addTransformed : ByteArray := prog_1_method_47_code
def yX9_addTransformed : MethodName := ⟨RX9, "addTransformed", "(Ljava/lang/String;IJ)V"⟩
abbrev cX9_isKept : ByteArray := prog_1_method_48_code
def yX9_isKept : MethodName := ⟨RX9, "isKept", "(Ljava/lang/String;I)Z"⟩
abbrev cX9_copyState : ByteArray := prog_1_method_49_code
def yX9_copyState : MethodName := ⟨RX9, "copyState", "([I[LShuffleAlgebra$Polynomial;[I[LShuffleAlgebra$Polynomial;)I"⟩
abbrev cX10_init : ByteArray := prog_12_method_1_code
def yX10_init : MethodName := ⟨RX10, "<init>", "()V"⟩
abbrev cX10_isBetween : ByteArray := prog_12_method_2_code
def yX10_isBetween : MethodName := ⟨RX10, "isBetween", "(III)Z"⟩
abbrev cX10_isBuffer : ByteArray := prog_12_method_3_code
def yX10_isBuffer : MethodName := ⟨RX10, "isBuffer", "(I)Z"⟩
abbrev cX10_isRegister : ByteArray := prog_12_method_4_code
def yX10_isRegister : MethodName := ⟨RX10, "isRegister", "(I)Z"⟩
abbrev cX10_isLetter : ByteArray := prog_12_method_5_code
def yX10_isLetter : MethodName := ⟨RX10, "isLetter", "(I)Z"⟩
abbrev cX10_offset : ByteArray := prog_12_method_6_code
def yX10_offset : MethodName := ⟨RX10, "offset", "(I)I"⟩
abbrev cX10_lengthOf : ByteArray := prog_12_method_7_code
def yX10_lengthOf : MethodName := ⟨RX10, "lengthOf", "(I)I"⟩
abbrev cX10_decode : ByteArray := prog_12_method_8_code
def yX10_decode : MethodName := ⟨RX10, "decode", "(I[I)I"⟩
abbrev cX10_encode : ByteArray := prog_12_method_9_code
def yX10_encode : MethodName := ⟨RX10, "encode", "([III)I"⟩
abbrev cX10_wordOf : ByteArray := prog_12_method_10_code
def yX10_wordOf : MethodName := ⟨RX10, "wordOf", "(I)I"⟩
abbrev cX10_appendLetter : ByteArray := prog_12_method_11_code
def yX10_appendLetter : MethodName := ⟨RX10, "appendLetter", "(II)I"⟩
abbrev cX10_clearWord : ByteArray := prog_12_method_12_code
def yX10_clearWord : MethodName := ⟨RX10, "clearWord", "(I)I"⟩
abbrev cX10_wordLength : ByteArray := prog_12_method_13_code
def yX10_wordLength : MethodName := ⟨RX10, "wordLength", "(I)I"⟩
abbrev cX10_wordLetter : ByteArray := prog_12_method_14_code
def yX10_wordLetter : MethodName := ⟨RX10, "wordLetter", "(II)I"⟩
abbrev cX10_reverseWord : ByteArray := prog_12_method_15_code
def yX10_reverseWord : MethodName := ⟨RX10, "reverseWord", "(II)I"⟩
abbrev cX10_countCovers : ByteArray := prog_12_method_16_code
def yX10_countCovers : MethodName := ⟨RX10, "countCovers", "(IIIIIIZ)I"⟩
abbrev cX10_countSubwords : ByteArray := prog_12_method_17_code
def yX10_countSubwords : MethodName := ⟨RX10, "countSubwords", "(IIII)I"⟩
abbrev cX10_subwordCount : ByteArray := prog_12_method_18_code
def yX10_subwordCount : MethodName := ⟨RX10, "subwordCount", "(II)I"⟩
abbrev cX10_splitCount : ByteArray := prog_12_method_19_code
def yX10_splitCount : MethodName := ⟨RX10, "splitCount", "(III)I"⟩
abbrev cX10_coverCount : ByteArray := prog_12_method_20_code
def yX10_coverCount : MethodName := ⟨RX10, "coverCount", "(III)I"⟩
abbrev cX10_compare : ByteArray := prog_12_method_21_code
def yX10_compare : MethodName := ⟨RX10, "compare", "([III[III)I"⟩
abbrev cX10_isLyndonRange : ByteArray := prog_12_method_22_code
def yX10_isLyndonRange : MethodName := ⟨RX10, "isLyndonRange", "([III)Z"⟩
abbrev cX10_factorLength : ByteArray := prog_12_method_23_code
def yX10_factorLength : MethodName := ⟨RX10, "factorLength", "([III)I"⟩
abbrev cX10_isLyndon : ByteArray := prog_12_method_24_code
def yX10_isLyndon : MethodName := ⟨RX10, "isLyndon", "(I)I"⟩
abbrev cX10_factorCount : ByteArray := prog_12_method_25_code
def yX10_factorCount : MethodName := ⟨RX10, "factorCount", "(I)I"⟩
abbrev cX10_factorStart : ByteArray := prog_12_method_26_code
def yX10_factorStart : MethodName := ⟨RX10, "factorStart", "(II)I"⟩
abbrev cX10_nextLyndon : ByteArray := prog_12_method_27_code
def yX10_nextLyndon : MethodName := ⟨RX10, "nextLyndon", "(II)I"⟩
abbrev cX10_lyndonCount : ByteArray := prog_12_method_28_code
def yX10_lyndonCount : MethodName := ⟨RX10, "lyndonCount", "(I)I"⟩
abbrev cX10_clearSum : ByteArray := prog_12_method_29_code
def yX10_clearSum : MethodName := ⟨RX10, "clearSum", "()V"⟩
abbrev cX10_store : ByteArray := prog_12_method_30_code
def yX10_store : MethodName := ⟨RX10, "store", "(I)I"⟩
abbrev cX10_load : ByteArray := prog_12_method_31_code
def yX10_load : MethodName := ⟨RX10, "load", "(I)V"⟩
abbrev cX10_addRegister : ByteArray := prog_12_method_32_code
def yX10_addRegister : MethodName := ⟨RX10, "addRegister", "(IJ)V"⟩
abbrev cX10_appendBracket : ByteArray := prog_12_method_33_code
def yX10_appendBracket : MethodName := ⟨RX10, "appendBracket", "([IIIII)V"⟩
abbrev cX10_signOf : ByteArray := prog_12_method_34_code
def yX10_signOf : MethodName := ⟨RX10, "signOf", "(I)I"⟩
abbrev cX10_bracket : ByteArray := prog_12_method_35_code
def yX10_bracket : MethodName := ⟨RX10, "bracket", "(II)I"⟩
abbrev cX10_shuffleInto : ByteArray := prog_12_method_36_code
def yX10_shuffleInto : MethodName := ⟨RX10, "shuffleInto", "(II[IIIIIJ)V"⟩
abbrev cX10_makeBasis : ByteArray := prog_12_method_37_code
def yX10_makeBasis : MethodName := ⟨RX10, "makeBasis", "([II)V"⟩
abbrev cX10_basis : ByteArray := prog_12_method_38_code
def yX10_basis : MethodName := ⟨RX10, "basis", "(II)I"⟩
abbrev cX10_coordinates : ByteArray := prog_12_method_39_code
def yX10_coordinates : MethodName := ⟨RX10, "coordinates", "(II)I"⟩
abbrev cX10_isLie : ByteArray := prog_12_method_40_code
def yX10_isLie : MethodName := ⟨RX10, "isLie", "(I)I"⟩
abbrev cX10_encodeLeft : ByteArray := prog_12_method_41_code
def yX10_encodeLeft : MethodName := ⟨RX10, "encodeLeft", "(II)I"⟩
abbrev cX10_clearPolynomial : ByteArray := prog_12_method_42_code
def yX10_clearPolynomial : MethodName := ⟨RX10, "clearPolynomial", "(I)I"⟩
abbrev cX10_addTerm : ByteArray := prog_12_method_43_code
def yX10_addTerm : MethodName := ⟨RX10, "addTerm", "(III)I"⟩
abbrev cX10_coefficient : ByteArray := prog_12_method_44_code
def yX10_coefficient : MethodName := ⟨RX10, "coefficient", "(II)J"⟩
abbrev cX10_termCount : ByteArray := prog_12_method_45_code
def yX10_termCount : MethodName := ⟨RX10, "termCount", "(I)I"⟩
abbrev cX10_isTerm : ByteArray := prog_12_method_46_code
def yX10_isTerm : MethodName := ⟨RX10, "isTerm", "(II)Z"⟩
abbrev cX10_termLength : ByteArray := prog_12_method_47_code
def yX10_termLength : MethodName := ⟨RX10, "termLength", "(II)I"⟩
abbrev cX10_termLetter : ByteArray := prog_12_method_48_code
def yX10_termLetter : MethodName := ⟨RX10, "termLetter", "(III)I"⟩
abbrev cX10_termCoefficient : ByteArray := prog_12_method_49_code
def yX10_termCoefficient : MethodName := ⟨RX10, "termCoefficient", "(II)J"⟩
abbrev cX10_add : ByteArray := prog_12_method_50_code
def yX10_add : MethodName := ⟨RX10, "add", "(III)I"⟩
abbrev cX10_scale : ByteArray := prog_12_method_51_code
def yX10_scale : MethodName := ⟨RX10, "scale", "(III)I"⟩
abbrev cX10_merge : ByteArray := prog_12_method_52_code
def yX10_merge : MethodName := ⟨RX10, "merge", "(IIIIIIZJ)V"⟩
abbrev cX10_longest : ByteArray := prog_12_method_53_code
def yX10_longest : MethodName := ⟨RX10, "longest", "(I)I"⟩
abbrev cX10_multiply : ByteArray := prog_12_method_54_code
def yX10_multiply : MethodName := ⟨RX10, "multiply", "(IIII)I"⟩
abbrev cX10_reversed : ByteArray := prog_12_method_55_code
def yX10_reversed : MethodName := ⟨RX10, "reversed", "(I)I"⟩
abbrev cX10_antipode : ByteArray := prog_12_method_56_code
def yX10_antipode : MethodName := ⟨RX10, "antipode", "(II)I"⟩
abbrev cX10_residual : ByteArray := prog_12_method_57_code
def yX10_residual : MethodName := ⟨RX10, "residual", "(IIII)I"⟩
abbrev cX10_derive : ByteArray := prog_12_method_58_code
def yX10_derive : MethodName := ⟨RX10, "derive", "(III)I"⟩
abbrev cX10_pair : ByteArray := prog_12_method_59_code
def yX10_pair : MethodName := ⟨RX10, "pair", "(II)J"⟩
abbrev cX10_appendCharacter : ByteArray := prog_12_method_60_code
def yX10_appendCharacter : MethodName := ⟨RX10, "appendCharacter", "(I)I"⟩
abbrev cX10_current : ByteArray := prog_12_method_61_code
def yX10_current : MethodName := ⟨RX10, "current", "()I"⟩
abbrev cX10_isDigit : ByteArray := prog_12_method_62_code
def yX10_isDigit : MethodName := ⟨RX10, "isDigit", "()Z"⟩
abbrev cX10_readTerm : ByteArray := prog_12_method_63_code
def yX10_readTerm : MethodName := ⟨RX10, "readTerm", "(Z)Z"⟩
abbrev cX10_readPolynomial : ByteArray := prog_12_method_64_code
def yX10_readPolynomial : MethodName := ⟨RX10, "readPolynomial", "()Z"⟩
abbrev cX10_parsePolynomial : ByteArray := prog_12_method_65_code
def yX10_parsePolynomial : MethodName := ⟨RX10, "parsePolynomial", "(I)I"⟩
abbrev cX10_write : ByteArray := prog_12_method_66_code
def yX10_write : MethodName := ⟨RX10, "write", "(IZ)V"⟩
abbrev cX10_writeNumber : ByteArray := prog_12_method_67_code
def yX10_writeNumber : MethodName := ⟨RX10, "writeNumber", "(J)V"⟩
abbrev cX10_write_ : ByteArray := prog_12_method_68_code
def yX10_write_ : MethodName := ⟨RX10, "write", "(I)I"⟩
abbrev cX10_outputCharacter : ByteArray := prog_12_method_69_code
def yX10_outputCharacter : MethodName := ⟨RX10, "outputCharacter", "(I)I"⟩
abbrev cX10_isInput : ByteArray := prog_12_method_70_code
def yX10_isInput : MethodName := ⟨RX10, "isInput", "(Ljava/lang/String;)Z"⟩
abbrev cX10_transformation : ByteArray := prog_12_method_71_code
def yX10_transformation : MethodName := ⟨RX10, "transformation", "()I"⟩
abbrev cX10_transform : ByteArray := prog_12_method_72_code
def yX10_transform : MethodName := ⟨RX10, "transform", "(II)I"⟩
abbrev cX10_copyRow : ByteArray := prog_12_method_73_code
def yX10_copyRow : MethodName := ⟨RX10, "copyRow", "([I[I)V"⟩
abbrev cX10_totalTerms : ByteArray := prog_12_method_74_code
def yX10_totalTerms : MethodName := ⟨RX10, "totalTerms", "()I"⟩
abbrev cX10_saveSnapshot : ByteArray := prog_12_method_75_code
def yX10_saveSnapshot : MethodName := ⟨RX10, "saveSnapshot", "()I"⟩
abbrev cX10_restoreSnapshot : ByteArray := prog_12_method_76_code
def yX10_restoreSnapshot : MethodName := ⟨RX10, "restoreSnapshot", "()I"⟩
abbrev cJ5_init_d00df : ByteArray := prog_13_method_2_code
def yJ5_init_d00df : MethodName := ⟨RJ5, "<init>", "(I)V"⟩
abbrev cJ5_length_8abf5 : ByteArray := prog_13_method_6_code
def yJ5_length_8abf5 : MethodName := ⟨RJ5, "length", "()I"⟩
abbrev cJ5_ensureCapacityInternal_d00df : ByteArray := prog_13_method_9_code
def yJ5_ensureCapacityInternal_d00df : MethodName := ⟨RJ5, "ensureCapacityInternal", "(I)V"⟩
abbrev cJ5_newCapacity_0f7a4 : ByteArray := prog_13_method_10_code
def yJ5_newCapacity_0f7a4 : MethodName := ⟨RJ5, "newCapacity", "(I)I"⟩
abbrev cJ5_inflate_da8c8 : ByteArray := prog_13_method_11_code
def yJ5_inflate_da8c8 : MethodName := ⟨RJ5, "inflate", "()V"⟩
abbrev cJ5_setLength_d00df : ByteArray := prog_13_method_13_code
def yJ5_setLength_d00df : MethodName := ⟨RJ5, "setLength", "(I)V"⟩
abbrev cJ5_charAt_5068e : ByteArray := prog_13_method_14_code
def yJ5_charAt_5068e : MethodName := ⟨RJ5, "charAt", "(I)C"⟩
abbrev cJ5_append_3fe6f : ByteArray := prog_13_method_31_code
def yJ5_append_3fe6f : MethodName := ⟨RJ5, "append", "(C)Ljava/lang/AbstractStringBuilder;"⟩
abbrev cJ5_append_c97b9 : ByteArray := prog_13_method_32_code
def yJ5_append_c97b9 : MethodName := ⟨RJ5, "append", "(I)Ljava/lang/AbstractStringBuilder;"⟩
abbrev cJ5_getValue_6d5f1 : ByteArray := prog_13_method_64_code
def yJ5_getValue_6d5f1 : MethodName := ⟨RJ5, "getValue", "()[B"⟩
abbrev cJ5_isLatin1_aae02 : ByteArray := prog_13_method_68_code
def yJ5_isLatin1_aae02 : MethodName := ⟨RJ5, "isLatin1", "()Z"⟩
abbrev cJ6_getChars_ba4f3 : ByteArray := prog_15_method_12_code
def yJ6_getChars_ba4f3 : MethodName := ⟨RJ6, "getChars", "(II[B)I"⟩
abbrev cJ6_stringSize_0f7a4 : ByteArray := prog_15_method_13_code
def yJ6_stringSize_0f7a4 : MethodName := ⟨RJ6, "stringSize", "(I)I"⟩
abbrev cJ6_bitCount_0f7a4 : ByteArray := prog_15_method_49_code
def yJ6_bitCount_0f7a4 : MethodName := ⟨RJ6, "bitCount", "(I)I"⟩
abbrev cJ9_abs_067f4 : ByteArray := prog_16_method_61_code
def yJ9_abs_067f4 : MethodName := ⟨RJ9, "abs", "(J)J"⟩
abbrev cJ9_max_7cf53 : ByteArray := prog_16_method_65_code
def yJ9_max_7cf53 : MethodName := ⟨RJ9, "max", "(II)I"⟩
abbrev cJ9_min_7cf53 : ByteArray := prog_16_method_69_code
def yJ9_min_7cf53 : MethodName := ⟨RJ9, "min", "(II)I"⟩
abbrev cJ0_init_81219 : ByteArray := prog_17_method_53_code
def yJ0_init_81219 : MethodName := ⟨RJ0, "<init>", "(Ljava/lang/StringBuilder;)V"⟩
abbrev cJ0_length_8abf5 : ByteArray := prog_17_method_54_code
def yJ0_length_8abf5 : MethodName := ⟨RJ0, "length", "()I"⟩
abbrev cJ0_charAt_5068e : ByteArray := prog_17_method_56_code
def yJ0_charAt_5068e : MethodName := ⟨RJ0, "charAt", "(I)C"⟩
abbrev cJ0_equals_9ea2d : ByteArray := prog_17_method_66_code
def yJ0_equals_9ea2d : MethodName := ⟨RJ0, "equals", "(Ljava/lang/Object;)Z"⟩
abbrev cJ0_init_db425 : ByteArray := prog_17_method_150_code
def yJ0_init_db425 : MethodName := ⟨RJ0, "<init>", "(Ljava/lang/AbstractStringBuilder;Ljava/lang/Void;)V"⟩
abbrev cJ0_coder_7d493 : ByteArray := prog_17_method_152_code
def yJ0_coder_7d493 : MethodName := ⟨RJ0, "coder", "()B"⟩
abbrev cJ0_isLatin1_aae02 : ByteArray := prog_17_method_154_code
def yJ0_isLatin1_aae02 : MethodName := ⟨RJ0, "isLatin1", "()Z"⟩
abbrev cJ0_checkIndex_df160 : ByteArray := prog_17_method_155_code
def yJ0_checkIndex_df160 : MethodName := ⟨RJ0, "checkIndex", "(II)V"⟩
abbrev cJ0_checkBoundsOffCount_cabcc : ByteArray := prog_17_method_157_code
def yJ0_checkBoundsOffCount_cabcc : MethodName := ⟨RJ0, "checkBoundsOffCount", "(III)I"⟩
abbrev cJ0_checkBoundsBeginEnd_23922 : ByteArray := prog_17_method_158_code
def yJ0_checkBoundsBeginEnd_23922 : MethodName := ⟨RJ0, "checkBoundsBeginEnd", "(III)V"⟩
abbrev cJ4_init_da8c8 : ByteArray := prog_18_method_1_code
def yJ4_init_da8c8 : MethodName := ⟨RJ4, "<init>", "()V"⟩
abbrev cJ4_append_cf468 : ByteArray := prog_18_method_14_code
def yJ4_append_cf468 : MethodName := ⟨RJ4, "append", "(C)Ljava/lang/StringBuilder;"⟩
abbrev cJ4_append_bf812 : ByteArray := prog_18_method_15_code
def yJ4_append_bf812 : MethodName := ⟨RJ4, "append", "(I)Ljava/lang/StringBuilder;"⟩
abbrev cJ4_toString_0e30d : ByteArray := prog_18_method_42_code
def yJ4_toString_0e30d : MethodName := ⟨RJ4, "toString", "()Ljava/lang/String;"⟩
abbrev cJ4_charAt_5068e : ByteArray := prog_18_method_88_code
def yJ4_charAt_5068e : MethodName := ⟨RJ4, "charAt", "(I)C"⟩
abbrev cJ4_setLength_d00df : ByteArray := prog_18_method_89_code
def yJ4_setLength_d00df : MethodName := ⟨RJ4, "setLength", "(I)V"⟩
abbrev cJ4_length_8abf5 : ByteArray := prog_18_method_93_code
def yJ4_length_8abf5 : MethodName := ⟨RJ4, "length", "()I"⟩
abbrev cJ1_charAt_3b067 : ByteArray := prog_19_method_2_code
def yJ1_charAt_3b067 : MethodName := ⟨RJ1, "charAt", "([BI)C"⟩
abbrev cJ1_canEncode_fc78d : ByteArray := prog_19_method_3_code
def yJ1_canEncode_fc78d : MethodName := ⟨RJ1, "canEncode", "(C)Z"⟩
abbrev cJ1_equals_b5fdf : ByteArray := prog_19_method_13_code
def yJ1_equals_b5fdf : MethodName := ⟨RJ1, "equals", "([B[B)Z"⟩
abbrev cJ1_fillNull_b72d1 : ByteArray := prog_19_method_48_code
def yJ1_fillNull_b72d1 : MethodName := ⟨RJ1, "fillNull", "([BII)V"⟩
abbrev cJ1_inflate_0e8fd : ByteArray := prog_19_method_50_code
def yJ1_inflate_0e8fd : MethodName := ⟨RJ1, "inflate", "([BI[BII)V"⟩
abbrev cJ2_newBytesFor_77867 : ByteArray := prog_20_method_2_code
def yJ2_newBytesFor_77867 : MethodName := ⟨RJ2, "newBytesFor", "(I)[B"⟩
abbrev cJ2_newBytesLength_0f7a4 : ByteArray := prog_20_method_3_code
def yJ2_newBytesLength_0f7a4 : MethodName := ⟨RJ2, "newBytesLength", "(I)I"⟩
abbrev cJ2_putChar_b72d1 : ByteArray := prog_20_method_4_code
def yJ2_putChar_b72d1 : MethodName := ⟨RJ2, "putChar", "([BII)V"⟩
abbrev cJ2_getChar_3b067 : ByteArray := prog_20_method_5_code
def yJ2_getChar_3b067 : MethodName := ⟨RJ2, "getChar", "([BI)C"⟩
abbrev cJ2_length_9d52b : ByteArray := prog_20_method_6_code
def yJ2_length_9d52b : MethodName := ⟨RJ2, "length", "([B)I"⟩
abbrev cJ2_coderFromArrayLen_85cad : ByteArray := prog_20_method_15_code
def yJ2_coderFromArrayLen_85cad : MethodName := ⟨RJ2, "coderFromArrayLen", "([BI)B"⟩
abbrev cJ2_compress_39247 : ByteArray := prog_20_method_17_code
def yJ2_compress_39247 : MethodName := ⟨RJ2, "compress", "([BII)[B"⟩
abbrev cJ2_compress_5af95 : ByteArray := prog_20_method_22_code
def yJ2_compress_5af95 : MethodName := ⟨RJ2, "compress", "([BI[BII)I"⟩
abbrev cJ2_fillNull_b72d1 : ByteArray := prog_20_method_70_code
def yJ2_fillNull_b72d1 : MethodName := ⟨RJ2, "fillNull", "([BII)V"⟩
abbrev cJ2_putCharSB_b72d1 : ByteArray := prog_20_method_71_code
def yJ2_putCharSB_b72d1 : MethodName := ⟨RJ2, "putCharSB", "([BII)V"⟩
abbrev cJ2_getChars_46870 : ByteArray := prog_20_method_77_code
def yJ2_getChars_46870 : MethodName := ⟨RJ2, "getChars", "(III[B)I"⟩
abbrev cJ2_charAt_3b067 : ByteArray := prog_20_method_83_code
def yJ2_charAt_3b067 : MethodName := ⟨RJ2, "charAt", "([BI)C"⟩
abbrev cJ2_inflate_0e8fd : ByteArray := prog_20_method_86_code
def yJ2_inflate_0e8fd : MethodName := ⟨RJ2, "inflate", "([BI[BII)V"⟩
abbrev cJ2_getChars_ba4f3 : ByteArray := prog_20_method_89_code
def yJ2_getChars_ba4f3 : MethodName := ⟨RJ2, "getChars", "(II[B)I"⟩
abbrev cJ2_checkIndex_2214a : ByteArray := prog_20_method_91_code
def yJ2_checkIndex_2214a : MethodName := ⟨RJ2, "checkIndex", "(I[B)V"⟩
abbrev cJ2_checkBoundsBeginEnd_d044e : ByteArray := prog_20_method_93_code
def yJ2_checkBoundsBeginEnd_d044e : MethodName := ⟨RJ2, "checkBoundsBeginEnd", "(II[B)V"⟩
abbrev cJ2_checkBoundsOffCount_d044e : ByteArray := prog_20_method_94_code
def yJ2_checkBoundsOffCount_d044e : MethodName := ⟨RJ2, "checkBoundsOffCount", "(II[B)V"⟩
abbrev cJ7_rangeCheck_23922 : ByteArray := prog_22_method_30_code
def yJ7_rangeCheck_23922 : MethodName := ⟨RJ7, "rangeCheck", "(III)V"⟩
abbrev cJ7_fill_eb02e : ByteArray := prog_22_method_110_code
def yJ7_fill_eb02e : MethodName := ⟨RJ7, "fill", "([BIIB)V"⟩
abbrev cJ7_copyOf_9075b : ByteArray := prog_22_method_121_code
def yJ7_copyOf_9075b : MethodName := ⟨RJ7, "copyOf", "([BI)[B"⟩
abbrev cJ7_checkLength_df160 : ByteArray := prog_22_method_131_code
def yJ7_checkLength_df160 : MethodName := ⟨RJ7, "checkLength", "(II)V"⟩
abbrev cJ7_copyOfRange_39247 : ByteArray := prog_22_method_132_code
def yJ7_copyOfRange_39247 : MethodName := ⟨RJ7, "copyOfRange", "([BII)[B"⟩
abbrev cJ7_copyOfRangeByte_39247 : ByteArray := prog_22_method_133_code
def yJ7_copyOfRangeByte_39247 : MethodName := ⟨RJ7, "copyOfRangeByte", "([BII)[B"⟩
abbrev cJ8_newLength_cabcc : ByteArray := prog_23_method_27_code
def yJ8_newLength_cabcc : MethodName := ⟨RJ8, "newLength", "(III)I"⟩
abbrev cJ8_hugeLength_7cf53 : ByteArray := prog_23_method_28_code
def yJ8_hugeLength_7cf53 : MethodName := ⟨RJ8, "hugeLength", "(II)I"⟩
abbrev cJ3_checkIndex_8e157 : ByteArray := prog_24_method_11_code
def yJ3_checkIndex_8e157 : MethodName := ⟨RJ3, "checkIndex", "(IILjava/util/function/BiFunction;)I"⟩
abbrev cJ3_checkFromToIndex_8c36e : ByteArray := prog_24_method_12_code
def yJ3_checkFromToIndex_8c36e : MethodName := ⟨RJ3, "checkFromToIndex", "(IIILjava/util/function/BiFunction;)I"⟩
abbrev cJ3_checkFromIndexSize_8c36e : ByteArray := prog_24_method_13_code
def yJ3_checkFromIndexSize_8c36e : MethodName := ⟨RJ3, "checkFromIndexSize", "(IIILjava/util/function/BiFunction;)I"⟩
/-! arrays of arrays: the library's own names (they stand in its rest: a round is read over the whole of it) -/
theorem hOut (c : ClassId) (N h0 : Nat) : ∀ i : Nat, Jvm.Free.Multi.outerC c N h0 i = arrV c N (fun j => va_rf (if j < i then some (h0 + 1 + j) else none))
  | 0 => by
    show ({ cls := c, slots := Array.replicate N .null, vm := .none } : Cell) = _
    rw [arrV_new]
    exact congrArg (arrV c N) (funext fun j => by rw [if_neg (Nat.not_lt_zero j)]; rfl)
  | i + 1 => by
    show (Jvm.Free.Multi.outerC c N h0 i).setSlot i (.ref (h0 + 1 + i)) = _
    rw [hOut c N h0 i, arrV_store]
    refine congrArg (arrV c N) (funext fun j => ?_)
    by_cases e : j = i
    · subst e
      simp [updV, va_rf]
    · by_cases h : j < i
      · simp [updV, e, h, Nat.lt_succ_of_lt h]
      · simp [updV, e, h, show ¬ j < i + 1 by omega]
theorem hInn (c : ClassId) (M : Nat) (dv : Value) : Jvm.Free.Multi.innerC c M dv = arrV c M (fun _ => dv) := by
  show ({ cls := c, slots := Array.replicate M dv, vm := .none } : Cell) = _
  rw [arrV_new]
