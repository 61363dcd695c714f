section
-- ===== PART A: goes FIRST, ahead of the names: the tables' words, and 'selects' of the private methods out of them =====
/-- a private method of a class that the tables say can be made, by its rows of tables_1 -/
def lw_okq (q : MethodName × Nat) : Prop := (q.1.cls ≠ "java/lang/invoke/MethodHandle" ∧ q.1.cls ≠ "java/lang/invoke/VarHandle") ∧ Cond.instantiable q.1.cls q.2 ∈ tables_1 ∧ Cond.privateMethod q.1 ∈ tables_1 ∧ Cond.instanceMethod q.1 ∈ tables_1
theorem lw_p0 : lw_okq (⟨"BrackenGambit$MoveText", "fits", "(I)Z"⟩, 2) := ⟨⟨by decide +kernel, by decide +kernel⟩, List.mem_of_getElem? (i := 94) (by decide +kernel), List.mem_of_getElem? (i := 143) (by decide +kernel), List.mem_of_getElem? (i := 144) (by decide +kernel)⟩
theorem lw_p1 : lw_okq (⟨"BrackenGambit$MoveText", "endsElsewhere", "(I)Z"⟩, 2) := ⟨⟨by decide +kernel, by decide +kernel⟩, List.mem_of_getElem? (i := 94) (by decide +kernel), List.mem_of_getElem? (i := 150) (by decide +kernel), List.mem_of_getElem? (i := 151) (by decide +kernel)⟩
theorem lw_p2 : lw_okq (⟨"BrackenGambit", "put", "(IIIZ)I"⟩, 4) := ⟨⟨by decide +kernel, by decide +kernel⟩, List.mem_of_getElem? (i := 20) (by decide +kernel), List.mem_of_getElem? (i := 188) (by decide +kernel), List.mem_of_getElem? (i := 189) (by decide +kernel)⟩
theorem lw_p3 : lw_okq (⟨"java/lang/Throwable", "fillInStackTrace", "(I)Ljava/lang/Throwable;"⟩, 6) := ⟨⟨by decide +kernel, by decide +kernel⟩, List.mem_of_getElem? (i := 234) (by decide +kernel), List.mem_of_getElem? (i := 232) (by decide +kernel), List.mem_of_getElem? (i := 233) (by decide +kernel)⟩
theorem lw_p4 : lw_okq (⟨"BrackenGambit$History", "dropOldest", "()V"⟩, 2) := ⟨⟨by decide +kernel, by decide +kernel⟩, List.mem_of_getElem? (i := 77) (by decide +kernel), List.mem_of_getElem? (i := 344) (by decide +kernel), List.mem_of_getElem? (i := 345) (by decide +kernel)⟩
theorem lw_p5 : lw_okq (⟨"BrackenGambit$Board", "guardedFrom", "(I)J"⟩, 1) := ⟨⟨by decide +kernel, by decide +kernel⟩, List.mem_of_getElem? (i := 34) (by decide +kernel), List.mem_of_getElem? (i := 432) (by decide +kernel), List.mem_of_getElem? (i := 433) (by decide +kernel)⟩
theorem lw_p6 : lw_okq (⟨"BrackenGambit$Board", "linesOfKind", "(II)J"⟩, 1) := ⟨⟨by decide +kernel, by decide +kernel⟩, List.mem_of_getElem? (i := 34) (by decide +kernel), List.mem_of_getElem? (i := 437) (by decide +kernel), List.mem_of_getElem? (i := 438) (by decide +kernel)⟩
theorem lw_p7 : lw_okq (⟨"BrackenGambit$Board", "line", "(III)J"⟩, 1) := ⟨⟨by decide +kernel, by decide +kernel⟩, List.mem_of_getElem? (i := 34) (by decide +kernel), List.mem_of_getElem? (i := 447) (by decide +kernel), List.mem_of_getElem? (i := 448) (by decide +kernel)⟩
theorem lw_p8 : lw_okq (⟨"BrackenGambit$Position", "timesBefore", "()I"⟩, 7) := ⟨⟨by decide +kernel, by decide +kernel⟩, List.mem_of_getElem? (i := 456) (by decide +kernel), List.mem_of_getElem? (i := 466) (by decide +kernel), List.mem_of_getElem? (i := 467) (by decide +kernel)⟩
theorem lw_p9 : lw_okq (⟨"BrackenGambit$Position", "looksLike", "(LBrackenGambit$Position;)Z"⟩, 7) := ⟨⟨by decide +kernel, by decide +kernel⟩, List.mem_of_getElem? (i := 456) (by decide +kernel), List.mem_of_getElem? (i := 470) (by decide +kernel), List.mem_of_getElem? (i := 471) (by decide +kernel)⟩
theorem lw_p10 : lw_okq (⟨"BrackenGambit$MoveText", "squareAt", "(I)I"⟩, 2) := ⟨⟨by decide +kernel, by decide +kernel⟩, List.mem_of_getElem? (i := 94) (by decide +kernel), List.mem_of_getElem? (i := 545) (by decide +kernel), List.mem_of_getElem? (i := 546) (by decide +kernel)⟩
theorem lw_p11 : lw_okq (⟨"BrackenGambit", "neededPiece", "(I)I"⟩, 4) := ⟨⟨by decide +kernel, by decide +kernel⟩, List.mem_of_getElem? (i := 20) (by decide +kernel), List.mem_of_getElem? (i := 612) (by decide +kernel), List.mem_of_getElem? (i := 613) (by decide +kernel)⟩
theorem lw_p12 : lw_okq (⟨"BrackenGambit", "exchangeTried", "(I)I"⟩, 4) := ⟨⟨by decide +kernel, by decide +kernel⟩, List.mem_of_getElem? (i := 20) (by decide +kernel), List.mem_of_getElem? (i := 732) (by decide +kernel), List.mem_of_getElem? (i := 733) (by decide +kernel)⟩
theorem lw_p13 : lw_okq (⟨"BrackenGambitModel", "asks", "(Z)Z"⟩, 9) := ⟨⟨by decide +kernel, by decide +kernel⟩, List.mem_of_getElem? (i := 798) (by decide +kernel), List.mem_of_getElem? (i := 840) (by decide +kernel), List.mem_of_getElem? (i := 841) (by decide +kernel)⟩
theorem lw_p14 : lw_okq (⟨"BrackenGambitModel", "says", "(I)I"⟩, 9) := ⟨⟨by decide +kernel, by decide +kernel⟩, List.mem_of_getElem? (i := 798) (by decide +kernel), List.mem_of_getElem? (i := 848) (by decide +kernel), List.mem_of_getElem? (i := 849) (by decide +kernel)⟩
theorem lw_p15 : lw_okq (⟨"BrackenGambitModel", "asksThen", "(ZI)Z"⟩, 9) := ⟨⟨by decide +kernel, by decide +kernel⟩, List.mem_of_getElem? (i := 798) (by decide +kernel), List.mem_of_getElem? (i := 865) (by decide +kernel), List.mem_of_getElem? (i := 866) (by decide +kernel)⟩
def lw_privs_1 : List (MethodName × Nat) := [(⟨"BrackenGambit$MoveText", "fits", "(I)Z"⟩, 2), (⟨"BrackenGambit$MoveText", "endsElsewhere", "(I)Z"⟩, 2), (⟨"BrackenGambit", "put", "(IIIZ)I"⟩, 4), (⟨"java/lang/Throwable", "fillInStackTrace", "(I)Ljava/lang/Throwable;"⟩, 6), (⟨"BrackenGambit$History", "dropOldest", "()V"⟩, 2), (⟨"BrackenGambit$Board", "guardedFrom", "(I)J"⟩, 1), (⟨"BrackenGambit$Board", "linesOfKind", "(II)J"⟩, 1), (⟨"BrackenGambit$Board", "line", "(III)J"⟩, 1), (⟨"BrackenGambit$Position", "timesBefore", "()I"⟩, 7), (⟨"BrackenGambit$Position", "looksLike", "(LBrackenGambit$Position;)Z"⟩, 7), (⟨"BrackenGambit$MoveText", "squareAt", "(I)I"⟩, 2), (⟨"BrackenGambit", "neededPiece", "(I)I"⟩, 4), (⟨"BrackenGambit", "exchangeTried", "(I)I"⟩, 4), (⟨"BrackenGambitModel", "asks", "(Z)Z"⟩, 9), (⟨"BrackenGambitModel", "says", "(I)I"⟩, 9), (⟨"BrackenGambitModel", "asksThen", "(ZI)Z"⟩, 9)]
theorem lw_r1 : ∀ q ∈ lw_privs_1, lw_okq q := List.forall_mem_cons.mpr ⟨lw_p0, List.forall_mem_cons.mpr ⟨lw_p1, List.forall_mem_cons.mpr ⟨lw_p2, List.forall_mem_cons.mpr ⟨lw_p3, List.forall_mem_cons.mpr ⟨lw_p4, List.forall_mem_cons.mpr ⟨lw_p5, List.forall_mem_cons.mpr ⟨lw_p6, List.forall_mem_cons.mpr ⟨lw_p7, List.forall_mem_cons.mpr ⟨lw_p8, List.forall_mem_cons.mpr ⟨lw_p9, List.forall_mem_cons.mpr ⟨lw_p10, List.forall_mem_cons.mpr ⟨lw_p11, List.forall_mem_cons.mpr ⟨lw_p12, List.forall_mem_cons.mpr ⟨lw_p13, List.forall_mem_cons.mpr ⟨lw_p14, List.forall_mem_cons.mpr ⟨lw_p15, fun _ h => absurd h List.not_mem_nil⟩⟩⟩⟩⟩⟩⟩⟩⟩⟩⟩⟩⟩⟩⟩⟩
theorem lw_p16 : lw_okq (⟨"BrackenGambitModel", "canPut", "(II)Z"⟩, 9) := ⟨⟨by decide +kernel, by decide +kernel⟩, List.mem_of_getElem? (i := 798) (by decide +kernel), List.mem_of_getElem? (i := 869) (by decide +kernel), List.mem_of_getElem? (i := 870) (by decide +kernel)⟩
theorem lw_p17 : lw_okq (⟨"BrackenGambitModel", "count", "(I)I"⟩, 9) := ⟨⟨by decide +kernel, by decide +kernel⟩, List.mem_of_getElem? (i := 798) (by decide +kernel), List.mem_of_getElem? (i := 873) (by decide +kernel), List.mem_of_getElem? (i := 874) (by decide +kernel)⟩
theorem lw_p18 : lw_okq (⟨"BrackenGambitModel", "puts", "(IIII)I"⟩, 9) := ⟨⟨by decide +kernel, by decide +kernel⟩, List.mem_of_getElem? (i := 798) (by decide +kernel), List.mem_of_getElem? (i := 880) (by decide +kernel), List.mem_of_getElem? (i := 881) (by decide +kernel)⟩
theorem lw_p19 : lw_okq (⟨"BrackenGambitModel", "record", "()V"⟩, 9) := ⟨⟨by decide +kernel, by decide +kernel⟩, List.mem_of_getElem? (i := 798) (by decide +kernel), List.mem_of_getElem? (i := 884) (by decide +kernel), List.mem_of_getElem? (i := 885) (by decide +kernel)⟩
theorem lw_p20 : lw_okq (⟨"BrackenGambitModel", "leader", "(I)I"⟩, 9) := ⟨⟨by decide +kernel, by decide +kernel⟩, List.mem_of_getElem? (i := 798) (by decide +kernel), List.mem_of_getElem? (i := 904) (by decide +kernel), List.mem_of_getElem? (i := 905) (by decide +kernel)⟩
theorem lw_p21 : lw_okq (⟨"BrackenGambitModel", "movesOf", "(I)I"⟩, 9) := ⟨⟨by decide +kernel, by decide +kernel⟩, List.mem_of_getElem? (i := 798) (by decide +kernel), List.mem_of_getElem? (i := 916) (by decide +kernel), List.mem_of_getElem? (i := 917) (by decide +kernel)⟩
theorem lw_p22 : lw_okq (⟨"BrackenGambitModel", "canMove", "(II)Z"⟩, 9) := ⟨⟨by decide +kernel, by decide +kernel⟩, List.mem_of_getElem? (i := 798) (by decide +kernel), List.mem_of_getElem? (i := 920) (by decide +kernel), List.mem_of_getElem? (i := 921) (by decide +kernel)⟩
theorem lw_p23 : lw_okq (⟨"BrackenGambitModel", "goes", "(IIIZ)Z"⟩, 9) := ⟨⟨by decide +kernel, by decide +kernel⟩, List.mem_of_getElem? (i := 798) (by decide +kernel), List.mem_of_getElem? (i := 924) (by decide +kernel), List.mem_of_getElem? (i := 925) (by decide +kernel)⟩
theorem lw_p24 : lw_okq (⟨"BrackenGambitModel", "leadsBy", "(IIIZ)Z"⟩, 9) := ⟨⟨by decide +kernel, by decide +kernel⟩, List.mem_of_getElem? (i := 798) (by decide +kernel), List.mem_of_getElem? (i := 928) (by decide +kernel), List.mem_of_getElem? (i := 929) (by decide +kernel)⟩
theorem lw_p25 : lw_okq (⟨"BrackenGambitModel", "isClear", "(IIZ)Z"⟩, 9) := ⟨⟨by decide +kernel, by decide +kernel⟩, List.mem_of_getElem? (i := 798) (by decide +kernel), List.mem_of_getElem? (i := 935) (by decide +kernel), List.mem_of_getElem? (i := 936) (by decide +kernel)⟩
theorem lw_p26 : lw_okq (⟨"BrackenGambitModel", "why", "(II)I"⟩, 9) := ⟨⟨by decide +kernel, by decide +kernel⟩, List.mem_of_getElem? (i := 798) (by decide +kernel), List.mem_of_getElem? (i := 946) (by decide +kernel), List.mem_of_getElem? (i := 947) (by decide +kernel)⟩
theorem lw_p27 : lw_okq (⟨"BrackenGambitModel", "moves", "(II)I"⟩, 9) := ⟨⟨by decide +kernel, by decide +kernel⟩, List.mem_of_getElem? (i := 798) (by decide +kernel), List.mem_of_getElem? (i := 950) (by decide +kernel), List.mem_of_getElem? (i := 951) (by decide +kernel)⟩
theorem lw_p28 : lw_okq (⟨"BrackenGambitModel", "times", "()I"⟩, 9) := ⟨⟨by decide +kernel, by decide +kernel⟩, List.mem_of_getElem? (i := 798) (by decide +kernel), List.mem_of_getElem? (i := 957) (by decide +kernel), List.mem_of_getElem? (i := 958) (by decide +kernel)⟩
theorem lw_p29 : lw_okq (⟨"BrackenGambitModel", "fault", "()I"⟩, 9) := ⟨⟨by decide +kernel, by decide +kernel⟩, List.mem_of_getElem? (i := 798) (by decide +kernel), List.mem_of_getElem? (i := 977) (by decide +kernel), List.mem_of_getElem? (i := 978) (by decide +kernel)⟩
theorem lw_p30 : lw_okq (⟨"BrackenGambitModel", "written", "(I)I"⟩, 9) := ⟨⟨by decide +kernel, by decide +kernel⟩, List.mem_of_getElem? (i := 798) (by decide +kernel), List.mem_of_getElem? (i := 989) (by decide +kernel), List.mem_of_getElem? (i := 990) (by decide +kernel)⟩
theorem lw_p31 : lw_okq (⟨"BrackenGambitModel", "asksPiece", "(I)Z"⟩, 9) := ⟨⟨by decide +kernel, by decide +kernel⟩, List.mem_of_getElem? (i := 798) (by decide +kernel), List.mem_of_getElem? (i := 1001) (by decide +kernel), List.mem_of_getElem? (i := 1002) (by decide +kernel)⟩
def lw_privs_2 : List (MethodName × Nat) := [(⟨"BrackenGambitModel", "canPut", "(II)Z"⟩, 9), (⟨"BrackenGambitModel", "count", "(I)I"⟩, 9), (⟨"BrackenGambitModel", "puts", "(IIII)I"⟩, 9), (⟨"BrackenGambitModel", "record", "()V"⟩, 9), (⟨"BrackenGambitModel", "leader", "(I)I"⟩, 9), (⟨"BrackenGambitModel", "movesOf", "(I)I"⟩, 9), (⟨"BrackenGambitModel", "canMove", "(II)Z"⟩, 9), (⟨"BrackenGambitModel", "goes", "(IIIZ)Z"⟩, 9), (⟨"BrackenGambitModel", "leadsBy", "(IIIZ)Z"⟩, 9), (⟨"BrackenGambitModel", "isClear", "(IIZ)Z"⟩, 9), (⟨"BrackenGambitModel", "why", "(II)I"⟩, 9), (⟨"BrackenGambitModel", "moves", "(II)I"⟩, 9), (⟨"BrackenGambitModel", "times", "()I"⟩, 9), (⟨"BrackenGambitModel", "fault", "()I"⟩, 9), (⟨"BrackenGambitModel", "written", "(I)I"⟩, 9), (⟨"BrackenGambitModel", "asksPiece", "(I)Z"⟩, 9)]
theorem lw_r2 : ∀ q ∈ lw_privs_2, lw_okq q := List.forall_mem_cons.mpr ⟨lw_p16, List.forall_mem_cons.mpr ⟨lw_p17, List.forall_mem_cons.mpr ⟨lw_p18, List.forall_mem_cons.mpr ⟨lw_p19, List.forall_mem_cons.mpr ⟨lw_p20, List.forall_mem_cons.mpr ⟨lw_p21, List.forall_mem_cons.mpr ⟨lw_p22, List.forall_mem_cons.mpr ⟨lw_p23, List.forall_mem_cons.mpr ⟨lw_p24, List.forall_mem_cons.mpr ⟨lw_p25, List.forall_mem_cons.mpr ⟨lw_p26, List.forall_mem_cons.mpr ⟨lw_p27, List.forall_mem_cons.mpr ⟨lw_p28, List.forall_mem_cons.mpr ⟨lw_p29, List.forall_mem_cons.mpr ⟨lw_p30, List.forall_mem_cons.mpr ⟨lw_p31, fun _ h => absurd h List.not_mem_nil⟩⟩⟩⟩⟩⟩⟩⟩⟩⟩⟩⟩⟩⟩⟩⟩
theorem lw_p32 : lw_okq (⟨"BrackenGambitModel", "reached", "(I)J"⟩, 9) := ⟨⟨by decide +kernel, by decide +kernel⟩, List.mem_of_getElem? (i := 798) (by decide +kernel), List.mem_of_getElem? (i := 1025) (by decide +kernel), List.mem_of_getElem? (i := 1026) (by decide +kernel)⟩
theorem lw_p33 : lw_okq (⟨"BrackenGambitModel", "guarding", "(II)I"⟩, 9) := ⟨⟨by decide +kernel, by decide +kernel⟩, List.mem_of_getElem? (i := 798) (by decide +kernel), List.mem_of_getElem? (i := 1037) (by decide +kernel), List.mem_of_getElem? (i := 1038) (by decide +kernel)⟩
theorem lw_p34 : lw_okq (⟨"BrackenGambitModel", "exchanged", "(I)I"⟩, 9) := ⟨⟨by decide +kernel, by decide +kernel⟩, List.mem_of_getElem? (i := 798) (by decide +kernel), List.mem_of_getElem? (i := 1053) (by decide +kernel), List.mem_of_getElem? (i := 1054) (by decide +kernel)⟩
theorem lw_p35 : lw_okq (⟨"BrackenGambitModel", "capturer", "(II)I"⟩, 9) := ⟨⟨by decide +kernel, by decide +kernel⟩, List.mem_of_getElem? (i := 798) (by decide +kernel), List.mem_of_getElem? (i := 1057) (by decide +kernel), List.mem_of_getElem? (i := 1058) (by decide +kernel)⟩
theorem lw_p36 : lw_okq (⟨"BrackenGambitModel", "weak", "(I)I"⟩, 9) := ⟨⟨by decide +kernel, by decide +kernel⟩, List.mem_of_getElem? (i := 798) (by decide +kernel), List.mem_of_getElem? (i := 1065) (by decide +kernel), List.mem_of_getElem? (i := 1066) (by decide +kernel)⟩
theorem lw_p37 : lw_okq (⟨"BrackenGambitModel", "all", "(I)I"⟩, 9) := ⟨⟨by decide +kernel, by decide +kernel⟩, List.mem_of_getElem? (i := 798) (by decide +kernel), List.mem_of_getElem? (i := 1093) (by decide +kernel), List.mem_of_getElem? (i := 1094) (by decide +kernel)⟩
def lw_privs_3 : List (MethodName × Nat) := [(⟨"BrackenGambitModel", "reached", "(I)J"⟩, 9), (⟨"BrackenGambitModel", "guarding", "(II)I"⟩, 9), (⟨"BrackenGambitModel", "exchanged", "(I)I"⟩, 9), (⟨"BrackenGambitModel", "capturer", "(II)I"⟩, 9), (⟨"BrackenGambitModel", "weak", "(I)I"⟩, 9), (⟨"BrackenGambitModel", "all", "(I)I"⟩, 9)]
theorem lw_r3 : ∀ q ∈ lw_privs_3, lw_okq q := List.forall_mem_cons.mpr ⟨lw_p32, List.forall_mem_cons.mpr ⟨lw_p33, List.forall_mem_cons.mpr ⟨lw_p34, List.forall_mem_cons.mpr ⟨lw_p35, List.forall_mem_cons.mpr ⟨lw_p36, List.forall_mem_cons.mpr ⟨lw_p37, fun _ h => absurd h List.not_mem_nil⟩⟩⟩⟩⟩⟩
def lw_privs : List (MethodName × Nat) := lw_privs_1 ++ (lw_privs_2 ++ (lw_privs_3))
def lw_tbl : List Cond := k2_sels lw_privs ++ tables_1
theorem lw_privs_ok : ∀ q ∈ lw_privs, lw_okq q := by
  show ∀ q ∈ lw_privs_1 ++ (lw_privs_2 ++ (lw_privs_3)), lw_okq q
  exact List.forall_mem_append.mpr ⟨lw_r1, List.forall_mem_append.mpr ⟨lw_r2, lw_r3⟩⟩
/-- the streams that the claim lets the run draw from -/
abbrev lw_cs : List Choice := [Jvm.Choice.named "NaN.bits"]
theorem lw_bits : nanBits ∈ lw_cs := by first | decide | exact List.mem_cons_self | simp [lw_cs, nanBits]
-- ===== end of PART A; then your names; then what follows =====
end
section
/-! ===== BEGIN words of one list among another's, by their places ===== -/
theorem goodIn_r {big : List Cond} (ws : List Cond) (ps : List Nat) (hp : ws = ps.filterMap (fun i => big[i]?)) (h : ws.all goodWord = true) : GoodIn big ws := by
  intro w hw
  have h1 := List.all_eq_true.mp h w hw
  rw [hp] at hw
  obtain ⟨i, -, hi⟩ := List.mem_filterMap.mp hw
  have hm : w ∈ big := by first | exact List.mem_of_getElem? hi | exact List.getElem?_mem hi
  exact ⟨hm, good_of_word h1⟩
theorem goodIn_app {big a b : List Cond} (ha : GoodIn big a) (hb : GoodIn big b) : GoodIn big (a ++ b) := fun w h => (List.mem_append.mp h).elim (ha w) (hb w)
theorem goodIn_ca {big a b : List Cond} {c : Cond} (ha : GoodIn big (c :: a)) (hb : GoodIn big b) : GoodIn big (c :: (a ++ b)) := fun w h => (List.mem_cons.mp h).elim (fun e => ha w (List.mem_cons.mpr (Or.inl e))) (fun h => (List.mem_append.mp h).elim (fun h => ha w (List.mem_cons.mpr (Or.inr h))) (hb w))
theorem goodIn_sub {big ws : List Cond} (hm : ∀ w ∈ ws, w ∈ big) (h : ws.all goodWord = true) : GoodIn big ws := fun w hw => ⟨hm w hw, good_of_word (List.all_eq_true.mp h w hw)⟩
/-! ===== END ===== -/
/-! ===== BEGIN exceptions that leave a method, and their catching by the caller (launches without stack traces) ===== -/
section VXA
/-! The laws vx_back, vx_callV, vx_callS, vx_callSW, vx_throw0, vx_throwS follow proofs of the library, with one case more: JvmDerived/Free/Laws.lean (Back.of_free), Shelf42/LK1.lean (callV, callS), Shelf/KitTraced.lean (throwNew0V, throwNewS). -/
/-- where a method has thrown q: the class by its name, the cell, what was written, the world -/
def vx_T (XC : String → State → State → Prop) (st : State) (q : Addr) (t : State) (mc ms : Nat) (free : Addr → Prop) : Prop :=
  ∃ (E : String) (ce : Cell) (L : List Loc), XC E st t ∧ t.heap[q]? = some ce ∧ ce.vm = .none ∧ st.vm.findClass E = some ce.cls ∧ st.WarmedH t.vm ∧ st.sameButNew ({ t with vm := st.vm } : State) L mc ms ∧ ∀ z ∈ L, free z.base
def vx_Q (Qc : Array Value → State → Outcome → State → Prop) (XC : String → State → State → Prop) (mc ms : Nat) (free : Addr → Prop) : Array Value → State → Outcome → State → Prop := fun a st o t =>
  (Qc a st o t ∧ ∃ L, FrameEnd st o t L mc ms ∧ ∀ q ∈ L, free q.base) ∨ ∃ q, o = .threw q ∧ vx_T XC st q t mc ms free
/-- a callee that returns or throws -/
def vx_Met (l : Launch) (y : MethodName) (ws : List Cond) (rm : Room) (Pc : Array Value → State → Prop) (Qc : Array Value → State → Outcome → State → Prop) (XC : String → State → State → Prop) (mc ms : Nat) (free : Addr → Prop) : Prop :=
  MetFree l y (headSpec ws rm) Pc (fun _ _ _ _ _ => True) (vx_Q Qc XC mc ms free)
def vx_Post (XC : String → State → State → Prop) (mc ms : Nat) (free : Addr → Prop) : Pt → Array Value → Addr → Pt → Prop := fun A a q B =>
  ∃ (g : JFrame) (mk : MethodId) (t : State) (L : List Loc) (E : String) (ce : Cell), B.U.heap = t.heap ∧ B.U.vm = t.vm ∧ XC E (A.U.calling g mk a) t ∧ t.heap[q]? = some ce ∧ ce.vm = .none ∧ A.U.vm.findClass E = some ce.cls ∧ B.locs = A.locs ++ L ∧ (∀ z ∈ L, free z.base) ∧ B.cells = A.cells + mc ∧ B.slots = A.slots + ms
def vx_Back (l : Launch) (R : Room) (p : Program) (e : Env) (below : List Frame) (s : State) (sargs : Array Value) (y : MethodName) (len W9 : Nat)
    (Pre : Pt → Array Value → Prop) (Post : Pt → Array Value → Option Value → Pt → Prop) (PostX : Pt → Array Value → Addr → Pt → Prop) : Prop :=
  ∀ (m : MethodId) (meth : Method) (c : Code) (A : Pt) (g : JFrame) (ig : Instr) (mk : MethodId) (a : Array Value),
    Stand p l e R s m sargs below meth c A.U A.locs A.cells A.slots → g.method = m → g.locals.size = c.maxLocals → decode c.code g.pc = .ok (ig, len) →
    2 * g.monitorRoom + (g.stack.map fun v => v.category).sum ≤ W9 → A.U.methodNamed? y = some mk → Pre A a →
    (∃ (v : Option Value) (B : Pt), Stand p l e R s m sargs below meth c B.U B.locs B.cells B.slots ∧ Post A a v B ∧
      Steps p.tables e below (doInvoke e (A.U.setTop g) [] mk a).1 (B.U.setTop { g with pc := g.pc + len, stack := v.toList ++ g.stack })) ∨
    (∃ (q : Addr) (B : Pt), Stand p l e R s m sargs below meth c B.U B.locs B.cells B.slots ∧ PostX A a q B ∧
      Steps p.tables e below (doInvoke e (A.U.setTop g) [] mk a).1 ((B.U.setTop g).pushFrame (.throwing q)))
section Payer
variable {l : Launch} {R : Room} {p : Program} {e : Env} {below : List Frame} {s : State} {sargs : Array Value} {y : MethodName} {len W9 : Nat}
theorem vx_back {ws : List Cond} {rm : Room} {Pc : Array Value → State → Prop} {Qc : Array Value → State → Outcome → State → Prop} {XC : String → State → State → Prop} {mc ms : Nat} {free : Addr → Prop} {bytes : ByteArray} {maxL : Nat} {ret : Option FieldType}
    (hM : vx_Met l y ws rm Pc Qc XC mc ms free) (hblind : FrameBlind Pc) (hrc : rm.cells = mc) (hrs : rm.slots = ms)
    (hframes : rm.frames + 1 ≤ R.frames) (hlocals : W9 + (maxL + 11) + rm.locals ≤ R.locals)
    (hws : ∀ w ∈ ws, ∀ a' U, s.WarmedH U.vm → w.before a' U = true) (hcode : Cond.code y bytes maxL ret ∈ ws) (hinit : ∀ a' U, s.WarmedH U.vm → (Cond.initialized y.cls).before a' U = true) :
    vx_Back l R p e below s sargs y len W9 (PreOf R mc ms Pc) (PostOf Qc mc ms free) (vx_Post XC mc ms free) := by
  intro m meth c A g ig mk a X hg hsize hdg hW hn hp
  have h1 : (headSpec ws rm).pre.before a A.U = true := atoms_intro fun w hw => hws w hw _ _ X.warmed
  have h2 : (Cond.code y bytes maxL ret).before a A.U = true := hws _ hcode _ _ X.warmed
  have h3 : (Cond.initialized y.cls).before a A.U = true := hinit _ _ X.warmed
  have h4 : A.cells + (headSpec ws rm).room.cells ≤ R.cells := by rw [show (headSpec ws rm).room.cells = mc from hrc]; exact hp.1
  have h5 : A.slots + (headSpec ws rm).room.slots ≤ R.slots := by rw [show (headSpec ws rm).room.slots = ms from hrs]; exact hp.2.1
  have hPc : Pc a (A.U.calling g mk a) := hblind _ _ _ _ hp.2.2
  obtain ⟨U, Ls, c0, s0⟩ := A
  dsimp only [Pt.U, Pt.locs, Pt.cells, Pt.slots] at h1 h2 h3 h4 h5 X hn hPc ⊢
  obtain ⟨methY, cY, hmY, hcY, -, hlY, -, -, -, -⟩ := Cond.code_spec hn h2
  obtain ⟨kY, hkY, -⟩ := className_of_methodNamed hn
  have hinitY : kY.init = .initialized := Cond.initialized_spec (findClass_of_methodNamed hn) hkY h3
  have h : At U g.method c below := by rw [hg]; exact X.here
  have hlocals9 : W9 + (maxL + 11) + (headSpec ws rm).room.locals ≤ R.locals := hlocals
  have happ : (headSpec ws rm).appliesLoose y e.platform (U.calling g mk a) = true :=
    Spec.appliesLoose_calling (g := g) h hdg hn hkY hinitY
      (X.room_calling (g := g) (R' := (headSpec ws rm).room) hsize hmY hcY hframes (by rw [hlY]; omega) h4 h5) h1
  obtain ⟨mid, hmid⟩ := h.above
  have hfr : (U.setTop g).frames = (.java g :: mid) ++ below := by rw [State.frames_setTop' g h.top, hmid]; rfl
  obtain ⟨o, s₂, hsteps, -, hend, hq⟩ := Steps.callFree hM p X.admits X.cas X.clock (acts := []) hfr happ hPc trivial
  have hq' : vx_Q Qc XC mc ms free a (U.calling g mk a) o s₂ := hq
  rw [State.frames_setTop' g h.top] at hend
  obtain ⟨g₀, hg0⟩ := Option.isSome_iff_exists.mp h.top
  obtain ⟨r, hr⟩ := State.topJava?_eq_some.mp hg0
  have hr' : (({ U with heap := s₂.heap, slotsUsed := s₂.slotsUsed } : State).setVm s₂.vm).frames = .java g₀ :: r := hr
  rcases hq' with ⟨hqc, L, hfe, hL⟩ | ⟨q, rfl, E, ce, L, hx, hce, hcv, hcl, hW₂, hsm, hL⟩
  · obtain ⟨⟨v, rfl⟩, hW₂, e2, q2, q3, q4, q5, q6⟩ := id hfe
    have e3 : s₂ = ({ (U.calling g mk a).setFrames s₂.frames with heap := s₂.heap, slotsUsed := s₂.slotsUsed } : State).setVm s₂.vm := by
      have : s₂ = ({ s₂ with vm := (U.calling g mk a).vm } : State).setVm s₂.vm := rfl
      rw [e2] at this
      exact this
    obtain ⟨c₂, i₂, len₂, hc₂, hd₂, hf₂⟩ := hend
    have hW' : U.WarmedH s₂.vm := hW₂
    have hcc : c₂ = c := by
      have h1 : s₂.code? g.method = U.code? g.method := by
        rw [State.code?_eq, State.code?_eq, hW'.alike.method?]
      exact Option.some.inj (hc₂.symm.trans (h1.trans h.code))
    subst hcc
    have hlen : len₂ = len := by rw [hdg] at hd₂; cases hd₂; rfl
    subst hlen
    have hs₂ : s₂ = (({ U with heap := s₂.heap, slotsUsed := s₂.slotsUsed } : State).setVm s₂.vm).setTop { g with pc := g.pc + len₂, stack := v.toList ++ g.stack } := by
      refine e3.trans ?_
      rw [hf₂, State.calling_eq h.top, State.setFrames_setFrames, State.setTop_of_frames _ hr', hr]
      rfl
    have hsame : U.sameButNew ({ U with heap := s₂.heap, slotsUsed := s₂.slotsUsed } : State) L mc ms := by
      refine ⟨?_, q2, q3, q4, q5, q6⟩
      obtain ⟨t, ht, -⟩ := State.frames_cons hr
      show ({ U with heap := s₂.heap, slotsUsed := s₂.slotsUsed } : State) = { U.setFrames U.frames with heap := s₂.heap, slotsUsed := s₂.slotsUsed }
      rw [State.setFrames_self ht]
    subst hg
    refine Or.inl ⟨v, ⟨(({ U with heap := s₂.heap, slotsUsed := s₂.slotsUsed } : State).setVm s₂.vm), Ls ++ L, c0 + mc, s0 + ms⟩,
      ⟨X.admits, X.cas, X.clock, X.frames, X.room, X.hears, X.method, X.code, (X.here.setHeapUsed s₂.heap s₂.slotsUsed).setVm hW'.alike, X.tail, State.WarmedH.trans X.warmed hW', X.limits, X.bytes, X.same.trans (hsame.setVm s.vm)⟩,
      ⟨g, mk, s₂, L, rfl, rfl, hqc, rfl, hL, rfl, rfl⟩, ?_⟩
    show Steps p.tables e below _ ((({ U with heap := s₂.heap, slotsUsed := s₂.slotsUsed } : State).setVm s₂.vm).setTop { g with pc := g.pc + len₂, stack := v.toList ++ g.stack })
    rw [← hs₂]
    exact hsteps
  · obtain ⟨e2, q2, q3, q4, q5, q6⟩ := id hsm
    have e3 : s₂ = ({ (U.calling g mk a).setFrames s₂.frames with heap := s₂.heap, slotsUsed := s₂.slotsUsed } : State).setVm s₂.vm := by
      have : s₂ = ({ s₂ with vm := (U.calling g mk a).vm } : State).setVm s₂.vm := rfl
      rw [e2] at this
      exact this
    have hf₂ : s₂.frames = .throwing q :: .java g :: U.frames.tail := hend
    have hW' : U.WarmedH s₂.vm := hW₂
    have hs₂ : s₂ = ((({ U with heap := s₂.heap, slotsUsed := s₂.slotsUsed } : State).setVm s₂.vm).setTop g).pushFrame (.throwing q) := by
      refine e3.trans ?_
      rw [hf₂, State.calling_eq h.top, State.setFrames_setFrames, State.pushFrame, State.frames_setTop _ hr', State.setTop_of_frames _ hr', State.setFrames_setFrames, hr]
      rfl
    have hsame : U.sameButNew ({ U with heap := s₂.heap, slotsUsed := s₂.slotsUsed } : State) L mc ms := by
      refine ⟨?_, q2, q3, q4, q5, q6⟩
      obtain ⟨t, ht, -⟩ := State.frames_cons hr
      show ({ U with heap := s₂.heap, slotsUsed := s₂.slotsUsed } : State) = { U.setFrames U.frames with heap := s₂.heap, slotsUsed := s₂.slotsUsed }
      rw [State.setFrames_self ht]
    subst hg
    refine Or.inr ⟨q, ⟨(({ U with heap := s₂.heap, slotsUsed := s₂.slotsUsed } : State).setVm s₂.vm), Ls ++ L, c0 + mc, s0 + ms⟩,
      ⟨X.admits, X.cas, X.clock, X.frames, X.room, X.hears, X.method, X.code, (X.here.setHeapUsed s₂.heap s₂.slotsUsed).setVm hW'.alike, X.tail, State.WarmedH.trans X.warmed hW', X.limits, X.bytes, X.same.trans (hsame.setVm s.vm)⟩,
      ⟨g, mk, s₂, L, E, ce, rfl, rfl, hx, hce, hcv, hcl, rfl, hL, rfl, rfl⟩, ?_⟩
    show Steps p.tables e below _ (((({ U with heap := s₂.heap, slotsUsed := s₂.slotsUsed } : State).setVm s₂.vm).setTop g).pushFrame (.throwing q))
    rw [← hs₂]
    exact hsteps
end Payer
section Calls
variable {p : Program} {l : Launch} {e : Env} {R : Room} {s : State} {m : MethodId} {args : Array Value} {below : List Frame} {meth : Method} {c : Code} {T : State} {locs : List Loc} {cells slots : Nat}
theorem vx_callV (X : Stand p l e R s m args below meth c T locs cells slots) (hexec : p.tables.exec = Jvm.exec) {own C : String} {index : Nat} {y : MethodName} {bytes : ByteArray} {maxL : Nat} {ret : Option FieldType}
    (hown : s.vm.findClass own = some m.cls) (hlink : (Cond.methodLink own index y).before args s = true) (hinst : (Cond.instanceMethod y).before args s = true) (hsel : (Cond.selects C y y).before args s = true)
    (hcode : (Cond.code y bytes maxL ret).before args s = true) (hy : y.cls ≠ "java/lang/invoke/MethodHandle" ∧ y.cls ≠ "java/lang/invoke/VarHandle")
    {W9 : Nat} {Pre : Pt → Array Value → Prop} {Post : Pt → Array Value → Option Value → Pt → Prop} {PostX : Pt → Array Value → Addr → Pt → Prop} (hK : vx_Back l R p e below s args y 3 W9 Pre Post PostX)
    {b : Addr} {cellB : Cell} (hcell : T.heap[b]? = some cellB) (hobj : cellB.vm.isStatics = false) (hcls : s.vm.findClass C = some cellB.cls)
    {g : JFrame} (hg : g.method = m) (hsize : g.locals.size = c.maxLocals) {argsL rest : List Value} (hlen : ∀ sig, parseMethodDescriptor y.desc = some sig → argsL.length = sig.parameters.length)
    (hstack : g.stack = argsL.reverse ++ .ref b :: rest) (hW : 2 * g.monitorRoom + (rest.map fun v => v.category).sum ≤ W9) (hdg : decode c.code g.pc = .ok (.invokevirtual index, 3))
    (hpre : ∀ vm₁, s.WarmedH vm₁ → Pre ⟨T.setVm vm₁, locs, cells, slots⟩ (Value.ref b :: argsL).toArray) :
    (∃ (v : Option Value) (vm₁ : Vm) (B : Pt), s.WarmedH vm₁ ∧ Stand p l e R s m args below meth c B.U B.locs B.cells B.slots ∧ Post ⟨T.setVm vm₁, locs, cells, slots⟩ (Value.ref b :: argsL).toArray v B ∧
      ∀ target, Steps p.tables e below (B.U.setTop { g with pc := g.pc + 3, stack := v.toList ++ rest }) target → Steps p.tables e below (T.setTop g) target) ∨
    (∃ (q : Addr) (vm₁ : Vm) (B : Pt), s.WarmedH vm₁ ∧ Stand p l e R s m args below meth c B.U B.locs B.cells B.slots ∧ PostX ⟨T.setVm vm₁, locs, cells, slots⟩ (Value.ref b :: argsL).toArray q B ∧
      Steps p.tables e below (T.setTop g) ((B.U.setTop { g with stack := rest }).pushFrame (.throwing q))) := by
  obtain ⟨mk, methM, hnamed, hmethM, hstM, habM⟩ := Cond.instanceMethod_spec hinst
  obtain ⟨methM', cM, hmethM', -, -, -, -, -, -, hsigM⟩ := Cond.code_spec hnamed hcode
  cases hmethM.symm.trans hmethM'
  obtain ⟨c2, r2, m2, q1, q2, q3, q4, kP, hkP, hkPi⟩ := Cond.selects_spec hsel
  cases hcls.symm.trans q1
  cases (State.methodFound?_of_named hnamed hy).symm.trans q2
  cases hnamed.symm.trans q3
  have hselP : selectMethod e.platform s.vm cellB.cls mk = .method mk := by rw [Launch.admits_selectMethod X.admits]; exact q4
  obtain ⟨vm₁, X₁, hstep₁⟩ := X.invokevirtual hexec hown hlink hnamed hmethM hstM hkP hkPi hy (a := b) (cell := cellB) hcell
    (fun z h => by rw [h] at hobj; cases hobj) hselP hmethM habM hkP hkPi (g := g) hg (argsL := argsL) (rest := rest) (hlen _ hsigM) hstack hdg
  rcases hK m meth c ⟨T.setVm vm₁, locs, cells, slots⟩ { g with stack := rest } (.invokevirtual index) mk (Value.ref b :: argsL).toArray X₁ hg hsize hdg hW (X₁.named hnamed) (hpre vm₁ X₁.warmed) with ⟨v, B, X', hpost, hsteps⟩ | ⟨q, B, X', hpost, hsteps⟩
  · exact Or.inl ⟨v, vm₁, B, X₁.warmed, X', hpost, fun target h => hstep₁ _ fun acts => by rw [doInvoke_state]; exact hsteps.trans h⟩
  · exact Or.inr ⟨q, vm₁, B, X₁.warmed, X', hpost, hstep₁ _ fun acts => by rw [doInvoke_state]; exact hsteps⟩
theorem vx_callS (X : Stand p l e R s m args below meth c T locs cells slots) (hexec : p.tables.exec = Jvm.exec) {own : String} {index : Nat} {y : MethodName} {bytes : ByteArray} {maxL : Nat} {ret : Option FieldType}
    (hown : s.vm.findClass own = some m.cls) (hlink : (Cond.methodLink own index y).before args s = true) (hstat : (Cond.static y).before args s = true) (hinit : (Cond.initialized y.cls).before args s = true)
    (hcode : (Cond.code y bytes maxL ret).before args s = true) (hy : y.cls ≠ "java/lang/invoke/MethodHandle" ∧ y.cls ≠ "java/lang/invoke/VarHandle")
    {W9 : Nat} {Pre : Pt → Array Value → Prop} {Post : Pt → Array Value → Option Value → Pt → Prop} {PostX : Pt → Array Value → Addr → Pt → Prop} (hK : vx_Back l R p e below s args y 3 W9 Pre Post PostX)
    {g : JFrame} (hg : g.method = m) (hsize : g.locals.size = c.maxLocals) {argsL rest : List Value} (hlen : ∀ sig, parseMethodDescriptor y.desc = some sig → argsL.length = sig.parameters.length)
    (hstack : g.stack = argsL.reverse ++ rest) (hW : 2 * g.monitorRoom + (rest.map fun v => v.category).sum ≤ W9) (hdg : decode c.code g.pc = .ok (.invokestatic index, 3))
    (hpre : ∀ vm₁, s.WarmedH vm₁ → Pre ⟨T.setVm vm₁, locs, cells, slots⟩ argsL.toArray) :
    (∃ (v : Option Value) (vm₁ : Vm) (B : Pt), s.WarmedH vm₁ ∧ Stand p l e R s m args below meth c B.U B.locs B.cells B.slots ∧ Post ⟨T.setVm vm₁, locs, cells, slots⟩ argsL.toArray v B ∧
      ∀ target, Steps p.tables e below (B.U.setTop { g with pc := g.pc + 3, stack := v.toList ++ rest }) target → Steps p.tables e below (T.setTop g) target) ∨
    (∃ (q : Addr) (vm₁ : Vm) (B : Pt), s.WarmedH vm₁ ∧ Stand p l e R s m args below meth c B.U B.locs B.cells B.slots ∧ PostX ⟨T.setVm vm₁, locs, cells, slots⟩ argsL.toArray q B ∧
      Steps p.tables e below (T.setTop g) ((B.U.setTop { g with stack := rest }).pushFrame (.throwing q))) := by
  obtain ⟨mk, hnamed⟩ := Cond.code_named hcode
  obtain ⟨methM, cM, hmethM, -, -, -, -, -, -, hsigM⟩ := Cond.code_spec hnamed hcode
  have hstatic : methM.isStatic = true := Cond.static_spec hnamed hmethM hstat
  obtain ⟨kP, hkP, -⟩ := className_of_methodNamed hnamed
  have hinitP : kP.init = .initialized := Cond.initialized_spec (findClass_of_methodNamed hnamed) hkP hinit
  obtain ⟨vm₁, X₁, hstep₁⟩ := X.invokestatic hexec hown hlink hnamed hmethM hstatic hkP hinitP hy (g := g) hg (argsL := argsL) (rest := rest) (hlen _ hsigM) hstack hdg
  rcases hK m meth c ⟨T.setVm vm₁, locs, cells, slots⟩ { g with stack := rest } (.invokestatic index) mk argsL.toArray X₁ hg hsize hdg hW (X₁.named hnamed) (hpre vm₁ X₁.warmed) with ⟨v, B, X', hpost, hsteps⟩ | ⟨q, B, X', hpost, hsteps⟩
  · exact Or.inl ⟨v, vm₁, B, X₁.warmed, X', hpost, fun target h => hstep₁ _ fun acts => by rw [doInvoke_state]; exact hsteps.trans h⟩
  · exact Or.inr ⟨q, vm₁, B, X₁.warmed, X', hpost, hstep₁ _ fun acts => by rw [doInvoke_state]; exact hsteps⟩
end Calls
theorem vx_cls {s : State} {T : State} {vm₁ : Vm} {E : String} {k : ClassId} (hW : s.WarmedH vm₁) (h : (T.setVm vm₁).vm.findClass E = some k) : s.vm.findClass E = some k := by
  have h1 : vm₁.findClass E = some k := h
  rw [hW.alike.findClass] at h1
  exact h1
/-- the method's frame g, with q thrown over it -/
def vx_W (p : Program) (l : Launch) (e : Env) (R : Room) (s : State) (m : MethodId) (args : Array Value) (below : List Frame) (meth : Method) (c : Code) (H : Heap) (locs : List Loc) (cells slots : Nat) (Q : State → Prop) (g : JFrame) (q : Addr) : Prop :=
  ∀ T : State, T.heap = H → Stand p l e R s m args below meth c T locs cells slots → ∃ t, Steps p.tables e below ((T.setTop g).pushFrame (.throwing q)) t ∧ Q t
def vx_Run (p : Program) (l : Launch) (e : Env) (R : Room) (s : State) (m : MethodId) (args : Array Value) (below : List Frame) (meth : Method) (c : Code) (H : Heap) (locs : List Loc) (cells slots mc ms : Nat) (g : JFrame) (rest : List Value) (Qa : State → Outcome → State → Prop) (XC : String → State → State → Prop) (free : Addr → Prop) : Prop :=
  ∀ T : State, T.heap = H → Stand p l e R s m args below meth c T locs cells slots →
    (∃ (v : Option Value) (st₀ t T' : State) (L : List Loc), st₀.heap = H ∧ Stand p l e R s m args below meth c T' (locs ++ L) (cells + mc) (slots + ms) ∧ (∀ q ∈ L, free q.base) ∧ T'.heap = t.heap ∧ T'.vm = t.vm ∧ Qa st₀ (.returned v) t ∧
      Goes p e below T g T' { g with pc := g.pc + 3, stack := v.toList ++ rest }) ∨
    (∃ (q : Addr) (st₀ t T' : State) (L : List Loc) (E : String) (ce : Cell), st₀.heap = H ∧ Stand p l e R s m args below meth c T' (locs ++ L) (cells + mc) (slots + ms) ∧ (∀ z ∈ L, free z.base) ∧ T'.heap = t.heap ∧ T'.vm = t.vm ∧ XC E st₀ t ∧ t.heap[q]? = some ce ∧ ce.vm = .none ∧ s.vm.findClass E = some ce.cls ∧
      Steps p.tables e below (T.setTop g) ((T'.setTop { g with stack := rest }).pushFrame (.throwing q)))
def vx_X {S : Type} (px : S → Prop) (B : String → S → State → Prop) (A : Nat → Prop) : String → State → State → Prop := fun E st t => ∃ u : S, px u ∧ B E u t ∧ va_F A st t
section Runs
variable {p : Program} {l : Launch} {e : Env} {R : Room} {s : State} {m : MethodId} {args : Array Value} {below : List Frame} {meth : Method} {c : Code} {H : Heap} {locs : List Loc} {cells slots : Nat}
variable {y : MethodName} {bytes cc : ByteArray} {maxL nL mc ms n index : Nat} {ret : Option FieldType} {ws : List Cond} {rm : Room} {Pc : Array Value → State → Prop} {Qc : Array Value → State → Outcome → State → Prop} {XC : String → State → State → Prop} {free : Addr → Prop} {Ts : List Cond} {own C : String} {b : Addr} {As rest : List Value} {g : JFrame}
theorem vx_callBack (cb : CallB R s args own index y bytes maxL ret ws rm mc ms n) (hM : vx_Met l y ws rm Pc Qc XC mc ms free) (hbl : FrameBlind Pc) : vx_Back l R p e below s args y 3 8 (PreOf R mc ms Pc) (PostOf Qc mc ms free) (vx_Post XC mc ms free) := by
  obtain ⟨hrc, hrs, hfr, hlo, hws, hcw, -, hini, -⟩ := cb
  exact vx_back (bytes := bytes) (maxL := maxL) (ret := ret) hM hbl hrc hrs hfr hlo hws hcw (fun a' U hW => word_at hW (Or.inl (by first | rfl | simp [Cond.onTables, Cond.keeps, Cond.steady])) hini)
theorem vx_runV (S : CallFix p m c cc nL s args Ts own) (hM : vx_Met l y ws rm Pc Qc XC mc ms free) (cw : CallW R s args own C index y bytes maxL ret ws rm mc ms n) (hp : PreV s H C b Pc As)
    (hg : g.method = m) (hn : As.length = n) (hsize : g.locals.size = nL) (hstack : g.stack = As.reverse ++ .ref b :: rest) (hW : 2 * g.monitorRoom + (rest.map fun v => v.category).sum ≤ 8) (hdg : decode cc g.pc = .ok (.invokevirtual index, 3)) (hf : cells + mc ≤ R.cells ∧ slots + ms ≤ R.slots) :
    vx_Run p l e R s m args below meth c H locs cells slots mc ms g rest (Qc (Value.ref b :: As).toArray) XC free := by
  have hK : vx_Back l R p e below s args y 3 8 (PreOf R mc ms Pc) (PostOf Qc mc ms free) (vx_Post XC mc ms free) := vx_callBack cw.1 hM hp.1
  obtain ⟨⟨-, -, -, -, -, -, hcode, -, hy, hlen, hl⟩, hin, hse⟩ := cw
  obtain ⟨hx, hb, hml, ho, -⟩ := S
  obtain ⟨-, ⟨cellB, hcB, hoB, hclB⟩, hPc⟩ := hp
  intro T hT X
  rcases vx_callV X hx (C := C) (bytes := bytes) (maxL := maxL) (ret := ret) ho hl hin hse hcode hy hK (by rw [hT]; exact hcB) hoB hclB hg (hsize.trans hml.symm) (argsL := As) (rest := rest) (fun sig h => hn.trans (hlen sig h)) hstack hW (by rw [hb]; exact hdg)
    (fun vm₁ hW₁ => ⟨hf.1, hf.2, hPc (T.setVm vm₁) hT hW₁⟩) with ⟨v, vm₁, ⟨U', l2, c2, s2⟩, hW₁, X', ⟨g', mk, t, L, e1, e2, hq, h1, hL, h2, h3⟩, st⟩ | ⟨q, vm₁, ⟨U', l2, c2, s2⟩, hW₁, X', ⟨g', mk, t, L, E, ce, e1, e2, hq, hce, hcv, hcl, h1, hL, h2, h3⟩, st⟩
  · dsimp only [Pt.U, Pt.locs, Pt.cells, Pt.slots] at X' e1 e2 h1 h2 h3 st
    subst h1; subst h2; subst h3
    exact Or.inl ⟨v, (T.setVm vm₁).calling g' mk (Value.ref b :: As).toArray, t, U', L, hT, X', hL, e1, e2, hq, st⟩
  · dsimp only [Pt.U, Pt.locs, Pt.cells, Pt.slots] at X' e1 e2 h1 h2 h3 st hcl
    subst h1; subst h2; subst h3
    exact Or.inr ⟨q, (T.setVm vm₁).calling g' mk (Value.ref b :: As).toArray, t, U', L, E, ce, hT, X', hL, e1, e2, hq, hce, hcv, vx_cls hW₁ hcl, st⟩
theorem vx_runS (S : CallFix p m c cc nL s args Ts own) (hM : vx_Met l y ws rm Pc Qc XC mc ms free) (cw : CallB R s args own index y bytes maxL ret ws rm mc ms n ∧ (Cond.static y).before args s = true) (hp : PreS s H Pc As)
    (hg : g.method = m) (hn : As.length = n) (hsize : g.locals.size = nL) (hstack : g.stack = As.reverse ++ rest) (hW : 2 * g.monitorRoom + (rest.map fun v => v.category).sum ≤ 8) (hdg : decode cc g.pc = .ok (.invokestatic index, 3)) (hf : cells + mc ≤ R.cells ∧ slots + ms ≤ R.slots) :
    vx_Run p l e R s m args below meth c H locs cells slots mc ms g rest (Qc As.toArray) XC free := by
  have hK : vx_Back l R p e below s args y 3 8 (PreOf R mc ms Pc) (PostOf Qc mc ms free) (vx_Post XC mc ms free) := vx_callBack cw.1 hM hp.1
  obtain ⟨⟨-, -, -, -, -, -, hcode, hini, hy, hlen, hl⟩, hstt⟩ := cw
  obtain ⟨hx, hb, hml, ho, -⟩ := S
  intro T hT X
  rcases vx_callS X hx (bytes := bytes) (maxL := maxL) (ret := ret) ho hl hstt hini hcode hy hK hg (hsize.trans hml.symm) (argsL := As) (rest := rest) (fun sig h => hn.trans (hlen sig h)) hstack hW (by rw [hb]; exact hdg)
    (fun vm₁ hW₁ => ⟨hf.1, hf.2, hp.2 (T.setVm vm₁) hT hW₁⟩) with ⟨v, vm₁, ⟨U', l2, c2, s2⟩, hW₁, X', ⟨g', mk, t, L, e1, e2, hq, h1, hL, h2, h3⟩, st⟩ | ⟨q, vm₁, ⟨U', l2, c2, s2⟩, hW₁, X', ⟨g', mk, t, L, E, ce, e1, e2, hq, hce, hcv, hcl, h1, hL, h2, h3⟩, st⟩
  · dsimp only [Pt.U, Pt.locs, Pt.cells, Pt.slots] at X' e1 e2 h1 h2 h3 st
    subst h1; subst h2; subst h3
    exact Or.inl ⟨v, (T.setVm vm₁).calling g' mk As.toArray, t, U', L, hT, X', hL, e1, e2, hq, st⟩
  · dsimp only [Pt.U, Pt.locs, Pt.cells, Pt.slots] at X' e1 e2 h1 h2 h3 st hcl
    subst h1; subst h2; subst h3
    exact Or.inr ⟨q, (T.setVm vm₁).calling g' mk As.toArray, t, U', L, E, ce, hT, X', hL, e1, e2, hq, hce, hcv, vx_cls hW₁ hcl, st⟩
end Runs
section Rows
variable {p : Program} {l : Launch} {e : Env} {R : Room} {s : State} {m : MethodId} {args : Array Value} {below : List Frame} {meth : Method} {c : Code} {H : Heap} {locs : List Loc} {cells slots : Nat} {Q : State → Prop}
variable {mc ms : Nat} {free : Addr → Prop} {A0 A1 : Nat → Prop} {H0 : Heap} {a : Array Value} {pc : Nat} {ls : Array Slot} {st0 rest : List Value}
theorem vx_keep {st₀ t T' : State} {L : List Loc} (h0 : st₀.heap = H) (e1 : T'.heap = t.heap) (hS : va_S A0 H0 H locs) (hA : ∀ q, q < H.size → A1 q → A0 q) (hf : ∀ q, free q → A0 q) (hL : ∀ q ∈ L, free q.base) (hF : va_F A1 st₀ t) :
    H.size ≤ T'.heap.size ∧ (∀ q : Nat, q < H.size → ¬ A1 q → T'.heap[q]? = H[q]?) ∧ va_S A0 H0 T'.heap (locs ++ L) := by
  obtain ⟨hz, hk⟩ := hF
  rw [h0] at hz hk
  exact ⟨by rw [e1]; exact hz, fun q h1 h2 => by rw [e1]; exact hk q h1 h2,
    ⟨Nat.le_trans hS.1 (by rw [e1]; exact hz), fun q h1 h2 => by rw [e1, hk q (Nat.lt_of_lt_of_le h1 hS.1) (fun z => h2 (hA q (Nat.lt_of_lt_of_le h1 hS.1) z))]; exact hS.2.1 q h1 h2, fun q hq => by
      rcases List.mem_append.mp hq with h | h
      · exact hS.2.2 q h
      · exact hf _ (hL q h)⟩⟩
theorem vx_calli {S SX : Type} {post : Int32 → S → Prop} {px : SX → Prop} {B : S → State → Prop} {BX : String → SX → State → Prop} {AX : Nat → Prop} (hr : vx_Run p l e R s m args below meth c H locs cells slots mc ms (F0 m pc ls st0) rest (va_Qi post B A1 a) (vx_X px BX AX) free) (hS : va_S A0 H0 H locs) (hA : ∀ q, q < H.size → A1 q → A0 q) (hf : ∀ q, free q → A0 q) (hAX : ∀ q, q < H.size → AX q → A0 q)
    (kx : ∀ (E : String) (ce : Cell) (q9 : Addr) (u : SX) (t : State) (H1 : Heap) (locs1 : List Loc), t.heap = H1 → s.vm.Alike t.vm → px u → BX E u t → H.size ≤ H1.size → (∀ q : Nat, q < H.size → ¬ AX q → H1[q]? = H[q]?) → va_S A0 H0 H1 locs1 → H1[q9]? = some ce → ce.vm = .none → s.vm.findClass E = some ce.cls → vx_W p l e R s m args below meth c H1 locs1 (cells + mc) (slots + ms) Q (F0 m pc ls rest) q9)
    (kk : ∀ (r : Int32) (u : S) (t : State) (H1 : Heap) (locs1 : List Loc), t.heap = H1 → s.vm.Alike t.vm → post r u → B u t → H.size ≤ H1.size → (∀ q : Nat, q < H.size → ¬ A1 q → H1[q]? = H[q]?) → va_S A0 H0 H1 locs1 → W p l e R s m args below meth c H1 locs1 (cells + mc) (slots + ms) Q (F0 m (pc + 3) ls (.int r :: rest))) : W p l e R s m args below meth c H locs cells slots Q (F0 m pc ls st0) := by
  intro T hT X
  rcases hr T hT X with ⟨v, st₀, t, T', L, h0, X', hL, e1, e2, ⟨⟨r, u, hv, hp, hb⟩, hF⟩, st⟩ | ⟨q, st₀, t, T', L, E, ce, h0, X', hL, e1, e2, ⟨u, hp, hb, hF⟩, hce, hcv, hcl, st⟩
  · cases hv
    obtain ⟨k1, k2, k3⟩ := vx_keep h0 e1 hS hA hf hL hF
    obtain ⟨t2, a1, b1⟩ := kk r u t T'.heap (locs ++ L) e1.symm (by rw [← e2]; exact X'.warmed.alike) hp hb k1 k2 k3 T' rfl X'
    exact ⟨t2, st t2 a1, b1⟩
  · obtain ⟨k1, k2, k3⟩ := vx_keep h0 e1 hS hAX hf hL hF
    obtain ⟨t2, a1, b1⟩ := kx E ce q u t T'.heap (locs ++ L) e1.symm (by rw [← e2]; exact X'.warmed.alike) hp hb k1 k2 k3 (by rw [e1]; exact hce) hcv hcl T' rfl X'
    exact ⟨t2, st.trans a1, b1⟩
theorem vx_calll {S SX : Type} {post : Int64 → S → Prop} {px : SX → Prop} {B : S → State → Prop} {BX : String → SX → State → Prop} {AX : Nat → Prop} (hr : vx_Run p l e R s m args below meth c H locs cells slots mc ms (F0 m pc ls st0) rest (va_Ql post B A1 a) (vx_X px BX AX) free) (hS : va_S A0 H0 H locs) (hA : ∀ q, q < H.size → A1 q → A0 q) (hf : ∀ q, free q → A0 q) (hAX : ∀ q, q < H.size → AX q → A0 q)
    (kx : ∀ (E : String) (ce : Cell) (q9 : Addr) (u : SX) (t : State) (H1 : Heap) (locs1 : List Loc), t.heap = H1 → s.vm.Alike t.vm → px u → BX E u t → H.size ≤ H1.size → (∀ q : Nat, q < H.size → ¬ AX q → H1[q]? = H[q]?) → va_S A0 H0 H1 locs1 → H1[q9]? = some ce → ce.vm = .none → s.vm.findClass E = some ce.cls → vx_W p l e R s m args below meth c H1 locs1 (cells + mc) (slots + ms) Q (F0 m pc ls rest) q9)
    (kk : ∀ (r : Int64) (u : S) (t : State) (H1 : Heap) (locs1 : List Loc), t.heap = H1 → s.vm.Alike t.vm → post r u → B u t → H.size ≤ H1.size → (∀ q : Nat, q < H.size → ¬ A1 q → H1[q]? = H[q]?) → va_S A0 H0 H1 locs1 → W p l e R s m args below meth c H1 locs1 (cells + mc) (slots + ms) Q (F0 m (pc + 3) ls (.long r :: rest))) : W p l e R s m args below meth c H locs cells slots Q (F0 m pc ls st0) := by
  intro T hT X
  rcases hr T hT X with ⟨v, st₀, t, T', L, h0, X', hL, e1, e2, ⟨⟨r, u, hv, hp, hb⟩, hF⟩, st⟩ | ⟨q, st₀, t, T', L, E, ce, h0, X', hL, e1, e2, ⟨u, hp, hb, hF⟩, hce, hcv, hcl, st⟩
  · cases hv
    obtain ⟨k1, k2, k3⟩ := vx_keep h0 e1 hS hA hf hL hF
    obtain ⟨t2, a1, b1⟩ := kk r u t T'.heap (locs ++ L) e1.symm (by rw [← e2]; exact X'.warmed.alike) hp hb k1 k2 k3 T' rfl X'
    exact ⟨t2, st t2 a1, b1⟩
  · obtain ⟨k1, k2, k3⟩ := vx_keep h0 e1 hS hAX hf hL hF
    obtain ⟨t2, a1, b1⟩ := kx E ce q u t T'.heap (locs ++ L) e1.symm (by rw [← e2]; exact X'.warmed.alike) hp hb k1 k2 k3 (by rw [e1]; exact hce) hcv hcl T' rfl X'
    exact ⟨t2, st.trans a1, b1⟩
theorem vx_callf {S SX : Type} {post : UInt32 → S → Prop} {px : SX → Prop} {B : S → State → Prop} {BX : String → SX → State → Prop} {AX : Nat → Prop} (hr : vx_Run p l e R s m args below meth c H locs cells slots mc ms (F0 m pc ls st0) rest (va_Qf post B A1 a) (vx_X px BX AX) free) (hS : va_S A0 H0 H locs) (hA : ∀ q, q < H.size → A1 q → A0 q) (hf : ∀ q, free q → A0 q) (hAX : ∀ q, q < H.size → AX q → A0 q)
    (kx : ∀ (E : String) (ce : Cell) (q9 : Addr) (u : SX) (t : State) (H1 : Heap) (locs1 : List Loc), t.heap = H1 → s.vm.Alike t.vm → px u → BX E u t → H.size ≤ H1.size → (∀ q : Nat, q < H.size → ¬ AX q → H1[q]? = H[q]?) → va_S A0 H0 H1 locs1 → H1[q9]? = some ce → ce.vm = .none → s.vm.findClass E = some ce.cls → vx_W p l e R s m args below meth c H1 locs1 (cells + mc) (slots + ms) Q (F0 m pc ls rest) q9)
    (kk : ∀ (r : UInt32) (u : S) (t : State) (H1 : Heap) (locs1 : List Loc), t.heap = H1 → s.vm.Alike t.vm → post r u → B u t → H.size ≤ H1.size → (∀ q : Nat, q < H.size → ¬ A1 q → H1[q]? = H[q]?) → va_S A0 H0 H1 locs1 → W p l e R s m args below meth c H1 locs1 (cells + mc) (slots + ms) Q (F0 m (pc + 3) ls (.float r :: rest))) : W p l e R s m args below meth c H locs cells slots Q (F0 m pc ls st0) := by
  intro T hT X
  rcases hr T hT X with ⟨v, st₀, t, T', L, h0, X', hL, e1, e2, ⟨⟨r, u, hv, hp, hb⟩, hF⟩, st⟩ | ⟨q, st₀, t, T', L, E, ce, h0, X', hL, e1, e2, ⟨u, hp, hb, hF⟩, hce, hcv, hcl, st⟩
  · cases hv
    obtain ⟨k1, k2, k3⟩ := vx_keep h0 e1 hS hA hf hL hF
    obtain ⟨t2, a1, b1⟩ := kk r u t T'.heap (locs ++ L) e1.symm (by rw [← e2]; exact X'.warmed.alike) hp hb k1 k2 k3 T' rfl X'
    exact ⟨t2, st t2 a1, b1⟩
  · obtain ⟨k1, k2, k3⟩ := vx_keep h0 e1 hS hAX hf hL hF
    obtain ⟨t2, a1, b1⟩ := kx E ce q u t T'.heap (locs ++ L) e1.symm (by rw [← e2]; exact X'.warmed.alike) hp hb k1 k2 k3 (by rw [e1]; exact hce) hcv hcl T' rfl X'
    exact ⟨t2, st.trans a1, b1⟩
theorem vx_calld {S SX : Type} {post : UInt64 → S → Prop} {px : SX → Prop} {B : S → State → Prop} {BX : String → SX → State → Prop} {AX : Nat → Prop} (hr : vx_Run p l e R s m args below meth c H locs cells slots mc ms (F0 m pc ls st0) rest (va_Qd post B A1 a) (vx_X px BX AX) free) (hS : va_S A0 H0 H locs) (hA : ∀ q, q < H.size → A1 q → A0 q) (hf : ∀ q, free q → A0 q) (hAX : ∀ q, q < H.size → AX q → A0 q)
    (kx : ∀ (E : String) (ce : Cell) (q9 : Addr) (u : SX) (t : State) (H1 : Heap) (locs1 : List Loc), t.heap = H1 → s.vm.Alike t.vm → px u → BX E u t → H.size ≤ H1.size → (∀ q : Nat, q < H.size → ¬ AX q → H1[q]? = H[q]?) → va_S A0 H0 H1 locs1 → H1[q9]? = some ce → ce.vm = .none → s.vm.findClass E = some ce.cls → vx_W p l e R s m args below meth c H1 locs1 (cells + mc) (slots + ms) Q (F0 m pc ls rest) q9)
    (kk : ∀ (r : UInt64) (u : S) (t : State) (H1 : Heap) (locs1 : List Loc), t.heap = H1 → s.vm.Alike t.vm → post r u → B u t → H.size ≤ H1.size → (∀ q : Nat, q < H.size → ¬ A1 q → H1[q]? = H[q]?) → va_S A0 H0 H1 locs1 → W p l e R s m args below meth c H1 locs1 (cells + mc) (slots + ms) Q (F0 m (pc + 3) ls (.double r :: rest))) : W p l e R s m args below meth c H locs cells slots Q (F0 m pc ls st0) := by
  intro T hT X
  rcases hr T hT X with ⟨v, st₀, t, T', L, h0, X', hL, e1, e2, ⟨⟨r, u, hv, hp, hb⟩, hF⟩, st⟩ | ⟨q, st₀, t, T', L, E, ce, h0, X', hL, e1, e2, ⟨u, hp, hb, hF⟩, hce, hcv, hcl, st⟩
  · cases hv
    obtain ⟨k1, k2, k3⟩ := vx_keep h0 e1 hS hA hf hL hF
    obtain ⟨t2, a1, b1⟩ := kk r u t T'.heap (locs ++ L) e1.symm (by rw [← e2]; exact X'.warmed.alike) hp hb k1 k2 k3 T' rfl X'
    exact ⟨t2, st t2 a1, b1⟩
  · obtain ⟨k1, k2, k3⟩ := vx_keep h0 e1 hS hAX hf hL hF
    obtain ⟨t2, a1, b1⟩ := kx E ce q u t T'.heap (locs ++ L) e1.symm (by rw [← e2]; exact X'.warmed.alike) hp hb k1 k2 k3 (by rw [e1]; exact hce) hcv hcl T' rfl X'
    exact ⟨t2, st.trans a1, b1⟩
theorem vx_callv {S SX : Type} {post : S → Prop} {px : SX → Prop} {B : S → State → Prop} {BX : String → SX → State → Prop} {AX : Nat → Prop} (hr : vx_Run p l e R s m args below meth c H locs cells slots mc ms (F0 m pc ls st0) rest (va_Qv post B A1 a) (vx_X px BX AX) free) (hS : va_S A0 H0 H locs) (hA : ∀ q, q < H.size → A1 q → A0 q) (hf : ∀ q, free q → A0 q) (hAX : ∀ q, q < H.size → AX q → A0 q)
    (kx : ∀ (E : String) (ce : Cell) (q9 : Addr) (u : SX) (t : State) (H1 : Heap) (locs1 : List Loc), t.heap = H1 → s.vm.Alike t.vm → px u → BX E u t → H.size ≤ H1.size → (∀ q : Nat, q < H.size → ¬ AX q → H1[q]? = H[q]?) → va_S A0 H0 H1 locs1 → H1[q9]? = some ce → ce.vm = .none → s.vm.findClass E = some ce.cls → vx_W p l e R s m args below meth c H1 locs1 (cells + mc) (slots + ms) Q (F0 m pc ls rest) q9)
    (kk : ∀ (u : S) (t : State) (H1 : Heap) (locs1 : List Loc), t.heap = H1 → s.vm.Alike t.vm → post u → B u t → H.size ≤ H1.size → (∀ q : Nat, q < H.size → ¬ A1 q → H1[q]? = H[q]?) → va_S A0 H0 H1 locs1 → W p l e R s m args below meth c H1 locs1 (cells + mc) (slots + ms) Q (F0 m (pc + 3) ls (rest))) : W p l e R s m args below meth c H locs cells slots Q (F0 m pc ls st0) := by
  intro T hT X
  rcases hr T hT X with ⟨v, st₀, t, T', L, h0, X', hL, e1, e2, ⟨⟨u, hv, hp, hb⟩, hF⟩, st⟩ | ⟨q, st₀, t, T', L, E, ce, h0, X', hL, e1, e2, ⟨u, hp, hb, hF⟩, hce, hcv, hcl, st⟩
  · cases hv
    obtain ⟨k1, k2, k3⟩ := vx_keep h0 e1 hS hA hf hL hF
    obtain ⟨t2, a1, b1⟩ := kk u t T'.heap (locs ++ L) e1.symm (by rw [← e2]; exact X'.warmed.alike) hp hb k1 k2 k3 T' rfl X'
    exact ⟨t2, st t2 a1, b1⟩
  · obtain ⟨k1, k2, k3⟩ := vx_keep h0 e1 hS hAX hf hL hF
    obtain ⟨t2, a1, b1⟩ := kx E ce q u t T'.heap (locs ++ L) e1.symm (by rw [← e2]; exact X'.warmed.alike) hp hb k1 k2 k3 (by rw [e1]; exact hce) hcv hcl T' rfl X'
    exact ⟨t2, st.trans a1, b1⟩
/-- caught by the row x of this method's table; the rows ahead don't take it -/
theorem vx_catch {own name : String} {E : String} {ce : Cell} {q : Addr} (hown : s.vm.findClass own = some m.cls) (pre : List ExceptionTableEntry) (x : ExceptionTableEntry) (suf : List ExceptionTableEntry) (hsplit : c.exceptionTable.toList = pre ++ x :: suf)
    (hpass : ∀ z ∈ pre, covers z pc = false ∨ (z.catchType ≠ 0 ∧ ∃ nm : String, (Cond.classLink own z.catchType nm).before args s = true ∧ va_Nc E nm s)) (hx : covers x pc = true) (h0 : x.catchType ≠ 0)
    (hlink : (Cond.classLink own x.catchType name).before args s = true) (hcast : (Cond.castable E name).before args s = true) (hcell : H[q]? = some ce) (hv : ce.vm = .none) (hcl : s.vm.findClass E = some ce.cls)
    (kk : W p l e R s m args below meth c H locs cells slots Q (F0 m x.handlerPc ls [.ref q])) : vx_W p l e R s m args below meth c H locs cells slots Q (F0 m pc ls rest) q := by
  intro T hT X
  have hpl : e.platform.magicAccessors = ({} : Platform).magicAccessors := by rw [X.admits.platform]
  obtain ⟨c3, c4, hc3, hc4, hasg⟩ := Cond.castable_spec hcast
  cases Option.some.inj (hc3.symm.trans hcl)
  obtain ⟨c5, hc5, hcl5⟩ := Cond.classLink_spec hown hlink e.platform hpl
  cases Option.some.inj (hc4.symm.trans hc5)
  obtain ⟨vm', X', st⟩ := X.thenCaughtThrough q (g := F0 m pc ls rest) rfl (Steps.refl _) (by rw [hT]; exact hcell) (by rw [hv]; rfl) (by obtain ⟨k9, h9, -⟩ := Vm.findClass_spec hcl; exact ⟨k9, h9⟩) pre x suf hsplit
    (fun z hz => by
      rcases hpass z hz with h | ⟨hz0, nm, hl1, hn1⟩
      · exact Or.inl h
      · obtain ⟨c6, hc6, hcl6⟩ := Cond.classLink_spec hown hl1 e.platform hpl
        obtain ⟨a8, b8, h1, h2, h3⟩ := hn1
        cases Option.some.inj (h1.symm.trans hcl)
        cases Option.some.inj (h2.symm.trans hc6)
        exact Or.inr ⟨hz0, _, hcl6, h3⟩) hx (Or.inr ⟨h0, c4, hcl5, hasg⟩)
  obtain ⟨t, a1, b1⟩ := kk (T.setVm vm') hT X'
  exact ⟨t, st.trans a1, b1⟩
end Rows
section Ends
variable {p : Program} {l : Launch} {e : Env} {R : Room} {s : State} {m : MethodId} {args : Array Value} {below : List Frame} {meth : Method} {c : Code} {H : Heap} {locs : List Loc} {cells slots : Nat} {Q : State → Prop}
variable {mc ms : Nat} {free : Addr → Prop} {A0 A1 : Nat → Prop} {H0 : Heap} {a : Array Value} {ls : Array Slot} {st0 rest : List Value}
variable {Qc : Array Value → State → Outcome → State → Prop} {XC : String → State → State → Prop}
/-- what a body that may throw owes at its end -/
def vx_MQ (below : List Frame) (Qc : Array Value → State → Outcome → State → Prop) (XC : String → State → State → Prop) (a : Array Value) (s : State) (mc ms : Nat) (free : Addr → Prop) : State → Prop := fun t =>
  ∃ o, t.status = .running ∧ Ended t below o ∧ vx_Q Qc XC mc ms free a s o t
theorem vx_ret {g : JFrame} {mc ms : Nat} (k : W p l e R s m args below meth c H locs cells slots (MQ below Qc args s mc ms free) g) : W p l e R s m args below meth c H locs cells slots (vx_MQ below Qc XC args s mc ms free) g := by
  intro T hT X
  obtain ⟨t, a1, o, b1, b2, b3, b4⟩ := k T hT X
  exact ⟨t, a1, o, b1, b2, Or.inl ⟨b3, b4⟩⟩
/-- not caught here: it goes on to the caller -/
theorem vx_widen {g : JFrame} {q : Addr} {k n : Nat} (h1 : cells ≤ k) (h2 : slots ≤ n) (kk : vx_W p l e R s m args below meth c H locs k n Q g q) : vx_W p l e R s m args below meth c H locs cells slots Q g q := fun T hT X => kk T hT (stand_widen X h1 h2)
theorem vx_out {pc : Nat} {E : String} {ce : Cell} {q : Addr} {mc ms : Nat} (hout : ∀ x ∈ c.exceptionTable.toList, covers x pc = false) (hlocks : meth.locks = false) (hcell : H[q]? = some ce) (hv : ce.vm = .none) (hcl : s.vm.findClass E = some ce.cls)
    (hx : ∀ t : State, t.heap = H → s.vm.Alike t.vm → XC E s t) (hf : ∀ z ∈ locs, free z.base) (hc : cells ≤ mc) (hs : slots ≤ ms) :
    vx_W p l e R s m args below meth c H locs cells slots (vx_MQ below Qc XC args s mc ms free) (F0 m pc ls rest) q := by
  intro T hT X
  obtain ⟨st1, hrun, hend, hW, hsm⟩ := X.leaveThrown q (g := F0 m pc ls rest) rfl rfl rfl hout hlocks
  have hcell9 : (T.setFrames (.throwing q :: below)).heap[q]? = some ce := by
    show T.heap[q]? = some ce
    rw [hT]; exact hcell
  exact ⟨_, st1, .threw q, hrun, hend, Or.inr ⟨q, rfl, E, ce, locs, hx _ hT hW.alike, hcell9, hv, hcl, hW, hsm.mono hc hs, hf⟩⟩
theorem vx_frame {U : State} {k n : Nat} (h : s.sameButNew ({ U with vm := s.vm } : State) locs k n) : s.heap.size ≤ U.heap.size ∧ ∀ q : Nat, q < s.heap.size → (∀ z ∈ locs, z.base ≠ q) → U.heap[q]? = s.heap[q]? := by
  obtain ⟨-, h2, -, -, -, h6⟩ := h
  refine ⟨h2, fun q hq hz => ?_⟩
  obtain ⟨c9, e1, e2, e3, e4⟩ := h6 q _ (Array.getElem?_eq_getElem hq)
  have hs : c9.slots = (s.heap[q]).slots := Array.ext_getElem? fun i => e4 i fun hm => hz _ hm rfl
  have h9 : c9 = s.heap[q] := by
    rw [hs] at e2
    exact e2
  have e5 : U.heap[q]? = some c9 := e1
  rw [e5, h9, Array.getElem?_eq_getElem hq]
/-- the words of a throw but the four that speak of the heap -/
def vx_no (w : Cond) : Bool := decide (w ≠ .isRef (.static Bundle.tN "UNASSIGNED_STACK" Bundle.steD)) && decide (w ≠ .isRef (.static Bundle.tN "SUPPRESSED_SENTINEL" Bundle.listD)) && decide (w ≠ .laysStatic Bundle.tN "UNASSIGNED_STACK" Bundle.steD) && decide (w ≠ .laysStatic Bundle.tN "SUPPRESSED_SENTINEL" Bundle.listD)
def vx_at0 (own : String) (ic : Nat) (X : String) (names : List String) : List Cond := (Bundle.ownAtoms0 own ic X names).filter vx_no
def vx_atS (own : String) (ic : Nat) (X : String) (names : List String) : List Cond := (Bundle.ownAtoms own ic X names).filter vx_no
/-- a word that the tables alone decide, or a good one -/
def vx_ot (w : Cond) : Bool := w.onTables || goodWord w
theorem vx_ot_at {args a' : Array Value} {s U : State} {w : Cond} (hW : s.WarmedH U.vm) (hvm : s.vm = U.vm) (hg : vx_ot w = true) (h : w.before args s = true) : w.before a' U = true := by
  simp only [vx_ot, Bool.or_eq_true] at hg
  rcases hg with hg | hg
  · exact va_tabs hg hvm h
  · exact word_at hW (good_of_word hg) h
/-- a list's words: the good ones out of the method's own list, the others by premises of their own -/
theorem vx_hat {args : Array Value} {s : State} {L B : List Cond} (h1 : ∀ w ∈ L.filter goodWord, w.before args s = true) (h2 : ∀ w ∈ L.filter (fun w => !goodWord w), w ∈ B) (h3 : ∀ w ∈ B, w.before args s = true) : ∀ w ∈ L, w.before args s = true := by
  intro w hw
  by_cases g : goodWord w = true
  · exact h1 w (List.mem_filter.mpr ⟨hw, g⟩)
  · refine h3 w (h2 w (List.mem_filter.mpr ⟨hw, ?_⟩))
    show (!goodWord w) = true
    cases hgw : goodWord w
    · rfl
    · exact absurd hgw g
theorem vx_c {args : Array Value} {s : State} {w : Cond} {B : List Cond} (h : w.before args s = true) (t : ∀ w ∈ B, w.before args s = true) : ∀ w' ∈ w :: B, w'.before args s = true := fun w' h' => (List.mem_cons.mp h').elim (fun e => by rw [e]; exact h) (t w')
theorem vx_n {args : Array Value} {s : State} : ∀ w ∈ ([] : List Cond), w.before args s = true := fun _ h => nomatch h
theorem vx_own {args : Array Value} {s : State} {L : List Cond} (h1 : ∀ w ∈ L.filter vx_no, w.before args s = true)
    (hU : (Cond.isRef (.static Bundle.tN "UNASSIGNED_STACK" Bundle.steD)).before args s = true) (hN : (Cond.isRef (.static Bundle.tN "SUPPRESSED_SENTINEL" Bundle.listD)).before args s = true)
    (lU : (Cond.laysStatic Bundle.tN "UNASSIGNED_STACK" Bundle.steD).before args s = true) (lN : (Cond.laysStatic Bundle.tN "SUPPRESSED_SENTINEL" Bundle.listD).before args s = true) : ∀ w ∈ L, w.before args s = true := by
  intro w hw
  by_cases e1 : w = .isRef (.static Bundle.tN "UNASSIGNED_STACK" Bundle.steD)
  · rw [e1]; exact hU
  · by_cases e2 : w = .isRef (.static Bundle.tN "SUPPRESSED_SENTINEL" Bundle.listD)
    · rw [e2]; exact hN
    · by_cases e3 : w = .laysStatic Bundle.tN "UNASSIGNED_STACK" Bundle.steD
      · rw [e3]; exact lU
      · by_cases e4 : w = .laysStatic Bundle.tN "SUPPRESSED_SENTINEL" Bundle.listD
        · rw [e4]; exact lN
        · exact h1 w (List.mem_filter.mpr ⟨hw, by unfold vx_no; rw [decide_eq_true e1, decide_eq_true e2, decide_eq_true e3, decide_eq_true e4]; rfl⟩)
/-- where a static field lies, its class's statics cell in H -/
def vx_L (C n d : String) (A : Nat → Prop) (U : State) (H : Heap) : Prop := ∃ (c : ClassId) (k : Class) (i : Nat) (f : Field) (a : Nat) (cell : Cell), U.vm.findClass C = some c ∧ U.fieldFound? C n d = some (c, k, i, f) ∧ f.isStatic = true ∧ k.statics = some a ∧ H[a]? = some cell ∧ cell.vm.isStatics = true ∧ cell.cls = c ∧ f.slot < cell.slots.size ∧ k.staticTypes[f.slot]? = some f.type ∧ ¬ A a
theorem vx_L.moved {C n d : String} {A : Nat → Prop} {u U : State} {H : Heap} (hvm : u.vm.Alike U.vm) (h : vx_L C n d A u H) : vx_L C n d A U H := by
  obtain ⟨c, k, i, f, a, cell, h1, h2, h3, h4, h5, h6, h7, h8, h9, h10⟩ := h
  obtain ⟨k', hi', he⟩ := State.fieldFound?_setVm hvm h2
  exact ⟨c, k', i, f, a, cell, by rw [hvm.findClass]; exact h1, hi', h3, by rw [he]; exact h4, h5, h6, h7, h8, by rw [he]; exact h9, h10⟩
theorem vx_L.kept {C n d : String} {A : Nat → Prop} {U : State} {H H1 : Heap} (h : vx_L C n d A U H) (hq : ∀ a : Nat, a < H.size → ¬ A a → H1[a]? = H[a]?) : vx_L C n d A U H1 := by
  obtain ⟨c, k, i, f, a, cell, h1, h2, h3, h4, h5, h6, h7, h8, h9, h10⟩ := h
  exact ⟨c, k, i, f, a, cell, h1, h2, h3, h4, by rw [hq a (Array.getElem?_eq_some_iff.mp h5).1 h10]; exact h5, h6, h7, h8, h9, h10⟩
theorem vx_L.narrow {C n d : String} {A B : Nat → Prop} {U : State} {H : Heap} (h : vx_L C n d A U H) (hAB : ∀ q, B q → A q) : vx_L C n d B U H := by
  obtain ⟨c, k, i, f, a, cell, h1, h2, h3, h4, h5, h6, h7, h8, h9, h10⟩ := h
  exact ⟨c, k, i, f, a, cell, h1, h2, h3, h4, h5, h6, h7, h8, h9, fun z => h10 (hAB _ z)⟩
theorem vx_L.word {C n d : String} {A : Nat → Prop} {s : State} {args : Array Value} (h : vx_L C n d A s s.heap) : (Cond.laysStatic C n d).before args s = true := by
  obtain ⟨c, k, i, f, a, cell, h1, h2, h3, h4, h5, h6, h7, h8, h9, -⟩ := h
  show (Cond.laysStatic C n d).holds args s none s [] = true
  exact Cond.laysStatic_of h1 h2 h3 h4 h5 h6 h7 h8 h9
/-- .. and what it holds: null or some reference -/
def vx_Zq (C n d : String) (A : Nat → Prop) (U : State) (H : Heap) : Prop := va_Zq C n d A U H ∧ vx_L C n d A U H
theorem vx_Zq.moved {C n d : String} {A : Nat → Prop} {u U : State} {H : Heap} (hvm : u.vm.Alike U.vm) (h : vx_Zq C n d A u H) : vx_Zq C n d A U H := ⟨va_Zq.moved hvm h.1, vx_L.moved hvm h.2⟩
theorem vx_Zq.kept {C n d : String} {A : Nat → Prop} {U : State} {H H1 : Heap} (h : vx_Zq C n d A U H) (hq : ∀ a : Nat, a < H.size → ¬ A a → H1[a]? = H[a]?) : vx_Zq C n d A U H1 := ⟨va_Zq.kept h.1 hq, vx_L.kept h.2 hq⟩
theorem vx_Zq.narrow {C n d : String} {A B : Nat → Prop} {U : State} {H : Heap} (h : vx_Zq C n d A U H) (hAB : ∀ q, B q → A q) : vx_Zq C n d B U H := ⟨va_Zq.narrow h.1 hAB, vx_L.narrow h.2 hAB⟩
theorem vx_Zqof {args : Array Value} {s : State} {C n d : String} {A : Nat → Prop} (hl : (Cond.laysStatic C n d).before args s = true) (hini : (Cond.initialized C).before args s = true) (h : (Cond.isRef (.static C n d)).before args s = true) (hA : ∀ a : Nat, a < s.heap.size → ¬ A a) : vx_Zq C n d A s s.heap := by
  refine ⟨va_Zqof hl hini h hA, ?_⟩
  obtain ⟨c, k, i, f, a, cell, h1, h2, h3, h4, h5, h6, h7, h8, h9⟩ := Cond.laysStatic_spec hl
  exact ⟨c, k, i, f, a, cell, h1, h2, h3, h4, h5, h6, h7, h8, h9, hA a (Array.getElem?_eq_some_iff.mp h5).1⟩
theorem vx_isRef {C n d : String} {v : Value} {A : Nat → Prop} {s : State} {args : Array Value} (h : va_Z C n d v A s s.heap) (hv : v.isRef = true) : (Cond.isRef (.static C n d)).before args s = true := by
  obtain ⟨cf, kf, fi, f, a, cell, h1, h2, h3, h4, h5, h6, h7, -⟩ := h
  have he : (Term.static C n d).eval args s none [] s = some v := by
    simp [Term.eval, State.fieldNamed?, h1, h2, h4, h5, h6, h7]
  simp only [Cond.before, Cond.holds, Cond.value, he]
  cases v <;> simp_all [Value.isRef]
theorem vx_isRefq {C n d : String} {A : Nat → Prop} {s : State} {args : Array Value} (h : va_Zq C n d A s s.heap) : (Cond.isRef (.static C n d)).before args s = true := by
  rcases h with h | ⟨t, h⟩
  · exact vx_isRef h rfl
  · exact vx_isRef h rfl
/-- the same frame, seen from here: as if the method were called anew in this heap -/
theorem vx_rebase {T : State} (X : Stand p l e R s m args below meth c T locs cells slots) {R' : Room} (hf : R'.frames ≤ R.frames) (hl : R'.locals ≤ R.locals) (hc : cells + R'.cells ≤ R.cells) (hs : slots + R'.slots ≤ R.slots) :
    Stand p l e R' ((T.setVm s.vm).setFrames (.invoking m args :: below)) m args below meth c T [] 0 0 := by
  have htop : (T.setVm s.vm).topJava?.isSome := X.here.top
  have hF : ((T.setVm s.vm).setFrames (.invoking m args :: below)).frames = .invoking m args :: below := State.frames_setFrames _ (State.cur_lt_of_top htop)
  obtain ⟨g₀, hg0⟩ := Option.isSome_iff_exists.mp htop
  obtain ⟨r, hr⟩ := State.topJava?_eq_some.mp hg0
  have hl9 : e.platform.stackLimits (T.setVm s.vm).me = e.platform.stackLimits s.me := X.limits
  have hb9 : (T.setVm s.vm).me.stackBytes = s.me.stackBytes := X.bytes
  refine ⟨X.admits, X.cas, X.clock, hF, ?_, X.hears, X.method, X.code, X.here, X.tail, X.warmed, ?_, ?_, ?_⟩
  · have h := X.room
    have hU : ((T.setVm s.vm).setFrames (.invoking m args :: below)).localsInUse = s.localsInUse := by
      rw [State.localsInUse_invoking hF (meth := meth) (c := c) X.method X.code, State.localsInUse_invoking X.frames X.method X.code]
    simp only [State.hasRoom, Bool.and_eq_true, decide_eq_true_eq] at h ⊢
    obtain ⟨⟨⟨⟨h1, h2, h3, h4, h5, h6⟩, h7⟩, h8⟩, h9⟩ := h
    rw [X.frames, List.length_cons] at h2 h3
    have q1 := X.heapSize
    have q2 := X.used
    simp only [hF, hU, List.length_cons, State.stackLimits_setFrames, State.stackBytes_setFrames, hl9, hb9]
    refine ⟨⟨⟨⟨by omega, by omega, by omega, by omega, by omega, h6⟩, ?_⟩, ?_⟩, X.book⟩
    · show T.heap.size + R'.cells ≤ e.platform.maxCells
      omega
    · show T.slotsUsed + R'.slots ≤ e.platform.maxSlots
      omega
  · rw [State.stackLimits_setFrames]; rfl
  · rw [State.stackBytes_setFrames]; rfl
  · refine ⟨?_, Nat.le_refl _, Nat.le_refl _, ?_, ?_, fun a c9 h9 => ⟨c9, h9, rfl, rfl, fun _ _ => rfl⟩⟩
    · obtain ⟨t, ht, -⟩ := State.frames_cons hr
      show T.setVm s.vm = { ((T.setVm s.vm).setFrames (.invoking m args :: below)).setFrames (T.setVm s.vm).frames with heap := T.heap, slotsUsed := T.slotsUsed }
      rw [State.setFrames_setFrames, State.setFrames_self ht]
      rfl
    · show T.slotsUsed = T.slotsUsed + ((T.heap.toList.drop T.heap.size).map (·.slots.size)).sum
      rw [List.drop_eq_nil_of_le (Nat.le_of_eq Array.length_toList)]
      rfl
    · show ((T.heap.toList.drop T.heap.size).map (·.slots.size)).sum ≤ 0
      rw [List.drop_eq_nil_of_le (Nat.le_of_eq Array.length_toList)]
      exact Nat.le_refl _
/-- 'throw new E()': new; dup; invokespecial; athrow -/
theorem vx_throw0 {cc : ByteArray} {pc : Nat} (hexec : p.tables.exec = Jvm.exec) (hb : c.code = cc) (hl : l.stackTraces = false) {own cls : String} {names : List String} {ik ic mc ms : Nat} {A : Nat → Prop}
    (hown : s.vm.findClass own = some m.cls) (hcls : Bundle.fit cls = true) (hnames : ∀ n ∈ names, Bundle.fit n = true)
    (hk : (Cond.classLink own ik cls).before args s = true) (hini : (Cond.initialized cls).before args s = true) (hat : ∀ w ∈ vx_at0 own ic cls names, w.before args s = true)
    (hgood : ∀ w ∈ Cond.classLink own ik cls :: Cond.initialized cls :: vx_at0 own ic cls names, vx_ot w = true)
    (hU : vx_Zq Bundle.tN "UNASSIGNED_STACK" Bundle.steD A s s.heap) (hN : vx_Zq Bundle.tN "SUPPRESSED_SENTINEL" Bundle.listD A s s.heap) (hS : va_S A s.heap H locs) (hsize : ls.size = c.maxLocals)
    (d0 : decode cc pc = .ok (.new ik, 3)) (d3 : decode cc (pc + 3) = .ok (.dup, 1)) (d4 : decode cc (pc + 4) = .ok (.invokespecial ic, 3)) (d7 : decode cc (pc + 7) = .ok (.athrow, 1))
    (hout : ∀ x ∈ c.exceptionTable.toList, covers x (pc + 7) = false)
    (hRframes : names.length + 3 < R.frames) (hRlocals : (rest.map fun v => v.category).sum + (13 * (names.length + 1) + 42) ≤ R.locals) (hRcells : cells + 1 ≤ R.cells) (hRslots : slots + 6 ≤ R.slots) (hlocks : meth.locks = false)
    (hx : ∀ t : State, s.vm.Alike t.vm → H.size ≤ t.heap.size → (∀ q : Nat, q < H.size → t.heap[q]? = H[q]?) → XC cls s t)
    (hf : ∀ z ∈ locs, free z.base) (hc : cells + 1 ≤ mc) (hs : slots + 6 ≤ ms) :
    W p l e R s m args below meth c H locs cells slots (vx_MQ below Qc XC args s mc ms free) (F0 m pc ls rest) := by
  intro T hT X
  have htr : e.platform.stackTraces = false := (show e.platform.stackTraces = l.stackTraces by rw [X.admits.platform]).trans hl
  have Y := vx_rebase X (R' := { frames := R.frames, locals := R.locals, cells := 1, slots := 6 }) (Nat.le_refl _) (Nat.le_refl _) hRcells hRslots
  obtain ⟨s', hA⟩ : ∃ z, z = (T.setVm s.vm).setFrames (.invoking m args :: below) := ⟨_, rfl⟩
  rw [← hA] at Y
  have hvm : s'.vm = s.vm := by rw [hA]; rfl
  have hhp : s'.heap = H := by rw [hA]; exact hT
  have hW0 : s.WarmedH s'.vm := by rw [hvm]; exact State.WarmedH.refl s
  have hat' : ∀ w ∈ vx_at0 own ic cls names, w.before args s' = true := fun w hw => vx_ot_at hW0 hvm.symm (hgood w (List.mem_cons_of_mem _ (List.mem_cons_of_mem _ hw))) (hat w hw)
  have hk' : (Cond.classLink own ik cls).before args s' = true := vx_ot_at hW0 hvm.symm (hgood _ List.mem_cons_self) hk
  have hini' : (Cond.initialized cls).before args s' = true := vx_ot_at hW0 hvm.symm (hgood _ (List.mem_cons_of_mem _ List.mem_cons_self)) hini
  have hU' : vx_Zq Bundle.tN "UNASSIGNED_STACK" Bundle.steD A s' s'.heap := by rw [hhp]; exact vx_Zq.moved hW0.alike (hU.kept hS.2.1)
  have hN' : vx_Zq Bundle.tN "SUPPRESSED_SENTINEL" Bundle.listD A s' s'.heap := by rw [hhp]; exact vx_Zq.moved hW0.alike (hN.kept hS.2.1)
  have h : ∀ w ∈ Bundle.ownAtoms0 own ic cls names, w.before args s' = true := vx_own hat' (vx_isRefq hU'.1) (vx_isRefq hN'.1) hU'.2.word hN'.2.word
  have hown' : s'.vm.findClass own = some m.cls := by rw [hvm]; exact hown
  have hins : (Cond.instantiable cls 6).before args s' = true := h _ (by simp [Bundle.ownAtoms0])
  obtain ⟨vm₁, cX, kX, hfX, hkX, -, -, X₁, st1⟩ := Y.newCold hexec (own := own) (C := cls) (index := ik) (n := 6) hown' hk' hins hini'
    (g := F0 m pc ls rest) rfl (by rw [hb]; exact d0) (Nat.le_refl _) (Nat.le_refl _)
  generalize hT1 : (T.setVm vm₁).pushCell { cls := cX, slots := kX.instanceTypes.map defaultValue, vm := .none } = T1 at X₁ st1
  have hcat : (Value.ref T.heap.size).category = 1 := rfl
  have hcellA : T1.heap[T.heap.size]? = some (freshCell cX kX) := by rw [← hT1]; exact State.heap_pushCell_size _ _
  have d3' : decode c.code (pc + 3) = .ok (.dup, 1) := by rw [hb]; exact d3
  obtain ⟨U, hsteps, hrun, hend, hW, hsame, ce, hce, hO⟩ := X₁.ctorThrow0 hexec htr (own := own) (cls := cls) (names := names) (ic := ic) hown' hcls hnames h (fun x hx => nomatch hx) hfX hkX hcellA (by rw [hhp, hT]; exact Nat.le_refl _)
    (g := { method := m, pc := pc + 4, locals := ls, stack := .ref T.heap.size :: .ref T.heap.size :: rest, locked := none }) rfl hsize rfl rfl (rest := rest) rfl
    (by rw [hb]; exact d4) (by rw [hb]; exact d7) hout hRframes (by simp only [List.map_cons, List.sum_cons, hcat]; omega) hlocks
  obtain ⟨f1, f2⟩ := vx_frame hsame
  rw [hhp] at f1 f2
  have hWs : s.WarmedH U.vm := State.WarmedH.trans hW0 hW
  have hcl : s.vm.findClass cls = some ce.cls := by
    have h9 := hO.cls
    rw [hvm] at h9
    exact h9
  have hall : s.sameButNew ({ U with vm := s.vm } : State) locs mc ms := by
    subst hA
    obtain ⟨e1, e2⟩ := hsame
    rw [State.setFrames_setFrames] at e1
    have h2 : (T.setVm s.vm).sameButNew ({ U with vm := s.vm } : State) [] (0 + 1) (0 + 6) := ⟨e1, e2⟩
    have h3 := X.same.trans h2
    rw [List.append_nil] at h3
    exact h3.mono hc hs
  refine ⟨U, ?_, .threw T.heap.size, hrun, hend, Or.inr ⟨T.heap.size, rfl, cls, ce, locs, hx U hWs.alike f1 (fun q hq => f2 q hq (fun z hz => nomatch hz)), hce, hO.vm, hcl, hWs, hall, hf⟩⟩
  refine st1 _ ?_
  show Steps p.tables e below (T1.setTop { method := m, pc := pc + 3, locals := ls, stack := .ref T.heap.size :: rest, locked := none }) _
  jvm_step X₁.here [X₁.here.top, hexec, d3', Value.category]
  exact hsteps
/-- 'throw new E("text")': new; dup; ldc; invokespecial; athrow -/
theorem vx_throwS {cc : ByteArray} {pc : Nat} (hexec : p.tables.exec = Jvm.exec) (hb : c.code = cc) (hl : l.stackTraces = false) {own cls text : String} {names : List String} {ik is ic mc ms sa : Nat} {A : Nat → Prop}
    (hown : s.vm.findClass own = some m.cls) (hcls : Bundle.fit cls = true) (hnames : ∀ n ∈ names, Bundle.fit n = true)
    (hk : (Cond.classLink own ik cls).before args s = true) (hini : (Cond.initialized cls).before args s = true) (hstr : vk_R own is text sa s) (hat : ∀ w ∈ vx_atS own ic cls names, w.before args s = true)
    (hgood : ∀ w ∈ Cond.classLink own ik cls :: Cond.initialized cls :: vx_atS own ic cls names, vx_ot w = true)
    (hU : vx_Zq Bundle.tN "UNASSIGNED_STACK" Bundle.steD A s s.heap) (hN : vx_Zq Bundle.tN "SUPPRESSED_SENTINEL" Bundle.listD A s s.heap) (hS : va_S A s.heap H locs) (hsize : ls.size = c.maxLocals)
    (d0 : decode cc pc = .ok (.new ik, 3)) (d3 : decode cc (pc + 3) = .ok (.dup, 1)) (d4 : decode cc (pc + 4) = .ok (.ldc is, 2)) (d6 : decode cc (pc + 6) = .ok (.invokespecial ic, 3)) (d9 : decode cc (pc + 9) = .ok (.athrow, 1))
    (hout : ∀ x ∈ c.exceptionTable.toList, covers x (pc + 9) = false)
    (hRframes : names.length + 3 < R.frames) (hRlocals : (rest.map fun v => v.category).sum + (13 * (names.length + 1) + 43) ≤ R.locals) (hRcells : cells + 1 ≤ R.cells) (hRslots : slots + 6 ≤ R.slots) (hlocks : meth.locks = false)
    (hx : ∀ t : State, s.vm.Alike t.vm → H.size ≤ t.heap.size → (∀ q : Nat, q < H.size → t.heap[q]? = H[q]?) → XC cls s t)
    (hf : ∀ z ∈ locs, free z.base) (hc : cells + 1 ≤ mc) (hs : slots + 6 ≤ ms) :
    W p l e R s m args below meth c H locs cells slots (vx_MQ below Qc XC args s mc ms free) (F0 m pc ls rest) := by
  intro T hT X
  have htr : e.platform.stackTraces = false := (show e.platform.stackTraces = l.stackTraces by rw [X.admits.platform]).trans hl
  have Y := vx_rebase X (R' := { frames := R.frames, locals := R.locals, cells := 1, slots := 6 }) (Nat.le_refl _) (Nat.le_refl _) hRcells hRslots
  obtain ⟨s', hA⟩ : ∃ z, z = (T.setVm s.vm).setFrames (.invoking m args :: below) := ⟨_, rfl⟩
  rw [← hA] at Y
  have hvm : s'.vm = s.vm := by rw [hA]; rfl
  have hhp : s'.heap = H := by rw [hA]; exact hT
  have hW0 : s.WarmedH s'.vm := by rw [hvm]; exact State.WarmedH.refl s
  have hat' : ∀ w ∈ vx_atS own ic cls names, w.before args s' = true := fun w hw => vx_ot_at hW0 hvm.symm (hgood w (List.mem_cons_of_mem _ (List.mem_cons_of_mem _ hw))) (hat w hw)
  have hk' : (Cond.classLink own ik cls).before args s' = true := vx_ot_at hW0 hvm.symm (hgood _ List.mem_cons_self) hk
  have hini' : (Cond.initialized cls).before args s' = true := vx_ot_at hW0 hvm.symm (hgood _ (List.mem_cons_of_mem _ List.mem_cons_self)) hini
  have hU' : vx_Zq Bundle.tN "UNASSIGNED_STACK" Bundle.steD A s' s'.heap := by rw [hhp]; exact vx_Zq.moved hW0.alike (hU.kept hS.2.1)
  have hN' : vx_Zq Bundle.tN "SUPPRESSED_SENTINEL" Bundle.listD A s' s'.heap := by rw [hhp]; exact vx_Zq.moved hW0.alike (hN.kept hS.2.1)
  have h : ∀ w ∈ Bundle.ownAtoms own ic cls names, w.before args s' = true := vx_own hat' (vx_isRefq hU'.1) (vx_isRefq hN'.1) hU'.2.word hN'.2.word
  have hown' : s'.vm.findClass own = some m.cls := by rw [hvm]; exact hown
  have hins : (Cond.instantiable cls 6).before args s' = true := h _ (by simp [Bundle.ownAtoms])
  obtain ⟨vm₁, cX, kX, hfX, hkX, -, -, X₁, st1⟩ := Y.newCold hexec (own := own) (C := cls) (index := ik) (n := 6) hown' hk' hins hini'
    (g := F0 m pc ls rest) rfl (by rw [hb]; exact d0) (Nat.le_refl _) (Nat.le_refl _)
  generalize hT1 : (T.setVm vm₁).pushCell { cls := cX, slots := kX.instanceTypes.map defaultValue, vm := .none } = T1 at X₁ st1
  have hcat : (Value.ref T.heap.size).category = 1 := rfl
  have hcellA : T1.heap[T.heap.size]? = some (freshCell cX kX) := by rw [← hT1]; exact State.heap_pushCell_size _ _
  have d3' : decode c.code (pc + 3) = .ok (.dup, 1) := by rw [hb]; exact d3
  have d4' : decode c.code (pc + 4) = .ok (.ldc is, 2) := by rw [hb]; exact d4
  have hstr' : vk_R own is text sa s' := vk_R.warm hW0 hstr
  obtain ⟨U, hsteps, hrun, hend, hW, hsame, ce, hce, hO⟩ := X₁.ctorThrowS hexec htr (own := own) (cls := cls) (names := names) (ic := ic) hown' hcls hnames h (fun x hx => nomatch hx) hfX hkX hcellA (by rw [hhp, hT]; exact Nat.le_refl _) (msg := .ref sa) rfl
    (g := { method := m, pc := pc + 6, locals := ls, stack := .ref sa :: .ref T.heap.size :: .ref T.heap.size :: rest, locked := none }) rfl hsize rfl rfl (rest := rest) rfl
    (by rw [hb]; exact d6) (by rw [hb]; exact d9) hout hRframes (by simp only [List.map_cons, List.sum_cons, hcat]; omega) hlocks
  obtain ⟨f1, f2⟩ := vx_frame hsame
  rw [hhp] at f1 f2
  have hWs : s.WarmedH U.vm := State.WarmedH.trans hW0 hW
  have hcl : s.vm.findClass cls = some ce.cls := by
    have h9 := hO.cls
    rw [hvm] at h9
    exact h9
  have hall : s.sameButNew ({ U with vm := s.vm } : State) locs mc ms := by
    subst hA
    obtain ⟨e1, e2⟩ := hsame
    rw [State.setFrames_setFrames] at e1
    have h2 : (T.setVm s.vm).sameButNew ({ U with vm := s.vm } : State) [] (0 + 1) (0 + 6) := ⟨e1, e2⟩
    have h3 := X.same.trans h2
    rw [List.append_nil] at h3
    exact h3.mono hc hs
  refine ⟨U, ?_, .threw T.heap.size, hrun, hend, Or.inr ⟨T.heap.size, rfl, cls, ce, locs, hx U hWs.alike f1 (fun q hq => f2 q hq (fun z hz => nomatch hz)), hce, hO.vm, hcl, hWs, hall, hf⟩⟩
  refine st1 _ ?_
  show Steps p.tables e below (T1.setTop { method := m, pc := pc + 3, locals := ls, stack := .ref T.heap.size :: rest, locked := none }) _
  jvm_step X₁.here [X₁.here.top, hexec, d3', Value.category]
  exact X₁.ldcString hexec (own := own) (text := text) (index := is) (a := sa) hown' hstr'.1 hstr'.2
    (g := { method := m, pc := pc + 4, locals := ls, stack := .ref T.heap.size :: .ref T.heap.size :: rest, locked := none }) rfl d4' _ hsteps
/-- 'throw new E("text")', the text by a wide index -/
theorem vx_throwSW {cc : ByteArray} {pc : Nat} (hexec : p.tables.exec = Jvm.exec) (hb : c.code = cc) (hl : l.stackTraces = false) {own cls text : String} {names : List String} {ik is ic mc ms sa : Nat} {A : Nat → Prop}
    (hown : s.vm.findClass own = some m.cls) (hcls : Bundle.fit cls = true) (hnames : ∀ n ∈ names, Bundle.fit n = true)
    (hk : (Cond.classLink own ik cls).before args s = true) (hini : (Cond.initialized cls).before args s = true) (hstr : vk_R own is text sa s) (hat : ∀ w ∈ vx_atS own ic cls names, w.before args s = true)
    (hgood : ∀ w ∈ Cond.classLink own ik cls :: Cond.initialized cls :: vx_atS own ic cls names, vx_ot w = true)
    (hU : vx_Zq Bundle.tN "UNASSIGNED_STACK" Bundle.steD A s s.heap) (hN : vx_Zq Bundle.tN "SUPPRESSED_SENTINEL" Bundle.listD A s s.heap) (hS : va_S A s.heap H locs) (hsize : ls.size = c.maxLocals)
    (d0 : decode cc pc = .ok (.new ik, 3)) (d3 : decode cc (pc + 3) = .ok (.dup, 1)) (d4 : decode cc (pc + 4) = .ok (.ldc_w is, 3)) (d7 : decode cc (pc + 7) = .ok (.invokespecial ic, 3)) (d10 : decode cc (pc + 10) = .ok (.athrow, 1))
    (hout : ∀ x ∈ c.exceptionTable.toList, covers x (pc + 10) = false)
    (hRframes : names.length + 3 < R.frames) (hRlocals : (rest.map fun v => v.category).sum + (13 * (names.length + 1) + 43) ≤ R.locals) (hRcells : cells + 1 ≤ R.cells) (hRslots : slots + 6 ≤ R.slots) (hlocks : meth.locks = false)
    (hx : ∀ t : State, s.vm.Alike t.vm → H.size ≤ t.heap.size → (∀ q : Nat, q < H.size → t.heap[q]? = H[q]?) → XC cls s t)
    (hf : ∀ z ∈ locs, free z.base) (hc : cells + 1 ≤ mc) (hs : slots + 6 ≤ ms) :
    W p l e R s m args below meth c H locs cells slots (vx_MQ below Qc XC args s mc ms free) (F0 m pc ls rest) := by
  intro T hT X
  have htr : e.platform.stackTraces = false := (show e.platform.stackTraces = l.stackTraces by rw [X.admits.platform]).trans hl
  have Y := vx_rebase X (R' := { frames := R.frames, locals := R.locals, cells := 1, slots := 6 }) (Nat.le_refl _) (Nat.le_refl _) hRcells hRslots
  obtain ⟨s', hA⟩ : ∃ z, z = (T.setVm s.vm).setFrames (.invoking m args :: below) := ⟨_, rfl⟩
  rw [← hA] at Y
  have hvm : s'.vm = s.vm := by rw [hA]; rfl
  have hhp : s'.heap = H := by rw [hA]; exact hT
  have hW0 : s.WarmedH s'.vm := by rw [hvm]; exact State.WarmedH.refl s
  have hat' : ∀ w ∈ vx_atS own ic cls names, w.before args s' = true := fun w hw => vx_ot_at hW0 hvm.symm (hgood w (List.mem_cons_of_mem _ (List.mem_cons_of_mem _ hw))) (hat w hw)
  have hk' : (Cond.classLink own ik cls).before args s' = true := vx_ot_at hW0 hvm.symm (hgood _ List.mem_cons_self) hk
  have hini' : (Cond.initialized cls).before args s' = true := vx_ot_at hW0 hvm.symm (hgood _ (List.mem_cons_of_mem _ List.mem_cons_self)) hini
  have hU' : vx_Zq Bundle.tN "UNASSIGNED_STACK" Bundle.steD A s' s'.heap := by rw [hhp]; exact vx_Zq.moved hW0.alike (hU.kept hS.2.1)
  have hN' : vx_Zq Bundle.tN "SUPPRESSED_SENTINEL" Bundle.listD A s' s'.heap := by rw [hhp]; exact vx_Zq.moved hW0.alike (hN.kept hS.2.1)
  have h : ∀ w ∈ Bundle.ownAtoms own ic cls names, w.before args s' = true := vx_own hat' (vx_isRefq hU'.1) (vx_isRefq hN'.1) hU'.2.word hN'.2.word
  have hown' : s'.vm.findClass own = some m.cls := by rw [hvm]; exact hown
  have hins : (Cond.instantiable cls 6).before args s' = true := h _ (by simp [Bundle.ownAtoms])
  obtain ⟨vm₁, cX, kX, hfX, hkX, -, -, X₁, st1⟩ := Y.newCold hexec (own := own) (C := cls) (index := ik) (n := 6) hown' hk' hins hini'
    (g := F0 m pc ls rest) rfl (by rw [hb]; exact d0) (Nat.le_refl _) (Nat.le_refl _)
  generalize hT1 : (T.setVm vm₁).pushCell { cls := cX, slots := kX.instanceTypes.map defaultValue, vm := .none } = T1 at X₁ st1
  have hcat : (Value.ref T.heap.size).category = 1 := rfl
  have hcellA : T1.heap[T.heap.size]? = some (freshCell cX kX) := by rw [← hT1]; exact State.heap_pushCell_size _ _
  have d3' : decode c.code (pc + 3) = .ok (.dup, 1) := by rw [hb]; exact d3
  have d4' : decode c.code (pc + 4) = .ok (.ldc_w is, 3) := by rw [hb]; exact d4
  have hstr' : vk_R own is text sa s' := vk_R.warm hW0 hstr
  obtain ⟨U, hsteps, hrun, hend, hW, hsame, ce, hce, hO⟩ := X₁.ctorThrowS hexec htr (own := own) (cls := cls) (names := names) (ic := ic) hown' hcls hnames h (fun x hx => nomatch hx) hfX hkX hcellA (by rw [hhp, hT]; exact Nat.le_refl _) (msg := .ref sa) rfl
    (g := { method := m, pc := pc + 7, locals := ls, stack := .ref sa :: .ref T.heap.size :: .ref T.heap.size :: rest, locked := none }) rfl hsize rfl rfl (rest := rest) rfl
    (by rw [hb]; exact d7) (by rw [hb]; exact d10) hout hRframes (by simp only [List.map_cons, List.sum_cons, hcat]; omega) hlocks
  obtain ⟨f1, f2⟩ := vx_frame hsame
  rw [hhp] at f1 f2
  have hWs : s.WarmedH U.vm := State.WarmedH.trans hW0 hW
  have hcl : s.vm.findClass cls = some ce.cls := by
    have h9 := hO.cls
    rw [hvm] at h9
    exact h9
  have hall : s.sameButNew ({ U with vm := s.vm } : State) locs mc ms := by
    subst hA
    obtain ⟨e1, e2⟩ := hsame
    rw [State.setFrames_setFrames] at e1
    have h2 : (T.setVm s.vm).sameButNew ({ U with vm := s.vm } : State) [] (0 + 1) (0 + 6) := ⟨e1, e2⟩
    have h3 := X.same.trans h2
    rw [List.append_nil] at h3
    exact h3.mono hc hs
  refine ⟨U, ?_, .threw T.heap.size, hrun, hend, Or.inr ⟨T.heap.size, rfl, cls, ce, locs, hx U hWs.alike f1 (fun q hq => f2 q hq (fun z hz => nomatch hz)), hce, hO.vm, hcl, hWs, hall, hf⟩⟩
  refine st1 _ ?_
  show Steps p.tables e below (T1.setTop { method := m, pc := pc + 3, locals := ls, stack := .ref T.heap.size :: rest, locked := none }) _
  jvm_step X₁.here [X₁.here.top, hexec, d3', Value.category]
  exact X₁.ldcStringW hexec (own := own) (text := text) (index := is) (a := sa) hown' hstr'.1 hstr'.2
    (g := { method := m, pc := pc + 4, locals := ls, stack := .ref T.heap.size :: .ref T.heap.size :: rest, locked := none }) rfl d4' _ hsteps
end Ends
section Bodies
variable {l : Launch}
theorem vx_ofW {y : MethodName} {ws ws' : List Cond} {rm : Room} {Pc : Array Value → State → Prop} {Qc : Array Value → State → Outcome → State → Prop} {XC : String → State → State → Prop} {mc ms : Nat} {free : Addr → Prop} {cc : ByteArray} {maxL : Nat} {ret : Option FieldType}
    (hy : plainName y.cls = true) (hw : ws = Cond.code y cc maxL ret :: ws')
    (body : ∀ p e s m args below meth c s₁, BodyLoose p l y (headSpec ws rm) cc maxL ret e s m args below meth c s₁ → c.maxLocals = maxL → (∀ x ∈ c.exceptionTable.toList, False) → Pc args s →
      W p l e (headSpec ws rm).room s m args below meth c s.heap [] 0 0 (vx_MQ below Qc XC args s mc ms free) (entryFrame m args maxL)) : vx_Met l y ws rm Pc Qc XC mc ms free := by
  refine MetFree.of_bodyS (code := cc) (maxLocals := maxL) (ret := ret) hy ?_ ?_
  · intro args s m h hn
    obtain ⟨meth, c, h1, h2, h3, h4, h5, h6, -, -⟩ := Cond.code_spec hn (atoms_spec (ws := ws) h _ (by rw [hw]; exact List.mem_cons_self))
    exact ⟨meth, c, h1, h2, h3, h4, h5, h6⟩
  · intro p e s m args below meth c s₁ B hml hP _
    have hh0 : s₁.heap = s.heap := by rw [B.state]; rfl
    have ht : ∀ x ∈ c.exceptionTable.toList, False := by
      obtain ⟨meth9, c9, h1, h2, -, -, -, -, h7, -⟩ := Cond.code_spec B.named (atoms_spec (ws := ws) B.pre _ (by rw [hw]; exact List.mem_cons_self))
      cases Option.some.inj (h1.symm.trans B.method)
      cases Option.some.inj (h2.symm.trans (Stand.of_body B).code)
      intro x hx
      rw [Array.isEmpty_iff.mp h7] at hx
      cases hx
    obtain ⟨t, a1, o, b1, b2, b3⟩ := body p e s m args below meth c s₁ B hml ht hP s₁ hh0 (Stand.of_body B)
    exact ⟨t, o, a1, b1, b2, b3⟩
/-- the table of a body with handlers -/
theorem vx_table {p : Program} {x y : MethodName} {S : Spec} {cc bytes : ByteArray} {maxL maxL' : Nat} {ret ret' : Option FieldType} {e : Env} {s s₁ : State} {m : MethodId} {args : Array Value} {below : List Frame} {meth : Method} {c : Code} {hh : List (Nat × Nat × Nat × Nat)}
    (B : BodyLoose p l y S cc maxL ret e s m args below meth c s₁) (h : (Cond.codeWith y bytes maxL' ret' hh).before args s = true) : c.exceptionTable.toList = tableOf hh := by
  obtain ⟨m9, meth9, c9, hn9, h1, h2, -, -, h6, -⟩ := Cond.codeWith_spec h
  cases Option.some.inj (hn9.symm.trans B.named)
  cases Option.some.inj (h1.symm.trans B.method)
  cases Option.some.inj (h2.symm.trans (Stand.of_body B).code)
  rw [← h6, table_eq]
end Bodies
end VXA
/-! ===== END ===== -/
/-! ===== BEGIN a static call of a method with an exception table ===== -/
section VXS
variable {p : Program} {l : Launch} {e : Env} {R : Room} {s : State} {m : MethodId} {args : Array Value} {below : List Frame} {meth : Method} {c : Code} {T : State} {H : Heap} {locs : List Loc} {cells slots : Nat}
abbrev vx_CSW (R : Room) (s : State) (args : Array Value) (own : String) (index : Nat) (y : MethodName) (bytes : ByteArray) (maxL : Nat) (ret : Option FieldType) (hh : List (Nat × Nat × Nat × Nat)) (ws : List Cond) (rm : Room) (mc ms n : Nat) : Prop :=
  (rm.cells = mc ∧ rm.slots = ms ∧ rm.frames + 1 ≤ R.frames ∧ 8 + (maxL + 11) + rm.locals ≤ R.locals ∧ (∀ w ∈ ws, ∀ (a' : Array Value) (U : State), s.WarmedH U.vm → w.before a' U = true) ∧ Cond.codeWith y bytes maxL ret hh ∈ ws) ∧
  (Cond.codeWith y bytes maxL ret hh).before args s = true ∧ (Cond.initialized y.cls).before args s = true ∧ (y.cls ≠ "java/lang/invoke/MethodHandle" ∧ y.cls ≠ "java/lang/invoke/VarHandle") ∧
  (∀ sig, parseMethodDescriptor y.desc = some sig → n = sig.parameters.length) ∧ (Cond.methodLink own index y).before args s = true ∧ (Cond.static y).before args s = true
theorem vx_cwSW {own : String} {index maxL mc ms : Nat} {y : MethodName} {bytes : ByteArray} {ret : Option FieldType} {hh : List (Nat × Nat × Nat × Nat)} {Ts ws ws' : List Cond} {rm : Room} (n : Nat) (ht : ∀ w ∈ Ts, w.before args s = true) (hT : GoodIn Ts (va_wsS own index y ws)) (hw : ws = Cond.codeWith y bytes maxL ret hh :: ws') (hrc : rm.cells = mc) (hrs : rm.slots = ms)
    (hd : y.cls ≠ "java/lang/invoke/MethodHandle" ∧ y.cls ≠ "java/lang/invoke/VarHandle" ∧ (parseMethodDescriptor y.desc).map (fun d => d.parameters.length) = some n) (hR : rm.frames + 1 ≤ R.frames ∧ 8 + (maxL + 11) + rm.locals ≤ R.locals) :
    vx_CSW R s args own index y bytes maxL ret hh ws rm mc ms n := by
  have ok : ∀ w ∈ va_wsS own index y ws, w.before args s = true := fun w h => ht w (hT w h).1
  have hG : GoodIn Ts ws := fun w h => hT w (by unfold va_wsS; exact List.mem_append_right _ h)
  have hc : Cond.codeWith y bytes maxL ret hh ∈ ws := by rw [hw]; exact List.mem_cons_self
  refine ⟨⟨hrc, hrs, hR.1, hR.2, pay_in ht hG, hc⟩, ht _ (hG _ hc).1, ok _ (by simp [va_wsS]), ⟨hd.1, hd.2.1⟩, fun sig h => ?_, ok _ (by simp [va_wsS]), ok _ (by simp [va_wsS])⟩
  have h2 := hd.2.2
  rw [h] at h2
  exact (Option.some.inj h2).symm
theorem vx_callSW (X : Stand p l e R s m args below meth c T locs cells slots) (hexec : p.tables.exec = Jvm.exec) {own : String} {index : Nat} {y : MethodName} {bytes : ByteArray} {maxL : Nat} {ret : Option FieldType} {hh : List (Nat × Nat × Nat × Nat)}
    (hown : s.vm.findClass own = some m.cls) (hlink : (Cond.methodLink own index y).before args s = true) (hstat : (Cond.static y).before args s = true) (hinit : (Cond.initialized y.cls).before args s = true)
    (hcode : (Cond.codeWith y bytes maxL ret hh).before args s = true) (hy : y.cls ≠ "java/lang/invoke/MethodHandle" ∧ y.cls ≠ "java/lang/invoke/VarHandle")
    {W9 : Nat} {Pre : Pt → Array Value → Prop} {Post : Pt → Array Value → Option Value → Pt → Prop} (hK : Back l R p e below s args y 3 W9 Pre Post)
    {g : JFrame} (hg : g.method = m) (hsize : g.locals.size = c.maxLocals) {argsL rest : List Value} (hlen : ∀ sig, parseMethodDescriptor y.desc = some sig → argsL.length = sig.parameters.length)
    (hstack : g.stack = argsL.reverse ++ rest) (hW : 2 * g.monitorRoom + (rest.map fun v => v.category).sum ≤ W9) (hdg : decode c.code g.pc = .ok (.invokestatic index, 3))
    (hpre : ∀ vm₁, s.WarmedH vm₁ → Pre ⟨T.setVm vm₁, locs, cells, slots⟩ argsL.toArray) :
    ∃ (v : Option Value) (vm₁ : Vm) (B : Pt), s.WarmedH vm₁ ∧ Stand p l e R s m args below meth c B.U B.locs B.cells B.slots ∧ Post ⟨T.setVm vm₁, locs, cells, slots⟩ argsL.toArray v B ∧
      ∀ target, Steps p.tables e below (B.U.setTop { g with pc := g.pc + 3, stack := v.toList ++ rest }) target → Steps p.tables e below (T.setTop g) target := by
  obtain ⟨mk, methM, cM, hnamed, hmethM, -, -, -, -, -, -, hsigM⟩ := Cond.codeWith_spec hcode
  have hstatic : methM.isStatic = true := Cond.static_spec hnamed hmethM hstat
  obtain ⟨kP, hkP, -⟩ := className_of_methodNamed hnamed
  have hinitP : kP.init = .initialized := Cond.initialized_spec (findClass_of_methodNamed hnamed) hkP hinit
  obtain ⟨vm₁, X₁, hstep₁⟩ := X.invokestatic hexec hown hlink hnamed hmethM hstatic hkP hinitP hy (g := g) hg (argsL := argsL) (rest := rest) (hlen _ hsigM) hstack hdg
  obtain ⟨v, B, X', hpost, hsteps⟩ := hK m meth c ⟨T.setVm vm₁, locs, cells, slots⟩ { g with stack := rest } (.invokestatic index) mk argsL.toArray X₁ hg hsize hdg hW (X₁.named hnamed) (hpre vm₁ X₁.warmed)
  exact ⟨v, vm₁, B, X₁.warmed, X', hpost, fun target h => hstep₁ _ fun acts => by rw [doInvoke_state]; exact hsteps.trans h⟩
theorem vx_runSW {y : MethodName} {bytes cc : ByteArray} {maxL nL mc ms n index : Nat} {ret : Option FieldType} {hh : List (Nat × Nat × Nat × Nat)} {ws : List Cond} {rm : Room} {Pc : Array Value → State → Prop} {Qc : Array Value → State → Outcome → State → Prop} {free : Addr → Prop} {Ts : List Cond} {own : String} {As rest : List Value} {g : JFrame}
    (S : CallFix p m c cc nL s args Ts own) (hM : Met l y ws rm Pc Qc mc ms free) (cw : vx_CSW R s args own index y bytes maxL ret hh ws rm mc ms n) (hp : PreS s H Pc As)
    (hg : g.method = m) (hn : As.length = n) (hsize : g.locals.size = nL) (hstack : g.stack = As.reverse ++ rest) (hW : 2 * g.monitorRoom + (rest.map fun v => v.category).sum ≤ 8) (hdg : decode cc g.pc = .ok (.invokestatic index, 3)) (hf : cells + mc ≤ R.cells ∧ slots + ms ≤ R.slots) :
    va_Run p l e R s m args below meth c H locs cells slots mc ms g rest (Qc As.toArray) (free) := by
  obtain ⟨⟨hrc, hrs, hfr, hlo, hws, hcw⟩, hcode, hini, hy, hlen, hl, hstt⟩ := cw
  have hK : Back l R p e below s args y 3 8 (PreOf R mc ms Pc) (PostOf Qc mc ms free) := va_backW (hh := hh) (bytes := bytes) (maxL := maxL) (ret := ret) hM hp.1 hrc hrs hfr hlo hws hcw (fun a' U hW => word_at hW (Or.inl (by first | rfl | simp [Cond.onTables, Cond.keeps, Cond.steady])) hini)
  obtain ⟨hx, hb, hml, ho, -⟩ := S
  intro T hT X
  obtain ⟨v, vm₁, ⟨U', l2, c2, s2⟩, hW₁, X', ⟨g', mk, t, L, e1, e2, hq, h1, hL, h2, h3⟩, st⟩ := vx_callSW X hx (hh := hh) (bytes := bytes) (maxL := maxL) (ret := ret) ho hl hstt hini hcode hy hK hg (hsize.trans hml.symm) (argsL := As) (rest := rest) (fun sig h => hn.trans (hlen sig h)) hstack hW (by rw [hb]; exact hdg)
    (fun vm₁ hW₁ => ⟨hf.1, hf.2, hp.2 (T.setVm vm₁) hT hW₁⟩)
  dsimp only [Pt.U, Pt.locs, Pt.cells, Pt.slots] at X' e1 e2 h1 h2 h3 st
  subst h1; subst h2; subst h3
  exact ⟨v, (T.setVm vm₁).calling g' mk As.toArray, t, U', L, hT, X', hL, e1, e2, hq, st⟩
/-- not caught here, past rows that name other classes: it goes on to the caller -/
theorem vx_outP {p : Program} {l : Launch} {e : Env} {R : Room} {s : State} {m : MethodId} {args : Array Value} {below : List Frame} {meth : Method} {c : Code} {H : Heap} {locs : List Loc} {cells slots : Nat} {free : Addr → Prop} {ls : Array Slot} {rest : List Value} {Qc : Array Value → State → Outcome → State → Prop} {XC : String → State → State → Prop}
    {pc : Nat} {own E : String} {ce : Cell} {q : Addr} {mc ms : Nat} (hown : s.vm.findClass own = some m.cls) (hlocks : meth.locks = false)
    (hpass : ∀ z ∈ c.exceptionTable.toList, covers z pc = false ∨ (z.catchType ≠ 0 ∧ ∃ nm : String, (Cond.classLink own z.catchType nm).before args s = true ∧ va_Nc E nm s)) (hcell : H[q]? = some ce) (hv : ce.vm = .none) (hcl : s.vm.findClass E = some ce.cls)
    (hx : ∀ t : State, t.heap = H → s.vm.Alike t.vm → XC E s t) (hf : ∀ z ∈ locs, free z.base) (hc : cells ≤ mc) (hs : slots ≤ ms) :
    vx_W p l e R s m args below meth c H locs cells slots (vx_MQ below Qc XC args s mc ms free) (F0 m pc ls rest) q := by
  intro T hT X
  have hpl : e.platform.magicAccessors = ({} : Platform).magicAccessors := by rw [X.admits.platform]
  obtain ⟨vm', hW', X', st⟩ := X.outThrough hlocks q (g := F0 m pc ls rest) rfl rfl rfl (cell := ce) (by rw [hT]; exact hcell) (by rw [hv]; rfl)
    (by obtain ⟨k9, h9, -⟩ := Vm.findClass_spec hcl; exact ⟨k9, h9⟩) (fun z hz => by
      rcases hpass z hz with h | ⟨hz0, nm, hl1, hn1⟩
      · exact Or.inl h
      · obtain ⟨c6, hc6, hcl6⟩ := Cond.classLink_spec hown hl1 e.platform hpl
        obtain ⟨a8, b8, h1, h2, h3⟩ := hn1
        cases Option.some.inj (h1.symm.trans hcl)
        cases Option.some.inj (h2.symm.trans hc6)
        exact Or.inr ⟨hz0, _, hcl6, h3⟩)
  obtain ⟨g₀, hfr⟩ := X'.frames_eq
  have hcell9 : ((T.setVm vm').setFrames (.throwing q :: below)).heap[q]? = some ce := by
    show T.heap[q]? = some ce
    rw [hT]; exact hcell
  have hend : Ended ((T.setVm vm').setFrames (.throwing q :: below)) below (.threw q) := State.frames_setFrames _ (State.cur_lt_of_frames hfr)
  refine ⟨(T.setVm vm').setFrames (.throwing q :: below), ?_, .threw q, X'.here.running, hend, Or.inr ⟨q, rfl, E, ce, locs, hx _ hT (X'.ends _).1.alike, hcell9, hv, hcl, (X'.ends _).1, (X'.ends _).2.mono hc hs, hf⟩⟩
  rw [X.pushThrowing_eq]
  exact st
/-- a thing of a world lies in the heap -/
theorem vx_lt {D : va_G} {cl : List vw_C} {ws : va_W} {H1 : Heap} (h : va_P D cl ws H1) {k : Nat} {q : Nat × va_E} (hk : ws[k]? = some q) : q.1 < H1.size := (h k q hk).lt
end VXS
/-! ===== END ===== -/
/-! ===== BEGIN methods with a table of their own: called by a name, returning or throwing ===== -/
section VXH
/-! vx_backW, vx_callVX, vx_callSX, vx_callVW, vx_runVW, vx_runVX, vx_runSX, vx_ofWH follow the same proofs as their sisters above (Free/Laws.lean, Shelf42/LK1.lean); vx_outP calls Shelf42/NT130.lean (outThrough). -/
section
variable {l : Launch} {R : Room} {p : Program} {e : Env} {below : List Frame} {s : State} {sargs : Array Value} {y : MethodName} {len W9 : Nat}
theorem vx_backW {ws : List Cond} {rm : Room} {Pc : Array Value → State → Prop} {Qc : Array Value → State → Outcome → State → Prop} {XC : String → State → State → Prop} {mc ms : Nat} {free : Addr → Prop} {bytes : ByteArray} {maxL : Nat} {ret : Option FieldType} {hh : List (Nat × Nat × Nat × Nat)}
    (hM : vx_Met l y ws rm Pc Qc XC mc ms free) (hblind : FrameBlind Pc) (hrc : rm.cells = mc) (hrs : rm.slots = ms)
    (hframes : rm.frames + 1 ≤ R.frames) (hlocals : W9 + (maxL + 11) + rm.locals ≤ R.locals)
    (hws : ∀ w ∈ ws, ∀ a' U, s.WarmedH U.vm → w.before a' U = true) (hcode : Cond.codeWith y bytes maxL ret hh ∈ ws) (hinit : ∀ a' U, s.WarmedH U.vm → (Cond.initialized y.cls).before a' U = true) :
    vx_Back l R p e below s sargs y len W9 (PreOf R mc ms Pc) (PostOf Qc mc ms free) (vx_Post XC mc ms free) := by
  intro m meth c A g ig mk a X hg hsize hdg hW hn hp
  have h1 : (headSpec ws rm).pre.before a A.U = true := atoms_intro fun w hw => hws w hw _ _ X.warmed
  have h2 : (Cond.codeWith y bytes maxL ret hh).before a A.U = true := hws _ hcode _ _ X.warmed
  have h3 : (Cond.initialized y.cls).before a A.U = true := hinit _ _ X.warmed
  have h4 : A.cells + (headSpec ws rm).room.cells ≤ R.cells := by rw [show (headSpec ws rm).room.cells = mc from hrc]; exact hp.1
  have h5 : A.slots + (headSpec ws rm).room.slots ≤ R.slots := by rw [show (headSpec ws rm).room.slots = ms from hrs]; exact hp.2.1
  have hPc : Pc a (A.U.calling g mk a) := hblind _ _ _ _ hp.2.2
  obtain ⟨U, Ls, c0, s0⟩ := A
  dsimp only [Pt.U, Pt.locs, Pt.cells, Pt.slots] at h1 h2 h3 h4 h5 X hn hPc ⊢
  obtain ⟨m9, methY, cY, hn9, hmY, hcY, -, hlY, -⟩ := Cond.codeWith_spec h2
  cases Option.some.inj (hn9.symm.trans hn)
  obtain ⟨kY, hkY, -⟩ := className_of_methodNamed hn
  have hinitY : kY.init = .initialized := Cond.initialized_spec (findClass_of_methodNamed hn) hkY h3
  have h : At U g.method c below := by rw [hg]; exact X.here
  have hlocals9 : W9 + (maxL + 11) + (headSpec ws rm).room.locals ≤ R.locals := hlocals
  have happ : (headSpec ws rm).appliesLoose y e.platform (U.calling g mk a) = true :=
    Spec.appliesLoose_calling (g := g) h hdg hn hkY hinitY
      (X.room_calling (g := g) (R' := (headSpec ws rm).room) hsize hmY hcY hframes (by rw [hlY]; omega) h4 h5) h1
  obtain ⟨mid, hmid⟩ := h.above
  have hfr : (U.setTop g).frames = (.java g :: mid) ++ below := by rw [State.frames_setTop' g h.top, hmid]; rfl
  obtain ⟨o, s₂, hsteps, -, hend, hq⟩ := Steps.callFree hM p X.admits X.cas X.clock (acts := []) hfr happ hPc trivial
  have hq' : vx_Q Qc XC mc ms free a (U.calling g mk a) o s₂ := hq
  rw [State.frames_setTop' g h.top] at hend
  obtain ⟨g₀, hg0⟩ := Option.isSome_iff_exists.mp h.top
  obtain ⟨r, hr⟩ := State.topJava?_eq_some.mp hg0
  have hr' : (({ U with heap := s₂.heap, slotsUsed := s₂.slotsUsed } : State).setVm s₂.vm).frames = .java g₀ :: r := hr
  rcases hq' with ⟨hqc, L, hfe, hL⟩ | ⟨q, rfl, E, ce, L, hx, hce, hcv, hcl, hW₂, hsm, hL⟩
  · obtain ⟨⟨v, rfl⟩, hW₂, e2, q2, q3, q4, q5, q6⟩ := id hfe
    have e3 : s₂ = ({ (U.calling g mk a).setFrames s₂.frames with heap := s₂.heap, slotsUsed := s₂.slotsUsed } : State).setVm s₂.vm := by
      have : s₂ = ({ s₂ with vm := (U.calling g mk a).vm } : State).setVm s₂.vm := rfl
      rw [e2] at this
      exact this
    obtain ⟨c₂, i₂, len₂, hc₂, hd₂, hf₂⟩ := hend
    have hW' : U.WarmedH s₂.vm := hW₂
    have hcc : c₂ = c := by
      have h1 : s₂.code? g.method = U.code? g.method := by
        rw [State.code?_eq, State.code?_eq, hW'.alike.method?]
      exact Option.some.inj (hc₂.symm.trans (h1.trans h.code))
    subst hcc
    have hlen : len₂ = len := by rw [hdg] at hd₂; cases hd₂; rfl
    subst hlen
    have hs₂ : s₂ = (({ U with heap := s₂.heap, slotsUsed := s₂.slotsUsed } : State).setVm s₂.vm).setTop { g with pc := g.pc + len₂, stack := v.toList ++ g.stack } := by
      refine e3.trans ?_
      rw [hf₂, State.calling_eq h.top, State.setFrames_setFrames, State.setTop_of_frames _ hr', hr]
      rfl
    have hsame : U.sameButNew ({ U with heap := s₂.heap, slotsUsed := s₂.slotsUsed } : State) L mc ms := by
      refine ⟨?_, q2, q3, q4, q5, q6⟩
      obtain ⟨t, ht, -⟩ := State.frames_cons hr
      show ({ U with heap := s₂.heap, slotsUsed := s₂.slotsUsed } : State) = { U.setFrames U.frames with heap := s₂.heap, slotsUsed := s₂.slotsUsed }
      rw [State.setFrames_self ht]
    subst hg
    refine Or.inl ⟨v, ⟨(({ U with heap := s₂.heap, slotsUsed := s₂.slotsUsed } : State).setVm s₂.vm), Ls ++ L, c0 + mc, s0 + ms⟩,
      ⟨X.admits, X.cas, X.clock, X.frames, X.room, X.hears, X.method, X.code, (X.here.setHeapUsed s₂.heap s₂.slotsUsed).setVm hW'.alike, X.tail, State.WarmedH.trans X.warmed hW', X.limits, X.bytes, X.same.trans (hsame.setVm s.vm)⟩,
      ⟨g, mk, s₂, L, rfl, rfl, hqc, rfl, hL, rfl, rfl⟩, ?_⟩
    show Steps p.tables e below _ ((({ U with heap := s₂.heap, slotsUsed := s₂.slotsUsed } : State).setVm s₂.vm).setTop { g with pc := g.pc + len₂, stack := v.toList ++ g.stack })
    rw [← hs₂]
    exact hsteps
  · obtain ⟨e2, q2, q3, q4, q5, q6⟩ := id hsm
    have e3 : s₂ = ({ (U.calling g mk a).setFrames s₂.frames with heap := s₂.heap, slotsUsed := s₂.slotsUsed } : State).setVm s₂.vm := by
      have : s₂ = ({ s₂ with vm := (U.calling g mk a).vm } : State).setVm s₂.vm := rfl
      rw [e2] at this
      exact this
    have hf₂ : s₂.frames = .throwing q :: .java g :: U.frames.tail := hend
    have hW' : U.WarmedH s₂.vm := hW₂
    have hs₂ : s₂ = ((({ U with heap := s₂.heap, slotsUsed := s₂.slotsUsed } : State).setVm s₂.vm).setTop g).pushFrame (.throwing q) := by
      refine e3.trans ?_
      rw [hf₂, State.calling_eq h.top, State.setFrames_setFrames, State.pushFrame, State.frames_setTop _ hr', State.setTop_of_frames _ hr', State.setFrames_setFrames, hr]
      rfl
    have hsame : U.sameButNew ({ U with heap := s₂.heap, slotsUsed := s₂.slotsUsed } : State) L mc ms := by
      refine ⟨?_, q2, q3, q4, q5, q6⟩
      obtain ⟨t, ht, -⟩ := State.frames_cons hr
      show ({ U with heap := s₂.heap, slotsUsed := s₂.slotsUsed } : State) = { U.setFrames U.frames with heap := s₂.heap, slotsUsed := s₂.slotsUsed }
      rw [State.setFrames_self ht]
    subst hg
    refine Or.inr ⟨q, ⟨(({ U with heap := s₂.heap, slotsUsed := s₂.slotsUsed } : State).setVm s₂.vm), Ls ++ L, c0 + mc, s0 + ms⟩,
      ⟨X.admits, X.cas, X.clock, X.frames, X.room, X.hears, X.method, X.code, (X.here.setHeapUsed s₂.heap s₂.slotsUsed).setVm hW'.alike, X.tail, State.WarmedH.trans X.warmed hW', X.limits, X.bytes, X.same.trans (hsame.setVm s.vm)⟩,
      ⟨g, mk, s₂, L, E, ce, rfl, rfl, hx, hce, hcv, hcl, rfl, hL, rfl, rfl⟩, ?_⟩
    show Steps p.tables e below _ (((({ U with heap := s₂.heap, slotsUsed := s₂.slotsUsed } : State).setVm s₂.vm).setTop g).pushFrame (.throwing q))
    rw [← hs₂]
    exact hsteps
end
variable {p : Program} {l : Launch} {e : Env} {R : Room} {s : State} {m : MethodId} {args : Array Value} {below : List Frame} {meth : Method} {c : Code} {T : State} {H : Heap} {locs : List Loc} {cells slots : Nat}
theorem vx_callVX (X : Stand p l e R s m args below meth c T locs cells slots) (hexec : p.tables.exec = Jvm.exec) {own C : String} {index : Nat} {y : MethodName} {bytes : ByteArray} {maxL : Nat} {ret : Option FieldType} {hh : List (Nat × Nat × Nat × Nat)}
    (hown : s.vm.findClass own = some m.cls) (hlink : (Cond.methodLink own index y).before args s = true) (hinst : (Cond.instanceMethod y).before args s = true) (hsel : (Cond.selects C y y).before args s = true)
    (hcode : (Cond.codeWith y bytes maxL ret hh).before args s = true) (hy : y.cls ≠ "java/lang/invoke/MethodHandle" ∧ y.cls ≠ "java/lang/invoke/VarHandle")
    {W9 : Nat} {Pre : Pt → Array Value → Prop} {Post : Pt → Array Value → Option Value → Pt → Prop} {PostX : Pt → Array Value → Addr → Pt → Prop} (hK : vx_Back l R p e below s args y 3 W9 Pre Post PostX)
    {b : Addr} {cellB : Cell} (hcell : T.heap[b]? = some cellB) (hobj : cellB.vm.isStatics = false) (hcls : s.vm.findClass C = some cellB.cls)
    {g : JFrame} (hg : g.method = m) (hsize : g.locals.size = c.maxLocals) {argsL rest : List Value} (hlen : ∀ sig, parseMethodDescriptor y.desc = some sig → argsL.length = sig.parameters.length)
    (hstack : g.stack = argsL.reverse ++ .ref b :: rest) (hW : 2 * g.monitorRoom + (rest.map fun v => v.category).sum ≤ W9) (hdg : decode c.code g.pc = .ok (.invokevirtual index, 3))
    (hpre : ∀ vm₁, s.WarmedH vm₁ → Pre ⟨T.setVm vm₁, locs, cells, slots⟩ (Value.ref b :: argsL).toArray) :
    (∃ (v : Option Value) (vm₁ : Vm) (B : Pt), s.WarmedH vm₁ ∧ Stand p l e R s m args below meth c B.U B.locs B.cells B.slots ∧ Post ⟨T.setVm vm₁, locs, cells, slots⟩ (Value.ref b :: argsL).toArray v B ∧
      ∀ target, Steps p.tables e below (B.U.setTop { g with pc := g.pc + 3, stack := v.toList ++ rest }) target → Steps p.tables e below (T.setTop g) target) ∨
    (∃ (q : Addr) (vm₁ : Vm) (B : Pt), s.WarmedH vm₁ ∧ Stand p l e R s m args below meth c B.U B.locs B.cells B.slots ∧ PostX ⟨T.setVm vm₁, locs, cells, slots⟩ (Value.ref b :: argsL).toArray q B ∧
      Steps p.tables e below (T.setTop g) ((B.U.setTop { g with stack := rest }).pushFrame (.throwing q))) := by
  obtain ⟨mk, methM, hnamed, hmethM, hstM, habM⟩ := Cond.instanceMethod_spec hinst
  obtain ⟨m8, methM', cM, hn8, hmethM', -, -, -, -, -, -, hsigM⟩ := Cond.codeWith_spec hcode
  cases Option.some.inj (hn8.symm.trans hnamed)
  cases hmethM.symm.trans hmethM'
  obtain ⟨c2, r2, m2, q1, q2, q3, q4, kP, hkP, hkPi⟩ := Cond.selects_spec hsel
  cases hcls.symm.trans q1
  cases (State.methodFound?_of_named hnamed hy).symm.trans q2
  cases hnamed.symm.trans q3
  have hselP : selectMethod e.platform s.vm cellB.cls mk = .method mk := by rw [Launch.admits_selectMethod X.admits]; exact q4
  obtain ⟨vm₁, X₁, hstep₁⟩ := X.invokevirtual hexec hown hlink hnamed hmethM hstM hkP hkPi hy (a := b) (cell := cellB) hcell
    (fun z h => by rw [h] at hobj; cases hobj) hselP hmethM habM hkP hkPi (g := g) hg (argsL := argsL) (rest := rest) (hlen _ hsigM) hstack hdg
  rcases hK m meth c ⟨T.setVm vm₁, locs, cells, slots⟩ { g with stack := rest } (.invokevirtual index) mk (Value.ref b :: argsL).toArray X₁ hg hsize hdg hW (X₁.named hnamed) (hpre vm₁ X₁.warmed) with ⟨v, B, X', hpost, hsteps⟩ | ⟨q, B, X', hpost, hsteps⟩
  · exact Or.inl ⟨v, vm₁, B, X₁.warmed, X', hpost, fun target h => hstep₁ _ fun acts => by rw [doInvoke_state]; exact hsteps.trans h⟩
  · exact Or.inr ⟨q, vm₁, B, X₁.warmed, X', hpost, hstep₁ _ fun acts => by rw [doInvoke_state]; exact hsteps⟩
theorem vx_callSX (X : Stand p l e R s m args below meth c T locs cells slots) (hexec : p.tables.exec = Jvm.exec) {own : String} {index : Nat} {y : MethodName} {bytes : ByteArray} {maxL : Nat} {ret : Option FieldType} {hh : List (Nat × Nat × Nat × Nat)}
    (hown : s.vm.findClass own = some m.cls) (hlink : (Cond.methodLink own index y).before args s = true) (hstat : (Cond.static y).before args s = true) (hinit : (Cond.initialized y.cls).before args s = true)
    (hcode : (Cond.codeWith y bytes maxL ret hh).before args s = true) (hy : y.cls ≠ "java/lang/invoke/MethodHandle" ∧ y.cls ≠ "java/lang/invoke/VarHandle")
    {W9 : Nat} {Pre : Pt → Array Value → Prop} {Post : Pt → Array Value → Option Value → Pt → Prop} {PostX : Pt → Array Value → Addr → Pt → Prop} (hK : vx_Back l R p e below s args y 3 W9 Pre Post PostX)
    {g : JFrame} (hg : g.method = m) (hsize : g.locals.size = c.maxLocals) {argsL rest : List Value} (hlen : ∀ sig, parseMethodDescriptor y.desc = some sig → argsL.length = sig.parameters.length)
    (hstack : g.stack = argsL.reverse ++ rest) (hW : 2 * g.monitorRoom + (rest.map fun v => v.category).sum ≤ W9) (hdg : decode c.code g.pc = .ok (.invokestatic index, 3))
    (hpre : ∀ vm₁, s.WarmedH vm₁ → Pre ⟨T.setVm vm₁, locs, cells, slots⟩ argsL.toArray) :
    (∃ (v : Option Value) (vm₁ : Vm) (B : Pt), s.WarmedH vm₁ ∧ Stand p l e R s m args below meth c B.U B.locs B.cells B.slots ∧ Post ⟨T.setVm vm₁, locs, cells, slots⟩ argsL.toArray v B ∧
      ∀ target, Steps p.tables e below (B.U.setTop { g with pc := g.pc + 3, stack := v.toList ++ rest }) target → Steps p.tables e below (T.setTop g) target) ∨
    (∃ (q : Addr) (vm₁ : Vm) (B : Pt), s.WarmedH vm₁ ∧ Stand p l e R s m args below meth c B.U B.locs B.cells B.slots ∧ PostX ⟨T.setVm vm₁, locs, cells, slots⟩ argsL.toArray q B ∧
      Steps p.tables e below (T.setTop g) ((B.U.setTop { g with stack := rest }).pushFrame (.throwing q))) := by
  obtain ⟨mk, methM, cM, hnamed, hmethM, -, -, -, -, -, -, hsigM⟩ := Cond.codeWith_spec hcode
  have hstatic : methM.isStatic = true := Cond.static_spec hnamed hmethM hstat
  obtain ⟨kP, hkP, -⟩ := className_of_methodNamed hnamed
  have hinitP : kP.init = .initialized := Cond.initialized_spec (findClass_of_methodNamed hnamed) hkP hinit
  obtain ⟨vm₁, X₁, hstep₁⟩ := X.invokestatic hexec hown hlink hnamed hmethM hstatic hkP hinitP hy (g := g) hg (argsL := argsL) (rest := rest) (hlen _ hsigM) hstack hdg
  rcases hK m meth c ⟨T.setVm vm₁, locs, cells, slots⟩ { g with stack := rest } (.invokestatic index) mk argsL.toArray X₁ hg hsize hdg hW (X₁.named hnamed) (hpre vm₁ X₁.warmed) with ⟨v, B, X', hpost, hsteps⟩ | ⟨q, B, X', hpost, hsteps⟩
  · exact Or.inl ⟨v, vm₁, B, X₁.warmed, X', hpost, fun target h => hstep₁ _ fun acts => by rw [doInvoke_state]; exact hsteps.trans h⟩
  · exact Or.inr ⟨q, vm₁, B, X₁.warmed, X', hpost, hstep₁ _ fun acts => by rw [doInvoke_state]; exact hsteps⟩
theorem vx_callVW (X : Stand p l e R s m args below meth c T locs cells slots) (hexec : p.tables.exec = Jvm.exec) {own C : String} {index : Nat} {y : MethodName} {bytes : ByteArray} {maxL : Nat} {ret : Option FieldType} {hh : List (Nat × Nat × Nat × Nat)}
    (hown : s.vm.findClass own = some m.cls) (hlink : (Cond.methodLink own index y).before args s = true) (hinst : (Cond.instanceMethod y).before args s = true) (hsel : (Cond.selects C y y).before args s = true)
    (hcode : (Cond.codeWith y bytes maxL ret hh).before args s = true) (hy : y.cls ≠ "java/lang/invoke/MethodHandle" ∧ y.cls ≠ "java/lang/invoke/VarHandle")
    {W9 : Nat} {Pre : Pt → Array Value → Prop} {Post : Pt → Array Value → Option Value → Pt → Prop} (hK : Back l R p e below s args y 3 W9 Pre Post)
    {b : Addr} {cellB : Cell} (hcell : T.heap[b]? = some cellB) (hobj : cellB.vm.isStatics = false) (hcls : s.vm.findClass C = some cellB.cls)
    {g : JFrame} (hg : g.method = m) (hsize : g.locals.size = c.maxLocals) {argsL rest : List Value} (hlen : ∀ sig, parseMethodDescriptor y.desc = some sig → argsL.length = sig.parameters.length)
    (hstack : g.stack = argsL.reverse ++ .ref b :: rest) (hW : 2 * g.monitorRoom + (rest.map fun v => v.category).sum ≤ W9) (hdg : decode c.code g.pc = .ok (.invokevirtual index, 3))
    (hpre : ∀ vm₁, s.WarmedH vm₁ → Pre ⟨T.setVm vm₁, locs, cells, slots⟩ (Value.ref b :: argsL).toArray) :
    ∃ (v : Option Value) (vm₁ : Vm) (B : Pt), s.WarmedH vm₁ ∧ Stand p l e R s m args below meth c B.U B.locs B.cells B.slots ∧ Post ⟨T.setVm vm₁, locs, cells, slots⟩ (Value.ref b :: argsL).toArray v B ∧
      ∀ target, Steps p.tables e below (B.U.setTop { g with pc := g.pc + 3, stack := v.toList ++ rest }) target → Steps p.tables e below (T.setTop g) target := by
  obtain ⟨mk, methM, hnamed, hmethM, hstM, habM⟩ := Cond.instanceMethod_spec hinst
  obtain ⟨m8, methM', cM, hn8, hmethM', -, -, -, -, -, -, hsigM⟩ := Cond.codeWith_spec hcode
  cases Option.some.inj (hn8.symm.trans hnamed)
  cases hmethM.symm.trans hmethM'
  obtain ⟨c2, r2, m2, q1, q2, q3, q4, kP, hkP, hkPi⟩ := Cond.selects_spec hsel
  cases hcls.symm.trans q1
  cases (State.methodFound?_of_named hnamed hy).symm.trans q2
  cases hnamed.symm.trans q3
  have hselP : selectMethod e.platform s.vm cellB.cls mk = .method mk := by rw [Launch.admits_selectMethod X.admits]; exact q4
  obtain ⟨vm₁, X₁, hstep₁⟩ := X.invokevirtual hexec hown hlink hnamed hmethM hstM hkP hkPi hy (a := b) (cell := cellB) hcell
    (fun z h => by rw [h] at hobj; cases hobj) hselP hmethM habM hkP hkPi (g := g) hg (argsL := argsL) (rest := rest) (hlen _ hsigM) hstack hdg
  obtain ⟨v, B, X', hpost, hsteps⟩ := hK m meth c ⟨T.setVm vm₁, locs, cells, slots⟩ { g with stack := rest } (.invokevirtual index) mk (Value.ref b :: argsL).toArray X₁ hg hsize hdg hW (X₁.named hnamed) (hpre vm₁ X₁.warmed)
  exact ⟨v, vm₁, B, X₁.warmed, X', hpost, fun target h => hstep₁ _ fun acts => by rw [doInvoke_state]; exact hsteps.trans h⟩
abbrev vx_CVW (R : Room) (s : State) (args : Array Value) (own C : String) (index : Nat) (y : MethodName) (bytes : ByteArray) (maxL : Nat) (ret : Option FieldType) (hh : List (Nat × Nat × Nat × Nat)) (ws : List Cond) (rm : Room) (mc ms n : Nat) : Prop :=
  (rm.cells = mc ∧ rm.slots = ms ∧ rm.frames + 1 ≤ R.frames ∧ 8 + (maxL + 11) + rm.locals ≤ R.locals ∧ (∀ w ∈ ws, ∀ (a' : Array Value) (U : State), s.WarmedH U.vm → w.before a' U = true) ∧ Cond.codeWith y bytes maxL ret hh ∈ ws) ∧
  (Cond.codeWith y bytes maxL ret hh).before args s = true ∧ (Cond.initialized y.cls).before args s = true ∧ (y.cls ≠ "java/lang/invoke/MethodHandle" ∧ y.cls ≠ "java/lang/invoke/VarHandle") ∧
  (∀ sig, parseMethodDescriptor y.desc = some sig → n = sig.parameters.length) ∧ (Cond.methodLink own index y).before args s = true ∧ (Cond.instanceMethod y).before args s = true ∧ (Cond.selects C y y).before args s = true
theorem vx_cwVW {own C : String} {index maxL mc ms : Nat} {y : MethodName} {bytes : ByteArray} {ret : Option FieldType} {hh : List (Nat × Nat × Nat × Nat)} {Ts ws ws' : List Cond} {rm : Room} (n : Nat) (ht : ∀ w ∈ Ts, w.before args s = true) (hT : GoodIn Ts (wsV own index C y ws)) (hw : ws = Cond.codeWith y bytes maxL ret hh :: ws') (hrc : rm.cells = mc) (hrs : rm.slots = ms)
    (hd : y.cls = C ∧ y.cls ≠ "java/lang/invoke/MethodHandle" ∧ y.cls ≠ "java/lang/invoke/VarHandle" ∧ (parseMethodDescriptor y.desc).map (fun d => d.parameters.length) = some n) (hR : rm.frames + 1 ≤ R.frames ∧ 8 + (maxL + 11) + rm.locals ≤ R.locals) :
    vx_CVW R s args own C index y bytes maxL ret hh ws rm mc ms n := by
  obtain ⟨hC, hd⟩ := hd
  subst hC
  have ok : ∀ w ∈ wsV own index y.cls y ws, w.before args s = true := fun w h => ht w (hT w h).1
  have hG : GoodIn Ts ws := fun w h => hT w (by unfold wsV; exact List.mem_append_right _ h)
  have hc : Cond.codeWith y bytes maxL ret hh ∈ ws := by rw [hw]; exact List.mem_cons_self
  refine ⟨⟨hrc, hrs, hR.1, hR.2, pay_in ht hG, hc⟩, ht _ (hG _ hc).1, ok _ (by simp [wsV]), ⟨hd.1, hd.2.1⟩, fun sig h => ?_, ok _ (by simp [wsV]), ok _ (by simp [wsV]), ok _ (by simp [wsV])⟩
  have h2 := hd.2.2
  rw [h] at h2
  exact (Option.some.inj h2).symm
theorem vx_runVW {y : MethodName} {bytes cc : ByteArray} {maxL nL mc ms n index : Nat} {ret : Option FieldType} {hh : List (Nat × Nat × Nat × Nat)} {ws : List Cond} {rm : Room} {Pc : Array Value → State → Prop} {Qc : Array Value → State → Outcome → State → Prop} {free : Addr → Prop} {Ts : List Cond} {own C : String} {b : Addr} {As rest : List Value} {g : JFrame}
    (S : CallFix p m c cc nL s args Ts own) (hM : Met l y ws rm Pc Qc mc ms free) (cw : vx_CVW R s args own C index y bytes maxL ret hh ws rm mc ms n) (hp : PreV s H C b Pc As)
    (hg : g.method = m) (hn : As.length = n) (hsize : g.locals.size = nL) (hstack : g.stack = As.reverse ++ .ref b :: rest) (hW : 2 * g.monitorRoom + (rest.map fun v => v.category).sum ≤ 8) (hdg : decode cc g.pc = .ok (.invokevirtual index, 3)) (hf : cells + mc ≤ R.cells ∧ slots + ms ≤ R.slots) :
    va_Run p l e R s m args below meth c H locs cells slots mc ms g rest (Qc (Value.ref b :: As).toArray) free := by
  obtain ⟨⟨hrc, hrs, hfr, hlo, hws, hcw⟩, hcode, hini, hy, hlen, hl, hin, hse⟩ := cw
  have hK : Back l R p e below s args y 3 8 (PreOf R mc ms Pc) (PostOf Qc mc ms free) := va_backW (hh := hh) (bytes := bytes) (maxL := maxL) (ret := ret) hM hp.1 hrc hrs hfr hlo hws hcw (fun a' U hW => word_at hW (Or.inl (by first | rfl | simp [Cond.onTables, Cond.keeps, Cond.steady])) hini)
  obtain ⟨hx, hb, hml, ho, -⟩ := S
  obtain ⟨-, ⟨cellB, hcB, hoB, hclB⟩, hPc⟩ := hp
  intro T hT X
  obtain ⟨v, vm₁, ⟨U', l2, c2, s2⟩, hW₁, X', ⟨g', mk, t, L, e1, e2, hq, h1, hL, h2, h3⟩, st⟩ := vx_callVW X hx (C := C) (hh := hh) (bytes := bytes) (maxL := maxL) (ret := ret) ho hl hin hse hcode hy hK (by rw [hT]; exact hcB) hoB hclB hg (hsize.trans hml.symm) (argsL := As) (rest := rest) (fun sig h => hn.trans (hlen sig h)) hstack hW (by rw [hb]; exact hdg)
    (fun vm₁ hW₁ => ⟨hf.1, hf.2, hPc (T.setVm vm₁) hT hW₁⟩)
  dsimp only [Pt.U, Pt.locs, Pt.cells, Pt.slots] at X' e1 e2 h1 h2 h3 st
  subst h1; subst h2; subst h3
  exact ⟨v, (T.setVm vm₁).calling g' mk (Value.ref b :: As).toArray, t, U', L, hT, X', hL, e1, e2, hq, st⟩
section
variable {y : MethodName} {bytes cc : ByteArray} {maxL nL mc ms n index : Nat} {ret : Option FieldType} {ws : List Cond} {rm : Room} {Pc : Array Value → State → Prop} {Qc : Array Value → State → Outcome → State → Prop} {XC : String → State → State → Prop} {free : Addr → Prop} {Ts : List Cond} {own C : String} {b : Addr} {As rest : List Value} {g : JFrame}
theorem vx_runVX {hh : List (Nat × Nat × Nat × Nat)} (S : CallFix p m c cc nL s args Ts own) (hM : vx_Met l y ws rm Pc Qc XC mc ms free) (cw : vx_CVW R s args own C index y bytes maxL ret hh ws rm mc ms n) (hp : PreV s H C b Pc As)
    (hg : g.method = m) (hn : As.length = n) (hsize : g.locals.size = nL) (hstack : g.stack = As.reverse ++ .ref b :: rest) (hW : 2 * g.monitorRoom + (rest.map fun v => v.category).sum ≤ 8) (hdg : decode cc g.pc = .ok (.invokevirtual index, 3)) (hf : cells + mc ≤ R.cells ∧ slots + ms ≤ R.slots) :
    vx_Run p l e R s m args below meth c H locs cells slots mc ms g rest (Qc (Value.ref b :: As).toArray) XC free := by
  obtain ⟨⟨hrc, hrs, hfr, hlo, hws, hcw⟩, hcode, hini, hy, hlen, hl, hin, hse⟩ := cw
  have hK : vx_Back l R p e below s args y 3 8 (PreOf R mc ms Pc) (PostOf Qc mc ms free) (vx_Post XC mc ms free) := vx_backW (hh := hh) (bytes := bytes) (maxL := maxL) (ret := ret) hM hp.1 hrc hrs hfr hlo hws hcw (fun a' U hW => word_at hW (Or.inl (by first | rfl | simp [Cond.onTables, Cond.keeps, Cond.steady])) hini)
  obtain ⟨hx, hb, hml, ho, -⟩ := S
  obtain ⟨-, ⟨cellB, hcB, hoB, hclB⟩, hPc⟩ := hp
  intro T hT X
  rcases vx_callVX X hx (C := C) (hh := hh) (bytes := bytes) (maxL := maxL) (ret := ret) ho hl hin hse hcode hy hK (by rw [hT]; exact hcB) hoB hclB hg (hsize.trans hml.symm) (argsL := As) (rest := rest) (fun sig h => hn.trans (hlen sig h)) hstack hW (by rw [hb]; exact hdg)
    (fun vm₁ hW₁ => ⟨hf.1, hf.2, hPc (T.setVm vm₁) hT hW₁⟩) with ⟨v, vm₁, ⟨U', l2, c2, s2⟩, hW₁, X', ⟨g', mk, t, L, e1, e2, hq, h1, hL, h2, h3⟩, st⟩ | ⟨q, vm₁, ⟨U', l2, c2, s2⟩, hW₁, X', ⟨g', mk, t, L, E, ce, e1, e2, hq, hce, hcv, hcl, h1, hL, h2, h3⟩, st⟩
  · dsimp only [Pt.U, Pt.locs, Pt.cells, Pt.slots] at X' e1 e2 h1 h2 h3 st
    subst h1; subst h2; subst h3
    exact Or.inl ⟨v, (T.setVm vm₁).calling g' mk (Value.ref b :: As).toArray, t, U', L, hT, X', hL, e1, e2, hq, st⟩
  · dsimp only [Pt.U, Pt.locs, Pt.cells, Pt.slots] at X' e1 e2 h1 h2 h3 st hcl
    subst h1; subst h2; subst h3
    exact Or.inr ⟨q, (T.setVm vm₁).calling g' mk (Value.ref b :: As).toArray, t, U', L, E, ce, hT, X', hL, e1, e2, hq, hce, hcv, vx_cls hW₁ hcl, st⟩
theorem vx_runSX {hh : List (Nat × Nat × Nat × Nat)} (S : CallFix p m c cc nL s args Ts own) (hM : vx_Met l y ws rm Pc Qc XC mc ms free) (cw : vx_CSW R s args own index y bytes maxL ret hh ws rm mc ms n) (hp : PreS s H Pc As)
    (hg : g.method = m) (hn : As.length = n) (hsize : g.locals.size = nL) (hstack : g.stack = As.reverse ++ rest) (hW : 2 * g.monitorRoom + (rest.map fun v => v.category).sum ≤ 8) (hdg : decode cc g.pc = .ok (.invokestatic index, 3)) (hf : cells + mc ≤ R.cells ∧ slots + ms ≤ R.slots) :
    vx_Run p l e R s m args below meth c H locs cells slots mc ms g rest (Qc As.toArray) XC free := by
  obtain ⟨⟨hrc, hrs, hfr, hlo, hws, hcw⟩, hcode, hini, hy, hlen, hl, hstt⟩ := cw
  have hK : vx_Back l R p e below s args y 3 8 (PreOf R mc ms Pc) (PostOf Qc mc ms free) (vx_Post XC mc ms free) := vx_backW (hh := hh) (bytes := bytes) (maxL := maxL) (ret := ret) hM hp.1 hrc hrs hfr hlo hws hcw (fun a' U hW => word_at hW (Or.inl (by first | rfl | simp [Cond.onTables, Cond.keeps, Cond.steady])) hini)
  obtain ⟨hx, hb, hml, ho, -⟩ := S
  intro T hT X
  rcases vx_callSX X hx (hh := hh) (bytes := bytes) (maxL := maxL) (ret := ret) ho hl hstt hini hcode hy hK hg (hsize.trans hml.symm) (argsL := As) (rest := rest) (fun sig h => hn.trans (hlen sig h)) hstack hW (by rw [hb]; exact hdg)
    (fun vm₁ hW₁ => ⟨hf.1, hf.2, hp.2 (T.setVm vm₁) hT hW₁⟩) with ⟨v, vm₁, ⟨U', l2, c2, s2⟩, hW₁, X', ⟨g', mk, t, L, e1, e2, hq, h1, hL, h2, h3⟩, st⟩ | ⟨q, vm₁, ⟨U', l2, c2, s2⟩, hW₁, X', ⟨g', mk, t, L, E, ce, e1, e2, hq, hce, hcv, hcl, h1, hL, h2, h3⟩, st⟩
  · dsimp only [Pt.U, Pt.locs, Pt.cells, Pt.slots] at X' e1 e2 h1 h2 h3 st
    subst h1; subst h2; subst h3
    exact Or.inl ⟨v, (T.setVm vm₁).calling g' mk As.toArray, t, U', L, hT, X', hL, e1, e2, hq, st⟩
  · dsimp only [Pt.U, Pt.locs, Pt.cells, Pt.slots] at X' e1 e2 h1 h2 h3 st hcl
    subst h1; subst h2; subst h3
    exact Or.inr ⟨q, (T.setVm vm₁).calling g' mk As.toArray, t, U', L, E, ce, hT, X', hL, e1, e2, hq, hce, hcv, vx_cls hW₁ hcl, st⟩
end
end VXH
theorem vx_ofWH {l : Launch} {y : MethodName} {ws ws' : List Cond} {rm : Room} {Pc : Array Value → State → Prop} {Qc : Array Value → State → Outcome → State → Prop} {XC : String → State → State → Prop} {mc ms : Nat} {free : Addr → Prop} {cc : ByteArray} {maxL : Nat} {ret : Option FieldType} {hh : List (Nat × Nat × Nat × Nat)}
    (hy : plainName y.cls = true) (hw : ws = Cond.codeWith y cc maxL ret hh :: ws')
    (body : ∀ p e s m args below meth c s₁, BodyLoose p l y (headSpec ws rm) cc maxL ret e s m args below meth c s₁ → c.maxLocals = maxL → Pc args s →
      W p l e (headSpec ws rm).room s m args below meth c s.heap [] 0 0 (vx_MQ below Qc XC args s mc ms free) (entryFrame m args maxL)) : vx_Met l y ws rm Pc Qc XC mc ms free := by
  refine MetFree.of_bodyS (code := cc) (maxLocals := maxL) (ret := ret) hy ?_ ?_
  · intro args s m h hn
    obtain ⟨m9, meth, c, hn9, h1, h2, h3, h4, -, h5, h6, -⟩ := Cond.codeWith_spec (atoms_spec (ws := ws) h _ (by rw [hw]; exact List.mem_cons_self))
    cases hn.symm.trans hn9
    exact ⟨meth, c, h1, h2, h3, h4, h5, h6⟩
  · intro p e s m args below meth c s₁ B hml hP _
    have hh0 : s₁.heap = s.heap := by rw [B.state]; rfl
    obtain ⟨t, a1, o, b1, b2, b3⟩ := body p e s m args below meth c s₁ B hml hP s₁ hh0 (Stand.of_body B)
    exact ⟨t, o, a1, b1, b2, b3⟩
/-! ===== END ===== -/
/-! ===== BEGIN what the machine throws by itself, no traces kept ===== -/
section VXM
set_option maxHeartbeats 1000000 in
/-- the machine throws cls with the message text, no traces kept: from its note over the frame g to 'throwing' over the same frame (follows the proofs of Stand.vmThrowsMessage, Shelf/KitTracedVmS.lean, and Stand.throwsMessageColdBareV, StandMessageColdV.lean, without the step out of the frame) -/
theorem vx_vmAt {p : Program} {l : Launch} {e : Env} {R : Room} {s : State} {m₀ : MethodId} {args : Array Value} {below : List Frame} {meth : Method} {c : Code} {W : State} {locs : List Loc} {cells slots : Nat}
    (X : Stand p l e R s m₀ args below meth c W locs cells slots) (hexec : p.tables.exec = Jvm.exec) (htr : e.platform.stackTraces = false) {cls : String} {names : List String} {text : String}
    (hcls : Bundle.fit cls = true) (hnames : ∀ n ∈ names, Bundle.fit n = true) (hsoe : (cls == "java/lang/StackOverflowError") = false) (hoom : (cls == "java/lang/OutOfMemoryError") = false)
    (h : ∀ a ∈ Bundle.messageArmAtoms cls names, a.before args s = true)
    (hlocs : ∀ x ∈ locs, ∀ cell, s.heap[x.base]? = some cell → cell.vm.isStatics = false)
    (htext : (text == notModelled) = false) (hlimit : ¬ (stringBytes (stringToUtf16 text)).size > e.platform.arrayLengthLimit) (hheap : ¬ (stringBytes (stringToUtf16 text)).size * componentBytes .byte > e.platform.maxHeapBytes)
    {g : JFrame} (hg : g.method = m₀) (hsize : g.locals.size = c.maxLocals)
    (hRframes : names.length + 4 < R.frames) (hRlocals : 2 * g.monitorRoom + (g.stack.map fun v => v.category).sum + 10240 ≤ R.locals) (hshort : 13 * names.length + 55 ≤ 10240)
    (hRcells : cells + 3 ≤ R.cells) (hRslots : slots + ((stringBytes (stringToUtf16 text)).size + 4 + 6) ≤ R.slots) (hlocks : meth.locks = false) :
    ∃ (S : State) (q : Addr) (ce : Cell), (∀ target, Steps p.tables e below ((S.setTop g).pushFrame (.throwing q)) target → Steps p.tables e below ((W.setTop g).pushFrame (.throwNew cls (some text) none)) target) ∧
      Stand p l e R s m₀ args below meth c S locs (cells + 3) (slots + ((stringBytes (stringToUtf16 text)).size + 4 + 6)) ∧ S.heap[q]? = some ce ∧ s.vm.findClass cls = some ce.cls ∧ ce.vm = .none := by
  have howns : e.platform.frameOwnsMonitors = true := by rw [X.admits.platform]
  have hfin : e.platform.finalization = false := by rw [X.admits.platform]
  have hpl : e.platform.magicAccessors = ({} : Platform).magicAccessors := by rw [X.admits.platform]
  have a : ∀ x, x ∈ Bundle.messageArmAtoms cls names → x.holds args s none s [] = true := fun x hx => h x hx
  obtain ⟨T, Z0, L, -, Y⟩ := ThrowableC.of_atoms (args := args) howns hfin hpl (fun x hx => h x (by simp [Bundle.messageArmAtoms, hx]))
  obtain ⟨Z, M, LZ, LM, hnZ⟩ := Init0T.ofS_atoms (args := args) hpl L Y (fun x hx => h x (by simp [Bundle.messageArmAtoms, hx]))
  obtain ⟨P1, Ps, hlen, L1, hL, hP1m, hlink1, hlink⟩ := Bundle.chainS (args := args) hpl hnZ names cls hcls hnames (fun x hx => h x (by simp [Bundle.messageArmAtoms, hx]))
  obtain ⟨Zs, LZs, hn4, hfitv, hfitc⟩ := StringT.of_atoms (args := args) (fun x hx => h x (by simp [Bundle.messageArmAtoms, hx]))
  have hfound : s.vm.findClass cls = some P1.m.cls := findClass_of_methodNamed hP1m
  obtain ⟨c1, kX, hc1, hk, hord, -, -, hn6⟩ := Cond.instantiable_spec (a (.instantiable cls 6) (by simp [Bundle.messageArmAtoms]))
  cases Option.some.inj (hc1.symm.trans hfound)
  have hinit := Cond.initialized_spec hfound hk (a (.initialized cls) (by simp [Bundle.messageArmAtoms]))
  have hctor : kX.findMethod "<init>" "(Ljava/lang/String;)V" = some P1.m.idx := findMethod_of_methodNamed hP1m hk
  have hsel0 : selectMethod e.platform s.vm P1.m.cls T.fill0 = .method T.fill0 := by
    obtain ⟨c2, r2, m2, q1, q2, q3, q4, -⟩ := Cond.selects_spec (a (.selects cls Bundle.tFill0 Bundle.tFill0) (by simp [Bundle.messageArmAtoms]))
    cases Option.some.inj (q1.symm.trans hfound)
    cases Option.some.inj (q2.symm.trans (State.methodFound?_of_named Y.fill0 (by decide)))
    cases Option.some.inj (q3.symm.trans Y.fill0)
    rw [Launch.admits_selectMethod X.admits]; exact q4
  have hselF : selectMethod e.platform s.vm P1.m.cls T.fill = .method T.fill := by
    obtain ⟨c2, r2, m2, q1, q2, q3, q4, -⟩ := Cond.selects_spec (a (.selects cls Bundle.tFill Bundle.tFill) (by simp [Bundle.messageArmAtoms]))
    cases Option.some.inj (q1.symm.trans hfound)
    cases Option.some.inj (q2.symm.trans (State.methodFound?_of_named Y.fill (by decide)))
    cases Option.some.inj (q3.symm.trans Y.fill)
    rw [Launch.admits_selectMethod X.admits]; exact q4
  obtain ⟨cellS0, hcS0, hiss⟩ := Y.statics
  obtain ⟨u0, hu0⟩ := Cond.staticRefV Y.unassigned L.unassignedStatic L.statics hcS0 hiss (a (.isRef (.static Bundle.tN "UNASSIGNED_STACK" Bundle.steD)) (by simp [Bundle.messageArmAtoms]))
  obtain ⟨sen, hsen⟩ := Cond.staticRefV Y.sentinel L.sentinelStatic L.statics hcS0 hiss (a (.isRef (.static Bundle.tN "SUPPRESSED_SENTINEL" Bundle.listD)) (by simp [Bundle.messageArmAtoms]))
  obtain ⟨ci198, i198, fB, hk198, hg198, ha198, hsB, -, hnB, htB, hffB⟩ := Cond.ownField (t := .object "java/lang/Object") Y.found L.cls (by decide +kernel) (a (.fieldLink Bundle.tN 198 Bundle.tN "backtrace" "Ljava/lang/Object;") (by simp [Bundle.messageArmAtoms])) (a (.lays Bundle.tN Bundle.tN "backtrace" "Ljava/lang/Object;") (by simp [Bundle.messageArmAtoms])) e.platform hpl
  obtain ⟨cellS, hcS', heS, -, hkeep⟩ := X.same.2.2.2.2.2 T.aS cellS0 hcS0
  have hcellS : W.heap[T.aS]? = some cellS := hcS'
  have hout' : ∀ i, (⟨T.aS, i⟩ : Loc) ∉ locs := fun i hmem => by
    have := hlocs _ hmem cellS0 hcS0
    rw [hiss] at this; cases this
  have hknownS : cellS.vm ≠ .unknown := by
    rw [heS]; intro hu
    rw [show cellS0.vm = .unknown from hu] at hiss
    cases hiss
  have hvU : cellS.slots[T.fUnassigned.slot]? = some u0.v := by rw [hkeep _ (hout' _)]; exact hu0
  have hvSen : cellS.slots[T.fSentinel.slot]? = some sen.v := by rw [hkeep _ (hout' _)]; exact hsen
  obtain ⟨iM, hffM⟩ := Y.msg
  obtain ⟨tyC, dC, hdC, hdnC⟩ := Cond.laysAt hfound hk Y.cause (a (.lays cls Bundle.tN "cause" "Ljava/lang/Throwable;") (by simp [Bundle.messageArmAtoms]))
  obtain ⟨tyS, dS, hdS, hdnS⟩ := Cond.laysAt hfound hk Y.stack (a (.lays cls Bundle.tN "stackTrace" Bundle.steD) (by simp [Bundle.messageArmAtoms]))
  obtain ⟨tyP, dP, hdP, hdnP⟩ := Cond.laysAt hfound hk Y.supp (a (.lays cls Bundle.tN "suppressedExceptions" Bundle.listD) (by simp [Bundle.messageArmAtoms]))
  obtain ⟨tyM, dM, hdM, hdnM⟩ := Cond.laysAt hfound hk hffM (a (.lays cls Bundle.tN "detailMessage" "Ljava/lang/String;") (by simp [Bundle.messageArmAtoms]))
  obtain ⟨tyB, dB, hdB, hdnB⟩ := Cond.laysAt hfound hk hffB (a (.lays cls Bundle.tN "backtrace" "Ljava/lang/Object;") (by simp [Bundle.messageArmAtoms]))
  have bC := Cond.laysApart hdB hdC hdnB hdnC (by rw [hnB, Y.causeName]; decide)
  have bS := Cond.laysApart hdB hdS hdnB hdnS (by rw [hnB, Y.stackName]; decide)
  have bP := Cond.laysApart hdB hdP hdnB hdnP (by rw [hnB, Y.suppName]; decide)
  have hbk : ((preparedCellV T.toThrowableT (freshCell P1.m.cls kX) (W.heap.size + 2) u0 sen).withEntry W.cur).slots[fB.slot]? = some .null := by
    have := fresh_default (c := P1.m.cls) tyB
    rw [htB] at this
    simpa [preparedCellV, Cell.setSlot, Cell.withEntry, Array.getElem?_setIfInBounds, bC, bS, bP, bC.symm, bS.symm, bP.symm, defaultValue] using this
  have tkC := Takes.of_laid (v := .ref (W.heap.size + 2)) hk hord tyC (by rw [Y.causeType]; rfl)
  have tkS := Takes.of_laid (v := u0.v) hk hord tyS (by rw [Y.stackType]; exact fits_refV_array _ u0)
  have tkP := Takes.of_laid (v := sen.v) hk hord tyP (by rw [Y.suppType]; exact fits_refV_object _ sen)
  have tkM := Takes.of_laid (v := .ref (W.heap.size + 1)) hk hord tyM (by rw [Y.msgType]; rfl)
  have hskip : SkipFacts T e.platform s (fun u => u) u0 ((preparedCellV T.toThrowableT (freshCell P1.m.cls kX) (W.heap.size + 2) u0 sen).withEntry W.cur) := ⟨{ ci198 := ci198, i198 := i198, fBack := fB }, ⟨hk198, hg198, ha198, hsB⟩, hbk, fun _ _ => rfl⟩
  have h0 : At W g.method c below := by rw [hg]; exact X.here
  obtain ⟨hbeyond, hfreeW⟩ := X.vmMayThrow hsize (.throwNew cls (some text) none) (fun f hf => by cases hf) rfl hRlocals
  have hfr' : W.frames.length + Ps.length + 4 < (e.platform.stackLimits W.me).1 := by have := X.framesAbove hRframes; omega
  have hwd' : (stackUse (.java g :: W.frames.tail)).2 + 13 * Ps.length + 55 ≤ (e.platform.stackLimits W.me).2 := by have := X.stackAbove hsize (K := 13 * Ps.length + 55) (by omega); omega
  have hslots : W.slotsUsed + (stringBytes (stringToUtf16 text)).size + Zs.kS.instanceTypes.size + kX.instanceTypes.size ≤ e.platform.maxSlots := by
    have := X.slotsAbove hRslots
    rw [hn4, hn6]
    omega
  obtain ⟨vm', hW', st⟩ := Steps.vmThrowsMessageColdByV p (s₀ := s) (S := W) (g := g) h0 hexec T L Z LZ M LM X.warmed (t := W.cur) rfl Zs LZs P1 L1 Ps hL hlink1 hlink hsoe hoom hfound hk hinit hord hctor
    (Launch.admits_hotImplicitExceptions X.admits) hbeyond hfreeW htext hlimit hheap (X.cellsAbove hRcells) hslots (hfitv _) (hfitc _)
    (Nn := fun u => u) heapOnly_id (fun _ _ => rfl) (fun _ => rfl) (fun u x y => setCell_twice _ _ _ _) (fun _ => Nat.le_refl _) (cN := ((preparedCellV T.toThrowableT (freshCell P1.m.cls kX) (W.heap.size + 2) u0 sen).withEntry W.cur))
    hsel0 hcellS hknownS hvU tkS (fun _ hu => hu) (fun _ hu => hu) rfl rfl rfl (by simp [preparedCellV, Cell.setSlot, Cell.withEntry]) hskip (fun _ _ hA hW _ hroom _ hrest => L.nativeOff p htr hA hW hroom hrest) hselF hvSen tkC tkP tkM Y.objLocals rfl hfr' hwd'
  rw [plainBareV_eq T.toThrowableT (W.heap.size + 2) u0 sen (.ref (W.heap.size + 1)) W.cur rfl rfl] at st
  obtain ⟨-, -, w3, w4, -, -, -⟩ := withThrown_facts e.platform W Zs text P1.m.cls kX
  have X3 := ((X.pushed (bytesOf Zs.cB (stringToUtf16 text))).pushed (stringAt Zs.cS Zs.kS Zs.fv Zs.fc (stringToUtf16 text) W.heap.size)).pushed (freshCell P1.m.cls kX)
  rw [← withString_eq] at X3
  have X4 := X3.noted hW'
  have ha : (W.heap.size + 2) < ((withThrown W Zs text P1.m.cls kX).setVm vm').heap.size := by show _ < (withThrown W Zs text P1.m.cls kX).heap.size; rw [w3]; omega
  have hcell : ((withThrown W Zs text P1.m.cls kX).setVm vm').heap[(W.heap.size + 2)]? = some (freshCell P1.m.cls kX) := w4
  have X5 := ((((X4.stored hcell T.fCause.slot (.ref (W.heap.size + 2))).storedAgain ha T.fStack.slot u0.v).storedAgain ha T.fSupp.slot sen.v).storedAgain ha T.fStack.slot u0.v).storedAgain ha T.fMsg.slot (.ref (W.heap.size + 1))
  obtain ⟨g₁, hfrM⟩ := X5.frames_eq
  have hU : ((((withThrown W Zs text P1.m.cls kX).setVm vm').setCell (W.heap.size + 2) (plainBareV T.toThrowableT (freshCell P1.m.cls kX) (W.heap.size + 2) u0 sen (.ref (W.heap.size + 1)))).setTop g).pushFrame (.throwing (W.heap.size + 2)) = (((withThrown W Zs text P1.m.cls kX).setVm vm').setCell (W.heap.size + 2) (plainBareV T.toThrowableT (freshCell P1.m.cls kX) (W.heap.size + 2) u0 sen (.ref (W.heap.size + 1)))).setFrames (.throwing (W.heap.size + 2) :: .java g :: below) := by
    rw [State.pushFrame, State.frames_setTop _ hfrM, State.setTop_of_frames _ hfrM, State.setFrames_setFrames]
  have b1 : (bytesOf Zs.cB (stringToUtf16 text)).slots.size = (stringBytes (stringToUtf16 text)).size := by
    rw [(Cell.writeAll_facts _ _).2.2]; simp [bytes0]
  have b2 : (stringAt Zs.cS Zs.kS Zs.fv Zs.fc (stringToUtf16 text) W.heap.size).slots.size = 4 := by simp [string0, Cell.setSlot, hn4]
  have b3 : (freshCell P1.m.cls kX).slots.size = 6 := by simp [hn6]
  rw [b1, b2, b3] at X5
  have e9 : slots + (stringBytes (stringToUtf16 text)).size + 4 + 6 = slots + ((stringBytes (stringToUtf16 text)).size + 4 + 6) := by omega
  rw [e9] at X5
  simp only [List.append_assoc, List.cons_append, List.nil_append] at X5
  refine ⟨((withThrown W Zs text P1.m.cls kX).setVm vm').setCell (W.heap.size + 2) (plainBareV T.toThrowableT (freshCell P1.m.cls kX) (W.heap.size + 2) u0 sen (.ref (W.heap.size + 1))), W.heap.size + 2, _, fun target ht => st _ (by rw [X.tail, ← hU]; exact ht),
    X5.forget (fun y hy => ?_), heapAt_setCell_self _ ha, hfound, rfl⟩
  simp only [List.mem_cons, List.not_mem_nil, or_false] at hy
  have hge : s.heap.size ≤ W.heap.size := X.same.2.1
  rcases hy with rfl | rfl | rfl | rfl | rfl <;> exact Nat.le_trans hge (Nat.le_add_right _ 2)
set_option maxHeartbeats 1000000 in
/-- the machine throws NullPointerException, no traces kept: from its note over the frame g to 'throwing' over the same frame (follows the proof of Stand.vmThrowsNpe, Shelf42/KT2.lean; throwsNpeColdBareVAt, Shelf42/NT91.lean, called) -/
theorem vx_npeAt {p : Program} {l : Launch} {e : Env} {R : Room} {s : State} {m₀ : MethodId} {args : Array Value} {below : List Frame} {meth : Method} {c : Code} {W : State} {locs : List Loc} {cells slots : Nat}
    (X : Stand p l e R s m₀ args below meth c W locs cells slots) (hexec : p.tables.exec = Jvm.exec) (htr : e.platform.stackTraces = false) {n : Nat}
    (h : ∀ a ∈ Bundle.npeArmAtoms n, a.before args s = true)
    (hlocs : ∀ x ∈ locs, ∀ cell, s.heap[x.base]? = some cell → cell.vm.isStatics = false)
    {g : JFrame} (hg : g.method = m₀) (hsize : g.locals.size = c.maxLocals)
    (hRframes : 7 < R.frames) (hRlocals : 2 * g.monitorRoom + (g.stack.map fun v => v.category).sum + 10240 ≤ R.locals)
    (hRcells : cells + 1 ≤ R.cells) (hRslots : slots + n ≤ R.slots) (hlocks : meth.locks = false) :
    ∃ (S : State) (q : Addr) (ce : Cell), (∀ target, Steps p.tables e below ((S.setTop g).pushFrame (.throwing q)) target → Steps p.tables e below ((W.setTop g).pushFrame (.throwNew "java/lang/NullPointerException" none none)) target) ∧
      Stand p l e R s m₀ args below meth c S locs (cells + 1) (slots + n) ∧ S.heap[q]? = some ce ∧ s.vm.findClass "java/lang/NullPointerException" = some ce.cls ∧ ce.vm = .none := by
  have howns : e.platform.frameOwnsMonitors = true := by rw [X.admits.platform]
  have hfin : e.platform.finalization = false := by rw [X.admits.platform]
  have hpl : e.platform.magicAccessors = ({} : Platform).magicAccessors := by rw [X.admits.platform]
  have hpl2 : e.platform.arrayCloneIsPublic = true := by rw [X.admits.platform]
  have a' : ∀ x, x ∈ Bundle.npeArmAtoms n → x.holds args s none s [] = true := fun x hx => h x hx
  obtain ⟨T, Z, L, LZ, Y⟩ := ThrowableC.of_atoms (args := args) howns hfin hpl (fun x hx => h x (by simp [Bundle.npeArmAtoms, hx]))
  obtain ⟨N, LN, hcN, hnNF, hordN, hffS⟩ := NpeC.of_atoms (args := args) hpl hpl2 L Y (fun x hx => h x (by simp [Bundle.npeArmAtoms, hx]))
  obtain ⟨P1, L1, hP1m, hP1s⟩ := PassC.of_atoms (args := args) (s := s) hpl (X := Bundle.nN) (Y := Bundle.rN) (by decide) (by decide) LibCode.NullPointerException.Init0.at_0 LibCode.NullPointerException.Init0.at_1 LibCode.NullPointerException.Init0.at_4 (fun x hx => h x (by simp [Bundle.npeArmAtoms, hx]))
  obtain ⟨PR, LR, hPRm, hPRs⟩ := PassC.of_atoms (args := args) (s := s) hpl (X := Bundle.rN) (Y := Bundle.eN) (by decide) (by decide) LibCode.RuntimeException.Init0.at_0 LibCode.RuntimeException.Init0.at_1 LibCode.RuntimeException.Init0.at_4 (fun x hx => h x (by simp [Bundle.npeArmAtoms, hx]))
  obtain ⟨PE, LEx, hPEm, hPEs⟩ := PassC.of_atoms (args := args) (s := s) hpl (X := Bundle.eN) (Y := Bundle.tN) (by decide) (by decide) LibCode.Exception.Init0.at_0 LibCode.Exception.Init0.at_1 LibCode.Exception.Init0.at_4 (fun x hx => h x (by simp [Bundle.npeArmAtoms, hx]))
  have hfound : s.vm.findClass Bundle.nN = some P1.m.cls := findClass_of_methodNamed hP1m
  have ecls : N.cN = P1.m.cls := Option.some.inj (hcN.symm.trans hfound)
  have hk : s.vm.classes[P1.m.cls]? = some N.kN := by rw [← ecls]; exact LN.cls
  have hinit := Cond.initialized_spec hfound hk (a' (.initialized Bundle.nN) (by simp [Bundle.npeArmAtoms]))
  have hctor : N.kN.findMethod "<init>" "()V" = some P1.m.idx := findMethod_of_methodNamed hP1m hk
  obtain ⟨c1, k1, hc1, hk1, -, -, -, hn⟩ := Cond.instantiable_spec (a' (.instantiable Bundle.nN n) (by simp [Bundle.npeArmAtoms]))
  cases Option.some.inj (hc1.symm.trans hfound)
  cases Option.some.inj (hk1.symm.trans hk)
  have hfsz : (freshCell P1.m.cls N.kN).slots.size = n := by simp [hn]
  have hlink1 : P1.sup = PR.m := Option.some.inj (hP1s.symm.trans hPRm)
  have hlinkR : PR.sup = PE.m := Option.some.inj (hPRs.symm.trans hPEm)
  have hlinkE : PE.sup = Z.m T.toThrowableT := Option.some.inj (hPEs.symm.trans Y.init0)
  have hLs : ∀ P, P ∈ [PR, PE] → P.Links0 e.platform s := fun P hP => by
    simp only [List.mem_cons, List.not_mem_nil, or_false] at hP
    rcases hP with rfl | rfl
    · exact LR
    · exact LEx
  have hsel0 : selectMethod e.platform s.vm P1.m.cls T.fill0 = .method T.fill0 := by
    obtain ⟨c2, r2, m2, q1, q2, q3, q4, -⟩ := Cond.selects_spec (a' (.selects Bundle.nN Bundle.tFill0 Bundle.tFill0) (by simp [Bundle.npeArmAtoms]))
    cases Option.some.inj (q1.symm.trans hfound)
    cases Option.some.inj (q2.symm.trans (State.methodFound?_of_named Y.fill0 (by decide)))
    cases Option.some.inj (q3.symm.trans Y.fill0)
    rw [Launch.admits_selectMethod X.admits]; exact q4
  have hselF : selectMethod e.platform s.vm P1.m.cls T.fill = .method N.fill := by
    obtain ⟨c2, r2, m2, q1, q2, q3, q4, -⟩ := Cond.selects_spec (a' (.selects Bundle.nN Bundle.tFill Bundle.nFill) (by simp [Bundle.npeArmAtoms]))
    cases Option.some.inj (q1.symm.trans hfound)
    cases Option.some.inj (q2.symm.trans (State.methodFound?_of_named Y.fill (by decide)))
    cases Option.some.inj (q3.symm.trans hnNF)
    rw [Launch.admits_selectMethod X.admits]; exact q4
  obtain ⟨cellS0, hcS0, hiss⟩ := Y.statics
  obtain ⟨u0, hu0⟩ := Cond.staticRefV Y.unassigned L.unassignedStatic L.statics hcS0 hiss (a' (.isRef (.static Bundle.tN "UNASSIGNED_STACK" Bundle.steD)) (by simp [Bundle.npeArmAtoms]))
  obtain ⟨sen, hsen⟩ := Cond.staticRefV Y.sentinel L.sentinelStatic L.statics hcS0 hiss (a' (.isRef (.static Bundle.tN "SUPPRESSED_SENTINEL" Bundle.listD)) (by simp [Bundle.npeArmAtoms]))
  obtain ⟨ci198, i198, fB, hk198, hg198, ha198, hsB, -, hnB, htB, hffB⟩ := Cond.ownField (t := .object "java/lang/Object") Y.found L.cls (by decide +kernel) (a' (.fieldLink Bundle.tN 198 Bundle.tN "backtrace" Bundle.objD) (by simp [Bundle.npeArmAtoms])) (a' (.lays Bundle.tN Bundle.tN "backtrace" Bundle.objD) (by simp [Bundle.npeArmAtoms])) e.platform hpl
  obtain ⟨cellS, hcS', heS, -, hkeep⟩ := X.same.2.2.2.2.2 T.aS cellS0 hcS0
  have hcellS : W.heap[T.aS]? = some cellS := hcS'
  have hout' : ∀ i, (⟨T.aS, i⟩ : Loc) ∉ locs := fun i hmem => by
    have := hlocs _ hmem cellS0 hcS0
    rw [hiss] at this; cases this
  have hknownS : cellS.vm ≠ .unknown := by
    rw [heS]; intro hu
    rw [show cellS0.vm = .unknown from hu] at hiss
    cases hiss
  have hvU : cellS.slots[T.fUnassigned.slot]? = some u0.v := by rw [hkeep _ (hout' _)]; exact hu0
  have hvSen : cellS.slots[T.fSentinel.slot]? = some sen.v := by rw [hkeep _ (hout' _)]; exact hsen
  obtain ⟨tyC, dC, hdC, hdnC⟩ := Cond.laysAt hfound hk Y.cause (a' (.lays Bundle.nN Bundle.tN "cause" "Ljava/lang/Throwable;") (by simp [Bundle.npeArmAtoms]))
  obtain ⟨tyS, dS, hdS, hdnS⟩ := Cond.laysAt hfound hk Y.stack (a' (.lays Bundle.nN Bundle.tN "stackTrace" Bundle.steD) (by simp [Bundle.npeArmAtoms]))
  obtain ⟨tyP, dP, hdP, hdnP⟩ := Cond.laysAt hfound hk Y.supp (a' (.lays Bundle.nN Bundle.tN "suppressedExceptions" Bundle.listD) (by simp [Bundle.npeArmAtoms]))
  obtain ⟨tyX, dX, hdX, hdnX⟩ := Cond.laysAt hfound hk hffS (a' (.lays Bundle.nN Bundle.nN "extendedMessageState" "I") (by simp [Bundle.npeArmAtoms, Bundle.npeAtoms]))
  obtain ⟨hnX, htX⟩ := State.fieldFound?_type hffS (t := .int) (by decide +kernel)
  have xC := Cond.laysApart hdC hdX hdnC hdnX (by rw [hnX, Y.causeName]; decide)
  have xS := Cond.laysApart hdS hdX hdnS hdnX (by rw [hnX, Y.stackName]; decide)
  have xP := Cond.laysApart hdP hdX hdnP hdnX (by rw [hnX, Y.suppName]; decide)
  have hv0 : (freshCell P1.m.cls N.kN).slots[N.fState.slot]? = some (.int 0) := by
    have := fresh_default (c := P1.m.cls) tyX
    rw [htX] at this; exact this
  obtain ⟨tyB, dB, hdB, hdnB⟩ := Cond.laysAt hfound hk hffB (a' (.lays Bundle.nN Bundle.tN "backtrace" Bundle.objD) (by simp [Bundle.npeArmAtoms]))
  have bC := Cond.laysApart hdB hdC hdnB hdnC (by rw [hnB, Y.causeName]; decide)
  have bS := Cond.laysApart hdB hdS hdnB hdnS (by rw [hnB, Y.stackName]; decide)
  have bP := Cond.laysApart hdB hdP hdnB hdnP (by rw [hnB, Y.suppName]; decide)
  have bX := Cond.laysApart hdB hdX hdnB hdnX (by rw [hnB, hnX]; decide)
  have hbk : ((npeCell N.toNpeT (preparedCellV T.toThrowableT (freshCell P1.m.cls N.kN) W.heap.size u0 sen) W.cur).withEntry W.cur).slots[fB.slot]? = some .null := by
    have := fresh_default (c := P1.m.cls) tyB
    rw [htB] at this
    simpa [npeCell, preparedCellV, Cell.setSlot, Cell.withEntry, Array.getElem?_setIfInBounds, bC, bS, bP, bX, bC.symm, bS.symm, bP.symm, bX.symm, defaultValue] using this
  have tkC := Takes.of_laid (v := .ref W.heap.size) hk hordN tyC (by rw [Y.causeType]; rfl)
  have tkS := Takes.of_laid (v := u0.v) hk hordN tyS (by rw [Y.stackType]; exact fits_refV_array _ u0)
  have tkP := Takes.of_laid (v := sen.v) hk hordN tyP (by rw [Y.suppType]; exact fits_refV_object _ sen)
  have tkX := Takes.of_laid (v := .int 1) hk hordN tyX (by rw [htX]; rfl)
  have hskip : SkipFacts T e.platform s (fun u => u) u0 ((npeCell N.toNpeT (preparedCellV T.toThrowableT (freshCell P1.m.cls N.kN) W.heap.size u0 sen) W.cur).withEntry W.cur) := ⟨{ ci198 := ci198, i198 := i198, fBack := fB }, ⟨hk198, hg198, ha198, hsB⟩, hbk, fun _ _ => rfl⟩
  obtain ⟨vm', X3, st, -⟩ := X.throwsNpeColdBareVAt hexec hg hsize T L Z LZ N LN P1 L1 [PR, PE] hLs hlink1 ⟨hlinkR, hlinkE, trivial⟩ hfound hk hinit hordN hctor hsel0 hselF hcellS hknownS hvU hvSen
    hv0 xC xS xP tkC tkS tkP tkX Y.objLocals hskip (fun _ _ hA hW _ hroom _ hrest => L.nativeOff p htr hA hW hroom hrest) (by simpa using hRframes) hRlocals (by simp) hRcells (by rw [hn]; exact hRslots)
  have hlt : W.heap.size < ((W.pushCell (freshCell P1.m.cls N.kN)).setVm vm').heap.size := by
    show W.heap.size < (W.pushCell (freshCell P1.m.cls N.kN)).heap.size
    rw [State.heap_size_pushCell]; omega
  rw [hfsz] at X3
  obtain ⟨g₁, hfrM⟩ := X3.frames_eq
  have hU : ((((W.pushCell (freshCell P1.m.cls N.kN)).setVm vm').setCell W.heap.size (npeBareV T.toThrowableT N.toNpeT (freshCell P1.m.cls N.kN) W.heap.size u0 sen)).setTop g).pushFrame (.throwing W.heap.size) = (((W.pushCell (freshCell P1.m.cls N.kN)).setVm vm').setCell W.heap.size (npeBareV T.toThrowableT N.toNpeT (freshCell P1.m.cls N.kN) W.heap.size u0 sen)).setFrames (.throwing W.heap.size :: .java g :: below) := by
    rw [State.pushFrame, State.frames_setTop _ hfrM, State.setTop_of_frames _ hfrM, State.setFrames_setFrames]
  refine ⟨_, W.heap.size, _, fun target ht => st.trans (by rw [← hU]; exact ht), X3.forget (fun y hy => ?_), heapAt_setCell_self _ hlt, hfound, rfl⟩
  simp only [List.mem_cons, List.not_mem_nil, or_false] at hy
  have hge : s.heap.size ≤ W.heap.size := X.same.2.1
  rcases hy with rfl | rfl | rfl | rfl | rfl <;> exact hge
/-- the words of a machine's NullPointerException, but the four that speak of the heap -/
def vx_atN (n : Nat) : List Cond := (Bundle.npeArmAtoms n).filter vx_no
/-- the words of a machine's throw with a message, but the four that speak of the heap -/
def vx_atM (X : String) (names : List String) : List Cond := (Bundle.messageArmAtoms X names).filter vx_no
section
variable {p : Program} {l : Launch} {e : Env} {R : Room} {s : State} {m : MethodId} {args : Array Value} {below : List Frame} {meth : Method} {c : Code} {H : Heap} {locs : List Loc} {cells slots : Nat}
/-- a frame seen from a rebased start, seen from the first start again -/
theorem vx_back9 {T S : State} {R' : Room} {k n : Nat} (X : Stand p l e R s m args below meth c T locs cells slots) (Y : Stand p l e R' ((T.setVm s.vm).setFrames (.invoking m args :: below)) m args below meth c T [] 0 0) (Z : Stand p l e R' ((T.setVm s.vm).setFrames (.invoking m args :: below)) m args below meth c S [] k n) :
    Stand p l e R s m args below meth c S locs (cells + k) (slots + n) := by
  have hW0 : s.WarmedH ((T.setVm s.vm).setFrames (.invoking m args :: below)).vm := State.WarmedH.refl s
  refine { admits := X.admits, cas := X.cas, clock := X.clock, frames := X.frames, room := X.room, hears := X.hears, method := X.method, code := X.code, here := Z.here, tail := Z.tail, warmed := State.WarmedH.trans hW0 Z.warmed, limits := Z.limits.trans (Y.limits.symm.trans X.limits), bytes := Z.bytes.trans (Y.bytes.symm.trans X.bytes), same := ?_ }
  obtain ⟨e1, e2⟩ := Z.same
  rw [State.setFrames_setFrames] at e1
  have h2 : (T.setVm s.vm).sameButNew (S.setVm s.vm) [] k n := ⟨e1, e2⟩
  have h3 := X.same.trans h2
  rw [List.append_nil] at h3
  exact h3
/-- from the machine's note that E is thrown here with this text -/
def vx_Note (p : Program) (l : Launch) (e : Env) (R : Room) (s : State) (m : MethodId) (args : Array Value) (below : List Frame) (meth : Method) (c : Code) (H : Heap) (locs : List Loc) (cells slots : Nat) (Q : State → Prop) (g : JFrame) (E text : String) : Prop :=
  ∀ T : State, T.heap = H → Stand p l e R s m args below meth c T locs cells slots → ∃ t, Steps p.tables e below ((T.setTop g).pushFrame (.throwNew E (some text) none)) t ∧ Q t
theorem vx_vm {pc : Nat} {ls : Array Slot} {rest : List Value} {Q : State → Prop} (hexec : p.tables.exec = Jvm.exec) (hl : l.stackTraces = false) {cls text : String} {names : List String} {nb : Nat} {A : Nat → Prop}
    (hcls : Bundle.fit cls = true) (hnames : ∀ n ∈ names, Bundle.fit n = true) (hsoe : (cls == "java/lang/StackOverflowError") = false) (hoom : (cls == "java/lang/OutOfMemoryError") = false)
    (hat : ∀ w ∈ vx_atM cls names, w.before args s = true) (hgood : ∀ w ∈ vx_atM cls names, vx_ot w = true)
    (hU : vx_Zq Bundle.tN "UNASSIGNED_STACK" Bundle.steD A s s.heap) (hN : vx_Zq Bundle.tN "SUPPRESSED_SENTINEL" Bundle.listD A s s.heap) (hS : va_S A s.heap H locs) (hsize : ls.size = c.maxLocals)
    (htext : (text == notModelled) = false) (hnb : (stringBytes (stringToUtf16 text)).size ≤ nb) (hnb1 : nb ≤ 1000)
    (hRframes : names.length + 4 < R.frames) (hRlocals : (rest.map fun v => v.category).sum + 10240 ≤ R.locals) (hshort : 13 * names.length + 55 ≤ 10240) (hRcells : cells + 3 ≤ R.cells) (hRslots : slots + (nb + 10) ≤ R.slots) (hlocks : meth.locks = false)
    (k : ∀ (H1 : Heap) (q9 : Addr) (ce : Cell), H.size ≤ H1.size → (∀ q : Nat, q < H.size → H1[q]? = H[q]?) → va_S A s.heap H1 locs → H1[q9]? = some ce → ce.vm = .none → s.vm.findClass cls = some ce.cls → vx_W p l e R s m args below meth c H1 locs (cells + 3) (slots + (nb + 10)) Q (F0 m pc ls rest) q9) :
    vx_Note p l e R s m args below meth c H locs cells slots Q (F0 m pc ls rest) cls text := by
  intro T hT X
  have htr : e.platform.stackTraces = false := (show e.platform.stackTraces = l.stackTraces by rw [X.admits.platform]).trans hl
  have Y := vx_rebase X (R' := { frames := R.frames, locals := R.locals, cells := 3, slots := nb + 10 }) (Nat.le_refl _) (Nat.le_refl _) hRcells hRslots
  have hhp : ((T.setVm s.vm).setFrames (.invoking m args :: below)).heap = H := hT
  have hW0 : s.WarmedH ((T.setVm s.vm).setFrames (.invoking m args :: below)).vm := State.WarmedH.refl s
  have hat' : ∀ w ∈ vx_atM cls names, w.before args ((T.setVm s.vm).setFrames (.invoking m args :: below)) = true := fun w hw => vx_ot_at hW0 rfl (hgood w hw) (hat w hw)
  have hU' : vx_Zq Bundle.tN "UNASSIGNED_STACK" Bundle.steD A ((T.setVm s.vm).setFrames (.invoking m args :: below)) ((T.setVm s.vm).setFrames (.invoking m args :: below)).heap := by rw [hhp]; exact vx_Zq.moved hW0.alike (hU.kept hS.2.1)
  have hN' : vx_Zq Bundle.tN "SUPPRESSED_SENTINEL" Bundle.listD A ((T.setVm s.vm).setFrames (.invoking m args :: below)) ((T.setVm s.vm).setFrames (.invoking m args :: below)).heap := by rw [hhp]; exact vx_Zq.moved hW0.alike (hN.kept hS.2.1)
  obtain ⟨S, q, ce, st, Z, hce, hcl', hv⟩ := vx_vmAt Y hexec htr (cls := cls) (names := names) (text := text) hcls hnames hsoe hoom (vx_own hat' (vx_isRefq hU'.1) (vx_isRefq hN'.1) hU'.2.word hN'.2.word) (fun x hx => nomatch hx) htext
    (by rw [Launch.admits_arrayLengthLimit X.admits]; omega) (by rw [Launch.admits_maxHeapBytes X.admits]; simp only [componentBytes]; omega)
    (g := F0 m pc ls rest) rfl hsize hRframes (by show 2 * 0 + (rest.map fun v => v.category).sum + 10240 ≤ R.locals; omega) hshort (by show 0 + 3 ≤ 3; omega) (by show 0 + (_ + 4 + 6) ≤ nb + 10; omega) hlocks
  obtain ⟨f1, f2⟩ := vx_frame Z.same
  have f1' : H.size ≤ S.heap.size := by rw [← hT]; exact f1
  have f2' : ∀ q : Nat, q < H.size → S.heap[q]? = H[q]? := fun q hq => by
    rw [← hT]
    exact f2 q (by rw [← hT] at hq; exact hq) (fun z hz => nomatch hz)
  have X5 := vx_back9 X Y Z
  have X6 : Stand p l e R s m args below meth c S locs (cells + 3) (slots + (nb + 10)) := { X5 with same := X5.same.mono (by omega) (by omega) }
  obtain ⟨t, a1, b1⟩ := k S.heap q ce f1' f2' ⟨Nat.le_trans hS.1 f1', fun q h1 h2 => (f2' q (Nat.lt_of_lt_of_le h1 hS.1)).trans (hS.2.1 q h1 h2), hS.2.2⟩ hce hv hcl' S rfl X6
  exact ⟨t, st t a1, b1⟩
/-- from the machine's note that NullPointerException is thrown here -/
def vx_NoteN (p : Program) (l : Launch) (e : Env) (R : Room) (s : State) (m : MethodId) (args : Array Value) (below : List Frame) (meth : Method) (c : Code) (H : Heap) (locs : List Loc) (cells slots : Nat) (Q : State → Prop) (g : JFrame) : Prop :=
  ∀ T : State, T.heap = H → Stand p l e R s m args below meth c T locs cells slots → ∃ t, Steps p.tables e below ((T.setTop g).pushFrame (.throwNew "java/lang/NullPointerException" none none)) t ∧ Q t
theorem vx_npe {pc : Nat} {ls : Array Slot} {rest : List Value} {Q : State → Prop} (hexec : p.tables.exec = Jvm.exec) (hl : l.stackTraces = false) {nb : Nat} {A : Nat → Prop}
    (hat : ∀ w ∈ vx_atN nb, w.before args s = true) (hgood : ∀ w ∈ vx_atN nb, vx_ot w = true)
    (hU : vx_Zq Bundle.tN "UNASSIGNED_STACK" Bundle.steD A s s.heap) (hN : vx_Zq Bundle.tN "SUPPRESSED_SENTINEL" Bundle.listD A s s.heap) (hS : va_S A s.heap H locs) (hsize : ls.size = c.maxLocals)
    (hRframes : 7 < R.frames) (hRlocals : (rest.map fun v => v.category).sum + 10240 ≤ R.locals) (hRcells : cells + 1 ≤ R.cells) (hRslots : slots + nb ≤ R.slots) (hlocks : meth.locks = false)
    (k : ∀ (H1 : Heap) (q9 : Addr) (ce : Cell), H.size ≤ H1.size → (∀ q : Nat, q < H.size → H1[q]? = H[q]?) → va_S A s.heap H1 locs → H1[q9]? = some ce → ce.vm = .none → s.vm.findClass "java/lang/NullPointerException" = some ce.cls → vx_W p l e R s m args below meth c H1 locs (cells + 1) (slots + nb) Q (F0 m pc ls rest) q9) :
    vx_NoteN p l e R s m args below meth c H locs cells slots Q (F0 m pc ls rest) := by
  intro T hT X
  have htr : e.platform.stackTraces = false := (show e.platform.stackTraces = l.stackTraces by rw [X.admits.platform]).trans hl
  have Y := vx_rebase X (R' := { frames := R.frames, locals := R.locals, cells := 1, slots := nb }) (Nat.le_refl _) (Nat.le_refl _) hRcells hRslots
  have hhp : ((T.setVm s.vm).setFrames (.invoking m args :: below)).heap = H := hT
  have hW0 : s.WarmedH ((T.setVm s.vm).setFrames (.invoking m args :: below)).vm := State.WarmedH.refl s
  have hat' : ∀ w ∈ vx_atN nb, w.before args ((T.setVm s.vm).setFrames (.invoking m args :: below)) = true := fun w hw => vx_ot_at hW0 rfl (hgood w hw) (hat w hw)
  have hU' : vx_Zq Bundle.tN "UNASSIGNED_STACK" Bundle.steD A ((T.setVm s.vm).setFrames (.invoking m args :: below)) ((T.setVm s.vm).setFrames (.invoking m args :: below)).heap := by rw [hhp]; exact vx_Zq.moved hW0.alike (hU.kept hS.2.1)
  have hN' : vx_Zq Bundle.tN "SUPPRESSED_SENTINEL" Bundle.listD A ((T.setVm s.vm).setFrames (.invoking m args :: below)) ((T.setVm s.vm).setFrames (.invoking m args :: below)).heap := by rw [hhp]; exact vx_Zq.moved hW0.alike (hN.kept hS.2.1)
  obtain ⟨S, q, ce, st, Z, hce, hcl', hv⟩ := vx_npeAt Y hexec htr (n := nb) (vx_own hat' (vx_isRefq hU'.1) (vx_isRefq hN'.1) hU'.2.word hN'.2.word) (fun x hx => nomatch hx)
    (g := F0 m pc ls rest) rfl hsize hRframes (by show 2 * 0 + (rest.map fun v => v.category).sum + 10240 ≤ R.locals; omega) (by show 0 + 1 ≤ 1; omega) (by show 0 + nb ≤ nb; omega) hlocks
  obtain ⟨f1, f2⟩ := vx_frame Z.same
  have f1' : H.size ≤ S.heap.size := by rw [← hT]; exact f1
  have f2' : ∀ q : Nat, q < H.size → S.heap[q]? = H[q]? := fun q hq => by
    rw [← hT]
    exact f2 q (by rw [← hT] at hq; exact hq) (fun z hz => nomatch hz)
  have X5 := vx_back9 X Y Z
  have X6 : Stand p l e R s m args below meth c S locs (cells + 1) (slots + nb) := { X5 with same := X5.same.mono (by omega) (by omega) }
  obtain ⟨t, a1, b1⟩ := k S.heap q ce f1' f2' ⟨Nat.le_trans hS.1 f1', fun q h1 h2 => (f2' q (Nat.lt_of_lt_of_le h1 hS.1)).trans (hS.2.1 q h1 h2), hS.2.2⟩ hce hv hcl' S rfl X6
  exact ⟨t, st t a1, b1⟩
variable {Q : State → Prop} {cc : ByteArray} {pc : Nat} {ls : Array Slot} {rest : List Value}
theorem vx_idivZ (hexec : p.tables.exec = Jvm.exec) (hb : c.code = cc) {a b : Int32} (h0 : b = 0) (d : decode cc pc = .ok (.idiv, 1)) (k : vx_Note p l e R s m args below meth c H locs cells slots Q (F0 m pc ls rest) "java/lang/ArithmeticException" "/ by zero") :
    W p l e R s m args below meth c H locs cells slots Q (F0 m pc ls (.int b :: .int a :: rest)) := by
  intro T hT X
  obtain ⟨t, st, q⟩ := k T hT X
  exact ⟨t, X.idivZero hexec (g := F0 m pc ls (.int b :: .int a :: rest)) rfl (a := a) (rest := rest) (by rw [h0]) (by rw [hb]; exact d) t st, q⟩
theorem vx_iremZ (hexec : p.tables.exec = Jvm.exec) (hb : c.code = cc) {a b : Int32} (h0 : b = 0) (d : decode cc pc = .ok (.irem, 1)) (k : vx_Note p l e R s m args below meth c H locs cells slots Q (F0 m pc ls rest) "java/lang/ArithmeticException" "/ by zero") :
    W p l e R s m args below meth c H locs cells slots Q (F0 m pc ls (.int b :: .int a :: rest)) := by
  intro T hT X
  obtain ⟨t, st, q⟩ := k T hT X
  exact ⟨t, X.iremZero hexec (g := F0 m pc ls (.int b :: .int a :: rest)) rfl (a := a) (rest := rest) (by rw [h0]) (by rw [hb]; exact d) t st, q⟩
theorem vx_ldivZ (hexec : p.tables.exec = Jvm.exec) (hb : c.code = cc) {a b : Int64} (h0 : b = 0) (d : decode cc pc = .ok (.ldiv, 1)) (k : vx_Note p l e R s m args below meth c H locs cells slots Q (F0 m pc ls rest) "java/lang/ArithmeticException" "/ by zero") :
    W p l e R s m args below meth c H locs cells slots Q (F0 m pc ls (.long b :: .long a :: rest)) := by
  intro T hT X
  obtain ⟨t, st, q⟩ := k T hT X
  exact ⟨t, X.ldivZero hexec (g := F0 m pc ls (.long b :: .long a :: rest)) rfl (a := a) (rest := rest) (by rw [h0]) (by rw [hb]; exact d) t st, q⟩
theorem vx_lremZ (hexec : p.tables.exec = Jvm.exec) (hb : c.code = cc) {a b : Int64} (h0 : b = 0) (d : decode cc pc = .ok (.lrem, 1)) (k : vx_Note p l e R s m args below meth c H locs cells slots Q (F0 m pc ls rest) "java/lang/ArithmeticException" "/ by zero") :
    W p l e R s m args below meth c H locs cells slots Q (F0 m pc ls (.long b :: .long a :: rest)) := by
  intro T hT X
  obtain ⟨t, st, q⟩ := k T hT X
  exact ⟨t, X.lremZero hexec (g := F0 m pc ls (.long b :: .long a :: rest)) rfl (a := a) (rest := rest) (by rw [h0]) (by rw [hb]; exact d) t st, q⟩
theorem vx_ialdZ {D : va_G} {cl : List vw_C} {ws : va_W} {tys : List (ClassId × FieldType)} {a : Nat} (hexec : p.tables.exec = Jvm.exec) (hb : c.code = cc) (hK : va_K D cl tys s) (hP : va_P D cl ws H) (q0 t0 : Nat) {cA : ClassId} {n : Nat} {f : Nat → Int32} (ha : ws[q0]? = some (a, .inl (cA, n, .inl f))) (ht : tys[t0]? = some (cA, .int)) {i : Int32} (hout : ¬ vp_in i n) (hdg : decode cc pc = .ok (.iaload, 1))
    (k : ∀ tx : String, tx = (toString "Index " ++ toString i ++ toString " out of bounds for length " ++ toString n : String) → vx_Note p l e R s m args below meth c H locs cells slots Q (F0 m pc ls rest) "java/lang/ArrayIndexOutOfBoundsException" tx) : W p l e R s m args below meth c H locs cells slots Q (F0 m pc ls (.int i :: .ref a :: rest)) := by
  intro T hT X
  obtain ⟨t, st, q⟩ := k _ rfl T hT X
  refine ⟨t, ?_, q⟩
  have h1 := X.ialoadOut hexec (by rw [hT]; exact hP q0 _ ha) ((hK.2 t0 _ ht).1 n (fun j => .int (f j))) (j := i) (by show (i < 0 ∨ (arrV _ _ _).slots.size ≤ _); rw [arrV_size]; exact Classical.byContradiction hout) (g := F0 m pc ls (.int i :: .ref a :: rest)) rfl (rest := rest) rfl (by rw [hb]; exact hdg) t
  simp only [arrV_size] at h1
  exact h1 st
theorem vx_iastZ {D : va_G} {cl : List vw_C} {ws : va_W} {tys : List (ClassId × FieldType)} {a : Nat} (hexec : p.tables.exec = Jvm.exec) (hb : c.code = cc) (hK : va_K D cl tys s) (hP : va_P D cl ws H) (q0 t0 : Nat) {cA : ClassId} {n : Nat} {f : Nat → Int32} (ha : ws[q0]? = some (a, .inl (cA, n, .inl f))) (ht : tys[t0]? = some (cA, .int)) {i : Int32} {x : Int32} (hout : ¬ vp_in i n) (hdg : decode cc pc = .ok (.iastore, 1))
    (k : ∀ tx : String, tx = (toString "Index " ++ toString i ++ toString " out of bounds for length " ++ toString n : String) → vx_Note p l e R s m args below meth c H locs cells slots Q (F0 m pc ls rest) "java/lang/ArrayIndexOutOfBoundsException" tx) : W p l e R s m args below meth c H locs cells slots Q (F0 m pc ls (.int x :: .int i :: .ref a :: rest)) := by
  intro T hT X
  obtain ⟨t, st, q⟩ := k _ rfl T hT X
  refine ⟨t, ?_, q⟩
  have h1 := X.iastoreOut hexec (by rw [hT]; exact hP q0 _ ha) ((hK.2 t0 _ ht).1 n (fun j => .int (f j))) (j := i) (by show (i < 0 ∨ (arrV _ _ _).slots.size ≤ _); rw [arrV_size]; exact Classical.byContradiction hout) (g := F0 m pc ls (.int x :: .int i :: .ref a :: rest)) rfl (rest := rest) rfl (by rw [hb]; exact hdg) t
  simp only [arrV_size] at h1
  exact h1 st
theorem vx_baldZ {D : va_G} {cl : List vw_C} {ws : va_W} {tys : List (ClassId × FieldType)} {a : Nat} (hexec : p.tables.exec = Jvm.exec) (hb : c.code = cc) (hK : va_K D cl tys s) (hP : va_P D cl ws H) (q0 t0 : Nat) {cA : ClassId} {n : Nat} {f : Nat → Int32} (ha : ws[q0]? = some (a, .inl (cA, n, .inl f))) (ht : tys[t0]? = some (cA, .byte)) {i : Int32} (hout : ¬ vp_in i n) (hdg : decode cc pc = .ok (.baload, 1))
    (k : ∀ tx : String, tx = (toString "Index " ++ toString i ++ toString " out of bounds for length " ++ toString n : String) → vx_Note p l e R s m args below meth c H locs cells slots Q (F0 m pc ls rest) "java/lang/ArrayIndexOutOfBoundsException" tx) : W p l e R s m args below meth c H locs cells slots Q (F0 m pc ls (.int i :: .ref a :: rest)) := by
  intro T hT X
  obtain ⟨t, st, q⟩ := k _ rfl T hT X
  refine ⟨t, ?_, q⟩
  have h1 := X.baloadOut hexec (by rw [hT]; exact hP q0 _ ha) ((hK.2 t0 _ ht).1 n (fun j => .int (f j))) (j := i) (by show (i < 0 ∨ (arrV _ _ _).slots.size ≤ _); rw [arrV_size]; exact Classical.byContradiction hout) (g := F0 m pc ls (.int i :: .ref a :: rest)) rfl (rest := rest) rfl (by rw [hb]; exact hdg) t
  simp only [arrV_size] at h1
  exact h1 st
theorem vx_bastZ {D : va_G} {cl : List vw_C} {ws : va_W} {tys : List (ClassId × FieldType)} {a : Nat} (hexec : p.tables.exec = Jvm.exec) (hb : c.code = cc) (hK : va_K D cl tys s) (hP : va_P D cl ws H) (q0 t0 : Nat) {cA : ClassId} {n : Nat} {f : Nat → Int32} (ha : ws[q0]? = some (a, .inl (cA, n, .inl f))) (ht : tys[t0]? = some (cA, .byte)) {i : Int32} {x : Int32} (hout : ¬ vp_in i n) (hdg : decode cc pc = .ok (.bastore, 1))
    (k : ∀ tx : String, tx = (toString "Index " ++ toString i ++ toString " out of bounds for length " ++ toString n : String) → vx_Note p l e R s m args below meth c H locs cells slots Q (F0 m pc ls rest) "java/lang/ArrayIndexOutOfBoundsException" tx) : W p l e R s m args below meth c H locs cells slots Q (F0 m pc ls (.int x :: .int i :: .ref a :: rest)) := by
  intro T hT X
  obtain ⟨t, st, q⟩ := k _ rfl T hT X
  refine ⟨t, ?_, q⟩
  have h1 := X.bastoreOut hexec (by rw [hT]; exact hP q0 _ ha) ((hK.2 t0 _ ht).1 n (fun j => .int (f j))) (j := i) (by show (i < 0 ∨ (arrV _ _ _).slots.size ≤ _); rw [arrV_size]; exact Classical.byContradiction hout) (g := F0 m pc ls (.int x :: .int i :: .ref a :: rest)) rfl (rest := rest) rfl (by rw [hb]; exact hdg) t
  simp only [arrV_size] at h1
  exact h1 st
theorem vx_zaldZ {D : va_G} {cl : List vw_C} {ws : va_W} {tys : List (ClassId × FieldType)} {a : Nat} (hexec : p.tables.exec = Jvm.exec) (hb : c.code = cc) (hK : va_K D cl tys s) (hP : va_P D cl ws H) (q0 t0 : Nat) {cA : ClassId} {n : Nat} {f : Nat → Int32} (ha : ws[q0]? = some (a, .inl (cA, n, .inl f))) (ht : tys[t0]? = some (cA, .boolean)) {i : Int32} (hout : ¬ vp_in i n) (hdg : decode cc pc = .ok (.baload, 1))
    (k : ∀ tx : String, tx = (toString "Index " ++ toString i ++ toString " out of bounds for length " ++ toString n : String) → vx_Note p l e R s m args below meth c H locs cells slots Q (F0 m pc ls rest) "java/lang/ArrayIndexOutOfBoundsException" tx) : W p l e R s m args below meth c H locs cells slots Q (F0 m pc ls (.int i :: .ref a :: rest)) := by
  intro T hT X
  obtain ⟨t, st, q⟩ := k _ rfl T hT X
  refine ⟨t, ?_, q⟩
  have h1 := X.baloadOut hexec (by rw [hT]; exact hP q0 _ ha) ((hK.2 t0 _ ht).1 n (fun j => .int (f j))) (j := i) (by show (i < 0 ∨ (arrV _ _ _).slots.size ≤ _); rw [arrV_size]; exact Classical.byContradiction hout) (g := F0 m pc ls (.int i :: .ref a :: rest)) rfl (rest := rest) rfl (by rw [hb]; exact hdg) t
  simp only [arrV_size] at h1
  exact h1 st
theorem vx_zastZ {D : va_G} {cl : List vw_C} {ws : va_W} {tys : List (ClassId × FieldType)} {a : Nat} (hexec : p.tables.exec = Jvm.exec) (hb : c.code = cc) (hK : va_K D cl tys s) (hP : va_P D cl ws H) (q0 t0 : Nat) {cA : ClassId} {n : Nat} {f : Nat → Int32} (ha : ws[q0]? = some (a, .inl (cA, n, .inl f))) (ht : tys[t0]? = some (cA, .boolean)) {i : Int32} {x : Int32} (hout : ¬ vp_in i n) (hdg : decode cc pc = .ok (.bastore, 1))
    (k : ∀ tx : String, tx = (toString "Index " ++ toString i ++ toString " out of bounds for length " ++ toString n : String) → vx_Note p l e R s m args below meth c H locs cells slots Q (F0 m pc ls rest) "java/lang/ArrayIndexOutOfBoundsException" tx) : W p l e R s m args below meth c H locs cells slots Q (F0 m pc ls (.int x :: .int i :: .ref a :: rest)) := by
  intro T hT X
  obtain ⟨t, st, q⟩ := k _ rfl T hT X
  refine ⟨t, ?_, q⟩
  have h1 := X.bastoreOut hexec (by rw [hT]; exact hP q0 _ ha) ((hK.2 t0 _ ht).1 n (fun j => .int (f j))) (j := i) (by show (i < 0 ∨ (arrV _ _ _).slots.size ≤ _); rw [arrV_size]; exact Classical.byContradiction hout) (g := F0 m pc ls (.int x :: .int i :: .ref a :: rest)) rfl (rest := rest) rfl (by rw [hb]; exact hdg) t
  simp only [arrV_size] at h1
  exact h1 st
theorem vx_caldZ {D : va_G} {cl : List vw_C} {ws : va_W} {tys : List (ClassId × FieldType)} {a : Nat} (hexec : p.tables.exec = Jvm.exec) (hb : c.code = cc) (hK : va_K D cl tys s) (hP : va_P D cl ws H) (q0 t0 : Nat) {cA : ClassId} {n : Nat} {f : Nat → Int32} (ha : ws[q0]? = some (a, .inl (cA, n, .inl f))) (ht : tys[t0]? = some (cA, .char)) {i : Int32} (hout : ¬ vp_in i n) (hdg : decode cc pc = .ok (.caload, 1))
    (k : ∀ tx : String, tx = (toString "Index " ++ toString i ++ toString " out of bounds for length " ++ toString n : String) → vx_Note p l e R s m args below meth c H locs cells slots Q (F0 m pc ls rest) "java/lang/ArrayIndexOutOfBoundsException" tx) : W p l e R s m args below meth c H locs cells slots Q (F0 m pc ls (.int i :: .ref a :: rest)) := by
  intro T hT X
  obtain ⟨t, st, q⟩ := k _ rfl T hT X
  refine ⟨t, ?_, q⟩
  have h1 := X.caloadOut hexec (by rw [hT]; exact hP q0 _ ha) ((hK.2 t0 _ ht).1 n (fun j => .int (f j))) (j := i) (by show (i < 0 ∨ (arrV _ _ _).slots.size ≤ _); rw [arrV_size]; exact Classical.byContradiction hout) (g := F0 m pc ls (.int i :: .ref a :: rest)) rfl (rest := rest) rfl (by rw [hb]; exact hdg) t
  simp only [arrV_size] at h1
  exact h1 st
theorem vx_castZ {D : va_G} {cl : List vw_C} {ws : va_W} {tys : List (ClassId × FieldType)} {a : Nat} (hexec : p.tables.exec = Jvm.exec) (hb : c.code = cc) (hK : va_K D cl tys s) (hP : va_P D cl ws H) (q0 t0 : Nat) {cA : ClassId} {n : Nat} {f : Nat → Int32} (ha : ws[q0]? = some (a, .inl (cA, n, .inl f))) (ht : tys[t0]? = some (cA, .char)) {i : Int32} {x : Int32} (hout : ¬ vp_in i n) (hdg : decode cc pc = .ok (.castore, 1))
    (k : ∀ tx : String, tx = (toString "Index " ++ toString i ++ toString " out of bounds for length " ++ toString n : String) → vx_Note p l e R s m args below meth c H locs cells slots Q (F0 m pc ls rest) "java/lang/ArrayIndexOutOfBoundsException" tx) : W p l e R s m args below meth c H locs cells slots Q (F0 m pc ls (.int x :: .int i :: .ref a :: rest)) := by
  intro T hT X
  obtain ⟨t, st, q⟩ := k _ rfl T hT X
  refine ⟨t, ?_, q⟩
  have h1 := X.castoreOut hexec (by rw [hT]; exact hP q0 _ ha) ((hK.2 t0 _ ht).1 n (fun j => .int (f j))) (j := i) (by show (i < 0 ∨ (arrV _ _ _).slots.size ≤ _); rw [arrV_size]; exact Classical.byContradiction hout) (g := F0 m pc ls (.int x :: .int i :: .ref a :: rest)) rfl (rest := rest) rfl (by rw [hb]; exact hdg) t
  simp only [arrV_size] at h1
  exact h1 st
theorem vx_saldZ {D : va_G} {cl : List vw_C} {ws : va_W} {tys : List (ClassId × FieldType)} {a : Nat} (hexec : p.tables.exec = Jvm.exec) (hb : c.code = cc) (hK : va_K D cl tys s) (hP : va_P D cl ws H) (q0 t0 : Nat) {cA : ClassId} {n : Nat} {f : Nat → Int32} (ha : ws[q0]? = some (a, .inl (cA, n, .inl f))) (ht : tys[t0]? = some (cA, .short)) {i : Int32} (hout : ¬ vp_in i n) (hdg : decode cc pc = .ok (.saload, 1))
    (k : ∀ tx : String, tx = (toString "Index " ++ toString i ++ toString " out of bounds for length " ++ toString n : String) → vx_Note p l e R s m args below meth c H locs cells slots Q (F0 m pc ls rest) "java/lang/ArrayIndexOutOfBoundsException" tx) : W p l e R s m args below meth c H locs cells slots Q (F0 m pc ls (.int i :: .ref a :: rest)) := by
  intro T hT X
  obtain ⟨t, st, q⟩ := k _ rfl T hT X
  refine ⟨t, ?_, q⟩
  have h1 := X.saloadOut hexec (by rw [hT]; exact hP q0 _ ha) ((hK.2 t0 _ ht).1 n (fun j => .int (f j))) (j := i) (by show (i < 0 ∨ (arrV _ _ _).slots.size ≤ _); rw [arrV_size]; exact Classical.byContradiction hout) (g := F0 m pc ls (.int i :: .ref a :: rest)) rfl (rest := rest) rfl (by rw [hb]; exact hdg) t
  simp only [arrV_size] at h1
  exact h1 st
theorem vx_sastZ {D : va_G} {cl : List vw_C} {ws : va_W} {tys : List (ClassId × FieldType)} {a : Nat} (hexec : p.tables.exec = Jvm.exec) (hb : c.code = cc) (hK : va_K D cl tys s) (hP : va_P D cl ws H) (q0 t0 : Nat) {cA : ClassId} {n : Nat} {f : Nat → Int32} (ha : ws[q0]? = some (a, .inl (cA, n, .inl f))) (ht : tys[t0]? = some (cA, .short)) {i : Int32} {x : Int32} (hout : ¬ vp_in i n) (hdg : decode cc pc = .ok (.sastore, 1))
    (k : ∀ tx : String, tx = (toString "Index " ++ toString i ++ toString " out of bounds for length " ++ toString n : String) → vx_Note p l e R s m args below meth c H locs cells slots Q (F0 m pc ls rest) "java/lang/ArrayIndexOutOfBoundsException" tx) : W p l e R s m args below meth c H locs cells slots Q (F0 m pc ls (.int x :: .int i :: .ref a :: rest)) := by
  intro T hT X
  obtain ⟨t, st, q⟩ := k _ rfl T hT X
  refine ⟨t, ?_, q⟩
  have h1 := X.sastoreOut hexec (by rw [hT]; exact hP q0 _ ha) ((hK.2 t0 _ ht).1 n (fun j => .int (f j))) (j := i) (by show (i < 0 ∨ (arrV _ _ _).slots.size ≤ _); rw [arrV_size]; exact Classical.byContradiction hout) (g := F0 m pc ls (.int x :: .int i :: .ref a :: rest)) rfl (rest := rest) rfl (by rw [hb]; exact hdg) t
  simp only [arrV_size] at h1
  exact h1 st
theorem vx_laldZ {D : va_G} {cl : List vw_C} {ws : va_W} {tys : List (ClassId × FieldType)} {a : Nat} (hexec : p.tables.exec = Jvm.exec) (hb : c.code = cc) (hK : va_K D cl tys s) (hP : va_P D cl ws H) (q0 t0 : Nat) {cA : ClassId} {n : Nat} {f : Nat → Int64} (ha : ws[q0]? = some (a, .inl (cA, n, .inr (.inl f)))) (ht : tys[t0]? = some (cA, .long)) {i : Int32} (hout : ¬ vp_in i n) (hdg : decode cc pc = .ok (.laload, 1))
    (k : ∀ tx : String, tx = (toString "Index " ++ toString i ++ toString " out of bounds for length " ++ toString n : String) → vx_Note p l e R s m args below meth c H locs cells slots Q (F0 m pc ls rest) "java/lang/ArrayIndexOutOfBoundsException" tx) : W p l e R s m args below meth c H locs cells slots Q (F0 m pc ls (.int i :: .ref a :: rest)) := by
  intro T hT X
  obtain ⟨t, st, q⟩ := k _ rfl T hT X
  refine ⟨t, ?_, q⟩
  have h1 := X.laloadOut hexec (by rw [hT]; exact hP q0 _ ha) ((hK.2 t0 _ ht).1 n (fun j => .long (f j))) (j := i) (by show (i < 0 ∨ (arrV _ _ _).slots.size ≤ _); rw [arrV_size]; exact Classical.byContradiction hout) (g := F0 m pc ls (.int i :: .ref a :: rest)) rfl (rest := rest) rfl (by rw [hb]; exact hdg) t
  simp only [arrV_size] at h1
  exact h1 st
theorem vx_lastZ {D : va_G} {cl : List vw_C} {ws : va_W} {tys : List (ClassId × FieldType)} {a : Nat} (hexec : p.tables.exec = Jvm.exec) (hb : c.code = cc) (hK : va_K D cl tys s) (hP : va_P D cl ws H) (q0 t0 : Nat) {cA : ClassId} {n : Nat} {f : Nat → Int64} (ha : ws[q0]? = some (a, .inl (cA, n, .inr (.inl f)))) (ht : tys[t0]? = some (cA, .long)) {i : Int32} {x : Int64} (hout : ¬ vp_in i n) (hdg : decode cc pc = .ok (.lastore, 1))
    (k : ∀ tx : String, tx = (toString "Index " ++ toString i ++ toString " out of bounds for length " ++ toString n : String) → vx_Note p l e R s m args below meth c H locs cells slots Q (F0 m pc ls rest) "java/lang/ArrayIndexOutOfBoundsException" tx) : W p l e R s m args below meth c H locs cells slots Q (F0 m pc ls (.long x :: .int i :: .ref a :: rest)) := by
  intro T hT X
  obtain ⟨t, st, q⟩ := k _ rfl T hT X
  refine ⟨t, ?_, q⟩
  have h1 := X.lastoreOut hexec (by rw [hT]; exact hP q0 _ ha) ((hK.2 t0 _ ht).1 n (fun j => .long (f j))) (j := i) (by show (i < 0 ∨ (arrV _ _ _).slots.size ≤ _); rw [arrV_size]; exact Classical.byContradiction hout) (g := F0 m pc ls (.long x :: .int i :: .ref a :: rest)) rfl (rest := rest) rfl (by rw [hb]; exact hdg) t
  simp only [arrV_size] at h1
  exact h1 st
theorem vx_faldZ {D : va_G} {cl : List vw_C} {ws : va_W} {tys : List (ClassId × FieldType)} {a : Nat} (hexec : p.tables.exec = Jvm.exec) (hb : c.code = cc) (hK : va_K D cl tys s) (hP : va_P D cl ws H) (q0 t0 : Nat) {cA : ClassId} {n : Nat} {f : Nat → UInt32} (ha : ws[q0]? = some (a, .inl (cA, n, .inr (.inr (.inl f))))) (ht : tys[t0]? = some (cA, .float)) {i : Int32} (hout : ¬ vp_in i n) (hdg : decode cc pc = .ok (.faload, 1))
    (k : ∀ tx : String, tx = (toString "Index " ++ toString i ++ toString " out of bounds for length " ++ toString n : String) → vx_Note p l e R s m args below meth c H locs cells slots Q (F0 m pc ls rest) "java/lang/ArrayIndexOutOfBoundsException" tx) : W p l e R s m args below meth c H locs cells slots Q (F0 m pc ls (.int i :: .ref a :: rest)) := by
  intro T hT X
  obtain ⟨t, st, q⟩ := k _ rfl T hT X
  refine ⟨t, ?_, q⟩
  have h1 := X.faloadOut hexec (by rw [hT]; exact hP q0 _ ha) ((hK.2 t0 _ ht).1 n (fun j => .float (f j))) (j := i) (by show (i < 0 ∨ (arrV _ _ _).slots.size ≤ _); rw [arrV_size]; exact Classical.byContradiction hout) (g := F0 m pc ls (.int i :: .ref a :: rest)) rfl (rest := rest) rfl (by rw [hb]; exact hdg) t
  simp only [arrV_size] at h1
  exact h1 st
theorem vx_fastZ {D : va_G} {cl : List vw_C} {ws : va_W} {tys : List (ClassId × FieldType)} {a : Nat} (hexec : p.tables.exec = Jvm.exec) (hb : c.code = cc) (hK : va_K D cl tys s) (hP : va_P D cl ws H) (q0 t0 : Nat) {cA : ClassId} {n : Nat} {f : Nat → UInt32} (ha : ws[q0]? = some (a, .inl (cA, n, .inr (.inr (.inl f))))) (ht : tys[t0]? = some (cA, .float)) {i : Int32} {x : UInt32} (hout : ¬ vp_in i n) (hdg : decode cc pc = .ok (.fastore, 1))
    (k : ∀ tx : String, tx = (toString "Index " ++ toString i ++ toString " out of bounds for length " ++ toString n : String) → vx_Note p l e R s m args below meth c H locs cells slots Q (F0 m pc ls rest) "java/lang/ArrayIndexOutOfBoundsException" tx) : W p l e R s m args below meth c H locs cells slots Q (F0 m pc ls (.float x :: .int i :: .ref a :: rest)) := by
  intro T hT X
  obtain ⟨t, st, q⟩ := k _ rfl T hT X
  refine ⟨t, ?_, q⟩
  have h1 := X.fastoreOut hexec (by rw [hT]; exact hP q0 _ ha) ((hK.2 t0 _ ht).1 n (fun j => .float (f j))) (j := i) (by show (i < 0 ∨ (arrV _ _ _).slots.size ≤ _); rw [arrV_size]; exact Classical.byContradiction hout) (g := F0 m pc ls (.float x :: .int i :: .ref a :: rest)) rfl (rest := rest) rfl (by rw [hb]; exact hdg) t
  simp only [arrV_size] at h1
  exact h1 st
theorem vx_daldZ {D : va_G} {cl : List vw_C} {ws : va_W} {tys : List (ClassId × FieldType)} {a : Nat} (hexec : p.tables.exec = Jvm.exec) (hb : c.code = cc) (hK : va_K D cl tys s) (hP : va_P D cl ws H) (q0 t0 : Nat) {cA : ClassId} {n : Nat} {f : Nat → UInt64} (ha : ws[q0]? = some (a, .inl (cA, n, .inr (.inr (.inr (.inl f)))))) (ht : tys[t0]? = some (cA, .double)) {i : Int32} (hout : ¬ vp_in i n) (hdg : decode cc pc = .ok (.daload, 1))
    (k : ∀ tx : String, tx = (toString "Index " ++ toString i ++ toString " out of bounds for length " ++ toString n : String) → vx_Note p l e R s m args below meth c H locs cells slots Q (F0 m pc ls rest) "java/lang/ArrayIndexOutOfBoundsException" tx) : W p l e R s m args below meth c H locs cells slots Q (F0 m pc ls (.int i :: .ref a :: rest)) := by
  intro T hT X
  obtain ⟨t, st, q⟩ := k _ rfl T hT X
  refine ⟨t, ?_, q⟩
  have h1 := X.daloadOut hexec (by rw [hT]; exact hP q0 _ ha) ((hK.2 t0 _ ht).1 n (fun j => .double (f j))) (j := i) (by show (i < 0 ∨ (arrV _ _ _).slots.size ≤ _); rw [arrV_size]; exact Classical.byContradiction hout) (g := F0 m pc ls (.int i :: .ref a :: rest)) rfl (rest := rest) rfl (by rw [hb]; exact hdg) t
  simp only [arrV_size] at h1
  exact h1 st
theorem vx_dastZ {D : va_G} {cl : List vw_C} {ws : va_W} {tys : List (ClassId × FieldType)} {a : Nat} (hexec : p.tables.exec = Jvm.exec) (hb : c.code = cc) (hK : va_K D cl tys s) (hP : va_P D cl ws H) (q0 t0 : Nat) {cA : ClassId} {n : Nat} {f : Nat → UInt64} (ha : ws[q0]? = some (a, .inl (cA, n, .inr (.inr (.inr (.inl f)))))) (ht : tys[t0]? = some (cA, .double)) {i : Int32} {x : UInt64} (hout : ¬ vp_in i n) (hdg : decode cc pc = .ok (.dastore, 1))
    (k : ∀ tx : String, tx = (toString "Index " ++ toString i ++ toString " out of bounds for length " ++ toString n : String) → vx_Note p l e R s m args below meth c H locs cells slots Q (F0 m pc ls rest) "java/lang/ArrayIndexOutOfBoundsException" tx) : W p l e R s m args below meth c H locs cells slots Q (F0 m pc ls (.double x :: .int i :: .ref a :: rest)) := by
  intro T hT X
  obtain ⟨t, st, q⟩ := k _ rfl T hT X
  refine ⟨t, ?_, q⟩
  have h1 := X.dastoreOut hexec (by rw [hT]; exact hP q0 _ ha) ((hK.2 t0 _ ht).1 n (fun j => .double (f j))) (j := i) (by show (i < 0 ∨ (arrV _ _ _).slots.size ≤ _); rw [arrV_size]; exact Classical.byContradiction hout) (g := F0 m pc ls (.double x :: .int i :: .ref a :: rest)) rfl (rest := rest) rfl (by rw [hb]; exact hdg) t
  simp only [arrV_size] at h1
  exact h1 st
theorem vx_arraylengthN (hexec : p.tables.exec = Jvm.exec) (hb : c.code = cc) (hdg : decode cc pc = .ok (.arraylength, 1)) (k : vx_NoteN p l e R s m args below meth c H locs cells slots Q (F0 m pc ls rest)) : W p l e R s m args below meth c H locs cells slots Q (F0 m pc ls (.null :: rest)) := by
  intro T hT X
  obtain ⟨t, st, q⟩ := k T hT X
  exact ⟨t, X.arraylengthNull hexec (g := F0 m pc ls (.null :: rest)) rfl (rest := rest) rfl (by rw [hb]; exact hdg) t st, q⟩
theorem vx_ialoadN (hexec : p.tables.exec = Jvm.exec) (hb : c.code = cc) {i : Int32} (hdg : decode cc pc = .ok (.iaload, 1)) (k : vx_NoteN p l e R s m args below meth c H locs cells slots Q (F0 m pc ls rest)) : W p l e R s m args below meth c H locs cells slots Q (F0 m pc ls (.int i :: .null :: rest)) := by
  intro T hT X
  obtain ⟨t, st, q⟩ := k T hT X
  exact ⟨t, X.ialoadNull hexec (g := F0 m pc ls (.int i :: .null :: rest)) rfl (rest := rest) rfl (by rw [hb]; exact hdg) t st, q⟩
theorem vx_laloadN (hexec : p.tables.exec = Jvm.exec) (hb : c.code = cc) {i : Int32} (hdg : decode cc pc = .ok (.laload, 1)) (k : vx_NoteN p l e R s m args below meth c H locs cells slots Q (F0 m pc ls rest)) : W p l e R s m args below meth c H locs cells slots Q (F0 m pc ls (.int i :: .null :: rest)) := by
  intro T hT X
  obtain ⟨t, st, q⟩ := k T hT X
  exact ⟨t, X.laloadNull hexec (g := F0 m pc ls (.int i :: .null :: rest)) rfl (rest := rest) rfl (by rw [hb]; exact hdg) t st, q⟩
theorem vx_faloadN (hexec : p.tables.exec = Jvm.exec) (hb : c.code = cc) {i : Int32} (hdg : decode cc pc = .ok (.faload, 1)) (k : vx_NoteN p l e R s m args below meth c H locs cells slots Q (F0 m pc ls rest)) : W p l e R s m args below meth c H locs cells slots Q (F0 m pc ls (.int i :: .null :: rest)) := by
  intro T hT X
  obtain ⟨t, st, q⟩ := k T hT X
  exact ⟨t, X.faloadNull hexec (g := F0 m pc ls (.int i :: .null :: rest)) rfl (rest := rest) rfl (by rw [hb]; exact hdg) t st, q⟩
theorem vx_daloadN (hexec : p.tables.exec = Jvm.exec) (hb : c.code = cc) {i : Int32} (hdg : decode cc pc = .ok (.daload, 1)) (k : vx_NoteN p l e R s m args below meth c H locs cells slots Q (F0 m pc ls rest)) : W p l e R s m args below meth c H locs cells slots Q (F0 m pc ls (.int i :: .null :: rest)) := by
  intro T hT X
  obtain ⟨t, st, q⟩ := k T hT X
  exact ⟨t, X.daloadNull hexec (g := F0 m pc ls (.int i :: .null :: rest)) rfl (rest := rest) rfl (by rw [hb]; exact hdg) t st, q⟩
theorem vx_aaloadN (hexec : p.tables.exec = Jvm.exec) (hb : c.code = cc) {i : Int32} (hdg : decode cc pc = .ok (.aaload, 1)) (k : vx_NoteN p l e R s m args below meth c H locs cells slots Q (F0 m pc ls rest)) : W p l e R s m args below meth c H locs cells slots Q (F0 m pc ls (.int i :: .null :: rest)) := by
  intro T hT X
  obtain ⟨t, st, q⟩ := k T hT X
  exact ⟨t, X.aaloadNull hexec (g := F0 m pc ls (.int i :: .null :: rest)) rfl (rest := rest) rfl (by rw [hb]; exact hdg) t st, q⟩
theorem vx_baloadN (hexec : p.tables.exec = Jvm.exec) (hb : c.code = cc) {i : Int32} (hdg : decode cc pc = .ok (.baload, 1)) (k : vx_NoteN p l e R s m args below meth c H locs cells slots Q (F0 m pc ls rest)) : W p l e R s m args below meth c H locs cells slots Q (F0 m pc ls (.int i :: .null :: rest)) := by
  intro T hT X
  obtain ⟨t, st, q⟩ := k T hT X
  exact ⟨t, X.baloadNull hexec (g := F0 m pc ls (.int i :: .null :: rest)) rfl (rest := rest) rfl (by rw [hb]; exact hdg) t st, q⟩
theorem vx_caloadN (hexec : p.tables.exec = Jvm.exec) (hb : c.code = cc) {i : Int32} (hdg : decode cc pc = .ok (.caload, 1)) (k : vx_NoteN p l e R s m args below meth c H locs cells slots Q (F0 m pc ls rest)) : W p l e R s m args below meth c H locs cells slots Q (F0 m pc ls (.int i :: .null :: rest)) := by
  intro T hT X
  obtain ⟨t, st, q⟩ := k T hT X
  exact ⟨t, X.caloadNull hexec (g := F0 m pc ls (.int i :: .null :: rest)) rfl (rest := rest) rfl (by rw [hb]; exact hdg) t st, q⟩
theorem vx_saloadN (hexec : p.tables.exec = Jvm.exec) (hb : c.code = cc) {i : Int32} (hdg : decode cc pc = .ok (.saload, 1)) (k : vx_NoteN p l e R s m args below meth c H locs cells slots Q (F0 m pc ls rest)) : W p l e R s m args below meth c H locs cells slots Q (F0 m pc ls (.int i :: .null :: rest)) := by
  intro T hT X
  obtain ⟨t, st, q⟩ := k T hT X
  exact ⟨t, X.saloadNull hexec (g := F0 m pc ls (.int i :: .null :: rest)) rfl (rest := rest) rfl (by rw [hb]; exact hdg) t st, q⟩
theorem vx_iastoreN (hexec : p.tables.exec = Jvm.exec) (hb : c.code = cc) {x : Int32} {i : Int32} (hdg : decode cc pc = .ok (.iastore, 1)) (k : vx_NoteN p l e R s m args below meth c H locs cells slots Q (F0 m pc ls rest)) : W p l e R s m args below meth c H locs cells slots Q (F0 m pc ls (.int x :: .int i :: .null :: rest)) := by
  intro T hT X
  obtain ⟨t, st, q⟩ := k T hT X
  exact ⟨t, X.iastoreNull hexec (g := F0 m pc ls (.int x :: .int i :: .null :: rest)) rfl (rest := rest) rfl (by rw [hb]; exact hdg) t st, q⟩
theorem vx_lastoreN (hexec : p.tables.exec = Jvm.exec) (hb : c.code = cc) {x : Int64} {i : Int32} (hdg : decode cc pc = .ok (.lastore, 1)) (k : vx_NoteN p l e R s m args below meth c H locs cells slots Q (F0 m pc ls rest)) : W p l e R s m args below meth c H locs cells slots Q (F0 m pc ls (.long x :: .int i :: .null :: rest)) := by
  intro T hT X
  obtain ⟨t, st, q⟩ := k T hT X
  exact ⟨t, X.lastoreNull hexec (g := F0 m pc ls (.long x :: .int i :: .null :: rest)) rfl (rest := rest) rfl (by rw [hb]; exact hdg) t st, q⟩
theorem vx_fastoreN (hexec : p.tables.exec = Jvm.exec) (hb : c.code = cc) {x : UInt32} {i : Int32} (hdg : decode cc pc = .ok (.fastore, 1)) (k : vx_NoteN p l e R s m args below meth c H locs cells slots Q (F0 m pc ls rest)) : W p l e R s m args below meth c H locs cells slots Q (F0 m pc ls (.float x :: .int i :: .null :: rest)) := by
  intro T hT X
  obtain ⟨t, st, q⟩ := k T hT X
  exact ⟨t, X.fastoreNull hexec (g := F0 m pc ls (.float x :: .int i :: .null :: rest)) rfl (rest := rest) rfl (by rw [hb]; exact hdg) t st, q⟩
theorem vx_dastoreN (hexec : p.tables.exec = Jvm.exec) (hb : c.code = cc) {x : UInt64} {i : Int32} (hdg : decode cc pc = .ok (.dastore, 1)) (k : vx_NoteN p l e R s m args below meth c H locs cells slots Q (F0 m pc ls rest)) : W p l e R s m args below meth c H locs cells slots Q (F0 m pc ls (.double x :: .int i :: .null :: rest)) := by
  intro T hT X
  obtain ⟨t, st, q⟩ := k T hT X
  exact ⟨t, X.dastoreNull hexec (g := F0 m pc ls (.double x :: .int i :: .null :: rest)) rfl (rest := rest) rfl (by rw [hb]; exact hdg) t st, q⟩
theorem vx_bastoreN (hexec : p.tables.exec = Jvm.exec) (hb : c.code = cc) {x : Int32} {i : Int32} (hdg : decode cc pc = .ok (.bastore, 1)) (k : vx_NoteN p l e R s m args below meth c H locs cells slots Q (F0 m pc ls rest)) : W p l e R s m args below meth c H locs cells slots Q (F0 m pc ls (.int x :: .int i :: .null :: rest)) := by
  intro T hT X
  obtain ⟨t, st, q⟩ := k T hT X
  exact ⟨t, X.bastoreNull hexec (g := F0 m pc ls (.int x :: .int i :: .null :: rest)) rfl (rest := rest) rfl (by rw [hb]; exact hdg) t st, q⟩
theorem vx_castoreN (hexec : p.tables.exec = Jvm.exec) (hb : c.code = cc) {x : Int32} {i : Int32} (hdg : decode cc pc = .ok (.castore, 1)) (k : vx_NoteN p l e R s m args below meth c H locs cells slots Q (F0 m pc ls rest)) : W p l e R s m args below meth c H locs cells slots Q (F0 m pc ls (.int x :: .int i :: .null :: rest)) := by
  intro T hT X
  obtain ⟨t, st, q⟩ := k T hT X
  exact ⟨t, X.castoreNull hexec (g := F0 m pc ls (.int x :: .int i :: .null :: rest)) rfl (rest := rest) rfl (by rw [hb]; exact hdg) t st, q⟩
theorem vx_sastoreN (hexec : p.tables.exec = Jvm.exec) (hb : c.code = cc) {x : Int32} {i : Int32} (hdg : decode cc pc = .ok (.sastore, 1)) (k : vx_NoteN p l e R s m args below meth c H locs cells slots Q (F0 m pc ls rest)) : W p l e R s m args below meth c H locs cells slots Q (F0 m pc ls (.int x :: .int i :: .null :: rest)) := by
  intro T hT X
  obtain ⟨t, st, q⟩ := k T hT X
  exact ⟨t, X.sastoreNull hexec (g := F0 m pc ls (.int x :: .int i :: .null :: rest)) rfl (rest := rest) rfl (by rw [hb]; exact hdg) t st, q⟩
theorem vx_invokeN {own C : String} {index maxL : Nat} {y : MethodName} {bytes : ByteArray} {ret : Option FieldType} (hexec : p.tables.exec = Jvm.exec) (hb : c.code = cc) (hown : s.vm.findClass own = some m.cls) (hlink : (Cond.methodLink own index y).before args s = true) (hinst : (Cond.instanceMethod y).before args s = true) (hcode : (Cond.code y bytes maxL ret).before args s = true) (hsel : (Cond.selects C y y).before args s = true)
    (hx : y.cls ≠ "java/lang/invoke/MethodHandle" ∧ y.cls ≠ "java/lang/invoke/VarHandle") {As : List Value} (hlen : (parseMethodDescriptor y.desc).map (fun d => d.parameters.length) = some As.length) (hdg : decode cc pc = .ok (.invokevirtual index, 3))
    (k : vx_NoteN p l e R s m args below meth c H locs cells slots Q (F0 m pc ls rest)) {st0 : List Value} (hst : st0 = As.reverse ++ .null :: rest) : W p l e R s m args below meth c H locs cells slots Q (F0 m pc ls st0) := by
  intro T hT X
  obtain ⟨r0, r, hn, hrm, hstR, hsigR⟩ := va_Decl.of hinst hcode
  obtain ⟨c2, r2, m2, q1, q2, q3, q4, kP, hkP, hkPi⟩ := Cond.selects_spec hsel
  cases hn.symm.trans q3
  have hl9 : As.length = r.sig.parameters.length := by
    rw [hsigR] at hlen
    exact (Option.some.inj hlen).symm
  obtain ⟨vm', X1, st1⟩ := X.invokevirtualNull hexec hown hlink hn hrm hstR hkP hkPi hx (g := F0 m pc ls st0) rfl (argsL := As) (rest := rest) hl9 hst (by rw [hb]; exact hdg)
  obtain ⟨t, st, q⟩ := k (T.setVm vm') hT X1
  exact ⟨t, st1 t st, q⟩
theorem vx_newarrayZ {atype : ArrayType} (hexec : p.tables.exec = Jvm.exec) (hb : c.code = cc) {n : Int32} (h0 : n < 0) (hdg : decode cc pc = .ok (.newarray atype, 2)) (k : ∀ tx : String, tx = toString n → vx_Note p l e R s m args below meth c H locs cells slots Q (F0 m pc ls rest) "java/lang/NegativeArraySizeException" tx) : W p l e R s m args below meth c H locs cells slots Q (F0 m pc ls (.int n :: rest)) := by
  intro T hT X
  obtain ⟨t, st, q⟩ := k _ rfl T hT X
  exact ⟨t, X.newarrayNegative hexec (g := F0 m pc ls (.int n :: rest)) rfl h0 (rest := rest) rfl (by rw [hb]; exact hdg) t st, q⟩
end
end VXM
/-! ===== END ===== -/
/-! ===== BEGIN an exception as an object: made, kept, thrown later (no traces kept) ===== -/
section VXK
variable {p : Program} {l : Launch} {e : Env} {R : Room} {s : State} {m₀ : MethodId} {args : Array Value} {below : List Frame} {meth : Method} {c : Code} {W : State} {locs : List Loc} {cells slots : Nat}
set_option maxHeartbeats 1000000 in
theorem vx_ctorMadeS (X : Stand p l e R s m₀ args below meth c W locs cells slots) (hexec : p.tables.exec = Jvm.exec) (htr : e.platform.stackTraces = false) {own cls : String} {names : List String} {ic : Nat}
    (hown : s.vm.findClass own = some m₀.cls) (hcls : Bundle.fit cls = true) (hnames : ∀ n ∈ names, Bundle.fit n = true)
    (h : ∀ a ∈ Bundle.ownAtoms own ic cls names, a.before args s = true)
    (hlocs : ∀ x ∈ locs, ∀ cell, s.heap[x.base]? = some cell → cell.vm.isStatics = false)
    {a : Addr} {cX : ClassId} {kX : Class} (hfoundX : s.vm.findClass cls = some cX) (hkX : s.vm.classes[cX]? = some kX) (hcell : W.heap[a]? = some (freshCell cX kX)) (hnew : s.heap.size ≤ a)
    {msg : Value} (hmsg : msg.isRef = true)
    {g : JFrame} (hg : g.method = m₀) (hsize : g.locals.size = c.maxLocals) {rest : List Value} (hstack : g.stack = msg :: .ref a :: .ref a :: rest)
    (hd6 : decode c.code g.pc = .ok (.invokespecial ic, 3))
    (hRframes : names.length + 3 < R.frames) (hRlocals : 2 * g.monitorRoom + ((Value.ref a :: rest).map fun v => v.category).sum + (13 * (names.length + 1) + 42) ≤ R.locals) :
    ∃ (V : State) (ce : Cell) (L : List Loc), Stand p l e R s m₀ args below meth c (V.setCell a ce) (locs ++ L) cells slots ∧ (∀ y ∈ L, y.base = a) ∧ a < V.heap.size ∧ ce.cls = cX ∧ ce.vm = .none ∧
      ∀ target, Steps p.tables e below ((V.setCell a ce).setTop { g with stack := .ref a :: rest, pc := g.pc + 3 }) target → Steps p.tables e below (W.setTop g) target := by
  have howns : e.platform.frameOwnsMonitors = true := by rw [X.admits.platform]
  have hfin : e.platform.finalization = false := by rw [X.admits.platform]
  have hpl : e.platform.magicAccessors = ({} : Platform).magicAccessors := by rw [X.admits.platform]
  have a' : ∀ x, x ∈ Bundle.ownAtoms own ic cls names → x.holds args s none s [] = true := fun x hx => h x hx
  obtain ⟨T, Z0, L, -, Y⟩ := ThrowableC.of_atoms (args := args) howns hfin hpl (fun x hx => h x (by simp [Bundle.ownAtoms, hx]))
  obtain ⟨Z, M, LZ, LM, hnZ⟩ := Init0T.ofS_atoms (args := args) hpl L Y (fun x hx => h x (by simp [Bundle.ownAtoms, hx]))
  obtain ⟨P1, Ps, hlen, L1, hL, hP1m, hlink1, hlink⟩ := Bundle.chainS (args := args) hpl hnZ names cls hcls hnames (fun x hx => h x (by simp [Bundle.ownAtoms, hx]))
  have hfound : s.vm.findClass cls = some P1.m.cls := findClass_of_methodNamed hP1m
  cases Option.some.inj (hfoundX.symm.trans hfound)
  obtain ⟨c1, kX', hc1, hk, hord, -, -, hn6⟩ := Cond.instantiable_spec (a' (.instantiable cls 6) (by simp [Bundle.ownAtoms]))
  cases Option.some.inj (hc1.symm.trans hfound)
  cases Option.some.inj (hkX.symm.trans hk)
  have hsel0 : selectMethod e.platform s.vm P1.m.cls T.fill0 = .method T.fill0 := by
    obtain ⟨c2, r2, m2, q1, q2, q3, q4, -⟩ := Cond.selects_spec (a' (.selects cls Bundle.tFill0 Bundle.tFill0) (by simp [Bundle.ownAtoms]))
    cases Option.some.inj (q1.symm.trans hfound)
    cases Option.some.inj (q2.symm.trans (State.methodFound?_of_named Y.fill0 (by decide)))
    cases Option.some.inj (q3.symm.trans Y.fill0)
    rw [Launch.admits_selectMethod X.admits]; exact q4
  have hselF : selectMethod e.platform s.vm P1.m.cls T.fill = .method T.fill := by
    obtain ⟨c2, r2, m2, q1, q2, q3, q4, -⟩ := Cond.selects_spec (a' (.selects cls Bundle.tFill Bundle.tFill) (by simp [Bundle.ownAtoms]))
    cases Option.some.inj (q1.symm.trans hfound)
    cases Option.some.inj (q2.symm.trans (State.methodFound?_of_named Y.fill (by decide)))
    cases Option.some.inj (q3.symm.trans Y.fill)
    rw [Launch.admits_selectMethod X.admits]; exact q4
  obtain ⟨cellS0, hcS0, hiss⟩ := Y.statics
  obtain ⟨u0, hu0⟩ := Cond.staticRefV Y.unassigned L.unassignedStatic L.statics hcS0 hiss (a' (.isRef (.static Bundle.tN "UNASSIGNED_STACK" Bundle.steD)) (by simp [Bundle.ownAtoms]))
  obtain ⟨sen, hsen⟩ := Cond.staticRefV Y.sentinel L.sentinelStatic L.statics hcS0 hiss (a' (.isRef (.static Bundle.tN "SUPPRESSED_SENTINEL" Bundle.listD)) (by simp [Bundle.ownAtoms]))
  obtain ⟨ci198, i198, fB, hk198, hg198, ha198, hsB, -, hnB, htB, hffB⟩ := Cond.ownField (t := .object "java/lang/Object") Y.found L.cls (by decide +kernel) (a' (.fieldLink Bundle.tN 198 Bundle.tN "backtrace" "Ljava/lang/Object;") (by simp [Bundle.ownAtoms])) (a' (.lays Bundle.tN Bundle.tN "backtrace" "Ljava/lang/Object;") (by simp [Bundle.ownAtoms])) e.platform hpl
  obtain ⟨cellS, hcS', heS, -, hkeep⟩ := X.same.2.2.2.2.2 T.aS cellS0 hcS0
  have hcellS : W.heap[T.aS]? = some cellS := hcS'
  have hout' : ∀ i, (⟨T.aS, i⟩ : Loc) ∉ locs := fun i hmem => by
    have := hlocs _ hmem cellS0 hcS0
    rw [hiss] at this; cases this
  have hknownS : cellS.vm ≠ .unknown := by
    rw [heS]; intro hu
    rw [show cellS0.vm = .unknown from hu] at hiss
    cases hiss
  have hneS : T.aS ≠ a := Nat.ne_of_lt (Nat.lt_of_lt_of_le (Array.getElem?_eq_some_iff.mp hcS0).1 hnew)
  obtain ⟨iM, hffM⟩ := Y.msg
  obtain ⟨tyC, dC, hdC, hdnC⟩ := Cond.laysAt hfound hk Y.cause (a' (.lays cls Bundle.tN "cause" "Ljava/lang/Throwable;") (by simp [Bundle.ownAtoms]))
  obtain ⟨tyS, dS, hdS, hdnS⟩ := Cond.laysAt hfound hk Y.stack (a' (.lays cls Bundle.tN "stackTrace" Bundle.steD) (by simp [Bundle.ownAtoms]))
  obtain ⟨tyP, dP, hdP, hdnP⟩ := Cond.laysAt hfound hk Y.supp (a' (.lays cls Bundle.tN "suppressedExceptions" Bundle.listD) (by simp [Bundle.ownAtoms]))
  obtain ⟨tyM, dM, hdM, hdnM⟩ := Cond.laysAt hfound hk hffM (a' (.lays cls Bundle.tN "detailMessage" "Ljava/lang/String;") (by simp [Bundle.ownAtoms]))
  obtain ⟨tyB, dB, hdB, hdnB⟩ := Cond.laysAt hfound hk hffB (a' (.lays cls Bundle.tN "backtrace" "Ljava/lang/Object;") (by simp [Bundle.ownAtoms]))
  have bC := Cond.laysApart hdB hdC hdnB hdnC (by rw [hnB, Y.causeName]; decide)
  have bS := Cond.laysApart hdB hdS hdnB hdnS (by rw [hnB, Y.stackName]; decide)
  have bP := Cond.laysApart hdB hdP hdnB hdnP (by rw [hnB, Y.suppName]; decide)
  have hskip : SkipFacts T e.platform s (fun u => u) u0 ((preparedCellV T.toThrowableT (freshCell P1.m.cls kX) a u0 sen).withEntry W.cur) :=
    ⟨{ ci198 := ci198, i198 := i198, fBack := fB }, ⟨hk198, hg198, ha198, hsB⟩, by
      have := fresh_default (c := P1.m.cls) tyB
      rw [htB] at this
      simpa [preparedCellV, Cell.setSlot, Cell.withEntry, Array.getElem?_setIfInBounds, bC, bS, bP, bC.symm, bS.symm, bP.symm, defaultValue] using this, fun _ _ => rfl⟩
  obtain ⟨tm, methC, cdC, kC, vm₁, hnC, -, -, -, -, -, -, -, hW₁, st1⟩ := Steps.initColdS (tb := p.tables) (e := e) (below := below) (s := s) (U := W) X.here hexec X.warmed hpl hown (t := Bundle.initS cls) rfl rfl (Bundle.fit_spec hcls).2
    (a' (.methodLink own ic (Bundle.initS cls)) (by simp [Bundle.ownAtoms])) (h (.instanceMethod (Bundle.initS cls)) (by cases names <;> simp [Bundle.ownAtoms, Bundle.chainSAtoms, Bundle.passSAtoms])) (bytes := Bundle.six) (maxL := 2) (h (.code (Bundle.initS cls) Bundle.six 2 none) (by cases names <;> simp [Bundle.ownAtoms, Bundle.chainSAtoms, Bundle.passSAtoms]))
    (f := g) hg (a := a) (msg := msg) (rest := .ref a :: rest) hstack hd6
  cases Option.some.inj (hnC.symm.trans hP1m)
  have X₁ := X.noted hW₁
  obtain ⟨vm₂, X₂, st2⟩ := X₁.ctorMessageOffV hexec (g := { g with stack := .ref a :: rest }) hg hsize T L Z LZ M LM (P1 :: Ps)
    (fun P hP => by rcases List.mem_cons.mp hP with rfl | hP; exact L1; exact hL P hP) ⟨hlink1, hlink⟩ (u0 := u0) (sen := sen) (self := a) hmsg (cell := freshCell P1.m.cls kX) (cellS := cellS)
    hcell (fun _ => by simp) (by simp) rfl rfl hsel0 hselF hcellS hneS hknownS (by rw [hkeep _ (hout' _)]; exact hu0) (by rw [hkeep _ (hout' _)]; exact hsen)
    (Takes.of_laid hk hord tyC (by rw [Y.causeType]; rfl)) (Takes.of_laid hk hord tyS (by rw [Y.stackType]; exact fits_refV_array _ u0)) (Takes.of_laid hk hord tyP (by rw [Y.suppType]; exact fits_refV_object _ sen))
    (Takes.of_laid hk hord tyM (by rw [Y.msgType]; exact fits_refV_object _ ⟨msg, hmsg⟩)) Y.objLocals hskip htr [] hd6
    (by simp only [List.length_cons, hlen]; omega) (by simp only [List.length_cons, hlen]; exact hRlocals)
  have hlt : a < ((W.setVm vm₁).setVm vm₂).heap.size := (Array.getElem?_eq_some_iff.mp hcell).1
  refine ⟨(W.setVm vm₁).setVm vm₂, _, _, X₂, fun y hy => ?_, hlt, rfl, rfl, fun target hwalk => st1 _ (fun acts => ?_)⟩
  · simp only [List.mem_cons, List.not_mem_nil, or_false] at hy
    rcases hy with rfl | rfl | rfl | rfl | rfl <;> rfl
  · rw [doInvoke_state]
    exact st2 _ hwalk
set_option maxHeartbeats 1000000 in
theorem vx_ctorMade0 (X : Stand p l e R s m₀ args below meth c W locs cells slots) (hexec : p.tables.exec = Jvm.exec) (htr : e.platform.stackTraces = false) {own cls : String} {names : List String} {ic : Nat}
    (hown : s.vm.findClass own = some m₀.cls) (hcls : Bundle.fit cls = true) (hnames : ∀ n ∈ names, Bundle.fit n = true)
    (h : ∀ a ∈ Bundle.ownAtoms0 own ic cls names, a.before args s = true)
    (hlocs : ∀ x ∈ locs, ∀ cell, s.heap[x.base]? = some cell → cell.vm.isStatics = false)
    {a : Addr} {cX : ClassId} {kX : Class} (hfoundX : s.vm.findClass cls = some cX) (hkX : s.vm.classes[cX]? = some kX) (hcell : W.heap[a]? = some (freshCell cX kX)) (hnew : s.heap.size ≤ a)
    {g : JFrame} (hg : g.method = m₀) (hsize : g.locals.size = c.maxLocals) {rest : List Value} (hstack : g.stack = .ref a :: .ref a :: rest)
    (hd6 : decode c.code g.pc = .ok (.invokespecial ic, 3))
    (hRframes : names.length + 3 < R.frames) (hRlocals : 2 * g.monitorRoom + ((Value.ref a :: rest).map fun v => v.category).sum + (13 * (names.length + 1) + 41) ≤ R.locals) :
    ∃ (V : State) (ce : Cell) (L : List Loc), Stand p l e R s m₀ args below meth c (V.setCell a ce) (locs ++ L) cells slots ∧ (∀ y ∈ L, y.base = a) ∧ a < V.heap.size ∧ ce.cls = cX ∧ ce.vm = .none ∧
      ∀ target, Steps p.tables e below ((V.setCell a ce).setTop { g with stack := .ref a :: rest, pc := g.pc + 3 }) target → Steps p.tables e below (W.setTop g) target := by
  have howns : e.platform.frameOwnsMonitors = true := by rw [X.admits.platform]
  have hfin : e.platform.finalization = false := by rw [X.admits.platform]
  have hpl : e.platform.magicAccessors = ({} : Platform).magicAccessors := by rw [X.admits.platform]
  have a' : ∀ x, x ∈ Bundle.ownAtoms0 own ic cls names → x.holds args s none s [] = true := fun x hx => h x hx
  obtain ⟨T, Z, L, LZ, Y⟩ := ThrowableC.of_atoms (args := args) howns hfin hpl (fun x hx => h x (by simp [Bundle.ownAtoms0, hx]))
  obtain ⟨P1, Ps, hlen, L1, hL, hP1m, hlink1, hlink⟩ := Bundle.chain0 (args := args) hpl Y.init0 names cls hcls hnames (fun x hx => h x (by simp [Bundle.ownAtoms0, hx]))
  have hfound : s.vm.findClass cls = some P1.m.cls := findClass_of_methodNamed hP1m
  cases Option.some.inj (hfoundX.symm.trans hfound)
  obtain ⟨c1, kX', hc1, hk, hord, -, -, hn6⟩ := Cond.instantiable_spec (a' (.instantiable cls 6) (by simp [Bundle.ownAtoms0]))
  cases Option.some.inj (hc1.symm.trans hfound)
  cases Option.some.inj (hkX.symm.trans hk)
  have hsel0 : selectMethod e.platform s.vm P1.m.cls T.fill0 = .method T.fill0 := by
    obtain ⟨c2, r2, m2, q1, q2, q3, q4, -⟩ := Cond.selects_spec (a' (.selects cls Bundle.tFill0 Bundle.tFill0) (by simp [Bundle.ownAtoms0]))
    cases Option.some.inj (q1.symm.trans hfound)
    cases Option.some.inj (q2.symm.trans (State.methodFound?_of_named Y.fill0 (by decide)))
    cases Option.some.inj (q3.symm.trans Y.fill0)
    rw [Launch.admits_selectMethod X.admits]; exact q4
  have hselF : selectMethod e.platform s.vm P1.m.cls T.fill = .method T.fill := by
    obtain ⟨c2, r2, m2, q1, q2, q3, q4, -⟩ := Cond.selects_spec (a' (.selects cls Bundle.tFill Bundle.tFill) (by simp [Bundle.ownAtoms0]))
    cases Option.some.inj (q1.symm.trans hfound)
    cases Option.some.inj (q2.symm.trans (State.methodFound?_of_named Y.fill (by decide)))
    cases Option.some.inj (q3.symm.trans Y.fill)
    rw [Launch.admits_selectMethod X.admits]; exact q4
  obtain ⟨cellS0, hcS0, hiss⟩ := Y.statics
  obtain ⟨u0, hu0⟩ := Cond.staticRefV Y.unassigned L.unassignedStatic L.statics hcS0 hiss (a' (.isRef (.static Bundle.tN "UNASSIGNED_STACK" Bundle.steD)) (by simp [Bundle.ownAtoms0]))
  obtain ⟨sen, hsen⟩ := Cond.staticRefV Y.sentinel L.sentinelStatic L.statics hcS0 hiss (a' (.isRef (.static Bundle.tN "SUPPRESSED_SENTINEL" Bundle.listD)) (by simp [Bundle.ownAtoms0]))
  obtain ⟨ci198, i198, fB, hk198, hg198, ha198, hsB, -, hnB, htB, hffB⟩ := Cond.ownField (t := .object "java/lang/Object") Y.found L.cls (by decide +kernel) (a' (.fieldLink Bundle.tN 198 Bundle.tN "backtrace" "Ljava/lang/Object;") (by simp [Bundle.ownAtoms0])) (a' (.lays Bundle.tN Bundle.tN "backtrace" "Ljava/lang/Object;") (by simp [Bundle.ownAtoms0])) e.platform hpl
  obtain ⟨cellS, hcS', heS, -, hkeep⟩ := X.same.2.2.2.2.2 T.aS cellS0 hcS0
  have hcellS : W.heap[T.aS]? = some cellS := hcS'
  have hout' : ∀ i, (⟨T.aS, i⟩ : Loc) ∉ locs := fun i hmem => by
    have := hlocs _ hmem cellS0 hcS0
    rw [hiss] at this; cases this
  have hknownS : cellS.vm ≠ .unknown := by
    rw [heS]; intro hu
    rw [show cellS0.vm = .unknown from hu] at hiss
    cases hiss
  have hneS : T.aS ≠ a := Nat.ne_of_lt (Nat.lt_of_lt_of_le (Array.getElem?_eq_some_iff.mp hcS0).1 hnew)
  obtain ⟨iM, hffM⟩ := Y.msg
  obtain ⟨tyC, dC, hdC, hdnC⟩ := Cond.laysAt hfound hk Y.cause (a' (.lays cls Bundle.tN "cause" "Ljava/lang/Throwable;") (by simp [Bundle.ownAtoms0]))
  obtain ⟨tyS, dS, hdS, hdnS⟩ := Cond.laysAt hfound hk Y.stack (a' (.lays cls Bundle.tN "stackTrace" Bundle.steD) (by simp [Bundle.ownAtoms0]))
  obtain ⟨tyP, dP, hdP, hdnP⟩ := Cond.laysAt hfound hk Y.supp (a' (.lays cls Bundle.tN "suppressedExceptions" Bundle.listD) (by simp [Bundle.ownAtoms0]))
  obtain ⟨tyM, dM, hdM, hdnM⟩ := Cond.laysAt hfound hk hffM (a' (.lays cls Bundle.tN "detailMessage" "Ljava/lang/String;") (by simp [Bundle.ownAtoms0]))
  obtain ⟨tyB, dB, hdB, hdnB⟩ := Cond.laysAt hfound hk hffB (a' (.lays cls Bundle.tN "backtrace" "Ljava/lang/Object;") (by simp [Bundle.ownAtoms0]))
  have bC := Cond.laysApart hdB hdC hdnB hdnC (by rw [hnB, Y.causeName]; decide)
  have bS := Cond.laysApart hdB hdS hdnB hdnS (by rw [hnB, Y.stackName]; decide)
  have bP := Cond.laysApart hdB hdP hdnB hdnP (by rw [hnB, Y.suppName]; decide)
  have hskip : SkipFacts T e.platform s (fun u => u) u0 ((preparedCellV T.toThrowableT (freshCell P1.m.cls kX) a u0 sen).withEntry W.cur) :=
    ⟨{ ci198 := ci198, i198 := i198, fBack := fB }, ⟨hk198, hg198, ha198, hsB⟩, by
      have := fresh_default (c := P1.m.cls) tyB
      rw [htB] at this
      simpa [preparedCellV, Cell.setSlot, Cell.withEntry, Array.getElem?_setIfInBounds, bC, bS, bP, bC.symm, bS.symm, bP.symm, defaultValue] using this, fun _ _ => rfl⟩
  obtain ⟨tm, methC, cdC, kC, vm₁, hnC, -, -, -, -, -, -, -, hW₁, st1⟩ := Steps.initCold (tb := p.tables) (e := e) (below := below) (s := s) (U := W) X.here hexec X.warmed hpl hown (t := Bundle.init0 cls) rfl rfl (Bundle.fit_spec hcls).2
    (a' (.methodLink own ic (Bundle.init0 cls)) (by simp [Bundle.ownAtoms0])) (h (.instanceMethod (Bundle.init0 cls)) (by cases names <;> simp [Bundle.ownAtoms0, Bundle.chain0Atoms, Bundle.passAtoms])) (bytes := Bundle.five) (maxL := 1) (h (.code (Bundle.init0 cls) Bundle.five 1 none) (by cases names <;> simp [Bundle.ownAtoms0, Bundle.chain0Atoms, Bundle.passAtoms]))
    (f := g) hg (a := a) (rest := .ref a :: rest) hstack hd6
  cases Option.some.inj (hnC.symm.trans hP1m)
  have X₁ := X.noted hW₁
  obtain ⟨vm₂, X₂, st2⟩ := X₁.ctorPlainOffV hexec (g := { g with stack := .ref a :: rest }) hg hsize T L Z LZ (P1 :: Ps)
    (fun P hP => by rcases List.mem_cons.mp hP with rfl | hP; exact L1; exact hL P hP) ⟨hlink1, hlink⟩ (u0 := u0) (sen := sen) (self := a) (cell := freshCell P1.m.cls kX) (cellS := cellS)
    hcell (fun _ => by simp) (by simp) rfl rfl hsel0 hselF hcellS hneS hknownS (by rw [hkeep _ (hout' _)]; exact hu0) (by rw [hkeep _ (hout' _)]; exact hsen)
    (Takes.of_laid hk hord tyC (by rw [Y.causeType]; rfl)) (Takes.of_laid hk hord tyS (by rw [Y.stackType]; exact fits_refV_array _ u0)) (Takes.of_laid hk hord tyP (by rw [Y.suppType]; exact fits_refV_object _ sen)) Y.objLocals hskip htr [] hd6
    (by simp only [List.length_cons, hlen]; omega) (by simp only [List.length_cons, hlen]; exact hRlocals)
  have hlt : a < ((W.setVm vm₁).setVm vm₂).heap.size := (Array.getElem?_eq_some_iff.mp hcell).1
  refine ⟨(W.setVm vm₁).setVm vm₂, _, _, X₂, fun y hy => ?_, hlt, rfl, rfl, fun target hwalk => st1 _ (fun acts => ?_)⟩
  · simp only [List.mem_cons, List.not_mem_nil, or_false] at hy
    rcases hy with rfl | rfl | rfl | rfl <;> rfl
  · rw [doInvoke_state]
    exact st2 _ hwalk
end VXK
section VXK2
variable {p : Program} {l : Launch} {e : Env} {R : Room} {s : State} {m : MethodId} {args : Array Value} {below : List Frame} {meth : Method} {c : Code} {H : Heap} {locs : List Loc} {cells slots : Nat} {Q : State → Prop}
variable {ls : Array Slot} {rest : List Value} {D : va_G} {cl : List vw_C} {tys : List (ClassId × FieldType)} {ws : va_W}
/-- 'new E("text")' that isn't thrown at once: the object goes on the stack -/
theorem vx_makeS {cc : ByteArray} {pc : Nat} (hexec : p.tables.exec = Jvm.exec) (hb : c.code = cc) (hl : l.stackTraces = false) {own cls text : String} {names : List String} {ik is ic sa ci : Nat} {A : Nat → Prop} {T0 : u_T}
    (hown : s.vm.findClass own = some m.cls) (hcls : Bundle.fit cls = true) (hnames : ∀ n ∈ names, Bundle.fit n = true)
    (hk : (Cond.classLink own ik cls).before args s = true) (hini : (Cond.initialized cls).before args s = true) (hstr : vk_R own is text sa s) (hat : ∀ w ∈ vx_atS own ic cls names, w.before args s = true)
    (hgood : ∀ w ∈ Cond.classLink own ik cls :: Cond.initialized cls :: vx_atS own ic cls names, vx_ot w = true)
    (hU : vx_Zq Bundle.tN "UNASSIGNED_STACK" Bundle.steD A s s.heap) (hN : vx_Zq Bundle.tN "SUPPRESSED_SENTINEL" Bundle.listD A s s.heap) (hS : va_S A s.heap H locs) (hsize : ls.size = c.maxLocals)
    (d0 : decode cc pc = .ok (.new ik, 3)) (d3 : decode cc (pc + 3) = .ok (.dup, 1)) (d4 : decode cc (pc + 4) = .ok (.ldc is, 2)) (d6 : decode cc (pc + 6) = .ok (.invokespecial ic, 3))
    (hK : va_K D cl tys s) (hP : va_P D cl ws H) (hD : va_D A ws) (hA : ∀ q, s.heap.size ≤ q → A q) (hc : cl[ci]? = some (cls, T0, 0))
    (hRframes : names.length + 3 < R.frames) (hRlocals : (rest.map fun v => v.category).sum + (13 * (names.length + 1) + 43) ≤ R.locals) (hRcells : cells + 1 ≤ R.cells) (hRslots : slots + 6 ≤ R.slots)
    (kk : ∀ (q : Nat) (H1 : Heap), va_P D cl (ws ++ [(q, .inr (ci, []))]) H1 → va_D A (ws ++ [(q, .inr (ci, []))]) → va_S A s.heap H1 locs → W p l e R s m args below meth c H1 locs (cells + 1) (slots + 6) Q (F0 m (pc + 9) ls (.ref q :: rest))) :
    W p l e R s m args below meth c H locs cells slots Q (F0 m pc ls rest) := by
  intro T hT X
  subst hT
  have htr : e.platform.stackTraces = false := (show e.platform.stackTraces = l.stackTraces by rw [X.admits.platform]).trans hl
  have Y := vx_rebase X (R' := { frames := R.frames, locals := R.locals, cells := 1, slots := 6 }) (Nat.le_refl _) (Nat.le_refl _) hRcells hRslots
  obtain ⟨s', hA'⟩ : ∃ z, z = (T.setVm s.vm).setFrames (.invoking m args :: below) := ⟨_, rfl⟩
  rw [← hA'] at Y
  have hvm : s'.vm = s.vm := by rw [hA']; rfl
  have hhp : s'.heap = T.heap := by rw [hA']; rfl
  have hW0 : s.WarmedH s'.vm := by rw [hvm]; exact State.WarmedH.refl s
  have hat' : ∀ w ∈ vx_atS own ic cls names, w.before args s' = true := fun w hw => vx_ot_at hW0 hvm.symm (hgood w (List.mem_cons_of_mem _ (List.mem_cons_of_mem _ hw))) (hat w hw)
  have hk' : (Cond.classLink own ik cls).before args s' = true := vx_ot_at hW0 hvm.symm (hgood _ List.mem_cons_self) hk
  have hini' : (Cond.initialized cls).before args s' = true := vx_ot_at hW0 hvm.symm (hgood _ (List.mem_cons_of_mem _ List.mem_cons_self)) hini
  have hU' : vx_Zq Bundle.tN "UNASSIGNED_STACK" Bundle.steD A s' s'.heap := by rw [hhp]; exact vx_Zq.moved hW0.alike (hU.kept hS.2.1)
  have hN' : vx_Zq Bundle.tN "SUPPRESSED_SENTINEL" Bundle.listD A s' s'.heap := by rw [hhp]; exact vx_Zq.moved hW0.alike (hN.kept hS.2.1)
  have h : ∀ w ∈ Bundle.ownAtoms own ic cls names, w.before args s' = true := vx_own hat' (vx_isRefq hU'.1) (vx_isRefq hN'.1) hU'.2.word hN'.2.word
  have hown' : s'.vm.findClass own = some m.cls := by rw [hvm]; exact hown
  have hins : (Cond.instantiable cls 6).before args s' = true := h _ (by simp [Bundle.ownAtoms])
  obtain ⟨vm₁, cX, kX, hfX, hkX, -, -, X₁, st1⟩ := Y.newCold hexec (own := own) (C := cls) (index := ik) (n := 6) hown' hk' hins hini'
    (g := F0 m pc ls rest) rfl (by rw [hb]; exact d0) (Nat.le_refl _) (Nat.le_refl _)
  generalize hT1 : (T.setVm vm₁).pushCell { cls := cX, slots := kX.instanceTypes.map defaultValue, vm := .none } = T1 at X₁ st1
  have hcat : (Value.ref T.heap.size).category = 1 := rfl
  have hcellA : T1.heap[T.heap.size]? = some (freshCell cX kX) := by rw [← hT1]; exact State.heap_pushCell_size _ _
  have d3' : decode c.code (pc + 3) = .ok (.dup, 1) := by rw [hb]; exact d3
  have d4' : decode c.code (pc + 4) = .ok (.ldc is, 2) := by rw [hb]; exact d4
  have hstr' : vk_R own is text sa s' := vk_R.warm hW0 hstr
  obtain ⟨V, ce, L, Z, hL, hlt, hcl9, hvm9, st⟩ := vx_ctorMadeS X₁ hexec htr (own := own) (cls := cls) (names := names) (ic := ic) hown' hcls hnames h (fun x hx => nomatch hx) hfX hkX hcellA (by rw [hhp]; exact Nat.le_refl _) (msg := .ref sa) rfl
    (g := { method := m, pc := pc + 6, locals := ls, stack := .ref sa :: .ref T.heap.size :: .ref T.heap.size :: rest, locked := none }) rfl hsize (rest := rest) rfl
    (by rw [hb]; exact d6) hRframes (by simp only [List.map_cons, List.sum_cons, hcat]; omega)
  have Z0 := Stand.forget (locs := []) Z (fun y hy => by rw [hL y hy, hhp]; exact Nat.le_refl _)
  obtain ⟨f1, f2⟩ := vx_frame Z0.same
  rw [hhp] at f1 f2
  have hcid : ce.cls = D.1 ci := by
    rw [hcl9]
    have h1 := (hK.1 ci _ hc).2.1
    rw [hvm] at hfX
    exact Option.some.inj (hfX.symm.trans h1)
  have hh : (V.setCell T.heap.size ce).heap[T.heap.size]? = some ce := heapAt_setCell_self (s := V) ce hlt
  subst hA'
  have X5 := vx_back9 X Y Z0
  have X6 : Stand p l e R s m args below meth c (V.setCell T.heap.size ce) locs (cells + 1) (slots + 6) := { X5 with same := X5.same.mono (by omega) (by omega) }
  have hk9 : ∀ (k : Nat) (x : Nat × va_E), ws[k]? = some x → (V.setCell T.heap.size ce).heap[x.1]? = T.heap[x.1]? := fun k x hx => f2 x.1 ((hP k x hx).lt) (fun z hz => nomatch hz)
  obtain ⟨t, a1, b1⟩ := kk T.heap.size (V.setCell T.heap.size ce).heap ((hP.kept hk9).app (fun k x hx => by
      have hz : k < 1 := (List.getElem?_eq_some_iff.mp hx).1
      rw [show k = 0 by omega] at hx
      cases hx
      exact ⟨_, hc, ce, hh, hcid, hvm9, fun k hk => absurd hk (Nat.not_lt_zero k)⟩)) (hD.push hP rfl (hA _ hS.1)) ⟨Nat.le_trans hS.1 f1, fun q h1 h2 => (f2 q (Nat.lt_of_lt_of_le h1 hS.1) (fun z hz => nomatch hz)).trans (hS.2.1 q h1 h2), hS.2.2⟩ _ rfl X6
  refine ⟨t, st1 _ ?_, b1⟩
  show Steps p.tables e below (T1.setTop { method := m, pc := pc + 3, locals := ls, stack := .ref T.heap.size :: rest, locked := none }) _
  jvm_step X₁.here [X₁.here.top, hexec, d3', Value.category]
  exact X₁.ldcString hexec (own := own) (text := text) (index := is) (a := sa) hown' hstr'.1 hstr'.2
    (g := { method := m, pc := pc + 4, locals := ls, stack := .ref T.heap.size :: .ref T.heap.size :: rest, locked := none }) rfl d4' _ (st _ a1)
/-- 'new E()' that isn't thrown at once: the object goes on the stack -/
theorem vx_make0 {cc : ByteArray} {pc : Nat} (hexec : p.tables.exec = Jvm.exec) (hb : c.code = cc) (hl : l.stackTraces = false) {own cls : String} {names : List String} {ik ic ci : Nat} {A : Nat → Prop} {T0 : u_T}
    (hown : s.vm.findClass own = some m.cls) (hcls : Bundle.fit cls = true) (hnames : ∀ n ∈ names, Bundle.fit n = true)
    (hk : (Cond.classLink own ik cls).before args s = true) (hini : (Cond.initialized cls).before args s = true) (hat : ∀ w ∈ vx_at0 own ic cls names, w.before args s = true)
    (hgood : ∀ w ∈ Cond.classLink own ik cls :: Cond.initialized cls :: vx_at0 own ic cls names, vx_ot w = true)
    (hU : vx_Zq Bundle.tN "UNASSIGNED_STACK" Bundle.steD A s s.heap) (hN : vx_Zq Bundle.tN "SUPPRESSED_SENTINEL" Bundle.listD A s s.heap) (hS : va_S A s.heap H locs) (hsize : ls.size = c.maxLocals)
    (d0 : decode cc pc = .ok (.new ik, 3)) (d3 : decode cc (pc + 3) = .ok (.dup, 1)) (d4 : decode cc (pc + 4) = .ok (.invokespecial ic, 3))
    (hK : va_K D cl tys s) (hP : va_P D cl ws H) (hD : va_D A ws) (hA : ∀ q, s.heap.size ≤ q → A q) (hc : cl[ci]? = some (cls, T0, 0))
    (hRframes : names.length + 3 < R.frames) (hRlocals : (rest.map fun v => v.category).sum + (13 * (names.length + 1) + 42) ≤ R.locals) (hRcells : cells + 1 ≤ R.cells) (hRslots : slots + 6 ≤ R.slots)
    (kk : ∀ (q : Nat) (H1 : Heap), va_P D cl (ws ++ [(q, .inr (ci, []))]) H1 → va_D A (ws ++ [(q, .inr (ci, []))]) → va_S A s.heap H1 locs → W p l e R s m args below meth c H1 locs (cells + 1) (slots + 6) Q (F0 m (pc + 7) ls (.ref q :: rest))) :
    W p l e R s m args below meth c H locs cells slots Q (F0 m pc ls rest) := by
  intro T hT X
  subst hT
  have htr : e.platform.stackTraces = false := (show e.platform.stackTraces = l.stackTraces by rw [X.admits.platform]).trans hl
  have Y := vx_rebase X (R' := { frames := R.frames, locals := R.locals, cells := 1, slots := 6 }) (Nat.le_refl _) (Nat.le_refl _) hRcells hRslots
  obtain ⟨s', hA'⟩ : ∃ z, z = (T.setVm s.vm).setFrames (.invoking m args :: below) := ⟨_, rfl⟩
  rw [← hA'] at Y
  have hvm : s'.vm = s.vm := by rw [hA']; rfl
  have hhp : s'.heap = T.heap := by rw [hA']; rfl
  have hW0 : s.WarmedH s'.vm := by rw [hvm]; exact State.WarmedH.refl s
  have hat' : ∀ w ∈ vx_at0 own ic cls names, w.before args s' = true := fun w hw => vx_ot_at hW0 hvm.symm (hgood w (List.mem_cons_of_mem _ (List.mem_cons_of_mem _ hw))) (hat w hw)
  have hk' : (Cond.classLink own ik cls).before args s' = true := vx_ot_at hW0 hvm.symm (hgood _ List.mem_cons_self) hk
  have hini' : (Cond.initialized cls).before args s' = true := vx_ot_at hW0 hvm.symm (hgood _ (List.mem_cons_of_mem _ List.mem_cons_self)) hini
  have hU' : vx_Zq Bundle.tN "UNASSIGNED_STACK" Bundle.steD A s' s'.heap := by rw [hhp]; exact vx_Zq.moved hW0.alike (hU.kept hS.2.1)
  have hN' : vx_Zq Bundle.tN "SUPPRESSED_SENTINEL" Bundle.listD A s' s'.heap := by rw [hhp]; exact vx_Zq.moved hW0.alike (hN.kept hS.2.1)
  have h : ∀ w ∈ Bundle.ownAtoms0 own ic cls names, w.before args s' = true := vx_own hat' (vx_isRefq hU'.1) (vx_isRefq hN'.1) hU'.2.word hN'.2.word
  have hown' : s'.vm.findClass own = some m.cls := by rw [hvm]; exact hown
  have hins : (Cond.instantiable cls 6).before args s' = true := h _ (by simp [Bundle.ownAtoms0])
  obtain ⟨vm₁, cX, kX, hfX, hkX, -, -, X₁, st1⟩ := Y.newCold hexec (own := own) (C := cls) (index := ik) (n := 6) hown' hk' hins hini'
    (g := F0 m pc ls rest) rfl (by rw [hb]; exact d0) (Nat.le_refl _) (Nat.le_refl _)
  generalize hT1 : (T.setVm vm₁).pushCell { cls := cX, slots := kX.instanceTypes.map defaultValue, vm := .none } = T1 at X₁ st1
  have hcat : (Value.ref T.heap.size).category = 1 := rfl
  have hcellA : T1.heap[T.heap.size]? = some (freshCell cX kX) := by rw [← hT1]; exact State.heap_pushCell_size _ _
  have d3' : decode c.code (pc + 3) = .ok (.dup, 1) := by rw [hb]; exact d3
  obtain ⟨V, ce, L, Z, hL, hlt, hcl9, hvm9, st⟩ := vx_ctorMade0 X₁ hexec htr (own := own) (cls := cls) (names := names) (ic := ic) hown' hcls hnames h (fun x hx => nomatch hx) hfX hkX hcellA (by rw [hhp]; exact Nat.le_refl _)
    (g := { method := m, pc := pc + 4, locals := ls, stack := .ref T.heap.size :: .ref T.heap.size :: rest, locked := none }) rfl hsize (rest := rest) rfl
    (by rw [hb]; exact d4) hRframes (by simp only [List.map_cons, List.sum_cons, hcat]; omega)
  have Z0 := Stand.forget (locs := []) Z (fun y hy => by rw [hL y hy, hhp]; exact Nat.le_refl _)
  obtain ⟨f1, f2⟩ := vx_frame Z0.same
  rw [hhp] at f1 f2
  have hcid : ce.cls = D.1 ci := by
    rw [hcl9]
    have h1 := (hK.1 ci _ hc).2.1
    rw [hvm] at hfX
    exact Option.some.inj (hfX.symm.trans h1)
  have hh : (V.setCell T.heap.size ce).heap[T.heap.size]? = some ce := heapAt_setCell_self (s := V) ce hlt
  subst hA'
  have X5 := vx_back9 X Y Z0
  have X6 : Stand p l e R s m args below meth c (V.setCell T.heap.size ce) locs (cells + 1) (slots + 6) := { X5 with same := X5.same.mono (by omega) (by omega) }
  have hk9 : ∀ (k : Nat) (x : Nat × va_E), ws[k]? = some x → (V.setCell T.heap.size ce).heap[x.1]? = T.heap[x.1]? := fun k x hx => f2 x.1 ((hP k x hx).lt) (fun z hz => nomatch hz)
  obtain ⟨t, a1, b1⟩ := kk T.heap.size (V.setCell T.heap.size ce).heap ((hP.kept hk9).app (fun k x hx => by
      have hz : k < 1 := (List.getElem?_eq_some_iff.mp hx).1
      rw [show k = 0 by omega] at hx
      cases hx
      exact ⟨_, hc, ce, hh, hcid, hvm9, fun k hk => absurd hk (Nat.not_lt_zero k)⟩)) (hD.push hP rfl (hA _ hS.1)) ⟨Nat.le_trans hS.1 f1, fun q h1 h2 => (f2 q (Nat.lt_of_lt_of_le h1 hS.1) (fun z hz => nomatch hz)).trans (hS.2.1 q h1 h2), hS.2.2⟩ _ rfl X6
  refine ⟨t, st1 _ ?_, b1⟩
  show Steps p.tables e below (T1.setTop { method := m, pc := pc + 3, locals := ls, stack := .ref T.heap.size :: rest, locked := none }) _
  jvm_step X₁.here [X₁.here.top, hexec, d3', Value.category]
  exact st _ a1
/-- 'throw x' of an object that was made before -/
theorem vx_athrow {cc : ByteArray} {pc : Nat} (hexec : p.tables.exec = Jvm.exec) (hb : c.code = cc) {q : Addr} (hdg : decode cc pc = .ok (.athrow, 1)) (k : vx_W p l e R s m args below meth c H locs cells slots Q (F0 m pc ls rest) q) : W p l e R s m args below meth c H locs cells slots Q (F0 m pc ls (.ref q :: rest)) := by
  intro T hT X
  obtain ⟨t, st, hq⟩ := k T hT X
  refine ⟨t, ?_, hq⟩
  have hdg' : decode c.code pc = .ok (.athrow, 1) := by rw [hb]; exact hdg
  jvm_step X.here [X.here.top, hexec, hdg', athrow.wp_sem]
  exact st
end VXK2
/-! ===== END ===== -/
/-! ===== BEGIN a constructor that throws (launches without stack traces) ===== -/
section VXIA
variable {p : Program} {l : Launch} {e : Env} {R : Room} {s : State} {m : MethodId} {args : Array Value} {below : List Frame} {meth : Method} {c : Code} {T : State} {locs : List Loc} {cells slots : Nat}
theorem vx_callI (X : Stand p l e R s m args below meth c T locs cells slots) (hexec : p.tables.exec = Jvm.exec) {own : String} {index : Nat} {y : MethodName} {bytes : ByteArray} {maxL : Nat}
    (hown : s.vm.findClass own = some m.cls) (hy1 : y.name = "<init>") (hlink : (Cond.methodLink own index y).before args s = true) (hinst : (Cond.instanceMethod y).before args s = true)
    (hcode : (Cond.code y bytes maxL none).before args s = true) (hy : y.cls ≠ "java/lang/invoke/MethodHandle" ∧ y.cls ≠ "java/lang/invoke/VarHandle")
    {W9 : Nat} {Pre : Pt → Array Value → Prop} {Post : Pt → Array Value → Option Value → Pt → Prop} {PostX : Pt → Array Value → Addr → Pt → Prop} (hK : vx_Back l R p e below s args y 3 W9 Pre Post PostX)
    {g : JFrame} (hg : g.method = m) (hsize : g.locals.size = c.maxLocals) {a : Addr} {argsL rest : List Value} (hlen : ∀ sig, parseMethodDescriptor y.desc = some sig → argsL.length = sig.parameters.length)
    (hstack : g.stack = argsL.reverse ++ .ref a :: rest) (hW : 2 * g.monitorRoom + (rest.map fun v => v.category).sum ≤ W9) (hdg : decode c.code g.pc = .ok (.invokespecial index, 3))
    (hpre : ∀ vm₁, s.WarmedH vm₁ → Pre ⟨T.setVm vm₁, locs, cells, slots⟩ (Value.ref a :: argsL).toArray) :
    (∃ (v : Option Value) (vm₁ : Vm) (B : Pt), s.WarmedH vm₁ ∧ Stand p l e R s m args below meth c B.U B.locs B.cells B.slots ∧ Post ⟨T.setVm vm₁, locs, cells, slots⟩ (Value.ref a :: argsL).toArray v B ∧
      ∀ target, Steps p.tables e below (B.U.setTop { g with pc := g.pc + 3, stack := v.toList ++ rest }) target → Steps p.tables e below (T.setTop g) target) ∨
    (∃ (q : Addr) (vm₁ : Vm) (B : Pt), s.WarmedH vm₁ ∧ Stand p l e R s m args below meth c B.U B.locs B.cells B.slots ∧ PostX ⟨T.setVm vm₁, locs, cells, slots⟩ (Value.ref a :: argsL).toArray q B ∧
      Steps p.tables e below (T.setTop g) ((B.U.setTop { g with stack := rest }).pushFrame (.throwing q))) := by
  subst hg
  have hpl : e.platform.magicAccessors = ({} : Platform).magicAccessors := by rw [X.admits.platform]
  obtain ⟨mk, methM, cM, kP, vm₁, hnamed, hmethM, hcodeM, -, hlocalsM, -, hkP, -, hW₁, hstep₁⟩ := Steps.initColdArgs (e := e) X.here hexec X.warmed hpl hown hy1 hy hlink hinst hcode (f := g) rfl hlen hstack hdg
  have X₁ := X.noted hW₁
  rcases hK g.method meth c ⟨T.setVm vm₁, locs, cells, slots⟩ { g with stack := rest } (.invokespecial index) mk (Value.ref a :: argsL).toArray X₁ rfl hsize hdg hW (X₁.named hnamed) (hpre vm₁ X₁.warmed) with ⟨v, B, X', hpost, hsteps⟩ | ⟨q, B, X', hpost, hsteps⟩
  · exact Or.inl ⟨v, vm₁, B, X₁.warmed, X', hpost, fun target h => hstep₁ _ fun acts => by rw [doInvoke_state]; exact hsteps.trans h⟩
  · exact Or.inr ⟨q, vm₁, B, X₁.warmed, X', hpost, hstep₁ _ fun acts => by rw [doInvoke_state]; exact hsteps⟩
end VXIA
section VXIB
variable {p : Program} {l : Launch} {e : Env} {R : Room} {s : State} {m : MethodId} {args : Array Value} {below : List Frame} {meth : Method} {c : Code} {H : Heap} {locs : List Loc} {cells slots : Nat}
variable {y : MethodName} {bytes cc : ByteArray} {maxL nL mc ms n index : Nat} {ret : Option FieldType} {ws : List Cond} {rm : Room} {Pc : Array Value → State → Prop} {Qc : Array Value → State → Outcome → State → Prop} {XC : String → State → State → Prop} {free : Addr → Prop} {Ts : List Cond} {own C : String} {b : Addr} {As rest : List Value} {g : JFrame}
theorem vx_runI (S : CallFix p m c cc nL s args Ts own) (hM : vx_Met l y ws rm Pc Qc XC mc ms free) (cw : CallB R s args own index y bytes maxL none ws rm mc ms n ∧ y.name = "<init>" ∧ (Cond.instanceMethod y).before args s = true) (hp : PreS s H Pc (.ref b :: As))
    (hg : g.method = m) (hn : As.length = n) (hsize : g.locals.size = nL) (hstack : g.stack = As.reverse ++ .ref b :: rest) (hW : 2 * g.monitorRoom + (rest.map fun v => v.category).sum ≤ 8) (hdg : decode cc g.pc = .ok (.invokespecial index, 3)) (hf : cells + mc ≤ R.cells ∧ slots + ms ≤ R.slots) :
    vx_Run p l e R s m args below meth c H locs cells slots mc ms g rest (Qc (Value.ref b :: As).toArray) XC free := by
  have hK : vx_Back l R p e below s args y 3 8 (PreOf R mc ms Pc) (PostOf Qc mc ms free) (vx_Post XC mc ms free) := vx_callBack cw.1 hM hp.1
  obtain ⟨⟨-, -, -, -, -, -, hcode, -, hy, hlen, hl⟩, hy1, hin⟩ := cw
  obtain ⟨hx, hb, hml, ho, -⟩ := S
  have hPc := hp.2
  intro T hT X
  rcases vx_callI X hx (bytes := bytes) (maxL := maxL) ho hy1 hl hin hcode hy hK hg (hsize.trans hml.symm) (a := b) (argsL := As) (rest := rest) (fun sig h => hn.trans (hlen sig h)) hstack hW (by rw [hb]; exact hdg)
    (fun vm₁ hW₁ => ⟨hf.1, hf.2, hPc (T.setVm vm₁) hT hW₁⟩) with ⟨v, vm₁, ⟨U', l2, c2, s2⟩, hW₁, X', ⟨g', mk, t, L, e1, e2, hq, h1, hL, h2, h3⟩, st⟩ | ⟨q, vm₁, ⟨U', l2, c2, s2⟩, hW₁, X', ⟨g', mk, t, L, E, ce, e1, e2, hq, hce, hcv, hcl, h1, hL, h2, h3⟩, st⟩
  · dsimp only [Pt.U, Pt.locs, Pt.cells, Pt.slots] at X' e1 e2 h1 h2 h3 st
    subst h1; subst h2; subst h3
    exact Or.inl ⟨v, (T.setVm vm₁).calling g' mk (Value.ref b :: As).toArray, t, U', L, hT, X', hL, e1, e2, hq, st⟩
  · dsimp only [Pt.U, Pt.locs, Pt.cells, Pt.slots] at X' e1 e2 h1 h2 h3 st hcl
    subst h1; subst h2; subst h3
    exact Or.inr ⟨q, (T.setVm vm₁).calling g' mk (Value.ref b :: As).toArray, t, U', L, E, ce, hT, X', hL, e1, e2, hq, hce, hcv, vx_cls hW₁ hcl, st⟩
end VXIB
/-! ===== END ===== -/
/-! ===== BEGIN a private constructor of a nest mate that throws ===== -/
section VXIC
variable {p : Program} {l : Launch} {e : Env} {R : Room} {s : State} {m : MethodId} {args : Array Value} {below : List Frame} {meth : Method} {c : Code} {T : State} {locs : List Loc} {cells slots : Nat}
theorem vx_callIN (X : Stand p l e R s m args below meth c T locs cells slots) (hexec : p.tables.exec = Jvm.exec) {own : String} {index : Nat} {host : String} {y : MethodName} {bytes : ByteArray} {maxL : Nat}
    (hown : s.vm.findClass own = some m.cls) (hy1 : y.name = "<init>") (hlink : (Cond.methodLinkNest own index y host).before args s = true) (hinst : (Cond.instanceMethod y).before args s = true)
    (hcode : (Cond.code y bytes maxL none).before args s = true) (hy : y.cls ≠ "java/lang/invoke/MethodHandle" ∧ y.cls ≠ "java/lang/invoke/VarHandle")
    {W9 : Nat} {Pre : Pt → Array Value → Prop} {Post : Pt → Array Value → Option Value → Pt → Prop} {PostX : Pt → Array Value → Addr → Pt → Prop} (hK : vx_Back l R p e below s args y 3 W9 Pre Post PostX)
    {g : JFrame} (hg : g.method = m) (hsize : g.locals.size = c.maxLocals) {a : Addr} {argsL rest : List Value} (hlen : ∀ sig, parseMethodDescriptor y.desc = some sig → argsL.length = sig.parameters.length)
    (hstack : g.stack = argsL.reverse ++ .ref a :: rest) (hW : 2 * g.monitorRoom + (rest.map fun v => v.category).sum ≤ W9) (hdg : decode c.code g.pc = .ok (.invokespecial index, 3))
    (hpre : ∀ vm₁, s.WarmedH vm₁ → Pre ⟨T.setVm vm₁, locs, cells, slots⟩ (Value.ref a :: argsL).toArray) :
    (∃ (v : Option Value) (vm₁ : Vm) (B : Pt), s.WarmedH vm₁ ∧ Stand p l e R s m args below meth c B.U B.locs B.cells B.slots ∧ Post ⟨T.setVm vm₁, locs, cells, slots⟩ (Value.ref a :: argsL).toArray v B ∧
      ∀ target, Steps p.tables e below (B.U.setTop { g with pc := g.pc + 3, stack := v.toList ++ rest }) target → Steps p.tables e below (T.setTop g) target) ∨
    (∃ (q : Addr) (vm₁ : Vm) (B : Pt), s.WarmedH vm₁ ∧ Stand p l e R s m args below meth c B.U B.locs B.cells B.slots ∧ PostX ⟨T.setVm vm₁, locs, cells, slots⟩ (Value.ref a :: argsL).toArray q B ∧
      Steps p.tables e below (T.setTop g) ((B.U.setTop { g with stack := rest }).pushFrame (.throwing q))) := by
  subst hg
  have hpl : e.platform.magicAccessors = ({} : Platform).magicAccessors := by rw [X.admits.platform]
  obtain ⟨mk, methM, cM, kP, vm₁, hnamed, hmethM, hcodeM, -, hlocalsM, -, hkP, -, hW₁, hstep₁⟩ := Steps.initColdArgsNest (e := e) X.here hexec X.warmed hpl hown hy1 hy hlink hinst hcode (f := g) rfl hlen hstack hdg
  have X₁ := X.noted hW₁
  rcases hK g.method meth c ⟨T.setVm vm₁, locs, cells, slots⟩ { g with stack := rest } (.invokespecial index) mk (Value.ref a :: argsL).toArray X₁ rfl hsize hdg hW (X₁.named hnamed) (hpre vm₁ X₁.warmed) with ⟨v, B, X', hpost, hsteps⟩ | ⟨q, B, X', hpost, hsteps⟩
  · exact Or.inl ⟨v, vm₁, B, X₁.warmed, X', hpost, fun target h => hstep₁ _ fun acts => by rw [doInvoke_state]; exact hsteps.trans h⟩
  · exact Or.inr ⟨q, vm₁, B, X₁.warmed, X', hpost, hstep₁ _ fun acts => by rw [doInvoke_state]; exact hsteps⟩
end VXIC
section VXID
variable {p : Program} {l : Launch} {e : Env} {R : Room} {s : State} {m : MethodId} {args : Array Value} {below : List Frame} {meth : Method} {c : Code} {H : Heap} {locs : List Loc} {cells slots : Nat}
theorem vx_runIN {y : MethodName} {bytes cc : ByteArray} {maxL nL mc ms n index : Nat} {ws : List Cond} {rm : Room} {Pc : Array Value → State → Prop} {Qc : Array Value → State → Outcome → State → Prop} {XC : String → State → State → Prop} {free : Addr → Prop} {Ts : List Cond} {own host : String} {b : Addr} {As rest : List Value} {g : JFrame}
    (S : CallFix p m c cc nL s args Ts own) (hM : vx_Met l y ws rm Pc Qc XC mc ms free) (cw : va_CN R s args own index y host bytes maxL none ws rm mc ms n ∧ y.name = "<init>" ∧ (Cond.instanceMethod y).before args s = true) (hp : PreS s H Pc (.ref b :: As))
    (hg : g.method = m) (hn : As.length = n) (hsize : g.locals.size = nL) (hstack : g.stack = As.reverse ++ .ref b :: rest) (hW : 2 * g.monitorRoom + (rest.map fun v => v.category).sum ≤ 8) (hdg : decode cc g.pc = .ok (.invokespecial index, 3)) (hf : cells + mc ≤ R.cells ∧ slots + ms ≤ R.slots) :
    vx_Run p l e R s m args below meth c H locs cells slots mc ms g rest (Qc (Value.ref b :: As).toArray) XC free := by
  obtain ⟨⟨⟨hrc, hrs, hfr, hlo, hws, hcw⟩, hcode, hini, hy, hlen, hl⟩, hx1, hx2⟩ := cw
  have hK : vx_Back l R p e below s args y 3 8 (PreOf R mc ms Pc) (PostOf Qc mc ms free) (vx_Post XC mc ms free) := vx_back (bytes := bytes) (maxL := maxL) (ret := none) hM hp.1 hrc hrs hfr hlo hws hcw (fun a' U hW => word_at hW (Or.inl (by first | rfl | simp [Cond.onTables, Cond.keeps, Cond.steady])) hini)
  obtain ⟨hx, hb, hml, ho, -⟩ := S
  have hPc := hp.2
  intro T hT X
  rcases vx_callIN X hx (bytes := bytes) (maxL := maxL) ho hx1 hl hx2 hcode hy hK hg (hsize.trans hml.symm) (a := b) (argsL := As) (rest := rest) (fun sig h => hn.trans (hlen sig h)) hstack hW (by rw [hb]; exact hdg)
    (fun vm₁ hW₁ => ⟨hf.1, hf.2, hPc (T.setVm vm₁) hT hW₁⟩) with ⟨v, vm₁, ⟨U', l2, c2, s2⟩, hW₁, X', ⟨g', mk, t, L, e1, e2, hq, h1, hL, h2, h3⟩, st⟩ | ⟨q, vm₁, ⟨U', l2, c2, s2⟩, hW₁, X', ⟨g', mk, t, L, E, ce, e1, e2, hq, hce, hcv, hcl, h1, hL, h2, h3⟩, st⟩
  · dsimp only [Pt.U, Pt.locs, Pt.cells, Pt.slots] at X' e1 e2 h1 h2 h3 st
    subst h1; subst h2; subst h3
    exact Or.inl ⟨v, (T.setVm vm₁).calling g' mk (Value.ref b :: As).toArray, t, U', L, hT, X', hL, e1, e2, hq, st⟩
  · dsimp only [Pt.U, Pt.locs, Pt.cells, Pt.slots] at X' e1 e2 h1 h2 h3 st hcl
    subst h1; subst h2; subst h3
    exact Or.inr ⟨q, (T.setVm vm₁).calling g' mk (Value.ref b :: As).toArray, t, U', L, E, ce, hT, X', hL, e1, e2, hq, hce, hcv, vx_cls hW₁ hcl, st⟩
end VXID
/-! ===== END ===== -/
/-! ===== BEGIN a method of a class above, found by the receiver, that may throw (follows va_callVU, va_runU of this kit) ===== -/
section
variable {p : Program} {l : Launch} {e : Env} {R : Room} {s : State} {m : MethodId} {args : Array Value} {below : List Frame} {meth : Method} {c : Code} {H : Heap} {locs : List Loc} {cells slots : Nat}
theorem vx_callVU {T : State} {locs : List Loc} {cells slots : Nat} (X : Stand p l e R s m args below meth c T locs cells slots) (hexec : p.tables.exec = Jvm.exec) {own C owner : String} {index : Nat} {x y : MethodName} {bytes : ByteArray} {maxL : Nat} {ret : Option FieldType}
    (hown : s.vm.findClass own = some m.cls) (hlink : (Cond.methodLink own index x).before args s = true) (hsame : (Cond.sameMethod x.cls owner x.name x.desc).before args s = true)
    (hd0 : va_Decl s ⟨owner, x.name, x.desc⟩) (howner : owner ≠ "java/lang/invoke/MethodHandle" ∧ owner ≠ "java/lang/invoke/VarHandle")
    (hsel : (Cond.selects C x y).before args s = true) (hinst : (Cond.instanceMethod y).before args s = true) (hcode : (Cond.code y bytes maxL ret).before args s = true)
    {W : Nat} {Pre : Pt → Array Value → Prop} {Post : Pt → Array Value → Option Value → Pt → Prop} {PostX : Pt → Array Value → Addr → Pt → Prop} (hK : vx_Back l R p e below s args y 3 W Pre Post PostX)
    {b : Addr} {cellB : Cell} (hcell : T.heap[b]? = some cellB) (hobj : cellB.vm.isStatics = false) (hcls : s.vm.findClass C = some cellB.cls)
    {g : JFrame} (hg : g.method = m) (hsize : g.locals.size = c.maxLocals) {argsL rest : List Value} (hlen : ∀ sig, parseMethodDescriptor x.desc = some sig → argsL.length = sig.parameters.length)
    (hstack : g.stack = argsL.reverse ++ .ref b :: rest) (hW : 2 * g.monitorRoom + (rest.map fun v => v.category).sum ≤ W) (hdg : decode c.code g.pc = .ok (.invokevirtual index, 3))
    (hpre : ∀ vm₁, s.WarmedH vm₁ → Pre ⟨T.setVm vm₁, locs, cells, slots⟩ (Value.ref b :: argsL).toArray) :
    (∃ (v : Option Value) (vm₁ : Vm) (B : Pt), s.WarmedH vm₁ ∧ Stand p l e R s m args below meth c B.U B.locs B.cells B.slots ∧ Post ⟨T.setVm vm₁, locs, cells, slots⟩ (Value.ref b :: argsL).toArray v B ∧
      ∀ target, Steps p.tables e below (B.U.setTop { g with pc := g.pc + 3, stack := v.toList ++ rest }) target → Steps p.tables e below (T.setTop g) target) ∨
    (∃ (q : Addr) (vm₁ : Vm) (B : Pt), s.WarmedH vm₁ ∧ Stand p l e R s m args below meth c B.U B.locs B.cells B.slots ∧ PostX ⟨T.setVm vm₁, locs, cells, slots⟩ (Value.ref b :: argsL).toArray q B ∧
      Steps p.tables e below (T.setTop g) ((B.U.setTop { g with stack := rest }).pushFrame (.throwing q))) := by
  obtain ⟨r0, r, hn, hrm, hstR, hsigR⟩ := hd0
  obtain ⟨cn, ck, r1, hcn, hck, hni, hf, hn1⟩ := Cond.sameMethod_found hsame
  cases hn.symm.trans hn1
  obtain ⟨mk, methM, hnamed, hmethM, -, habM⟩ := Cond.instanceMethod_spec hinst
  obtain ⟨c2, r2, m2, q1, q2, q3, q4, kP, hkP, hkPi⟩ := Cond.selects_spec hsel
  cases hcls.symm.trans q1
  cases hf.symm.trans q2
  cases hnamed.symm.trans q3
  have hselP : selectMethod e.platform s.vm cellB.cls r0 = .method mk := by rw [Launch.admits_selectMethod X.admits]; exact q4
  obtain ⟨vm₁, X₁, hstep₁⟩ := X.invokevirtualUp hexec hown hlink hsame howner hn hrm hstR (a := b) (cell := cellB) hcell
    (fun z h => by rw [h] at hobj; cases hobj) hselP hmethM habM hkP hkPi (g := g) hg (argsL := argsL) (rest := rest) (hlen _ hsigR) hstack hdg
  rcases hK m meth c ⟨T.setVm vm₁, locs, cells, slots⟩ { g with stack := rest } (.invokevirtual index) mk (Value.ref b :: argsL).toArray X₁ hg hsize hdg hW (X₁.named hnamed) (hpre vm₁ X₁.warmed) with ⟨v, B, X', hpost, hsteps⟩ | ⟨q, B, X', hpost, hsteps⟩
  · exact Or.inl ⟨v, vm₁, B, X₁.warmed, X', hpost, fun target h => hstep₁ _ fun acts => by rw [doInvoke_state]; exact hsteps.trans h⟩
  · exact Or.inr ⟨q, vm₁, B, X₁.warmed, X', hpost, hstep₁ _ fun acts => by rw [doInvoke_state]; exact hsteps⟩
theorem vx_runU {x y : MethodName} {bytes cc : ByteArray} {maxL nL mc ms n index : Nat} {ret : Option FieldType} {ws : List Cond} {rm : Room} {Pc : Array Value → State → Prop} {Qc : Array Value → State → Outcome → State → Prop} {XC : String → State → State → Prop} {free : Addr → Prop} {Ts : List Cond} {own C owner : String} {b : Addr} {As rest : List Value} {g : JFrame}
    (S : CallFix p m c cc nL s args Ts own) (hM : vx_Met l y ws rm Pc Qc XC mc ms free) (cw : va_CU R s args own C owner index x y bytes maxL ret ws rm mc ms n) (hp : PreV s H C b Pc As)
    (hg : g.method = m) (hn : As.length = n) (hsize : g.locals.size = nL) (hstack : g.stack = As.reverse ++ .ref b :: rest) (hW : 2 * g.monitorRoom + (rest.map fun v => v.category).sum ≤ 8) (hdg : decode cc g.pc = .ok (.invokevirtual index, 3)) (hf : cells + mc ≤ R.cells ∧ slots + ms ≤ R.slots) :
    vx_Run p l e R s m args below meth c H locs cells slots mc ms g rest (Qc (Value.ref b :: As).toArray) XC free := by
  obtain ⟨hrc, hrs, hfr, hlo, hws, hcw⟩ := cw.back
  have hini := cw.init
  have hK : vx_Back l R p e below s args y 3 8 (PreOf R mc ms Pc) (PostOf Qc mc ms free) (vx_Post XC mc ms free) := vx_back (bytes := bytes) (maxL := maxL) (ret := ret) hM hp.1 hrc hrs hfr hlo hws hcw (fun a' U hW => word_at hW (Or.inl (by first | rfl | simp [Cond.onTables, Cond.keeps, Cond.steady])) hini)
  obtain ⟨hx, hb, hml, ho, -⟩ := S
  obtain ⟨-, ⟨cellB, hcB, hoB, hclB⟩, hPc⟩ := hp
  intro T hT X
  rcases vx_callVU X hx (C := C) (owner := owner) (bytes := bytes) (maxL := maxL) (ret := ret) ho cw.link cw.same cw.decl cw.notMH cw.sel cw.inst cw.code hK (by rw [hT]; exact hcB) hoB hclB hg (hsize.trans hml.symm) (argsL := As) (rest := rest) (fun sig h => hn.trans (cw.len sig h)) hstack hW (by rw [hb]; exact hdg)
    (fun vm₁ hW₁ => ⟨hf.1, hf.2, hPc (T.setVm vm₁) hT hW₁⟩) with ⟨v, vm₁, ⟨U', l2, c2, s2⟩, hW₁, X', ⟨g', mk, t, L, e1, e2, hq, h1, hL, h2, h3⟩, st⟩ | ⟨q, vm₁, ⟨U', l2, c2, s2⟩, hW₁, X', ⟨g', mk, t, L, E, ce, e1, e2, hq, hce, hcv, hcl, h1, hL, h2, h3⟩, st⟩
  · dsimp only [Pt.U, Pt.locs, Pt.cells, Pt.slots] at X' e1 e2 h1 h2 h3 st
    subst h1; subst h2; subst h3
    exact Or.inl ⟨v, (T.setVm vm₁).calling g' mk (Value.ref b :: As).toArray, t, U', L, hT, X', hL, e1, e2, hq, st⟩
  · dsimp only [Pt.U, Pt.locs, Pt.cells, Pt.slots] at X' e1 e2 h1 h2 h3 st hcl
    subst h1; subst h2; subst h3
    exact Or.inr ⟨q, (T.setVm vm₁).calling g' mk (Value.ref b :: As).toArray, t, U', L, E, ce, hT, X', hL, e1, e2, hq, hce, hcv, vx_cls hW₁ hcl, st⟩
end
/-! ===== END ===== -/
/-! ===== BEGIN super.m(..) that may throw (follows va_callSU, va_runSU) ===== -/
section
variable {p : Program} {l : Launch} {e : Env} {R : Room} {s : State} {m : MethodId} {args : Array Value} {below : List Frame} {meth : Method} {c : Code} {H : Heap} {locs : List Loc} {cells slots : Nat}
theorem vx_callSU {T : State} {locs : List Loc} {cells slots : Nat} (X : Stand p l e R s m args below meth c T locs cells slots) (hexec : p.tables.exec = Jvm.exec) {own : String} {index : Nat} {y : MethodName} {bytes : ByteArray} {maxL : Nat} {ret : Option FieldType}
    (hown : s.vm.findClass own = some m.cls) (hlink : (Cond.methodLink own index y).before args s = true) (hsame : (Cond.sameMethod y.cls y.cls y.name y.desc).before args s = true) (hsup : (Cond.superclass own y.cls).before args s = true)
    (hinst : (Cond.instanceMethod y).before args s = true) (hcode : (Cond.code y bytes maxL ret).before args s = true) (hno : y.name ≠ "<init>")
    {W : Nat} {Pre : Pt → Array Value → Prop} {Post : Pt → Array Value → Option Value → Pt → Prop} {PostX : Pt → Array Value → Addr → Pt → Prop} (hK : vx_Back l R p e below s args y 3 W Pre Post PostX)
    {b : Addr} {cellB : Cell} {kB : Class} (hcell : T.heap[b]? = some cellB) (hobj : cellB.vm.isStatics = false) (hkB : s.vm.classes[cellB.cls]? = some kB)
    {g : JFrame} (hg : g.method = m) (hsize : g.locals.size = c.maxLocals) {argsL rest : List Value} (hlen : ∀ sig, parseMethodDescriptor y.desc = some sig → argsL.length = sig.parameters.length)
    (hstack : g.stack = argsL.reverse ++ .ref b :: rest) (hW : 2 * g.monitorRoom + (rest.map fun v => v.category).sum ≤ W) (hdg : decode c.code g.pc = .ok (.invokespecial index, 3))
    (hpre : ∀ vm₁, s.WarmedH vm₁ → Pre ⟨T.setVm vm₁, locs, cells, slots⟩ (Value.ref b :: argsL).toArray) :
    (∃ (v : Option Value) (vm₁ : Vm) (B : Pt), s.WarmedH vm₁ ∧ Stand p l e R s m args below meth c B.U B.locs B.cells B.slots ∧ Post ⟨T.setVm vm₁, locs, cells, slots⟩ (Value.ref b :: argsL).toArray v B ∧
      ∀ target, Steps p.tables e below (B.U.setTop { g with pc := g.pc + 3, stack := v.toList ++ rest }) target → Steps p.tables e below (T.setTop g) target) ∨
    (∃ (q : Addr) (vm₁ : Vm) (B : Pt), s.WarmedH vm₁ ∧ Stand p l e R s m args below meth c B.U B.locs B.cells B.slots ∧ PostX ⟨T.setVm vm₁, locs, cells, slots⟩ (Value.ref b :: argsL).toArray q B ∧
      Steps p.tables e below (T.setTop g) ((B.U.setTop { g with stack := rest }).pushFrame (.throwing q))) := by
  obtain ⟨mk, methM, hnamed, hmethM, hstM, habM⟩ := Cond.instanceMethod_spec hinst
  obtain ⟨methM', cM, hmethM', -, -, -, -, -, -, hsigM⟩ := Cond.code_spec hnamed hcode
  cases hmethM.symm.trans hmethM'
  obtain ⟨ps, dk, kp, hps, hdk, hkp, hsuper, -, -, hnid⟩ := Cond.superclass_spec hown hsup
  have hn : s.methodNamed? ⟨y.cls, y.name, y.desc⟩ = some mk := hnamed
  have hpm : ps = mk.cls := Option.some.inj (hps.symm.trans (findClass_of_methodNamed hnamed))
  have hsub : s.vm.isSubclass ps mk.cls = true := by rw [hpm]; simp [Vm.isSubclass, Vm.isSubclassAux]
  obtain ⟨vm₁, X₁, hstep₁⟩ := X.invokespecialUp hexec hown hlink hsame hn hmethM hstM habM hno hdk hnid hps hsuper hsub (a := b) (cell := cellB) hcell
    (fun z h => by rw [h] at hobj; cases hobj) hkB (g := g) hg (argsL := argsL) (rest := rest) (hlen _ hsigM) hstack hdg
  rcases hK m meth c ⟨T.setVm vm₁, locs, cells, slots⟩ { g with stack := rest } (.invokespecial index) mk (Value.ref b :: argsL).toArray X₁ hg hsize hdg hW (X₁.named hnamed) (hpre vm₁ X₁.warmed) with ⟨v, B, X', hpost, hsteps⟩ | ⟨q, B, X', hpost, hsteps⟩
  · exact Or.inl ⟨v, vm₁, B, X₁.warmed, X', hpost, fun target h => hstep₁ _ (by rw [doInvoke_state]; exact hsteps.trans h)⟩
  · exact Or.inr ⟨q, vm₁, B, X₁.warmed, X', hpost, hstep₁ _ (by rw [doInvoke_state]; exact hsteps)⟩
theorem vx_runSU {y : MethodName} {bytes cc : ByteArray} {maxL nL mc ms n index : Nat} {ret : Option FieldType} {ws : List Cond} {rm : Room} {Pc : Array Value → State → Prop} {Qc : Array Value → State → Outcome → State → Prop} {XC : String → State → State → Prop} {free : Addr → Prop} {Ts : List Cond} {own C : String} {cC : ClassId} {b : Addr} {As rest : List Value} {g : JFrame}
    (hat : ClassAt s C cC) (S : CallFix p m c cc nL s args Ts own) (hM : vx_Met l y ws rm Pc Qc XC mc ms free) (cw : va_CS R s args own index y bytes maxL ret ws rm mc ms n) (hp : PreV s H C b Pc As)
    (hg : g.method = m) (hn : As.length = n) (hsize : g.locals.size = nL) (hstack : g.stack = As.reverse ++ .ref b :: rest) (hW : 2 * g.monitorRoom + (rest.map fun v => v.category).sum ≤ 8) (hdg : decode cc g.pc = .ok (.invokespecial index, 3)) (hf : cells + mc ≤ R.cells ∧ slots + ms ≤ R.slots) :
    vx_Run p l e R s m args below meth c H locs cells slots mc ms g rest (Qc (Value.ref b :: As).toArray) XC free := by
  obtain ⟨⟨hrc, hrs, hfr, hlo, hws, hcw⟩, hl1, hl2, hl3, hl4, hini, hcode, hno, hlen⟩ := cw
  have hK : vx_Back l R p e below s args y 3 8 (PreOf R mc ms Pc) (PostOf Qc mc ms free) (vx_Post XC mc ms free) := vx_back (bytes := bytes) (maxL := maxL) (ret := ret) hM hp.1 hrc hrs hfr hlo hws hcw (fun a' U hW => word_at hW (Or.inl (by first | rfl | simp [Cond.onTables, Cond.keeps, Cond.steady])) hini)
  obtain ⟨hx, hb, hml, ho, -⟩ := S
  obtain ⟨-, ⟨cellB, hcB, hoB, hclB⟩, hPc⟩ := hp
  obtain ⟨hfc, kB, hkB, -⟩ := hat
  cases hfc.symm.trans hclB
  intro T hT X
  rcases vx_callSU X hx (bytes := bytes) (maxL := maxL) (ret := ret) ho hl1 hl2 hl3 hl4 hcode hno hK (by rw [hT]; exact hcB) hoB hkB hg (hsize.trans hml.symm) (argsL := As) (rest := rest) (fun sig h => hn.trans (hlen sig h)) hstack hW (by rw [hb]; exact hdg)
    (fun vm₁ hW₁ => ⟨hf.1, hf.2, hPc (T.setVm vm₁) hT hW₁⟩) with ⟨v, vm₁, ⟨U', l2, c2, s2⟩, hW₁, X', ⟨g', mk, t, L, e1, e2, hq, h1, hL, h2, h3⟩, st⟩ | ⟨q, vm₁, ⟨U', l2, c2, s2⟩, hW₁, X', ⟨g', mk, t, L, E, ce, e1, e2, hq, hce, hcv, hcl, h1, hL, h2, h3⟩, st⟩
  · dsimp only [Pt.U, Pt.locs, Pt.cells, Pt.slots] at X' e1 e2 h1 h2 h3 st
    subst h1; subst h2; subst h3
    exact Or.inl ⟨v, (T.setVm vm₁).calling g' mk (Value.ref b :: As).toArray, t, U', L, hT, X', hL, e1, e2, hq, st⟩
  · dsimp only [Pt.U, Pt.locs, Pt.cells, Pt.slots] at X' e1 e2 h1 h2 h3 st hcl
    subst h1; subst h2; subst h3
    exact Or.inr ⟨q, (T.setVm vm₁).calling g' mk (Value.ref b :: As).toArray, t, U', L, E, ce, hT, X', hL, e1, e2, hq, hce, hcv, vx_cls hW₁ hcl, st⟩
end
/-! ===== END ===== -/
/-! ===== BEGIN a private method of a nest mate that may throw (follows va_callVN, va_callSN, va_runVN, va_runSN) ===== -/
section
variable {p : Program} {l : Launch} {e : Env} {R : Room} {s : State} {m : MethodId} {args : Array Value} {below : List Frame} {meth : Method} {c : Code} {H : Heap} {locs : List Loc} {cells slots : Nat}
variable {T : State}
theorem vx_callVN (X : Stand p l e R s m args below meth c T locs cells slots) (hexec : p.tables.exec = Jvm.exec) {own C : String} {index : Nat} {host : String} {y : MethodName} {bytes : ByteArray} {maxL : Nat} {ret : Option FieldType}
    (hown : s.vm.findClass own = some m.cls) (hlink : (Cond.methodLinkNest own index y host).before args s = true) (hinst : (Cond.instanceMethod y).before args s = true) (hsel : (Cond.selects C y y).before args s = true)
    (hcode : (Cond.code y bytes maxL ret).before args s = true) (hy : y.cls ≠ "java/lang/invoke/MethodHandle" ∧ y.cls ≠ "java/lang/invoke/VarHandle")
    {W : Nat} {Pre : Pt → Array Value → Prop} {Post : Pt → Array Value → Option Value → Pt → Prop} {PostX : Pt → Array Value → Addr → Pt → Prop} (hK : vx_Back l R p e below s args y 3 W Pre Post PostX)
    {b : Addr} {cellB : Cell} (hcell : T.heap[b]? = some cellB) (hobj : cellB.vm.isStatics = false) (hcls : s.vm.findClass C = some cellB.cls)
    {g : JFrame} (hg : g.method = m) (hsize : g.locals.size = c.maxLocals) {argsL rest : List Value} (hlen : ∀ sig, parseMethodDescriptor y.desc = some sig → argsL.length = sig.parameters.length)
    (hstack : g.stack = argsL.reverse ++ .ref b :: rest) (hW : 2 * g.monitorRoom + (rest.map fun v => v.category).sum ≤ W) (hdg : decode c.code g.pc = .ok (.invokevirtual index, 3))
    (hpre : ∀ vm₁, s.WarmedH vm₁ → Pre ⟨T.setVm vm₁, locs, cells, slots⟩ (Value.ref b :: argsL).toArray) :
    (∃ (v : Option Value) (vm₁ : Vm) (B : Pt), s.WarmedH vm₁ ∧ Stand p l e R s m args below meth c B.U B.locs B.cells B.slots ∧ Post ⟨T.setVm vm₁, locs, cells, slots⟩ (Value.ref b :: argsL).toArray v B ∧
      ∀ target, Steps p.tables e below (B.U.setTop { g with pc := g.pc + 3, stack := v.toList ++ rest }) target → Steps p.tables e below (T.setTop g) target) ∨
    (∃ (q : Addr) (vm₁ : Vm) (B : Pt), s.WarmedH vm₁ ∧ Stand p l e R s m args below meth c B.U B.locs B.cells B.slots ∧ PostX ⟨T.setVm vm₁, locs, cells, slots⟩ (Value.ref b :: argsL).toArray q B ∧
      Steps p.tables e below (T.setTop g) ((B.U.setTop { g with stack := rest }).pushFrame (.throwing q))) := by
  obtain ⟨mk, methM, hnamed, hmethM, hstM, habM⟩ := Cond.instanceMethod_spec hinst
  obtain ⟨methM', cM, hmethM', -, -, -, -, -, -, hsigM⟩ := Cond.code_spec hnamed hcode
  cases hmethM.symm.trans hmethM'
  obtain ⟨c2, r2, m2, q1, q2, q3, q4, kP, hkP, hkPi⟩ := Cond.selects_spec hsel
  cases hcls.symm.trans q1
  cases (State.methodFound?_of_named hnamed hy).symm.trans q2
  cases hnamed.symm.trans q3
  have hselP : selectMethod e.platform s.vm cellB.cls mk = .method mk := by rw [Launch.admits_selectMethod X.admits]; exact q4
  obtain ⟨vm₁, X₁, hstep₁⟩ := X.invokevirtualNest hexec hown hlink hnamed hmethM hstM hkP hkPi hy (a := b) (cell := cellB) hcell
    (fun z h => by rw [h] at hobj; cases hobj) hselP hmethM habM hkP hkPi (g := g) hg (argsL := argsL) (rest := rest) (hlen _ hsigM) hstack hdg
  rcases hK m meth c ⟨T.setVm vm₁, locs, cells, slots⟩ { g with stack := rest } (.invokevirtual index) mk (Value.ref b :: argsL).toArray X₁ hg hsize hdg hW (X₁.named hnamed) (hpre vm₁ X₁.warmed) with ⟨v, B, X', hpost, hsteps⟩ | ⟨q, B, X', hpost, hsteps⟩
  · exact Or.inl ⟨v, vm₁, B, X₁.warmed, X', hpost, fun target h => hstep₁ _ fun acts => by rw [doInvoke_state]; exact hsteps.trans h⟩
  · exact Or.inr ⟨q, vm₁, B, X₁.warmed, X', hpost, hstep₁ _ fun acts => by rw [doInvoke_state]; exact hsteps⟩
theorem vx_callSN (X : Stand p l e R s m args below meth c T locs cells slots) (hexec : p.tables.exec = Jvm.exec) {own : String} {index : Nat} {host : String} {y : MethodName} {bytes : ByteArray} {maxL : Nat} {ret : Option FieldType}
    (hown : s.vm.findClass own = some m.cls) (hlink : (Cond.methodLinkNest own index y host).before args s = true) (hstat : (Cond.static y).before args s = true) (hinit : (Cond.initialized y.cls).before args s = true)
    (hcode : (Cond.code y bytes maxL ret).before args s = true) (hy : y.cls ≠ "java/lang/invoke/MethodHandle" ∧ y.cls ≠ "java/lang/invoke/VarHandle")
    {W : Nat} {Pre : Pt → Array Value → Prop} {Post : Pt → Array Value → Option Value → Pt → Prop} {PostX : Pt → Array Value → Addr → Pt → Prop} (hK : vx_Back l R p e below s args y 3 W Pre Post PostX)
    {g : JFrame} (hg : g.method = m) (hsize : g.locals.size = c.maxLocals) {argsL rest : List Value} (hlen : ∀ sig, parseMethodDescriptor y.desc = some sig → argsL.length = sig.parameters.length)
    (hstack : g.stack = argsL.reverse ++ rest) (hW : 2 * g.monitorRoom + (rest.map fun v => v.category).sum ≤ W) (hdg : decode c.code g.pc = .ok (.invokestatic index, 3))
    (hpre : ∀ vm₁, s.WarmedH vm₁ → Pre ⟨T.setVm vm₁, locs, cells, slots⟩ argsL.toArray) :
    (∃ (v : Option Value) (vm₁ : Vm) (B : Pt), s.WarmedH vm₁ ∧ Stand p l e R s m args below meth c B.U B.locs B.cells B.slots ∧ Post ⟨T.setVm vm₁, locs, cells, slots⟩ argsL.toArray v B ∧
      ∀ target, Steps p.tables e below (B.U.setTop { g with pc := g.pc + 3, stack := v.toList ++ rest }) target → Steps p.tables e below (T.setTop g) target) ∨
    (∃ (q : Addr) (vm₁ : Vm) (B : Pt), s.WarmedH vm₁ ∧ Stand p l e R s m args below meth c B.U B.locs B.cells B.slots ∧ PostX ⟨T.setVm vm₁, locs, cells, slots⟩ argsL.toArray q B ∧
      Steps p.tables e below (T.setTop g) ((B.U.setTop { g with stack := rest }).pushFrame (.throwing q))) := by
  obtain ⟨mk, hnamed⟩ := Cond.code_named hcode
  obtain ⟨methM, cM, hmethM, -, -, -, -, -, -, hsigM⟩ := Cond.code_spec hnamed hcode
  have hstatic : methM.isStatic = true := Cond.static_spec hnamed hmethM hstat
  obtain ⟨kP, hkP, -⟩ := className_of_methodNamed hnamed
  have hinitP : kP.init = .initialized := Cond.initialized_spec (findClass_of_methodNamed hnamed) hkP hinit
  obtain ⟨vm₁, X₁, hstep₁⟩ := X.invokestaticNest hexec hown hlink hnamed hmethM hstatic hkP hinitP hy (g := g) hg (argsL := argsL) (rest := rest) (hlen _ hsigM) hstack hdg
  rcases hK m meth c ⟨T.setVm vm₁, locs, cells, slots⟩ { g with stack := rest } (.invokestatic index) mk argsL.toArray X₁ hg hsize hdg hW (X₁.named hnamed) (hpre vm₁ X₁.warmed) with ⟨v, B, X', hpost, hsteps⟩ | ⟨q, B, X', hpost, hsteps⟩
  · exact Or.inl ⟨v, vm₁, B, X₁.warmed, X', hpost, fun target h => hstep₁ _ fun acts => by rw [doInvoke_state]; exact hsteps.trans h⟩
  · exact Or.inr ⟨q, vm₁, B, X₁.warmed, X', hpost, hstep₁ _ fun acts => by rw [doInvoke_state]; exact hsteps⟩
theorem vx_runVN {y : MethodName} {bytes cc : ByteArray} {maxL nL mc ms n index : Nat} {ret : Option FieldType} {ws : List Cond} {rm : Room} {Pc : Array Value → State → Prop} {Qc : Array Value → State → Outcome → State → Prop} {XC : String → State → State → Prop} {free : Addr → Prop} {Ts : List Cond} {own C host : String} {b : Addr} {As rest : List Value} {g : JFrame}
    (S : CallFix p m c cc nL s args Ts own) (hM : vx_Met l y ws rm Pc Qc XC mc ms free) (cw : va_CN R s args own index y host bytes maxL ret ws rm mc ms n ∧ (Cond.instanceMethod y).before args s = true ∧ (Cond.selects C y y).before args s = true) (hp : PreV s H C b Pc As)
    (hg : g.method = m) (hn : As.length = n) (hsize : g.locals.size = nL) (hstack : g.stack = As.reverse ++ .ref b :: rest) (hW : 2 * g.monitorRoom + (rest.map fun v => v.category).sum ≤ 8) (hdg : decode cc g.pc = .ok (.invokevirtual index, 3)) (hf : cells + mc ≤ R.cells ∧ slots + ms ≤ R.slots) :
    vx_Run p l e R s m args below meth c H locs cells slots mc ms g rest (Qc (Value.ref b :: As).toArray) XC free := by
  obtain ⟨⟨⟨hrc, hrs, hfr, hlo, hws, hcw⟩, hcode, hini, hy, hlen, hl⟩, hx1, hx2⟩ := cw
  have hK : vx_Back l R p e below s args y 3 8 (PreOf R mc ms Pc) (PostOf Qc mc ms free) (vx_Post XC mc ms free) := vx_back (bytes := bytes) (maxL := maxL) (ret := ret) hM hp.1 hrc hrs hfr hlo hws hcw (fun a' U hW => word_at hW (Or.inl (by first | rfl | simp [Cond.onTables, Cond.keeps, Cond.steady])) hini)
  obtain ⟨hx, hb, hml, ho, -⟩ := S
  obtain ⟨-, ⟨cellB, hcB, hoB, hclB⟩, hPc⟩ := hp
  intro T hT X
  rcases vx_callVN X hx (C := C) (bytes := bytes) (maxL := maxL) (ret := ret) ho hl hx1 hx2 hcode hy hK (by rw [hT]; exact hcB) hoB hclB hg (hsize.trans hml.symm) (argsL := As) (rest := rest) (fun sig h => hn.trans (hlen sig h)) hstack hW (by rw [hb]; exact hdg)
    (fun vm₁ hW₁ => ⟨hf.1, hf.2, hPc (T.setVm vm₁) hT hW₁⟩) with ⟨v, vm₁, ⟨U', l2, c2, s2⟩, hW₁, X', ⟨g', mk, t, L, e1, e2, hq, h1, hL, h2, h3⟩, st⟩ | ⟨q, vm₁, ⟨U', l2, c2, s2⟩, hW₁, X', ⟨g', mk, t, L, E, ce, e1, e2, hq, hce, hcv, hcl, h1, hL, h2, h3⟩, st⟩
  · dsimp only [Pt.U, Pt.locs, Pt.cells, Pt.slots] at X' e1 e2 h1 h2 h3 st
    subst h1; subst h2; subst h3
    exact Or.inl ⟨v, (T.setVm vm₁).calling g' mk (Value.ref b :: As).toArray, t, U', L, hT, X', hL, e1, e2, hq, st⟩
  · dsimp only [Pt.U, Pt.locs, Pt.cells, Pt.slots] at X' e1 e2 h1 h2 h3 st hcl
    subst h1; subst h2; subst h3
    exact Or.inr ⟨q, (T.setVm vm₁).calling g' mk (Value.ref b :: As).toArray, t, U', L, E, ce, hT, X', hL, e1, e2, hq, hce, hcv, vx_cls hW₁ hcl, st⟩
theorem vx_runSN {y : MethodName} {bytes cc : ByteArray} {maxL nL mc ms n index : Nat} {ret : Option FieldType} {ws : List Cond} {rm : Room} {Pc : Array Value → State → Prop} {Qc : Array Value → State → Outcome → State → Prop} {XC : String → State → State → Prop} {free : Addr → Prop} {Ts : List Cond} {own host : String} {As rest : List Value} {g : JFrame}
    (S : CallFix p m c cc nL s args Ts own) (hM : vx_Met l y ws rm Pc Qc XC mc ms free) (cw : va_CN R s args own index y host bytes maxL ret ws rm mc ms n ∧ (Cond.static y).before args s = true ∧ True) (hp : PreS s H Pc As)
    (hg : g.method = m) (hn : As.length = n) (hsize : g.locals.size = nL) (hstack : g.stack = As.reverse ++ rest) (hW : 2 * g.monitorRoom + (rest.map fun v => v.category).sum ≤ 8) (hdg : decode cc g.pc = .ok (.invokestatic index, 3)) (hf : cells + mc ≤ R.cells ∧ slots + ms ≤ R.slots) :
    vx_Run p l e R s m args below meth c H locs cells slots mc ms g rest (Qc As.toArray) XC free := by
  obtain ⟨⟨⟨hrc, hrs, hfr, hlo, hws, hcw⟩, hcode, hini, hy, hlen, hl⟩, hx1, hx2⟩ := cw
  have hK : vx_Back l R p e below s args y 3 8 (PreOf R mc ms Pc) (PostOf Qc mc ms free) (vx_Post XC mc ms free) := vx_back (bytes := bytes) (maxL := maxL) (ret := ret) hM hp.1 hrc hrs hfr hlo hws hcw (fun a' U hW => word_at hW (Or.inl (by first | rfl | simp [Cond.onTables, Cond.keeps, Cond.steady])) hini)
  obtain ⟨hx, hb, hml, ho, -⟩ := S
  have hPc := hp.2
  intro T hT X
  rcases vx_callSN X hx (bytes := bytes) (maxL := maxL) (ret := ret) ho hl hx1 hini hcode hy hK hg (hsize.trans hml.symm) (argsL := As) (rest := rest) (fun sig h => hn.trans (hlen sig h)) hstack hW (by rw [hb]; exact hdg)
    (fun vm₁ hW₁ => ⟨hf.1, hf.2, hPc (T.setVm vm₁) hT hW₁⟩) with ⟨v, vm₁, ⟨U', l2, c2, s2⟩, hW₁, X', ⟨g', mk, t, L, e1, e2, hq, h1, hL, h2, h3⟩, st⟩ | ⟨q, vm₁, ⟨U', l2, c2, s2⟩, hW₁, X', ⟨g', mk, t, L, E, ce, e1, e2, hq, hce, hcv, hcl, h1, hL, h2, h3⟩, st⟩
  · dsimp only [Pt.U, Pt.locs, Pt.cells, Pt.slots] at X' e1 e2 h1 h2 h3 st
    subst h1; subst h2; subst h3
    exact Or.inl ⟨v, (T.setVm vm₁).calling g' mk As.toArray, t, U', L, hT, X', hL, e1, e2, hq, st⟩
  · dsimp only [Pt.U, Pt.locs, Pt.cells, Pt.slots] at X' e1 e2 h1 h2 h3 st hcl
    subst h1; subst h2; subst h3
    exact Or.inr ⟨q, (T.setVm vm₁).calling g' mk As.toArray, t, U', L, E, ce, hT, X', hL, e1, e2, hq, hce, hcv, vx_cls hW₁ hcl, st⟩
end
/-! ===== END ===== -/
/-! ===== BEGIN calls by an interface of methods that may throw (vx_callIF, vx_runF follow va_callIF, va_runF of this kit) ===== -/
section
variable {p : Program} {l : Launch} {e : Env} {R : Room} {s : State} {m : MethodId} {args : Array Value} {below : List Frame} {meth : Method} {c : Code} {H : Heap} {locs : List Loc} {cells slots : Nat} {Q : State → Prop}
variable {mc ms : Nat} {free : Addr → Prop} {A0 A1 : Nat → Prop} {H0 : Heap} {a : Array Value} {pc : Nat} {ls : Array Slot} {st0 rest : List Value}
def vx_Run5 (p : Program) (l : Launch) (e : Env) (R : Room) (s : State) (m : MethodId) (args : Array Value) (below : List Frame) (meth : Method) (c : Code) (H : Heap) (locs : List Loc) (cells slots mc ms : Nat) (g : JFrame) (rest : List Value) (Qa : State → Outcome → State → Prop) (XC : String → State → State → Prop) (free : Addr → Prop) : Prop :=
  ∀ T : State, T.heap = H → Stand p l e R s m args below meth c T locs cells slots →
    (∃ (v : Option Value) (st₀ t T' : State) (L : List Loc), st₀.heap = H ∧ Stand p l e R s m args below meth c T' (locs ++ L) (cells + mc) (slots + ms) ∧ (∀ q ∈ L, free q.base) ∧ T'.heap = t.heap ∧ T'.vm = t.vm ∧ Qa st₀ (.returned v) t ∧
      Goes p e below T g T' { g with pc := g.pc + 5, stack := v.toList ++ rest }) ∨
    (∃ (q : Addr) (st₀ t T' : State) (L : List Loc) (E : String) (ce : Cell), st₀.heap = H ∧ Stand p l e R s m args below meth c T' (locs ++ L) (cells + mc) (slots + ms) ∧ (∀ z ∈ L, free z.base) ∧ T'.heap = t.heap ∧ T'.vm = t.vm ∧ XC E st₀ t ∧ t.heap[q]? = some ce ∧ ce.vm = .none ∧ s.vm.findClass E = some ce.cls ∧
      Steps p.tables e below (T.setTop g) ((T'.setTop { g with stack := rest }).pushFrame (.throwing q)))
theorem vx_callIF {T : State} (X : Stand p l e R s m args below meth c T locs cells slots) (hexec : p.tables.exec = Jvm.exec) {own C : String} {index count : Nat} {x y : MethodName} {bytes : ByteArray} {maxL : Nat} {ret : Option FieldType}
    (hown : s.vm.findClass own = some m.cls) (hlink : (Cond.methodLink own index x).before args s = true) (hdecl : (Cond.declares x).before args s = true) (hface : (Cond.interfaceMethod x.cls x.cls x.name x.desc).before args s = true)
    (hsel : (Cond.selects C x y).before args s = true) (hinst : (Cond.instanceMethod y).before args s = true) (hpub : (Cond.publicMethod y).before args s = true) (hunh : (Cond.unhidden C x.name x.desc).before args s = true)
    (hcast : (Cond.castable C x.cls).before args s = true) (hcode : (Cond.code y bytes maxL ret).before args s = true) (hx : x.cls ≠ "java/lang/invoke/MethodHandle" ∧ x.cls ≠ "java/lang/invoke/VarHandle")
    {W9 : Nat} {Pre : Pt → Array Value → Prop} {Post : Pt → Array Value → Option Value → Pt → Prop} {PostX : Pt → Array Value → Addr → Pt → Prop} (hK : vx_Back l R p e below s args y 5 W9 Pre Post PostX)
    {b : Addr} {cellB : Cell} {kB : Class} (hcell : T.heap[b]? = some cellB) (hobj : cellB.vm.isStatics = false) (hcls : s.vm.findClass C = some cellB.cls) (hkB : s.vm.classes[cellB.cls]? = some kB)
    {g : JFrame} (hg : g.method = m) (hsize : g.locals.size = c.maxLocals) {argsL rest : List Value} (hlen : ∀ sig, parseMethodDescriptor x.desc = some sig → argsL.length = sig.parameters.length)
    (hstack : g.stack = argsL.reverse ++ .ref b :: rest) (hW : 2 * g.monitorRoom + (rest.map fun v => v.category).sum ≤ W9) (hdg : decode c.code g.pc = .ok (.invokeinterface index count, 5))
    (hpre : ∀ vm₁, s.WarmedH vm₁ → Pre ⟨T.setVm vm₁, locs, cells, slots⟩ (Value.ref b :: argsL).toArray) :
    (∃ (v : Option Value) (vm₁ : Vm) (B : Pt), s.WarmedH vm₁ ∧ Stand p l e R s m args below meth c B.U B.locs B.cells B.slots ∧ Post ⟨T.setVm vm₁, locs, cells, slots⟩ (Value.ref b :: argsL).toArray v B ∧
      ∀ target, Steps p.tables e below (B.U.setTop { g with pc := g.pc + 5, stack := v.toList ++ rest }) target → Steps p.tables e below (T.setTop g) target) ∨
    (∃ (q : Addr) (vm₁ : Vm) (B : Pt), s.WarmedH vm₁ ∧ Stand p l e R s m args below meth c B.U B.locs B.cells B.slots ∧ PostX ⟨T.setVm vm₁, locs, cells, slots⟩ (Value.ref b :: argsL).toArray q B ∧
      Steps p.tables e below (T.setTop g) ((B.U.setTop { g with stack := rest }).pushFrame (.throwing q))) := by
  obtain ⟨r0, r, hn, hrm, hstR, hsigR⟩ := Cond.declares_spec hdecl
  obtain ⟨cL, kL, r1, hcL, hkL, hiL, hfoundL, hn1⟩ := Cond.interfaceMethod_spec hface
  cases hn.symm.trans hn1
  have hr0cls : r0.cls = cL := Option.some.inj ((findClass_of_methodNamed hn).symm.trans hcL)
  obtain ⟨hnameR, hdescR⟩ := name_of_methodNamed hn hrm
  obtain ⟨mk, methM, hnamed, hmethM, -, habM⟩ := Cond.instanceMethod_spec hinst
  obtain ⟨c2, r2, m2, q1, q2, q3, q4, -⟩ := Cond.selects_spec hsel
  cases hcls.symm.trans q1
  cases hfoundL.symm.trans q2
  cases hnamed.symm.trans q3
  have hselP : selectMethod e.platform s.vm cellB.cls r0 = .method mk := by rw [Launch.admits_selectMethod X.admits]; exact q4
  have hpubM : hasFlag methM.accessFlags Acc.public_ = true := Cond.publicMethod_spec hnamed hmethM hpub
  have hway : ((cellB.cls :: s.vm.superclasses cellB.cls).any fun k => (declaredIn s.vm r.name r.desc k).any fun (_, z) => z.isPrivate || z.isStatic) = false := by
    rw [hnameR, hdescR]; exact Cond.unhidden_spec hcls hunh
  obtain ⟨c3, t3, w1, w2, w3⟩ := Cond.castable_spec hcast
  cases hcls.symm.trans w1
  cases hcL.symm.trans w2
  obtain ⟨vm₁, X₁, hstep₁⟩ := X.invokeinterface hexec hown hlink hn hrm hstR (by rw [hr0cls]; exact hkL) hiL hx (a := b) (cell := cellB) (kcell := kB) hcell
    (fun z h => by rw [h] at hobj; cases hobj) hkB (by rw [hr0cls]; exact w3) hselP hmethM hway hpubM habM (g := g) hg (argsL := argsL) (rest := rest) (hlen _ hsigR) hstack hdg
  rcases hK m meth c ⟨T.setVm vm₁, locs, cells, slots⟩ { g with stack := rest } (.invokeinterface index count) mk (Value.ref b :: argsL).toArray X₁ hg hsize hdg hW (X₁.named hnamed) (hpre vm₁ X₁.warmed) with ⟨v, B, X', hpost, hsteps⟩ | ⟨q, B, X', hpost, hsteps⟩
  · exact Or.inl ⟨v, vm₁, B, X₁.warmed, X', hpost, fun target h => hstep₁ _ fun acts => by rw [doInvoke_state]; exact hsteps.trans h⟩
  · exact Or.inr ⟨q, vm₁, B, X₁.warmed, X', hpost, hstep₁ _ fun acts => by rw [doInvoke_state]; exact hsteps⟩
theorem vx_runF {x y : MethodName} {bytes cc : ByteArray} {maxL nL mc ms n index count : Nat} {ret : Option FieldType} {ws : List Cond} {rm : Room} {Pc : Array Value → State → Prop} {Qc : Array Value → State → Outcome → State → Prop} {XC : String → State → State → Prop} {free : Addr → Prop} {Ts : List Cond} {own C : String} {cC : ClassId} {b : Addr} {As rest : List Value} {g : JFrame}
    (hat : ClassAt s C cC) (S : CallFix p m c cc nL s args Ts own) (hM : vx_Met l y ws rm Pc Qc XC mc ms free) (cw : va_CI R s args own C index x y bytes maxL ret ws rm mc ms n) (hp : PreV s H C b Pc As)
    (hg : g.method = m) (hn : As.length = n) (hsize : g.locals.size = nL) (hstack : g.stack = As.reverse ++ .ref b :: rest) (hW : 2 * g.monitorRoom + (rest.map fun v => v.category).sum ≤ 8) (hdg : decode cc g.pc = .ok (.invokeinterface index count, 5)) (hf : cells + mc ≤ R.cells ∧ slots + ms ≤ R.slots) :
    vx_Run5 p l e R s m args below meth c H locs cells slots mc ms g rest (Qc (Value.ref b :: As).toArray) XC free := by
  obtain ⟨hrc, hrs, hfr, hlo, hws, hcw⟩ := cw.back
  have hini := cw.init
  have hK : vx_Back l R p e below s args y 5 8 (PreOf R mc ms Pc) (PostOf Qc mc ms free) (vx_Post XC mc ms free) := vx_back (bytes := bytes) (maxL := maxL) (ret := ret) hM hp.1 hrc hrs hfr hlo hws hcw (fun a' U hW => word_at hW (Or.inl (by first | rfl | simp [Cond.onTables, Cond.keeps, Cond.steady])) hini)
  obtain ⟨hx, hb, hml, ho, -⟩ := S
  obtain ⟨-, ⟨cellB, hcB, hoB, hclB⟩, hPc⟩ := hp
  obtain ⟨hfc, kB, hkB, -⟩ := hat
  cases hfc.symm.trans hclB
  intro T hT X
  rcases vx_callIF X hx (C := C) (bytes := bytes) (maxL := maxL) (ret := ret) ho cw.link cw.decl cw.face cw.sel cw.inst cw.pub cw.unh cw.cast cw.code cw.notMH hK (by rw [hT]; exact hcB) hoB hclB hkB hg (hsize.trans hml.symm) (argsL := As) (rest := rest) (fun sig h => hn.trans (cw.len sig h)) hstack hW (by rw [hb]; exact hdg)
    (fun vm₁ hW₁ => ⟨hf.1, hf.2, hPc (T.setVm vm₁) hT hW₁⟩) with ⟨v, vm₁, ⟨U', l2, c2, s2⟩, hW₁, X', ⟨g', mk, t, L, e1, e2, hq, h1, hL, h2, h3⟩, st⟩ | ⟨q, vm₁, ⟨U', l2, c2, s2⟩, hW₁, X', ⟨g', mk, t, L, E, ce, e1, e2, hq, hce, hcv, hcl, h1, hL, h2, h3⟩, st⟩
  · dsimp only [Pt.U, Pt.locs, Pt.cells, Pt.slots] at X' e1 e2 h1 h2 h3 st
    subst h1; subst h2; subst h3
    exact Or.inl ⟨v, (T.setVm vm₁).calling g' mk (Value.ref b :: As).toArray, t, U', L, hT, X', hL, e1, e2, hq, st⟩
  · dsimp only [Pt.U, Pt.locs, Pt.cells, Pt.slots] at X' e1 e2 h1 h2 h3 st hcl
    subst h1; subst h2; subst h3
    exact Or.inr ⟨q, (T.setVm vm₁).calling g' mk (Value.ref b :: As).toArray, t, U', L, E, ce, hT, X', hL, e1, e2, hq, hce, hcv, vx_cls hW₁ hcl, st⟩
theorem vx_callFv {S SX : Type} {post : S → Prop} {px : SX → Prop} {B : S → State → Prop} {BX : String → SX → State → Prop} {AX : Nat → Prop} (hr : vx_Run5 p l e R s m args below meth c H locs cells slots mc ms (F0 m pc ls st0) rest (va_Qv post B A1 a) (vx_X px BX AX) free) (hS : va_S A0 H0 H locs) (hA : ∀ q, q < H.size → A1 q → A0 q) (hf : ∀ q, free q → A0 q) (hAX : ∀ q, q < H.size → AX q → A0 q)
    (kx : ∀ (E : String) (ce : Cell) (q9 : Addr) (u : SX) (t : State) (H1 : Heap) (locs1 : List Loc), t.heap = H1 → s.vm.Alike t.vm → px u → BX E u t → H.size ≤ H1.size → (∀ q : Nat, q < H.size → ¬ AX q → H1[q]? = H[q]?) → va_S A0 H0 H1 locs1 → H1[q9]? = some ce → ce.vm = .none → s.vm.findClass E = some ce.cls → vx_W p l e R s m args below meth c H1 locs1 (cells + mc) (slots + ms) Q (F0 m pc ls rest) q9)
    (kk : ∀ (u : S) (t : State) (H1 : Heap) (locs1 : List Loc), t.heap = H1 → s.vm.Alike t.vm → post u → B u t → H.size ≤ H1.size → (∀ q : Nat, q < H.size → ¬ A1 q → H1[q]? = H[q]?) → va_S A0 H0 H1 locs1 → W p l e R s m args below meth c H1 locs1 (cells + mc) (slots + ms) Q (F0 m (pc + 5) ls (rest))) : W p l e R s m args below meth c H locs cells slots Q (F0 m pc ls st0) := by
  intro T hT X
  rcases hr T hT X with ⟨v, st₀, t, T', L, h0, X', hL, e1, e2, ⟨⟨u, hv, hp, hb⟩, hF⟩, st⟩ | ⟨q, st₀, t, T', L, E, ce, h0, X', hL, e1, e2, ⟨u, hp, hb, hF⟩, hce, hcv, hcl, st⟩
  · cases hv
    obtain ⟨k1, k2, k3⟩ := vx_keep h0 e1 hS hA hf hL hF
    obtain ⟨t2, a1, b1⟩ := kk u t T'.heap (locs ++ L) e1.symm (by rw [← e2]; exact X'.warmed.alike) hp hb k1 k2 k3 T' rfl X'
    exact ⟨t2, st t2 a1, b1⟩
  · obtain ⟨k1, k2, k3⟩ := vx_keep h0 e1 hS hAX hf hL hF
    obtain ⟨t2, a1, b1⟩ := kx E ce q u t T'.heap (locs ++ L) e1.symm (by rw [← e2]; exact X'.warmed.alike) hp hb k1 k2 k3 (by rw [e1]; exact hce) hcv hcl T' rfl X'
    exact ⟨t2, st.trans a1, b1⟩
theorem vx_callFi {S SX : Type} {post : Int32 → S → Prop} {px : SX → Prop} {B : S → State → Prop} {BX : String → SX → State → Prop} {AX : Nat → Prop} (hr : vx_Run5 p l e R s m args below meth c H locs cells slots mc ms (F0 m pc ls st0) rest (va_Qi post B A1 a) (vx_X px BX AX) free) (hS : va_S A0 H0 H locs) (hA : ∀ q, q < H.size → A1 q → A0 q) (hf : ∀ q, free q → A0 q) (hAX : ∀ q, q < H.size → AX q → A0 q)
    (kx : ∀ (E : String) (ce : Cell) (q9 : Addr) (u : SX) (t : State) (H1 : Heap) (locs1 : List Loc), t.heap = H1 → s.vm.Alike t.vm → px u → BX E u t → H.size ≤ H1.size → (∀ q : Nat, q < H.size → ¬ AX q → H1[q]? = H[q]?) → va_S A0 H0 H1 locs1 → H1[q9]? = some ce → ce.vm = .none → s.vm.findClass E = some ce.cls → vx_W p l e R s m args below meth c H1 locs1 (cells + mc) (slots + ms) Q (F0 m pc ls rest) q9)
    (kk : ∀ (r : Int32) (u : S) (t : State) (H1 : Heap) (locs1 : List Loc), t.heap = H1 → s.vm.Alike t.vm → post r u → B u t → H.size ≤ H1.size → (∀ q : Nat, q < H.size → ¬ A1 q → H1[q]? = H[q]?) → va_S A0 H0 H1 locs1 → W p l e R s m args below meth c H1 locs1 (cells + mc) (slots + ms) Q (F0 m (pc + 5) ls (.int r :: rest))) : W p l e R s m args below meth c H locs cells slots Q (F0 m pc ls st0) := by
  intro T hT X
  rcases hr T hT X with ⟨v, st₀, t, T', L, h0, X', hL, e1, e2, ⟨⟨r, u, hv, hp, hb⟩, hF⟩, st⟩ | ⟨q, st₀, t, T', L, E, ce, h0, X', hL, e1, e2, ⟨u, hp, hb, hF⟩, hce, hcv, hcl, st⟩
  · cases hv
    obtain ⟨k1, k2, k3⟩ := vx_keep h0 e1 hS hA hf hL hF
    obtain ⟨t2, a1, b1⟩ := kk r u t T'.heap (locs ++ L) e1.symm (by rw [← e2]; exact X'.warmed.alike) hp hb k1 k2 k3 T' rfl X'
    exact ⟨t2, st t2 a1, b1⟩
  · obtain ⟨k1, k2, k3⟩ := vx_keep h0 e1 hS hAX hf hL hF
    obtain ⟨t2, a1, b1⟩ := kx E ce q u t T'.heap (locs ++ L) e1.symm (by rw [← e2]; exact X'.warmed.alike) hp hb k1 k2 k3 (by rw [e1]; exact hce) hcv hcl T' rfl X'
    exact ⟨t2, st.trans a1, b1⟩
theorem vx_callFl {S SX : Type} {post : Int64 → S → Prop} {px : SX → Prop} {B : S → State → Prop} {BX : String → SX → State → Prop} {AX : Nat → Prop} (hr : vx_Run5 p l e R s m args below meth c H locs cells slots mc ms (F0 m pc ls st0) rest (va_Ql post B A1 a) (vx_X px BX AX) free) (hS : va_S A0 H0 H locs) (hA : ∀ q, q < H.size → A1 q → A0 q) (hf : ∀ q, free q → A0 q) (hAX : ∀ q, q < H.size → AX q → A0 q)
    (kx : ∀ (E : String) (ce : Cell) (q9 : Addr) (u : SX) (t : State) (H1 : Heap) (locs1 : List Loc), t.heap = H1 → s.vm.Alike t.vm → px u → BX E u t → H.size ≤ H1.size → (∀ q : Nat, q < H.size → ¬ AX q → H1[q]? = H[q]?) → va_S A0 H0 H1 locs1 → H1[q9]? = some ce → ce.vm = .none → s.vm.findClass E = some ce.cls → vx_W p l e R s m args below meth c H1 locs1 (cells + mc) (slots + ms) Q (F0 m pc ls rest) q9)
    (kk : ∀ (r : Int64) (u : S) (t : State) (H1 : Heap) (locs1 : List Loc), t.heap = H1 → s.vm.Alike t.vm → post r u → B u t → H.size ≤ H1.size → (∀ q : Nat, q < H.size → ¬ A1 q → H1[q]? = H[q]?) → va_S A0 H0 H1 locs1 → W p l e R s m args below meth c H1 locs1 (cells + mc) (slots + ms) Q (F0 m (pc + 5) ls (.long r :: rest))) : W p l e R s m args below meth c H locs cells slots Q (F0 m pc ls st0) := by
  intro T hT X
  rcases hr T hT X with ⟨v, st₀, t, T', L, h0, X', hL, e1, e2, ⟨⟨r, u, hv, hp, hb⟩, hF⟩, st⟩ | ⟨q, st₀, t, T', L, E, ce, h0, X', hL, e1, e2, ⟨u, hp, hb, hF⟩, hce, hcv, hcl, st⟩
  · cases hv
    obtain ⟨k1, k2, k3⟩ := vx_keep h0 e1 hS hA hf hL hF
    obtain ⟨t2, a1, b1⟩ := kk r u t T'.heap (locs ++ L) e1.symm (by rw [← e2]; exact X'.warmed.alike) hp hb k1 k2 k3 T' rfl X'
    exact ⟨t2, st t2 a1, b1⟩
  · obtain ⟨k1, k2, k3⟩ := vx_keep h0 e1 hS hAX hf hL hF
    obtain ⟨t2, a1, b1⟩ := kx E ce q u t T'.heap (locs ++ L) e1.symm (by rw [← e2]; exact X'.warmed.alike) hp hb k1 k2 k3 (by rw [e1]; exact hce) hcv hcl T' rfl X'
    exact ⟨t2, st.trans a1, b1⟩
theorem vx_callFf {S SX : Type} {post : UInt32 → S → Prop} {px : SX → Prop} {B : S → State → Prop} {BX : String → SX → State → Prop} {AX : Nat → Prop} (hr : vx_Run5 p l e R s m args below meth c H locs cells slots mc ms (F0 m pc ls st0) rest (va_Qf post B A1 a) (vx_X px BX AX) free) (hS : va_S A0 H0 H locs) (hA : ∀ q, q < H.size → A1 q → A0 q) (hf : ∀ q, free q → A0 q) (hAX : ∀ q, q < H.size → AX q → A0 q)
    (kx : ∀ (E : String) (ce : Cell) (q9 : Addr) (u : SX) (t : State) (H1 : Heap) (locs1 : List Loc), t.heap = H1 → s.vm.Alike t.vm → px u → BX E u t → H.size ≤ H1.size → (∀ q : Nat, q < H.size → ¬ AX q → H1[q]? = H[q]?) → va_S A0 H0 H1 locs1 → H1[q9]? = some ce → ce.vm = .none → s.vm.findClass E = some ce.cls → vx_W p l e R s m args below meth c H1 locs1 (cells + mc) (slots + ms) Q (F0 m pc ls rest) q9)
    (kk : ∀ (r : UInt32) (u : S) (t : State) (H1 : Heap) (locs1 : List Loc), t.heap = H1 → s.vm.Alike t.vm → post r u → B u t → H.size ≤ H1.size → (∀ q : Nat, q < H.size → ¬ A1 q → H1[q]? = H[q]?) → va_S A0 H0 H1 locs1 → W p l e R s m args below meth c H1 locs1 (cells + mc) (slots + ms) Q (F0 m (pc + 5) ls (.float r :: rest))) : W p l e R s m args below meth c H locs cells slots Q (F0 m pc ls st0) := by
  intro T hT X
  rcases hr T hT X with ⟨v, st₀, t, T', L, h0, X', hL, e1, e2, ⟨⟨r, u, hv, hp, hb⟩, hF⟩, st⟩ | ⟨q, st₀, t, T', L, E, ce, h0, X', hL, e1, e2, ⟨u, hp, hb, hF⟩, hce, hcv, hcl, st⟩
  · cases hv
    obtain ⟨k1, k2, k3⟩ := vx_keep h0 e1 hS hA hf hL hF
    obtain ⟨t2, a1, b1⟩ := kk r u t T'.heap (locs ++ L) e1.symm (by rw [← e2]; exact X'.warmed.alike) hp hb k1 k2 k3 T' rfl X'
    exact ⟨t2, st t2 a1, b1⟩
  · obtain ⟨k1, k2, k3⟩ := vx_keep h0 e1 hS hAX hf hL hF
    obtain ⟨t2, a1, b1⟩ := kx E ce q u t T'.heap (locs ++ L) e1.symm (by rw [← e2]; exact X'.warmed.alike) hp hb k1 k2 k3 (by rw [e1]; exact hce) hcv hcl T' rfl X'
    exact ⟨t2, st.trans a1, b1⟩
theorem vx_callFd {S SX : Type} {post : UInt64 → S → Prop} {px : SX → Prop} {B : S → State → Prop} {BX : String → SX → State → Prop} {AX : Nat → Prop} (hr : vx_Run5 p l e R s m args below meth c H locs cells slots mc ms (F0 m pc ls st0) rest (va_Qd post B A1 a) (vx_X px BX AX) free) (hS : va_S A0 H0 H locs) (hA : ∀ q, q < H.size → A1 q → A0 q) (hf : ∀ q, free q → A0 q) (hAX : ∀ q, q < H.size → AX q → A0 q)
    (kx : ∀ (E : String) (ce : Cell) (q9 : Addr) (u : SX) (t : State) (H1 : Heap) (locs1 : List Loc), t.heap = H1 → s.vm.Alike t.vm → px u → BX E u t → H.size ≤ H1.size → (∀ q : Nat, q < H.size → ¬ AX q → H1[q]? = H[q]?) → va_S A0 H0 H1 locs1 → H1[q9]? = some ce → ce.vm = .none → s.vm.findClass E = some ce.cls → vx_W p l e R s m args below meth c H1 locs1 (cells + mc) (slots + ms) Q (F0 m pc ls rest) q9)
    (kk : ∀ (r : UInt64) (u : S) (t : State) (H1 : Heap) (locs1 : List Loc), t.heap = H1 → s.vm.Alike t.vm → post r u → B u t → H.size ≤ H1.size → (∀ q : Nat, q < H.size → ¬ A1 q → H1[q]? = H[q]?) → va_S A0 H0 H1 locs1 → W p l e R s m args below meth c H1 locs1 (cells + mc) (slots + ms) Q (F0 m (pc + 5) ls (.double r :: rest))) : W p l e R s m args below meth c H locs cells slots Q (F0 m pc ls st0) := by
  intro T hT X
  rcases hr T hT X with ⟨v, st₀, t, T', L, h0, X', hL, e1, e2, ⟨⟨r, u, hv, hp, hb⟩, hF⟩, st⟩ | ⟨q, st₀, t, T', L, E, ce, h0, X', hL, e1, e2, ⟨u, hp, hb, hF⟩, hce, hcv, hcl, st⟩
  · cases hv
    obtain ⟨k1, k2, k3⟩ := vx_keep h0 e1 hS hA hf hL hF
    obtain ⟨t2, a1, b1⟩ := kk r u t T'.heap (locs ++ L) e1.symm (by rw [← e2]; exact X'.warmed.alike) hp hb k1 k2 k3 T' rfl X'
    exact ⟨t2, st t2 a1, b1⟩
  · obtain ⟨k1, k2, k3⟩ := vx_keep h0 e1 hS hAX hf hL hF
    obtain ⟨t2, a1, b1⟩ := kx E ce q u t T'.heap (locs ++ L) e1.symm (by rw [← e2]; exact X'.warmed.alike) hp hb k1 k2 k3 (by rw [e1]; exact hce) hcv hcl T' rfl X'
    exact ⟨t2, st.trans a1, b1⟩
end
/-! ===== END ===== -/
/-! ===== BEGIN by an interface, a method with a table of its own that may throw (follows va_callIFW, va_runFW) ===== -/
section
variable {p : Program} {l : Launch} {e : Env} {R : Room} {s : State} {m : MethodId} {args : Array Value} {below : List Frame} {meth : Method} {c : Code} {H : Heap} {locs : List Loc} {cells slots : Nat}
theorem vx_callIFW {T : State} (X : Stand p l e R s m args below meth c T locs cells slots) (hexec : p.tables.exec = Jvm.exec) {own C : String} {index count : Nat} {x y : MethodName} {bytes : ByteArray} {maxL : Nat} {ret : Option FieldType} {hh : List (Nat × Nat × Nat × Nat)}
    (hown : s.vm.findClass own = some m.cls) (hlink : (Cond.methodLink own index x).before args s = true) (hdecl : (Cond.declares x).before args s = true) (hface : (Cond.interfaceMethod x.cls x.cls x.name x.desc).before args s = true)
    (hsel : (Cond.selects C x y).before args s = true) (hinst : (Cond.instanceMethod y).before args s = true) (hpub : (Cond.publicMethod y).before args s = true) (hunh : (Cond.unhidden C x.name x.desc).before args s = true)
    (hcast : (Cond.castable C x.cls).before args s = true) (hcode : (Cond.codeWith y bytes maxL ret hh).before args s = true) (hx : x.cls ≠ "java/lang/invoke/MethodHandle" ∧ x.cls ≠ "java/lang/invoke/VarHandle")
    {W : Nat} {Pre : Pt → Array Value → Prop} {Post : Pt → Array Value → Option Value → Pt → Prop} {PostX : Pt → Array Value → Addr → Pt → Prop} (hK : vx_Back l R p e below s args y 5 W Pre Post PostX)
    {b : Addr} {cellB : Cell} {kB : Class} (hcell : T.heap[b]? = some cellB) (hobj : cellB.vm.isStatics = false) (hcls : s.vm.findClass C = some cellB.cls) (hkB : s.vm.classes[cellB.cls]? = some kB)
    {g : JFrame} (hg : g.method = m) (hsize : g.locals.size = c.maxLocals) {argsL rest : List Value} (hlen : ∀ sig, parseMethodDescriptor x.desc = some sig → argsL.length = sig.parameters.length)
    (hstack : g.stack = argsL.reverse ++ .ref b :: rest) (hW : 2 * g.monitorRoom + (rest.map fun v => v.category).sum ≤ W) (hdg : decode c.code g.pc = .ok (.invokeinterface index count, 5))
    (hpre : ∀ vm₁, s.WarmedH vm₁ → Pre ⟨T.setVm vm₁, locs, cells, slots⟩ (Value.ref b :: argsL).toArray) :
    (∃ (v : Option Value) (vm₁ : Vm) (B : Pt), s.WarmedH vm₁ ∧ Stand p l e R s m args below meth c B.U B.locs B.cells B.slots ∧ Post ⟨T.setVm vm₁, locs, cells, slots⟩ (Value.ref b :: argsL).toArray v B ∧
      ∀ target, Steps p.tables e below (B.U.setTop { g with pc := g.pc + 5, stack := v.toList ++ rest }) target → Steps p.tables e below (T.setTop g) target) ∨
    (∃ (q : Addr) (vm₁ : Vm) (B : Pt), s.WarmedH vm₁ ∧ Stand p l e R s m args below meth c B.U B.locs B.cells B.slots ∧ PostX ⟨T.setVm vm₁, locs, cells, slots⟩ (Value.ref b :: argsL).toArray q B ∧
      Steps p.tables e below (T.setTop g) ((B.U.setTop { g with stack := rest }).pushFrame (.throwing q))) := by
  obtain ⟨r0, r, hn, hrm, hstR, hsigR⟩ := Cond.declares_spec hdecl
  obtain ⟨cL, kL, r1, hcL, hkL, hiL, hfoundL, hn1⟩ := Cond.interfaceMethod_spec hface
  cases hn.symm.trans hn1
  have hr0cls : r0.cls = cL := Option.some.inj ((findClass_of_methodNamed hn).symm.trans hcL)
  obtain ⟨hnameR, hdescR⟩ := name_of_methodNamed hn hrm
  obtain ⟨mk, methM, hnamed, hmethM, -, habM⟩ := Cond.instanceMethod_spec hinst
  obtain ⟨c2, r2, m2, q1, q2, q3, q4, -⟩ := Cond.selects_spec hsel
  cases hcls.symm.trans q1
  cases hfoundL.symm.trans q2
  cases hnamed.symm.trans q3
  have hselP : selectMethod e.platform s.vm cellB.cls r0 = .method mk := by rw [Launch.admits_selectMethod X.admits]; exact q4
  have hpubM : hasFlag methM.accessFlags Acc.public_ = true := Cond.publicMethod_spec hnamed hmethM hpub
  have hway : ((cellB.cls :: s.vm.superclasses cellB.cls).any fun k => (declaredIn s.vm r.name r.desc k).any fun (_, z) => z.isPrivate || z.isStatic) = false := by
    rw [hnameR, hdescR]; exact Cond.unhidden_spec hcls hunh
  obtain ⟨c3, t3, w1, w2, w3⟩ := Cond.castable_spec hcast
  cases hcls.symm.trans w1
  cases hcL.symm.trans w2
  obtain ⟨vm₁, X₁, hstep₁⟩ := X.invokeinterface hexec hown hlink hn hrm hstR (by rw [hr0cls]; exact hkL) hiL hx (a := b) (cell := cellB) (kcell := kB) hcell
    (fun z h => by rw [h] at hobj; cases hobj) hkB (by rw [hr0cls]; exact w3) hselP hmethM hway hpubM habM (g := g) hg (argsL := argsL) (rest := rest) (hlen _ hsigR) hstack hdg
  rcases hK m meth c ⟨T.setVm vm₁, locs, cells, slots⟩ { g with stack := rest } (.invokeinterface index count) mk (Value.ref b :: argsL).toArray X₁ hg hsize hdg hW (X₁.named hnamed) (hpre vm₁ X₁.warmed) with ⟨v, B, X', hpost, hsteps⟩ | ⟨q, B, X', hpost, hsteps⟩
  · exact Or.inl ⟨v, vm₁, B, X₁.warmed, X', hpost, fun target h => hstep₁ _ fun acts => by rw [doInvoke_state]; exact hsteps.trans h⟩
  · exact Or.inr ⟨q, vm₁, B, X₁.warmed, X', hpost, hstep₁ _ fun acts => by rw [doInvoke_state]; exact hsteps⟩
theorem vx_runFW {x y : MethodName} {bytes cc : ByteArray} {maxL nL mc ms n index count : Nat} {ret : Option FieldType} {hh : List (Nat × Nat × Nat × Nat)} {ws : List Cond} {rm : Room} {Pc : Array Value → State → Prop} {Qc : Array Value → State → Outcome → State → Prop} {XC : String → State → State → Prop} {free : Addr → Prop} {Ts : List Cond} {own C : String} {cC : ClassId} {b : Addr} {As rest : List Value} {g : JFrame}
    (hat : ClassAt s C cC) (S : CallFix p m c cc nL s args Ts own) (hM : vx_Met l y ws rm Pc Qc XC mc ms free) (cw : va_CIW R s args own C index x y bytes maxL ret hh ws rm mc ms n) (hp : PreV s H C b Pc As)
    (hg : g.method = m) (hn : As.length = n) (hsize : g.locals.size = nL) (hstack : g.stack = As.reverse ++ .ref b :: rest) (hW : 2 * g.monitorRoom + (rest.map fun v => v.category).sum ≤ 8) (hdg : decode cc g.pc = .ok (.invokeinterface index count, 5)) (hf : cells + mc ≤ R.cells ∧ slots + ms ≤ R.slots) :
    vx_Run5 p l e R s m args below meth c H locs cells slots mc ms g rest (Qc (Value.ref b :: As).toArray) XC free := by
  obtain ⟨hrc, hrs, hfr, hlo, hws, hcw⟩ := cw.back
  have hini := cw.init
  have hK : vx_Back l R p e below s args y 5 8 (PreOf R mc ms Pc) (PostOf Qc mc ms free) (vx_Post XC mc ms free) := vx_backW (hh := hh) (bytes := bytes) (maxL := maxL) (ret := ret) hM hp.1 hrc hrs hfr hlo hws hcw (fun a' U hW => word_at hW (Or.inl (by first | rfl | simp [Cond.onTables, Cond.keeps, Cond.steady])) hini)
  obtain ⟨hx, hb, hml, ho, -⟩ := S
  obtain ⟨-, ⟨cellB, hcB, hoB, hclB⟩, hPc⟩ := hp
  obtain ⟨hfc, kB, hkB, -⟩ := hat
  cases hfc.symm.trans hclB
  intro T hT X
  rcases vx_callIFW X hx (C := C) (hh := hh) (bytes := bytes) (maxL := maxL) (ret := ret) ho cw.link cw.decl cw.face cw.sel cw.inst cw.pub cw.unh cw.cast cw.code cw.notMH hK (by rw [hT]; exact hcB) hoB hclB hkB hg (hsize.trans hml.symm) (argsL := As) (rest := rest) (fun sig h => hn.trans (cw.len sig h)) hstack hW (by rw [hb]; exact hdg)
    (fun vm₁ hW₁ => ⟨hf.1, hf.2, hPc (T.setVm vm₁) hT hW₁⟩) with ⟨v, vm₁, ⟨U', l2, c2, s2⟩, hW₁, X', ⟨g', mk, t, L, e1, e2, hq, h1, hL, h2, h3⟩, st⟩ | ⟨q, vm₁, ⟨U', l2, c2, s2⟩, hW₁, X', ⟨g', mk, t, L, E, ce, e1, e2, hq, hce, hcv, hcl, h1, hL, h2, h3⟩, st⟩
  · dsimp only [Pt.U, Pt.locs, Pt.cells, Pt.slots] at X' e1 e2 h1 h2 h3 st
    subst h1; subst h2; subst h3
    exact Or.inl ⟨v, (T.setVm vm₁).calling g' mk (Value.ref b :: As).toArray, t, U', L, hT, X', hL, e1, e2, hq, st⟩
  · dsimp only [Pt.U, Pt.locs, Pt.cells, Pt.slots] at X' e1 e2 h1 h2 h3 st hcl
    subst h1; subst h2; subst h3
    exact Or.inr ⟨q, (T.setVm vm₁).calling g' mk (Value.ref b :: As).toArray, t, U', L, E, ce, hT, X', hL, e1, e2, hq, hce, hcv, vx_cls hW₁ hcl, st⟩
end
/-! ===== END ===== -/
/-! ===== BEGIN .. of methods that hand back an object of the pool ===== -/
section
variable {p : Program} {l : Launch} {e : Env} {R : Room} {s : State} {m : MethodId} {args : Array Value} {below : List Frame} {meth : Method} {c : Code} {H : Heap} {locs : List Loc} {cells slots : Nat} {Q : State → Prop}
variable {mc ms : Nat} {free : Addr → Prop} {A0 A1 : Nat → Prop} {H0 : Heap} {a : Array Value} {pc : Nat} {ls : Array Slot} {st0 rest : List Value}
theorem vx_callq {S SX : Type} {post : Option Nat → S → Prop} {px : SX → Prop} {B : S → State → Prop} {BX : String → SX → State → Prop} {AX : Nat → Prop} (hr : vx_Run p l e R s m args below meth c H locs cells slots mc ms (F0 m pc ls st0) rest (va_Qq post B A1 a) (vx_X px BX AX) free) (hS : va_S A0 H0 H locs) (hA : ∀ q, q < H.size → A1 q → A0 q) (hf : ∀ q, free q → A0 q) (hAX : ∀ q, q < H.size → AX q → A0 q)
    (kx : ∀ (E : String) (ce : Cell) (q9 : Addr) (u : SX) (t : State) (H1 : Heap) (locs1 : List Loc), t.heap = H1 → s.vm.Alike t.vm → px u → BX E u t → H.size ≤ H1.size → (∀ q : Nat, q < H.size → ¬ AX q → H1[q]? = H[q]?) → va_S A0 H0 H1 locs1 → H1[q9]? = some ce → ce.vm = .none → s.vm.findClass E = some ce.cls → vx_W p l e R s m args below meth c H1 locs1 (cells + mc) (slots + ms) Q (F0 m pc ls rest) q9)
    (kk : ∀ (r : Option Nat) (u : S) (t : State) (H1 : Heap) (locs1 : List Loc), t.heap = H1 → s.vm.Alike t.vm → post r u → B u t → H.size ≤ H1.size → (∀ q : Nat, q < H.size → ¬ A1 q → H1[q]? = H[q]?) → va_S A0 H0 H1 locs1 → W p l e R s m args below meth c H1 locs1 (cells + mc) (slots + ms) Q (F0 m (pc + 3) ls (va_rf r :: rest))) : W p l e R s m args below meth c H locs cells slots Q (F0 m pc ls st0) := by
  intro T hT X
  rcases hr T hT X with ⟨v, st₀, t, T', L, h0, X', hL, e1, e2, ⟨⟨r, u, hv, hp, hb⟩, hF⟩, st⟩ | ⟨q, st₀, t, T', L, E, ce, h0, X', hL, e1, e2, ⟨u, hp, hb, hF⟩, hce, hcv, hcl, st⟩
  · cases hv
    obtain ⟨k1, k2, k3⟩ := vx_keep h0 e1 hS hA hf hL hF
    obtain ⟨t2, a1, b1⟩ := kk r u t T'.heap (locs ++ L) e1.symm (by rw [← e2]; exact X'.warmed.alike) hp hb k1 k2 k3 T' rfl X'
    exact ⟨t2, st t2 a1, b1⟩
  · obtain ⟨k1, k2, k3⟩ := vx_keep h0 e1 hS hAX hf hL hF
    obtain ⟨t2, a1, b1⟩ := kx E ce q u t T'.heap (locs ++ L) e1.symm (by rw [← e2]; exact X'.warmed.alike) hp hb k1 k2 k3 (by rw [e1]; exact hce) hcv hcl T' rfl X'
    exact ⟨t2, st.trans a1, b1⟩
end
/-! ===== END ===== -/
/-! ===== BEGIN .. a constant ===== -/
section
variable {p : Program} {l : Launch} {e : Env} {R : Room} {s : State} {m : MethodId} {args : Array Value} {below : List Frame} {meth : Method} {c : Code} {H : Heap} {locs : List Loc} {cells slots : Nat} {Q : State → Prop}
variable {mc ms : Nat} {free : Addr → Prop} {A0 A1 : Nat → Prop} {H0 : Heap} {a : Array Value} {pc : Nat} {ls : Array Slot} {st0 rest : List Value}
theorem vx_calle {ad : Nat → Nat} {S SX : Type} {post : Option Nat → S → Prop} {px : SX → Prop} {B : S → State → Prop} {BX : String → SX → State → Prop} {AX : Nat → Prop} (hr : vx_Run p l e R s m args below meth c H locs cells slots mc ms (F0 m pc ls st0) rest (va_Qe ad post B A1 a) (vx_X px BX AX) free) (hS : va_S A0 H0 H locs) (hA : ∀ q, q < H.size → A1 q → A0 q) (hf : ∀ q, free q → A0 q) (hAX : ∀ q, q < H.size → AX q → A0 q)
    (kx : ∀ (E : String) (ce : Cell) (q9 : Addr) (u : SX) (t : State) (H1 : Heap) (locs1 : List Loc), t.heap = H1 → s.vm.Alike t.vm → px u → BX E u t → H.size ≤ H1.size → (∀ q : Nat, q < H.size → ¬ AX q → H1[q]? = H[q]?) → va_S A0 H0 H1 locs1 → H1[q9]? = some ce → ce.vm = .none → s.vm.findClass E = some ce.cls → vx_W p l e R s m args below meth c H1 locs1 (cells + mc) (slots + ms) Q (F0 m pc ls rest) q9)
    (kk : ∀ (r : Option Nat) (u : S) (t : State) (H1 : Heap) (locs1 : List Loc), t.heap = H1 → s.vm.Alike t.vm → post r u → B u t → H.size ≤ H1.size → (∀ q : Nat, q < H.size → ¬ A1 q → H1[q]? = H[q]?) → va_S A0 H0 H1 locs1 → W p l e R s m args below meth c H1 locs1 (cells + mc) (slots + ms) Q (F0 m (pc + 3) ls (va_re ad r :: rest))) : W p l e R s m args below meth c H locs cells slots Q (F0 m pc ls st0) := by
  intro T hT X
  rcases hr T hT X with ⟨v, st₀, t, T', L, h0, X', hL, e1, e2, ⟨⟨r, u, hv, hp, hb⟩, hF⟩, st⟩ | ⟨q, st₀, t, T', L, E, ce, h0, X', hL, e1, e2, ⟨u, hp, hb, hF⟩, hce, hcv, hcl, st⟩
  · cases hv
    obtain ⟨k1, k2, k3⟩ := vx_keep h0 e1 hS hA hf hL hF
    obtain ⟨t2, a1, b1⟩ := kk r u t T'.heap (locs ++ L) e1.symm (by rw [← e2]; exact X'.warmed.alike) hp hb k1 k2 k3 T' rfl X'
    exact ⟨t2, st t2 a1, b1⟩
  · obtain ⟨k1, k2, k3⟩ := vx_keep h0 e1 hS hAX hf hL hF
    obtain ⟨t2, a1, b1⟩ := kx E ce q u t T'.heap (locs ++ L) e1.symm (by rw [← e2]; exact X'.warmed.alike) hp hb k1 k2 k3 (by rw [e1]; exact hce) hcv hcl T' rfl X'
    exact ⟨t2, st.trans a1, b1⟩
end
/-! ===== END ===== -/
/-! ===== BEGIN .. by an interface, an object ===== -/
section
variable {p : Program} {l : Launch} {e : Env} {R : Room} {s : State} {m : MethodId} {args : Array Value} {below : List Frame} {meth : Method} {c : Code} {H : Heap} {locs : List Loc} {cells slots : Nat} {Q : State → Prop}
variable {mc ms : Nat} {free : Addr → Prop} {A0 A1 : Nat → Prop} {H0 : Heap} {a : Array Value} {pc : Nat} {ls : Array Slot} {st0 rest : List Value}
theorem vx_callFq {S SX : Type} {post : Option Nat → S → Prop} {px : SX → Prop} {B : S → State → Prop} {BX : String → SX → State → Prop} {AX : Nat → Prop} (hr : vx_Run5 p l e R s m args below meth c H locs cells slots mc ms (F0 m pc ls st0) rest (va_Qq post B A1 a) (vx_X px BX AX) free) (hS : va_S A0 H0 H locs) (hA : ∀ q, q < H.size → A1 q → A0 q) (hf : ∀ q, free q → A0 q) (hAX : ∀ q, q < H.size → AX q → A0 q)
    (kx : ∀ (E : String) (ce : Cell) (q9 : Addr) (u : SX) (t : State) (H1 : Heap) (locs1 : List Loc), t.heap = H1 → s.vm.Alike t.vm → px u → BX E u t → H.size ≤ H1.size → (∀ q : Nat, q < H.size → ¬ AX q → H1[q]? = H[q]?) → va_S A0 H0 H1 locs1 → H1[q9]? = some ce → ce.vm = .none → s.vm.findClass E = some ce.cls → vx_W p l e R s m args below meth c H1 locs1 (cells + mc) (slots + ms) Q (F0 m pc ls rest) q9)
    (kk : ∀ (r : Option Nat) (u : S) (t : State) (H1 : Heap) (locs1 : List Loc), t.heap = H1 → s.vm.Alike t.vm → post r u → B u t → H.size ≤ H1.size → (∀ q : Nat, q < H.size → ¬ A1 q → H1[q]? = H[q]?) → va_S A0 H0 H1 locs1 → W p l e R s m args below meth c H1 locs1 (cells + mc) (slots + ms) Q (F0 m (pc + 5) ls (va_rf r :: rest))) : W p l e R s m args below meth c H locs cells slots Q (F0 m pc ls st0) := by
  intro T hT X
  rcases hr T hT X with ⟨v, st₀, t, T', L, h0, X', hL, e1, e2, ⟨⟨r, u, hv, hp, hb⟩, hF⟩, st⟩ | ⟨q, st₀, t, T', L, E, ce, h0, X', hL, e1, e2, ⟨u, hp, hb, hF⟩, hce, hcv, hcl, st⟩
  · cases hv
    obtain ⟨k1, k2, k3⟩ := vx_keep h0 e1 hS hA hf hL hF
    obtain ⟨t2, a1, b1⟩ := kk r u t T'.heap (locs ++ L) e1.symm (by rw [← e2]; exact X'.warmed.alike) hp hb k1 k2 k3 T' rfl X'
    exact ⟨t2, st t2 a1, b1⟩
  · obtain ⟨k1, k2, k3⟩ := vx_keep h0 e1 hS hAX hf hL hF
    obtain ⟨t2, a1, b1⟩ := kx E ce q u t T'.heap (locs ++ L) e1.symm (by rw [← e2]; exact X'.warmed.alike) hp hb k1 k2 k3 (by rw [e1]; exact hce) hcv hcl T' rfl X'
    exact ⟨t2, st.trans a1, b1⟩
end
/-! ===== END ===== -/
/-! ===== BEGIN .. by an interface, a constant ===== -/
section
variable {p : Program} {l : Launch} {e : Env} {R : Room} {s : State} {m : MethodId} {args : Array Value} {below : List Frame} {meth : Method} {c : Code} {H : Heap} {locs : List Loc} {cells slots : Nat} {Q : State → Prop}
variable {mc ms : Nat} {free : Addr → Prop} {A0 A1 : Nat → Prop} {H0 : Heap} {a : Array Value} {pc : Nat} {ls : Array Slot} {st0 rest : List Value}
theorem vx_callFe {ad : Nat → Nat} {S SX : Type} {post : Option Nat → S → Prop} {px : SX → Prop} {B : S → State → Prop} {BX : String → SX → State → Prop} {AX : Nat → Prop} (hr : vx_Run5 p l e R s m args below meth c H locs cells slots mc ms (F0 m pc ls st0) rest (va_Qe ad post B A1 a) (vx_X px BX AX) free) (hS : va_S A0 H0 H locs) (hA : ∀ q, q < H.size → A1 q → A0 q) (hf : ∀ q, free q → A0 q) (hAX : ∀ q, q < H.size → AX q → A0 q)
    (kx : ∀ (E : String) (ce : Cell) (q9 : Addr) (u : SX) (t : State) (H1 : Heap) (locs1 : List Loc), t.heap = H1 → s.vm.Alike t.vm → px u → BX E u t → H.size ≤ H1.size → (∀ q : Nat, q < H.size → ¬ AX q → H1[q]? = H[q]?) → va_S A0 H0 H1 locs1 → H1[q9]? = some ce → ce.vm = .none → s.vm.findClass E = some ce.cls → vx_W p l e R s m args below meth c H1 locs1 (cells + mc) (slots + ms) Q (F0 m pc ls rest) q9)
    (kk : ∀ (r : Option Nat) (u : S) (t : State) (H1 : Heap) (locs1 : List Loc), t.heap = H1 → s.vm.Alike t.vm → post r u → B u t → H.size ≤ H1.size → (∀ q : Nat, q < H.size → ¬ A1 q → H1[q]? = H[q]?) → va_S A0 H0 H1 locs1 → W p l e R s m args below meth c H1 locs1 (cells + mc) (slots + ms) Q (F0 m (pc + 5) ls (va_re ad r :: rest))) : W p l e R s m args below meth c H locs cells slots Q (F0 m pc ls st0) := by
  intro T hT X
  rcases hr T hT X with ⟨v, st₀, t, T', L, h0, X', hL, e1, e2, ⟨⟨r, u, hv, hp, hb⟩, hF⟩, st⟩ | ⟨q, st₀, t, T', L, E, ce, h0, X', hL, e1, e2, ⟨u, hp, hb, hF⟩, hce, hcv, hcl, st⟩
  · cases hv
    obtain ⟨k1, k2, k3⟩ := vx_keep h0 e1 hS hA hf hL hF
    obtain ⟨t2, a1, b1⟩ := kk r u t T'.heap (locs ++ L) e1.symm (by rw [← e2]; exact X'.warmed.alike) hp hb k1 k2 k3 T' rfl X'
    exact ⟨t2, st t2 a1, b1⟩
  · obtain ⟨k1, k2, k3⟩ := vx_keep h0 e1 hS hAX hf hL hF
    obtain ⟨t2, a1, b1⟩ := kx E ce q u t T'.heap (locs ++ L) e1.symm (by rw [← e2]; exact X'.warmed.alike) hp hb k1 k2 k3 (by rw [e1]; exact hce) hcv hcl T' rfl X'
    exact ⟨t2, st.trans a1, b1⟩
end
/-! ===== END ===== -/
/-! ===== BEGIN what the machine throws by itself: null at a field, at athrow ===== -/
section VXM2
variable {p : Program} {l : Launch} {e : Env} {R : Room} {s : State} {m : MethodId} {args : Array Value} {below : List Frame} {meth : Method} {c : Code} {H : Heap} {locs : List Loc} {cells slots : Nat}
variable {Q : State → Prop} {cc : ByteArray} {pc : Nat} {ls : Array Slot} {rest : List Value}
theorem vx_getfN {D cl tys} {own ref C : String} {T : u_T} {N ci index : Nat} {Ts : List Cond} (hexec : p.tables.exec = Jvm.exec) (hb : c.code = cc) (hts : ∀ w ∈ Ts, w.before args s = true) (hin : ∀ w ∈ u_ws C T N, w ∈ Ts) (hown : s.vm.findClass own = some m.cls) (hK : va_K D cl tys s) (hc : cl[ci]? = some (C, T, N)) (k : Nat) (hk : k < N) (hlink : (Cond.fieldLink own index ref (T k).2.1 (T k).2.2.1).before args s = true) (hsame : ∀ x, s.fieldFound? (T k).1 (T k).2.1 (T k).2.2.1 = some x → s.fieldFound? ref (T k).2.1 (T k).2.2.1 = some x) (hdg : decode cc pc = .ok (.getfield index, 3)) (kk : vx_NoteN p l e R s m args below meth c H locs cells slots Q (F0 m pc ls rest)) : W p l e R s m args below meth c H locs cells slots Q (F0 m pc ls (.null :: rest)) := by
  obtain ⟨hS, hfc, kC, hkC, -⟩ := hK.1 ci _ hc
  obtain ⟨cf, kf, fi, f, hi, -⟩ := hS k hk
  intro U hU X
  obtain ⟨vm', X1, st1⟩ := X.getfieldNull hexec hown hlink (hsame _ hi) (u_facts hfc hkC (u_lays hts hin hk) hi).1 (g := F0 m pc ls (.null :: rest)) rfl (rest := rest) rfl (by rw [hb]; exact hdg)
  obtain ⟨t, st, q⟩ := kk (U.setVm vm') hU X1
  exact ⟨t, st1 t st, q⟩
theorem vx_getfNN {D cl tys} {own ref C host : String} {T : u_T} {N ci index : Nat} {Ts : List Cond} (hexec : p.tables.exec = Jvm.exec) (hb : c.code = cc) (hts : ∀ w ∈ Ts, w.before args s = true) (hin : ∀ w ∈ u_ws C T N, w ∈ Ts) (hown : s.vm.findClass own = some m.cls) (hK : va_K D cl tys s) (hc : cl[ci]? = some (C, T, N)) (k : Nat) (hk : k < N) (hlink : (Cond.fieldLinkNest own index ref (T k).2.1 (T k).2.2.1 host).before args s = true) (hsame : ∀ x, s.fieldFound? (T k).1 (T k).2.1 (T k).2.2.1 = some x → s.fieldFound? ref (T k).2.1 (T k).2.2.1 = some x) (hdg : decode cc pc = .ok (.getfield index, 3)) (kk : vx_NoteN p l e R s m args below meth c H locs cells slots Q (F0 m pc ls rest)) : W p l e R s m args below meth c H locs cells slots Q (F0 m pc ls (.null :: rest)) := by
  obtain ⟨hS, hfc, kC, hkC, -⟩ := hK.1 ci _ hc
  obtain ⟨cf, kf, fi, f, hi, -⟩ := hS k hk
  intro U hU X
  obtain ⟨vm', X1, st1⟩ := X.getfieldNullNest hexec hown hlink (hsame _ hi) (u_facts hfc hkC (u_lays hts hin hk) hi).1 (g := F0 m pc ls (.null :: rest)) rfl (rest := rest) rfl (by rw [hb]; exact hdg)
  obtain ⟨t, st, q⟩ := kk (U.setVm vm') hU X1
  exact ⟨t, st1 t st, q⟩
theorem vx_putfN {D cl tys} {own ref C : String} {T : u_T} {N ci index : Nat} {Ts : List Cond} (hexec : p.tables.exec = Jvm.exec) (hb : c.code = cc) (hts : ∀ w ∈ Ts, w.before args s = true) (hin : ∀ w ∈ u_ws C T N, w ∈ Ts) (hown : s.vm.findClass own = some m.cls) (hK : va_K D cl tys s) (hc : cl[ci]? = some (C, T, N)) (k : Nat) (hk : k < N) (hlink : (Cond.fieldLink own index ref (T k).2.1 (T k).2.2.1).before args s = true) (hsame : ∀ x, s.fieldFound? (T k).1 (T k).2.1 (T k).2.2.1 = some x → s.fieldFound? ref (T k).2.1 (T k).2.2.1 = some x) (hfin : (T k).2.2.2 = false) {v : Value} (hdg : decode cc pc = .ok (.putfield index, 3)) (kk : vx_NoteN p l e R s m args below meth c H locs cells slots Q (F0 m pc ls rest)) : W p l e R s m args below meth c H locs cells slots Q (F0 m pc ls (v :: .null :: rest)) := by
  obtain ⟨hS, hfc, kC, hkC, -⟩ := hK.1 ci _ hc
  obtain ⟨cf, kf, fi, f, hi, -⟩ := hS k hk
  have hlay := hts _ (hin _ (u_in_lay hk))
  unfold u_lay at hlay
  rw [if_neg (by rw [hfin]; decide)] at hlay
  obtain ⟨c9, k9, cf9, kf9, fi9, f9, -, -, hi9, hst9, hnf9, -⟩ := Cond.lays_spec hlay
  cases hi.symm.trans hi9
  intro U hU X
  obtain ⟨vm', X1, st1⟩ := X.putfieldNull hexec hown hlink (hsame _ hi) hst9 hnf9 (g := F0 m pc ls (v :: .null :: rest)) rfl (v := v) (rest := rest) rfl (by rw [hb]; exact hdg)
  obtain ⟨t, st, q⟩ := kk (U.setVm vm') hU X1
  exact ⟨t, st1 t st, q⟩
theorem vx_putfNN {D cl tys} {own ref C host : String} {T : u_T} {N ci index : Nat} {Ts : List Cond} (hexec : p.tables.exec = Jvm.exec) (hb : c.code = cc) (hts : ∀ w ∈ Ts, w.before args s = true) (hin : ∀ w ∈ u_ws C T N, w ∈ Ts) (hown : s.vm.findClass own = some m.cls) (hK : va_K D cl tys s) (hc : cl[ci]? = some (C, T, N)) (k : Nat) (hk : k < N) (hlink : (Cond.fieldLinkNest own index ref (T k).2.1 (T k).2.2.1 host).before args s = true) (hsame : ∀ x, s.fieldFound? (T k).1 (T k).2.1 (T k).2.2.1 = some x → s.fieldFound? ref (T k).2.1 (T k).2.2.1 = some x) (hfin : (T k).2.2.2 = false) {v : Value} (hdg : decode cc pc = .ok (.putfield index, 3)) (kk : vx_NoteN p l e R s m args below meth c H locs cells slots Q (F0 m pc ls rest)) : W p l e R s m args below meth c H locs cells slots Q (F0 m pc ls (v :: .null :: rest)) := by
  obtain ⟨hS, hfc, kC, hkC, -⟩ := hK.1 ci _ hc
  obtain ⟨cf, kf, fi, f, hi, -⟩ := hS k hk
  have hlay := hts _ (hin _ (u_in_lay hk))
  unfold u_lay at hlay
  rw [if_neg (by rw [hfin]; decide)] at hlay
  obtain ⟨c9, k9, cf9, kf9, fi9, f9, -, -, hi9, hst9, hnf9, -⟩ := Cond.lays_spec hlay
  cases hi.symm.trans hi9
  intro U hU X
  obtain ⟨vm', X1, st1⟩ := X.putfieldNullNest hexec hown hlink (hsame _ hi) hst9 hnf9 (g := F0 m pc ls (v :: .null :: rest)) rfl (v := v) (rest := rest) rfl (by rw [hb]; exact hdg)
  obtain ⟨t, st, q⟩ := kk (U.setVm vm') hU X1
  exact ⟨t, st1 t st, q⟩
theorem vx_athrowN (hexec : p.tables.exec = Jvm.exec) (hb : c.code = cc) (hdg : decode cc pc = .ok (.athrow, 1)) (k : vx_NoteN p l e R s m args below meth c H locs cells slots Q (F0 m pc ls rest)) : W p l e R s m args below meth c H locs cells slots Q (F0 m pc ls (.null :: rest)) := by
  intro T hT X
  obtain ⟨t, st, q⟩ := k T hT X
  exact ⟨t, X.athrowNull hexec (g := F0 m pc ls (.null :: rest)) rfl (rest := rest) rfl (by rw [hb]; exact hdg) t st, q⟩
end VXM2
/-! ===== END ===== -/
end
section
/-! ===== the abstract machine: its pure steps (locals by place, a stack, no heap) and that they are the machine's ===== -/
abbrev zL : Type := List (Option Value)
abbrev zF : Type := Nat × zL × List Value
/-- the listed locals -/
def zl_as : Nat → zL → List (Nat × Value)
  | _, [] => []
  | i, none :: t => zl_as (i + 1) t
  | i, some v :: t => (i, v) :: zl_as (i + 1) t
theorem zl_mem {i : Nat} {ls : zL} {q : Nat × Value} (h : q ∈ zl_as i ls) : ∃ j : Nat, q.1 = i + j ∧ ls[j]? = some (some q.2) := by
  induction ls generalizing i with
  | nil => cases h
  | cons a t ih =>
    cases a with
    | none =>
      obtain ⟨j, h1, h2⟩ := ih h
      exact ⟨j + 1, by omega, by simpa using h2⟩
    | some v =>
      rcases List.mem_cons.mp h with h | h
      · subst h
        exact ⟨0, rfl, rfl⟩
      · obtain ⟨j, h1, h2⟩ := ih h
        exact ⟨j + 1, by omega, by simpa using h2⟩
theorem zl_of {i j : Nat} {ls : zL} {v : Value} (h : ls[j]? = some (some v)) : (i + j, v) ∈ zl_as i ls := by
  induction ls generalizing i j with
  | nil => simp at h
  | cons a t ih =>
    cases j with
    | zero =>
      simp only [List.getElem?_cons_zero, Option.some.injEq] at h
      subst h
      exact List.mem_cons_self
    | succ j =>
      have h1 : t[j]? = some (some v) := by simpa using h
      have h2 := ih (i := i + 1) h1
      rw [show i + (j + 1) = i + 1 + j by omega]
      cases a with
      | none => exact h2
      | some w => exact List.mem_cons_of_mem _ h2
/-- the locals array la holds what ls lists -/
def zl_has (la : Array Slot) (ls : zL) : Prop := lv_has la ls.length (zl_as 0 ls)
theorem zl_get {la : Array Slot} {ls : zL} (h : zl_has la ls) {i : Nat} {v : Value} (hv : ls[i]? = some (some v)) : la[i]? = some (.val v) := by
  have h1 := zl_of (i := 0) hv
  rw [Nat.zero_add] at h1
  exact h.2.2 _ h1
def zcl : Nat → Option Value → Option Value
  | 0, some (.long _) => none
  | 0, some (.double _) => none
  | _, a => a
/-- a value of one slot stored -/
def zs1 : zL → Nat → Value → zL
  | [], _, _ => []
  | _ :: t, 0, v => some v :: t
  | a :: t, i + 1, v => zcl i a :: zs1 t i v
/-- a value of two slots stored -/
def zs2 : zL → Nat → Value → zL
  | [], _, _ => []
  | [a], 0, v => [some v]
  | _ :: _ :: t, 0, v => some v :: none :: t
  | a :: t, i + 1, v => zcl i a :: zs2 t i v
theorem zs1_len {ls : zL} {i : Nat} {v : Value} : (zs1 ls i v).length = ls.length := by
  induction ls generalizing i with
  | nil => rfl
  | cons a t ih => cases i <;> simp [zs1, ih]
theorem zs2_len {ls : zL} {i : Nat} {v : Value} : (zs2 ls i v).length = ls.length := by
  induction ls generalizing i with
  | nil => rfl
  | cons a t ih =>
    cases i with
    | zero => cases t <;> simp [zs2]
    | succ i => cases t <;> simp [zs2, ih]
theorem zcl_cat {a : Option Value} {v : Value} (h : zcl 0 a = some v) : a = some v ∧ v.category = 1 := by
  cases a with
  | none => cases h
  | some w => cases w <;> first | (simp [zcl] at h; done) | (simp [zcl] at h; subst h; exact ⟨rfl, rfl⟩)
theorem zcl_s {i : Nat} {a : Option Value} : zcl (i + 1) a = a := by
  cases a with
  | none => rfl
  | some w => cases w <;> rfl
theorem zs1_get {ls : zL} {i j : Nat} {v w : Value} (h : (zs1 ls i v)[j]? = some (some w)) : (j = i ∧ w = v) ∨ (j ≠ i ∧ ls[j]? = some (some w) ∧ (j + 1 = i → w.category = 1)) := by
  induction ls generalizing i j with
  | nil => simp [zs1] at h
  | cons a t ih =>
    cases i with
    | zero =>
      cases j with
      | zero => simp [zs1] at h; exact Or.inl ⟨rfl, h.symm⟩
      | succ j => exact Or.inr ⟨by omega, by simpa [zs1] using h, fun h9 => by omega⟩
    | succ i =>
      cases j with
      | zero =>
        simp only [zs1, List.getElem?_cons_zero, Option.some.injEq] at h
        cases i with
        | zero =>
          obtain ⟨h1, h2⟩ := zcl_cat h
          exact Or.inr ⟨by omega, by simp [h1], fun _ => h2⟩
        | succ i =>
          rw [zcl_s] at h
          exact Or.inr ⟨by omega, by simp [h], fun h9 => by omega⟩
      | succ j =>
        have h1 : (zs1 t i v)[j]? = some (some w) := by simpa [zs1] using h
        rcases ih h1 with ⟨h2, h3⟩ | ⟨h2, h3, h4⟩
        · exact Or.inl ⟨by omega, h3⟩
        · exact Or.inr ⟨by omega, by simpa using h3, fun h9 => h4 (by omega)⟩
theorem zs2_get {ls : zL} {i j : Nat} {v w : Value} (hi : i + 1 < ls.length) (h : (zs2 ls i v)[j]? = some (some w)) : (j = i ∧ w = v) ∨ (j ≠ i ∧ j ≠ i + 1 ∧ ls[j]? = some (some w) ∧ (j + 1 = i → w.category = 1)) := by
  induction ls generalizing i j with
  | nil => simp [zs2] at h
  | cons a t ih =>
    cases i with
    | zero =>
      cases t with
      | nil => simp at hi
      | cons b t =>
        match j with
        | 0 => simp [zs2] at h; exact Or.inl ⟨rfl, h.symm⟩
        | 1 => simp [zs2] at h
        | j + 2 => exact Or.inr ⟨by omega, by omega, by simpa [zs2] using h, fun h9 => by omega⟩
    | succ i =>
      have hi' : i + 1 < t.length := by simpa using hi
      cases j with
      | zero =>
        have h : zcl i a = some w := by cases t <;> simpa [zs2] using h
        cases i with
        | zero =>
          obtain ⟨h1, h2⟩ := zcl_cat h
          exact Or.inr ⟨by omega, by omega, by simp [h1], fun _ => h2⟩
        | succ i =>
          rw [zcl_s] at h
          exact Or.inr ⟨by omega, by omega, by simp [h], fun h9 => by omega⟩
      | succ j =>
        have h1 : (zs2 t i v)[j]? = some (some w) := by cases t <;> simpa [zs2] using h
        rcases ih hi' h1 with ⟨h2, h3⟩ | ⟨h2, h5, h3, h4⟩
        · exact Or.inl ⟨by omega, h3⟩
        · exact Or.inr ⟨by omega, by omega, by simpa using h3, fun h9 => h4 (by omega)⟩
theorem zs1_has {la : Array Slot} {ls : zL} {i : Nat} {v : Value} (h : lv_has la ls.length ((i, v) :: (zl_as 0 ls).filter (fun q => !(q.1 == i) && !(q.1 + 1 == i && q.2.category == 2)))) : zl_has la (zs1 ls i v) := by
  refine ⟨by rw [zs1_len]; exact h.1, h.2.1, fun q hq => ?_⟩
  obtain ⟨j, h1, h2⟩ := zl_mem hq
  rw [Nat.zero_add] at h1
  refine h.2.2 q ?_
  rcases zs1_get h2 with ⟨h3, h4⟩ | ⟨h3, h4, h5⟩
  · rw [show q = (i, v) from Prod.ext (h1.trans h3) h4]
    exact List.mem_cons_self
  · refine List.mem_cons_of_mem _ (List.mem_filter.mpr ⟨?_, ?_⟩)
    · have h6 := zl_of (i := 0) h4
      rw [Nat.zero_add, ← h1] at h6
      exact h6
    · rw [h1]
      by_cases h9 : j + 1 = i
      · simp [h3, h5 h9]
      · simp [h3, h9]
theorem zs2_has {la : Array Slot} {ls : zL} {i : Nat} {v : Value} (hi : i + 1 < ls.length) (h : lv_has la ls.length ((i, v) :: (zl_as 0 ls).filter (fun q => !(q.1 == i) && (!(q.1 == i + 1) && !(q.1 + 1 == i && q.2.category == 2))))) : zl_has la (zs2 ls i v) := by
  refine ⟨by rw [zs2_len]; exact h.1, h.2.1, fun q hq => ?_⟩
  obtain ⟨j, h1, h2⟩ := zl_mem hq
  rw [Nat.zero_add] at h1
  refine h.2.2 q ?_
  rcases zs2_get hi h2 with ⟨h3, h4⟩ | ⟨h3, h7, h4, h5⟩
  · rw [show q = (i, v) from Prod.ext (h1.trans h3) h4]
    exact List.mem_cons_self
  · refine List.mem_cons_of_mem _ (List.mem_filter.mpr ⟨?_, ?_⟩)
    · have h6 := zl_of (i := 0) h4
      rw [Nat.zero_add, ← h1] at h6
      exact h6
    · rw [h1]
      by_cases h9 : j + 1 = i
      · simp [h3, h7, h5 h9]
      · simp [h3, h7, h9]
def zldi (pc : Nat) (ls : zL) (st : List Value) : Option (Option Value) → Option zF
  | some (some (.int x)) => some (pc, ls, .int x :: st)
  | _ => none
def zldl (pc : Nat) (ls : zL) (st : List Value) : Option (Option Value) → Option zF
  | some (some (.long x)) => some (pc, ls, .long x :: st)
  | _ => none
def zldd (pc : Nat) (ls : zL) (st : List Value) : Option (Option Value) → Option zF
  | some (some (.double x)) => some (pc, ls, .double x :: st)
  | _ => none
def zlda (pc : Nat) (ls : zL) (st : List Value) : Option (Option Value) → Option zF
  | some (some (.ref x)) => some (pc, ls, .ref x :: st)
  | some (some .null) => some (pc, ls, .null :: st)
  | _ => none
def zsti (pc : Nat) (ls : zL) (i : Nat) : List Value → Option zF
  | .int x :: r => if i < ls.length then some (pc, zs1 ls i (.int x), r) else none
  | _ => none
def zsta (pc : Nat) (ls : zL) (i : Nat) : List Value → Option zF
  | .ref x :: r => if i < ls.length then some (pc, zs1 ls i (.ref x), r) else none
  | .null :: r => if i < ls.length then some (pc, zs1 ls i .null, r) else none
  | _ => none
def zstl (pc : Nat) (ls : zL) (i : Nat) : List Value → Option zF
  | .long x :: r => if i + 1 < ls.length then some (pc, zs2 ls i (.long x), r) else none
  | _ => none
def zstd (pc : Nat) (ls : zL) (i : Nat) : List Value → Option zF
  | .double x :: r => if i + 1 < ls.length then some (pc, zs2 ls i (.double x), r) else none
  | _ => none
def zinc (pc : Nat) (ls : zL) (i : Nat) (imm : Int32) (st : List Value) : Option (Option Value) → Option zF
  | some (some (.int x)) => if i < ls.length then some (pc, zs1 ls i (.int (x + imm)), st) else none
  | _ => none
def zb (pc : Nat) (ls : zL) (f : Int32 → Int32 → Int32) : List Value → Option zF
  | .int y :: .int x :: r => some (pc, ls, .int (f x y) :: r)
  | _ => none
def zbd (pc : Nat) (ls : zL) (f : Int32 → Int32 → Int32) : List Value → Option zF
  | .int y :: .int x :: r => if y = 0 then none else some (pc, ls, .int (f x y) :: r)
  | _ => none
def zbl (pc : Nat) (ls : zL) (f : Int64 → Int64 → Int64) : List Value → Option zF
  | .long y :: .long x :: r => some (pc, ls, .long (f x y) :: r)
  | _ => none
def zbs (pc : Nat) (ls : zL) (f : Int64 → Int32 → Int64) : List Value → Option zF
  | .int y :: .long x :: r => some (pc, ls, .long (f x y) :: r)
  | _ => none
def zu (pc : Nat) (ls : zL) (f : Int32 → Int32) : List Value → Option zF
  | .int x :: r => some (pc, ls, .int (f x) :: r)
  | _ => none
def zv1 : Value → Bool
  | .long _ => false
  | .double _ => false
  | _ => true
theorem zv1_cat {v : Value} (h : zv1 v = true) : v.category = 1 := by
  cases v <;> first | rfl | (simp [zv1] at h; done)
def zpeff (ins : Instr) (imm : Int32) (tgt pc : Nat) (ls : zL) (st : List Value) : Option zF :=
  match ins with
  | .aconst_null => some (pc + 1, ls, .null :: st)
  | .iconst _ => some (pc + 1, ls, .int imm :: st)
  | .bipush _ => some (pc + 2, ls, .int imm :: st)
  | .sipush _ => some (pc + 3, ls, .int imm :: st)
  | .lconst n => some (pc + 1, ls, .long (Int64.ofNat (n : Nat)) :: st)
  | .dconst n => if n = 0 then some (pc + 1, ls, .double FP.dconst0 :: st) else none
  | .iload i => zldi (pc + 2) ls st ls[i]?
  | .iload_n i => zldi (pc + 1) ls st ls[(i : Nat)]?
  | .lload i => zldl (pc + 2) ls st ls[i]?
  | .lload_n i => zldl (pc + 1) ls st ls[(i : Nat)]?
  | .dload i => zldd (pc + 2) ls st ls[i]?
  | .dload_n i => zldd (pc + 1) ls st ls[(i : Nat)]?
  | .aload i => zlda (pc + 2) ls st ls[i]?
  | .aload_n i => zlda (pc + 1) ls st ls[(i : Nat)]?
  | .istore i => zsti (pc + 2) ls i st
  | .istore_n i => zsti (pc + 1) ls (i : Nat) st
  | .lstore i => zstl (pc + 2) ls i st
  | .lstore_n i => zstl (pc + 1) ls (i : Nat) st
  | .dstore i => zstd (pc + 2) ls i st
  | .dstore_n i => zstd (pc + 1) ls (i : Nat) st
  | .astore i => zsta (pc + 2) ls i st
  | .astore_n i => zsta (pc + 1) ls (i : Nat) st
  | .iinc i _ => zinc (pc + 3) ls i imm st ls[i]?
  | .iadd => zb (pc + 1) ls (fun x y => x + y) st
  | .isub => zb (pc + 1) ls (fun x y => x - y) st
  | .imul => zb (pc + 1) ls (fun x y => x * y) st
  | .iand => zb (pc + 1) ls (fun x y => x &&& y) st
  | .ior => zb (pc + 1) ls (fun x y => x ||| y) st
  | .ixor => zb (pc + 1) ls (fun x y => x ^^^ y) st
  | .ishl => zb (pc + 1) ls (fun x y => x <<< (y &&& 31)) st
  | .ishr => zb (pc + 1) ls (fun x y => x >>> (y &&& 31)) st
  | .idiv => zbd (pc + 1) ls (fun x y => x / y) st
  | .irem => zbd (pc + 1) ls (fun x y => x % y) st
  | .ladd => zbl (pc + 1) ls (fun x y => x + y) st
  | .lsub => zbl (pc + 1) ls (fun x y => x - y) st
  | .land => zbl (pc + 1) ls (fun x y => x &&& y) st
  | .lor => zbl (pc + 1) ls (fun x y => x ||| y) st
  | .lxor => zbl (pc + 1) ls (fun x y => x ^^^ y) st
  | .lmul => zbl (pc + 1) ls (fun x y => x * y) st
  | .lshl => zbs (pc + 1) ls (fun x y => x <<< (y.toInt64 &&& 63)) st
  | .lshr => zbs (pc + 1) ls (fun x y => x >>> (y.toInt64 &&& 63)) st
  | .lushr => zbs (pc + 1) ls (fun x y => (x.toUInt64 >>> (y.toInt64.toUInt64 &&& Int64.toUInt64 63)).toInt64) st
  | .ineg => zu (pc + 1) ls (fun x => -x) st
  | .i2c => zu (pc + 1) ls (fun x => (x.toUInt32 % 65536).toInt32) st
  | .i2l => match st with
    | .int x :: r => some (pc + 1, ls, .long x.toInt64 :: r)
    | _ => none
  | .l2i => match st with
    | .long x :: r => some (pc + 1, ls, .int x.toInt32 :: r)
    | _ => none
  | .i2d => match st with
    | .int x :: r => some (pc + 1, ls, .double (FP.i2d x) :: r)
    | _ => none
  | .lcmp => match st with
    | .long y :: .long x :: r => some (pc + 1, ls, .int (lg_cmp x y) :: r)
    | _ => none
  | .dcmp op => match st with
    | .double y :: .double x :: r => some (pc + 1, ls, .int (Op.cmpValue (FP.dcmp x y) op) :: r)
    | _ => none
  | .dup => match st with
    | v :: r => if zv1 v then some (pc + 1, ls, v :: v :: r) else none
    | _ => none
  | .pop => match st with
    | v :: r => if zv1 v then some (pc + 1, ls, r) else none
    | _ => none
  | .dup2 => match st with
    | v :: w :: r => if zv1 v && zv1 w then some (pc + 1, ls, v :: w :: v :: w :: r) else none
    | _ => none
  | .goto _ => some (tgt, ls, st)
  | .ifnull _ => match st with
    | .null :: r => some (tgt, ls, r)
    | .ref _ :: r => some (pc + 3, ls, r)
    | _ => none
  | .ifnonnull _ => match st with
    | .null :: r => some (pc + 3, ls, r)
    | .ref _ :: r => some (tgt, ls, r)
    | _ => none
  | _ => none
/-- a branch: what it asks, and the stack behind it -/
def zbr (ins : Instr) (st : List Value) : Option (Prop × List Value) :=
  match ins with
  | .ifCond op _ => match st with
    | .int x :: r => match op with
      | .eq => some (x = 0, r)
      | .ne => some (¬ x = 0, r)
      | .lt => some (x < 0, r)
      | .ge => some (0 ≤ x, r)
      | .gt => some (0 < x, r)
      | .le => some (x ≤ 0, r)
    | _ => none
  | .if_icmp op _ => match st with
    | .int y :: .int x :: r => match op with
      | .eq => some (x = y, r)
      | .ne => some (¬ x = y, r)
      | .lt => some (x < y, r)
      | .ge => some (y ≤ x, r)
      | .gt => some (y < x, r)
      | .le => some (x ≤ y, r)
    | _ => none
  | _ => none
/-- a row of a method's table: pc, instruction, its length, its small number, its target -/
abbrev zI : Type := Nat × Instr × Nat × Int32 × Nat
def zok (pc : Nat) (ins : Instr) (len : Nat) (imm : Int32) (tgt : Nat) : Bool :=
  match ins with
  | .iconst n => len == 1 && imm == Int32.ofInt n
  | .bipush n => len == 2 && imm == (Int8.ofInt n).toInt32
  | .sipush n => len == 3 && imm == (Int16.ofInt n).toInt32
  | .iinc _ n => len == 3 && imm == Int32.ofInt n
  | .goto off => len == 3 && (pc : Int) + off == (tgt : Int)
  | .ifCond _ off => len == 3 && (pc : Int) + off == (tgt : Int)
  | .if_icmp _ off => len == 3 && (pc : Int) + off == (tgt : Int)
  | .ifnull off => len == 3 && (pc : Int) + off == (tgt : Int)
  | .ifnonnull off => len == 3 && (pc : Int) + off == (tgt : Int)
  | .iload _ => len == 2
  | .lload _ => len == 2
  | .dload _ => len == 2
  | .aload _ => len == 2
  | .istore _ => len == 2
  | .lstore _ => len == 2
  | .dstore _ => len == 2
  | .astore _ => len == 2
  | .getfield _ => len == 3
  | .putfield _ => len == 3
  | .getstatic _ => len == 3
  | .invokevirtual _ => len == 3
  | .invokespecial _ => len == 3
  | .invokestatic _ => len == 3
  | .new _ => len == 3
  | .anewarray _ => len == 3
  | .newarray _ => len == 2
  | .ldc _ => len == 2
  | .ldc_w _ => len == 3
  | .ldc2_w _ => len == 3
  | .tableswitch _ _ _ _ => true
  | _ => len == 1
/-- the table speaks of the code -/
def zT (cc : ByteArray) (t : List zI) : Prop := ∀ e ∈ t, decode cc e.1 = .ok (e.2.1, e.2.2.1) ∧ zok e.1 e.2.1 e.2.2.1 e.2.2.2.1 e.2.2.2.2 = true
theorem zlk {β : Type} {t : List (Nat × β)} {k : Nat} {b : β} (h : t.lookup k = some b) : (k, b) ∈ t := by
  induction t with
  | nil => cases h
  | cons a t ih =>
    obtain ⟨a1, a2⟩ := a
    rw [List.lookup_cons] at h
    by_cases he : (k == a1) = true
    · rw [he] at h
      have h1 : a2 = b := by simpa using h
      rw [eq_of_beq he, h1]
      exact List.mem_cons_self
    · rw [Bool.not_eq_true] at he
      rw [he] at h
      exact List.mem_cons_of_mem _ (ih (by simpa using h))
theorem zT_at {cc : ByteArray} {t : List zI} (h : zT cc t) {pc : Nat} {r : Instr × Nat × Int32 × Nat} (hl : t.lookup pc = some r) : decode cc pc = .ok (r.1, r.2.1) ∧ zok pc r.1 r.2.1 r.2.2.1 r.2.2.2 = true := h (pc, r) (zlk hl)
/-- n pure steps -/
def zrun (t : List zI) : Nat → zF → Option zF
  | 0, c => some c
  | n + 1, (pc, ls, st) => match t.lookup pc with
    | some (ins, _, imm, tgt) => match zpeff ins imm tgt pc ls st with
      | some c => zrun t n c
      | none => none
    | none => none
section ZP
variable {p : Program} {l : Launch} {e : Env} {R : Room} {s : State} {m : MethodId} {args : Array Value} {below : List Frame} {meth : Method} {c : Code} {H : Heap} {locs : List Loc} {cells slots : Nat} {Q : State → Prop}
/-- W at every locals array that holds ls -/
def zW (p : Program) (l : Launch) (e : Env) (R : Room) (s : State) (m : MethodId) (args : Array Value) (below : List Frame) (meth : Method) (c : Code) (H : Heap) (locs : List Loc) (cells slots : Nat) (Q : State → Prop) (f : zF) : Prop :=
  ∀ la : Array Slot, zl_has la f.2.1 → W p l e R s m args below meth c H locs cells slots Q (F0 m f.1 la f.2.2)
theorem zldi_i {pc : Nat} {ls : zL} {st : List Value} {o : Option (Option Value)} {f : zF} (h : zldi pc ls st o = some f) : ∃ x, o = some (some (.int x)) ∧ f = (pc, ls, .int x :: st) := by
  unfold zldi at h
  split at h
  · cases h; exact ⟨_, rfl, rfl⟩
  · cases h
theorem zldl_i {pc : Nat} {ls : zL} {st : List Value} {o : Option (Option Value)} {f : zF} (h : zldl pc ls st o = some f) : ∃ x, o = some (some (.long x)) ∧ f = (pc, ls, .long x :: st) := by
  unfold zldl at h
  split at h
  · cases h; exact ⟨_, rfl, rfl⟩
  · cases h
theorem zldd_i {pc : Nat} {ls : zL} {st : List Value} {o : Option (Option Value)} {f : zF} (h : zldd pc ls st o = some f) : ∃ x, o = some (some (.double x)) ∧ f = (pc, ls, .double x :: st) := by
  unfold zldd at h
  split at h
  · cases h; exact ⟨_, rfl, rfl⟩
  · cases h
theorem zlda_i {pc : Nat} {ls : zL} {st : List Value} {o : Option (Option Value)} {f : zF} (h : zlda pc ls st o = some f) : (∃ x, o = some (some (.ref x)) ∧ f = (pc, ls, .ref x :: st)) ∨ (o = some (some .null) ∧ f = (pc, ls, .null :: st)) := by
  unfold zlda at h
  split at h
  · cases h; exact Or.inl ⟨_, rfl, rfl⟩
  · cases h; exact Or.inr ⟨rfl, rfl⟩
  · cases h
theorem zsti_i {pc : Nat} {ls : zL} {i : Nat} {st : List Value} {f : zF} (h : zsti pc ls i st = some f) : ∃ x r, st = .int x :: r ∧ i < ls.length ∧ f = (pc, zs1 ls i (.int x), r) := by
  unfold zsti at h
  split at h
  · split at h
    · cases h; exact ⟨_, _, rfl, by assumption, rfl⟩
    · cases h
  · cases h
theorem zsta_i {pc : Nat} {ls : zL} {i : Nat} {st : List Value} {f : zF} (h : zsta pc ls i st = some f) : (∃ x r, st = .ref x :: r ∧ i < ls.length ∧ f = (pc, zs1 ls i (.ref x), r)) ∨ (∃ r, st = .null :: r ∧ i < ls.length ∧ f = (pc, zs1 ls i .null, r)) := by
  unfold zsta at h
  split at h
  · split at h
    · cases h; exact Or.inl ⟨_, _, rfl, by assumption, rfl⟩
    · cases h
  · split at h
    · cases h; exact Or.inr ⟨_, rfl, by assumption, rfl⟩
    · cases h
  · cases h
theorem zstl_i {pc : Nat} {ls : zL} {i : Nat} {st : List Value} {f : zF} (h : zstl pc ls i st = some f) : ∃ x r, st = .long x :: r ∧ i + 1 < ls.length ∧ f = (pc, zs2 ls i (.long x), r) := by
  unfold zstl at h
  split at h
  · split at h
    · cases h; exact ⟨_, _, rfl, by assumption, rfl⟩
    · cases h
  · cases h
theorem zstd_i {pc : Nat} {ls : zL} {i : Nat} {st : List Value} {f : zF} (h : zstd pc ls i st = some f) : ∃ x r, st = .double x :: r ∧ i + 1 < ls.length ∧ f = (pc, zs2 ls i (.double x), r) := by
  unfold zstd at h
  split at h
  · split at h
    · cases h; exact ⟨_, _, rfl, by assumption, rfl⟩
    · cases h
  · cases h
theorem zinc_i {pc : Nat} {ls : zL} {i : Nat} {imm : Int32} {st : List Value} {o : Option (Option Value)} {f : zF} (h : zinc pc ls i imm st o = some f) : ∃ x, o = some (some (.int x)) ∧ i < ls.length ∧ f = (pc, zs1 ls i (.int (x + imm)), st) := by
  unfold zinc at h
  split at h
  · split at h
    · cases h; exact ⟨_, rfl, by assumption, rfl⟩
    · cases h
  · cases h
theorem zb_i {pc : Nat} {ls : zL} {g : Int32 → Int32 → Int32} {st : List Value} {f : zF} (h : zb pc ls g st = some f) : ∃ x y r, st = .int y :: .int x :: r ∧ f = (pc, ls, .int (g x y) :: r) := by
  unfold zb at h
  split at h
  · cases h; exact ⟨_, _, _, rfl, rfl⟩
  · cases h
theorem zbd_i {pc : Nat} {ls : zL} {g : Int32 → Int32 → Int32} {st : List Value} {f : zF} (h : zbd pc ls g st = some f) : ∃ x y r, st = .int y :: .int x :: r ∧ ¬ y = 0 ∧ f = (pc, ls, .int (g x y) :: r) := by
  unfold zbd at h
  split at h
  · split at h
    · cases h
    · cases h; exact ⟨_, _, _, rfl, by assumption, rfl⟩
  · cases h
theorem zbl_i {pc : Nat} {ls : zL} {g : Int64 → Int64 → Int64} {st : List Value} {f : zF} (h : zbl pc ls g st = some f) : ∃ x y r, st = .long y :: .long x :: r ∧ f = (pc, ls, .long (g x y) :: r) := by
  unfold zbl at h
  split at h
  · cases h; exact ⟨_, _, _, rfl, rfl⟩
  · cases h
theorem zbs_i {pc : Nat} {ls : zL} {g : Int64 → Int32 → Int64} {st : List Value} {f : zF} (h : zbs pc ls g st = some f) : ∃ x y r, st = .int y :: .long x :: r ∧ f = (pc, ls, .long (g x y) :: r) := by
  unfold zbs at h
  split at h
  · cases h; exact ⟨_, _, _, rfl, rfl⟩
  · cases h
theorem zu_i {pc : Nat} {ls : zL} {g : Int32 → Int32} {st : List Value} {f : zF} (h : zu pc ls g st = some f) : ∃ x r, st = .int x :: r ∧ f = (pc, ls, .int (g x) :: r) := by
  unfold zu at h
  split at h
  · cases h; exact ⟨_, _, rfl, rfl⟩
  · cases h
set_option maxHeartbeats 4000000 in
theorem zpeff_ok (hx : p.tables.exec = Jvm.exec) {cc : ByteArray} (hb : c.code = cc) {pc : Nat} {ins : Instr} {len tgt : Nat} {imm : Int32} {ls : zL} {st : List Value} {f : zF} (hd : decode cc pc = .ok (ins, len)) (ho : zok pc ins len imm tgt = true) (hf : zpeff ins imm tgt pc ls st = some f) (k : zW p l e R s m args below meth c H locs cells slots Q f) : zW p l e R s m args below meth c H locs cells slots Q (pc, ls, st) := by
  intro la hl
  show W p l e R s m args below meth c H locs cells slots Q (F0 m pc la st)
  cases ins <;> (unfold zpeff at hf; dsimp only at hf; unfold zok at ho; dsimp only at ho) <;> try (cases hf; done)
  case aconst_null =>
    simp only [beq_iff_eq, Bool.and_eq_true] at ho
    subst ho
    cases hf
    exact lv_null hx hb hd (k la hl)
  case iconst n =>
    simp only [beq_iff_eq, Bool.and_eq_true] at ho
    obtain ⟨rfl, ho⟩ := ho
    cases hf
    exact lv_iconst hx hb hd ho.symm (k la hl)
  case bipush n =>
    simp only [beq_iff_eq, Bool.and_eq_true] at ho
    obtain ⟨rfl, ho⟩ := ho
    cases hf
    exact lv_bipush hx hb hd ho.symm (k la hl)
  case sipush n =>
    simp only [beq_iff_eq, Bool.and_eq_true] at ho
    obtain ⟨rfl, ho⟩ := ho
    cases hf
    exact lv_sipush hx hb hd ho.symm (k la hl)
  case lconst n =>
    simp only [beq_iff_eq, Bool.and_eq_true] at ho
    subst ho
    cases hf
    exact lv_lconst hx hb hd rfl (k la hl)
  case dconst n =>
    simp only [beq_iff_eq, Bool.and_eq_true] at ho
    subst ho
    split at hf
    · next h0 =>
      subst h0
      cases hf
      exact lv_dconst0 hx hb hd (k la hl)
    · cases hf
  case iload i =>
    simp only [beq_iff_eq, Bool.and_eq_true] at ho
    subst ho
    obtain ⟨x, h1, rfl⟩ := zldi_i hf
    exact lv_iload hx hb hd (zl_get hl h1) (k la hl)
  case iload_n i =>
    simp only [beq_iff_eq, Bool.and_eq_true] at ho
    subst ho
    obtain ⟨x, h1, rfl⟩ := zldi_i hf
    exact lv_iload_n hx hb hd rfl (zl_get hl h1) (k la hl)
  case lload i =>
    simp only [beq_iff_eq, Bool.and_eq_true] at ho
    subst ho
    obtain ⟨x, h1, rfl⟩ := zldl_i hf
    exact lv_lload hx hb hd (zl_get hl h1) (k la hl)
  case lload_n i =>
    simp only [beq_iff_eq, Bool.and_eq_true] at ho
    subst ho
    obtain ⟨x, h1, rfl⟩ := zldl_i hf
    exact lv_lload_n hx hb hd rfl (zl_get hl h1) (k la hl)
  case dload i =>
    simp only [beq_iff_eq, Bool.and_eq_true] at ho
    subst ho
    obtain ⟨x, h1, rfl⟩ := zldd_i hf
    exact lv_dload hx hb hd (zl_get hl h1) (k la hl)
  case dload_n i =>
    simp only [beq_iff_eq, Bool.and_eq_true] at ho
    subst ho
    obtain ⟨x, h1, rfl⟩ := zldd_i hf
    exact lv_dload_n hx hb hd rfl (zl_get hl h1) (k la hl)
  case aload i =>
    simp only [beq_iff_eq, Bool.and_eq_true] at ho
    subst ho
    rcases zlda_i hf with ⟨x, h1, rfl⟩ | ⟨h1, rfl⟩
    · exact lv_aload hx hb hd (zl_get hl h1) (k la hl)
    · exact lv_aloadN hx hb hd (zl_get hl h1) (k la hl)
  case aload_n i =>
    simp only [beq_iff_eq, Bool.and_eq_true] at ho
    subst ho
    rcases zlda_i hf with ⟨x, h1, rfl⟩ | ⟨h1, rfl⟩
    · exact lv_aload_n hx hb hd rfl (zl_get hl h1) (k la hl)
    · exact lv_aload_nN hx hb hd rfl (zl_get hl h1) (k la hl)
  case istore i =>
    simp only [beq_iff_eq, Bool.and_eq_true] at ho
    subst ho
    obtain ⟨x, r, rfl, h1, rfl⟩ := zsti_i hf
    exact lv_istore hx hb hd hl h1 rfl (fun la2 h2 => k la2 (zs1_has h2))
  case istore_n i =>
    simp only [beq_iff_eq, Bool.and_eq_true] at ho
    subst ho
    obtain ⟨x, r, rfl, h1, rfl⟩ := zsti_i hf
    exact lv_istore_n hx hb hd rfl hl h1 rfl (fun la2 h2 => k la2 (zs1_has h2))
  case lstore i =>
    simp only [beq_iff_eq, Bool.and_eq_true] at ho
    subst ho
    obtain ⟨x, r, rfl, h1, rfl⟩ := zstl_i hf
    exact lv_lstore hx hb hd hl h1 rfl (fun la2 h2 => k la2 (zs2_has h1 h2))
  case lstore_n i =>
    simp only [beq_iff_eq, Bool.and_eq_true] at ho
    subst ho
    obtain ⟨x, r, rfl, h1, rfl⟩ := zstl_i hf
    exact lv_lstore_n hx hb hd rfl hl h1 rfl (fun la2 h2 => k la2 (zs2_has h1 h2))
  case dstore i =>
    simp only [beq_iff_eq, Bool.and_eq_true] at ho
    subst ho
    obtain ⟨x, r, rfl, h1, rfl⟩ := zstd_i hf
    exact lv_dstore hx hb hd hl h1 rfl (fun la2 h2 => k la2 (zs2_has h1 h2))
  case dstore_n i =>
    simp only [beq_iff_eq, Bool.and_eq_true] at ho
    subst ho
    obtain ⟨x, r, rfl, h1, rfl⟩ := zstd_i hf
    exact lv_dstore_n hx hb hd rfl hl h1 rfl (fun la2 h2 => k la2 (zs2_has h1 h2))
  case astore i =>
    simp only [beq_iff_eq, Bool.and_eq_true] at ho
    subst ho
    rcases zsta_i hf with ⟨x, r, rfl, h1, rfl⟩ | ⟨r, rfl, h1, rfl⟩
    · exact lv_astore hx hb hd hl h1 rfl (fun la2 h2 => k la2 (zs1_has h2))
    · exact lv_astoreN hx hb hd hl h1 rfl (fun la2 h2 => k la2 (zs1_has h2))
  case astore_n i =>
    simp only [beq_iff_eq, Bool.and_eq_true] at ho
    subst ho
    rcases zsta_i hf with ⟨x, r, rfl, h1, rfl⟩ | ⟨r, rfl, h1, rfl⟩
    · exact lv_astore_n hx hb hd rfl hl h1 rfl (fun la2 h2 => k la2 (zs1_has h2))
    · exact lv_astore_nN hx hb hd rfl hl h1 rfl (fun la2 h2 => k la2 (zs1_has h2))
  case iinc i n =>
    simp only [beq_iff_eq, Bool.and_eq_true] at ho
    obtain ⟨rfl, ho⟩ := ho
    obtain ⟨x, h1, h2, rfl⟩ := zinc_i hf
    have h3 := zl_of (i := 0) h1
    rw [Nat.zero_add] at h3
    obtain ⟨j, h4⟩ := List.getElem?_of_mem h3
    exact lv_iinc hx hb hd hl h4 (by rw [ho]) h2 rfl (fun la2 h2 => k la2 (zs1_has h2))
  case iadd =>
    simp only [beq_iff_eq, Bool.and_eq_true] at ho
    subst ho
    obtain ⟨x, y, r, rfl, rfl⟩ := zb_i hf
    exact lv_iadd hx hb hd (k la hl)
  case isub =>
    simp only [beq_iff_eq, Bool.and_eq_true] at ho
    subst ho
    obtain ⟨x, y, r, rfl, rfl⟩ := zb_i hf
    exact lv_isub hx hb hd (k la hl)
  case imul =>
    simp only [beq_iff_eq, Bool.and_eq_true] at ho
    subst ho
    obtain ⟨x, y, r, rfl, rfl⟩ := zb_i hf
    exact lv_imul hx hb hd (k la hl)
  case iand =>
    simp only [beq_iff_eq, Bool.and_eq_true] at ho
    subst ho
    obtain ⟨x, y, r, rfl, rfl⟩ := zb_i hf
    exact lv_iand hx hb hd (k la hl)
  case ior =>
    simp only [beq_iff_eq, Bool.and_eq_true] at ho
    subst ho
    obtain ⟨x, y, r, rfl, rfl⟩ := zb_i hf
    exact lv_ior hx hb hd (k la hl)
  case ixor =>
    simp only [beq_iff_eq, Bool.and_eq_true] at ho
    subst ho
    obtain ⟨x, y, r, rfl, rfl⟩ := zb_i hf
    exact lv_ixor hx hb hd (k la hl)
  case ishl =>
    simp only [beq_iff_eq, Bool.and_eq_true] at ho
    subst ho
    obtain ⟨x, y, r, rfl, rfl⟩ := zb_i hf
    exact lv_ishl hx hb hd (k la hl)
  case ishr =>
    simp only [beq_iff_eq, Bool.and_eq_true] at ho
    subst ho
    obtain ⟨x, y, r, rfl, rfl⟩ := zb_i hf
    exact lv_ishr hx hb hd (k la hl)
  case idiv =>
    simp only [beq_iff_eq, Bool.and_eq_true] at ho
    subst ho
    obtain ⟨x, y, r, rfl, h0, rfl⟩ := zbd_i hf
    exact lv_idiv hx hb hd h0 (k la hl)
  case irem =>
    simp only [beq_iff_eq, Bool.and_eq_true] at ho
    subst ho
    obtain ⟨x, y, r, rfl, h0, rfl⟩ := zbd_i hf
    refine lv_irem hx hb hd h0 ?_
    have k2 := k la hl
    dsimp only at k2
    rw [← irem_eq_mod] at k2
    exact k2
  case ladd =>
    simp only [beq_iff_eq, Bool.and_eq_true] at ho
    subst ho
    obtain ⟨x, y, r, rfl, rfl⟩ := zbl_i hf
    exact lv_ladd hx hb hd (k la hl)
  case lsub =>
    simp only [beq_iff_eq, Bool.and_eq_true] at ho
    subst ho
    obtain ⟨x, y, r, rfl, rfl⟩ := zbl_i hf
    exact lv_lsub hx hb hd (k la hl)
  case land =>
    simp only [beq_iff_eq, Bool.and_eq_true] at ho
    subst ho
    obtain ⟨x, y, r, rfl, rfl⟩ := zbl_i hf
    exact lv_land hx hb hd (k la hl)
  case lor =>
    simp only [beq_iff_eq, Bool.and_eq_true] at ho
    subst ho
    obtain ⟨x, y, r, rfl, rfl⟩ := zbl_i hf
    exact lv_lor hx hb hd (k la hl)
  case lxor =>
    simp only [beq_iff_eq, Bool.and_eq_true] at ho
    subst ho
    obtain ⟨x, y, r, rfl, rfl⟩ := zbl_i hf
    exact lv_lxor hx hb hd (k la hl)
  case lmul =>
    simp only [beq_iff_eq, Bool.and_eq_true] at ho
    subst ho
    obtain ⟨x, y, r, rfl, rfl⟩ := zbl_i hf
    exact lv_lmul hx hb hd (k la hl)
  case lshl =>
    simp only [beq_iff_eq, Bool.and_eq_true] at ho
    subst ho
    obtain ⟨x, y, r, rfl, rfl⟩ := zbs_i hf
    exact lv_lshl hx hb hd rfl (k la hl)
  case lshr =>
    simp only [beq_iff_eq, Bool.and_eq_true] at ho
    subst ho
    obtain ⟨x, y, r, rfl, rfl⟩ := zbs_i hf
    exact lv_lshr hx hb hd rfl (k la hl)
  case lushr =>
    simp only [beq_iff_eq, Bool.and_eq_true] at ho
    subst ho
    obtain ⟨x, y, r, rfl, rfl⟩ := zbs_i hf
    exact lv_lushr hx hb hd rfl (k la hl)
  case ineg =>
    simp only [beq_iff_eq, Bool.and_eq_true] at ho
    subst ho
    obtain ⟨x, r, rfl, rfl⟩ := zu_i hf
    exact lv_ineg hx hb hd (k la hl)
  case i2c =>
    simp only [beq_iff_eq, Bool.and_eq_true] at ho
    subst ho
    obtain ⟨x, r, rfl, rfl⟩ := zu_i hf
    exact lv_i2c hx hb hd rfl (k la hl)
  case i2l =>
    simp only [beq_iff_eq, Bool.and_eq_true] at ho
    subst ho
    split at hf
    · cases hf; exact lv_i2l hx hb hd rfl (k la hl)
    · cases hf
  case l2i =>
    simp only [beq_iff_eq, Bool.and_eq_true] at ho
    subst ho
    split at hf
    · cases hf; exact lv_l2i hx hb hd rfl (k la hl)
    · cases hf
  case i2d =>
    simp only [beq_iff_eq, Bool.and_eq_true] at ho
    subst ho
    split at hf
    · cases hf; exact lv_i2d hx hb hd (k la hl)
    · cases hf
  case lcmp =>
    simp only [beq_iff_eq, Bool.and_eq_true] at ho
    subst ho
    split at hf
    · cases hf; exact W.lcmp hx hb hd (k la hl)
    · cases hf
  case dcmp op =>
    simp only [beq_iff_eq, Bool.and_eq_true] at ho
    subst ho
    split at hf
    · cases hf; exact lv_dcmp hx hb hd (k la hl)
    · cases hf
  case dup =>
    simp only [beq_iff_eq, Bool.and_eq_true] at ho
    subst ho
    split at hf
    · split at hf
      · next h1 => cases hf; exact lv_dup hx hb hd (zv1_cat h1) (k la hl)
      · cases hf
    · cases hf
  case pop =>
    simp only [beq_iff_eq, Bool.and_eq_true] at ho
    subst ho
    split at hf
    · split at hf
      · next h1 => cases hf; exact lv_pop hx hb hd (zv1_cat h1) (k la hl)
      · cases hf
    · cases hf
  case dup2 =>
    simp only [beq_iff_eq, Bool.and_eq_true] at ho
    subst ho
    split at hf
    · split at hf
      · next h1 =>
        rw [Bool.and_eq_true] at h1
        cases hf
        exact lv_dup2_11 hx hb hd (zv1_cat h1.1) (zv1_cat h1.2) (k la hl)
      · cases hf
    · cases hf
  case goto off =>
    simp only [beq_iff_eq, Bool.and_eq_true] at ho
    obtain ⟨rfl, ho⟩ := ho
    cases hf
    exact lv_goto hx hb hd ho (k la hl)
  case ifnull off =>
    simp only [beq_iff_eq, Bool.and_eq_true] at ho
    obtain ⟨rfl, ho⟩ := ho
    split at hf
    · cases hf; exact lv_ifnullN hx hb hd ho (k la hl)
    · cases hf; exact lv_ifnull hx hb hd (k la hl)
    · cases hf
  case ifnonnull off =>
    simp only [beq_iff_eq, Bool.and_eq_true] at ho
    obtain ⟨rfl, ho⟩ := ho
    split at hf
    · cases hf; exact lv_ifnonnullN hx hb hd (k la hl)
    · cases hf; exact lv_ifnonnull hx hb hd ho (k la hl)
    · cases hf
theorem zrun_ok (hx : p.tables.exec = Jvm.exec) {cc : ByteArray} (hb : c.code = cc) {t : List zI} (ht : zT cc t) : ∀ (n : Nat) (f f2 : zF), zrun t n f = some f2 → zW p l e R s m args below meth c H locs cells slots Q f2 → zW p l e R s m args below meth c H locs cells slots Q f := by
  intro n
  induction n with
  | zero =>
    intro f f2 h k
    cases h
    exact k
  | succ n ih =>
    intro f f2 h k
    obtain ⟨pc, ls, st⟩ := f
    unfold zrun at h
    split at h
    · next ins len imm tgt hl =>
      obtain ⟨h1, h2⟩ := zT_at ht hl
      split at h
      · next f3 h3 => exact zpeff_ok hx hb h1 h2 h3 (ih f3 f2 h k)
      · cases h
    · cases h
set_option maxHeartbeats 4000000 in
theorem zbr_ok (hx : p.tables.exec = Jvm.exec) {cc : ByteArray} (hb : c.code = cc) {t : List zI} (ht : zT cc t) {pc : Nat} {ins : Instr} {len tgt : Nat} {imm : Int32} {ls : zL} {st r : List Value} {P : Prop} (hl : t.lookup pc = some (ins, len, imm, tgt)) (hf : zbr ins st = some (P, r)) (kt : P → zW p l e R s m args below meth c H locs cells slots Q (tgt, ls, r)) (kf : ¬ P → zW p l e R s m args below meth c H locs cells slots Q (pc + 3, ls, r)) : zW p l e R s m args below meth c H locs cells slots Q (pc, ls, st) := by
  obtain ⟨hd, ho⟩ := zT_at ht hl
  dsimp only at hd ho
  intro la hla
  show W p l e R s m args below meth c H locs cells slots Q (F0 m pc la st)
  cases ins <;> (unfold zbr at hf; dsimp only at hf; unfold zok at ho; dsimp only at ho) <;> try (cases hf; done)
  case ifCond op off =>
    simp only [beq_iff_eq, Bool.and_eq_true] at ho
    obtain ⟨rfl, ho⟩ := ho
    split at hf
    · cases op <;> (dsimp only at hf; cases hf)
      · exact lv_if_eq hx hb hd ho (fun q => kt q la hla) (fun q => kf q la hla)
      · exact lv_if_ne hx hb hd ho (fun q => kt q la hla) (fun q => kf (fun z => z q) la hla)
      · exact lv_if_lt hx hb hd ho (fun q => kt q la hla) (fun q => kf q la hla)
      · exact lv_if_ge hx hb hd ho (fun q => kt q la hla) (fun q => kf q la hla)
      · exact lv_if_gt hx hb hd ho (fun q => kt q la hla) (fun q => kf q la hla)
      · exact lv_if_le hx hb hd ho (fun q => kt q la hla) (fun q => kf q la hla)
    · cases hf
  case if_icmp op off =>
    simp only [beq_iff_eq, Bool.and_eq_true] at ho
    obtain ⟨rfl, ho⟩ := ho
    split at hf
    · cases op <;> (dsimp only at hf; cases hf)
      · exact lv_icmp_eq hx hb hd ho (fun q => kt q la hla) (fun q => kf q la hla)
      · exact lv_icmp_ne hx hb hd ho (fun q => kt q la hla) (fun q => kf (fun z => z q) la hla)
      · exact lv_icmp_lt hx hb hd ho (fun q => kt q la hla) (fun q => kf q la hla)
      · exact lv_icmp_ge hx hb hd ho (fun q => kt q la hla) (fun q => kf q la hla)
      · exact lv_icmp_gt hx hb hd ho (fun q => kt q la hla) (fun q => kf q la hla)
      · exact lv_icmp_le hx hb hd ho (fun q => kt q la hla) (fun q => kf q la hla)
    · cases hf
end ZP
end
section
/-! ===== names: classes, methods, their tables, their words (by program out of the Statement and the printed names) ===== -/
def zWs : List Cond := lw_tbl.filter goodWord
theorem zmem {w : Cond} (i : Nat) (h : lw_tbl[i]? = some w) (hg : goodWord w = true) : w ∈ zWs := List.mem_filter.mpr ⟨List.mem_of_getElem? h, hg⟩
theorem zT_of {cc : ByteArray} {t : List zI} (h : t.all (fun e => decide (decode cc e.1 = .ok (e.2.1, e.2.2.1)) && zok e.1 e.2.1 e.2.2.1 e.2.2.2.1 e.2.2.2.2) = true) : zT cc t := by
  intro e he
  have h1 := List.all_eq_true.mp h e he
  rw [Bool.and_eq_true, decide_eq_true_eq] at h1
  exact h1
def R_Bd : String := "BrackenGambit$Board"
def F_Bd : u_T := fun k => match k with
  | _ => ("BrackenGambit$Board", "squares", "[I", true)
def t_Bd : Nat → FieldType := fun k => match k with
  | _ => .array .int
abbrev w_Bd : List Cond := u_ws R_Bd F_Bd 1
theorem n_Bd : ∀ a, a < 1 → ∀ b, b < 1 → a ≠ b → (F_Bd a).2.1 ≠ (F_Bd b).2.1 := by decide +kernel
theorem t_Bd_ok : ∀ k, k < 1 → parseFieldDescriptor (F_Bd k).2.2.1 = some (t_Bd k) := by decide +kernel
def R_Gm : String := "BrackenGambit$Game"
def F_Gm : u_T := fun k => match k with
  | 0 => ("BrackenGambit$Game", "board", "LBrackenGambit$Board;", true)
  | 1 => ("BrackenGambit$Game", "account", "[I", true)
  | 2 => ("BrackenGambit$Game", "taken", "[I", true)
  | 3 => ("BrackenGambit$Game", "turn", "I", false)
  | 4 => ("BrackenGambit$Game", "made", "I", false)
  | 5 => ("BrackenGambit$Game", "over", "Z", false)
  | 6 => ("BrackenGambit$Game", "champion", "I", false)
  | _ => ("BrackenGambit$Game", "latest", "LBrackenGambit$Position;", false)
def t_Gm : Nat → FieldType := fun k => match k with
  | 0 => .object "BrackenGambit$Board"
  | 1 => .array .int
  | 2 => .array .int
  | 3 => .int
  | 4 => .int
  | 5 => .boolean
  | 6 => .int
  | _ => .object "BrackenGambit$Position"
abbrev w_Gm : List Cond := u_ws R_Gm F_Gm 8
theorem n_Gm : ∀ a, a < 8 → ∀ b, b < 8 → a ≠ b → (F_Gm a).2.1 ≠ (F_Gm b).2.1 := by decide +kernel
theorem t_Gm_ok : ∀ k, k < 8 → parseFieldDescriptor (F_Gm k).2.2.1 = some (t_Gm k) := by decide +kernel
def R_Hs : String := "BrackenGambit$History"
def F_Hs : u_T := fun k => match k with
  | 0 => ("BrackenGambit$History", "states", "[LBrackenGambit$Game;", true)
  | _ => ("BrackenGambit$History", "size", "I", false)
def t_Hs : Nat → FieldType := fun k => match k with
  | 0 => .array (.object "BrackenGambit$Game")
  | _ => .int
abbrev w_Hs : List Cond := u_ws R_Hs F_Hs 2
theorem n_Hs : ∀ a, a < 2 → ∀ b, b < 2 → a ≠ b → (F_Hs a).2.1 ≠ (F_Hs b).2.1 := by decide +kernel
theorem t_Hs_ok : ∀ k, k < 2 → parseFieldDescriptor (F_Hs k).2.2.1 = some (t_Hs k) := by decide +kernel
def R_Tx : String := "BrackenGambit$MoveText"
def F_Tx : u_T := fun k => match k with
  | 0 => ("BrackenGambit$MoveText", "characters", "[C", true)
  | _ => ("BrackenGambit$MoveText", "length", "I", false)
def t_Tx : Nat → FieldType := fun k => match k with
  | 0 => .array .char
  | _ => .int
abbrev w_Tx : List Cond := u_ws R_Tx F_Tx 2
theorem n_Tx : ∀ a, a < 2 → ∀ b, b < 2 → a ≠ b → (F_Tx a).2.1 ≠ (F_Tx b).2.1 := by decide +kernel
theorem t_Tx_ok : ∀ k, k < 2 → parseFieldDescriptor (F_Tx k).2.2.1 = some (t_Tx k) := by decide +kernel
def R_Ps : String := "BrackenGambit$Position"
def F_Ps : u_T := fun k => match k with
  | 0 => ("BrackenGambit$Position", "earlier", "LBrackenGambit$Position;", true)
  | 1 => ("BrackenGambit$Position", "turn", "I", true)
  | 2 => ("BrackenGambit$Position", "quarter0", "J", true)
  | 3 => ("BrackenGambit$Position", "quarter1", "J", true)
  | 4 => ("BrackenGambit$Position", "quarter2", "J", true)
  | 5 => ("BrackenGambit$Position", "quarter3", "J", true)
  | _ => ("BrackenGambit$Position", "times", "I", true)
def t_Ps : Nat → FieldType := fun k => match k with
  | 0 => .object "BrackenGambit$Position"
  | 1 => .int
  | 2 => .long
  | 3 => .long
  | 4 => .long
  | 5 => .long
  | _ => .int
abbrev w_Ps : List Cond := u_ws R_Ps F_Ps 7
theorem n_Ps : ∀ a, a < 7 → ∀ b, b < 7 → a ≠ b → (F_Ps a).2.1 ≠ (F_Ps b).2.1 := by decide +kernel
theorem t_Ps_ok : ∀ k, k < 7 → parseFieldDescriptor (F_Ps k).2.2.1 = some (t_Ps k) := by decide +kernel
def R_Xx : String := "BrackenGambit"
def F_Xx : u_T := fun k => match k with
  | 0 => ("BrackenGambit", "game", "LBrackenGambit$Game;", true)
  | 1 => ("BrackenGambit", "history", "LBrackenGambit$History;", true)
  | 2 => ("BrackenGambit", "text", "LBrackenGambit$MoveText;", true)
  | _ => ("BrackenGambit", "trial", "LBrackenGambit$Board;", true)
def t_Xx : Nat → FieldType := fun k => match k with
  | 0 => .object "BrackenGambit$Game"
  | 1 => .object "BrackenGambit$History"
  | 2 => .object "BrackenGambit$MoveText"
  | _ => .object "BrackenGambit$Board"
abbrev w_Xx : List Cond := u_ws R_Xx F_Xx 4
theorem n_Xx : ∀ a, a < 4 → ∀ b, b < 4 → a ≠ b → (F_Xx a).2.1 ≠ (F_Xx b).2.1 := by decide +kernel
theorem t_Xx_ok : ∀ k, k < 4 → parseFieldDescriptor (F_Xx k).2.2.1 = some (t_Xx k) := by decide +kernel
def R_Mm : String := "BrackenGambitModel"
def F_Mm : u_T := fun k => match k with
  | 0 => ("BrackenGambitModel", "z", "[I", true)
  | 1 => ("BrackenGambitModel", "past", "[I", true)
  | 2 => ("BrackenGambitModel", "pastMany", "I", false)
  | 3 => ("BrackenGambitModel", "moves", "[I", true)
  | 4 => ("BrackenGambitModel", "scratch", "[I", true)
  | 5 => ("BrackenGambitModel", "gains", "[I", true)
  | 6 => ("BrackenGambitModel", "buffer", "[C", true)
  | 7 => ("BrackenGambitModel", "typed", "I", false)
  | _ => ("BrackenGambitModel", "thrown", "I", false)
def t_Mm : Nat → FieldType := fun k => match k with
  | 0 => .array .int
  | 1 => .array .int
  | 2 => .int
  | 3 => .array .int
  | 4 => .array .int
  | 5 => .array .int
  | 6 => .array .char
  | 7 => .int
  | _ => .int
abbrev w_Mm : List Cond := u_ws R_Mm F_Mm 9
theorem n_Mm : ∀ a, a < 9 → ∀ b, b < 9 → a ≠ b → (F_Mm a).2.1 ≠ (F_Mm b).2.1 := by decide +kernel
theorem t_Mm_ok : ∀ k, k < 9 → parseFieldDescriptor (F_Mm k).2.2.1 = some (t_Mm k) := by decide +kernel
def R_Pc : String := "BrackenGambit$Piece"
def R_Lw : String := "BrackenGambitLaw"
def R_Jl : String := "java/lang/Long"
def R_Jm : String := "java/lang/Math"
abbrev zCl : List vw_C := [(R_Bd, F_Bd, 1), (R_Gm, F_Gm, 8), (R_Hs, F_Hs, 2), (R_Tx, F_Tx, 2), (R_Ps, F_Ps, 7), (R_Xx, F_Xx, 4), (R_Mm, F_Mm, 9)]
theorem wi_Bd : ∀ w ∈ w_Bd, w ∈ zWs := by
  have h : w_Bd.all (fun w => decide (w ∈ lw_tbl) && goodWord w) = true := by decide +kernel
  intro w hw
  have h1 := List.all_eq_true.mp h w hw
  rw [Bool.and_eq_true, decide_eq_true_eq] at h1
  exact List.mem_filter.mpr h1
theorem wi_Gm : ∀ w ∈ w_Gm, w ∈ zWs := by
  have h : w_Gm.all (fun w => decide (w ∈ lw_tbl) && goodWord w) = true := by decide +kernel
  intro w hw
  have h1 := List.all_eq_true.mp h w hw
  rw [Bool.and_eq_true, decide_eq_true_eq] at h1
  exact List.mem_filter.mpr h1
theorem wi_Hs : ∀ w ∈ w_Hs, w ∈ zWs := by
  have h : w_Hs.all (fun w => decide (w ∈ lw_tbl) && goodWord w) = true := by decide +kernel
  intro w hw
  have h1 := List.all_eq_true.mp h w hw
  rw [Bool.and_eq_true, decide_eq_true_eq] at h1
  exact List.mem_filter.mpr h1
theorem wi_Tx : ∀ w ∈ w_Tx, w ∈ zWs := by
  have h : w_Tx.all (fun w => decide (w ∈ lw_tbl) && goodWord w) = true := by decide +kernel
  intro w hw
  have h1 := List.all_eq_true.mp h w hw
  rw [Bool.and_eq_true, decide_eq_true_eq] at h1
  exact List.mem_filter.mpr h1
theorem wi_Ps : ∀ w ∈ w_Ps, w ∈ zWs := by
  have h : w_Ps.all (fun w => decide (w ∈ lw_tbl) && goodWord w) = true := by decide +kernel
  intro w hw
  have h1 := List.all_eq_true.mp h w hw
  rw [Bool.and_eq_true, decide_eq_true_eq] at h1
  exact List.mem_filter.mpr h1
theorem wi_Xx : ∀ w ∈ w_Xx, w ∈ zWs := by
  have h : w_Xx.all (fun w => decide (w ∈ lw_tbl) && goodWord w) = true := by decide +kernel
  intro w hw
  have h1 := List.all_eq_true.mp h w hw
  rw [Bool.and_eq_true, decide_eq_true_eq] at h1
  exact List.mem_filter.mpr h1
theorem wi_Mm : ∀ w ∈ w_Mm, w ∈ zWs := by
  have h : w_Mm.all (fun w => decide (w ∈ lw_tbl) && goodWord w) = true := by decide +kernel
  intro w hw
  have h1 := List.all_eq_true.mp h w hw
  rw [Bool.and_eq_true, decide_eq_true_eq] at h1
  exact List.mem_filter.mpr h1
abbrev c_Xx_init : ByteArray := prog_1_method_1_code
def y_Xx_init : MethodName := ⟨R_Xx, "<init>", "()V"⟩
def i_Xx_init : List zI := [(0, .aload_n 0, 1, 0, 0), (1, .invokespecial 1, 3, 0, 0), (4, .aload_n 0, 1, 0, 0), (5, .new 7, 3, 0, 0), (8, .dup, 1, 0, 0), (9, .invokespecial 9, 3, 0, 0), (12, .putfield 10, 3, 0, 0), (15, .aload_n 0, 1, 0, 0), (16, .new 16, 3, 0, 0), (19, .dup, 1, 0, 0), (20, .invokespecial 18, 3, 0, 0), (23, .putfield 19, 3, 0, 0), (26, .aload_n 0, 1, 0, 0), (27, .new 23, 3, 0, 0), (30, .dup, 1, 0, 0), (31, .invokespecial 25, 3, 0, 0), (34, .putfield 26, 3, 0, 0), (37, .aload_n 0, 1, 0, 0), (38, .new 30, 3, 0, 0), (41, .dup, 1, 0, 0), (42, .invokespecial 32, 3, 0, 0), (45, .putfield 33, 3, 0, 0), (48, .return_, 1, 0, 0)]
theorem it_Xx_init : zT c_Xx_init i_Xx_init := zT_of (by decide +kernel)
theorem wc_Xx_init : Cond.code y_Xx_init c_Xx_init 1 none ∈ zWs := zmem 61 (by decide +kernel) rfl
theorem wn_Xx_init : Cond.initialized y_Xx_init.cls ∈ zWs := (zmem 39 (by decide +kernel) rfl)
theorem ws_Xx_init : Cond.instanceMethod y_Xx_init ∈ zWs := (zmem 60 (by decide +kernel) rfl)
abbrev c_Gm_init : ByteArray := prog_3_method_1_code
def y_Gm_init : MethodName := ⟨R_Gm, "<init>", "()V"⟩
def i_Gm_init : List zI := [(0, .aload_n 0, 1, 0, 0), (1, .invokespecial 3, 3, 0, 0), (4, .aload_n 0, 1, 0, 0), (5, .new 9, 3, 0, 0), (8, .dup, 1, 0, 0), (9, .invokespecial 11, 3, 0, 0), (12, .putfield 12, 3, 0, 0), (15, .aload_n 0, 1, 0, 0), (16, .iconst 2, 1, 2, 0), (17, .newarray .int, 2, 0, 0), (19, .putfield 18, 3, 0, 0), (22, .aload_n 0, 1, 0, 0), (23, .iconst 2, 1, 2, 0), (24, .newarray .int, 2, 0, 0), (26, .putfield 22, 3, 0, 0), (29, .aload_n 0, 1, 0, 0), (30, .iconst 0, 1, 0, 0), (31, .putfield 25, 3, 0, 0), (34, .aload_n 0, 1, 0, 0), (35, .iconst 0, 1, 0, 0), (36, .putfield 29, 3, 0, 0), (39, .aload_n 0, 1, 0, 0), (40, .iconst 0, 1, 0, 0), (41, .putfield 32, 3, 0, 0), (44, .aload_n 0, 1, 0, 0), (45, .iconst (-1), 1, -1, 0), (46, .putfield 36, 3, 0, 0), (49, .aload_n 0, 1, 0, 0), (50, .aconst_null, 1, 0, 0), (51, .putfield 39, 3, 0, 0), (54, .return_, 1, 0, 0)]
theorem it_Gm_init : zT c_Gm_init i_Gm_init := zT_of (by decide +kernel)
theorem wc_Gm_init : Cond.code y_Gm_init c_Gm_init 1 none ∈ zWs := zmem 69 (by decide +kernel) rfl
theorem wn_Gm_init : Cond.initialized y_Gm_init.cls ∈ zWs := (zmem 40 (by decide +kernel) rfl)
theorem ws_Gm_init : Cond.instanceMethod y_Gm_init ∈ zWs := (zmem 68 (by decide +kernel) rfl)
abbrev c_Bd_init : ByteArray := prog_2_method_1_code
def y_Bd_init : MethodName := ⟨R_Bd, "<init>", "()V"⟩
def i_Bd_init : List zI := [(0, .aload_n 0, 1, 0, 0), (1, .invokespecial 3, 3, 0, 0), (4, .aload_n 0, 1, 0, 0), (5, .bipush 36, 2, 36, 0), (7, .newarray .int, 2, 0, 0), (9, .putfield 9, 3, 0, 0), (12, .return_, 1, 0, 0)]
theorem it_Bd_init : zT c_Bd_init i_Bd_init := zT_of (by decide +kernel)
theorem wc_Bd_init : Cond.code y_Bd_init c_Bd_init 1 none ∈ zWs := zmem 75 (by decide +kernel) rfl
theorem wn_Bd_init : Cond.initialized y_Bd_init.cls ∈ zWs := (zmem 41 (by decide +kernel) rfl)
theorem ws_Bd_init : Cond.instanceMethod y_Bd_init ∈ zWs := (zmem 74 (by decide +kernel) rfl)
abbrev c_Hs_init : ByteArray := prog_4_method_1_code
def y_Hs_init : MethodName := ⟨R_Hs, "<init>", "()V"⟩
def i_Hs_init : List zI := [(0, .aload_n 0, 1, 0, 0), (1, .invokespecial 1, 3, 0, 0), (4, .aload_n 0, 1, 0, 0), (5, .iconst 5, 1, 5, 0), (6, .anewarray 9, 3, 0, 0), (9, .putfield 11, 3, 0, 0), (12, .aload_n 0, 1, 0, 0), (13, .iconst 0, 1, 0, 0), (14, .putfield 15, 3, 0, 0), (17, .iconst 0, 1, 0, 0), (18, .istore_n 1, 1, 0, 0), (19, .iload_n 1, 1, 0, 0), (20, .iconst 5, 1, 5, 0), (21, .if_icmp .ge 22, 3, 0, 43), (24, .aload_n 0, 1, 0, 0), (25, .getfield 11, 3, 0, 0), (28, .iload_n 1, 1, 0, 0), (29, .new 9, 3, 0, 0), (32, .dup, 1, 0, 0), (33, .invokespecial 19, 3, 0, 0), (36, .aastore, 1, 0, 0), (37, .iinc 1 1, 3, 1, 0), (40, .goto (-21), 3, 0, 19), (43, .return_, 1, 0, 0)]
theorem it_Hs_init : zT c_Hs_init i_Hs_init := zT_of (by decide +kernel)
theorem wc_Hs_init : Cond.code y_Hs_init c_Hs_init 2 none ∈ zWs := zmem 118 (by decide +kernel) rfl
theorem wn_Hs_init : Cond.initialized y_Hs_init.cls ∈ zWs := (zmem 42 (by decide +kernel) rfl)
theorem ws_Hs_init : Cond.instanceMethod y_Hs_init ∈ zWs := (zmem 117 (by decide +kernel) rfl)
abbrev c_Tx_init : ByteArray := prog_5_method_1_code
def y_Tx_init : MethodName := ⟨R_Tx, "<init>", "()V"⟩
def i_Tx_init : List zI := [(0, .aload_n 0, 1, 0, 0), (1, .invokespecial 3, 3, 0, 0), (4, .aload_n 0, 1, 0, 0), (5, .bipush 60, 2, 60, 0), (7, .newarray .char, 2, 0, 0), (9, .putfield 11, 3, 0, 0), (12, .aload_n 0, 1, 0, 0), (13, .iconst 0, 1, 0, 0), (14, .putfield 15, 3, 0, 0), (17, .return_, 1, 0, 0)]
theorem it_Tx_init : zT c_Tx_init i_Tx_init := zT_of (by decide +kernel)
theorem wc_Tx_init : Cond.code y_Tx_init c_Tx_init 1 none ∈ zWs := zmem 135 (by decide +kernel) rfl
theorem wn_Tx_init : Cond.initialized y_Tx_init.cls ∈ zWs := (zmem 43 (by decide +kernel) rfl)
theorem ws_Tx_init : Cond.instanceMethod y_Tx_init ∈ zWs := (zmem 134 (by decide +kernel) rfl)
abbrev c_Xx_clearText : ByteArray := prog_1_method_10_code
def y_Xx_clearText : MethodName := ⟨R_Xx, "clearText", "()I"⟩
def i_Xx_clearText : List zI := [(0, .aload_n 0, 1, 0, 0), (1, .getfield 26, 3, 0, 0), (4, .invokevirtual 115, 3, 0, 0), (7, .ireturn, 1, 0, 0)]
theorem it_Xx_clearText : zT c_Xx_clearText i_Xx_clearText := zT_of (by decide +kernel)
theorem wc_Xx_clearText : Cond.code y_Xx_clearText c_Xx_clearText 1 (some .int) ∈ zWs := zmem 163 (by decide +kernel) rfl
theorem wn_Xx_clearText : Cond.initialized y_Xx_clearText.cls ∈ zWs := (zmem 39 (by decide +kernel) rfl)
theorem ws_Xx_clearText : Cond.instanceMethod y_Xx_clearText ∈ zWs := (zmem 161 (by decide +kernel) rfl)
theorem wv_Xx_clearText : Cond.selects R_Xx y_Xx_clearText y_Xx_clearText ∈ zWs := zmem 162 (by decide +kernel) rfl
abbrev c_Tx_empty : ByteArray := prog_5_method_4_code
def y_Tx_empty : MethodName := ⟨R_Tx, "empty", "()I"⟩
def i_Tx_empty : List zI := [(0, .aload_n 0, 1, 0, 0), (1, .getfield 15, 3, 0, 0), (4, .istore_n 1, 1, 0, 0), (5, .aload_n 0, 1, 0, 0), (6, .iconst 0, 1, 0, 0), (7, .putfield 15, 3, 0, 0), (10, .iload_n 1, 1, 0, 0), (11, .ireturn, 1, 0, 0)]
theorem it_Tx_empty : zT c_Tx_empty i_Tx_empty := zT_of (by decide +kernel)
theorem wc_Tx_empty : Cond.code y_Tx_empty c_Tx_empty 2 (some .int) ∈ zWs := zmem 167 (by decide +kernel) rfl
theorem wn_Tx_empty : Cond.initialized y_Tx_empty.cls ∈ zWs := (zmem 43 (by decide +kernel) rfl)
theorem ws_Tx_empty : Cond.instanceMethod y_Tx_empty ∈ zWs := (zmem 165 (by decide +kernel) rfl)
theorem wv_Tx_empty : Cond.selects R_Tx y_Tx_empty y_Tx_empty ∈ zWs := zmem 166 (by decide +kernel) rfl
abbrev c_Xx_isValid : ByteArray := prog_1_method_11_code
def y_Xx_isValid : MethodName := ⟨R_Xx, "isValid", "()Z"⟩
def i_Xx_isValid : List zI := [(0, .aload_n 0, 1, 0, 0), (1, .getfield 26, 3, 0, 0), (4, .invokevirtual 89, 3, 0, 0), (7, .ireturn, 1, 0, 0)]
theorem it_Xx_isValid : zT c_Xx_isValid i_Xx_isValid := zT_of (by decide +kernel)
theorem wc_Xx_isValid : Cond.code y_Xx_isValid c_Xx_isValid 1 (some .boolean) ∈ zWs := zmem 171 (by decide +kernel) rfl
theorem wn_Xx_isValid : Cond.initialized y_Xx_isValid.cls ∈ zWs := (zmem 39 (by decide +kernel) rfl)
theorem ws_Xx_isValid : Cond.instanceMethod y_Xx_isValid ∈ zWs := (zmem 169 (by decide +kernel) rfl)
theorem wv_Xx_isValid : Cond.selects R_Xx y_Xx_isValid y_Xx_isValid ∈ zWs := zmem 170 (by decide +kernel) rfl
abbrev c_Tx_isList : ByteArray := prog_5_method_5_code
def y_Tx_isList : MethodName := ⟨R_Tx, "isList", "()Z"⟩
def i_Tx_isList : List zI := [(0, .aload_n 0, 1, 0, 0), (1, .getfield 15, 3, 0, 0), (4, .iconst 5, 1, 5, 0), (5, .irem, 1, 0, 0), (6, .iconst 4, 1, 4, 0), (7, .if_icmp .ne 18, 3, 0, 25), (10, .aload_n 0, 1, 0, 0), (11, .invokevirtual 19, 3, 0, 0), (14, .aload_n 0, 1, 0, 0), (15, .getfield 15, 3, 0, 0), (18, .if_icmp .ne 7, 3, 0, 25), (21, .iconst 1, 1, 1, 0), (22, .goto 4, 3, 0, 26), (25, .iconst 0, 1, 0, 0), (26, .ireturn, 1, 0, 0)]
theorem it_Tx_isList : zT c_Tx_isList i_Tx_isList := zT_of (by decide +kernel)
theorem wc_Tx_isList : Cond.code y_Tx_isList c_Tx_isList 1 (some .boolean) ∈ zWs := zmem 175 (by decide +kernel) rfl
theorem wn_Tx_isList : Cond.initialized y_Tx_isList.cls ∈ zWs := (zmem 43 (by decide +kernel) rfl)
theorem ws_Tx_isList : Cond.instanceMethod y_Tx_isList ∈ zWs := (zmem 173 (by decide +kernel) rfl)
theorem wv_Tx_isList : Cond.selects R_Tx y_Tx_isList y_Tx_isList ∈ zWs := zmem 174 (by decide +kernel) rfl
abbrev c_Tx_firstMisfit : ByteArray := prog_5_method_6_code
def y_Tx_firstMisfit : MethodName := ⟨R_Tx, "firstMisfit", "()I"⟩
def i_Tx_firstMisfit : List zI := [(0, .iconst 0, 1, 0, 0), (1, .istore_n 1, 1, 0, 0), (2, .iload_n 1, 1, 0, 0), (3, .aload_n 0, 1, 0, 0), (4, .getfield 15, 3, 0, 0), (7, .if_icmp .ge 19, 3, 0, 26), (10, .aload_n 0, 1, 0, 0), (11, .iload_n 1, 1, 0, 0), (12, .invokevirtual 23, 3, 0, 0), (15, .ifCond .ne 5, 3, 0, 20), (18, .iload_n 1, 1, 0, 0), (19, .ireturn, 1, 0, 0), (20, .iinc 1 1, 3, 1, 0), (23, .goto (-21), 3, 0, 2), (26, .aload_n 0, 1, 0, 0), (27, .getfield 15, 3, 0, 0), (30, .ireturn, 1, 0, 0)]
theorem it_Tx_firstMisfit : zT c_Tx_firstMisfit i_Tx_firstMisfit := zT_of (by decide +kernel)
theorem wc_Tx_firstMisfit : Cond.code y_Tx_firstMisfit c_Tx_firstMisfit 2 (some .int) ∈ zWs := zmem 179 (by decide +kernel) rfl
theorem wn_Tx_firstMisfit : Cond.initialized y_Tx_firstMisfit.cls ∈ zWs := (zmem 43 (by decide +kernel) rfl)
theorem ws_Tx_firstMisfit : Cond.instanceMethod y_Tx_firstMisfit ∈ zWs := (zmem 177 (by decide +kernel) rfl)
theorem wv_Tx_firstMisfit : Cond.selects R_Tx y_Tx_firstMisfit y_Tx_firstMisfit ∈ zWs := zmem 178 (by decide +kernel) rfl
abbrev c_Tx_fits : ByteArray := prog_5_method_7_code
def y_Tx_fits : MethodName := ⟨R_Tx, "fits", "(I)Z"⟩
def i_Tx_fits : List zI := [(0, .aload_n 0, 1, 0, 0), (1, .getfield 11, 3, 0, 0), (4, .iload_n 1, 1, 0, 0), (5, .caload, 1, 0, 0), (6, .istore_n 2, 1, 0, 0), (7, .iload_n 1, 1, 0, 0), (8, .iconst 5, 1, 5, 0), (9, .irem, 1, 0, 0), (10, .tableswitch 74 0 3 #[30, 48, 30, 53], 30, 0, 0), (40, .iload_n 2, 1, 0, 0), (41, .bipush 97, 2, 97, 0), (43, .if_icmp .lt 13, 3, 0, 56), (46, .iload_n 2, 1, 0, 0), (47, .bipush 102, 2, 102, 0), (49, .if_icmp .gt 7, 3, 0, 56), (52, .iconst 1, 1, 1, 0), (53, .goto 4, 3, 0, 57), (56, .iconst 0, 1, 0, 0), (57, .ireturn, 1, 0, 0), (58, .iload_n 2, 1, 0, 0), (59, .invokestatic 27, 3, 0, 0), (62, .ireturn, 1, 0, 0), (63, .iload_n 2, 1, 0, 0), (64, .invokestatic 27, 3, 0, 0), (67, .ifCond .eq 15, 3, 0, 82), (70, .aload_n 0, 1, 0, 0), (71, .iload_n 1, 1, 0, 0), (72, .invokevirtual 31, 3, 0, 0), (75, .ifCond .eq 7, 3, 0, 82), (78, .iconst 1, 1, 1, 0), (79, .goto 4, 3, 0, 83), (82, .iconst 0, 1, 0, 0), (83, .ireturn, 1, 0, 0), (84, .iload_n 2, 1, 0, 0), (85, .bipush 32, 2, 32, 0), (87, .if_icmp .ne 7, 3, 0, 94), (90, .iconst 1, 1, 1, 0), (91, .goto 4, 3, 0, 95), (94, .iconst 0, 1, 0, 0), (95, .ireturn, 1, 0, 0)]
theorem it_Tx_fits : zT c_Tx_fits i_Tx_fits := zT_of (by decide +kernel)
theorem wc_Tx_fits : Cond.code y_Tx_fits c_Tx_fits 3 (some .boolean) ∈ zWs := zmem 183 (by decide +kernel) rfl
theorem wn_Tx_fits : Cond.initialized y_Tx_fits.cls ∈ zWs := (zmem 43 (by decide +kernel) rfl)
theorem ws_Tx_fits : Cond.instanceMethod y_Tx_fits ∈ zWs := (zmem 182 (by decide +kernel) rfl)
theorem wv_Tx_fits : Cond.selects R_Tx y_Tx_fits y_Tx_fits ∈ zWs := zmem 0 (by decide +kernel) rfl
abbrev c_Tx_isDigit : ByteArray := prog_5_method_8_code
def y_Tx_isDigit : MethodName := ⟨R_Tx, "isDigit", "(C)Z"⟩
def i_Tx_isDigit : List zI := [(0, .iload_n 0, 1, 0, 0), (1, .bipush 49, 2, 49, 0), (3, .if_icmp .lt 13, 3, 0, 16), (6, .iload_n 0, 1, 0, 0), (7, .bipush 54, 2, 54, 0), (9, .if_icmp .gt 7, 3, 0, 16), (12, .iconst 1, 1, 1, 0), (13, .goto 4, 3, 0, 17), (16, .iconst 0, 1, 0, 0), (17, .ireturn, 1, 0, 0)]
theorem it_Tx_isDigit : zT c_Tx_isDigit i_Tx_isDigit := zT_of (by decide +kernel)
theorem wc_Tx_isDigit : Cond.code y_Tx_isDigit c_Tx_isDigit 1 (some .boolean) ∈ zWs := zmem 186 (by decide +kernel) rfl
theorem wn_Tx_isDigit : Cond.initialized y_Tx_isDigit.cls ∈ zWs := (zmem 43 (by decide +kernel) rfl)
theorem ws_Tx_isDigit : Cond.static y_Tx_isDigit ∈ zWs := (zmem 185 (by decide +kernel) rfl)
abbrev c_Tx_endsElsewhere : ByteArray := prog_5_method_9_code
def y_Tx_endsElsewhere : MethodName := ⟨R_Tx, "endsElsewhere", "(I)Z"⟩
def i_Tx_endsElsewhere : List zI := [(0, .iload_n 1, 1, 0, 0), (1, .iconst 3, 1, 3, 0), (2, .if_icmp .lt 39, 3, 0, 41), (5, .aload_n 0, 1, 0, 0), (6, .getfield 11, 3, 0, 0), (9, .iload_n 1, 1, 0, 0), (10, .caload, 1, 0, 0), (11, .aload_n 0, 1, 0, 0), (12, .getfield 11, 3, 0, 0), (15, .iload_n 1, 1, 0, 0), (16, .iconst 2, 1, 2, 0), (17, .isub, 1, 0, 0), (18, .caload, 1, 0, 0), (19, .if_icmp .ne 22, 3, 0, 41), (22, .aload_n 0, 1, 0, 0), (23, .getfield 11, 3, 0, 0), (26, .iload_n 1, 1, 0, 0), (27, .iconst 1, 1, 1, 0), (28, .isub, 1, 0, 0), (29, .caload, 1, 0, 0), (30, .aload_n 0, 1, 0, 0), (31, .getfield 11, 3, 0, 0), (34, .iload_n 1, 1, 0, 0), (35, .iconst 3, 1, 3, 0), (36, .isub, 1, 0, 0), (37, .caload, 1, 0, 0), (38, .if_icmp .eq 7, 3, 0, 45), (41, .iconst 1, 1, 1, 0), (42, .goto 4, 3, 0, 46), (45, .iconst 0, 1, 0, 0), (46, .ireturn, 1, 0, 0)]
theorem it_Tx_endsElsewhere : zT c_Tx_endsElsewhere i_Tx_endsElsewhere := zT_of (by decide +kernel)
theorem wc_Tx_endsElsewhere : Cond.code y_Tx_endsElsewhere c_Tx_endsElsewhere 2 (some .boolean) ∈ zWs := zmem 190 (by decide +kernel) rfl
theorem wn_Tx_endsElsewhere : Cond.initialized y_Tx_endsElsewhere.cls ∈ zWs := (zmem 43 (by decide +kernel) rfl)
theorem ws_Tx_endsElsewhere : Cond.instanceMethod y_Tx_endsElsewhere ∈ zWs := (zmem 189 (by decide +kernel) rfl)
theorem wv_Tx_endsElsewhere : Cond.selects R_Tx y_Tx_endsElsewhere y_Tx_endsElsewhere ∈ zWs := zmem 1 (by decide +kernel) rfl
abbrev c_Xx_toMove : ByteArray := prog_1_method_27_code
def y_Xx_toMove : MethodName := ⟨R_Xx, "toMove", "()I"⟩
def i_Xx_toMove : List zI := [(0, .aload_n 0, 1, 0, 0), (1, .getfield 10, 3, 0, 0), (4, .getfield 198, 3, 0, 0), (7, .ireturn, 1, 0, 0)]
theorem it_Xx_toMove : zT c_Xx_toMove i_Xx_toMove := zT_of (by decide +kernel)
theorem wc_Xx_toMove : Cond.code y_Xx_toMove c_Xx_toMove 1 (some .int) ∈ zWs := zmem 194 (by decide +kernel) rfl
theorem wn_Xx_toMove : Cond.initialized y_Xx_toMove.cls ∈ zWs := (zmem 39 (by decide +kernel) rfl)
theorem ws_Xx_toMove : Cond.instanceMethod y_Xx_toMove ∈ zWs := (zmem 192 (by decide +kernel) rfl)
theorem wv_Xx_toMove : Cond.selects R_Xx y_Xx_toMove y_Xx_toMove ∈ zWs := zmem 193 (by decide +kernel) rfl
abbrev c_Xx_isOver : ByteArray := prog_1_method_28_code
def y_Xx_isOver : MethodName := ⟨R_Xx, "isOver", "()Z"⟩
def i_Xx_isOver : List zI := [(0, .aload_n 0, 1, 0, 0), (1, .getfield 10, 3, 0, 0), (4, .getfield 201, 3, 0, 0), (7, .ireturn, 1, 0, 0)]
theorem it_Xx_isOver : zT c_Xx_isOver i_Xx_isOver := zT_of (by decide +kernel)
theorem wc_Xx_isOver : Cond.code y_Xx_isOver c_Xx_isOver 1 (some .boolean) ∈ zWs := zmem 198 (by decide +kernel) rfl
theorem wn_Xx_isOver : Cond.initialized y_Xx_isOver.cls ∈ zWs := (zmem 39 (by decide +kernel) rfl)
theorem ws_Xx_isOver : Cond.instanceMethod y_Xx_isOver ∈ zWs := (zmem 196 (by decide +kernel) rfl)
theorem wv_Xx_isOver : Cond.selects R_Xx y_Xx_isOver y_Xx_isOver ∈ zWs := zmem 197 (by decide +kernel) rfl
abbrev c_Xx_repetitions : ByteArray := prog_1_method_30_code
def y_Xx_repetitions : MethodName := ⟨R_Xx, "repetitions", "()I"⟩
def i_Xx_repetitions : List zI := [(0, .aload_n 0, 1, 0, 0), (1, .getfield 10, 3, 0, 0), (4, .invokevirtual 210, 3, 0, 0), (7, .ireturn, 1, 0, 0)]
theorem it_Xx_repetitions : zT c_Xx_repetitions i_Xx_repetitions := zT_of (by decide +kernel)
theorem wc_Xx_repetitions : Cond.code y_Xx_repetitions c_Xx_repetitions 1 (some .int) ∈ zWs := zmem 202 (by decide +kernel) rfl
theorem wn_Xx_repetitions : Cond.initialized y_Xx_repetitions.cls ∈ zWs := (zmem 39 (by decide +kernel) rfl)
theorem ws_Xx_repetitions : Cond.instanceMethod y_Xx_repetitions ∈ zWs := (zmem 200 (by decide +kernel) rfl)
theorem wv_Xx_repetitions : Cond.selects R_Xx y_Xx_repetitions y_Xx_repetitions ∈ zWs := zmem 201 (by decide +kernel) rfl
abbrev c_Gm_timesOfBoard : ByteArray := prog_3_method_4_code
def y_Gm_timesOfBoard : MethodName := ⟨R_Gm, "timesOfBoard", "()I"⟩
def i_Gm_timesOfBoard : List zI := [(0, .aload_n 0, 1, 0, 0), (1, .getfield 39, 3, 0, 0), (4, .ifnonnull 7, 3, 0, 11), (7, .iconst 0, 1, 0, 0), (8, .goto 10, 3, 0, 18), (11, .aload_n 0, 1, 0, 0), (12, .getfield 39, 3, 0, 0), (15, .getfield 47, 3, 0, 0), (18, .ireturn, 1, 0, 0)]
theorem it_Gm_timesOfBoard : zT c_Gm_timesOfBoard i_Gm_timesOfBoard := zT_of (by decide +kernel)
theorem wc_Gm_timesOfBoard : Cond.code y_Gm_timesOfBoard c_Gm_timesOfBoard 1 (some .int) ∈ zWs := zmem 206 (by decide +kernel) rfl
theorem wn_Gm_timesOfBoard : Cond.initialized y_Gm_timesOfBoard.cls ∈ zWs := (zmem 40 (by decide +kernel) rfl)
theorem ws_Gm_timesOfBoard : Cond.instanceMethod y_Gm_timesOfBoard ∈ zWs := (zmem 204 (by decide +kernel) rfl)
theorem wv_Gm_timesOfBoard : Cond.selects R_Gm y_Gm_timesOfBoard y_Gm_timesOfBoard ∈ zWs := zmem 205 (by decide +kernel) rfl
abbrev c_Xx_movesMade : ByteArray := prog_1_method_31_code
def y_Xx_movesMade : MethodName := ⟨R_Xx, "movesMade", "()I"⟩
def i_Xx_movesMade : List zI := [(0, .aload_n 0, 1, 0, 0), (1, .getfield 10, 3, 0, 0), (4, .getfield 213, 3, 0, 0), (7, .ireturn, 1, 0, 0)]
theorem it_Xx_movesMade : zT c_Xx_movesMade i_Xx_movesMade := zT_of (by decide +kernel)
theorem wc_Xx_movesMade : Cond.code y_Xx_movesMade c_Xx_movesMade 1 (some .int) ∈ zWs := zmem 210 (by decide +kernel) rfl
theorem wn_Xx_movesMade : Cond.initialized y_Xx_movesMade.cls ∈ zWs := (zmem 39 (by decide +kernel) rfl)
theorem ws_Xx_movesMade : Cond.instanceMethod y_Xx_movesMade ∈ zWs := (zmem 208 (by decide +kernel) rfl)
theorem wv_Xx_movesMade : Cond.selects R_Xx y_Xx_movesMade y_Xx_movesMade ∈ zWs := zmem 209 (by decide +kernel) rfl
abbrev c_Xx_historySize : ByteArray := prog_1_method_36_code
def y_Xx_historySize : MethodName := ⟨R_Xx, "historySize", "()I"⟩
def i_Xx_historySize : List zI := [(0, .aload_n 0, 1, 0, 0), (1, .getfield 19, 3, 0, 0), (4, .getfield 123, 3, 0, 0), (7, .ireturn, 1, 0, 0)]
theorem it_Xx_historySize : zT c_Xx_historySize i_Xx_historySize := zT_of (by decide +kernel)
theorem wc_Xx_historySize : Cond.code y_Xx_historySize c_Xx_historySize 1 (some .int) ∈ zWs := zmem 214 (by decide +kernel) rfl
theorem wn_Xx_historySize : Cond.initialized y_Xx_historySize.cls ∈ zWs := (zmem 39 (by decide +kernel) rfl)
theorem ws_Xx_historySize : Cond.instanceMethod y_Xx_historySize ∈ zWs := (zmem 212 (by decide +kernel) rfl)
theorem wv_Xx_historySize : Cond.selects R_Xx y_Xx_historySize y_Xx_historySize ∈ zWs := zmem 213 (by decide +kernel) rfl
abbrev c_Lw_putPiece : ByteArray := method_3_code
def y_Lw_putPiece : MethodName := ⟨R_Lw, "putPiece", "(LBrackenGambit;III[J)I"⟩
def i_Lw_putPiece : List zI := [(0, .aload 4, 2, 0, 0), (2, .iconst 0, 1, 0, 0), (3, .aload_n 0, 1, 0, 0), (4, .iload_n 1, 1, 0, 0), (5, .iload_n 2, 1, 0, 0), (6, .iload_n 3, 1, 0, 0), (7, .invokevirtual 7, 3, 0, 0), (10, .i2l, 1, 0, 0), (11, .lastore, 1, 0, 0), (12, .goto 15, 3, 0, 27), (15, .astore 5, 2, 0, 0), (17, .iconst 1, 1, 1, 0), (18, .ireturn, 1, 0, 0), (19, .astore 5, 2, 0, 0), (21, .iconst 2, 1, 2, 0), (22, .ireturn, 1, 0, 0), (23, .astore 5, 2, 0, 0), (25, .iconst 3, 1, 3, 0), (26, .ireturn, 1, 0, 0), (27, .iconst 0, 1, 0, 0), (28, .ireturn, 1, 0, 0)]
theorem it_Lw_putPiece : zT c_Lw_putPiece i_Lw_putPiece := zT_of (by decide +kernel)
def hh_Lw_putPiece : List (Nat × Nat × Nat × Nat) := [(0, 12, 15, 13), (0, 12, 19, 15), (0, 12, 23, 17)]
theorem wc_Lw_putPiece : Cond.codeWith y_Lw_putPiece c_Lw_putPiece 6 (some .int) hh_Lw_putPiece ∈ zWs := zmem 217 (by decide +kernel) rfl
theorem wn_Lw_putPiece : Cond.initialized y_Lw_putPiece.cls ∈ zWs := (zmem 38 (by decide +kernel) rfl)
theorem ws_Lw_putPiece : Cond.static y_Lw_putPiece ∈ zWs := (zmem 216 (by decide +kernel) rfl)
abbrev c_Xx_putPiece : ByteArray := prog_1_method_2_code
def y_Xx_putPiece : MethodName := ⟨R_Xx, "putPiece", "(III)I"⟩
def i_Xx_putPiece : List zI := [(0, .aload_n 0, 1, 0, 0), (1, .iload_n 1, 1, 0, 0), (2, .iload_n 2, 1, 0, 0), (3, .iload_n 3, 1, 0, 0), (4, .iconst 0, 1, 0, 0), (5, .invokevirtual 37, 3, 0, 0), (8, .ireturn, 1, 0, 0)]
theorem it_Xx_putPiece : zT c_Xx_putPiece i_Xx_putPiece := zT_of (by decide +kernel)
theorem wc_Xx_putPiece : Cond.code y_Xx_putPiece c_Xx_putPiece 4 (some .int) ∈ zWs := zmem 224 (by decide +kernel) rfl
theorem wn_Xx_putPiece : Cond.initialized y_Xx_putPiece.cls ∈ zWs := (zmem 39 (by decide +kernel) rfl)
theorem ws_Xx_putPiece : Cond.instanceMethod y_Xx_putPiece ∈ zWs := (zmem 222 (by decide +kernel) rfl)
theorem wv_Xx_putPiece : Cond.selects R_Xx y_Xx_putPiece y_Xx_putPiece ∈ zWs := zmem 223 (by decide +kernel) rfl
abbrev c_Xx_put : ByteArray := prog_1_method_37_code
def y_Xx_put : MethodName := ⟨R_Xx, "put", "(IIIZ)I"⟩
def i_Xx_put : List zI := [(0, .iload_n 1, 1, 0, 0), (1, .invokestatic 132, 3, 0, 0), (4, .iload_n 2, 1, 0, 0), (5, .invokestatic 41, 3, 0, 0), (8, .iload_n 3, 1, 0, 0), (9, .iconst 1, 1, 1, 0), (10, .if_icmp .lt 9, 3, 0, 19), (13, .iload_n 3, 1, 0, 0), (14, .bipush 31, 2, 31, 0), (16, .if_icmp .le 13, 3, 0, 29), (19, .new 92, 3, 0, 0), (22, .dup, 1, 0, 0), (23, .ldc 226, 2, 0, 0), (25, .invokespecial 96, 3, 0, 0), (28, .athrow, 1, 0, 0), (29, .aload_n 0, 1, 0, 0), (30, .getfield 10, 3, 0, 0), (33, .iload_n 1, 1, 0, 0), (34, .iload_n 2, 1, 0, 0), (35, .iload 4, 2, 0, 0), (37, .invokevirtual 228, 3, 0, 0), (40, .ifCond .ne 13, 3, 0, 53), (43, .new 56, 3, 0, 0), (46, .dup, 1, 0, 0), (47, .ldc 232, 2, 0, 0), (49, .invokespecial 60, 3, 0, 0), (52, .athrow, 1, 0, 0), (53, .aload_n 0, 1, 0, 0), (54, .getfield 19, 3, 0, 0), (57, .aload_n 0, 1, 0, 0), (58, .getfield 10, 3, 0, 0), (61, .invokevirtual 63, 3, 0, 0), (64, .aload_n 0, 1, 0, 0), (65, .getfield 10, 3, 0, 0), (68, .iload_n 2, 1, 0, 0), (69, .iload_n 1, 1, 0, 0), (70, .iload_n 3, 1, 0, 0), (71, .iload 4, 2, 0, 0), (73, .invokestatic 234, 3, 0, 0), (76, .invokevirtual 238, 3, 0, 0), (79, .aload_n 0, 1, 0, 0), (80, .getfield 10, 3, 0, 0), (83, .getfield 49, 3, 0, 0), (86, .iload_n 1, 1, 0, 0), (87, .invokevirtual 135, 3, 0, 0), (90, .ireturn, 1, 0, 0)]
theorem it_Xx_put : zT c_Xx_put i_Xx_put := zT_of (by decide +kernel)
theorem wc_Xx_put : Cond.code y_Xx_put c_Xx_put 5 (some .int) ∈ zWs := zmem 228 (by decide +kernel) rfl
theorem wn_Xx_put : Cond.initialized y_Xx_put.cls ∈ zWs := (zmem 39 (by decide +kernel) rfl)
theorem ws_Xx_put : Cond.instanceMethod y_Xx_put ∈ zWs := (zmem 227 (by decide +kernel) rfl)
theorem wv_Xx_put : Cond.selects R_Xx y_Xx_put y_Xx_put ∈ zWs := zmem 2 (by decide +kernel) rfl
abbrev c_Xx_needSide : ByteArray := prog_1_method_41_code
def y_Xx_needSide : MethodName := ⟨R_Xx, "needSide", "(I)V"⟩
def i_Xx_needSide : List zI := [(0, .iload_n 0, 1, 0, 0), (1, .ifCond .eq 19, 3, 0, 20), (4, .iload_n 0, 1, 0, 0), (5, .iconst 1, 1, 1, 0), (6, .if_icmp .eq 14, 3, 0, 20), (9, .new 266, 3, 0, 0), (12, .dup, 1, 0, 0), (13, .ldc_w 268, 3, 0, 0), (16, .invokespecial 270, 3, 0, 0), (19, .athrow, 1, 0, 0), (20, .return_, 1, 0, 0)]
theorem it_Xx_needSide : zT c_Xx_needSide i_Xx_needSide := zT_of (by decide +kernel)
theorem wc_Xx_needSide : Cond.code y_Xx_needSide c_Xx_needSide 1 none ∈ zWs := zmem 231 (by decide +kernel) rfl
theorem wn_Xx_needSide : Cond.initialized y_Xx_needSide.cls ∈ zWs := (zmem 39 (by decide +kernel) rfl)
theorem ws_Xx_needSide : Cond.static y_Xx_needSide ∈ zWs := (zmem 230 (by decide +kernel) rfl)
abbrev c_Xx_needSquare : ByteArray := prog_1_method_42_code
def y_Xx_needSquare : MethodName := ⟨R_Xx, "needSquare", "(I)V"⟩
def i_Xx_needSquare : List zI := [(0, .iload_n 0, 1, 0, 0), (1, .ifCond .lt 9, 3, 0, 10), (4, .iload_n 0, 1, 0, 0), (5, .bipush 36, 2, 36, 0), (7, .if_icmp .lt 14, 3, 0, 21), (10, .new 266, 3, 0, 0), (13, .dup, 1, 0, 0), (14, .ldc_w 271, 3, 0, 0), (17, .invokespecial 270, 3, 0, 0), (20, .athrow, 1, 0, 0), (21, .return_, 1, 0, 0)]
theorem it_Xx_needSquare : zT c_Xx_needSquare i_Xx_needSquare := zT_of (by decide +kernel)
theorem wc_Xx_needSquare : Cond.code y_Xx_needSquare c_Xx_needSquare 1 none ∈ zWs := zmem 303 (by decide +kernel) rfl
theorem wn_Xx_needSquare : Cond.initialized y_Xx_needSquare.cls ∈ zWs := (zmem 39 (by decide +kernel) rfl)
theorem ws_Xx_needSquare : Cond.static y_Xx_needSquare ∈ zWs := (zmem 302 (by decide +kernel) rfl)
abbrev c_Gm_accepts : ByteArray := prog_3_method_5_code
def y_Gm_accepts : MethodName := ⟨R_Gm, "accepts", "(IIZ)Z"⟩
def i_Gm_accepts : List zI := [(0, .aload_n 0, 1, 0, 0), (1, .invokevirtual 52, 3, 0, 0), (4, .ifCond .ne 47, 3, 0, 51), (7, .aload_n 0, 1, 0, 0), (8, .getfield 12, 3, 0, 0), (11, .iload_n 2, 1, 0, 0), (12, .invokevirtual 56, 3, 0, 0), (15, .ifCond .eq 36, 3, 0, 51), (18, .aload_n 0, 1, 0, 0), (19, .getfield 12, 3, 0, 0), (22, .iload_n 1, 1, 0, 0), (23, .invokevirtual 60, 3, 0, 0), (26, .bipush 8, 2, 8, 0), (28, .if_icmp .ge 23, 3, 0, 51), (31, .iload_n 3, 1, 0, 0), (32, .ifCond .eq 15, 3, 0, 47), (35, .aload_n 0, 1, 0, 0), (36, .getfield 12, 3, 0, 0), (39, .iload_n 1, 1, 0, 0), (40, .invokevirtual 64, 3, 0, 0), (43, .iconst (-1), 1, -1, 0), (44, .if_icmp .ne 7, 3, 0, 51), (47, .iconst 1, 1, 1, 0), (48, .goto 4, 3, 0, 52), (51, .iconst 0, 1, 0, 0), (52, .ireturn, 1, 0, 0)]
theorem it_Gm_accepts : zT c_Gm_accepts i_Gm_accepts := zT_of (by decide +kernel)
theorem wc_Gm_accepts : Cond.code y_Gm_accepts c_Gm_accepts 4 (some .boolean) ∈ zWs := zmem 324 (by decide +kernel) rfl
theorem wn_Gm_accepts : Cond.initialized y_Gm_accepts.cls ∈ zWs := (zmem 40 (by decide +kernel) rfl)
theorem ws_Gm_accepts : Cond.instanceMethod y_Gm_accepts ∈ zWs := (zmem 322 (by decide +kernel) rfl)
theorem wv_Gm_accepts : Cond.selects R_Gm y_Gm_accepts y_Gm_accepts ∈ zWs := zmem 323 (by decide +kernel) rfl
abbrev c_Gm_hasStarted : ByteArray := prog_3_method_3_code
def y_Gm_hasStarted : MethodName := ⟨R_Gm, "hasStarted", "()Z"⟩
def i_Gm_hasStarted : List zI := [(0, .aload_n 0, 1, 0, 0), (1, .getfield 39, 3, 0, 0), (4, .ifnull 7, 3, 0, 11), (7, .iconst 1, 1, 1, 0), (8, .goto 4, 3, 0, 12), (11, .iconst 0, 1, 0, 0), (12, .ireturn, 1, 0, 0)]
theorem it_Gm_hasStarted : zT c_Gm_hasStarted i_Gm_hasStarted := zT_of (by decide +kernel)
theorem wc_Gm_hasStarted : Cond.code y_Gm_hasStarted c_Gm_hasStarted 1 (some .boolean) ∈ zWs := zmem 328 (by decide +kernel) rfl
theorem wn_Gm_hasStarted : Cond.initialized y_Gm_hasStarted.cls ∈ zWs := (zmem 40 (by decide +kernel) rfl)
theorem ws_Gm_hasStarted : Cond.instanceMethod y_Gm_hasStarted ∈ zWs := (zmem 326 (by decide +kernel) rfl)
theorem wv_Gm_hasStarted : Cond.selects R_Gm y_Gm_hasStarted y_Gm_hasStarted ∈ zWs := zmem 327 (by decide +kernel) rfl
abbrev c_Bd_isEmpty : ByteArray := prog_2_method_6_code
def y_Bd_isEmpty : MethodName := ⟨R_Bd, "isEmpty", "(I)Z"⟩
def i_Bd_isEmpty : List zI := [(0, .aload_n 0, 1, 0, 0), (1, .getfield 9, 3, 0, 0), (4, .iload_n 1, 1, 0, 0), (5, .iaload, 1, 0, 0), (6, .ifCond .ne 7, 3, 0, 13), (9, .iconst 1, 1, 1, 0), (10, .goto 4, 3, 0, 14), (13, .iconst 0, 1, 0, 0), (14, .ireturn, 1, 0, 0)]
theorem it_Bd_isEmpty : zT c_Bd_isEmpty i_Bd_isEmpty := zT_of (by decide +kernel)
theorem wc_Bd_isEmpty : Cond.code y_Bd_isEmpty c_Bd_isEmpty 2 (some .boolean) ∈ zWs := zmem 332 (by decide +kernel) rfl
theorem wn_Bd_isEmpty : Cond.initialized y_Bd_isEmpty.cls ∈ zWs := (zmem 41 (by decide +kernel) rfl)
theorem ws_Bd_isEmpty : Cond.instanceMethod y_Bd_isEmpty ∈ zWs := (zmem 330 (by decide +kernel) rfl)
theorem wv_Bd_isEmpty : Cond.selects R_Bd y_Bd_isEmpty y_Bd_isEmpty ∈ zWs := zmem 331 (by decide +kernel) rfl
abbrev c_Bd_countOf : ByteArray := prog_2_method_9_code
def y_Bd_countOf : MethodName := ⟨R_Bd, "countOf", "(I)I"⟩
def i_Bd_countOf : List zI := [(0, .aload_n 0, 1, 0, 0), (1, .iload_n 1, 1, 0, 0), (2, .invokevirtual 35, 3, 0, 0), (5, .invokestatic 39, 3, 0, 0), (8, .ireturn, 1, 0, 0)]
theorem it_Bd_countOf : zT c_Bd_countOf i_Bd_countOf := zT_of (by decide +kernel)
theorem wc_Bd_countOf : Cond.code y_Bd_countOf c_Bd_countOf 2 (some .int) ∈ zWs := zmem 336 (by decide +kernel) rfl
theorem wn_Bd_countOf : Cond.initialized y_Bd_countOf.cls ∈ zWs := (zmem 41 (by decide +kernel) rfl)
theorem ws_Bd_countOf : Cond.instanceMethod y_Bd_countOf ∈ zWs := (zmem 334 (by decide +kernel) rfl)
theorem wv_Bd_countOf : Cond.selects R_Bd y_Bd_countOf y_Bd_countOf ∈ zWs := zmem 335 (by decide +kernel) rfl
abbrev c_Bd_squaresOf : ByteArray := prog_2_method_8_code
def y_Bd_squaresOf : MethodName := ⟨R_Bd, "squaresOf", "(I)J"⟩
def i_Bd_squaresOf : List zI := [(0, .lconst 0, 1, 0, 0), (1, .lstore_n 2, 1, 0, 0), (2, .iconst 0, 1, 0, 0), (3, .istore 4, 2, 0, 0), (5, .iload 4, 2, 0, 0), (7, .bipush 36, 2, 36, 0), (9, .if_icmp .ge 26, 3, 0, 35), (12, .aload_n 0, 1, 0, 0), (13, .iload 4, 2, 0, 0), (15, .iload_n 1, 1, 0, 0), (16, .invokevirtual 31, 3, 0, 0), (19, .ifCond .eq 10, 3, 0, 29), (22, .lload_n 2, 1, 0, 0), (23, .lconst 1, 1, 0, 0), (24, .iload 4, 2, 0, 0), (26, .lshl, 1, 0, 0), (27, .lor, 1, 0, 0), (28, .lstore_n 2, 1, 0, 0), (29, .iinc 4 1, 3, 1, 0), (32, .goto (-27), 3, 0, 5), (35, .lload_n 2, 1, 0, 0), (36, .lreturn, 1, 0, 0)]
theorem it_Bd_squaresOf : zT c_Bd_squaresOf i_Bd_squaresOf := zT_of (by decide +kernel)
theorem wc_Bd_squaresOf : Cond.code y_Bd_squaresOf c_Bd_squaresOf 5 (some .long) ∈ zWs := zmem 340 (by decide +kernel) rfl
theorem wn_Bd_squaresOf : Cond.initialized y_Bd_squaresOf.cls ∈ zWs := (zmem 41 (by decide +kernel) rfl)
theorem ws_Bd_squaresOf : Cond.instanceMethod y_Bd_squaresOf ∈ zWs := (zmem 338 (by decide +kernel) rfl)
theorem wv_Bd_squaresOf : Cond.selects R_Bd y_Bd_squaresOf y_Bd_squaresOf ∈ zWs := zmem 339 (by decide +kernel) rfl
abbrev c_Bd_holds : ByteArray := prog_2_method_7_code
def y_Bd_holds : MethodName := ⟨R_Bd, "holds", "(II)Z"⟩
def i_Bd_holds : List zI := [(0, .aload_n 0, 1, 0, 0), (1, .getfield 9, 3, 0, 0), (4, .iload_n 1, 1, 0, 0), (5, .iaload, 1, 0, 0), (6, .ifCond .eq 20, 3, 0, 26), (9, .aload_n 0, 1, 0, 0), (10, .getfield 9, 3, 0, 0), (13, .iload_n 1, 1, 0, 0), (14, .iaload, 1, 0, 0), (15, .invokestatic 27, 3, 0, 0), (18, .iload_n 2, 1, 0, 0), (19, .if_icmp .ne 7, 3, 0, 26), (22, .iconst 1, 1, 1, 0), (23, .goto 4, 3, 0, 27), (26, .iconst 0, 1, 0, 0), (27, .ireturn, 1, 0, 0)]
theorem it_Bd_holds : zT c_Bd_holds i_Bd_holds := zT_of (by decide +kernel)
theorem wc_Bd_holds : Cond.code y_Bd_holds c_Bd_holds 3 (some .boolean) ∈ zWs := zmem 344 (by decide +kernel) rfl
theorem wn_Bd_holds : Cond.initialized y_Bd_holds.cls ∈ zWs := (zmem 41 (by decide +kernel) rfl)
theorem ws_Bd_holds : Cond.instanceMethod y_Bd_holds ∈ zWs := (zmem 342 (by decide +kernel) rfl)
theorem wv_Bd_holds : Cond.selects R_Bd y_Bd_holds y_Bd_holds ∈ zWs := zmem 343 (by decide +kernel) rfl
abbrev c_Pc_sideOf : ByteArray := prog_6_method_3_code
def y_Pc_sideOf : MethodName := ⟨R_Pc, "sideOf", "(I)I"⟩
def i_Pc_sideOf : List zI := [(0, .iload_n 0, 1, 0, 0), (1, .bipush 64, 2, 64, 0), (3, .iand, 1, 0, 0), (4, .ifCond .eq 7, 3, 0, 11), (7, .iconst 1, 1, 1, 0), (8, .goto 4, 3, 0, 12), (11, .iconst 0, 1, 0, 0), (12, .ireturn, 1, 0, 0)]
theorem it_Pc_sideOf : zT c_Pc_sideOf i_Pc_sideOf := zT_of (by decide +kernel)
theorem wc_Pc_sideOf : Cond.code y_Pc_sideOf c_Pc_sideOf 1 (some .int) ∈ zWs := zmem 347 (by decide +kernel) rfl
theorem wn_Pc_sideOf : Cond.initialized y_Pc_sideOf.cls ∈ zWs := (zmem 50 (by decide +kernel) rfl)
theorem ws_Pc_sideOf : Cond.static y_Pc_sideOf ∈ zWs := (zmem 346 (by decide +kernel) rfl)
abbrev c_Jl_bitCount : ByteArray := prog_15_method_50_code
def y_Jl_bitCount : MethodName := ⟨R_Jl, "bitCount", "(J)I"⟩
def i_Jl_bitCount : List zI := [(0, .lload_n 0, 1, 0, 0), (1, .lload_n 0, 1, 0, 0), (2, .iconst 1, 1, 1, 0), (3, .lushr, 1, 0, 0), (4, .ldc2_w 314, 3, 0, 0), (7, .land, 1, 0, 0), (8, .lsub, 1, 0, 0), (9, .lstore_n 0, 1, 0, 0), (10, .lload_n 0, 1, 0, 0), (11, .ldc2_w 316, 3, 0, 0), (14, .land, 1, 0, 0), (15, .lload_n 0, 1, 0, 0), (16, .iconst 2, 1, 2, 0), (17, .lushr, 1, 0, 0), (18, .ldc2_w 316, 3, 0, 0), (21, .land, 1, 0, 0), (22, .ladd, 1, 0, 0), (23, .lstore_n 0, 1, 0, 0), (24, .lload_n 0, 1, 0, 0), (25, .lload_n 0, 1, 0, 0), (26, .iconst 4, 1, 4, 0), (27, .lushr, 1, 0, 0), (28, .ladd, 1, 0, 0), (29, .ldc2_w 318, 3, 0, 0), (32, .land, 1, 0, 0), (33, .lstore_n 0, 1, 0, 0), (34, .lload_n 0, 1, 0, 0), (35, .lload_n 0, 1, 0, 0), (36, .bipush 8, 2, 8, 0), (38, .lushr, 1, 0, 0), (39, .ladd, 1, 0, 0), (40, .lstore_n 0, 1, 0, 0), (41, .lload_n 0, 1, 0, 0), (42, .lload_n 0, 1, 0, 0), (43, .bipush 16, 2, 16, 0), (45, .lushr, 1, 0, 0), (46, .ladd, 1, 0, 0), (47, .lstore_n 0, 1, 0, 0), (48, .lload_n 0, 1, 0, 0), (49, .lload_n 0, 1, 0, 0), (50, .bipush 32, 2, 32, 0), (52, .lushr, 1, 0, 0), (53, .ladd, 1, 0, 0), (54, .lstore_n 0, 1, 0, 0), (55, .lload_n 0, 1, 0, 0), (56, .l2i, 1, 0, 0), (57, .bipush 127, 2, 127, 0), (59, .iand, 1, 0, 0), (60, .ireturn, 1, 0, 0)]
theorem it_Jl_bitCount : zT c_Jl_bitCount i_Jl_bitCount := zT_of (by decide +kernel)
theorem wc_Jl_bitCount : Cond.code y_Jl_bitCount c_Jl_bitCount 2 (some .int) ∈ zWs := zmem 350 (by decide +kernel) rfl
theorem wn_Jl_bitCount : Cond.initialized y_Jl_bitCount.cls ∈ zWs := (zmem 51 (by decide +kernel) rfl)
theorem ws_Jl_bitCount : Cond.static y_Jl_bitCount ∈ zWs := (zmem 349 (by decide +kernel) rfl)
abbrev c_Bd_leaderSquare : ByteArray := prog_2_method_11_code
def y_Bd_leaderSquare : MethodName := ⟨R_Bd, "leaderSquare", "(I)I"⟩
def i_Bd_leaderSquare : List zI := [(0, .iconst 0, 1, 0, 0), (1, .istore_n 2, 1, 0, 0), (2, .iload_n 2, 1, 0, 0), (3, .bipush 36, 2, 36, 0), (5, .if_icmp .ge 32, 3, 0, 37), (8, .aload_n 0, 1, 0, 0), (9, .iload_n 2, 1, 0, 0), (10, .iload_n 1, 1, 0, 0), (11, .invokevirtual 31, 3, 0, 0), (14, .ifCond .eq 17, 3, 0, 31), (17, .aload_n 0, 1, 0, 0), (18, .getfield 9, 3, 0, 0), (21, .iload_n 2, 1, 0, 0), (22, .iaload, 1, 0, 0), (23, .invokestatic 48, 3, 0, 0), (26, .ifCond .eq 5, 3, 0, 31), (29, .iload_n 2, 1, 0, 0), (30, .ireturn, 1, 0, 0), (31, .iinc 2 1, 3, 1, 0), (34, .goto (-32), 3, 0, 2), (37, .iconst (-1), 1, -1, 0), (38, .ireturn, 1, 0, 0)]
theorem it_Bd_leaderSquare : zT c_Bd_leaderSquare i_Bd_leaderSquare := zT_of (by decide +kernel)
theorem wc_Bd_leaderSquare : Cond.code y_Bd_leaderSquare c_Bd_leaderSquare 3 (some .int) ∈ zWs := zmem 357 (by decide +kernel) rfl
theorem wn_Bd_leaderSquare : Cond.initialized y_Bd_leaderSquare.cls ∈ zWs := (zmem 41 (by decide +kernel) rfl)
theorem ws_Bd_leaderSquare : Cond.instanceMethod y_Bd_leaderSquare ∈ zWs := (zmem 355 (by decide +kernel) rfl)
theorem wv_Bd_leaderSquare : Cond.selects R_Bd y_Bd_leaderSquare y_Bd_leaderSquare ∈ zWs := zmem 356 (by decide +kernel) rfl
abbrev c_Pc_leads : ByteArray := prog_6_method_5_code
def y_Pc_leads : MethodName := ⟨R_Pc, "leads", "(I)Z"⟩
def i_Pc_leads : List zI := [(0, .iload_n 0, 1, 0, 0), (1, .bipush 32, 2, 32, 0), (3, .iand, 1, 0, 0), (4, .ifCond .eq 7, 3, 0, 11), (7, .iconst 1, 1, 1, 0), (8, .goto 4, 3, 0, 12), (11, .iconst 0, 1, 0, 0), (12, .ireturn, 1, 0, 0)]
theorem it_Pc_leads : zT c_Pc_leads i_Pc_leads := zT_of (by decide +kernel)
theorem wc_Pc_leads : Cond.code y_Pc_leads c_Pc_leads 1 (some .boolean) ∈ zWs := zmem 360 (by decide +kernel) rfl
theorem wn_Pc_leads : Cond.initialized y_Pc_leads.cls ∈ zWs := (zmem 50 (by decide +kernel) rfl)
theorem ws_Pc_leads : Cond.static y_Pc_leads ∈ zWs := (zmem 359 (by decide +kernel) rfl)
abbrev c_Hs_remember : ByteArray := prog_4_method_2_code
def y_Hs_remember : MethodName := ⟨R_Hs, "remember", "(LBrackenGambit$Game;)V"⟩
def i_Hs_remember : List zI := [(0, .aload_n 0, 1, 0, 0), (1, .getfield 15, 3, 0, 0), (4, .iconst 5, 1, 5, 0), (5, .if_icmp .lt 7, 3, 0, 12), (8, .aload_n 0, 1, 0, 0), (9, .invokevirtual 20, 3, 0, 0), (12, .aload_n 0, 1, 0, 0), (13, .getfield 11, 3, 0, 0), (16, .aload_n 0, 1, 0, 0), (17, .getfield 15, 3, 0, 0), (20, .aaload, 1, 0, 0), (21, .aload_n 1, 1, 0, 0), (22, .invokevirtual 23, 3, 0, 0), (25, .aload_n 0, 1, 0, 0), (26, .dup, 1, 0, 0), (27, .getfield 15, 3, 0, 0), (30, .iconst 1, 1, 1, 0), (31, .iadd, 1, 0, 0), (32, .putfield 15, 3, 0, 0), (35, .return_, 1, 0, 0)]
theorem it_Hs_remember : zT c_Hs_remember i_Hs_remember := zT_of (by decide +kernel)
theorem wc_Hs_remember : Cond.code y_Hs_remember c_Hs_remember 2 none ∈ zWs := zmem 380 (by decide +kernel) rfl
theorem wn_Hs_remember : Cond.initialized y_Hs_remember.cls ∈ zWs := (zmem 42 (by decide +kernel) rfl)
theorem ws_Hs_remember : Cond.instanceMethod y_Hs_remember ∈ zWs := (zmem 378 (by decide +kernel) rfl)
theorem wv_Hs_remember : Cond.selects R_Hs y_Hs_remember y_Hs_remember ∈ zWs := zmem 379 (by decide +kernel) rfl
abbrev c_Hs_dropOldest : ByteArray := prog_4_method_3_code
def y_Hs_dropOldest : MethodName := ⟨R_Hs, "dropOldest", "()V"⟩
def i_Hs_dropOldest : List zI := [(0, .aload_n 0, 1, 0, 0), (1, .getfield 11, 3, 0, 0), (4, .iconst 0, 1, 0, 0), (5, .aaload, 1, 0, 0), (6, .astore_n 1, 1, 0, 0), (7, .iconst 1, 1, 1, 0), (8, .istore_n 2, 1, 0, 0), (9, .iload_n 2, 1, 0, 0), (10, .iconst 5, 1, 5, 0), (11, .if_icmp .ge 23, 3, 0, 34), (14, .aload_n 0, 1, 0, 0), (15, .getfield 11, 3, 0, 0), (18, .iload_n 2, 1, 0, 0), (19, .iconst 1, 1, 1, 0), (20, .isub, 1, 0, 0), (21, .aload_n 0, 1, 0, 0), (22, .getfield 11, 3, 0, 0), (25, .iload_n 2, 1, 0, 0), (26, .aaload, 1, 0, 0), (27, .aastore, 1, 0, 0), (28, .iinc 2 1, 3, 1, 0), (31, .goto (-22), 3, 0, 9), (34, .aload_n 0, 1, 0, 0), (35, .getfield 11, 3, 0, 0), (38, .iconst 4, 1, 4, 0), (39, .aload_n 1, 1, 0, 0), (40, .aastore, 1, 0, 0), (41, .aload_n 0, 1, 0, 0), (42, .dup, 1, 0, 0), (43, .getfield 15, 3, 0, 0), (46, .iconst 1, 1, 1, 0), (47, .isub, 1, 0, 0), (48, .putfield 15, 3, 0, 0), (51, .return_, 1, 0, 0)]
theorem it_Hs_dropOldest : zT c_Hs_dropOldest i_Hs_dropOldest := zT_of (by decide +kernel)
theorem wc_Hs_dropOldest : Cond.code y_Hs_dropOldest c_Hs_dropOldest 3 none ∈ zWs := zmem 384 (by decide +kernel) rfl
theorem wn_Hs_dropOldest : Cond.initialized y_Hs_dropOldest.cls ∈ zWs := (zmem 42 (by decide +kernel) rfl)
theorem ws_Hs_dropOldest : Cond.instanceMethod y_Hs_dropOldest ∈ zWs := (zmem 383 (by decide +kernel) rfl)
theorem wv_Hs_dropOldest : Cond.selects R_Hs y_Hs_dropOldest y_Hs_dropOldest ∈ zWs := zmem 4 (by decide +kernel) rfl
abbrev c_Gm_copy : ByteArray := prog_3_method_2_code
def y_Gm_copy : MethodName := ⟨R_Gm, "copy", "(LBrackenGambit$Game;)V"⟩
def i_Gm_copy : List zI := [(0, .aload_n 0, 1, 0, 0), (1, .getfield 12, 3, 0, 0), (4, .aload_n 1, 1, 0, 0), (5, .getfield 12, 3, 0, 0), (8, .invokevirtual 43, 3, 0, 0), (11, .iconst 0, 1, 0, 0), (12, .istore_n 2, 1, 0, 0), (13, .iload_n 2, 1, 0, 0), (14, .iconst 2, 1, 2, 0), (15, .if_icmp .ge 33, 3, 0, 48), (18, .aload_n 0, 1, 0, 0), (19, .getfield 18, 3, 0, 0), (22, .iload_n 2, 1, 0, 0), (23, .aload_n 1, 1, 0, 0), (24, .getfield 18, 3, 0, 0), (27, .iload_n 2, 1, 0, 0), (28, .iaload, 1, 0, 0), (29, .iastore, 1, 0, 0), (30, .aload_n 0, 1, 0, 0), (31, .getfield 22, 3, 0, 0), (34, .iload_n 2, 1, 0, 0), (35, .aload_n 1, 1, 0, 0), (36, .getfield 22, 3, 0, 0), (39, .iload_n 2, 1, 0, 0), (40, .iaload, 1, 0, 0), (41, .iastore, 1, 0, 0), (42, .iinc 2 1, 3, 1, 0), (45, .goto (-32), 3, 0, 13), (48, .aload_n 0, 1, 0, 0), (49, .aload_n 1, 1, 0, 0), (50, .getfield 25, 3, 0, 0), (53, .putfield 25, 3, 0, 0), (56, .aload_n 0, 1, 0, 0), (57, .aload_n 1, 1, 0, 0), (58, .getfield 29, 3, 0, 0), (61, .putfield 29, 3, 0, 0), (64, .aload_n 0, 1, 0, 0), (65, .aload_n 1, 1, 0, 0), (66, .getfield 32, 3, 0, 0), (69, .putfield 32, 3, 0, 0), (72, .aload_n 0, 1, 0, 0), (73, .aload_n 1, 1, 0, 0), (74, .getfield 36, 3, 0, 0), (77, .putfield 36, 3, 0, 0), (80, .aload_n 0, 1, 0, 0), (81, .aload_n 1, 1, 0, 0), (82, .getfield 39, 3, 0, 0), (85, .putfield 39, 3, 0, 0), (88, .return_, 1, 0, 0)]
theorem it_Gm_copy : zT c_Gm_copy i_Gm_copy := zT_of (by decide +kernel)
theorem wc_Gm_copy : Cond.code y_Gm_copy c_Gm_copy 3 none ∈ zWs := zmem 388 (by decide +kernel) rfl
theorem wn_Gm_copy : Cond.initialized y_Gm_copy.cls ∈ zWs := (zmem 40 (by decide +kernel) rfl)
theorem ws_Gm_copy : Cond.instanceMethod y_Gm_copy ∈ zWs := (zmem 386 (by decide +kernel) rfl)
theorem wv_Gm_copy : Cond.selects R_Gm y_Gm_copy y_Gm_copy ∈ zWs := zmem 387 (by decide +kernel) rfl
abbrev c_Bd_copy : ByteArray := prog_2_method_2_code
def y_Bd_copy : MethodName := ⟨R_Bd, "copy", "(LBrackenGambit$Board;)V"⟩
def i_Bd_copy : List zI := [(0, .aload_n 1, 1, 0, 0), (1, .getfield 9, 3, 0, 0), (4, .iconst 0, 1, 0, 0), (5, .aload_n 0, 1, 0, 0), (6, .getfield 9, 3, 0, 0), (9, .iconst 0, 1, 0, 0), (10, .bipush 36, 2, 36, 0), (12, .invokestatic 15, 3, 0, 0), (15, .return_, 1, 0, 0)]
theorem it_Bd_copy : zT c_Bd_copy i_Bd_copy := zT_of (by decide +kernel)
theorem wc_Bd_copy : Cond.code y_Bd_copy c_Bd_copy 2 none ∈ zWs := zmem 392 (by decide +kernel) rfl
theorem wn_Bd_copy : Cond.initialized y_Bd_copy.cls ∈ zWs := (zmem 41 (by decide +kernel) rfl)
theorem ws_Bd_copy : Cond.instanceMethod y_Bd_copy ∈ zWs := (zmem 390 (by decide +kernel) rfl)
theorem wv_Bd_copy : Cond.selects R_Bd y_Bd_copy y_Bd_copy ∈ zWs := zmem 391 (by decide +kernel) rfl
abbrev c_Pc_of : ByteArray := prog_6_method_2_code
def y_Pc_of : MethodName := ⟨R_Pc, "of", "(IIZ)I"⟩
def i_Pc_of : List zI := [(0, .iload_n 1, 1, 0, 0), (1, .iload_n 2, 1, 0, 0), (2, .ifCond .eq 8, 3, 0, 10), (5, .bipush 32, 2, 32, 0), (7, .goto 4, 3, 0, 11), (10, .iconst 0, 1, 0, 0), (11, .ior, 1, 0, 0), (12, .iload_n 0, 1, 0, 0), (13, .iconst 1, 1, 1, 0), (14, .if_icmp .ne 8, 3, 0, 22), (17, .bipush 64, 2, 64, 0), (19, .goto 4, 3, 0, 23), (22, .iconst 0, 1, 0, 0), (23, .ior, 1, 0, 0), (24, .ireturn, 1, 0, 0)]
theorem it_Pc_of : zT c_Pc_of i_Pc_of := zT_of (by decide +kernel)
theorem wc_Pc_of : Cond.code y_Pc_of c_Pc_of 3 (some .int) ∈ zWs := zmem 398 (by decide +kernel) rfl
theorem wn_Pc_of : Cond.initialized y_Pc_of.cls ∈ zWs := (zmem 50 (by decide +kernel) rfl)
theorem ws_Pc_of : Cond.static y_Pc_of ∈ zWs := (zmem 397 (by decide +kernel) rfl)
abbrev c_Gm_addPiece : ByteArray := prog_3_method_6_code
def y_Gm_addPiece : MethodName := ⟨R_Gm, "addPiece", "(II)V"⟩
def i_Gm_addPiece : List zI := [(0, .aload_n 0, 1, 0, 0), (1, .getfield 12, 3, 0, 0), (4, .iload_n 1, 1, 0, 0), (5, .iload_n 2, 1, 0, 0), (6, .invokevirtual 67, 3, 0, 0), (9, .aload_n 0, 1, 0, 0), (10, .getfield 18, 3, 0, 0), (13, .iload_n 2, 1, 0, 0), (14, .invokestatic 71, 3, 0, 0), (17, .dup2, 1, 0, 0), (18, .iaload, 1, 0, 0), (19, .iload_n 2, 1, 0, 0), (20, .invokestatic 76, 3, 0, 0), (23, .iadd, 1, 0, 0), (24, .iastore, 1, 0, 0), (25, .return_, 1, 0, 0)]
theorem it_Gm_addPiece : zT c_Gm_addPiece i_Gm_addPiece := zT_of (by decide +kernel)
theorem wc_Gm_addPiece : Cond.code y_Gm_addPiece c_Gm_addPiece 3 none ∈ zWs := zmem 402 (by decide +kernel) rfl
theorem wn_Gm_addPiece : Cond.initialized y_Gm_addPiece.cls ∈ zWs := (zmem 40 (by decide +kernel) rfl)
theorem ws_Gm_addPiece : Cond.instanceMethod y_Gm_addPiece ∈ zWs := (zmem 400 (by decide +kernel) rfl)
theorem wv_Gm_addPiece : Cond.selects R_Gm y_Gm_addPiece y_Gm_addPiece ∈ zWs := zmem 401 (by decide +kernel) rfl
abbrev c_Bd_set : ByteArray := prog_2_method_4_code
def y_Bd_set : MethodName := ⟨R_Bd, "set", "(II)V"⟩
def i_Bd_set : List zI := [(0, .aload_n 0, 1, 0, 0), (1, .getfield 9, 3, 0, 0), (4, .iload_n 1, 1, 0, 0), (5, .iload_n 2, 1, 0, 0), (6, .iastore, 1, 0, 0), (7, .return_, 1, 0, 0)]
theorem it_Bd_set : zT c_Bd_set i_Bd_set := zT_of (by decide +kernel)
theorem wc_Bd_set : Cond.code y_Bd_set c_Bd_set 3 none ∈ zWs := zmem 406 (by decide +kernel) rfl
theorem wn_Bd_set : Cond.initialized y_Bd_set.cls ∈ zWs := (zmem 41 (by decide +kernel) rfl)
theorem ws_Bd_set : Cond.instanceMethod y_Bd_set ∈ zWs := (zmem 404 (by decide +kernel) rfl)
theorem wv_Bd_set : Cond.selects R_Bd y_Bd_set y_Bd_set ∈ zWs := zmem 405 (by decide +kernel) rfl
abbrev c_Pc_worthOf : ByteArray := prog_6_method_7_code
def y_Pc_worthOf : MethodName := ⟨R_Pc, "worthOf", "(I)I"⟩
def i_Pc_worthOf : List zI := [(0, .iload_n 0, 1, 0, 0), (1, .invokestatic 11, 3, 0, 0), (4, .invokestatic 15, 3, 0, 0), (7, .iload_n 0, 1, 0, 0), (8, .invokestatic 18, 3, 0, 0), (11, .ifCond .eq 8, 3, 0, 19), (14, .bipush 10, 2, 10, 0), (16, .goto 4, 3, 0, 20), (19, .iconst 0, 1, 0, 0), (20, .iadd, 1, 0, 0), (21, .ireturn, 1, 0, 0)]
theorem it_Pc_worthOf : zT c_Pc_worthOf i_Pc_worthOf := zT_of (by decide +kernel)
theorem wc_Pc_worthOf : Cond.code y_Pc_worthOf c_Pc_worthOf 1 (some .int) ∈ zWs := zmem 410 (by decide +kernel) rfl
theorem wn_Pc_worthOf : Cond.initialized y_Pc_worthOf.cls ∈ zWs := (zmem 50 (by decide +kernel) rfl)
theorem ws_Pc_worthOf : Cond.static y_Pc_worthOf ∈ zWs := (zmem 409 (by decide +kernel) rfl)
abbrev c_Pc_stepsOf : ByteArray := prog_6_method_4_code
def y_Pc_stepsOf : MethodName := ⟨R_Pc, "stepsOf", "(I)I"⟩
def i_Pc_stepsOf : List zI := [(0, .iload_n 0, 1, 0, 0), (1, .bipush 31, 2, 31, 0), (3, .iand, 1, 0, 0), (4, .ireturn, 1, 0, 0)]
theorem it_Pc_stepsOf : zT c_Pc_stepsOf i_Pc_stepsOf := zT_of (by decide +kernel)
theorem wc_Pc_stepsOf : Cond.code y_Pc_stepsOf c_Pc_stepsOf 1 (some .int) ∈ zWs := zmem 413 (by decide +kernel) rfl
theorem wn_Pc_stepsOf : Cond.initialized y_Pc_stepsOf.cls ∈ zWs := (zmem 50 (by decide +kernel) rfl)
theorem ws_Pc_stepsOf : Cond.static y_Pc_stepsOf ∈ zWs := (zmem 412 (by decide +kernel) rfl)
abbrev c_Pc_worthOfSteps : ByteArray := prog_6_method_8_code
def y_Pc_worthOfSteps : MethodName := ⟨R_Pc, "worthOfSteps", "(I)I"⟩
def i_Pc_worthOfSteps : List zI := [(0, .iconst 0, 1, 0, 0), (1, .istore_n 1, 1, 0, 0), (2, .iconst 0, 1, 0, 0), (3, .istore_n 2, 1, 0, 0), (4, .iload_n 2, 1, 0, 0), (5, .iconst 5, 1, 5, 0), (6, .if_icmp .ge 25, 3, 0, 31), (9, .iload_n 0, 1, 0, 0), (10, .iload_n 2, 1, 0, 0), (11, .invokestatic 22, 3, 0, 0), (14, .ifCond .eq 11, 3, 0, 25), (17, .iload_n 1, 1, 0, 0), (18, .getstatic 26, 3, 0, 0), (21, .iload_n 2, 1, 0, 0), (22, .iaload, 1, 0, 0), (23, .iadd, 1, 0, 0), (24, .istore_n 1, 1, 0, 0), (25, .iinc 2 1, 3, 1, 0), (28, .goto (-24), 3, 0, 4), (31, .iload_n 1, 1, 0, 0), (32, .ireturn, 1, 0, 0)]
theorem it_Pc_worthOfSteps : zT c_Pc_worthOfSteps i_Pc_worthOfSteps := zT_of (by decide +kernel)
theorem wc_Pc_worthOfSteps : Cond.code y_Pc_worthOfSteps c_Pc_worthOfSteps 3 (some .int) ∈ zWs := zmem 416 (by decide +kernel) rfl
theorem wn_Pc_worthOfSteps : Cond.initialized y_Pc_worthOfSteps.cls ∈ zWs := (zmem 50 (by decide +kernel) rfl)
theorem ws_Pc_worthOfSteps : Cond.static y_Pc_worthOfSteps ∈ zWs := (zmem 415 (by decide +kernel) rfl)
abbrev c_Pc_knows : ByteArray := prog_6_method_6_code
def y_Pc_knows : MethodName := ⟨R_Pc, "knows", "(II)Z"⟩
def i_Pc_knows : List zI := [(0, .iload_n 0, 1, 0, 0), (1, .iload_n 1, 1, 0, 0), (2, .ishr, 1, 0, 0), (3, .iconst 1, 1, 1, 0), (4, .iand, 1, 0, 0), (5, .ifCond .eq 7, 3, 0, 12), (8, .iconst 1, 1, 1, 0), (9, .goto 4, 3, 0, 13), (12, .iconst 0, 1, 0, 0), (13, .ireturn, 1, 0, 0)]
theorem it_Pc_knows : zT c_Pc_knows i_Pc_knows := zT_of (by decide +kernel)
theorem wc_Pc_knows : Cond.code y_Pc_knows c_Pc_knows 2 (some .boolean) ∈ zWs := zmem 419 (by decide +kernel) rfl
theorem wn_Pc_knows : Cond.initialized y_Pc_knows.cls ∈ zWs := (zmem 50 (by decide +kernel) rfl)
theorem ws_Pc_knows : Cond.static y_Pc_knows ∈ zWs := (zmem 418 (by decide +kernel) rfl)
abbrev c_Lw_putLeader : ByteArray := method_4_code
def y_Lw_putLeader : MethodName := ⟨R_Lw, "putLeader", "(LBrackenGambit;III[J)I"⟩
def i_Lw_putLeader : List zI := [(0, .aload 4, 2, 0, 0), (2, .iconst 0, 1, 0, 0), (3, .aload_n 0, 1, 0, 0), (4, .iload_n 1, 1, 0, 0), (5, .iload_n 2, 1, 0, 0), (6, .iload_n 3, 1, 0, 0), (7, .invokevirtual 19, 3, 0, 0), (10, .i2l, 1, 0, 0), (11, .lastore, 1, 0, 0), (12, .goto 15, 3, 0, 27), (15, .astore 5, 2, 0, 0), (17, .iconst 1, 1, 1, 0), (18, .ireturn, 1, 0, 0), (19, .astore 5, 2, 0, 0), (21, .iconst 2, 1, 2, 0), (22, .ireturn, 1, 0, 0), (23, .astore 5, 2, 0, 0), (25, .iconst 3, 1, 3, 0), (26, .ireturn, 1, 0, 0), (27, .iconst 0, 1, 0, 0), (28, .ireturn, 1, 0, 0)]
theorem it_Lw_putLeader : zT c_Lw_putLeader i_Lw_putLeader := zT_of (by decide +kernel)
def hh_Lw_putLeader : List (Nat × Nat × Nat × Nat) := [(0, 12, 15, 13), (0, 12, 19, 15), (0, 12, 23, 17)]
theorem wc_Lw_putLeader : Cond.codeWith y_Lw_putLeader c_Lw_putLeader 6 (some .int) hh_Lw_putLeader ∈ zWs := zmem 426 (by decide +kernel) rfl
theorem wn_Lw_putLeader : Cond.initialized y_Lw_putLeader.cls ∈ zWs := (zmem 38 (by decide +kernel) rfl)
theorem ws_Lw_putLeader : Cond.static y_Lw_putLeader ∈ zWs := (zmem 425 (by decide +kernel) rfl)
abbrev c_Xx_putLeader : ByteArray := prog_1_method_3_code
def y_Xx_putLeader : MethodName := ⟨R_Xx, "putLeader", "(III)I"⟩
def i_Xx_putLeader : List zI := [(0, .aload_n 0, 1, 0, 0), (1, .iload_n 1, 1, 0, 0), (2, .iload_n 2, 1, 0, 0), (3, .iload_n 3, 1, 0, 0), (4, .iconst 1, 1, 1, 0), (5, .invokevirtual 37, 3, 0, 0), (8, .ireturn, 1, 0, 0)]
theorem it_Xx_putLeader : zT c_Xx_putLeader i_Xx_putLeader := zT_of (by decide +kernel)
theorem wc_Xx_putLeader : Cond.code y_Xx_putLeader c_Xx_putLeader 4 (some .int) ∈ zWs := zmem 430 (by decide +kernel) rfl
theorem wn_Xx_putLeader : Cond.initialized y_Xx_putLeader.cls ∈ zWs := (zmem 39 (by decide +kernel) rfl)
theorem ws_Xx_putLeader : Cond.instanceMethod y_Xx_putLeader ∈ zWs := (zmem 428 (by decide +kernel) rfl)
theorem wv_Xx_putLeader : Cond.selects R_Xx y_Xx_putLeader y_Xx_putLeader ∈ zWs := zmem 429 (by decide +kernel) rfl
abbrev c_Lw_takeAway : ByteArray := method_5_code
def y_Lw_takeAway : MethodName := ⟨R_Lw, "takeAway", "(LBrackenGambit;I[J)I"⟩
def i_Lw_takeAway : List zI := [(0, .aload_n 2, 1, 0, 0), (1, .iconst 0, 1, 0, 0), (2, .aload_n 0, 1, 0, 0), (3, .iload_n 1, 1, 0, 0), (4, .invokevirtual 22, 3, 0, 0), (7, .i2l, 1, 0, 0), (8, .lastore, 1, 0, 0), (9, .goto 9, 3, 0, 18), (12, .astore_n 3, 1, 0, 0), (13, .iconst 1, 1, 1, 0), (14, .ireturn, 1, 0, 0), (15, .astore_n 3, 1, 0, 0), (16, .iconst 2, 1, 2, 0), (17, .ireturn, 1, 0, 0), (18, .iconst 0, 1, 0, 0), (19, .ireturn, 1, 0, 0)]
theorem it_Lw_takeAway : zT c_Lw_takeAway i_Lw_takeAway := zT_of (by decide +kernel)
def hh_Lw_takeAway : List (Nat × Nat × Nat × Nat) := [(0, 9, 12, 13), (0, 9, 15, 17)]
theorem wc_Lw_takeAway : Cond.codeWith y_Lw_takeAway c_Lw_takeAway 4 (some .int) hh_Lw_takeAway ∈ zWs := zmem 433 (by decide +kernel) rfl
theorem wn_Lw_takeAway : Cond.initialized y_Lw_takeAway.cls ∈ zWs := (zmem 38 (by decide +kernel) rfl)
theorem ws_Lw_takeAway : Cond.static y_Lw_takeAway ∈ zWs := (zmem 432 (by decide +kernel) rfl)
abbrev c_Xx_takeAway : ByteArray := prog_1_method_4_code
def y_Xx_takeAway : MethodName := ⟨R_Xx, "takeAway", "(I)I"⟩
def i_Xx_takeAway : List zI := [(0, .iload_n 1, 1, 0, 0), (1, .invokestatic 41, 3, 0, 0), (4, .aload_n 0, 1, 0, 0), (5, .getfield 10, 3, 0, 0), (8, .invokevirtual 45, 3, 0, 0), (11, .ifCond .ne 17, 3, 0, 28), (14, .aload_n 0, 1, 0, 0), (15, .getfield 10, 3, 0, 0), (18, .getfield 49, 3, 0, 0), (21, .iload_n 1, 1, 0, 0), (22, .invokevirtual 52, 3, 0, 0), (25, .ifCond .eq 13, 3, 0, 38), (28, .new 56, 3, 0, 0), (31, .dup, 1, 0, 0), (32, .ldc 58, 2, 0, 0), (34, .invokespecial 60, 3, 0, 0), (37, .athrow, 1, 0, 0), (38, .aload_n 0, 1, 0, 0), (39, .getfield 19, 3, 0, 0), (42, .aload_n 0, 1, 0, 0), (43, .getfield 10, 3, 0, 0), (46, .invokevirtual 63, 3, 0, 0), (49, .aload_n 0, 1, 0, 0), (50, .getfield 10, 3, 0, 0), (53, .iload_n 1, 1, 0, 0), (54, .invokevirtual 67, 3, 0, 0), (57, .ireturn, 1, 0, 0)]
theorem it_Xx_takeAway : zT c_Xx_takeAway i_Xx_takeAway := zT_of (by decide +kernel)
theorem wc_Xx_takeAway : Cond.code y_Xx_takeAway c_Xx_takeAway 2 (some .int) ∈ zWs := zmem 437 (by decide +kernel) rfl
theorem wn_Xx_takeAway : Cond.initialized y_Xx_takeAway.cls ∈ zWs := (zmem 39 (by decide +kernel) rfl)
theorem ws_Xx_takeAway : Cond.instanceMethod y_Xx_takeAway ∈ zWs := (zmem 435 (by decide +kernel) rfl)
theorem wv_Xx_takeAway : Cond.selects R_Xx y_Xx_takeAway y_Xx_takeAway ∈ zWs := zmem 436 (by decide +kernel) rfl
abbrev c_Gm_removePiece : ByteArray := prog_3_method_7_code
def y_Gm_removePiece : MethodName := ⟨R_Gm, "removePiece", "(I)I"⟩
def i_Gm_removePiece : List zI := [(0, .aload_n 0, 1, 0, 0), (1, .getfield 12, 3, 0, 0), (4, .iload_n 1, 1, 0, 0), (5, .invokevirtual 79, 3, 0, 0), (8, .istore_n 2, 1, 0, 0), (9, .iload_n 2, 1, 0, 0), (10, .invokestatic 76, 3, 0, 0), (13, .istore_n 3, 1, 0, 0), (14, .aload_n 0, 1, 0, 0), (15, .getfield 12, 3, 0, 0), (18, .iload_n 1, 1, 0, 0), (19, .iconst 0, 1, 0, 0), (20, .invokevirtual 67, 3, 0, 0), (23, .aload_n 0, 1, 0, 0), (24, .getfield 18, 3, 0, 0), (27, .iload_n 2, 1, 0, 0), (28, .invokestatic 71, 3, 0, 0), (31, .dup2, 1, 0, 0), (32, .iaload, 1, 0, 0), (33, .iload_n 3, 1, 0, 0), (34, .isub, 1, 0, 0), (35, .iastore, 1, 0, 0), (36, .iload_n 3, 1, 0, 0), (37, .ireturn, 1, 0, 0)]
theorem it_Gm_removePiece : zT c_Gm_removePiece i_Gm_removePiece := zT_of (by decide +kernel)
theorem wc_Gm_removePiece : Cond.code y_Gm_removePiece c_Gm_removePiece 4 (some .int) ∈ zWs := zmem 444 (by decide +kernel) rfl
theorem wn_Gm_removePiece : Cond.initialized y_Gm_removePiece.cls ∈ zWs := (zmem 40 (by decide +kernel) rfl)
theorem ws_Gm_removePiece : Cond.instanceMethod y_Gm_removePiece ∈ zWs := (zmem 442 (by decide +kernel) rfl)
theorem wv_Gm_removePiece : Cond.selects R_Gm y_Gm_removePiece y_Gm_removePiece ∈ zWs := zmem 443 (by decide +kernel) rfl
abbrev c_Bd_pieceOn : ByteArray := prog_2_method_3_code
def y_Bd_pieceOn : MethodName := ⟨R_Bd, "pieceOn", "(I)I"⟩
def i_Bd_pieceOn : List zI := [(0, .aload_n 0, 1, 0, 0), (1, .getfield 9, 3, 0, 0), (4, .iload_n 1, 1, 0, 0), (5, .iaload, 1, 0, 0), (6, .ireturn, 1, 0, 0)]
theorem it_Bd_pieceOn : zT c_Bd_pieceOn i_Bd_pieceOn := zT_of (by decide +kernel)
theorem wc_Bd_pieceOn : Cond.code y_Bd_pieceOn c_Bd_pieceOn 2 (some .int) ∈ zWs := zmem 448 (by decide +kernel) rfl
theorem wn_Bd_pieceOn : Cond.initialized y_Bd_pieceOn.cls ∈ zWs := (zmem 41 (by decide +kernel) rfl)
theorem ws_Bd_pieceOn : Cond.instanceMethod y_Bd_pieceOn ∈ zWs := (zmem 446 (by decide +kernel) rfl)
theorem wv_Bd_pieceOn : Cond.selects R_Bd y_Bd_pieceOn y_Bd_pieceOn ∈ zWs := zmem 447 (by decide +kernel) rfl
abbrev c_Lw_start : ByteArray := method_6_code
def y_Lw_start : MethodName := ⟨R_Lw, "start", "(LBrackenGambit;[J)I"⟩
def i_Lw_start : List zI := [(0, .aload_n 1, 1, 0, 0), (1, .iconst 0, 1, 0, 0), (2, .aload_n 0, 1, 0, 0), (3, .invokevirtual 26, 3, 0, 0), (6, .i2l, 1, 0, 0), (7, .lastore, 1, 0, 0), (8, .goto 6, 3, 0, 14), (11, .astore_n 2, 1, 0, 0), (12, .iconst 1, 1, 1, 0), (13, .ireturn, 1, 0, 0), (14, .iconst 0, 1, 0, 0), (15, .ireturn, 1, 0, 0)]
theorem it_Lw_start : zT c_Lw_start i_Lw_start := zT_of (by decide +kernel)
def hh_Lw_start : List (Nat × Nat × Nat × Nat) := [(0, 8, 11, 17)]
theorem wc_Lw_start : Cond.codeWith y_Lw_start c_Lw_start 3 (some .int) hh_Lw_start ∈ zWs := zmem 451 (by decide +kernel) rfl
theorem wn_Lw_start : Cond.initialized y_Lw_start.cls ∈ zWs := (zmem 38 (by decide +kernel) rfl)
theorem ws_Lw_start : Cond.static y_Lw_start ∈ zWs := (zmem 450 (by decide +kernel) rfl)
abbrev c_Xx_start : ByteArray := prog_1_method_5_code
def y_Xx_start : MethodName := ⟨R_Xx, "start", "()I"⟩
def i_Xx_start : List zI := [(0, .aload_n 0, 1, 0, 0), (1, .getfield 10, 3, 0, 0), (4, .invokevirtual 71, 3, 0, 0), (7, .ifCond .ne 13, 3, 0, 20), (10, .new 56, 3, 0, 0), (13, .dup, 1, 0, 0), (14, .ldc 74, 2, 0, 0), (16, .invokespecial 60, 3, 0, 0), (19, .athrow, 1, 0, 0), (20, .aload_n 0, 1, 0, 0), (21, .getfield 19, 3, 0, 0), (24, .aload_n 0, 1, 0, 0), (25, .getfield 10, 3, 0, 0), (28, .invokevirtual 63, 3, 0, 0), (31, .aload_n 0, 1, 0, 0), (32, .getfield 10, 3, 0, 0), (35, .invokevirtual 76, 3, 0, 0), (38, .ireturn, 1, 0, 0)]
theorem it_Xx_start : zT c_Xx_start i_Xx_start := zT_of (by decide +kernel)
theorem wc_Xx_start : Cond.code y_Xx_start c_Xx_start 1 (some .int) ∈ zWs := zmem 455 (by decide +kernel) rfl
theorem wn_Xx_start : Cond.initialized y_Xx_start.cls ∈ zWs := (zmem 39 (by decide +kernel) rfl)
theorem ws_Xx_start : Cond.instanceMethod y_Xx_start ∈ zWs := (zmem 453 (by decide +kernel) rfl)
theorem wv_Xx_start : Cond.selects R_Xx y_Xx_start y_Xx_start ∈ zWs := zmem 454 (by decide +kernel) rfl
abbrev c_Gm_canBegin : ByteArray := prog_3_method_8_code
def y_Gm_canBegin : MethodName := ⟨R_Gm, "canBegin", "()Z"⟩
def i_Gm_canBegin : List zI := [(0, .aload_n 0, 1, 0, 0), (1, .invokevirtual 52, 3, 0, 0), (4, .ifCond .ne 31, 3, 0, 35), (7, .aload_n 0, 1, 0, 0), (8, .getfield 12, 3, 0, 0), (11, .iconst 0, 1, 0, 0), (12, .invokevirtual 64, 3, 0, 0), (15, .iconst (-1), 1, -1, 0), (16, .if_icmp .eq 19, 3, 0, 35), (19, .aload_n 0, 1, 0, 0), (20, .getfield 12, 3, 0, 0), (23, .iconst 1, 1, 1, 0), (24, .invokevirtual 64, 3, 0, 0), (27, .iconst (-1), 1, -1, 0), (28, .if_icmp .eq 7, 3, 0, 35), (31, .iconst 1, 1, 1, 0), (32, .goto 4, 3, 0, 36), (35, .iconst 0, 1, 0, 0), (36, .ireturn, 1, 0, 0)]
theorem it_Gm_canBegin : zT c_Gm_canBegin i_Gm_canBegin := zT_of (by decide +kernel)
theorem wc_Gm_canBegin : Cond.code y_Gm_canBegin c_Gm_canBegin 1 (some .boolean) ∈ zWs := zmem 459 (by decide +kernel) rfl
theorem wn_Gm_canBegin : Cond.initialized y_Gm_canBegin.cls ∈ zWs := (zmem 40 (by decide +kernel) rfl)
theorem ws_Gm_canBegin : Cond.instanceMethod y_Gm_canBegin ∈ zWs := (zmem 457 (by decide +kernel) rfl)
theorem wv_Gm_canBegin : Cond.selects R_Gm y_Gm_canBegin y_Gm_canBegin ∈ zWs := zmem 458 (by decide +kernel) rfl
abbrev c_Gm_begin : ByteArray := prog_3_method_9_code
def y_Gm_begin : MethodName := ⟨R_Gm, "begin", "()I"⟩
def i_Gm_begin : List zI := [(0, .aload_n 0, 1, 0, 0), (1, .getfield 12, 3, 0, 0), (4, .aload_n 0, 1, 0, 0), (5, .getfield 25, 3, 0, 0), (8, .invokevirtual 82, 3, 0, 0), (11, .istore_n 1, 1, 0, 0), (12, .aload_n 0, 1, 0, 0), (13, .new 48, 3, 0, 0), (16, .dup, 1, 0, 0), (17, .aload_n 0, 1, 0, 0), (18, .getfield 39, 3, 0, 0), (21, .aload_n 0, 1, 0, 0), (22, .getfield 12, 3, 0, 0), (25, .aload_n 0, 1, 0, 0), (26, .getfield 25, 3, 0, 0), (29, .invokespecial 85, 3, 0, 0), (32, .putfield 39, 3, 0, 0), (35, .aload_n 0, 1, 0, 0), (36, .iload_n 1, 1, 0, 0), (37, .ifCond .ne 7, 3, 0, 44), (40, .iconst 1, 1, 1, 0), (41, .goto 4, 3, 0, 45), (44, .iconst 0, 1, 0, 0), (45, .putfield 32, 3, 0, 0), (48, .iload_n 1, 1, 0, 0), (49, .ireturn, 1, 0, 0)]
theorem it_Gm_begin : zT c_Gm_begin i_Gm_begin := zT_of (by decide +kernel)
theorem wc_Gm_begin : Cond.code y_Gm_begin c_Gm_begin 2 (some .int) ∈ zWs := zmem 464 (by decide +kernel) rfl
theorem wn_Gm_begin : Cond.initialized y_Gm_begin.cls ∈ zWs := (zmem 40 (by decide +kernel) rfl)
theorem ws_Gm_begin : Cond.instanceMethod y_Gm_begin ∈ zWs := (zmem 462 (by decide +kernel) rfl)
theorem wv_Gm_begin : Cond.selects R_Gm y_Gm_begin y_Gm_begin ∈ zWs := zmem 463 (by decide +kernel) rfl
abbrev c_Bd_movesOf : ByteArray := prog_2_method_17_code
def y_Bd_movesOf : MethodName := ⟨R_Bd, "movesOf", "(I)I"⟩
def i_Bd_movesOf : List zI := [(0, .iconst 0, 1, 0, 0), (1, .istore_n 2, 1, 0, 0), (2, .aload_n 0, 1, 0, 0), (3, .iload_n 1, 1, 0, 0), (4, .invokevirtual 35, 3, 0, 0), (7, .lstore_n 3, 1, 0, 0), (8, .iconst 0, 1, 0, 0), (9, .istore 5, 2, 0, 0), (11, .iload 5, 2, 0, 0), (13, .bipush 36, 2, 36, 0), (15, .if_icmp .ge 37, 3, 0, 52), (18, .aload_n 0, 1, 0, 0), (19, .iload 5, 2, 0, 0), (21, .iload_n 1, 1, 0, 0), (22, .invokevirtual 31, 3, 0, 0), (25, .ifCond .eq 21, 3, 0, 46), (28, .iload_n 2, 1, 0, 0), (29, .aload_n 0, 1, 0, 0), (30, .iload 5, 2, 0, 0), (32, .invokevirtual 78, 3, 0, 0), (35, .lload_n 3, 1, 0, 0), (36, .ldc2_w 81, 3, 0, 0), (39, .lxor, 1, 0, 0), (40, .land, 1, 0, 0), (41, .invokestatic 39, 3, 0, 0), (44, .iadd, 1, 0, 0), (45, .istore_n 2, 1, 0, 0), (46, .iinc 5 1, 3, 1, 0), (49, .goto (-38), 3, 0, 11), (52, .iload_n 2, 1, 0, 0), (53, .ireturn, 1, 0, 0)]
theorem it_Bd_movesOf : zT c_Bd_movesOf i_Bd_movesOf := zT_of (by decide +kernel)
theorem wc_Bd_movesOf : Cond.code y_Bd_movesOf c_Bd_movesOf 6 (some .int) ∈ zWs := zmem 468 (by decide +kernel) rfl
theorem wn_Bd_movesOf : Cond.initialized y_Bd_movesOf.cls ∈ zWs := (zmem 41 (by decide +kernel) rfl)
theorem ws_Bd_movesOf : Cond.instanceMethod y_Bd_movesOf ∈ zWs := (zmem 466 (by decide +kernel) rfl)
theorem wv_Bd_movesOf : Cond.selects R_Bd y_Bd_movesOf y_Bd_movesOf ∈ zWs := zmem 467 (by decide +kernel) rfl
abbrev c_Bd_guardedFrom : ByteArray := prog_2_method_15_code
def y_Bd_guardedFrom : MethodName := ⟨R_Bd, "guardedFrom", "(I)J"⟩
def i_Bd_guardedFrom : List zI := [(0, .lconst 0, 1, 0, 0), (1, .lstore_n 2, 1, 0, 0), (2, .iconst 0, 1, 0, 0), (3, .istore 4, 2, 0, 0), (5, .iload 4, 2, 0, 0), (7, .iconst 5, 1, 5, 0), (8, .if_icmp .ge 33, 3, 0, 41), (11, .aload_n 0, 1, 0, 0), (12, .getfield 9, 3, 0, 0), (15, .iload_n 1, 1, 0, 0), (16, .iaload, 1, 0, 0), (17, .iload 4, 2, 0, 0), (19, .invokestatic 45, 3, 0, 0), (22, .ifCond .eq 13, 3, 0, 35), (25, .lload_n 2, 1, 0, 0), (26, .aload_n 0, 1, 0, 0), (27, .iload_n 1, 1, 0, 0), (28, .iload 4, 2, 0, 0), (30, .invokevirtual 74, 3, 0, 0), (33, .lor, 1, 0, 0), (34, .lstore_n 2, 1, 0, 0), (35, .iinc 4 1, 3, 1, 0), (38, .goto (-33), 3, 0, 5), (41, .lload_n 2, 1, 0, 0), (42, .lreturn, 1, 0, 0)]
theorem it_Bd_guardedFrom : zT c_Bd_guardedFrom i_Bd_guardedFrom := zT_of (by decide +kernel)
theorem wc_Bd_guardedFrom : Cond.code y_Bd_guardedFrom c_Bd_guardedFrom 5 (some .long) ∈ zWs := zmem 472 (by decide +kernel) rfl
theorem wn_Bd_guardedFrom : Cond.initialized y_Bd_guardedFrom.cls ∈ zWs := (zmem 41 (by decide +kernel) rfl)
theorem ws_Bd_guardedFrom : Cond.instanceMethod y_Bd_guardedFrom ∈ zWs := (zmem 471 (by decide +kernel) rfl)
theorem wv_Bd_guardedFrom : Cond.selects R_Bd y_Bd_guardedFrom y_Bd_guardedFrom ∈ zWs := zmem 5 (by decide +kernel) rfl
abbrev c_Bd_linesOfKind : ByteArray := prog_2_method_14_code
def y_Bd_linesOfKind : MethodName := ⟨R_Bd, "linesOfKind", "(II)J"⟩
def i_Bd_linesOfKind : List zI := [(0, .lconst 0, 1, 0, 0), (1, .lstore_n 3, 1, 0, 0), (2, .getstatic 61, 3, 0, 0), (5, .iload_n 2, 1, 0, 0), (6, .iaload, 1, 0, 0), (7, .istore 5, 2, 0, 0), (9, .iload 5, 2, 0, 0), (11, .getstatic 64, 3, 0, 0), (14, .iload_n 2, 1, 0, 0), (15, .iaload, 1, 0, 0), (16, .if_icmp .gt 24, 3, 0, 40), (19, .lload_n 3, 1, 0, 0), (20, .aload_n 0, 1, 0, 0), (21, .iload_n 1, 1, 0, 0), (22, .iload 5, 2, 0, 0), (24, .getstatic 67, 3, 0, 0), (27, .iload_n 2, 1, 0, 0), (28, .iaload, 1, 0, 0), (29, .invokevirtual 70, 3, 0, 0), (32, .lor, 1, 0, 0), (33, .lstore_n 3, 1, 0, 0), (34, .iinc 5 1, 3, 1, 0), (37, .goto (-28), 3, 0, 9), (40, .lload_n 3, 1, 0, 0), (41, .lreturn, 1, 0, 0)]
theorem it_Bd_linesOfKind : zT c_Bd_linesOfKind i_Bd_linesOfKind := zT_of (by decide +kernel)
theorem wc_Bd_linesOfKind : Cond.code y_Bd_linesOfKind c_Bd_linesOfKind 6 (some .long) ∈ zWs := zmem 477 (by decide +kernel) rfl
theorem wn_Bd_linesOfKind : Cond.initialized y_Bd_linesOfKind.cls ∈ zWs := (zmem 41 (by decide +kernel) rfl)
theorem ws_Bd_linesOfKind : Cond.instanceMethod y_Bd_linesOfKind ∈ zWs := (zmem 476 (by decide +kernel) rfl)
theorem wv_Bd_linesOfKind : Cond.selects R_Bd y_Bd_linesOfKind y_Bd_linesOfKind ∈ zWs := zmem 6 (by decide +kernel) rfl
abbrev c_Bd_line : ByteArray := prog_2_method_13_code
def y_Bd_line : MethodName := ⟨R_Bd, "line", "(III)J"⟩
def i_Bd_line : List zI := [(0, .lconst 0, 1, 0, 0), (1, .lstore 4, 2, 0, 0), (3, .iload_n 1, 1, 0, 0), (4, .bipush 6, 2, 6, 0), (6, .idiv, 1, 0, 0), (7, .istore 6, 2, 0, 0), (9, .iload_n 1, 1, 0, 0), (10, .bipush 6, 2, 6, 0), (12, .irem, 1, 0, 0), (13, .istore 7, 2, 0, 0), (15, .iconst 1, 1, 1, 0), (16, .istore 8, 2, 0, 0), (18, .iload 8, 2, 0, 0), (20, .iload_n 3, 1, 0, 0), (21, .if_icmp .gt 88, 3, 0, 109), (24, .iload 6, 2, 0, 0), (26, .getstatic 55, 3, 0, 0), (29, .iload_n 2, 1, 0, 0), (30, .iaload, 1, 0, 0), (31, .iadd, 1, 0, 0), (32, .istore 6, 2, 0, 0), (34, .iload 7, 2, 0, 0), (36, .getstatic 58, 3, 0, 0), (39, .iload_n 2, 1, 0, 0), (40, .iaload, 1, 0, 0), (41, .iadd, 1, 0, 0), (42, .istore 7, 2, 0, 0), (44, .iload 6, 2, 0, 0), (46, .ifCond .lt 22, 3, 0, 68), (49, .iload 6, 2, 0, 0), (51, .bipush 6, 2, 6, 0), (53, .if_icmp .ge 15, 3, 0, 68), (56, .iload 7, 2, 0, 0), (58, .ifCond .lt 10, 3, 0, 68), (61, .iload 7, 2, 0, 0), (63, .bipush 6, 2, 6, 0), (65, .if_icmp .lt 6, 3, 0, 71), (68, .lload 4, 2, 0, 0), (70, .lreturn, 1, 0, 0), (71, .bipush 6, 2, 6, 0), (73, .iload 6, 2, 0, 0), (75, .imul, 1, 0, 0), (76, .iload 7, 2, 0, 0), (78, .iadd, 1, 0, 0), (79, .istore 9, 2, 0, 0), (81, .lload 4, 2, 0, 0), (83, .lconst 1, 1, 0, 0), (84, .iload 9, 2, 0, 0), (86, .lshl, 1, 0, 0), (87, .lor, 1, 0, 0), (88, .lstore 4, 2, 0, 0), (90, .aload_n 0, 1, 0, 0), (91, .getfield 9, 3, 0, 0), (94, .iload 9, 2, 0, 0), (96, .iaload, 1, 0, 0), (97, .ifCond .eq 6, 3, 0, 103), (100, .lload 4, 2, 0, 0), (102, .lreturn, 1, 0, 0), (103, .iinc 8 1, 3, 1, 0), (106, .goto (-88), 3, 0, 18), (109, .lload 4, 2, 0, 0), (111, .lreturn, 1, 0, 0)]
theorem it_Bd_line : zT c_Bd_line i_Bd_line := zT_of (by decide +kernel)
theorem wc_Bd_line : Cond.code y_Bd_line c_Bd_line 10 (some .long) ∈ zWs := zmem 487 (by decide +kernel) rfl
theorem wn_Bd_line : Cond.initialized y_Bd_line.cls ∈ zWs := (zmem 41 (by decide +kernel) rfl)
theorem ws_Bd_line : Cond.instanceMethod y_Bd_line ∈ zWs := (zmem 486 (by decide +kernel) rfl)
theorem wv_Bd_line : Cond.selects R_Bd y_Bd_line y_Bd_line ∈ zWs := zmem 7 (by decide +kernel) rfl
abbrev c_Ps_init : ByteArray := prog_7_method_1_code
def y_Ps_init : MethodName := ⟨R_Ps, "<init>", "(LBrackenGambit$Position;LBrackenGambit$Board;I)V"⟩
def i_Ps_init : List zI := [(0, .aload_n 0, 1, 0, 0), (1, .invokespecial 1, 3, 0, 0), (4, .aload_n 0, 1, 0, 0), (5, .aload_n 1, 1, 0, 0), (6, .putfield 7, 3, 0, 0), (9, .aload_n 0, 1, 0, 0), (10, .iload_n 3, 1, 0, 0), (11, .putfield 13, 3, 0, 0), (14, .aload_n 0, 1, 0, 0), (15, .aload_n 2, 1, 0, 0), (16, .iconst 0, 1, 0, 0), (17, .invokevirtual 17, 3, 0, 0), (20, .putfield 23, 3, 0, 0), (23, .aload_n 0, 1, 0, 0), (24, .aload_n 2, 1, 0, 0), (25, .iconst 1, 1, 1, 0), (26, .invokevirtual 17, 3, 0, 0), (29, .putfield 27, 3, 0, 0), (32, .aload_n 0, 1, 0, 0), (33, .aload_n 2, 1, 0, 0), (34, .iconst 2, 1, 2, 0), (35, .invokevirtual 17, 3, 0, 0), (38, .putfield 30, 3, 0, 0), (41, .aload_n 0, 1, 0, 0), (42, .aload_n 2, 1, 0, 0), (43, .iconst 3, 1, 3, 0), (44, .invokevirtual 17, 3, 0, 0), (47, .putfield 33, 3, 0, 0), (50, .aload_n 0, 1, 0, 0), (51, .iconst 1, 1, 1, 0), (52, .aload_n 0, 1, 0, 0), (53, .invokevirtual 36, 3, 0, 0), (56, .iadd, 1, 0, 0), (57, .putfield 40, 3, 0, 0), (60, .return_, 1, 0, 0)]
theorem it_Ps_init : zT c_Ps_init i_Ps_init := zT_of (by decide +kernel)
theorem wc_Ps_init : Cond.code y_Ps_init c_Ps_init 4 none ∈ zWs := zmem 497 (by decide +kernel) rfl
theorem wn_Ps_init : Cond.initialized y_Ps_init.cls ∈ zWs := (zmem 54 (by decide +kernel) rfl)
theorem ws_Ps_init : Cond.instanceMethod y_Ps_init ∈ zWs := (zmem 496 (by decide +kernel) rfl)
abbrev c_Bd_quarter : ByteArray := prog_2_method_22_code
def y_Bd_quarter : MethodName := ⟨R_Bd, "quarter", "(I)J"⟩
def i_Bd_quarter : List zI := [(0, .lconst 0, 1, 0, 0), (1, .lstore_n 2, 1, 0, 0), (2, .iload_n 1, 1, 0, 0), (3, .bipush 36, 2, 36, 0), (5, .imul, 1, 0, 0), (6, .iconst 4, 1, 4, 0), (7, .idiv, 1, 0, 0), (8, .istore 4, 2, 0, 0), (10, .iload_n 1, 1, 0, 0), (11, .iconst 1, 1, 1, 0), (12, .iadd, 1, 0, 0), (13, .bipush 36, 2, 36, 0), (15, .imul, 1, 0, 0), (16, .iconst 4, 1, 4, 0), (17, .idiv, 1, 0, 0), (18, .istore 5, 2, 0, 0), (20, .iload 4, 2, 0, 0), (22, .istore 6, 2, 0, 0), (24, .iload 6, 2, 0, 0), (26, .iload 5, 2, 0, 0), (28, .if_icmp .ge 23, 3, 0, 51), (31, .lload_n 2, 1, 0, 0), (32, .bipush 7, 2, 7, 0), (34, .lshl, 1, 0, 0), (35, .aload_n 0, 1, 0, 0), (36, .getfield 9, 3, 0, 0), (39, .iload 6, 2, 0, 0), (41, .iaload, 1, 0, 0), (42, .i2l, 1, 0, 0), (43, .lor, 1, 0, 0), (44, .lstore_n 2, 1, 0, 0), (45, .iinc 6 1, 3, 1, 0), (48, .goto (-24), 3, 0, 24), (51, .lload_n 2, 1, 0, 0), (52, .lreturn, 1, 0, 0)]
theorem it_Bd_quarter : zT c_Bd_quarter i_Bd_quarter := zT_of (by decide +kernel)
theorem wc_Bd_quarter : Cond.code y_Bd_quarter c_Bd_quarter 7 (some .long) ∈ zWs := zmem 502 (by decide +kernel) rfl
theorem wn_Bd_quarter : Cond.initialized y_Bd_quarter.cls ∈ zWs := (zmem 41 (by decide +kernel) rfl)
theorem ws_Bd_quarter : Cond.instanceMethod y_Bd_quarter ∈ zWs := (zmem 500 (by decide +kernel) rfl)
theorem wv_Bd_quarter : Cond.selects R_Bd y_Bd_quarter y_Bd_quarter ∈ zWs := zmem 501 (by decide +kernel) rfl
abbrev c_Ps_timesBefore : ByteArray := prog_7_method_2_code
def y_Ps_timesBefore : MethodName := ⟨R_Ps, "timesBefore", "()I"⟩
def i_Ps_timesBefore : List zI := [(0, .aload_n 0, 1, 0, 0), (1, .getfield 7, 3, 0, 0), (4, .astore_n 1, 1, 0, 0), (5, .aload_n 1, 1, 0, 0), (6, .ifnull 24, 3, 0, 30), (9, .aload_n 0, 1, 0, 0), (10, .aload_n 1, 1, 0, 0), (11, .invokevirtual 43, 3, 0, 0), (14, .ifCond .eq 8, 3, 0, 22), (17, .aload_n 1, 1, 0, 0), (18, .getfield 40, 3, 0, 0), (21, .ireturn, 1, 0, 0), (22, .aload_n 1, 1, 0, 0), (23, .getfield 7, 3, 0, 0), (26, .astore_n 1, 1, 0, 0), (27, .goto (-22), 3, 0, 5), (30, .iconst 0, 1, 0, 0), (31, .ireturn, 1, 0, 0)]
theorem it_Ps_timesBefore : zT c_Ps_timesBefore i_Ps_timesBefore := zT_of (by decide +kernel)
theorem wc_Ps_timesBefore : Cond.code y_Ps_timesBefore c_Ps_timesBefore 2 (some .int) ∈ zWs := zmem 506 (by decide +kernel) rfl
theorem wn_Ps_timesBefore : Cond.initialized y_Ps_timesBefore.cls ∈ zWs := (zmem 54 (by decide +kernel) rfl)
theorem ws_Ps_timesBefore : Cond.instanceMethod y_Ps_timesBefore ∈ zWs := (zmem 505 (by decide +kernel) rfl)
theorem wv_Ps_timesBefore : Cond.selects R_Ps y_Ps_timesBefore y_Ps_timesBefore ∈ zWs := zmem 8 (by decide +kernel) rfl
abbrev c_Ps_looksLike : ByteArray := prog_7_method_3_code
def y_Ps_looksLike : MethodName := ⟨R_Ps, "looksLike", "(LBrackenGambit$Position;)Z"⟩
def i_Ps_looksLike : List zI := [(0, .aload_n 0, 1, 0, 0), (1, .getfield 13, 3, 0, 0), (4, .aload_n 1, 1, 0, 0), (5, .getfield 13, 3, 0, 0), (8, .if_icmp .ne 55, 3, 0, 63), (11, .aload_n 0, 1, 0, 0), (12, .getfield 23, 3, 0, 0), (15, .aload_n 1, 1, 0, 0), (16, .getfield 23, 3, 0, 0), (19, .lcmp, 1, 0, 0), (20, .ifCond .ne 43, 3, 0, 63), (23, .aload_n 0, 1, 0, 0), (24, .getfield 27, 3, 0, 0), (27, .aload_n 1, 1, 0, 0), (28, .getfield 27, 3, 0, 0), (31, .lcmp, 1, 0, 0), (32, .ifCond .ne 31, 3, 0, 63), (35, .aload_n 0, 1, 0, 0), (36, .getfield 30, 3, 0, 0), (39, .aload_n 1, 1, 0, 0), (40, .getfield 30, 3, 0, 0), (43, .lcmp, 1, 0, 0), (44, .ifCond .ne 19, 3, 0, 63), (47, .aload_n 0, 1, 0, 0), (48, .getfield 33, 3, 0, 0), (51, .aload_n 1, 1, 0, 0), (52, .getfield 33, 3, 0, 0), (55, .lcmp, 1, 0, 0), (56, .ifCond .ne 7, 3, 0, 63), (59, .iconst 1, 1, 1, 0), (60, .goto 4, 3, 0, 64), (63, .iconst 0, 1, 0, 0), (64, .ireturn, 1, 0, 0)]
theorem it_Ps_looksLike : zT c_Ps_looksLike i_Ps_looksLike := zT_of (by decide +kernel)
theorem wc_Ps_looksLike : Cond.code y_Ps_looksLike c_Ps_looksLike 2 (some .boolean) ∈ zWs := zmem 510 (by decide +kernel) rfl
theorem wn_Ps_looksLike : Cond.initialized y_Ps_looksLike.cls ∈ zWs := (zmem 54 (by decide +kernel) rfl)
theorem ws_Ps_looksLike : Cond.instanceMethod y_Ps_looksLike ∈ zWs := (zmem 509 (by decide +kernel) rfl)
theorem wv_Ps_looksLike : Cond.selects R_Ps y_Ps_looksLike y_Ps_looksLike ∈ zWs := zmem 9 (by decide +kernel) rfl
abbrev c_Lw_move : ByteArray := method_7_code
def y_Lw_move : MethodName := ⟨R_Lw, "move", "(LBrackenGambit;II[J)I"⟩
def i_Lw_move : List zI := [(0, .aload_n 3, 1, 0, 0), (1, .iconst 0, 1, 0, 0), (2, .aload_n 0, 1, 0, 0), (3, .iload_n 1, 1, 0, 0), (4, .iload_n 2, 1, 0, 0), (5, .invokevirtual 30, 3, 0, 0), (8, .i2l, 1, 0, 0), (9, .lastore, 1, 0, 0), (10, .goto 11, 3, 0, 21), (13, .astore 4, 2, 0, 0), (15, .iconst 1, 1, 1, 0), (16, .ireturn, 1, 0, 0), (17, .astore 4, 2, 0, 0), (19, .iconst 2, 1, 2, 0), (20, .ireturn, 1, 0, 0), (21, .iconst 0, 1, 0, 0), (22, .ireturn, 1, 0, 0)]
theorem it_Lw_move : zT c_Lw_move i_Lw_move := zT_of (by decide +kernel)
def hh_Lw_move : List (Nat × Nat × Nat × Nat) := [(0, 10, 13, 13), (0, 10, 17, 17)]
theorem wc_Lw_move : Cond.codeWith y_Lw_move c_Lw_move 5 (some .int) hh_Lw_move ∈ zWs := zmem 536 (by decide +kernel) rfl
theorem wn_Lw_move : Cond.initialized y_Lw_move.cls ∈ zWs := (zmem 38 (by decide +kernel) rfl)
theorem ws_Lw_move : Cond.static y_Lw_move ∈ zWs := (zmem 535 (by decide +kernel) rfl)
abbrev c_Xx_move : ByteArray := prog_1_method_6_code
def y_Xx_move : MethodName := ⟨R_Xx, "move", "(II)I"⟩
def i_Xx_move : List zI := [(0, .iload_n 1, 1, 0, 0), (1, .invokestatic 41, 3, 0, 0), (4, .iload_n 2, 1, 0, 0), (5, .invokestatic 41, 3, 0, 0), (8, .aload_n 0, 1, 0, 0), (9, .getfield 10, 3, 0, 0), (12, .iload_n 1, 1, 0, 0), (13, .iload_n 2, 1, 0, 0), (14, .invokevirtual 80, 3, 0, 0), (17, .ifCond .eq 13, 3, 0, 30), (20, .new 56, 3, 0, 0), (23, .dup, 1, 0, 0), (24, .ldc 84, 2, 0, 0), (26, .invokespecial 60, 3, 0, 0), (29, .athrow, 1, 0, 0), (30, .aload_n 0, 1, 0, 0), (31, .getfield 19, 3, 0, 0), (34, .aload_n 0, 1, 0, 0), (35, .getfield 10, 3, 0, 0), (38, .invokevirtual 63, 3, 0, 0), (41, .aload_n 0, 1, 0, 0), (42, .getfield 10, 3, 0, 0), (45, .iload_n 1, 1, 0, 0), (46, .iload_n 2, 1, 0, 0), (47, .invokevirtual 86, 3, 0, 0), (50, .ireturn, 1, 0, 0)]
theorem it_Xx_move : zT c_Xx_move i_Xx_move := zT_of (by decide +kernel)
theorem wc_Xx_move : Cond.code y_Xx_move c_Xx_move 3 (some .int) ∈ zWs := zmem 540 (by decide +kernel) rfl
theorem wn_Xx_move : Cond.initialized y_Xx_move.cls ∈ zWs := (zmem 39 (by decide +kernel) rfl)
theorem ws_Xx_move : Cond.instanceMethod y_Xx_move ∈ zWs := (zmem 538 (by decide +kernel) rfl)
theorem wv_Xx_move : Cond.selects R_Xx y_Xx_move y_Xx_move ∈ zWs := zmem 539 (by decide +kernel) rfl
abbrev c_Gm_reasonAgainst : ByteArray := prog_3_method_10_code
def y_Gm_reasonAgainst : MethodName := ⟨R_Gm, "reasonAgainst", "(II)I"⟩
def i_Gm_reasonAgainst : List zI := [(0, .aload_n 0, 1, 0, 0), (1, .invokevirtual 52, 3, 0, 0), (4, .ifCond .eq 10, 3, 0, 14), (7, .aload_n 0, 1, 0, 0), (8, .getfield 32, 3, 0, 0), (11, .ifCond .eq 5, 3, 0, 16), (14, .iconst 1, 1, 1, 0), (15, .ireturn, 1, 0, 0), (16, .aload_n 0, 1, 0, 0), (17, .getfield 12, 3, 0, 0), (20, .iload_n 1, 1, 0, 0), (21, .aload_n 0, 1, 0, 0), (22, .getfield 25, 3, 0, 0), (25, .invokevirtual 88, 3, 0, 0), (28, .ifCond .ne 5, 3, 0, 33), (31, .iconst 2, 1, 2, 0), (32, .ireturn, 1, 0, 0), (33, .aload_n 0, 1, 0, 0), (34, .getfield 12, 3, 0, 0), (37, .iload_n 2, 1, 0, 0), (38, .aload_n 0, 1, 0, 0), (39, .getfield 25, 3, 0, 0), (42, .invokevirtual 88, 3, 0, 0), (45, .ifCond .eq 5, 3, 0, 50), (48, .iconst 3, 1, 3, 0), (49, .ireturn, 1, 0, 0), (50, .aload_n 0, 1, 0, 0), (51, .getfield 12, 3, 0, 0), (54, .iload_n 1, 1, 0, 0), (55, .invokevirtual 92, 3, 0, 0), (58, .iload_n 2, 1, 0, 0), (59, .lshr, 1, 0, 0), (60, .lconst 1, 1, 0, 0), (61, .land, 1, 0, 0), (62, .lconst 0, 1, 0, 0), (63, .lcmp, 1, 0, 0), (64, .ifCond .eq 7, 3, 0, 71), (67, .iconst 1, 1, 1, 0), (68, .goto 4, 3, 0, 72), (71, .iconst 0, 1, 0, 0), (72, .istore_n 3, 1, 0, 0), (73, .iload_n 3, 1, 0, 0), (74, .ifCond .eq 7, 3, 0, 81), (77, .iconst 0, 1, 0, 0), (78, .goto 4, 3, 0, 82), (81, .iconst 4, 1, 4, 0), (82, .ireturn, 1, 0, 0)]
theorem it_Gm_reasonAgainst : zT c_Gm_reasonAgainst i_Gm_reasonAgainst := zT_of (by decide +kernel)
theorem wc_Gm_reasonAgainst : Cond.code y_Gm_reasonAgainst c_Gm_reasonAgainst 4 (some .int) ∈ zWs := zmem 544 (by decide +kernel) rfl
theorem wn_Gm_reasonAgainst : Cond.initialized y_Gm_reasonAgainst.cls ∈ zWs := (zmem 40 (by decide +kernel) rfl)
theorem ws_Gm_reasonAgainst : Cond.instanceMethod y_Gm_reasonAgainst ∈ zWs := (zmem 542 (by decide +kernel) rfl)
theorem wv_Gm_reasonAgainst : Cond.selects R_Gm y_Gm_reasonAgainst y_Gm_reasonAgainst ∈ zWs := zmem 543 (by decide +kernel) rfl
abbrev c_Bd_reachFrom : ByteArray := prog_2_method_16_code
def y_Bd_reachFrom : MethodName := ⟨R_Bd, "reachFrom", "(I)J"⟩
def i_Bd_reachFrom : List zI := [(0, .aload_n 0, 1, 0, 0), (1, .iload_n 1, 1, 0, 0), (2, .invokevirtual 78, 3, 0, 0), (5, .aload_n 0, 1, 0, 0), (6, .aload_n 0, 1, 0, 0), (7, .getfield 9, 3, 0, 0), (10, .iload_n 1, 1, 0, 0), (11, .iaload, 1, 0, 0), (12, .invokestatic 27, 3, 0, 0), (15, .invokevirtual 35, 3, 0, 0), (18, .ldc2_w 81, 3, 0, 0), (21, .lxor, 1, 0, 0), (22, .land, 1, 0, 0), (23, .lreturn, 1, 0, 0)]
theorem it_Bd_reachFrom : zT c_Bd_reachFrom i_Bd_reachFrom := zT_of (by decide +kernel)
theorem wc_Bd_reachFrom : Cond.code y_Bd_reachFrom c_Bd_reachFrom 2 (some .long) ∈ zWs := zmem 549 (by decide +kernel) rfl
theorem wn_Bd_reachFrom : Cond.initialized y_Bd_reachFrom.cls ∈ zWs := (zmem 41 (by decide +kernel) rfl)
theorem ws_Bd_reachFrom : Cond.instanceMethod y_Bd_reachFrom ∈ zWs := (zmem 547 (by decide +kernel) rfl)
theorem wv_Bd_reachFrom : Cond.selects R_Bd y_Bd_reachFrom y_Bd_reachFrom ∈ zWs := zmem 548 (by decide +kernel) rfl
abbrev c_Gm_makeMove : ByteArray := prog_3_method_11_code
def y_Gm_makeMove : MethodName := ⟨R_Gm, "makeMove", "(II)I"⟩
def i_Gm_makeMove : List zI := [(0, .aload_n 0, 1, 0, 0), (1, .getfield 12, 3, 0, 0), (4, .iload_n 2, 1, 0, 0), (5, .invokevirtual 79, 3, 0, 0), (8, .istore_n 3, 1, 0, 0), (9, .iload_n 3, 1, 0, 0), (10, .invokestatic 76, 3, 0, 0), (13, .istore 4, 2, 0, 0), (15, .iconst 1, 1, 1, 0), (16, .aload_n 0, 1, 0, 0), (17, .getfield 25, 3, 0, 0), (20, .isub, 1, 0, 0), (21, .istore 5, 2, 0, 0), (23, .aload_n 0, 1, 0, 0), (24, .getfield 18, 3, 0, 0), (27, .aload_n 0, 1, 0, 0), (28, .getfield 25, 3, 0, 0), (31, .dup2, 1, 0, 0), (32, .iaload, 1, 0, 0), (33, .aload_n 0, 1, 0, 0), (34, .getfield 12, 3, 0, 0), (37, .iload_n 1, 1, 0, 0), (38, .invokevirtual 79, 3, 0, 0), (41, .iload_n 3, 1, 0, 0), (42, .invokestatic 96, 3, 0, 0), (45, .invokestatic 100, 3, 0, 0), (48, .iadd, 1, 0, 0), (49, .iastore, 1, 0, 0), (50, .aload_n 0, 1, 0, 0), (51, .getfield 18, 3, 0, 0), (54, .iload 5, 2, 0, 0), (56, .dup2, 1, 0, 0), (57, .iaload, 1, 0, 0), (58, .iload 4, 2, 0, 0), (60, .isub, 1, 0, 0), (61, .iastore, 1, 0, 0), (62, .aload_n 0, 1, 0, 0), (63, .getfield 22, 3, 0, 0), (66, .aload_n 0, 1, 0, 0), (67, .getfield 25, 3, 0, 0), (70, .dup2, 1, 0, 0), (71, .iaload, 1, 0, 0), (72, .iload 4, 2, 0, 0), (74, .iadd, 1, 0, 0), (75, .iastore, 1, 0, 0), (76, .iload_n 3, 1, 0, 0), (77, .invokestatic 103, 3, 0, 0), (80, .ifCond .eq 11, 3, 0, 91), (83, .aload_n 0, 1, 0, 0), (84, .aload_n 0, 1, 0, 0), (85, .getfield 25, 3, 0, 0), (88, .putfield 36, 3, 0, 0), (91, .aload_n 0, 1, 0, 0), (92, .getfield 12, 3, 0, 0), (95, .iload_n 1, 1, 0, 0), (96, .iload_n 2, 1, 0, 0), (97, .invokevirtual 106, 3, 0, 0), (100, .aload_n 0, 1, 0, 0), (101, .dup, 1, 0, 0), (102, .getfield 29, 3, 0, 0), (105, .iconst 1, 1, 1, 0), (106, .iadd, 1, 0, 0), (107, .putfield 29, 3, 0, 0), (110, .aload_n 0, 1, 0, 0), (111, .iload 5, 2, 0, 0), (113, .putfield 25, 3, 0, 0), (116, .aload_n 0, 1, 0, 0), (117, .new 48, 3, 0, 0), (120, .dup, 1, 0, 0), (121, .aload_n 0, 1, 0, 0), (122, .getfield 39, 3, 0, 0), (125, .aload_n 0, 1, 0, 0), (126, .getfield 12, 3, 0, 0), (129, .aload_n 0, 1, 0, 0), (130, .getfield 25, 3, 0, 0), (133, .invokespecial 85, 3, 0, 0), (136, .putfield 39, 3, 0, 0), (139, .aload_n 0, 1, 0, 0), (140, .aload_n 0, 1, 0, 0), (141, .getfield 36, 3, 0, 0), (144, .iconst (-1), 1, -1, 0), (145, .if_icmp .ne 25, 3, 0, 170), (148, .aload_n 0, 1, 0, 0), (149, .invokevirtual 109, 3, 0, 0), (152, .iconst 3, 1, 3, 0), (153, .if_icmp .ge 17, 3, 0, 170), (156, .aload_n 0, 1, 0, 0), (157, .getfield 12, 3, 0, 0), (160, .aload_n 0, 1, 0, 0), (161, .getfield 25, 3, 0, 0), (164, .invokevirtual 82, 3, 0, 0), (167, .ifCond .ne 7, 3, 0, 174), (170, .iconst 1, 1, 1, 0), (171, .goto 4, 3, 0, 175), (174, .iconst 0, 1, 0, 0), (175, .putfield 32, 3, 0, 0), (178, .iload 4, 2, 0, 0), (180, .ireturn, 1, 0, 0)]
theorem it_Gm_makeMove : zT c_Gm_makeMove i_Gm_makeMove := zT_of (by decide +kernel)
theorem wc_Gm_makeMove : Cond.code y_Gm_makeMove c_Gm_makeMove 6 (some .int) ∈ zWs := zmem 554 (by decide +kernel) rfl
theorem wn_Gm_makeMove : Cond.initialized y_Gm_makeMove.cls ∈ zWs := (zmem 40 (by decide +kernel) rfl)
theorem ws_Gm_makeMove : Cond.instanceMethod y_Gm_makeMove ∈ zWs := (zmem 552 (by decide +kernel) rfl)
theorem wv_Gm_makeMove : Cond.selects R_Gm y_Gm_makeMove y_Gm_makeMove ∈ zWs := zmem 553 (by decide +kernel) rfl
abbrev c_Pc_learnt : ByteArray := prog_6_method_9_code
def y_Pc_learnt : MethodName := ⟨R_Pc, "learnt", "(II)I"⟩
def i_Pc_learnt : List zI := [(0, .iload_n 1, 1, 0, 0), (1, .invokestatic 11, 3, 0, 0), (4, .iload_n 0, 1, 0, 0), (5, .invokestatic 11, 3, 0, 0), (8, .iconst (-1), 1, -1, 0), (9, .ixor, 1, 0, 0), (10, .iand, 1, 0, 0), (11, .ireturn, 1, 0, 0)]
theorem it_Pc_learnt : zT c_Pc_learnt i_Pc_learnt := zT_of (by decide +kernel)
theorem wc_Pc_learnt : Cond.code y_Pc_learnt c_Pc_learnt 2 (some .int) ∈ zWs := zmem 557 (by decide +kernel) rfl
theorem wn_Pc_learnt : Cond.initialized y_Pc_learnt.cls ∈ zWs := (zmem 50 (by decide +kernel) rfl)
theorem ws_Pc_learnt : Cond.static y_Pc_learnt ∈ zWs := (zmem 556 (by decide +kernel) rfl)
abbrev c_Bd_carry : ByteArray := prog_2_method_5_code
def y_Bd_carry : MethodName := ⟨R_Bd, "carry", "(II)V"⟩
def i_Bd_carry : List zI := [(0, .aload_n 0, 1, 0, 0), (1, .getfield 9, 3, 0, 0), (4, .iload_n 2, 1, 0, 0), (5, .aload_n 0, 1, 0, 0), (6, .getfield 9, 3, 0, 0), (9, .iload_n 1, 1, 0, 0), (10, .iaload, 1, 0, 0), (11, .aload_n 0, 1, 0, 0), (12, .getfield 9, 3, 0, 0), (15, .iload_n 1, 1, 0, 0), (16, .iaload, 1, 0, 0), (17, .aload_n 0, 1, 0, 0), (18, .getfield 9, 3, 0, 0), (21, .iload_n 2, 1, 0, 0), (22, .iaload, 1, 0, 0), (23, .invokestatic 21, 3, 0, 0), (26, .ior, 1, 0, 0), (27, .iastore, 1, 0, 0), (28, .aload_n 0, 1, 0, 0), (29, .getfield 9, 3, 0, 0), (32, .iload_n 1, 1, 0, 0), (33, .iconst 0, 1, 0, 0), (34, .iastore, 1, 0, 0), (35, .return_, 1, 0, 0)]
theorem it_Bd_carry : zT c_Bd_carry i_Bd_carry := zT_of (by decide +kernel)
theorem wc_Bd_carry : Cond.code y_Bd_carry c_Bd_carry 3 none ∈ zWs := zmem 563 (by decide +kernel) rfl
theorem wn_Bd_carry : Cond.initialized y_Bd_carry.cls ∈ zWs := (zmem 41 (by decide +kernel) rfl)
theorem ws_Bd_carry : Cond.instanceMethod y_Bd_carry ∈ zWs := (zmem 561 (by decide +kernel) rfl)
theorem wv_Bd_carry : Cond.selects R_Bd y_Bd_carry y_Bd_carry ∈ zWs := zmem 562 (by decide +kernel) rfl
abbrev c_Lw_play : ByteArray := method_8_code
def y_Lw_play : MethodName := ⟨R_Lw, "play", "(LBrackenGambit;[J)I"⟩
def i_Lw_play : List zI := [(0, .aload_n 1, 1, 0, 0), (1, .iconst 0, 1, 0, 0), (2, .aload_n 0, 1, 0, 0), (3, .invokevirtual 34, 3, 0, 0), (6, .i2l, 1, 0, 0), (7, .lastore, 1, 0, 0), (8, .goto 6, 3, 0, 14), (11, .astore_n 2, 1, 0, 0), (12, .iconst 1, 1, 1, 0), (13, .ireturn, 1, 0, 0), (14, .iconst 0, 1, 0, 0), (15, .ireturn, 1, 0, 0)]
theorem it_Lw_play : zT c_Lw_play i_Lw_play := zT_of (by decide +kernel)
def hh_Lw_play : List (Nat × Nat × Nat × Nat) := [(0, 8, 11, 15)]
theorem wc_Lw_play : Cond.codeWith y_Lw_play c_Lw_play 3 (some .int) hh_Lw_play ∈ zWs := zmem 568 (by decide +kernel) rfl
theorem wn_Lw_play : Cond.initialized y_Lw_play.cls ∈ zWs := (zmem 38 (by decide +kernel) rfl)
theorem ws_Lw_play : Cond.static y_Lw_play ∈ zWs := (zmem 567 (by decide +kernel) rfl)
abbrev c_Xx_play : ByteArray := prog_1_method_7_code
def y_Xx_play : MethodName := ⟨R_Xx, "play", "()I"⟩
def i_Xx_play : List zI := [(0, .aload_n 0, 1, 0, 0), (1, .getfield 26, 3, 0, 0), (4, .invokevirtual 89, 3, 0, 0), (7, .ifCond .ne 13, 3, 0, 20), (10, .new 92, 3, 0, 0), (13, .dup, 1, 0, 0), (14, .ldc 94, 2, 0, 0), (16, .invokespecial 96, 3, 0, 0), (19, .athrow, 1, 0, 0), (20, .aload_n 0, 1, 0, 0), (21, .getfield 19, 3, 0, 0), (24, .aload_n 0, 1, 0, 0), (25, .getfield 10, 3, 0, 0), (28, .invokevirtual 63, 3, 0, 0), (31, .aload_n 0, 1, 0, 0), (32, .getfield 26, 3, 0, 0), (35, .invokevirtual 97, 3, 0, 0), (38, .istore_n 1, 1, 0, 0), (39, .iconst 0, 1, 0, 0), (40, .istore_n 2, 1, 0, 0), (41, .iload_n 2, 1, 0, 0), (42, .iload_n 1, 1, 0, 0), (43, .if_icmp .ge 54, 3, 0, 97), (46, .aload_n 0, 1, 0, 0), (47, .getfield 26, 3, 0, 0), (50, .iload_n 2, 1, 0, 0), (51, .invokevirtual 100, 3, 0, 0), (54, .istore_n 3, 1, 0, 0), (55, .aload_n 0, 1, 0, 0), (56, .getfield 26, 3, 0, 0), (59, .iload_n 2, 1, 0, 0), (60, .invokevirtual 103, 3, 0, 0), (63, .istore 4, 2, 0, 0), (65, .aload_n 0, 1, 0, 0), (66, .getfield 10, 3, 0, 0), (69, .iload_n 3, 1, 0, 0), (70, .iload 4, 2, 0, 0), (72, .invokevirtual 80, 3, 0, 0), (75, .ifCond .eq 5, 3, 0, 80), (78, .iload_n 2, 1, 0, 0), (79, .ireturn, 1, 0, 0), (80, .aload_n 0, 1, 0, 0), (81, .getfield 10, 3, 0, 0), (84, .iload_n 3, 1, 0, 0), (85, .iload 4, 2, 0, 0), (87, .invokevirtual 86, 3, 0, 0), (90, .pop, 1, 0, 0), (91, .iinc 2 1, 3, 1, 0), (94, .goto (-53), 3, 0, 41), (97, .iload_n 1, 1, 0, 0), (98, .ireturn, 1, 0, 0)]
theorem it_Xx_play : zT c_Xx_play i_Xx_play := zT_of (by decide +kernel)
theorem wc_Xx_play : Cond.code y_Xx_play c_Xx_play 5 (some .int) ∈ zWs := zmem 572 (by decide +kernel) rfl
theorem wn_Xx_play : Cond.initialized y_Xx_play.cls ∈ zWs := (zmem 39 (by decide +kernel) rfl)
theorem ws_Xx_play : Cond.instanceMethod y_Xx_play ∈ zWs := (zmem 570 (by decide +kernel) rfl)
theorem wv_Xx_play : Cond.selects R_Xx y_Xx_play y_Xx_play ∈ zWs := zmem 571 (by decide +kernel) rfl
abbrev c_Tx_movesListed : ByteArray := prog_5_method_10_code
def y_Tx_movesListed : MethodName := ⟨R_Tx, "movesListed", "()I"⟩
def i_Tx_movesListed : List zI := [(0, .aload_n 0, 1, 0, 0), (1, .getfield 15, 3, 0, 0), (4, .iconst 1, 1, 1, 0), (5, .iadd, 1, 0, 0), (6, .iconst 5, 1, 5, 0), (7, .idiv, 1, 0, 0), (8, .ireturn, 1, 0, 0)]
theorem it_Tx_movesListed : zT c_Tx_movesListed i_Tx_movesListed := zT_of (by decide +kernel)
theorem wc_Tx_movesListed : Cond.code y_Tx_movesListed c_Tx_movesListed 1 (some .int) ∈ zWs := zmem 577 (by decide +kernel) rfl
theorem wn_Tx_movesListed : Cond.initialized y_Tx_movesListed.cls ∈ zWs := (zmem 43 (by decide +kernel) rfl)
theorem ws_Tx_movesListed : Cond.instanceMethod y_Tx_movesListed ∈ zWs := (zmem 575 (by decide +kernel) rfl)
theorem wv_Tx_movesListed : Cond.selects R_Tx y_Tx_movesListed y_Tx_movesListed ∈ zWs := zmem 576 (by decide +kernel) rfl
abbrev c_Tx_firstSquareOf : ByteArray := prog_5_method_11_code
def y_Tx_firstSquareOf : MethodName := ⟨R_Tx, "firstSquareOf", "(I)I"⟩
def i_Tx_firstSquareOf : List zI := [(0, .aload_n 0, 1, 0, 0), (1, .iconst 5, 1, 5, 0), (2, .iload_n 1, 1, 0, 0), (3, .imul, 1, 0, 0), (4, .invokevirtual 34, 3, 0, 0), (7, .ireturn, 1, 0, 0)]
theorem it_Tx_firstSquareOf : zT c_Tx_firstSquareOf i_Tx_firstSquareOf := zT_of (by decide +kernel)
theorem wc_Tx_firstSquareOf : Cond.code y_Tx_firstSquareOf c_Tx_firstSquareOf 2 (some .int) ∈ zWs := zmem 581 (by decide +kernel) rfl
theorem wn_Tx_firstSquareOf : Cond.initialized y_Tx_firstSquareOf.cls ∈ zWs := (zmem 43 (by decide +kernel) rfl)
theorem ws_Tx_firstSquareOf : Cond.instanceMethod y_Tx_firstSquareOf ∈ zWs := (zmem 579 (by decide +kernel) rfl)
theorem wv_Tx_firstSquareOf : Cond.selects R_Tx y_Tx_firstSquareOf y_Tx_firstSquareOf ∈ zWs := zmem 580 (by decide +kernel) rfl
abbrev c_Tx_squareAt : ByteArray := prog_5_method_13_code
def y_Tx_squareAt : MethodName := ⟨R_Tx, "squareAt", "(I)I"⟩
def i_Tx_squareAt : List zI := [(0, .bipush 6, 2, 6, 0), (2, .aload_n 0, 1, 0, 0), (3, .getfield 11, 3, 0, 0), (6, .iload_n 1, 1, 0, 0), (7, .iconst 1, 1, 1, 0), (8, .iadd, 1, 0, 0), (9, .caload, 1, 0, 0), (10, .bipush 49, 2, 49, 0), (12, .isub, 1, 0, 0), (13, .imul, 1, 0, 0), (14, .aload_n 0, 1, 0, 0), (15, .getfield 11, 3, 0, 0), (18, .iload_n 1, 1, 0, 0), (19, .caload, 1, 0, 0), (20, .bipush 97, 2, 97, 0), (22, .isub, 1, 0, 0), (23, .iadd, 1, 0, 0), (24, .ireturn, 1, 0, 0)]
theorem it_Tx_squareAt : zT c_Tx_squareAt i_Tx_squareAt := zT_of (by decide +kernel)
theorem wc_Tx_squareAt : Cond.code y_Tx_squareAt c_Tx_squareAt 2 (some .int) ∈ zWs := zmem 585 (by decide +kernel) rfl
theorem wn_Tx_squareAt : Cond.initialized y_Tx_squareAt.cls ∈ zWs := (zmem 43 (by decide +kernel) rfl)
theorem ws_Tx_squareAt : Cond.instanceMethod y_Tx_squareAt ∈ zWs := (zmem 584 (by decide +kernel) rfl)
theorem wv_Tx_squareAt : Cond.selects R_Tx y_Tx_squareAt y_Tx_squareAt ∈ zWs := zmem 10 (by decide +kernel) rfl
abbrev c_Tx_secondSquareOf : ByteArray := prog_5_method_12_code
def y_Tx_secondSquareOf : MethodName := ⟨R_Tx, "secondSquareOf", "(I)I"⟩
def i_Tx_secondSquareOf : List zI := [(0, .aload_n 0, 1, 0, 0), (1, .iconst 5, 1, 5, 0), (2, .iload_n 1, 1, 0, 0), (3, .imul, 1, 0, 0), (4, .iconst 2, 1, 2, 0), (5, .iadd, 1, 0, 0), (6, .invokevirtual 34, 3, 0, 0), (9, .ireturn, 1, 0, 0)]
theorem it_Tx_secondSquareOf : zT c_Tx_secondSquareOf i_Tx_secondSquareOf := zT_of (by decide +kernel)
theorem wc_Tx_secondSquareOf : Cond.code y_Tx_secondSquareOf c_Tx_secondSquareOf 2 (some .int) ∈ zWs := zmem 589 (by decide +kernel) rfl
theorem wn_Tx_secondSquareOf : Cond.initialized y_Tx_secondSquareOf.cls ∈ zWs := (zmem 43 (by decide +kernel) rfl)
theorem ws_Tx_secondSquareOf : Cond.instanceMethod y_Tx_secondSquareOf ∈ zWs := (zmem 587 (by decide +kernel) rfl)
theorem wv_Tx_secondSquareOf : Cond.selects R_Tx y_Tx_secondSquareOf y_Tx_secondSquareOf ∈ zWs := zmem 588 (by decide +kernel) rfl
abbrev c_Lw_whyNot : ByteArray := method_9_code
def y_Lw_whyNot : MethodName := ⟨R_Lw, "whyNot", "(LBrackenGambit;II[J)I"⟩
def i_Lw_whyNot : List zI := [(0, .aload_n 3, 1, 0, 0), (1, .iconst 0, 1, 0, 0), (2, .aload_n 0, 1, 0, 0), (3, .iload_n 1, 1, 0, 0), (4, .iload_n 2, 1, 0, 0), (5, .invokevirtual 37, 3, 0, 0), (8, .i2l, 1, 0, 0), (9, .lastore, 1, 0, 0), (10, .goto 7, 3, 0, 17), (13, .astore 4, 2, 0, 0), (15, .iconst 1, 1, 1, 0), (16, .ireturn, 1, 0, 0), (17, .iconst 0, 1, 0, 0), (18, .ireturn, 1, 0, 0)]
theorem it_Lw_whyNot : zT c_Lw_whyNot i_Lw_whyNot := zT_of (by decide +kernel)
def hh_Lw_whyNot : List (Nat × Nat × Nat × Nat) := [(0, 10, 13, 13)]
theorem wc_Lw_whyNot : Cond.codeWith y_Lw_whyNot c_Lw_whyNot 5 (some .int) hh_Lw_whyNot ∈ zWs := zmem 592 (by decide +kernel) rfl
theorem wn_Lw_whyNot : Cond.initialized y_Lw_whyNot.cls ∈ zWs := (zmem 38 (by decide +kernel) rfl)
theorem ws_Lw_whyNot : Cond.static y_Lw_whyNot ∈ zWs := (zmem 591 (by decide +kernel) rfl)
abbrev c_Xx_whyNot : ByteArray := prog_1_method_8_code
def y_Xx_whyNot : MethodName := ⟨R_Xx, "whyNot", "(II)I"⟩
def i_Xx_whyNot : List zI := [(0, .iload_n 1, 1, 0, 0), (1, .invokestatic 41, 3, 0, 0), (4, .iload_n 2, 1, 0, 0), (5, .invokestatic 41, 3, 0, 0), (8, .aload_n 0, 1, 0, 0), (9, .getfield 10, 3, 0, 0), (12, .iload_n 1, 1, 0, 0), (13, .iload_n 2, 1, 0, 0), (14, .invokevirtual 80, 3, 0, 0), (17, .ireturn, 1, 0, 0)]
theorem it_Xx_whyNot : zT c_Xx_whyNot i_Xx_whyNot := zT_of (by decide +kernel)
theorem wc_Xx_whyNot : Cond.code y_Xx_whyNot c_Xx_whyNot 3 (some .int) ∈ zWs := zmem 596 (by decide +kernel) rfl
theorem wn_Xx_whyNot : Cond.initialized y_Xx_whyNot.cls ∈ zWs := (zmem 39 (by decide +kernel) rfl)
theorem ws_Xx_whyNot : Cond.instanceMethod y_Xx_whyNot ∈ zWs := (zmem 594 (by decide +kernel) rfl)
theorem wv_Xx_whyNot : Cond.selects R_Xx y_Xx_whyNot y_Xx_whyNot ∈ zWs := zmem 595 (by decide +kernel) rfl
abbrev c_Lw_append : ByteArray := method_10_code
def y_Lw_append : MethodName := ⟨R_Lw, "append", "(LBrackenGambit;C[J)I"⟩
def i_Lw_append : List zI := [(0, .aload_n 2, 1, 0, 0), (1, .iconst 0, 1, 0, 0), (2, .aload_n 0, 1, 0, 0), (3, .iload_n 1, 1, 0, 0), (4, .invokevirtual 40, 3, 0, 0), (7, .i2l, 1, 0, 0), (8, .lastore, 1, 0, 0), (9, .goto 6, 3, 0, 15), (12, .astore_n 3, 1, 0, 0), (13, .iconst 1, 1, 1, 0), (14, .ireturn, 1, 0, 0), (15, .iconst 0, 1, 0, 0), (16, .ireturn, 1, 0, 0)]
theorem it_Lw_append : zT c_Lw_append i_Lw_append := zT_of (by decide +kernel)
def hh_Lw_append : List (Nat × Nat × Nat × Nat) := [(0, 9, 12, 17)]
theorem wc_Lw_append : Cond.codeWith y_Lw_append c_Lw_append 4 (some .int) hh_Lw_append ∈ zWs := zmem 599 (by decide +kernel) rfl
theorem wn_Lw_append : Cond.initialized y_Lw_append.cls ∈ zWs := (zmem 38 (by decide +kernel) rfl)
theorem ws_Lw_append : Cond.static y_Lw_append ∈ zWs := (zmem 598 (by decide +kernel) rfl)
abbrev c_Xx_append : ByteArray := prog_1_method_9_code
def y_Xx_append : MethodName := ⟨R_Xx, "append", "(C)I"⟩
def i_Xx_append : List zI := [(0, .aload_n 0, 1, 0, 0), (1, .getfield 26, 3, 0, 0), (4, .invokevirtual 106, 3, 0, 0), (7, .ifCond .eq 13, 3, 0, 20), (10, .new 56, 3, 0, 0), (13, .dup, 1, 0, 0), (14, .ldc 109, 2, 0, 0), (16, .invokespecial 60, 3, 0, 0), (19, .athrow, 1, 0, 0), (20, .aload_n 0, 1, 0, 0), (21, .getfield 26, 3, 0, 0), (24, .iload_n 1, 1, 0, 0), (25, .invokevirtual 111, 3, 0, 0), (28, .ireturn, 1, 0, 0)]
theorem it_Xx_append : zT c_Xx_append i_Xx_append := zT_of (by decide +kernel)
theorem wc_Xx_append : Cond.code y_Xx_append c_Xx_append 2 (some .int) ∈ zWs := zmem 603 (by decide +kernel) rfl
theorem wn_Xx_append : Cond.initialized y_Xx_append.cls ∈ zWs := (zmem 39 (by decide +kernel) rfl)
theorem ws_Xx_append : Cond.instanceMethod y_Xx_append ∈ zWs := (zmem 601 (by decide +kernel) rfl)
theorem wv_Xx_append : Cond.selects R_Xx y_Xx_append y_Xx_append ∈ zWs := zmem 602 (by decide +kernel) rfl
abbrev c_Tx_isFull : ByteArray := prog_5_method_2_code
def y_Tx_isFull : MethodName := ⟨R_Tx, "isFull", "()Z"⟩
def i_Tx_isFull : List zI := [(0, .aload_n 0, 1, 0, 0), (1, .getfield 15, 3, 0, 0), (4, .bipush 60, 2, 60, 0), (6, .if_icmp .lt 7, 3, 0, 13), (9, .iconst 1, 1, 1, 0), (10, .goto 4, 3, 0, 14), (13, .iconst 0, 1, 0, 0), (14, .ireturn, 1, 0, 0)]
theorem it_Tx_isFull : zT c_Tx_isFull i_Tx_isFull := zT_of (by decide +kernel)
theorem wc_Tx_isFull : Cond.code y_Tx_isFull c_Tx_isFull 1 (some .boolean) ∈ zWs := zmem 607 (by decide +kernel) rfl
theorem wn_Tx_isFull : Cond.initialized y_Tx_isFull.cls ∈ zWs := (zmem 43 (by decide +kernel) rfl)
theorem ws_Tx_isFull : Cond.instanceMethod y_Tx_isFull ∈ zWs := (zmem 605 (by decide +kernel) rfl)
theorem wv_Tx_isFull : Cond.selects R_Tx y_Tx_isFull y_Tx_isFull ∈ zWs := zmem 606 (by decide +kernel) rfl
abbrev c_Tx_add : ByteArray := prog_5_method_3_code
def y_Tx_add : MethodName := ⟨R_Tx, "add", "(C)I"⟩
def i_Tx_add : List zI := [(0, .aload_n 0, 1, 0, 0), (1, .getfield 15, 3, 0, 0), (4, .bipush 60, 2, 60, 0), (6, .if_icmp .ge 23, 3, 0, 29), (9, .aload_n 0, 1, 0, 0), (10, .getfield 11, 3, 0, 0), (13, .aload_n 0, 1, 0, 0), (14, .getfield 15, 3, 0, 0), (17, .iload_n 1, 1, 0, 0), (18, .castore, 1, 0, 0), (19, .aload_n 0, 1, 0, 0), (20, .dup, 1, 0, 0), (21, .getfield 15, 3, 0, 0), (24, .iconst 1, 1, 1, 0), (25, .iadd, 1, 0, 0), (26, .putfield 15, 3, 0, 0), (29, .aload_n 0, 1, 0, 0), (30, .getfield 15, 3, 0, 0), (33, .ireturn, 1, 0, 0)]
theorem it_Tx_add : zT c_Tx_add i_Tx_add := zT_of (by decide +kernel)
theorem wc_Tx_add : Cond.code y_Tx_add c_Tx_add 2 (some .int) ∈ zWs := zmem 612 (by decide +kernel) rfl
theorem wn_Tx_add : Cond.initialized y_Tx_add.cls ∈ zWs := (zmem 43 (by decide +kernel) rfl)
theorem ws_Tx_add : Cond.instanceMethod y_Tx_add ∈ zWs := (zmem 610 (by decide +kernel) rfl)
theorem wv_Tx_add : Cond.selects R_Tx y_Tx_add y_Tx_add ∈ zWs := zmem 611 (by decide +kernel) rfl
abbrev c_Lw_firstError : ByteArray := method_11_code
def y_Lw_firstError : MethodName := ⟨R_Lw, "firstError", "(LBrackenGambit;[J)I"⟩
def i_Lw_firstError : List zI := [(0, .aload_n 1, 1, 0, 0), (1, .iconst 0, 1, 0, 0), (2, .aload_n 0, 1, 0, 0), (3, .invokevirtual 44, 3, 0, 0), (6, .i2l, 1, 0, 0), (7, .lastore, 1, 0, 0), (8, .goto 6, 3, 0, 14), (11, .astore_n 2, 1, 0, 0), (12, .iconst 1, 1, 1, 0), (13, .ireturn, 1, 0, 0), (14, .iconst 0, 1, 0, 0), (15, .ireturn, 1, 0, 0)]
theorem it_Lw_firstError : zT c_Lw_firstError i_Lw_firstError := zT_of (by decide +kernel)
def hh_Lw_firstError : List (Nat × Nat × Nat × Nat) := [(0, 8, 11, 17)]
theorem wc_Lw_firstError : Cond.codeWith y_Lw_firstError c_Lw_firstError 3 (some .int) hh_Lw_firstError ∈ zWs := zmem 615 (by decide +kernel) rfl
theorem wn_Lw_firstError : Cond.initialized y_Lw_firstError.cls ∈ zWs := (zmem 38 (by decide +kernel) rfl)
theorem ws_Lw_firstError : Cond.static y_Lw_firstError ∈ zWs := (zmem 614 (by decide +kernel) rfl)
abbrev c_Xx_firstError : ByteArray := prog_1_method_12_code
def y_Xx_firstError : MethodName := ⟨R_Xx, "firstError", "()I"⟩
def i_Xx_firstError : List zI := [(0, .aload_n 0, 1, 0, 0), (1, .getfield 26, 3, 0, 0), (4, .invokevirtual 89, 3, 0, 0), (7, .ifCond .eq 13, 3, 0, 20), (10, .new 56, 3, 0, 0), (13, .dup, 1, 0, 0), (14, .ldc 118, 2, 0, 0), (16, .invokespecial 60, 3, 0, 0), (19, .athrow, 1, 0, 0), (20, .aload_n 0, 1, 0, 0), (21, .getfield 26, 3, 0, 0), (24, .invokevirtual 120, 3, 0, 0), (27, .ireturn, 1, 0, 0)]
theorem it_Xx_firstError : zT c_Xx_firstError i_Xx_firstError := zT_of (by decide +kernel)
theorem wc_Xx_firstError : Cond.code y_Xx_firstError c_Xx_firstError 1 (some .int) ∈ zWs := zmem 619 (by decide +kernel) rfl
theorem wn_Xx_firstError : Cond.initialized y_Xx_firstError.cls ∈ zWs := (zmem 39 (by decide +kernel) rfl)
theorem ws_Xx_firstError : Cond.instanceMethod y_Xx_firstError ∈ zWs := (zmem 617 (by decide +kernel) rfl)
theorem wv_Xx_firstError : Cond.selects R_Xx y_Xx_firstError y_Xx_firstError ∈ zWs := zmem 618 (by decide +kernel) rfl
abbrev c_Lw_undo : ByteArray := method_12_code
def y_Lw_undo : MethodName := ⟨R_Lw, "undo", "(LBrackenGambit;[J)I"⟩
def i_Lw_undo : List zI := [(0, .aload_n 1, 1, 0, 0), (1, .iconst 0, 1, 0, 0), (2, .aload_n 0, 1, 0, 0), (3, .invokevirtual 47, 3, 0, 0), (6, .i2l, 1, 0, 0), (7, .lastore, 1, 0, 0), (8, .goto 6, 3, 0, 14), (11, .astore_n 2, 1, 0, 0), (12, .iconst 1, 1, 1, 0), (13, .ireturn, 1, 0, 0), (14, .iconst 0, 1, 0, 0), (15, .ireturn, 1, 0, 0)]
theorem it_Lw_undo : zT c_Lw_undo i_Lw_undo := zT_of (by decide +kernel)
def hh_Lw_undo : List (Nat × Nat × Nat × Nat) := [(0, 8, 11, 17)]
theorem wc_Lw_undo : Cond.codeWith y_Lw_undo c_Lw_undo 3 (some .int) hh_Lw_undo ∈ zWs := zmem 624 (by decide +kernel) rfl
theorem wn_Lw_undo : Cond.initialized y_Lw_undo.cls ∈ zWs := (zmem 38 (by decide +kernel) rfl)
theorem ws_Lw_undo : Cond.static y_Lw_undo ∈ zWs := (zmem 623 (by decide +kernel) rfl)
abbrev c_Xx_undo : ByteArray := prog_1_method_13_code
def y_Xx_undo : MethodName := ⟨R_Xx, "undo", "()I"⟩
def i_Xx_undo : List zI := [(0, .aload_n 0, 1, 0, 0), (1, .getfield 19, 3, 0, 0), (4, .getfield 123, 3, 0, 0), (7, .ifCond .ne 13, 3, 0, 20), (10, .new 56, 3, 0, 0), (13, .dup, 1, 0, 0), (14, .ldc 127, 2, 0, 0), (16, .invokespecial 60, 3, 0, 0), (19, .athrow, 1, 0, 0), (20, .aload_n 0, 1, 0, 0), (21, .getfield 19, 3, 0, 0), (24, .aload_n 0, 1, 0, 0), (25, .getfield 10, 3, 0, 0), (28, .invokevirtual 129, 3, 0, 0), (31, .aload_n 0, 1, 0, 0), (32, .getfield 19, 3, 0, 0), (35, .getfield 123, 3, 0, 0), (38, .ireturn, 1, 0, 0)]
theorem it_Xx_undo : zT c_Xx_undo i_Xx_undo := zT_of (by decide +kernel)
theorem wc_Xx_undo : Cond.code y_Xx_undo c_Xx_undo 1 (some .int) ∈ zWs := zmem 628 (by decide +kernel) rfl
theorem wn_Xx_undo : Cond.initialized y_Xx_undo.cls ∈ zWs := (zmem 39 (by decide +kernel) rfl)
theorem ws_Xx_undo : Cond.instanceMethod y_Xx_undo ∈ zWs := (zmem 626 (by decide +kernel) rfl)
theorem wv_Xx_undo : Cond.selects R_Xx y_Xx_undo y_Xx_undo ∈ zWs := zmem 627 (by decide +kernel) rfl
abbrev c_Hs_restore : ByteArray := prog_4_method_4_code
def y_Hs_restore : MethodName := ⟨R_Hs, "restore", "(LBrackenGambit$Game;)V"⟩
def i_Hs_restore : List zI := [(0, .aload_n 0, 1, 0, 0), (1, .getfield 15, 3, 0, 0), (4, .ifCond .le 26, 3, 0, 30), (7, .aload_n 0, 1, 0, 0), (8, .dup, 1, 0, 0), (9, .getfield 15, 3, 0, 0), (12, .iconst 1, 1, 1, 0), (13, .isub, 1, 0, 0), (14, .putfield 15, 3, 0, 0), (17, .aload_n 1, 1, 0, 0), (18, .aload_n 0, 1, 0, 0), (19, .getfield 11, 3, 0, 0), (22, .aload_n 0, 1, 0, 0), (23, .getfield 15, 3, 0, 0), (26, .aaload, 1, 0, 0), (27, .invokevirtual 23, 3, 0, 0), (30, .return_, 1, 0, 0)]
theorem it_Hs_restore : zT c_Hs_restore i_Hs_restore := zT_of (by decide +kernel)
theorem wc_Hs_restore : Cond.code y_Hs_restore c_Hs_restore 2 none ∈ zWs := zmem 633 (by decide +kernel) rfl
theorem wn_Hs_restore : Cond.initialized y_Hs_restore.cls ∈ zWs := (zmem 42 (by decide +kernel) rfl)
theorem ws_Hs_restore : Cond.instanceMethod y_Hs_restore ∈ zWs := (zmem 631 (by decide +kernel) rfl)
theorem wv_Hs_restore : Cond.selects R_Hs y_Hs_restore y_Hs_restore ∈ zWs := zmem 632 (by decide +kernel) rfl
abbrev c_Lw_pieces : ByteArray := method_13_code
def y_Lw_pieces : MethodName := ⟨R_Lw, "pieces", "(LBrackenGambit;I[J)I"⟩
def i_Lw_pieces : List zI := [(0, .aload_n 2, 1, 0, 0), (1, .iconst 0, 1, 0, 0), (2, .aload_n 0, 1, 0, 0), (3, .iload_n 1, 1, 0, 0), (4, .invokevirtual 50, 3, 0, 0), (7, .i2l, 1, 0, 0), (8, .lastore, 1, 0, 0), (9, .goto 6, 3, 0, 15), (12, .astore_n 3, 1, 0, 0), (13, .iconst 1, 1, 1, 0), (14, .ireturn, 1, 0, 0), (15, .iconst 0, 1, 0, 0), (16, .ireturn, 1, 0, 0)]
theorem it_Lw_pieces : zT c_Lw_pieces i_Lw_pieces := zT_of (by decide +kernel)
def hh_Lw_pieces : List (Nat × Nat × Nat × Nat) := [(0, 9, 12, 13)]
theorem wc_Lw_pieces : Cond.codeWith y_Lw_pieces c_Lw_pieces 4 (some .int) hh_Lw_pieces ∈ zWs := zmem 636 (by decide +kernel) rfl
theorem wn_Lw_pieces : Cond.initialized y_Lw_pieces.cls ∈ zWs := (zmem 38 (by decide +kernel) rfl)
theorem ws_Lw_pieces : Cond.static y_Lw_pieces ∈ zWs := (zmem 635 (by decide +kernel) rfl)
abbrev c_Xx_pieces : ByteArray := prog_1_method_14_code
def y_Xx_pieces : MethodName := ⟨R_Xx, "pieces", "(I)I"⟩
def i_Xx_pieces : List zI := [(0, .iload_n 1, 1, 0, 0), (1, .invokestatic 132, 3, 0, 0), (4, .aload_n 0, 1, 0, 0), (5, .getfield 10, 3, 0, 0), (8, .getfield 49, 3, 0, 0), (11, .iload_n 1, 1, 0, 0), (12, .invokevirtual 135, 3, 0, 0), (15, .ireturn, 1, 0, 0)]
theorem it_Xx_pieces : zT c_Xx_pieces i_Xx_pieces := zT_of (by decide +kernel)
theorem wc_Xx_pieces : Cond.code y_Xx_pieces c_Xx_pieces 2 (some .int) ∈ zWs := zmem 640 (by decide +kernel) rfl
theorem wn_Xx_pieces : Cond.initialized y_Xx_pieces.cls ∈ zWs := (zmem 39 (by decide +kernel) rfl)
theorem ws_Xx_pieces : Cond.instanceMethod y_Xx_pieces ∈ zWs := (zmem 638 (by decide +kernel) rfl)
theorem wv_Xx_pieces : Cond.selects R_Xx y_Xx_pieces y_Xx_pieces ∈ zWs := zmem 639 (by decide +kernel) rfl
abbrev c_Lw_sideAt : ByteArray := method_14_code
def y_Lw_sideAt : MethodName := ⟨R_Lw, "sideAt", "(LBrackenGambit;I[J)I"⟩
def i_Lw_sideAt : List zI := [(0, .aload_n 2, 1, 0, 0), (1, .iconst 0, 1, 0, 0), (2, .aload_n 0, 1, 0, 0), (3, .iload_n 1, 1, 0, 0), (4, .invokevirtual 53, 3, 0, 0), (7, .i2l, 1, 0, 0), (8, .lastore, 1, 0, 0), (9, .goto 9, 3, 0, 18), (12, .astore_n 3, 1, 0, 0), (13, .iconst 1, 1, 1, 0), (14, .ireturn, 1, 0, 0), (15, .astore_n 3, 1, 0, 0), (16, .iconst 2, 1, 2, 0), (17, .ireturn, 1, 0, 0), (18, .iconst 0, 1, 0, 0), (19, .ireturn, 1, 0, 0)]
theorem it_Lw_sideAt : zT c_Lw_sideAt i_Lw_sideAt := zT_of (by decide +kernel)
def hh_Lw_sideAt : List (Nat × Nat × Nat × Nat) := [(0, 9, 12, 13), (0, 9, 15, 56)]
theorem wc_Lw_sideAt : Cond.codeWith y_Lw_sideAt c_Lw_sideAt 4 (some .int) hh_Lw_sideAt ∈ zWs := zmem 643 (by decide +kernel) rfl
theorem wn_Lw_sideAt : Cond.initialized y_Lw_sideAt.cls ∈ zWs := (zmem 38 (by decide +kernel) rfl)
theorem ws_Lw_sideAt : Cond.static y_Lw_sideAt ∈ zWs := (zmem 642 (by decide +kernel) rfl)
abbrev c_Xx_sideAt : ByteArray := prog_1_method_15_code
def y_Xx_sideAt : MethodName := ⟨R_Xx, "sideAt", "(I)I"⟩
def i_Xx_sideAt : List zI := [(0, .aload_n 0, 1, 0, 0), (1, .iload_n 1, 1, 0, 0), (2, .invokevirtual 138, 3, 0, 0), (5, .invokestatic 141, 3, 0, 0), (8, .ireturn, 1, 0, 0)]
theorem it_Xx_sideAt : zT c_Xx_sideAt i_Xx_sideAt := zT_of (by decide +kernel)
theorem wc_Xx_sideAt : Cond.code y_Xx_sideAt c_Xx_sideAt 2 (some .int) ∈ zWs := zmem 648 (by decide +kernel) rfl
theorem wn_Xx_sideAt : Cond.initialized y_Xx_sideAt.cls ∈ zWs := (zmem 39 (by decide +kernel) rfl)
theorem ws_Xx_sideAt : Cond.instanceMethod y_Xx_sideAt ∈ zWs := (zmem 646 (by decide +kernel) rfl)
theorem wv_Xx_sideAt : Cond.selects R_Xx y_Xx_sideAt y_Xx_sideAt ∈ zWs := zmem 647 (by decide +kernel) rfl
abbrev c_Xx_neededPiece : ByteArray := prog_1_method_38_code
def y_Xx_neededPiece : MethodName := ⟨R_Xx, "neededPiece", "(I)I"⟩
def i_Xx_neededPiece : List zI := [(0, .iload_n 1, 1, 0, 0), (1, .invokestatic 41, 3, 0, 0), (4, .aload_n 0, 1, 0, 0), (5, .getfield 10, 3, 0, 0), (8, .getfield 49, 3, 0, 0), (11, .iload_n 1, 1, 0, 0), (12, .invokevirtual 52, 3, 0, 0), (15, .ifCond .eq 13, 3, 0, 28), (18, .new 155, 3, 0, 0), (21, .dup, 1, 0, 0), (22, .ldc 242, 2, 0, 0), (24, .invokespecial 159, 3, 0, 0), (27, .athrow, 1, 0, 0), (28, .aload_n 0, 1, 0, 0), (29, .getfield 10, 3, 0, 0), (32, .getfield 49, 3, 0, 0), (35, .iload_n 1, 1, 0, 0), (36, .invokevirtual 244, 3, 0, 0), (39, .ireturn, 1, 0, 0)]
theorem it_Xx_neededPiece : zT c_Xx_neededPiece i_Xx_neededPiece := zT_of (by decide +kernel)
theorem wc_Xx_neededPiece : Cond.code y_Xx_neededPiece c_Xx_neededPiece 2 (some .int) ∈ zWs := zmem 652 (by decide +kernel) rfl
theorem wn_Xx_neededPiece : Cond.initialized y_Xx_neededPiece.cls ∈ zWs := (zmem 39 (by decide +kernel) rfl)
theorem ws_Xx_neededPiece : Cond.instanceMethod y_Xx_neededPiece ∈ zWs := (zmem 651 (by decide +kernel) rfl)
theorem wv_Xx_neededPiece : Cond.selects R_Xx y_Xx_neededPiece y_Xx_neededPiece ∈ zWs := zmem 11 (by decide +kernel) rfl
abbrev c_Lw_stepsAt : ByteArray := method_15_code
def y_Lw_stepsAt : MethodName := ⟨R_Lw, "stepsAt", "(LBrackenGambit;I[J)I"⟩
def i_Lw_stepsAt : List zI := [(0, .aload_n 2, 1, 0, 0), (1, .iconst 0, 1, 0, 0), (2, .aload_n 0, 1, 0, 0), (3, .iload_n 1, 1, 0, 0), (4, .invokevirtual 58, 3, 0, 0), (7, .i2l, 1, 0, 0), (8, .lastore, 1, 0, 0), (9, .goto 9, 3, 0, 18), (12, .astore_n 3, 1, 0, 0), (13, .iconst 1, 1, 1, 0), (14, .ireturn, 1, 0, 0), (15, .astore_n 3, 1, 0, 0), (16, .iconst 2, 1, 2, 0), (17, .ireturn, 1, 0, 0), (18, .iconst 0, 1, 0, 0), (19, .ireturn, 1, 0, 0)]
theorem it_Lw_stepsAt : zT c_Lw_stepsAt i_Lw_stepsAt := zT_of (by decide +kernel)
def hh_Lw_stepsAt : List (Nat × Nat × Nat × Nat) := [(0, 9, 12, 13), (0, 9, 15, 56)]
theorem wc_Lw_stepsAt : Cond.codeWith y_Lw_stepsAt c_Lw_stepsAt 4 (some .int) hh_Lw_stepsAt ∈ zWs := zmem 673 (by decide +kernel) rfl
theorem wn_Lw_stepsAt : Cond.initialized y_Lw_stepsAt.cls ∈ zWs := (zmem 38 (by decide +kernel) rfl)
theorem ws_Lw_stepsAt : Cond.static y_Lw_stepsAt ∈ zWs := (zmem 672 (by decide +kernel) rfl)
abbrev c_Xx_stepsAt : ByteArray := prog_1_method_16_code
def y_Xx_stepsAt : MethodName := ⟨R_Xx, "stepsAt", "(I)I"⟩
def i_Xx_stepsAt : List zI := [(0, .aload_n 0, 1, 0, 0), (1, .iload_n 1, 1, 0, 0), (2, .invokevirtual 138, 3, 0, 0), (5, .invokestatic 146, 3, 0, 0), (8, .ireturn, 1, 0, 0)]
theorem it_Xx_stepsAt : zT c_Xx_stepsAt i_Xx_stepsAt := zT_of (by decide +kernel)
theorem wc_Xx_stepsAt : Cond.code y_Xx_stepsAt c_Xx_stepsAt 2 (some .int) ∈ zWs := zmem 677 (by decide +kernel) rfl
theorem wn_Xx_stepsAt : Cond.initialized y_Xx_stepsAt.cls ∈ zWs := (zmem 39 (by decide +kernel) rfl)
theorem ws_Xx_stepsAt : Cond.instanceMethod y_Xx_stepsAt ∈ zWs := (zmem 675 (by decide +kernel) rfl)
theorem wv_Xx_stepsAt : Cond.selects R_Xx y_Xx_stepsAt y_Xx_stepsAt ∈ zWs := zmem 676 (by decide +kernel) rfl
abbrev c_Lw_worthAt : ByteArray := method_16_code
def y_Lw_worthAt : MethodName := ⟨R_Lw, "worthAt", "(LBrackenGambit;I[J)I"⟩
def i_Lw_worthAt : List zI := [(0, .aload_n 2, 1, 0, 0), (1, .iconst 0, 1, 0, 0), (2, .aload_n 0, 1, 0, 0), (3, .iload_n 1, 1, 0, 0), (4, .invokevirtual 61, 3, 0, 0), (7, .i2l, 1, 0, 0), (8, .lastore, 1, 0, 0), (9, .goto 9, 3, 0, 18), (12, .astore_n 3, 1, 0, 0), (13, .iconst 1, 1, 1, 0), (14, .ireturn, 1, 0, 0), (15, .astore_n 3, 1, 0, 0), (16, .iconst 2, 1, 2, 0), (17, .ireturn, 1, 0, 0), (18, .iconst 0, 1, 0, 0), (19, .ireturn, 1, 0, 0)]
theorem it_Lw_worthAt : zT c_Lw_worthAt i_Lw_worthAt := zT_of (by decide +kernel)
def hh_Lw_worthAt : List (Nat × Nat × Nat × Nat) := [(0, 9, 12, 13), (0, 9, 15, 56)]
theorem wc_Lw_worthAt : Cond.codeWith y_Lw_worthAt c_Lw_worthAt 4 (some .int) hh_Lw_worthAt ∈ zWs := zmem 681 (by decide +kernel) rfl
theorem wn_Lw_worthAt : Cond.initialized y_Lw_worthAt.cls ∈ zWs := (zmem 38 (by decide +kernel) rfl)
theorem ws_Lw_worthAt : Cond.static y_Lw_worthAt ∈ zWs := (zmem 680 (by decide +kernel) rfl)
abbrev c_Xx_worthAt : ByteArray := prog_1_method_17_code
def y_Xx_worthAt : MethodName := ⟨R_Xx, "worthAt", "(I)I"⟩
def i_Xx_worthAt : List zI := [(0, .aload_n 0, 1, 0, 0), (1, .iload_n 1, 1, 0, 0), (2, .invokevirtual 138, 3, 0, 0), (5, .invokestatic 149, 3, 0, 0), (8, .ireturn, 1, 0, 0)]
theorem it_Xx_worthAt : zT c_Xx_worthAt i_Xx_worthAt := zT_of (by decide +kernel)
theorem wc_Xx_worthAt : Cond.code y_Xx_worthAt c_Xx_worthAt 2 (some .int) ∈ zWs := zmem 685 (by decide +kernel) rfl
theorem wn_Xx_worthAt : Cond.initialized y_Xx_worthAt.cls ∈ zWs := (zmem 39 (by decide +kernel) rfl)
theorem ws_Xx_worthAt : Cond.instanceMethod y_Xx_worthAt ∈ zWs := (zmem 683 (by decide +kernel) rfl)
theorem wv_Xx_worthAt : Cond.selects R_Xx y_Xx_worthAt y_Xx_worthAt ∈ zWs := zmem 684 (by decide +kernel) rfl
abbrev c_Lw_leaderOf : ByteArray := method_17_code
def y_Lw_leaderOf : MethodName := ⟨R_Lw, "leaderOf", "(LBrackenGambit;I[J)I"⟩
def i_Lw_leaderOf : List zI := [(0, .aload_n 2, 1, 0, 0), (1, .iconst 0, 1, 0, 0), (2, .aload_n 0, 1, 0, 0), (3, .iload_n 1, 1, 0, 0), (4, .invokevirtual 64, 3, 0, 0), (7, .i2l, 1, 0, 0), (8, .lastore, 1, 0, 0), (9, .goto 9, 3, 0, 18), (12, .astore_n 3, 1, 0, 0), (13, .iconst 1, 1, 1, 0), (14, .ireturn, 1, 0, 0), (15, .astore_n 3, 1, 0, 0), (16, .iconst 2, 1, 2, 0), (17, .ireturn, 1, 0, 0), (18, .iconst 0, 1, 0, 0), (19, .ireturn, 1, 0, 0)]
theorem it_Lw_leaderOf : zT c_Lw_leaderOf i_Lw_leaderOf := zT_of (by decide +kernel)
def hh_Lw_leaderOf : List (Nat × Nat × Nat × Nat) := [(0, 9, 12, 13), (0, 9, 15, 56)]
theorem wc_Lw_leaderOf : Cond.codeWith y_Lw_leaderOf c_Lw_leaderOf 4 (some .int) hh_Lw_leaderOf ∈ zWs := zmem 689 (by decide +kernel) rfl
theorem wn_Lw_leaderOf : Cond.initialized y_Lw_leaderOf.cls ∈ zWs := (zmem 38 (by decide +kernel) rfl)
theorem ws_Lw_leaderOf : Cond.static y_Lw_leaderOf ∈ zWs := (zmem 688 (by decide +kernel) rfl)
abbrev c_Xx_leaderOf : ByteArray := prog_1_method_18_code
def y_Xx_leaderOf : MethodName := ⟨R_Xx, "leaderOf", "(I)I"⟩
def i_Xx_leaderOf : List zI := [(0, .iload_n 1, 1, 0, 0), (1, .invokestatic 132, 3, 0, 0), (4, .aload_n 0, 1, 0, 0), (5, .getfield 10, 3, 0, 0), (8, .getfield 49, 3, 0, 0), (11, .iload_n 1, 1, 0, 0), (12, .invokevirtual 152, 3, 0, 0), (15, .istore_n 2, 1, 0, 0), (16, .iload_n 2, 1, 0, 0), (17, .iconst (-1), 1, -1, 0), (18, .if_icmp .ne 13, 3, 0, 31), (21, .new 155, 3, 0, 0), (24, .dup, 1, 0, 0), (25, .ldc 157, 2, 0, 0), (27, .invokespecial 159, 3, 0, 0), (30, .athrow, 1, 0, 0), (31, .iload_n 2, 1, 0, 0), (32, .ireturn, 1, 0, 0)]
theorem it_Xx_leaderOf : zT c_Xx_leaderOf i_Xx_leaderOf := zT_of (by decide +kernel)
theorem wc_Xx_leaderOf : Cond.code y_Xx_leaderOf c_Xx_leaderOf 3 (some .int) ∈ zWs := zmem 693 (by decide +kernel) rfl
theorem wn_Xx_leaderOf : Cond.initialized y_Xx_leaderOf.cls ∈ zWs := (zmem 39 (by decide +kernel) rfl)
theorem ws_Xx_leaderOf : Cond.instanceMethod y_Xx_leaderOf ∈ zWs := (zmem 691 (by decide +kernel) rfl)
theorem wv_Xx_leaderOf : Cond.selects R_Xx y_Xx_leaderOf y_Xx_leaderOf ∈ zWs := zmem 692 (by decide +kernel) rfl
abbrev c_Lw_knowing : ByteArray := method_18_code
def y_Lw_knowing : MethodName := ⟨R_Lw, "knowing", "(LBrackenGambit;II[J)I"⟩
def i_Lw_knowing : List zI := [(0, .aload_n 3, 1, 0, 0), (1, .iconst 0, 1, 0, 0), (2, .aload_n 0, 1, 0, 0), (3, .iload_n 1, 1, 0, 0), (4, .iload_n 2, 1, 0, 0), (5, .invokevirtual 67, 3, 0, 0), (8, .i2l, 1, 0, 0), (9, .lastore, 1, 0, 0), (10, .goto 7, 3, 0, 17), (13, .astore 4, 2, 0, 0), (15, .iconst 1, 1, 1, 0), (16, .ireturn, 1, 0, 0), (17, .iconst 0, 1, 0, 0), (18, .ireturn, 1, 0, 0)]
theorem it_Lw_knowing : zT c_Lw_knowing i_Lw_knowing := zT_of (by decide +kernel)
def hh_Lw_knowing : List (Nat × Nat × Nat × Nat) := [(0, 10, 13, 13)]
theorem wc_Lw_knowing : Cond.codeWith y_Lw_knowing c_Lw_knowing 5 (some .int) hh_Lw_knowing ∈ zWs := zmem 698 (by decide +kernel) rfl
theorem wn_Lw_knowing : Cond.initialized y_Lw_knowing.cls ∈ zWs := (zmem 38 (by decide +kernel) rfl)
theorem ws_Lw_knowing : Cond.static y_Lw_knowing ∈ zWs := (zmem 697 (by decide +kernel) rfl)
abbrev c_Xx_knowing : ByteArray := prog_1_method_19_code
def y_Xx_knowing : MethodName := ⟨R_Xx, "knowing", "(II)I"⟩
def i_Xx_knowing : List zI := [(0, .iload_n 1, 1, 0, 0), (1, .invokestatic 132, 3, 0, 0), (4, .iload_n 2, 1, 0, 0), (5, .invokestatic 160, 3, 0, 0), (8, .aload_n 0, 1, 0, 0), (9, .getfield 10, 3, 0, 0), (12, .getfield 49, 3, 0, 0), (15, .iload_n 1, 1, 0, 0), (16, .iload_n 2, 1, 0, 0), (17, .invokevirtual 163, 3, 0, 0), (20, .invokestatic 167, 3, 0, 0), (23, .ireturn, 1, 0, 0)]
theorem it_Xx_knowing : zT c_Xx_knowing i_Xx_knowing := zT_of (by decide +kernel)
theorem wc_Xx_knowing : Cond.code y_Xx_knowing c_Xx_knowing 3 (some .int) ∈ zWs := zmem 702 (by decide +kernel) rfl
theorem wn_Xx_knowing : Cond.initialized y_Xx_knowing.cls ∈ zWs := (zmem 39 (by decide +kernel) rfl)
theorem ws_Xx_knowing : Cond.instanceMethod y_Xx_knowing ∈ zWs := (zmem 700 (by decide +kernel) rfl)
theorem wv_Xx_knowing : Cond.selects R_Xx y_Xx_knowing y_Xx_knowing ∈ zWs := zmem 701 (by decide +kernel) rfl
abbrev c_Xx_needKind : ByteArray := prog_1_method_43_code
def y_Xx_needKind : MethodName := ⟨R_Xx, "needKind", "(I)V"⟩
def i_Xx_needKind : List zI := [(0, .iload_n 0, 1, 0, 0), (1, .ifCond .lt 8, 3, 0, 9), (4, .iload_n 0, 1, 0, 0), (5, .iconst 5, 1, 5, 0), (6, .if_icmp .lt 14, 3, 0, 20), (9, .new 266, 3, 0, 0), (12, .dup, 1, 0, 0), (13, .ldc_w 273, 3, 0, 0), (16, .invokespecial 270, 3, 0, 0), (19, .athrow, 1, 0, 0), (20, .return_, 1, 0, 0)]
theorem it_Xx_needKind : zT c_Xx_needKind i_Xx_needKind := zT_of (by decide +kernel)
theorem wc_Xx_needKind : Cond.code y_Xx_needKind c_Xx_needKind 1 none ∈ zWs := zmem 705 (by decide +kernel) rfl
theorem wn_Xx_needKind : Cond.initialized y_Xx_needKind.cls ∈ zWs := (zmem 39 (by decide +kernel) rfl)
theorem ws_Xx_needKind : Cond.static y_Xx_needKind ∈ zWs := (zmem 704 (by decide +kernel) rfl)
abbrev c_Bd_knowers : ByteArray := prog_2_method_10_code
def y_Bd_knowers : MethodName := ⟨R_Bd, "knowers", "(II)J"⟩
def i_Bd_knowers : List zI := [(0, .lconst 0, 1, 0, 0), (1, .lstore_n 3, 1, 0, 0), (2, .iconst 0, 1, 0, 0), (3, .istore 5, 2, 0, 0), (5, .iload 5, 2, 0, 0), (7, .bipush 36, 2, 36, 0), (9, .if_icmp .ge 40, 3, 0, 49), (12, .aload_n 0, 1, 0, 0), (13, .iload 5, 2, 0, 0), (15, .iload_n 1, 1, 0, 0), (16, .invokevirtual 31, 3, 0, 0), (19, .ifCond .eq 24, 3, 0, 43), (22, .aload_n 0, 1, 0, 0), (23, .getfield 9, 3, 0, 0), (26, .iload 5, 2, 0, 0), (28, .iaload, 1, 0, 0), (29, .iload_n 2, 1, 0, 0), (30, .invokestatic 45, 3, 0, 0), (33, .ifCond .eq 10, 3, 0, 43), (36, .lload_n 3, 1, 0, 0), (37, .lconst 1, 1, 0, 0), (38, .iload 5, 2, 0, 0), (40, .lshl, 1, 0, 0), (41, .lor, 1, 0, 0), (42, .lstore_n 3, 1, 0, 0), (43, .iinc 5 1, 3, 1, 0), (46, .goto (-41), 3, 0, 5), (49, .lload_n 3, 1, 0, 0), (50, .lreturn, 1, 0, 0)]
theorem it_Bd_knowers : zT c_Bd_knowers i_Bd_knowers := zT_of (by decide +kernel)
theorem wc_Bd_knowers : Cond.code y_Bd_knowers c_Bd_knowers 6 (some .long) ∈ zWs := zmem 710 (by decide +kernel) rfl
theorem wn_Bd_knowers : Cond.initialized y_Bd_knowers.cls ∈ zWs := (zmem 41 (by decide +kernel) rfl)
theorem ws_Bd_knowers : Cond.instanceMethod y_Bd_knowers ∈ zWs := (zmem 708 (by decide +kernel) rfl)
theorem wv_Bd_knowers : Cond.selects R_Bd y_Bd_knowers y_Bd_knowers ∈ zWs := zmem 709 (by decide +kernel) rfl
abbrev c_Lw_reach : ByteArray := method_19_code
def y_Lw_reach : MethodName := ⟨R_Lw, "reach", "(LBrackenGambit;I[J)I"⟩
def i_Lw_reach : List zI := [(0, .aload_n 2, 1, 0, 0), (1, .iconst 0, 1, 0, 0), (2, .aload_n 0, 1, 0, 0), (3, .iload_n 1, 1, 0, 0), (4, .invokevirtual 70, 3, 0, 0), (7, .lastore, 1, 0, 0), (8, .goto 9, 3, 0, 17), (11, .astore_n 3, 1, 0, 0), (12, .iconst 1, 1, 1, 0), (13, .ireturn, 1, 0, 0), (14, .astore_n 3, 1, 0, 0), (15, .iconst 2, 1, 2, 0), (16, .ireturn, 1, 0, 0), (17, .iconst 0, 1, 0, 0), (18, .ireturn, 1, 0, 0)]
theorem it_Lw_reach : zT c_Lw_reach i_Lw_reach := zT_of (by decide +kernel)
def hh_Lw_reach : List (Nat × Nat × Nat × Nat) := [(0, 8, 11, 13), (0, 8, 14, 56)]
theorem wc_Lw_reach : Cond.codeWith y_Lw_reach c_Lw_reach 4 (some .int) hh_Lw_reach ∈ zWs := zmem 714 (by decide +kernel) rfl
theorem wn_Lw_reach : Cond.initialized y_Lw_reach.cls ∈ zWs := (zmem 38 (by decide +kernel) rfl)
theorem ws_Lw_reach : Cond.static y_Lw_reach ∈ zWs := (zmem 713 (by decide +kernel) rfl)
abbrev c_Xx_reach : ByteArray := prog_1_method_20_code
def y_Xx_reach : MethodName := ⟨R_Xx, "reach", "(I)J"⟩
def i_Xx_reach : List zI := [(0, .aload_n 0, 1, 0, 0), (1, .iload_n 1, 1, 0, 0), (2, .invokevirtual 138, 3, 0, 0), (5, .pop, 1, 0, 0), (6, .aload_n 0, 1, 0, 0), (7, .getfield 10, 3, 0, 0), (10, .getfield 49, 3, 0, 0), (13, .iload_n 1, 1, 0, 0), (14, .invokevirtual 173, 3, 0, 0), (17, .lreturn, 1, 0, 0)]
theorem it_Xx_reach : zT c_Xx_reach i_Xx_reach := zT_of (by decide +kernel)
theorem wc_Xx_reach : Cond.code y_Xx_reach c_Xx_reach 2 (some .long) ∈ zWs := zmem 718 (by decide +kernel) rfl
theorem wn_Xx_reach : Cond.initialized y_Xx_reach.cls ∈ zWs := (zmem 39 (by decide +kernel) rfl)
theorem ws_Xx_reach : Cond.instanceMethod y_Xx_reach ∈ zWs := (zmem 716 (by decide +kernel) rfl)
theorem wv_Xx_reach : Cond.selects R_Xx y_Xx_reach y_Xx_reach ∈ zWs := zmem 717 (by decide +kernel) rfl
abbrev c_Lw_moveCount : ByteArray := method_20_code
def y_Lw_moveCount : MethodName := ⟨R_Lw, "moveCount", "(LBrackenGambit;I[J)I"⟩
def i_Lw_moveCount : List zI := [(0, .aload_n 2, 1, 0, 0), (1, .iconst 0, 1, 0, 0), (2, .aload_n 0, 1, 0, 0), (3, .iload_n 1, 1, 0, 0), (4, .invokevirtual 74, 3, 0, 0), (7, .i2l, 1, 0, 0), (8, .lastore, 1, 0, 0), (9, .goto 6, 3, 0, 15), (12, .astore_n 3, 1, 0, 0), (13, .iconst 1, 1, 1, 0), (14, .ireturn, 1, 0, 0), (15, .iconst 0, 1, 0, 0), (16, .ireturn, 1, 0, 0)]
theorem it_Lw_moveCount : zT c_Lw_moveCount i_Lw_moveCount := zT_of (by decide +kernel)
def hh_Lw_moveCount : List (Nat × Nat × Nat × Nat) := [(0, 9, 12, 13)]
theorem wc_Lw_moveCount : Cond.codeWith y_Lw_moveCount c_Lw_moveCount 4 (some .int) hh_Lw_moveCount ∈ zWs := zmem 722 (by decide +kernel) rfl
theorem wn_Lw_moveCount : Cond.initialized y_Lw_moveCount.cls ∈ zWs := (zmem 38 (by decide +kernel) rfl)
theorem ws_Lw_moveCount : Cond.static y_Lw_moveCount ∈ zWs := (zmem 721 (by decide +kernel) rfl)
abbrev c_Xx_moveCount : ByteArray := prog_1_method_21_code
def y_Xx_moveCount : MethodName := ⟨R_Xx, "moveCount", "(I)I"⟩
def i_Xx_moveCount : List zI := [(0, .iload_n 1, 1, 0, 0), (1, .invokestatic 132, 3, 0, 0), (4, .aload_n 0, 1, 0, 0), (5, .getfield 10, 3, 0, 0), (8, .getfield 49, 3, 0, 0), (11, .iload_n 1, 1, 0, 0), (12, .invokevirtual 177, 3, 0, 0), (15, .ireturn, 1, 0, 0)]
theorem it_Xx_moveCount : zT c_Xx_moveCount i_Xx_moveCount := zT_of (by decide +kernel)
theorem wc_Xx_moveCount : Cond.code y_Xx_moveCount c_Xx_moveCount 2 (some .int) ∈ zWs := zmem 726 (by decide +kernel) rfl
theorem wn_Xx_moveCount : Cond.initialized y_Xx_moveCount.cls ∈ zWs := (zmem 39 (by decide +kernel) rfl)
theorem ws_Xx_moveCount : Cond.instanceMethod y_Xx_moveCount ∈ zWs := (zmem 724 (by decide +kernel) rfl)
theorem wv_Xx_moveCount : Cond.selects R_Xx y_Xx_moveCount y_Xx_moveCount ∈ zWs := zmem 725 (by decide +kernel) rfl
abbrev c_Lw_guards : ByteArray := method_21_code
def y_Lw_guards : MethodName := ⟨R_Lw, "guards", "(LBrackenGambit;II[J)I"⟩
def i_Lw_guards : List zI := [(0, .aload_n 3, 1, 0, 0), (1, .iconst 0, 1, 0, 0), (2, .aload_n 0, 1, 0, 0), (3, .iload_n 1, 1, 0, 0), (4, .iload_n 2, 1, 0, 0), (5, .invokevirtual 77, 3, 0, 0), (8, .i2l, 1, 0, 0), (9, .lastore, 1, 0, 0), (10, .goto 7, 3, 0, 17), (13, .astore 4, 2, 0, 0), (15, .iconst 1, 1, 1, 0), (16, .ireturn, 1, 0, 0), (17, .iconst 0, 1, 0, 0), (18, .ireturn, 1, 0, 0)]
theorem it_Lw_guards : zT c_Lw_guards i_Lw_guards := zT_of (by decide +kernel)
def hh_Lw_guards : List (Nat × Nat × Nat × Nat) := [(0, 10, 13, 13)]
theorem wc_Lw_guards : Cond.codeWith y_Lw_guards c_Lw_guards 5 (some .int) hh_Lw_guards ∈ zWs := zmem 730 (by decide +kernel) rfl
theorem wn_Lw_guards : Cond.initialized y_Lw_guards.cls ∈ zWs := (zmem 38 (by decide +kernel) rfl)
theorem ws_Lw_guards : Cond.static y_Lw_guards ∈ zWs := (zmem 729 (by decide +kernel) rfl)
abbrev c_Xx_guards : ByteArray := prog_1_method_22_code
def y_Xx_guards : MethodName := ⟨R_Xx, "guards", "(II)I"⟩
def i_Xx_guards : List zI := [(0, .iload_n 1, 1, 0, 0), (1, .invokestatic 132, 3, 0, 0), (4, .iload_n 2, 1, 0, 0), (5, .invokestatic 41, 3, 0, 0), (8, .aload_n 0, 1, 0, 0), (9, .getfield 10, 3, 0, 0), (12, .getfield 49, 3, 0, 0), (15, .iload_n 1, 1, 0, 0), (16, .iload_n 2, 1, 0, 0), (17, .invokevirtual 180, 3, 0, 0), (20, .ireturn, 1, 0, 0)]
theorem it_Xx_guards : zT c_Xx_guards i_Xx_guards := zT_of (by decide +kernel)
theorem wc_Xx_guards : Cond.code y_Xx_guards c_Xx_guards 3 (some .int) ∈ zWs := zmem 734 (by decide +kernel) rfl
theorem wn_Xx_guards : Cond.initialized y_Xx_guards.cls ∈ zWs := (zmem 39 (by decide +kernel) rfl)
theorem ws_Xx_guards : Cond.instanceMethod y_Xx_guards ∈ zWs := (zmem 732 (by decide +kernel) rfl)
theorem wv_Xx_guards : Cond.selects R_Xx y_Xx_guards y_Xx_guards ∈ zWs := zmem 733 (by decide +kernel) rfl
abbrev c_Bd_countGuardsAlong : ByteArray := prog_2_method_19_code
def y_Bd_countGuardsAlong : MethodName := ⟨R_Bd, "countGuardsAlong", "(II)I"⟩
def i_Bd_countGuardsAlong : List zI := [(0, .iconst 0, 1, 0, 0), (1, .istore_n 3, 1, 0, 0), (2, .iconst 0, 1, 0, 0), (3, .istore 4, 2, 0, 0), (5, .iload 4, 2, 0, 0), (7, .bipush 36, 2, 36, 0), (9, .if_icmp .ge 37, 3, 0, 46), (12, .aload_n 0, 1, 0, 0), (13, .iload 4, 2, 0, 0), (15, .iload_n 1, 1, 0, 0), (16, .invokevirtual 31, 3, 0, 0), (19, .ifCond .eq 21, 3, 0, 40), (22, .aload_n 0, 1, 0, 0), (23, .iload 4, 2, 0, 0), (25, .invokevirtual 78, 3, 0, 0), (28, .iload_n 2, 1, 0, 0), (29, .lshr, 1, 0, 0), (30, .lconst 1, 1, 0, 0), (31, .land, 1, 0, 0), (32, .lconst 0, 1, 0, 0), (33, .lcmp, 1, 0, 0), (34, .ifCond .eq 6, 3, 0, 40), (37, .iinc 3 1, 3, 1, 0), (40, .iinc 4 1, 3, 1, 0), (43, .goto (-38), 3, 0, 5), (46, .iload_n 3, 1, 0, 0), (47, .ireturn, 1, 0, 0)]
theorem it_Bd_countGuardsAlong : zT c_Bd_countGuardsAlong i_Bd_countGuardsAlong := zT_of (by decide +kernel)
theorem wc_Bd_countGuardsAlong : Cond.code y_Bd_countGuardsAlong c_Bd_countGuardsAlong 5 (some .int) ∈ zWs := zmem 738 (by decide +kernel) rfl
theorem wn_Bd_countGuardsAlong : Cond.initialized y_Bd_countGuardsAlong.cls ∈ zWs := (zmem 41 (by decide +kernel) rfl)
theorem ws_Bd_countGuardsAlong : Cond.instanceMethod y_Bd_countGuardsAlong ∈ zWs := (zmem 736 (by decide +kernel) rfl)
theorem wv_Bd_countGuardsAlong : Cond.selects R_Bd y_Bd_countGuardsAlong y_Bd_countGuardsAlong ∈ zWs := zmem 737 (by decide +kernel) rfl
abbrev c_Lw_guardsByLooking : ByteArray := method_22_code
def y_Lw_guardsByLooking : MethodName := ⟨R_Lw, "guardsByLooking", "(LBrackenGambit;II[J)I"⟩
def i_Lw_guardsByLooking : List zI := [(0, .aload_n 3, 1, 0, 0), (1, .iconst 0, 1, 0, 0), (2, .aload_n 0, 1, 0, 0), (3, .iload_n 1, 1, 0, 0), (4, .iload_n 2, 1, 0, 0), (5, .invokevirtual 80, 3, 0, 0), (8, .i2l, 1, 0, 0), (9, .lastore, 1, 0, 0), (10, .goto 7, 3, 0, 17), (13, .astore 4, 2, 0, 0), (15, .iconst 1, 1, 1, 0), (16, .ireturn, 1, 0, 0), (17, .iconst 0, 1, 0, 0), (18, .ireturn, 1, 0, 0)]
theorem it_Lw_guardsByLooking : zT c_Lw_guardsByLooking i_Lw_guardsByLooking := zT_of (by decide +kernel)
def hh_Lw_guardsByLooking : List (Nat × Nat × Nat × Nat) := [(0, 10, 13, 13)]
theorem wc_Lw_guardsByLooking : Cond.codeWith y_Lw_guardsByLooking c_Lw_guardsByLooking 5 (some .int) hh_Lw_guardsByLooking ∈ zWs := zmem 741 (by decide +kernel) rfl
theorem wn_Lw_guardsByLooking : Cond.initialized y_Lw_guardsByLooking.cls ∈ zWs := (zmem 38 (by decide +kernel) rfl)
theorem ws_Lw_guardsByLooking : Cond.static y_Lw_guardsByLooking ∈ zWs := (zmem 740 (by decide +kernel) rfl)
abbrev c_Xx_guardsByLooking : ByteArray := prog_1_method_23_code
def y_Xx_guardsByLooking : MethodName := ⟨R_Xx, "guardsByLooking", "(II)I"⟩
def i_Xx_guardsByLooking : List zI := [(0, .iload_n 1, 1, 0, 0), (1, .invokestatic 132, 3, 0, 0), (4, .iload_n 2, 1, 0, 0), (5, .invokestatic 41, 3, 0, 0), (8, .aload_n 0, 1, 0, 0), (9, .getfield 10, 3, 0, 0), (12, .getfield 49, 3, 0, 0), (15, .iload_n 1, 1, 0, 0), (16, .iload_n 2, 1, 0, 0), (17, .invokevirtual 183, 3, 0, 0), (20, .invokestatic 167, 3, 0, 0), (23, .ireturn, 1, 0, 0)]
theorem it_Xx_guardsByLooking : zT c_Xx_guardsByLooking i_Xx_guardsByLooking := zT_of (by decide +kernel)
theorem wc_Xx_guardsByLooking : Cond.code y_Xx_guardsByLooking c_Xx_guardsByLooking 3 (some .int) ∈ zWs := zmem 745 (by decide +kernel) rfl
theorem wn_Xx_guardsByLooking : Cond.initialized y_Xx_guardsByLooking.cls ∈ zWs := (zmem 39 (by decide +kernel) rfl)
theorem ws_Xx_guardsByLooking : Cond.instanceMethod y_Xx_guardsByLooking ∈ zWs := (zmem 743 (by decide +kernel) rfl)
theorem wv_Xx_guardsByLooking : Cond.selects R_Xx y_Xx_guardsByLooking y_Xx_guardsByLooking ∈ zWs := zmem 744 (by decide +kernel) rfl
abbrev c_Bd_guardsSeenFrom : ByteArray := prog_2_method_20_code
def y_Bd_guardsSeenFrom : MethodName := ⟨R_Bd, "guardsSeenFrom", "(II)J"⟩
def i_Bd_guardsSeenFrom : List zI := [(0, .lconst 0, 1, 0, 0), (1, .lstore_n 3, 1, 0, 0), (2, .iconst 0, 1, 0, 0), (3, .istore 5, 2, 0, 0), (5, .iload 5, 2, 0, 0), (7, .iconst 5, 1, 5, 0), (8, .if_icmp .ge 27, 3, 0, 35), (11, .lload_n 3, 1, 0, 0), (12, .aload_n 0, 1, 0, 0), (13, .iload_n 2, 1, 0, 0), (14, .iload 5, 2, 0, 0), (16, .invokevirtual 74, 3, 0, 0), (19, .aload_n 0, 1, 0, 0), (20, .iload_n 1, 1, 0, 0), (21, .iload 5, 2, 0, 0), (23, .invokevirtual 83, 3, 0, 0), (26, .land, 1, 0, 0), (27, .lor, 1, 0, 0), (28, .lstore_n 3, 1, 0, 0), (29, .iinc 5 1, 3, 1, 0), (32, .goto (-27), 3, 0, 5), (35, .lload_n 3, 1, 0, 0), (36, .lreturn, 1, 0, 0)]
theorem it_Bd_guardsSeenFrom : zT c_Bd_guardsSeenFrom i_Bd_guardsSeenFrom := zT_of (by decide +kernel)
theorem wc_Bd_guardsSeenFrom : Cond.code y_Bd_guardsSeenFrom c_Bd_guardsSeenFrom 6 (some .long) ∈ zWs := zmem 749 (by decide +kernel) rfl
theorem wn_Bd_guardsSeenFrom : Cond.initialized y_Bd_guardsSeenFrom.cls ∈ zWs := (zmem 41 (by decide +kernel) rfl)
theorem ws_Bd_guardsSeenFrom : Cond.instanceMethod y_Bd_guardsSeenFrom ∈ zWs := (zmem 747 (by decide +kernel) rfl)
theorem wv_Bd_guardsSeenFrom : Cond.selects R_Bd y_Bd_guardsSeenFrom y_Bd_guardsSeenFrom ∈ zWs := zmem 748 (by decide +kernel) rfl
abbrev c_Lw_guarded : ByteArray := method_23_code
def y_Lw_guarded : MethodName := ⟨R_Lw, "guarded", "(LBrackenGambit;I[J)I"⟩
def i_Lw_guarded : List zI := [(0, .aload_n 2, 1, 0, 0), (1, .iconst 0, 1, 0, 0), (2, .aload_n 0, 1, 0, 0), (3, .iload_n 1, 1, 0, 0), (4, .invokevirtual 83, 3, 0, 0), (7, .lastore, 1, 0, 0), (8, .goto 6, 3, 0, 14), (11, .astore_n 3, 1, 0, 0), (12, .iconst 1, 1, 1, 0), (13, .ireturn, 1, 0, 0), (14, .iconst 0, 1, 0, 0), (15, .ireturn, 1, 0, 0)]
theorem it_Lw_guarded : zT c_Lw_guarded i_Lw_guarded := zT_of (by decide +kernel)
def hh_Lw_guarded : List (Nat × Nat × Nat × Nat) := [(0, 8, 11, 13)]
theorem wc_Lw_guarded : Cond.codeWith y_Lw_guarded c_Lw_guarded 4 (some .int) hh_Lw_guarded ∈ zWs := zmem 753 (by decide +kernel) rfl
theorem wn_Lw_guarded : Cond.initialized y_Lw_guarded.cls ∈ zWs := (zmem 38 (by decide +kernel) rfl)
theorem ws_Lw_guarded : Cond.static y_Lw_guarded ∈ zWs := (zmem 752 (by decide +kernel) rfl)
abbrev c_Xx_guarded : ByteArray := prog_1_method_24_code
def y_Xx_guarded : MethodName := ⟨R_Xx, "guarded", "(I)J"⟩
def i_Xx_guarded : List zI := [(0, .iload_n 1, 1, 0, 0), (1, .invokestatic 132, 3, 0, 0), (4, .aload_n 0, 1, 0, 0), (5, .getfield 10, 3, 0, 0), (8, .getfield 49, 3, 0, 0), (11, .iload_n 1, 1, 0, 0), (12, .invokevirtual 186, 3, 0, 0), (15, .lreturn, 1, 0, 0)]
theorem it_Xx_guarded : zT c_Xx_guarded i_Xx_guarded := zT_of (by decide +kernel)
theorem wc_Xx_guarded : Cond.code y_Xx_guarded c_Xx_guarded 2 (some .long) ∈ zWs := zmem 757 (by decide +kernel) rfl
theorem wn_Xx_guarded : Cond.initialized y_Xx_guarded.cls ∈ zWs := (zmem 39 (by decide +kernel) rfl)
theorem ws_Xx_guarded : Cond.instanceMethod y_Xx_guarded ∈ zWs := (zmem 755 (by decide +kernel) rfl)
theorem wv_Xx_guarded : Cond.selects R_Xx y_Xx_guarded y_Xx_guarded ∈ zWs := zmem 756 (by decide +kernel) rfl
abbrev c_Bd_guardedBy : ByteArray := prog_2_method_18_code
def y_Bd_guardedBy : MethodName := ⟨R_Bd, "guardedBy", "(I)J"⟩
def i_Bd_guardedBy : List zI := [(0, .lconst 0, 1, 0, 0), (1, .lstore_n 2, 1, 0, 0), (2, .iconst 0, 1, 0, 0), (3, .istore 4, 2, 0, 0), (5, .iload 4, 2, 0, 0), (7, .bipush 36, 2, 36, 0), (9, .if_icmp .ge 28, 3, 0, 37), (12, .aload_n 0, 1, 0, 0), (13, .iload 4, 2, 0, 0), (15, .iload_n 1, 1, 0, 0), (16, .invokevirtual 31, 3, 0, 0), (19, .ifCond .eq 12, 3, 0, 31), (22, .lload_n 2, 1, 0, 0), (23, .aload_n 0, 1, 0, 0), (24, .iload 4, 2, 0, 0), (26, .invokevirtual 78, 3, 0, 0), (29, .lor, 1, 0, 0), (30, .lstore_n 2, 1, 0, 0), (31, .iinc 4 1, 3, 1, 0), (34, .goto (-29), 3, 0, 5), (37, .lload_n 2, 1, 0, 0), (38, .lreturn, 1, 0, 0)]
theorem it_Bd_guardedBy : zT c_Bd_guardedBy i_Bd_guardedBy := zT_of (by decide +kernel)
theorem wc_Bd_guardedBy : Cond.code y_Bd_guardedBy c_Bd_guardedBy 5 (some .long) ∈ zWs := zmem 761 (by decide +kernel) rfl
theorem wn_Bd_guardedBy : Cond.initialized y_Bd_guardedBy.cls ∈ zWs := (zmem 41 (by decide +kernel) rfl)
theorem ws_Bd_guardedBy : Cond.instanceMethod y_Bd_guardedBy ∈ zWs := (zmem 759 (by decide +kernel) rfl)
theorem wv_Bd_guardedBy : Cond.selects R_Bd y_Bd_guardedBy y_Bd_guardedBy ∈ zWs := zmem 760 (by decide +kernel) rfl
abbrev c_Lw_exchange : ByteArray := method_24_code
def y_Lw_exchange : MethodName := ⟨R_Lw, "exchange", "(LBrackenGambit;I[J)I"⟩
def i_Lw_exchange : List zI := [(0, .aload_n 2, 1, 0, 0), (1, .iconst 0, 1, 0, 0), (2, .aload_n 0, 1, 0, 0), (3, .iload_n 1, 1, 0, 0), (4, .invokevirtual 86, 3, 0, 0), (7, .i2l, 1, 0, 0), (8, .lastore, 1, 0, 0), (9, .goto 9, 3, 0, 18), (12, .astore_n 3, 1, 0, 0), (13, .iconst 1, 1, 1, 0), (14, .ireturn, 1, 0, 0), (15, .astore_n 3, 1, 0, 0), (16, .iconst 2, 1, 2, 0), (17, .ireturn, 1, 0, 0), (18, .iconst 0, 1, 0, 0), (19, .ireturn, 1, 0, 0)]
theorem it_Lw_exchange : zT c_Lw_exchange i_Lw_exchange := zT_of (by decide +kernel)
def hh_Lw_exchange : List (Nat × Nat × Nat × Nat) := [(0, 9, 12, 13), (0, 9, 15, 56)]
theorem wc_Lw_exchange : Cond.codeWith y_Lw_exchange c_Lw_exchange 4 (some .int) hh_Lw_exchange ∈ zWs := zmem 764 (by decide +kernel) rfl
theorem wn_Lw_exchange : Cond.initialized y_Lw_exchange.cls ∈ zWs := (zmem 38 (by decide +kernel) rfl)
theorem ws_Lw_exchange : Cond.static y_Lw_exchange ∈ zWs := (zmem 763 (by decide +kernel) rfl)
abbrev c_Xx_exchange : ByteArray := prog_1_method_25_code
def y_Xx_exchange : MethodName := ⟨R_Xx, "exchange", "(I)I"⟩
def i_Xx_exchange : List zI := [(0, .aload_n 0, 1, 0, 0), (1, .iload_n 1, 1, 0, 0), (2, .invokevirtual 138, 3, 0, 0), (5, .pop, 1, 0, 0), (6, .aload_n 0, 1, 0, 0), (7, .iload_n 1, 1, 0, 0), (8, .invokevirtual 189, 3, 0, 0), (11, .ireturn, 1, 0, 0)]
theorem it_Xx_exchange : zT c_Xx_exchange i_Xx_exchange := zT_of (by decide +kernel)
theorem wc_Xx_exchange : Cond.code y_Xx_exchange c_Xx_exchange 2 (some .int) ∈ zWs := zmem 768 (by decide +kernel) rfl
theorem wn_Xx_exchange : Cond.initialized y_Xx_exchange.cls ∈ zWs := (zmem 39 (by decide +kernel) rfl)
theorem ws_Xx_exchange : Cond.instanceMethod y_Xx_exchange ∈ zWs := (zmem 766 (by decide +kernel) rfl)
theorem wv_Xx_exchange : Cond.selects R_Xx y_Xx_exchange y_Xx_exchange ∈ zWs := zmem 767 (by decide +kernel) rfl
abbrev c_Xx_exchangeTried : ByteArray := prog_1_method_39_code
def y_Xx_exchangeTried : MethodName := ⟨R_Xx, "exchangeTried", "(I)I"⟩
def i_Xx_exchangeTried : List zI := [(0, .aload_n 0, 1, 0, 0), (1, .getfield 33, 3, 0, 0), (4, .aload_n 0, 1, 0, 0), (5, .getfield 10, 3, 0, 0), (8, .getfield 49, 3, 0, 0), (11, .invokevirtual 247, 3, 0, 0), (14, .aload_n 0, 1, 0, 0), (15, .getfield 33, 3, 0, 0), (18, .iload_n 1, 1, 0, 0), (19, .iconst 0, 1, 0, 0), (20, .invokestatic 251, 3, 0, 0), (23, .ireturn, 1, 0, 0)]
theorem it_Xx_exchangeTried : zT c_Xx_exchangeTried i_Xx_exchangeTried := zT_of (by decide +kernel)
theorem wc_Xx_exchangeTried : Cond.code y_Xx_exchangeTried c_Xx_exchangeTried 2 (some .int) ∈ zWs := zmem 772 (by decide +kernel) rfl
theorem wn_Xx_exchangeTried : Cond.initialized y_Xx_exchangeTried.cls ∈ zWs := (zmem 39 (by decide +kernel) rfl)
theorem ws_Xx_exchangeTried : Cond.instanceMethod y_Xx_exchangeTried ∈ zWs := (zmem 771 (by decide +kernel) rfl)
theorem wv_Xx_exchangeTried : Cond.selects R_Xx y_Xx_exchangeTried y_Xx_exchangeTried ∈ zWs := zmem 12 (by decide +kernel) rfl
abbrev c_Xx_exchangeOn : ByteArray := prog_1_method_40_code
def y_Xx_exchangeOn : MethodName := ⟨R_Xx, "exchangeOn", "(LBrackenGambit$Board;II)I"⟩
def i_Xx_exchangeOn : List zI := [(0, .aload_n 0, 1, 0, 0), (1, .iload_n 1, 1, 0, 0), (2, .invokevirtual 244, 3, 0, 0), (5, .istore_n 3, 1, 0, 0), (6, .aload_n 0, 1, 0, 0), (7, .aload_n 0, 1, 0, 0), (8, .iconst 1, 1, 1, 0), (9, .iload_n 3, 1, 0, 0), (10, .invokestatic 141, 3, 0, 0), (13, .isub, 1, 0, 0), (14, .iload_n 1, 1, 0, 0), (15, .invokevirtual 183, 3, 0, 0), (18, .invokevirtual 255, 3, 0, 0), (21, .istore 4, 2, 0, 0), (23, .iload 4, 2, 0, 0), (25, .iconst (-1), 1, -1, 0), (26, .if_icmp .eq 9, 3, 0, 35), (29, .iload_n 2, 1, 0, 0), (30, .bipush 16, 2, 16, 0), (32, .if_icmp .lt 5, 3, 0, 37), (35, .iconst 0, 1, 0, 0), (36, .ireturn, 1, 0, 0), (37, .aload_n 0, 1, 0, 0), (38, .iload 4, 2, 0, 0), (40, .iload_n 1, 1, 0, 0), (41, .invokevirtual 258, 3, 0, 0), (44, .iconst 0, 1, 0, 0), (45, .iload_n 3, 1, 0, 0), (46, .invokestatic 149, 3, 0, 0), (49, .aload_n 0, 1, 0, 0), (50, .iload_n 1, 1, 0, 0), (51, .iload_n 2, 1, 0, 0), (52, .iconst 1, 1, 1, 0), (53, .iadd, 1, 0, 0), (54, .invokestatic 251, 3, 0, 0), (57, .isub, 1, 0, 0), (58, .invokestatic 261, 3, 0, 0), (61, .ireturn, 1, 0, 0)]
theorem it_Xx_exchangeOn : zT c_Xx_exchangeOn i_Xx_exchangeOn := zT_of (by decide +kernel)
theorem wc_Xx_exchangeOn : Cond.code y_Xx_exchangeOn c_Xx_exchangeOn 5 (some .int) ∈ zWs := zmem 776 (by decide +kernel) rfl
theorem wn_Xx_exchangeOn : Cond.initialized y_Xx_exchangeOn.cls ∈ zWs := (zmem 39 (by decide +kernel) rfl)
theorem ws_Xx_exchangeOn : Cond.static y_Xx_exchangeOn ∈ zWs := (zmem 775 (by decide +kernel) rfl)
abbrev c_Bd_cheapestOn : ByteArray := prog_2_method_21_code
def y_Bd_cheapestOn : MethodName := ⟨R_Bd, "cheapestOn", "(J)I"⟩
def i_Bd_cheapestOn : List zI := [(0, .iconst (-1), 1, -1, 0), (1, .istore_n 3, 1, 0, 0), (2, .iconst 0, 1, 0, 0), (3, .istore 4, 2, 0, 0), (5, .iconst 0, 1, 0, 0), (6, .istore 5, 2, 0, 0), (8, .iload 5, 2, 0, 0), (10, .bipush 36, 2, 36, 0), (12, .if_icmp .ge 51, 3, 0, 63), (15, .lload_n 1, 1, 0, 0), (16, .iload 5, 2, 0, 0), (18, .lshr, 1, 0, 0), (19, .lconst 1, 1, 0, 0), (20, .land, 1, 0, 0), (21, .lconst 0, 1, 0, 0), (22, .lcmp, 1, 0, 0), (23, .ifCond .eq 34, 3, 0, 57), (26, .aload_n 0, 1, 0, 0), (27, .getfield 9, 3, 0, 0), (30, .iload 5, 2, 0, 0), (32, .iaload, 1, 0, 0), (33, .invokestatic 52, 3, 0, 0), (36, .istore 6, 2, 0, 0), (38, .iload_n 3, 1, 0, 0), (39, .iconst (-1), 1, -1, 0), (40, .if_icmp .eq 10, 3, 0, 50), (43, .iload 6, 2, 0, 0), (45, .iload 4, 2, 0, 0), (47, .if_icmp .ge 10, 3, 0, 57), (50, .iload 5, 2, 0, 0), (52, .istore_n 3, 1, 0, 0), (53, .iload 6, 2, 0, 0), (55, .istore 4, 2, 0, 0), (57, .iinc 5 1, 3, 1, 0), (60, .goto (-52), 3, 0, 8), (63, .iload_n 3, 1, 0, 0), (64, .ireturn, 1, 0, 0)]
theorem it_Bd_cheapestOn : zT c_Bd_cheapestOn i_Bd_cheapestOn := zT_of (by decide +kernel)
theorem wc_Bd_cheapestOn : Cond.code y_Bd_cheapestOn c_Bd_cheapestOn 7 (some .int) ∈ zWs := zmem 780 (by decide +kernel) rfl
theorem wn_Bd_cheapestOn : Cond.initialized y_Bd_cheapestOn.cls ∈ zWs := (zmem 41 (by decide +kernel) rfl)
theorem ws_Bd_cheapestOn : Cond.instanceMethod y_Bd_cheapestOn ∈ zWs := (zmem 778 (by decide +kernel) rfl)
theorem wv_Bd_cheapestOn : Cond.selects R_Bd y_Bd_cheapestOn y_Bd_cheapestOn ∈ zWs := zmem 779 (by decide +kernel) rfl
abbrev c_Jm_max : ByteArray := prog_16_method_65_code
def y_Jm_max : MethodName := ⟨R_Jm, "max", "(II)I"⟩
def i_Jm_max : List zI := [(0, .iload_n 0, 1, 0, 0), (1, .iload_n 1, 1, 0, 0), (2, .if_icmp .lt 7, 3, 0, 9), (5, .iload_n 0, 1, 0, 0), (6, .goto 4, 3, 0, 10), (9, .iload_n 1, 1, 0, 0), (10, .ireturn, 1, 0, 0)]
theorem it_Jm_max : zT c_Jm_max i_Jm_max := zT_of (by decide +kernel)
theorem wc_Jm_max : Cond.code y_Jm_max c_Jm_max 2 (some .int) ∈ zWs := zmem 785 (by decide +kernel) rfl
theorem wn_Jm_max : Cond.initialized y_Jm_max.cls ∈ zWs := (zmem 56 (by decide +kernel) rfl)
theorem ws_Jm_max : Cond.static y_Jm_max ∈ zWs := (zmem 784 (by decide +kernel) rfl)
abbrev c_Lw_weakest : ByteArray := method_25_code
def y_Lw_weakest : MethodName := ⟨R_Lw, "weakest", "(LBrackenGambit;I[J)I"⟩
def i_Lw_weakest : List zI := [(0, .aload_n 2, 1, 0, 0), (1, .iconst 0, 1, 0, 0), (2, .aload_n 0, 1, 0, 0), (3, .iload_n 1, 1, 0, 0), (4, .invokevirtual 89, 3, 0, 0), (7, .i2l, 1, 0, 0), (8, .lastore, 1, 0, 0), (9, .goto 9, 3, 0, 18), (12, .astore_n 3, 1, 0, 0), (13, .iconst 1, 1, 1, 0), (14, .ireturn, 1, 0, 0), (15, .astore_n 3, 1, 0, 0), (16, .iconst 2, 1, 2, 0), (17, .ireturn, 1, 0, 0), (18, .iconst 0, 1, 0, 0), (19, .ireturn, 1, 0, 0)]
theorem it_Lw_weakest : zT c_Lw_weakest i_Lw_weakest := zT_of (by decide +kernel)
def hh_Lw_weakest : List (Nat × Nat × Nat × Nat) := [(0, 9, 12, 13), (0, 9, 15, 56)]
theorem wc_Lw_weakest : Cond.codeWith y_Lw_weakest c_Lw_weakest 4 (some .int) hh_Lw_weakest ∈ zWs := zmem 788 (by decide +kernel) rfl
theorem wn_Lw_weakest : Cond.initialized y_Lw_weakest.cls ∈ zWs := (zmem 38 (by decide +kernel) rfl)
theorem ws_Lw_weakest : Cond.static y_Lw_weakest ∈ zWs := (zmem 787 (by decide +kernel) rfl)
abbrev c_Xx_weakest : ByteArray := prog_1_method_26_code
def y_Xx_weakest : MethodName := ⟨R_Xx, "weakest", "(I)I"⟩
def i_Xx_weakest : List zI := [(0, .iload_n 1, 1, 0, 0), (1, .invokestatic 132, 3, 0, 0), (4, .iconst 0, 1, 0, 0), (5, .istore_n 2, 1, 0, 0), (6, .iconst (-1), 1, -1, 0), (7, .istore_n 3, 1, 0, 0), (8, .iconst 0, 1, 0, 0), (9, .istore 4, 2, 0, 0), (11, .iload 4, 2, 0, 0), (13, .bipush 36, 2, 36, 0), (15, .if_icmp .ge 45, 3, 0, 60), (18, .aload_n 0, 1, 0, 0), (19, .getfield 10, 3, 0, 0), (22, .getfield 49, 3, 0, 0), (25, .iload 4, 2, 0, 0), (27, .iload_n 1, 1, 0, 0), (28, .invokevirtual 192, 3, 0, 0), (31, .ifCond .eq 23, 3, 0, 54), (34, .aload_n 0, 1, 0, 0), (35, .iload 4, 2, 0, 0), (37, .invokevirtual 189, 3, 0, 0), (40, .istore 5, 2, 0, 0), (42, .iload 5, 2, 0, 0), (44, .iload_n 2, 1, 0, 0), (45, .if_icmp .le 9, 3, 0, 54), (48, .iload 5, 2, 0, 0), (50, .istore_n 2, 1, 0, 0), (51, .iload 4, 2, 0, 0), (53, .istore_n 3, 1, 0, 0), (54, .iinc 4 1, 3, 1, 0), (57, .goto (-46), 3, 0, 11), (60, .iload_n 3, 1, 0, 0), (61, .iconst (-1), 1, -1, 0), (62, .if_icmp .ne 13, 3, 0, 75), (65, .new 155, 3, 0, 0), (68, .dup, 1, 0, 0), (69, .ldc 196, 2, 0, 0), (71, .invokespecial 159, 3, 0, 0), (74, .athrow, 1, 0, 0), (75, .iload_n 3, 1, 0, 0), (76, .ireturn, 1, 0, 0)]
theorem it_Xx_weakest : zT c_Xx_weakest i_Xx_weakest := zT_of (by decide +kernel)
theorem wc_Xx_weakest : Cond.code y_Xx_weakest c_Xx_weakest 6 (some .int) ∈ zWs := zmem 792 (by decide +kernel) rfl
theorem wn_Xx_weakest : Cond.initialized y_Xx_weakest.cls ∈ zWs := (zmem 39 (by decide +kernel) rfl)
theorem ws_Xx_weakest : Cond.instanceMethod y_Xx_weakest ∈ zWs := (zmem 790 (by decide +kernel) rfl)
theorem wv_Xx_weakest : Cond.selects R_Xx y_Xx_weakest y_Xx_weakest ∈ zWs := zmem 791 (by decide +kernel) rfl
abbrev c_Lw_winner : ByteArray := method_26_code
def y_Lw_winner : MethodName := ⟨R_Lw, "winner", "(LBrackenGambit;[J)I"⟩
def i_Lw_winner : List zI := [(0, .aload_n 1, 1, 0, 0), (1, .iconst 0, 1, 0, 0), (2, .aload_n 0, 1, 0, 0), (3, .invokevirtual 92, 3, 0, 0), (6, .i2l, 1, 0, 0), (7, .lastore, 1, 0, 0), (8, .goto 6, 3, 0, 14), (11, .astore_n 2, 1, 0, 0), (12, .iconst 1, 1, 1, 0), (13, .ireturn, 1, 0, 0), (14, .iconst 0, 1, 0, 0), (15, .ireturn, 1, 0, 0)]
theorem it_Lw_winner : zT c_Lw_winner i_Lw_winner := zT_of (by decide +kernel)
def hh_Lw_winner : List (Nat × Nat × Nat × Nat) := [(0, 8, 11, 56)]
theorem wc_Lw_winner : Cond.codeWith y_Lw_winner c_Lw_winner 3 (some .int) hh_Lw_winner ∈ zWs := zmem 797 (by decide +kernel) rfl
theorem wn_Lw_winner : Cond.initialized y_Lw_winner.cls ∈ zWs := (zmem 38 (by decide +kernel) rfl)
theorem ws_Lw_winner : Cond.static y_Lw_winner ∈ zWs := (zmem 796 (by decide +kernel) rfl)
abbrev c_Xx_winner : ByteArray := prog_1_method_29_code
def y_Xx_winner : MethodName := ⟨R_Xx, "winner", "()I"⟩
def i_Xx_winner : List zI := [(0, .aload_n 0, 1, 0, 0), (1, .getfield 10, 3, 0, 0), (4, .getfield 205, 3, 0, 0), (7, .iconst (-1), 1, -1, 0), (8, .if_icmp .ne 13, 3, 0, 21), (11, .new 155, 3, 0, 0), (14, .dup, 1, 0, 0), (15, .ldc 208, 2, 0, 0), (17, .invokespecial 159, 3, 0, 0), (20, .athrow, 1, 0, 0), (21, .aload_n 0, 1, 0, 0), (22, .getfield 10, 3, 0, 0), (25, .getfield 205, 3, 0, 0), (28, .ireturn, 1, 0, 0)]
theorem it_Xx_winner : zT c_Xx_winner i_Xx_winner := zT_of (by decide +kernel)
theorem wc_Xx_winner : Cond.code y_Xx_winner c_Xx_winner 1 (some .int) ∈ zWs := zmem 801 (by decide +kernel) rfl
theorem wn_Xx_winner : Cond.initialized y_Xx_winner.cls ∈ zWs := (zmem 39 (by decide +kernel) rfl)
theorem ws_Xx_winner : Cond.instanceMethod y_Xx_winner ∈ zWs := (zmem 799 (by decide +kernel) rfl)
theorem wv_Xx_winner : Cond.selects R_Xx y_Xx_winner y_Xx_winner ∈ zWs := zmem 800 (by decide +kernel) rfl
abbrev c_Lw_worth : ByteArray := method_27_code
def y_Lw_worth : MethodName := ⟨R_Lw, "worth", "(LBrackenGambit;I[J)I"⟩
def i_Lw_worth : List zI := [(0, .aload_n 2, 1, 0, 0), (1, .iconst 0, 1, 0, 0), (2, .aload_n 0, 1, 0, 0), (3, .iload_n 1, 1, 0, 0), (4, .invokevirtual 95, 3, 0, 0), (7, .i2l, 1, 0, 0), (8, .lastore, 1, 0, 0), (9, .goto 6, 3, 0, 15), (12, .astore_n 3, 1, 0, 0), (13, .iconst 1, 1, 1, 0), (14, .ireturn, 1, 0, 0), (15, .iconst 0, 1, 0, 0), (16, .ireturn, 1, 0, 0)]
theorem it_Lw_worth : zT c_Lw_worth i_Lw_worth := zT_of (by decide +kernel)
def hh_Lw_worth : List (Nat × Nat × Nat × Nat) := [(0, 9, 12, 13)]
theorem wc_Lw_worth : Cond.codeWith y_Lw_worth c_Lw_worth 4 (some .int) hh_Lw_worth ∈ zWs := zmem 805 (by decide +kernel) rfl
theorem wn_Lw_worth : Cond.initialized y_Lw_worth.cls ∈ zWs := (zmem 38 (by decide +kernel) rfl)
theorem ws_Lw_worth : Cond.static y_Lw_worth ∈ zWs := (zmem 804 (by decide +kernel) rfl)
abbrev c_Xx_worth : ByteArray := prog_1_method_32_code
def y_Xx_worth : MethodName := ⟨R_Xx, "worth", "(I)I"⟩
def i_Xx_worth : List zI := [(0, .iload_n 1, 1, 0, 0), (1, .invokestatic 132, 3, 0, 0), (4, .aload_n 0, 1, 0, 0), (5, .getfield 10, 3, 0, 0), (8, .getfield 49, 3, 0, 0), (11, .iload_n 1, 1, 0, 0), (12, .invokevirtual 216, 3, 0, 0), (15, .ireturn, 1, 0, 0)]
theorem it_Xx_worth : zT c_Xx_worth i_Xx_worth := zT_of (by decide +kernel)
theorem wc_Xx_worth : Cond.code y_Xx_worth c_Xx_worth 2 (some .int) ∈ zWs := zmem 809 (by decide +kernel) rfl
theorem wn_Xx_worth : Cond.initialized y_Xx_worth.cls ∈ zWs := (zmem 39 (by decide +kernel) rfl)
theorem ws_Xx_worth : Cond.instanceMethod y_Xx_worth ∈ zWs := (zmem 807 (by decide +kernel) rfl)
theorem wv_Xx_worth : Cond.selects R_Xx y_Xx_worth y_Xx_worth ∈ zWs := zmem 808 (by decide +kernel) rfl
abbrev c_Bd_worthOfSide : ByteArray := prog_2_method_12_code
def y_Bd_worthOfSide : MethodName := ⟨R_Bd, "worthOfSide", "(I)I"⟩
def i_Bd_worthOfSide : List zI := [(0, .iconst 0, 1, 0, 0), (1, .istore_n 2, 1, 0, 0), (2, .iconst 0, 1, 0, 0), (3, .istore_n 3, 1, 0, 0), (4, .iload_n 3, 1, 0, 0), (5, .bipush 36, 2, 36, 0), (7, .if_icmp .ge 30, 3, 0, 37), (10, .aload_n 0, 1, 0, 0), (11, .iload_n 3, 1, 0, 0), (12, .iload_n 1, 1, 0, 0), (13, .invokevirtual 31, 3, 0, 0), (16, .ifCond .eq 15, 3, 0, 31), (19, .iload_n 2, 1, 0, 0), (20, .aload_n 0, 1, 0, 0), (21, .getfield 9, 3, 0, 0), (24, .iload_n 3, 1, 0, 0), (25, .iaload, 1, 0, 0), (26, .invokestatic 52, 3, 0, 0), (29, .iadd, 1, 0, 0), (30, .istore_n 2, 1, 0, 0), (31, .iinc 3 1, 3, 1, 0), (34, .goto (-30), 3, 0, 4), (37, .iload_n 2, 1, 0, 0), (38, .ireturn, 1, 0, 0)]
theorem it_Bd_worthOfSide : zT c_Bd_worthOfSide i_Bd_worthOfSide := zT_of (by decide +kernel)
theorem wc_Bd_worthOfSide : Cond.code y_Bd_worthOfSide c_Bd_worthOfSide 4 (some .int) ∈ zWs := zmem 813 (by decide +kernel) rfl
theorem wn_Bd_worthOfSide : Cond.initialized y_Bd_worthOfSide.cls ∈ zWs := (zmem 41 (by decide +kernel) rfl)
theorem ws_Bd_worthOfSide : Cond.instanceMethod y_Bd_worthOfSide ∈ zWs := (zmem 811 (by decide +kernel) rfl)
theorem wv_Bd_worthOfSide : Cond.selects R_Bd y_Bd_worthOfSide y_Bd_worthOfSide ∈ zWs := zmem 812 (by decide +kernel) rfl
abbrev c_Lw_worthByAccount : ByteArray := method_28_code
def y_Lw_worthByAccount : MethodName := ⟨R_Lw, "worthByAccount", "(LBrackenGambit;I[J)I"⟩
def i_Lw_worthByAccount : List zI := [(0, .aload_n 2, 1, 0, 0), (1, .iconst 0, 1, 0, 0), (2, .aload_n 0, 1, 0, 0), (3, .iload_n 1, 1, 0, 0), (4, .invokevirtual 98, 3, 0, 0), (7, .i2l, 1, 0, 0), (8, .lastore, 1, 0, 0), (9, .goto 6, 3, 0, 15), (12, .astore_n 3, 1, 0, 0), (13, .iconst 1, 1, 1, 0), (14, .ireturn, 1, 0, 0), (15, .iconst 0, 1, 0, 0), (16, .ireturn, 1, 0, 0)]
theorem it_Lw_worthByAccount : zT c_Lw_worthByAccount i_Lw_worthByAccount := zT_of (by decide +kernel)
def hh_Lw_worthByAccount : List (Nat × Nat × Nat × Nat) := [(0, 9, 12, 13)]
theorem wc_Lw_worthByAccount : Cond.codeWith y_Lw_worthByAccount c_Lw_worthByAccount 4 (some .int) hh_Lw_worthByAccount ∈ zWs := zmem 816 (by decide +kernel) rfl
theorem wn_Lw_worthByAccount : Cond.initialized y_Lw_worthByAccount.cls ∈ zWs := (zmem 38 (by decide +kernel) rfl)
theorem ws_Lw_worthByAccount : Cond.static y_Lw_worthByAccount ∈ zWs := (zmem 815 (by decide +kernel) rfl)
abbrev c_Xx_worthByAccount : ByteArray := prog_1_method_33_code
def y_Xx_worthByAccount : MethodName := ⟨R_Xx, "worthByAccount", "(I)I"⟩
def i_Xx_worthByAccount : List zI := [(0, .iload_n 1, 1, 0, 0), (1, .invokestatic 132, 3, 0, 0), (4, .aload_n 0, 1, 0, 0), (5, .getfield 10, 3, 0, 0), (8, .getfield 219, 3, 0, 0), (11, .iload_n 1, 1, 0, 0), (12, .iaload, 1, 0, 0), (13, .ireturn, 1, 0, 0)]
theorem it_Xx_worthByAccount : zT c_Xx_worthByAccount i_Xx_worthByAccount := zT_of (by decide +kernel)
theorem wc_Xx_worthByAccount : Cond.code y_Xx_worthByAccount c_Xx_worthByAccount 2 (some .int) ∈ zWs := zmem 820 (by decide +kernel) rfl
theorem wn_Xx_worthByAccount : Cond.initialized y_Xx_worthByAccount.cls ∈ zWs := (zmem 39 (by decide +kernel) rfl)
theorem ws_Xx_worthByAccount : Cond.instanceMethod y_Xx_worthByAccount ∈ zWs := (zmem 818 (by decide +kernel) rfl)
theorem wv_Xx_worthByAccount : Cond.selects R_Xx y_Xx_worthByAccount y_Xx_worthByAccount ∈ zWs := zmem 819 (by decide +kernel) rfl
abbrev c_Lw_captured : ByteArray := method_29_code
def y_Lw_captured : MethodName := ⟨R_Lw, "captured", "(LBrackenGambit;I[J)I"⟩
def i_Lw_captured : List zI := [(0, .aload_n 2, 1, 0, 0), (1, .iconst 0, 1, 0, 0), (2, .aload_n 0, 1, 0, 0), (3, .iload_n 1, 1, 0, 0), (4, .invokevirtual 101, 3, 0, 0), (7, .i2l, 1, 0, 0), (8, .lastore, 1, 0, 0), (9, .goto 6, 3, 0, 15), (12, .astore_n 3, 1, 0, 0), (13, .iconst 1, 1, 1, 0), (14, .ireturn, 1, 0, 0), (15, .iconst 0, 1, 0, 0), (16, .ireturn, 1, 0, 0)]
theorem it_Lw_captured : zT c_Lw_captured i_Lw_captured := zT_of (by decide +kernel)
def hh_Lw_captured : List (Nat × Nat × Nat × Nat) := [(0, 9, 12, 13)]
theorem wc_Lw_captured : Cond.codeWith y_Lw_captured c_Lw_captured 4 (some .int) hh_Lw_captured ∈ zWs := zmem 823 (by decide +kernel) rfl
theorem wn_Lw_captured : Cond.initialized y_Lw_captured.cls ∈ zWs := (zmem 38 (by decide +kernel) rfl)
theorem ws_Lw_captured : Cond.static y_Lw_captured ∈ zWs := (zmem 822 (by decide +kernel) rfl)
abbrev c_Xx_captured : ByteArray := prog_1_method_34_code
def y_Xx_captured : MethodName := ⟨R_Xx, "captured", "(I)I"⟩
def i_Xx_captured : List zI := [(0, .iload_n 1, 1, 0, 0), (1, .invokestatic 132, 3, 0, 0), (4, .aload_n 0, 1, 0, 0), (5, .getfield 10, 3, 0, 0), (8, .getfield 223, 3, 0, 0), (11, .iload_n 1, 1, 0, 0), (12, .iaload, 1, 0, 0), (13, .ireturn, 1, 0, 0)]
theorem it_Xx_captured : zT c_Xx_captured i_Xx_captured := zT_of (by decide +kernel)
theorem wc_Xx_captured : Cond.code y_Xx_captured c_Xx_captured 2 (some .int) ∈ zWs := zmem 827 (by decide +kernel) rfl
theorem wn_Xx_captured : Cond.initialized y_Xx_captured.cls ∈ zWs := (zmem 39 (by decide +kernel) rfl)
theorem ws_Xx_captured : Cond.instanceMethod y_Xx_captured ∈ zWs := (zmem 825 (by decide +kernel) rfl)
theorem wv_Xx_captured : Cond.selects R_Xx y_Xx_captured y_Xx_captured ∈ zWs := zmem 826 (by decide +kernel) rfl
abbrev c_Lw_worthShare : ByteArray := method_30_code
def y_Lw_worthShare : MethodName := ⟨R_Lw, "worthShare", "(LBrackenGambit;I[D)I"⟩
def i_Lw_worthShare : List zI := [(0, .aload_n 2, 1, 0, 0), (1, .iconst 0, 1, 0, 0), (2, .aload_n 0, 1, 0, 0), (3, .iload_n 1, 1, 0, 0), (4, .invokevirtual 104, 3, 0, 0), (7, .dastore, 1, 0, 0), (8, .goto 6, 3, 0, 14), (11, .astore_n 3, 1, 0, 0), (12, .iconst 1, 1, 1, 0), (13, .ireturn, 1, 0, 0), (14, .iconst 0, 1, 0, 0), (15, .ireturn, 1, 0, 0)]
theorem it_Lw_worthShare : zT c_Lw_worthShare i_Lw_worthShare := zT_of (by decide +kernel)
def hh_Lw_worthShare : List (Nat × Nat × Nat × Nat) := [(0, 8, 11, 13)]
theorem wc_Lw_worthShare : Cond.codeWith y_Lw_worthShare c_Lw_worthShare 4 (some .int) hh_Lw_worthShare ∈ zWs := zmem 830 (by decide +kernel) rfl
theorem wn_Lw_worthShare : Cond.initialized y_Lw_worthShare.cls ∈ zWs := (zmem 38 (by decide +kernel) rfl)
theorem ws_Lw_worthShare : Cond.static y_Lw_worthShare ∈ zWs := (zmem 829 (by decide +kernel) rfl)
abbrev c_Xx_worthShare : ByteArray := prog_1_method_35_code
def y_Xx_worthShare : MethodName := ⟨R_Xx, "worthShare", "(I)D"⟩
def i_Xx_worthShare : List zI := [(0, .iload_n 1, 1, 0, 0), (1, .invokestatic 132, 3, 0, 0), (4, .aload_n 0, 1, 0, 0), (5, .getfield 10, 3, 0, 0), (8, .getfield 49, 3, 0, 0), (11, .iconst 0, 1, 0, 0), (12, .invokevirtual 216, 3, 0, 0), (15, .aload_n 0, 1, 0, 0), (16, .getfield 10, 3, 0, 0), (19, .getfield 49, 3, 0, 0), (22, .iconst 1, 1, 1, 0), (23, .invokevirtual 216, 3, 0, 0), (26, .iadd, 1, 0, 0), (27, .istore_n 2, 1, 0, 0), (28, .iload_n 2, 1, 0, 0), (29, .ifCond .ne 5, 3, 0, 34), (32, .dconst 0, 1, 0, 0), (33, .dreturn, 1, 0, 0), (34, .aload_n 0, 1, 0, 0), (35, .getfield 10, 3, 0, 0), (38, .getfield 49, 3, 0, 0), (41, .iload_n 1, 1, 0, 0), (42, .invokevirtual 216, 3, 0, 0), (45, .i2d, 1, 0, 0), (46, .iload_n 2, 1, 0, 0), (47, .i2d, 1, 0, 0), (48, .ddiv, 1, 0, 0), (49, .dreturn, 1, 0, 0)]
theorem it_Xx_worthShare : zT c_Xx_worthShare i_Xx_worthShare := zT_of (by decide +kernel)
theorem wc_Xx_worthShare : Cond.code y_Xx_worthShare c_Xx_worthShare 3 (some .double) ∈ zWs := zmem 834 (by decide +kernel) rfl
theorem wn_Xx_worthShare : Cond.initialized y_Xx_worthShare.cls ∈ zWs := (zmem 39 (by decide +kernel) rfl)
theorem ws_Xx_worthShare : Cond.instanceMethod y_Xx_worthShare ∈ zWs := (zmem 832 (by decide +kernel) rfl)
theorem wv_Xx_worthShare : Cond.selects R_Xx y_Xx_worthShare y_Xx_worthShare ∈ zWs := zmem 833 (by decide +kernel) rfl
abbrev c_Mm_init : ByteArray := prog_9_method_1_code
def y_Mm_init : MethodName := ⟨R_Mm, "<init>", "()V"⟩
def i_Mm_init : List zI := [(0, .aload_n 0, 1, 0, 0), (1, .invokespecial 1, 3, 0, 0), (4, .aload_n 0, 1, 0, 0), (5, .bipush 60, 2, 60, 0), (7, .newarray .int, 2, 0, 0), (9, .putfield 7, 3, 0, 0), (12, .aload_n 0, 1, 0, 0), (13, .sipush 300, 3, 300, 0), (16, .newarray .int, 2, 0, 0), (18, .putfield 13, 3, 0, 0), (21, .aload_n 0, 1, 0, 0), (22, .sipush 6300, 3, 6300, 0), (25, .newarray .int, 2, 0, 0), (27, .putfield 16, 3, 0, 0), (30, .aload_n 0, 1, 0, 0), (31, .bipush 36, 2, 36, 0), (33, .newarray .int, 2, 0, 0), (35, .putfield 19, 3, 0, 0), (38, .aload_n 0, 1, 0, 0), (39, .bipush 40, 2, 40, 0), (41, .newarray .int, 2, 0, 0), (43, .putfield 22, 3, 0, 0), (46, .aload_n 0, 1, 0, 0), (47, .bipush 60, 2, 60, 0), (49, .newarray .char, 2, 0, 0), (51, .putfield 25, 3, 0, 0), (54, .aload_n 0, 1, 0, 0), (55, .getfield 7, 3, 0, 0), (58, .bipush 38, 2, 38, 0), (60, .iconst (-1), 1, -1, 0), (61, .iastore, 1, 0, 0), (62, .return_, 1, 0, 0)]
theorem it_Mm_init : zT c_Mm_init i_Mm_init := zT_of (by decide +kernel)
theorem wc_Mm_init : Cond.code y_Mm_init c_Mm_init 1 none ∈ zWs := zmem 839 (by decide +kernel) rfl
theorem wn_Mm_init : Cond.initialized y_Mm_init.cls ∈ zWs := (zmem 44 (by decide +kernel) rfl)
theorem ws_Mm_init : Cond.instanceMethod y_Mm_init ∈ zWs := (zmem 838 (by decide +kernel) rfl)
abbrev c_Mm_thrown : ByteArray := prog_9_method_2_code
def y_Mm_thrown : MethodName := ⟨R_Mm, "thrown", "()I"⟩
def i_Mm_thrown : List zI := [(0, .aload_n 0, 1, 0, 0), (1, .getfield 29, 3, 0, 0), (4, .ireturn, 1, 0, 0)]
theorem it_Mm_thrown : zT c_Mm_thrown i_Mm_thrown := zT_of (by decide +kernel)
theorem wc_Mm_thrown : Cond.code y_Mm_thrown c_Mm_thrown 1 (some .int) ∈ zWs := zmem 872 (by decide +kernel) rfl
theorem wn_Mm_thrown : Cond.initialized y_Mm_thrown.cls ∈ zWs := (zmem 44 (by decide +kernel) rfl)
theorem ws_Mm_thrown : Cond.instanceMethod y_Mm_thrown ∈ zWs := (zmem 870 (by decide +kernel) rfl)
theorem wv_Mm_thrown : Cond.selects R_Mm y_Mm_thrown y_Mm_thrown ∈ zWs := zmem 871 (by decide +kernel) rfl
abbrev c_Mm_undo : ByteArray := prog_9_method_10_code
def y_Mm_undo : MethodName := ⟨R_Mm, "undo", "()I"⟩
def i_Mm_undo : List zI := [(0, .aload_n 0, 1, 0, 0), (1, .aload_n 0, 1, 0, 0), (2, .getfield 37, 3, 0, 0), (5, .ifCond .le 7, 3, 0, 12), (8, .iconst 1, 1, 1, 0), (9, .goto 4, 3, 0, 13), (12, .iconst 0, 1, 0, 0), (13, .invokevirtual 40, 3, 0, 0), (16, .ifCond .ne 5, 3, 0, 21), (19, .iconst 0, 1, 0, 0), (20, .ireturn, 1, 0, 0), (21, .aload_n 0, 1, 0, 0), (22, .dup, 1, 0, 0), (23, .getfield 37, 3, 0, 0), (26, .iconst 1, 1, 1, 0), (27, .isub, 1, 0, 0), (28, .putfield 37, 3, 0, 0), (31, .iconst 0, 1, 0, 0), (32, .istore_n 1, 1, 0, 0), (33, .iload_n 1, 1, 0, 0), (34, .bipush 60, 2, 60, 0), (36, .if_icmp .ge 29, 3, 0, 65), (39, .aload_n 0, 1, 0, 0), (40, .getfield 7, 3, 0, 0), (43, .iload_n 1, 1, 0, 0), (44, .aload_n 0, 1, 0, 0), (45, .getfield 13, 3, 0, 0), (48, .aload_n 0, 1, 0, 0), (49, .getfield 37, 3, 0, 0), (52, .bipush 60, 2, 60, 0), (54, .imul, 1, 0, 0), (55, .iload_n 1, 1, 0, 0), (56, .iadd, 1, 0, 0), (57, .iaload, 1, 0, 0), (58, .iastore, 1, 0, 0), (59, .iinc 1 1, 3, 1, 0), (62, .goto (-29), 3, 0, 33), (65, .aload_n 0, 1, 0, 0), (66, .getfield 37, 3, 0, 0), (69, .ireturn, 1, 0, 0)]
theorem it_Mm_undo : zT c_Mm_undo i_Mm_undo := zT_of (by decide +kernel)
theorem wc_Mm_undo : Cond.code y_Mm_undo c_Mm_undo 2 (some .int) ∈ zWs := zmem 876 (by decide +kernel) rfl
theorem wn_Mm_undo : Cond.initialized y_Mm_undo.cls ∈ zWs := (zmem 44 (by decide +kernel) rfl)
theorem ws_Mm_undo : Cond.instanceMethod y_Mm_undo ∈ zWs := (zmem 874 (by decide +kernel) rfl)
theorem wv_Mm_undo : Cond.selects R_Mm y_Mm_undo y_Mm_undo ∈ zWs := zmem 875 (by decide +kernel) rfl
abbrev c_Mm_asks : ByteArray := prog_9_method_6_code
def y_Mm_asks : MethodName := ⟨R_Mm, "asks", "(Z)Z"⟩
def i_Mm_asks : List zI := [(0, .aload_n 0, 1, 0, 0), (1, .iload_n 1, 1, 0, 0), (2, .ifCond .eq 7, 3, 0, 9), (5, .iconst 0, 1, 0, 0), (6, .goto 4, 3, 0, 10), (9, .iconst 1, 1, 1, 0), (10, .putfield 29, 3, 0, 0), (13, .iload_n 1, 1, 0, 0), (14, .ireturn, 1, 0, 0)]
theorem it_Mm_asks : zT c_Mm_asks i_Mm_asks := zT_of (by decide +kernel)
theorem wc_Mm_asks : Cond.code y_Mm_asks c_Mm_asks 2 (some .boolean) ∈ zWs := zmem 880 (by decide +kernel) rfl
theorem wn_Mm_asks : Cond.initialized y_Mm_asks.cls ∈ zWs := (zmem 44 (by decide +kernel) rfl)
theorem ws_Mm_asks : Cond.instanceMethod y_Mm_asks ∈ zWs := (zmem 879 (by decide +kernel) rfl)
theorem wv_Mm_asks : Cond.selects R_Mm y_Mm_asks y_Mm_asks ∈ zWs := zmem 13 (by decide +kernel) rfl
abbrev c_Mm_historySize : ByteArray := prog_9_method_11_code
def y_Mm_historySize : MethodName := ⟨R_Mm, "historySize", "()I"⟩
def i_Mm_historySize : List zI := [(0, .aload_n 0, 1, 0, 0), (1, .aload_n 0, 1, 0, 0), (2, .getfield 37, 3, 0, 0), (5, .invokevirtual 44, 3, 0, 0), (8, .ireturn, 1, 0, 0)]
theorem it_Mm_historySize : zT c_Mm_historySize i_Mm_historySize := zT_of (by decide +kernel)
theorem wc_Mm_historySize : Cond.code y_Mm_historySize c_Mm_historySize 1 (some .int) ∈ zWs := zmem 884 (by decide +kernel) rfl
theorem wn_Mm_historySize : Cond.initialized y_Mm_historySize.cls ∈ zWs := (zmem 44 (by decide +kernel) rfl)
theorem ws_Mm_historySize : Cond.instanceMethod y_Mm_historySize ∈ zWs := (zmem 882 (by decide +kernel) rfl)
theorem wv_Mm_historySize : Cond.selects R_Mm y_Mm_historySize y_Mm_historySize ∈ zWs := zmem 883 (by decide +kernel) rfl
abbrev c_Mm_says : ByteArray := prog_9_method_8_code
def y_Mm_says : MethodName := ⟨R_Mm, "says", "(I)I"⟩
def i_Mm_says : List zI := [(0, .aload_n 0, 1, 0, 0), (1, .iconst 0, 1, 0, 0), (2, .putfield 29, 3, 0, 0), (5, .iload_n 1, 1, 0, 0), (6, .ireturn, 1, 0, 0)]
theorem it_Mm_says : zT c_Mm_says i_Mm_says := zT_of (by decide +kernel)
theorem wc_Mm_says : Cond.code y_Mm_says c_Mm_says 2 (some .int) ∈ zWs := zmem 888 (by decide +kernel) rfl
theorem wn_Mm_says : Cond.initialized y_Mm_says.cls ∈ zWs := (zmem 44 (by decide +kernel) rfl)
theorem ws_Mm_says : Cond.instanceMethod y_Mm_says ∈ zWs := (zmem 887 (by decide +kernel) rfl)
theorem wv_Mm_says : Cond.selects R_Mm y_Mm_says y_Mm_says ∈ zWs := zmem 14 (by decide +kernel) rfl
abbrev c_Mm_putPiece : ByteArray := prog_9_method_31_code
def y_Mm_putPiece : MethodName := ⟨R_Mm, "putPiece", "(III)I"⟩
def i_Mm_putPiece : List zI := [(0, .aload_n 0, 1, 0, 0), (1, .iload_n 1, 1, 0, 0), (2, .invokestatic 91, 3, 0, 0), (5, .ifCond .eq 14, 3, 0, 19), (8, .iload_n 2, 1, 0, 0), (9, .invokestatic 94, 3, 0, 0), (12, .ifCond .eq 7, 3, 0, 19), (15, .iconst 1, 1, 1, 0), (16, .goto 4, 3, 0, 20), (19, .iconst 0, 1, 0, 0), (20, .invokevirtual 40, 3, 0, 0), (23, .pop, 1, 0, 0), (24, .aload_n 0, 1, 0, 0), (25, .iload_n 3, 1, 0, 0), (26, .iconst 1, 1, 1, 0), (27, .bipush 31, 2, 31, 0), (29, .invokestatic 33, 3, 0, 0), (32, .iconst 2, 1, 2, 0), (33, .invokevirtual 97, 3, 0, 0), (36, .pop, 1, 0, 0), (37, .aload_n 0, 1, 0, 0), (38, .aload_n 0, 1, 0, 0), (39, .getfield 29, 3, 0, 0), (42, .ifCond .gt 12, 3, 0, 54), (45, .aload_n 0, 1, 0, 0), (46, .iload_n 1, 1, 0, 0), (47, .iload_n 2, 1, 0, 0), (48, .invokevirtual 101, 3, 0, 0), (51, .ifCond .eq 7, 3, 0, 58), (54, .iconst 1, 1, 1, 0), (55, .goto 4, 3, 0, 59), (58, .iconst 0, 1, 0, 0), (59, .iconst 3, 1, 3, 0), (60, .invokevirtual 97, 3, 0, 0), (63, .ifCond .eq 14, 3, 0, 77), (66, .aload_n 0, 1, 0, 0), (67, .iload_n 1, 1, 0, 0), (68, .iload_n 2, 1, 0, 0), (69, .iload_n 3, 1, 0, 0), (70, .iconst 0, 1, 0, 0), (71, .invokevirtual 104, 3, 0, 0), (74, .goto 4, 3, 0, 78), (77, .iconst 0, 1, 0, 0), (78, .ireturn, 1, 0, 0)]
theorem it_Mm_putPiece : zT c_Mm_putPiece i_Mm_putPiece := zT_of (by decide +kernel)
theorem wc_Mm_putPiece : Cond.code y_Mm_putPiece c_Mm_putPiece 4 (some .int) ∈ zWs := zmem 892 (by decide +kernel) rfl
theorem wn_Mm_putPiece : Cond.initialized y_Mm_putPiece.cls ∈ zWs := (zmem 44 (by decide +kernel) rfl)
theorem ws_Mm_putPiece : Cond.instanceMethod y_Mm_putPiece ∈ zWs := (zmem 890 (by decide +kernel) rfl)
theorem wv_Mm_putPiece : Cond.selects R_Mm y_Mm_putPiece y_Mm_putPiece ∈ zWs := zmem 891 (by decide +kernel) rfl
abbrev c_Mm_isSide : ByteArray := prog_9_method_5_code
def y_Mm_isSide : MethodName := ⟨R_Mm, "isSide", "(I)Z"⟩
def i_Mm_isSide : List zI := [(0, .iload_n 0, 1, 0, 0), (1, .iconst 0, 1, 0, 0), (2, .iconst 1, 1, 1, 0), (3, .invokestatic 33, 3, 0, 0), (6, .ireturn, 1, 0, 0)]
theorem it_Mm_isSide : zT c_Mm_isSide i_Mm_isSide := zT_of (by decide +kernel)
theorem wc_Mm_isSide : Cond.code y_Mm_isSide c_Mm_isSide 1 (some .boolean) ∈ zWs := zmem 895 (by decide +kernel) rfl
theorem wn_Mm_isSide : Cond.initialized y_Mm_isSide.cls ∈ zWs := (zmem 44 (by decide +kernel) rfl)
theorem ws_Mm_isSide : Cond.static y_Mm_isSide ∈ zWs := (zmem 894 (by decide +kernel) rfl)
abbrev c_Mm_in : ByteArray := prog_9_method_3_code
def y_Mm_in : MethodName := ⟨R_Mm, "in", "(III)Z"⟩
def i_Mm_in : List zI := [(0, .iload_n 0, 1, 0, 0), (1, .iload_n 1, 1, 0, 0), (2, .if_icmp .lt 12, 3, 0, 14), (5, .iload_n 0, 1, 0, 0), (6, .iload_n 2, 1, 0, 0), (7, .if_icmp .gt 7, 3, 0, 14), (10, .iconst 1, 1, 1, 0), (11, .goto 4, 3, 0, 15), (14, .iconst 0, 1, 0, 0), (15, .ireturn, 1, 0, 0)]
theorem it_Mm_in : zT c_Mm_in i_Mm_in := zT_of (by decide +kernel)
theorem wc_Mm_in : Cond.code y_Mm_in c_Mm_in 3 (some .boolean) ∈ zWs := zmem 898 (by decide +kernel) rfl
theorem wn_Mm_in : Cond.initialized y_Mm_in.cls ∈ zWs := (zmem 44 (by decide +kernel) rfl)
theorem ws_Mm_in : Cond.static y_Mm_in ∈ zWs := (zmem 897 (by decide +kernel) rfl)
abbrev c_Mm_isSquare : ByteArray := prog_9_method_4_code
def y_Mm_isSquare : MethodName := ⟨R_Mm, "isSquare", "(I)Z"⟩
def i_Mm_isSquare : List zI := [(0, .iload_n 0, 1, 0, 0), (1, .iconst 0, 1, 0, 0), (2, .bipush 35, 2, 35, 0), (4, .invokestatic 33, 3, 0, 0), (7, .ireturn, 1, 0, 0)]
theorem it_Mm_isSquare : zT c_Mm_isSquare i_Mm_isSquare := zT_of (by decide +kernel)
theorem wc_Mm_isSquare : Cond.code y_Mm_isSquare c_Mm_isSquare 1 (some .boolean) ∈ zWs := zmem 901 (by decide +kernel) rfl
theorem wn_Mm_isSquare : Cond.initialized y_Mm_isSquare.cls ∈ zWs := (zmem 44 (by decide +kernel) rfl)
theorem ws_Mm_isSquare : Cond.static y_Mm_isSquare ∈ zWs := (zmem 900 (by decide +kernel) rfl)
abbrev c_Mm_asksThen : ByteArray := prog_9_method_7_code
def y_Mm_asksThen : MethodName := ⟨R_Mm, "asksThen", "(ZI)Z"⟩
def i_Mm_asksThen : List zI := [(0, .aload_n 0, 1, 0, 0), (1, .aload_n 0, 1, 0, 0), (2, .getfield 29, 3, 0, 0), (5, .ifCond .le 10, 3, 0, 15), (8, .aload_n 0, 1, 0, 0), (9, .getfield 29, 3, 0, 0), (12, .goto 12, 3, 0, 24), (15, .iload_n 1, 1, 0, 0), (16, .ifCond .eq 7, 3, 0, 23), (19, .iconst 0, 1, 0, 0), (20, .goto 4, 3, 0, 24), (23, .iload_n 2, 1, 0, 0), (24, .putfield 29, 3, 0, 0), (27, .aload_n 0, 1, 0, 0), (28, .getfield 29, 3, 0, 0), (31, .ifCond .ne 7, 3, 0, 38), (34, .iconst 1, 1, 1, 0), (35, .goto 4, 3, 0, 39), (38, .iconst 0, 1, 0, 0), (39, .ireturn, 1, 0, 0)]
theorem it_Mm_asksThen : zT c_Mm_asksThen i_Mm_asksThen := zT_of (by decide +kernel)
theorem wc_Mm_asksThen : Cond.code y_Mm_asksThen c_Mm_asksThen 3 (some .boolean) ∈ zWs := zmem 905 (by decide +kernel) rfl
theorem wn_Mm_asksThen : Cond.initialized y_Mm_asksThen.cls ∈ zWs := (zmem 44 (by decide +kernel) rfl)
theorem ws_Mm_asksThen : Cond.instanceMethod y_Mm_asksThen ∈ zWs := (zmem 904 (by decide +kernel) rfl)
theorem wv_Mm_asksThen : Cond.selects R_Mm y_Mm_asksThen y_Mm_asksThen ∈ zWs := zmem 15 (by decide +kernel) rfl
abbrev c_Mm_canPut : ByteArray := prog_9_method_29_code
def y_Mm_canPut : MethodName := ⟨R_Mm, "canPut", "(II)Z"⟩
def i_Mm_canPut : List zI := [(0, .aload_n 0, 1, 0, 0), (1, .getfield 7, 3, 0, 0), (4, .bipush 36, 2, 36, 0), (6, .iaload, 1, 0, 0), (7, .ifCond .ne 26, 3, 0, 33), (10, .aload_n 0, 1, 0, 0), (11, .getfield 7, 3, 0, 0), (14, .iload_n 2, 1, 0, 0), (15, .iaload, 1, 0, 0), (16, .ifCond .ne 17, 3, 0, 33), (19, .aload_n 0, 1, 0, 0), (20, .iload_n 1, 1, 0, 0), (21, .invokevirtual 82, 3, 0, 0), (24, .bipush 8, 2, 8, 0), (26, .if_icmp .ge 7, 3, 0, 33), (29, .iconst 1, 1, 1, 0), (30, .goto 4, 3, 0, 34), (33, .iconst 0, 1, 0, 0), (34, .ireturn, 1, 0, 0)]
theorem it_Mm_canPut : zT c_Mm_canPut i_Mm_canPut := zT_of (by decide +kernel)
theorem wc_Mm_canPut : Cond.code y_Mm_canPut c_Mm_canPut 3 (some .boolean) ∈ zWs := zmem 909 (by decide +kernel) rfl
theorem wn_Mm_canPut : Cond.initialized y_Mm_canPut.cls ∈ zWs := (zmem 44 (by decide +kernel) rfl)
theorem ws_Mm_canPut : Cond.instanceMethod y_Mm_canPut ∈ zWs := (zmem 908 (by decide +kernel) rfl)
theorem wv_Mm_canPut : Cond.selects R_Mm y_Mm_canPut y_Mm_canPut ∈ zWs := zmem 16 (by decide +kernel) rfl
abbrev c_Mm_count : ByteArray := prog_9_method_18_code
def y_Mm_count : MethodName := ⟨R_Mm, "count", "(I)I"⟩
def i_Mm_count : List zI := [(0, .iconst 0, 1, 0, 0), (1, .istore_n 2, 1, 0, 0), (2, .iconst 0, 1, 0, 0), (3, .istore_n 3, 1, 0, 0), (4, .iload_n 3, 1, 0, 0), (5, .bipush 36, 2, 36, 0), (7, .if_icmp .ge 30, 3, 0, 37), (10, .iload_n 2, 1, 0, 0), (11, .aload_n 0, 1, 0, 0), (12, .getfield 7, 3, 0, 0), (15, .iload_n 3, 1, 0, 0), (16, .iaload, 1, 0, 0), (17, .invokestatic 58, 3, 0, 0), (20, .iload_n 1, 1, 0, 0), (21, .if_icmp .ne 7, 3, 0, 28), (24, .iconst 1, 1, 1, 0), (25, .goto 4, 3, 0, 29), (28, .iconst 0, 1, 0, 0), (29, .iadd, 1, 0, 0), (30, .istore_n 2, 1, 0, 0), (31, .iinc 3 1, 3, 1, 0), (34, .goto (-30), 3, 0, 4), (37, .iload_n 2, 1, 0, 0), (38, .ireturn, 1, 0, 0)]
theorem it_Mm_count : zT c_Mm_count i_Mm_count := zT_of (by decide +kernel)
theorem wc_Mm_count : Cond.code y_Mm_count c_Mm_count 4 (some .int) ∈ zWs := zmem 913 (by decide +kernel) rfl
theorem wn_Mm_count : Cond.initialized y_Mm_count.cls ∈ zWs := (zmem 44 (by decide +kernel) rfl)
theorem ws_Mm_count : Cond.instanceMethod y_Mm_count ∈ zWs := (zmem 912 (by decide +kernel) rfl)
theorem wv_Mm_count : Cond.selects R_Mm y_Mm_count y_Mm_count ∈ zWs := zmem 17 (by decide +kernel) rfl
abbrev c_Mm_sideOf : ByteArray := prog_9_method_12_code
def y_Mm_sideOf : MethodName := ⟨R_Mm, "sideOf", "(I)I"⟩
def i_Mm_sideOf : List zI := [(0, .iload_n 0, 1, 0, 0), (1, .ifCond .ne 7, 3, 0, 8), (4, .iconst (-1), 1, -1, 0), (5, .goto 9, 3, 0, 14), (8, .iload_n 0, 1, 0, 0), (9, .iconst 1, 1, 1, 0), (10, .isub, 1, 0, 0), (11, .bipush 64, 2, 64, 0), (13, .idiv, 1, 0, 0), (14, .ireturn, 1, 0, 0)]
theorem it_Mm_sideOf : zT c_Mm_sideOf i_Mm_sideOf := zT_of (by decide +kernel)
theorem wc_Mm_sideOf : Cond.code y_Mm_sideOf c_Mm_sideOf 1 (some .int) ∈ zWs := zmem 916 (by decide +kernel) rfl
theorem wn_Mm_sideOf : Cond.initialized y_Mm_sideOf.cls ∈ zWs := (zmem 44 (by decide +kernel) rfl)
theorem ws_Mm_sideOf : Cond.static y_Mm_sideOf ∈ zWs := (zmem 915 (by decide +kernel) rfl)
abbrev c_Mm_puts : ByteArray := prog_9_method_30_code
def y_Mm_puts : MethodName := ⟨R_Mm, "puts", "(IIII)I"⟩
def i_Mm_puts : List zI := [(0, .aload_n 0, 1, 0, 0), (1, .invokevirtual 85, 3, 0, 0), (4, .aload_n 0, 1, 0, 0), (5, .getfield 7, 3, 0, 0), (8, .iload_n 2, 1, 0, 0), (9, .iconst 1, 1, 1, 0), (10, .iload_n 3, 1, 0, 0), (11, .iadd, 1, 0, 0), (12, .bipush 32, 2, 32, 0), (14, .iload 4, 2, 0, 0), (16, .imul, 1, 0, 0), (17, .iadd, 1, 0, 0), (18, .bipush 64, 2, 64, 0), (20, .iload_n 1, 1, 0, 0), (21, .imul, 1, 0, 0), (22, .iadd, 1, 0, 0), (23, .iastore, 1, 0, 0), (24, .aload_n 0, 1, 0, 0), (25, .getfield 7, 3, 0, 0), (28, .bipush 42, 2, 42, 0), (30, .iload_n 1, 1, 0, 0), (31, .iadd, 1, 0, 0), (32, .dup2, 1, 0, 0), (33, .iaload, 1, 0, 0), (34, .aload_n 0, 1, 0, 0), (35, .getfield 7, 3, 0, 0), (38, .iload_n 2, 1, 0, 0), (39, .iaload, 1, 0, 0), (40, .invokestatic 88, 3, 0, 0), (43, .iadd, 1, 0, 0), (44, .iastore, 1, 0, 0), (45, .aload_n 0, 1, 0, 0), (46, .iload_n 1, 1, 0, 0), (47, .invokevirtual 82, 3, 0, 0), (50, .ireturn, 1, 0, 0)]
theorem it_Mm_puts : zT c_Mm_puts i_Mm_puts := zT_of (by decide +kernel)
theorem wc_Mm_puts : Cond.code y_Mm_puts c_Mm_puts 5 (some .int) ∈ zWs := zmem 920 (by decide +kernel) rfl
theorem wn_Mm_puts : Cond.initialized y_Mm_puts.cls ∈ zWs := (zmem 44 (by decide +kernel) rfl)
theorem ws_Mm_puts : Cond.instanceMethod y_Mm_puts ∈ zWs := (zmem 919 (by decide +kernel) rfl)
theorem wv_Mm_puts : Cond.selects R_Mm y_Mm_puts y_Mm_puts ∈ zWs := zmem 18 (by decide +kernel) rfl
abbrev c_Mm_record : ByteArray := prog_9_method_9_code
def y_Mm_record : MethodName := ⟨R_Mm, "record", "()V"⟩
def i_Mm_record : List zI := [(0, .aload_n 0, 1, 0, 0), (1, .getfield 37, 3, 0, 0), (4, .iconst 5, 1, 5, 0), (5, .if_icmp .ne 43, 3, 0, 48), (8, .iconst 0, 1, 0, 0), (9, .istore_n 1, 1, 0, 0), (10, .iload_n 1, 1, 0, 0), (11, .sipush 240, 3, 240, 0), (14, .if_icmp .ge 24, 3, 0, 38), (17, .aload_n 0, 1, 0, 0), (18, .getfield 13, 3, 0, 0), (21, .iload_n 1, 1, 0, 0), (22, .aload_n 0, 1, 0, 0), (23, .getfield 13, 3, 0, 0), (26, .iload_n 1, 1, 0, 0), (27, .bipush 60, 2, 60, 0), (29, .iadd, 1, 0, 0), (30, .iaload, 1, 0, 0), (31, .iastore, 1, 0, 0), (32, .iinc 1 1, 3, 1, 0), (35, .goto (-25), 3, 0, 10), (38, .aload_n 0, 1, 0, 0), (39, .dup, 1, 0, 0), (40, .getfield 37, 3, 0, 0), (43, .iconst 1, 1, 1, 0), (44, .isub, 1, 0, 0), (45, .putfield 37, 3, 0, 0), (48, .iconst 0, 1, 0, 0), (49, .istore_n 1, 1, 0, 0), (50, .iload_n 1, 1, 0, 0), (51, .bipush 60, 2, 60, 0), (53, .if_icmp .ge 29, 3, 0, 82), (56, .aload_n 0, 1, 0, 0), (57, .getfield 13, 3, 0, 0), (60, .aload_n 0, 1, 0, 0), (61, .getfield 37, 3, 0, 0), (64, .bipush 60, 2, 60, 0), (66, .imul, 1, 0, 0), (67, .iload_n 1, 1, 0, 0), (68, .iadd, 1, 0, 0), (69, .aload_n 0, 1, 0, 0), (70, .getfield 7, 3, 0, 0), (73, .iload_n 1, 1, 0, 0), (74, .iaload, 1, 0, 0), (75, .iastore, 1, 0, 0), (76, .iinc 1 1, 3, 1, 0), (79, .goto (-29), 3, 0, 50), (82, .aload_n 0, 1, 0, 0), (83, .dup, 1, 0, 0), (84, .getfield 37, 3, 0, 0), (87, .iconst 1, 1, 1, 0), (88, .iadd, 1, 0, 0), (89, .putfield 37, 3, 0, 0), (92, .return_, 1, 0, 0)]
theorem it_Mm_record : zT c_Mm_record i_Mm_record := zT_of (by decide +kernel)
theorem wc_Mm_record : Cond.code y_Mm_record c_Mm_record 2 none ∈ zWs := zmem 924 (by decide +kernel) rfl
theorem wn_Mm_record : Cond.initialized y_Mm_record.cls ∈ zWs := (zmem 44 (by decide +kernel) rfl)
theorem ws_Mm_record : Cond.instanceMethod y_Mm_record ∈ zWs := (zmem 923 (by decide +kernel) rfl)
theorem wv_Mm_record : Cond.selects R_Mm y_Mm_record y_Mm_record ∈ zWs := zmem 19 (by decide +kernel) rfl
abbrev c_Mm_worthOf : ByteArray := prog_9_method_16_code
def y_Mm_worthOf : MethodName := ⟨R_Mm, "worthOf", "(I)I"⟩
def i_Mm_worthOf : List zI := [(0, .iload_n 0, 1, 0, 0), (1, .ifCond .ne 7, 3, 0, 8), (4, .iconst 0, 1, 0, 0), (5, .goto 24, 3, 0, 29), (8, .iload_n 0, 1, 0, 0), (9, .invokestatic 48, 3, 0, 0), (12, .invokestatic 51, 3, 0, 0), (15, .iload_n 0, 1, 0, 0), (16, .invokestatic 54, 3, 0, 0), (19, .ifCond .eq 8, 3, 0, 27), (22, .bipush 10, 2, 10, 0), (24, .goto 4, 3, 0, 28), (27, .iconst 0, 1, 0, 0), (28, .iadd, 1, 0, 0), (29, .ireturn, 1, 0, 0)]
theorem it_Mm_worthOf : zT c_Mm_worthOf i_Mm_worthOf := zT_of (by decide +kernel)
theorem wc_Mm_worthOf : Cond.code y_Mm_worthOf c_Mm_worthOf 1 (some .int) ∈ zWs := zmem 927 (by decide +kernel) rfl
theorem wn_Mm_worthOf : Cond.initialized y_Mm_worthOf.cls ∈ zWs := (zmem 44 (by decide +kernel) rfl)
theorem ws_Mm_worthOf : Cond.static y_Mm_worthOf ∈ zWs := (zmem 926 (by decide +kernel) rfl)
abbrev c_Mm_stepsOf : ByteArray := prog_9_method_13_code
def y_Mm_stepsOf : MethodName := ⟨R_Mm, "stepsOf", "(I)I"⟩
def i_Mm_stepsOf : List zI := [(0, .iload_n 0, 1, 0, 0), (1, .iconst 1, 1, 1, 0), (2, .isub, 1, 0, 0), (3, .bipush 32, 2, 32, 0), (5, .irem, 1, 0, 0), (6, .ireturn, 1, 0, 0)]
theorem it_Mm_stepsOf : zT c_Mm_stepsOf i_Mm_stepsOf := zT_of (by decide +kernel)
theorem wc_Mm_stepsOf : Cond.code y_Mm_stepsOf c_Mm_stepsOf 1 (some .int) ∈ zWs := zmem 930 (by decide +kernel) rfl
theorem wn_Mm_stepsOf : Cond.initialized y_Mm_stepsOf.cls ∈ zWs := (zmem 44 (by decide +kernel) rfl)
theorem ws_Mm_stepsOf : Cond.static y_Mm_stepsOf ∈ zWs := (zmem 929 (by decide +kernel) rfl)
abbrev c_Mm_stepsWorth : ByteArray := prog_9_method_15_code
def y_Mm_stepsWorth : MethodName := ⟨R_Mm, "stepsWorth", "(I)I"⟩
def i_Mm_stepsWorth : List zI := [(0, .iload_n 0, 1, 0, 0), (1, .iconst 1, 1, 1, 0), (2, .iand, 1, 0, 0), (3, .iload_n 0, 1, 0, 0), (4, .iconst 1, 1, 1, 0), (5, .ishr, 1, 0, 0), (6, .iconst 1, 1, 1, 0), (7, .iand, 1, 0, 0), (8, .iadd, 1, 0, 0), (9, .iconst 3, 1, 3, 0), (10, .iload_n 0, 1, 0, 0), (11, .iconst 2, 1, 2, 0), (12, .ishr, 1, 0, 0), (13, .iconst 1, 1, 1, 0), (14, .iand, 1, 0, 0), (15, .imul, 1, 0, 0), (16, .iadd, 1, 0, 0), (17, .iconst 5, 1, 5, 0), (18, .iload_n 0, 1, 0, 0), (19, .iconst 3, 1, 3, 0), (20, .ishr, 1, 0, 0), (21, .iconst 1, 1, 1, 0), (22, .iand, 1, 0, 0), (23, .imul, 1, 0, 0), (24, .iadd, 1, 0, 0), (25, .iconst 3, 1, 3, 0), (26, .iload_n 0, 1, 0, 0), (27, .iconst 4, 1, 4, 0), (28, .ishr, 1, 0, 0), (29, .iconst 1, 1, 1, 0), (30, .iand, 1, 0, 0), (31, .imul, 1, 0, 0), (32, .iadd, 1, 0, 0), (33, .ireturn, 1, 0, 0)]
theorem it_Mm_stepsWorth : zT c_Mm_stepsWorth i_Mm_stepsWorth := zT_of (by decide +kernel)
theorem wc_Mm_stepsWorth : Cond.code y_Mm_stepsWorth c_Mm_stepsWorth 1 (some .int) ∈ zWs := zmem 933 (by decide +kernel) rfl
theorem wn_Mm_stepsWorth : Cond.initialized y_Mm_stepsWorth.cls ∈ zWs := (zmem 44 (by decide +kernel) rfl)
theorem ws_Mm_stepsWorth : Cond.static y_Mm_stepsWorth ∈ zWs := (zmem 932 (by decide +kernel) rfl)
abbrev c_Mm_leads : ByteArray := prog_9_method_14_code
def y_Mm_leads : MethodName := ⟨R_Mm, "leads", "(I)Z"⟩
def i_Mm_leads : List zI := [(0, .iload_n 0, 1, 0, 0), (1, .ifCond .le 19, 3, 0, 20), (4, .iload_n 0, 1, 0, 0), (5, .iconst 1, 1, 1, 0), (6, .isub, 1, 0, 0), (7, .bipush 32, 2, 32, 0), (9, .idiv, 1, 0, 0), (10, .iconst 2, 1, 2, 0), (11, .irem, 1, 0, 0), (12, .iconst 1, 1, 1, 0), (13, .if_icmp .ne 7, 3, 0, 20), (16, .iconst 1, 1, 1, 0), (17, .goto 4, 3, 0, 21), (20, .iconst 0, 1, 0, 0), (21, .ireturn, 1, 0, 0)]
theorem it_Mm_leads : zT c_Mm_leads i_Mm_leads := zT_of (by decide +kernel)
theorem wc_Mm_leads : Cond.code y_Mm_leads c_Mm_leads 1 (some .boolean) ∈ zWs := zmem 936 (by decide +kernel) rfl
theorem wn_Mm_leads : Cond.initialized y_Mm_leads.cls ∈ zWs := (zmem 44 (by decide +kernel) rfl)
theorem ws_Mm_leads : Cond.static y_Mm_leads ∈ zWs := (zmem 935 (by decide +kernel) rfl)
abbrev c_Mm_putLeader : ByteArray := prog_9_method_32_code
def y_Mm_putLeader : MethodName := ⟨R_Mm, "putLeader", "(III)I"⟩
def i_Mm_putLeader : List zI := [(0, .aload_n 0, 1, 0, 0), (1, .iload_n 1, 1, 0, 0), (2, .invokestatic 91, 3, 0, 0), (5, .ifCond .eq 14, 3, 0, 19), (8, .iload_n 2, 1, 0, 0), (9, .invokestatic 94, 3, 0, 0), (12, .ifCond .eq 7, 3, 0, 19), (15, .iconst 1, 1, 1, 0), (16, .goto 4, 3, 0, 20), (19, .iconst 0, 1, 0, 0), (20, .invokevirtual 40, 3, 0, 0), (23, .pop, 1, 0, 0), (24, .aload_n 0, 1, 0, 0), (25, .iload_n 3, 1, 0, 0), (26, .iconst 1, 1, 1, 0), (27, .bipush 31, 2, 31, 0), (29, .invokestatic 33, 3, 0, 0), (32, .iconst 2, 1, 2, 0), (33, .invokevirtual 97, 3, 0, 0), (36, .pop, 1, 0, 0), (37, .aload_n 0, 1, 0, 0), (38, .aload_n 0, 1, 0, 0), (39, .getfield 29, 3, 0, 0), (42, .ifCond .gt 21, 3, 0, 63), (45, .aload_n 0, 1, 0, 0), (46, .iload_n 1, 1, 0, 0), (47, .iload_n 2, 1, 0, 0), (48, .invokevirtual 101, 3, 0, 0), (51, .ifCond .eq 16, 3, 0, 67), (54, .aload_n 0, 1, 0, 0), (55, .iload_n 1, 1, 0, 0), (56, .invokevirtual 108, 3, 0, 0), (59, .iconst (-1), 1, -1, 0), (60, .if_icmp .ne 7, 3, 0, 67), (63, .iconst 1, 1, 1, 0), (64, .goto 4, 3, 0, 68), (67, .iconst 0, 1, 0, 0), (68, .iconst 3, 1, 3, 0), (69, .invokevirtual 97, 3, 0, 0), (72, .ifCond .eq 14, 3, 0, 86), (75, .aload_n 0, 1, 0, 0), (76, .iload_n 1, 1, 0, 0), (77, .iload_n 2, 1, 0, 0), (78, .iload_n 3, 1, 0, 0), (79, .iconst 1, 1, 1, 0), (80, .invokevirtual 104, 3, 0, 0), (83, .goto 4, 3, 0, 87), (86, .iconst 0, 1, 0, 0), (87, .ireturn, 1, 0, 0)]
theorem it_Mm_putLeader : zT c_Mm_putLeader i_Mm_putLeader := zT_of (by decide +kernel)
theorem wc_Mm_putLeader : Cond.code y_Mm_putLeader c_Mm_putLeader 4 (some .int) ∈ zWs := zmem 940 (by decide +kernel) rfl
theorem wn_Mm_putLeader : Cond.initialized y_Mm_putLeader.cls ∈ zWs := (zmem 44 (by decide +kernel) rfl)
theorem ws_Mm_putLeader : Cond.instanceMethod y_Mm_putLeader ∈ zWs := (zmem 938 (by decide +kernel) rfl)
theorem wv_Mm_putLeader : Cond.selects R_Mm y_Mm_putLeader y_Mm_putLeader ∈ zWs := zmem 939 (by decide +kernel) rfl
abbrev c_Mm_leader : ByteArray := prog_9_method_19_code
def y_Mm_leader : MethodName := ⟨R_Mm, "leader", "(I)I"⟩
def i_Mm_leader : List zI := [(0, .iconst (-1), 1, -1, 0), (1, .istore_n 2, 1, 0, 0), (2, .iconst 0, 1, 0, 0), (3, .istore_n 3, 1, 0, 0), (4, .iload_n 3, 1, 0, 0), (5, .bipush 36, 2, 36, 0), (7, .if_icmp .ge 40, 3, 0, 47), (10, .aload_n 0, 1, 0, 0), (11, .getfield 7, 3, 0, 0), (14, .iload_n 3, 1, 0, 0), (15, .iaload, 1, 0, 0), (16, .invokestatic 58, 3, 0, 0), (19, .iload_n 1, 1, 0, 0), (20, .if_icmp .ne 19, 3, 0, 39), (23, .aload_n 0, 1, 0, 0), (24, .getfield 7, 3, 0, 0), (27, .iload_n 3, 1, 0, 0), (28, .iaload, 1, 0, 0), (29, .invokestatic 54, 3, 0, 0), (32, .ifCond .eq 7, 3, 0, 39), (35, .iload_n 3, 1, 0, 0), (36, .goto 4, 3, 0, 40), (39, .iload_n 2, 1, 0, 0), (40, .istore_n 2, 1, 0, 0), (41, .iinc 3 1, 3, 1, 0), (44, .goto (-40), 3, 0, 4), (47, .iload_n 2, 1, 0, 0), (48, .ireturn, 1, 0, 0)]
theorem it_Mm_leader : zT c_Mm_leader i_Mm_leader := zT_of (by decide +kernel)
theorem wc_Mm_leader : Cond.code y_Mm_leader c_Mm_leader 4 (some .int) ∈ zWs := zmem 944 (by decide +kernel) rfl
theorem wn_Mm_leader : Cond.initialized y_Mm_leader.cls ∈ zWs := (zmem 44 (by decide +kernel) rfl)
theorem ws_Mm_leader : Cond.instanceMethod y_Mm_leader ∈ zWs := (zmem 943 (by decide +kernel) rfl)
theorem wv_Mm_leader : Cond.selects R_Mm y_Mm_leader y_Mm_leader ∈ zWs := zmem 20 (by decide +kernel) rfl
abbrev c_Mm_takeAway : ByteArray := prog_9_method_33_code
def y_Mm_takeAway : MethodName := ⟨R_Mm, "takeAway", "(I)I"⟩
def i_Mm_takeAway : List zI := [(0, .aload_n 0, 1, 0, 0), (1, .iload_n 1, 1, 0, 0), (2, .invokestatic 94, 3, 0, 0), (5, .invokevirtual 40, 3, 0, 0), (8, .pop, 1, 0, 0), (9, .aload_n 0, 1, 0, 0), (10, .aload_n 0, 1, 0, 0), (11, .getfield 29, 3, 0, 0), (14, .ifCond .gt 22, 3, 0, 36), (17, .aload_n 0, 1, 0, 0), (18, .getfield 7, 3, 0, 0), (21, .bipush 36, 2, 36, 0), (23, .iaload, 1, 0, 0), (24, .ifCond .ne 16, 3, 0, 40), (27, .aload_n 0, 1, 0, 0), (28, .getfield 7, 3, 0, 0), (31, .iload_n 1, 1, 0, 0), (32, .iaload, 1, 0, 0), (33, .ifCond .le 7, 3, 0, 40), (36, .iconst 1, 1, 1, 0), (37, .goto 4, 3, 0, 41), (40, .iconst 0, 1, 0, 0), (41, .iconst 2, 1, 2, 0), (42, .invokevirtual 97, 3, 0, 0), (45, .ifCond .ne 5, 3, 0, 50), (48, .iconst 0, 1, 0, 0), (49, .ireturn, 1, 0, 0), (50, .aload_n 0, 1, 0, 0), (51, .invokevirtual 85, 3, 0, 0), (54, .aload_n 0, 1, 0, 0), (55, .getfield 7, 3, 0, 0), (58, .iload_n 1, 1, 0, 0), (59, .iaload, 1, 0, 0), (60, .invokestatic 88, 3, 0, 0), (63, .istore_n 2, 1, 0, 0), (64, .aload_n 0, 1, 0, 0), (65, .getfield 7, 3, 0, 0), (68, .bipush 42, 2, 42, 0), (70, .aload_n 0, 1, 0, 0), (71, .getfield 7, 3, 0, 0), (74, .iload_n 1, 1, 0, 0), (75, .iaload, 1, 0, 0), (76, .invokestatic 58, 3, 0, 0), (79, .iadd, 1, 0, 0), (80, .dup2, 1, 0, 0), (81, .iaload, 1, 0, 0), (82, .iload_n 2, 1, 0, 0), (83, .isub, 1, 0, 0), (84, .iastore, 1, 0, 0), (85, .aload_n 0, 1, 0, 0), (86, .getfield 7, 3, 0, 0), (89, .iload_n 1, 1, 0, 0), (90, .iconst 0, 1, 0, 0), (91, .iastore, 1, 0, 0), (92, .iload_n 2, 1, 0, 0), (93, .ireturn, 1, 0, 0)]
theorem it_Mm_takeAway : zT c_Mm_takeAway i_Mm_takeAway := zT_of (by decide +kernel)
theorem wc_Mm_takeAway : Cond.code y_Mm_takeAway c_Mm_takeAway 3 (some .int) ∈ zWs := zmem 948 (by decide +kernel) rfl
theorem wn_Mm_takeAway : Cond.initialized y_Mm_takeAway.cls ∈ zWs := (zmem 44 (by decide +kernel) rfl)
theorem ws_Mm_takeAway : Cond.instanceMethod y_Mm_takeAway ∈ zWs := (zmem 946 (by decide +kernel) rfl)
theorem wv_Mm_takeAway : Cond.selects R_Mm y_Mm_takeAway y_Mm_takeAway ∈ zWs := zmem 947 (by decide +kernel) rfl
abbrev c_Mm_start : ByteArray := prog_9_method_34_code
def y_Mm_start : MethodName := ⟨R_Mm, "start", "()I"⟩
def i_Mm_start : List zI := [(0, .aload_n 0, 1, 0, 0), (1, .aload_n 0, 1, 0, 0), (2, .getfield 7, 3, 0, 0), (5, .bipush 36, 2, 36, 0), (7, .iaload, 1, 0, 0), (8, .ifCond .ne 25, 3, 0, 33), (11, .aload_n 0, 1, 0, 0), (12, .iconst 0, 1, 0, 0), (13, .invokevirtual 108, 3, 0, 0), (16, .iconst (-1), 1, -1, 0), (17, .if_icmp .eq 16, 3, 0, 33), (20, .aload_n 0, 1, 0, 0), (21, .iconst 1, 1, 1, 0), (22, .invokevirtual 108, 3, 0, 0), (25, .iconst (-1), 1, -1, 0), (26, .if_icmp .eq 7, 3, 0, 33), (29, .iconst 1, 1, 1, 0), (30, .goto 4, 3, 0, 34), (33, .iconst 0, 1, 0, 0), (34, .invokevirtual 40, 3, 0, 0), (37, .ifCond .ne 5, 3, 0, 42), (40, .iconst 0, 1, 0, 0), (41, .ireturn, 1, 0, 0), (42, .aload_n 0, 1, 0, 0), (43, .invokevirtual 85, 3, 0, 0), (46, .aload_n 0, 1, 0, 0), (47, .getfield 7, 3, 0, 0), (50, .bipush 36, 2, 36, 0), (52, .iconst 1, 1, 1, 0), (53, .iastore, 1, 0, 0), (54, .aload_n 0, 1, 0, 0), (55, .iconst 0, 1, 0, 0), (56, .invokevirtual 111, 3, 0, 0), (59, .istore_n 1, 1, 0, 0), (60, .aload_n 0, 1, 0, 0), (61, .getfield 7, 3, 0, 0), (64, .bipush 37, 2, 37, 0), (66, .iload_n 1, 1, 0, 0), (67, .ifCond .ne 7, 3, 0, 74), (70, .iconst 1, 1, 1, 0), (71, .goto 4, 3, 0, 75), (74, .iconst 0, 1, 0, 0), (75, .iastore, 1, 0, 0), (76, .iload_n 1, 1, 0, 0), (77, .ireturn, 1, 0, 0)]
theorem it_Mm_start : zT c_Mm_start i_Mm_start := zT_of (by decide +kernel)
theorem wc_Mm_start : Cond.code y_Mm_start c_Mm_start 2 (some .int) ∈ zWs := zmem 952 (by decide +kernel) rfl
theorem wn_Mm_start : Cond.initialized y_Mm_start.cls ∈ zWs := (zmem 44 (by decide +kernel) rfl)
theorem ws_Mm_start : Cond.instanceMethod y_Mm_start ∈ zWs := (zmem 950 (by decide +kernel) rfl)
theorem wv_Mm_start : Cond.selects R_Mm y_Mm_start y_Mm_start ∈ zWs := zmem 951 (by decide +kernel) rfl
abbrev c_Mm_movesOf : ByteArray := prog_9_method_27_code
def y_Mm_movesOf : MethodName := ⟨R_Mm, "movesOf", "(I)I"⟩
def i_Mm_movesOf : List zI := [(0, .iconst 0, 1, 0, 0), (1, .istore_n 2, 1, 0, 0), (2, .iconst 0, 1, 0, 0), (3, .istore_n 3, 1, 0, 0), (4, .iload_n 3, 1, 0, 0), (5, .bipush 36, 2, 36, 0), (7, .if_icmp .ge 56, 3, 0, 63), (10, .iconst 0, 1, 0, 0), (11, .istore 4, 2, 0, 0), (13, .iload 4, 2, 0, 0), (15, .bipush 36, 2, 36, 0), (17, .if_icmp .ge 40, 3, 0, 57), (20, .iload_n 2, 1, 0, 0), (21, .aload_n 0, 1, 0, 0), (22, .getfield 7, 3, 0, 0), (25, .iload_n 3, 1, 0, 0), (26, .iaload, 1, 0, 0), (27, .invokestatic 58, 3, 0, 0), (30, .iload_n 1, 1, 0, 0), (31, .if_icmp .ne 17, 3, 0, 48), (34, .aload_n 0, 1, 0, 0), (35, .iload_n 3, 1, 0, 0), (36, .iload 4, 2, 0, 0), (38, .invokevirtual 78, 3, 0, 0), (41, .ifCond .eq 7, 3, 0, 48), (44, .iconst 1, 1, 1, 0), (45, .goto 4, 3, 0, 49), (48, .iconst 0, 1, 0, 0), (49, .iadd, 1, 0, 0), (50, .istore_n 2, 1, 0, 0), (51, .iinc 4 1, 3, 1, 0), (54, .goto (-41), 3, 0, 13), (57, .iinc 3 1, 3, 1, 0), (60, .goto (-56), 3, 0, 4), (63, .iload_n 2, 1, 0, 0), (64, .ireturn, 1, 0, 0)]
theorem it_Mm_movesOf : zT c_Mm_movesOf i_Mm_movesOf := zT_of (by decide +kernel)
theorem wc_Mm_movesOf : Cond.code y_Mm_movesOf c_Mm_movesOf 5 (some .int) ∈ zWs := zmem 956 (by decide +kernel) rfl
theorem wn_Mm_movesOf : Cond.initialized y_Mm_movesOf.cls ∈ zWs := (zmem 44 (by decide +kernel) rfl)
theorem ws_Mm_movesOf : Cond.instanceMethod y_Mm_movesOf ∈ zWs := (zmem 955 (by decide +kernel) rfl)
theorem wv_Mm_movesOf : Cond.selects R_Mm y_Mm_movesOf y_Mm_movesOf ∈ zWs := zmem 21 (by decide +kernel) rfl
abbrev c_Mm_canMove : ByteArray := prog_9_method_25_code
def y_Mm_canMove : MethodName := ⟨R_Mm, "canMove", "(II)Z"⟩
def i_Mm_canMove : List zI := [(0, .aload_n 0, 1, 0, 0), (1, .getfield 7, 3, 0, 0), (4, .iload_n 1, 1, 0, 0), (5, .iaload, 1, 0, 0), (6, .invokestatic 58, 3, 0, 0), (9, .aload_n 0, 1, 0, 0), (10, .getfield 7, 3, 0, 0), (13, .iload_n 2, 1, 0, 0), (14, .iaload, 1, 0, 0), (15, .invokestatic 58, 3, 0, 0), (18, .if_icmp .eq 26, 3, 0, 44), (21, .aload_n 0, 1, 0, 0), (22, .aload_n 0, 1, 0, 0), (23, .getfield 7, 3, 0, 0), (26, .iload_n 1, 1, 0, 0), (27, .iaload, 1, 0, 0), (28, .invokestatic 48, 3, 0, 0), (31, .iload_n 1, 1, 0, 0), (32, .iload_n 2, 1, 0, 0), (33, .iconst 0, 1, 0, 0), (34, .invokevirtual 75, 3, 0, 0), (37, .ifCond .eq 7, 3, 0, 44), (40, .iconst 1, 1, 1, 0), (41, .goto 4, 3, 0, 45), (44, .iconst 0, 1, 0, 0), (45, .ireturn, 1, 0, 0)]
theorem it_Mm_canMove : zT c_Mm_canMove i_Mm_canMove := zT_of (by decide +kernel)
theorem wc_Mm_canMove : Cond.code y_Mm_canMove c_Mm_canMove 3 (some .boolean) ∈ zWs := zmem 960 (by decide +kernel) rfl
theorem wn_Mm_canMove : Cond.initialized y_Mm_canMove.cls ∈ zWs := (zmem 44 (by decide +kernel) rfl)
theorem ws_Mm_canMove : Cond.instanceMethod y_Mm_canMove ∈ zWs := (zmem 959 (by decide +kernel) rfl)
theorem wv_Mm_canMove : Cond.selects R_Mm y_Mm_canMove y_Mm_canMove ∈ zWs := zmem 22 (by decide +kernel) rfl
abbrev c_Mm_goes : ByteArray := prog_9_method_24_code
def y_Mm_goes : MethodName := ⟨R_Mm, "goes", "(IIIZ)Z"⟩
def i_Mm_goes : List zI := [(0, .iconst 0, 1, 0, 0), (1, .istore 5, 2, 0, 0), (3, .iconst 0, 1, 0, 0), (4, .istore 6, 2, 0, 0), (6, .iload 6, 2, 0, 0), (8, .iconst 5, 1, 5, 0), (9, .if_icmp .ge 49, 3, 0, 58), (12, .iload 5, 2, 0, 0), (14, .ifCond .ne 31, 3, 0, 45), (17, .iload_n 1, 1, 0, 0), (18, .iload 6, 2, 0, 0), (20, .ishr, 1, 0, 0), (21, .iconst 1, 1, 1, 0), (22, .iand, 1, 0, 0), (23, .iconst 1, 1, 1, 0), (24, .if_icmp .ne 25, 3, 0, 49), (27, .iload_n 2, 1, 0, 0), (28, .iload_n 3, 1, 0, 0), (29, .if_icmp .eq 20, 3, 0, 49), (32, .aload_n 0, 1, 0, 0), (33, .iload 6, 2, 0, 0), (35, .iload_n 2, 1, 0, 0), (36, .iload_n 3, 1, 0, 0), (37, .iload 4, 2, 0, 0), (39, .invokevirtual 71, 3, 0, 0), (42, .ifCond .eq 7, 3, 0, 49), (45, .iconst 1, 1, 1, 0), (46, .goto 4, 3, 0, 50), (49, .iconst 0, 1, 0, 0), (50, .istore 5, 2, 0, 0), (52, .iinc 6 1, 3, 1, 0), (55, .goto (-49), 3, 0, 6), (58, .iload 5, 2, 0, 0), (60, .ireturn, 1, 0, 0)]
theorem it_Mm_goes : zT c_Mm_goes i_Mm_goes := zT_of (by decide +kernel)
theorem wc_Mm_goes : Cond.code y_Mm_goes c_Mm_goes 7 (some .boolean) ∈ zWs := zmem 964 (by decide +kernel) rfl
theorem wn_Mm_goes : Cond.initialized y_Mm_goes.cls ∈ zWs := (zmem 44 (by decide +kernel) rfl)
theorem ws_Mm_goes : Cond.instanceMethod y_Mm_goes ∈ zWs := (zmem 963 (by decide +kernel) rfl)
theorem wv_Mm_goes : Cond.selects R_Mm y_Mm_goes y_Mm_goes ∈ zWs := zmem 23 (by decide +kernel) rfl
abbrev c_Mm_leadsBy : ByteArray := prog_9_method_23_code
def y_Mm_leadsBy : MethodName := ⟨R_Mm, "leadsBy", "(IIIZ)Z"⟩
def i_Mm_leadsBy : List zI := [(0, .iload_n 3, 1, 0, 0), (1, .bipush 6, 2, 6, 0), (3, .idiv, 1, 0, 0), (4, .iload_n 2, 1, 0, 0), (5, .bipush 6, 2, 6, 0), (7, .idiv, 1, 0, 0), (8, .isub, 1, 0, 0), (9, .invokestatic 64, 3, 0, 0), (12, .istore 5, 2, 0, 0), (14, .iload_n 3, 1, 0, 0), (15, .bipush 6, 2, 6, 0), (17, .irem, 1, 0, 0), (18, .iload_n 2, 1, 0, 0), (19, .bipush 6, 2, 6, 0), (21, .irem, 1, 0, 0), (22, .isub, 1, 0, 0), (23, .invokestatic 64, 3, 0, 0), (26, .istore 6, 2, 0, 0), (28, .iload_n 1, 1, 0, 0), (29, .ifCond .ne 18, 3, 0, 47), (32, .iload 5, 2, 0, 0), (34, .iload 6, 2, 0, 0), (36, .iadd, 1, 0, 0), (37, .iconst 1, 1, 1, 0), (38, .if_icmp .ne 7, 3, 0, 45), (41, .iconst 1, 1, 1, 0), (42, .goto 4, 3, 0, 46), (45, .iconst 0, 1, 0, 0), (46, .ireturn, 1, 0, 0), (47, .iload_n 1, 1, 0, 0), (48, .iconst 1, 1, 1, 0), (49, .if_icmp .ne 21, 3, 0, 70), (52, .iload 5, 2, 0, 0), (54, .iconst 1, 1, 1, 0), (55, .if_icmp .ne 13, 3, 0, 68), (58, .iload 6, 2, 0, 0), (60, .iconst 1, 1, 1, 0), (61, .if_icmp .ne 7, 3, 0, 68), (64, .iconst 1, 1, 1, 0), (65, .goto 4, 3, 0, 69), (68, .iconst 0, 1, 0, 0), (69, .ireturn, 1, 0, 0), (70, .iload_n 1, 1, 0, 0), (71, .iconst 2, 1, 2, 0), (72, .if_icmp .ne 18, 3, 0, 90), (75, .iload 5, 2, 0, 0), (77, .iload 6, 2, 0, 0), (79, .imul, 1, 0, 0), (80, .iconst 2, 1, 2, 0), (81, .if_icmp .ne 7, 3, 0, 88), (84, .iconst 1, 1, 1, 0), (85, .goto 4, 3, 0, 89), (88, .iconst 0, 1, 0, 0), (89, .ireturn, 1, 0, 0), (90, .iload_n 1, 1, 0, 0), (91, .iconst 3, 1, 3, 0), (92, .if_icmp .ne 34, 3, 0, 126), (95, .iload 5, 2, 0, 0), (97, .ifCond .ne 7, 3, 0, 104), (100, .iconst 1, 1, 1, 0), (101, .goto 4, 3, 0, 105), (104, .iconst 0, 1, 0, 0), (105, .iload 6, 2, 0, 0), (107, .ifCond .ne 7, 3, 0, 114), (110, .iconst 1, 1, 1, 0), (111, .goto 4, 3, 0, 115), (114, .iconst 0, 1, 0, 0), (115, .if_icmp .eq 7, 3, 0, 122), (118, .iconst 1, 1, 1, 0), (119, .goto 24, 3, 0, 143), (122, .iconst 0, 1, 0, 0), (123, .goto 20, 3, 0, 143), (126, .iload 5, 2, 0, 0), (128, .iload 6, 2, 0, 0), (130, .if_icmp .ne 12, 3, 0, 142), (133, .iload 5, 2, 0, 0), (135, .ifCond .le 7, 3, 0, 142), (138, .iconst 1, 1, 1, 0), (139, .goto 4, 3, 0, 143), (142, .iconst 0, 1, 0, 0), (143, .istore 7, 2, 0, 0), (145, .iload 7, 2, 0, 0), (147, .ifCond .eq 18, 3, 0, 165), (150, .aload_n 0, 1, 0, 0), (151, .iload_n 2, 1, 0, 0), (152, .iload_n 3, 1, 0, 0), (153, .iload 4, 2, 0, 0), (155, .invokevirtual 67, 3, 0, 0), (158, .ifCond .eq 7, 3, 0, 165), (161, .iconst 1, 1, 1, 0), (162, .goto 4, 3, 0, 166), (165, .iconst 0, 1, 0, 0), (166, .ireturn, 1, 0, 0)]
theorem it_Mm_leadsBy : zT c_Mm_leadsBy i_Mm_leadsBy := zT_of (by decide +kernel)
theorem wc_Mm_leadsBy : Cond.code y_Mm_leadsBy c_Mm_leadsBy 8 (some .boolean) ∈ zWs := zmem 968 (by decide +kernel) rfl
theorem wn_Mm_leadsBy : Cond.initialized y_Mm_leadsBy.cls ∈ zWs := (zmem 44 (by decide +kernel) rfl)
theorem ws_Mm_leadsBy : Cond.instanceMethod y_Mm_leadsBy ∈ zWs := (zmem 967 (by decide +kernel) rfl)
theorem wv_Mm_leadsBy : Cond.selects R_Mm y_Mm_leadsBy y_Mm_leadsBy ∈ zWs := zmem 24 (by decide +kernel) rfl
abbrev c_Mm_size : ByteArray := prog_9_method_20_code
def y_Mm_size : MethodName := ⟨R_Mm, "size", "(I)I"⟩
def i_Mm_size : List zI := [(0, .iload_n 0, 1, 0, 0), (1, .ifCond .ge 8, 3, 0, 9), (4, .iload_n 0, 1, 0, 0), (5, .ineg, 1, 0, 0), (6, .goto 4, 3, 0, 10), (9, .iload_n 0, 1, 0, 0), (10, .ireturn, 1, 0, 0)]
theorem it_Mm_size : zT c_Mm_size i_Mm_size := zT_of (by decide +kernel)
theorem wc_Mm_size : Cond.code y_Mm_size c_Mm_size 1 (some .int) ∈ zWs := zmem 971 (by decide +kernel) rfl
theorem wn_Mm_size : Cond.initialized y_Mm_size.cls ∈ zWs := (zmem 44 (by decide +kernel) rfl)
theorem ws_Mm_size : Cond.static y_Mm_size ∈ zWs := (zmem 970 (by decide +kernel) rfl)
abbrev c_Mm_isClear : ByteArray := prog_9_method_22_code
def y_Mm_isClear : MethodName := ⟨R_Mm, "isClear", "(IIZ)Z"⟩
def i_Mm_isClear : List zI := [(0, .iload_n 2, 1, 0, 0), (1, .bipush 6, 2, 6, 0), (3, .idiv, 1, 0, 0), (4, .iload_n 1, 1, 0, 0), (5, .bipush 6, 2, 6, 0), (7, .idiv, 1, 0, 0), (8, .isub, 1, 0, 0), (9, .invokestatic 61, 3, 0, 0), (12, .istore 4, 2, 0, 0), (14, .iload_n 2, 1, 0, 0), (15, .bipush 6, 2, 6, 0), (17, .irem, 1, 0, 0), (18, .iload_n 1, 1, 0, 0), (19, .bipush 6, 2, 6, 0), (21, .irem, 1, 0, 0), (22, .isub, 1, 0, 0), (23, .invokestatic 61, 3, 0, 0), (26, .istore 5, 2, 0, 0), (28, .iconst 1, 1, 1, 0), (29, .istore 6, 2, 0, 0), (31, .iload_n 1, 1, 0, 0), (32, .bipush 6, 2, 6, 0), (34, .iload 4, 2, 0, 0), (36, .imul, 1, 0, 0), (37, .iadd, 1, 0, 0), (38, .iload 5, 2, 0, 0), (40, .iadd, 1, 0, 0), (41, .istore 7, 2, 0, 0), (43, .iload 7, 2, 0, 0), (45, .iload_n 2, 1, 0, 0), (46, .if_icmp .eq 55, 3, 0, 101), (49, .iload 6, 2, 0, 0), (51, .ifCond .eq 31, 3, 0, 82), (54, .iload_n 3, 1, 0, 0), (55, .ifCond .eq 13, 3, 0, 68), (58, .aload_n 0, 1, 0, 0), (59, .getfield 19, 3, 0, 0), (62, .iload 7, 2, 0, 0), (64, .iaload, 1, 0, 0), (65, .goto 10, 3, 0, 75), (68, .aload_n 0, 1, 0, 0), (69, .getfield 7, 3, 0, 0), (72, .iload 7, 2, 0, 0), (74, .iaload, 1, 0, 0), (75, .ifCond .ne 7, 3, 0, 82), (78, .iconst 1, 1, 1, 0), (79, .goto 4, 3, 0, 83), (82, .iconst 0, 1, 0, 0), (83, .istore 6, 2, 0, 0), (85, .iload 7, 2, 0, 0), (87, .bipush 6, 2, 6, 0), (89, .iload 4, 2, 0, 0), (91, .imul, 1, 0, 0), (92, .iload 5, 2, 0, 0), (94, .iadd, 1, 0, 0), (95, .iadd, 1, 0, 0), (96, .istore 7, 2, 0, 0), (98, .goto (-55), 3, 0, 43), (101, .iload 6, 2, 0, 0), (103, .ireturn, 1, 0, 0)]
theorem it_Mm_isClear : zT c_Mm_isClear i_Mm_isClear := zT_of (by decide +kernel)
theorem wc_Mm_isClear : Cond.code y_Mm_isClear c_Mm_isClear 8 (some .boolean) ∈ zWs := zmem 975 (by decide +kernel) rfl
theorem wn_Mm_isClear : Cond.initialized y_Mm_isClear.cls ∈ zWs := (zmem 44 (by decide +kernel) rfl)
theorem ws_Mm_isClear : Cond.instanceMethod y_Mm_isClear ∈ zWs := (zmem 974 (by decide +kernel) rfl)
theorem wv_Mm_isClear : Cond.selects R_Mm y_Mm_isClear y_Mm_isClear ∈ zWs := zmem 25 (by decide +kernel) rfl
abbrev c_Mm_sign : ByteArray := prog_9_method_21_code
def y_Mm_sign : MethodName := ⟨R_Mm, "sign", "(I)I"⟩
def i_Mm_sign : List zI := [(0, .iload_n 0, 1, 0, 0), (1, .ifCond .le 7, 3, 0, 8), (4, .iconst 1, 1, 1, 0), (5, .goto 12, 3, 0, 17), (8, .iload_n 0, 1, 0, 0), (9, .ifCond .ge 7, 3, 0, 16), (12, .iconst (-1), 1, -1, 0), (13, .goto 4, 3, 0, 17), (16, .iconst 0, 1, 0, 0), (17, .ireturn, 1, 0, 0)]
theorem it_Mm_sign : zT c_Mm_sign i_Mm_sign := zT_of (by decide +kernel)
theorem wc_Mm_sign : Cond.code y_Mm_sign c_Mm_sign 1 (some .int) ∈ zWs := zmem 978 (by decide +kernel) rfl
theorem wn_Mm_sign : Cond.initialized y_Mm_sign.cls ∈ zWs := (zmem 44 (by decide +kernel) rfl)
theorem ws_Mm_sign : Cond.static y_Mm_sign ∈ zWs := (zmem 977 (by decide +kernel) rfl)
abbrev c_Mm_move : ByteArray := prog_9_method_38_code
def y_Mm_move : MethodName := ⟨R_Mm, "move", "(II)I"⟩
def i_Mm_move : List zI := [(0, .aload_n 0, 1, 0, 0), (1, .iload_n 1, 1, 0, 0), (2, .invokestatic 94, 3, 0, 0), (5, .ifCond .eq 14, 3, 0, 19), (8, .iload_n 2, 1, 0, 0), (9, .invokestatic 94, 3, 0, 0), (12, .ifCond .eq 7, 3, 0, 19), (15, .iconst 1, 1, 1, 0), (16, .goto 4, 3, 0, 20), (19, .iconst 0, 1, 0, 0), (20, .invokevirtual 40, 3, 0, 0), (23, .pop, 1, 0, 0), (24, .aload_n 0, 1, 0, 0), (25, .aload_n 0, 1, 0, 0), (26, .getfield 29, 3, 0, 0), (29, .ifCond .gt 12, 3, 0, 41), (32, .aload_n 0, 1, 0, 0), (33, .iload_n 1, 1, 0, 0), (34, .iload_n 2, 1, 0, 0), (35, .invokevirtual 122, 3, 0, 0), (38, .ifCond .ne 7, 3, 0, 45), (41, .iconst 1, 1, 1, 0), (42, .goto 4, 3, 0, 46), (45, .iconst 0, 1, 0, 0), (46, .iconst 2, 1, 2, 0), (47, .invokevirtual 97, 3, 0, 0), (50, .ifCond .ne 5, 3, 0, 55), (53, .iconst 0, 1, 0, 0), (54, .ireturn, 1, 0, 0), (55, .aload_n 0, 1, 0, 0), (56, .invokevirtual 85, 3, 0, 0), (59, .aload_n 0, 1, 0, 0), (60, .iload_n 1, 1, 0, 0), (61, .iload_n 2, 1, 0, 0), (62, .invokevirtual 125, 3, 0, 0), (65, .ireturn, 1, 0, 0)]
theorem it_Mm_move : zT c_Mm_move i_Mm_move := zT_of (by decide +kernel)
theorem wc_Mm_move : Cond.code y_Mm_move c_Mm_move 3 (some .int) ∈ zWs := zmem 982 (by decide +kernel) rfl
theorem wn_Mm_move : Cond.initialized y_Mm_move.cls ∈ zWs := (zmem 44 (by decide +kernel) rfl)
theorem ws_Mm_move : Cond.instanceMethod y_Mm_move ∈ zWs := (zmem 980 (by decide +kernel) rfl)
theorem wv_Mm_move : Cond.selects R_Mm y_Mm_move y_Mm_move ∈ zWs := zmem 981 (by decide +kernel) rfl
abbrev c_Mm_why : ByteArray := prog_9_method_35_code
def y_Mm_why : MethodName := ⟨R_Mm, "why", "(II)I"⟩
def i_Mm_why : List zI := [(0, .aload_n 0, 1, 0, 0), (1, .getfield 7, 3, 0, 0), (4, .bipush 36, 2, 36, 0), (6, .iaload, 1, 0, 0), (7, .ifCond .eq 14, 3, 0, 21), (10, .aload_n 0, 1, 0, 0), (11, .getfield 7, 3, 0, 0), (14, .bipush 37, 2, 37, 0), (16, .iaload, 1, 0, 0), (17, .iconst 1, 1, 1, 0), (18, .if_icmp .ne 5, 3, 0, 23), (21, .iconst 1, 1, 1, 0), (22, .ireturn, 1, 0, 0), (23, .aload_n 0, 1, 0, 0), (24, .getfield 7, 3, 0, 0), (27, .iload_n 1, 1, 0, 0), (28, .iaload, 1, 0, 0), (29, .invokestatic 58, 3, 0, 0), (32, .aload_n 0, 1, 0, 0), (33, .getfield 7, 3, 0, 0), (36, .bipush 39, 2, 39, 0), (38, .iaload, 1, 0, 0), (39, .if_icmp .eq 5, 3, 0, 44), (42, .iconst 2, 1, 2, 0), (43, .ireturn, 1, 0, 0), (44, .aload_n 0, 1, 0, 0), (45, .getfield 7, 3, 0, 0), (48, .iload_n 2, 1, 0, 0), (49, .iaload, 1, 0, 0), (50, .invokestatic 58, 3, 0, 0), (53, .aload_n 0, 1, 0, 0), (54, .getfield 7, 3, 0, 0), (57, .bipush 39, 2, 39, 0), (59, .iaload, 1, 0, 0), (60, .if_icmp .ne 7, 3, 0, 67), (63, .iconst 3, 1, 3, 0), (64, .goto 17, 3, 0, 81), (67, .aload_n 0, 1, 0, 0), (68, .iload_n 1, 1, 0, 0), (69, .iload_n 2, 1, 0, 0), (70, .invokevirtual 78, 3, 0, 0), (73, .ifCond .eq 7, 3, 0, 80), (76, .iconst 0, 1, 0, 0), (77, .goto 4, 3, 0, 81), (80, .iconst 4, 1, 4, 0), (81, .ireturn, 1, 0, 0)]
theorem it_Mm_why : zT c_Mm_why i_Mm_why := zT_of (by decide +kernel)
theorem wc_Mm_why : Cond.code y_Mm_why c_Mm_why 3 (some .int) ∈ zWs := zmem 986 (by decide +kernel) rfl
theorem wn_Mm_why : Cond.initialized y_Mm_why.cls ∈ zWs := (zmem 44 (by decide +kernel) rfl)
theorem ws_Mm_why : Cond.instanceMethod y_Mm_why ∈ zWs := (zmem 985 (by decide +kernel) rfl)
theorem wv_Mm_why : Cond.selects R_Mm y_Mm_why y_Mm_why ∈ zWs := zmem 26 (by decide +kernel) rfl
abbrev c_Mm_moves : ByteArray := prog_9_method_37_code
def y_Mm_moves : MethodName := ⟨R_Mm, "moves", "(II)I"⟩
def i_Mm_moves : List zI := [(0, .aload_n 0, 1, 0, 0), (1, .getfield 7, 3, 0, 0), (4, .bipush 39, 2, 39, 0), (6, .iaload, 1, 0, 0), (7, .istore_n 3, 1, 0, 0), (8, .aload_n 0, 1, 0, 0), (9, .getfield 7, 3, 0, 0), (12, .iload_n 1, 1, 0, 0), (13, .iaload, 1, 0, 0), (14, .istore 4, 2, 0, 0), (16, .aload_n 0, 1, 0, 0), (17, .getfield 7, 3, 0, 0), (20, .iload_n 2, 1, 0, 0), (21, .iaload, 1, 0, 0), (22, .istore 5, 2, 0, 0), (24, .iload 5, 2, 0, 0), (26, .invokestatic 88, 3, 0, 0), (29, .istore 6, 2, 0, 0), (31, .aload_n 0, 1, 0, 0), (32, .getfield 7, 3, 0, 0), (35, .bipush 44, 2, 44, 0), (37, .iload_n 3, 1, 0, 0), (38, .iadd, 1, 0, 0), (39, .dup2, 1, 0, 0), (40, .iaload, 1, 0, 0), (41, .iload 6, 2, 0, 0), (43, .iadd, 1, 0, 0), (44, .iastore, 1, 0, 0), (45, .aload_n 0, 1, 0, 0), (46, .getfield 7, 3, 0, 0), (49, .iload_n 2, 1, 0, 0), (50, .iload 4, 2, 0, 0), (52, .iload 5, 2, 0, 0), (54, .invokestatic 114, 3, 0, 0), (57, .iastore, 1, 0, 0), (58, .aload_n 0, 1, 0, 0), (59, .getfield 7, 3, 0, 0), (62, .bipush 46, 2, 46, 0), (64, .iload_n 3, 1, 0, 0), (65, .iadd, 1, 0, 0), (66, .dup2, 1, 0, 0), (67, .iaload, 1, 0, 0), (68, .aload_n 0, 1, 0, 0), (69, .getfield 7, 3, 0, 0), (72, .iload_n 2, 1, 0, 0), (73, .iaload, 1, 0, 0), (74, .invokestatic 88, 3, 0, 0), (77, .iload 4, 2, 0, 0), (79, .invokestatic 88, 3, 0, 0), (82, .isub, 1, 0, 0), (83, .iadd, 1, 0, 0), (84, .iastore, 1, 0, 0), (85, .aload_n 0, 1, 0, 0), (86, .getfield 7, 3, 0, 0), (89, .iload_n 1, 1, 0, 0), (90, .iconst 0, 1, 0, 0), (91, .iastore, 1, 0, 0), (92, .aload_n 0, 1, 0, 0), (93, .getfield 16, 3, 0, 0), (96, .aload_n 0, 1, 0, 0), (97, .getfield 7, 3, 0, 0), (100, .bipush 40, 2, 40, 0), (102, .iaload, 1, 0, 0), (103, .bipush 36, 2, 36, 0), (105, .iload_n 1, 1, 0, 0), (106, .imul, 1, 0, 0), (107, .iload_n 2, 1, 0, 0), (108, .iadd, 1, 0, 0), (109, .iastore, 1, 0, 0), (110, .aload_n 0, 1, 0, 0), (111, .getfield 7, 3, 0, 0), (114, .bipush 40, 2, 40, 0), (116, .dup2, 1, 0, 0), (117, .iaload, 1, 0, 0), (118, .iconst 1, 1, 1, 0), (119, .iadd, 1, 0, 0), (120, .iastore, 1, 0, 0), (121, .aload_n 0, 1, 0, 0), (122, .getfield 7, 3, 0, 0), (125, .bipush 41, 2, 41, 0), (127, .iload 5, 2, 0, 0), (129, .ifCond .le 13, 3, 0, 142), (132, .aload_n 0, 1, 0, 0), (133, .getfield 7, 3, 0, 0), (136, .bipush 40, 2, 40, 0), (138, .iaload, 1, 0, 0), (139, .goto 10, 3, 0, 149), (142, .aload_n 0, 1, 0, 0), (143, .getfield 7, 3, 0, 0), (146, .bipush 41, 2, 41, 0), (148, .iaload, 1, 0, 0), (149, .iastore, 1, 0, 0), (150, .aload_n 0, 1, 0, 0), (151, .getfield 7, 3, 0, 0), (154, .bipush 39, 2, 39, 0), (156, .iconst 1, 1, 1, 0), (157, .iload_n 3, 1, 0, 0), (158, .isub, 1, 0, 0), (159, .iastore, 1, 0, 0), (160, .iload 5, 2, 0, 0), (162, .invokestatic 54, 3, 0, 0), (165, .ifCond .eq 22, 3, 0, 187), (168, .aload_n 0, 1, 0, 0), (169, .getfield 7, 3, 0, 0), (172, .bipush 37, 2, 37, 0), (174, .iconst 1, 1, 1, 0), (175, .iastore, 1, 0, 0), (176, .aload_n 0, 1, 0, 0), (177, .getfield 7, 3, 0, 0), (180, .bipush 38, 2, 38, 0), (182, .iload_n 3, 1, 0, 0), (183, .iastore, 1, 0, 0), (184, .goto 33, 3, 0, 217), (187, .aload_n 0, 1, 0, 0), (188, .aload_n 0, 1, 0, 0), (189, .getfield 7, 3, 0, 0), (192, .bipush 39, 2, 39, 0), (194, .iaload, 1, 0, 0), (195, .invokevirtual 111, 3, 0, 0), (198, .ifCond .eq 11, 3, 0, 209), (201, .aload_n 0, 1, 0, 0), (202, .invokevirtual 118, 3, 0, 0), (205, .iconst 2, 1, 2, 0), (206, .if_icmp .le 11, 3, 0, 217), (209, .aload_n 0, 1, 0, 0), (210, .getfield 7, 3, 0, 0), (213, .bipush 37, 2, 37, 0), (215, .iconst 1, 1, 1, 0), (216, .iastore, 1, 0, 0), (217, .iload 6, 2, 0, 0), (219, .ireturn, 1, 0, 0)]
theorem it_Mm_moves : zT c_Mm_moves i_Mm_moves := zT_of (by decide +kernel)
theorem wc_Mm_moves : Cond.code y_Mm_moves c_Mm_moves 7 (some .int) ∈ zWs := zmem 990 (by decide +kernel) rfl
theorem wn_Mm_moves : Cond.initialized y_Mm_moves.cls ∈ zWs := (zmem 44 (by decide +kernel) rfl)
theorem ws_Mm_moves : Cond.instanceMethod y_Mm_moves ∈ zWs := (zmem 989 (by decide +kernel) rfl)
theorem wv_Mm_moves : Cond.selects R_Mm y_Mm_moves y_Mm_moves ∈ zWs := zmem 27 (by decide +kernel) rfl
abbrev c_Mm_learns : ByteArray := prog_9_method_17_code
def y_Mm_learns : MethodName := ⟨R_Mm, "learns", "(II)I"⟩
def i_Mm_learns : List zI := [(0, .iload_n 1, 1, 0, 0), (1, .ifCond .ne 7, 3, 0, 8), (4, .iload_n 0, 1, 0, 0), (5, .goto 19, 3, 0, 24), (8, .iload_n 0, 1, 0, 0), (9, .iload_n 0, 1, 0, 0), (10, .invokestatic 48, 3, 0, 0), (13, .isub, 1, 0, 0), (14, .iload_n 0, 1, 0, 0), (15, .invokestatic 48, 3, 0, 0), (18, .iload_n 1, 1, 0, 0), (19, .invokestatic 48, 3, 0, 0), (22, .ior, 1, 0, 0), (23, .iadd, 1, 0, 0), (24, .ireturn, 1, 0, 0)]
theorem it_Mm_learns : zT c_Mm_learns i_Mm_learns := zT_of (by decide +kernel)
theorem wc_Mm_learns : Cond.code y_Mm_learns c_Mm_learns 2 (some .int) ∈ zWs := zmem 993 (by decide +kernel) rfl
theorem wn_Mm_learns : Cond.initialized y_Mm_learns.cls ∈ zWs := (zmem 44 (by decide +kernel) rfl)
theorem ws_Mm_learns : Cond.static y_Mm_learns ∈ zWs := (zmem 992 (by decide +kernel) rfl)
abbrev c_Mm_times : ByteArray := prog_9_method_36_code
def y_Mm_times : MethodName := ⟨R_Mm, "times", "()I"⟩
def i_Mm_times : List zI := [(0, .iconst 0, 1, 0, 0), (1, .istore_n 1, 1, 0, 0), (2, .iload_n 1, 1, 0, 0), (3, .bipush 36, 2, 36, 0), (5, .if_icmp .ge 21, 3, 0, 26), (8, .aload_n 0, 1, 0, 0), (9, .getfield 19, 3, 0, 0), (12, .iload_n 1, 1, 0, 0), (13, .aload_n 0, 1, 0, 0), (14, .getfield 7, 3, 0, 0), (17, .iload_n 1, 1, 0, 0), (18, .iaload, 1, 0, 0), (19, .iastore, 1, 0, 0), (20, .iinc 1 1, 3, 1, 0), (23, .goto (-21), 3, 0, 2), (26, .iconst 1, 1, 1, 0), (27, .istore_n 1, 1, 0, 0), (28, .aload_n 0, 1, 0, 0), (29, .getfield 7, 3, 0, 0), (32, .bipush 40, 2, 40, 0), (34, .iaload, 1, 0, 0), (35, .iconst 1, 1, 1, 0), (36, .isub, 1, 0, 0), (37, .istore_n 2, 1, 0, 0), (38, .iload_n 2, 1, 0, 0), (39, .aload_n 0, 1, 0, 0), (40, .getfield 7, 3, 0, 0), (43, .bipush 41, 2, 41, 0), (45, .iaload, 1, 0, 0), (46, .if_icmp .lt 130, 3, 0, 176), (49, .aload_n 0, 1, 0, 0), (50, .getfield 16, 3, 0, 0), (53, .iload_n 2, 1, 0, 0), (54, .iaload, 1, 0, 0), (55, .bipush 36, 2, 36, 0), (57, .idiv, 1, 0, 0), (58, .istore_n 3, 1, 0, 0), (59, .aload_n 0, 1, 0, 0), (60, .getfield 16, 3, 0, 0), (63, .iload_n 2, 1, 0, 0), (64, .iaload, 1, 0, 0), (65, .bipush 36, 2, 36, 0), (67, .irem, 1, 0, 0), (68, .istore 4, 2, 0, 0), (70, .aload_n 0, 1, 0, 0), (71, .getfield 19, 3, 0, 0), (74, .iload_n 3, 1, 0, 0), (75, .aload_n 0, 1, 0, 0), (76, .getfield 19, 3, 0, 0), (79, .iload 4, 2, 0, 0), (81, .iaload, 1, 0, 0), (82, .iastore, 1, 0, 0), (83, .aload_n 0, 1, 0, 0), (84, .getfield 19, 3, 0, 0), (87, .iload 4, 2, 0, 0), (89, .iconst 0, 1, 0, 0), (90, .iastore, 1, 0, 0), (91, .aload_n 0, 1, 0, 0), (92, .getfield 7, 3, 0, 0), (95, .bipush 40, 2, 40, 0), (97, .iaload, 1, 0, 0), (98, .iload_n 2, 1, 0, 0), (99, .isub, 1, 0, 0), (100, .iconst 2, 1, 2, 0), (101, .irem, 1, 0, 0), (102, .ifCond .ne 7, 3, 0, 109), (105, .iconst 1, 1, 1, 0), (106, .goto 4, 3, 0, 110), (109, .iconst 0, 1, 0, 0), (110, .istore 5, 2, 0, 0), (112, .iconst 0, 1, 0, 0), (113, .istore 6, 2, 0, 0), (115, .iload 6, 2, 0, 0), (117, .bipush 36, 2, 36, 0), (119, .if_icmp .ge 38, 3, 0, 157), (122, .iload 5, 2, 0, 0), (124, .ifCond .eq 33, 3, 0, 157), (127, .aload_n 0, 1, 0, 0), (128, .getfield 19, 3, 0, 0), (131, .iload 6, 2, 0, 0), (133, .iaload, 1, 0, 0), (134, .aload_n 0, 1, 0, 0), (135, .getfield 7, 3, 0, 0), (138, .iload 6, 2, 0, 0), (140, .iaload, 1, 0, 0), (141, .if_icmp .ne 7, 3, 0, 148), (144, .iconst 1, 1, 1, 0), (145, .goto 4, 3, 0, 149), (148, .iconst 0, 1, 0, 0), (149, .istore 5, 2, 0, 0), (151, .iinc 6 1, 3, 1, 0), (154, .goto (-39), 3, 0, 115), (157, .iload_n 1, 1, 0, 0), (158, .iload 5, 2, 0, 0), (160, .ifCond .eq 7, 3, 0, 167), (163, .iconst 1, 1, 1, 0), (164, .goto 4, 3, 0, 168), (167, .iconst 0, 1, 0, 0), (168, .iadd, 1, 0, 0), (169, .istore_n 1, 1, 0, 0), (170, .iinc 2 (-1), 3, -1, 0), (173, .goto (-135), 3, 0, 38), (176, .iload_n 1, 1, 0, 0), (177, .ireturn, 1, 0, 0)]
theorem it_Mm_times : zT c_Mm_times i_Mm_times := zT_of (by decide +kernel)
theorem wc_Mm_times : Cond.code y_Mm_times c_Mm_times 7 (some .int) ∈ zWs := zmem 997 (by decide +kernel) rfl
theorem wn_Mm_times : Cond.initialized y_Mm_times.cls ∈ zWs := (zmem 44 (by decide +kernel) rfl)
theorem ws_Mm_times : Cond.instanceMethod y_Mm_times ∈ zWs := (zmem 996 (by decide +kernel) rfl)
theorem wv_Mm_times : Cond.selects R_Mm y_Mm_times y_Mm_times ∈ zWs := zmem 28 (by decide +kernel) rfl
abbrev c_Mm_whyNot : ByteArray := prog_9_method_39_code
def y_Mm_whyNot : MethodName := ⟨R_Mm, "whyNot", "(II)I"⟩
def i_Mm_whyNot : List zI := [(0, .aload_n 0, 1, 0, 0), (1, .iload_n 1, 1, 0, 0), (2, .invokestatic 94, 3, 0, 0), (5, .ifCond .eq 14, 3, 0, 19), (8, .iload_n 2, 1, 0, 0), (9, .invokestatic 94, 3, 0, 0), (12, .ifCond .eq 7, 3, 0, 19), (15, .iconst 1, 1, 1, 0), (16, .goto 4, 3, 0, 20), (19, .iconst 0, 1, 0, 0), (20, .invokevirtual 40, 3, 0, 0), (23, .ifCond .eq 12, 3, 0, 35), (26, .aload_n 0, 1, 0, 0), (27, .iload_n 1, 1, 0, 0), (28, .iload_n 2, 1, 0, 0), (29, .invokevirtual 122, 3, 0, 0), (32, .goto 4, 3, 0, 36), (35, .iconst 0, 1, 0, 0), (36, .ireturn, 1, 0, 0)]
theorem it_Mm_whyNot : zT c_Mm_whyNot i_Mm_whyNot := zT_of (by decide +kernel)
theorem wc_Mm_whyNot : Cond.code y_Mm_whyNot c_Mm_whyNot 3 (some .int) ∈ zWs := zmem 1001 (by decide +kernel) rfl
theorem wn_Mm_whyNot : Cond.initialized y_Mm_whyNot.cls ∈ zWs := (zmem 44 (by decide +kernel) rfl)
theorem ws_Mm_whyNot : Cond.instanceMethod y_Mm_whyNot ∈ zWs := (zmem 999 (by decide +kernel) rfl)
theorem wv_Mm_whyNot : Cond.selects R_Mm y_Mm_whyNot y_Mm_whyNot ∈ zWs := zmem 1000 (by decide +kernel) rfl
abbrev c_Mm_append : ByteArray := prog_9_method_40_code
def y_Mm_append : MethodName := ⟨R_Mm, "append", "(C)I"⟩
def i_Mm_append : List zI := [(0, .aload_n 0, 1, 0, 0), (1, .aload_n 0, 1, 0, 0), (2, .getfield 127, 3, 0, 0), (5, .bipush 60, 2, 60, 0), (7, .if_icmp .ge 7, 3, 0, 14), (10, .iconst 1, 1, 1, 0), (11, .goto 4, 3, 0, 15), (14, .iconst 0, 1, 0, 0), (15, .invokevirtual 40, 3, 0, 0), (18, .ifCond .ne 5, 3, 0, 23), (21, .iconst 0, 1, 0, 0), (22, .ireturn, 1, 0, 0), (23, .aload_n 0, 1, 0, 0), (24, .getfield 25, 3, 0, 0), (27, .aload_n 0, 1, 0, 0), (28, .getfield 127, 3, 0, 0), (31, .iload_n 1, 1, 0, 0), (32, .castore, 1, 0, 0), (33, .aload_n 0, 1, 0, 0), (34, .dup, 1, 0, 0), (35, .getfield 127, 3, 0, 0), (38, .iconst 1, 1, 1, 0), (39, .iadd, 1, 0, 0), (40, .putfield 127, 3, 0, 0), (43, .aload_n 0, 1, 0, 0), (44, .getfield 127, 3, 0, 0), (47, .ireturn, 1, 0, 0)]
theorem it_Mm_append : zT c_Mm_append i_Mm_append := zT_of (by decide +kernel)
theorem wc_Mm_append : Cond.code y_Mm_append c_Mm_append 2 (some .int) ∈ zWs := zmem 1005 (by decide +kernel) rfl
theorem wn_Mm_append : Cond.initialized y_Mm_append.cls ∈ zWs := (zmem 44 (by decide +kernel) rfl)
theorem ws_Mm_append : Cond.instanceMethod y_Mm_append ∈ zWs := (zmem 1003 (by decide +kernel) rfl)
theorem wv_Mm_append : Cond.selects R_Mm y_Mm_append y_Mm_append ∈ zWs := zmem 1004 (by decide +kernel) rfl
abbrev c_Mm_clearText : ByteArray := prog_9_method_41_code
def y_Mm_clearText : MethodName := ⟨R_Mm, "clearText", "()I"⟩
def i_Mm_clearText : List zI := [(0, .aload_n 0, 1, 0, 0), (1, .getfield 127, 3, 0, 0), (4, .istore_n 1, 1, 0, 0), (5, .aload_n 0, 1, 0, 0), (6, .iconst 0, 1, 0, 0), (7, .putfield 127, 3, 0, 0), (10, .aload_n 0, 1, 0, 0), (11, .iload_n 1, 1, 0, 0), (12, .invokevirtual 44, 3, 0, 0), (15, .ireturn, 1, 0, 0)]
theorem it_Mm_clearText : zT c_Mm_clearText i_Mm_clearText := zT_of (by decide +kernel)
theorem wc_Mm_clearText : Cond.code y_Mm_clearText c_Mm_clearText 2 (some .int) ∈ zWs := zmem 1009 (by decide +kernel) rfl
theorem wn_Mm_clearText : Cond.initialized y_Mm_clearText.cls ∈ zWs := (zmem 44 (by decide +kernel) rfl)
theorem ws_Mm_clearText : Cond.instanceMethod y_Mm_clearText ∈ zWs := (zmem 1007 (by decide +kernel) rfl)
theorem wv_Mm_clearText : Cond.selects R_Mm y_Mm_clearText y_Mm_clearText ∈ zWs := zmem 1008 (by decide +kernel) rfl
abbrev c_Mm_isValid : ByteArray := prog_9_method_43_code
def y_Mm_isValid : MethodName := ⟨R_Mm, "isValid", "()Z"⟩
def i_Mm_isValid : List zI := [(0, .aload_n 0, 1, 0, 0), (1, .iconst 0, 1, 0, 0), (2, .putfield 29, 3, 0, 0), (5, .aload_n 0, 1, 0, 0), (6, .invokevirtual 130, 3, 0, 0), (9, .iconst (-1), 1, -1, 0), (10, .if_icmp .ne 7, 3, 0, 17), (13, .iconst 1, 1, 1, 0), (14, .goto 4, 3, 0, 18), (17, .iconst 0, 1, 0, 0), (18, .ireturn, 1, 0, 0)]
theorem it_Mm_isValid : zT c_Mm_isValid i_Mm_isValid := zT_of (by decide +kernel)
theorem wc_Mm_isValid : Cond.code y_Mm_isValid c_Mm_isValid 1 (some .boolean) ∈ zWs := zmem 1013 (by decide +kernel) rfl
theorem wn_Mm_isValid : Cond.initialized y_Mm_isValid.cls ∈ zWs := (zmem 44 (by decide +kernel) rfl)
theorem ws_Mm_isValid : Cond.instanceMethod y_Mm_isValid ∈ zWs := (zmem 1011 (by decide +kernel) rfl)
theorem wv_Mm_isValid : Cond.selects R_Mm y_Mm_isValid y_Mm_isValid ∈ zWs := zmem 1012 (by decide +kernel) rfl
abbrev c_Mm_fault : ByteArray := prog_9_method_42_code
def y_Mm_fault : MethodName := ⟨R_Mm, "fault", "()I"⟩
def i_Mm_fault : List zI := [(0, .iconst 0, 1, 0, 0), (1, .istore_n 1, 1, 0, 0), (2, .iload_n 1, 1, 0, 0), (3, .aload_n 0, 1, 0, 0), (4, .getfield 127, 3, 0, 0), (7, .if_icmp .ge 121, 3, 0, 128), (10, .iload_n 1, 1, 0, 0), (11, .iconst 5, 1, 5, 0), (12, .irem, 1, 0, 0), (13, .istore_n 2, 1, 0, 0), (14, .aload_n 0, 1, 0, 0), (15, .getfield 25, 3, 0, 0), (18, .iload_n 1, 1, 0, 0), (19, .caload, 1, 0, 0), (20, .istore_n 3, 1, 0, 0), (21, .iload_n 2, 1, 0, 0), (22, .iconst 4, 1, 4, 0), (23, .if_icmp .ne 17, 3, 0, 40), (26, .iload_n 3, 1, 0, 0), (27, .bipush 32, 2, 32, 0), (29, .if_icmp .ne 7, 3, 0, 36), (32, .iconst 1, 1, 1, 0), (33, .goto 32, 3, 0, 65), (36, .iconst 0, 1, 0, 0), (37, .goto 28, 3, 0, 65), (40, .iload_n 2, 1, 0, 0), (41, .iconst 2, 1, 2, 0), (42, .irem, 1, 0, 0), (43, .ifCond .ne 14, 3, 0, 57), (46, .iload_n 3, 1, 0, 0), (47, .bipush 97, 2, 97, 0), (49, .bipush 102, 2, 102, 0), (51, .invokestatic 33, 3, 0, 0), (54, .goto 11, 3, 0, 65), (57, .iload_n 3, 1, 0, 0), (58, .bipush 49, 2, 49, 0), (60, .bipush 54, 2, 54, 0), (62, .invokestatic 33, 3, 0, 0), (65, .istore 4, 2, 0, 0), (67, .iload 4, 2, 0, 0), (69, .ifCond .eq 43, 3, 0, 112), (72, .iload_n 2, 1, 0, 0), (73, .iconst 3, 1, 3, 0), (74, .if_icmp .ne 34, 3, 0, 108), (77, .iload_n 3, 1, 0, 0), (78, .aload_n 0, 1, 0, 0), (79, .getfield 25, 3, 0, 0), (82, .iload_n 1, 1, 0, 0), (83, .iconst 2, 1, 2, 0), (84, .isub, 1, 0, 0), (85, .caload, 1, 0, 0), (86, .if_icmp .ne 22, 3, 0, 108), (89, .aload_n 0, 1, 0, 0), (90, .getfield 25, 3, 0, 0), (93, .iload_n 1, 1, 0, 0), (94, .iconst 1, 1, 1, 0), (95, .isub, 1, 0, 0), (96, .caload, 1, 0, 0), (97, .aload_n 0, 1, 0, 0), (98, .getfield 25, 3, 0, 0), (101, .iload_n 1, 1, 0, 0), (102, .iconst 3, 1, 3, 0), (103, .isub, 1, 0, 0), (104, .caload, 1, 0, 0), (105, .if_icmp .eq 7, 3, 0, 112), (108, .iconst 1, 1, 1, 0), (109, .goto 4, 3, 0, 113), (112, .iconst 0, 1, 0, 0), (113, .istore 4, 2, 0, 0), (115, .iload 4, 2, 0, 0), (117, .ifCond .ne 5, 3, 0, 122), (120, .iload_n 1, 1, 0, 0), (121, .ireturn, 1, 0, 0), (122, .iinc 1 1, 3, 1, 0), (125, .goto (-123), 3, 0, 2), (128, .aload_n 0, 1, 0, 0), (129, .getfield 127, 3, 0, 0), (132, .iconst 5, 1, 5, 0), (133, .irem, 1, 0, 0), (134, .iconst 4, 1, 4, 0), (135, .if_icmp .ne 7, 3, 0, 142), (138, .iconst (-1), 1, -1, 0), (139, .goto 7, 3, 0, 146), (142, .aload_n 0, 1, 0, 0), (143, .getfield 127, 3, 0, 0), (146, .ireturn, 1, 0, 0)]
theorem it_Mm_fault : zT c_Mm_fault i_Mm_fault := zT_of (by decide +kernel)
theorem wc_Mm_fault : Cond.code y_Mm_fault c_Mm_fault 5 (some .int) ∈ zWs := zmem 1017 (by decide +kernel) rfl
theorem wn_Mm_fault : Cond.initialized y_Mm_fault.cls ∈ zWs := (zmem 44 (by decide +kernel) rfl)
theorem ws_Mm_fault : Cond.instanceMethod y_Mm_fault ∈ zWs := (zmem 1016 (by decide +kernel) rfl)
theorem wv_Mm_fault : Cond.selects R_Mm y_Mm_fault y_Mm_fault ∈ zWs := zmem 29 (by decide +kernel) rfl
abbrev c_Mm_firstError : ByteArray := prog_9_method_44_code
def y_Mm_firstError : MethodName := ⟨R_Mm, "firstError", "()I"⟩
def i_Mm_firstError : List zI := [(0, .aload_n 0, 1, 0, 0), (1, .aload_n 0, 1, 0, 0), (2, .invokevirtual 130, 3, 0, 0), (5, .iconst (-1), 1, -1, 0), (6, .if_icmp .eq 7, 3, 0, 13), (9, .iconst 1, 1, 1, 0), (10, .goto 4, 3, 0, 14), (13, .iconst 0, 1, 0, 0), (14, .invokevirtual 40, 3, 0, 0), (17, .ifCond .eq 10, 3, 0, 27), (20, .aload_n 0, 1, 0, 0), (21, .invokevirtual 130, 3, 0, 0), (24, .goto 4, 3, 0, 28), (27, .iconst 0, 1, 0, 0), (28, .ireturn, 1, 0, 0)]
theorem it_Mm_firstError : zT c_Mm_firstError i_Mm_firstError := zT_of (by decide +kernel)
theorem wc_Mm_firstError : Cond.code y_Mm_firstError c_Mm_firstError 1 (some .int) ∈ zWs := zmem 1021 (by decide +kernel) rfl
theorem wn_Mm_firstError : Cond.initialized y_Mm_firstError.cls ∈ zWs := (zmem 44 (by decide +kernel) rfl)
theorem ws_Mm_firstError : Cond.instanceMethod y_Mm_firstError ∈ zWs := (zmem 1019 (by decide +kernel) rfl)
theorem wv_Mm_firstError : Cond.selects R_Mm y_Mm_firstError y_Mm_firstError ∈ zWs := zmem 1020 (by decide +kernel) rfl
abbrev c_Mm_play : ByteArray := prog_9_method_46_code
def y_Mm_play : MethodName := ⟨R_Mm, "play", "()I"⟩
def i_Mm_play : List zI := [(0, .aload_n 0, 1, 0, 0), (1, .aload_n 0, 1, 0, 0), (2, .invokevirtual 130, 3, 0, 0), (5, .iconst (-1), 1, -1, 0), (6, .if_icmp .ne 7, 3, 0, 13), (9, .iconst 1, 1, 1, 0), (10, .goto 4, 3, 0, 14), (13, .iconst 0, 1, 0, 0), (14, .invokevirtual 40, 3, 0, 0), (17, .ifCond .ne 5, 3, 0, 22), (20, .iconst 0, 1, 0, 0), (21, .ireturn, 1, 0, 0), (22, .aload_n 0, 1, 0, 0), (23, .invokevirtual 85, 3, 0, 0), (26, .iconst 0, 1, 0, 0), (27, .istore_n 1, 1, 0, 0), (28, .iconst 1, 1, 1, 0), (29, .istore_n 2, 1, 0, 0), (30, .iconst 0, 1, 0, 0), (31, .istore_n 3, 1, 0, 0), (32, .iload_n 3, 1, 0, 0), (33, .aload_n 0, 1, 0, 0), (34, .getfield 127, 3, 0, 0), (37, .if_icmp .ge 62, 3, 0, 99), (40, .iload_n 2, 1, 0, 0), (41, .ifCond .eq 58, 3, 0, 99), (44, .aload_n 0, 1, 0, 0), (45, .aload_n 0, 1, 0, 0), (46, .iload_n 3, 1, 0, 0), (47, .invokevirtual 133, 3, 0, 0), (50, .aload_n 0, 1, 0, 0), (51, .iload_n 3, 1, 0, 0), (52, .iconst 2, 1, 2, 0), (53, .iadd, 1, 0, 0), (54, .invokevirtual 133, 3, 0, 0), (57, .invokevirtual 122, 3, 0, 0), (60, .ifCond .ne 7, 3, 0, 67), (63, .iconst 1, 1, 1, 0), (64, .goto 4, 3, 0, 68), (67, .iconst 0, 1, 0, 0), (68, .istore_n 2, 1, 0, 0), (69, .iload_n 2, 1, 0, 0), (70, .ifCond .eq 23, 3, 0, 93), (73, .aload_n 0, 1, 0, 0), (74, .aload_n 0, 1, 0, 0), (75, .iload_n 3, 1, 0, 0), (76, .invokevirtual 133, 3, 0, 0), (79, .aload_n 0, 1, 0, 0), (80, .iload_n 3, 1, 0, 0), (81, .iconst 2, 1, 2, 0), (82, .iadd, 1, 0, 0), (83, .invokevirtual 133, 3, 0, 0), (86, .invokevirtual 125, 3, 0, 0), (89, .pop, 1, 0, 0), (90, .iinc 1 1, 3, 1, 0), (93, .iinc 3 5, 3, 5, 0), (96, .goto (-64), 3, 0, 32), (99, .iload_n 1, 1, 0, 0), (100, .ireturn, 1, 0, 0)]
theorem it_Mm_play : zT c_Mm_play i_Mm_play := zT_of (by decide +kernel)
theorem wc_Mm_play : Cond.code y_Mm_play c_Mm_play 4 (some .int) ∈ zWs := zmem 1025 (by decide +kernel) rfl
theorem wn_Mm_play : Cond.initialized y_Mm_play.cls ∈ zWs := (zmem 44 (by decide +kernel) rfl)
theorem ws_Mm_play : Cond.instanceMethod y_Mm_play ∈ zWs := (zmem 1023 (by decide +kernel) rfl)
theorem wv_Mm_play : Cond.selects R_Mm y_Mm_play y_Mm_play ∈ zWs := zmem 1024 (by decide +kernel) rfl
abbrev c_Mm_written : ByteArray := prog_9_method_45_code
def y_Mm_written : MethodName := ⟨R_Mm, "written", "(I)I"⟩
def i_Mm_written : List zI := [(0, .bipush 6, 2, 6, 0), (2, .aload_n 0, 1, 0, 0), (3, .getfield 25, 3, 0, 0), (6, .iload_n 1, 1, 0, 0), (7, .iconst 1, 1, 1, 0), (8, .iadd, 1, 0, 0), (9, .caload, 1, 0, 0), (10, .bipush 49, 2, 49, 0), (12, .isub, 1, 0, 0), (13, .imul, 1, 0, 0), (14, .aload_n 0, 1, 0, 0), (15, .getfield 25, 3, 0, 0), (18, .iload_n 1, 1, 0, 0), (19, .caload, 1, 0, 0), (20, .iadd, 1, 0, 0), (21, .bipush 97, 2, 97, 0), (23, .isub, 1, 0, 0), (24, .ireturn, 1, 0, 0)]
theorem it_Mm_written : zT c_Mm_written i_Mm_written := zT_of (by decide +kernel)
theorem wc_Mm_written : Cond.code y_Mm_written c_Mm_written 2 (some .int) ∈ zWs := zmem 1029 (by decide +kernel) rfl
theorem wn_Mm_written : Cond.initialized y_Mm_written.cls ∈ zWs := (zmem 44 (by decide +kernel) rfl)
theorem ws_Mm_written : Cond.instanceMethod y_Mm_written ∈ zWs := (zmem 1028 (by decide +kernel) rfl)
theorem wv_Mm_written : Cond.selects R_Mm y_Mm_written y_Mm_written ∈ zWs := zmem 30 (by decide +kernel) rfl
abbrev c_Mm_pieces : ByteArray := prog_9_method_47_code
def y_Mm_pieces : MethodName := ⟨R_Mm, "pieces", "(I)I"⟩
def i_Mm_pieces : List zI := [(0, .aload_n 0, 1, 0, 0), (1, .iload_n 1, 1, 0, 0), (2, .invokestatic 91, 3, 0, 0), (5, .invokevirtual 40, 3, 0, 0), (8, .ifCond .eq 11, 3, 0, 19), (11, .aload_n 0, 1, 0, 0), (12, .iload_n 1, 1, 0, 0), (13, .invokevirtual 82, 3, 0, 0), (16, .goto 4, 3, 0, 20), (19, .iconst 0, 1, 0, 0), (20, .ireturn, 1, 0, 0)]
theorem it_Mm_pieces : zT c_Mm_pieces i_Mm_pieces := zT_of (by decide +kernel)
theorem wc_Mm_pieces : Cond.code y_Mm_pieces c_Mm_pieces 2 (some .int) ∈ zWs := zmem 1033 (by decide +kernel) rfl
theorem wn_Mm_pieces : Cond.initialized y_Mm_pieces.cls ∈ zWs := (zmem 44 (by decide +kernel) rfl)
theorem ws_Mm_pieces : Cond.instanceMethod y_Mm_pieces ∈ zWs := (zmem 1031 (by decide +kernel) rfl)
theorem wv_Mm_pieces : Cond.selects R_Mm y_Mm_pieces y_Mm_pieces ∈ zWs := zmem 1032 (by decide +kernel) rfl
abbrev c_Mm_sideAt : ByteArray := prog_9_method_49_code
def y_Mm_sideAt : MethodName := ⟨R_Mm, "sideAt", "(I)I"⟩
def i_Mm_sideAt : List zI := [(0, .aload_n 0, 1, 0, 0), (1, .iload_n 1, 1, 0, 0), (2, .invokevirtual 136, 3, 0, 0), (5, .ifCond .eq 15, 3, 0, 20), (8, .aload_n 0, 1, 0, 0), (9, .getfield 7, 3, 0, 0), (12, .iload_n 1, 1, 0, 0), (13, .iaload, 1, 0, 0), (14, .invokestatic 58, 3, 0, 0), (17, .goto 4, 3, 0, 21), (20, .iconst 0, 1, 0, 0), (21, .ireturn, 1, 0, 0)]
theorem it_Mm_sideAt : zT c_Mm_sideAt i_Mm_sideAt := zT_of (by decide +kernel)
theorem wc_Mm_sideAt : Cond.code y_Mm_sideAt c_Mm_sideAt 2 (some .int) ∈ zWs := zmem 1037 (by decide +kernel) rfl
theorem wn_Mm_sideAt : Cond.initialized y_Mm_sideAt.cls ∈ zWs := (zmem 44 (by decide +kernel) rfl)
theorem ws_Mm_sideAt : Cond.instanceMethod y_Mm_sideAt ∈ zWs := (zmem 1035 (by decide +kernel) rfl)
theorem wv_Mm_sideAt : Cond.selects R_Mm y_Mm_sideAt y_Mm_sideAt ∈ zWs := zmem 1036 (by decide +kernel) rfl
abbrev c_Mm_asksPiece : ByteArray := prog_9_method_48_code
def y_Mm_asksPiece : MethodName := ⟨R_Mm, "asksPiece", "(I)Z"⟩
def i_Mm_asksPiece : List zI := [(0, .aload_n 0, 1, 0, 0), (1, .iload_n 1, 1, 0, 0), (2, .invokestatic 94, 3, 0, 0), (5, .invokevirtual 40, 3, 0, 0), (8, .pop, 1, 0, 0), (9, .aload_n 0, 1, 0, 0), (10, .aload_n 0, 1, 0, 0), (11, .getfield 29, 3, 0, 0), (14, .ifCond .gt 12, 3, 0, 26), (17, .aload_n 0, 1, 0, 0), (18, .getfield 7, 3, 0, 0), (21, .iload_n 1, 1, 0, 0), (22, .iaload, 1, 0, 0), (23, .ifCond .le 7, 3, 0, 30), (26, .iconst 1, 1, 1, 0), (27, .goto 4, 3, 0, 31), (30, .iconst 0, 1, 0, 0), (31, .iconst 2, 1, 2, 0), (32, .invokevirtual 97, 3, 0, 0), (35, .ireturn, 1, 0, 0)]
theorem it_Mm_asksPiece : zT c_Mm_asksPiece i_Mm_asksPiece := zT_of (by decide +kernel)
theorem wc_Mm_asksPiece : Cond.code y_Mm_asksPiece c_Mm_asksPiece 2 (some .boolean) ∈ zWs := zmem 1041 (by decide +kernel) rfl
theorem wn_Mm_asksPiece : Cond.initialized y_Mm_asksPiece.cls ∈ zWs := (zmem 44 (by decide +kernel) rfl)
theorem ws_Mm_asksPiece : Cond.instanceMethod y_Mm_asksPiece ∈ zWs := (zmem 1040 (by decide +kernel) rfl)
theorem wv_Mm_asksPiece : Cond.selects R_Mm y_Mm_asksPiece y_Mm_asksPiece ∈ zWs := zmem 31 (by decide +kernel) rfl
abbrev c_Mm_stepsAt : ByteArray := prog_9_method_50_code
def y_Mm_stepsAt : MethodName := ⟨R_Mm, "stepsAt", "(I)I"⟩
def i_Mm_stepsAt : List zI := [(0, .aload_n 0, 1, 0, 0), (1, .iload_n 1, 1, 0, 0), (2, .invokevirtual 136, 3, 0, 0), (5, .ifCond .eq 15, 3, 0, 20), (8, .aload_n 0, 1, 0, 0), (9, .getfield 7, 3, 0, 0), (12, .iload_n 1, 1, 0, 0), (13, .iaload, 1, 0, 0), (14, .invokestatic 48, 3, 0, 0), (17, .goto 4, 3, 0, 21), (20, .iconst 0, 1, 0, 0), (21, .ireturn, 1, 0, 0)]
theorem it_Mm_stepsAt : zT c_Mm_stepsAt i_Mm_stepsAt := zT_of (by decide +kernel)
theorem wc_Mm_stepsAt : Cond.code y_Mm_stepsAt c_Mm_stepsAt 2 (some .int) ∈ zWs := zmem 1045 (by decide +kernel) rfl
theorem wn_Mm_stepsAt : Cond.initialized y_Mm_stepsAt.cls ∈ zWs := (zmem 44 (by decide +kernel) rfl)
theorem ws_Mm_stepsAt : Cond.instanceMethod y_Mm_stepsAt ∈ zWs := (zmem 1043 (by decide +kernel) rfl)
theorem wv_Mm_stepsAt : Cond.selects R_Mm y_Mm_stepsAt y_Mm_stepsAt ∈ zWs := zmem 1044 (by decide +kernel) rfl
abbrev c_Mm_worthAt : ByteArray := prog_9_method_51_code
def y_Mm_worthAt : MethodName := ⟨R_Mm, "worthAt", "(I)I"⟩
def i_Mm_worthAt : List zI := [(0, .aload_n 0, 1, 0, 0), (1, .iload_n 1, 1, 0, 0), (2, .invokevirtual 136, 3, 0, 0), (5, .ifCond .eq 15, 3, 0, 20), (8, .aload_n 0, 1, 0, 0), (9, .getfield 7, 3, 0, 0), (12, .iload_n 1, 1, 0, 0), (13, .iaload, 1, 0, 0), (14, .invokestatic 88, 3, 0, 0), (17, .goto 4, 3, 0, 21), (20, .iconst 0, 1, 0, 0), (21, .ireturn, 1, 0, 0)]
theorem it_Mm_worthAt : zT c_Mm_worthAt i_Mm_worthAt := zT_of (by decide +kernel)
theorem wc_Mm_worthAt : Cond.code y_Mm_worthAt c_Mm_worthAt 2 (some .int) ∈ zWs := zmem 1049 (by decide +kernel) rfl
theorem wn_Mm_worthAt : Cond.initialized y_Mm_worthAt.cls ∈ zWs := (zmem 44 (by decide +kernel) rfl)
theorem ws_Mm_worthAt : Cond.instanceMethod y_Mm_worthAt ∈ zWs := (zmem 1047 (by decide +kernel) rfl)
theorem wv_Mm_worthAt : Cond.selects R_Mm y_Mm_worthAt y_Mm_worthAt ∈ zWs := zmem 1048 (by decide +kernel) rfl
abbrev c_Mm_leaderOf : ByteArray := prog_9_method_52_code
def y_Mm_leaderOf : MethodName := ⟨R_Mm, "leaderOf", "(I)I"⟩
def i_Mm_leaderOf : List zI := [(0, .aload_n 0, 1, 0, 0), (1, .iload_n 1, 1, 0, 0), (2, .invokestatic 91, 3, 0, 0), (5, .invokevirtual 40, 3, 0, 0), (8, .pop, 1, 0, 0), (9, .aload_n 0, 1, 0, 0), (10, .aload_n 0, 1, 0, 0), (11, .getfield 29, 3, 0, 0), (14, .ifCond .gt 12, 3, 0, 26), (17, .aload_n 0, 1, 0, 0), (18, .iload_n 1, 1, 0, 0), (19, .invokevirtual 108, 3, 0, 0), (22, .iconst (-1), 1, -1, 0), (23, .if_icmp .eq 7, 3, 0, 30), (26, .iconst 1, 1, 1, 0), (27, .goto 4, 3, 0, 31), (30, .iconst 0, 1, 0, 0), (31, .iconst 2, 1, 2, 0), (32, .invokevirtual 97, 3, 0, 0), (35, .ifCond .eq 11, 3, 0, 46), (38, .aload_n 0, 1, 0, 0), (39, .iload_n 1, 1, 0, 0), (40, .invokevirtual 108, 3, 0, 0), (43, .goto 4, 3, 0, 47), (46, .iconst 0, 1, 0, 0), (47, .ireturn, 1, 0, 0)]
theorem it_Mm_leaderOf : zT c_Mm_leaderOf i_Mm_leaderOf := zT_of (by decide +kernel)
theorem wc_Mm_leaderOf : Cond.code y_Mm_leaderOf c_Mm_leaderOf 2 (some .int) ∈ zWs := zmem 1053 (by decide +kernel) rfl
theorem wn_Mm_leaderOf : Cond.initialized y_Mm_leaderOf.cls ∈ zWs := (zmem 44 (by decide +kernel) rfl)
theorem ws_Mm_leaderOf : Cond.instanceMethod y_Mm_leaderOf ∈ zWs := (zmem 1051 (by decide +kernel) rfl)
theorem wv_Mm_leaderOf : Cond.selects R_Mm y_Mm_leaderOf y_Mm_leaderOf ∈ zWs := zmem 1052 (by decide +kernel) rfl
abbrev c_Mm_knowing : ByteArray := prog_9_method_53_code
def y_Mm_knowing : MethodName := ⟨R_Mm, "knowing", "(II)I"⟩
def i_Mm_knowing : List zI := [(0, .aload_n 0, 1, 0, 0), (1, .iload_n 1, 1, 0, 0), (2, .invokestatic 91, 3, 0, 0), (5, .ifCond .eq 16, 3, 0, 21), (8, .iload_n 2, 1, 0, 0), (9, .iconst 0, 1, 0, 0), (10, .iconst 4, 1, 4, 0), (11, .invokestatic 33, 3, 0, 0), (14, .ifCond .eq 7, 3, 0, 21), (17, .iconst 1, 1, 1, 0), (18, .goto 4, 3, 0, 22), (21, .iconst 0, 1, 0, 0), (22, .invokevirtual 40, 3, 0, 0), (25, .ifCond .ne 5, 3, 0, 30), (28, .iconst 0, 1, 0, 0), (29, .ireturn, 1, 0, 0), (30, .iconst 0, 1, 0, 0), (31, .istore_n 3, 1, 0, 0), (32, .iconst 0, 1, 0, 0), (33, .istore 4, 2, 0, 0), (35, .iload 4, 2, 0, 0), (37, .bipush 36, 2, 36, 0), (39, .if_icmp .ge 49, 3, 0, 88), (42, .iload_n 3, 1, 0, 0), (43, .aload_n 0, 1, 0, 0), (44, .getfield 7, 3, 0, 0), (47, .iload 4, 2, 0, 0), (49, .iaload, 1, 0, 0), (50, .invokestatic 58, 3, 0, 0), (53, .iload_n 1, 1, 0, 0), (54, .if_icmp .ne 25, 3, 0, 79), (57, .aload_n 0, 1, 0, 0), (58, .getfield 7, 3, 0, 0), (61, .iload 4, 2, 0, 0), (63, .iaload, 1, 0, 0), (64, .invokestatic 48, 3, 0, 0), (67, .iload_n 2, 1, 0, 0), (68, .ishr, 1, 0, 0), (69, .iconst 1, 1, 1, 0), (70, .iand, 1, 0, 0), (71, .iconst 1, 1, 1, 0), (72, .if_icmp .ne 7, 3, 0, 79), (75, .iconst 1, 1, 1, 0), (76, .goto 4, 3, 0, 80), (79, .iconst 0, 1, 0, 0), (80, .iadd, 1, 0, 0), (81, .istore_n 3, 1, 0, 0), (82, .iinc 4 1, 3, 1, 0), (85, .goto (-50), 3, 0, 35), (88, .iload_n 3, 1, 0, 0), (89, .ireturn, 1, 0, 0)]
theorem it_Mm_knowing : zT c_Mm_knowing i_Mm_knowing := zT_of (by decide +kernel)
theorem wc_Mm_knowing : Cond.code y_Mm_knowing c_Mm_knowing 5 (some .int) ∈ zWs := zmem 1057 (by decide +kernel) rfl
theorem wn_Mm_knowing : Cond.initialized y_Mm_knowing.cls ∈ zWs := (zmem 44 (by decide +kernel) rfl)
theorem ws_Mm_knowing : Cond.instanceMethod y_Mm_knowing ∈ zWs := (zmem 1055 (by decide +kernel) rfl)
theorem wv_Mm_knowing : Cond.selects R_Mm y_Mm_knowing y_Mm_knowing ∈ zWs := zmem 1056 (by decide +kernel) rfl
abbrev c_Mm_reach : ByteArray := prog_9_method_54_code
def y_Mm_reach : MethodName := ⟨R_Mm, "reach", "(I)J"⟩
def i_Mm_reach : List zI := [(0, .aload_n 0, 1, 0, 0), (1, .iload_n 1, 1, 0, 0), (2, .invokevirtual 136, 3, 0, 0), (5, .ifCond .eq 11, 3, 0, 16), (8, .aload_n 0, 1, 0, 0), (9, .iload_n 1, 1, 0, 0), (10, .invokevirtual 139, 3, 0, 0), (13, .goto 4, 3, 0, 17), (16, .lconst 0, 1, 0, 0), (17, .lreturn, 1, 0, 0)]
theorem it_Mm_reach : zT c_Mm_reach i_Mm_reach := zT_of (by decide +kernel)
theorem wc_Mm_reach : Cond.code y_Mm_reach c_Mm_reach 2 (some .long) ∈ zWs := zmem 1061 (by decide +kernel) rfl
theorem wn_Mm_reach : Cond.initialized y_Mm_reach.cls ∈ zWs := (zmem 44 (by decide +kernel) rfl)
theorem ws_Mm_reach : Cond.instanceMethod y_Mm_reach ∈ zWs := (zmem 1059 (by decide +kernel) rfl)
theorem wv_Mm_reach : Cond.selects R_Mm y_Mm_reach y_Mm_reach ∈ zWs := zmem 1060 (by decide +kernel) rfl
abbrev c_Mm_reached : ByteArray := prog_9_method_26_code
def y_Mm_reached : MethodName := ⟨R_Mm, "reached", "(I)J"⟩
def i_Mm_reached : List zI := [(0, .lconst 0, 1, 0, 0), (1, .lstore_n 2, 1, 0, 0), (2, .iconst 0, 1, 0, 0), (3, .istore 4, 2, 0, 0), (5, .iload 4, 2, 0, 0), (7, .bipush 36, 2, 36, 0), (9, .if_icmp .ge 30, 3, 0, 39), (12, .lload_n 2, 1, 0, 0), (13, .aload_n 0, 1, 0, 0), (14, .iload_n 1, 1, 0, 0), (15, .iload 4, 2, 0, 0), (17, .invokevirtual 78, 3, 0, 0), (20, .ifCond .eq 10, 3, 0, 30), (23, .lconst 1, 1, 0, 0), (24, .iload 4, 2, 0, 0), (26, .lshl, 1, 0, 0), (27, .goto 4, 3, 0, 31), (30, .lconst 0, 1, 0, 0), (31, .lor, 1, 0, 0), (32, .lstore_n 2, 1, 0, 0), (33, .iinc 4 1, 3, 1, 0), (36, .goto (-31), 3, 0, 5), (39, .lload_n 2, 1, 0, 0), (40, .lreturn, 1, 0, 0)]
theorem it_Mm_reached : zT c_Mm_reached i_Mm_reached := zT_of (by decide +kernel)
theorem wc_Mm_reached : Cond.code y_Mm_reached c_Mm_reached 5 (some .long) ∈ zWs := zmem 1065 (by decide +kernel) rfl
theorem wn_Mm_reached : Cond.initialized y_Mm_reached.cls ∈ zWs := (zmem 44 (by decide +kernel) rfl)
theorem ws_Mm_reached : Cond.instanceMethod y_Mm_reached ∈ zWs := (zmem 1064 (by decide +kernel) rfl)
theorem wv_Mm_reached : Cond.selects R_Mm y_Mm_reached y_Mm_reached ∈ zWs := zmem 32 (by decide +kernel) rfl
abbrev c_Mm_moveCount : ByteArray := prog_9_method_55_code
def y_Mm_moveCount : MethodName := ⟨R_Mm, "moveCount", "(I)I"⟩
def i_Mm_moveCount : List zI := [(0, .aload_n 0, 1, 0, 0), (1, .iload_n 1, 1, 0, 0), (2, .invokestatic 91, 3, 0, 0), (5, .invokevirtual 40, 3, 0, 0), (8, .ifCond .eq 11, 3, 0, 19), (11, .aload_n 0, 1, 0, 0), (12, .iload_n 1, 1, 0, 0), (13, .invokevirtual 111, 3, 0, 0), (16, .goto 4, 3, 0, 20), (19, .iconst 0, 1, 0, 0), (20, .ireturn, 1, 0, 0)]
theorem it_Mm_moveCount : zT c_Mm_moveCount i_Mm_moveCount := zT_of (by decide +kernel)
theorem wc_Mm_moveCount : Cond.code y_Mm_moveCount c_Mm_moveCount 2 (some .int) ∈ zWs := zmem 1069 (by decide +kernel) rfl
theorem wn_Mm_moveCount : Cond.initialized y_Mm_moveCount.cls ∈ zWs := (zmem 44 (by decide +kernel) rfl)
theorem ws_Mm_moveCount : Cond.instanceMethod y_Mm_moveCount ∈ zWs := (zmem 1067 (by decide +kernel) rfl)
theorem wv_Mm_moveCount : Cond.selects R_Mm y_Mm_moveCount y_Mm_moveCount ∈ zWs := zmem 1068 (by decide +kernel) rfl
abbrev c_Mm_guards : ByteArray := prog_9_method_56_code
def y_Mm_guards : MethodName := ⟨R_Mm, "guards", "(II)I"⟩
def i_Mm_guards : List zI := [(0, .aload_n 0, 1, 0, 0), (1, .iload_n 1, 1, 0, 0), (2, .invokestatic 91, 3, 0, 0), (5, .ifCond .eq 14, 3, 0, 19), (8, .iload_n 2, 1, 0, 0), (9, .invokestatic 94, 3, 0, 0), (12, .ifCond .eq 7, 3, 0, 19), (15, .iconst 1, 1, 1, 0), (16, .goto 4, 3, 0, 20), (19, .iconst 0, 1, 0, 0), (20, .invokevirtual 40, 3, 0, 0), (23, .ifCond .eq 12, 3, 0, 35), (26, .aload_n 0, 1, 0, 0), (27, .iload_n 1, 1, 0, 0), (28, .iload_n 2, 1, 0, 0), (29, .invokevirtual 143, 3, 0, 0), (32, .goto 4, 3, 0, 36), (35, .iconst 0, 1, 0, 0), (36, .ireturn, 1, 0, 0)]
theorem it_Mm_guards : zT c_Mm_guards i_Mm_guards := zT_of (by decide +kernel)
theorem wc_Mm_guards : Cond.code y_Mm_guards c_Mm_guards 3 (some .int) ∈ zWs := zmem 1073 (by decide +kernel) rfl
theorem wn_Mm_guards : Cond.initialized y_Mm_guards.cls ∈ zWs := (zmem 44 (by decide +kernel) rfl)
theorem ws_Mm_guards : Cond.instanceMethod y_Mm_guards ∈ zWs := (zmem 1071 (by decide +kernel) rfl)
theorem wv_Mm_guards : Cond.selects R_Mm y_Mm_guards y_Mm_guards ∈ zWs := zmem 1072 (by decide +kernel) rfl
abbrev c_Mm_guarding : ByteArray := prog_9_method_28_code
def y_Mm_guarding : MethodName := ⟨R_Mm, "guarding", "(II)I"⟩
def i_Mm_guarding : List zI := [(0, .iconst 0, 1, 0, 0), (1, .istore_n 3, 1, 0, 0), (2, .iconst 0, 1, 0, 0), (3, .istore 4, 2, 0, 0), (5, .iload 4, 2, 0, 0), (7, .bipush 36, 2, 36, 0), (9, .if_icmp .ge 52, 3, 0, 61), (12, .iload_n 3, 1, 0, 0), (13, .aload_n 0, 1, 0, 0), (14, .getfield 7, 3, 0, 0), (17, .iload 4, 2, 0, 0), (19, .iaload, 1, 0, 0), (20, .invokestatic 58, 3, 0, 0), (23, .iload_n 1, 1, 0, 0), (24, .if_icmp .ne 28, 3, 0, 52), (27, .aload_n 0, 1, 0, 0), (28, .aload_n 0, 1, 0, 0), (29, .getfield 7, 3, 0, 0), (32, .iload 4, 2, 0, 0), (34, .iaload, 1, 0, 0), (35, .invokestatic 48, 3, 0, 0), (38, .iload 4, 2, 0, 0), (40, .iload_n 2, 1, 0, 0), (41, .iconst 0, 1, 0, 0), (42, .invokevirtual 75, 3, 0, 0), (45, .ifCond .eq 7, 3, 0, 52), (48, .iconst 1, 1, 1, 0), (49, .goto 4, 3, 0, 53), (52, .iconst 0, 1, 0, 0), (53, .iadd, 1, 0, 0), (54, .istore_n 3, 1, 0, 0), (55, .iinc 4 1, 3, 1, 0), (58, .goto (-53), 3, 0, 5), (61, .iload_n 3, 1, 0, 0), (62, .ireturn, 1, 0, 0)]
theorem it_Mm_guarding : zT c_Mm_guarding i_Mm_guarding := zT_of (by decide +kernel)
theorem wc_Mm_guarding : Cond.code y_Mm_guarding c_Mm_guarding 5 (some .int) ∈ zWs := zmem 1077 (by decide +kernel) rfl
theorem wn_Mm_guarding : Cond.initialized y_Mm_guarding.cls ∈ zWs := (zmem 44 (by decide +kernel) rfl)
theorem ws_Mm_guarding : Cond.instanceMethod y_Mm_guarding ∈ zWs := (zmem 1076 (by decide +kernel) rfl)
theorem wv_Mm_guarding : Cond.selects R_Mm y_Mm_guarding y_Mm_guarding ∈ zWs := zmem 33 (by decide +kernel) rfl
abbrev c_Mm_guardsByLooking : ByteArray := prog_9_method_57_code
def y_Mm_guardsByLooking : MethodName := ⟨R_Mm, "guardsByLooking", "(II)I"⟩
def i_Mm_guardsByLooking : List zI := [(0, .aload_n 0, 1, 0, 0), (1, .iload_n 1, 1, 0, 0), (2, .invokestatic 91, 3, 0, 0), (5, .ifCond .eq 14, 3, 0, 19), (8, .iload_n 2, 1, 0, 0), (9, .invokestatic 94, 3, 0, 0), (12, .ifCond .eq 7, 3, 0, 19), (15, .iconst 1, 1, 1, 0), (16, .goto 4, 3, 0, 20), (19, .iconst 0, 1, 0, 0), (20, .invokevirtual 40, 3, 0, 0), (23, .ifCond .eq 12, 3, 0, 35), (26, .aload_n 0, 1, 0, 0), (27, .iload_n 1, 1, 0, 0), (28, .iload_n 2, 1, 0, 0), (29, .invokevirtual 143, 3, 0, 0), (32, .goto 4, 3, 0, 36), (35, .iconst 0, 1, 0, 0), (36, .ireturn, 1, 0, 0)]
theorem it_Mm_guardsByLooking : zT c_Mm_guardsByLooking i_Mm_guardsByLooking := zT_of (by decide +kernel)
theorem wc_Mm_guardsByLooking : Cond.code y_Mm_guardsByLooking c_Mm_guardsByLooking 3 (some .int) ∈ zWs := zmem 1081 (by decide +kernel) rfl
theorem wn_Mm_guardsByLooking : Cond.initialized y_Mm_guardsByLooking.cls ∈ zWs := (zmem 44 (by decide +kernel) rfl)
theorem ws_Mm_guardsByLooking : Cond.instanceMethod y_Mm_guardsByLooking ∈ zWs := (zmem 1079 (by decide +kernel) rfl)
theorem wv_Mm_guardsByLooking : Cond.selects R_Mm y_Mm_guardsByLooking y_Mm_guardsByLooking ∈ zWs := zmem 1080 (by decide +kernel) rfl
abbrev c_Mm_guarded : ByteArray := prog_9_method_58_code
def y_Mm_guarded : MethodName := ⟨R_Mm, "guarded", "(I)J"⟩
def i_Mm_guarded : List zI := [(0, .aload_n 0, 1, 0, 0), (1, .iload_n 1, 1, 0, 0), (2, .invokestatic 91, 3, 0, 0), (5, .invokevirtual 40, 3, 0, 0), (8, .ifCond .ne 5, 3, 0, 13), (11, .lconst 0, 1, 0, 0), (12, .lreturn, 1, 0, 0), (13, .lconst 0, 1, 0, 0), (14, .lstore_n 2, 1, 0, 0), (15, .iconst 0, 1, 0, 0), (16, .istore 4, 2, 0, 0), (18, .iload 4, 2, 0, 0), (20, .bipush 36, 2, 36, 0), (22, .if_icmp .ge 30, 3, 0, 52), (25, .lload_n 2, 1, 0, 0), (26, .aload_n 0, 1, 0, 0), (27, .iload_n 1, 1, 0, 0), (28, .iload 4, 2, 0, 0), (30, .invokevirtual 143, 3, 0, 0), (33, .ifCond .le 10, 3, 0, 43), (36, .lconst 1, 1, 0, 0), (37, .iload 4, 2, 0, 0), (39, .lshl, 1, 0, 0), (40, .goto 4, 3, 0, 44), (43, .lconst 0, 1, 0, 0), (44, .lor, 1, 0, 0), (45, .lstore_n 2, 1, 0, 0), (46, .iinc 4 1, 3, 1, 0), (49, .goto (-31), 3, 0, 18), (52, .lload_n 2, 1, 0, 0), (53, .lreturn, 1, 0, 0)]
theorem it_Mm_guarded : zT c_Mm_guarded i_Mm_guarded := zT_of (by decide +kernel)
theorem wc_Mm_guarded : Cond.code y_Mm_guarded c_Mm_guarded 5 (some .long) ∈ zWs := zmem 1085 (by decide +kernel) rfl
theorem wn_Mm_guarded : Cond.initialized y_Mm_guarded.cls ∈ zWs := (zmem 44 (by decide +kernel) rfl)
theorem ws_Mm_guarded : Cond.instanceMethod y_Mm_guarded ∈ zWs := (zmem 1083 (by decide +kernel) rfl)
theorem wv_Mm_guarded : Cond.selects R_Mm y_Mm_guarded y_Mm_guarded ∈ zWs := zmem 1084 (by decide +kernel) rfl
abbrev c_Mm_exchange : ByteArray := prog_9_method_61_code
def y_Mm_exchange : MethodName := ⟨R_Mm, "exchange", "(I)I"⟩
def i_Mm_exchange : List zI := [(0, .aload_n 0, 1, 0, 0), (1, .iload_n 1, 1, 0, 0), (2, .invokevirtual 136, 3, 0, 0), (5, .ifCond .eq 11, 3, 0, 16), (8, .aload_n 0, 1, 0, 0), (9, .iload_n 1, 1, 0, 0), (10, .invokevirtual 149, 3, 0, 0), (13, .goto 4, 3, 0, 17), (16, .iconst 0, 1, 0, 0), (17, .ireturn, 1, 0, 0)]
theorem it_Mm_exchange : zT c_Mm_exchange i_Mm_exchange := zT_of (by decide +kernel)
theorem wc_Mm_exchange : Cond.code y_Mm_exchange c_Mm_exchange 2 (some .int) ∈ zWs := zmem 1089 (by decide +kernel) rfl
theorem wn_Mm_exchange : Cond.initialized y_Mm_exchange.cls ∈ zWs := (zmem 44 (by decide +kernel) rfl)
theorem ws_Mm_exchange : Cond.instanceMethod y_Mm_exchange ∈ zWs := (zmem 1087 (by decide +kernel) rfl)
theorem wv_Mm_exchange : Cond.selects R_Mm y_Mm_exchange y_Mm_exchange ∈ zWs := zmem 1088 (by decide +kernel) rfl
abbrev c_Mm_exchanged : ByteArray := prog_9_method_60_code
def y_Mm_exchanged : MethodName := ⟨R_Mm, "exchanged", "(I)I"⟩
def i_Mm_exchanged : List zI := [(0, .iconst 0, 1, 0, 0), (1, .istore_n 2, 1, 0, 0), (2, .iload_n 2, 1, 0, 0), (3, .bipush 36, 2, 36, 0), (5, .if_icmp .ge 21, 3, 0, 26), (8, .aload_n 0, 1, 0, 0), (9, .getfield 19, 3, 0, 0), (12, .iload_n 2, 1, 0, 0), (13, .aload_n 0, 1, 0, 0), (14, .getfield 7, 3, 0, 0), (17, .iload_n 2, 1, 0, 0), (18, .iaload, 1, 0, 0), (19, .iastore, 1, 0, 0), (20, .iinc 2 1, 3, 1, 0), (23, .goto (-21), 3, 0, 2), (26, .iconst 1, 1, 1, 0), (27, .aload_n 0, 1, 0, 0), (28, .getfield 19, 3, 0, 0), (31, .iload_n 1, 1, 0, 0), (32, .iaload, 1, 0, 0), (33, .invokestatic 58, 3, 0, 0), (36, .isub, 1, 0, 0), (37, .istore_n 2, 1, 0, 0), (38, .iconst 0, 1, 0, 0), (39, .istore_n 3, 1, 0, 0), (40, .aload_n 0, 1, 0, 0), (41, .iload_n 2, 1, 0, 0), (42, .iload_n 1, 1, 0, 0), (43, .invokevirtual 146, 3, 0, 0), (46, .istore 4, 2, 0, 0), (48, .iload 4, 2, 0, 0), (50, .iconst (-1), 1, -1, 0), (51, .if_icmp .eq 66, 3, 0, 117), (54, .aload_n 0, 1, 0, 0), (55, .getfield 22, 3, 0, 0), (58, .iload_n 3, 1, 0, 0), (59, .aload_n 0, 1, 0, 0), (60, .getfield 19, 3, 0, 0), (63, .iload_n 1, 1, 0, 0), (64, .iaload, 1, 0, 0), (65, .invokestatic 88, 3, 0, 0), (68, .iastore, 1, 0, 0), (69, .iinc 3 1, 3, 1, 0), (72, .aload_n 0, 1, 0, 0), (73, .getfield 19, 3, 0, 0), (76, .iload_n 1, 1, 0, 0), (77, .aload_n 0, 1, 0, 0), (78, .getfield 19, 3, 0, 0), (81, .iload 4, 2, 0, 0), (83, .iaload, 1, 0, 0), (84, .aload_n 0, 1, 0, 0), (85, .getfield 19, 3, 0, 0), (88, .iload_n 1, 1, 0, 0), (89, .iaload, 1, 0, 0), (90, .invokestatic 114, 3, 0, 0), (93, .iastore, 1, 0, 0), (94, .aload_n 0, 1, 0, 0), (95, .getfield 19, 3, 0, 0), (98, .iload 4, 2, 0, 0), (100, .iconst 0, 1, 0, 0), (101, .iastore, 1, 0, 0), (102, .iconst 1, 1, 1, 0), (103, .iload_n 2, 1, 0, 0), (104, .isub, 1, 0, 0), (105, .istore_n 2, 1, 0, 0), (106, .aload_n 0, 1, 0, 0), (107, .iload_n 2, 1, 0, 0), (108, .iload_n 1, 1, 0, 0), (109, .invokevirtual 146, 3, 0, 0), (112, .istore 4, 2, 0, 0), (114, .goto (-66), 3, 0, 48), (117, .iconst 0, 1, 0, 0), (118, .istore 4, 2, 0, 0), (120, .iload_n 3, 1, 0, 0), (121, .iconst 1, 1, 1, 0), (122, .isub, 1, 0, 0), (123, .istore 5, 2, 0, 0), (125, .iload 5, 2, 0, 0), (127, .ifCond .lt 37, 3, 0, 164), (130, .aload_n 0, 1, 0, 0), (131, .getfield 22, 3, 0, 0), (134, .iload 5, 2, 0, 0), (136, .iaload, 1, 0, 0), (137, .iload 4, 2, 0, 0), (139, .if_icmp .le 16, 3, 0, 155), (142, .aload_n 0, 1, 0, 0), (143, .getfield 22, 3, 0, 0), (146, .iload 5, 2, 0, 0), (148, .iaload, 1, 0, 0), (149, .iload 4, 2, 0, 0), (151, .isub, 1, 0, 0), (152, .goto 4, 3, 0, 156), (155, .iconst 0, 1, 0, 0), (156, .istore 4, 2, 0, 0), (158, .iinc 5 (-1), 3, -1, 0), (161, .goto (-36), 3, 0, 125), (164, .iload 4, 2, 0, 0), (166, .ireturn, 1, 0, 0)]
theorem it_Mm_exchanged : zT c_Mm_exchanged i_Mm_exchanged := zT_of (by decide +kernel)
theorem wc_Mm_exchanged : Cond.code y_Mm_exchanged c_Mm_exchanged 6 (some .int) ∈ zWs := zmem 1093 (by decide +kernel) rfl
theorem wn_Mm_exchanged : Cond.initialized y_Mm_exchanged.cls ∈ zWs := (zmem 44 (by decide +kernel) rfl)
theorem ws_Mm_exchanged : Cond.instanceMethod y_Mm_exchanged ∈ zWs := (zmem 1092 (by decide +kernel) rfl)
theorem wv_Mm_exchanged : Cond.selects R_Mm y_Mm_exchanged y_Mm_exchanged ∈ zWs := zmem 34 (by decide +kernel) rfl
abbrev c_Mm_capturer : ByteArray := prog_9_method_59_code
def y_Mm_capturer : MethodName := ⟨R_Mm, "capturer", "(II)I"⟩
def i_Mm_capturer : List zI := [(0, .iconst (-1), 1, -1, 0), (1, .istore_n 3, 1, 0, 0), (2, .iconst 0, 1, 0, 0), (3, .istore 4, 2, 0, 0), (5, .iload 4, 2, 0, 0), (7, .bipush 36, 2, 36, 0), (9, .if_icmp .ge 90, 3, 0, 99), (12, .aload_n 0, 1, 0, 0), (13, .getfield 19, 3, 0, 0), (16, .iload 4, 2, 0, 0), (18, .iaload, 1, 0, 0), (19, .invokestatic 58, 3, 0, 0), (22, .iload_n 1, 1, 0, 0), (23, .if_icmp .ne 28, 3, 0, 51), (26, .aload_n 0, 1, 0, 0), (27, .aload_n 0, 1, 0, 0), (28, .getfield 19, 3, 0, 0), (31, .iload 4, 2, 0, 0), (33, .iaload, 1, 0, 0), (34, .invokestatic 48, 3, 0, 0), (37, .iload 4, 2, 0, 0), (39, .iload_n 2, 1, 0, 0), (40, .iconst 1, 1, 1, 0), (41, .invokevirtual 75, 3, 0, 0), (44, .ifCond .eq 7, 3, 0, 51), (47, .iconst 1, 1, 1, 0), (48, .goto 4, 3, 0, 52), (51, .iconst 0, 1, 0, 0), (52, .istore 5, 2, 0, 0), (54, .iload 5, 2, 0, 0), (56, .ifCond .eq 35, 3, 0, 91), (59, .iload_n 3, 1, 0, 0), (60, .iconst (-1), 1, -1, 0), (61, .if_icmp .eq 25, 3, 0, 86), (64, .aload_n 0, 1, 0, 0), (65, .getfield 19, 3, 0, 0), (68, .iload 4, 2, 0, 0), (70, .iaload, 1, 0, 0), (71, .invokestatic 88, 3, 0, 0), (74, .aload_n 0, 1, 0, 0), (75, .getfield 19, 3, 0, 0), (78, .iload_n 3, 1, 0, 0), (79, .iaload, 1, 0, 0), (80, .invokestatic 88, 3, 0, 0), (83, .if_icmp .ge 8, 3, 0, 91), (86, .iload 4, 2, 0, 0), (88, .goto 4, 3, 0, 92), (91, .iload_n 3, 1, 0, 0), (92, .istore_n 3, 1, 0, 0), (93, .iinc 4 1, 3, 1, 0), (96, .goto (-91), 3, 0, 5), (99, .iload_n 3, 1, 0, 0), (100, .ireturn, 1, 0, 0)]
theorem it_Mm_capturer : zT c_Mm_capturer i_Mm_capturer := zT_of (by decide +kernel)
theorem wc_Mm_capturer : Cond.code y_Mm_capturer c_Mm_capturer 6 (some .int) ∈ zWs := zmem 1097 (by decide +kernel) rfl
theorem wn_Mm_capturer : Cond.initialized y_Mm_capturer.cls ∈ zWs := (zmem 44 (by decide +kernel) rfl)
theorem ws_Mm_capturer : Cond.instanceMethod y_Mm_capturer ∈ zWs := (zmem 1096 (by decide +kernel) rfl)
theorem wv_Mm_capturer : Cond.selects R_Mm y_Mm_capturer y_Mm_capturer ∈ zWs := zmem 35 (by decide +kernel) rfl
abbrev c_Mm_weakest : ByteArray := prog_9_method_63_code
def y_Mm_weakest : MethodName := ⟨R_Mm, "weakest", "(I)I"⟩
def i_Mm_weakest : List zI := [(0, .aload_n 0, 1, 0, 0), (1, .iload_n 1, 1, 0, 0), (2, .invokestatic 91, 3, 0, 0), (5, .invokevirtual 40, 3, 0, 0), (8, .pop, 1, 0, 0), (9, .aload_n 0, 1, 0, 0), (10, .getfield 29, 3, 0, 0), (13, .ifCond .le 7, 3, 0, 20), (16, .iconst 0, 1, 0, 0), (17, .goto 8, 3, 0, 25), (20, .aload_n 0, 1, 0, 0), (21, .iload_n 1, 1, 0, 0), (22, .invokevirtual 152, 3, 0, 0), (25, .istore_n 2, 1, 0, 0), (26, .aload_n 0, 1, 0, 0), (27, .iload_n 2, 1, 0, 0), (28, .iconst (-1), 1, -1, 0), (29, .if_icmp .eq 7, 3, 0, 36), (32, .iconst 1, 1, 1, 0), (33, .goto 4, 3, 0, 37), (36, .iconst 0, 1, 0, 0), (37, .iconst 2, 1, 2, 0), (38, .invokevirtual 97, 3, 0, 0), (41, .ifCond .eq 7, 3, 0, 48), (44, .iload_n 2, 1, 0, 0), (45, .goto 4, 3, 0, 49), (48, .iconst 0, 1, 0, 0), (49, .ireturn, 1, 0, 0)]
theorem it_Mm_weakest : zT c_Mm_weakest i_Mm_weakest := zT_of (by decide +kernel)
theorem wc_Mm_weakest : Cond.code y_Mm_weakest c_Mm_weakest 3 (some .int) ∈ zWs := zmem 1101 (by decide +kernel) rfl
theorem wn_Mm_weakest : Cond.initialized y_Mm_weakest.cls ∈ zWs := (zmem 44 (by decide +kernel) rfl)
theorem ws_Mm_weakest : Cond.instanceMethod y_Mm_weakest ∈ zWs := (zmem 1099 (by decide +kernel) rfl)
theorem wv_Mm_weakest : Cond.selects R_Mm y_Mm_weakest y_Mm_weakest ∈ zWs := zmem 1100 (by decide +kernel) rfl
abbrev c_Mm_weak : ByteArray := prog_9_method_62_code
def y_Mm_weak : MethodName := ⟨R_Mm, "weak", "(I)I"⟩
def i_Mm_weak : List zI := [(0, .iconst (-1), 1, -1, 0), (1, .istore_n 2, 1, 0, 0), (2, .iconst 0, 1, 0, 0), (3, .istore_n 3, 1, 0, 0), (4, .iconst 0, 1, 0, 0), (5, .istore 4, 2, 0, 0), (7, .iload 4, 2, 0, 0), (9, .bipush 36, 2, 36, 0), (11, .if_icmp .ge 61, 3, 0, 72), (14, .aload_n 0, 1, 0, 0), (15, .getfield 7, 3, 0, 0), (18, .iload 4, 2, 0, 0), (20, .iaload, 1, 0, 0), (21, .invokestatic 58, 3, 0, 0), (24, .iload_n 1, 1, 0, 0), (25, .if_icmp .ne 12, 3, 0, 37), (28, .aload_n 0, 1, 0, 0), (29, .iload 4, 2, 0, 0), (31, .invokevirtual 149, 3, 0, 0), (34, .goto 4, 3, 0, 38), (37, .iconst 0, 1, 0, 0), (38, .istore 5, 2, 0, 0), (40, .iload 5, 2, 0, 0), (42, .iload_n 3, 1, 0, 0), (43, .if_icmp .le 8, 3, 0, 51), (46, .iload 4, 2, 0, 0), (48, .goto 4, 3, 0, 52), (51, .iload_n 2, 1, 0, 0), (52, .istore_n 2, 1, 0, 0), (53, .iload 5, 2, 0, 0), (55, .iload_n 3, 1, 0, 0), (56, .if_icmp .le 8, 3, 0, 64), (59, .iload 5, 2, 0, 0), (61, .goto 4, 3, 0, 65), (64, .iload_n 3, 1, 0, 0), (65, .istore_n 3, 1, 0, 0), (66, .iinc 4 1, 3, 1, 0), (69, .goto (-62), 3, 0, 7), (72, .iload_n 2, 1, 0, 0), (73, .ireturn, 1, 0, 0)]
theorem it_Mm_weak : zT c_Mm_weak i_Mm_weak := zT_of (by decide +kernel)
theorem wc_Mm_weak : Cond.code y_Mm_weak c_Mm_weak 6 (some .int) ∈ zWs := zmem 1105 (by decide +kernel) rfl
theorem wn_Mm_weak : Cond.initialized y_Mm_weak.cls ∈ zWs := (zmem 44 (by decide +kernel) rfl)
theorem ws_Mm_weak : Cond.instanceMethod y_Mm_weak ∈ zWs := (zmem 1104 (by decide +kernel) rfl)
theorem wv_Mm_weak : Cond.selects R_Mm y_Mm_weak y_Mm_weak ∈ zWs := zmem 36 (by decide +kernel) rfl
abbrev c_Mm_toMove : ByteArray := prog_9_method_64_code
def y_Mm_toMove : MethodName := ⟨R_Mm, "toMove", "()I"⟩
def i_Mm_toMove : List zI := [(0, .aload_n 0, 1, 0, 0), (1, .aload_n 0, 1, 0, 0), (2, .getfield 7, 3, 0, 0), (5, .bipush 39, 2, 39, 0), (7, .iaload, 1, 0, 0), (8, .invokevirtual 44, 3, 0, 0), (11, .ireturn, 1, 0, 0)]
theorem it_Mm_toMove : zT c_Mm_toMove i_Mm_toMove := zT_of (by decide +kernel)
theorem wc_Mm_toMove : Cond.code y_Mm_toMove c_Mm_toMove 1 (some .int) ∈ zWs := zmem 1109 (by decide +kernel) rfl
theorem wn_Mm_toMove : Cond.initialized y_Mm_toMove.cls ∈ zWs := (zmem 44 (by decide +kernel) rfl)
theorem ws_Mm_toMove : Cond.instanceMethod y_Mm_toMove ∈ zWs := (zmem 1107 (by decide +kernel) rfl)
theorem wv_Mm_toMove : Cond.selects R_Mm y_Mm_toMove y_Mm_toMove ∈ zWs := zmem 1108 (by decide +kernel) rfl
abbrev c_Mm_isOver : ByteArray := prog_9_method_65_code
def y_Mm_isOver : MethodName := ⟨R_Mm, "isOver", "()Z"⟩
def i_Mm_isOver : List zI := [(0, .aload_n 0, 1, 0, 0), (1, .iconst 0, 1, 0, 0), (2, .putfield 29, 3, 0, 0), (5, .aload_n 0, 1, 0, 0), (6, .getfield 7, 3, 0, 0), (9, .bipush 37, 2, 37, 0), (11, .iaload, 1, 0, 0), (12, .iconst 1, 1, 1, 0), (13, .if_icmp .ne 7, 3, 0, 20), (16, .iconst 1, 1, 1, 0), (17, .goto 4, 3, 0, 21), (20, .iconst 0, 1, 0, 0), (21, .ireturn, 1, 0, 0)]
theorem it_Mm_isOver : zT c_Mm_isOver i_Mm_isOver := zT_of (by decide +kernel)
theorem wc_Mm_isOver : Cond.code y_Mm_isOver c_Mm_isOver 1 (some .boolean) ∈ zWs := zmem 1113 (by decide +kernel) rfl
theorem wn_Mm_isOver : Cond.initialized y_Mm_isOver.cls ∈ zWs := (zmem 44 (by decide +kernel) rfl)
theorem ws_Mm_isOver : Cond.instanceMethod y_Mm_isOver ∈ zWs := (zmem 1111 (by decide +kernel) rfl)
theorem wv_Mm_isOver : Cond.selects R_Mm y_Mm_isOver y_Mm_isOver ∈ zWs := zmem 1112 (by decide +kernel) rfl
abbrev c_Mm_winner : ByteArray := prog_9_method_66_code
def y_Mm_winner : MethodName := ⟨R_Mm, "winner", "()I"⟩
def i_Mm_winner : List zI := [(0, .aload_n 0, 1, 0, 0), (1, .aload_n 0, 1, 0, 0), (2, .getfield 7, 3, 0, 0), (5, .bipush 38, 2, 38, 0), (7, .iaload, 1, 0, 0), (8, .iconst (-1), 1, -1, 0), (9, .if_icmp .eq 7, 3, 0, 16), (12, .iconst 1, 1, 1, 0), (13, .goto 4, 3, 0, 17), (16, .iconst 0, 1, 0, 0), (17, .invokevirtual 40, 3, 0, 0), (20, .ifCond .eq 13, 3, 0, 33), (23, .aload_n 0, 1, 0, 0), (24, .getfield 7, 3, 0, 0), (27, .bipush 38, 2, 38, 0), (29, .iaload, 1, 0, 0), (30, .goto 4, 3, 0, 34), (33, .iconst 0, 1, 0, 0), (34, .ireturn, 1, 0, 0)]
theorem it_Mm_winner : zT c_Mm_winner i_Mm_winner := zT_of (by decide +kernel)
theorem wc_Mm_winner : Cond.code y_Mm_winner c_Mm_winner 1 (some .int) ∈ zWs := zmem 1117 (by decide +kernel) rfl
theorem wn_Mm_winner : Cond.initialized y_Mm_winner.cls ∈ zWs := (zmem 44 (by decide +kernel) rfl)
theorem ws_Mm_winner : Cond.instanceMethod y_Mm_winner ∈ zWs := (zmem 1115 (by decide +kernel) rfl)
theorem wv_Mm_winner : Cond.selects R_Mm y_Mm_winner y_Mm_winner ∈ zWs := zmem 1116 (by decide +kernel) rfl
abbrev c_Mm_repetitions : ByteArray := prog_9_method_67_code
def y_Mm_repetitions : MethodName := ⟨R_Mm, "repetitions", "()I"⟩
def i_Mm_repetitions : List zI := [(0, .aload_n 0, 1, 0, 0), (1, .aload_n 0, 1, 0, 0), (2, .getfield 7, 3, 0, 0), (5, .bipush 36, 2, 36, 0), (7, .iaload, 1, 0, 0), (8, .ifCond .ne 7, 3, 0, 15), (11, .iconst 0, 1, 0, 0), (12, .goto 7, 3, 0, 19), (15, .aload_n 0, 1, 0, 0), (16, .invokevirtual 118, 3, 0, 0), (19, .invokevirtual 44, 3, 0, 0), (22, .ireturn, 1, 0, 0)]
theorem it_Mm_repetitions : zT c_Mm_repetitions i_Mm_repetitions := zT_of (by decide +kernel)
theorem wc_Mm_repetitions : Cond.code y_Mm_repetitions c_Mm_repetitions 1 (some .int) ∈ zWs := zmem 1121 (by decide +kernel) rfl
theorem wn_Mm_repetitions : Cond.initialized y_Mm_repetitions.cls ∈ zWs := (zmem 44 (by decide +kernel) rfl)
theorem ws_Mm_repetitions : Cond.instanceMethod y_Mm_repetitions ∈ zWs := (zmem 1119 (by decide +kernel) rfl)
theorem wv_Mm_repetitions : Cond.selects R_Mm y_Mm_repetitions y_Mm_repetitions ∈ zWs := zmem 1120 (by decide +kernel) rfl
abbrev c_Mm_movesMade : ByteArray := prog_9_method_68_code
def y_Mm_movesMade : MethodName := ⟨R_Mm, "movesMade", "()I"⟩
def i_Mm_movesMade : List zI := [(0, .aload_n 0, 1, 0, 0), (1, .aload_n 0, 1, 0, 0), (2, .getfield 7, 3, 0, 0), (5, .bipush 40, 2, 40, 0), (7, .iaload, 1, 0, 0), (8, .invokevirtual 44, 3, 0, 0), (11, .ireturn, 1, 0, 0)]
theorem it_Mm_movesMade : zT c_Mm_movesMade i_Mm_movesMade := zT_of (by decide +kernel)
theorem wc_Mm_movesMade : Cond.code y_Mm_movesMade c_Mm_movesMade 1 (some .int) ∈ zWs := zmem 1125 (by decide +kernel) rfl
theorem wn_Mm_movesMade : Cond.initialized y_Mm_movesMade.cls ∈ zWs := (zmem 44 (by decide +kernel) rfl)
theorem ws_Mm_movesMade : Cond.instanceMethod y_Mm_movesMade ∈ zWs := (zmem 1123 (by decide +kernel) rfl)
theorem wv_Mm_movesMade : Cond.selects R_Mm y_Mm_movesMade y_Mm_movesMade ∈ zWs := zmem 1124 (by decide +kernel) rfl
abbrev c_Mm_worth : ByteArray := prog_9_method_70_code
def y_Mm_worth : MethodName := ⟨R_Mm, "worth", "(I)I"⟩
def i_Mm_worth : List zI := [(0, .aload_n 0, 1, 0, 0), (1, .iload_n 1, 1, 0, 0), (2, .invokestatic 91, 3, 0, 0), (5, .invokevirtual 40, 3, 0, 0), (8, .ifCond .eq 11, 3, 0, 19), (11, .aload_n 0, 1, 0, 0), (12, .iload_n 1, 1, 0, 0), (13, .invokevirtual 155, 3, 0, 0), (16, .goto 4, 3, 0, 20), (19, .iconst 0, 1, 0, 0), (20, .ireturn, 1, 0, 0)]
theorem it_Mm_worth : zT c_Mm_worth i_Mm_worth := zT_of (by decide +kernel)
theorem wc_Mm_worth : Cond.code y_Mm_worth c_Mm_worth 2 (some .int) ∈ zWs := zmem 1129 (by decide +kernel) rfl
theorem wn_Mm_worth : Cond.initialized y_Mm_worth.cls ∈ zWs := (zmem 44 (by decide +kernel) rfl)
theorem ws_Mm_worth : Cond.instanceMethod y_Mm_worth ∈ zWs := (zmem 1127 (by decide +kernel) rfl)
theorem wv_Mm_worth : Cond.selects R_Mm y_Mm_worth y_Mm_worth ∈ zWs := zmem 1128 (by decide +kernel) rfl
abbrev c_Mm_all : ByteArray := prog_9_method_69_code
def y_Mm_all : MethodName := ⟨R_Mm, "all", "(I)I"⟩
def i_Mm_all : List zI := [(0, .iconst 0, 1, 0, 0), (1, .istore_n 2, 1, 0, 0), (2, .iconst 0, 1, 0, 0), (3, .istore_n 3, 1, 0, 0), (4, .iload_n 3, 1, 0, 0), (5, .bipush 36, 2, 36, 0), (7, .if_icmp .ge 38, 3, 0, 45), (10, .iload_n 2, 1, 0, 0), (11, .aload_n 0, 1, 0, 0), (12, .getfield 7, 3, 0, 0), (15, .iload_n 3, 1, 0, 0), (16, .iaload, 1, 0, 0), (17, .invokestatic 58, 3, 0, 0), (20, .iload_n 1, 1, 0, 0), (21, .if_icmp .ne 15, 3, 0, 36), (24, .aload_n 0, 1, 0, 0), (25, .getfield 7, 3, 0, 0), (28, .iload_n 3, 1, 0, 0), (29, .iaload, 1, 0, 0), (30, .invokestatic 88, 3, 0, 0), (33, .goto 4, 3, 0, 37), (36, .iconst 0, 1, 0, 0), (37, .iadd, 1, 0, 0), (38, .istore_n 2, 1, 0, 0), (39, .iinc 3 1, 3, 1, 0), (42, .goto (-38), 3, 0, 4), (45, .iload_n 2, 1, 0, 0), (46, .ireturn, 1, 0, 0)]
theorem it_Mm_all : zT c_Mm_all i_Mm_all := zT_of (by decide +kernel)
theorem wc_Mm_all : Cond.code y_Mm_all c_Mm_all 4 (some .int) ∈ zWs := zmem 1133 (by decide +kernel) rfl
theorem wn_Mm_all : Cond.initialized y_Mm_all.cls ∈ zWs := (zmem 44 (by decide +kernel) rfl)
theorem ws_Mm_all : Cond.instanceMethod y_Mm_all ∈ zWs := (zmem 1132 (by decide +kernel) rfl)
theorem wv_Mm_all : Cond.selects R_Mm y_Mm_all y_Mm_all ∈ zWs := zmem 37 (by decide +kernel) rfl
abbrev c_Mm_worthByAccount : ByteArray := prog_9_method_71_code
def y_Mm_worthByAccount : MethodName := ⟨R_Mm, "worthByAccount", "(I)I"⟩
def i_Mm_worthByAccount : List zI := [(0, .aload_n 0, 1, 0, 0), (1, .iload_n 1, 1, 0, 0), (2, .invokestatic 91, 3, 0, 0), (5, .invokevirtual 40, 3, 0, 0), (8, .ifCond .eq 35, 3, 0, 43), (11, .aload_n 0, 1, 0, 0), (12, .getfield 7, 3, 0, 0), (15, .bipush 42, 2, 42, 0), (17, .iload_n 1, 1, 0, 0), (18, .iadd, 1, 0, 0), (19, .iaload, 1, 0, 0), (20, .aload_n 0, 1, 0, 0), (21, .getfield 7, 3, 0, 0), (24, .bipush 45, 2, 45, 0), (26, .iload_n 1, 1, 0, 0), (27, .isub, 1, 0, 0), (28, .iaload, 1, 0, 0), (29, .isub, 1, 0, 0), (30, .aload_n 0, 1, 0, 0), (31, .getfield 7, 3, 0, 0), (34, .bipush 46, 2, 46, 0), (36, .iload_n 1, 1, 0, 0), (37, .iadd, 1, 0, 0), (38, .iaload, 1, 0, 0), (39, .iadd, 1, 0, 0), (40, .goto 4, 3, 0, 44), (43, .iconst 0, 1, 0, 0), (44, .ireturn, 1, 0, 0)]
theorem it_Mm_worthByAccount : zT c_Mm_worthByAccount i_Mm_worthByAccount := zT_of (by decide +kernel)
theorem wc_Mm_worthByAccount : Cond.code y_Mm_worthByAccount c_Mm_worthByAccount 2 (some .int) ∈ zWs := zmem 1137 (by decide +kernel) rfl
theorem wn_Mm_worthByAccount : Cond.initialized y_Mm_worthByAccount.cls ∈ zWs := (zmem 44 (by decide +kernel) rfl)
theorem ws_Mm_worthByAccount : Cond.instanceMethod y_Mm_worthByAccount ∈ zWs := (zmem 1135 (by decide +kernel) rfl)
theorem wv_Mm_worthByAccount : Cond.selects R_Mm y_Mm_worthByAccount y_Mm_worthByAccount ∈ zWs := zmem 1136 (by decide +kernel) rfl
abbrev c_Mm_captured : ByteArray := prog_9_method_72_code
def y_Mm_captured : MethodName := ⟨R_Mm, "captured", "(I)I"⟩
def i_Mm_captured : List zI := [(0, .aload_n 0, 1, 0, 0), (1, .iload_n 1, 1, 0, 0), (2, .invokestatic 91, 3, 0, 0), (5, .invokevirtual 40, 3, 0, 0), (8, .ifCond .eq 15, 3, 0, 23), (11, .aload_n 0, 1, 0, 0), (12, .getfield 7, 3, 0, 0), (15, .bipush 44, 2, 44, 0), (17, .iload_n 1, 1, 0, 0), (18, .iadd, 1, 0, 0), (19, .iaload, 1, 0, 0), (20, .goto 4, 3, 0, 24), (23, .iconst 0, 1, 0, 0), (24, .ireturn, 1, 0, 0)]
theorem it_Mm_captured : zT c_Mm_captured i_Mm_captured := zT_of (by decide +kernel)
theorem wc_Mm_captured : Cond.code y_Mm_captured c_Mm_captured 2 (some .int) ∈ zWs := zmem 1141 (by decide +kernel) rfl
theorem wn_Mm_captured : Cond.initialized y_Mm_captured.cls ∈ zWs := (zmem 44 (by decide +kernel) rfl)
theorem ws_Mm_captured : Cond.instanceMethod y_Mm_captured ∈ zWs := (zmem 1139 (by decide +kernel) rfl)
theorem wv_Mm_captured : Cond.selects R_Mm y_Mm_captured y_Mm_captured ∈ zWs := zmem 1140 (by decide +kernel) rfl
abbrev c_Mm_worthShare : ByteArray := prog_9_method_73_code
def y_Mm_worthShare : MethodName := ⟨R_Mm, "worthShare", "(I)D"⟩
def i_Mm_worthShare : List zI := [(0, .aload_n 0, 1, 0, 0), (1, .iload_n 1, 1, 0, 0), (2, .invokestatic 91, 3, 0, 0), (5, .invokevirtual 40, 3, 0, 0), (8, .ifCond .ne 5, 3, 0, 13), (11, .dconst 0, 1, 0, 0), (12, .dreturn, 1, 0, 0), (13, .aload_n 0, 1, 0, 0), (14, .iconst 0, 1, 0, 0), (15, .invokevirtual 155, 3, 0, 0), (18, .aload_n 0, 1, 0, 0), (19, .iconst 1, 1, 1, 0), (20, .invokevirtual 155, 3, 0, 0), (23, .iadd, 1, 0, 0), (24, .istore_n 2, 1, 0, 0), (25, .iload_n 2, 1, 0, 0), (26, .ifCond .ne 7, 3, 0, 33), (29, .dconst 0, 1, 0, 0), (30, .goto 12, 3, 0, 42), (33, .aload_n 0, 1, 0, 0), (34, .iload_n 1, 1, 0, 0), (35, .invokevirtual 155, 3, 0, 0), (38, .i2d, 1, 0, 0), (39, .iload_n 2, 1, 0, 0), (40, .i2d, 1, 0, 0), (41, .ddiv, 1, 0, 0), (42, .dreturn, 1, 0, 0)]
theorem it_Mm_worthShare : zT c_Mm_worthShare i_Mm_worthShare := zT_of (by decide +kernel)
theorem wc_Mm_worthShare : Cond.code y_Mm_worthShare c_Mm_worthShare 3 (some .double) ∈ zWs := zmem 1145 (by decide +kernel) rfl
theorem wn_Mm_worthShare : Cond.initialized y_Mm_worthShare.cls ∈ zWs := (zmem 44 (by decide +kernel) rfl)
theorem ws_Mm_worthShare : Cond.instanceMethod y_Mm_worthShare ∈ zWs := (zmem 1143 (by decide +kernel) rfl)
theorem wv_Mm_worthShare : Cond.selects R_Mm y_Mm_worthShare y_Mm_worthShare ∈ zWs := zmem 1144 (by decide +kernel) rfl
theorem kl_Lw_8 : Cond.classLink R_Lw 8 "BrackenGambit" ∈ zWs := zmem 57 (by decide +kernel) rfl
theorem ml_Lw_108 : Cond.methodLink R_Lw 108 y_Xx_init ∈ zWs := zmem 59 (by decide +kernel) rfl
theorem kl_Xx_7 : Cond.classLink R_Xx 7 "BrackenGambit$Game" ∈ zWs := zmem 65 (by decide +kernel) rfl
theorem ml_Xx_9 : Cond.methodLinkNest R_Xx 9 y_Gm_init R_Xx ∈ lw_tbl := List.mem_of_getElem? (i := 67) (by decide +kernel)
theorem kl_Gm_9 : Cond.classLink R_Gm 9 "BrackenGambit$Board" ∈ zWs := zmem 71 (by decide +kernel) rfl
theorem ml_Gm_11 : Cond.methodLinkNest R_Gm 11 y_Bd_init R_Xx ∈ lw_tbl := List.mem_of_getElem? (i := 73) (by decide +kernel)
theorem fl_Bd_9 : Cond.fieldLink R_Bd 9 "BrackenGambit$Board" "squares" "[I" ∈ zWs := zmem 77 (by decide +kernel) rfl
theorem fl_Gm_12 : Cond.fieldLink R_Gm 12 "BrackenGambit$Game" "board" "LBrackenGambit$Board;" ∈ zWs := zmem 82 (by decide +kernel) rfl
theorem fl_Xx_49 : Cond.fieldLink R_Xx 49 "BrackenGambit$Game" "board" "LBrackenGambit$Board;" ∈ zWs := zmem 83 (by decide +kernel) rfl
theorem fl_Gm_18 : Cond.fieldLink R_Gm 18 "BrackenGambit$Game" "account" "[I" ∈ zWs := zmem 84 (by decide +kernel) rfl
theorem fl_Xx_219 : Cond.fieldLink R_Xx 219 "BrackenGambit$Game" "account" "[I" ∈ zWs := zmem 85 (by decide +kernel) rfl
theorem fl_Gm_22 : Cond.fieldLink R_Gm 22 "BrackenGambit$Game" "taken" "[I" ∈ zWs := zmem 86 (by decide +kernel) rfl
theorem fl_Xx_223 : Cond.fieldLink R_Xx 223 "BrackenGambit$Game" "taken" "[I" ∈ zWs := zmem 87 (by decide +kernel) rfl
theorem fl_Gm_25 : Cond.fieldLink R_Gm 25 "BrackenGambit$Game" "turn" "I" ∈ zWs := zmem 88 (by decide +kernel) rfl
theorem fl_Xx_198 : Cond.fieldLink R_Xx 198 "BrackenGambit$Game" "turn" "I" ∈ zWs := zmem 89 (by decide +kernel) rfl
theorem fl_Gm_29 : Cond.fieldLink R_Gm 29 "BrackenGambit$Game" "made" "I" ∈ zWs := zmem 90 (by decide +kernel) rfl
theorem fl_Xx_213 : Cond.fieldLink R_Xx 213 "BrackenGambit$Game" "made" "I" ∈ zWs := zmem 91 (by decide +kernel) rfl
theorem fl_Gm_32 : Cond.fieldLink R_Gm 32 "BrackenGambit$Game" "over" "Z" ∈ zWs := zmem 92 (by decide +kernel) rfl
theorem fl_Xx_201 : Cond.fieldLink R_Xx 201 "BrackenGambit$Game" "over" "Z" ∈ zWs := zmem 93 (by decide +kernel) rfl
theorem fl_Gm_36 : Cond.fieldLink R_Gm 36 "BrackenGambit$Game" "champion" "I" ∈ zWs := zmem 94 (by decide +kernel) rfl
theorem fl_Xx_205 : Cond.fieldLink R_Xx 205 "BrackenGambit$Game" "champion" "I" ∈ zWs := zmem 95 (by decide +kernel) rfl
theorem fl_Gm_39 : Cond.fieldLink R_Gm 39 "BrackenGambit$Game" "latest" "LBrackenGambit$Position;" ∈ zWs := zmem 96 (by decide +kernel) rfl
theorem kl_Xx_16 : Cond.classLink R_Xx 16 "BrackenGambit$History" ∈ zWs := zmem 114 (by decide +kernel) rfl
theorem ml_Xx_18 : Cond.methodLink R_Xx 18 y_Hs_init ∈ zWs := zmem 116 (by decide +kernel) rfl
theorem kl_Hs_9 : Cond.classLink R_Hs 9 "BrackenGambit$Game" ∈ zWs := zmem 120 (by decide +kernel) rfl
theorem ml_Hs_19 : Cond.methodLinkNest R_Hs 19 y_Gm_init R_Xx ∈ lw_tbl := List.mem_of_getElem? (i := 122) (by decide +kernel)
theorem fl_Hs_11 : Cond.fieldLink R_Hs 11 "BrackenGambit$History" "states" "[LBrackenGambit$Game;" ∈ zWs := zmem 123 (by decide +kernel) rfl
theorem fl_Hs_15 : Cond.fieldLink R_Hs 15 "BrackenGambit$History" "size" "I" ∈ zWs := zmem 124 (by decide +kernel) rfl
theorem fl_Xx_123 : Cond.fieldLink R_Xx 123 "BrackenGambit$History" "size" "I" ∈ zWs := zmem 125 (by decide +kernel) rfl
theorem kl_Xx_23 : Cond.classLink R_Xx 23 "BrackenGambit$MoveText" ∈ zWs := zmem 131 (by decide +kernel) rfl
theorem ml_Xx_25 : Cond.methodLinkNest R_Xx 25 y_Tx_init R_Xx ∈ lw_tbl := List.mem_of_getElem? (i := 133) (by decide +kernel)
theorem fl_Tx_11 : Cond.fieldLink R_Tx 11 "BrackenGambit$MoveText" "characters" "[C" ∈ zWs := zmem 137 (by decide +kernel) rfl
theorem fl_Tx_15 : Cond.fieldLink R_Tx 15 "BrackenGambit$MoveText" "length" "I" ∈ zWs := zmem 138 (by decide +kernel) rfl
theorem kl_Xx_30 : Cond.classLink R_Xx 30 "BrackenGambit$Board" ∈ zWs := zmem 145 (by decide +kernel) rfl
theorem ml_Xx_32 : Cond.methodLinkNest R_Xx 32 y_Bd_init R_Xx ∈ lw_tbl := List.mem_of_getElem? (i := 146) (by decide +kernel)
theorem fl_Xx_10 : Cond.fieldLink R_Xx 10 "BrackenGambit" "game" "LBrackenGambit$Game;" ∈ zWs := zmem 147 (by decide +kernel) rfl
theorem fl_Xx_19 : Cond.fieldLink R_Xx 19 "BrackenGambit" "history" "LBrackenGambit$History;" ∈ zWs := zmem 148 (by decide +kernel) rfl
theorem fl_Xx_26 : Cond.fieldLink R_Xx 26 "BrackenGambit" "text" "LBrackenGambit$MoveText;" ∈ zWs := zmem 149 (by decide +kernel) rfl
theorem fl_Xx_33 : Cond.fieldLink R_Xx 33 "BrackenGambit" "trial" "LBrackenGambit$Board;" ∈ zWs := zmem 150 (by decide +kernel) rfl
theorem ml_Lw_146 : Cond.methodLink R_Lw 146 y_Xx_clearText ∈ zWs := zmem 160 (by decide +kernel) rfl
theorem ml_Xx_115 : Cond.methodLink R_Xx 115 y_Tx_empty ∈ zWs := zmem 164 (by decide +kernel) rfl
theorem ml_Lw_150 : Cond.methodLink R_Lw 150 y_Xx_isValid ∈ zWs := zmem 168 (by decide +kernel) rfl
theorem ml_Xx_89 : Cond.methodLink R_Xx 89 y_Tx_isList ∈ zWs := zmem 172 (by decide +kernel) rfl
theorem ml_Tx_19 : Cond.methodLink R_Tx 19 y_Tx_firstMisfit ∈ zWs := zmem 176 (by decide +kernel) rfl
theorem ml_Tx_23 : Cond.methodLink R_Tx 23 y_Tx_fits ∈ zWs := zmem 180 (by decide +kernel) rfl
theorem ml_Tx_27 : Cond.methodLink R_Tx 27 y_Tx_isDigit ∈ zWs := zmem 184 (by decide +kernel) rfl
theorem ml_Tx_31 : Cond.methodLink R_Tx 31 y_Tx_endsElsewhere ∈ zWs := zmem 187 (by decide +kernel) rfl
theorem ml_Lw_200 : Cond.methodLink R_Lw 200 y_Xx_toMove ∈ zWs := zmem 191 (by decide +kernel) rfl
theorem ml_Lw_204 : Cond.methodLink R_Lw 204 y_Xx_isOver ∈ zWs := zmem 195 (by decide +kernel) rfl
theorem ml_Lw_211 : Cond.methodLink R_Lw 211 y_Xx_repetitions ∈ zWs := zmem 199 (by decide +kernel) rfl
theorem ml_Xx_210 : Cond.methodLink R_Xx 210 y_Gm_timesOfBoard ∈ zWs := zmem 203 (by decide +kernel) rfl
theorem ml_Lw_215 : Cond.methodLink R_Lw 215 y_Xx_movesMade ∈ zWs := zmem 207 (by decide +kernel) rfl
theorem ml_Lw_232 : Cond.methodLink R_Lw 232 y_Xx_historySize ∈ zWs := zmem 211 (by decide +kernel) rfl
theorem ml_Lw_112 : Cond.methodLink R_Lw 112 y_Lw_putPiece ∈ zWs := zmem 215 (by decide +kernel) rfl
theorem kl_Lw_13 : Cond.classLink R_Lw 13 "java/lang/IndexOutOfBoundsException" ∈ zWs := zmem 218 (by decide +kernel) rfl
theorem kl_Lw_15 : Cond.classLink R_Lw 15 "java/lang/IllegalArgumentException" ∈ zWs := zmem 219 (by decide +kernel) rfl
theorem kl_Lw_17 : Cond.classLink R_Lw 17 "java/lang/IllegalStateException" ∈ zWs := zmem 220 (by decide +kernel) rfl
theorem ml_Lw_7 : Cond.methodLink R_Lw 7 y_Xx_putPiece ∈ zWs := zmem 221 (by decide +kernel) rfl
theorem ml_Xx_37 : Cond.methodLink R_Xx 37 y_Xx_put ∈ zWs := zmem 225 (by decide +kernel) rfl
theorem ml_Xx_132 : Cond.methodLink R_Xx 132 y_Xx_needSide ∈ zWs := zmem 229 (by decide +kernel) rfl
theorem kl_Xx_266 : Cond.classLink R_Xx 266 "java/lang/IndexOutOfBoundsException" ∈ zWs := zmem 232 (by decide +kernel) rfl
theorem ml_Xx_41 : Cond.methodLink R_Xx 41 y_Xx_needSquare ∈ zWs := zmem 301 (by decide +kernel) rfl
theorem kl_Xx_92 : Cond.classLink R_Xx 92 "java/lang/IllegalArgumentException" ∈ zWs := zmem 305 (by decide +kernel) rfl
theorem ml_Xx_228 : Cond.methodLink R_Xx 228 y_Gm_accepts ∈ zWs := zmem 321 (by decide +kernel) rfl
theorem ml_Gm_52 : Cond.methodLink R_Gm 52 y_Gm_hasStarted ∈ zWs := zmem 325 (by decide +kernel) rfl
theorem ml_Gm_56 : Cond.methodLink R_Gm 56 y_Bd_isEmpty ∈ zWs := zmem 329 (by decide +kernel) rfl
theorem ml_Gm_60 : Cond.methodLink R_Gm 60 y_Bd_countOf ∈ zWs := zmem 333 (by decide +kernel) rfl
theorem ml_Bd_35 : Cond.methodLink R_Bd 35 y_Bd_squaresOf ∈ zWs := zmem 337 (by decide +kernel) rfl
theorem ml_Bd_31 : Cond.methodLink R_Bd 31 y_Bd_holds ∈ zWs := zmem 341 (by decide +kernel) rfl
theorem ml_Bd_27 : Cond.methodLink R_Bd 27 y_Pc_sideOf ∈ zWs := zmem 345 (by decide +kernel) rfl
theorem ml_Bd_39 : Cond.methodLink R_Bd 39 y_Jl_bitCount ∈ zWs := zmem 348 (by decide +kernel) rfl
theorem ml_Gm_64 : Cond.methodLink R_Gm 64 y_Bd_leaderSquare ∈ zWs := zmem 354 (by decide +kernel) rfl
theorem ml_Bd_48 : Cond.methodLink R_Bd 48 y_Pc_leads ∈ zWs := zmem 358 (by decide +kernel) rfl
theorem kl_Xx_56 : Cond.classLink R_Xx 56 "java/lang/IllegalStateException" ∈ zWs := zmem 361 (by decide +kernel) rfl
theorem ml_Xx_63 : Cond.methodLink R_Xx 63 y_Hs_remember ∈ zWs := zmem 377 (by decide +kernel) rfl
theorem ml_Hs_20 : Cond.methodLink R_Hs 20 y_Hs_dropOldest ∈ zWs := zmem 381 (by decide +kernel) rfl
theorem ml_Hs_23 : Cond.methodLink R_Hs 23 y_Gm_copy ∈ zWs := zmem 385 (by decide +kernel) rfl
theorem ml_Gm_43 : Cond.methodLink R_Gm 43 y_Bd_copy ∈ zWs := zmem 389 (by decide +kernel) rfl
theorem ml_Xx_234 : Cond.methodLink R_Xx 234 y_Pc_of ∈ zWs := zmem 396 (by decide +kernel) rfl
theorem ml_Xx_238 : Cond.methodLink R_Xx 238 y_Gm_addPiece ∈ zWs := zmem 399 (by decide +kernel) rfl
theorem ml_Gm_67 : Cond.methodLink R_Gm 67 y_Bd_set ∈ zWs := zmem 403 (by decide +kernel) rfl
theorem ml_Gm_71 : Cond.methodLink R_Gm 71 y_Pc_sideOf ∈ zWs := zmem 407 (by decide +kernel) rfl
theorem ml_Gm_76 : Cond.methodLink R_Gm 76 y_Pc_worthOf ∈ zWs := zmem 408 (by decide +kernel) rfl
theorem ml_Pc_11 : Cond.methodLink R_Pc 11 y_Pc_stepsOf ∈ zWs := zmem 411 (by decide +kernel) rfl
theorem ml_Pc_15 : Cond.methodLink R_Pc 15 y_Pc_worthOfSteps ∈ zWs := zmem 414 (by decide +kernel) rfl
theorem ml_Pc_22 : Cond.methodLink R_Pc 22 y_Pc_knows ∈ zWs := zmem 417 (by decide +kernel) rfl
theorem fl_Pc_26 : Cond.fieldLink R_Pc 26 "BrackenGambit$Piece" "KIND_WORTH" "[I" ∈ zWs := zmem 420 (by decide +kernel) rfl
theorem ml_Pc_18 : Cond.methodLink R_Pc 18 y_Pc_leads ∈ zWs := zmem 422 (by decide +kernel) rfl
theorem ml_Xx_135 : Cond.methodLink R_Xx 135 y_Bd_countOf ∈ zWs := zmem 423 (by decide +kernel) rfl
theorem ml_Lw_121 : Cond.methodLink R_Lw 121 y_Lw_putLeader ∈ zWs := zmem 424 (by decide +kernel) rfl
theorem ml_Lw_19 : Cond.methodLink R_Lw 19 y_Xx_putLeader ∈ zWs := zmem 427 (by decide +kernel) rfl
theorem ml_Lw_124 : Cond.methodLink R_Lw 124 y_Lw_takeAway ∈ zWs := zmem 431 (by decide +kernel) rfl
theorem ml_Lw_22 : Cond.methodLink R_Lw 22 y_Xx_takeAway ∈ zWs := zmem 434 (by decide +kernel) rfl
theorem ml_Xx_45 : Cond.methodLink R_Xx 45 y_Gm_hasStarted ∈ zWs := zmem 438 (by decide +kernel) rfl
theorem ml_Xx_52 : Cond.methodLink R_Xx 52 y_Bd_isEmpty ∈ zWs := zmem 439 (by decide +kernel) rfl
theorem ml_Xx_67 : Cond.methodLink R_Xx 67 y_Gm_removePiece ∈ zWs := zmem 441 (by decide +kernel) rfl
theorem ml_Gm_79 : Cond.methodLink R_Gm 79 y_Bd_pieceOn ∈ zWs := zmem 445 (by decide +kernel) rfl
theorem ml_Lw_128 : Cond.methodLink R_Lw 128 y_Lw_start ∈ zWs := zmem 449 (by decide +kernel) rfl
theorem ml_Lw_26 : Cond.methodLink R_Lw 26 y_Xx_start ∈ zWs := zmem 452 (by decide +kernel) rfl
theorem ml_Xx_71 : Cond.methodLink R_Xx 71 y_Gm_canBegin ∈ zWs := zmem 456 (by decide +kernel) rfl
theorem ml_Xx_76 : Cond.methodLink R_Xx 76 y_Gm_begin ∈ zWs := zmem 461 (by decide +kernel) rfl
theorem ml_Gm_82 : Cond.methodLink R_Gm 82 y_Bd_movesOf ∈ zWs := zmem 465 (by decide +kernel) rfl
theorem ml_Bd_78 : Cond.methodLink R_Bd 78 y_Bd_guardedFrom ∈ zWs := zmem 469 (by decide +kernel) rfl
theorem ml_Bd_45 : Cond.methodLink R_Bd 45 y_Pc_knows ∈ zWs := zmem 473 (by decide +kernel) rfl
theorem ml_Bd_74 : Cond.methodLink R_Bd 74 y_Bd_linesOfKind ∈ zWs := zmem 474 (by decide +kernel) rfl
theorem fl_Bd_61 : Cond.fieldLink R_Bd 61 "BrackenGambit$Board" "FIRST_DIRECTION" "[I" ∈ zWs := zmem 478 (by decide +kernel) rfl
theorem fl_Bd_64 : Cond.fieldLink R_Bd 64 "BrackenGambit$Board" "LAST_DIRECTION" "[I" ∈ zWs := zmem 480 (by decide +kernel) rfl
theorem fl_Bd_67 : Cond.fieldLink R_Bd 67 "BrackenGambit$Board" "FARTHEST" "[I" ∈ zWs := zmem 482 (by decide +kernel) rfl
theorem ml_Bd_70 : Cond.methodLink R_Bd 70 y_Bd_line ∈ zWs := zmem 484 (by decide +kernel) rfl
theorem fl_Bd_55 : Cond.fieldLink R_Bd 55 "BrackenGambit$Board" "UP" "[I" ∈ zWs := zmem 488 (by decide +kernel) rfl
theorem fl_Bd_58 : Cond.fieldLink R_Bd 58 "BrackenGambit$Board" "RIGHT" "[I" ∈ zWs := zmem 490 (by decide +kernel) rfl
theorem kl_Gm_48 : Cond.classLink R_Gm 48 "BrackenGambit$Position" ∈ zWs := zmem 493 (by decide +kernel) rfl
theorem ml_Gm_85 : Cond.methodLink R_Gm 85 y_Ps_init ∈ zWs := zmem 495 (by decide +kernel) rfl
theorem ml_Ps_17 : Cond.methodLink R_Ps 17 y_Bd_quarter ∈ zWs := zmem 499 (by decide +kernel) rfl
theorem ml_Ps_36 : Cond.methodLink R_Ps 36 y_Ps_timesBefore ∈ zWs := zmem 503 (by decide +kernel) rfl
theorem ml_Ps_43 : Cond.methodLink R_Ps 43 y_Ps_looksLike ∈ zWs := zmem 507 (by decide +kernel) rfl
theorem fl_Ps_7 : Cond.fieldLink R_Ps 7 "BrackenGambit$Position" "earlier" "LBrackenGambit$Position;" ∈ zWs := zmem 511 (by decide +kernel) rfl
theorem fl_Ps_13 : Cond.fieldLink R_Ps 13 "BrackenGambit$Position" "turn" "I" ∈ zWs := zmem 512 (by decide +kernel) rfl
theorem fl_Ps_23 : Cond.fieldLink R_Ps 23 "BrackenGambit$Position" "quarter0" "J" ∈ zWs := zmem 513 (by decide +kernel) rfl
theorem fl_Ps_27 : Cond.fieldLink R_Ps 27 "BrackenGambit$Position" "quarter1" "J" ∈ zWs := zmem 514 (by decide +kernel) rfl
theorem fl_Ps_30 : Cond.fieldLink R_Ps 30 "BrackenGambit$Position" "quarter2" "J" ∈ zWs := zmem 515 (by decide +kernel) rfl
theorem fl_Ps_33 : Cond.fieldLink R_Ps 33 "BrackenGambit$Position" "quarter3" "J" ∈ zWs := zmem 516 (by decide +kernel) rfl
theorem fl_Ps_40 : Cond.fieldLink R_Ps 40 "BrackenGambit$Position" "times" "I" ∈ zWs := zmem 517 (by decide +kernel) rfl
theorem fl_Gm_47 : Cond.fieldLink R_Gm 47 "BrackenGambit$Position" "times" "I" ∈ zWs := zmem 518 (by decide +kernel) rfl
theorem ml_Lw_132 : Cond.methodLink R_Lw 132 y_Lw_move ∈ zWs := zmem 534 (by decide +kernel) rfl
theorem ml_Lw_30 : Cond.methodLink R_Lw 30 y_Xx_move ∈ zWs := zmem 537 (by decide +kernel) rfl
theorem ml_Xx_80 : Cond.methodLink R_Xx 80 y_Gm_reasonAgainst ∈ zWs := zmem 541 (by decide +kernel) rfl
theorem ml_Gm_88 : Cond.methodLink R_Gm 88 y_Bd_holds ∈ zWs := zmem 545 (by decide +kernel) rfl
theorem ml_Gm_92 : Cond.methodLink R_Gm 92 y_Bd_reachFrom ∈ zWs := zmem 546 (by decide +kernel) rfl
theorem ml_Xx_86 : Cond.methodLink R_Xx 86 y_Gm_makeMove ∈ zWs := zmem 551 (by decide +kernel) rfl
theorem ml_Gm_96 : Cond.methodLink R_Gm 96 y_Pc_learnt ∈ zWs := zmem 555 (by decide +kernel) rfl
theorem ml_Gm_100 : Cond.methodLink R_Gm 100 y_Pc_worthOfSteps ∈ zWs := zmem 558 (by decide +kernel) rfl
theorem ml_Gm_103 : Cond.methodLink R_Gm 103 y_Pc_leads ∈ zWs := zmem 559 (by decide +kernel) rfl
theorem ml_Gm_106 : Cond.methodLink R_Gm 106 y_Bd_carry ∈ zWs := zmem 560 (by decide +kernel) rfl
theorem ml_Bd_21 : Cond.methodLink R_Bd 21 y_Pc_learnt ∈ zWs := zmem 564 (by decide +kernel) rfl
theorem ml_Gm_109 : Cond.methodLink R_Gm 109 y_Gm_timesOfBoard ∈ zWs := zmem 565 (by decide +kernel) rfl
theorem ml_Lw_136 : Cond.methodLink R_Lw 136 y_Lw_play ∈ zWs := zmem 566 (by decide +kernel) rfl
theorem ml_Lw_34 : Cond.methodLink R_Lw 34 y_Xx_play ∈ zWs := zmem 569 (by decide +kernel) rfl
theorem ml_Xx_97 : Cond.methodLink R_Xx 97 y_Tx_movesListed ∈ zWs := zmem 574 (by decide +kernel) rfl
theorem ml_Xx_100 : Cond.methodLink R_Xx 100 y_Tx_firstSquareOf ∈ zWs := zmem 578 (by decide +kernel) rfl
theorem ml_Tx_34 : Cond.methodLink R_Tx 34 y_Tx_squareAt ∈ zWs := zmem 582 (by decide +kernel) rfl
theorem ml_Xx_103 : Cond.methodLink R_Xx 103 y_Tx_secondSquareOf ∈ zWs := zmem 586 (by decide +kernel) rfl
theorem ml_Lw_139 : Cond.methodLink R_Lw 139 y_Lw_whyNot ∈ zWs := zmem 590 (by decide +kernel) rfl
theorem ml_Lw_37 : Cond.methodLink R_Lw 37 y_Xx_whyNot ∈ zWs := zmem 593 (by decide +kernel) rfl
theorem ml_Lw_142 : Cond.methodLink R_Lw 142 y_Lw_append ∈ zWs := zmem 597 (by decide +kernel) rfl
theorem ml_Lw_40 : Cond.methodLink R_Lw 40 y_Xx_append ∈ zWs := zmem 600 (by decide +kernel) rfl
theorem ml_Xx_106 : Cond.methodLink R_Xx 106 y_Tx_isFull ∈ zWs := zmem 604 (by decide +kernel) rfl
theorem ml_Xx_111 : Cond.methodLink R_Xx 111 y_Tx_add ∈ zWs := zmem 609 (by decide +kernel) rfl
theorem ml_Lw_155 : Cond.methodLink R_Lw 155 y_Lw_firstError ∈ zWs := zmem 613 (by decide +kernel) rfl
theorem ml_Lw_44 : Cond.methodLink R_Lw 44 y_Xx_firstError ∈ zWs := zmem 616 (by decide +kernel) rfl
theorem ml_Xx_120 : Cond.methodLink R_Xx 120 y_Tx_firstMisfit ∈ zWs := zmem 621 (by decide +kernel) rfl
theorem ml_Lw_158 : Cond.methodLink R_Lw 158 y_Lw_undo ∈ zWs := zmem 622 (by decide +kernel) rfl
theorem ml_Lw_47 : Cond.methodLink R_Lw 47 y_Xx_undo ∈ zWs := zmem 625 (by decide +kernel) rfl
theorem ml_Xx_129 : Cond.methodLink R_Xx 129 y_Hs_restore ∈ zWs := zmem 630 (by decide +kernel) rfl
theorem ml_Lw_161 : Cond.methodLink R_Lw 161 y_Lw_pieces ∈ zWs := zmem 634 (by decide +kernel) rfl
theorem ml_Lw_50 : Cond.methodLink R_Lw 50 y_Xx_pieces ∈ zWs := zmem 637 (by decide +kernel) rfl
theorem ml_Lw_164 : Cond.methodLink R_Lw 164 y_Lw_sideAt ∈ zWs := zmem 641 (by decide +kernel) rfl
theorem kl_Lw_56 : Cond.classLink R_Lw 56 "java/util/NoSuchElementException" ∈ zWs := zmem 644 (by decide +kernel) rfl
theorem ml_Lw_53 : Cond.methodLink R_Lw 53 y_Xx_sideAt ∈ zWs := zmem 645 (by decide +kernel) rfl
theorem ml_Xx_138 : Cond.methodLink R_Xx 138 y_Xx_neededPiece ∈ zWs := zmem 649 (by decide +kernel) rfl
theorem kl_Xx_155 : Cond.classLink R_Xx 155 "java/util/NoSuchElementException" ∈ zWs := zmem 653 (by decide +kernel) rfl
theorem ml_Xx_244 : Cond.methodLink R_Xx 244 y_Bd_pieceOn ∈ zWs := zmem 669 (by decide +kernel) rfl
theorem ml_Xx_141 : Cond.methodLink R_Xx 141 y_Pc_sideOf ∈ zWs := zmem 670 (by decide +kernel) rfl
theorem ml_Lw_167 : Cond.methodLink R_Lw 167 y_Lw_stepsAt ∈ zWs := zmem 671 (by decide +kernel) rfl
theorem ml_Lw_58 : Cond.methodLink R_Lw 58 y_Xx_stepsAt ∈ zWs := zmem 674 (by decide +kernel) rfl
theorem ml_Xx_146 : Cond.methodLink R_Xx 146 y_Pc_stepsOf ∈ zWs := zmem 678 (by decide +kernel) rfl
theorem ml_Lw_170 : Cond.methodLink R_Lw 170 y_Lw_worthAt ∈ zWs := zmem 679 (by decide +kernel) rfl
theorem ml_Lw_61 : Cond.methodLink R_Lw 61 y_Xx_worthAt ∈ zWs := zmem 682 (by decide +kernel) rfl
theorem ml_Xx_149 : Cond.methodLink R_Xx 149 y_Pc_worthOf ∈ zWs := zmem 686 (by decide +kernel) rfl
theorem ml_Lw_173 : Cond.methodLink R_Lw 173 y_Lw_leaderOf ∈ zWs := zmem 687 (by decide +kernel) rfl
theorem ml_Lw_64 : Cond.methodLink R_Lw 64 y_Xx_leaderOf ∈ zWs := zmem 690 (by decide +kernel) rfl
theorem ml_Xx_152 : Cond.methodLink R_Xx 152 y_Bd_leaderSquare ∈ zWs := zmem 694 (by decide +kernel) rfl
theorem ml_Lw_176 : Cond.methodLink R_Lw 176 y_Lw_knowing ∈ zWs := zmem 696 (by decide +kernel) rfl
theorem ml_Lw_67 : Cond.methodLink R_Lw 67 y_Xx_knowing ∈ zWs := zmem 699 (by decide +kernel) rfl
theorem ml_Xx_160 : Cond.methodLink R_Xx 160 y_Xx_needKind ∈ zWs := zmem 703 (by decide +kernel) rfl
theorem ml_Xx_163 : Cond.methodLink R_Xx 163 y_Bd_knowers ∈ zWs := zmem 707 (by decide +kernel) rfl
theorem ml_Xx_167 : Cond.methodLink R_Xx 167 y_Jl_bitCount ∈ zWs := zmem 711 (by decide +kernel) rfl
theorem ml_Lw_179 : Cond.methodLink R_Lw 179 y_Lw_reach ∈ zWs := zmem 712 (by decide +kernel) rfl
theorem ml_Lw_70 : Cond.methodLink R_Lw 70 y_Xx_reach ∈ zWs := zmem 715 (by decide +kernel) rfl
theorem ml_Xx_173 : Cond.methodLink R_Xx 173 y_Bd_reachFrom ∈ zWs := zmem 719 (by decide +kernel) rfl
theorem ml_Lw_182 : Cond.methodLink R_Lw 182 y_Lw_moveCount ∈ zWs := zmem 720 (by decide +kernel) rfl
theorem ml_Lw_74 : Cond.methodLink R_Lw 74 y_Xx_moveCount ∈ zWs := zmem 723 (by decide +kernel) rfl
theorem ml_Xx_177 : Cond.methodLink R_Xx 177 y_Bd_movesOf ∈ zWs := zmem 727 (by decide +kernel) rfl
theorem ml_Lw_185 : Cond.methodLink R_Lw 185 y_Lw_guards ∈ zWs := zmem 728 (by decide +kernel) rfl
theorem ml_Lw_77 : Cond.methodLink R_Lw 77 y_Xx_guards ∈ zWs := zmem 731 (by decide +kernel) rfl
theorem ml_Xx_180 : Cond.methodLink R_Xx 180 y_Bd_countGuardsAlong ∈ zWs := zmem 735 (by decide +kernel) rfl
theorem ml_Lw_188 : Cond.methodLink R_Lw 188 y_Lw_guardsByLooking ∈ zWs := zmem 739 (by decide +kernel) rfl
theorem ml_Lw_80 : Cond.methodLink R_Lw 80 y_Xx_guardsByLooking ∈ zWs := zmem 742 (by decide +kernel) rfl
theorem ml_Xx_183 : Cond.methodLink R_Xx 183 y_Bd_guardsSeenFrom ∈ zWs := zmem 746 (by decide +kernel) rfl
theorem ml_Bd_83 : Cond.methodLink R_Bd 83 y_Bd_knowers ∈ zWs := zmem 750 (by decide +kernel) rfl
theorem ml_Lw_191 : Cond.methodLink R_Lw 191 y_Lw_guarded ∈ zWs := zmem 751 (by decide +kernel) rfl
theorem ml_Lw_83 : Cond.methodLink R_Lw 83 y_Xx_guarded ∈ zWs := zmem 754 (by decide +kernel) rfl
theorem ml_Xx_186 : Cond.methodLink R_Xx 186 y_Bd_guardedBy ∈ zWs := zmem 758 (by decide +kernel) rfl
theorem ml_Lw_194 : Cond.methodLink R_Lw 194 y_Lw_exchange ∈ zWs := zmem 762 (by decide +kernel) rfl
theorem ml_Lw_86 : Cond.methodLink R_Lw 86 y_Xx_exchange ∈ zWs := zmem 765 (by decide +kernel) rfl
theorem ml_Xx_189 : Cond.methodLink R_Xx 189 y_Xx_exchangeTried ∈ zWs := zmem 769 (by decide +kernel) rfl
theorem ml_Xx_247 : Cond.methodLink R_Xx 247 y_Bd_copy ∈ zWs := zmem 773 (by decide +kernel) rfl
theorem ml_Xx_251 : Cond.methodLink R_Xx 251 y_Xx_exchangeOn ∈ zWs := zmem 774 (by decide +kernel) rfl
theorem ml_Xx_255 : Cond.methodLink R_Xx 255 y_Bd_cheapestOn ∈ zWs := zmem 777 (by decide +kernel) rfl
theorem ml_Bd_52 : Cond.methodLink R_Bd 52 y_Pc_worthOf ∈ zWs := zmem 781 (by decide +kernel) rfl
theorem ml_Xx_258 : Cond.methodLink R_Xx 258 y_Bd_carry ∈ zWs := zmem 782 (by decide +kernel) rfl
theorem ml_Xx_261 : Cond.methodLink R_Xx 261 y_Jm_max ∈ zWs := zmem 783 (by decide +kernel) rfl
theorem ml_Lw_197 : Cond.methodLink R_Lw 197 y_Lw_weakest ∈ zWs := zmem 786 (by decide +kernel) rfl
theorem ml_Lw_89 : Cond.methodLink R_Lw 89 y_Xx_weakest ∈ zWs := zmem 789 (by decide +kernel) rfl
theorem ml_Xx_192 : Cond.methodLink R_Xx 192 y_Bd_holds ∈ zWs := zmem 793 (by decide +kernel) rfl
theorem ml_Lw_208 : Cond.methodLink R_Lw 208 y_Lw_winner ∈ zWs := zmem 795 (by decide +kernel) rfl
theorem ml_Lw_92 : Cond.methodLink R_Lw 92 y_Xx_winner ∈ zWs := zmem 798 (by decide +kernel) rfl
theorem ml_Lw_219 : Cond.methodLink R_Lw 219 y_Lw_worth ∈ zWs := zmem 803 (by decide +kernel) rfl
theorem ml_Lw_95 : Cond.methodLink R_Lw 95 y_Xx_worth ∈ zWs := zmem 806 (by decide +kernel) rfl
theorem ml_Xx_216 : Cond.methodLink R_Xx 216 y_Bd_worthOfSide ∈ zWs := zmem 810 (by decide +kernel) rfl
theorem ml_Lw_222 : Cond.methodLink R_Lw 222 y_Lw_worthByAccount ∈ zWs := zmem 814 (by decide +kernel) rfl
theorem ml_Lw_98 : Cond.methodLink R_Lw 98 y_Xx_worthByAccount ∈ zWs := zmem 817 (by decide +kernel) rfl
theorem ml_Lw_225 : Cond.methodLink R_Lw 225 y_Lw_captured ∈ zWs := zmem 821 (by decide +kernel) rfl
theorem ml_Lw_101 : Cond.methodLink R_Lw 101 y_Xx_captured ∈ zWs := zmem 824 (by decide +kernel) rfl
theorem ml_Lw_228 : Cond.methodLink R_Lw 228 y_Lw_worthShare ∈ zWs := zmem 828 (by decide +kernel) rfl
theorem ml_Lw_104 : Cond.methodLink R_Lw 104 y_Xx_worthShare ∈ zWs := zmem 831 (by decide +kernel) rfl
theorem kl_Lw_109 : Cond.classLink R_Lw 109 "BrackenGambitModel" ∈ zWs := zmem 835 (by decide +kernel) rfl
theorem ml_Lw_111 : Cond.methodLink R_Lw 111 y_Mm_init ∈ zWs := zmem 837 (by decide +kernel) rfl
theorem fl_Mm_7 : Cond.fieldLink R_Mm 7 "BrackenGambitModel" "z" "[I" ∈ zWs := zmem 841 (by decide +kernel) rfl
theorem fl_Mm_13 : Cond.fieldLink R_Mm 13 "BrackenGambitModel" "past" "[I" ∈ zWs := zmem 842 (by decide +kernel) rfl
theorem fl_Mm_37 : Cond.fieldLink R_Mm 37 "BrackenGambitModel" "pastMany" "I" ∈ zWs := zmem 843 (by decide +kernel) rfl
theorem fl_Mm_16 : Cond.fieldLink R_Mm 16 "BrackenGambitModel" "moves" "[I" ∈ zWs := zmem 844 (by decide +kernel) rfl
theorem fl_Mm_19 : Cond.fieldLink R_Mm 19 "BrackenGambitModel" "scratch" "[I" ∈ zWs := zmem 845 (by decide +kernel) rfl
theorem fl_Mm_22 : Cond.fieldLink R_Mm 22 "BrackenGambitModel" "gains" "[I" ∈ zWs := zmem 846 (by decide +kernel) rfl
theorem fl_Mm_25 : Cond.fieldLink R_Mm 25 "BrackenGambitModel" "buffer" "[C" ∈ zWs := zmem 847 (by decide +kernel) rfl
theorem fl_Mm_127 : Cond.fieldLink R_Mm 127 "BrackenGambitModel" "typed" "I" ∈ zWs := zmem 848 (by decide +kernel) rfl
theorem fl_Mm_29 : Cond.fieldLink R_Mm 29 "BrackenGambitModel" "thrown" "I" ∈ zWs := zmem 849 (by decide +kernel) rfl
theorem ml_Lw_118 : Cond.methodLink R_Lw 118 y_Mm_thrown ∈ zWs := zmem 869 (by decide +kernel) rfl
theorem ml_Lw_160 : Cond.methodLink R_Lw 160 y_Mm_undo ∈ zWs := zmem 873 (by decide +kernel) rfl
theorem ml_Mm_40 : Cond.methodLink R_Mm 40 y_Mm_asks ∈ zWs := zmem 877 (by decide +kernel) rfl
theorem ml_Lw_235 : Cond.methodLink R_Lw 235 y_Mm_historySize ∈ zWs := zmem 881 (by decide +kernel) rfl
theorem ml_Mm_44 : Cond.methodLink R_Mm 44 y_Mm_says ∈ zWs := zmem 885 (by decide +kernel) rfl
theorem ml_Lw_117 : Cond.methodLink R_Lw 117 y_Mm_putPiece ∈ zWs := zmem 889 (by decide +kernel) rfl
theorem ml_Mm_91 : Cond.methodLink R_Mm 91 y_Mm_isSide ∈ zWs := zmem 893 (by decide +kernel) rfl
theorem ml_Mm_33 : Cond.methodLink R_Mm 33 y_Mm_in ∈ zWs := zmem 896 (by decide +kernel) rfl
theorem ml_Mm_94 : Cond.methodLink R_Mm 94 y_Mm_isSquare ∈ zWs := zmem 899 (by decide +kernel) rfl
theorem ml_Mm_97 : Cond.methodLink R_Mm 97 y_Mm_asksThen ∈ zWs := zmem 902 (by decide +kernel) rfl
theorem ml_Mm_101 : Cond.methodLink R_Mm 101 y_Mm_canPut ∈ zWs := zmem 906 (by decide +kernel) rfl
theorem ml_Mm_82 : Cond.methodLink R_Mm 82 y_Mm_count ∈ zWs := zmem 910 (by decide +kernel) rfl
theorem ml_Mm_58 : Cond.methodLink R_Mm 58 y_Mm_sideOf ∈ zWs := zmem 914 (by decide +kernel) rfl
theorem ml_Mm_104 : Cond.methodLink R_Mm 104 y_Mm_puts ∈ zWs := zmem 917 (by decide +kernel) rfl
theorem ml_Mm_85 : Cond.methodLink R_Mm 85 y_Mm_record ∈ zWs := zmem 921 (by decide +kernel) rfl
theorem ml_Mm_88 : Cond.methodLink R_Mm 88 y_Mm_worthOf ∈ zWs := zmem 925 (by decide +kernel) rfl
theorem ml_Mm_48 : Cond.methodLink R_Mm 48 y_Mm_stepsOf ∈ zWs := zmem 928 (by decide +kernel) rfl
theorem ml_Mm_51 : Cond.methodLink R_Mm 51 y_Mm_stepsWorth ∈ zWs := zmem 931 (by decide +kernel) rfl
theorem ml_Mm_54 : Cond.methodLink R_Mm 54 y_Mm_leads ∈ zWs := zmem 934 (by decide +kernel) rfl
theorem ml_Lw_123 : Cond.methodLink R_Lw 123 y_Mm_putLeader ∈ zWs := zmem 937 (by decide +kernel) rfl
theorem ml_Mm_108 : Cond.methodLink R_Mm 108 y_Mm_leader ∈ zWs := zmem 941 (by decide +kernel) rfl
theorem ml_Lw_127 : Cond.methodLink R_Lw 127 y_Mm_takeAway ∈ zWs := zmem 945 (by decide +kernel) rfl
theorem ml_Lw_131 : Cond.methodLink R_Lw 131 y_Mm_start ∈ zWs := zmem 949 (by decide +kernel) rfl
theorem ml_Mm_111 : Cond.methodLink R_Mm 111 y_Mm_movesOf ∈ zWs := zmem 953 (by decide +kernel) rfl
theorem ml_Mm_78 : Cond.methodLink R_Mm 78 y_Mm_canMove ∈ zWs := zmem 957 (by decide +kernel) rfl
theorem ml_Mm_75 : Cond.methodLink R_Mm 75 y_Mm_goes ∈ zWs := zmem 961 (by decide +kernel) rfl
theorem ml_Mm_71 : Cond.methodLink R_Mm 71 y_Mm_leadsBy ∈ zWs := zmem 965 (by decide +kernel) rfl
theorem ml_Mm_64 : Cond.methodLink R_Mm 64 y_Mm_size ∈ zWs := zmem 969 (by decide +kernel) rfl
theorem ml_Mm_67 : Cond.methodLink R_Mm 67 y_Mm_isClear ∈ zWs := zmem 972 (by decide +kernel) rfl
theorem ml_Mm_61 : Cond.methodLink R_Mm 61 y_Mm_sign ∈ zWs := zmem 976 (by decide +kernel) rfl
theorem ml_Lw_135 : Cond.methodLink R_Lw 135 y_Mm_move ∈ zWs := zmem 979 (by decide +kernel) rfl
theorem ml_Mm_122 : Cond.methodLink R_Mm 122 y_Mm_why ∈ zWs := zmem 983 (by decide +kernel) rfl
theorem ml_Mm_125 : Cond.methodLink R_Mm 125 y_Mm_moves ∈ zWs := zmem 987 (by decide +kernel) rfl
theorem ml_Mm_114 : Cond.methodLink R_Mm 114 y_Mm_learns ∈ zWs := zmem 991 (by decide +kernel) rfl
theorem ml_Mm_118 : Cond.methodLink R_Mm 118 y_Mm_times ∈ zWs := zmem 994 (by decide +kernel) rfl
theorem ml_Lw_141 : Cond.methodLink R_Lw 141 y_Mm_whyNot ∈ zWs := zmem 998 (by decide +kernel) rfl
theorem ml_Lw_145 : Cond.methodLink R_Lw 145 y_Mm_append ∈ zWs := zmem 1002 (by decide +kernel) rfl
theorem ml_Lw_149 : Cond.methodLink R_Lw 149 y_Mm_clearText ∈ zWs := zmem 1006 (by decide +kernel) rfl
theorem ml_Lw_154 : Cond.methodLink R_Lw 154 y_Mm_isValid ∈ zWs := zmem 1010 (by decide +kernel) rfl
theorem ml_Mm_130 : Cond.methodLink R_Mm 130 y_Mm_fault ∈ zWs := zmem 1014 (by decide +kernel) rfl
theorem ml_Lw_157 : Cond.methodLink R_Lw 157 y_Mm_firstError ∈ zWs := zmem 1018 (by decide +kernel) rfl
theorem ml_Lw_138 : Cond.methodLink R_Lw 138 y_Mm_play ∈ zWs := zmem 1022 (by decide +kernel) rfl
theorem ml_Mm_133 : Cond.methodLink R_Mm 133 y_Mm_written ∈ zWs := zmem 1026 (by decide +kernel) rfl
theorem ml_Lw_163 : Cond.methodLink R_Lw 163 y_Mm_pieces ∈ zWs := zmem 1030 (by decide +kernel) rfl
theorem ml_Lw_166 : Cond.methodLink R_Lw 166 y_Mm_sideAt ∈ zWs := zmem 1034 (by decide +kernel) rfl
theorem ml_Mm_136 : Cond.methodLink R_Mm 136 y_Mm_asksPiece ∈ zWs := zmem 1038 (by decide +kernel) rfl
theorem ml_Lw_169 : Cond.methodLink R_Lw 169 y_Mm_stepsAt ∈ zWs := zmem 1042 (by decide +kernel) rfl
theorem ml_Lw_172 : Cond.methodLink R_Lw 172 y_Mm_worthAt ∈ zWs := zmem 1046 (by decide +kernel) rfl
theorem ml_Lw_175 : Cond.methodLink R_Lw 175 y_Mm_leaderOf ∈ zWs := zmem 1050 (by decide +kernel) rfl
theorem ml_Lw_178 : Cond.methodLink R_Lw 178 y_Mm_knowing ∈ zWs := zmem 1054 (by decide +kernel) rfl
theorem ml_Lw_181 : Cond.methodLink R_Lw 181 y_Mm_reach ∈ zWs := zmem 1058 (by decide +kernel) rfl
theorem ml_Mm_139 : Cond.methodLink R_Mm 139 y_Mm_reached ∈ zWs := zmem 1062 (by decide +kernel) rfl
theorem ml_Lw_184 : Cond.methodLink R_Lw 184 y_Mm_moveCount ∈ zWs := zmem 1066 (by decide +kernel) rfl
theorem ml_Lw_187 : Cond.methodLink R_Lw 187 y_Mm_guards ∈ zWs := zmem 1070 (by decide +kernel) rfl
theorem ml_Mm_143 : Cond.methodLink R_Mm 143 y_Mm_guarding ∈ zWs := zmem 1074 (by decide +kernel) rfl
theorem ml_Lw_190 : Cond.methodLink R_Lw 190 y_Mm_guardsByLooking ∈ zWs := zmem 1078 (by decide +kernel) rfl
theorem ml_Lw_193 : Cond.methodLink R_Lw 193 y_Mm_guarded ∈ zWs := zmem 1082 (by decide +kernel) rfl
theorem ml_Lw_196 : Cond.methodLink R_Lw 196 y_Mm_exchange ∈ zWs := zmem 1086 (by decide +kernel) rfl
theorem ml_Mm_149 : Cond.methodLink R_Mm 149 y_Mm_exchanged ∈ zWs := zmem 1090 (by decide +kernel) rfl
theorem ml_Mm_146 : Cond.methodLink R_Mm 146 y_Mm_capturer ∈ zWs := zmem 1094 (by decide +kernel) rfl
theorem ml_Lw_199 : Cond.methodLink R_Lw 199 y_Mm_weakest ∈ zWs := zmem 1098 (by decide +kernel) rfl
theorem ml_Mm_152 : Cond.methodLink R_Mm 152 y_Mm_weak ∈ zWs := zmem 1102 (by decide +kernel) rfl
theorem ml_Lw_203 : Cond.methodLink R_Lw 203 y_Mm_toMove ∈ zWs := zmem 1106 (by decide +kernel) rfl
theorem ml_Lw_207 : Cond.methodLink R_Lw 207 y_Mm_isOver ∈ zWs := zmem 1110 (by decide +kernel) rfl
theorem ml_Lw_210 : Cond.methodLink R_Lw 210 y_Mm_winner ∈ zWs := zmem 1114 (by decide +kernel) rfl
theorem ml_Lw_214 : Cond.methodLink R_Lw 214 y_Mm_repetitions ∈ zWs := zmem 1118 (by decide +kernel) rfl
theorem ml_Lw_218 : Cond.methodLink R_Lw 218 y_Mm_movesMade ∈ zWs := zmem 1122 (by decide +kernel) rfl
theorem ml_Lw_221 : Cond.methodLink R_Lw 221 y_Mm_worth ∈ zWs := zmem 1126 (by decide +kernel) rfl
theorem ml_Mm_155 : Cond.methodLink R_Mm 155 y_Mm_all ∈ zWs := zmem 1130 (by decide +kernel) rfl
theorem ml_Lw_224 : Cond.methodLink R_Lw 224 y_Mm_worthByAccount ∈ zWs := zmem 1134 (by decide +kernel) rfl
theorem ml_Lw_227 : Cond.methodLink R_Lw 227 y_Mm_captured ∈ zWs := zmem 1138 (by decide +kernel) rfl
theorem ml_Lw_231 : Cond.methodLink R_Lw 231 y_Mm_worthShare ∈ zWs := zmem 1142 (by decide +kernel) rfl
end
section
/-! ===== the abstract machine with a heap: the heap is a function from addresses to cells (kind, length, contents); the facts of the law's start are E ===== -/
abbrev zE : Type := State × (Nat → ClassId) × (Nat → Nat → Nat) × (Nat → ClassId)
/-- a cell: its kind (0..6 an object of the class of that place, 10..14 an array of ours, 15 an array of ints that is only read), its length, what it holds -/
abbrev aC : Type := Nat × Nat × (Nat → Value)
abbrev aH : Type := Nat → Option aC
abbrev zO : Type := (Option Value ⊕ String) → aH → Nat → Prop
abbrev zG : Type := Program × Launch × Env × Room × State × MethodId × Array Value × List Frame × Method × Code × (State → Prop)
def zty : Nat → FieldType
  | 11 => .long
  | 12 => .double
  | 13 => .char
  | 14 => .object R_Gm
  | _ => .int
def zB (E : zE) : Nat := E.1.heap.size
def zA (E : zE) : Nat → Prop := fun q => zB E ≤ q
def hset (h : aH) (a : Nat) (c : aC) : aH := fun b => if b = a then some c else h b
theorem hset_s {h : aH} {a : Nat} {c : aC} : hset h a c a = some c := by simp [hset]
theorem hset_n {h : aH} {a b : Nat} {c : aC} (hn : b ≠ a) : hset h a c b = h b := by simp [hset, hn]
def zC (E : zE) (a : Nat) (c : aC) (H : Heap) : Prop :=
  (c.1 < 7 ∧ ∃ r : vw_C, zCl[c.1]? = some r ∧ t_OB a (E.2.1 c.1) r.2.2 (E.2.2.1 c.1) H c.2.2) ∨
  (10 ≤ c.1 ∧ c.1 < 15 ∧ H[a]? = some (arrV (E.2.2.2 c.1) c.2.1 c.2.2)) ∨
  (c.1 = 15 ∧ va_T .int a c.2.1 c.2.2 (zA E) E.1 H)
theorem zC.kept {E : zE} {a : Nat} {c : aC} {H H1 : Heap} (h : zC E a c H) (h1 : H1[a]? = H[a]?) : zC E a c H1 := by
  rcases h with ⟨q, r, h2, h3⟩ | ⟨q1, q2, q3⟩ | ⟨q1, cell, q2, q3⟩
  · exact Or.inl ⟨q, r, h2, h3.kept h1⟩
  · exact Or.inr (Or.inl ⟨q1, q2, h1.trans q3⟩)
  · exact Or.inr (Or.inr ⟨q1, cell, h1.trans q2, q3⟩)
theorem zC.lt {E : zE} {a : Nat} {c : aC} {H : Heap} (h : zC E a c H) : a < H.size := by
  rcases h with ⟨q, r, h2, cell, h3, -⟩ | ⟨q1, q2, q3⟩ | ⟨q1, cell, q2, q3⟩
  · exact (Array.getElem?_eq_some_iff.mp h3).1
  · exact (Array.getElem?_eq_some_iff.mp q3).1
  · exact (Array.getElem?_eq_some_iff.mp q2).1
def zH (E : zE) (h : aH) (sz : Nat) (H : Heap) : Prop :=
  zB E ≤ sz ∧ sz ≤ H.size ∧ (∀ q : Nat, q < zB E → H[q]? = E.1.heap[q]?) ∧ ∀ (a : Nat) (c : aC), h a = some c → a < sz ∧ zC E a c H
theorem zH.set {E : zE} {h : aH} {sz a : Nat} {c : aC} {H H1 : Heap} (hh : zH E h sz H) (z : H1.size = H.size) (oq : ∀ q : Nat, q ≠ a → H1[q]? = H[q]?) (hb : zB E ≤ a) (hlt : a < sz) (hc : zC E a c H1) : zH E (hset h a c) sz H1 := by
  obtain ⟨h1, h2, h3, h4⟩ := hh
  refine ⟨h1, by rw [z]; exact h2, fun q hq => ?_, fun b d hd => ?_⟩
  · rw [oq q (by omega)]
    exact h3 q hq
  · by_cases e : b = a
    · subst e
      rw [hset_s] at hd
      cases hd
      exact ⟨hlt, hc⟩
    · rw [hset_n e] at hd
      exact ⟨(h4 b d hd).1, (h4 b d hd).2.kept (oq b e)⟩
theorem zH.push {E : zE} {h : aH} {sz : Nat} {c : aC} {H H1 : Heap} (hh : zH E h sz H) (z : H1.size = H.size + 1) (oq : ∀ q : Nat, q < H.size → H1[q]? = H[q]?) (hc : zC E H.size c H1) : zH E (hset h H.size c) (H.size + 1) H1 := by
  obtain ⟨h1, h2, h3, h4⟩ := hh
  refine ⟨by omega, by omega, fun q hq => ?_, fun b d hd => ?_⟩
  · rw [oq q (by omega)]
    exact h3 q hq
  · by_cases e : b = H.size
    · subst e
      rw [hset_s] at hd
      cases hd
      exact ⟨by omega, hc⟩
    · rw [hset_n e] at hd
      obtain ⟨g1, g2⟩ := h4 b d hd
      exact ⟨by omega, g2.kept (oq b (by omega))⟩
/-- pairs of classes of which one isn't castable to the other -/
def zNc : List (String × String) := [("BrackenGambit", "java/lang/IndexOutOfBoundsException"), ("BrackenGambit$Game", "java/lang/IndexOutOfBoundsException"), ("BrackenGambit$Board", "java/lang/IndexOutOfBoundsException"), ("BrackenGambit$History", "java/lang/IndexOutOfBoundsException"), ("BrackenGambit$MoveText", "java/lang/IndexOutOfBoundsException"), ("BrackenGambitModel", "java/lang/IndexOutOfBoundsException"), ("java/lang/IllegalArgumentException", "java/lang/IndexOutOfBoundsException"), ("java/lang/IllegalStateException", "java/lang/IndexOutOfBoundsException"), ("BrackenGambit$Position", "java/lang/IndexOutOfBoundsException"), ("java/util/NoSuchElementException", "java/lang/IndexOutOfBoundsException"), ("BrackenGambit", "java/lang/IllegalArgumentException"), ("BrackenGambit$Game", "java/lang/IllegalArgumentException"), ("BrackenGambit$Board", "java/lang/IllegalArgumentException"), ("BrackenGambit$History", "java/lang/IllegalArgumentException"), ("BrackenGambit$MoveText", "java/lang/IllegalArgumentException"), ("BrackenGambitModel", "java/lang/IllegalArgumentException"), ("java/lang/IndexOutOfBoundsException", "java/lang/IllegalArgumentException"), ("java/lang/IllegalStateException", "java/lang/IllegalArgumentException"), ("BrackenGambit$Position", "java/lang/IllegalArgumentException"), ("java/util/NoSuchElementException", "java/lang/IllegalArgumentException"), ("BrackenGambit", "java/lang/IllegalStateException"), ("BrackenGambit$Game", "java/lang/IllegalStateException"), ("BrackenGambit$Board", "java/lang/IllegalStateException"), ("BrackenGambit$History", "java/lang/IllegalStateException"), ("BrackenGambit$MoveText", "java/lang/IllegalStateException"), ("BrackenGambitModel", "java/lang/IllegalStateException"), ("java/lang/IndexOutOfBoundsException", "java/lang/IllegalStateException"), ("java/lang/IllegalArgumentException", "java/lang/IllegalStateException"), ("BrackenGambit$Position", "java/lang/IllegalStateException"), ("java/util/NoSuchElementException", "java/lang/IllegalStateException"), ("BrackenGambit", "java/util/NoSuchElementException"), ("BrackenGambit$Game", "java/util/NoSuchElementException"), ("BrackenGambit$Board", "java/util/NoSuchElementException"), ("BrackenGambit$History", "java/util/NoSuchElementException"), ("BrackenGambit$MoveText", "java/util/NoSuchElementException"), ("BrackenGambitModel", "java/util/NoSuchElementException"), ("java/lang/IndexOutOfBoundsException", "java/util/NoSuchElementException"), ("java/lang/IllegalArgumentException", "java/util/NoSuchElementException"), ("java/lang/IllegalStateException", "java/util/NoSuchElementException"), ("BrackenGambit$Position", "java/util/NoSuchElementException")]
/-- words that go from the law's start to every call's -/
def zgw : Cond → Bool
  | .castable .. => true
  | .declares .. => true
  | .methodLinkNest .. => true
  | w => goodWord w
theorem zgw_at {s U : State} {args args' : Array Value} (hW : s.WarmedH U.vm) {w : Cond} (hg : zgw w = true) (h : w.before args s = true) : w.before args' U = true := by
  cases w
  case castable C T => exact va_Nw.use rfl (va_Nw.warmC hW (va_Nw.of rfl h))
  case declares x => exact va_Nw.use rfl (va_Nw.warmD hW (va_Nw.of rfl h))
  case methodLinkNest a i x hh => exact va_Nw.use rfl (va_Nw.warmM hW (va_Nw.of rfl h))
  all_goals exact word_at hW (good_of_word hg) h
theorem zgw_good {w : Cond} (h : goodWord w = true) : zgw w = true := by
  cases w <;> first | rfl | exact h
/-- the facts of the law's start -/
def zEv (E : zE) : Prop :=
  (∀ w ∈ lw_tbl, zgw w = true → w.before #[] E.1 = true) ∧ va_K (E.2.1, E.2.2.1) zCl [] E.1 ∧
  (∀ t : Nat, 10 ≤ t → t < 15 → ArrOfT E.1 (E.2.2.2 t) (zty t) ∧ va_RA E.1 (E.2.2.2 t) (zty t)) ∧
  vx_Zq Bundle.tN "UNASSIGNED_STACK" Bundle.steD (zA E) E.1 E.1.heap ∧ vx_Zq Bundle.tN "SUPPRESSED_SENTINEL" Bundle.listD (zA E) E.1 E.1.heap ∧
  (∀ (own : String) (k : Nat) (tx : String), Cond.stringRef own k tx ∈ lw_tbl → ∃ sa : Nat, vk_R own k tx sa E.1) ∧
  (∀ C T : String, (C, T) ∈ zNc → va_Nc C T E.1)
def zCx (E : zE) (G : zG) (cc : ByteArray) (nL : Nat) (own nm : String) (ret : Option FieldType) (R : Room) : Prop :=
  match G with
  | (p, l, e, R', s, m, args, below, meth, c, Q) => zEv E ∧ R' = R ∧ p.tables.exec = Jvm.exec ∧ c.code = cc ∧ c.maxLocals = nL ∧ s.vm.findClass own = some m.cls ∧ E.1.WarmedH s.vm ∧ meth.locks = false ∧ meth.sig.returnType = ret ∧ meth.name = nm ∧ l.stackTraces = false ∧ zB E ≤ s.heap.size ∧ (∀ q : Nat, q < zB E → s.heap[q]? = E.1.heap[q]?)
/-- from the abstract frame f over the abstract heap h, whose cells lie below sz, the machine comes to its end; k cells and n slots are made so far -/
def Z (E : zE) (G : zG) (h : aH) (sz k n : Nat) (f : zF) : Prop :=
  match G with
  | (p, l, e, R, s, m, args, below, meth, c, Q) => ∀ (H : Heap) (locs : List Loc), zH E h sz H → s.heap.size ≤ H.size → (∀ x ∈ locs, zB E ≤ x.base) → zW p l e R s m args below meth c H locs k n Q f
/-- the same, with an exception of the class X thrown there -/
def Zt (E : zE) (G : zG) (h : aH) (sz k n : Nat) (f : zF) (X : String) : Prop :=
  match G with
  | (p, l, e, R, s, m, args, below, meth, c, Q) => ∀ (H : Heap) (locs : List Loc) (q : Nat) (ce : Cell), zH E h sz H → s.heap.size ≤ H.size → (∀ x ∈ locs, zB E ≤ x.base) → H[q]? = some ce → ce.vm = .none → s.vm.findClass X = some ce.cls → ∀ la : Array Slot, zl_has la f.2.1 → vx_W p l e R s m args below meth c H locs k n Q (F0 m f.1 la f.2.2) q
section ZR
variable {E : zE} {G : zG} {cc : ByteArray} {nL : Nat} {own nm : String} {ret : Option FieldType} {R : Room} {h : aH} {sz k n : Nat} {t : List zI} {pc : Nat} {ls : zL} {st rest : List Value}
theorem zmem_at {s : State} {args : Array Value} (hE : zEv E) (hW : E.1.WarmedH s.vm) {w : Cond} (hw : w ∈ zWs) : w.before args s = true := by
  obtain ⟨h1, h2⟩ := List.mem_filter.mp hw
  exact zgw_at hW (zgw_good h2) (hE.1 w h1 (zgw_good h2))
theorem Z_run (C : zCx E G cc nL own nm ret R) (ht : zT cc t) (j : Nat) {f2 : zF} (hr : zrun t j (pc, ls, st) = some f2) (kk : Z E G h sz k n f2) : Z E G h sz k n (pc, ls, st) := by
  obtain ⟨p, l, e, R', s, m, args, below, meth, c, Q⟩ := G
  obtain ⟨hE, rfl, hx, hb, -⟩ := C
  intro H locs h1 h2 h3
  exact zrun_ok hx hb ht j _ _ hr (kk H locs h1 h2 h3)
theorem Z_br (C : zCx E G cc nL own nm ret R) (ht : zT cc t) {ins : Instr} {len tgt : Nat} {imm : Int32} (hl : t.lookup pc = some (ins, len, imm, tgt)) {P : Prop} {r : List Value} (hf : zbr ins st = some (P, r)) (kt : P → Z E G h sz k n (tgt, ls, r)) (kf : ¬ P → Z E G h sz k n (pc + 3, ls, r)) : Z E G h sz k n (pc, ls, st) := by
  obtain ⟨p, l, e, R', s, m, args, below, meth, c, Q⟩ := G
  obtain ⟨hE, rfl, hx, hb, -⟩ := C
  intro H locs h1 h2 h3
  exact zbr_ok hx hb ht hl hf (fun q => kt q H locs h1 h2 h3) (fun q => kf q H locs h1 h2 h3)
theorem Z_widen {k2 n2 : Nat} (h1 : k ≤ k2) (h2 : n ≤ n2) {f : zF} (kk : Z E G h sz k2 n2 f) : Z E G h sz k n f := by
  obtain ⟨p, l, e, R', s, m, args, below, meth, c, Q⟩ := G
  intro H locs g1 g2 g3 la hla
  exact W.widen h1 h2 (kk H locs g1 g2 g3 la hla)
/-- fewer locals are known -/
theorem Z_ls {ls2 : zL} (hlen : ls2.length = ls.length) (hsub : ∀ q ∈ zl_as 0 ls2, q ∈ zl_as 0 ls) (kk : Z E G h sz k n (pc, ls2, st)) : Z E G h sz k n (pc, ls, st) := by
  obtain ⟨p, l, e, R', s, m, args, below, meth, c, Q⟩ := G
  intro H locs g1 g2 g3 la hla
  refine kk H locs g1 g2 g3 la ⟨?_, hla.2.1, fun q hq => hla.2.2 q (hsub q hq)⟩
  show la.size = ls2.length
  rw [hlen]
  exact hla.1
/-- another picture of the same heap -/
theorem Z_heap {h2 : aH} {sz2 : Nat} {f : zF} (hz : sz2 ≤ sz) (hlo : zB E ≤ sz2) (hsub : ∀ (a : Nat) (c : aC), h2 a = some c → h a = some c ∧ a < sz2) (kk : Z E G h2 sz2 k n f) : Z E G h sz k n f := by
  obtain ⟨p, l, e, R', s, m, args, below, meth, c, Q⟩ := G
  intro H locs g1 g2 g3
  obtain ⟨q1, q2, q3, q4⟩ := g1
  exact kk H locs ⟨hlo, by omega, q3, fun a c hc => ⟨(hsub a c hc).2, (q4 a c (hsub a c hc).1).2⟩⟩ g2 g3
theorem zC_obj {s : State} {a ci N : Nat} {fs : Nat → Value} {H : Heap} {Cn : String} {T : u_T} (hE : zEv E) (hW : E.1.WarmedH s.vm) {nn : Nat} (hc : zC E a (ci, nn, fs) H) (hi : zCl[ci]? = some (Cn, T, N)) : t_OB a (E.2.1 ci) N (E.2.2.1 ci) H fs ∧ u_Kn s Cn T N (E.2.1 ci) (E.2.2.1 ci) := by
  have hlt : ci < 7 := (List.getElem?_eq_some_iff.mp hi).1
  refine ⟨?_, (va_K.moved hW.alike hE.2.1).1 ci _ hi⟩
  rcases hc with ⟨q, r, h2, h3⟩ | ⟨q1, q2, q3⟩ | ⟨q1, cell, q2, q3⟩
  · cases h2.symm.trans hi
    exact h3
  · exact absurd q1 (by show ¬ 10 ≤ ci; omega)
  · exact absurd q1 (by show ¬ ci = 15; omega)
theorem zl_link {s : State} {args : Array Value} {own ref nm desc : String} {idx : Nat} (hE : zEv E) (hW : E.1.WarmedH s.vm) (hw : Cond.fieldLink own idx ref nm desc ∈ zWs) : (Cond.fieldLink own idx ref nm desc).before args s = true := zmem_at hE hW hw
theorem Z_getf (C : zCx E G cc nL own nm ret R) (ht : zT cc t) {idx : Nat} {r : Nat × Int32 × Nat} (hl : t.lookup pc = some (.getfield idx, r)) {a ci nn N j : Nat} {fs : Nat → Value} {Cn : String} {T : u_T} (hwi : ∀ w ∈ u_ws Cn T N, w ∈ zWs) (ha : h a = some (ci, nn, fs)) (hci : zCl[ci]? = some (Cn, T, N)) (hj : j < N) (hlink : Cond.fieldLink own idx (T j).1 (T j).2.1 (T j).2.2.1 ∈ zWs) {v : Value} (hv : fs j = v) (kk : Z E G h sz k n (pc + 3, ls, v :: rest)) : Z E G h sz k n (pc, ls, .ref a :: rest) := by
  obtain ⟨p, l, e, R', s, m, args, below, meth, c, Q⟩ := G
  obtain ⟨hE, rfl, hx, hb, hml, hown, hW, -⟩ := C
  intro H locs h1 h2 h3 la hla
  obtain ⟨hd, ho⟩ := zT_at ht hl
  obtain ⟨⟨cell, q1, q2, q3, q4⟩, hS, hfc, kC, hkC, hkind⟩ := zC_obj (s := s) hE hW (h1.2.2.2 a _ ha).2 hci
  obtain ⟨cf, kf, fi, f, hi, hsl⟩ := hS j hj
  have hlen : r.1 = 3 := by have h9 := ho; simp only [zok, beq_iff_eq] at h9; exact h9
  dsimp only at hd
  rw [hlen] at hd
  have hts : ∀ w ∈ zWs, w.before args s = true := fun w hw => zmem_at hE hW hw
  refine W.getf hx hb hown (hts _ hlink) hi (u_facts hfc hkC (u_lays hts hwi hj) hi).1 q1 (by rw [q3]; exact fun h => by cases h) (v := v) ?_ rfl rfl hd (kk H locs h1 h2 h3 la hla)
  rw [hsl, q4 j hj, hv]
theorem zap {s : State} {Cn : String} {T : u_T} {N ci : Nat} (hE : zEv E) (hW : E.1.WarmedH s.vm) (hwi : ∀ w ∈ u_ws Cn T N, w ∈ zWs) (ty : Nat → FieldType) (hty : ∀ k, k < N → parseFieldDescriptor (T k).2.2.1 = some (ty k)) (hnm : ∀ a, a < N → ∀ b, b < N → a ≠ b → (T a).2.1 ≠ (T b).2.1) (hci : zCl[ci]? = some (Cn, T, N)) : ∀ x y, x < N → y < N → x ≠ y → (E.2.2.1 ci) x ≠ (E.2.2.1 ci) y :=
  va_apart (own := Cn) (args := #[]) (D := (E.2.1, E.2.2.1)) (fun w hw => zmem_at hE hW hw) hwi ty hty hnm (va_K.moved hW.alike hE.2.1) hci
theorem Z_putf (C : zCx E G cc nL own nm ret R) (ht : zT cc t) {idx : Nat} {r : Nat × Int32 × Nat} (hl : t.lookup pc = some (.putfield idx, r)) {a ci nn N j : Nat} {fs : Nat → Value} {Cn : String} {T : u_T} (hwi : ∀ w ∈ u_ws Cn T N, w ∈ zWs) (ty : Nat → FieldType) (hty : ∀ k, k < N → parseFieldDescriptor (T k).2.2.1 = some (ty k)) (hnm : ∀ a, a < N → ∀ b, b < N → a ≠ b → (T a).2.1 ≠ (T b).2.1) (ha : h a = some (ci, nn, fs)) (hci : zCl[ci]? = some (Cn, T, N)) (hj : j < N) (hlink : Cond.fieldLink own idx (T j).1 (T j).2.1 (T j).2.2.1 ∈ zWs) (hfin : (T j).2.2.2 = false ∨ ((T j).1 = own ∧ nm = "<init>")) {v : Value} (hn : narrow (ty j) v = v) (hfit : fits (ty j) v = true) (hB : zB E ≤ a) (kk : Z E G (hset h a (ci, nn, updV fs j v)) sz k n (pc + 3, ls, rest)) : Z E G h sz k n (pc, ls, v :: .ref a :: rest) := by
  obtain ⟨p, l, e, R', s, m, args, below, meth, c, Q⟩ := G
  obtain ⟨hE, rfl, hx, hb, hml, hown, hW, hlk, hret, hnme, -⟩ := C
  intro H locs h1 h2 h3 la hla
  obtain ⟨hd, ho⟩ := zT_at ht hl
  obtain ⟨⟨cell, q1, q2, q3, q4⟩, hS, hfc, kC, hkC, hkind⟩ := zC_obj (s := s) hE hW (h1.2.2.2 a _ ha).2 hci
  obtain ⟨cf, kf, fi, f, hi, hsl⟩ := hS j hj
  have hlen : r.1 = 3 := by have h9 := ho; simp only [zok, beq_iff_eq] at h9; exact h9
  dsimp only at hd
  rw [hlen] at hd
  have hts : ∀ w ∈ zWs, w.before args s = true := fun w hw => zmem_at hE hW hw
  have hap := zap (s := s) hE hW hwi ty hty hnm hci
  have hlay := u_lays hts hwi hj
  have h6 := u_fits hfc hkC hkind hlay hi (hty j hj) hn hfit
  have key : ∀ H' : Heap, H'[a]? = some (cell.setSlot f.slot v) → H'.size = H.size → (∀ q, q ≠ a → H'[q]? = H[q]?) → W p l e R' s m args below meth c H' (locs ++ [⟨a, f.slot⟩]) k n Q (F0 m (pc + 3) la rest) := by
    intro H' e1 e2 e3
    rw [hsl] at e1
    refine kk H' _ (h1.set e2 e3 hB (h1.2.2.2 a _ ha).1 (Or.inl ⟨(List.getElem?_eq_some_iff.mp hci).1, _, hci, _, e1, q2, q3, t_set q4 hap hj v⟩)) (by rw [e2]; exact h2) (fun x hx => ?_) la hla
    rcases List.mem_append.mp hx with hx | hx
    · exact h3 x hx
    · rw [List.mem_singleton.mp hx]
      exact hB
  have hslot : f.slot < cell.slots.size := by rw [hsl]; exact k2_hasslot (q4 j hj)
  rcases hfin with hfin | ⟨hf1, hf2⟩
  · have hl2 := hts _ (hwi _ (u_in_lay hj))
    unfold u_lay at hl2
    rw [if_neg (by rw [hfin]; decide)] at hl2
    have h7 := u_store hfc hkC hkind hl2 hi (hty j hj) hn hfit
    exact W.putK hx hb (f := f) ⟨hown, hts _ hlink, ⟨_, _, _, hi⟩, (u_facts hfc hkC hlay hi).1⟩ (by rw [q2]; exact h7) q1 q3 hslot rfl rfl hd key
  · by_cases hfl : (T j).2.2.2 = true
    · have hl2 := hts _ (hwi _ (u_in_lay hj))
      unfold u_lay at hl2
      rw [if_pos hfl] at hl2
      have hcf : m.cls = cf := by
        obtain ⟨_, _, c', _, _, _, -, -, hf', -, -, -, hown2, -⟩ := Cond.laysFinal_spec hl2
        have e1 : c' = cf := by have := hi.symm.trans hf'; simp at this; exact this.1.symm
        rw [hf1] at hown2
        rw [← e1]; exact Option.some.inj (hown.symm.trans hown2)
      exact W.putFinK hx hb hown (hts _ hlink) hi (u_facts hfc hkC hlay hi).1 hcf (hnme.trans hf2) (by rw [q2]; exact h6) q1 q3 hslot rfl rfl hd key
    · have hl2 := hts _ (hwi _ (u_in_lay hj))
      unfold u_lay at hl2
      rw [if_neg hfl] at hl2
      have h7 := u_store hfc hkC hkind hl2 hi (hty j hj) hn hfit
      exact W.putK hx hb (f := f) ⟨hown, hts _ hlink, ⟨_, _, _, hi⟩, (u_facts hfc hkC hlay hi).1⟩ (by rw [q2]; exact h7) q1 q3 hslot rfl rfl hd key
/-- an array's cell: what a read needs -/
theorem zC_arr {s : State} {a tg nn : Nat} {fs : Nat → Value} {H : Heap} (hE : zEv E) (hW : E.1.WarmedH s.vm) (hc : zC E a (tg, nn, fs) H) (h7 : 7 ≤ tg) : ∃ cell : Cell, H[a]? = some cell ∧ s.isArrayOf cell (zty tg) ∧ cell.vm ≠ .unknown ∧ nn ≤ cell.slots.size ∧ (∀ j : Nat, j < nn → cell.slots[j]? = some (fs j)) := by
  rcases hc with ⟨q, -⟩ | ⟨q1, q2, q3⟩ | ⟨q1, cell, q2, q3, q4, q5, q6, q7, q8⟩
  · exact absurd q (by show ¬ tg < 7; omega)
  · exact ⟨_, q3, State.isArrayOf_alike hW.alike ((hE.2.2.1 tg q1 q2).1 _ _), (fun z => by cases z), by rw [arrV_size]; exact Nat.le_refl _, fun j hj => arrV_read _ _ hj⟩
  · have q9 : tg = 15 := q1
    subst q9
    exact ⟨cell, q2, State.isArrayOf_alike hW.alike q3, q4, q5, q7⟩
def zld (tg : Nat) : Instr := match tg with
  | 11 => .laload
  | 12 => .daload
  | 13 => .caload
  | 14 => .aaload
  | _ => .iaload
def zst (tg : Nat) : Instr := match tg with
  | 11 => .lastore
  | 12 => .dastore
  | 13 => .castore
  | 14 => .aastore
  | _ => .iastore
theorem Z_ald (C : zCx E G cc nL own nm ret R) (ht : zT cc t) {tg : Nat} {r : Nat × Int32 × Nat} (hl : t.lookup pc = some (zld tg, r)) {a nn j : Nat} {i : Int32} {fs : Nat → Value} (ha : h a = some (tg, nn, fs)) (h7 : 10 ≤ tg ∧ tg < 16) (hi : i = nI j) (hj : j < nn) (hnn : nn < 2 ^ 31) {v : Value} (hv : fs j = v) (kk : Z E G h sz k n (pc + 1, ls, v :: rest)) : Z E G h sz k n (pc, ls, .int i :: .ref a :: rest) := by
  obtain ⟨p, l, e, R', s, m, args, below, meth, c, Q⟩ := G
  obtain ⟨hE, rfl, hx, hb, hml, hown, hW, -⟩ := C
  intro H locs h1 h2 h3 la hla
  obtain ⟨hd, ho⟩ := zT_at ht hl
  obtain ⟨cell, q1, q2, q3, q4, q5⟩ := zC_arr (s := s) hE hW (h1.2.2.2 a _ ha).2 (by omega)
  have hcl : i.toNatClampNeg = j := by rw [hi]; exact nI_clamp (by omega)
  have hin : ¬ (i < 0 ∨ cell.slots.size ≤ i.toNatClampNeg) := by
    rw [hcl, hi]
    rintro (g | g)
    · exact nI_pos (by omega) g
    · omega
  have hval : cell.slots[i.toNatClampNeg]? = some v := by rw [hcl, q5 j hj, hv]
  have K := kk H locs h1 h2 h3 la hla
  have hlen : r.1 = 1 := by
    obtain ⟨g1, g2⟩ := h7
    rcases (show tg = 10 ∨ tg = 11 ∨ tg = 12 ∨ tg = 13 ∨ tg = 14 ∨ tg = 15 by omega) with rfl | rfl | rfl | rfl | rfl | rfl <;> (have h9 := ho; simp only [zok, zld, beq_iff_eq] at h9; exact h9)
  dsimp only at hd
  rw [hlen] at hd
  obtain ⟨g1, g2⟩ := h7
  rcases (show tg = 10 ∨ tg = 11 ∨ tg = 12 ∨ tg = 13 ∨ tg = 14 ∨ tg = 15 by omega) with rfl | rfl | rfl | rfl | rfl | rfl
  · exact W.iald hx hb q1 q2 q3 hin hval rfl rfl hd K
  · exact W.lald hx hb q1 q2 q3 hin hval rfl rfl hd K
  · exact W.dald hx hb q1 q2 q3 hin hval rfl rfl hd K
  · exact W.cald hx hb q1 q2 q3 hin hval rfl rfl hd K
  · exact W.aald (ty := .object R_Gm) hx hb q1 q2 rfl q3 hin hval rfl rfl hd K
  · exact W.iald hx hb q1 q2 q3 hin hval rfl rfl hd K
/-- what may be stored: a number of the array's kind -/
def zfit (tg : Nat) (v : Value) : Prop := match tg, v with
  | 10, .int _ => True
  | 11, .long _ => True
  | 12, .double _ => True
  | 13, .int x => narrow .char (.int x) = .int x
  | _, _ => False
theorem Z_ast (C : zCx E G cc nL own nm ret R) (ht : zT cc t) {tg : Nat} {r : Nat × Int32 × Nat} (hl : t.lookup pc = some (zst tg, r)) {a nn j : Nat} {i : Int32} {fs : Nat → Value} (ha : h a = some (tg, nn, fs)) (hi : i = nI j) (hj : j < nn) (hnn : nn < 2 ^ 31) {v : Value} (hv : zfit tg v) (hB : zB E ≤ a) (kk : Z E G (hset h a (tg, nn, updV fs j v)) sz k n (pc + 1, ls, rest)) : Z E G h sz k n (pc, ls, v :: .int i :: .ref a :: rest) := by
  obtain ⟨p, l, e, R', s, m, args, below, meth, c, Q⟩ := G
  obtain ⟨hE, rfl, hx, hb, hml, hown, hW, -⟩ := C
  intro H locs h1 h2 h3 la hla
  obtain ⟨hd, ho⟩ := zT_at ht hl
  have htg : tg = 10 ∨ tg = 11 ∨ tg = 12 ∨ tg = 13 := by
    unfold zfit at hv
    split at hv
    · exact Or.inl rfl
    · exact Or.inr (Or.inl rfl)
    · exact Or.inr (Or.inr (Or.inl rfl))
    · exact Or.inr (Or.inr (Or.inr rfl))
    · exact absurd hv (fun z => z)
  have hcell : H[a]? = some (arrV (E.2.2.2 tg) nn fs) := by
    rcases (h1.2.2.2 a _ ha).2 with ⟨q, -⟩ | ⟨q1, q2, q3⟩ | ⟨q1, -⟩
    · exact absurd q (by show ¬ tg < 7; omega)
    · exact q3
    · exact absurd q1 (by show ¬ tg = 15; omega)
  have harr : s.isArrayOf (arrV (E.2.2.2 tg) nn fs) (zty tg) := State.isArrayOf_alike hW.alike ((hE.2.2.1 tg (by omega) (by omega)).1 _ _)
  have hcl : i.toNatClampNeg = j := by rw [hi]; exact nI_clamp (by omega)
  have hin : ¬ (i < 0 ∨ (arrV (E.2.2.2 tg) nn fs).slots.size ≤ i.toNatClampNeg) := by
    rw [hcl, hi, arrV_size]
    rintro (g | g)
    · exact nI_pos (by omega) g
    · omega
  have key : ∀ H' : Heap, H'[a]? = some ((arrV (E.2.2.2 tg) nn fs).setSlot i.toNatClampNeg v) → H'.size = H.size → (∀ q, q ≠ a → H'[q]? = H[q]?) → W p l e R' s m args below meth c H' (locs ++ [⟨a, i.toNatClampNeg⟩]) k n Q (F0 m (pc + 1) la rest) := by
    intro H' e1 e2 e3
    rw [hcl, arrV_store] at e1
    refine kk H' _ (h1.set e2 e3 hB (h1.2.2.2 a _ ha).1 (Or.inr (Or.inl ⟨?_, ?_, e1⟩))) (by rw [e2]; exact h2) (fun x hx => ?_) la hla
    · show 10 ≤ tg
      omega
    · show tg < 15
      omega
    rcases List.mem_append.mp hx with hx | hx
    · exact h3 x hx
    · rw [List.mem_singleton.mp hx]
      exact hB
  have hk : (arrV (E.2.2.2 tg) nn fs).vm ≠ .unknown := fun z => by cases z
  have hlen : r.1 = 1 := by
    rcases htg with rfl | rfl | rfl | rfl <;> (have h9 := ho; simp only [zok, zst, beq_iff_eq] at h9; exact h9)
  dsimp only at hd
  rw [hlen] at hd
  unfold zfit at hv
  split at hv
  · exact W.iast hx hb hcell harr hk hin rfl rfl hd key
  · exact W.last hx hb hcell harr hk hin rfl rfl hd key
  · exact W.dast hx hb hcell harr hk hin rfl rfl hd key
  · exact W.cast hx hb hcell harr hk hin rfl rfl hd (by rw [hv]; exact key)
  · exact absurd hv (fun z => z)
theorem Z_alen (C : zCx E G cc nL own nm ret R) (ht : zT cc t) {r : Nat × Int32 × Nat} (hl : t.lookup pc = some (.arraylength, r)) {a nn : Nat} {fs : Nat → Value} (ha : h a = some (15, nn, fs)) {v : Int32} (hv : nI nn = v) (kk : Z E G h sz k n (pc + 1, ls, .int v :: rest)) : Z E G h sz k n (pc, ls, .ref a :: rest) := by
  obtain ⟨p, l, e, R', s, m, args, below, meth, c, Q⟩ := G
  obtain ⟨hE, rfl, hx, hb, hml, hown, hW, -⟩ := C
  intro H locs h1 h2 h3 la hla
  obtain ⟨hd, ho⟩ := zT_at ht hl
  have hlen : r.1 = 1 := by have h9 := ho; simp only [zok, beq_iff_eq] at h9; exact h9
  dsimp only at hd
  rw [hlen] at hd
  rcases (h1.2.2.2 a _ ha).2 with ⟨q, -⟩ | ⟨q1, q2, q3⟩ | ⟨q1, cell, q2, q3, q4, q5, q6, q7, q8⟩
  · exact absurd q (by show ¬ 15 < 7; omega)
  · exact absurd q2 (by show ¬ 15 < 15; omega)
  · exact W.alen (n := v) hx hb q2 (State.isArrayOf_alike hW.alike q3) (q6.trans hv) rfl rfl hd (kk H locs h1 h2 h3 la hla)
/-- a static field that holds v, at the law's start -/
def zSt (E : zE) (Cn f d : String) (v : Value) : Prop := va_Z Cn f d v (zA E) E.1 E.1.heap
theorem Z_gets (C : zCx E G cc nL own nm ret R) (ht : zT cc t) {idx : Nat} {r : Nat × Int32 × Nat} (hl : t.lookup pc = some (.getstatic idx, r)) {Cn f d : String} {v : Value} (hs : zSt E Cn f d v) (hlink : Cond.fieldLink own idx Cn f d ∈ zWs) (kk : Z E G h sz k n (pc + 3, ls, v :: rest)) : Z E G h sz k n (pc, ls, rest) := by
  obtain ⟨p, l, e, R', s, m, args, below, meth, c, Q⟩ := G
  obtain ⟨hE, rfl, hx, hb, hml, hown, hW, -⟩ := C
  intro H locs h1 h2 h3 la hla
  obtain ⟨hd, ho⟩ := zT_at ht hl
  have hlen : r.1 = 3 := by have h9 := ho; simp only [zok, beq_iff_eq] at h9; exact h9
  dsimp only at hd
  rw [hlen] at hd
  obtain ⟨cf, kf, fi, f, a, cell, g1, g2, g3, g4, g5, g6, g7, g8⟩ := va_Z.moved hW.alike hs
  have hlt : a < zB E := (Array.getElem?_eq_some_iff.mp g5).1
  exact W.gets hx hb hown (zmem_at hE hW hlink) g1 g2 g3 g4 (by rw [h1.2.2.1 a hlt]; exact g5) (fun e => by rw [e] at g6; cases g6) g7 rfl hd (kk H locs h1 h2 h3 la hla)
theorem Z_new (C : zCx E G cc nL own nm ret R) (ht : zT cc t) {idx : Nat} {r : Nat × Int32 × Nat} (hl : t.lookup pc = some (.new idx, r)) {ci N : Nat} {Cn : String} {T : u_T} (hwi : ∀ w ∈ u_ws Cn T N, w ∈ zWs) (ty : Nat → FieldType) (hty : ∀ k, k < N → parseFieldDescriptor (T k).2.2.1 = some (ty k)) (hci : zCl[ci]? = some (Cn, T, N)) (hcl : Cond.classLink own idx Cn ∈ lw_tbl) (hcg : zgw (Cond.classLink own idx Cn) = true) (hins : Cond.instantiable Cn N ∈ zWs) (hini : Cond.initialized Cn ∈ zWs) (hk : k + 1 ≤ R.cells) (hn : n + N ≤ R.slots) (kk : ∀ q : Nat, sz ≤ q → zB E ≤ q → Z E G (hset h q (ci, 0, fun j => defaultValue (ty j))) (q + 1) (k + 1) (n + N) (pc + 3, ls, .ref q :: rest)) : Z E G h sz k n (pc, ls, rest) := by
  obtain ⟨p, l, e, R', s, m, args, below, meth, c, Q⟩ := G
  obtain ⟨hE, rfl, hx, hb, hml, hown, hW, -⟩ := C
  intro H locs h1 h2 h3 la hla
  obtain ⟨hd, ho⟩ := zT_at ht hl
  have hlen : r.1 = 3 := by have h9 := ho; simp only [zok, beq_iff_eq] at h9; exact h9
  dsimp only at hd
  rw [hlen] at hd
  have hts : ∀ w ∈ zWs, w.before args s = true := fun w hw => zmem_at hE hW hw
  have hKn := (va_K.moved hW.alike hE.2.1).1 ci _ hci
  refine W.newcK hx hb hown (zgw_at hW hcg (hE.1 _ hcl hcg)) (hts _ hins) (hts _ hini) rfl hd hk hn hKn.2.1 rfl fun H1 kC hkC e1 z1 o1 => ?_
  refine kk H.size h1.2.1 (Nat.le_trans h1.1 h1.2.1) H1 locs (h1.push z1 o1 (Or.inl ⟨(List.getElem?_eq_some_iff.mp hci).1, _, hci, u_born ty hts hwi hKn hkC e1 hty⟩)) (by omega) h3 la hla
theorem Z_newa (C : zCx E G cc nL own nm ret R) (ht : zT cc t) {r : Nat × Int32 × Nat} {at9 : ArrayType} (hl : t.lookup pc = some (.newarray at9, r)) {tg N : Nat} (htg : 10 ≤ tg ∧ tg < 14) (hty : newarray.typeOf at9 = zty tg) (hac : Cond.arrayClass (newarray.typeOf at9) ∈ zWs) {i : Int32} (hi : i = nI N) (hN : N < 65536) (hk : k + 1 ≤ R.cells) (hn : n + N ≤ R.slots) (kk : ∀ q : Nat, sz ≤ q → zB E ≤ q → Z E G (hset h q (tg, N, fun _ => defaultValue (zty tg))) (q + 1) (k + 1) (n + N) (pc + 2, ls, .ref q :: rest)) : Z E G h sz k n (pc, ls, .int i :: rest) := by
  obtain ⟨p, l, e, R', s, m, args, below, meth, c, Q⟩ := G
  obtain ⟨hE, rfl, hx, hb, hml, hown, hW, -⟩ := C
  intro H locs h1 h2 h3 la hla
  obtain ⟨hd, ho⟩ := zT_at ht hl
  have hlen : r.1 = 2 := by have h9 := ho; simp only [zok, beq_iff_eq] at h9; exact h9
  dsimp only at hd
  rw [hlen] at hd
  have hcl : i.toNatClampNeg = N := by rw [hi]; exact nI_clamp (by omega)
  refine va_newaK hx hb (zmem_at hE hW hac) rfl hd rfl (by rw [hi]; exact nI_pos (by omega)) hcl ?_ hk hn rfl fun H1 cA e1 z1 o1 hAr hNm => ?_
  · rw [hty]
    obtain ⟨g1, g2⟩ := htg
    rcases (show tg = 10 ∨ tg = 11 ∨ tg = 12 ∨ tg = 13 by omega) with rfl | rfl | rfl | rfl <;> (simp only [zty, componentBytes]; omega)
  · have hra := (va_RA.moved hW.alike (hE.2.2.1 tg htg.1 (by omega)).2)
    have hcA : cA = E.2.2.2 tg := by
      rw [hty] at hNm
      obtain ⟨g1, g2⟩ := htg
      rcases (show tg = 10 ∨ tg = 11 ∨ tg = 12 ∨ tg = 13 by omega) with rfl | rfl | rfl | rfl <;> exact Option.some.inj (hNm.symm.trans hra)
    subst hcA
    rw [hty] at e1
    refine kk H.size h1.2.1 (Nat.le_trans h1.1 h1.2.1) H1 locs (h1.push z1 o1 (Or.inr (Or.inl ⟨htg.1, by show tg < 15; omega, e1⟩))) (by omega) h3 la hla
theorem Z_anew (C : zCx E G cc nL own nm ret R) (ht : zT cc t) {r : Nat × Int32 × Nat} {idx : Nat} (hl : t.lookup pc = some (.anewarray idx, r)) {N : Nat} (hcl : Cond.classLink own idx R_Gm ∈ zWs) (hov : Cond.arrayOver (.object R_Gm) ∈ lw_tbl) (hov2 : va_AO R_Gm E.1) {i : Int32} (hi : i = nI N) (hN : N < 65536) (hk : k + 1 ≤ R.cells) (hn : n + N ≤ R.slots) (kk : ∀ q : Nat, sz ≤ q → zB E ≤ q → Z E G (hset h q (14, N, fun _ => .null)) (q + 1) (k + 1) (n + N) (pc + 3, ls, .ref q :: rest)) : Z E G h sz k n (pc, ls, .int i :: rest) := by
  obtain ⟨p, l, e, R', s, m, args, below, meth, c, Q⟩ := G
  obtain ⟨hE, rfl, hx, hb, hml, hown, hW, -⟩ := C
  intro H locs h1 h2 h3 la hla
  obtain ⟨hd, ho⟩ := zT_at ht hl
  have hlen : r.1 = 3 := by have h9 := ho; simp only [zok, beq_iff_eq] at h9; exact h9
  dsimp only at hd
  rw [hlen] at hd
  have hcl2 : i.toNatClampNeg = N := by rw [hi]; exact nI_clamp (by omega)
  refine W.anew hx hb hown (zmem_at hE hW hcl) (va_AO.use (va_AO.moved hW.alike hov2)) rfl hd rfl (by rw [hi]; exact nI_pos (by omega)) (by rw [hcl2]; omega) hk (by rw [hcl2]; exact hn) fun cA kA comp g1 g2 g3 g4 => ?_
  have hra := (va_RA.moved hW.alike (hE.2.2.1 14 (by omega) (by omega)).2)
  have hcA : cA = E.2.2.2 14 := by
    obtain ⟨kA2, comp2, r1, r2, r3, r4⟩ := hra
    exact Option.some.inj (g1.symm.trans r4)
  subst hcA
  rw [hcl2]
  have z1 : (H.push ({ cls := E.2.2.2 14, slots := Array.replicate N .null, vm := .none } : Cell)).size = H.size + 1 := by simp
  refine kk H.size h1.2.1 (Nat.le_trans h1.1 h1.2.1) _ locs (h1.push z1 (fun q hq => by rw [Array.getElem?_push, if_neg (Nat.ne_of_lt hq)]) (Or.inr (Or.inl ⟨by show 10 ≤ 14; omega, by show 14 < 15; omega, ?_⟩))) (by omega) h3 la hla
  rw [arrV_new]
  simp
/-- a Game stored into an array of Games -/
theorem Z_aast (C : zCx E G cc nL own nm ret R) (ht : zT cc t) {r : Nat × Int32 × Nat} (hl : t.lookup pc = some (.aastore, r)) {a nn j v n2 : Nat} {i : Int32} {fs fv : Nat → Value} (ha : h a = some (14, nn, fs)) (hvv : h v = some (1, n2, fv)) (hi : i = nI j) (hj : j < nn) (hnn : nn < 2 ^ 31) (hB : zB E ≤ a) (kk : Z E G (hset h a (14, nn, updV fs j (.ref v))) sz k n (pc + 1, ls, rest)) : Z E G h sz k n (pc, ls, .ref v :: .int i :: .ref a :: rest) := by
  obtain ⟨p, l, e, R', s, m, args, below, meth, c, Q⟩ := G
  obtain ⟨hE, rfl, hx, hb, hml, hown, hW, -⟩ := C
  intro H locs h1 h2 h3 la hla
  obtain ⟨hd, ho⟩ := zT_at ht hl
  have hlen : r.1 = 1 := by have h9 := ho; simp only [zok, beq_iff_eq] at h9; exact h9
  dsimp only at hd
  rw [hlen] at hd
  have hcell : H[a]? = some (arrV (E.2.2.2 14) nn fs) := by
    rcases (h1.2.2.2 a _ ha).2 with ⟨q, -⟩ | ⟨q1, q2, q3⟩ | ⟨q1, -⟩
    · exact absurd q (by show ¬ 14 < 7; omega)
    · exact q3
    · exact absurd q1 (by show ¬ 14 = 15; omega)
  obtain ⟨⟨cellV, g1, g2, g3, -⟩, hKn⟩ := zC_obj (s := s) hE hW (h1.2.2.2 v _ hvv).2 (show zCl[1]? = some (R_Gm, F_Gm, 8) from rfl)
  have hcls := hKn.2
  obtain ⟨kA, comp, k1, k2, k3, -⟩ := (va_RA.moved hW.alike (hE.2.2.1 14 (by omega) (by omega)).2)
  have hcomp : comp = E.2.1 1 := Option.some.inj (k3.symm.trans hcls.1)
  subst hcomp
  obtain ⟨kC, hkC, -⟩ := hcls.2
  have hcl : i.toNatClampNeg = j := by rw [hi]; exact nI_clamp (by omega)
  refine W.aast hx hb hcell (fun q hh => by cases hh) (fun hh => by cases hh) k1 k2 rfl hkC ⟨by rw [hi]; exact nI_pos (by omega), by rw [hcl, arrV_size]; exact hj⟩ g1 (fun q hh => by rw [g3] at hh; cases hh) (by rw [g2]; exact hkC) (by rw [g2]; exact va_assign hcls) rfl rfl hd fun H1 e1 e2 e3 => ?_
  rw [hcl, arrV_store] at e1
  refine kk H1 _ (h1.set e2 e3 hB (h1.2.2.2 a _ ha).1 (Or.inr (Or.inl ⟨by show 10 ≤ 14; omega, by show 14 < 15; omega, e1⟩))) (by rw [e2]; exact h2) (fun x hx => ?_) la hla
  rcases List.mem_append.mp hx with hx | hx
  · exact h3 x hx
  · rw [List.mem_singleton.mp hx]
    exact hB
theorem Z_oinit (C : zCx E G cc nL own nm ret R) (ht : zT cc t) {idx : Nat} {r : Nat × Int32 × Nat} (hl : t.lookup pc = some (.invokespecial idx, r)) (hlk : Cond.methodLink own idx Lib.objectInit ∈ zWs) (hin : Cond.instanceMethod Lib.objectInit ∈ zWs) (hco : Cond.code Lib.objectInit ⟨#[0xb1]⟩ 1 none ∈ zWs) (hls : ls.length = nL) {a : Nat} (hR : 1 ≤ R.frames ∧ (rest.map fun v => v.category).sum + 12 ≤ R.locals) (kk : Z E G h sz k n (pc + 3, ls, rest)) : Z E G h sz k n (pc, ls, .ref a :: rest) := by
  obtain ⟨p, l, e, R', s, m, args, below, meth, c, Q⟩ := G
  obtain ⟨hE, rfl, hx, hb, hml, hown, hW, -⟩ := C
  intro H locs h1 h2 h3 la hla
  obtain ⟨hd, ho⟩ := zT_at ht hl
  have hlen : r.1 = 3 := by have h9 := ho; simp only [zok, beq_iff_eq] at h9; exact h9
  dsimp only at hd
  rw [hlen] at hd
  exact W.objInit hx hb hown (zmem_at hE hW hlk) (zmem_at hE hW hin) (zmem_at hE hW hco) rfl (by rw [hml, ← hls]; exact hla.1) rfl hd hR.1 (by show 2 * 0 + _ + 12 ≤ _; omega) (kk H locs h1 h2 h3 la hla)
theorem Z_ldc2 (C : zCx E G cc nL own nm ret R) (ht : zT cc t) {idx : Nat} {r : Nat × Int32 × Nat} (hl : t.lookup pc = some (.ldc2_w idx, r)) {v : Int64} (hc : Cond.constantLong own idx v ∈ zWs) (kk : Z E G h sz k n (pc + 3, ls, .long v :: rest)) : Z E G h sz k n (pc, ls, rest) := by
  obtain ⟨p, l, e, R', s, m, args, below, meth, c, Q⟩ := G
  obtain ⟨hE, rfl, hx, hb, hml, hown, hW, -⟩ := C
  intro H locs h1 h2 h3 la hla
  obtain ⟨hd, ho⟩ := zT_at ht hl
  have hlen : r.1 = 3 := by have h9 := ho; simp only [zok, beq_iff_eq] at h9; exact h9
  dsimp only at hd
  rw [hlen] at hd
  exact lv_ldc2 hx hb hown (zmem_at hE hW hc) hd (kk H locs h1 h2 h3 la hla)
theorem Z_max (C : zCx E G cc nL own nm ret R) (ht : zT cc t) {idx : Nat} {r : Nat × Int32 × Nat} (hl : t.lookup pc = some (.invokestatic idx, r)) (hlk : Cond.methodLink own idx Lib.Math.max.name ∈ zWs) (hst : Cond.static Lib.Math.max.name ∈ zWs) (hini : Cond.initialized "java/lang/Math" ∈ zWs) (hco : Cond.code Lib.Math.max.name Lib.Math.max.code 2 (some .int) ∈ zWs) (hls : ls.length = nL) (hR : 1 ≤ R.frames ∧ (rest.map fun v => v.category).sum + 13 ≤ R.locals ∧ k ≤ R.cells ∧ n ≤ R.slots) {x y : Int32} (kk : Z E G h sz k n (pc + 3, ls, .int (if x < y then y else x) :: rest)) : Z E G h sz k n (pc, ls, .int y :: .int x :: rest) := by
  obtain ⟨p, l, e, R', s, m, args, below, meth, c, Q⟩ := G
  obtain ⟨hE, rfl, hx, hb, hml, hown, hW, -⟩ := C
  intro H locs h1 h2 h3 la hla
  obtain ⟨hd, ho⟩ := zT_at ht hl
  have hlen : r.1 = 3 := by have h9 := ho; simp only [zok, beq_iff_eq] at h9; exact h9
  dsimp only at hd
  rw [hlen] at hd
  exact va_mmax hx hb (by rw [hml, ← hls]; exact hla.1.symm) hown (zmem_at hE hW hlk) (zmem_at hE hW hst) (zmem_at hE hW hini) (zmem_at hE hW hco) hR.1 hR.2.1 hR.2.2.1 hR.2.2.2 hd (kk H locs h1 h2 h3 la hla)
theorem Z_ddiv (C : zCx E G cc nL own nm ret R) (ht : zT cc t) {r : Nat × Int32 × Nat} (hl : t.lookup pc = some (.ddiv, r)) {x y : UInt64} (hne : vf_n64 (FP.ddiv x y)) (kk : Z E G h sz k n (pc + 1, ls, .double (FP.ddiv x y) :: rest)) : Z E G h sz k n (pc, ls, .double y :: .double x :: rest) := by
  obtain ⟨p, l, e, R', s, m, args, below, meth, c, Q⟩ := G
  obtain ⟨hE, rfl, hx, hb, hml, hown, hW, -⟩ := C
  intro H locs h1 h2 h3 la hla
  obtain ⟨hd, ho⟩ := zT_at ht hl
  have hlen : r.1 = 1 := by have h9 := ho; simp only [zok, beq_iff_eq] at h9; exact h9
  dsimp only at hd
  rw [hlen] at hd
  exact lv_ddiv hx hb hd hne (kk H locs h1 h2 h3 la hla)
theorem Z_swIn (C : zCx E G cc nL own nm ret R) (ht : zT cc t) {dflt lo hi : Int} {offs : Array Int} {r : Nat × Int32 × Nat} (hl : t.lookup pc = some (.tableswitch dflt lo hi offs, r)) {x : Int32} {off : Int} {tgt : Nat} (h1 : ¬ x.toInt < lo) (h2 : ¬ hi < x.toInt) (ho : offs[(x.toInt - lo).toNat]? = some off) (htg : (pc : Int) + off = (tgt : Int)) (kk : Z E G h sz k n (tgt, ls, rest)) : Z E G h sz k n (pc, ls, .int x :: rest) := by
  obtain ⟨p, l, e, R', s, m, args, below, meth, c, Q⟩ := G
  obtain ⟨hE, rfl, hx, hb, hml, hown, hW, -⟩ := C
  intro H locs g1 g2 g3 la hla
  exact lv_tableIn hx hb (zT_at ht hl).1 h1 h2 ho htg (kk H locs g1 g2 g3 la hla)
theorem Z_swOut (C : zCx E G cc nL own nm ret R) (ht : zT cc t) {dflt lo hi : Int} {offs : Array Int} {r : Nat × Int32 × Nat} (hl : t.lookup pc = some (.tableswitch dflt lo hi offs, r)) {x : Int32} {tgt : Nat} (h1 : x.toInt < lo ∨ hi < x.toInt) (htg : (pc : Int) + dflt = (tgt : Int)) (kk : Z E G h sz k n (tgt, ls, rest)) : Z E G h sz k n (pc, ls, .int x :: rest) := by
  obtain ⟨p, l, e, R', s, m, args, below, meth, c, Q⟩ := G
  obtain ⟨hE, rfl, hx, hb, hml, hown, hW, -⟩ := C
  intro H locs g1 g2 g3 la hla
  exact lv_tableOut hx hb (zT_at ht hl).1 h1 htg (kk H locs g1 g2 g3 la hla)
end ZR
end
section
/-! ===== contracts of methods over the abstract machine; calls, returns, throws, handlers ===== -/
def zQ (E : zE) (O : zO) : Array Value → State → Outcome → State → Prop := fun _ st o t => ∃ (v : Option Value) (h : aH) (sz : Nat), o = .returned v ∧ O (.inl v) h sz ∧ zH E h sz t.heap ∧ st.heap.size ≤ t.heap.size
def zX (E : zE) (O : zO) : String → State → State → Prop := fun X st t => ∃ (h : aH) (sz : Nat), O (.inr X) h sz ∧ zH E h sz t.heap ∧ st.heap.size ≤ t.heap.size
def zPc (E : zE) (av : List Value) (h : aH) (sz : Nat) : Array Value → State → Prop := fun v U => v = av.toArray ∧ E.1.WarmedH U.vm ∧ zH E h sz U.heap
theorem zPc_blind {E : zE} {av : List Value} {h : aH} {sz : Nat} : FrameBlind (zPc E av h sz) := fun _ _ _ _ q => q
/-- the method y, called with av over the heap h, returns or throws as O says -/
def zM (E : zE) (l : Launch) (y : MethodName) (ws : List Cond) (rm : Room) (av : List Value) (h : aH) (sz : Nat) (O : zO) : Prop :=
  vx_Met l y ws rm (zPc E av h sz) (zQ E O) (zX E O) rm.cells rm.slots (zA E)
/-- the same of a constructor: it returns -/
def zK (E : zE) (l : Launch) (y : MethodName) (ws : List Cond) (rm : Room) (av : List Value) (h : aH) (sz : Nat) (O : zO) : Prop :=
  Met l y ws rm (zPc E av h sz) (zQ E O) rm.cells rm.slots (zA E)
/-- what is owed at a body's end -/
def zEnd (E : zE) (G : zG) (O : zO) (mc ms : Nat) : Prop :=
  match G with
  | (p, l, e, R, s, m, args, below, meth, c, Q) => Q = vx_MQ below (zQ E O) (zX E O) args s mc ms (zA E) ∨ Q = MQ below (zQ E O) args s mc ms (zA E)
def zEndX (E : zE) (G : zG) (O : zO) (mc ms : Nat) : Prop :=
  match G with
  | (p, l, e, R, s, m, args, below, meth, c, Q) => Q = vx_MQ below (zQ E O) (zX E O) args s mc ms (zA E)
/-- the handlers of the body -/
def zTb (G : zG) (tb : List ExceptionTableEntry) : Prop :=
  match G with
  | (p, l, e, R, s, m, args, below, meth, c, Q) => c.exceptionTable.toList = tb
def zGl (G : zG) : Launch := G.2.1
theorem zEndX.e {E : zE} {G : zG} {O : zO} {mc ms : Nat} (h : zEndX E G O mc ms) : zEnd E G O mc ms := by
  obtain ⟨p, l, e, R', s, m, args, below, meth, c, Q⟩ := G
  exact Or.inl h
theorem zCx.l {E : zE} {G : zG} {cc : ByteArray} {nL : Nat} {own nm : String} {ret : Option FieldType} {R : Room} (C : zCx E G cc nL own nm ret R) : (zGl G).stackTraces = false := by
  obtain ⟨p, l, e, R', s, m, args, below, meth, c, Q⟩ := G
  obtain ⟨hE, rfl, hx, hb, hml, hown, hW, h1, h2, h3, h4, -⟩ := C
  exact h4
theorem zCx.ev {E : zE} {G : zG} {cc : ByteArray} {nL : Nat} {own nm : String} {ret : Option FieldType} {R : Room} (C : zCx E G cc nL own nm ret R) : zEv E := by
  obtain ⟨p, l, e, R', s, m, args, below, meth, c, Q⟩ := G
  exact C.1
theorem zM_of {E : zE} {l : Launch} {y : MethodName} {cc : ByteArray} {nL : Nat} {ret : Option FieldType} {rm : Room} {av : List Value} {h : aH} {sz : Nat} {O : zO} (hE : zEv E) (hl : l.stackTraces = false) (hy : plainName y.cls = true) (ls0 : zL) (h0 : lv_args 0 av = zl_as 0 ls0 ∧ ls0.length = nL ∧ (lg_sl av).length ≤ nL) (body : ∀ G : zG, zCx E G cc nL y.cls y.name ret rm → zEndX E G O rm.cells rm.slots → zTb G [] → Z E G h sz 0 0 (0, ls0, [])) : zM E l y [.code y cc nL ret] rm av h sz O := by
  refine vx_ofW (cc := cc) (maxL := nL) (ret := ret) hy rfl ?_
  intro p e s m args below meth c s₁ B hml hexc hv
  obtain ⟨rfl, hW, hH⟩ := hv
  rw [lg_entry_eq]
  have hl0 := lv_entry av (n := nL) h0.2.2
  have htb : c.exceptionTable.toList = [] := by
    cases hq : c.exceptionTable.toList with
    | nil => rfl
    | cons a b => exact (hexc a (by rw [hq]; exact List.mem_cons_self)).elim
  refine body (p, l, e, (headSpec [Cond.code y cc nL ret] rm).room, s, m, av.toArray, below, meth, c, _) ⟨hE, rfl, B.exec, B.bytes, hml, findClass_of_methodNamed B.named, hW, B.notSynchronized, B.returns, (name_of_methodNamed B.named B.method).1, hl, Nat.le_trans hH.1 hH.2.1, hH.2.2.1⟩ rfl htb s.heap [] hH (Nat.le_refl _) (fun x hx => by cases hx) _ ?_
  rw [h0.1] at hl0
  rw [← h0.2.1] at hl0 ⊢
  exact hl0
theorem zK_of {E : zE} {l : Launch} {y : MethodName} {cc : ByteArray} {nL : Nat} {ret : Option FieldType} {rm : Room} {av : List Value} {h : aH} {sz : Nat} {O : zO} (hE : zEv E) (hl : l.stackTraces = false) (hy : plainName y.cls = true) (ls0 : zL) (h0 : lv_args 0 av = zl_as 0 ls0 ∧ ls0.length = nL ∧ (lg_sl av).length ≤ nL) (body : ∀ G : zG, zCx E G cc nL y.cls y.name ret rm → zEnd E G O rm.cells rm.slots → Z E G h sz 0 0 (0, ls0, [])) : zK E l y [.code y cc nL ret] rm av h sz O := by
  refine Met.ofW (cc := cc) (maxL := nL) (ret := ret) hy rfl ?_
  intro p e s m args below meth c s₁ B hml hv
  obtain ⟨rfl, hW, hH⟩ := hv
  rw [lg_entry_eq]
  have hl0 := lv_entry av (n := nL) h0.2.2
  refine body (p, l, e, (headSpec [Cond.code y cc nL ret] rm).room, s, m, av.toArray, below, meth, c, _) ⟨hE, rfl, B.exec, B.bytes, hml, findClass_of_methodNamed B.named, hW, B.notSynchronized, B.returns, (name_of_methodNamed B.named B.method).1, hl, Nat.le_trans hH.1 hH.2.1, hH.2.2.1⟩ (Or.inr rfl) s.heap [] hH (Nat.le_refl _) (fun x hx => by cases hx) _ ?_
  rw [h0.1] at hl0
  rw [← h0.2.1] at hl0 ⊢
  exact hl0
theorem zMX_of {E : zE} {l : Launch} {y : MethodName} {cc : ByteArray} {nL : Nat} {ret : Option FieldType} {rm : Room} {av : List Value} {h : aH} {sz : Nat} {O : zO} {hh : List (Nat × Nat × Nat × Nat)} (hE : zEv E) (hl : l.stackTraces = false) (hy : plainName y.cls = true) (ls0 : zL) (h0 : lv_args 0 av = zl_as 0 ls0 ∧ ls0.length = nL ∧ (lg_sl av).length ≤ nL) (body : ∀ G : zG, zCx E G cc nL y.cls y.name ret rm → zEndX E G O rm.cells rm.slots → zTb G (tableOf hh) → Z E G h sz 0 0 (0, ls0, [])) : zM E l y [.codeWith y cc nL ret hh] rm av h sz O := by
  refine vx_ofWH (cc := cc) (maxL := nL) (ret := ret) (hh := hh) hy rfl ?_
  intro p e s m args below meth c s₁ B hml hv
  obtain ⟨rfl, hW, hH⟩ := hv
  rw [lg_entry_eq]
  have hl0 := lv_entry av (n := nL) h0.2.2
  have htb : c.exceptionTable.toList = tableOf hh := vx_table (x := y) (bytes := cc) (maxL' := nL) (ret' := ret) B (atoms_spec (ws := [Cond.codeWith y cc nL ret hh]) B.pre _ List.mem_cons_self)
  refine body (p, l, e, (headSpec [Cond.codeWith y cc nL ret hh] rm).room, s, m, av.toArray, below, meth, c, _) ⟨hE, rfl, B.exec, B.bytes, hml, findClass_of_methodNamed B.named, hW, B.notSynchronized, B.returns, (name_of_methodNamed B.named B.method).1, hl, Nat.le_trans hH.1 hH.2.1, hH.2.2.1⟩ rfl htb s.heap [] hH (Nat.le_refl _) (fun x hx => by cases hx) _ ?_
  rw [h0.1] at hl0
  rw [← h0.2.1] at hl0 ⊢
  exact hl0
/-- what the tables say of a method that is called -/
def zPv (y : MethodName) (cc : ByteArray) (nL : Nat) (ret : Option FieldType) (a : Nat) : Prop := Cond.code y cc nL ret ∈ zWs ∧ Cond.instanceMethod y ∈ zWs ∧ Cond.selects y.cls y y ∈ zWs ∧ Cond.initialized y.cls ∈ zWs ∧ (y.cls ≠ "java/lang/invoke/MethodHandle" ∧ y.cls ≠ "java/lang/invoke/VarHandle") ∧ (parseMethodDescriptor y.desc).map (fun d => d.parameters.length) = some a
def zPs (y : MethodName) (cc : ByteArray) (nL : Nat) (ret : Option FieldType) (a : Nat) : Prop := Cond.code y cc nL ret ∈ zWs ∧ Cond.static y ∈ zWs ∧ Cond.initialized y.cls ∈ zWs ∧ (y.cls ≠ "java/lang/invoke/MethodHandle" ∧ y.cls ≠ "java/lang/invoke/VarHandle") ∧ (parseMethodDescriptor y.desc).map (fun d => d.parameters.length) = some a
def zPsX (y : MethodName) (cc : ByteArray) (nL : Nat) (ret : Option FieldType) (hh : List (Nat × Nat × Nat × Nat)) (a : Nat) : Prop := Cond.codeWith y cc nL ret hh ∈ zWs ∧ Cond.static y ∈ zWs ∧ Cond.initialized y.cls ∈ zWs ∧ (y.cls ≠ "java/lang/invoke/MethodHandle" ∧ y.cls ≠ "java/lang/invoke/VarHandle") ∧ (parseMethodDescriptor y.desc).map (fun d => d.parameters.length) = some a
def zPk (y : MethodName) (cc : ByteArray) (nL : Nat) (a : Nat) : Prop := Cond.code y cc nL none ∈ zWs ∧ Cond.instanceMethod y ∈ zWs ∧ y.name = "<init>" ∧ Cond.initialized y.cls ∈ zWs ∧ (y.cls ≠ "java/lang/invoke/MethodHandle" ∧ y.cls ≠ "java/lang/invoke/VarHandle") ∧ (parseMethodDescriptor y.desc).map (fun d => d.parameters.length) = some a
def zRm (rm R : Room) (nL k n : Nat) : Prop := rm.frames + 1 ≤ R.frames ∧ 8 + (nL + 11) + rm.locals ≤ R.locals ∧ k + rm.cells ≤ R.cells ∧ n + rm.slots ≤ R.slots
section ZC1
variable {E : zE} {G : zG} {cc : ByteArray} {nL : Nat} {own nm : String} {ret : Option FieldType} {R : Room} {h : aH} {sz k n : Nat} {t : List zI} {pc : Nat} {ls : zL} {st rest : List Value}
theorem zcat {rest : List Value} (h : (rest.map fun v => v.category).sum ≤ 8) {m : MethodId} {pc : Nat} {la : Array Slot} {st : List Value} : 2 * (F0 m pc la st).monitorRoom + (rest.map fun v => v.category).sum ≤ 8 := lv_room h
theorem zcallB {s : State} {args : Array Value} {R : Room} {idx : Nat} {y : MethodName} {c9 : ByteArray} {n9 k n a : Nat} {r9 : Option FieldType} {rm : Room} (hE : zEv E) (hW : E.1.WarmedH s.vm) (hc : Cond.code y c9 n9 r9 ∈ zWs) (hi : Cond.initialized y.cls ∈ zWs) (hy : y.cls ≠ "java/lang/invoke/MethodHandle" ∧ y.cls ≠ "java/lang/invoke/VarHandle") (ha : (parseMethodDescriptor y.desc).map (fun d => d.parameters.length) = some a) (hlk : Cond.methodLink own idx y ∈ zWs) (hR : zRm rm R n9 k n) : CallB R s args own idx y c9 n9 r9 [Cond.code y c9 n9 r9] rm rm.cells rm.slots a := by
  have hg : goodWord (Cond.code y c9 n9 r9) = true := (List.mem_filter.mp hc).2
  have hb : (Cond.code y c9 n9 r9).before args s = true := zmem_at hE hW hc
  refine ⟨rfl, rfl, hR.1, hR.2.1, fun w hw a' U hU => ?_, List.mem_cons_self, hb, zmem_at hE hW hi, hy, fun sig hs => ?_, zmem_at hE hW hlk⟩
  · rw [List.mem_singleton.mp hw]
    exact word_at hU (good_of_word hg) hb
  · rw [hs] at ha
    exact (Option.some.inj ha).symm
theorem Z_callV (C : zCx E G cc nL own nm ret R) (ht : zT cc t) {idx : Nat} {r : Nat × Int32 × Nat} (hl : t.lookup pc = some (.invokevirtual idx, r)) {y : MethodName} {c9 : ByteArray} {n9 a : Nat} {r9 : Option FieldType} {rm : Room} (hp : zPv y c9 n9 r9 a) (hlk : Cond.methodLink own idx y ∈ zWs) {O : zO} {b : Nat} (As : List Value) (hM : zM E (zGl G) y [.code y c9 n9 r9] rm (.ref b :: As) h sz O) (hst : st = As.reverse ++ .ref b :: rest) (ha : As.length = a) {ci nn N : Nat} {fs : Nat → Value} {T : u_T} (hb9 : h b = some (ci, nn, fs)) (hci : zCl[ci]? = some (y.cls, T, N)) (hR : zRm rm R n9 k n) (hcat : (rest.map fun v => v.category).sum ≤ 8) (hls : ls.length = nL)
    (kk : ∀ (v : Option Value) (h2 : aH) (sz2 : Nat), O (.inl v) h2 sz2 → Z E G h2 sz2 (k + rm.cells) (n + rm.slots) (pc + 3, ls, v.toList ++ rest))
    (kx : ∀ (X : String) (h2 : aH) (sz2 : Nat), O (.inr X) h2 sz2 → Zt E G h2 sz2 (k + rm.cells) (n + rm.slots) (pc, ls, rest) X) : Z E G h sz k n (pc, ls, st) := by
  obtain ⟨p, l, e, R', s, m, args, below, meth, c, Q⟩ := G
  obtain ⟨hE, rfl, hx, hb, hml, hown, hW, -⟩ := C
  subst hst
  intro H locs h1 h2 h3 la hla
  obtain ⟨hd, ho⟩ := zT_at ht hl
  have hlen : r.1 = 3 := by have h9 := ho; simp only [zok, beq_iff_eq] at h9; exact h9
  dsimp only at hd
  rw [hlen] at hd
  obtain ⟨p1, p2, p3, p4, p5, p6⟩ := hp
  obtain ⟨⟨cell, q1, q2, q3, q4⟩, hKn⟩ := zC_obj (s := s) hE hW (h1.2.2.2 b _ hb9).2 hci
  have CR := vx_runV (cells := k) (slots := n) (below := below) (meth := meth) (e := e) (locs := locs) (H := H) (rest := rest) (g := F0 m pc la (As.reverse ++ .ref b :: rest)) ⟨hx, hb, hml, hown, fun w hw => zmem_at hE hW hw⟩ hM ⟨zcallB (k := k) (n := n) (args := args) hE hW p1 p4 p5 p6 hlk hR, zmem_at hE hW p2, zmem_at hE hW p3⟩ ⟨zPc_blind, ⟨cell, q1, by rw [q3]; rfl, by rw [q2]; exact hKn.2.1⟩, fun U hU hWU => ⟨rfl, State.WarmedH.trans hW hWU, by rw [hU]; exact h1⟩⟩ rfl ha (by rw [← hls]; exact hla.1) rfl (zcat hcat) hd ⟨hR.2.2.1, hR.2.2.2⟩
  intro T hT X
  rcases CR T hT X with ⟨v, st₀, t9, T', L, e0, X', hL, e1, e2, ⟨v2, h', sz', ev, hO, hz, hsz⟩, stp⟩ | ⟨q, st₀, t9, T', L, Ex, ce, e0, X', hL, e1, e2, ⟨h', sz', hO, hz, hsz⟩, hce, hcv, hcl, stp⟩
  · cases ev
    rw [e0] at hsz
    obtain ⟨t2, a1, b1⟩ := kk v h' sz' hO T'.heap (locs ++ L) (by rw [e1]; exact hz) (by rw [e1]; omega) (fun x hx => (List.mem_append.mp hx).elim (h3 x) (hL x)) la hla T' rfl X'
    exact ⟨t2, stp t2 a1, b1⟩
  · rw [e0] at hsz
    obtain ⟨t2, a1, b1⟩ := kx Ex h' sz' hO T'.heap (locs ++ L) q ce (by rw [e1]; exact hz) (by rw [e1]; omega) (fun x hx => (List.mem_append.mp hx).elim (h3 x) (hL x)) (by rw [e1]; exact hce) hcv hcl la hla T' rfl X'
    exact ⟨t2, stp.trans a1, b1⟩
theorem Z_callS (C : zCx E G cc nL own nm ret R) (ht : zT cc t) {idx : Nat} {r : Nat × Int32 × Nat} (hl : t.lookup pc = some (.invokestatic idx, r)) {y : MethodName} {c9 : ByteArray} {n9 a : Nat} {r9 : Option FieldType} {rm : Room} (hp : zPs y c9 n9 r9 a) (hlk : Cond.methodLink own idx y ∈ zWs) {O : zO} (As : List Value) (hM : zM E (zGl G) y [.code y c9 n9 r9] rm As h sz O) (hst : st = As.reverse ++ rest) (ha : As.length = a) (hR : zRm rm R n9 k n) (hcat : (rest.map fun v => v.category).sum ≤ 8) (hls : ls.length = nL)
    (kk : ∀ (v : Option Value) (h2 : aH) (sz2 : Nat), O (.inl v) h2 sz2 → Z E G h2 sz2 (k + rm.cells) (n + rm.slots) (pc + 3, ls, v.toList ++ rest))
    (kx : ∀ (X : String) (h2 : aH) (sz2 : Nat), O (.inr X) h2 sz2 → Zt E G h2 sz2 (k + rm.cells) (n + rm.slots) (pc, ls, rest) X) : Z E G h sz k n (pc, ls, st) := by
  obtain ⟨p, l, e, R', s, m, args, below, meth, c, Q⟩ := G
  obtain ⟨hE, rfl, hx, hb, hml, hown, hW, -⟩ := C
  subst hst
  intro H locs h1 h2 h3 la hla
  obtain ⟨hd, ho⟩ := zT_at ht hl
  have hlen : r.1 = 3 := by have h9 := ho; simp only [zok, beq_iff_eq] at h9; exact h9
  dsimp only at hd
  rw [hlen] at hd
  obtain ⟨p1, p2, p4, p5, p6⟩ := hp
  have CR := vx_runS (cells := k) (slots := n) (below := below) (meth := meth) (e := e) (locs := locs) (H := H) (rest := rest) (g := F0 m pc la (As.reverse ++ rest)) ⟨hx, hb, hml, hown, fun w hw => zmem_at hE hW hw⟩ hM ⟨zcallB (k := k) (n := n) (args := args) hE hW p1 p4 p5 p6 hlk hR, zmem_at hE hW p2⟩ ⟨zPc_blind, fun U hU hWU => ⟨rfl, State.WarmedH.trans hW hWU, by rw [hU]; exact h1⟩⟩ rfl ha (by rw [← hls]; exact hla.1) rfl (zcat hcat) hd ⟨hR.2.2.1, hR.2.2.2⟩
  intro T hT X
  rcases CR T hT X with ⟨v, st₀, t9, T', L, e0, X', hL, e1, e2, ⟨v2, h', sz', ev, hO, hz, hsz⟩, stp⟩ | ⟨q, st₀, t9, T', L, Ex, ce, e0, X', hL, e1, e2, ⟨h', sz', hO, hz, hsz⟩, hce, hcv, hcl, stp⟩
  · cases ev
    rw [e0] at hsz
    obtain ⟨t2, a1, b1⟩ := kk v h' sz' hO T'.heap (locs ++ L) (by rw [e1]; exact hz) (by rw [e1]; omega) (fun x hx => (List.mem_append.mp hx).elim (h3 x) (hL x)) la hla T' rfl X'
    exact ⟨t2, stp t2 a1, b1⟩
  · rw [e0] at hsz
    obtain ⟨t2, a1, b1⟩ := kx Ex h' sz' hO T'.heap (locs ++ L) q ce (by rw [e1]; exact hz) (by rw [e1]; omega) (fun x hx => (List.mem_append.mp hx).elim (h3 x) (hL x)) (by rw [e1]; exact hce) hcv hcl la hla T' rfl X'
    exact ⟨t2, stp.trans a1, b1⟩
theorem Z_callSX (C : zCx E G cc nL own nm ret R) (ht : zT cc t) {idx : Nat} {r : Nat × Int32 × Nat} (hl : t.lookup pc = some (.invokestatic idx, r)) {y : MethodName} {c9 : ByteArray} {n9 a : Nat} {r9 : Option FieldType} {rm : Room} {hh : List (Nat × Nat × Nat × Nat)} (hp : zPsX y c9 n9 r9 hh a) (hlk : Cond.methodLink own idx y ∈ zWs) {O : zO} (As : List Value) (hM : zM E (zGl G) y [.codeWith y c9 n9 r9 hh] rm As h sz O) (hst : st = As.reverse ++ rest) (ha : As.length = a) (hR : zRm rm R n9 k n) (hcat : (rest.map fun v => v.category).sum ≤ 8) (hls : ls.length = nL)
    (kk : ∀ (v : Option Value) (h2 : aH) (sz2 : Nat), O (.inl v) h2 sz2 → Z E G h2 sz2 (k + rm.cells) (n + rm.slots) (pc + 3, ls, v.toList ++ rest))
    (kx : ∀ (X : String) (h2 : aH) (sz2 : Nat), O (.inr X) h2 sz2 → Zt E G h2 sz2 (k + rm.cells) (n + rm.slots) (pc, ls, rest) X) : Z E G h sz k n (pc, ls, st) := by
  obtain ⟨p, l, e, R', s, m, args, below, meth, c, Q⟩ := G
  obtain ⟨hE, rfl, hx, hb, hml, hown, hW, -⟩ := C
  subst hst
  intro H locs h1 h2 h3 la hla
  obtain ⟨hd, ho⟩ := zT_at ht hl
  have hlen : r.1 = 3 := by have h9 := ho; simp only [zok, beq_iff_eq] at h9; exact h9
  dsimp only at hd
  rw [hlen] at hd
  obtain ⟨p1, p2, p4, p5, p6⟩ := hp
  have hg : goodWord (Cond.codeWith y c9 n9 r9 hh) = true := (List.mem_filter.mp p1).2
  have hb9 : (Cond.codeWith y c9 n9 r9 hh).before args s = true := zmem_at hE hW p1
  have CR := vx_runSX (cells := k) (slots := n) (below := below) (meth := meth) (e := e) (locs := locs) (H := H) (rest := rest) (hh := hh) (bytes := c9) (maxL := n9) (ret := r9) (n := a) (g := F0 m pc la (As.reverse ++ rest)) ⟨hx, hb, hml, hown, fun w hw => zmem_at hE hW hw⟩ hM ⟨⟨rfl, rfl, hR.1, hR.2.1, fun w hw a' U hU => by rw [List.mem_singleton.mp hw]; exact word_at hU (good_of_word hg) hb9, List.mem_cons_self⟩, hb9, zmem_at hE hW p4, p5, fun sig hs => by rw [hs] at p6; exact (Option.some.inj p6).symm, zmem_at hE hW hlk, zmem_at hE hW p2⟩ ⟨zPc_blind, fun U hU hWU => ⟨rfl, State.WarmedH.trans hW hWU, by rw [hU]; exact h1⟩⟩ rfl ha (by rw [← hls]; exact hla.1) rfl (zcat hcat) hd ⟨hR.2.2.1, hR.2.2.2⟩
  intro T hT X
  rcases CR T hT X with ⟨v, st₀, t9, T', L, e0, X', hL, e1, e2, ⟨v2, h', sz', ev, hO, hz, hsz⟩, stp⟩ | ⟨q, st₀, t9, T', L, Ex, ce, e0, X', hL, e1, e2, ⟨h', sz', hO, hz, hsz⟩, hce, hcv, hcl, stp⟩
  · cases ev
    rw [e0] at hsz
    obtain ⟨t2, a1, b1⟩ := kk v h' sz' hO T'.heap (locs ++ L) (by rw [e1]; exact hz) (by rw [e1]; omega) (fun x hx => (List.mem_append.mp hx).elim (h3 x) (hL x)) la hla T' rfl X'
    exact ⟨t2, stp t2 a1, b1⟩
  · rw [e0] at hsz
    obtain ⟨t2, a1, b1⟩ := kx Ex h' sz' hO T'.heap (locs ++ L) q ce (by rw [e1]; exact hz) (by rw [e1]; omega) (fun x hx => (List.mem_append.mp hx).elim (h3 x) (hL x)) (by rw [e1]; exact hce) hcv hcl la hla T' rfl X'
    exact ⟨t2, stp.trans a1, b1⟩
theorem Z_callK (C : zCx E G cc nL own nm ret R) (ht : zT cc t) {idx : Nat} {r : Nat × Int32 × Nat} (hl : t.lookup pc = some (.invokespecial idx, r)) {y : MethodName} {c9 : ByteArray} {n9 a : Nat} {rm : Room} (hp : zPk y c9 n9 a) {host : String} (hlk : Cond.methodLink own idx y ∈ zWs ∨ Cond.methodLinkNest own idx y host ∈ lw_tbl) {O : zO} {b : Nat} (As : List Value) (hM : zK E (zGl G) y [.code y c9 n9 none] rm (.ref b :: As) h sz O) (hst : st = As.reverse ++ .ref b :: rest) (ha : As.length = a) (hR : zRm rm R n9 k n) (hcat : (rest.map fun v => v.category).sum ≤ 8) (hls : ls.length = nL)
    (kk : ∀ (v : Option Value) (h2 : aH) (sz2 : Nat), O (.inl v) h2 sz2 → Z E G h2 sz2 (k + rm.cells) (n + rm.slots) (pc + 3, ls, v.toList ++ rest)) : Z E G h sz k n (pc, ls, st) := by
  obtain ⟨p, l, e, R', s, m, args, below, meth, c, Q⟩ := G
  obtain ⟨hE, rfl, hx, hb, hml, hown, hW, -⟩ := C
  subst hst
  intro H locs h1 h2 h3 la hla
  obtain ⟨hd, ho⟩ := zT_at ht hl
  have hlen : r.1 = 3 := by have h9 := ho; simp only [zok, beq_iff_eq] at h9; exact h9
  dsimp only at hd
  rw [hlen] at hd
  obtain ⟨p1, p2, p3, p4, p5, p6⟩ := hp
  have hg : goodWord (Cond.code y c9 n9 none) = true := (List.mem_filter.mp p1).2
  have hb9 : (Cond.code y c9 n9 none).before args s = true := zmem_at hE hW p1
  have CR : va_Run p l e R' s m args below meth c H locs k n rm.cells rm.slots (F0 m pc la (As.reverse ++ .ref b :: rest)) rest (zQ E O (Value.ref b :: As).toArray) (zA E) := by
    rcases hlk with hlk | hlk
    · exact va_runI (Ts := zWs) ⟨hx, hb, hml, hown, fun w hw => zmem_at hE hW hw⟩ hM ⟨zcallB (k := k) (n := n) (args := args) hE hW p1 p4 p5 p6 hlk hR, p3, zmem_at hE hW p2⟩ ⟨zPc_blind, fun U hU hWU => ⟨rfl, State.WarmedH.trans hW hWU, by rw [hU]; exact h1⟩⟩ rfl ha (by rw [← hls]; exact hla.1) rfl (zcat hcat) hd ⟨hR.2.2.1, hR.2.2.2⟩
    · exact va_runIN (Ts := zWs) (host := host) (bytes := c9) (maxL := n9) (n := a) ⟨hx, hb, hml, hown, fun w hw => zmem_at hE hW hw⟩ hM ⟨⟨⟨rfl, rfl, hR.1, hR.2.1, fun w hw a' U hU => by rw [List.mem_singleton.mp hw]; exact word_at hU (good_of_word hg) hb9, List.mem_cons_self⟩, hb9, zmem_at hE hW p4, p5, fun sig hs => by rw [hs] at p6; exact (Option.some.inj p6).symm, zgw_at hW rfl (hE.1 _ hlk rfl)⟩, p3, zmem_at hE hW p2⟩ ⟨zPc_blind, fun U hU hWU => ⟨rfl, State.WarmedH.trans hW hWU, by rw [hU]; exact h1⟩⟩ rfl ha (by rw [← hls]; exact hla.1) rfl (zcat hcat) hd ⟨hR.2.2.1, hR.2.2.2⟩
  intro T hT X
  obtain ⟨v, st₀, t9, T', L, e0, X', hL, e1, e2, ⟨v2, h', sz', ev, hO, hz, hsz⟩, stp⟩ := CR T hT X
  cases ev
  rw [e0] at hsz
  obtain ⟨t2, a1, b1⟩ := kk v h' sz' hO T'.heap (locs ++ L) (by rw [e1]; exact hz) (by rw [e1]; omega) (fun x hx => (List.mem_append.mp hx).elim (h3 x) (hL x)) la hla T' rfl X'
  exact ⟨t2, stp t2 a1, b1⟩
theorem zend_go {p : Program} {l : Launch} {e : Env} {s : State} {m : MethodId} {args : Array Value} {below : List Frame} {meth : Method} {c : Code} {Q : State → Prop} {O : zO} {mc ms : Nat} {H : Heap} {locs : List Loc} {g : JFrame} (q : zEnd E (p, l, e, R, s, m, args, below, meth, c, Q) O mc ms) (hk : k ≤ mc) (hn : n ≤ ms) (kk : W p l e R s m args below meth c H locs mc ms (MQ below (zQ E O) args s mc ms (zA E)) g) : W p l e R s m args below meth c H locs k n Q g := by
  refine W.widen hk hn ?_
  rcases q with rfl | rfl
  · exact vx_ret kk
  · exact kk
theorem Z_iret (C : zCx E G cc nL own nm (some .int) R) {O : zO} {mc ms : Nat} (q : zEnd E G O mc ms) (ht : zT cc t) {r : Nat × Int32 × Nat} (hl : t.lookup pc = some (.ireturn, r)) {v : Int32} (hO : O (.inl (some (.int v))) h sz) (hk : k ≤ mc) (hn : n ≤ ms) : Z E G h sz k n (pc, ls, [.int v]) := by
  obtain ⟨p, l, e, R', s, m, args, below, meth, c, Q⟩ := G
  obtain ⟨hE, rfl, hx, hb, hml, hown, hW, hlk, hret, -⟩ := C
  intro H locs h1 h2 h3 la hla
  obtain ⟨hd, ho⟩ := zT_at ht hl
  have hlen : r.1 = 1 := by have h9 := ho; simp only [zok, beq_iff_eq] at h9; exact h9
  dsimp only at hd
  rw [hlen] at hd
  exact zend_go q hk hn (W.iret hx hb hret (fun t9 ht9 hW9 => ⟨_, h, sz, rfl, hO, by rw [ht9]; exact h1, by rw [ht9]; exact h2⟩) h3 hd hlk)
theorem Z_zret (C : zCx E G cc nL own nm (some .boolean) R) {O : zO} {mc ms : Nat} (q : zEnd E G O mc ms) (ht : zT cc t) {r : Nat × Int32 × Nat} (hl : t.lookup pc = some (.ireturn, r)) {v : Int32} (hv : v = 0 ∨ v = 1) (hO : O (.inl (some (.int v))) h sz) (hk : k ≤ mc) (hn : n ≤ ms) : Z E G h sz k n (pc, ls, [.int v]) := by
  obtain ⟨p, l, e, R', s, m, args, below, meth, c, Q⟩ := G
  obtain ⟨hE, rfl, hx, hb, hml, hown, hW, hlk, hret, -⟩ := C
  intro H locs h1 h2 h3 la hla
  obtain ⟨hd, ho⟩ := zT_at ht hl
  have hlen : r.1 = 1 := by have h9 := ho; simp only [zok, beq_iff_eq] at h9; exact h9
  dsimp only at hd
  rw [hlen] at hd
  exact zend_go q hk hn (W.zret hx hb hret (by rcases hv with rfl | rfl <;> rfl) (fun t9 ht9 hW9 => ⟨_, h, sz, rfl, hO, by rw [ht9]; exact h1, by rw [ht9]; exact h2⟩) h3 hd hlk)
theorem Z_lret (C : zCx E G cc nL own nm (some .long) R) {O : zO} {mc ms : Nat} (q : zEnd E G O mc ms) (ht : zT cc t) {r : Nat × Int32 × Nat} (hl : t.lookup pc = some (.lreturn, r)) {v : Int64} (hO : O (.inl (some (.long v))) h sz) (hk : k ≤ mc) (hn : n ≤ ms) : Z E G h sz k n (pc, ls, [.long v]) := by
  obtain ⟨p, l, e, R', s, m, args, below, meth, c, Q⟩ := G
  obtain ⟨hE, rfl, hx, hb, hml, hown, hW, hlk, hret, -⟩ := C
  intro H locs h1 h2 h3 la hla
  obtain ⟨hd, ho⟩ := zT_at ht hl
  have hlen : r.1 = 1 := by have h9 := ho; simp only [zok, beq_iff_eq] at h9; exact h9
  dsimp only at hd
  rw [hlen] at hd
  exact zend_go q hk hn (W.lret hx hb hret (fun t9 ht9 hW9 => ⟨_, h, sz, rfl, hO, by rw [ht9]; exact h1, by rw [ht9]; exact h2⟩) h3 hd hlk)
theorem Z_dret (C : zCx E G cc nL own nm (some .double) R) {O : zO} {mc ms : Nat} (q : zEnd E G O mc ms) (ht : zT cc t) {r : Nat × Int32 × Nat} (hl : t.lookup pc = some (.dreturn, r)) {v : UInt64} (hO : O (.inl (some (.double v))) h sz) (hk : k ≤ mc) (hn : n ≤ ms) : Z E G h sz k n (pc, ls, [.double v]) := by
  obtain ⟨p, l, e, R', s, m, args, below, meth, c, Q⟩ := G
  obtain ⟨hE, rfl, hx, hb, hml, hown, hW, hlk, hret, -⟩ := C
  intro H locs h1 h2 h3 la hla
  obtain ⟨hd, ho⟩ := zT_at ht hl
  have hlen : r.1 = 1 := by have h9 := ho; simp only [zok, beq_iff_eq] at h9; exact h9
  dsimp only at hd
  rw [hlen] at hd
  exact zend_go q hk hn (W.dret hx hb hret (fun t9 ht9 hW9 => ⟨_, h, sz, rfl, hO, by rw [ht9]; exact h1, by rw [ht9]; exact h2⟩) h3 hd hlk)
theorem Z_vret (C : zCx E G cc nL own nm none R) {O : zO} {mc ms : Nat} (q : zEnd E G O mc ms) (ht : zT cc t) {r : Nat × Int32 × Nat} (hl : t.lookup pc = some (.return_, r)) (hO : O (.inl none) h sz) (hk : k ≤ mc) (hn : n ≤ ms) : Z E G h sz k n (pc, ls, []) := by
  obtain ⟨p, l, e, R', s, m, args, below, meth, c, Q⟩ := G
  obtain ⟨hE, rfl, hx, hb, hml, hown, hW, hlk, hret, -⟩ := C
  intro H locs h1 h2 h3 la hla
  obtain ⟨hd, ho⟩ := zT_at ht hl
  have hlen : r.1 = 1 := by have h9 := ho; simp only [zok, beq_iff_eq] at h9; exact h9
  dsimp only at hd
  rw [hlen] at hd
  exact zend_go q hk hn (W.vret hx hb hret (fun t9 ht9 hW9 => ⟨_, h, sz, rfl, hO, by rw [ht9]; exact h1, by rw [ht9]; exact h2⟩) h3 hd hlk)
/-- not caught here -/
theorem Z_out (C : zCx E G cc nL own nm ret R) {O : zO} {mc ms : Nat} (q : zEndX E G O mc ms) {X : String} {tb : List ExceptionTableEntry} (hb : zTb G tb) (hp : ∀ x ∈ tb, covers x pc = false) (hO : O (.inr X) h sz) (hk : k ≤ mc) (hn : n ≤ ms) : Zt E G h sz k n (pc, ls, st) X := by
  obtain ⟨p, l, e, R', s, m, args, below, meth, c, Q⟩ := G
  obtain ⟨hE, rfl, hx, hbb, hml, hown, hW, hlk, hret, -⟩ := C
  intro H locs q9 ce h1 h2 h3 h4 h5 h6 la hla
  have q : Q = _ := q
  subst q
  exact vx_out (by intro x hx; exact hp x (by rw [← show c.exceptionTable.toList = tb from hb]; exact hx)) hlk h4 h5 h6 (fun t9 ht9 _ => ⟨h, sz, hO, by rw [ht9]; exact h1, by rw [ht9]; exact h2⟩) h3 hk hn
/-- caught here -/
theorem Z_catch (C : zCx E G cc nL own nm ret R) {X Xc : String} {tb pre suf : List ExceptionTableEntry} {x : ExceptionTableEntry} (hb : zTb G tb) (hs : tb = pre ++ x :: suf) (hpass : ∀ z ∈ pre, covers z pc = false ∨ (z.catchType ≠ 0 ∧ ∃ w : String, Cond.classLink own z.catchType w ∈ zWs ∧ (X, w) ∈ zNc)) (hx : covers x pc = true) (h0 : x.catchType ≠ 0) (hlk : Cond.classLink own x.catchType Xc ∈ zWs) (hca : Cond.castable X Xc ∈ lw_tbl) (kk : ∀ q : Nat, Z E G h sz k n (x.handlerPc, ls, [.ref q])) : Zt E G h sz k n (pc, ls, st) X := by
  obtain ⟨p, l, e, R', s, m, args, below, meth, c, Q⟩ := G
  obtain ⟨hE, rfl, hx9, hbb, hml, hown, hW, -⟩ := C
  intro H locs q9 ce h1 h2 h3 h4 h5 h6 la hla
  exact vx_catch (ce := ce) (name := Xc) (E := X) hown pre x suf ((show c.exceptionTable.toList = tb from hb).trans hs) (fun z hz => (hpass z hz).imp id (fun ⟨g1, w, g2, g3⟩ => ⟨g1, w, zmem_at hE hW g2, va_Nc.moved hW.alike (hE.2.2.2.2.2.2 _ _ g3)⟩)) hx h0 (zmem_at hE hW hlk) (zgw_at hW rfl (hE.1 _ hca rfl)) h4 h5 h6 (kk q9 H locs h1 h2 h3 la hla)
/-- what a throw of a new exception with a text asks of the tables -/
def zTw (own : String) (ik is ic : Nat) (X text : String) (names : List String) : Bool :=
  Bundle.fit X && names.all Bundle.fit && (vx_atS own ic X names).all (fun w => decide (w ∈ lw_tbl) && (zgw w && vx_ot w)) &&
  (decide (Cond.classLink own ik X ∈ zWs) && (vx_ot (Cond.classLink own ik X) && (decide (Cond.initialized X ∈ zWs) && (vx_ot (Cond.initialized X) && decide (Cond.stringRef own is text ∈ lw_tbl)))))
theorem Z_throw (C : zCx E G cc nL own nm ret R) {O : zO} {mc ms : Nat} (q : zEndX E G O mc ms) (hb : zTb G []) (ht : zT cc t) {ik is ic : Nat} {X text : String} {names : List String} {r0 r1 r2 r3 r4 : Nat × Int32 × Nat} (hw : zTw own ik is ic X text names = true) (l0 : t.lookup pc = some (.new ik, r0)) (l1 : t.lookup (pc + 3) = some (.dup, r1)) (l2 : t.lookup (pc + 4) = some (.ldc is, r2)) (l3 : t.lookup (pc + 6) = some (.invokespecial ic, r3)) (l4 : t.lookup (pc + 9) = some (.athrow, r4)) (hls : ls.length = nL) (hR : names.length + 3 < R.frames ∧ (st.map fun v => v.category).sum + (13 * (names.length + 1) + 43) ≤ R.locals ∧ k + 1 ≤ R.cells ∧ n + 6 ≤ R.slots) (hO : O (.inr X) h sz) (hk : k + 1 ≤ mc) (hn : n + 6 ≤ ms) : Z E G h sz k n (pc, ls, st) := by
  obtain ⟨p, l, e, R', s, m, args, below, meth, c, Q⟩ := G
  obtain ⟨hE, rfl, hx, hbb, hml, hown, hW, hlk, hret, hnme, hlt, hlo, hlow⟩ := C
  intro H locs h1 h2 h3 la hla
  have q : Q = _ := q
  subst q
  simp only [zTw, Bool.and_eq_true, decide_eq_true_eq, List.all_eq_true] at hw
  obtain ⟨⟨⟨w1, w2⟩, w3⟩, w4, w5, w6, w7, w8⟩ := hw
  obtain ⟨sa, hsa⟩ := hE.2.2.2.2.2.1 _ _ _ w8
  have d0 := zT_at ht l0
  have d1 := zT_at ht l1
  have d2 := zT_at ht l2
  have d3 := zT_at ht l3
  have d4 := zT_at ht l4
  dsimp only at d0 d1 d2 d3 d4
  simp only [zok, beq_iff_eq] at d0 d1 d2 d3 d4
  rw [d0.2] at d0; rw [d1.2] at d1; rw [d2.2] at d2; rw [d3.2] at d3; rw [d4.2] at d4
  have htb : c.exceptionTable.toList = [] := hb
  have hS : va_S (zA E) s.heap H locs := ⟨h2, fun q9 g1 g2 => by
    have g3 : q9 < zB E := Nat.not_le.mp g2
    rw [h1.2.2.1 q9 g3, hlow q9 g3], h3⟩
  have mv : ∀ {f d : String}, vx_Zq Bundle.tN f d (zA E) E.1 E.1.heap → vx_Zq Bundle.tN f d (zA E) s s.heap := fun hz => vx_Zq.moved hW.alike (hz.kept (fun a g1 g2 => hlow a (Nat.not_le.mp g2)))
  exact vx_throwS (text := text) (names := names) (sa := sa) (A := zA E) hx hbb hlt hown w1 w2 (zmem_at hE hW w4) (zmem_at hE hW w6) (vk_R.warm hW hsa) (fun w hw => zgw_at hW (w3 w hw).2.1 (hE.1 w (w3 w hw).1 (w3 w hw).2.1)) (fun w hw => by
      rcases List.mem_cons.mp hw with rfl | hw
      · exact w5
      · rcases List.mem_cons.mp hw with rfl | hw
        · exact w7
        · exact (w3 w hw).2.2) (mv hE.2.2.2.1) (mv hE.2.2.2.2.1) hS (by rw [hml, ← hls]; exact hla.1) d0.1 d1.1 d2.1 d3.1 d4.1 (by intro x hx9; rw [htb] at hx9; cases hx9) hR.1 hR.2.1 hR.2.2.1 hR.2.2.2 hlk (fun t9 _ g1 g2 => ⟨h, sz, hO, ⟨h1.1, Nat.le_trans h1.2.1 g1, fun q9 g3 => by rw [g2 q9 (Nat.lt_of_lt_of_le g3 (Nat.le_trans h1.1 h1.2.1))]; exact h1.2.2.1 q9 g3, fun a c9 g3 => ⟨(h1.2.2.2 a c9 g3).1, (h1.2.2.2 a c9 g3).2.kept (g2 a (Nat.lt_of_lt_of_le (h1.2.2.2 a c9 g3).1 h1.2.1))⟩⟩, Nat.le_trans h2 g1⟩) h3 hk hn
theorem Z_throwW (C : zCx E G cc nL own nm ret R) {O : zO} {mc ms : Nat} (q : zEndX E G O mc ms) (hb : zTb G []) (ht : zT cc t) {ik is ic : Nat} {X text : String} {names : List String} {r0 r1 r2 r3 r4 : Nat × Int32 × Nat} (hw : zTw own ik is ic X text names = true) (l0 : t.lookup pc = some (.new ik, r0)) (l1 : t.lookup (pc + 3) = some (.dup, r1)) (l2 : t.lookup (pc + 4) = some (.ldc_w is, r2)) (l3 : t.lookup (pc + 7) = some (.invokespecial ic, r3)) (l4 : t.lookup (pc + 10) = some (.athrow, r4)) (hls : ls.length = nL) (hR : names.length + 3 < R.frames ∧ (st.map fun v => v.category).sum + (13 * (names.length + 1) + 43) ≤ R.locals ∧ k + 1 ≤ R.cells ∧ n + 6 ≤ R.slots) (hO : O (.inr X) h sz) (hk : k + 1 ≤ mc) (hn : n + 6 ≤ ms) : Z E G h sz k n (pc, ls, st) := by
  obtain ⟨p, l, e, R', s, m, args, below, meth, c, Q⟩ := G
  obtain ⟨hE, rfl, hx, hbb, hml, hown, hW, hlk, hret, hnme, hlt, hlo, hlow⟩ := C
  intro H locs h1 h2 h3 la hla
  have q : Q = _ := q
  subst q
  simp only [zTw, Bool.and_eq_true, decide_eq_true_eq, List.all_eq_true] at hw
  obtain ⟨⟨⟨w1, w2⟩, w3⟩, w4, w5, w6, w7, w8⟩ := hw
  obtain ⟨sa, hsa⟩ := hE.2.2.2.2.2.1 _ _ _ w8
  have d0 := zT_at ht l0
  have d1 := zT_at ht l1
  have d2 := zT_at ht l2
  have d3 := zT_at ht l3
  have d4 := zT_at ht l4
  dsimp only at d0 d1 d2 d3 d4
  simp only [zok, beq_iff_eq] at d0 d1 d2 d3 d4
  rw [d0.2] at d0; rw [d1.2] at d1; rw [d2.2] at d2; rw [d3.2] at d3; rw [d4.2] at d4
  have htb : c.exceptionTable.toList = [] := hb
  have hS : va_S (zA E) s.heap H locs := ⟨h2, fun q9 g1 g2 => by
    have g3 : q9 < zB E := Nat.not_le.mp g2
    rw [h1.2.2.1 q9 g3, hlow q9 g3], h3⟩
  have mv : ∀ {f d : String}, vx_Zq Bundle.tN f d (zA E) E.1 E.1.heap → vx_Zq Bundle.tN f d (zA E) s s.heap := fun hz => vx_Zq.moved hW.alike (hz.kept (fun a g1 g2 => hlow a (Nat.not_le.mp g2)))
  exact vx_throwSW (text := text) (names := names) (sa := sa) (A := zA E) hx hbb hlt hown w1 w2 (zmem_at hE hW w4) (zmem_at hE hW w6) (vk_R.warm hW hsa) (fun w hw => zgw_at hW (w3 w hw).2.1 (hE.1 w (w3 w hw).1 (w3 w hw).2.1)) (fun w hw => by
      rcases List.mem_cons.mp hw with rfl | hw
      · exact w5
      · rcases List.mem_cons.mp hw with rfl | hw
        · exact w7
        · exact (w3 w hw).2.2) (mv hE.2.2.2.1) (mv hE.2.2.2.2.1) hS (by rw [hml, ← hls]; exact hla.1) d0.1 d1.1 d2.1 d3.1 d4.1 (by intro x hx9; rw [htb] at hx9; cases hx9) hR.1 hR.2.1 hR.2.2.1 hR.2.2.2 hlk (fun t9 _ g1 g2 => ⟨h, sz, hO, ⟨h1.1, Nat.le_trans h1.2.1 g1, fun q9 g3 => by rw [g2 q9 (Nat.lt_of_lt_of_le g3 (Nat.le_trans h1.1 h1.2.1))]; exact h1.2.2.1 q9 g3, fun a c9 g3 => ⟨(h1.2.2.2 a c9 g3).1, (h1.2.2.2 a c9 g3).2.kept (g2 a (Nat.lt_of_lt_of_le (h1.2.2.2 a c9 g3).1 h1.2.1))⟩⟩, Nat.le_trans h2 g1⟩) h3 hk hn
end ZC1
end
section
/-! ===== the flat memory: 53 cells of known shape at the addresses ad 0 .. ad 52; V i k is the whole number at place k of cell i, P i k another value there; PH holds the positions ===== -/
/-- ad: where a cell lies; ix: which cell lies there; the script's length and its ints -/
abbrev zD : Type := (Nat → Nat) × (Nat → Nat) × Nat × (Nat → Int32)
def zKW : Nat → Int32
  | 0 => 1
  | 1 => 1
  | 2 => 3
  | 3 => 5
  | _ => 3
def zUP : Nat → Int32
  | 0 => 1 | 1 => -1 | 2 => 0 | 3 => 0 | 4 => 1 | 5 => 1 | 6 => -1 | 7 => -1
  | 8 => 2 | 9 => 2 | 10 => 1 | 11 => 1 | 12 => -1 | 13 => -1 | 14 => -2 | _ => -2
def zRT : Nat → Int32
  | 0 => 0 | 1 => 0 | 2 => 1 | 3 => -1 | 4 => 1 | 5 => -1 | 6 => 1 | 7 => -1
  | 8 => 1 | 9 => -1 | 10 => 2 | 11 => -2 | 12 => 2 | 13 => -2 | 14 => 1 | _ => -1
def zFD : Nat → Int32
  | 0 => 0 | 1 => 4 | 2 => 8 | 3 => 0 | _ => 4
def zLD : Nat → Int32
  | 0 => 3 | 1 => 7 | 2 => 15 | 3 => 3 | _ => 7
def zFA : Nat → Int32
  | 0 => 1 | 1 => 1 | 2 => 1 | 3 => 5 | _ => 5
def mkG (D : zD) (i : Nat) (v : Nat → Int32) (r : Nat → Value) : aC := (1, 0, fun k => match k with
  | 0 => .ref (D.1 (i + 1))
  | 1 => .ref (D.1 (i + 3))
  | 2 => .ref (D.1 (i + 4))
  | 7 => r 7
  | k => .int (v k))
def mkI (n : Nat) (v : Nat → Int32) : aC := (10, n, fun k => .int (v k))
def mkB (D : zD) (i : Nat) : aC := (0, 0, fun _ => .ref (D.1 (i + 1)))
def mk (D : zD) (i : Nat) (v : Nat → Int32) (r : Nat → Value) : aC := match i with
  | 0 => (5, 0, fun k => match k with
    | 0 => .ref (D.1 1)
    | 1 => .ref (D.1 6)
    | 2 => .ref (D.1 33)
    | _ => .ref (D.1 35))
  | 1 => mkG D 1 v r
  | 2 => mkB D 2
  | 3 => mkI 36 v
  | 4 => mkI 2 v
  | 5 => mkI 2 v
  | 6 => (2, 0, fun k => match k with
    | 0 => .ref (D.1 7)
    | k => .int (v k))
  | 7 => (14, 5, r)
  | 8 => mkG D 8 v r
  | 9 => mkB D 9
  | 10 => mkI 36 v
  | 11 => mkI 2 v
  | 12 => mkI 2 v
  | 13 => mkG D 13 v r
  | 14 => mkB D 14
  | 15 => mkI 36 v
  | 16 => mkI 2 v
  | 17 => mkI 2 v
  | 18 => mkG D 18 v r
  | 19 => mkB D 19
  | 20 => mkI 36 v
  | 21 => mkI 2 v
  | 22 => mkI 2 v
  | 23 => mkG D 23 v r
  | 24 => mkB D 24
  | 25 => mkI 36 v
  | 26 => mkI 2 v
  | 27 => mkI 2 v
  | 28 => mkG D 28 v r
  | 29 => mkB D 29
  | 30 => mkI 36 v
  | 31 => mkI 2 v
  | 32 => mkI 2 v
  | 33 => (3, 0, fun k => match k with
    | 0 => .ref (D.1 34)
    | k => .int (v k))
  | 34 => (13, 60, fun k => .int (v k))
  | 35 => mkB D 35
  | 36 => mkI 36 v
  | 37 => (6, 0, fun k => match k with
    | 0 => .ref (D.1 38)
    | 1 => .ref (D.1 39)
    | 3 => .ref (D.1 40)
    | 4 => .ref (D.1 41)
    | 5 => .ref (D.1 42)
    | 6 => .ref (D.1 43)
    | k => .int (v k))
  | 38 => mkI 60 v
  | 39 => mkI 300 v
  | 40 => mkI 6300 v
  | 41 => mkI 36 v
  | 42 => mkI 40 v
  | 43 => (13, 60, fun k => .int (v k))
  | 44 => (11, 1, r)
  | 45 => (12, 1, r)
  | 46 => (15, 5, fun k => .int (zKW k))
  | 47 => (15, 16, fun k => .int (zUP k))
  | 48 => (15, 16, fun k => .int (zRT k))
  | 49 => (15, 5, fun k => .int (zFD k))
  | 50 => (15, 5, fun k => .int (zLD k))
  | 51 => (15, 5, fun k => .int (zFA k))
  | _ => (15, D.2.2.1, fun k => .int (D.2.2.2 k))
/-- the places of cell i that hold whole numbers that may be written -/
def mkW (i k : Nat) : Bool := match i with
  | 0 => false
  | 1 => k != 0 && k != 1 && k != 2 && k != 7
  | 2 => false
  | 6 => k != 0
  | 7 => false
  | 8 => k != 0 && k != 1 && k != 2 && k != 7
  | 9 => false
  | 13 => k != 0 && k != 1 && k != 2 && k != 7
  | 14 => false
  | 18 => k != 0 && k != 1 && k != 2 && k != 7
  | 19 => false
  | 23 => k != 0 && k != 1 && k != 2 && k != 7
  | 24 => false
  | 28 => k != 0 && k != 1 && k != 2 && k != 7
  | 29 => false
  | 33 => k != 0
  | 35 => false
  | 37 => k != 0 && k != 1 && k != 3 && k != 4 && k != 5 && k != 6
  | 44 => false
  | 45 => false
  | i => decide (i < 46)
/-- the places that hold other values that may be written -/
def mkR (i k : Nat) : Bool := match i with
  | 1 => k == 7
  | 7 => true
  | 8 => k == 7
  | 13 => k == 7
  | 18 => k == 7
  | 23 => k == 7
  | 28 => k == 7
  | 44 => true
  | 45 => true
  | _ => false
def vset (V : Nat → Nat → Int32) (i k : Nat) (x : Int32) : Nat → Nat → Int32 := fun j => if j = i then upd (V i) k x else V j
def pset (P : Nat → Nat → Value) (i k : Nat) (x : Value) : Nat → Nat → Value := fun j => if j = i then updV (P i) k x else P j
theorem vset_s {V : Nat → Nat → Int32} {i k : Nat} {x : Int32} : vset V i k x i = upd (V i) k x := by simp [vset]
theorem vset_n {V : Nat → Nat → Int32} {i j k : Nat} {x : Int32} (h : j ≠ i) : vset V i k x j = V j := by simp [vset, h]
theorem pset_s {P : Nat → Nat → Value} {i k : Nat} {x : Value} : pset P i k x i = updV (P i) k x := by simp [pset]
theorem pset_n {P : Nat → Nat → Value} {i j k : Nat} {x : Value} (h : j ≠ i) : pset P i k x j = P j := by simp [pset, h]
def zDok (E : zE) (D : zD) : Prop := (∀ i : Nat, i < 53 → D.2.1 (D.1 i) = i) ∧ (∀ i : Nat, i < 46 → zB E ≤ D.1 i) ∧
  zSt E R_Pc "KIND_WORTH" "[I" (.ref (D.1 46)) ∧ zSt E R_Bd "UP" "[I" (.ref (D.1 47)) ∧ zSt E R_Bd "RIGHT" "[I" (.ref (D.1 48)) ∧
  zSt E R_Bd "FIRST_DIRECTION" "[I" (.ref (D.1 49)) ∧ zSt E R_Bd "LAST_DIRECTION" "[I" (.ref (D.1 50)) ∧ zSt E R_Bd "FARTHEST" "[I" (.ref (D.1 51))
def HM (D : zD) (V : Nat → Nat → Int32) (P : Nat → Nat → Value) (PH : aH) : aH := fun a => if D.2.1 a < 53 ∧ D.1 (D.2.1 a) = a then some (mk D (D.2.1 a) (V (D.2.1 a)) (P (D.2.1 a))) else PH a
theorem HM_at {E : zE} {D : zD} {V : Nat → Nat → Int32} {P : Nat → Nat → Value} {PH : aH} (hD : zDok E D) {i : Nat} (hi : i < 53) : HM D V P PH (D.1 i) = some (mk D i (V i) (P i)) := by
  unfold HM
  rw [hD.1 i hi, if_pos ⟨hi, rfl⟩]
theorem HM_set {E : zE} {D : zD} {V V2 : Nat → Nat → Int32} {P P2 : Nat → Nat → Value} {PH : aH} (hD : zDok E D) {i : Nat} (hi : i < 53) {c : aC} (hc : mk D i (V2 i) (P2 i) = c) (hV : ∀ j, j ≠ i → V2 j = V j) (hP : ∀ j, j ≠ i → P2 j = P j) : hset (HM D V P PH) (D.1 i) c = HM D V2 P2 PH := by
  funext a
  by_cases e : a = D.1 i
  · subst e
    rw [hset_s, HM_at hD hi, hc]
  · rw [hset_n e]
    unfold HM
    by_cases g : D.2.1 a < 53 ∧ D.1 (D.2.1 a) = a
    · rw [if_pos g, if_pos g]
      have hne : D.2.1 a ≠ i := fun z => e (by rw [← g.2, z])
      rw [hV _ hne, hP _ hne]
    · rw [if_neg g, if_neg g]
theorem updV_int {v : Nat → Int32} {k : Nat} {x : Int32} : updV (fun j => Value.int (v j)) k (.int x) = fun j => Value.int (upd v k x j) := by
  funext j
  by_cases h : j = k <;> simp [updV, upd, h]
theorem mk_w {D : zD} {i k : Nat} {v : Nat → Int32} {r : Nat → Value} {x : Int32} (h : mkW i k = true) : mk D i (upd v k x) r = ((mk D i v r).1, (mk D i v r).2.1, updV (mk D i v r).2.2 k (.int x)) := by
  have A : ∀ n, mkI n (upd v k x) = ((mkI n v).1, (mkI n v).2.1, updV (mkI n v).2.2 k (.int x)) := fun n => by
    unfold mkI
    dsimp only
    rw [updV_int]
  have B : ∀ i, (k ≠ 0 ∧ k ≠ 1 ∧ k ≠ 2 ∧ k ≠ 7) → mkG D i (upd v k x) r = ((mkG D i v r).1, (mkG D i v r).2.1, updV (mkG D i v r).2.2 k (.int x)) := fun i hk => by
    unfold mkG
    dsimp only
    congr 2
    funext j
    by_cases hj : j = k
    · subst hj
      obtain ⟨h0, h1, h2, h7⟩ := hk
      split <;> simp_all [updV, upd]
    · split <;> simp_all [updV, upd]
  have hW := h
  unfold mkW at hW
  unfold mk
  split <;> simp only [Bool.and_eq_true, bne_iff_ne, ne_eq, reduceCtorEq, Bool.false_eq_true] at hW <;> first | exact A _ | exact B _ ⟨hW.1.1.1, hW.1.1.2, hW.1.2, hW.2⟩ | skip
  · congr 2
    funext j
    by_cases hj : j = k
    · subst hj
      split <;> simp_all [updV, upd]
    · split <;> simp_all [updV, upd]
  · congr 2
    funext j
    by_cases hj : j = k
    · subst hj
      split <;> simp_all [updV, upd]
    · split <;> simp_all [updV, upd]
  · rw [updV_int]
  · congr 2
    funext j
    by_cases hj : j = k
    · subst hj
      split <;> simp_all [updV, upd]
    · split <;> simp_all [updV, upd]
  · rw [updV_int]
  all_goals (exfalso; revert hW; simp_all <;> omega)
theorem mk_r {D : zD} {i k : Nat} {v : Nat → Int32} {r : Nat → Value} {x : Value} (h : mkR i k = true) : mk D i v (updV r k x) = ((mk D i v r).1, (mk D i v r).2.1, updV (mk D i v r).2.2 k x) := by
  have B : ∀ i, k = 7 → mkG D i v (updV r k x) = ((mkG D i v r).1, (mkG D i v r).2.1, updV (mkG D i v r).2.2 k x) := fun i hk => by
    subst hk
    unfold mkG
    dsimp only
    congr 2
    funext j
    by_cases hj : j = 7
    · subst hj
      simp [updV]
    · split <;> simp_all [updV]
  have hR := h
  unfold mkR at hR
  split at hR <;> first | exact B _ (by simpa using hR) | rfl | exact absurd hR (by simp)
section ZMR
variable {E : zE} {G : zG} {cc : ByteArray} {nL : Nat} {own nm : String} {ret : Option FieldType} {R : Room} {sz k n : Nat} {t : List zI} {pc : Nat} {ls : zL} {st rest : List Value} {D : zD} {V : Nat → Nat → Int32} {P : Nat → Nat → Value} {PH : aH}
theorem Zm_get (C : zCx E G cc nL own nm ret R) (ht : zT cc t) (hD : zDok E D) {idx : Nat} {r : Nat × Int32 × Nat} (hl : t.lookup pc = some (.getfield idx, r)) (i : Nat) {ci nn N j : Nat} {fs : Nat → Value} {Cn : String} {T : u_T} (hwi : ∀ w ∈ u_ws Cn T N, w ∈ zWs) (hi : i < 53) (hc : mk D i (V i) (P i) = (ci, nn, fs)) (hci : zCl[ci]? = some (Cn, T, N)) (hj : j < N) (hlink : Cond.fieldLink own idx (T j).1 (T j).2.1 (T j).2.2.1 ∈ zWs) {v : Value} (hv : fs j = v) (kk : Z E G (HM D V P PH) sz k n (pc + 3, ls, v :: rest)) : Z E G (HM D V P PH) sz k n (pc, ls, .ref (D.1 i) :: rest) :=
  Z_getf C ht hl hwi (by rw [HM_at hD hi, hc]) hci hj hlink hv kk
theorem Zm_ald (C : zCx E G cc nL own nm ret R) (ht : zT cc t) (hD : zDok E D) (i tg : Nat) {r : Nat × Int32 × Nat} (hl : t.lookup pc = some (zld tg, r)) {nn j : Nat} {x : Int32} {fs : Nat → Value} (hi : i < 53) (hc : mk D i (V i) (P i) = (tg, nn, fs)) (h7 : 10 ≤ tg ∧ tg < 16) (hnn : nn < 2 ^ 31) (hx : x = nI j) (hj : j < nn) {v : Value} (hv : fs j = v) (kk : Z E G (HM D V P PH) sz k n (pc + 1, ls, v :: rest)) : Z E G (HM D V P PH) sz k n (pc, ls, .int x :: .ref (D.1 i) :: rest) :=
  Z_ald C ht hl (by rw [HM_at hD hi, hc]) h7 hx hj hnn hv kk
theorem Zm_put (C : zCx E G cc nL own nm ret R) (ht : zT cc t) (hD : zDok E D) {idx : Nat} {r : Nat × Int32 × Nat} (hl : t.lookup pc = some (.putfield idx, r)) (i : Nat) {ci nn N j : Nat} {fs : Nat → Value} {Cn : String} {T : u_T} (hwi : ∀ w ∈ u_ws Cn T N, w ∈ zWs) (ty : Nat → FieldType) (hty : ∀ k, k < N → parseFieldDescriptor (T k).2.2.1 = some (ty k)) (hnm : ∀ a, a < N → ∀ b, b < N → a ≠ b → (T a).2.1 ≠ (T b).2.1) (hi : i < 46) (hc : mk D i (V i) (P i) = (ci, nn, fs)) (hci : zCl[ci]? = some (Cn, T, N)) (hj : j < N) (hlink : Cond.fieldLink own idx (T j).1 (T j).2.1 (T j).2.2.1 ∈ zWs) (hfin : (T j).2.2.2 = false) (hw : mkW i j = true) {x : Int32} (hn : narrow (ty j) (.int x) = .int x) (hfit : fits (ty j) (.int x) = true) (kk : Z E G (HM D (vset V i j x) P PH) sz k n (pc + 3, ls, rest)) : Z E G (HM D V P PH) sz k n (pc, ls, .int x :: .ref (D.1 i) :: rest) := by
  refine Z_putf C ht hl hwi ty hty hnm (by rw [HM_at hD (by omega), hc]) hci hj hlink (Or.inl hfin) hn hfit (hD.2.1 i hi) ?_
  rw [HM_set (V2 := vset V i j x) (P2 := P) hD (by omega) (by rw [vset_s, mk_w hw, hc]) (fun b hb => vset_n hb) (fun _ _ => rfl)]
  exact kk
theorem Zm_putr (C : zCx E G cc nL own nm ret R) (ht : zT cc t) (hD : zDok E D) {idx : Nat} {r : Nat × Int32 × Nat} (hl : t.lookup pc = some (.putfield idx, r)) (i : Nat) {ci nn N j : Nat} {fs : Nat → Value} {Cn : String} {T : u_T} (hwi : ∀ w ∈ u_ws Cn T N, w ∈ zWs) (ty : Nat → FieldType) (hty : ∀ k, k < N → parseFieldDescriptor (T k).2.2.1 = some (ty k)) (hnm : ∀ a, a < N → ∀ b, b < N → a ≠ b → (T a).2.1 ≠ (T b).2.1) (hi : i < 46) (hc : mk D i (V i) (P i) = (ci, nn, fs)) (hci : zCl[ci]? = some (Cn, T, N)) (hj : j < N) (hlink : Cond.fieldLink own idx (T j).1 (T j).2.1 (T j).2.2.1 ∈ zWs) (hfin : (T j).2.2.2 = false) (hw : mkR i j = true) {x : Value} (hn : narrow (ty j) x = x) (hfit : fits (ty j) x = true) (kk : Z E G (HM D V (pset P i j x) PH) sz k n (pc + 3, ls, rest)) : Z E G (HM D V P PH) sz k n (pc, ls, x :: .ref (D.1 i) :: rest) := by
  refine Z_putf C ht hl hwi ty hty hnm (by rw [HM_at hD (by omega), hc]) hci hj hlink (Or.inl hfin) hn hfit (hD.2.1 i hi) ?_
  rw [HM_set (V2 := V) (P2 := pset P i j x) hD (by omega) (by rw [pset_s, mk_r hw, hc]) (fun _ _ => rfl) (fun b hb => pset_n hb)]
  exact kk
theorem Zm_ast (C : zCx E G cc nL own nm ret R) (ht : zT cc t) (hD : zDok E D) (i tg : Nat) {r : Nat × Int32 × Nat} (hl : t.lookup pc = some (zst tg, r)) {nn j : Nat} {x y : Int32} {fs : Nat → Value} (hi : i < 46) (hc : mk D i (V i) (P i) = (tg, nn, fs)) (hnn : nn < 2 ^ 31) (hx : x = nI j) (hj : j < nn) (hv : zfit tg (.int y)) (hw : mkW i j = true) (kk : Z E G (HM D (vset V i j y) P PH) sz k n (pc + 1, ls, rest)) : Z E G (HM D V P PH) sz k n (pc, ls, .int y :: .int x :: .ref (D.1 i) :: rest) := by
  refine Z_ast C ht hl (by rw [HM_at hD (by omega), hc]) hx hj hnn hv (hD.2.1 i hi) ?_
  rw [HM_set (V2 := vset V i j y) (P2 := P) hD (by omega) (by rw [vset_s, mk_w hw, hc]) (fun b hb => vset_n hb) (fun _ _ => rfl)]
  exact kk
theorem Zm_astr (C : zCx E G cc nL own nm ret R) (ht : zT cc t) (hD : zDok E D) (i tg : Nat) {r : Nat × Int32 × Nat} (hl : t.lookup pc = some (zst tg, r)) {nn j : Nat} {x : Int32} {y : Value} {fs : Nat → Value} (hi : i < 46) (hc : mk D i (V i) (P i) = (tg, nn, fs)) (hnn : nn < 2 ^ 31) (hx : x = nI j) (hj : j < nn) (hv : zfit tg y) (hw : mkR i j = true) (kk : Z E G (HM D V (pset P i j y) PH) sz k n (pc + 1, ls, rest)) : Z E G (HM D V P PH) sz k n (pc, ls, y :: .int x :: .ref (D.1 i) :: rest) := by
  refine Z_ast C ht hl (by rw [HM_at hD (by omega), hc]) hx hj hnn hv (hD.2.1 i hi) ?_
  rw [HM_set (V2 := V) (P2 := pset P i j y) hD (by omega) (by rw [pset_s, mk_r hw, hc]) (fun _ _ => rfl) (fun b hb => pset_n hb)]
  exact kk
end ZMR
/-- a whole number as a natural one -/
def pn (x : Int32) : Nat := x.toBitVec.toNat
theorem nI_pn (x : Int32) : nI (pn x) = x := by
  have h : (nI (pn x)).toBitVec = x.toBitVec := by simp [nI, pn, Int32.ofNat]
  exact Int32.toBitVec_inj.mp h
theorem pn_nI {a : Nat} (h : a < 2 ^ 32) : pn (nI a) = a := pk_tn h
end
section
/-! ===== rows for the walks that a program lays ===== -/
def zRet (v : Option Value) (h : aH) (sz : Nat) : zO := fun o h2 sz2 => o = .inl v ∧ h2 = h ∧ sz2 = sz
/-- an answer, or an exception of a class: nothing changes but v's world -/
def zThr (X : String) (h : aH) (sz : Nat) : zO := fun o h2 sz2 => o = .inr X ∧ h2 = h ∧ sz2 = sz
theorem zRet_i {h : aH} {sz : Nat} {v w : Int32} (e : v = w) : zRet (some (.int w)) h sz (.inl (some (.int v))) h sz := ⟨by rw [e], rfl, rfl⟩
theorem zRet_l {h : aH} {sz : Nat} {v w : Int64} (e : v = w) : zRet (some (.long w)) h sz (.inl (some (.long v))) h sz := ⟨by rw [e], rfl, rfl⟩
theorem zRet_v {h : aH} {sz : Nat} : zRet none h sz (.inl none) h sz := ⟨rfl, rfl, rfl⟩
theorem zRet_iH {h h2 : aH} {sz : Nat} {v w : Int32} (e : v = w) (e2 : h = h2) : zRet (some (.int w)) h2 sz (.inl (some (.int v))) h sz := ⟨by rw [e], e2, rfl⟩
theorem zRet_vH {h h2 : aH} {sz : Nat} (e2 : h = h2) : zRet none h2 sz (.inl none) h sz := ⟨rfl, e2, rfl⟩
def bI (b : Bool) : Int32 := if b then 1 else 0
theorem bI_0 {b : Bool} : bI b = 0 ↔ b = false := by cases b <;> decide
theorem bI_1 {b : Bool} : ¬ bI b = 0 ↔ b = true := by cases b <;> decide
theorem bI_v {b : Bool} : bI b = 0 ∨ bI b = 1 := by cases b <;> decide
theorem bI_t {b : Bool} (h : b = true) : (1 : Int32) = bI b := by rw [h]; rfl
theorem bI_f {b : Bool} (h : b = false) : (0 : Int32) = bI b := by rw [h]; rfl
theorem nI_e0 {a : Nat} (h : a < 2 ^ 31) : nI a = 0 ↔ a = 0 := by
  rw [← nI_0]
  exact nI_eq h (by decide)
theorem nI_div {a d : Nat} (ha : a < 2 ^ 31) (h0 : 0 < d) (hd : d < 2 ^ 31) : nI a / nI d = nI (a / d) := pk_div ha h0 hd
theorem nI_mod {a d : Nat} (ha : a < 2 ^ 31) (h0 : 0 < d) (hd : d < 2 ^ 31) : nI a % nI d = nI (a % d) := by
  rw [← irem_eq_mod]
  exact pk_rem ha h0 hd
theorem nI_sub {a b : Nat} (h : b ≤ a) : nI a - nI b = nI (a - b) := pk_sub h
theorem nI_mul (a b : Nat) : nI a * nI b = nI (a * b) := pk_mul a b
section ZRR
variable {E : zE} {G : zG} {cc : ByteArray} {nL : Nat} {own nm : String} {ret : Option FieldType} {R : Room} {h : aH} {sz k n : Nat} {t : List zI} {pc : Nat} {ls : zL} {st rest : List Value} {D : zD} {V : Nat → Nat → Int32} {P : Nat → Nat → Value} {PH : aH}
theorem Zr_callV (C : zCx E G cc nL own nm ret R) (ht : zT cc t) (hD : zDok E D) {idx : Nat} {r : Nat × Int32 × Nat} (hl : t.lookup pc = some (.invokevirtual idx, r)) {y : MethodName} {c9 : ByteArray} {n9 a : Nat} {r9 : Option FieldType} {rm : Room} (hp : zPv y c9 n9 r9 a) (hlk : Cond.methodLink own idx y ∈ zWs) (i : Nat) (hi : i < 53) {ci nn N : Nat} {fs : Nat → Value} {T : u_T} (hc : mk D i (V i) (P i) = (ci, nn, fs)) (hci : zCl[ci]? = some (y.cls, T, N)) (As : List Value) {v : Option Value} {h2 : aH} {sz2 : Nat} (hM : zM E (zGl G) y [.code y c9 n9 r9] rm (.ref (D.1 i) :: As) (HM D V P PH) sz (zRet v h2 sz2)) (hst : st = As.reverse ++ .ref (D.1 i) :: rest) (ha : As.length = a) (hR : zRm rm R n9 k n) (hcat : (rest.map fun v => v.category).sum ≤ 8) (hls : ls.length = nL)
    (kk : Z E G h2 sz2 (k + rm.cells) (n + rm.slots) (pc + 3, ls, v.toList ++ rest)) : Z E G (HM D V P PH) sz k n (pc, ls, st) :=
  Z_callV C ht hl hp hlk As hM hst ha (by rw [HM_at hD hi, hc]) hci hR hcat hls (fun w h3 sz3 hO => by obtain ⟨e1, rfl, rfl⟩ := hO; cases e1; exact kk) (fun X h3 sz3 hO => by cases hO.1)
theorem Zr_callS (C : zCx E G cc nL own nm ret R) (ht : zT cc t) {idx : Nat} {r : Nat × Int32 × Nat} (hl : t.lookup pc = some (.invokestatic idx, r)) {y : MethodName} {c9 : ByteArray} {n9 a : Nat} {r9 : Option FieldType} {rm : Room} (hp : zPs y c9 n9 r9 a) (hlk : Cond.methodLink own idx y ∈ zWs) (As : List Value) {v : Option Value} {h2 : aH} {sz2 : Nat} (hM : zM E (zGl G) y [.code y c9 n9 r9] rm As h sz (zRet v h2 sz2)) (hst : st = As.reverse ++ rest) (ha : As.length = a) (hR : zRm rm R n9 k n) (hcat : (rest.map fun v => v.category).sum ≤ 8) (hls : ls.length = nL)
    (kk : Z E G h2 sz2 (k + rm.cells) (n + rm.slots) (pc + 3, ls, v.toList ++ rest)) : Z E G h sz k n (pc, ls, st) :=
  Z_callS C ht hl hp hlk As hM hst ha hR hcat hls (fun w h3 sz3 hO => by obtain ⟨e1, rfl, rfl⟩ := hO; cases e1; exact kk) (fun X h3 sz3 hO => by cases hO.1)
end ZRR
end
section
/-! ===== rooms of the methods, what the tables say of them (by program) ===== -/
abbrev rm_Xx_init : Room := { frames := 4, cells := 36, slots := 400, locals := 81 }
theorem p_Xx_init : zPk y_Xx_init c_Xx_init 1 0 := ⟨wc_Xx_init, ws_Xx_init, rfl, wn_Xx_init, by decide +kernel, by decide +kernel⟩
abbrev rm_Gm_init : Room := { frames := 2, cells := 4, slots := 41, locals := 40 }
theorem p_Gm_init : zPk y_Gm_init c_Gm_init 1 0 := ⟨wc_Gm_init, ws_Gm_init, rfl, wn_Gm_init, by decide +kernel, by decide +kernel⟩
abbrev rm_Bd_init : Room := { frames := 1, cells := 1, slots := 36, locals := 20 }
theorem p_Bd_init : zPk y_Bd_init c_Bd_init 1 0 := ⟨wc_Bd_init, ws_Bd_init, rfl, wn_Bd_init, by decide +kernel, by decide +kernel⟩
abbrev rm_Hs_init : Room := { frames := 3, cells := 26, slots := 250, locals := 60 }
theorem p_Hs_init : zPk y_Hs_init c_Hs_init 2 0 := ⟨wc_Hs_init, ws_Hs_init, rfl, wn_Hs_init, by decide +kernel, by decide +kernel⟩
abbrev rm_Tx_init : Room := { frames := 1, cells := 1, slots := 60, locals := 20 }
theorem p_Tx_init : zPk y_Tx_init c_Tx_init 1 0 := ⟨wc_Tx_init, ws_Tx_init, rfl, wn_Tx_init, by decide +kernel, by decide +kernel⟩
abbrev rm_Xx_clearText : Room := { frames := 1, cells := 0, slots := 0, locals := 21 }
theorem p_Xx_clearText : zPv y_Xx_clearText c_Xx_clearText 1 (some .int) 0 := ⟨wc_Xx_clearText, ws_Xx_clearText, wv_Xx_clearText, wn_Xx_clearText, by decide +kernel, by decide +kernel⟩
abbrev rm_Tx_empty : Room := { frames := 0, cells := 0, slots := 0, locals := 0 }
theorem p_Tx_empty : zPv y_Tx_empty c_Tx_empty 2 (some .int) 0 := ⟨wc_Tx_empty, ws_Tx_empty, wv_Tx_empty, wn_Tx_empty, by decide +kernel, by decide +kernel⟩
abbrev rm_Xx_isValid : Room := { frames := 4, cells := 0, slots := 0, locals := 84 }
theorem p_Xx_isValid : zPv y_Xx_isValid c_Xx_isValid 1 (some .boolean) 0 := ⟨wc_Xx_isValid, ws_Xx_isValid, wv_Xx_isValid, wn_Xx_isValid, by decide +kernel, by decide +kernel⟩
abbrev rm_Tx_isList : Room := { frames := 3, cells := 0, slots := 0, locals := 64 }
theorem p_Tx_isList : zPv y_Tx_isList c_Tx_isList 1 (some .boolean) 0 := ⟨wc_Tx_isList, ws_Tx_isList, wv_Tx_isList, wn_Tx_isList, by decide +kernel, by decide +kernel⟩
abbrev rm_Tx_firstMisfit : Room := { frames := 2, cells := 0, slots := 0, locals := 43 }
theorem p_Tx_firstMisfit : zPv y_Tx_firstMisfit c_Tx_firstMisfit 2 (some .int) 0 := ⟨wc_Tx_firstMisfit, ws_Tx_firstMisfit, wv_Tx_firstMisfit, wn_Tx_firstMisfit, by decide +kernel, by decide +kernel⟩
abbrev rm_Tx_fits : Room := { frames := 1, cells := 0, slots := 0, locals := 21 }
theorem p_Tx_fits : zPv y_Tx_fits c_Tx_fits 3 (some .boolean) 1 := ⟨wc_Tx_fits, ws_Tx_fits, wv_Tx_fits, wn_Tx_fits, by decide +kernel, by decide +kernel⟩
abbrev rm_Tx_isDigit : Room := { frames := 0, cells := 0, slots := 0, locals := 0 }
theorem p_Tx_isDigit : zPs y_Tx_isDigit c_Tx_isDigit 1 (some .boolean) 1 := ⟨wc_Tx_isDigit, ws_Tx_isDigit, wn_Tx_isDigit, by decide +kernel, by decide +kernel⟩
abbrev rm_Tx_endsElsewhere : Room := { frames := 0, cells := 0, slots := 0, locals := 0 }
theorem p_Tx_endsElsewhere : zPv y_Tx_endsElsewhere c_Tx_endsElsewhere 2 (some .boolean) 1 := ⟨wc_Tx_endsElsewhere, ws_Tx_endsElsewhere, wv_Tx_endsElsewhere, wn_Tx_endsElsewhere, by decide +kernel, by decide +kernel⟩
abbrev rm_Xx_toMove : Room := { frames := 0, cells := 0, slots := 0, locals := 0 }
theorem p_Xx_toMove : zPv y_Xx_toMove c_Xx_toMove 1 (some .int) 0 := ⟨wc_Xx_toMove, ws_Xx_toMove, wv_Xx_toMove, wn_Xx_toMove, by decide +kernel, by decide +kernel⟩
abbrev rm_Xx_isOver : Room := { frames := 0, cells := 0, slots := 0, locals := 0 }
theorem p_Xx_isOver : zPv y_Xx_isOver c_Xx_isOver 1 (some .boolean) 0 := ⟨wc_Xx_isOver, ws_Xx_isOver, wv_Xx_isOver, wn_Xx_isOver, by decide +kernel, by decide +kernel⟩
abbrev rm_Xx_repetitions : Room := { frames := 1, cells := 0, slots := 0, locals := 20 }
theorem p_Xx_repetitions : zPv y_Xx_repetitions c_Xx_repetitions 1 (some .int) 0 := ⟨wc_Xx_repetitions, ws_Xx_repetitions, wv_Xx_repetitions, wn_Xx_repetitions, by decide +kernel, by decide +kernel⟩
abbrev rm_Gm_timesOfBoard : Room := { frames := 0, cells := 0, slots := 0, locals := 0 }
theorem p_Gm_timesOfBoard : zPv y_Gm_timesOfBoard c_Gm_timesOfBoard 1 (some .int) 0 := ⟨wc_Gm_timesOfBoard, ws_Gm_timesOfBoard, wv_Gm_timesOfBoard, wn_Gm_timesOfBoard, by decide +kernel, by decide +kernel⟩
abbrev rm_Xx_movesMade : Room := { frames := 0, cells := 0, slots := 0, locals := 0 }
theorem p_Xx_movesMade : zPv y_Xx_movesMade c_Xx_movesMade 1 (some .int) 0 := ⟨wc_Xx_movesMade, ws_Xx_movesMade, wv_Xx_movesMade, wn_Xx_movesMade, by decide +kernel, by decide +kernel⟩
abbrev rm_Xx_historySize : Room := { frames := 0, cells := 0, slots := 0, locals := 0 }
theorem p_Xx_historySize : zPv y_Xx_historySize c_Xx_historySize 1 (some .int) 0 := ⟨wc_Xx_historySize, ws_Xx_historySize, wv_Xx_historySize, wn_Xx_historySize, by decide +kernel, by decide +kernel⟩
abbrev rm_Lw_putPiece : Room := { frames := 9, cells := 3, slots := 18, locals := 157 }
theorem p_Lw_putPiece : zPsX y_Lw_putPiece c_Lw_putPiece 6 (some .int) hh_Lw_putPiece 5 := ⟨wc_Lw_putPiece, ws_Lw_putPiece, wn_Lw_putPiece, by decide +kernel, by decide +kernel⟩
abbrev rm_Xx_putPiece : Room := { frames := 8, cells := 3, slots := 18, locals := 134 }
theorem p_Xx_putPiece : zPv y_Xx_putPiece c_Xx_putPiece 4 (some .int) 3 := ⟨wc_Xx_putPiece, ws_Xx_putPiece, wv_Xx_putPiece, wn_Xx_putPiece, by decide +kernel, by decide +kernel⟩
abbrev rm_Xx_put : Room := { frames := 7, cells := 3, slots := 18, locals := 110 }
theorem p_Xx_put : zPv y_Xx_put c_Xx_put 5 (some .int) 4 := ⟨wc_Xx_put, ws_Xx_put, wv_Xx_put, wn_Xx_put, by decide +kernel, by decide +kernel⟩
abbrev rm_Xx_needSide : Room := { frames := 6, cells := 1, slots := 6, locals := 90 }
theorem p_Xx_needSide : zPs y_Xx_needSide c_Xx_needSide 1 none 1 := ⟨wc_Xx_needSide, ws_Xx_needSide, wn_Xx_needSide, by decide +kernel, by decide +kernel⟩
abbrev rm_Xx_needSquare : Room := { frames := 6, cells := 1, slots := 6, locals := 90 }
theorem p_Xx_needSquare : zPs y_Xx_needSquare c_Xx_needSquare 1 none 1 := ⟨wc_Xx_needSquare, ws_Xx_needSquare, wn_Xx_needSquare, by decide +kernel, by decide +kernel⟩
abbrev rm_Gm_accepts : Room := { frames := 4, cells := 0, slots := 0, locals := 87 }
theorem p_Gm_accepts : zPv y_Gm_accepts c_Gm_accepts 4 (some .boolean) 3 := ⟨wc_Gm_accepts, ws_Gm_accepts, wv_Gm_accepts, wn_Gm_accepts, by decide +kernel, by decide +kernel⟩
abbrev rm_Gm_hasStarted : Room := { frames := 0, cells := 0, slots := 0, locals := 0 }
theorem p_Gm_hasStarted : zPv y_Gm_hasStarted c_Gm_hasStarted 1 (some .boolean) 0 := ⟨wc_Gm_hasStarted, ws_Gm_hasStarted, wv_Gm_hasStarted, wn_Gm_hasStarted, by decide +kernel, by decide +kernel⟩
abbrev rm_Bd_isEmpty : Room := { frames := 0, cells := 0, slots := 0, locals := 0 }
theorem p_Bd_isEmpty : zPv y_Bd_isEmpty c_Bd_isEmpty 2 (some .boolean) 1 := ⟨wc_Bd_isEmpty, ws_Bd_isEmpty, wv_Bd_isEmpty, wn_Bd_isEmpty, by decide +kernel, by decide +kernel⟩
abbrev rm_Bd_countOf : Room := { frames := 3, cells := 0, slots := 0, locals := 66 }
theorem p_Bd_countOf : zPv y_Bd_countOf c_Bd_countOf 2 (some .int) 1 := ⟨wc_Bd_countOf, ws_Bd_countOf, wv_Bd_countOf, wn_Bd_countOf, by decide +kernel, by decide +kernel⟩
abbrev rm_Bd_squaresOf : Room := { frames := 2, cells := 0, slots := 0, locals := 42 }
theorem p_Bd_squaresOf : zPv y_Bd_squaresOf c_Bd_squaresOf 5 (some .long) 1 := ⟨wc_Bd_squaresOf, ws_Bd_squaresOf, wv_Bd_squaresOf, wn_Bd_squaresOf, by decide +kernel, by decide +kernel⟩
abbrev rm_Bd_holds : Room := { frames := 1, cells := 0, slots := 0, locals := 20 }
theorem p_Bd_holds : zPv y_Bd_holds c_Bd_holds 3 (some .boolean) 2 := ⟨wc_Bd_holds, ws_Bd_holds, wv_Bd_holds, wn_Bd_holds, by decide +kernel, by decide +kernel⟩
abbrev rm_Pc_sideOf : Room := { frames := 0, cells := 0, slots := 0, locals := 0 }
theorem p_Pc_sideOf : zPs y_Pc_sideOf c_Pc_sideOf 1 (some .int) 1 := ⟨wc_Pc_sideOf, ws_Pc_sideOf, wn_Pc_sideOf, by decide +kernel, by decide +kernel⟩
abbrev rm_Jl_bitCount : Room := { frames := 0, cells := 0, slots := 0, locals := 0 }
theorem p_Jl_bitCount : zPs y_Jl_bitCount c_Jl_bitCount 2 (some .int) 1 := ⟨wc_Jl_bitCount, ws_Jl_bitCount, wn_Jl_bitCount, by decide +kernel, by decide +kernel⟩
abbrev rm_Bd_leaderSquare : Room := { frames := 2, cells := 0, slots := 0, locals := 42 }
theorem p_Bd_leaderSquare : zPv y_Bd_leaderSquare c_Bd_leaderSquare 3 (some .int) 1 := ⟨wc_Bd_leaderSquare, ws_Bd_leaderSquare, wv_Bd_leaderSquare, wn_Bd_leaderSquare, by decide +kernel, by decide +kernel⟩
abbrev rm_Pc_leads : Room := { frames := 0, cells := 0, slots := 0, locals := 0 }
theorem p_Pc_leads : zPs y_Pc_leads c_Pc_leads 1 (some .boolean) 1 := ⟨wc_Pc_leads, ws_Pc_leads, wn_Pc_leads, by decide +kernel, by decide +kernel⟩
abbrev rm_Hs_remember : Room := { frames := 3, cells := 0, slots := 0, locals := 83 }
theorem p_Hs_remember : zPv y_Hs_remember c_Hs_remember 2 none 1 := ⟨wc_Hs_remember, ws_Hs_remember, wv_Hs_remember, wn_Hs_remember, by decide +kernel, by decide +kernel⟩
abbrev rm_Hs_dropOldest : Room := { frames := 0, cells := 0, slots := 0, locals := 0 }
theorem p_Hs_dropOldest : zPv y_Hs_dropOldest c_Hs_dropOldest 3 none 0 := ⟨wc_Hs_dropOldest, ws_Hs_dropOldest, wv_Hs_dropOldest, wn_Hs_dropOldest, by decide +kernel, by decide +kernel⟩
abbrev rm_Gm_copy : Room := { frames := 2, cells := 0, slots := 0, locals := 61 }
theorem p_Gm_copy : zPv y_Gm_copy c_Gm_copy 3 none 1 := ⟨wc_Gm_copy, ws_Gm_copy, wv_Gm_copy, wn_Gm_copy, by decide +kernel, by decide +kernel⟩
abbrev rm_Bd_copy : Room := { frames := 1, cells := 0, slots := 0, locals := 40 }
theorem p_Bd_copy : zPv y_Bd_copy c_Bd_copy 2 none 1 := ⟨wc_Bd_copy, ws_Bd_copy, wv_Bd_copy, wn_Bd_copy, by decide +kernel, by decide +kernel⟩
abbrev rm_Pc_of : Room := { frames := 0, cells := 0, slots := 0, locals := 0 }
theorem p_Pc_of : zPs y_Pc_of c_Pc_of 3 (some .int) 3 := ⟨wc_Pc_of, ws_Pc_of, wn_Pc_of, by decide +kernel, by decide +kernel⟩
abbrev rm_Gm_addPiece : Room := { frames := 3, cells := 0, slots := 0, locals := 63 }
theorem p_Gm_addPiece : zPv y_Gm_addPiece c_Gm_addPiece 3 none 2 := ⟨wc_Gm_addPiece, ws_Gm_addPiece, wv_Gm_addPiece, wn_Gm_addPiece, by decide +kernel, by decide +kernel⟩
abbrev rm_Bd_set : Room := { frames := 0, cells := 0, slots := 0, locals := 0 }
theorem p_Bd_set : zPv y_Bd_set c_Bd_set 3 none 2 := ⟨wc_Bd_set, ws_Bd_set, wv_Bd_set, wn_Bd_set, by decide +kernel, by decide +kernel⟩
abbrev rm_Pc_worthOf : Room := { frames := 2, cells := 0, slots := 0, locals := 43 }
theorem p_Pc_worthOf : zPs y_Pc_worthOf c_Pc_worthOf 1 (some .int) 1 := ⟨wc_Pc_worthOf, ws_Pc_worthOf, wn_Pc_worthOf, by decide +kernel, by decide +kernel⟩
abbrev rm_Pc_stepsOf : Room := { frames := 0, cells := 0, slots := 0, locals := 0 }
theorem p_Pc_stepsOf : zPs y_Pc_stepsOf c_Pc_stepsOf 1 (some .int) 1 := ⟨wc_Pc_stepsOf, ws_Pc_stepsOf, wn_Pc_stepsOf, by decide +kernel, by decide +kernel⟩
abbrev rm_Pc_worthOfSteps : Room := { frames := 1, cells := 0, slots := 0, locals := 21 }
theorem p_Pc_worthOfSteps : zPs y_Pc_worthOfSteps c_Pc_worthOfSteps 3 (some .int) 1 := ⟨wc_Pc_worthOfSteps, ws_Pc_worthOfSteps, wn_Pc_worthOfSteps, by decide +kernel, by decide +kernel⟩
abbrev rm_Pc_knows : Room := { frames := 0, cells := 0, slots := 0, locals := 0 }
theorem p_Pc_knows : zPs y_Pc_knows c_Pc_knows 2 (some .boolean) 2 := ⟨wc_Pc_knows, ws_Pc_knows, wn_Pc_knows, by decide +kernel, by decide +kernel⟩
abbrev rm_Lw_putLeader : Room := { frames := 9, cells := 3, slots := 18, locals := 157 }
theorem p_Lw_putLeader : zPsX y_Lw_putLeader c_Lw_putLeader 6 (some .int) hh_Lw_putLeader 5 := ⟨wc_Lw_putLeader, ws_Lw_putLeader, wn_Lw_putLeader, by decide +kernel, by decide +kernel⟩
abbrev rm_Xx_putLeader : Room := { frames := 8, cells := 3, slots := 18, locals := 134 }
theorem p_Xx_putLeader : zPv y_Xx_putLeader c_Xx_putLeader 4 (some .int) 3 := ⟨wc_Xx_putLeader, ws_Xx_putLeader, wv_Xx_putLeader, wn_Xx_putLeader, by decide +kernel, by decide +kernel⟩
abbrev rm_Lw_takeAway : Room := { frames := 8, cells := 2, slots := 12, locals := 131 }
theorem p_Lw_takeAway : zPsX y_Lw_takeAway c_Lw_takeAway 4 (some .int) hh_Lw_takeAway 3 := ⟨wc_Lw_takeAway, ws_Lw_takeAway, wn_Lw_takeAway, by decide +kernel, by decide +kernel⟩
abbrev rm_Xx_takeAway : Room := { frames := 7, cells := 2, slots := 12, locals := 110 }
theorem p_Xx_takeAway : zPv y_Xx_takeAway c_Xx_takeAway 2 (some .int) 1 := ⟨wc_Xx_takeAway, ws_Xx_takeAway, wv_Xx_takeAway, wn_Xx_takeAway, by decide +kernel, by decide +kernel⟩
abbrev rm_Gm_removePiece : Room := { frames := 3, cells := 0, slots := 0, locals := 63 }
theorem p_Gm_removePiece : zPv y_Gm_removePiece c_Gm_removePiece 4 (some .int) 1 := ⟨wc_Gm_removePiece, ws_Gm_removePiece, wv_Gm_removePiece, wn_Gm_removePiece, by decide +kernel, by decide +kernel⟩
abbrev rm_Bd_pieceOn : Room := { frames := 0, cells := 0, slots := 0, locals := 0 }
theorem p_Bd_pieceOn : zPv y_Bd_pieceOn c_Bd_pieceOn 2 (some .int) 1 := ⟨wc_Bd_pieceOn, ws_Bd_pieceOn, wv_Bd_pieceOn, wn_Bd_pieceOn, by decide +kernel, by decide +kernel⟩
abbrev rm_Lw_start : Room := { frames := 7, cells := 2, slots := 13, locals := 144 }
theorem p_Lw_start : zPsX y_Lw_start c_Lw_start 3 (some .int) hh_Lw_start 2 := ⟨wc_Lw_start, ws_Lw_start, wn_Lw_start, by decide +kernel, by decide +kernel⟩
abbrev rm_Xx_start : Room := { frames := 6, cells := 2, slots := 13, locals := 124 }
theorem p_Xx_start : zPv y_Xx_start c_Xx_start 1 (some .int) 0 := ⟨wc_Xx_start, ws_Xx_start, wv_Xx_start, wn_Xx_start, by decide +kernel, by decide +kernel⟩
abbrev rm_Gm_canBegin : Room := { frames := 3, cells := 0, slots := 0, locals := 64 }
theorem p_Gm_canBegin : zPv y_Gm_canBegin c_Gm_canBegin 1 (some .boolean) 0 := ⟨wc_Gm_canBegin, ws_Gm_canBegin, wv_Gm_canBegin, wn_Gm_canBegin, by decide +kernel, by decide +kernel⟩
abbrev rm_Gm_begin : Room := { frames := 4, cells := 1, slots := 7, locals := 103 }
theorem p_Gm_begin : zPv y_Gm_begin c_Gm_begin 2 (some .int) 0 := ⟨wc_Gm_begin, ws_Gm_begin, wv_Gm_begin, wn_Gm_begin, by decide +kernel, by decide +kernel⟩
abbrev rm_Bd_movesOf : Room := { frames := 3, cells := 0, slots := 0, locals := 78 }
theorem p_Bd_movesOf : zPv y_Bd_movesOf c_Bd_movesOf 6 (some .int) 1 := ⟨wc_Bd_movesOf, ws_Bd_movesOf, wv_Bd_movesOf, wn_Bd_movesOf, by decide +kernel, by decide +kernel⟩
abbrev rm_Bd_guardedFrom : Room := { frames := 2, cells := 0, slots := 0, locals := 54 }
theorem p_Bd_guardedFrom : zPv y_Bd_guardedFrom c_Bd_guardedFrom 5 (some .long) 1 := ⟨wc_Bd_guardedFrom, ws_Bd_guardedFrom, wv_Bd_guardedFrom, wn_Bd_guardedFrom, by decide +kernel, by decide +kernel⟩
abbrev rm_Bd_linesOfKind : Room := { frames := 1, cells := 0, slots := 0, locals := 29 }
theorem p_Bd_linesOfKind : zPv y_Bd_linesOfKind c_Bd_linesOfKind 6 (some .long) 2 := ⟨wc_Bd_linesOfKind, ws_Bd_linesOfKind, wv_Bd_linesOfKind, wn_Bd_linesOfKind, by decide +kernel, by decide +kernel⟩
abbrev rm_Bd_line : Room := { frames := 0, cells := 0, slots := 0, locals := 0 }
theorem p_Bd_line : zPv y_Bd_line c_Bd_line 10 (some .long) 3 := ⟨wc_Bd_line, ws_Bd_line, wv_Bd_line, wn_Bd_line, by decide +kernel, by decide +kernel⟩
abbrev rm_Ps_init : Room := { frames := 2, cells := 0, slots := 0, locals := 42 }
theorem p_Ps_init : zPk y_Ps_init c_Ps_init 4 3 := ⟨wc_Ps_init, ws_Ps_init, rfl, wn_Ps_init, by decide +kernel, by decide +kernel⟩
abbrev rm_Bd_quarter : Room := { frames := 0, cells := 0, slots := 0, locals := 0 }
theorem p_Bd_quarter : zPv y_Bd_quarter c_Bd_quarter 7 (some .long) 1 := ⟨wc_Bd_quarter, ws_Bd_quarter, wv_Bd_quarter, wn_Bd_quarter, by decide +kernel, by decide +kernel⟩
abbrev rm_Ps_timesBefore : Room := { frames := 1, cells := 0, slots := 0, locals := 21 }
theorem p_Ps_timesBefore : zPv y_Ps_timesBefore c_Ps_timesBefore 2 (some .int) 0 := ⟨wc_Ps_timesBefore, ws_Ps_timesBefore, wv_Ps_timesBefore, wn_Ps_timesBefore, by decide +kernel, by decide +kernel⟩
abbrev rm_Ps_looksLike : Room := { frames := 0, cells := 0, slots := 0, locals := 0 }
theorem p_Ps_looksLike : zPv y_Ps_looksLike c_Ps_looksLike 2 (some .boolean) 1 := ⟨wc_Ps_looksLike, ws_Ps_looksLike, wv_Ps_looksLike, wn_Ps_looksLike, by decide +kernel, by decide +kernel⟩
abbrev rm_Lw_move : Room := { frames := 8, cells := 4, slots := 25, locals := 150 }
theorem p_Lw_move : zPsX y_Lw_move c_Lw_move 5 (some .int) hh_Lw_move 4 := ⟨wc_Lw_move, ws_Lw_move, wn_Lw_move, by decide +kernel, by decide +kernel⟩
abbrev rm_Xx_move : Room := { frames := 7, cells := 4, slots := 25, locals := 128 }
theorem p_Xx_move : zPv y_Xx_move c_Xx_move 3 (some .int) 2 := ⟨wc_Xx_move, ws_Xx_move, wv_Xx_move, wn_Xx_move, by decide +kernel, by decide +kernel⟩
abbrev rm_Gm_reasonAgainst : Room := { frames := 4, cells := 0, slots := 0, locals := 99 }
theorem p_Gm_reasonAgainst : zPv y_Gm_reasonAgainst c_Gm_reasonAgainst 4 (some .int) 2 := ⟨wc_Gm_reasonAgainst, ws_Gm_reasonAgainst, wv_Gm_reasonAgainst, wn_Gm_reasonAgainst, by decide +kernel, by decide +kernel⟩
abbrev rm_Bd_reachFrom : Room := { frames := 3, cells := 0, slots := 0, locals := 78 }
theorem p_Bd_reachFrom : zPv y_Bd_reachFrom c_Bd_reachFrom 2 (some .long) 1 := ⟨wc_Bd_reachFrom, ws_Bd_reachFrom, wv_Bd_reachFrom, wn_Bd_reachFrom, by decide +kernel, by decide +kernel⟩
abbrev rm_Gm_makeMove : Room := { frames := 4, cells := 1, slots := 7, locals := 103 }
theorem p_Gm_makeMove : zPv y_Gm_makeMove c_Gm_makeMove 6 (some .int) 2 := ⟨wc_Gm_makeMove, ws_Gm_makeMove, wv_Gm_makeMove, wn_Gm_makeMove, by decide +kernel, by decide +kernel⟩
abbrev rm_Pc_learnt : Room := { frames := 1, cells := 0, slots := 0, locals := 20 }
theorem p_Pc_learnt : zPs y_Pc_learnt c_Pc_learnt 2 (some .int) 2 := ⟨wc_Pc_learnt, ws_Pc_learnt, wn_Pc_learnt, by decide +kernel, by decide +kernel⟩
abbrev rm_Bd_carry : Room := { frames := 2, cells := 0, slots := 0, locals := 41 }
theorem p_Bd_carry : zPv y_Bd_carry c_Bd_carry 3 none 2 := ⟨wc_Bd_carry, ws_Bd_carry, wv_Bd_carry, wn_Bd_carry, by decide +kernel, by decide +kernel⟩
abbrev rm_Lw_play : Room := { frames := 7, cells := 13, slots := 90, locals := 152 }
theorem p_Lw_play : zPsX y_Lw_play c_Lw_play 3 (some .int) hh_Lw_play 2 := ⟨wc_Lw_play, ws_Lw_play, wn_Lw_play, by decide +kernel, by decide +kernel⟩
abbrev rm_Xx_play : Room := { frames := 6, cells := 13, slots := 90, locals := 128 }
theorem p_Xx_play : zPv y_Xx_play c_Xx_play 5 (some .int) 0 := ⟨wc_Xx_play, ws_Xx_play, wv_Xx_play, wn_Xx_play, by decide +kernel, by decide +kernel⟩
abbrev rm_Tx_movesListed : Room := { frames := 0, cells := 0, slots := 0, locals := 0 }
theorem p_Tx_movesListed : zPv y_Tx_movesListed c_Tx_movesListed 1 (some .int) 0 := ⟨wc_Tx_movesListed, ws_Tx_movesListed, wv_Tx_movesListed, wn_Tx_movesListed, by decide +kernel, by decide +kernel⟩
abbrev rm_Tx_firstSquareOf : Room := { frames := 1, cells := 0, slots := 0, locals := 21 }
theorem p_Tx_firstSquareOf : zPv y_Tx_firstSquareOf c_Tx_firstSquareOf 2 (some .int) 1 := ⟨wc_Tx_firstSquareOf, ws_Tx_firstSquareOf, wv_Tx_firstSquareOf, wn_Tx_firstSquareOf, by decide +kernel, by decide +kernel⟩
abbrev rm_Tx_squareAt : Room := { frames := 0, cells := 0, slots := 0, locals := 0 }
theorem p_Tx_squareAt : zPv y_Tx_squareAt c_Tx_squareAt 2 (some .int) 1 := ⟨wc_Tx_squareAt, ws_Tx_squareAt, wv_Tx_squareAt, wn_Tx_squareAt, by decide +kernel, by decide +kernel⟩
abbrev rm_Tx_secondSquareOf : Room := { frames := 1, cells := 0, slots := 0, locals := 21 }
theorem p_Tx_secondSquareOf : zPv y_Tx_secondSquareOf c_Tx_secondSquareOf 2 (some .int) 1 := ⟨wc_Tx_secondSquareOf, ws_Tx_secondSquareOf, wv_Tx_secondSquareOf, wn_Tx_secondSquareOf, by decide +kernel, by decide +kernel⟩
abbrev rm_Lw_whyNot : Room := { frames := 8, cells := 2, slots := 12, locals := 144 }
theorem p_Lw_whyNot : zPsX y_Lw_whyNot c_Lw_whyNot 5 (some .int) hh_Lw_whyNot 4 := ⟨wc_Lw_whyNot, ws_Lw_whyNot, wn_Lw_whyNot, by decide +kernel, by decide +kernel⟩
abbrev rm_Xx_whyNot : Room := { frames := 7, cells := 2, slots := 12, locals := 122 }
theorem p_Xx_whyNot : zPv y_Xx_whyNot c_Xx_whyNot 3 (some .int) 2 := ⟨wc_Xx_whyNot, ws_Xx_whyNot, wv_Xx_whyNot, wn_Xx_whyNot, by decide +kernel, by decide +kernel⟩
abbrev rm_Lw_append : Room := { frames := 7, cells := 1, slots := 6, locals := 111 }
theorem p_Lw_append : zPsX y_Lw_append c_Lw_append 4 (some .int) hh_Lw_append 3 := ⟨wc_Lw_append, ws_Lw_append, wn_Lw_append, by decide +kernel, by decide +kernel⟩
abbrev rm_Xx_append : Room := { frames := 6, cells := 1, slots := 6, locals := 90 }
theorem p_Xx_append : zPv y_Xx_append c_Xx_append 2 (some .int) 1 := ⟨wc_Xx_append, ws_Xx_append, wv_Xx_append, wn_Xx_append, by decide +kernel, by decide +kernel⟩
abbrev rm_Tx_isFull : Room := { frames := 0, cells := 0, slots := 0, locals := 0 }
theorem p_Tx_isFull : zPv y_Tx_isFull c_Tx_isFull 1 (some .boolean) 0 := ⟨wc_Tx_isFull, ws_Tx_isFull, wv_Tx_isFull, wn_Tx_isFull, by decide +kernel, by decide +kernel⟩
abbrev rm_Tx_add : Room := { frames := 0, cells := 0, slots := 0, locals := 0 }
theorem p_Tx_add : zPv y_Tx_add c_Tx_add 2 (some .int) 1 := ⟨wc_Tx_add, ws_Tx_add, wv_Tx_add, wn_Tx_add, by decide +kernel, by decide +kernel⟩
abbrev rm_Lw_firstError : Room := { frames := 7, cells := 1, slots := 6, locals := 110 }
theorem p_Lw_firstError : zPsX y_Lw_firstError c_Lw_firstError 3 (some .int) hh_Lw_firstError 2 := ⟨wc_Lw_firstError, ws_Lw_firstError, wn_Lw_firstError, by decide +kernel, by decide +kernel⟩
abbrev rm_Xx_firstError : Room := { frames := 6, cells := 1, slots := 6, locals := 90 }
theorem p_Xx_firstError : zPv y_Xx_firstError c_Xx_firstError 1 (some .int) 0 := ⟨wc_Xx_firstError, ws_Xx_firstError, wv_Xx_firstError, wn_Xx_firstError, by decide +kernel, by decide +kernel⟩
abbrev rm_Lw_undo : Room := { frames := 7, cells := 1, slots := 6, locals := 124 }
theorem p_Lw_undo : zPsX y_Lw_undo c_Lw_undo 3 (some .int) hh_Lw_undo 2 := ⟨wc_Lw_undo, ws_Lw_undo, wn_Lw_undo, by decide +kernel, by decide +kernel⟩
abbrev rm_Xx_undo : Room := { frames := 6, cells := 1, slots := 6, locals := 104 }
theorem p_Xx_undo : zPv y_Xx_undo c_Xx_undo 1 (some .int) 0 := ⟨wc_Xx_undo, ws_Xx_undo, wv_Xx_undo, wn_Xx_undo, by decide +kernel, by decide +kernel⟩
abbrev rm_Hs_restore : Room := { frames := 3, cells := 0, slots := 0, locals := 83 }
theorem p_Hs_restore : zPv y_Hs_restore c_Hs_restore 2 none 1 := ⟨wc_Hs_restore, ws_Hs_restore, wv_Hs_restore, wn_Hs_restore, by decide +kernel, by decide +kernel⟩
abbrev rm_Lw_pieces : Room := { frames := 8, cells := 1, slots := 6, locals := 131 }
theorem p_Lw_pieces : zPsX y_Lw_pieces c_Lw_pieces 4 (some .int) hh_Lw_pieces 3 := ⟨wc_Lw_pieces, ws_Lw_pieces, wn_Lw_pieces, by decide +kernel, by decide +kernel⟩
abbrev rm_Xx_pieces : Room := { frames := 7, cells := 1, slots := 6, locals := 110 }
theorem p_Xx_pieces : zPv y_Xx_pieces c_Xx_pieces 2 (some .int) 1 := ⟨wc_Xx_pieces, ws_Xx_pieces, wv_Xx_pieces, wn_Xx_pieces, by decide +kernel, by decide +kernel⟩
abbrev rm_Lw_sideAt : Room := { frames := 9, cells := 2, slots := 12, locals := 152 }
theorem p_Lw_sideAt : zPsX y_Lw_sideAt c_Lw_sideAt 4 (some .int) hh_Lw_sideAt 3 := ⟨wc_Lw_sideAt, ws_Lw_sideAt, wn_Lw_sideAt, by decide +kernel, by decide +kernel⟩
abbrev rm_Xx_sideAt : Room := { frames := 8, cells := 2, slots := 12, locals := 131 }
theorem p_Xx_sideAt : zPv y_Xx_sideAt c_Xx_sideAt 2 (some .int) 1 := ⟨wc_Xx_sideAt, ws_Xx_sideAt, wv_Xx_sideAt, wn_Xx_sideAt, by decide +kernel, by decide +kernel⟩
abbrev rm_Xx_neededPiece : Room := { frames := 7, cells := 2, slots := 12, locals := 110 }
theorem p_Xx_neededPiece : zPv y_Xx_neededPiece c_Xx_neededPiece 2 (some .int) 1 := ⟨wc_Xx_neededPiece, ws_Xx_neededPiece, wv_Xx_neededPiece, wn_Xx_neededPiece, by decide +kernel, by decide +kernel⟩
abbrev rm_Lw_stepsAt : Room := { frames := 9, cells := 2, slots := 12, locals := 152 }
theorem p_Lw_stepsAt : zPsX y_Lw_stepsAt c_Lw_stepsAt 4 (some .int) hh_Lw_stepsAt 3 := ⟨wc_Lw_stepsAt, ws_Lw_stepsAt, wn_Lw_stepsAt, by decide +kernel, by decide +kernel⟩
abbrev rm_Xx_stepsAt : Room := { frames := 8, cells := 2, slots := 12, locals := 131 }
theorem p_Xx_stepsAt : zPv y_Xx_stepsAt c_Xx_stepsAt 2 (some .int) 1 := ⟨wc_Xx_stepsAt, ws_Xx_stepsAt, wv_Xx_stepsAt, wn_Xx_stepsAt, by decide +kernel, by decide +kernel⟩
abbrev rm_Lw_worthAt : Room := { frames := 9, cells := 2, slots := 12, locals := 152 }
theorem p_Lw_worthAt : zPsX y_Lw_worthAt c_Lw_worthAt 4 (some .int) hh_Lw_worthAt 3 := ⟨wc_Lw_worthAt, ws_Lw_worthAt, wn_Lw_worthAt, by decide +kernel, by decide +kernel⟩
abbrev rm_Xx_worthAt : Room := { frames := 8, cells := 2, slots := 12, locals := 131 }
theorem p_Xx_worthAt : zPv y_Xx_worthAt c_Xx_worthAt 2 (some .int) 1 := ⟨wc_Xx_worthAt, ws_Xx_worthAt, wv_Xx_worthAt, wn_Xx_worthAt, by decide +kernel, by decide +kernel⟩
abbrev rm_Lw_leaderOf : Room := { frames := 8, cells := 2, slots := 12, locals := 132 }
theorem p_Lw_leaderOf : zPsX y_Lw_leaderOf c_Lw_leaderOf 4 (some .int) hh_Lw_leaderOf 3 := ⟨wc_Lw_leaderOf, ws_Lw_leaderOf, wn_Lw_leaderOf, by decide +kernel, by decide +kernel⟩
abbrev rm_Xx_leaderOf : Room := { frames := 7, cells := 2, slots := 12, locals := 110 }
theorem p_Xx_leaderOf : zPv y_Xx_leaderOf c_Xx_leaderOf 3 (some .int) 1 := ⟨wc_Xx_leaderOf, ws_Xx_leaderOf, wv_Xx_leaderOf, wn_Xx_leaderOf, by decide +kernel, by decide +kernel⟩
abbrev rm_Lw_knowing : Room := { frames := 8, cells := 2, slots := 12, locals := 132 }
theorem p_Lw_knowing : zPsX y_Lw_knowing c_Lw_knowing 5 (some .int) hh_Lw_knowing 4 := ⟨wc_Lw_knowing, ws_Lw_knowing, wn_Lw_knowing, by decide +kernel, by decide +kernel⟩
abbrev rm_Xx_knowing : Room := { frames := 7, cells := 2, slots := 12, locals := 110 }
theorem p_Xx_knowing : zPv y_Xx_knowing c_Xx_knowing 3 (some .int) 2 := ⟨wc_Xx_knowing, ws_Xx_knowing, wv_Xx_knowing, wn_Xx_knowing, by decide +kernel, by decide +kernel⟩
abbrev rm_Xx_needKind : Room := { frames := 6, cells := 1, slots := 6, locals := 90 }
theorem p_Xx_needKind : zPs y_Xx_needKind c_Xx_needKind 1 none 1 := ⟨wc_Xx_needKind, ws_Xx_needKind, wn_Xx_needKind, by decide +kernel, by decide +kernel⟩
abbrev rm_Bd_knowers : Room := { frames := 2, cells := 0, slots := 0, locals := 42 }
theorem p_Bd_knowers : zPv y_Bd_knowers c_Bd_knowers 6 (some .long) 2 := ⟨wc_Bd_knowers, ws_Bd_knowers, wv_Bd_knowers, wn_Bd_knowers, by decide +kernel, by decide +kernel⟩
abbrev rm_Lw_reach : Room := { frames := 9, cells := 2, slots := 12, locals := 152 }
theorem p_Lw_reach : zPsX y_Lw_reach c_Lw_reach 4 (some .int) hh_Lw_reach 3 := ⟨wc_Lw_reach, ws_Lw_reach, wn_Lw_reach, by decide +kernel, by decide +kernel⟩
abbrev rm_Xx_reach : Room := { frames := 8, cells := 2, slots := 12, locals := 131 }
theorem p_Xx_reach : zPv y_Xx_reach c_Xx_reach 2 (some .long) 1 := ⟨wc_Xx_reach, ws_Xx_reach, wv_Xx_reach, wn_Xx_reach, by decide +kernel, by decide +kernel⟩
abbrev rm_Lw_moveCount : Room := { frames := 8, cells := 1, slots := 6, locals := 131 }
theorem p_Lw_moveCount : zPsX y_Lw_moveCount c_Lw_moveCount 4 (some .int) hh_Lw_moveCount 3 := ⟨wc_Lw_moveCount, ws_Lw_moveCount, wn_Lw_moveCount, by decide +kernel, by decide +kernel⟩
abbrev rm_Xx_moveCount : Room := { frames := 7, cells := 1, slots := 6, locals := 110 }
theorem p_Xx_moveCount : zPv y_Xx_moveCount c_Xx_moveCount 2 (some .int) 1 := ⟨wc_Xx_moveCount, ws_Xx_moveCount, wv_Xx_moveCount, wn_Xx_moveCount, by decide +kernel, by decide +kernel⟩
abbrev rm_Lw_guards : Room := { frames := 8, cells := 2, slots := 12, locals := 132 }
theorem p_Lw_guards : zPsX y_Lw_guards c_Lw_guards 5 (some .int) hh_Lw_guards 4 := ⟨wc_Lw_guards, ws_Lw_guards, wn_Lw_guards, by decide +kernel, by decide +kernel⟩
abbrev rm_Xx_guards : Room := { frames := 7, cells := 2, slots := 12, locals := 110 }
theorem p_Xx_guards : zPv y_Xx_guards c_Xx_guards 3 (some .int) 2 := ⟨wc_Xx_guards, ws_Xx_guards, wv_Xx_guards, wn_Xx_guards, by decide +kernel, by decide +kernel⟩
abbrev rm_Bd_countGuardsAlong : Room := { frames := 3, cells := 0, slots := 0, locals := 78 }
theorem p_Bd_countGuardsAlong : zPv y_Bd_countGuardsAlong c_Bd_countGuardsAlong 5 (some .int) 2 := ⟨wc_Bd_countGuardsAlong, ws_Bd_countGuardsAlong, wv_Bd_countGuardsAlong, wn_Bd_countGuardsAlong, by decide +kernel, by decide +kernel⟩
abbrev rm_Lw_guardsByLooking : Room := { frames := 8, cells := 2, slots := 12, locals := 132 }
theorem p_Lw_guardsByLooking : zPsX y_Lw_guardsByLooking c_Lw_guardsByLooking 5 (some .int) hh_Lw_guardsByLooking 4 := ⟨wc_Lw_guardsByLooking, ws_Lw_guardsByLooking, wn_Lw_guardsByLooking, by decide +kernel, by decide +kernel⟩
abbrev rm_Xx_guardsByLooking : Room := { frames := 7, cells := 2, slots := 12, locals := 110 }
theorem p_Xx_guardsByLooking : zPv y_Xx_guardsByLooking c_Xx_guardsByLooking 3 (some .int) 2 := ⟨wc_Xx_guardsByLooking, ws_Xx_guardsByLooking, wv_Xx_guardsByLooking, wn_Xx_guardsByLooking, by decide +kernel, by decide +kernel⟩
abbrev rm_Bd_guardsSeenFrom : Room := { frames := 3, cells := 0, slots := 0, locals := 67 }
theorem p_Bd_guardsSeenFrom : zPv y_Bd_guardsSeenFrom c_Bd_guardsSeenFrom 6 (some .long) 2 := ⟨wc_Bd_guardsSeenFrom, ws_Bd_guardsSeenFrom, wv_Bd_guardsSeenFrom, wn_Bd_guardsSeenFrom, by decide +kernel, by decide +kernel⟩
abbrev rm_Lw_guarded : Room := { frames := 8, cells := 1, slots := 6, locals := 131 }
theorem p_Lw_guarded : zPsX y_Lw_guarded c_Lw_guarded 4 (some .int) hh_Lw_guarded 3 := ⟨wc_Lw_guarded, ws_Lw_guarded, wn_Lw_guarded, by decide +kernel, by decide +kernel⟩
abbrev rm_Xx_guarded : Room := { frames := 7, cells := 1, slots := 6, locals := 110 }
theorem p_Xx_guarded : zPv y_Xx_guarded c_Xx_guarded 2 (some .long) 1 := ⟨wc_Xx_guarded, ws_Xx_guarded, wv_Xx_guarded, wn_Xx_guarded, by decide +kernel, by decide +kernel⟩
abbrev rm_Bd_guardedBy : Room := { frames := 3, cells := 0, slots := 0, locals := 78 }
theorem p_Bd_guardedBy : zPv y_Bd_guardedBy c_Bd_guardedBy 5 (some .long) 1 := ⟨wc_Bd_guardedBy, ws_Bd_guardedBy, wv_Bd_guardedBy, wn_Bd_guardedBy, by decide +kernel, by decide +kernel⟩
abbrev rm_Lw_exchange : Room := { frames := 27, cells := 2, slots := 12, locals := 638 }
theorem p_Lw_exchange : zPsX y_Lw_exchange c_Lw_exchange 4 (some .int) hh_Lw_exchange 3 := ⟨wc_Lw_exchange, ws_Lw_exchange, wn_Lw_exchange, by decide +kernel, by decide +kernel⟩
abbrev rm_Xx_exchange : Room := { frames := 26, cells := 2, slots := 12, locals := 617 }
theorem p_Xx_exchange : zPv y_Xx_exchange c_Xx_exchange 2 (some .int) 1 := ⟨wc_Xx_exchange, ws_Xx_exchange, wv_Xx_exchange, wn_Xx_exchange, by decide +kernel, by decide +kernel⟩
abbrev rm_Xx_exchangeTried : Room := { frames := 25, cells := 0, slots := 0, locals := 596 }
theorem p_Xx_exchangeTried : zPv y_Xx_exchangeTried c_Xx_exchangeTried 2 (some .int) 1 := ⟨wc_Xx_exchangeTried, ws_Xx_exchangeTried, wv_Xx_exchangeTried, wn_Xx_exchangeTried, by decide +kernel, by decide +kernel⟩
abbrev rm_Xx_exchangeOn : Room := { frames := 24, cells := 0, slots := 0, locals := 572 }
theorem p_Xx_exchangeOn : zPs y_Xx_exchangeOn c_Xx_exchangeOn 5 (some .int) 3 := ⟨wc_Xx_exchangeOn, ws_Xx_exchangeOn, wn_Xx_exchangeOn, by decide +kernel, by decide +kernel⟩
abbrev rm_Bd_cheapestOn : Room := { frames := 3, cells := 0, slots := 0, locals := 63 }
theorem p_Bd_cheapestOn : zPv y_Bd_cheapestOn c_Bd_cheapestOn 7 (some .int) 1 := ⟨wc_Bd_cheapestOn, ws_Bd_cheapestOn, wv_Bd_cheapestOn, wn_Bd_cheapestOn, by decide +kernel, by decide +kernel⟩
abbrev rm_Jm_max : Room := { frames := 0, cells := 0, slots := 0, locals := 0 }
theorem p_Jm_max : zPs y_Jm_max c_Jm_max 2 (some .int) 2 := ⟨wc_Jm_max, ws_Jm_max, wn_Jm_max, by decide +kernel, by decide +kernel⟩
abbrev rm_Lw_weakest : Room := { frames := 27, cells := 2, slots := 12, locals := 642 }
theorem p_Lw_weakest : zPsX y_Lw_weakest c_Lw_weakest 4 (some .int) hh_Lw_weakest 3 := ⟨wc_Lw_weakest, ws_Lw_weakest, wn_Lw_weakest, by decide +kernel, by decide +kernel⟩
abbrev rm_Xx_weakest : Room := { frames := 26, cells := 2, slots := 12, locals := 617 }
theorem p_Xx_weakest : zPv y_Xx_weakest c_Xx_weakest 6 (some .int) 1 := ⟨wc_Xx_weakest, ws_Xx_weakest, wv_Xx_weakest, wn_Xx_weakest, by decide +kernel, by decide +kernel⟩
abbrev rm_Lw_winner : Room := { frames := 7, cells := 1, slots := 6, locals := 110 }
theorem p_Lw_winner : zPsX y_Lw_winner c_Lw_winner 3 (some .int) hh_Lw_winner 2 := ⟨wc_Lw_winner, ws_Lw_winner, wn_Lw_winner, by decide +kernel, by decide +kernel⟩
abbrev rm_Xx_winner : Room := { frames := 6, cells := 1, slots := 6, locals := 90 }
theorem p_Xx_winner : zPv y_Xx_winner c_Xx_winner 1 (some .int) 0 := ⟨wc_Xx_winner, ws_Xx_winner, wv_Xx_winner, wn_Xx_winner, by decide +kernel, by decide +kernel⟩
abbrev rm_Lw_worth : Room := { frames := 8, cells := 1, slots := 6, locals := 131 }
theorem p_Lw_worth : zPsX y_Lw_worth c_Lw_worth 4 (some .int) hh_Lw_worth 3 := ⟨wc_Lw_worth, ws_Lw_worth, wn_Lw_worth, by decide +kernel, by decide +kernel⟩
abbrev rm_Xx_worth : Room := { frames := 7, cells := 1, slots := 6, locals := 110 }
theorem p_Xx_worth : zPv y_Xx_worth c_Xx_worth 2 (some .int) 1 := ⟨wc_Xx_worth, ws_Xx_worth, wv_Xx_worth, wn_Xx_worth, by decide +kernel, by decide +kernel⟩
abbrev rm_Bd_worthOfSide : Room := { frames := 3, cells := 0, slots := 0, locals := 63 }
theorem p_Bd_worthOfSide : zPv y_Bd_worthOfSide c_Bd_worthOfSide 4 (some .int) 1 := ⟨wc_Bd_worthOfSide, ws_Bd_worthOfSide, wv_Bd_worthOfSide, wn_Bd_worthOfSide, by decide +kernel, by decide +kernel⟩
abbrev rm_Lw_worthByAccount : Room := { frames := 8, cells := 1, slots := 6, locals := 131 }
theorem p_Lw_worthByAccount : zPsX y_Lw_worthByAccount c_Lw_worthByAccount 4 (some .int) hh_Lw_worthByAccount 3 := ⟨wc_Lw_worthByAccount, ws_Lw_worthByAccount, wn_Lw_worthByAccount, by decide +kernel, by decide +kernel⟩
abbrev rm_Xx_worthByAccount : Room := { frames := 7, cells := 1, slots := 6, locals := 110 }
theorem p_Xx_worthByAccount : zPv y_Xx_worthByAccount c_Xx_worthByAccount 2 (some .int) 1 := ⟨wc_Xx_worthByAccount, ws_Xx_worthByAccount, wv_Xx_worthByAccount, wn_Xx_worthByAccount, by decide +kernel, by decide +kernel⟩
abbrev rm_Lw_captured : Room := { frames := 8, cells := 1, slots := 6, locals := 131 }
theorem p_Lw_captured : zPsX y_Lw_captured c_Lw_captured 4 (some .int) hh_Lw_captured 3 := ⟨wc_Lw_captured, ws_Lw_captured, wn_Lw_captured, by decide +kernel, by decide +kernel⟩
abbrev rm_Xx_captured : Room := { frames := 7, cells := 1, slots := 6, locals := 110 }
theorem p_Xx_captured : zPv y_Xx_captured c_Xx_captured 2 (some .int) 1 := ⟨wc_Xx_captured, ws_Xx_captured, wv_Xx_captured, wn_Xx_captured, by decide +kernel, by decide +kernel⟩
abbrev rm_Lw_worthShare : Room := { frames := 8, cells := 1, slots := 6, locals := 132 }
theorem p_Lw_worthShare : zPsX y_Lw_worthShare c_Lw_worthShare 4 (some .int) hh_Lw_worthShare 3 := ⟨wc_Lw_worthShare, ws_Lw_worthShare, wn_Lw_worthShare, by decide +kernel, by decide +kernel⟩
abbrev rm_Xx_worthShare : Room := { frames := 7, cells := 1, slots := 6, locals := 110 }
theorem p_Xx_worthShare : zPv y_Xx_worthShare c_Xx_worthShare 3 (some .double) 1 := ⟨wc_Xx_worthShare, ws_Xx_worthShare, wv_Xx_worthShare, wn_Xx_worthShare, by decide +kernel, by decide +kernel⟩
abbrev rm_Mm_init : Room := { frames := 1, cells := 6, slots := 6796, locals := 20 }
theorem p_Mm_init : zPk y_Mm_init c_Mm_init 1 0 := ⟨wc_Mm_init, ws_Mm_init, rfl, wn_Mm_init, by decide +kernel, by decide +kernel⟩
abbrev rm_Mm_thrown : Room := { frames := 0, cells := 0, slots := 0, locals := 0 }
theorem p_Mm_thrown : zPv y_Mm_thrown c_Mm_thrown 1 (some .int) 0 := ⟨wc_Mm_thrown, ws_Mm_thrown, wv_Mm_thrown, wn_Mm_thrown, by decide +kernel, by decide +kernel⟩
abbrev rm_Mm_undo : Room := { frames := 1, cells := 0, slots := 0, locals := 21 }
theorem p_Mm_undo : zPv y_Mm_undo c_Mm_undo 2 (some .int) 0 := ⟨wc_Mm_undo, ws_Mm_undo, wv_Mm_undo, wn_Mm_undo, by decide +kernel, by decide +kernel⟩
abbrev rm_Mm_asks : Room := { frames := 0, cells := 0, slots := 0, locals := 0 }
theorem p_Mm_asks : zPv y_Mm_asks c_Mm_asks 2 (some .boolean) 1 := ⟨wc_Mm_asks, ws_Mm_asks, wv_Mm_asks, wn_Mm_asks, by decide +kernel, by decide +kernel⟩
abbrev rm_Mm_historySize : Room := { frames := 1, cells := 0, slots := 0, locals := 21 }
theorem p_Mm_historySize : zPv y_Mm_historySize c_Mm_historySize 1 (some .int) 0 := ⟨wc_Mm_historySize, ws_Mm_historySize, wv_Mm_historySize, wn_Mm_historySize, by decide +kernel, by decide +kernel⟩
abbrev rm_Mm_says : Room := { frames := 0, cells := 0, slots := 0, locals := 0 }
theorem p_Mm_says : zPv y_Mm_says c_Mm_says 2 (some .int) 1 := ⟨wc_Mm_says, ws_Mm_says, wv_Mm_says, wn_Mm_says, by decide +kernel, by decide +kernel⟩
abbrev rm_Mm_putPiece : Room := { frames := 3, cells := 0, slots := 0, locals := 67 }
theorem p_Mm_putPiece : zPv y_Mm_putPiece c_Mm_putPiece 4 (some .int) 3 := ⟨wc_Mm_putPiece, ws_Mm_putPiece, wv_Mm_putPiece, wn_Mm_putPiece, by decide +kernel, by decide +kernel⟩
abbrev rm_Mm_isSide : Room := { frames := 1, cells := 0, slots := 0, locals := 22 }
theorem p_Mm_isSide : zPs y_Mm_isSide c_Mm_isSide 1 (some .boolean) 1 := ⟨wc_Mm_isSide, ws_Mm_isSide, wn_Mm_isSide, by decide +kernel, by decide +kernel⟩
abbrev rm_Mm_in : Room := { frames := 0, cells := 0, slots := 0, locals := 0 }
theorem p_Mm_in : zPs y_Mm_in c_Mm_in 3 (some .boolean) 3 := ⟨wc_Mm_in, ws_Mm_in, wn_Mm_in, by decide +kernel, by decide +kernel⟩
abbrev rm_Mm_isSquare : Room := { frames := 1, cells := 0, slots := 0, locals := 22 }
theorem p_Mm_isSquare : zPs y_Mm_isSquare c_Mm_isSquare 1 (some .boolean) 1 := ⟨wc_Mm_isSquare, ws_Mm_isSquare, wn_Mm_isSquare, by decide +kernel, by decide +kernel⟩
abbrev rm_Mm_asksThen : Room := { frames := 0, cells := 0, slots := 0, locals := 0 }
theorem p_Mm_asksThen : zPv y_Mm_asksThen c_Mm_asksThen 3 (some .boolean) 2 := ⟨wc_Mm_asksThen, ws_Mm_asksThen, wv_Mm_asksThen, wn_Mm_asksThen, by decide +kernel, by decide +kernel⟩
abbrev rm_Mm_canPut : Room := { frames := 2, cells := 0, slots := 0, locals := 43 }
theorem p_Mm_canPut : zPv y_Mm_canPut c_Mm_canPut 3 (some .boolean) 2 := ⟨wc_Mm_canPut, ws_Mm_canPut, wv_Mm_canPut, wn_Mm_canPut, by decide +kernel, by decide +kernel⟩
abbrev rm_Mm_count : Room := { frames := 1, cells := 0, slots := 0, locals := 20 }
theorem p_Mm_count : zPv y_Mm_count c_Mm_count 4 (some .int) 1 := ⟨wc_Mm_count, ws_Mm_count, wv_Mm_count, wn_Mm_count, by decide +kernel, by decide +kernel⟩
abbrev rm_Mm_sideOf : Room := { frames := 0, cells := 0, slots := 0, locals := 0 }
theorem p_Mm_sideOf : zPs y_Mm_sideOf c_Mm_sideOf 1 (some .int) 1 := ⟨wc_Mm_sideOf, ws_Mm_sideOf, wn_Mm_sideOf, by decide +kernel, by decide +kernel⟩
abbrev rm_Mm_puts : Room := { frames := 2, cells := 0, slots := 0, locals := 43 }
theorem p_Mm_puts : zPv y_Mm_puts c_Mm_puts 5 (some .int) 4 := ⟨wc_Mm_puts, ws_Mm_puts, wv_Mm_puts, wn_Mm_puts, by decide +kernel, by decide +kernel⟩
abbrev rm_Mm_record : Room := { frames := 0, cells := 0, slots := 0, locals := 0 }
theorem p_Mm_record : zPv y_Mm_record c_Mm_record 2 none 0 := ⟨wc_Mm_record, ws_Mm_record, wv_Mm_record, wn_Mm_record, by decide +kernel, by decide +kernel⟩
abbrev rm_Mm_worthOf : Room := { frames := 1, cells := 0, slots := 0, locals := 20 }
theorem p_Mm_worthOf : zPs y_Mm_worthOf c_Mm_worthOf 1 (some .int) 1 := ⟨wc_Mm_worthOf, ws_Mm_worthOf, wn_Mm_worthOf, by decide +kernel, by decide +kernel⟩
abbrev rm_Mm_stepsOf : Room := { frames := 0, cells := 0, slots := 0, locals := 0 }
theorem p_Mm_stepsOf : zPs y_Mm_stepsOf c_Mm_stepsOf 1 (some .int) 1 := ⟨wc_Mm_stepsOf, ws_Mm_stepsOf, wn_Mm_stepsOf, by decide +kernel, by decide +kernel⟩
abbrev rm_Mm_stepsWorth : Room := { frames := 0, cells := 0, slots := 0, locals := 0 }
theorem p_Mm_stepsWorth : zPs y_Mm_stepsWorth c_Mm_stepsWorth 1 (some .int) 1 := ⟨wc_Mm_stepsWorth, ws_Mm_stepsWorth, wn_Mm_stepsWorth, by decide +kernel, by decide +kernel⟩
abbrev rm_Mm_leads : Room := { frames := 0, cells := 0, slots := 0, locals := 0 }
theorem p_Mm_leads : zPs y_Mm_leads c_Mm_leads 1 (some .boolean) 1 := ⟨wc_Mm_leads, ws_Mm_leads, wn_Mm_leads, by decide +kernel, by decide +kernel⟩
abbrev rm_Mm_putLeader : Room := { frames := 3, cells := 0, slots := 0, locals := 67 }
theorem p_Mm_putLeader : zPv y_Mm_putLeader c_Mm_putLeader 4 (some .int) 3 := ⟨wc_Mm_putLeader, ws_Mm_putLeader, wv_Mm_putLeader, wn_Mm_putLeader, by decide +kernel, by decide +kernel⟩
abbrev rm_Mm_leader : Room := { frames := 1, cells := 0, slots := 0, locals := 20 }
theorem p_Mm_leader : zPv y_Mm_leader c_Mm_leader 4 (some .int) 1 := ⟨wc_Mm_leader, ws_Mm_leader, wv_Mm_leader, wn_Mm_leader, by decide +kernel, by decide +kernel⟩
abbrev rm_Mm_takeAway : Room := { frames := 2, cells := 0, slots := 0, locals := 42 }
theorem p_Mm_takeAway : zPv y_Mm_takeAway c_Mm_takeAway 3 (some .int) 1 := ⟨wc_Mm_takeAway, ws_Mm_takeAway, wv_Mm_takeAway, wn_Mm_takeAway, by decide +kernel, by decide +kernel⟩
abbrev rm_Mm_start : Room := { frames := 6, cells := 0, slots := 0, locals := 146 }
theorem p_Mm_start : zPv y_Mm_start c_Mm_start 2 (some .int) 0 := ⟨wc_Mm_start, ws_Mm_start, wv_Mm_start, wn_Mm_start, by decide +kernel, by decide +kernel⟩
abbrev rm_Mm_movesOf : Room := { frames := 5, cells := 0, slots := 0, locals := 122 }
theorem p_Mm_movesOf : zPv y_Mm_movesOf c_Mm_movesOf 5 (some .int) 1 := ⟨wc_Mm_movesOf, ws_Mm_movesOf, wv_Mm_movesOf, wn_Mm_movesOf, by decide +kernel, by decide +kernel⟩
abbrev rm_Mm_canMove : Room := { frames := 4, cells := 0, slots := 0, locals := 100 }
theorem p_Mm_canMove : zPv y_Mm_canMove c_Mm_canMove 3 (some .boolean) 2 := ⟨wc_Mm_canMove, ws_Mm_canMove, wv_Mm_canMove, wn_Mm_canMove, by decide +kernel, by decide +kernel⟩
abbrev rm_Mm_goes : Room := { frames := 3, cells := 0, slots := 0, locals := 74 }
theorem p_Mm_goes : zPv y_Mm_goes c_Mm_goes 7 (some .boolean) 4 := ⟨wc_Mm_goes, ws_Mm_goes, wv_Mm_goes, wn_Mm_goes, by decide +kernel, by decide +kernel⟩
abbrev rm_Mm_leadsBy : Room := { frames := 2, cells := 0, slots := 0, locals := 47 }
theorem p_Mm_leadsBy : zPv y_Mm_leadsBy c_Mm_leadsBy 8 (some .boolean) 4 := ⟨wc_Mm_leadsBy, ws_Mm_leadsBy, wv_Mm_leadsBy, wn_Mm_leadsBy, by decide +kernel, by decide +kernel⟩
abbrev rm_Mm_size : Room := { frames := 0, cells := 0, slots := 0, locals := 0 }
theorem p_Mm_size : zPs y_Mm_size c_Mm_size 1 (some .int) 1 := ⟨wc_Mm_size, ws_Mm_size, wn_Mm_size, by decide +kernel, by decide +kernel⟩
abbrev rm_Mm_isClear : Room := { frames := 1, cells := 0, slots := 0, locals := 20 }
theorem p_Mm_isClear : zPv y_Mm_isClear c_Mm_isClear 8 (some .boolean) 3 := ⟨wc_Mm_isClear, ws_Mm_isClear, wv_Mm_isClear, wn_Mm_isClear, by decide +kernel, by decide +kernel⟩
abbrev rm_Mm_sign : Room := { frames := 0, cells := 0, slots := 0, locals := 0 }
theorem p_Mm_sign : zPs y_Mm_sign c_Mm_sign 1 (some .int) 1 := ⟨wc_Mm_sign, ws_Mm_sign, wn_Mm_sign, by decide +kernel, by decide +kernel⟩
abbrev rm_Mm_move : Room := { frames := 7, cells := 0, slots := 0, locals := 172 }
theorem p_Mm_move : zPv y_Mm_move c_Mm_move 3 (some .int) 2 := ⟨wc_Mm_move, ws_Mm_move, wv_Mm_move, wn_Mm_move, by decide +kernel, by decide +kernel⟩
abbrev rm_Mm_why : Room := { frames := 5, cells := 0, slots := 0, locals := 122 }
theorem p_Mm_why : zPv y_Mm_why c_Mm_why 3 (some .int) 2 := ⟨wc_Mm_why, ws_Mm_why, wv_Mm_why, wn_Mm_why, by decide +kernel, by decide +kernel⟩
abbrev rm_Mm_moves : Room := { frames := 6, cells := 0, slots := 0, locals := 146 }
theorem p_Mm_moves : zPv y_Mm_moves c_Mm_moves 7 (some .int) 2 := ⟨wc_Mm_moves, ws_Mm_moves, wv_Mm_moves, wn_Mm_moves, by decide +kernel, by decide +kernel⟩
abbrev rm_Mm_learns : Room := { frames := 1, cells := 0, slots := 0, locals := 20 }
theorem p_Mm_learns : zPs y_Mm_learns c_Mm_learns 2 (some .int) 2 := ⟨wc_Mm_learns, ws_Mm_learns, wn_Mm_learns, by decide +kernel, by decide +kernel⟩
abbrev rm_Mm_times : Room := { frames := 0, cells := 0, slots := 0, locals := 0 }
theorem p_Mm_times : zPv y_Mm_times c_Mm_times 7 (some .int) 0 := ⟨wc_Mm_times, ws_Mm_times, wv_Mm_times, wn_Mm_times, by decide +kernel, by decide +kernel⟩
abbrev rm_Mm_whyNot : Room := { frames := 6, cells := 0, slots := 0, locals := 144 }
theorem p_Mm_whyNot : zPv y_Mm_whyNot c_Mm_whyNot 3 (some .int) 2 := ⟨wc_Mm_whyNot, ws_Mm_whyNot, wv_Mm_whyNot, wn_Mm_whyNot, by decide +kernel, by decide +kernel⟩
abbrev rm_Mm_append : Room := { frames := 1, cells := 0, slots := 0, locals := 21 }
theorem p_Mm_append : zPv y_Mm_append c_Mm_append 2 (some .int) 1 := ⟨wc_Mm_append, ws_Mm_append, wv_Mm_append, wn_Mm_append, by decide +kernel, by decide +kernel⟩
abbrev rm_Mm_clearText : Room := { frames := 1, cells := 0, slots := 0, locals := 21 }
theorem p_Mm_clearText : zPv y_Mm_clearText c_Mm_clearText 2 (some .int) 0 := ⟨wc_Mm_clearText, ws_Mm_clearText, wv_Mm_clearText, wn_Mm_clearText, by decide +kernel, by decide +kernel⟩
abbrev rm_Mm_isValid : Room := { frames := 2, cells := 0, slots := 0, locals := 46 }
theorem p_Mm_isValid : zPv y_Mm_isValid c_Mm_isValid 1 (some .boolean) 0 := ⟨wc_Mm_isValid, ws_Mm_isValid, wv_Mm_isValid, wn_Mm_isValid, by decide +kernel, by decide +kernel⟩
abbrev rm_Mm_fault : Room := { frames := 1, cells := 0, slots := 0, locals := 22 }
theorem p_Mm_fault : zPv y_Mm_fault c_Mm_fault 5 (some .int) 0 := ⟨wc_Mm_fault, ws_Mm_fault, wv_Mm_fault, wn_Mm_fault, by decide +kernel, by decide +kernel⟩
abbrev rm_Mm_firstError : Room := { frames := 2, cells := 0, slots := 0, locals := 46 }
theorem p_Mm_firstError : zPv y_Mm_firstError c_Mm_firstError 1 (some .int) 0 := ⟨wc_Mm_firstError, ws_Mm_firstError, wv_Mm_firstError, wn_Mm_firstError, by decide +kernel, by decide +kernel⟩
abbrev rm_Mm_play : Room := { frames := 7, cells := 0, slots := 0, locals := 172 }
theorem p_Mm_play : zPv y_Mm_play c_Mm_play 4 (some .int) 0 := ⟨wc_Mm_play, ws_Mm_play, wv_Mm_play, wn_Mm_play, by decide +kernel, by decide +kernel⟩
abbrev rm_Mm_written : Room := { frames := 0, cells := 0, slots := 0, locals := 0 }
theorem p_Mm_written : zPv y_Mm_written c_Mm_written 2 (some .int) 1 := ⟨wc_Mm_written, ws_Mm_written, wv_Mm_written, wn_Mm_written, by decide +kernel, by decide +kernel⟩
abbrev rm_Mm_pieces : Room := { frames := 2, cells := 0, slots := 0, locals := 43 }
theorem p_Mm_pieces : zPv y_Mm_pieces c_Mm_pieces 2 (some .int) 1 := ⟨wc_Mm_pieces, ws_Mm_pieces, wv_Mm_pieces, wn_Mm_pieces, by decide +kernel, by decide +kernel⟩
abbrev rm_Mm_sideAt : Room := { frames := 3, cells := 0, slots := 0, locals := 63 }
theorem p_Mm_sideAt : zPv y_Mm_sideAt c_Mm_sideAt 2 (some .int) 1 := ⟨wc_Mm_sideAt, ws_Mm_sideAt, wv_Mm_sideAt, wn_Mm_sideAt, by decide +kernel, by decide +kernel⟩
abbrev rm_Mm_asksPiece : Room := { frames := 2, cells := 0, slots := 0, locals := 42 }
theorem p_Mm_asksPiece : zPv y_Mm_asksPiece c_Mm_asksPiece 2 (some .boolean) 1 := ⟨wc_Mm_asksPiece, ws_Mm_asksPiece, wv_Mm_asksPiece, wn_Mm_asksPiece, by decide +kernel, by decide +kernel⟩
abbrev rm_Mm_stepsAt : Room := { frames := 3, cells := 0, slots := 0, locals := 63 }
theorem p_Mm_stepsAt : zPv y_Mm_stepsAt c_Mm_stepsAt 2 (some .int) 1 := ⟨wc_Mm_stepsAt, ws_Mm_stepsAt, wv_Mm_stepsAt, wn_Mm_stepsAt, by decide +kernel, by decide +kernel⟩
abbrev rm_Mm_worthAt : Room := { frames := 3, cells := 0, slots := 0, locals := 63 }
theorem p_Mm_worthAt : zPv y_Mm_worthAt c_Mm_worthAt 2 (some .int) 1 := ⟨wc_Mm_worthAt, ws_Mm_worthAt, wv_Mm_worthAt, wn_Mm_worthAt, by decide +kernel, by decide +kernel⟩
abbrev rm_Mm_leaderOf : Room := { frames := 2, cells := 0, slots := 0, locals := 43 }
theorem p_Mm_leaderOf : zPv y_Mm_leaderOf c_Mm_leaderOf 2 (some .int) 1 := ⟨wc_Mm_leaderOf, ws_Mm_leaderOf, wv_Mm_leaderOf, wn_Mm_leaderOf, by decide +kernel, by decide +kernel⟩
abbrev rm_Mm_knowing : Room := { frames := 2, cells := 0, slots := 0, locals := 42 }
theorem p_Mm_knowing : zPv y_Mm_knowing c_Mm_knowing 5 (some .int) 2 := ⟨wc_Mm_knowing, ws_Mm_knowing, wv_Mm_knowing, wn_Mm_knowing, by decide +kernel, by decide +kernel⟩
abbrev rm_Mm_reach : Room := { frames := 6, cells := 0, slots := 0, locals := 146 }
theorem p_Mm_reach : zPv y_Mm_reach c_Mm_reach 2 (some .long) 1 := ⟨wc_Mm_reach, ws_Mm_reach, wv_Mm_reach, wn_Mm_reach, by decide +kernel, by decide +kernel⟩
abbrev rm_Mm_reached : Room := { frames := 5, cells := 0, slots := 0, locals := 122 }
theorem p_Mm_reached : zPv y_Mm_reached c_Mm_reached 5 (some .long) 1 := ⟨wc_Mm_reached, ws_Mm_reached, wv_Mm_reached, wn_Mm_reached, by decide +kernel, by decide +kernel⟩
abbrev rm_Mm_moveCount : Room := { frames := 6, cells := 0, slots := 0, locals := 146 }
theorem p_Mm_moveCount : zPv y_Mm_moveCount c_Mm_moveCount 2 (some .int) 1 := ⟨wc_Mm_moveCount, ws_Mm_moveCount, wv_Mm_moveCount, wn_Mm_moveCount, by decide +kernel, by decide +kernel⟩
abbrev rm_Mm_guards : Room := { frames := 5, cells := 0, slots := 0, locals := 124 }
theorem p_Mm_guards : zPv y_Mm_guards c_Mm_guards 3 (some .int) 2 := ⟨wc_Mm_guards, ws_Mm_guards, wv_Mm_guards, wn_Mm_guards, by decide +kernel, by decide +kernel⟩
abbrev rm_Mm_guarding : Room := { frames := 4, cells := 0, slots := 0, locals := 100 }
theorem p_Mm_guarding : zPv y_Mm_guarding c_Mm_guarding 5 (some .int) 2 := ⟨wc_Mm_guarding, ws_Mm_guarding, wv_Mm_guarding, wn_Mm_guarding, by decide +kernel, by decide +kernel⟩
abbrev rm_Mm_guardsByLooking : Room := { frames := 5, cells := 0, slots := 0, locals := 124 }
theorem p_Mm_guardsByLooking : zPv y_Mm_guardsByLooking c_Mm_guardsByLooking 3 (some .int) 2 := ⟨wc_Mm_guardsByLooking, ws_Mm_guardsByLooking, wv_Mm_guardsByLooking, wn_Mm_guardsByLooking, by decide +kernel, by decide +kernel⟩
abbrev rm_Mm_guarded : Room := { frames := 5, cells := 0, slots := 0, locals := 124 }
theorem p_Mm_guarded : zPv y_Mm_guarded c_Mm_guarded 5 (some .long) 1 := ⟨wc_Mm_guarded, ws_Mm_guarded, wv_Mm_guarded, wn_Mm_guarded, by decide +kernel, by decide +kernel⟩
abbrev rm_Mm_exchange : Room := { frames := 6, cells := 0, slots := 0, locals := 150 }
theorem p_Mm_exchange : zPv y_Mm_exchange c_Mm_exchange 2 (some .int) 1 := ⟨wc_Mm_exchange, ws_Mm_exchange, wv_Mm_exchange, wn_Mm_exchange, by decide +kernel, by decide +kernel⟩
abbrev rm_Mm_exchanged : Room := { frames := 5, cells := 0, slots := 0, locals := 125 }
theorem p_Mm_exchanged : zPv y_Mm_exchanged c_Mm_exchanged 6 (some .int) 1 := ⟨wc_Mm_exchanged, ws_Mm_exchanged, wv_Mm_exchanged, wn_Mm_exchanged, by decide +kernel, by decide +kernel⟩
abbrev rm_Mm_capturer : Room := { frames := 4, cells := 0, slots := 0, locals := 100 }
theorem p_Mm_capturer : zPv y_Mm_capturer c_Mm_capturer 6 (some .int) 2 := ⟨wc_Mm_capturer, ws_Mm_capturer, wv_Mm_capturer, wn_Mm_capturer, by decide +kernel, by decide +kernel⟩
abbrev rm_Mm_weakest : Room := { frames := 7, cells := 0, slots := 0, locals := 175 }
theorem p_Mm_weakest : zPv y_Mm_weakest c_Mm_weakest 3 (some .int) 1 := ⟨wc_Mm_weakest, ws_Mm_weakest, wv_Mm_weakest, wn_Mm_weakest, by decide +kernel, by decide +kernel⟩
abbrev rm_Mm_weak : Room := { frames := 6, cells := 0, slots := 0, locals := 150 }
theorem p_Mm_weak : zPv y_Mm_weak c_Mm_weak 6 (some .int) 1 := ⟨wc_Mm_weak, ws_Mm_weak, wv_Mm_weak, wn_Mm_weak, by decide +kernel, by decide +kernel⟩
abbrev rm_Mm_toMove : Room := { frames := 1, cells := 0, slots := 0, locals := 21 }
theorem p_Mm_toMove : zPv y_Mm_toMove c_Mm_toMove 1 (some .int) 0 := ⟨wc_Mm_toMove, ws_Mm_toMove, wv_Mm_toMove, wn_Mm_toMove, by decide +kernel, by decide +kernel⟩
abbrev rm_Mm_isOver : Room := { frames := 0, cells := 0, slots := 0, locals := 0 }
theorem p_Mm_isOver : zPv y_Mm_isOver c_Mm_isOver 1 (some .boolean) 0 := ⟨wc_Mm_isOver, ws_Mm_isOver, wv_Mm_isOver, wn_Mm_isOver, by decide +kernel, by decide +kernel⟩
abbrev rm_Mm_winner : Room := { frames := 1, cells := 0, slots := 0, locals := 21 }
theorem p_Mm_winner : zPv y_Mm_winner c_Mm_winner 1 (some .int) 0 := ⟨wc_Mm_winner, ws_Mm_winner, wv_Mm_winner, wn_Mm_winner, by decide +kernel, by decide +kernel⟩
abbrev rm_Mm_repetitions : Room := { frames := 1, cells := 0, slots := 0, locals := 26 }
theorem p_Mm_repetitions : zPv y_Mm_repetitions c_Mm_repetitions 1 (some .int) 0 := ⟨wc_Mm_repetitions, ws_Mm_repetitions, wv_Mm_repetitions, wn_Mm_repetitions, by decide +kernel, by decide +kernel⟩
abbrev rm_Mm_movesMade : Room := { frames := 1, cells := 0, slots := 0, locals := 21 }
theorem p_Mm_movesMade : zPv y_Mm_movesMade c_Mm_movesMade 1 (some .int) 0 := ⟨wc_Mm_movesMade, ws_Mm_movesMade, wv_Mm_movesMade, wn_Mm_movesMade, by decide +kernel, by decide +kernel⟩
abbrev rm_Mm_worth : Room := { frames := 3, cells := 0, slots := 0, locals := 63 }
theorem p_Mm_worth : zPv y_Mm_worth c_Mm_worth 2 (some .int) 1 := ⟨wc_Mm_worth, ws_Mm_worth, wv_Mm_worth, wn_Mm_worth, by decide +kernel, by decide +kernel⟩
abbrev rm_Mm_all : Room := { frames := 2, cells := 0, slots := 0, locals := 40 }
theorem p_Mm_all : zPv y_Mm_all c_Mm_all 4 (some .int) 1 := ⟨wc_Mm_all, ws_Mm_all, wv_Mm_all, wn_Mm_all, by decide +kernel, by decide +kernel⟩
abbrev rm_Mm_worthByAccount : Room := { frames := 2, cells := 0, slots := 0, locals := 42 }
theorem p_Mm_worthByAccount : zPv y_Mm_worthByAccount c_Mm_worthByAccount 2 (some .int) 1 := ⟨wc_Mm_worthByAccount, ws_Mm_worthByAccount, wv_Mm_worthByAccount, wn_Mm_worthByAccount, by decide +kernel, by decide +kernel⟩
abbrev rm_Mm_captured : Room := { frames := 2, cells := 0, slots := 0, locals := 42 }
theorem p_Mm_captured : zPv y_Mm_captured c_Mm_captured 2 (some .int) 1 := ⟨wc_Mm_captured, ws_Mm_captured, wv_Mm_captured, wn_Mm_captured, by decide +kernel, by decide +kernel⟩
abbrev rm_Mm_worthShare : Room := { frames := 3, cells := 0, slots := 0, locals := 63 }
theorem p_Mm_worthShare : zPv y_Mm_worthShare c_Mm_worthShare 3 (some .double) 1 := ⟨wc_Mm_worthShare, ws_Mm_worthShare, wv_Mm_worthShare, wn_Mm_worthShare, by decide +kernel, by decide +kernel⟩
theorem cl_Jl_314 : Cond.constantLong R_Jl 314 (6148914691236517205) ∈ zWs := zmem 351 (by decide +kernel) rfl
theorem cl_Jl_316 : Cond.constantLong R_Jl 316 (3689348814741910323) ∈ zWs := zmem 352 (by decide +kernel) rfl
theorem cl_Jl_318 : Cond.constantLong R_Jl 318 (1085102592571150095) ∈ zWs := zmem 353 (by decide +kernel) rfl
theorem cl_Bd_81 : Cond.constantLong R_Bd 81 (-1) ∈ zWs := zmem 492 (by decide +kernel) rfl
/-- a board among the cells: its row of squares lies behind it -/
def isB (b : Nat) : Prop := (∀ (D : zD) (v : Nat → Int32) (r : Nat → Value), mk D b v r = (0, 0, fun _ => .ref (D.1 (b + 1)))) ∧ (∀ (D : zD) (v : Nat → Int32) (r : Nat → Value), mk D (b + 1) v r = (10, 36, fun k => .int (v k))) ∧ b < 45 ∧ ∀ k, mkW (b + 1) k = true
theorem isB_i {b : Nat} (h : isB b) : b < 53 := by have := h.2.2.1; omega
theorem isB_j {b : Nat} (h : isB b) : b + 1 < 53 := by have := h.2.2.1; omega
theorem isB_k {b : Nat} (h : isB b) : b + 1 < 46 := by have := h.2.2.1; omega
theorem isB_2 : isB 2 := ⟨fun _ _ _ => rfl, fun _ _ _ => rfl, by decide, fun _ => rfl⟩
theorem isB_9 : isB 9 := ⟨fun _ _ _ => rfl, fun _ _ _ => rfl, by decide, fun _ => rfl⟩
theorem isB_14 : isB 14 := ⟨fun _ _ _ => rfl, fun _ _ _ => rfl, by decide, fun _ => rfl⟩
theorem isB_19 : isB 19 := ⟨fun _ _ _ => rfl, fun _ _ _ => rfl, by decide, fun _ => rfl⟩
theorem isB_24 : isB 24 := ⟨fun _ _ _ => rfl, fun _ _ _ => rfl, by decide, fun _ => rfl⟩
theorem isB_29 : isB 29 := ⟨fun _ _ _ => rfl, fun _ _ _ => rfl, by decide, fun _ => rfl⟩
theorem isB_35 : isB 35 := ⟨fun _ _ _ => rfl, fun _ _ _ => rfl, by decide, fun _ => rfl⟩
end
section
/-! ===== numbers and bit sets (the wb_ rows are pasted from kit/laws/BITS.to-paste) ===== -/
theorem wb_tb (n : Nat) : (lN n).toBitVec = BitVec.ofNat 64 n := rfl
theorem wb_inj {a b : Int64} (h : a.toBitVec = b.toBitVec) : a = b := Int64.toBitVec_inj.mp h
theorem wb_tn {n : Nat} (h : n < 2 ^ 64) : (lN n).toBitVec.toNat = n := by rw [wb_tb, BitVec.toNat_ofNat, Nat.mod_eq_of_lt h]
theorem wb_of (x : Int64) : ∃ n, n < 2 ^ 64 ∧ x = lN n := ⟨x.toBitVec.toNat, x.toBitVec.isLt, wb_inj (by rw [wb_tb]; simp)⟩
theorem wb_of32 (x : Int32) : ∃ n, n < 2 ^ 32 ∧ x = nI n := ⟨x.toBitVec.toNat, x.toBitVec.isLt, Int32.toBitVec_inj.mp (by show _ = BitVec.ofNat 32 _; simp)⟩
theorem wb_c : ∀ k, k < 64 → ((nI k).toInt64 &&& 63) = lN k := by decide +kernel
theorem wb_cu : ∀ k, k < 64 → ((nI k).toInt64.toUInt64 &&& Int64.toUInt64 63) = UInt64.ofNat k := by decide +kernel
theorem wb_sm : ∀ k, k < 64 → (BitVec.ofNat 64 k).smod 64 = BitVec.ofNat 64 k := by decide +kernel
theorem wb_pw {a b : Nat} (h : a ≤ b) : 2 ^ b = 2 ^ a * 2 ^ (b - a) := by rw [← Nat.pow_add]; congr 1; omega
theorem wb_lt2 {a b : Nat} (h : a < b) : 2 ^ a < 2 ^ b := Nat.pow_lt_pow_right (by decide) h
theorem wb_mod (n : Nat) : lN n = lN (n % 2 ^ 64) := wb_inj (by rw [wb_tb, wb_tb]; apply BitVec.eq_of_toNat_eq; rw [BitVec.toNat_ofNat, BitVec.toNat_ofNat, Nat.mod_mod])
theorem wb_shr {n k : Nat} (hn : n < 2 ^ 64) (hk : k < 64) : ((lN n).toUInt64 >>> ((nI k).toInt64.toUInt64 &&& Int64.toUInt64 63)).toInt64 = lN (n / 2 ^ k) := by
  rw [wb_cu k hk]
  apply wb_inj
  apply BitVec.eq_of_toNat_eq
  show ((lN n).toUInt64 >>> UInt64.ofNat k).toNat = (BitVec.ofNat 64 _).toNat
  have h1 : (UInt64.ofNat k).toNat = k := by
    show (BitVec.ofNat 64 k).toNat = k
    rw [BitVec.toNat_ofNat, Nat.mod_eq_of_lt (by omega)]
  have h2 : (lN n).toUInt64.toNat = n := wb_tn hn
  rw [UInt64.toNat_shiftRight, h1, h2, Nat.mod_eq_of_lt hk, Nat.shiftRight_eq_div_pow, BitVec.toNat_ofNat, Nat.mod_eq_of_lt (Nat.lt_of_le_of_lt (Nat.div_le_self _ _) hn)]
theorem wb_shl (n : Nat) {k : Nat} (hk : k < 64) : lN n <<< ((nI k).toInt64 &&& 63) = lN (n * 2 ^ k) := by
  rw [wb_c k hk]
  apply wb_inj
  rw [Int64.toBitVec_shiftLeft, wb_tb, wb_tb, wb_tb, wb_sm k hk]
  apply BitVec.eq_of_toNat_eq
  rw [BitVec.shiftLeft_eq', BitVec.toNat_shiftLeft, BitVec.toNat_ofNat, BitVec.toNat_ofNat, BitVec.toNat_ofNat, Nat.mod_eq_of_lt (show k < 2 ^ 64 by omega), Nat.shiftLeft_eq, Nat.mul_mod, Nat.mod_mod, ← Nat.mul_mod]
theorem wb_and {a b : Nat} (ha : a < 2 ^ 64) (hb : b < 2 ^ 64) : lN a &&& lN b = lN (a &&& b) := by
  apply wb_inj
  rw [Int64.toBitVec_and, wb_tb, wb_tb, wb_tb]
  apply BitVec.eq_of_toNat_eq
  rw [BitVec.toNat_and, BitVec.toNat_ofNat, BitVec.toNat_ofNat, BitVec.toNat_ofNat, Nat.mod_eq_of_lt ha, Nat.mod_eq_of_lt hb, Nat.mod_eq_of_lt (Nat.and_lt_two_pow _ hb)]
theorem wb_or {a b : Nat} (ha : a < 2 ^ 64) (hb : b < 2 ^ 64) : lN a ||| lN b = lN (a ||| b) := by
  apply wb_inj
  rw [Int64.toBitVec_or, wb_tb, wb_tb, wb_tb]
  apply BitVec.eq_of_toNat_eq
  rw [BitVec.toNat_or, BitVec.toNat_ofNat, BitVec.toNat_ofNat, BitVec.toNat_ofNat, Nat.mod_eq_of_lt ha, Nat.mod_eq_of_lt hb, Nat.mod_eq_of_lt (Nat.or_lt_two_pow ha hb)]
theorem wb_mask {n k : Nat} (hn : n < 2 ^ 64) (hk : k < 64) : lN n &&& lN (2 ^ k - 1) = lN (n % 2 ^ k) := by
  rw [wb_and hn (by have := wb_lt2 hk; omega), Nat.and_two_pow_sub_one_eq_mod]
theorem wb_a1 {n : Nat} (hn : n < 2 ^ 64) : lN n &&& 1 = lN (n % 2) := wb_mask (k := 1) hn (by decide)
theorem wb_bit {n k : Nat} (hn : n < 2 ^ 64) (hk : k < 64) : ((lN n).toUInt64 >>> ((nI k).toInt64.toUInt64 &&& Int64.toUInt64 63)).toInt64 &&& 1 = lN (n / 2 ^ k % 2) := by
  rw [wb_shr hn hk, wb_a1 (Nat.lt_of_le_of_lt (Nat.div_le_self _ _) hn)]
theorem pf_lI {a : Nat} (h : a < 2 ^ 63) : (lN a).toInt = (a : Int) := lg_ofNat_toInt h
theorem pf_shr {a d : Nat} {D : Int64} (hD : (D.toBitVec.smod 64).toNat = d) (h : a < 2 ^ 62) : lN a >>> D = lN (a / 2 ^ d) := by
  have hd : a / 2 ^ d ≤ a := Nat.div_le_self _ _
  apply Int64.toInt_inj.mp
  have e : (lN a >>> D).toInt = (lN a).toInt >>> d := by
    rw [← hD]
    exact BitVec.toInt_sshiftRight ..
  rw [e, Int.shiftRight_eq_div_pow, pf_lI (by omega), pf_lI (by omega)]
  rfl
theorem pf_ushr {a d : Nat} {D : UInt64} (hD : D.toNat % 64 = d) (h : a < 2 ^ 62) : ((lN a).toUInt64 >>> D).toInt64 = lN (a / 2 ^ d) := by
  have hd : a / 2 ^ d ≤ a := Nat.div_le_self _ _
  have e : (lN a).toUInt64 >>> D = UInt64.ofNat (a / 2 ^ d) := UInt64.toNat_inj.mp (by
    rw [UInt64.toNat_shiftRight, hD, Nat.shiftRight_eq_div_pow, UInt64.toNat_ofNat']
    show (UInt64.ofNat a).toNat / 2 ^ d = _
    rw [UInt64.toNat_ofNat', Nat.mod_eq_of_lt (by omega), Nat.mod_eq_of_lt (by omega)])
  rw [e]
  rfl
theorem pf_andw (x : Int64) : ∃ m, m < 2 ^ 32 ∧ x &&& 4294967295 = lN m := ⟨x.toBitVec.toNat % 2 ^ 32, Nat.mod_lt _ (by decide), Int64.toBitVec_inj.mp (BitVec.eq_of_toNat_eq (by
  show (x.toBitVec &&& 4294967295#64).toNat = (BitVec.ofNat 64 (x.toBitVec.toNat % 2 ^ 32)).toNat
  rw [BitVec.toNat_and, show (4294967295#64).toNat = 2 ^ 32 - 1 from by decide, Nat.and_two_pow_sub_one_eq_mod, BitVec.toNat_ofNat]
  omega))⟩
/-- the set of the numbers below n that have b -/
def bm (b : Nat → Bool) : Nat → Nat
  | 0 => 0
  | n + 1 => if b n then bm b n ||| 2 ^ n else bm b n
theorem bm_lt (b : Nat → Bool) (n : Nat) : bm b n < 2 ^ n := by
  induction n with
  | zero => simp [bm]
  | succ n ih =>
    have h1 : 2 ^ n < 2 ^ (n + 1) := wb_lt2 (by omega)
    unfold bm
    split
    · exact Nat.or_lt_two_pow (by omega) h1
    · omega
theorem bm_tb (b : Nat → Bool) (n k : Nat) : (bm b n).testBit k = (decide (k < n) && b k) := by
  induction n with
  | zero => simp [bm]
  | succ n ih =>
    unfold bm
    split
    · next h =>
      rw [Nat.testBit_or, ih, Nat.testBit_two_pow]
      by_cases h1 : n = k
      · subst h1
        simp [h]
      · simp only [h1, decide_false, Bool.or_false]
        by_cases h2 : k < n
        · simp [h2, show k < n + 1 by omega]
        · simp [h2, show ¬ k < n + 1 by omega]
    · next h =>
      rw [ih]
      by_cases h1 : k = n
      · subst h1
        simp [h]
      · by_cases h2 : k < n
        · simp [h2, show k < n + 1 by omega]
        · simp [h2, show ¬ k < n + 1 by omega]
theorem bm_t {b : Nat → Bool} {n : Nat} (hn : n < 63) (h : b n = true) : lN (bm b n) ||| (lN 1 <<< ((nI n).toInt64 &&& 63)) = lN (bm b (n + 1)) := by
  have h0 := bm_lt b n
  have h1 : 2 ^ n < 2 ^ 64 := wb_lt2 (by omega)
  rw [wb_shl 1 (by omega), Nat.one_mul, wb_or (by omega) h1]
  simp [bm, h]
theorem bm_f {b : Nat → Bool} {n : Nat} (h : b n = false) : bm b n = bm b (n + 1) := by simp [bm, h]
theorem bm_ext {b c : Nat → Bool} {n : Nat} (h : ∀ k, k < n → b k = c k) : bm b n = bm c n := by
  induction n with
  | zero => rfl
  | succ n ih => simp only [bm]; rw [ih (fun k hk => h k (by omega)), h n (by omega)]
theorem lN_or {a c : Nat} (ha : a < 2 ^ 64) (hc : c < 2 ^ 64) : lN a ||| lN c = lN (a ||| c) := wb_or ha hc
theorem lN_not {a c : Nat} (ha : a < 2 ^ 36) (hc : c < 2 ^ 36) : lN a &&& (lN c ^^^ (-1)) = lN (a &&& (c ^^^ (2 ^ 36 - 1))) := by
  apply wb_inj
  apply BitVec.eq_of_getLsbD_eq
  intro i hi
  rw [Int64.toBitVec_and, Int64.toBitVec_xor, wb_tb, wb_tb, wb_tb, BitVec.getLsbD_and, BitVec.getLsbD_xor, BitVec.getLsbD_ofNat, BitVec.getLsbD_ofNat, BitVec.getLsbD_ofNat, Nat.testBit_and, Nat.testBit_xor, Nat.testBit_two_pow_sub_one]
  have h1 : (-1 : Int64).toBitVec.getLsbD i = true := by
    have : ∀ j, j < 64 → (-1 : Int64).toBitVec.getLsbD j = true := by decide
    exact this i hi
  rw [h1]
  simp only [hi, decide_true, Bool.true_and]
  by_cases h2 : i < 36
  · simp [h2]
  · have h3 : a.testBit i = false := Nat.testBit_lt_two_pow (Nat.lt_of_lt_of_le ha (Nat.pow_le_pow_right (by decide) (by omega)))
    simp [h3]
theorem lN_shr {a t : Nat} (ha : a < 2 ^ 62) (ht : t < 64) : lN a >>> ((nI t).toInt64 &&& 63) = lN (a / 2 ^ t) := by
  rw [wb_c t ht]
  exact pf_shr (by rw [wb_tb, wb_sm t ht, BitVec.toNat_ofNat, Nat.mod_eq_of_lt (by omega)]) ha
theorem lN_bit {a t : Nat} (ha : a < 2 ^ 62) (ht : t < 64) : lg_cmp (lN a >>> ((nI t).toInt64 &&& 63) &&& lN 1) (lN 0) = bI (a.testBit t) := by
  rw [lN_shr ha ht]
  have hq : a / 2 ^ t ≤ a := Nat.div_le_self _ _
  rw [show (lN 1 : Int64) = 1 from rfl, wb_a1 (by omega)]
  rw [Nat.testBit_eq_decide_div_mod_eq]
  rcases (show a / 2 ^ t % 2 = 0 ∨ a / 2 ^ t % 2 = 1 by omega) with h | h
  · rw [h]; rfl
  · rw [h]; rfl
/-! ===== Piece: a piece is a number below 128: its steps, 32 for a leader, 64 for side 1 ===== -/
def sd (p : Nat) : Nat := p / 64 % 2
def stp (p : Nat) : Nat := p % 32
def ldr (p : Nat) : Bool := p / 32 % 2 == 1
def kn (p i : Nat) : Bool := p / 2 ^ i % 2 == 1
def kw (i : Nat) : Nat := match i with
  | 0 => 1
  | 1 => 1
  | 2 => 3
  | 3 => 5
  | _ => 3
/-- the worth of the first i kinds of a set of steps -/
def wsp (s : Nat) : Nat → Nat
  | 0 => 0
  | i + 1 => wsp s i + if kn s i then kw i else 0
def wst (s : Nat) : Nat := wsp s 5
def wr (p : Nat) : Nat := wst (stp p) + if ldr p then 10 else 0
def lrn (p v : Nat) : Nat := stp v &&& (31 ^^^ stp p)
theorem sd_le (p : Nat) : sd p ≤ 1 := by unfold sd; omega
theorem stp_lt (p : Nat) : stp p < 32 := by unfold stp; omega
theorem kw_le (i : Nat) : kw i ≤ 5 := by unfold kw; split <;> omega
theorem wsp_le (s i : Nat) : wsp s i ≤ 5 * i := by
  induction i with
  | zero => simp [wsp]
  | succ i ih =>
    have := kw_le i
    unfold wsp
    split <;> omega
theorem wst_le (s : Nat) : wst s ≤ 25 := wsp_le s 5
theorem wr_le (p : Nat) : wr p ≤ 35 := by
  have := wst_le (stp p)
  unfold wr
  split <;> omega
theorem wsp_t {s i : Nat} (hi : i < 5) (h : kn s i = true) : nI (wsp s i) + zKW i = nI (wsp s (i + 1)) := by
  have h1 : zKW i = nI (kw i) := by
    rcases (show i = 0 ∨ i = 1 ∨ i = 2 ∨ i = 3 ∨ i = 4 by omega) with rfl | rfl | rfl | rfl | rfl <;> rfl
  rw [h1, nI_add]
  simp [wsp, h]
theorem wsp_f {s i : Nat} (h : kn s i = false) : wsp s i = wsp s (i + 1) := by simp [wsp, h]
theorem tb_side : ∀ p, p < 128 → nI p &&& nI 64 = nI (64 * sd p) := by decide +kernel
theorem tb_lead : ∀ p, p < 128 → nI p &&& nI 32 = bI (ldr p) * nI 32 := by decide +kernel
theorem tb_lead0 : ∀ p, p < 128 → (nI p &&& nI 32 = 0 ↔ ldr p = false) := by decide +kernel
theorem tb_stp : ∀ p, p < 128 → nI p &&& nI 31 = nI (stp p) := by decide +kernel
theorem tb_kn : ∀ p, p < 128 → ∀ i, i < 5 → (nI p >>> (nI i &&& 31)) &&& nI 1 = bI (kn p i) := by decide +kernel
theorem tb_lrn : ∀ a, a < 32 → ∀ c, c < 32 → nI c &&& (nI a ^^^ (-1)) = nI (c &&& (31 ^^^ a)) := by decide +kernel
theorem lrn_lt (p v : Nat) : lrn p v < 32 := by
  have h := stp_lt v
  unfold lrn
  exact Nat.lt_of_le_of_lt Nat.and_le_left h
set_option maxRecDepth 20000 in
theorem ct_Pc_sideOf {E : zE} (hE : zEv E) {l : Launch} (hl : l.stackTraces = false) (p : Nat) (hp : p < 128) (h : aH) (sz : Nat) : zM E l y_Pc_sideOf [.code y_Pc_sideOf c_Pc_sideOf 1 (some .int)] rm_Pc_sideOf [.int (nI p)] h sz (zRet (some (.int (nI (sd p)))) h sz) := by
  refine zM_of hE hl (by decide +kernel) [some (.int (nI p))] ⟨rfl, rfl, Nat.le_of_ble_eq_true rfl⟩ ?_
  intro G C q hb
  have hs := sd_le p
  refine Z_run C it_Pc_sideOf 3 (f2 := (4, [some (.int (nI p))], [.int (nI p &&& nI 64)])) rfl ?_
  have e1 : nI p &&& nI 64 = nI (64 * sd p) := tb_side p hp
  rw [e1]
  refine Z_br C it_Pc_sideOf rfl rfl (fun hc1 => ?_) (fun hc1 => ?_)
  · replace hc1 := (nI_e0 (a := 64 * sd p) (by omega)).mp hc1
    refine Z_run C it_Pc_sideOf 1 (f2 := (12, [some (.int (nI p))], [.int (nI 0)])) rfl ?_
    exact Z_iret C q.e it_Pc_sideOf rfl (zRet_i (by rw [show sd p = 0 by omega])) (by decide) (by decide)
  · replace hc1 : ¬ _ := fun z9 => hc1 ((nI_e0 (a := 64 * sd p) (by omega)).mpr z9)
    refine Z_run C it_Pc_sideOf 2 (f2 := (12, [some (.int (nI p))], [.int (nI 1)])) rfl ?_
    exact Z_iret C q.e it_Pc_sideOf rfl (zRet_i (by rw [show sd p = 1 by omega])) (by decide) (by decide)
set_option maxRecDepth 20000 in
theorem ct_Pc_stepsOf {E : zE} (hE : zEv E) {l : Launch} (hl : l.stackTraces = false) (p : Nat) (hp : p < 128) (h : aH) (sz : Nat) : zM E l y_Pc_stepsOf [.code y_Pc_stepsOf c_Pc_stepsOf 1 (some .int)] rm_Pc_stepsOf [.int (nI p)] h sz (zRet (some (.int (nI (stp p)))) h sz) := by
  refine zM_of hE hl (by decide +kernel) [some (.int (nI p))] ⟨rfl, rfl, Nat.le_of_ble_eq_true rfl⟩ ?_
  intro G C q hb
  refine Z_run C it_Pc_stepsOf 3 (f2 := (4, [some (.int (nI p))], [.int (nI p &&& nI 31)])) rfl ?_
  have e1 : nI p &&& nI 31 = nI (stp p) := tb_stp p hp
  rw [e1]
  exact Z_iret C q.e it_Pc_stepsOf rfl (zRet_i rfl) (by decide) (by decide)
set_option maxRecDepth 20000 in
theorem ct_Pc_leads {E : zE} (hE : zEv E) {l : Launch} (hl : l.stackTraces = false) (p : Nat) (hp : p < 128) (h : aH) (sz : Nat) : zM E l y_Pc_leads [.code y_Pc_leads c_Pc_leads 1 (some .boolean)] rm_Pc_leads [.int (nI p)] h sz (zRet (some (.int (bI (ldr p)))) h sz) := by
  refine zM_of hE hl (by decide +kernel) [some (.int (nI p))] ⟨rfl, rfl, Nat.le_of_ble_eq_true rfl⟩ ?_
  intro G C q hb
  refine Z_run C it_Pc_leads 3 (f2 := (4, [some (.int (nI p))], [.int (nI p &&& nI 32)])) rfl ?_
  refine Z_br C it_Pc_leads rfl rfl (fun hc1 => ?_) (fun hc1 => ?_)
  · replace hc1 := (tb_lead0 p hp).mp hc1
    refine Z_run C it_Pc_leads 1 (f2 := (12, [some (.int (nI p))], [.int (nI 0)])) rfl ?_
    exact Z_zret C q.e it_Pc_leads rfl (Or.inl rfl) (zRet_i (by rw [hc1]; rfl)) (by decide) (by decide)
  · replace hc1 : ldr p = true := by rw [← Bool.not_eq_false]; exact fun z9 => hc1 ((tb_lead0 p hp).mpr z9)
    refine Z_run C it_Pc_leads 2 (f2 := (12, [some (.int (nI p))], [.int (nI 1)])) rfl ?_
    exact Z_zret C q.e it_Pc_leads rfl (Or.inr rfl) (zRet_i (by rw [hc1]; rfl)) (by decide) (by decide)
set_option maxRecDepth 20000 in
theorem ct_Pc_knows {E : zE} (hE : zEv E) {l : Launch} (hl : l.stackTraces = false) (p : Nat) (hp : p < 128) (i : Nat) (hi : i < 5) (h : aH) (sz : Nat) : zM E l y_Pc_knows [.code y_Pc_knows c_Pc_knows 2 (some .boolean)] rm_Pc_knows [.int (nI p), .int (nI i)] h sz (zRet (some (.int (bI (kn p i)))) h sz) := by
  refine zM_of hE hl (by decide +kernel) [some (.int (nI p)), some (.int (nI i))] ⟨rfl, rfl, Nat.le_of_ble_eq_true rfl⟩ ?_
  intro G C q hb
  refine Z_run C it_Pc_knows 5 (f2 := (5, [some (.int (nI p)), some (.int (nI i))], [.int ((nI p >>> (nI i &&& 31)) &&& nI 1)])) rfl ?_
  have e1 : (nI p >>> (nI i &&& 31)) &&& nI 1 = bI (kn p i) := tb_kn p hp i hi
  rw [e1]
  refine Z_br C it_Pc_knows rfl rfl (fun hc1 => ?_) (fun hc1 => ?_)
  · replace hc1 := bI_0.mp hc1
    refine Z_run C it_Pc_knows 1 (f2 := (13, [some (.int (nI p)), some (.int (nI i))], [.int (nI 0)])) rfl ?_
    exact Z_zret C q.e it_Pc_knows rfl (Or.inl rfl) (zRet_i (by rw [hc1]; rfl)) (by decide) (by decide)
  · replace hc1 := bI_1.mp hc1
    refine Z_run C it_Pc_knows 2 (f2 := (13, [some (.int (nI p)), some (.int (nI i))], [.int (nI 1)])) rfl ?_
    exact Z_zret C q.e it_Pc_knows rfl (Or.inr rfl) (zRet_i (by rw [hc1]; rfl)) (by decide) (by decide)
set_option maxRecDepth 20000 in
theorem lp_Pc_worthOfSteps {E : zE} {G : zG} {O : zO} (C : zCx E G c_Pc_worthOfSteps 3 y_Pc_worthOfSteps.cls y_Pc_worthOfSteps.name (some .int) rm_Pc_worthOfSteps) (q : zEndX E G O rm_Pc_worthOfSteps.cells rm_Pc_worthOfSteps.slots)  {D : zD} (hD : zDok E D) {V : Nat → Nat → Int32} {P : Nat → Nat → Value} {PH : aH} {sz : Nat} (s : Nat) (hs : s < 32) (hO : O (.inl (some (.int (nI (wst s))))) (HM D V P PH) sz) : ∀ (j i : Nat), 5 - i < j → i ≤ 5 → Z E G (HM D V P PH) sz 0 0 (4, [some (.int (nI s)), some (.int (nI (wsp s i))), some (.int (nI i))], []) := by
  intro j
  induction j with
  | zero =>
    intro i h1 h2
    omega
  | succ j ih =>
    intro i h1 h2
    refine Z_run C it_Pc_worthOfSteps 2 (f2 := (6, [some (.int (nI s)), some (.int (nI (wsp s i))), some (.int (nI i))], [.int (nI 5), .int (nI i)])) rfl ?_
    refine Z_br C it_Pc_worthOfSteps rfl rfl (fun hc1 => ?_) (fun hc1 => ?_)
    · replace hc1 := (nI_leI (a := 5) (b := i) (by omega) (by omega)).mp hc1
      refine Z_run C it_Pc_worthOfSteps 1 (f2 := (32, [some (.int (nI s)), some (.int (nI (wsp s i))), some (.int (nI i))], [.int (nI (wsp s i))])) rfl ?_
      exact Z_iret C q.e it_Pc_worthOfSteps rfl ((show i = 5 by omega) ▸ hO) (by decide) (by decide)
    · replace hc1 : ¬ _ := fun z9 => hc1 ((nI_leI (a := 5) (b := i) (by omega) (by omega)).mpr z9)
      refine Z_run C it_Pc_worthOfSteps 2 (f2 := (11, [some (.int (nI s)), some (.int (nI (wsp s i))), some (.int (nI i))], [.int (nI i), .int (nI s)])) rfl ?_
      refine Zr_callS C it_Pc_worthOfSteps rfl p_Pc_knows ml_Pc_22 [.int (nI s), .int (nI i)] (ct_Pc_knows C.ev C.l s (by first | assumption | omega | exact hF _ (by omega)) i (by omega) _ _) rfl rfl ⟨by decide, by decide, by decide, by decide⟩ (Nat.le_of_ble_eq_true rfl) rfl ?_
      show Z E G (HM D V P PH) sz 0 0 (14, [some (.int (nI s)), some (.int (nI (wsp s i))), some (.int (nI i))], [.int (bI (kn s i))])
      refine Z_br C it_Pc_worthOfSteps rfl rfl (fun hc2 => ?_) (fun hc2 => ?_)
      · replace hc2 := bI_0.mp hc2
        refine Z_run C it_Pc_worthOfSteps 1 (f2 := (28, [some (.int (nI s)), some (.int (nI (wsp s i))), some (.int (nI i + nI 1))], [])) rfl ?_
        rw [nI_add i 1]
        refine Z_run C it_Pc_worthOfSteps 1 (f2 := (4, [some (.int (nI s)), some (.int (nI (wsp s i))), some (.int (nI (i + 1)))], [])) rfl ?_
        have e1 : nI (wsp s i) = nI (wsp s (i + 1)) := by rw [wsp_f hc2]
        rw [e1]
        exact ih (i + 1) (by omega) (by omega)
      · replace hc2 := bI_1.mp hc2
        refine Z_run C it_Pc_worthOfSteps 1 (f2 := (18, [some (.int (nI s)), some (.int (nI (wsp s i))), some (.int (nI i))], [.int (nI (wsp s i))])) rfl ?_
        refine Z_gets C it_Pc_worthOfSteps rfl hD.2.2.1 fl_Pc_26 ?_
        refine Z_run C it_Pc_worthOfSteps 1 (f2 := (22, [some (.int (nI s)), some (.int (nI (wsp s i))), some (.int (nI i))], [.int (nI i), .ref (D.1 46), .int (nI (wsp s i))])) rfl ?_
        refine Zm_ald C it_Pc_worthOfSteps hD 46 15 rfl (by decide) rfl (by decide) (by decide) rfl (j := i) (by omega) (v := .int (zKW i)) rfl ?_
        refine Z_run C it_Pc_worthOfSteps 3 (f2 := (28, [some (.int (nI s)), some (.int (nI (wsp s i) + zKW i)), some (.int (nI i + nI 1))], [])) rfl ?_
        rw [nI_add i 1]
        refine Z_run C it_Pc_worthOfSteps 1 (f2 := (4, [some (.int (nI s)), some (.int (nI (wsp s i) + zKW i)), some (.int (nI (i + 1)))], [])) rfl ?_
        have e2 : nI (wsp s i) + zKW i = nI (wsp s (i + 1)) := wsp_t (by omega) hc2
        rw [e2]
        exact ih (i + 1) (by omega) (by omega)
set_option maxRecDepth 20000 in
theorem ct_Pc_worthOfSteps {E : zE} (hE : zEv E) {l : Launch} (hl : l.stackTraces = false) {D : zD} (hD : zDok E D) (V : Nat → Nat → Int32) (P : Nat → Nat → Value) (PH : aH) (s : Nat) (hs : s < 32) (sz : Nat) : zM E l y_Pc_worthOfSteps [.code y_Pc_worthOfSteps c_Pc_worthOfSteps 3 (some .int)] rm_Pc_worthOfSteps [.int (nI s)] (HM D V P PH) sz (zRet (some (.int (nI (wst s)))) (HM D V P PH) sz) := by
  refine zM_of hE hl (by decide +kernel) [some (.int (nI s)), none, none] ⟨rfl, rfl, Nat.le_of_ble_eq_true rfl⟩ ?_
  intro G C q hb
  refine Z_run C it_Pc_worthOfSteps 4 (f2 := (4, [some (.int (nI s)), some (.int (nI 0)), some (.int (nI 0))], [])) rfl ?_
  exact lp_Pc_worthOfSteps C q hD s hs ⟨rfl, rfl, rfl⟩ 6 0 (by omega) (by omega)
set_option maxRecDepth 20000 in
theorem ct_Pc_worthOf {E : zE} (hE : zEv E) {l : Launch} (hl : l.stackTraces = false) {D : zD} (hD : zDok E D) (V : Nat → Nat → Int32) (P : Nat → Nat → Value) (PH : aH) (p : Nat) (hp : p < 128) (sz : Nat) : zM E l y_Pc_worthOf [.code y_Pc_worthOf c_Pc_worthOf 1 (some .int)] rm_Pc_worthOf [.int (nI p)] (HM D V P PH) sz (zRet (some (.int (nI (wr p)))) (HM D V P PH) sz) := by
  refine zM_of hE hl (by decide +kernel) [some (.int (nI p))] ⟨rfl, rfl, Nat.le_of_ble_eq_true rfl⟩ ?_
  intro G C q hb
  refine Z_run C it_Pc_worthOf 1 (f2 := (1, [some (.int (nI p))], [.int (nI p)])) rfl ?_
  refine Zr_callS C it_Pc_worthOf rfl p_Pc_stepsOf ml_Pc_11 [.int (nI p)] (ct_Pc_stepsOf C.ev C.l p (by first | assumption | omega | exact hF _ (by omega)) _ _) rfl rfl ⟨by decide, by decide, by decide, by decide⟩ (Nat.le_of_ble_eq_true rfl) rfl ?_
  show Z E G (HM D V P PH) sz 0 0 (4, [some (.int (nI p))], [.int (nI (stp p))])
  refine Zr_callS C it_Pc_worthOf rfl p_Pc_worthOfSteps ml_Pc_15 [.int (nI (stp p))] (ct_Pc_worthOfSteps C.ev C.l hD _ _ _ (stp p) (by first | exact stp_lt _ | exact lrn_lt _ _ | assumption | omega) _) rfl rfl ⟨by decide, by decide, by decide, by decide⟩ (Nat.le_of_ble_eq_true rfl) rfl ?_
  show Z E G (HM D V P PH) sz 0 0 (7, [some (.int (nI p))], [.int (nI (wst (stp p)))])
  refine Z_run C it_Pc_worthOf 1 (f2 := (8, [some (.int (nI p))], [.int (nI p), .int (nI (wst (stp p)))])) rfl ?_
  refine Zr_callS C it_Pc_worthOf rfl p_Pc_leads ml_Pc_18 [.int (nI p)] (ct_Pc_leads C.ev C.l p (by first | assumption | omega | exact hF _ (by omega)) _ _) rfl rfl ⟨by decide, by decide, by decide, by decide⟩ (Nat.le_of_ble_eq_true rfl) rfl ?_
  show Z E G (HM D V P PH) sz 0 0 (11, [some (.int (nI p))], [.int (bI (ldr p)), .int (nI (wst (stp p)))])
  refine Z_br C it_Pc_worthOf rfl rfl (fun hc1 => ?_) (fun hc1 => ?_)
  · replace hc1 := bI_0.mp hc1
    refine Z_run C it_Pc_worthOf 2 (f2 := (21, [some (.int (nI p))], [.int (nI (wst (stp p)) + nI 0)])) rfl ?_
    rw [nI_add (wst (stp p)) 0]
    exact Z_iret C q.e it_Pc_worthOf rfl (zRet_i (by unfold wr; rw [hc1]; rfl)) (by decide) (by decide)
  · replace hc1 := bI_1.mp hc1
    refine Z_run C it_Pc_worthOf 3 (f2 := (21, [some (.int (nI p))], [.int (nI (wst (stp p)) + nI 10)])) rfl ?_
    rw [nI_add (wst (stp p)) 10]
    exact Z_iret C q.e it_Pc_worthOf rfl (zRet_i (by unfold wr; rw [hc1]; rfl)) (by decide) (by decide)
set_option maxRecDepth 20000 in
theorem ct_Pc_learnt {E : zE} (hE : zEv E) {l : Launch} (hl : l.stackTraces = false) (p : Nat) (hp : p < 128) (v : Nat) (hv : v < 128) (h : aH) (sz : Nat) : zM E l y_Pc_learnt [.code y_Pc_learnt c_Pc_learnt 2 (some .int)] rm_Pc_learnt [.int (nI p), .int (nI v)] h sz (zRet (some (.int (nI (lrn p v)))) h sz) := by
  refine zM_of hE hl (by decide +kernel) [some (.int (nI p)), some (.int (nI v))] ⟨rfl, rfl, Nat.le_of_ble_eq_true rfl⟩ ?_
  intro G C q hb
  refine Z_run C it_Pc_learnt 1 (f2 := (1, [some (.int (nI p)), some (.int (nI v))], [.int (nI v)])) rfl ?_
  refine Zr_callS C it_Pc_learnt rfl p_Pc_stepsOf ml_Pc_11 [.int (nI v)] (ct_Pc_stepsOf C.ev C.l v (by first | assumption | omega | exact hF _ (by omega)) _ _) rfl rfl ⟨by decide, by decide, by decide, by decide⟩ (Nat.le_of_ble_eq_true rfl) rfl ?_
  show Z E G h sz 0 0 (4, [some (.int (nI p)), some (.int (nI v))], [.int (nI (stp v))])
  refine Z_run C it_Pc_learnt 1 (f2 := (5, [some (.int (nI p)), some (.int (nI v))], [.int (nI p), .int (nI (stp v))])) rfl ?_
  refine Zr_callS C it_Pc_learnt rfl p_Pc_stepsOf ml_Pc_11 [.int (nI p)] (ct_Pc_stepsOf C.ev C.l p (by first | assumption | omega | exact hF _ (by omega)) _ _) rfl rfl ⟨by decide, by decide, by decide, by decide⟩ (Nat.le_of_ble_eq_true rfl) rfl ?_
  show Z E G h sz 0 0 (8, [some (.int (nI p)), some (.int (nI v))], [.int (nI (stp p)), .int (nI (stp v))])
  refine Z_run C it_Pc_learnt 3 (f2 := (11, [some (.int (nI p)), some (.int (nI v))], [.int (nI (stp v) &&& (nI (stp p) ^^^ (-1)))])) rfl ?_
  have e1 : nI (stp v) &&& (nI (stp p) ^^^ (-1)) = nI (lrn p v) := tb_lrn _ (stp_lt _) _ (stp_lt _)
  rw [e1]
  exact Z_iret C q.e it_Pc_learnt rfl (zRet_i rfl) (by decide) (by decide)
/-- a piece out of its side, its steps and whether it leads -/
def pof (s st : Nat) (ld : Bool) : Nat := st + (if ld then 32 else 0) + 64 * s
theorem tb_pof : ∀ st, st < 32 → ∀ ld : Bool, ∀ s, s < 2 → ((nI st ||| (if ld then nI 32 else nI 0)) ||| (if s = 1 then nI 64 else nI 0)) = nI (pof s st ld) := by decide +kernel
set_option maxRecDepth 20000 in
theorem ct_Pc_of {E : zE} (hE : zEv E) {l : Launch} (hl : l.stackTraces = false) (s : Nat) (hs : s < 2) (st : Nat) (hst : st < 32) (ld : Bool) (h : aH) (sz : Nat) : zM E l y_Pc_of [.code y_Pc_of c_Pc_of 3 (some .int)] rm_Pc_of [.int (nI s), .int (nI st), .int (bI ld)] h sz (zRet (some (.int (nI (pof s st ld)))) h sz) := by
  refine zM_of hE hl (by decide +kernel) [some (.int (nI s)), some (.int (nI st)), some (.int (bI ld))] ⟨rfl, rfl, Nat.le_of_ble_eq_true rfl⟩ ?_
  intro G C q hb
  refine Z_run C it_Pc_of 2 (f2 := (2, [some (.int (nI s)), some (.int (nI st)), some (.int (bI ld))], [.int (bI ld), .int (nI st)])) rfl ?_
  refine Z_br C it_Pc_of rfl rfl (fun hc1 => ?_) (fun hc1 => ?_)
  · replace hc1 := bI_0.mp hc1
    refine Z_run C it_Pc_of 4 (f2 := (14, [some (.int (nI s)), some (.int (nI st)), some (.int (bI ld))], [.int (nI 1), .int (nI s), .int (nI st ||| nI 0)])) rfl ?_
    refine Z_br C it_Pc_of rfl rfl (fun hc2 => ?_) (fun hc2 => ?_)
    · replace hc2 : ¬ _ := fun z9 => hc2 ((nI_eq (a := s) (b := 1) (by omega) (by omega)).mpr z9)
      refine Z_run C it_Pc_of 2 (f2 := (24, [some (.int (nI s)), some (.int (nI st)), some (.int (bI ld))], [.int ((nI st ||| nI 0) ||| nI 0)])) rfl ?_
      exact Z_iret C q.e it_Pc_of rfl (zRet_i (by subst hc1; have e9 := tb_pof st hst false s hs; (first | rw [if_neg hc2] at e9 | rw [if_neg hc3] at e9 | rw [if_pos hc2] at e9 | rw [if_pos hc3] at e9) ; exact e9)) (by decide) (by decide)
    · replace hc2 := Classical.not_not.mp hc2
      replace hc2 := (nI_eq (a := s) (b := 1) (by omega) (by omega)).mp hc2
      refine Z_run C it_Pc_of 3 (f2 := (24, [some (.int (nI s)), some (.int (nI st)), some (.int (bI ld))], [.int ((nI st ||| nI 0) ||| nI 64)])) rfl ?_
      exact Z_iret C q.e it_Pc_of rfl (zRet_i (by subst hc1; have e9 := tb_pof st hst false s hs; (first | rw [if_neg hc2] at e9 | rw [if_neg hc3] at e9 | rw [if_pos hc2] at e9 | rw [if_pos hc3] at e9) ; exact e9)) (by decide) (by decide)
  · replace hc1 := bI_1.mp hc1
    refine Z_run C it_Pc_of 5 (f2 := (14, [some (.int (nI s)), some (.int (nI st)), some (.int (bI ld))], [.int (nI 1), .int (nI s), .int (nI st ||| nI 32)])) rfl ?_
    refine Z_br C it_Pc_of rfl rfl (fun hc3 => ?_) (fun hc3 => ?_)
    · replace hc3 : ¬ _ := fun z9 => hc3 ((nI_eq (a := s) (b := 1) (by omega) (by omega)).mpr z9)
      refine Z_run C it_Pc_of 2 (f2 := (24, [some (.int (nI s)), some (.int (nI st)), some (.int (bI ld))], [.int ((nI st ||| nI 32) ||| nI 0)])) rfl ?_
      exact Z_iret C q.e it_Pc_of rfl (zRet_i (by subst hc1; have e9 := tb_pof st hst true s hs; (first | rw [if_neg hc2] at e9 | rw [if_neg hc3] at e9 | rw [if_pos hc2] at e9 | rw [if_pos hc3] at e9) ; exact e9)) (by decide) (by decide)
    · replace hc3 := Classical.not_not.mp hc3
      replace hc3 := (nI_eq (a := s) (b := 1) (by omega) (by omega)).mp hc3
      refine Z_run C it_Pc_of 3 (f2 := (24, [some (.int (nI s)), some (.int (nI st)), some (.int (bI ld))], [.int ((nI st ||| nI 32) ||| nI 64)])) rfl ?_
      exact Z_iret C q.e it_Pc_of rfl (zRet_i (by subst hc1; have e9 := tb_pof st hst true s hs; (first | rw [if_neg hc2] at e9 | rw [if_neg hc3] at e9 | rw [if_pos hc2] at e9 | rw [if_pos hc3] at e9) ; exact e9)) (by decide) (by decide)
end
section
/-! ===== Board: reads of one square, sums over the squares; F k is the piece on the square k ===== -/
def bF (V : Nat → Nat → Int32) (b k : Nat) : Nat := pn (V (b + 1) k)
theorem bF_e (V : Nat → Nat → Int32) (b k : Nat) : V (b + 1) k = nI (bF V b k) := (nI_pn _).symm
theorem bF_v (V : Nat → Nat → Int32) (b k : Nat) : Value.int (V (b + 1) k) = .int (nI (bF V b k)) := congrArg Value.int (bF_e V b k)
def okF (F : Nat → Nat) : Prop := ∀ k, k < 36 → F k < 128
def hld (F : Nat → Nat) (sq s : Nat) : Bool := F sq != 0 && sd (F sq) == s
theorem hld_t {F : Nat → Nat} {sq s : Nat} (h1 : ¬ F sq = 0) (h2 : sd (F sq) = s) : hld F sq s = true := by simp [hld, h1, h2]
theorem hld_f1 {F : Nat → Nat} {sq s : Nat} (h1 : F sq = 0) : hld F sq s = false := by simp [hld, h1]
theorem hld_f2 {F : Nat → Nat} {sq s : Nat} (h2 : ¬ sd (F sq) = s) : hld F sq s = false := by simp [hld, h2]
/-- a number counted over the first n places -/
def smp (f : Nat → Nat) : Nat → Nat
  | 0 => 0
  | n + 1 => smp f n + f n
theorem smp_ext {f g : Nat → Nat} {n : Nat} (h : ∀ k, k < n → f k = g k) : smp f n = smp g n := by
  induction n with
  | zero => rfl
  | succ n ih => simp only [smp]; rw [ih (fun k hk => h k (by omega)), h n (by omega)]
theorem smp_le {f : Nat → Nat} {c n : Nat} (h : ∀ k, k < n → f k ≤ c) : smp f n ≤ c * n := by
  induction n with
  | zero => simp [smp]
  | succ n ih =>
    have h1 := ih (fun k hk => h k (by omega))
    have h2 := h n (by omega)
    simp only [smp, Nat.mul_succ]
    omega
def cnt (b : Nat → Bool) (n : Nat) : Nat := smp (fun k => if b k then 1 else 0) n
def orp (f : Nat → Nat) : Nat → Nat
  | 0 => 0
  | n + 1 => orp f n ||| f n
theorem orp_lt {f : Nat → Nat} {n c : Nat} (h : ∀ k, k < n → f k < 2 ^ c) : orp f n < 2 ^ c := by
  induction n with
  | zero => exact Nat.two_pow_pos c
  | succ n ih => exact Nat.or_lt_two_pow (ih (fun k hk => h k (by omega))) (h n (by omega))
theorem orp_tb (f : Nat → Nat) (n t : Nat) : (orp f n).testBit t = true ↔ ∃ i, i < n ∧ (f i).testBit t = true := by
  induction n with
  | zero => simp [orp]
  | succ n ih =>
    simp only [orp, Nat.testBit_or, Bool.or_eq_true, ih]
    constructor
    · rintro (⟨i, h1, h2⟩ | h)
      · exact ⟨i, by omega, h2⟩
      · exact ⟨n, by omega, h⟩
    · rintro ⟨i, h1, h2⟩
      by_cases e : i = n
      · subst e
        exact Or.inr h2
      · exact Or.inl ⟨i, by omega, h2⟩
theorem orp_ext {f g : Nat → Nat} {n : Nat} (h : ∀ k, k < n → f k = g k) : orp f n = orp g n := by
  induction n with
  | zero => rfl
  | succ n ih => simp only [orp]; rw [ih (fun k hk => h k (by omega)), h n (by omega)]
/-- the first of n places from i on that has b -/
def ffr (b : Nat → Bool) : Nat → Nat → Option Nat
  | 0, _ => none
  | n + 1, i => if b i then some i else ffr b n (i + 1)
def oI : Option Nat → Int32
  | none => -1
  | some k => nI k
def sqs (F : Nat → Nat) (s : Nat) : Nat := bm (fun k => hld F k s) 36
def knw (F : Nat → Nat) (s i : Nat) : Nat := bm (fun k => hld F k s && kn (F k) i) 36
def lsq (F : Nat → Nat) (s : Nat) : Option Nat := ffr (fun k => hld F k s && ldr (F k)) 36 0
def wos (F : Nat → Nat) (s n : Nat) : Nat := smp (fun k => if hld F k s then wr (F k) else 0) n
theorem sqs_lt (F : Nat → Nat) (s : Nat) : sqs F s < 2 ^ 36 := bm_lt _ _
theorem knw_lt (F : Nat → Nat) (s i : Nat) : knw F s i < 2 ^ 36 := bm_lt _ _
theorem nI_or (a b : Nat) : nI a ||| nI b = nI (a ||| b) := by
  apply Int32.toBitVec_inj.mp
  show BitVec.ofNat 32 a ||| BitVec.ofNat 32 b = BitVec.ofNat 32 (a ||| b)
  apply BitVec.eq_of_getLsbD_eq
  intro i hi
  rw [BitVec.getLsbD_or, BitVec.getLsbD_ofNat, BitVec.getLsbD_ofNat, BitVec.getLsbD_ofNat, Nat.testBit_or]
  simp [hi]
def crr (F : Nat → Nat) (fr to : Nat) : Nat := F fr ||| lrn (F fr) (F to)
set_option maxRecDepth 20000 in
theorem ct_Bd_isEmpty {E : zE} (hE : zEv E) {l : Launch} (hl : l.stackTraces = false) {D : zD} (hD : zDok E D) (V : Nat → Nat → Int32) (P : Nat → Nat → Value) (PH : aH) (b : Nat) (hb : isB b) (hF : okF (bF V b)) (sq : Nat) (hsq : sq < 36) (sz : Nat) : zM E l y_Bd_isEmpty [.code y_Bd_isEmpty c_Bd_isEmpty 2 (some .boolean)] rm_Bd_isEmpty [.ref (D.1 b), .int (nI sq)] (HM D V P PH) sz (zRet (some (.int (bI (bF V b sq == 0)))) (HM D V P PH) sz) := by
  refine zM_of hE hl (by decide +kernel) [some (.ref (D.1 b)), some (.int (nI sq))] ⟨rfl, rfl, Nat.le_of_ble_eq_true rfl⟩ ?_
  intro G C q htb
  have hq := hF sq hsq
  refine Z_run C it_Bd_isEmpty 1 (f2 := (1, [some (.ref (D.1 b)), some (.int (nI sq))], [.ref (D.1 b)])) rfl ?_
  refine Zm_get C it_Bd_isEmpty hD rfl b wi_Bd (isB_i hb) (hb.1 _ _ _) rfl (j := 0) (by decide) fl_Bd_9 (v := .ref (D.1 (b + 1))) rfl ?_
  refine Z_run C it_Bd_isEmpty 1 (f2 := (5, [some (.ref (D.1 b)), some (.int (nI sq))], [.int (nI sq), .ref (D.1 (b + 1))])) rfl ?_
  refine Zm_ald C it_Bd_isEmpty hD (b + 1) 10 rfl (isB_j hb) (hb.2.1 _ _ _) (by decide) (by decide) rfl (j := sq) (by omega) (v := .int (nI (bF V b sq))) (bF_v _ _ _) ?_
  refine Z_br C it_Bd_isEmpty rfl rfl (fun hc1 => ?_) (fun hc1 => ?_)
  · replace hc1 : ¬ _ := fun z9 => hc1 ((nI_e0 (a := bF V b sq) (by omega)).mpr z9)
    refine Z_run C it_Bd_isEmpty 1 (f2 := (14, [some (.ref (D.1 b)), some (.int (nI sq))], [.int (nI 0)])) rfl ?_
    exact Z_zret C q.e it_Bd_isEmpty rfl (Or.inl rfl) (zRet_i (bI_f (by simp [hc1]))) (by decide) (by decide)
  · replace hc1 := Classical.not_not.mp hc1
    replace hc1 := (nI_e0 (a := bF V b sq) (by omega)).mp hc1
    refine Z_run C it_Bd_isEmpty 2 (f2 := (14, [some (.ref (D.1 b)), some (.int (nI sq))], [.int (nI 1)])) rfl ?_
    exact Z_zret C q.e it_Bd_isEmpty rfl (Or.inr rfl) (zRet_i (bI_t (by simp [hc1]))) (by decide) (by decide)
set_option maxRecDepth 20000 in
theorem ct_Bd_pieceOn {E : zE} (hE : zEv E) {l : Launch} (hl : l.stackTraces = false) {D : zD} (hD : zDok E D) (V : Nat → Nat → Int32) (P : Nat → Nat → Value) (PH : aH) (b : Nat) (hb : isB b) (sq : Nat) (hsq : sq < 36) (sz : Nat) : zM E l y_Bd_pieceOn [.code y_Bd_pieceOn c_Bd_pieceOn 2 (some .int)] rm_Bd_pieceOn [.ref (D.1 b), .int (nI sq)] (HM D V P PH) sz (zRet (some (.int (nI (bF V b sq)))) (HM D V P PH) sz) := by
  refine zM_of hE hl (by decide +kernel) [some (.ref (D.1 b)), some (.int (nI sq))] ⟨rfl, rfl, Nat.le_of_ble_eq_true rfl⟩ ?_
  intro G C q htb
  refine Z_run C it_Bd_pieceOn 1 (f2 := (1, [some (.ref (D.1 b)), some (.int (nI sq))], [.ref (D.1 b)])) rfl ?_
  refine Zm_get C it_Bd_pieceOn hD rfl b wi_Bd (isB_i hb) (hb.1 _ _ _) rfl (j := 0) (by decide) fl_Bd_9 (v := .ref (D.1 (b + 1))) rfl ?_
  refine Z_run C it_Bd_pieceOn 1 (f2 := (5, [some (.ref (D.1 b)), some (.int (nI sq))], [.int (nI sq), .ref (D.1 (b + 1))])) rfl ?_
  refine Zm_ald C it_Bd_pieceOn hD (b + 1) 10 rfl (isB_j hb) (hb.2.1 _ _ _) (by decide) (by decide) rfl (j := sq) (by omega) (v := .int (nI (bF V b sq))) (bF_v _ _ _) ?_
  exact Z_iret C q.e it_Bd_pieceOn rfl (zRet_i rfl) (by decide) (by decide)
set_option maxRecDepth 20000 in
theorem ct_Bd_holds {E : zE} (hE : zEv E) {l : Launch} (hl : l.stackTraces = false) {D : zD} (hD : zDok E D) (V : Nat → Nat → Int32) (P : Nat → Nat → Value) (PH : aH) (b : Nat) (hb : isB b) (hF : okF (bF V b)) (sq : Nat) (hsq : sq < 36) (s : Nat) (hs : s < 2) (sz : Nat) : zM E l y_Bd_holds [.code y_Bd_holds c_Bd_holds 3 (some .boolean)] rm_Bd_holds [.ref (D.1 b), .int (nI sq), .int (nI s)] (HM D V P PH) sz (zRet (some (.int (bI (hld (bF V b) sq s)))) (HM D V P PH) sz) := by
  refine zM_of hE hl (by decide +kernel) [some (.ref (D.1 b)), some (.int (nI sq)), some (.int (nI s))] ⟨rfl, rfl, Nat.le_of_ble_eq_true rfl⟩ ?_
  intro G C q htb
  have hq := hF sq hsq
  have hsd := sd_le (bF V b sq)
  refine Z_run C it_Bd_holds 1 (f2 := (1, [some (.ref (D.1 b)), some (.int (nI sq)), some (.int (nI s))], [.ref (D.1 b)])) rfl ?_
  refine Zm_get C it_Bd_holds hD rfl b wi_Bd (isB_i hb) (hb.1 _ _ _) rfl (j := 0) (by decide) fl_Bd_9 (v := .ref (D.1 (b + 1))) rfl ?_
  refine Z_run C it_Bd_holds 1 (f2 := (5, [some (.ref (D.1 b)), some (.int (nI sq)), some (.int (nI s))], [.int (nI sq), .ref (D.1 (b + 1))])) rfl ?_
  refine Zm_ald C it_Bd_holds hD (b + 1) 10 rfl (isB_j hb) (hb.2.1 _ _ _) (by decide) (by decide) rfl (j := sq) (by omega) (v := .int (nI (bF V b sq))) (bF_v _ _ _) ?_
  refine Z_br C it_Bd_holds rfl rfl (fun hc1 => ?_) (fun hc1 => ?_)
  · replace hc1 := (nI_e0 (a := bF V b sq) (by omega)).mp hc1
    refine Z_run C it_Bd_holds 1 (f2 := (27, [some (.ref (D.1 b)), some (.int (nI sq)), some (.int (nI s))], [.int (nI 0)])) rfl ?_
    exact Z_zret C q.e it_Bd_holds rfl (Or.inl rfl) (zRet_i (bI_f (by first | exact hld_f1 hc1 | exact hld_f2 hc2))) (by decide) (by decide)
  · replace hc1 : ¬ _ := fun z9 => hc1 ((nI_e0 (a := bF V b sq) (by omega)).mpr z9)
    refine Z_run C it_Bd_holds 1 (f2 := (10, [some (.ref (D.1 b)), some (.int (nI sq)), some (.int (nI s))], [.ref (D.1 b)])) rfl ?_
    refine Zm_get C it_Bd_holds hD rfl b wi_Bd (isB_i hb) (hb.1 _ _ _) rfl (j := 0) (by decide) fl_Bd_9 (v := .ref (D.1 (b + 1))) rfl ?_
    refine Z_run C it_Bd_holds 1 (f2 := (14, [some (.ref (D.1 b)), some (.int (nI sq)), some (.int (nI s))], [.int (nI sq), .ref (D.1 (b + 1))])) rfl ?_
    refine Zm_ald C it_Bd_holds hD (b + 1) 10 rfl (isB_j hb) (hb.2.1 _ _ _) (by decide) (by decide) rfl (j := sq) (by omega) (v := .int (nI (bF V b sq))) (bF_v _ _ _) ?_
    refine Zr_callS C it_Bd_holds rfl p_Pc_sideOf ml_Bd_27 [.int (nI (bF V b sq))] (ct_Pc_sideOf C.ev C.l (bF V b sq) (by first | assumption | omega | exact hF _ (by omega)) _ _) rfl rfl ⟨by decide, by decide, by decide, by decide⟩ (Nat.le_of_ble_eq_true rfl) rfl ?_
    show Z E G (HM D V P PH) sz 0 0 (18, [some (.ref (D.1 b)), some (.int (nI sq)), some (.int (nI s))], [.int (nI (sd (bF V b sq)))])
    refine Z_run C it_Bd_holds 1 (f2 := (19, [some (.ref (D.1 b)), some (.int (nI sq)), some (.int (nI s))], [.int (nI s), .int (nI (sd (bF V b sq)))])) rfl ?_
    refine Z_br C it_Bd_holds rfl rfl (fun hc2 => ?_) (fun hc2 => ?_)
    · replace hc2 : ¬ _ := fun z9 => hc2 ((nI_eq (a := sd (bF V b sq)) (b := s) (by omega) (by omega)).mpr z9)
      refine Z_run C it_Bd_holds 1 (f2 := (27, [some (.ref (D.1 b)), some (.int (nI sq)), some (.int (nI s))], [.int (nI 0)])) rfl ?_
      exact Z_zret C q.e it_Bd_holds rfl (Or.inl rfl) (zRet_i (bI_f (by first | exact hld_f1 hc1 | exact hld_f2 hc2))) (by decide) (by decide)
    · replace hc2 := Classical.not_not.mp hc2
      replace hc2 := (nI_eq (a := sd (bF V b sq)) (b := s) (by omega) (by omega)).mp hc2
      refine Z_run C it_Bd_holds 2 (f2 := (27, [some (.ref (D.1 b)), some (.int (nI sq)), some (.int (nI s))], [.int (nI 1)])) rfl ?_
      exact Z_zret C q.e it_Bd_holds rfl (Or.inr rfl) (zRet_i (bI_t (hld_t hc1 hc2))) (by decide) (by decide)
set_option maxRecDepth 20000 in
theorem ct_Bd_set {E : zE} (hE : zEv E) {l : Launch} (hl : l.stackTraces = false) {D : zD} (hD : zDok E D) (V : Nat → Nat → Int32) (P : Nat → Nat → Value) (PH : aH) (b : Nat) (hb : isB b) (sq : Nat) (hsq : sq < 36) (x : Int32) (sz : Nat) : zM E l y_Bd_set [.code y_Bd_set c_Bd_set 3 none] rm_Bd_set [.ref (D.1 b), .int (nI sq), .int x] (HM D V P PH) sz (zRet (none) (HM D (vset V (b + 1) sq x) P PH) sz) := by
  refine zM_of hE hl (by decide +kernel) [some (.ref (D.1 b)), some (.int (nI sq)), some (.int x)] ⟨rfl, rfl, Nat.le_of_ble_eq_true rfl⟩ ?_
  intro G C q htb
  refine Z_run C it_Bd_set 1 (f2 := (1, [some (.ref (D.1 b)), some (.int (nI sq)), some (.int x)], [.ref (D.1 b)])) rfl ?_
  refine Zm_get C it_Bd_set hD rfl b wi_Bd (isB_i hb) (hb.1 _ _ _) rfl (j := 0) (by decide) fl_Bd_9 (v := .ref (D.1 (b + 1))) rfl ?_
  refine Z_run C it_Bd_set 2 (f2 := (6, [some (.ref (D.1 b)), some (.int (nI sq)), some (.int x)], [.int x, .int (nI sq), .ref (D.1 (b + 1))])) rfl ?_
  refine Zm_ast C it_Bd_set hD (b + 1) 10 rfl (by first | decide | exact isB_k hb | omega) (hb.2.1 _ _ _) (by decide) rfl (j := sq) (by omega) trivial (hb.2.2.2 _) ?_
  exact Z_vret C q.e it_Bd_set rfl (zRet_vH rfl) (by decide) (by decide)
set_option maxRecDepth 20000 in
theorem ct_Bd_carry {E : zE} (hE : zEv E) {l : Launch} (hl : l.stackTraces = false) {D : zD} (hD : zDok E D) (V : Nat → Nat → Int32) (P : Nat → Nat → Value) (PH : aH) (b : Nat) (hb : isB b) (hF : okF (bF V b)) (fr : Nat) (hfr : fr < 36) (to : Nat) (hto : to < 36) (sz : Nat) : zM E l y_Bd_carry [.code y_Bd_carry c_Bd_carry 3 none] rm_Bd_carry [.ref (D.1 b), .int (nI fr), .int (nI to)] (HM D V P PH) sz (zRet (none) (HM D (vset (vset V (b + 1) to (nI (crr (bF V b) fr to))) (b + 1) fr (nI 0)) P PH) sz) := by
  refine zM_of hE hl (by decide +kernel) [some (.ref (D.1 b)), some (.int (nI fr)), some (.int (nI to))] ⟨rfl, rfl, Nat.le_of_ble_eq_true rfl⟩ ?_
  intro G C q htb
  refine Z_run C it_Bd_carry 1 (f2 := (1, [some (.ref (D.1 b)), some (.int (nI fr)), some (.int (nI to))], [.ref (D.1 b)])) rfl ?_
  refine Zm_get C it_Bd_carry hD rfl b wi_Bd (isB_i hb) (hb.1 _ _ _) rfl (j := 0) (by decide) fl_Bd_9 (v := .ref (D.1 (b + 1))) rfl ?_
  refine Z_run C it_Bd_carry 2 (f2 := (6, [some (.ref (D.1 b)), some (.int (nI fr)), some (.int (nI to))], [.ref (D.1 b), .int (nI to), .ref (D.1 (b + 1))])) rfl ?_
  refine Zm_get C it_Bd_carry hD rfl b wi_Bd (isB_i hb) (hb.1 _ _ _) rfl (j := 0) (by decide) fl_Bd_9 (v := .ref (D.1 (b + 1))) rfl ?_
  refine Z_run C it_Bd_carry 1 (f2 := (10, [some (.ref (D.1 b)), some (.int (nI fr)), some (.int (nI to))], [.int (nI fr), .ref (D.1 (b + 1)), .int (nI to), .ref (D.1 (b + 1))])) rfl ?_
  refine Zm_ald C it_Bd_carry hD (b + 1) 10 rfl (isB_j hb) (hb.2.1 _ _ _) (by decide) (by decide) rfl (j := fr) (by omega) (v := .int (nI (bF V b fr))) (bF_v _ _ _) ?_
  refine Z_run C it_Bd_carry 1 (f2 := (12, [some (.ref (D.1 b)), some (.int (nI fr)), some (.int (nI to))], [.ref (D.1 b), .int (nI (bF V b fr)), .int (nI to), .ref (D.1 (b + 1))])) rfl ?_
  refine Zm_get C it_Bd_carry hD rfl b wi_Bd (isB_i hb) (hb.1 _ _ _) rfl (j := 0) (by decide) fl_Bd_9 (v := .ref (D.1 (b + 1))) rfl ?_
  refine Z_run C it_Bd_carry 1 (f2 := (16, [some (.ref (D.1 b)), some (.int (nI fr)), some (.int (nI to))], [.int (nI fr), .ref (D.1 (b + 1)), .int (nI (bF V b fr)), .int (nI to), .ref (D.1 (b + 1))])) rfl ?_
  refine Zm_ald C it_Bd_carry hD (b + 1) 10 rfl (isB_j hb) (hb.2.1 _ _ _) (by decide) (by decide) rfl (j := fr) (by omega) (v := .int (nI (bF V b fr))) (bF_v _ _ _) ?_
  refine Z_run C it_Bd_carry 1 (f2 := (18, [some (.ref (D.1 b)), some (.int (nI fr)), some (.int (nI to))], [.ref (D.1 b), .int (nI (bF V b fr)), .int (nI (bF V b fr)), .int (nI to), .ref (D.1 (b + 1))])) rfl ?_
  refine Zm_get C it_Bd_carry hD rfl b wi_Bd (isB_i hb) (hb.1 _ _ _) rfl (j := 0) (by decide) fl_Bd_9 (v := .ref (D.1 (b + 1))) rfl ?_
  refine Z_run C it_Bd_carry 1 (f2 := (22, [some (.ref (D.1 b)), some (.int (nI fr)), some (.int (nI to))], [.int (nI to), .ref (D.1 (b + 1)), .int (nI (bF V b fr)), .int (nI (bF V b fr)), .int (nI to), .ref (D.1 (b + 1))])) rfl ?_
  refine Zm_ald C it_Bd_carry hD (b + 1) 10 rfl (isB_j hb) (hb.2.1 _ _ _) (by decide) (by decide) rfl (j := to) (by omega) (v := .int (nI (bF V b to))) (bF_v _ _ _) ?_
  refine Zr_callS C it_Bd_carry rfl p_Pc_learnt ml_Bd_21 [.int (nI (bF V b fr)), .int (nI (bF V b to))] (ct_Pc_learnt C.ev C.l (bF V b fr) (by first | assumption | omega | exact hF _ (by omega)) (bF V b to) (by first | assumption | omega | exact hF _ (by omega)) _ _) rfl rfl ⟨by decide, by decide, by decide, by decide⟩ (Nat.le_of_ble_eq_true rfl) rfl ?_
  show Z E G (HM D V P PH) sz 0 0 (26, [some (.ref (D.1 b)), some (.int (nI fr)), some (.int (nI to))], [.int (nI (lrn (bF V b fr) (bF V b to))), .int (nI (bF V b fr)), .int (nI to), .ref (D.1 (b + 1))])
  refine Z_run C it_Bd_carry 1 (f2 := (27, [some (.ref (D.1 b)), some (.int (nI fr)), some (.int (nI to))], [.int (nI (bF V b fr) ||| nI (lrn (bF V b fr) (bF V b to))), .int (nI to), .ref (D.1 (b + 1))])) rfl ?_
  have e1 : nI (bF V b fr) ||| nI (lrn (bF V b fr) (bF V b to)) = nI (crr (bF V b) fr to) := nI_or _ _
  rw [e1]
  refine Zm_ast C it_Bd_carry hD (b + 1) 10 rfl (by first | decide | exact isB_k hb | omega) (hb.2.1 _ _ _) (by decide) rfl (j := to) (by omega) trivial (hb.2.2.2 _) ?_
  refine Z_run C it_Bd_carry 1 (f2 := (29, [some (.ref (D.1 b)), some (.int (nI fr)), some (.int (nI to))], [.ref (D.1 b)])) rfl ?_
  refine Zm_get C it_Bd_carry hD rfl b wi_Bd (isB_i hb) (hb.1 _ _ _) rfl (j := 0) (by decide) fl_Bd_9 (v := .ref (D.1 (b + 1))) rfl ?_
  refine Z_run C it_Bd_carry 2 (f2 := (34, [some (.ref (D.1 b)), some (.int (nI fr)), some (.int (nI to))], [.int (nI 0), .int (nI fr), .ref (D.1 (b + 1))])) rfl ?_
  refine Zm_ast C it_Bd_carry hD (b + 1) 10 rfl (by first | decide | exact isB_k hb | omega) (hb.2.1 _ _ _) (by decide) rfl (j := fr) (by omega) trivial (hb.2.2.2 _) ?_
  exact Z_vret C q.e it_Bd_carry rfl (zRet_vH rfl) (by decide) (by decide)
set_option maxRecDepth 20000 in
theorem lp_Bd_squaresOf {E : zE} {G : zG} {O : zO} (C : zCx E G c_Bd_squaresOf 5 y_Bd_squaresOf.cls y_Bd_squaresOf.name (some .long) rm_Bd_squaresOf) (q : zEndX E G O rm_Bd_squaresOf.cells rm_Bd_squaresOf.slots)  {D : zD} (hD : zDok E D) {V : Nat → Nat → Int32} {P : Nat → Nat → Value} {PH : aH} {b : Nat} (hb : isB b) (hF : okF (bF V b)) {s : Nat} (hs : s < 2) {sz : Nat} (hO : O (.inl (some (.long (lN (sqs (bF V b) s))))) (HM D V P PH) sz) : ∀ (j i : Nat), 36 - i < j → i ≤ 36 → Z E G (HM D V P PH) sz 0 0 (5, [some (.ref (D.1 b)), some (.int (nI s)), some (.long (lN (bm (fun k => hld (bF V b) k s) i))), none, some (.int (nI i))], []) := by
  intro j
  induction j with
  | zero =>
    intro i h1 h2
    omega
  | succ j ih =>
    intro i h1 h2
    have hsd := fun k => sd_le (bF V b k)
    refine Z_run C it_Bd_squaresOf 2 (f2 := (9, [some (.ref (D.1 b)), some (.int (nI s)), some (.long (lN (bm (fun k => hld (bF V b) k s) i))), none, some (.int (nI i))], [.int (nI 36), .int (nI i)])) rfl ?_
    refine Z_br C it_Bd_squaresOf rfl rfl (fun hc1 => ?_) (fun hc1 => ?_)
    · replace hc1 := (nI_leI (a := 36) (b := i) (by omega) (by omega)).mp hc1
      refine Z_run C it_Bd_squaresOf 1 (f2 := (36, [some (.ref (D.1 b)), some (.int (nI s)), some (.long (lN (bm (fun k => hld (bF V b) k s) i))), none, some (.int (nI i))], [.long (lN (bm (fun k => hld (bF V b) k s) i))])) rfl ?_
      exact Z_lret C q.e it_Bd_squaresOf rfl ((show i = 36 by omega) ▸ hO) (by decide) (by decide)
    · replace hc1 : ¬ _ := fun z9 => hc1 ((nI_leI (a := 36) (b := i) (by omega) (by omega)).mpr z9)
      refine Z_run C it_Bd_squaresOf 3 (f2 := (16, [some (.ref (D.1 b)), some (.int (nI s)), some (.long (lN (bm (fun k => hld (bF V b) k s) i))), none, some (.int (nI i))], [.int (nI s), .int (nI i), .ref (D.1 b)])) rfl ?_
      refine Zr_callV C it_Bd_squaresOf hD rfl p_Bd_holds ml_Bd_31 b (isB_i hb) (hb.1 _ _ _) rfl [.int (nI i), .int (nI s)] (ct_Bd_holds C.ev C.l hD _ _ _ b hb hF i (by first | assumption | omega) s (by first | assumption | omega) _) rfl rfl ⟨by decide, by decide, by decide, by decide⟩ (Nat.le_of_ble_eq_true rfl) rfl ?_
      show Z E G (HM D V P PH) sz 0 0 (19, [some (.ref (D.1 b)), some (.int (nI s)), some (.long (lN (bm (fun k => hld (bF V b) k s) i))), none, some (.int (nI i))], [.int (bI (hld (bF V b) i s))])
      refine Z_br C it_Bd_squaresOf rfl rfl (fun hc2 => ?_) (fun hc2 => ?_)
      · replace hc2 := bI_0.mp hc2
        refine Z_run C it_Bd_squaresOf 1 (f2 := (32, [some (.ref (D.1 b)), some (.int (nI s)), some (.long (lN (bm (fun k => hld (bF V b) k s) i))), none, some (.int (nI i + nI 1))], [])) rfl ?_
        rw [nI_add i 1]
        refine Z_run C it_Bd_squaresOf 1 (f2 := (5, [some (.ref (D.1 b)), some (.int (nI s)), some (.long (lN (bm (fun k => hld (bF V b) k s) i))), none, some (.int (nI (i + 1)))], [])) rfl ?_
        have e1 : lN (bm (fun k => hld (bF V b) k s) i) = lN (bm (fun k => hld (bF V b) k s) (i + 1)) := by rw [bm_f (b := fun k => hld (bF V b) k s) hc2]
        rw [e1]
        exact ih (i + 1) (by omega) (by omega)
      · replace hc2 := bI_1.mp hc2
        refine Z_run C it_Bd_squaresOf 7 (f2 := (32, [some (.ref (D.1 b)), some (.int (nI s)), some (.long (lN (bm (fun k => hld (bF V b) k s) i) ||| (lN 1 <<< ((nI i).toInt64 &&& 63)))), none, some (.int (nI i + nI 1))], [])) rfl ?_
        rw [nI_add i 1]
        refine Z_run C it_Bd_squaresOf 1 (f2 := (5, [some (.ref (D.1 b)), some (.int (nI s)), some (.long (lN (bm (fun k => hld (bF V b) k s) i) ||| (lN 1 <<< ((nI i).toInt64 &&& 63)))), none, some (.int (nI (i + 1)))], [])) rfl ?_
        have e2 : lN (bm (fun k => hld (bF V b) k s) i) ||| (lN 1 <<< ((nI i).toInt64 &&& 63)) = lN (bm (fun k => hld (bF V b) k s) (i + 1)) := bm_t (b := fun k => hld (bF V b) k s) (by omega) hc2
        rw [e2]
        exact ih (i + 1) (by omega) (by omega)
set_option maxRecDepth 20000 in
theorem ct_Bd_squaresOf {E : zE} (hE : zEv E) {l : Launch} (hl : l.stackTraces = false) {D : zD} (hD : zDok E D) (V : Nat → Nat → Int32) (P : Nat → Nat → Value) (PH : aH) (b : Nat) (hb : isB b) (hF : okF (bF V b)) (s : Nat) (hs : s < 2) (sz : Nat) : zM E l y_Bd_squaresOf [.code y_Bd_squaresOf c_Bd_squaresOf 5 (some .long)] rm_Bd_squaresOf [.ref (D.1 b), .int (nI s)] (HM D V P PH) sz (zRet (some (.long (lN (sqs (bF V b) s)))) (HM D V P PH) sz) := by
  refine zM_of hE hl (by decide +kernel) [some (.ref (D.1 b)), some (.int (nI s)), none, none, none] ⟨rfl, rfl, Nat.le_of_ble_eq_true rfl⟩ ?_
  intro G C q htb
  refine Z_run C it_Bd_squaresOf 4 (f2 := (5, [some (.ref (D.1 b)), some (.int (nI s)), some (.long (lN 0)), none, some (.int (nI 0))], [])) rfl ?_
  exact lp_Bd_squaresOf C q hD hb hF hs ⟨rfl, rfl, rfl⟩ 37 0 (by omega) (by omega)
set_option maxRecDepth 20000 in
theorem lp_Bd_knowers {E : zE} {G : zG} {O : zO} (C : zCx E G c_Bd_knowers 6 y_Bd_knowers.cls y_Bd_knowers.name (some .long) rm_Bd_knowers) (q : zEndX E G O rm_Bd_knowers.cells rm_Bd_knowers.slots)  {D : zD} (hD : zDok E D) {V : Nat → Nat → Int32} {P : Nat → Nat → Value} {PH : aH} {b : Nat} (hb : isB b) (hF : okF (bF V b)) {s : Nat} (hs : s < 2) {c : Nat} (hc : c < 5) {sz : Nat} (hO : O (.inl (some (.long (lN (knw (bF V b) s c))))) (HM D V P PH) sz) : ∀ (j i : Nat), 36 - i < j → i ≤ 36 → Z E G (HM D V P PH) sz 0 0 (5, [some (.ref (D.1 b)), some (.int (nI s)), some (.int (nI c)), some (.long (lN (bm (fun k => hld (bF V b) k s && kn (bF V b k) c) i))), none, some (.int (nI i))], []) := by
  intro j
  induction j with
  | zero =>
    intro i h1 h2
    omega
  | succ j ih =>
    intro i h1 h2
    have hsd := fun k => sd_le (bF V b k)
    refine Z_run C it_Bd_knowers 2 (f2 := (9, [some (.ref (D.1 b)), some (.int (nI s)), some (.int (nI c)), some (.long (lN (bm (fun k => hld (bF V b) k s && kn (bF V b k) c) i))), none, some (.int (nI i))], [.int (nI 36), .int (nI i)])) rfl ?_
    refine Z_br C it_Bd_knowers rfl rfl (fun hc1 => ?_) (fun hc1 => ?_)
    · replace hc1 := (nI_leI (a := 36) (b := i) (by omega) (by omega)).mp hc1
      refine Z_run C it_Bd_knowers 1 (f2 := (50, [some (.ref (D.1 b)), some (.int (nI s)), some (.int (nI c)), some (.long (lN (bm (fun k => hld (bF V b) k s && kn (bF V b k) c) i))), none, some (.int (nI i))], [.long (lN (bm (fun k => hld (bF V b) k s && kn (bF V b k) c) i))])) rfl ?_
      exact Z_lret C q.e it_Bd_knowers rfl ((show i = 36 by omega) ▸ hO) (by decide) (by decide)
    · replace hc1 : ¬ _ := fun z9 => hc1 ((nI_leI (a := 36) (b := i) (by omega) (by omega)).mpr z9)
      refine Z_run C it_Bd_knowers 3 (f2 := (16, [some (.ref (D.1 b)), some (.int (nI s)), some (.int (nI c)), some (.long (lN (bm (fun k => hld (bF V b) k s && kn (bF V b k) c) i))), none, some (.int (nI i))], [.int (nI s), .int (nI i), .ref (D.1 b)])) rfl ?_
      refine Zr_callV C it_Bd_knowers hD rfl p_Bd_holds ml_Bd_31 b (isB_i hb) (hb.1 _ _ _) rfl [.int (nI i), .int (nI s)] (ct_Bd_holds C.ev C.l hD _ _ _ b hb hF i (by first | assumption | omega) s (by first | assumption | omega) _) rfl rfl ⟨by decide, by decide, by decide, by decide⟩ (Nat.le_of_ble_eq_true rfl) rfl ?_
      show Z E G (HM D V P PH) sz 0 0 (19, [some (.ref (D.1 b)), some (.int (nI s)), some (.int (nI c)), some (.long (lN (bm (fun k => hld (bF V b) k s && kn (bF V b k) c) i))), none, some (.int (nI i))], [.int (bI (hld (bF V b) i s))])
      refine Z_br C it_Bd_knowers rfl rfl (fun hc2 => ?_) (fun hc2 => ?_)
      · replace hc2 := bI_0.mp hc2
        refine Z_run C it_Bd_knowers 1 (f2 := (46, [some (.ref (D.1 b)), some (.int (nI s)), some (.int (nI c)), some (.long (lN (bm (fun k => hld (bF V b) k s && kn (bF V b k) c) i))), none, some (.int (nI i + nI 1))], [])) rfl ?_
        rw [nI_add i 1]
        refine Z_run C it_Bd_knowers 1 (f2 := (5, [some (.ref (D.1 b)), some (.int (nI s)), some (.int (nI c)), some (.long (lN (bm (fun k => hld (bF V b) k s && kn (bF V b k) c) i))), none, some (.int (nI (i + 1)))], [])) rfl ?_
        have e1 : lN (bm (fun k => hld (bF V b) k s && kn (bF V b k) c) i) = lN (bm (fun k => hld (bF V b) k s && kn (bF V b k) c) (i + 1)) := by rw [bm_f (b := fun k => hld (bF V b) k s && kn (bF V b k) c) (by first | simp [hc2, hc3] | simp [hc2])]
        rw [e1]
        exact ih (i + 1) (by omega) (by omega)
      · replace hc2 := bI_1.mp hc2
        refine Z_run C it_Bd_knowers 1 (f2 := (23, [some (.ref (D.1 b)), some (.int (nI s)), some (.int (nI c)), some (.long (lN (bm (fun k => hld (bF V b) k s && kn (bF V b k) c) i))), none, some (.int (nI i))], [.ref (D.1 b)])) rfl ?_
        refine Zm_get C it_Bd_knowers hD rfl b wi_Bd (isB_i hb) (hb.1 _ _ _) rfl (j := 0) (by decide) fl_Bd_9 (v := .ref (D.1 (b + 1))) rfl ?_
        refine Z_run C it_Bd_knowers 1 (f2 := (28, [some (.ref (D.1 b)), some (.int (nI s)), some (.int (nI c)), some (.long (lN (bm (fun k => hld (bF V b) k s && kn (bF V b k) c) i))), none, some (.int (nI i))], [.int (nI i), .ref (D.1 (b + 1))])) rfl ?_
        refine Zm_ald C it_Bd_knowers hD (b + 1) 10 rfl (isB_j hb) (hb.2.1 _ _ _) (by decide) (by decide) rfl (j := i) (by omega) (v := .int (nI (bF V b i))) (bF_v _ _ _) ?_
        refine Z_run C it_Bd_knowers 1 (f2 := (30, [some (.ref (D.1 b)), some (.int (nI s)), some (.int (nI c)), some (.long (lN (bm (fun k => hld (bF V b) k s && kn (bF V b k) c) i))), none, some (.int (nI i))], [.int (nI c), .int (nI (bF V b i))])) rfl ?_
        refine Zr_callS C it_Bd_knowers rfl p_Pc_knows ml_Bd_45 [.int (nI (bF V b i)), .int (nI c)] (ct_Pc_knows C.ev C.l (bF V b i) (by first | assumption | omega | exact hF _ (by omega)) c (by omega) _ _) rfl rfl ⟨by decide, by decide, by decide, by decide⟩ (Nat.le_of_ble_eq_true rfl) rfl ?_
        show Z E G (HM D V P PH) sz 0 0 (33, [some (.ref (D.1 b)), some (.int (nI s)), some (.int (nI c)), some (.long (lN (bm (fun k => hld (bF V b) k s && kn (bF V b k) c) i))), none, some (.int (nI i))], [.int (bI (kn (bF V b i) c))])
        refine Z_br C it_Bd_knowers rfl rfl (fun hc3 => ?_) (fun hc3 => ?_)
        · replace hc3 := bI_0.mp hc3
          refine Z_run C it_Bd_knowers 1 (f2 := (46, [some (.ref (D.1 b)), some (.int (nI s)), some (.int (nI c)), some (.long (lN (bm (fun k => hld (bF V b) k s && kn (bF V b k) c) i))), none, some (.int (nI i + nI 1))], [])) rfl ?_
          rw [nI_add i 1]
          refine Z_run C it_Bd_knowers 1 (f2 := (5, [some (.ref (D.1 b)), some (.int (nI s)), some (.int (nI c)), some (.long (lN (bm (fun k => hld (bF V b) k s && kn (bF V b k) c) i))), none, some (.int (nI (i + 1)))], [])) rfl ?_
          have e2 : lN (bm (fun k => hld (bF V b) k s && kn (bF V b k) c) i) = lN (bm (fun k => hld (bF V b) k s && kn (bF V b k) c) (i + 1)) := by rw [bm_f (b := fun k => hld (bF V b) k s && kn (bF V b k) c) (by first | simp [hc2, hc3] | simp [hc2])]
          rw [e2]
          exact ih (i + 1) (by omega) (by omega)
        · replace hc3 := bI_1.mp hc3
          refine Z_run C it_Bd_knowers 7 (f2 := (46, [some (.ref (D.1 b)), some (.int (nI s)), some (.int (nI c)), some (.long (lN (bm (fun k => hld (bF V b) k s && kn (bF V b k) c) i) ||| (lN 1 <<< ((nI i).toInt64 &&& 63)))), none, some (.int (nI i + nI 1))], [])) rfl ?_
          rw [nI_add i 1]
          refine Z_run C it_Bd_knowers 1 (f2 := (5, [some (.ref (D.1 b)), some (.int (nI s)), some (.int (nI c)), some (.long (lN (bm (fun k => hld (bF V b) k s && kn (bF V b k) c) i) ||| (lN 1 <<< ((nI i).toInt64 &&& 63)))), none, some (.int (nI (i + 1)))], [])) rfl ?_
          have e3 : lN (bm (fun k => hld (bF V b) k s && kn (bF V b k) c) i) ||| (lN 1 <<< ((nI i).toInt64 &&& 63)) = lN (bm (fun k => hld (bF V b) k s && kn (bF V b k) c) (i + 1)) := bm_t (b := fun k => hld (bF V b) k s && kn (bF V b k) c) (by omega) (by simp [hc2, hc3])
          rw [e3]
          exact ih (i + 1) (by omega) (by omega)
set_option maxRecDepth 20000 in
theorem ct_Bd_knowers {E : zE} (hE : zEv E) {l : Launch} (hl : l.stackTraces = false) {D : zD} (hD : zDok E D) (V : Nat → Nat → Int32) (P : Nat → Nat → Value) (PH : aH) (b : Nat) (hb : isB b) (hF : okF (bF V b)) (s : Nat) (hs : s < 2) (c : Nat) (hc : c < 5) (sz : Nat) : zM E l y_Bd_knowers [.code y_Bd_knowers c_Bd_knowers 6 (some .long)] rm_Bd_knowers [.ref (D.1 b), .int (nI s), .int (nI c)] (HM D V P PH) sz (zRet (some (.long (lN (knw (bF V b) s c)))) (HM D V P PH) sz) := by
  refine zM_of hE hl (by decide +kernel) [some (.ref (D.1 b)), some (.int (nI s)), some (.int (nI c)), none, none, none] ⟨rfl, rfl, Nat.le_of_ble_eq_true rfl⟩ ?_
  intro G C q htb
  refine Z_run C it_Bd_knowers 4 (f2 := (5, [some (.ref (D.1 b)), some (.int (nI s)), some (.int (nI c)), some (.long (lN 0)), none, some (.int (nI 0))], [])) rfl ?_
  exact lp_Bd_knowers C q hD hb hF hs hc ⟨rfl, rfl, rfl⟩ 37 0 (by omega) (by omega)
set_option maxRecDepth 20000 in
theorem lp_Bd_worthOfSide {E : zE} {G : zG} {O : zO} (C : zCx E G c_Bd_worthOfSide 4 y_Bd_worthOfSide.cls y_Bd_worthOfSide.name (some .int) rm_Bd_worthOfSide) (q : zEndX E G O rm_Bd_worthOfSide.cells rm_Bd_worthOfSide.slots)  {D : zD} (hD : zDok E D) {V : Nat → Nat → Int32} {P : Nat → Nat → Value} {PH : aH} {b : Nat} (hb : isB b) (hF : okF (bF V b)) {s : Nat} (hs : s < 2) {sz : Nat} (hO : O (.inl (some (.int (nI (wos (bF V b) s 36))))) (HM D V P PH) sz) : ∀ (j i : Nat), 36 - i < j → i ≤ 36 → Z E G (HM D V P PH) sz 0 0 (4, [some (.ref (D.1 b)), some (.int (nI s)), some (.int (nI (wos (bF V b) s i))), some (.int (nI i))], []) := by
  intro j
  induction j with
  | zero =>
    intro i h1 h2
    omega
  | succ j ih =>
    intro i h1 h2
    have hsd := fun k => sd_le (bF V b k)
    refine Z_run C it_Bd_worthOfSide 2 (f2 := (7, [some (.ref (D.1 b)), some (.int (nI s)), some (.int (nI (wos (bF V b) s i))), some (.int (nI i))], [.int (nI 36), .int (nI i)])) rfl ?_
    refine Z_br C it_Bd_worthOfSide rfl rfl (fun hc1 => ?_) (fun hc1 => ?_)
    · replace hc1 := (nI_leI (a := 36) (b := i) (by omega) (by omega)).mp hc1
      refine Z_run C it_Bd_worthOfSide 1 (f2 := (38, [some (.ref (D.1 b)), some (.int (nI s)), some (.int (nI (wos (bF V b) s i))), some (.int (nI i))], [.int (nI (wos (bF V b) s i))])) rfl ?_
      exact Z_iret C q.e it_Bd_worthOfSide rfl ((show i = 36 by omega) ▸ hO) (by decide) (by decide)
    · replace hc1 : ¬ _ := fun z9 => hc1 ((nI_leI (a := 36) (b := i) (by omega) (by omega)).mpr z9)
      refine Z_run C it_Bd_worthOfSide 3 (f2 := (13, [some (.ref (D.1 b)), some (.int (nI s)), some (.int (nI (wos (bF V b) s i))), some (.int (nI i))], [.int (nI s), .int (nI i), .ref (D.1 b)])) rfl ?_
      refine Zr_callV C it_Bd_worthOfSide hD rfl p_Bd_holds ml_Bd_31 b (isB_i hb) (hb.1 _ _ _) rfl [.int (nI i), .int (nI s)] (ct_Bd_holds C.ev C.l hD _ _ _ b hb hF i (by first | assumption | omega) s (by first | assumption | omega) _) rfl rfl ⟨by decide, by decide, by decide, by decide⟩ (Nat.le_of_ble_eq_true rfl) rfl ?_
      show Z E G (HM D V P PH) sz 0 0 (16, [some (.ref (D.1 b)), some (.int (nI s)), some (.int (nI (wos (bF V b) s i))), some (.int (nI i))], [.int (bI (hld (bF V b) i s))])
      refine Z_br C it_Bd_worthOfSide rfl rfl (fun hc2 => ?_) (fun hc2 => ?_)
      · replace hc2 := bI_0.mp hc2
        refine Z_run C it_Bd_worthOfSide 1 (f2 := (34, [some (.ref (D.1 b)), some (.int (nI s)), some (.int (nI (wos (bF V b) s i))), some (.int (nI i + nI 1))], [])) rfl ?_
        rw [nI_add i 1]
        refine Z_run C it_Bd_worthOfSide 1 (f2 := (4, [some (.ref (D.1 b)), some (.int (nI s)), some (.int (nI (wos (bF V b) s i))), some (.int (nI (i + 1)))], [])) rfl ?_
        have e1 : nI (wos (bF V b) s i) = nI (wos (bF V b) s (i + 1)) := by simp [wos, smp, hc2]
        rw [e1]
        exact ih (i + 1) (by omega) (by omega)
      · replace hc2 := bI_1.mp hc2
        refine Z_run C it_Bd_worthOfSide 2 (f2 := (21, [some (.ref (D.1 b)), some (.int (nI s)), some (.int (nI (wos (bF V b) s i))), some (.int (nI i))], [.ref (D.1 b), .int (nI (wos (bF V b) s i))])) rfl ?_
        refine Zm_get C it_Bd_worthOfSide hD rfl b wi_Bd (isB_i hb) (hb.1 _ _ _) rfl (j := 0) (by decide) fl_Bd_9 (v := .ref (D.1 (b + 1))) rfl ?_
        refine Z_run C it_Bd_worthOfSide 1 (f2 := (25, [some (.ref (D.1 b)), some (.int (nI s)), some (.int (nI (wos (bF V b) s i))), some (.int (nI i))], [.int (nI i), .ref (D.1 (b + 1)), .int (nI (wos (bF V b) s i))])) rfl ?_
        refine Zm_ald C it_Bd_worthOfSide hD (b + 1) 10 rfl (isB_j hb) (hb.2.1 _ _ _) (by decide) (by decide) rfl (j := i) (by omega) (v := .int (nI (bF V b i))) (bF_v _ _ _) ?_
        refine Zr_callS C it_Bd_worthOfSide rfl p_Pc_worthOf ml_Bd_52 [.int (nI (bF V b i))] (ct_Pc_worthOf C.ev C.l hD _ _ _ (bF V b i) (by first | assumption | omega | exact hF _ (by omega)) _) rfl rfl ⟨by decide, by decide, by decide, by decide⟩ (Nat.le_of_ble_eq_true rfl) rfl ?_
        show Z E G (HM D V P PH) sz 0 0 (29, [some (.ref (D.1 b)), some (.int (nI s)), some (.int (nI (wos (bF V b) s i))), some (.int (nI i))], [.int (nI (wr (bF V b i))), .int (nI (wos (bF V b) s i))])
        refine Z_run C it_Bd_worthOfSide 1 (f2 := (30, [some (.ref (D.1 b)), some (.int (nI s)), some (.int (nI (wos (bF V b) s i))), some (.int (nI i))], [.int (nI (wos (bF V b) s i) + nI (wr (bF V b i)))])) rfl ?_
        rw [nI_add (wos (bF V b) s i) (wr (bF V b i))]
        refine Z_run C it_Bd_worthOfSide 2 (f2 := (34, [some (.ref (D.1 b)), some (.int (nI s)), some (.int (nI (wos (bF V b) s i + wr (bF V b i)))), some (.int (nI i + nI 1))], [])) rfl ?_
        rw [nI_add i 1]
        refine Z_run C it_Bd_worthOfSide 1 (f2 := (4, [some (.ref (D.1 b)), some (.int (nI s)), some (.int (nI (wos (bF V b) s i + wr (bF V b i)))), some (.int (nI (i + 1)))], [])) rfl ?_
        have e2 : nI (wos (bF V b) s i + wr (bF V b i)) = nI (wos (bF V b) s (i + 1)) := by simp [wos, smp, hc2]
        rw [e2]
        exact ih (i + 1) (by omega) (by omega)
set_option maxRecDepth 20000 in
theorem ct_Bd_worthOfSide {E : zE} (hE : zEv E) {l : Launch} (hl : l.stackTraces = false) {D : zD} (hD : zDok E D) (V : Nat → Nat → Int32) (P : Nat → Nat → Value) (PH : aH) (b : Nat) (hb : isB b) (hF : okF (bF V b)) (s : Nat) (hs : s < 2) (sz : Nat) : zM E l y_Bd_worthOfSide [.code y_Bd_worthOfSide c_Bd_worthOfSide 4 (some .int)] rm_Bd_worthOfSide [.ref (D.1 b), .int (nI s)] (HM D V P PH) sz (zRet (some (.int (nI (wos (bF V b) s 36)))) (HM D V P PH) sz) := by
  refine zM_of hE hl (by decide +kernel) [some (.ref (D.1 b)), some (.int (nI s)), none, none] ⟨rfl, rfl, Nat.le_of_ble_eq_true rfl⟩ ?_
  intro G C q htb
  refine Z_run C it_Bd_worthOfSide 4 (f2 := (4, [some (.ref (D.1 b)), some (.int (nI s)), some (.int (nI 0)), some (.int (nI 0))], [])) rfl ?_
  exact lp_Bd_worthOfSide C q hD hb hF hs ⟨rfl, rfl, rfl⟩ 37 0 (by omega) (by omega)
set_option maxRecDepth 20000 in
theorem lp_Bd_leaderSquare {E : zE} {G : zG} {O : zO} (C : zCx E G c_Bd_leaderSquare 3 y_Bd_leaderSquare.cls y_Bd_leaderSquare.name (some .int) rm_Bd_leaderSquare) (q : zEndX E G O rm_Bd_leaderSquare.cells rm_Bd_leaderSquare.slots)  {D : zD} (hD : zDok E D) {V : Nat → Nat → Int32} {P : Nat → Nat → Value} {PH : aH} {b : Nat} (hb : isB b) (hF : okF (bF V b)) {s : Nat} (hs : s < 2) {sz : Nat} : ∀ (j i : Nat), 36 - i < j → i ≤ 36 → O (.inl (some (.int (oI (ffr (fun k => hld (bF V b) k s && ldr (bF V b k)) (36 - i) i))))) (HM D V P PH) sz → Z E G (HM D V P PH) sz 0 0 (2, [some (.ref (D.1 b)), some (.int (nI s)), some (.int (nI i))], []) := by
  intro j
  induction j with
  | zero =>
    intro i h1 h2 hO
    omega
  | succ j ih =>
    intro i h1 h2 hO
    have hsd := fun k => sd_le (bF V b k)
    refine Z_run C it_Bd_leaderSquare 2 (f2 := (5, [some (.ref (D.1 b)), some (.int (nI s)), some (.int (nI i))], [.int (nI 36), .int (nI i)])) rfl ?_
    refine Z_br C it_Bd_leaderSquare rfl rfl (fun hc1 => ?_) (fun hc1 => ?_)
    · replace hc1 := (nI_leI (a := 36) (b := i) (by omega) (by omega)).mp hc1
      refine Z_run C it_Bd_leaderSquare 1 (f2 := (38, [some (.ref (D.1 b)), some (.int (nI s)), some (.int (nI i))], [.int ((-1))])) rfl ?_
      exact Z_iret C q.e it_Bd_leaderSquare rfl (by rw [show 36 - i = 0 by omega] at hO; exact hO) (by decide) (by decide)
    · replace hc1 : ¬ _ := fun z9 => hc1 ((nI_leI (a := 36) (b := i) (by omega) (by omega)).mpr z9)
      refine Z_run C it_Bd_leaderSquare 3 (f2 := (11, [some (.ref (D.1 b)), some (.int (nI s)), some (.int (nI i))], [.int (nI s), .int (nI i), .ref (D.1 b)])) rfl ?_
      refine Zr_callV C it_Bd_leaderSquare hD rfl p_Bd_holds ml_Bd_31 b (isB_i hb) (hb.1 _ _ _) rfl [.int (nI i), .int (nI s)] (ct_Bd_holds C.ev C.l hD _ _ _ b hb hF i (by first | assumption | omega) s (by first | assumption | omega) _) rfl rfl ⟨by decide, by decide, by decide, by decide⟩ (Nat.le_of_ble_eq_true rfl) rfl ?_
      show Z E G (HM D V P PH) sz 0 0 (14, [some (.ref (D.1 b)), some (.int (nI s)), some (.int (nI i))], [.int (bI (hld (bF V b) i s))])
      refine Z_br C it_Bd_leaderSquare rfl rfl (fun hc2 => ?_) (fun hc2 => ?_)
      · replace hc2 := bI_0.mp hc2
        refine Z_run C it_Bd_leaderSquare 1 (f2 := (34, [some (.ref (D.1 b)), some (.int (nI s)), some (.int (nI i + nI 1))], [])) rfl ?_
        rw [nI_add i 1]
        refine Z_run C it_Bd_leaderSquare 1 (f2 := (2, [some (.ref (D.1 b)), some (.int (nI s)), some (.int (nI (i + 1)))], [])) rfl ?_
        exact ih (i + 1) (by omega) (by omega) (by rw [show 36 - i = (36 - (i + 1)) + 1 by omega] at hO; first | simpa [ffr, hc2, hc3] using hO | simpa [ffr, hc2] using hO)
      · replace hc2 := bI_1.mp hc2
        refine Z_run C it_Bd_leaderSquare 1 (f2 := (18, [some (.ref (D.1 b)), some (.int (nI s)), some (.int (nI i))], [.ref (D.1 b)])) rfl ?_
        refine Zm_get C it_Bd_leaderSquare hD rfl b wi_Bd (isB_i hb) (hb.1 _ _ _) rfl (j := 0) (by decide) fl_Bd_9 (v := .ref (D.1 (b + 1))) rfl ?_
        refine Z_run C it_Bd_leaderSquare 1 (f2 := (22, [some (.ref (D.1 b)), some (.int (nI s)), some (.int (nI i))], [.int (nI i), .ref (D.1 (b + 1))])) rfl ?_
        refine Zm_ald C it_Bd_leaderSquare hD (b + 1) 10 rfl (isB_j hb) (hb.2.1 _ _ _) (by decide) (by decide) rfl (j := i) (by omega) (v := .int (nI (bF V b i))) (bF_v _ _ _) ?_
        refine Zr_callS C it_Bd_leaderSquare rfl p_Pc_leads ml_Bd_48 [.int (nI (bF V b i))] (ct_Pc_leads C.ev C.l (bF V b i) (by first | assumption | omega | exact hF _ (by omega)) _ _) rfl rfl ⟨by decide, by decide, by decide, by decide⟩ (Nat.le_of_ble_eq_true rfl) rfl ?_
        show Z E G (HM D V P PH) sz 0 0 (26, [some (.ref (D.1 b)), some (.int (nI s)), some (.int (nI i))], [.int (bI (ldr (bF V b i)))])
        refine Z_br C it_Bd_leaderSquare rfl rfl (fun hc3 => ?_) (fun hc3 => ?_)
        · replace hc3 := bI_0.mp hc3
          refine Z_run C it_Bd_leaderSquare 1 (f2 := (34, [some (.ref (D.1 b)), some (.int (nI s)), some (.int (nI i + nI 1))], [])) rfl ?_
          rw [nI_add i 1]
          refine Z_run C it_Bd_leaderSquare 1 (f2 := (2, [some (.ref (D.1 b)), some (.int (nI s)), some (.int (nI (i + 1)))], [])) rfl ?_
          exact ih (i + 1) (by omega) (by omega) (by rw [show 36 - i = (36 - (i + 1)) + 1 by omega] at hO; first | simpa [ffr, hc2, hc3] using hO | simpa [ffr, hc2] using hO)
        · replace hc3 := bI_1.mp hc3
          refine Z_run C it_Bd_leaderSquare 1 (f2 := (30, [some (.ref (D.1 b)), some (.int (nI s)), some (.int (nI i))], [.int (nI i)])) rfl ?_
          exact Z_iret C q.e it_Bd_leaderSquare rfl (by rw [show 36 - i = (36 - (i + 1)) + 1 by omega] at hO; simpa [ffr, hc2, hc3, oI] using hO) (by decide) (by decide)
set_option maxRecDepth 20000 in
theorem ct_Bd_leaderSquare {E : zE} (hE : zEv E) {l : Launch} (hl : l.stackTraces = false) {D : zD} (hD : zDok E D) (V : Nat → Nat → Int32) (P : Nat → Nat → Value) (PH : aH) (b : Nat) (hb : isB b) (hF : okF (bF V b)) (s : Nat) (hs : s < 2) (sz : Nat) : zM E l y_Bd_leaderSquare [.code y_Bd_leaderSquare c_Bd_leaderSquare 3 (some .int)] rm_Bd_leaderSquare [.ref (D.1 b), .int (nI s)] (HM D V P PH) sz (zRet (some (.int (oI (lsq (bF V b) s)))) (HM D V P PH) sz) := by
  refine zM_of hE hl (by decide +kernel) [some (.ref (D.1 b)), some (.int (nI s)), none] ⟨rfl, rfl, Nat.le_of_ble_eq_true rfl⟩ ?_
  intro G C q htb
  refine Z_run C it_Bd_leaderSquare 2 (f2 := (2, [some (.ref (D.1 b)), some (.int (nI s)), some (.int (nI 0))], [])) rfl ?_
  exact lp_Bd_leaderSquare C q hD hb hF hs 37 0 (by omega) (by omega) ⟨rfl, rfl, rfl⟩
end
section
/-! ===== Long.bitCount below 2^36; Board: lines, reach, guards ===== -/
def popc (m : Nat) : Nat := cnt m.testBit 36
theorem and_256 {a c m n : Nat} (ha : a < 256) (hm : m < 256) : (a + 256 * c) &&& (m + 256 * n) = (a &&& m) + 256 * (c &&& n) := by
  have h8 : (256 : Nat) = 2 ^ 8 := rfl
  have h1 : ((a + 256 * c) &&& (m + 256 * n)) % 256 = a &&& m := by
    rw [h8, Nat.and_mod_two_pow, ← h8]
    rw [show (a + 256 * c) % 256 = a by omega, show (m + 256 * n) % 256 = m by omega]
  have h2 : ((a + 256 * c) &&& (m + 256 * n)) / 256 = c &&& n := by
    rw [h8, Nat.and_div_two_pow, ← h8]
    rw [show (a + 256 * c) / 256 = c by omega, show (m + 256 * n) / 256 = n by omega]
  omega
theorem and_bytes {a0 a1 a2 a3 a4 m : Nat} (h0 : a0 < 256) (h1 : a1 < 256) (h2 : a2 < 256) (h3 : a3 < 256) (hm : m < 256) (r : Nat) : (a0 + 256 * (a1 + 256 * (a2 + 256 * (a3 + 256 * a4)))) &&& (m + 256 * (m + 256 * (m + 256 * (m + 256 * (m + 256 * r))))) = (a0 &&& m) + 256 * ((a1 &&& m) + 256 * ((a2 &&& m) + 256 * ((a3 &&& m) + 256 * (a4 &&& (m + 256 * r))))) := by
  rw [and_256 h0 hm, and_256 h1 hm, and_256 h2 hm, and_256 h3 hm]
def p8 (b : Nat) : Nat := b % 2 + b / 2 % 2 + b / 4 % 2 + b / 8 % 2 + b / 16 % 2 + b / 32 % 2 + b / 64 % 2 + b / 128 % 2
def t8 (b : Nat) : Nat := b - (b / 2 &&& 85)
def u8 (b : Nat) : Nat := (t8 b &&& 51) + (t8 b / 4 &&& 51)
theorem bt1 : ∀ b, b < 256 → ∀ r, r < 2 → (b / 2 + 128 * r) &&& 85 = b / 2 &&& 85 := by decide +kernel
theorem bt1' : ∀ b, b < 256 → b / 2 &&& 85 ≤ b := by decide +kernel
theorem bt2 : ∀ b, b < 256 → ∀ r, r < 4 → (t8 b / 4 + 64 * r) &&& 51 = t8 b / 4 &&& 51 := by decide +kernel
theorem bt2' : ∀ b, b < 256 → t8 b < 256 ∧ u8 b ≤ 68 ∧ u8 b % 16 ≤ 4 := by decide +kernel
theorem bt3 : ∀ b, b < 256 → ∀ r, r < 5 → (u8 b + u8 b / 16 + 16 * r) &&& 15 = p8 b := by decide +kernel
theorem bt3' : ∀ b, b < 256 → p8 b ≤ 8 := by decide +kernel
def bw (x : Nat) : Nat × Nat × Nat × Nat × Nat := (x % 256, x / 256 % 256, x / 65536 % 256, x / 16777216 % 256, x / 4294967296)
def bc1 (x : Nat) : Nat := x - (x / 2 &&& 6148914691236517205)
def bc2 (x : Nat) : Nat := (x &&& 3689348814741910323) + (x / 4 &&& 3689348814741910323)
def bc3 (x : Nat) : Nat := (x + x / 16) &&& 1085102592571150095
theorem and_top {a m n : Nat} (ha : a < 256) (hm : m < 256) : a &&& (m + 256 * n) = a &&& m := by
  have h := and_256 (c := 0) (n := n) ha hm
  simpa using h
theorem bc_all {x : Nat} (hx : x < 2 ^ 36) : bc1 x < 2 ^ 36 ∧ x / 2 &&& 6148914691236517205 ≤ x ∧ bc2 (bc1 x) < 2 ^ 40 ∧ bc3 (bc2 (bc1 x)) = p8 (x % 256) + 256 * (p8 (x / 256 % 256) + 256 * (p8 (x / 65536 % 256) + 256 * (p8 (x / 16777216 % 256) + 256 * p8 (x / 4294967296)))) := by
  obtain ⟨b0, e0⟩ : ∃ b, b = x % 256 := ⟨_, rfl⟩
  obtain ⟨b1, e1⟩ : ∃ b, b = x / 256 % 256 := ⟨_, rfl⟩
  obtain ⟨b2, e2⟩ : ∃ b, b = x / 65536 % 256 := ⟨_, rfl⟩
  obtain ⟨b3, e3⟩ : ∃ b, b = x / 16777216 % 256 := ⟨_, rfl⟩
  obtain ⟨b4, e4⟩ : ∃ b, b = x / 4294967296 := ⟨_, rfl⟩
  rw [← e0, ← e1, ← e2, ← e3, ← e4]
  have g0 : b0 < 256 := by omega
  have g1 : b1 < 256 := by omega
  have g2 : b2 < 256 := by omega
  have g3 : b3 < 256 := by omega
  have g4 : b4 < 16 := by omega
  have hx0 : x = b0 + 256 * (b1 + 256 * (b2 + 256 * (b3 + 256 * b4))) := by omega
  clear e0 e1 e2 e3 e4
  have a1 : x / 2 = (b0 / 2 + 128 * (b1 % 2)) + 256 * ((b1 / 2 + 128 * (b2 % 2)) + 256 * ((b2 / 2 + 128 * (b3 % 2)) + 256 * ((b3 / 2 + 128 * (b4 % 2)) + 256 * (b4 / 2)))) := by omega
  have m1 : (6148914691236517205 : Nat) = 85 + 256 * (85 + 256 * (85 + 256 * (85 + 256 * (85 + 256 * 5592405)))) := by decide
  have s1 : x / 2 &&& 6148914691236517205 = (b0 / 2 &&& 85) + 256 * ((b1 / 2 &&& 85) + 256 * ((b2 / 2 &&& 85) + 256 * ((b3 / 2 &&& 85) + 256 * (b4 / 2 &&& 85)))) := by
    rw [a1, m1, and_bytes (by omega) (by omega) (by omega) (by omega) (by omega), bt1 b0 g0 _ (by omega), bt1 b1 g1 _ (by omega), bt1 b2 g2 _ (by omega), bt1 b3 g3 _ (by omega), and_top (by omega) (by omega)]
  have k0 := bt1' b0 g0
  have k1 := bt1' b1 g1
  have k2 := bt1' b2 g2
  have k3 := bt1' b3 g3
  have k4 := bt1' b4 (by omega)
  have t1 : bc1 x = t8 b0 + 256 * (t8 b1 + 256 * (t8 b2 + 256 * (t8 b3 + 256 * t8 b4))) := by
    unfold bc1 t8
    rw [s1]
    omega
  obtain ⟨i0, j0, l0⟩ := bt2' b0 g0
  obtain ⟨i1, j1, l1⟩ := bt2' b1 g1
  obtain ⟨i2, j2, l2⟩ := bt2' b2 g2
  obtain ⟨i3, j3, l3⟩ := bt2' b3 g3
  obtain ⟨i4, j4, l4⟩ := bt2' b4 (by omega)
  have t4 : t8 b4 ≤ b4 := Nat.sub_le _ _
  have a2 : bc1 x / 4 = (t8 b0 / 4 + 64 * (t8 b1 % 4)) + 256 * ((t8 b1 / 4 + 64 * (t8 b2 % 4)) + 256 * ((t8 b2 / 4 + 64 * (t8 b3 % 4)) + 256 * ((t8 b3 / 4 + 64 * (t8 b4 % 4)) + 256 * (t8 b4 / 4)))) := by omega
  have m2 : (3689348814741910323 : Nat) = 51 + 256 * (51 + 256 * (51 + 256 * (51 + 256 * (51 + 256 * 3355443)))) := by decide
  have s2a : bc1 x / 4 &&& 3689348814741910323 = (t8 b0 / 4 &&& 51) + 256 * ((t8 b1 / 4 &&& 51) + 256 * ((t8 b2 / 4 &&& 51) + 256 * ((t8 b3 / 4 &&& 51) + 256 * (t8 b4 / 4 &&& 51)))) := by
    rw [a2, m2, and_bytes (by omega) (by omega) (by omega) (by omega) (by omega), bt2 b0 g0 _ (by omega), bt2 b1 g1 _ (by omega), bt2 b2 g2 _ (by omega), bt2 b3 g3 _ (by omega), and_top (by omega) (by omega)]
  have s2b : bc1 x &&& 3689348814741910323 = (t8 b0 &&& 51) + 256 * ((t8 b1 &&& 51) + 256 * ((t8 b2 &&& 51) + 256 * ((t8 b3 &&& 51) + 256 * (t8 b4 &&& 51)))) := by
    rw [t1, m2, and_bytes i0 i1 i2 i3 (by omega), and_top i4 (by omega)]
  have s2 : bc2 (bc1 x) = u8 b0 + 256 * (u8 b1 + 256 * (u8 b2 + 256 * (u8 b3 + 256 * u8 b4))) := by
    unfold bc2 u8
    rw [s2a, s2b]
    omega
  have a3 : bc2 (bc1 x) + bc2 (bc1 x) / 16 = (u8 b0 + u8 b0 / 16 + 16 * (u8 b1 % 16)) + 256 * ((u8 b1 + u8 b1 / 16 + 16 * (u8 b2 % 16)) + 256 * ((u8 b2 + u8 b2 / 16 + 16 * (u8 b3 % 16)) + 256 * ((u8 b3 + u8 b3 / 16 + 16 * (u8 b4 % 16)) + 256 * (u8 b4 + u8 b4 / 16)))) := by omega
  have m3 : (1085102592571150095 : Nat) = 15 + 256 * (15 + 256 * (15 + 256 * (15 + 256 * (15 + 256 * 986895)))) := by decide
  have s3 : bc3 (bc2 (bc1 x)) = p8 b0 + 256 * (p8 b1 + 256 * (p8 b2 + 256 * (p8 b3 + 256 * p8 b4))) := by
    unfold bc3
    have z4 := bt3 b4 (by omega) 0 (by omega)
    rw [Nat.mul_zero, Nat.add_zero] at z4
    rw [a3, m3, and_bytes (by omega) (by omega) (by omega) (by omega) (by omega), bt3 b0 g0 _ (by omega), bt3 b1 g1 _ (by omega), bt3 b2 g2 _ (by omega), bt3 b3 g3 _ (by omega), and_top (by omega) (by omega), z4]
  refine ⟨by omega, ?_, by omega, s3⟩
  rw [s1]
  omega
theorem p8m (y : Nat) : p8 (y % 256) = y % 2 + y / 2 % 2 + y / 4 % 2 + y / 8 % 2 + y / 16 % 2 + y / 32 % 2 + y / 64 % 2 + y / 128 % 2 := by
  unfold p8
  omega
theorem popc_p8 {x : Nat} (hx : x < 2 ^ 36) : popc x = p8 (x % 256) + p8 (x / 256 % 256) + p8 (x / 65536 % 256) + p8 (x / 16777216 % 256) + p8 (x / 4294967296) := by
  have h : ∀ k, (if x.testBit k then 1 else 0) = x / 2 ^ k % 2 := fun k => by
    rw [Nat.testBit_eq_decide_div_mod_eq]
    rcases (show x / 2 ^ k % 2 = 0 ∨ x / 2 ^ k % 2 = 1 by omega) with h | h <;> rw [h] <;> rfl
  have p16 : ∀ y, y < 16 → p8 y = y % 2 + y / 2 % 2 + y / 4 % 2 + y / 8 % 2 := by decide +kernel
  unfold popc cnt
  simp only [smp, h]
  rw [p8m x, p8m (x / 256), p8m (x / 65536), p8m (x / 16777216), p16 _ (by omega)]
  simp only [Nat.div_div_eq_div_mul, Nat.reduceMul, Nat.reducePow, Nat.zero_add, Nat.add_assoc, Nat.div_one]
theorem popc_le (x : Nat) : popc x ≤ 36 := by
  have := smp_le (f := fun k => if x.testBit k then 1 else 0) (c := 1) (n := 36) (fun k _ => by split <;> omega)
  unfold popc cnt
  omega
theorem lN_lit (n : Nat) : lN n = Int64.ofNat n := rfl
theorem lN_ush {n k p : Nat} (hn : n < 2 ^ 62) (hk : k < 64) (hp : 2 ^ k = p) : ((lN n).toUInt64 >>> ((nI k).toInt64.toUInt64 &&& Int64.toUInt64 63)).toInt64 = lN (n / p) := by
  rw [← hp]
  exact wb_shr (by omega) hk
theorem bcs1 {x : Nat} (hx : x < 2 ^ 36) : lN x - (((lN x).toUInt64 >>> ((nI 1).toInt64.toUInt64 &&& Int64.toUInt64 63)).toInt64 &&& (6148914691236517205)) = lN (bc1 x) := by
  rw [lN_ush (p := 2) (by omega) (by decide) rfl, show (6148914691236517205 : Int64) = lN 6148914691236517205 from rfl, wb_and (by omega) (by decide), lN_sub (bc_all hx).2.1]
  rfl
theorem bcs2 {x : Nat} (hx : x < 2 ^ 36) : (lN x &&& (3689348814741910323)) + (((lN x).toUInt64 >>> ((nI 2).toInt64.toUInt64 &&& Int64.toUInt64 63)).toInt64 &&& (3689348814741910323)) = lN (bc2 x) := by
  rw [lN_ush (p := 4) (by omega) (by decide) rfl, show (3689348814741910323 : Int64) = lN 3689348814741910323 from rfl, wb_and (by omega) (by decide), wb_and (by omega) (by decide), lN_add]
  rfl
theorem bcs3 {x : Nat} (hx : x < 2 ^ 40) : (lN x + ((lN x).toUInt64 >>> ((nI 4).toInt64.toUInt64 &&& Int64.toUInt64 63)).toInt64) &&& (1085102592571150095) = lN (bc3 x) := by
  rw [lN_ush (p := 16) (by omega) (by decide) rfl, lN_add, show (1085102592571150095 : Int64) = lN 1085102592571150095 from rfl, wb_and (by omega) (by decide)]
  rfl
theorem bcs4 {x k p : Nat} (hx : x < 2 ^ 62) (hk : k < 64) (hp : 2 ^ k = p) : lN x + ((lN x).toUInt64 >>> ((nI k).toInt64.toUInt64 &&& Int64.toUInt64 63)).toInt64 = lN (x + x / p) := by
  rw [lN_ush hx hk hp, lN_add]
theorem nI_and (a b : Nat) : nI a &&& nI b = nI (a &&& b) := by
  apply Int32.toBitVec_inj.mp
  show BitVec.ofNat 32 a &&& BitVec.ofNat 32 b = BitVec.ofNat 32 (a &&& b)
  apply BitVec.eq_of_getLsbD_eq
  intro i hi
  rw [BitVec.getLsbD_and, BitVec.getLsbD_ofNat, BitVec.getLsbD_ofNat, BitVec.getLsbD_ofNat, Nat.testBit_and]
  simp [hi]
def bc4 (x : Nat) : Nat := x + x / 256
def bc5 (x : Nat) : Nat := x + x / 65536
def bc6 (x : Nat) : Nat := x + x / 4294967296
theorem bc_end {x : Nat} (hx : x < 2 ^ 36) : bc6 (bc5 (bc4 (bc3 (bc2 (bc1 x))))) &&& 127 = popc x ∧ bc3 (bc2 (bc1 x)) < 2 ^ 36 := by
  have h := (bc_all hx).2.2.2
  have g0 := bt3' (x % 256) (by omega)
  have g1 := bt3' (x / 256 % 256) (by omega)
  have g2 := bt3' (x / 65536 % 256) (by omega)
  have g3 := bt3' (x / 16777216 % 256) (by omega)
  have g4 := bt3' (x / 4294967296) (by omega)
  rw [popc_p8 hx, h]
  generalize p8 (x % 256) = v0 at *
  generalize p8 (x / 256 % 256) = v1 at *
  generalize p8 (x / 65536 % 256) = v2 at *
  generalize p8 (x / 16777216 % 256) = v3 at *
  generalize p8 (x / 4294967296) = v4 at *
  refine ⟨?_, by omega⟩
  rw [show (127 : Nat) = 2 ^ 7 - 1 from rfl, Nat.and_two_pow_sub_one_eq_mod]
  unfold bc6 bc5 bc4
  have q1 : (v0 + 256 * (v1 + 256 * (v2 + 256 * (v3 + 256 * v4)))) / 256 = v1 + 256 * (v2 + 256 * (v3 + 256 * v4)) := by omega
  rw [q1]
  have q2 : v0 + 256 * (v1 + 256 * (v2 + 256 * (v3 + 256 * v4))) + (v1 + 256 * (v2 + 256 * (v3 + 256 * v4))) = (v0 + v1) + 256 * ((v1 + v2) + 256 * ((v2 + v3) + 256 * ((v3 + v4) + 256 * v4))) := by omega
  rw [q2]
  have q3 : ((v0 + v1) + 256 * ((v1 + v2) + 256 * ((v2 + v3) + 256 * ((v3 + v4) + 256 * v4)))) / 65536 = (v2 + v3) + 256 * ((v3 + v4) + 256 * v4) := by omega
  rw [q3]
  have q4 : (v0 + v1) + 256 * ((v1 + v2) + 256 * ((v2 + v3) + 256 * ((v3 + v4) + 256 * v4))) + ((v2 + v3) + 256 * ((v3 + v4) + 256 * v4)) = (v0 + v1 + v2 + v3) + 256 * ((v1 + v2 + v3 + v4) + 256 * ((v2 + v3 + v4) + 256 * ((v3 + v4) + 256 * v4))) := by omega
  rw [q4]
  have q5 : ((v0 + v1 + v2 + v3) + 256 * ((v1 + v2 + v3 + v4) + 256 * ((v2 + v3 + v4) + 256 * ((v3 + v4) + 256 * v4)))) / 4294967296 = v4 := by omega
  rw [q5]
  omega
set_option maxRecDepth 20000 in
theorem ct_Jl_bitCount {E : zE} (hE : zEv E) {l : Launch} (hl : l.stackTraces = false) (x : Nat) (hx : x < 2 ^ 36) (h : aH) (sz : Nat) : zM E l y_Jl_bitCount [.code y_Jl_bitCount c_Jl_bitCount 2 (some .int)] rm_Jl_bitCount [.long (lN x)] h sz (zRet (some (.int (nI (popc x)))) h sz) := by
  refine zM_of hE hl (by decide +kernel) [some (.long (lN x)), none] ⟨rfl, rfl, Nat.le_of_ble_eq_true rfl⟩ ?_
  intro G C q htb
  obtain ⟨hb1, -, hb2, -⟩ := bc_all hx
  obtain ⟨hb4, hb3⟩ := bc_end hx
  refine Z_run C it_Jl_bitCount 4 (f2 := (4, [some (.long (lN x)), none], [.long (((lN x).toUInt64 >>> ((nI 1).toInt64.toUInt64 &&& Int64.toUInt64 63)).toInt64), .long (lN x)])) rfl ?_
  refine Z_ldc2 C it_Jl_bitCount rfl cl_Jl_314 ?_
  refine Z_run C it_Jl_bitCount 3 (f2 := (10, [some (.long (lN x - (((lN x).toUInt64 >>> ((nI 1).toInt64.toUInt64 &&& Int64.toUInt64 63)).toInt64 &&& (6148914691236517205)))), none], [])) rfl ?_
  have e1 : lN x - (((lN x).toUInt64 >>> ((nI 1).toInt64.toUInt64 &&& Int64.toUInt64 63)).toInt64 &&& (6148914691236517205)) = lN (bc1 x) := bcs1 hx
  rw [e1]
  refine Z_run C it_Jl_bitCount 1 (f2 := (11, [some (.long (lN (bc1 x))), none], [.long (lN (bc1 x))])) rfl ?_
  refine Z_ldc2 C it_Jl_bitCount rfl cl_Jl_316 ?_
  refine Z_run C it_Jl_bitCount 4 (f2 := (18, [some (.long (lN (bc1 x))), none], [.long (((lN (bc1 x)).toUInt64 >>> ((nI 2).toInt64.toUInt64 &&& Int64.toUInt64 63)).toInt64), .long (lN (bc1 x) &&& (3689348814741910323))])) rfl ?_
  refine Z_ldc2 C it_Jl_bitCount rfl cl_Jl_316 ?_
  refine Z_run C it_Jl_bitCount 3 (f2 := (24, [some (.long ((lN (bc1 x) &&& (3689348814741910323)) + (((lN (bc1 x)).toUInt64 >>> ((nI 2).toInt64.toUInt64 &&& Int64.toUInt64 63)).toInt64 &&& (3689348814741910323)))), none], [])) rfl ?_
  have e2 : (lN (bc1 x) &&& (3689348814741910323)) + (((lN (bc1 x)).toUInt64 >>> ((nI 2).toInt64.toUInt64 &&& Int64.toUInt64 63)).toInt64 &&& (3689348814741910323)) = lN (bc2 (bc1 x)) := bcs2 hb1
  rw [e2]
  refine Z_run C it_Jl_bitCount 5 (f2 := (29, [some (.long (lN (bc2 (bc1 x)))), none], [.long (lN (bc2 (bc1 x)) + ((lN (bc2 (bc1 x))).toUInt64 >>> ((nI 4).toInt64.toUInt64 &&& Int64.toUInt64 63)).toInt64)])) rfl ?_
  refine Z_ldc2 C it_Jl_bitCount rfl cl_Jl_318 ?_
  refine Z_run C it_Jl_bitCount 2 (f2 := (34, [some (.long ((lN (bc2 (bc1 x)) + ((lN (bc2 (bc1 x))).toUInt64 >>> ((nI 4).toInt64.toUInt64 &&& Int64.toUInt64 63)).toInt64) &&& (1085102592571150095))), none], [])) rfl ?_
  have e3 : (lN (bc2 (bc1 x)) + ((lN (bc2 (bc1 x))).toUInt64 >>> ((nI 4).toInt64.toUInt64 &&& Int64.toUInt64 63)).toInt64) &&& (1085102592571150095) = lN (bc3 (bc2 (bc1 x))) := bcs3 hb2
  rw [e3]
  refine Z_run C it_Jl_bitCount 6 (f2 := (41, [some (.long (lN (bc3 (bc2 (bc1 x))) + ((lN (bc3 (bc2 (bc1 x)))).toUInt64 >>> ((nI 8).toInt64.toUInt64 &&& Int64.toUInt64 63)).toInt64)), none], [])) rfl ?_
  have e4 : lN (bc3 (bc2 (bc1 x))) + ((lN (bc3 (bc2 (bc1 x)))).toUInt64 >>> ((nI 8).toInt64.toUInt64 &&& Int64.toUInt64 63)).toInt64 = lN (bc4 (bc3 (bc2 (bc1 x)))) := bcs4 (p := 256) (by omega) (by decide) rfl
  rw [e4]
  refine Z_run C it_Jl_bitCount 6 (f2 := (48, [some (.long (lN (bc4 (bc3 (bc2 (bc1 x)))) + ((lN (bc4 (bc3 (bc2 (bc1 x))))).toUInt64 >>> ((nI 16).toInt64.toUInt64 &&& Int64.toUInt64 63)).toInt64)), none], [])) rfl ?_
  have e5 : lN (bc4 (bc3 (bc2 (bc1 x)))) + ((lN (bc4 (bc3 (bc2 (bc1 x))))).toUInt64 >>> ((nI 16).toInt64.toUInt64 &&& Int64.toUInt64 63)).toInt64 = lN (bc5 (bc4 (bc3 (bc2 (bc1 x))))) := bcs4 (p := 65536) (by unfold bc4; omega) (by decide) rfl
  rw [e5]
  refine Z_run C it_Jl_bitCount 6 (f2 := (55, [some (.long (lN (bc5 (bc4 (bc3 (bc2 (bc1 x))))) + ((lN (bc5 (bc4 (bc3 (bc2 (bc1 x)))))).toUInt64 >>> ((nI 32).toInt64.toUInt64 &&& Int64.toUInt64 63)).toInt64)), none], [])) rfl ?_
  have e6 : lN (bc5 (bc4 (bc3 (bc2 (bc1 x))))) + ((lN (bc5 (bc4 (bc3 (bc2 (bc1 x)))))).toUInt64 >>> ((nI 32).toInt64.toUInt64 &&& Int64.toUInt64 63)).toInt64 = lN (bc6 (bc5 (bc4 (bc3 (bc2 (bc1 x)))))) := bcs4 (p := 4294967296) (by unfold bc5 bc4; omega) (by decide) rfl
  rw [e6]
  refine Z_run C it_Jl_bitCount 4 (f2 := (60, [some (.long (lN (bc6 (bc5 (bc4 (bc3 (bc2 (bc1 x)))))))), none], [.int ((lN (bc6 (bc5 (bc4 (bc3 (bc2 (bc1 x))))))).toInt32 &&& nI 127)])) rfl ?_
  exact Z_iret C q.e it_Jl_bitCount rfl (zRet_i (by rw [lN_i, nI_and, hb4])) (by decide) (by decide)
/-- the next square in a direction: its row and column -/
def upZ (d : Nat) : Int := (zUP d).toInt
def rtZ (d : Nat) : Int := (zRT d).toInt
def nx1 (r : Nat) (z : Int) : Option Nat := if 0 ≤ (r : Int) + z ∧ (r : Int) + z < 6 then some ((r : Int) + z).toNat else none
def nx (d r c : Nat) : Option (Nat × Nat) := match nx1 r (upZ d), nx1 c (rtZ d) with
  | some r2, some c2 => some (r2, c2)
  | _, _ => none
theorem tb_up : ∀ r, r < 6 → ∀ d, d < 16 → ((nI r + zUP d < 0 ∨ nI 6 ≤ nI r + zUP d) ∧ nx1 r (upZ d) = none) ∨ (¬ nI r + zUP d < 0 ∧ ¬ nI 6 ≤ nI r + zUP d ∧ (nx1 r (upZ d)).isSome = true ∧ nI r + zUP d = nI ((nx1 r (upZ d)).getD 0) ∧ (nx1 r (upZ d)).getD 0 < 6) := by decide +kernel
theorem tb_rt : ∀ r, r < 6 → ∀ d, d < 16 → ((nI r + zRT d < 0 ∨ ¬ nI r + zRT d < nI 6) ∧ nx1 r (rtZ d) = none) ∨ (¬ nI r + zRT d < 0 ∧ nI r + zRT d < nI 6 ∧ (nx1 r (rtZ d)).isSome = true ∧ nI r + zRT d = nI ((nx1 r (rtZ d)).getD 0) ∧ (nx1 r (rtZ d)).getD 0 < 6) := by decide +kernel
theorem nx_o1 {r c d : Nat} (hr : r < 6) (hd : d < 16) (h : nI r + zUP d < 0 ∨ nI 6 ≤ nI r + zUP d) : nx d r c = none := by
  rcases tb_up r hr d hd with ⟨-, h1⟩ | ⟨h1, h2, -⟩
  · simp [nx, h1]
  · exact absurd h (by rintro (z | z); exact h1 z; exact h2 z)
theorem nx_o2 {r c d : Nat} (hc : c < 6) (hd : d < 16) (h : nI c + zRT d < 0 ∨ ¬ nI c + zRT d < nI 6) : nx d r c = none := by
  rcases tb_rt c hc d hd with ⟨-, h1⟩ | ⟨h1, h2, -⟩
  · unfold nx
    rw [h1]
    split
    · next h9 => cases h9
    · rfl
  · exact absurd h (by rintro (z | z); exact h1 z; exact z h2)
theorem nx_in {r c d : Nat} (hr : r < 6) (hc : c < 6) (hd : d < 16) (h1 : ¬ nI r + zUP d < 0) (h2 : ¬ nI 6 ≤ nI r + zUP d) (h3 : ¬ nI c + zRT d < 0) (h4 : nI c + zRT d < nI 6) : ∃ r2 c2 : Nat, nx d r c = some (r2, c2) ∧ nI r + zUP d = nI r2 ∧ nI c + zRT d = nI c2 ∧ r2 < 6 ∧ c2 < 6 := by
  rcases tb_up r hr d hd with ⟨g, -⟩ | ⟨-, -, g1, g2, g3⟩
  · exact absurd g (by rintro (z | z); exact h1 z; exact h2 z)
  · rcases tb_rt c hc d hd with ⟨g, -⟩ | ⟨-, -, k1, k2, k3⟩
    · exact absurd g (by rintro (z | z); exact h3 z; exact z h4)
    · obtain ⟨r2, e1⟩ := Option.isSome_iff_exists.mp g1
      obtain ⟨c2, e2⟩ := Option.isSome_iff_exists.mp k1
      rw [e1] at g2 g3
      rw [e2] at k2 k3
      exact ⟨r2, c2, by simp [nx, e1, e2], g2, k2, g3, k3⟩
/-- the squares in a direction, n paces, up to the first piece and with its square -/
def lmk (F : Nat → Nat) (d : Nat) : Nat → Nat → Nat → Nat
  | 0, _, _ => 0
  | n + 1, r, c => match nx d r c with
    | none => 0
    | some (r2, c2) => 2 ^ (6 * r2 + c2) ||| (if F (6 * r2 + c2) = 0 then lmk F d n r2 c2 else 0)
def lnm (F : Nat → Nat) (sq d f : Nat) : Nat := lmk F d f (sq / 6) (sq % 6)
def fdN (i : Nat) : Nat := match i with
  | 0 => 0
  | 1 => 4
  | 2 => 8
  | 3 => 0
  | _ => 4
def ldN (i : Nat) : Nat := match i with
  | 0 => 3
  | 1 => 7
  | 2 => 15
  | 3 => 3
  | _ => 7
def faN (i : Nat) : Nat := match i with
  | 0 => 1
  | 1 => 1
  | 2 => 1
  | 3 => 5
  | _ => 5
theorem fd_e {i : Nat} (h : i < 5) : zFD i = nI (fdN i) := by
  rcases (show i = 0 ∨ i = 1 ∨ i = 2 ∨ i = 3 ∨ i = 4 by omega) with rfl | rfl | rfl | rfl | rfl <;> rfl
theorem ld_e {i : Nat} (h : i < 5) : zLD i = nI (ldN i) := by
  rcases (show i = 0 ∨ i = 1 ∨ i = 2 ∨ i = 3 ∨ i = 4 by omega) with rfl | rfl | rfl | rfl | rfl <;> rfl
theorem fa_e {i : Nat} (h : i < 5) : zFA i = nI (faN i) := by
  rcases (show i = 0 ∨ i = 1 ∨ i = 2 ∨ i = 3 ∨ i = 4 by omega) with rfl | rfl | rfl | rfl | rfl <;> rfl
def ndN (i : Nat) : Nat := ldN i + 1 - fdN i
theorem nd_b : ∀ i, i < 5 → fdN i ≤ ldN i ∧ ldN i < 16 ∧ 1 ≤ faN i ∧ faN i ≤ 5 := by decide
/-- the squares to which a kind of steps leads from a square -/
def lok (F : Nat → Nat) (sq i : Nat) : Nat := orp (fun t => lnm F sq (fdN i + t) (faN i)) (ndN i)
def gfr (F : Nat → Nat) (sq : Nat) : Nat := orp (fun i => if kn (F sq) i then lok F sq i else 0) 5
def gfa (F : Nat → Nat) (sq s : Nat) : Nat := gfr F sq &&& (sqs F s ^^^ (2 ^ 36 - 1))
def mvs (F : Nat → Nat) (s n : Nat) : Nat := smp (fun k => if hld F k s then popc (gfa F k s) else 0) n
def gby (F : Nat → Nat) (s n : Nat) : Nat := orp (fun k => if hld F k s then gfr F k else 0) n
def cga (F : Nat → Nat) (s t n : Nat) : Nat := cnt (fun k => hld F k s && (gfr F k).testBit t) n
def gsf (F : Nat → Nat) (s t : Nat) : Nat := orp (fun i => lok F t i &&& knw F s i) 5
theorem lmk_lt (F : Nat → Nat) (d : Nat) : ∀ n r c, lmk F d n r c < 2 ^ 36 := by
  intro n
  induction n with
  | zero => intro r c; exact Nat.two_pow_pos 36
  | succ n ih =>
    intro r c
    unfold lmk
    split
    · exact Nat.two_pow_pos 36
    · next r2 c2 h =>
      have hb : r2 < 6 ∧ c2 < 6 := by
        unfold nx nx1 at h
        split at h
        · next h1 h2 =>
          cases h
          split at h1
          · next g => cases h1; split at h2
                      · next g2 => cases h2; omega
                      · cases h2
          · cases h1
        · cases h
      refine Nat.or_lt_two_pow (wb_lt2 (by omega)) ?_
      split
      · exact ih r2 c2
      · exact Nat.two_pow_pos 36
theorem lnm_lt (F : Nat → Nat) (sq d f : Nat) : lnm F sq d f < 2 ^ 36 := lmk_lt _ _ _ _ _
theorem lok_lt (F : Nat → Nat) (sq i : Nat) : lok F sq i < 2 ^ 36 := orp_lt (fun _ _ => lnm_lt _ _ _ _)
theorem gfr_lt (F : Nat → Nat) (sq : Nat) : gfr F sq < 2 ^ 36 := orp_lt (fun _ _ => by split; exact lok_lt _ _ _; exact Nat.two_pow_pos 36)
theorem gfa_lt (F : Nat → Nat) (sq s : Nat) : gfa F sq s < 2 ^ 36 := Nat.lt_of_le_of_lt Nat.and_le_left (gfr_lt F sq)
theorem gby_lt (F : Nat → Nat) (s n : Nat) : gby F s n < 2 ^ 36 := orp_lt (fun _ _ => by split; exact gfr_lt _ _; exact Nat.two_pow_pos 36)
theorem gsf_lt (F : Nat → Nat) (s t : Nat) : gsf F s t < 2 ^ 36 := orp_lt (fun _ _ => Nat.lt_of_le_of_lt Nat.and_le_left (lok_lt _ _ _))
theorem mvs_le (F : Nat → Nat) (s : Nat) {n : Nat} (h : n ≤ 36) : mvs F s n ≤ 1296 := by
  have := smp_le (f := fun k => if hld F k s then popc (gfa F k s) else 0) (c := 36) (n := n) (fun k _ => by split; exact popc_le _; omega)
  unfold mvs
  omega
/-- fewer locals are known -/
def zsubl : zL → zL → Prop
  | [], [] => True
  | none :: a, _ :: b => zsubl a b
  | some v :: a, some w :: b => v = w ∧ zsubl a b
  | _, _ => False
theorem zsubl_len : ∀ {a b : zL}, zsubl a b → a.length = b.length
  | [], [], _ => rfl
  | none :: a, _ :: b, h => by simp [zsubl_len (a := a) (b := b) h]
  | some _ :: a, some _ :: b, h => by simp [zsubl_len (a := a) (b := b) h.2]
theorem zsubl_mem : ∀ {a b : zL} (i : Nat), zsubl a b → ∀ q ∈ zl_as i a, q ∈ zl_as i b
  | [], [], _, _, _, hq => hq
  | none :: a, x :: b, i, h, q, hq => by
    have h1 := zsubl_mem (a := a) (b := b) (i + 1) h q hq
    cases x with
    | none => exact h1
    | some w => exact List.mem_cons_of_mem _ h1
  | some v :: a, some w :: b, i, h, q, hq => by
    obtain ⟨rfl, h2⟩ := h
    rcases List.mem_cons.mp hq with h3 | h3
    · rw [h3]; exact List.mem_cons_self
    · exact List.mem_cons_of_mem _ (zsubl_mem (a := a) (b := b) (i + 1) h2 q h3)
theorem Z_sub {E : zE} {G : zG} {h : aH} {sz k n pc : Nat} {ls ls2 : zL} {st : List Value} (hs : zsubl ls2 ls) (kk : Z E G h sz k n (pc, ls2, st)) : Z E G h sz k n (pc, ls, st) := Z_ls (zsubl_len hs) (zsubl_mem 0 hs) kk
set_option maxRecDepth 20000 in
theorem lp_Bd_line {E : zE} {G : zG} {O : zO} (C : zCx E G c_Bd_line 10 y_Bd_line.cls y_Bd_line.name (some .long) rm_Bd_line) (q : zEndX E G O rm_Bd_line.cells rm_Bd_line.slots)  {D : zD} (hD : zDok E D) {V : Nat → Nat → Int32} {P : Nat → Nat → Value} {PH : aH} {b : Nat} (hb : isB b) (hF : okF (bF V b)) {sq : Nat} (hsq : sq < 36) {d f : Nat} (hd : d < 16) (hf : f ≤ 5) {sz : Nat} : ∀ (j i : Nat), ∀ (r c acc : Nat), f + 1 - i < j → 1 ≤ i → i ≤ f + 1 → r < 6 → c < 6 → acc < 2 ^ 36 → O (.inl (some (.long (lN (acc ||| lmk (bF V b) d (f + 1 - i) r c))))) (HM D V P PH) sz → Z E G (HM D V P PH) sz 0 0 (18, [some (.ref (D.1 b)), some (.int (nI sq)), some (.int (nI d)), some (.int (nI f)), some (.long (lN acc)), none, some (.int (nI r)), some (.int (nI c)), some (.int (nI i)), none], []) := by
  intro j
  induction j with
  | zero =>
    intro i r c acc h1 h2 h2b hr hc hacc hO
    omega
  | succ j ih =>
    intro i r c acc h1 h2 h2b hr hc hacc hO
    refine Z_run C it_Bd_line 2 (f2 := (21, [some (.ref (D.1 b)), some (.int (nI sq)), some (.int (nI d)), some (.int (nI f)), some (.long (lN acc)), none, some (.int (nI r)), some (.int (nI c)), some (.int (nI i)), none], [.int (nI f), .int (nI i)])) rfl ?_
    refine Z_br C it_Bd_line rfl rfl (fun hc1 => ?_) (fun hc1 => ?_)
    · replace hc1 := (nI_ltI (a := f) (b := i) (by omega) (by omega)).mp hc1
      refine Z_run C it_Bd_line 1 (f2 := (111, [some (.ref (D.1 b)), some (.int (nI sq)), some (.int (nI d)), some (.int (nI f)), some (.long (lN acc)), none, some (.int (nI r)), some (.int (nI c)), some (.int (nI i)), none], [.long (lN acc)])) rfl ?_
      exact Z_lret C q.e it_Bd_line rfl (by
        by_cases hz : f + 1 - i = 0
        · rw [hz] at hO; simpa [lmk] using hO
        · rw [show f + 1 - i = (f + 1 - (i + 1)) + 1 by omega] at hO
          unfold lmk at hO
          rw [show nx d r c = none by first | exact nx_o1 hr hd (Or.inl hc2) | exact nx_o1 hr hd (Or.inr hc3) | exact nx_o2 hc hd (Or.inl hc4) | exact nx_o2 hc hd (Or.inr hc5) | omega] at hO
          simpa using hO) (by decide) (by decide)
    · replace hc1 : ¬ _ := fun z9 => hc1 ((nI_ltI (a := f) (b := i) (by omega) (by omega)).mpr z9)
      refine Z_run C it_Bd_line 1 (f2 := (26, [some (.ref (D.1 b)), some (.int (nI sq)), some (.int (nI d)), some (.int (nI f)), some (.long (lN acc)), none, some (.int (nI r)), some (.int (nI c)), some (.int (nI i)), none], [.int (nI r)])) rfl ?_
      refine Z_gets C it_Bd_line rfl hD.2.2.2.1 fl_Bd_55 ?_
      refine Z_run C it_Bd_line 1 (f2 := (30, [some (.ref (D.1 b)), some (.int (nI sq)), some (.int (nI d)), some (.int (nI f)), some (.long (lN acc)), none, some (.int (nI r)), some (.int (nI c)), some (.int (nI i)), none], [.int (nI d), .ref (D.1 47), .int (nI r)])) rfl ?_
      refine Zm_ald C it_Bd_line hD 47 15 rfl (by decide) rfl (by decide) (by decide) rfl (j := d) (by omega) (v := .int (zUP d)) rfl ?_
      refine Z_run C it_Bd_line 3 (f2 := (36, [some (.ref (D.1 b)), some (.int (nI sq)), some (.int (nI d)), some (.int (nI f)), some (.long (lN acc)), none, some (.int (nI r + zUP d)), some (.int (nI c)), some (.int (nI i)), none], [.int (nI c)])) rfl ?_
      refine Z_gets C it_Bd_line rfl hD.2.2.2.2.1 fl_Bd_58 ?_
      refine Z_run C it_Bd_line 1 (f2 := (40, [some (.ref (D.1 b)), some (.int (nI sq)), some (.int (nI d)), some (.int (nI f)), some (.long (lN acc)), none, some (.int (nI r + zUP d)), some (.int (nI c)), some (.int (nI i)), none], [.int (nI d), .ref (D.1 48), .int (nI c)])) rfl ?_
      refine Zm_ald C it_Bd_line hD 48 15 rfl (by decide) rfl (by decide) (by decide) rfl (j := d) (by omega) (v := .int (zRT d)) rfl ?_
      refine Z_run C it_Bd_line 3 (f2 := (46, [some (.ref (D.1 b)), some (.int (nI sq)), some (.int (nI d)), some (.int (nI f)), some (.long (lN acc)), none, some (.int (nI r + zUP d)), some (.int (nI c + zRT d)), some (.int (nI i)), none], [.int (nI r + zUP d)])) rfl ?_
      refine Z_br C it_Bd_line rfl rfl (fun hc2 => ?_) (fun hc2 => ?_)
      · skip
        refine Z_run C it_Bd_line 1 (f2 := (70, [some (.ref (D.1 b)), some (.int (nI sq)), some (.int (nI d)), some (.int (nI f)), some (.long (lN acc)), none, some (.int (nI r + zUP d)), some (.int (nI c + zRT d)), some (.int (nI i)), none], [.long (lN acc)])) rfl ?_
        exact Z_lret C q.e it_Bd_line rfl (by
        by_cases hz : f + 1 - i = 0
        · rw [hz] at hO; simpa [lmk] using hO
        · rw [show f + 1 - i = (f + 1 - (i + 1)) + 1 by omega] at hO
          unfold lmk at hO
          rw [show nx d r c = none by first | exact nx_o1 hr hd (Or.inl hc2) | exact nx_o1 hr hd (Or.inr hc3) | exact nx_o2 hc hd (Or.inl hc4) | exact nx_o2 hc hd (Or.inr hc5) | omega] at hO
          simpa using hO) (by decide) (by decide)
      · skip
        refine Z_run C it_Bd_line 2 (f2 := (53, [some (.ref (D.1 b)), some (.int (nI sq)), some (.int (nI d)), some (.int (nI f)), some (.long (lN acc)), none, some (.int (nI r + zUP d)), some (.int (nI c + zRT d)), some (.int (nI i)), none], [.int (nI 6), .int (nI r + zUP d)])) rfl ?_
        refine Z_br C it_Bd_line rfl rfl (fun hc3 => ?_) (fun hc3 => ?_)
        · skip
          refine Z_run C it_Bd_line 1 (f2 := (70, [some (.ref (D.1 b)), some (.int (nI sq)), some (.int (nI d)), some (.int (nI f)), some (.long (lN acc)), none, some (.int (nI r + zUP d)), some (.int (nI c + zRT d)), some (.int (nI i)), none], [.long (lN acc)])) rfl ?_
          exact Z_lret C q.e it_Bd_line rfl (by
        by_cases hz : f + 1 - i = 0
        · rw [hz] at hO; simpa [lmk] using hO
        · rw [show f + 1 - i = (f + 1 - (i + 1)) + 1 by omega] at hO
          unfold lmk at hO
          rw [show nx d r c = none by first | exact nx_o1 hr hd (Or.inl hc2) | exact nx_o1 hr hd (Or.inr hc3) | exact nx_o2 hc hd (Or.inl hc4) | exact nx_o2 hc hd (Or.inr hc5) | omega] at hO
          simpa using hO) (by decide) (by decide)
        · skip
          refine Z_run C it_Bd_line 1 (f2 := (58, [some (.ref (D.1 b)), some (.int (nI sq)), some (.int (nI d)), some (.int (nI f)), some (.long (lN acc)), none, some (.int (nI r + zUP d)), some (.int (nI c + zRT d)), some (.int (nI i)), none], [.int (nI c + zRT d)])) rfl ?_
          refine Z_br C it_Bd_line rfl rfl (fun hc4 => ?_) (fun hc4 => ?_)
          · skip
            refine Z_run C it_Bd_line 1 (f2 := (70, [some (.ref (D.1 b)), some (.int (nI sq)), some (.int (nI d)), some (.int (nI f)), some (.long (lN acc)), none, some (.int (nI r + zUP d)), some (.int (nI c + zRT d)), some (.int (nI i)), none], [.long (lN acc)])) rfl ?_
            exact Z_lret C q.e it_Bd_line rfl (by
        by_cases hz : f + 1 - i = 0
        · rw [hz] at hO; simpa [lmk] using hO
        · rw [show f + 1 - i = (f + 1 - (i + 1)) + 1 by omega] at hO
          unfold lmk at hO
          rw [show nx d r c = none by first | exact nx_o1 hr hd (Or.inl hc2) | exact nx_o1 hr hd (Or.inr hc3) | exact nx_o2 hc hd (Or.inl hc4) | exact nx_o2 hc hd (Or.inr hc5) | omega] at hO
          simpa using hO) (by decide) (by decide)
          · skip
            refine Z_run C it_Bd_line 2 (f2 := (65, [some (.ref (D.1 b)), some (.int (nI sq)), some (.int (nI d)), some (.int (nI f)), some (.long (lN acc)), none, some (.int (nI r + zUP d)), some (.int (nI c + zRT d)), some (.int (nI i)), none], [.int (nI 6), .int (nI c + zRT d)])) rfl ?_
            refine Z_br C it_Bd_line rfl rfl (fun hc5 => ?_) (fun hc5 => ?_)
            · skip
              obtain ⟨r2, c2, hn, er, ec, hr2, hc2x⟩ := nx_in hr hc hd hc2 hc3 hc4 hc5
              rw [er, ec]
              refine Z_run C it_Bd_line 3 (f2 := (76, [some (.ref (D.1 b)), some (.int (nI sq)), some (.int (nI d)), some (.int (nI f)), some (.long (lN acc)), none, some (.int (nI r2)), some (.int (nI c2)), some (.int (nI i)), none], [.int (nI 6 * nI r2)])) rfl ?_
              rw [nI_mul 6 r2]
              refine Z_run C it_Bd_line 2 (f2 := (79, [some (.ref (D.1 b)), some (.int (nI sq)), some (.int (nI d)), some (.int (nI f)), some (.long (lN acc)), none, some (.int (nI r2)), some (.int (nI c2)), some (.int (nI i)), none], [.int (nI (6 * r2) + nI c2)])) rfl ?_
              rw [nI_add (6 * r2) c2]
              refine Z_run C it_Bd_line 7 (f2 := (90, [some (.ref (D.1 b)), some (.int (nI sq)), some (.int (nI d)), some (.int (nI f)), some (.long (lN acc ||| (lN 1 <<< ((nI (6 * r2 + c2)).toInt64 &&& 63)))), none, some (.int (nI r2)), some (.int (nI c2)), some (.int (nI i)), some (.int (nI (6 * r2 + c2)))], [])) rfl ?_
              have e1 : lN acc ||| (lN 1 <<< ((nI (6 * r2 + c2)).toInt64 &&& 63)) = lN (acc ||| 2 ^ (6 * r2 + c2)) := by rw [wb_shl 1 (by omega), Nat.one_mul, lN_or (by omega) (wb_lt2 (by omega))]
              rw [e1]
              have hacc2 : acc ||| 2 ^ (6 * r2 + c2) < 2 ^ 36 := Nat.or_lt_two_pow hacc (wb_lt2 (by omega))
              have hq := hF (6 * r2 + c2) (by omega)
              refine Z_run C it_Bd_line 1 (f2 := (91, [some (.ref (D.1 b)), some (.int (nI sq)), some (.int (nI d)), some (.int (nI f)), some (.long (lN (acc ||| 2 ^ (6 * r2 + c2)))), none, some (.int (nI r2)), some (.int (nI c2)), some (.int (nI i)), some (.int (nI (6 * r2 + c2)))], [.ref (D.1 b)])) rfl ?_
              refine Zm_get C it_Bd_line hD rfl b wi_Bd (isB_i hb) (hb.1 _ _ _) rfl (j := 0) (by decide) fl_Bd_9 (v := .ref (D.1 (b + 1))) rfl ?_
              refine Z_run C it_Bd_line 1 (f2 := (96, [some (.ref (D.1 b)), some (.int (nI sq)), some (.int (nI d)), some (.int (nI f)), some (.long (lN (acc ||| 2 ^ (6 * r2 + c2)))), none, some (.int (nI r2)), some (.int (nI c2)), some (.int (nI i)), some (.int (nI (6 * r2 + c2)))], [.int (nI (6 * r2 + c2)), .ref (D.1 (b + 1))])) rfl ?_
              refine Zm_ald C it_Bd_line hD (b + 1) 10 rfl (isB_j hb) (hb.2.1 _ _ _) (by decide) (by decide) rfl (j := 6 * r2 + c2) (by omega) (v := .int (nI (bF V b (6 * r2 + c2)))) (bF_v _ _ _) ?_
              refine Z_br C it_Bd_line rfl rfl (fun hc6 => ?_) (fun hc6 => ?_)
              · replace hc6 := (nI_e0 (a := bF V b (6 * r2 + c2)) (by omega)).mp hc6
                refine Z_run C it_Bd_line 1 (f2 := (106, [some (.ref (D.1 b)), some (.int (nI sq)), some (.int (nI d)), some (.int (nI f)), some (.long (lN (acc ||| 2 ^ (6 * r2 + c2)))), none, some (.int (nI r2)), some (.int (nI c2)), some (.int (nI i + nI 1)), some (.int (nI (6 * r2 + c2)))], [])) rfl ?_
                rw [nI_add i 1]
                refine Z_run C it_Bd_line 1 (f2 := (18, [some (.ref (D.1 b)), some (.int (nI sq)), some (.int (nI d)), some (.int (nI f)), some (.long (lN (acc ||| 2 ^ (6 * r2 + c2)))), none, some (.int (nI r2)), some (.int (nI c2)), some (.int (nI (i + 1))), some (.int (nI (6 * r2 + c2)))], [])) rfl ?_
                refine Z_sub (ls2 := [some (.ref (D.1 b)), some (.int (nI sq)), some (.int (nI d)), some (.int (nI f)), some (.long (lN (acc ||| 2 ^ (6 * r2 + c2)))), none, some (.int (nI r2)), some (.int (nI c2)), some (.int (nI (i + 1))), none]) ⟨rfl, rfl, rfl, rfl, rfl, rfl, rfl, rfl, trivial⟩ ?_
                refine ih (i + 1) r2 c2 (acc ||| 2 ^ (6 * r2 + c2)) (by omega) (by omega) (by omega) hr2 hc2x hacc2 ?_
                rw [show f + 1 - i = (f + 1 - (i + 1)) + 1 by omega] at hO
                unfold lmk at hO
                rw [hn] at hO
                dsimp only at hO
                rw [if_pos hc6, ← Nat.or_assoc] at hO
                exact hO
              · replace hc6 : ¬ _ := fun z9 => hc6 ((nI_e0 (a := bF V b (6 * r2 + c2)) (by omega)).mpr z9)
                refine Z_run C it_Bd_line 1 (f2 := (102, [some (.ref (D.1 b)), some (.int (nI sq)), some (.int (nI d)), some (.int (nI f)), some (.long (lN (acc ||| 2 ^ (6 * r2 + c2)))), none, some (.int (nI r2)), some (.int (nI c2)), some (.int (nI i)), some (.int (nI (6 * r2 + c2)))], [.long (lN (acc ||| 2 ^ (6 * r2 + c2)))])) rfl ?_
                exact Z_lret C q.e it_Bd_line rfl (by
        rw [show f + 1 - i = (f + 1 - (i + 1)) + 1 by omega] at hO
        unfold lmk at hO
        rw [hn] at hO
        dsimp only at hO
        rw [if_neg hc6, Nat.or_zero] at hO
        exact hO) (by decide) (by decide)
            · skip
              refine Z_run C it_Bd_line 1 (f2 := (70, [some (.ref (D.1 b)), some (.int (nI sq)), some (.int (nI d)), some (.int (nI f)), some (.long (lN acc)), none, some (.int (nI r + zUP d)), some (.int (nI c + zRT d)), some (.int (nI i)), none], [.long (lN acc)])) rfl ?_
              exact Z_lret C q.e it_Bd_line rfl (by
        by_cases hz : f + 1 - i = 0
        · rw [hz] at hO; simpa [lmk] using hO
        · rw [show f + 1 - i = (f + 1 - (i + 1)) + 1 by omega] at hO
          unfold lmk at hO
          rw [show nx d r c = none by first | exact nx_o1 hr hd (Or.inl hc2) | exact nx_o1 hr hd (Or.inr hc3) | exact nx_o2 hc hd (Or.inl hc4) | exact nx_o2 hc hd (Or.inr hc5) | omega] at hO
          simpa using hO) (by decide) (by decide)
set_option maxRecDepth 20000 in
theorem ct_Bd_line {E : zE} (hE : zEv E) {l : Launch} (hl : l.stackTraces = false) {D : zD} (hD : zDok E D) (V : Nat → Nat → Int32) (P : Nat → Nat → Value) (PH : aH) (b : Nat) (hb : isB b) (hF : okF (bF V b)) (sq : Nat) (hsq : sq < 36) (d : Nat) (hd : d < 16) (f : Nat) (hf : f ≤ 5) (sz : Nat) : zM E l y_Bd_line [.code y_Bd_line c_Bd_line 10 (some .long)] rm_Bd_line [.ref (D.1 b), .int (nI sq), .int (nI d), .int (nI f)] (HM D V P PH) sz (zRet (some (.long (lN (lnm (bF V b) sq d f)))) (HM D V P PH) sz) := by
  refine zM_of hE hl (by decide +kernel) [some (.ref (D.1 b)), some (.int (nI sq)), some (.int (nI d)), some (.int (nI f)), none, none, none, none, none, none] ⟨rfl, rfl, Nat.le_of_ble_eq_true rfl⟩ ?_
  intro G C q htb
  refine Z_run C it_Bd_line 5 (f2 := (7, [some (.ref (D.1 b)), some (.int (nI sq)), some (.int (nI d)), some (.int (nI f)), some (.long (lN 0)), none, none, none, none, none], [.int (nI sq / nI 6)])) rfl ?_
  rw [nI_div (a := sq) (d := 6) (by omega) (by omega) (by omega)]
  refine Z_run C it_Bd_line 4 (f2 := (13, [some (.ref (D.1 b)), some (.int (nI sq)), some (.int (nI d)), some (.int (nI f)), some (.long (lN 0)), none, some (.int (nI (sq / 6))), none, none, none], [.int (nI sq % nI 6)])) rfl ?_
  rw [nI_mod (a := sq) (d := 6) (by omega) (by omega) (by omega)]
  refine Z_run C it_Bd_line 3 (f2 := (18, [some (.ref (D.1 b)), some (.int (nI sq)), some (.int (nI d)), some (.int (nI f)), some (.long (lN 0)), none, some (.int (nI (sq / 6))), some (.int (nI (sq % 6))), some (.int (nI 1)), none], [])) rfl ?_
  exact lp_Bd_line C q hD hb hF hsq hd hf (f + 2) 1 (sq / 6) (sq % 6) 0 (by omega) (by omega) (by omega) (by omega) (by omega) (by omega) (by rw [Nat.zero_or]; exact ⟨rfl, rfl, rfl⟩)
set_option maxRecDepth 20000 in
theorem lp_Bd_linesOfKind {E : zE} {G : zG} {O : zO} (C : zCx E G c_Bd_linesOfKind 6 y_Bd_linesOfKind.cls y_Bd_linesOfKind.name (some .long) rm_Bd_linesOfKind) (q : zEndX E G O rm_Bd_linesOfKind.cells rm_Bd_linesOfKind.slots)  {D : zD} (hD : zDok E D) {V : Nat → Nat → Int32} {P : Nat → Nat → Value} {PH : aH} {b : Nat} (hb : isB b) (hF : okF (bF V b)) {sq : Nat} (hsq : sq < 36) {c : Nat} (hc : c < 5) {sz : Nat} (hO : O (.inl (some (.long (lN (lok (bF V b) sq c))))) (HM D V P PH) sz) : ∀ (j i : Nat), ndN c - i < j → i ≤ ndN c → Z E G (HM D V P PH) sz 0 0 (9, [some (.ref (D.1 b)), some (.int (nI sq)), some (.int (nI c)), some (.long (lN (orp (fun t => lnm (bF V b) sq (fdN c + t) (faN c)) i))), none, some (.int (nI (fdN c + i)))], []) := by
  intro j
  induction j with
  | zero =>
    intro i h1 h2
    omega
  | succ j ih =>
    intro i h1 h2
    have hnd := nd_b c hc
    have hnc : ndN c = ldN c + 1 - fdN c := rfl
    refine Z_run C it_Bd_linesOfKind 1 (f2 := (11, [some (.ref (D.1 b)), some (.int (nI sq)), some (.int (nI c)), some (.long (lN (orp (fun t => lnm (bF V b) sq (fdN c + t) (faN c)) i))), none, some (.int (nI (fdN c + i)))], [.int (nI (fdN c + i))])) rfl ?_
    refine Z_gets C it_Bd_linesOfKind rfl hD.2.2.2.2.2.2.1 fl_Bd_64 ?_
    refine Z_run C it_Bd_linesOfKind 1 (f2 := (15, [some (.ref (D.1 b)), some (.int (nI sq)), some (.int (nI c)), some (.long (lN (orp (fun t => lnm (bF V b) sq (fdN c + t) (faN c)) i))), none, some (.int (nI (fdN c + i)))], [.int (nI c), .ref (D.1 50), .int (nI (fdN c + i))])) rfl ?_
    refine Zm_ald C it_Bd_linesOfKind hD 50 15 rfl (by decide) rfl (by decide) (by decide) rfl (j := c) (by omega) (v := .int (nI (ldN c))) (congrArg Value.int (ld_e (by omega))) ?_
    refine Z_br C it_Bd_linesOfKind rfl rfl (fun hc1 => ?_) (fun hc1 => ?_)
    · replace hc1 := (nI_ltI (a := ldN c) (b := fdN c + i) (by omega) (by omega)).mp hc1
      refine Z_run C it_Bd_linesOfKind 1 (f2 := (41, [some (.ref (D.1 b)), some (.int (nI sq)), some (.int (nI c)), some (.long (lN (orp (fun t => lnm (bF V b) sq (fdN c + t) (faN c)) i))), none, some (.int (nI (fdN c + i)))], [.long (lN (orp (fun t => lnm (bF V b) sq (fdN c + t) (faN c)) i))])) rfl ?_
      exact Z_lret C q.e it_Bd_linesOfKind rfl ((show i = ndN c by unfold ndN; omega) ▸ hO) (by decide) (by decide)
    · replace hc1 : ¬ _ := fun z9 => hc1 ((nI_ltI (a := ldN c) (b := fdN c + i) (by omega) (by omega)).mpr z9)
      refine Z_run C it_Bd_linesOfKind 4 (f2 := (24, [some (.ref (D.1 b)), some (.int (nI sq)), some (.int (nI c)), some (.long (lN (orp (fun t => lnm (bF V b) sq (fdN c + t) (faN c)) i))), none, some (.int (nI (fdN c + i)))], [.int (nI (fdN c + i)), .int (nI sq), .ref (D.1 b), .long (lN (orp (fun t => lnm (bF V b) sq (fdN c + t) (faN c)) i))])) rfl ?_
      refine Z_gets C it_Bd_linesOfKind rfl hD.2.2.2.2.2.2.2 fl_Bd_67 ?_
      refine Z_run C it_Bd_linesOfKind 1 (f2 := (28, [some (.ref (D.1 b)), some (.int (nI sq)), some (.int (nI c)), some (.long (lN (orp (fun t => lnm (bF V b) sq (fdN c + t) (faN c)) i))), none, some (.int (nI (fdN c + i)))], [.int (nI c), .ref (D.1 51), .int (nI (fdN c + i)), .int (nI sq), .ref (D.1 b), .long (lN (orp (fun t => lnm (bF V b) sq (fdN c + t) (faN c)) i))])) rfl ?_
      refine Zm_ald C it_Bd_linesOfKind hD 51 15 rfl (by decide) rfl (by decide) (by decide) rfl (j := c) (by omega) (v := .int (nI (faN c))) (congrArg Value.int (fa_e (by omega))) ?_
      refine Zr_callV C it_Bd_linesOfKind hD rfl p_Bd_line ml_Bd_70 b (isB_i hb) (hb.1 _ _ _) rfl [.int (nI sq), .int (nI (fdN c + i)), .int (nI (faN c))] (ct_Bd_line C.ev C.l hD _ _ _ b hb hF sq (by first | assumption | omega) (fdN c + i) (by first | assumption | omega) (faN c) (by first | assumption | omega) _) rfl rfl ⟨by decide, by decide, by decide, by decide⟩ (Nat.le_of_ble_eq_true rfl) rfl ?_
      show Z E G (HM D V P PH) sz 0 0 (32, [some (.ref (D.1 b)), some (.int (nI sq)), some (.int (nI c)), some (.long (lN (orp (fun t => lnm (bF V b) sq (fdN c + t) (faN c)) i))), none, some (.int (nI (fdN c + i)))], [.long (lN (lnm (bF V b) sq (fdN c + i) (faN c))), .long (lN (orp (fun t => lnm (bF V b) sq (fdN c + t) (faN c)) i))])
      refine Z_run C it_Bd_linesOfKind 3 (f2 := (37, [some (.ref (D.1 b)), some (.int (nI sq)), some (.int (nI c)), some (.long (lN (orp (fun t => lnm (bF V b) sq (fdN c + t) (faN c)) i) ||| lN (lnm (bF V b) sq (fdN c + i) (faN c)))), none, some (.int (nI (fdN c + i) + nI 1))], [])) rfl ?_
      rw [nI_add (fdN c + i) 1]
      refine Z_run C it_Bd_linesOfKind 1 (f2 := (9, [some (.ref (D.1 b)), some (.int (nI sq)), some (.int (nI c)), some (.long (lN (orp (fun t => lnm (bF V b) sq (fdN c + t) (faN c)) i) ||| lN (lnm (bF V b) sq (fdN c + i) (faN c)))), none, some (.int (nI (fdN c + i + 1)))], [])) rfl ?_
      have e1 : lN (orp (fun t => lnm (bF V b) sq (fdN c + t) (faN c)) i) ||| lN (lnm (bF V b) sq (fdN c + i) (faN c)) = lN (orp (fun t => lnm (bF V b) sq (fdN c + t) (faN c)) (i + 1)) := by rw [lN_or (by have := orp_lt (f := (fun t => lnm (bF V b) sq (fdN c + t) (faN c))) (n := i) (c := 36) (fun _ _ => lnm_lt _ _ _ _); omega) (by have := lnm_lt (bF V b) sq (fdN c + i) (faN c); omega)]; rfl
      rw [e1]
      have e2 : nI (fdN c + i + 1) = nI (fdN c + (i + 1)) := by rw [Nat.add_assoc]
      rw [e2]
      exact ih (i + 1) (by omega) (by omega)
set_option maxRecDepth 20000 in
theorem ct_Bd_linesOfKind {E : zE} (hE : zEv E) {l : Launch} (hl : l.stackTraces = false) {D : zD} (hD : zDok E D) (V : Nat → Nat → Int32) (P : Nat → Nat → Value) (PH : aH) (b : Nat) (hb : isB b) (hF : okF (bF V b)) (sq : Nat) (hsq : sq < 36) (c : Nat) (hc : c < 5) (sz : Nat) : zM E l y_Bd_linesOfKind [.code y_Bd_linesOfKind c_Bd_linesOfKind 6 (some .long)] rm_Bd_linesOfKind [.ref (D.1 b), .int (nI sq), .int (nI c)] (HM D V P PH) sz (zRet (some (.long (lN (lok (bF V b) sq c)))) (HM D V P PH) sz) := by
  refine zM_of hE hl (by decide +kernel) [some (.ref (D.1 b)), some (.int (nI sq)), some (.int (nI c)), none, none, none] ⟨rfl, rfl, Nat.le_of_ble_eq_true rfl⟩ ?_
  intro G C q htb
  refine Z_run C it_Bd_linesOfKind 2 (f2 := (2, [some (.ref (D.1 b)), some (.int (nI sq)), some (.int (nI c)), some (.long (lN 0)), none, none], [])) rfl ?_
  refine Z_gets C it_Bd_linesOfKind rfl hD.2.2.2.2.2.1 fl_Bd_61 ?_
  refine Z_run C it_Bd_linesOfKind 1 (f2 := (6, [some (.ref (D.1 b)), some (.int (nI sq)), some (.int (nI c)), some (.long (lN 0)), none, none], [.int (nI c), .ref (D.1 49)])) rfl ?_
  refine Zm_ald C it_Bd_linesOfKind hD 49 15 rfl (by decide) rfl (by decide) (by decide) rfl (j := c) (by omega) (v := .int (nI (fdN c))) (congrArg Value.int (fd_e (by omega))) ?_
  refine Z_run C it_Bd_linesOfKind 1 (f2 := (9, [some (.ref (D.1 b)), some (.int (nI sq)), some (.int (nI c)), some (.long (lN 0)), none, some (.int (nI (fdN c)))], [])) rfl ?_
  exact lp_Bd_linesOfKind C q hD hb hF hsq hc ⟨rfl, rfl, rfl⟩ (ndN c + 1) 0 (by omega) (by omega)
set_option maxRecDepth 20000 in
theorem lp_Bd_guardedFrom {E : zE} {G : zG} {O : zO} (C : zCx E G c_Bd_guardedFrom 5 y_Bd_guardedFrom.cls y_Bd_guardedFrom.name (some .long) rm_Bd_guardedFrom) (q : zEndX E G O rm_Bd_guardedFrom.cells rm_Bd_guardedFrom.slots)  {D : zD} (hD : zDok E D) {V : Nat → Nat → Int32} {P : Nat → Nat → Value} {PH : aH} {b : Nat} (hb : isB b) (hF : okF (bF V b)) {sq : Nat} (hsq : sq < 36) {sz : Nat} (hO : O (.inl (some (.long (lN (gfr (bF V b) sq))))) (HM D V P PH) sz) : ∀ (j i : Nat), 5 - i < j → i ≤ 5 → Z E G (HM D V P PH) sz 0 0 (5, [some (.ref (D.1 b)), some (.int (nI sq)), some (.long (lN (orp (fun i => if kn (bF V b sq) i then lok (bF V b) sq i else 0) i))), none, some (.int (nI i))], []) := by
  intro j
  induction j with
  | zero =>
    intro i h1 h2
    omega
  | succ j ih =>
    intro i h1 h2
    refine Z_run C it_Bd_guardedFrom 2 (f2 := (8, [some (.ref (D.1 b)), some (.int (nI sq)), some (.long (lN (orp (fun i => if kn (bF V b sq) i then lok (bF V b) sq i else 0) i))), none, some (.int (nI i))], [.int (nI 5), .int (nI i)])) rfl ?_
    refine Z_br C it_Bd_guardedFrom rfl rfl (fun hc1 => ?_) (fun hc1 => ?_)
    · replace hc1 := (nI_leI (a := 5) (b := i) (by omega) (by omega)).mp hc1
      refine Z_run C it_Bd_guardedFrom 1 (f2 := (42, [some (.ref (D.1 b)), some (.int (nI sq)), some (.long (lN (orp (fun i => if kn (bF V b sq) i then lok (bF V b) sq i else 0) i))), none, some (.int (nI i))], [.long (lN (orp (fun i => if kn (bF V b sq) i then lok (bF V b) sq i else 0) i))])) rfl ?_
      exact Z_lret C q.e it_Bd_guardedFrom rfl ((show i = 5 by omega) ▸ hO) (by decide) (by decide)
    · replace hc1 : ¬ _ := fun z9 => hc1 ((nI_leI (a := 5) (b := i) (by omega) (by omega)).mpr z9)
      refine Z_run C it_Bd_guardedFrom 1 (f2 := (12, [some (.ref (D.1 b)), some (.int (nI sq)), some (.long (lN (orp (fun i => if kn (bF V b sq) i then lok (bF V b) sq i else 0) i))), none, some (.int (nI i))], [.ref (D.1 b)])) rfl ?_
      refine Zm_get C it_Bd_guardedFrom hD rfl b wi_Bd (isB_i hb) (hb.1 _ _ _) rfl (j := 0) (by decide) fl_Bd_9 (v := .ref (D.1 (b + 1))) rfl ?_
      refine Z_run C it_Bd_guardedFrom 1 (f2 := (16, [some (.ref (D.1 b)), some (.int (nI sq)), some (.long (lN (orp (fun i => if kn (bF V b sq) i then lok (bF V b) sq i else 0) i))), none, some (.int (nI i))], [.int (nI sq), .ref (D.1 (b + 1))])) rfl ?_
      refine Zm_ald C it_Bd_guardedFrom hD (b + 1) 10 rfl (isB_j hb) (hb.2.1 _ _ _) (by decide) (by decide) rfl (j := sq) (by omega) (v := .int (nI (bF V b sq))) (bF_v _ _ _) ?_
      refine Z_run C it_Bd_guardedFrom 1 (f2 := (19, [some (.ref (D.1 b)), some (.int (nI sq)), some (.long (lN (orp (fun i => if kn (bF V b sq) i then lok (bF V b) sq i else 0) i))), none, some (.int (nI i))], [.int (nI i), .int (nI (bF V b sq))])) rfl ?_
      refine Zr_callS C it_Bd_guardedFrom rfl p_Pc_knows ml_Bd_45 [.int (nI (bF V b sq)), .int (nI i)] (ct_Pc_knows C.ev C.l (bF V b sq) (by first | assumption | omega | exact hF _ (by omega)) i (by omega) _ _) rfl rfl ⟨by decide, by decide, by decide, by decide⟩ (Nat.le_of_ble_eq_true rfl) rfl ?_
      show Z E G (HM D V P PH) sz 0 0 (22, [some (.ref (D.1 b)), some (.int (nI sq)), some (.long (lN (orp (fun i => if kn (bF V b sq) i then lok (bF V b) sq i else 0) i))), none, some (.int (nI i))], [.int (bI (kn (bF V b sq) i))])
      refine Z_br C it_Bd_guardedFrom rfl rfl (fun hc2 => ?_) (fun hc2 => ?_)
      · replace hc2 := bI_0.mp hc2
        refine Z_run C it_Bd_guardedFrom 1 (f2 := (38, [some (.ref (D.1 b)), some (.int (nI sq)), some (.long (lN (orp (fun i => if kn (bF V b sq) i then lok (bF V b) sq i else 0) i))), none, some (.int (nI i + nI 1))], [])) rfl ?_
        rw [nI_add i 1]
        refine Z_run C it_Bd_guardedFrom 1 (f2 := (5, [some (.ref (D.1 b)), some (.int (nI sq)), some (.long (lN (orp (fun i => if kn (bF V b sq) i then lok (bF V b) sq i else 0) i))), none, some (.int (nI (i + 1)))], [])) rfl ?_
        have e1 : lN (orp (fun i => if kn (bF V b sq) i then lok (bF V b) sq i else 0) i) = lN (orp (fun i => if kn (bF V b sq) i then lok (bF V b) sq i else 0) (i + 1)) := by simp [orp, hc2]
        rw [e1]
        exact ih (i + 1) (by omega) (by omega)
      · replace hc2 := bI_1.mp hc2
        refine Z_run C it_Bd_guardedFrom 4 (f2 := (30, [some (.ref (D.1 b)), some (.int (nI sq)), some (.long (lN (orp (fun i => if kn (bF V b sq) i then lok (bF V b) sq i else 0) i))), none, some (.int (nI i))], [.int (nI i), .int (nI sq), .ref (D.1 b), .long (lN (orp (fun i => if kn (bF V b sq) i then lok (bF V b) sq i else 0) i))])) rfl ?_
        refine Zr_callV C it_Bd_guardedFrom hD rfl p_Bd_linesOfKind ml_Bd_74 b (isB_i hb) (hb.1 _ _ _) rfl [.int (nI sq), .int (nI i)] (ct_Bd_linesOfKind C.ev C.l hD _ _ _ b hb hF sq (by first | assumption | omega) i (by first | assumption | omega) _) rfl rfl ⟨by decide, by decide, by decide, by decide⟩ (Nat.le_of_ble_eq_true rfl) rfl ?_
        show Z E G (HM D V P PH) sz 0 0 (33, [some (.ref (D.1 b)), some (.int (nI sq)), some (.long (lN (orp (fun i => if kn (bF V b sq) i then lok (bF V b) sq i else 0) i))), none, some (.int (nI i))], [.long (lN (lok (bF V b) sq i)), .long (lN (orp (fun i => if kn (bF V b sq) i then lok (bF V b) sq i else 0) i))])
        refine Z_run C it_Bd_guardedFrom 3 (f2 := (38, [some (.ref (D.1 b)), some (.int (nI sq)), some (.long (lN (orp (fun i => if kn (bF V b sq) i then lok (bF V b) sq i else 0) i) ||| lN (lok (bF V b) sq i))), none, some (.int (nI i + nI 1))], [])) rfl ?_
        rw [nI_add i 1]
        refine Z_run C it_Bd_guardedFrom 1 (f2 := (5, [some (.ref (D.1 b)), some (.int (nI sq)), some (.long (lN (orp (fun i => if kn (bF V b sq) i then lok (bF V b) sq i else 0) i) ||| lN (lok (bF V b) sq i))), none, some (.int (nI (i + 1)))], [])) rfl ?_
        have e2 : lN (orp (fun i => if kn (bF V b sq) i then lok (bF V b) sq i else 0) i) ||| lN (lok (bF V b) sq i) = lN (orp (fun i => if kn (bF V b sq) i then lok (bF V b) sq i else 0) (i + 1)) := by rw [lN_or (by have := orp_lt (f := (fun i => if kn (bF V b sq) i then lok (bF V b) sq i else 0)) (n := i) (c := 36) (fun _ _ => by split; exact lok_lt _ _ _; exact Nat.two_pow_pos 36); omega) (by have := lok_lt (bF V b) sq i; omega)]; simp [orp, hc2]
        rw [e2]
        exact ih (i + 1) (by omega) (by omega)
set_option maxRecDepth 20000 in
theorem ct_Bd_guardedFrom {E : zE} (hE : zEv E) {l : Launch} (hl : l.stackTraces = false) {D : zD} (hD : zDok E D) (V : Nat → Nat → Int32) (P : Nat → Nat → Value) (PH : aH) (b : Nat) (hb : isB b) (hF : okF (bF V b)) (sq : Nat) (hsq : sq < 36) (sz : Nat) : zM E l y_Bd_guardedFrom [.code y_Bd_guardedFrom c_Bd_guardedFrom 5 (some .long)] rm_Bd_guardedFrom [.ref (D.1 b), .int (nI sq)] (HM D V P PH) sz (zRet (some (.long (lN (gfr (bF V b) sq)))) (HM D V P PH) sz) := by
  refine zM_of hE hl (by decide +kernel) [some (.ref (D.1 b)), some (.int (nI sq)), none, none, none] ⟨rfl, rfl, Nat.le_of_ble_eq_true rfl⟩ ?_
  intro G C q htb
  refine Z_run C it_Bd_guardedFrom 4 (f2 := (5, [some (.ref (D.1 b)), some (.int (nI sq)), some (.long (lN 0)), none, some (.int (nI 0))], [])) rfl ?_
  exact lp_Bd_guardedFrom C q hD hb hF hsq ⟨rfl, rfl, rfl⟩ 6 0 (by omega) (by omega)
set_option maxRecDepth 20000 in
theorem ct_Bd_reachFrom {E : zE} (hE : zEv E) {l : Launch} (hl : l.stackTraces = false) {D : zD} (hD : zDok E D) (V : Nat → Nat → Int32) (P : Nat → Nat → Value) (PH : aH) (b : Nat) (hb : isB b) (hF : okF (bF V b)) (sq : Nat) (hsq : sq < 36) (sz : Nat) : zM E l y_Bd_reachFrom [.code y_Bd_reachFrom c_Bd_reachFrom 2 (some .long)] rm_Bd_reachFrom [.ref (D.1 b), .int (nI sq)] (HM D V P PH) sz (zRet (some (.long (lN (gfa (bF V b) sq (sd (bF V b sq)))))) (HM D V P PH) sz) := by
  refine zM_of hE hl (by decide +kernel) [some (.ref (D.1 b)), some (.int (nI sq))] ⟨rfl, rfl, Nat.le_of_ble_eq_true rfl⟩ ?_
  intro G C q htb
  have hsd := sd_le (bF V b sq)
  refine Z_run C it_Bd_reachFrom 2 (f2 := (2, [some (.ref (D.1 b)), some (.int (nI sq))], [.int (nI sq), .ref (D.1 b)])) rfl ?_
  refine Zr_callV C it_Bd_reachFrom hD rfl p_Bd_guardedFrom ml_Bd_78 b (isB_i hb) (hb.1 _ _ _) rfl [.int (nI sq)] (ct_Bd_guardedFrom C.ev C.l hD _ _ _ b hb hF sq (by first | assumption | omega) _) rfl rfl ⟨by decide, by decide, by decide, by decide⟩ (Nat.le_of_ble_eq_true rfl) rfl ?_
  show Z E G (HM D V P PH) sz 0 0 (5, [some (.ref (D.1 b)), some (.int (nI sq))], [.long (lN (gfr (bF V b) sq))])
  refine Z_run C it_Bd_reachFrom 2 (f2 := (7, [some (.ref (D.1 b)), some (.int (nI sq))], [.ref (D.1 b), .ref (D.1 b), .long (lN (gfr (bF V b) sq))])) rfl ?_
  refine Zm_get C it_Bd_reachFrom hD rfl b wi_Bd (isB_i hb) (hb.1 _ _ _) rfl (j := 0) (by decide) fl_Bd_9 (v := .ref (D.1 (b + 1))) rfl ?_
  refine Z_run C it_Bd_reachFrom 1 (f2 := (11, [some (.ref (D.1 b)), some (.int (nI sq))], [.int (nI sq), .ref (D.1 (b + 1)), .ref (D.1 b), .long (lN (gfr (bF V b) sq))])) rfl ?_
  refine Zm_ald C it_Bd_reachFrom hD (b + 1) 10 rfl (isB_j hb) (hb.2.1 _ _ _) (by decide) (by decide) rfl (j := sq) (by omega) (v := .int (nI (bF V b sq))) (bF_v _ _ _) ?_
  refine Zr_callS C it_Bd_reachFrom rfl p_Pc_sideOf ml_Bd_27 [.int (nI (bF V b sq))] (ct_Pc_sideOf C.ev C.l (bF V b sq) (by first | assumption | omega | exact hF _ (by omega)) _ _) rfl rfl ⟨by decide, by decide, by decide, by decide⟩ (Nat.le_of_ble_eq_true rfl) rfl ?_
  show Z E G (HM D V P PH) sz 0 0 (15, [some (.ref (D.1 b)), some (.int (nI sq))], [.int (nI (sd (bF V b sq))), .ref (D.1 b), .long (lN (gfr (bF V b) sq))])
  refine Zr_callV C it_Bd_reachFrom hD rfl p_Bd_squaresOf ml_Bd_35 b (isB_i hb) (hb.1 _ _ _) rfl [.int (nI (sd (bF V b sq)))] (ct_Bd_squaresOf C.ev C.l hD _ _ _ b hb hF (sd (bF V b sq)) (by first | assumption | omega) _) rfl rfl ⟨by decide, by decide, by decide, by decide⟩ (Nat.le_of_ble_eq_true rfl) rfl ?_
  show Z E G (HM D V P PH) sz 0 0 (18, [some (.ref (D.1 b)), some (.int (nI sq))], [.long (lN (sqs (bF V b) (sd (bF V b sq)))), .long (lN (gfr (bF V b) sq))])
  refine Z_ldc2 C it_Bd_reachFrom rfl cl_Bd_81 ?_
  refine Z_run C it_Bd_reachFrom 2 (f2 := (23, [some (.ref (D.1 b)), some (.int (nI sq))], [.long (lN (gfr (bF V b) sq) &&& (lN (sqs (bF V b) (sd (bF V b sq))) ^^^ (-1)))])) rfl ?_
  have e1 : lN (gfr (bF V b) sq) &&& (lN (sqs (bF V b) (sd (bF V b sq))) ^^^ (-1)) = lN (gfa (bF V b) sq (sd (bF V b sq))) := lN_not (gfr_lt _ _) (sqs_lt _ _)
  rw [e1]
  exact Z_lret C q.e it_Bd_reachFrom rfl (zRet_l rfl) (by decide) (by decide)
set_option maxRecDepth 20000 in
theorem ct_Bd_countOf {E : zE} (hE : zEv E) {l : Launch} (hl : l.stackTraces = false) {D : zD} (hD : zDok E D) (V : Nat → Nat → Int32) (P : Nat → Nat → Value) (PH : aH) (b : Nat) (hb : isB b) (hF : okF (bF V b)) (s : Nat) (hs : s < 2) (sz : Nat) : zM E l y_Bd_countOf [.code y_Bd_countOf c_Bd_countOf 2 (some .int)] rm_Bd_countOf [.ref (D.1 b), .int (nI s)] (HM D V P PH) sz (zRet (some (.int (nI (popc (sqs (bF V b) s))))) (HM D V P PH) sz) := by
  refine zM_of hE hl (by decide +kernel) [some (.ref (D.1 b)), some (.int (nI s))] ⟨rfl, rfl, Nat.le_of_ble_eq_true rfl⟩ ?_
  intro G C q htb
  refine Z_run C it_Bd_countOf 2 (f2 := (2, [some (.ref (D.1 b)), some (.int (nI s))], [.int (nI s), .ref (D.1 b)])) rfl ?_
  refine Zr_callV C it_Bd_countOf hD rfl p_Bd_squaresOf ml_Bd_35 b (isB_i hb) (hb.1 _ _ _) rfl [.int (nI s)] (ct_Bd_squaresOf C.ev C.l hD _ _ _ b hb hF s (by first | assumption | omega) _) rfl rfl ⟨by decide, by decide, by decide, by decide⟩ (Nat.le_of_ble_eq_true rfl) rfl ?_
  show Z E G (HM D V P PH) sz 0 0 (5, [some (.ref (D.1 b)), some (.int (nI s))], [.long (lN (sqs (bF V b) s))])
  refine Zr_callS C it_Bd_countOf rfl p_Jl_bitCount ml_Bd_39 [.long (lN (sqs (bF V b) s))] (ct_Jl_bitCount C.ev C.l ((sqs (bF V b) s)) (by first | assumption | exact sqs_lt _ _ | exact knw_lt _ _ _ | exact gfa_lt _ _ _ | exact gsf_lt _ _ _) _ _) rfl rfl ⟨by decide, by decide, by decide, by decide⟩ (Nat.le_of_ble_eq_true rfl) rfl ?_
  show Z E G (HM D V P PH) sz 0 0 (8, [some (.ref (D.1 b)), some (.int (nI s))], [.int (nI (popc ((sqs (bF V b) s))))])
  exact Z_iret C q.e it_Bd_countOf rfl (zRet_i rfl) (by decide) (by decide)
set_option maxRecDepth 20000 in
theorem lp_Bd_movesOf {E : zE} {G : zG} {O : zO} (C : zCx E G c_Bd_movesOf 6 y_Bd_movesOf.cls y_Bd_movesOf.name (some .int) rm_Bd_movesOf) (q : zEndX E G O rm_Bd_movesOf.cells rm_Bd_movesOf.slots)  {D : zD} (hD : zDok E D) {V : Nat → Nat → Int32} {P : Nat → Nat → Value} {PH : aH} {b : Nat} (hb : isB b) (hF : okF (bF V b)) {s : Nat} (hs : s < 2) {sz : Nat} (hO : O (.inl (some (.int (nI (mvs (bF V b) s 36))))) (HM D V P PH) sz) : ∀ (j i : Nat), 36 - i < j → i ≤ 36 → Z E G (HM D V P PH) sz 0 0 (11, [some (.ref (D.1 b)), some (.int (nI s)), some (.int (nI (mvs (bF V b) s i))), some (.long (lN (sqs (bF V b) s))), none, some (.int (nI i))], []) := by
  intro j
  induction j with
  | zero =>
    intro i h1 h2
    omega
  | succ j ih =>
    intro i h1 h2
    have hsd := fun k => sd_le (bF V b k)
    refine Z_run C it_Bd_movesOf 2 (f2 := (15, [some (.ref (D.1 b)), some (.int (nI s)), some (.int (nI (mvs (bF V b) s i))), some (.long (lN (sqs (bF V b) s))), none, some (.int (nI i))], [.int (nI 36), .int (nI i)])) rfl ?_
    refine Z_br C it_Bd_movesOf rfl rfl (fun hc1 => ?_) (fun hc1 => ?_)
    · replace hc1 := (nI_leI (a := 36) (b := i) (by omega) (by omega)).mp hc1
      refine Z_run C it_Bd_movesOf 1 (f2 := (53, [some (.ref (D.1 b)), some (.int (nI s)), some (.int (nI (mvs (bF V b) s i))), some (.long (lN (sqs (bF V b) s))), none, some (.int (nI i))], [.int (nI (mvs (bF V b) s i))])) rfl ?_
      exact Z_iret C q.e it_Bd_movesOf rfl ((show i = 36 by omega) ▸ hO) (by decide) (by decide)
    · replace hc1 : ¬ _ := fun z9 => hc1 ((nI_leI (a := 36) (b := i) (by omega) (by omega)).mpr z9)
      refine Z_run C it_Bd_movesOf 3 (f2 := (22, [some (.ref (D.1 b)), some (.int (nI s)), some (.int (nI (mvs (bF V b) s i))), some (.long (lN (sqs (bF V b) s))), none, some (.int (nI i))], [.int (nI s), .int (nI i), .ref (D.1 b)])) rfl ?_
      refine Zr_callV C it_Bd_movesOf hD rfl p_Bd_holds ml_Bd_31 b (isB_i hb) (hb.1 _ _ _) rfl [.int (nI i), .int (nI s)] (ct_Bd_holds C.ev C.l hD _ _ _ b hb hF i (by first | assumption | omega) s (by first | assumption | omega) _) rfl rfl ⟨by decide, by decide, by decide, by decide⟩ (Nat.le_of_ble_eq_true rfl) rfl ?_
      show Z E G (HM D V P PH) sz 0 0 (25, [some (.ref (D.1 b)), some (.int (nI s)), some (.int (nI (mvs (bF V b) s i))), some (.long (lN (sqs (bF V b) s))), none, some (.int (nI i))], [.int (bI (hld (bF V b) i s))])
      refine Z_br C it_Bd_movesOf rfl rfl (fun hc2 => ?_) (fun hc2 => ?_)
      · replace hc2 := bI_0.mp hc2
        refine Z_run C it_Bd_movesOf 1 (f2 := (49, [some (.ref (D.1 b)), some (.int (nI s)), some (.int (nI (mvs (bF V b) s i))), some (.long (lN (sqs (bF V b) s))), none, some (.int (nI i + nI 1))], [])) rfl ?_
        rw [nI_add i 1]
        refine Z_run C it_Bd_movesOf 1 (f2 := (11, [some (.ref (D.1 b)), some (.int (nI s)), some (.int (nI (mvs (bF V b) s i))), some (.long (lN (sqs (bF V b) s))), none, some (.int (nI (i + 1)))], [])) rfl ?_
        have e1 : nI (mvs (bF V b) s i) = nI (mvs (bF V b) s (i + 1)) := by simp [mvs, smp, hc2]
        rw [e1]
        exact ih (i + 1) (by omega) (by omega)
      · replace hc2 := bI_1.mp hc2
        refine Z_run C it_Bd_movesOf 3 (f2 := (32, [some (.ref (D.1 b)), some (.int (nI s)), some (.int (nI (mvs (bF V b) s i))), some (.long (lN (sqs (bF V b) s))), none, some (.int (nI i))], [.int (nI i), .ref (D.1 b), .int (nI (mvs (bF V b) s i))])) rfl ?_
        refine Zr_callV C it_Bd_movesOf hD rfl p_Bd_guardedFrom ml_Bd_78 b (isB_i hb) (hb.1 _ _ _) rfl [.int (nI i)] (ct_Bd_guardedFrom C.ev C.l hD _ _ _ b hb hF i (by first | assumption | omega) _) rfl rfl ⟨by decide, by decide, by decide, by decide⟩ (Nat.le_of_ble_eq_true rfl) rfl ?_
        show Z E G (HM D V P PH) sz 0 0 (35, [some (.ref (D.1 b)), some (.int (nI s)), some (.int (nI (mvs (bF V b) s i))), some (.long (lN (sqs (bF V b) s))), none, some (.int (nI i))], [.long (lN (gfr (bF V b) i)), .int (nI (mvs (bF V b) s i))])
        refine Z_run C it_Bd_movesOf 1 (f2 := (36, [some (.ref (D.1 b)), some (.int (nI s)), some (.int (nI (mvs (bF V b) s i))), some (.long (lN (sqs (bF V b) s))), none, some (.int (nI i))], [.long (lN (sqs (bF V b) s)), .long (lN (gfr (bF V b) i)), .int (nI (mvs (bF V b) s i))])) rfl ?_
        refine Z_ldc2 C it_Bd_movesOf rfl cl_Bd_81 ?_
        refine Z_run C it_Bd_movesOf 2 (f2 := (41, [some (.ref (D.1 b)), some (.int (nI s)), some (.int (nI (mvs (bF V b) s i))), some (.long (lN (sqs (bF V b) s))), none, some (.int (nI i))], [.long (lN (gfr (bF V b) i) &&& (lN (sqs (bF V b) s) ^^^ (-1))), .int (nI (mvs (bF V b) s i))])) rfl ?_
        have e2 : lN (gfr (bF V b) i) &&& (lN (sqs (bF V b) s) ^^^ (-1)) = lN (gfa (bF V b) i s) := lN_not (gfr_lt _ _) (sqs_lt _ _)
        rw [e2]
        refine Zr_callS C it_Bd_movesOf rfl p_Jl_bitCount ml_Bd_39 [.long (lN (gfa (bF V b) i s))] (ct_Jl_bitCount C.ev C.l ((gfa (bF V b) i s)) (by first | assumption | exact sqs_lt _ _ | exact knw_lt _ _ _ | exact gfa_lt _ _ _ | exact gsf_lt _ _ _) _ _) rfl rfl ⟨by decide, by decide, by decide, by decide⟩ (Nat.le_of_ble_eq_true rfl) rfl ?_
        show Z E G (HM D V P PH) sz 0 0 (44, [some (.ref (D.1 b)), some (.int (nI s)), some (.int (nI (mvs (bF V b) s i))), some (.long (lN (sqs (bF V b) s))), none, some (.int (nI i))], [.int (nI (popc ((gfa (bF V b) i s)))), .int (nI (mvs (bF V b) s i))])
        refine Z_run C it_Bd_movesOf 1 (f2 := (45, [some (.ref (D.1 b)), some (.int (nI s)), some (.int (nI (mvs (bF V b) s i))), some (.long (lN (sqs (bF V b) s))), none, some (.int (nI i))], [.int (nI (mvs (bF V b) s i) + nI (popc ((gfa (bF V b) i s))))])) rfl ?_
        rw [nI_add (mvs (bF V b) s i) (popc ((gfa (bF V b) i s)))]
        refine Z_run C it_Bd_movesOf 2 (f2 := (49, [some (.ref (D.1 b)), some (.int (nI s)), some (.int (nI (mvs (bF V b) s i + popc ((gfa (bF V b) i s))))), some (.long (lN (sqs (bF V b) s))), none, some (.int (nI i + nI 1))], [])) rfl ?_
        rw [nI_add i 1]
        refine Z_run C it_Bd_movesOf 1 (f2 := (11, [some (.ref (D.1 b)), some (.int (nI s)), some (.int (nI (mvs (bF V b) s i + popc ((gfa (bF V b) i s))))), some (.long (lN (sqs (bF V b) s))), none, some (.int (nI (i + 1)))], [])) rfl ?_
        have e3 : nI (mvs (bF V b) s i + popc ((gfa (bF V b) i s))) = nI (mvs (bF V b) s (i + 1)) := by simp [mvs, smp, hc2]
        rw [e3]
        exact ih (i + 1) (by omega) (by omega)
set_option maxRecDepth 20000 in
theorem ct_Bd_movesOf {E : zE} (hE : zEv E) {l : Launch} (hl : l.stackTraces = false) {D : zD} (hD : zDok E D) (V : Nat → Nat → Int32) (P : Nat → Nat → Value) (PH : aH) (b : Nat) (hb : isB b) (hF : okF (bF V b)) (s : Nat) (hs : s < 2) (sz : Nat) : zM E l y_Bd_movesOf [.code y_Bd_movesOf c_Bd_movesOf 6 (some .int)] rm_Bd_movesOf [.ref (D.1 b), .int (nI s)] (HM D V P PH) sz (zRet (some (.int (nI (mvs (bF V b) s 36)))) (HM D V P PH) sz) := by
  refine zM_of hE hl (by decide +kernel) [some (.ref (D.1 b)), some (.int (nI s)), none, none, none, none] ⟨rfl, rfl, Nat.le_of_ble_eq_true rfl⟩ ?_
  intro G C q htb
  refine Z_run C it_Bd_movesOf 4 (f2 := (4, [some (.ref (D.1 b)), some (.int (nI s)), some (.int (nI 0)), none, none, none], [.int (nI s), .ref (D.1 b)])) rfl ?_
  refine Zr_callV C it_Bd_movesOf hD rfl p_Bd_squaresOf ml_Bd_35 b (isB_i hb) (hb.1 _ _ _) rfl [.int (nI s)] (ct_Bd_squaresOf C.ev C.l hD _ _ _ b hb hF s (by first | assumption | omega) _) rfl rfl ⟨by decide, by decide, by decide, by decide⟩ (Nat.le_of_ble_eq_true rfl) rfl ?_
  show Z E G (HM D V P PH) sz 0 0 (7, [some (.ref (D.1 b)), some (.int (nI s)), some (.int (nI 0)), none, none, none], [.long (lN (sqs (bF V b) s))])
  refine Z_run C it_Bd_movesOf 3 (f2 := (11, [some (.ref (D.1 b)), some (.int (nI s)), some (.int (nI 0)), some (.long (lN (sqs (bF V b) s))), none, some (.int (nI 0))], [])) rfl ?_
  exact lp_Bd_movesOf C q hD hb hF hs ⟨rfl, rfl, rfl⟩ 37 0 (by omega) (by omega)
set_option maxRecDepth 20000 in
theorem lp_Bd_guardedBy {E : zE} {G : zG} {O : zO} (C : zCx E G c_Bd_guardedBy 5 y_Bd_guardedBy.cls y_Bd_guardedBy.name (some .long) rm_Bd_guardedBy) (q : zEndX E G O rm_Bd_guardedBy.cells rm_Bd_guardedBy.slots)  {D : zD} (hD : zDok E D) {V : Nat → Nat → Int32} {P : Nat → Nat → Value} {PH : aH} {b : Nat} (hb : isB b) (hF : okF (bF V b)) {s : Nat} (hs : s < 2) {sz : Nat} (hO : O (.inl (some (.long (lN (gby (bF V b) s 36))))) (HM D V P PH) sz) : ∀ (j i : Nat), 36 - i < j → i ≤ 36 → Z E G (HM D V P PH) sz 0 0 (5, [some (.ref (D.1 b)), some (.int (nI s)), some (.long (lN (gby (bF V b) s i))), none, some (.int (nI i))], []) := by
  intro j
  induction j with
  | zero =>
    intro i h1 h2
    omega
  | succ j ih =>
    intro i h1 h2
    have hsd := fun k => sd_le (bF V b k)
    refine Z_run C it_Bd_guardedBy 2 (f2 := (9, [some (.ref (D.1 b)), some (.int (nI s)), some (.long (lN (gby (bF V b) s i))), none, some (.int (nI i))], [.int (nI 36), .int (nI i)])) rfl ?_
    refine Z_br C it_Bd_guardedBy rfl rfl (fun hc1 => ?_) (fun hc1 => ?_)
    · replace hc1 := (nI_leI (a := 36) (b := i) (by omega) (by omega)).mp hc1
      refine Z_run C it_Bd_guardedBy 1 (f2 := (38, [some (.ref (D.1 b)), some (.int (nI s)), some (.long (lN (gby (bF V b) s i))), none, some (.int (nI i))], [.long (lN (gby (bF V b) s i))])) rfl ?_
      exact Z_lret C q.e it_Bd_guardedBy rfl ((show i = 36 by omega) ▸ hO) (by decide) (by decide)
    · replace hc1 : ¬ _ := fun z9 => hc1 ((nI_leI (a := 36) (b := i) (by omega) (by omega)).mpr z9)
      refine Z_run C it_Bd_guardedBy 3 (f2 := (16, [some (.ref (D.1 b)), some (.int (nI s)), some (.long (lN (gby (bF V b) s i))), none, some (.int (nI i))], [.int (nI s), .int (nI i), .ref (D.1 b)])) rfl ?_
      refine Zr_callV C it_Bd_guardedBy hD rfl p_Bd_holds ml_Bd_31 b (isB_i hb) (hb.1 _ _ _) rfl [.int (nI i), .int (nI s)] (ct_Bd_holds C.ev C.l hD _ _ _ b hb hF i (by first | assumption | omega) s (by first | assumption | omega) _) rfl rfl ⟨by decide, by decide, by decide, by decide⟩ (Nat.le_of_ble_eq_true rfl) rfl ?_
      show Z E G (HM D V P PH) sz 0 0 (19, [some (.ref (D.1 b)), some (.int (nI s)), some (.long (lN (gby (bF V b) s i))), none, some (.int (nI i))], [.int (bI (hld (bF V b) i s))])
      refine Z_br C it_Bd_guardedBy rfl rfl (fun hc2 => ?_) (fun hc2 => ?_)
      · replace hc2 := bI_0.mp hc2
        refine Z_run C it_Bd_guardedBy 1 (f2 := (34, [some (.ref (D.1 b)), some (.int (nI s)), some (.long (lN (gby (bF V b) s i))), none, some (.int (nI i + nI 1))], [])) rfl ?_
        rw [nI_add i 1]
        refine Z_run C it_Bd_guardedBy 1 (f2 := (5, [some (.ref (D.1 b)), some (.int (nI s)), some (.long (lN (gby (bF V b) s i))), none, some (.int (nI (i + 1)))], [])) rfl ?_
        have e1 : lN (gby (bF V b) s i) = lN (gby (bF V b) s (i + 1)) := by simp [gby, orp, hc2]
        rw [e1]
        exact ih (i + 1) (by omega) (by omega)
      · replace hc2 := bI_1.mp hc2
        refine Z_run C it_Bd_guardedBy 3 (f2 := (26, [some (.ref (D.1 b)), some (.int (nI s)), some (.long (lN (gby (bF V b) s i))), none, some (.int (nI i))], [.int (nI i), .ref (D.1 b), .long (lN (gby (bF V b) s i))])) rfl ?_
        refine Zr_callV C it_Bd_guardedBy hD rfl p_Bd_guardedFrom ml_Bd_78 b (isB_i hb) (hb.1 _ _ _) rfl [.int (nI i)] (ct_Bd_guardedFrom C.ev C.l hD _ _ _ b hb hF i (by first | assumption | omega) _) rfl rfl ⟨by decide, by decide, by decide, by decide⟩ (Nat.le_of_ble_eq_true rfl) rfl ?_
        show Z E G (HM D V P PH) sz 0 0 (29, [some (.ref (D.1 b)), some (.int (nI s)), some (.long (lN (gby (bF V b) s i))), none, some (.int (nI i))], [.long (lN (gfr (bF V b) i)), .long (lN (gby (bF V b) s i))])
        refine Z_run C it_Bd_guardedBy 3 (f2 := (34, [some (.ref (D.1 b)), some (.int (nI s)), some (.long (lN (gby (bF V b) s i) ||| lN (gfr (bF V b) i))), none, some (.int (nI i + nI 1))], [])) rfl ?_
        rw [nI_add i 1]
        refine Z_run C it_Bd_guardedBy 1 (f2 := (5, [some (.ref (D.1 b)), some (.int (nI s)), some (.long (lN (gby (bF V b) s i) ||| lN (gfr (bF V b) i))), none, some (.int (nI (i + 1)))], [])) rfl ?_
        have e2 : lN (gby (bF V b) s i) ||| lN (gfr (bF V b) i) = lN (gby (bF V b) s (i + 1)) := by rw [lN_or (by have := gby_lt (bF V b) s i; omega) (by have := gfr_lt (bF V b) i; omega)]; simp [gby, orp, hc2]
        rw [e2]
        exact ih (i + 1) (by omega) (by omega)
set_option maxRecDepth 20000 in
theorem ct_Bd_guardedBy {E : zE} (hE : zEv E) {l : Launch} (hl : l.stackTraces = false) {D : zD} (hD : zDok E D) (V : Nat → Nat → Int32) (P : Nat → Nat → Value) (PH : aH) (b : Nat) (hb : isB b) (hF : okF (bF V b)) (s : Nat) (hs : s < 2) (sz : Nat) : zM E l y_Bd_guardedBy [.code y_Bd_guardedBy c_Bd_guardedBy 5 (some .long)] rm_Bd_guardedBy [.ref (D.1 b), .int (nI s)] (HM D V P PH) sz (zRet (some (.long (lN (gby (bF V b) s 36)))) (HM D V P PH) sz) := by
  refine zM_of hE hl (by decide +kernel) [some (.ref (D.1 b)), some (.int (nI s)), none, none, none] ⟨rfl, rfl, Nat.le_of_ble_eq_true rfl⟩ ?_
  intro G C q htb
  refine Z_run C it_Bd_guardedBy 4 (f2 := (5, [some (.ref (D.1 b)), some (.int (nI s)), some (.long (lN 0)), none, some (.int (nI 0))], [])) rfl ?_
  exact lp_Bd_guardedBy C q hD hb hF hs ⟨rfl, rfl, rfl⟩ 37 0 (by omega) (by omega)
set_option maxRecDepth 20000 in
theorem lp_Bd_countGuardsAlong {E : zE} {G : zG} {O : zO} (C : zCx E G c_Bd_countGuardsAlong 5 y_Bd_countGuardsAlong.cls y_Bd_countGuardsAlong.name (some .int) rm_Bd_countGuardsAlong) (q : zEndX E G O rm_Bd_countGuardsAlong.cells rm_Bd_countGuardsAlong.slots)  {D : zD} (hD : zDok E D) {V : Nat → Nat → Int32} {P : Nat → Nat → Value} {PH : aH} {b : Nat} (hb : isB b) (hF : okF (bF V b)) {s : Nat} (hs : s < 2) {t : Nat} (ht : t < 36) {sz : Nat} (hO : O (.inl (some (.int (nI (cga (bF V b) s t 36))))) (HM D V P PH) sz) : ∀ (j i : Nat), 36 - i < j → i ≤ 36 → Z E G (HM D V P PH) sz 0 0 (5, [some (.ref (D.1 b)), some (.int (nI s)), some (.int (nI t)), some (.int (nI (cga (bF V b) s t i))), some (.int (nI i))], []) := by
  intro j
  induction j with
  | zero =>
    intro i h1 h2
    omega
  | succ j ih =>
    intro i h1 h2
    have hsd := fun k => sd_le (bF V b k)
    refine Z_run C it_Bd_countGuardsAlong 2 (f2 := (9, [some (.ref (D.1 b)), some (.int (nI s)), some (.int (nI t)), some (.int (nI (cga (bF V b) s t i))), some (.int (nI i))], [.int (nI 36), .int (nI i)])) rfl ?_
    refine Z_br C it_Bd_countGuardsAlong rfl rfl (fun hc1 => ?_) (fun hc1 => ?_)
    · replace hc1 := (nI_leI (a := 36) (b := i) (by omega) (by omega)).mp hc1
      refine Z_run C it_Bd_countGuardsAlong 1 (f2 := (47, [some (.ref (D.1 b)), some (.int (nI s)), some (.int (nI t)), some (.int (nI (cga (bF V b) s t i))), some (.int (nI i))], [.int (nI (cga (bF V b) s t i))])) rfl ?_
      exact Z_iret C q.e it_Bd_countGuardsAlong rfl ((show i = 36 by omega) ▸ hO) (by decide) (by decide)
    · replace hc1 : ¬ _ := fun z9 => hc1 ((nI_leI (a := 36) (b := i) (by omega) (by omega)).mpr z9)
      refine Z_run C it_Bd_countGuardsAlong 3 (f2 := (16, [some (.ref (D.1 b)), some (.int (nI s)), some (.int (nI t)), some (.int (nI (cga (bF V b) s t i))), some (.int (nI i))], [.int (nI s), .int (nI i), .ref (D.1 b)])) rfl ?_
      refine Zr_callV C it_Bd_countGuardsAlong hD rfl p_Bd_holds ml_Bd_31 b (isB_i hb) (hb.1 _ _ _) rfl [.int (nI i), .int (nI s)] (ct_Bd_holds C.ev C.l hD _ _ _ b hb hF i (by first | assumption | omega) s (by first | assumption | omega) _) rfl rfl ⟨by decide, by decide, by decide, by decide⟩ (Nat.le_of_ble_eq_true rfl) rfl ?_
      show Z E G (HM D V P PH) sz 0 0 (19, [some (.ref (D.1 b)), some (.int (nI s)), some (.int (nI t)), some (.int (nI (cga (bF V b) s t i))), some (.int (nI i))], [.int (bI (hld (bF V b) i s))])
      refine Z_br C it_Bd_countGuardsAlong rfl rfl (fun hc2 => ?_) (fun hc2 => ?_)
      · replace hc2 := bI_0.mp hc2
        refine Z_run C it_Bd_countGuardsAlong 1 (f2 := (43, [some (.ref (D.1 b)), some (.int (nI s)), some (.int (nI t)), some (.int (nI (cga (bF V b) s t i))), some (.int (nI i + nI 1))], [])) rfl ?_
        rw [nI_add i 1]
        refine Z_run C it_Bd_countGuardsAlong 1 (f2 := (5, [some (.ref (D.1 b)), some (.int (nI s)), some (.int (nI t)), some (.int (nI (cga (bF V b) s t i))), some (.int (nI (i + 1)))], [])) rfl ?_
        have e1 : nI (cga (bF V b) s t i) = nI (cga (bF V b) s t (i + 1)) := by first | simp [cga, cnt, smp, hc2, hc3] | simp [cga, cnt, smp, hc2]
        rw [e1]
        exact ih (i + 1) (by omega) (by omega)
      · replace hc2 := bI_1.mp hc2
        refine Z_run C it_Bd_countGuardsAlong 2 (f2 := (25, [some (.ref (D.1 b)), some (.int (nI s)), some (.int (nI t)), some (.int (nI (cga (bF V b) s t i))), some (.int (nI i))], [.int (nI i), .ref (D.1 b)])) rfl ?_
        refine Zr_callV C it_Bd_countGuardsAlong hD rfl p_Bd_guardedFrom ml_Bd_78 b (isB_i hb) (hb.1 _ _ _) rfl [.int (nI i)] (ct_Bd_guardedFrom C.ev C.l hD _ _ _ b hb hF i (by first | assumption | omega) _) rfl rfl ⟨by decide, by decide, by decide, by decide⟩ (Nat.le_of_ble_eq_true rfl) rfl ?_
        show Z E G (HM D V P PH) sz 0 0 (28, [some (.ref (D.1 b)), some (.int (nI s)), some (.int (nI t)), some (.int (nI (cga (bF V b) s t i))), some (.int (nI i))], [.long (lN (gfr (bF V b) i))])
        refine Z_run C it_Bd_countGuardsAlong 6 (f2 := (34, [some (.ref (D.1 b)), some (.int (nI s)), some (.int (nI t)), some (.int (nI (cga (bF V b) s t i))), some (.int (nI i))], [.int (lg_cmp ((lN (gfr (bF V b) i) >>> ((nI t).toInt64 &&& 63)) &&& lN 1) (lN 0))])) rfl ?_
        have e2 : lg_cmp ((lN (gfr (bF V b) i) >>> ((nI t).toInt64 &&& 63)) &&& lN 1) (lN 0) = bI ((gfr (bF V b) i).testBit t) := lN_bit (by have := gfr_lt (bF V b) i; omega) (by omega)
        rw [e2]
        refine Z_br C it_Bd_countGuardsAlong rfl rfl (fun hc3 => ?_) (fun hc3 => ?_)
        · replace hc3 := bI_0.mp hc3
          refine Z_run C it_Bd_countGuardsAlong 1 (f2 := (43, [some (.ref (D.1 b)), some (.int (nI s)), some (.int (nI t)), some (.int (nI (cga (bF V b) s t i))), some (.int (nI i + nI 1))], [])) rfl ?_
          rw [nI_add i 1]
          refine Z_run C it_Bd_countGuardsAlong 1 (f2 := (5, [some (.ref (D.1 b)), some (.int (nI s)), some (.int (nI t)), some (.int (nI (cga (bF V b) s t i))), some (.int (nI (i + 1)))], [])) rfl ?_
          have e3 : nI (cga (bF V b) s t i) = nI (cga (bF V b) s t (i + 1)) := by first | simp [cga, cnt, smp, hc2, hc3] | simp [cga, cnt, smp, hc2]
          rw [e3]
          exact ih (i + 1) (by omega) (by omega)
        · replace hc3 := bI_1.mp hc3
          refine Z_run C it_Bd_countGuardsAlong 1 (f2 := (40, [some (.ref (D.1 b)), some (.int (nI s)), some (.int (nI t)), some (.int (nI (cga (bF V b) s t i) + nI 1)), some (.int (nI i))], [])) rfl ?_
          rw [nI_add (cga (bF V b) s t i) 1]
          refine Z_run C it_Bd_countGuardsAlong 1 (f2 := (43, [some (.ref (D.1 b)), some (.int (nI s)), some (.int (nI t)), some (.int (nI (cga (bF V b) s t i + 1))), some (.int (nI i + nI 1))], [])) rfl ?_
          rw [nI_add i 1]
          refine Z_run C it_Bd_countGuardsAlong 1 (f2 := (5, [some (.ref (D.1 b)), some (.int (nI s)), some (.int (nI t)), some (.int (nI (cga (bF V b) s t i + 1))), some (.int (nI (i + 1)))], [])) rfl ?_
          have e4 : nI (cga (bF V b) s t i + 1) = nI (cga (bF V b) s t (i + 1)) := by simp [cga, cnt, smp, hc2, hc3]
          rw [e4]
          exact ih (i + 1) (by omega) (by omega)
set_option maxRecDepth 20000 in
theorem ct_Bd_countGuardsAlong {E : zE} (hE : zEv E) {l : Launch} (hl : l.stackTraces = false) {D : zD} (hD : zDok E D) (V : Nat → Nat → Int32) (P : Nat → Nat → Value) (PH : aH) (b : Nat) (hb : isB b) (hF : okF (bF V b)) (s : Nat) (hs : s < 2) (t : Nat) (ht : t < 36) (sz : Nat) : zM E l y_Bd_countGuardsAlong [.code y_Bd_countGuardsAlong c_Bd_countGuardsAlong 5 (some .int)] rm_Bd_countGuardsAlong [.ref (D.1 b), .int (nI s), .int (nI t)] (HM D V P PH) sz (zRet (some (.int (nI (cga (bF V b) s t 36)))) (HM D V P PH) sz) := by
  refine zM_of hE hl (by decide +kernel) [some (.ref (D.1 b)), some (.int (nI s)), some (.int (nI t)), none, none] ⟨rfl, rfl, Nat.le_of_ble_eq_true rfl⟩ ?_
  intro G C q htb
  refine Z_run C it_Bd_countGuardsAlong 4 (f2 := (5, [some (.ref (D.1 b)), some (.int (nI s)), some (.int (nI t)), some (.int (nI 0)), some (.int (nI 0))], [])) rfl ?_
  exact lp_Bd_countGuardsAlong C q hD hb hF hs ht ⟨rfl, rfl, rfl⟩ 37 0 (by omega) (by omega)
set_option maxRecDepth 20000 in
theorem lp_Bd_guardsSeenFrom {E : zE} {G : zG} {O : zO} (C : zCx E G c_Bd_guardsSeenFrom 6 y_Bd_guardsSeenFrom.cls y_Bd_guardsSeenFrom.name (some .long) rm_Bd_guardsSeenFrom) (q : zEndX E G O rm_Bd_guardsSeenFrom.cells rm_Bd_guardsSeenFrom.slots)  {D : zD} (hD : zDok E D) {V : Nat → Nat → Int32} {P : Nat → Nat → Value} {PH : aH} {b : Nat} (hb : isB b) (hF : okF (bF V b)) {s : Nat} (hs : s < 2) {t : Nat} (ht : t < 36) {sz : Nat} (hO : O (.inl (some (.long (lN (gsf (bF V b) s t))))) (HM D V P PH) sz) : ∀ (j i : Nat), 5 - i < j → i ≤ 5 → Z E G (HM D V P PH) sz 0 0 (5, [some (.ref (D.1 b)), some (.int (nI s)), some (.int (nI t)), some (.long (lN (orp (fun i => lok (bF V b) t i &&& knw (bF V b) s i) i))), none, some (.int (nI i))], []) := by
  intro j
  induction j with
  | zero =>
    intro i h1 h2
    omega
  | succ j ih =>
    intro i h1 h2
    refine Z_run C it_Bd_guardsSeenFrom 2 (f2 := (8, [some (.ref (D.1 b)), some (.int (nI s)), some (.int (nI t)), some (.long (lN (orp (fun i => lok (bF V b) t i &&& knw (bF V b) s i) i))), none, some (.int (nI i))], [.int (nI 5), .int (nI i)])) rfl ?_
    refine Z_br C it_Bd_guardsSeenFrom rfl rfl (fun hc1 => ?_) (fun hc1 => ?_)
    · replace hc1 := (nI_leI (a := 5) (b := i) (by omega) (by omega)).mp hc1
      refine Z_run C it_Bd_guardsSeenFrom 1 (f2 := (36, [some (.ref (D.1 b)), some (.int (nI s)), some (.int (nI t)), some (.long (lN (orp (fun i => lok (bF V b) t i &&& knw (bF V b) s i) i))), none, some (.int (nI i))], [.long (lN (orp (fun i => lok (bF V b) t i &&& knw (bF V b) s i) i))])) rfl ?_
      exact Z_lret C q.e it_Bd_guardsSeenFrom rfl ((show i = 5 by omega) ▸ hO) (by decide) (by decide)
    · replace hc1 : ¬ _ := fun z9 => hc1 ((nI_leI (a := 5) (b := i) (by omega) (by omega)).mpr z9)
      refine Z_run C it_Bd_guardsSeenFrom 4 (f2 := (16, [some (.ref (D.1 b)), some (.int (nI s)), some (.int (nI t)), some (.long (lN (orp (fun i => lok (bF V b) t i &&& knw (bF V b) s i) i))), none, some (.int (nI i))], [.int (nI i), .int (nI t), .ref (D.1 b), .long (lN (orp (fun i => lok (bF V b) t i &&& knw (bF V b) s i) i))])) rfl ?_
      refine Zr_callV C it_Bd_guardsSeenFrom hD rfl p_Bd_linesOfKind ml_Bd_74 b (isB_i hb) (hb.1 _ _ _) rfl [.int (nI t), .int (nI i)] (ct_Bd_linesOfKind C.ev C.l hD _ _ _ b hb hF t (by first | assumption | omega) i (by first | assumption | omega) _) rfl rfl ⟨by decide, by decide, by decide, by decide⟩ (Nat.le_of_ble_eq_true rfl) rfl ?_
      show Z E G (HM D V P PH) sz 0 0 (19, [some (.ref (D.1 b)), some (.int (nI s)), some (.int (nI t)), some (.long (lN (orp (fun i => lok (bF V b) t i &&& knw (bF V b) s i) i))), none, some (.int (nI i))], [.long (lN (lok (bF V b) t i)), .long (lN (orp (fun i => lok (bF V b) t i &&& knw (bF V b) s i) i))])
      refine Z_run C it_Bd_guardsSeenFrom 3 (f2 := (23, [some (.ref (D.1 b)), some (.int (nI s)), some (.int (nI t)), some (.long (lN (orp (fun i => lok (bF V b) t i &&& knw (bF V b) s i) i))), none, some (.int (nI i))], [.int (nI i), .int (nI s), .ref (D.1 b), .long (lN (lok (bF V b) t i)), .long (lN (orp (fun i => lok (bF V b) t i &&& knw (bF V b) s i) i))])) rfl ?_
      refine Zr_callV C it_Bd_guardsSeenFrom hD rfl p_Bd_knowers ml_Bd_83 b (isB_i hb) (hb.1 _ _ _) rfl [.int (nI s), .int (nI i)] (ct_Bd_knowers C.ev C.l hD _ _ _ b hb hF s (by first | assumption | omega) i (by first | assumption | omega) _) rfl rfl ⟨by decide, by decide, by decide, by decide⟩ (Nat.le_of_ble_eq_true rfl) rfl ?_
      show Z E G (HM D V P PH) sz 0 0 (26, [some (.ref (D.1 b)), some (.int (nI s)), some (.int (nI t)), some (.long (lN (orp (fun i => lok (bF V b) t i &&& knw (bF V b) s i) i))), none, some (.int (nI i))], [.long (lN (knw (bF V b) s i)), .long (lN (lok (bF V b) t i)), .long (lN (orp (fun i => lok (bF V b) t i &&& knw (bF V b) s i) i))])
      refine Z_run C it_Bd_guardsSeenFrom 4 (f2 := (32, [some (.ref (D.1 b)), some (.int (nI s)), some (.int (nI t)), some (.long (lN (orp (fun i => lok (bF V b) t i &&& knw (bF V b) s i) i) ||| (lN (lok (bF V b) t i) &&& lN (knw (bF V b) s i)))), none, some (.int (nI i + nI 1))], [])) rfl ?_
      rw [nI_add i 1]
      refine Z_run C it_Bd_guardsSeenFrom 1 (f2 := (5, [some (.ref (D.1 b)), some (.int (nI s)), some (.int (nI t)), some (.long (lN (orp (fun i => lok (bF V b) t i &&& knw (bF V b) s i) i) ||| (lN (lok (bF V b) t i) &&& lN (knw (bF V b) s i)))), none, some (.int (nI (i + 1)))], [])) rfl ?_
      have e1 : lN (orp (fun i => lok (bF V b) t i &&& knw (bF V b) s i) i) ||| (lN (lok (bF V b) t i) &&& lN (knw (bF V b) s i)) = lN (orp (fun i => lok (bF V b) t i &&& knw (bF V b) s i) (i + 1)) := by rw [wb_and (by have := lok_lt (bF V b) t i; omega) (by have := knw_lt (bF V b) s i; omega), lN_or (by have := orp_lt (f := (fun i => lok (bF V b) t i &&& knw (bF V b) s i)) (n := i) (c := 36) (fun _ _ => Nat.lt_of_le_of_lt Nat.and_le_left (lok_lt _ _ _)); omega) (Nat.lt_of_le_of_lt Nat.and_le_left (by have := lok_lt (bF V b) t i; omega))]; rfl
      rw [e1]
      exact ih (i + 1) (by omega) (by omega)
set_option maxRecDepth 20000 in
theorem ct_Bd_guardsSeenFrom {E : zE} (hE : zEv E) {l : Launch} (hl : l.stackTraces = false) {D : zD} (hD : zDok E D) (V : Nat → Nat → Int32) (P : Nat → Nat → Value) (PH : aH) (b : Nat) (hb : isB b) (hF : okF (bF V b)) (s : Nat) (hs : s < 2) (t : Nat) (ht : t < 36) (sz : Nat) : zM E l y_Bd_guardsSeenFrom [.code y_Bd_guardsSeenFrom c_Bd_guardsSeenFrom 6 (some .long)] rm_Bd_guardsSeenFrom [.ref (D.1 b), .int (nI s), .int (nI t)] (HM D V P PH) sz (zRet (some (.long (lN (gsf (bF V b) s t)))) (HM D V P PH) sz) := by
  refine zM_of hE hl (by decide +kernel) [some (.ref (D.1 b)), some (.int (nI s)), some (.int (nI t)), none, none, none] ⟨rfl, rfl, Nat.le_of_ble_eq_true rfl⟩ ?_
  intro G C q htb
  refine Z_run C it_Bd_guardsSeenFrom 4 (f2 := (5, [some (.ref (D.1 b)), some (.int (nI s)), some (.int (nI t)), some (.long (lN 0)), none, some (.int (nI 0))], [])) rfl ?_
  exact lp_Bd_guardsSeenFrom C q hD hb hF hs ht ⟨rfl, rfl, rfl⟩ 6 0 (by omega) (by omega)
end
section
/-! ===== Board: cheapestOn, quarter, copy; positions ===== -/
section ZAC
variable {E : zE} {G : zG} {cc : ByteArray} {nL : Nat} {own nm : String} {ret : Option FieldType} {R : Room} {h : aH} {sz k n : Nat} {t : List zI} {pc : Nat} {ls : zL} {rest : List Value} {D : zD} {V : Nat → Nat → Int32} {P : Nat → Nat → Value} {PH : aH}
theorem Z_acopy (C : zCx E G cc nL own nm ret R) (ht : zT cc t) {idx : Nat} {r : Nat × Int32 × Nat} (hl : t.lookup pc = some (.invokestatic idx, r)) (hlk : Cond.methodLink own idx arraycopyName ∈ zWs) (hnat : Cond.native arraycopyName ∈ zWs) (hst : Cond.static arraycopyName ∈ zWs) (hini : Cond.initialized "java/lang/System" ∈ zWs) {a0 a n0 n1 : Nat} {f g : Nat → Int32} (ha0 : h a0 = some (10, n0, fun k => .int (f k))) (ha : h a = some (10, n1, fun k => .int (g k))) {N : Nat} (h4 : N ≤ n0) (h5 : N ≤ n1) (hN : N < 2 ^ 31) (hB : zB E ≤ a) (hls : ls.length = nL) (hR : 1 ≤ R.frames ∧ (rest.map fun v => v.category).sum + 18 ≤ R.locals) (kk : Z E G (hset h a (10, n1, fun k => .int (va_cpy f g 0 0 N k))) sz k n (pc + 3, ls, rest)) : Z E G h sz k n (pc, ls, .int (nI N) :: .int (nI 0) :: .ref a :: .int (nI 0) :: .ref a0 :: rest) := by
  obtain ⟨p, l, e, R', s, m, args, below, meth, c, Q⟩ := G
  obtain ⟨hE, rfl, hx, hb, hml, hown, hW, -⟩ := C
  intro H locs g1 g2 g3 la hla
  obtain ⟨hd, ho⟩ := zT_at ht hl
  have hlen : r.1 = 3 := by have h9 := ho; simp only [zok, beq_iff_eq] at h9; exact h9
  dsimp only at hd
  rw [hlen] at hd
  have own10 : ∀ {a n f}, h a = some (10, n, f) → H[a]? = some (arrV (E.2.2.2 10) n f) := fun {a n f} hh => by
    rcases (g1.2.2.2 a _ hh).2 with ⟨q, -⟩ | ⟨q1, q2, q3⟩ | ⟨q1, -⟩
    · exact absurd q (by show ¬ 10 < 7; omega)
    · exact q3
    · exact absurd q1 (by show ¬ 10 = 15; omega)
  have hc0 := own10 ha0
  have hc1 := own10 ha
  have hA := arrOfT_moved hW.alike (hE.2.2.1 10 (by omega) (by omega)).1
  have e0 : (nI 0).toNatClampNeg = 0 := nI_clamp (by omega)
  have eN : (nI N).toNatClampNeg = N := nI_clamp hN
  have t0 : (nI 0).toInt = 0 := rfl
  have tN : (nI N).toInt = (N : Int) := nI_toInt hN
  intro T hT X
  obtain ⟨-, k0, hk0, cm0, hkk0⟩ := hA n0 (fun j => .int (f j))
  obtain ⟨-, k1, hk1, cm1, hkk1⟩ := hA n1 (fun j => .int (g j))
  obtain ⟨vm', X', step⟩ := X.arraycopy hx hown (zmem_at hE hW hlk) (zmem_at hE hW hnat) (zmem_at hE hW hst) (zmem_at hE hW hini) (src := a0) (dst := a) (cs := arrV (E.2.2.2 10) n0 (fun j => .int (f j))) (cd := arrV (E.2.2.2 10) n1 (fun j => .int (g j))) (srcPos := nI 0) (destPos := nI 0) (n := nI N) (by rw [hT]; exact hc0) (by rw [hT]; exact hc1)
    (fun _ h => by cases h) (fun _ h => by cases h) (fun h => by cases h) (fun h => by cases h) hk0 hk1 hkk0 hkk1 (by simp [zty, refKind]) (nI_pos (by omega)) (nI_pos (by omega)) (nI_pos hN)
    (by rw [t0, tN, arrV_size]; omega)
    (by rw [t0, tN, arrV_size]; omega)
    (fun vm₁ _ i hi => by
      rw [eN] at hi
      have ee : (arrV (E.2.2.2 10) n0 (fun j => .int (f j))).slots.getD ((nI 0).toNatClampNeg + i) .null = .int (f ((nI 0).toNatClampNeg + i)) := by
        rw [Array.getD_eq_getD_getElem?, arrV_read _ _ (by rw [e0]; omega)]
        rfl
      refine ⟨?_, ?_⟩
      · rw [ee]; rfl
      · rw [ee]
        exact trivial)
    (g := F0 m pc la (.int (nI N) :: .int (nI 0) :: .ref a :: .int (nI 0) :: .ref a0 :: rest)) rfl (by rw [hml, ← hls]; exact hla.1) (rest := rest) rfl (by rw [hb]; exact hd) hR.1 (by show 2 * 0 + _ + (7 + 11) ≤ _; omega)
  have e1 : copied (arrV (E.2.2.2 10) n0 (fun j => .int (f j))) (arrV (E.2.2.2 10) n1 (fun j => .int (g j))) (nI 0) (nI 0) (nI N) = arrV (E.2.2.2 10) n1 (fun j => .int (va_cpy f g (nI 0).toNatClampNeg (nI 0).toNatClampNeg (nI N).toNatClampNeg j)) := va_copied (fun z => .int z) _ _ f g (by rw [e0, eN]; omega)
  rw [e1, e0, eN] at X' step
  have hlt : a < H.size := (Array.getElem?_eq_some_iff.mp hc1).1
  have oq : ∀ q : Nat, q ≠ a → (H.setIfInBounds a (arrV (E.2.2.2 10) n1 (fun j => .int (va_cpy f g 0 0 N j))))[q]? = H[q]? := fun q hq => by simp [Array.getElem?_setIfInBounds, Ne.symm hq]
  have hheap : ((T.setVm vm').setCell a (arrV (E.2.2.2 10) n1 (fun j => .int (va_cpy f g 0 0 N j)))).heap = H.setIfInBounds a (arrV (E.2.2.2 10) n1 (fun j => .int (va_cpy f g 0 0 N j))) := by rw [← hT]; rfl
  obtain ⟨t9, a1, b1⟩ := kk _ _ (g1.set (H1 := H.setIfInBounds a (arrV (E.2.2.2 10) n1 (fun j => .int (va_cpy f g 0 0 N j)))) (by simp) oq hB (g1.2.2.2 a _ ha).1 (Or.inr (Or.inl ⟨by show 10 ≤ 10; omega, by show 10 < 15; omega, by simp [Array.getElem?_setIfInBounds, hlt]⟩))) (by simpa using g2) (fun q hq => by
      rcases List.mem_append.mp hq with h9 | h9
      · exact g3 q h9
      · obtain ⟨z, -, hz⟩ := List.mem_map.mp h9
        rw [← hz]
        exact hB) la hla _ hheap X'
  exact ⟨t9, step t9 a1, b1⟩
theorem Zr_callVh (C : zCx E G cc nL own nm ret R) (ht : zT cc t) {idx : Nat} {r : Nat × Int32 × Nat} (hl : t.lookup pc = some (.invokevirtual idx, r)) {y : MethodName} {c9 : ByteArray} {n9 a : Nat} {r9 : Option FieldType} {rm : Room} (hp : zPv y c9 n9 r9 a) (hlk : Cond.methodLink own idx y ∈ zWs) {b : Nat} (As : List Value) {v : Option Value} {h2 : aH} {sz2 : Nat} {st : List Value} (hM : zM E (zGl G) y [.code y c9 n9 r9] rm (.ref b :: As) h sz (zRet v h2 sz2)) (hst : st = As.reverse ++ .ref b :: rest) (ha : As.length = a) {ci nn N : Nat} {fs : Nat → Value} {T : u_T} (hb9 : h b = some (ci, nn, fs)) (hci : zCl[ci]? = some (y.cls, T, N)) (hR : zRm rm R n9 k n) (hcat : (rest.map fun v => v.category).sum ≤ 8) (hls : ls.length = nL)
    (kk : Z E G h2 sz2 (k + rm.cells) (n + rm.slots) (pc + 3, ls, v.toList ++ rest)) : Z E G h sz k n (pc, ls, st) :=
  Z_callV C ht hl hp hlk As hM hst ha hb9 hci hR hcat hls (fun w h3 sz3 hO => by obtain ⟨e1, rfl, rfl⟩ := hO; cases e1; exact kk) (fun X h3 sz3 hO => by cases hO.1)
end ZAC
def vcp (V : Nat → Nat → Int32) (j i n : Nat) : Nat → Nat → Int32 := fun c => if c = j then va_cpy (V i) (V j) 0 0 n else V c
theorem vcp_s {V : Nat → Nat → Int32} {j i n : Nat} : vcp V j i n j = va_cpy (V i) (V j) 0 0 n := by simp [vcp]
theorem vcp_n {V : Nat → Nat → Int32} {j i n c : Nat} (h : c ≠ j) : vcp V j i n c = V c := by simp [vcp, h]
theorem vcp_in {V : Nat → Nat → Int32} {j i n k : Nat} (h : k < n) : vcp V j i n j k = V i k := by rw [vcp_s]; simp [va_cpy, h]
/-- the cheapest piece among some squares, of several the lowest -/
def chs (F : Nat → Nat) (m : Nat) : Nat → Option Nat
  | 0 => none
  | n + 1 => if m.testBit n then (match chs F m n with
    | none => some n
    | some k => if wr (F n) < wr (F k) then some n else some k) else chs F m n
def lst (F : Nat → Nat) : Option Nat → Nat
  | none => 0
  | some k => wr (F k)
theorem chs_lt {F : Nat → Nat} {m : Nat} : ∀ {n k : Nat}, chs F m n = some k → k < n ∧ m.testBit k = true := by
  intro n
  induction n with
  | zero => intro k h; cases h
  | succ n ih =>
    intro k h
    unfold chs at h
    split at h
    · next ht =>
      split at h
      · cases h; exact ⟨by omega, ht⟩
      · next k2 hk2 =>
        have := ih hk2
        split at h
        · cases h; exact ⟨by omega, ht⟩
        · cases h; exact ⟨by omega, this.2⟩
    · have := ih h
      exact ⟨by omega, this.2⟩
theorem chs_f {F : Nat → Nat} {m i : Nat} (h : m.testBit i = false) : chs F m (i + 1) = chs F m i := by simp [chs, h]
theorem chs_n {F : Nat → Nat} {m i : Nat} (h : m.testBit i = true) (hn : chs F m i = none) : chs F m (i + 1) = some i := by simp [chs, h, hn]
theorem chs_c {F : Nat → Nat} {m i k : Nat} (h : m.testBit i = true) (hk : chs F m i = some k) (hl : lst F (chs F m i) ≤ wr (F i)) : chs F m (i + 1) = chs F m i := by
  rw [hk] at hl
  simp only [lst] at hl
  simp [chs, h, hk, show ¬ wr (F i) < wr (F k) by omega]
theorem chs_d {F : Nat → Nat} {m i k : Nat} (h : m.testBit i = true) (hk : chs F m i = some k) (hl : ¬ lst F (chs F m i) ≤ wr (F i)) : chs F m (i + 1) = some i := by
  rw [hk] at hl
  simp only [lst] at hl
  simp [chs, h, hk, show wr (F i) < wr (F k) by omega]
theorem oI_m1 {o : Option Nat} (h : ∀ k, o = some k → k < 36) : oI o = -1 ↔ o = none := by
  cases o with
  | none => exact ⟨fun _ => rfl, fun _ => rfl⟩
  | some k =>
    have h1 := h k rfl
    constructor
    · intro h2
      exfalso
      have h3 : ∀ j, j < 36 → nI j ≠ -1 := by decide
      exact h3 k h1 h2
    · intro h2; cases h2
/-- the pieces of some squares in one number -/
def qtr (F : Nat → Nat) (q : Nat) : Nat → Nat
  | 0 => 0
  | n + 1 => qtr F q n * 128 ||| F (q * 36 / 4 + n)
theorem qtr_lt {F : Nat → Nat} (hF : okF F) {q n : Nat} (h : q * 36 / 4 + n ≤ 36) : qtr F q n < 2 ^ (7 * n) := by
  induction n with
  | zero => simp [qtr]
  | succ n ih =>
    have h1 := ih (by omega)
    have h2 := hF (q * 36 / 4 + n) (by omega)
    have h3 : 2 ^ (7 * (n + 1)) = 2 ^ (7 * n) * 128 := by rw [Nat.mul_succ, Nat.pow_add]
    have h4 : 1 ≤ 2 ^ (7 * n) := Nat.one_le_two_pow
    unfold qtr
    refine Nat.or_lt_two_pow (by rw [h3]; omega) (by rw [h3]; omega)
theorem qtr_63 {F : Nat → Nat} (hF : okF F) {q n : Nat} (h : q * 36 / 4 + n ≤ 36) (hn : n ≤ 9) : qtr F q n < 2 ^ 63 := Nat.lt_of_lt_of_le (qtr_lt hF h) (Nat.pow_le_pow_right (by decide) (by omega))
theorem wA_ini : Cond.initialized "java/lang/System" ∈ zWs := zmem 53 (by decide +kernel) rfl
theorem ml_Bd_15 : Cond.methodLink R_Bd 15 arraycopyName ∈ zWs := zmem 393 (by decide +kernel) rfl
theorem wA_st : Cond.static arraycopyName ∈ zWs := zmem 394 (by decide +kernel) rfl
theorem wA_nat : Cond.native arraycopyName ∈ zWs := zmem 395 (by decide +kernel) rfl
theorem ml_Xx_o : Cond.methodLink R_Xx 1 Lib.objectInit ∈ zWs := zmem 62 (by decide +kernel) rfl
theorem wO_in : Cond.instanceMethod Lib.objectInit ∈ zWs := zmem 63 (by decide +kernel) rfl
theorem wO_co : Cond.code Lib.objectInit ⟨#[0xb1]⟩ 1 none ∈ zWs := zmem 64 (by decide +kernel) rfl
theorem ml_Gm_o : Cond.methodLink R_Gm 3 Lib.objectInit ∈ zWs := zmem 70 (by decide +kernel) rfl
theorem ml_Bd_o : Cond.methodLink R_Bd 3 Lib.objectInit ∈ zWs := zmem 76 (by decide +kernel) rfl
theorem ml_Hs_o : Cond.methodLink R_Hs 1 Lib.objectInit ∈ zWs := zmem 119 (by decide +kernel) rfl
theorem ml_Tx_o : Cond.methodLink R_Tx 3 Lib.objectInit ∈ zWs := zmem 136 (by decide +kernel) rfl
theorem ml_Ps_o : Cond.methodLink R_Ps 1 Lib.objectInit ∈ zWs := zmem 498 (by decide +kernel) rfl
theorem ml_Mm_o : Cond.methodLink R_Mm 1 Lib.objectInit ∈ zWs := zmem 840 (by decide +kernel) rfl
set_option maxRecDepth 20000 in
theorem lp_Bd_cheapestOn {E : zE} {G : zG} {O : zO} (C : zCx E G c_Bd_cheapestOn 7 y_Bd_cheapestOn.cls y_Bd_cheapestOn.name (some .int) rm_Bd_cheapestOn) (q : zEndX E G O rm_Bd_cheapestOn.cells rm_Bd_cheapestOn.slots)  {D : zD} (hD : zDok E D) {V : Nat → Nat → Int32} {P : Nat → Nat → Value} {PH : aH} {b : Nat} (hb : isB b) (hF : okF (bF V b)) {m : Nat} (hm : m < 2 ^ 36) {sz : Nat} (hO : O (.inl (some (.int (oI (chs (bF V b) m 36))))) (HM D V P PH) sz) : ∀ (j i : Nat), 36 - i < j → i ≤ 36 → Z E G (HM D V P PH) sz 0 0 (8, [some (.ref (D.1 b)), some (.long (lN m)), none, some (.int (oI (chs (bF V b) m i))), some (.int (nI (lst (bF V b) (chs (bF V b) m i)))), some (.int (nI i)), none], []) := by
  intro j
  induction j with
  | zero =>
    intro i h1 h2
    omega
  | succ j ih =>
    intro i h1 h2
    refine Z_run C it_Bd_cheapestOn 2 (f2 := (12, [some (.ref (D.1 b)), some (.long (lN m)), none, some (.int (oI (chs (bF V b) m i))), some (.int (nI (lst (bF V b) (chs (bF V b) m i)))), some (.int (nI i)), none], [.int (nI 36), .int (nI i)])) rfl ?_
    refine Z_br C it_Bd_cheapestOn rfl rfl (fun hc1 => ?_) (fun hc1 => ?_)
    · replace hc1 := (nI_leI (a := 36) (b := i) (by omega) (by omega)).mp hc1
      refine Z_run C it_Bd_cheapestOn 1 (f2 := (64, [some (.ref (D.1 b)), some (.long (lN m)), none, some (.int (oI (chs (bF V b) m i))), some (.int (nI (lst (bF V b) (chs (bF V b) m i)))), some (.int (nI i)), none], [.int (oI (chs (bF V b) m i))])) rfl ?_
      exact Z_iret C q.e it_Bd_cheapestOn rfl ((show i = 36 by omega) ▸ hO) (by decide) (by decide)
    · replace hc1 : ¬ _ := fun z9 => hc1 ((nI_leI (a := 36) (b := i) (by omega) (by omega)).mpr z9)
      refine Z_run C it_Bd_cheapestOn 7 (f2 := (23, [some (.ref (D.1 b)), some (.long (lN m)), none, some (.int (oI (chs (bF V b) m i))), some (.int (nI (lst (bF V b) (chs (bF V b) m i)))), some (.int (nI i)), none], [.int (lg_cmp ((lN m >>> ((nI i).toInt64 &&& 63)) &&& lN 1) (lN 0))])) rfl ?_
      have e1 : lg_cmp ((lN m >>> ((nI i).toInt64 &&& 63)) &&& lN 1) (lN 0) = bI (m.testBit i) := lN_bit (by omega) (by omega)
      rw [e1]
      refine Z_br C it_Bd_cheapestOn rfl rfl (fun hc2 => ?_) (fun hc2 => ?_)
      · replace hc2 := bI_0.mp hc2
        refine Z_run C it_Bd_cheapestOn 1 (f2 := (60, [some (.ref (D.1 b)), some (.long (lN m)), none, some (.int (oI (chs (bF V b) m i))), some (.int (nI (lst (bF V b) (chs (bF V b) m i)))), some (.int (nI i + nI 1)), none], [])) rfl ?_
        rw [nI_add i 1]
        refine Z_run C it_Bd_cheapestOn 1 (f2 := (8, [some (.ref (D.1 b)), some (.long (lN m)), none, some (.int (oI (chs (bF V b) m i))), some (.int (nI (lst (bF V b) (chs (bF V b) m i)))), some (.int (nI (i + 1))), none], [])) rfl ?_
        first | have ec := chs_f (F := bF V b) hc2 | have ec := chs_n (F := bF V b) hc2 hc3 | have ec := chs_c hc2 hk9 hc4 | have ec := chs_d hc2 hk9 hc4
        have ef : oI (chs (bF V b) m i) = oI (chs (bF V b) m (i + 1)) := by rw [ec] <;> rfl
        have el : nI (lst (bF V b) (chs (bF V b) m i)) = nI (lst (bF V b) (chs (bF V b) m (i + 1))) := by rw [ec] <;> rfl
        rw [ef, el]
        refine Z_sub (ls2 := [some (.ref (D.1 b)), some (.long (lN m)), none, some (.int (oI (chs (bF V b) m (i + 1)))), some (.int (nI (lst (bF V b) (chs (bF V b) m (i + 1))))), some (.int (nI (i + 1))), none]) (by simp [zsubl]) ?_
        exact ih (i + 1) (by omega) (by omega)
      · replace hc2 := bI_1.mp hc2
        refine Z_run C it_Bd_cheapestOn 1 (f2 := (27, [some (.ref (D.1 b)), some (.long (lN m)), none, some (.int (oI (chs (bF V b) m i))), some (.int (nI (lst (bF V b) (chs (bF V b) m i)))), some (.int (nI i)), none], [.ref (D.1 b)])) rfl ?_
        refine Zm_get C it_Bd_cheapestOn hD rfl b wi_Bd (isB_i hb) (hb.1 _ _ _) rfl (j := 0) (by decide) fl_Bd_9 (v := .ref (D.1 (b + 1))) rfl ?_
        refine Z_run C it_Bd_cheapestOn 1 (f2 := (32, [some (.ref (D.1 b)), some (.long (lN m)), none, some (.int (oI (chs (bF V b) m i))), some (.int (nI (lst (bF V b) (chs (bF V b) m i)))), some (.int (nI i)), none], [.int (nI i), .ref (D.1 (b + 1))])) rfl ?_
        refine Zm_ald C it_Bd_cheapestOn hD (b + 1) 10 rfl (isB_j hb) (hb.2.1 _ _ _) (by decide) (by decide) rfl (j := i) (by omega) (v := .int (nI (bF V b i))) (bF_v _ _ _) ?_
        refine Zr_callS C it_Bd_cheapestOn rfl p_Pc_worthOf ml_Bd_52 [.int (nI (bF V b i))] (ct_Pc_worthOf C.ev C.l hD _ _ _ (bF V b i) (by first | assumption | omega | exact hF _ (by omega)) _) rfl rfl ⟨by decide, by decide, by decide, by decide⟩ (Nat.le_of_ble_eq_true rfl) rfl ?_
        show Z E G (HM D V P PH) sz 0 0 (36, [some (.ref (D.1 b)), some (.long (lN m)), none, some (.int (oI (chs (bF V b) m i))), some (.int (nI (lst (bF V b) (chs (bF V b) m i)))), some (.int (nI i)), none], [.int (nI (wr (bF V b i)))])
        refine Z_run C it_Bd_cheapestOn 1 (f2 := (38, [some (.ref (D.1 b)), some (.long (lN m)), none, some (.int (oI (chs (bF V b) m i))), some (.int (nI (lst (bF V b) (chs (bF V b) m i)))), some (.int (nI i)), some (.int (nI (wr (bF V b i))))], [])) rfl ?_
        have hwi := wr_le (bF V b i)
        have hwl : lst (bF V b) (chs (bF V b) m i) ≤ 35 := by unfold lst; split; omega; exact wr_le _
        refine Z_run C it_Bd_cheapestOn 2 (f2 := (40, [some (.ref (D.1 b)), some (.long (lN m)), none, some (.int (oI (chs (bF V b) m i))), some (.int (nI (lst (bF V b) (chs (bF V b) m i)))), some (.int (nI i)), some (.int (nI (wr (bF V b i))))], [.int ((-1)), .int (oI (chs (bF V b) m i))])) rfl ?_
        refine Z_br C it_Bd_cheapestOn rfl rfl (fun hc3 => ?_) (fun hc3 => ?_)
        · replace hc3 := (oI_m1 (fun k9 h9 => by have := chs_lt h9; omega)).mp hc3
          refine Z_run C it_Bd_cheapestOn 5 (f2 := (60, [some (.ref (D.1 b)), some (.long (lN m)), none, some (.int (nI i)), some (.int (nI (wr (bF V b i)))), some (.int (nI i + nI 1)), some (.int (nI (wr (bF V b i))))], [])) rfl ?_
          rw [nI_add i 1]
          refine Z_run C it_Bd_cheapestOn 1 (f2 := (8, [some (.ref (D.1 b)), some (.long (lN m)), none, some (.int (nI i)), some (.int (nI (wr (bF V b i)))), some (.int (nI (i + 1))), some (.int (nI (wr (bF V b i))))], [])) rfl ?_
          first | have ec := chs_f (F := bF V b) hc2 | have ec := chs_n (F := bF V b) hc2 hc3 | have ec := chs_c hc2 hk9 hc4 | have ec := chs_d hc2 hk9 hc4
          have ef : nI i = oI (chs (bF V b) m (i + 1)) := by rw [ec] <;> rfl
          have el : nI (wr (bF V b i)) = nI (lst (bF V b) (chs (bF V b) m (i + 1))) := by rw [ec] <;> rfl
          rw [ef, el]
          refine Z_sub (ls2 := [some (.ref (D.1 b)), some (.long (lN m)), none, some (.int (oI (chs (bF V b) m (i + 1)))), some (.int (nI (lst (bF V b) (chs (bF V b) m (i + 1))))), some (.int (nI (i + 1))), none]) (by simp [zsubl]) ?_
          exact ih (i + 1) (by omega) (by omega)
        · obtain ⟨k9, hk9⟩ : ∃ k9, chs (bF V b) m i = some k9 := Option.ne_none_iff_exists'.mp (fun z9 => hc3 ((oI_m1 (fun k9 h9 => by have := chs_lt h9; omega)).mpr z9))
          refine Z_run C it_Bd_cheapestOn 2 (f2 := (47, [some (.ref (D.1 b)), some (.long (lN m)), none, some (.int (oI (chs (bF V b) m i))), some (.int (nI (lst (bF V b) (chs (bF V b) m i)))), some (.int (nI i)), some (.int (nI (wr (bF V b i))))], [.int (nI (lst (bF V b) (chs (bF V b) m i))), .int (nI (wr (bF V b i)))])) rfl ?_
          refine Z_br C it_Bd_cheapestOn rfl rfl (fun hc4 => ?_) (fun hc4 => ?_)
          · replace hc4 := (nI_leI (a := lst (bF V b) (chs (bF V b) m i)) (b := wr (bF V b i)) (by omega) (by omega)).mp hc4
            refine Z_run C it_Bd_cheapestOn 1 (f2 := (60, [some (.ref (D.1 b)), some (.long (lN m)), none, some (.int (oI (chs (bF V b) m i))), some (.int (nI (lst (bF V b) (chs (bF V b) m i)))), some (.int (nI i + nI 1)), some (.int (nI (wr (bF V b i))))], [])) rfl ?_
            rw [nI_add i 1]
            refine Z_run C it_Bd_cheapestOn 1 (f2 := (8, [some (.ref (D.1 b)), some (.long (lN m)), none, some (.int (oI (chs (bF V b) m i))), some (.int (nI (lst (bF V b) (chs (bF V b) m i)))), some (.int (nI (i + 1))), some (.int (nI (wr (bF V b i))))], [])) rfl ?_
            first | have ec := chs_f (F := bF V b) hc2 | have ec := chs_n (F := bF V b) hc2 hc3 | have ec := chs_c hc2 hk9 hc4 | have ec := chs_d hc2 hk9 hc4
            have ef : oI (chs (bF V b) m i) = oI (chs (bF V b) m (i + 1)) := by rw [ec] <;> rfl
            have el : nI (lst (bF V b) (chs (bF V b) m i)) = nI (lst (bF V b) (chs (bF V b) m (i + 1))) := by rw [ec] <;> rfl
            rw [ef, el]
            refine Z_sub (ls2 := [some (.ref (D.1 b)), some (.long (lN m)), none, some (.int (oI (chs (bF V b) m (i + 1)))), some (.int (nI (lst (bF V b) (chs (bF V b) m (i + 1))))), some (.int (nI (i + 1))), none]) (by simp [zsubl]) ?_
            exact ih (i + 1) (by omega) (by omega)
          · replace hc4 : ¬ _ := fun z9 => hc4 ((nI_leI (a := lst (bF V b) (chs (bF V b) m i)) (b := wr (bF V b i)) (by omega) (by omega)).mpr z9)
            refine Z_run C it_Bd_cheapestOn 5 (f2 := (60, [some (.ref (D.1 b)), some (.long (lN m)), none, some (.int (nI i)), some (.int (nI (wr (bF V b i)))), some (.int (nI i + nI 1)), some (.int (nI (wr (bF V b i))))], [])) rfl ?_
            rw [nI_add i 1]
            refine Z_run C it_Bd_cheapestOn 1 (f2 := (8, [some (.ref (D.1 b)), some (.long (lN m)), none, some (.int (nI i)), some (.int (nI (wr (bF V b i)))), some (.int (nI (i + 1))), some (.int (nI (wr (bF V b i))))], [])) rfl ?_
            first | have ec := chs_f (F := bF V b) hc2 | have ec := chs_n (F := bF V b) hc2 hc3 | have ec := chs_c hc2 hk9 hc4 | have ec := chs_d hc2 hk9 hc4
            have ef : nI i = oI (chs (bF V b) m (i + 1)) := by rw [ec] <;> rfl
            have el : nI (wr (bF V b i)) = nI (lst (bF V b) (chs (bF V b) m (i + 1))) := by rw [ec] <;> rfl
            rw [ef, el]
            refine Z_sub (ls2 := [some (.ref (D.1 b)), some (.long (lN m)), none, some (.int (oI (chs (bF V b) m (i + 1)))), some (.int (nI (lst (bF V b) (chs (bF V b) m (i + 1))))), some (.int (nI (i + 1))), none]) (by simp [zsubl]) ?_
            exact ih (i + 1) (by omega) (by omega)
set_option maxRecDepth 20000 in
theorem ct_Bd_cheapestOn {E : zE} (hE : zEv E) {l : Launch} (hl : l.stackTraces = false) {D : zD} (hD : zDok E D) (V : Nat → Nat → Int32) (P : Nat → Nat → Value) (PH : aH) (b : Nat) (hb : isB b) (hF : okF (bF V b)) (m : Nat) (hm : m < 2 ^ 36) (sz : Nat) : zM E l y_Bd_cheapestOn [.code y_Bd_cheapestOn c_Bd_cheapestOn 7 (some .int)] rm_Bd_cheapestOn [.ref (D.1 b), .long (lN m)] (HM D V P PH) sz (zRet (some (.int (oI (chs (bF V b) m 36)))) (HM D V P PH) sz) := by
  refine zM_of hE hl (by decide +kernel) [some (.ref (D.1 b)), some (.long (lN m)), none, none, none, none, none] ⟨rfl, rfl, Nat.le_of_ble_eq_true rfl⟩ ?_
  intro G C q htb
  refine Z_run C it_Bd_cheapestOn 6 (f2 := (8, [some (.ref (D.1 b)), some (.long (lN m)), none, some (.int ((-1))), some (.int (nI 0)), some (.int (nI 0)), none], [])) rfl ?_
  exact lp_Bd_cheapestOn C q hD hb hF hm ⟨rfl, rfl, rfl⟩ 37 0 (by omega) (by omega)
set_option maxRecDepth 20000 in
theorem lp_Bd_quarter {E : zE} {G : zG} {O : zO} (C : zCx E G c_Bd_quarter 7 y_Bd_quarter.cls y_Bd_quarter.name (some .long) rm_Bd_quarter) (q : zEndX E G O rm_Bd_quarter.cells rm_Bd_quarter.slots)  {D : zD} (hD : zDok E D) {V : Nat → Nat → Int32} {P : Nat → Nat → Value} {PH : aH} {b : Nat} (hb : isB b) (hF : okF (bF V b)) {u : Nat} (hu : u < 4) {sz : Nat} (hO : O (.inl (some (.long (lN (qtr (bF V b) u 9))))) (HM D V P PH) sz) : ∀ (j i : Nat), 9 - i < j → i ≤ 9 → Z E G (HM D V P PH) sz 0 0 (24, [some (.ref (D.1 b)), some (.int (nI u)), some (.long (lN (qtr (bF V b) u i))), none, some (.int (nI (u * 36 / 4))), some (.int (nI ((u + 1) * 36 / 4))), some (.int (nI (u * 36 / 4 + i)))], []) := by
  intro j
  induction j with
  | zero =>
    intro i h1 h2
    omega
  | succ j ih =>
    intro i h1 h2
    refine Z_run C it_Bd_quarter 2 (f2 := (28, [some (.ref (D.1 b)), some (.int (nI u)), some (.long (lN (qtr (bF V b) u i))), none, some (.int (nI (u * 36 / 4))), some (.int (nI ((u + 1) * 36 / 4))), some (.int (nI (u * 36 / 4 + i)))], [.int (nI ((u + 1) * 36 / 4)), .int (nI (u * 36 / 4 + i))])) rfl ?_
    refine Z_br C it_Bd_quarter rfl rfl (fun hc1 => ?_) (fun hc1 => ?_)
    · replace hc1 := (nI_leI (a := (u + 1) * 36 / 4) (b := u * 36 / 4 + i) (by omega) (by omega)).mp hc1
      refine Z_run C it_Bd_quarter 1 (f2 := (52, [some (.ref (D.1 b)), some (.int (nI u)), some (.long (lN (qtr (bF V b) u i))), none, some (.int (nI (u * 36 / 4))), some (.int (nI ((u + 1) * 36 / 4))), some (.int (nI (u * 36 / 4 + i)))], [.long (lN (qtr (bF V b) u i))])) rfl ?_
      exact Z_lret C q.e it_Bd_quarter rfl ((show i = 9 by omega) ▸ hO) (by decide) (by decide)
    · replace hc1 : ¬ _ := fun z9 => hc1 ((nI_leI (a := (u + 1) * 36 / 4) (b := u * 36 / 4 + i) (by omega) (by omega)).mpr z9)
      have hq := hF (u * 36 / 4 + i) (by omega)
      refine Z_run C it_Bd_quarter 4 (f2 := (36, [some (.ref (D.1 b)), some (.int (nI u)), some (.long (lN (qtr (bF V b) u i))), none, some (.int (nI (u * 36 / 4))), some (.int (nI ((u + 1) * 36 / 4))), some (.int (nI (u * 36 / 4 + i)))], [.ref (D.1 b), .long (lN (qtr (bF V b) u i) <<< ((nI 7).toInt64 &&& 63))])) rfl ?_
      refine Zm_get C it_Bd_quarter hD rfl b wi_Bd (isB_i hb) (hb.1 _ _ _) rfl (j := 0) (by decide) fl_Bd_9 (v := .ref (D.1 (b + 1))) rfl ?_
      refine Z_run C it_Bd_quarter 1 (f2 := (41, [some (.ref (D.1 b)), some (.int (nI u)), some (.long (lN (qtr (bF V b) u i))), none, some (.int (nI (u * 36 / 4))), some (.int (nI ((u + 1) * 36 / 4))), some (.int (nI (u * 36 / 4 + i)))], [.int (nI (u * 36 / 4 + i)), .ref (D.1 (b + 1)), .long (lN (qtr (bF V b) u i) <<< ((nI 7).toInt64 &&& 63))])) rfl ?_
      refine Zm_ald C it_Bd_quarter hD (b + 1) 10 rfl (isB_j hb) (hb.2.1 _ _ _) (by decide) (by decide) rfl (j := u * 36 / 4 + i) (by omega) (v := .int (nI (bF V b (u * 36 / 4 + i)))) (bF_v _ _ _) ?_
      refine Z_run C it_Bd_quarter 4 (f2 := (48, [some (.ref (D.1 b)), some (.int (nI u)), some (.long ((lN (qtr (bF V b) u i) <<< ((nI 7).toInt64 &&& 63)) ||| (nI (bF V b (u * 36 / 4 + i))).toInt64)), none, some (.int (nI (u * 36 / 4))), some (.int (nI ((u + 1) * 36 / 4))), some (.int (nI (u * 36 / 4 + i) + nI 1))], [])) rfl ?_
      rw [nI_add (u * 36 / 4 + i) 1]
      refine Z_run C it_Bd_quarter 1 (f2 := (24, [some (.ref (D.1 b)), some (.int (nI u)), some (.long ((lN (qtr (bF V b) u i) <<< ((nI 7).toInt64 &&& 63)) ||| (nI (bF V b (u * 36 / 4 + i))).toInt64)), none, some (.int (nI (u * 36 / 4))), some (.int (nI ((u + 1) * 36 / 4))), some (.int (nI (u * 36 / 4 + i + 1)))], [])) rfl ?_
      have e1 : (lN (qtr (bF V b) u i) <<< ((nI 7).toInt64 &&& 63)) ||| (nI (bF V b (u * 36 / 4 + i))).toInt64 = lN (qtr (bF V b) u (i + 1)) := by rw [wb_shl _ (by decide), nI_l (by omega), lN_or (by have := qtr_lt hF (q := u) (n := i) (by omega); have h9 : 2 ^ (7 * i) ≤ 2 ^ 56 := Nat.pow_le_pow_right (by decide) (by omega); omega) (by omega)]; rfl
      rw [e1]
      have e2 : nI (u * 36 / 4 + i + 1) = nI (u * 36 / 4 + (i + 1)) := by rw [Nat.add_assoc]
      rw [e2]
      exact ih (i + 1) (by omega) (by omega)
set_option maxRecDepth 20000 in
theorem ct_Bd_quarter {E : zE} (hE : zEv E) {l : Launch} (hl : l.stackTraces = false) {D : zD} (hD : zDok E D) (V : Nat → Nat → Int32) (P : Nat → Nat → Value) (PH : aH) (b : Nat) (hb : isB b) (hF : okF (bF V b)) (u : Nat) (hu : u < 4) (sz : Nat) : zM E l y_Bd_quarter [.code y_Bd_quarter c_Bd_quarter 7 (some .long)] rm_Bd_quarter [.ref (D.1 b), .int (nI u)] (HM D V P PH) sz (zRet (some (.long (lN (qtr (bF V b) u 9)))) (HM D V P PH) sz) := by
  refine zM_of hE hl (by decide +kernel) [some (.ref (D.1 b)), some (.int (nI u)), none, none, none, none, none] ⟨rfl, rfl, Nat.le_of_ble_eq_true rfl⟩ ?_
  intro G C q htb
  refine Z_run C it_Bd_quarter 5 (f2 := (6, [some (.ref (D.1 b)), some (.int (nI u)), some (.long (lN 0)), none, none, none, none], [.int (nI u * nI 36)])) rfl ?_
  rw [nI_mul u 36]
  refine Z_run C it_Bd_quarter 2 (f2 := (8, [some (.ref (D.1 b)), some (.int (nI u)), some (.long (lN 0)), none, none, none, none], [.int (nI (u * 36) / nI 4)])) rfl ?_
  rw [nI_div (a := u * 36) (d := 4) (by omega) (by omega) (by omega)]
  refine Z_run C it_Bd_quarter 4 (f2 := (13, [some (.ref (D.1 b)), some (.int (nI u)), some (.long (lN 0)), none, some (.int (nI ((u * 36) / 4))), none, none], [.int (nI u + nI 1)])) rfl ?_
  rw [nI_add u 1]
  refine Z_run C it_Bd_quarter 2 (f2 := (16, [some (.ref (D.1 b)), some (.int (nI u)), some (.long (lN 0)), none, some (.int (nI ((u * 36) / 4))), none, none], [.int (nI (u + 1) * nI 36)])) rfl ?_
  rw [nI_mul (u + 1) 36]
  refine Z_run C it_Bd_quarter 2 (f2 := (18, [some (.ref (D.1 b)), some (.int (nI u)), some (.long (lN 0)), none, some (.int (nI ((u * 36) / 4))), none, none], [.int (nI ((u + 1) * 36) / nI 4)])) rfl ?_
  rw [nI_div (a := (u + 1) * 36) (d := 4) (by omega) (by omega) (by omega)]
  refine Z_run C it_Bd_quarter 3 (f2 := (24, [some (.ref (D.1 b)), some (.int (nI u)), some (.long (lN 0)), none, some (.int (nI ((u * 36) / 4))), some (.int (nI (((u + 1) * 36) / 4))), some (.int (nI ((u * 36) / 4)))], [])) rfl ?_
  exact lp_Bd_quarter C q hD hb hF hu ⟨rfl, rfl, rfl⟩ 10 0 (by omega) (by omega)
set_option maxRecDepth 20000 in
theorem ct_Bd_copy {E : zE} (hE : zEv E) {l : Launch} (hl : l.stackTraces = false) {D : zD} (hD : zDok E D) (V : Nat → Nat → Int32) (P : Nat → Nat → Value) (PH : aH) (b : Nat) (hb : isB b) (c : Nat) (hc : isB c) (sz : Nat) : zM E l y_Bd_copy [.code y_Bd_copy c_Bd_copy 2 none] rm_Bd_copy [.ref (D.1 b), .ref (D.1 c)] (HM D V P PH) sz (zRet (none) (HM D (vcp V (b + 1) (c + 1) 36) P PH) sz) := by
  refine zM_of hE hl (by decide +kernel) [some (.ref (D.1 b)), some (.ref (D.1 c))] ⟨rfl, rfl, Nat.le_of_ble_eq_true rfl⟩ ?_
  intro G C q htb
  refine Z_run C it_Bd_copy 1 (f2 := (1, [some (.ref (D.1 b)), some (.ref (D.1 c))], [.ref (D.1 c)])) rfl ?_
  refine Zm_get C it_Bd_copy hD rfl c wi_Bd (isB_i hc) (hc.1 _ _ _) rfl (j := 0) (by decide) fl_Bd_9 (v := .ref (D.1 (c + 1))) rfl ?_
  refine Z_run C it_Bd_copy 2 (f2 := (6, [some (.ref (D.1 b)), some (.ref (D.1 c))], [.ref (D.1 b), .int (nI 0), .ref (D.1 (c + 1))])) rfl ?_
  refine Zm_get C it_Bd_copy hD rfl b wi_Bd (isB_i hb) (hb.1 _ _ _) rfl (j := 0) (by decide) fl_Bd_9 (v := .ref (D.1 (b + 1))) rfl ?_
  refine Z_run C it_Bd_copy 2 (f2 := (12, [some (.ref (D.1 b)), some (.ref (D.1 c))], [.int (nI 36), .int (nI 0), .ref (D.1 (b + 1)), .int (nI 0), .ref (D.1 (c + 1))])) rfl ?_
  refine Z_acopy (a0 := D.1 (c + 1)) (a := D.1 (b + 1)) (n0 := 36) (n1 := 36) (f := V (c + 1)) (g := V (b + 1)) (N := 36) C it_Bd_copy rfl ml_Bd_15 wA_nat wA_st wA_ini (by rw [HM_at hD (isB_j hc), hc.2.1]) (by rw [HM_at hD (isB_j hb), hb.2.1]) (by decide) (by decide) (by decide) (hD.2.1 _ (isB_k hb)) rfl ⟨by decide, by decide⟩ ?_
  rw [HM_set (V2 := vcp V (b + 1) (c + 1) 36) (P2 := P) hD (isB_j hb) (by rw [hb.2.1, vcp_s]) (fun z hz => vcp_n hz) (fun _ _ => rfl)]
  exact Z_vret C q.e it_Bd_copy rfl (zRet_vH rfl) (by decide) (by decide)
/-- a position: what came before, the side to move, the four quarters, how often it came up -/
def pcl (ev : Value) (t : Nat) (a : Nat → Nat) (n : Nat) : aC := (4, 0, fun k => match k with
  | 0 => ev
  | 1 => .int (nI t)
  | 2 => .long (lN (a 0))
  | 3 => .long (lN (a 1))
  | 4 => .long (lN (a 2))
  | 5 => .long (lN (a 3))
  | 6 => .int (nI n)
  | k => defaultValue (t_Ps k))
abbrev zPos : Type := Nat × (Nat → Nat) × Nat
def zPok (p : zPos) : Prop := p.1 < 2 ∧ (∀ i, i < 4 → p.2.1 i < 2 ^ 63) ∧ p.2.2 < 2 ^ 31
/-- the value is the head of the chain of the positions L, the latest first -/
def chn (PH : aH) : Value → List zPos → Prop
  | v, [] => v = .null
  | v, p :: L => ∃ (q : Nat) (ev : Value), v = .ref q ∧ PH q = some (pcl ev p.1 p.2.1 p.2.2) ∧ zPok p ∧ chn PH ev L
theorem chn_v {PH : aH} {v : Value} {L : List zPos} (h : chn PH v L) : v = .null ∨ ∃ q, v = .ref q := by
  cases L with
  | nil => exact Or.inl h
  | cons p L =>
    obtain ⟨q, ev, h1, -⟩ := h
    exact Or.inr ⟨q, h1⟩
def lkl (t : Nat) (a : Nat → Nat) (p : zPos) : Bool := t == p.1 && a 0 == p.2.1 0 && a 1 == p.2.1 1 && a 2 == p.2.1 2 && a 3 == p.2.1 3
def tbf (t : Nat) (a : Nat → Nat) : List zPos → Nat
  | [] => 0
  | p :: L => if lkl t a p then p.2.2 else tbf t a L
theorem tbf_lt {PH : aH} {t : Nat} {a : Nat → Nat} : ∀ {L : List zPos} {v : Value}, chn PH v L → tbf t a L < 2 ^ 31 := by
  intro L
  induction L with
  | nil => intro v h; simp [tbf]
  | cons p L ih =>
    intro v h
    obtain ⟨q, ev, h1, h2, h3, h4⟩ := h
    unfold tbf
    split
    · exact h3.2.2
    · exact ih h4
theorem lgc0 {x y : Nat} (hx : x < 2 ^ 63) (hy : y < 2 ^ 63) : lg_cmp (lN x) (lN y) = 0 ↔ x = y := by
  unfold lg_cmp
  by_cases h : x = y
  · subst h
    simp [show ¬ (lN x > lN x) by simp]
  · have h2 : ¬ lN x = lN y := fun z => h ((pk_lEQ hx hy).mp z)
    simp only [h2, if_false, h, iff_false]
    split <;> decide
/-- the fields of a position that are compared -/
def pfs (fs : Nat → Value) (t : Nat) (a : Nat → Nat) : Prop := fs 1 = .int (nI t) ∧ fs 2 = .long (lN (a 0)) ∧ fs 3 = .long (lN (a 1)) ∧ fs 4 = .long (lN (a 2)) ∧ fs 5 = .long (lN (a 3)) ∧ t < 2 ∧ ∀ i, i < 4 → a i < 2 ^ 63
def notD (D : zD) (q : Nat) : Prop := ¬ (D.2.1 q < 53 ∧ D.1 (D.2.1 q) = q)
theorem HM_p {D : zD} {V : Nat → Nat → Int32} {P : Nat → Nat → Value} {PH : aH} {q : Nat} (h : notD D q) : HM D V P PH q = PH q := by
  unfold HM
  rw [if_neg h]
def okP (D : zD) (PH : aH) : Prop := ∀ q c, PH q = some c → notD D q
theorem HM_pc {D : zD} {V : Nat → Nat → Int32} {P : Nat → Nat → Value} {PH : aH} {q : Nat} {c : aC} (h : okP D PH) (hc : PH q = some c) : HM D V P PH q = some c := by
  rw [HM_p (h q c hc), hc]
theorem HM_ps {D : zD} {V : Nat → Nat → Int32} {P : Nat → Nat → Value} {PH : aH} {q : Nat} {c : aC} (h : notD D q) : hset (HM D V P PH) q c = HM D V P (hset PH q c) := by
  funext a
  by_cases e : a = q
  · subst e
    rw [hset_s, HM_p h, hset_s]
  · rw [hset_n e]
    unfold HM
    rw [hset_n e]
theorem hset_2 {PH : aH} {q : Nat} {c d : aC} : hset (hset PH q c) q d = hset PH q d := by
  funext a
  unfold hset
  split <;> rfl
theorem okP_set {D : zD} {PH : aH} {q : Nat} {c : aC} (h : okP D PH) (hq : notD D q) : okP D (hset PH q c) := by
  intro a d hd
  by_cases e : a = q
  · rw [e]; exact hq
  · rw [hset_n e] at hd
    exact h a d hd
theorem hset_o {PH : aH} {q a : Nat} {c d : aC} (hq : PH q = none) (ha : PH a = some d) : hset PH q c a = some d := by
  rw [hset_n (fun e => by rw [e, hq] at ha; cases ha)]
  exact ha
theorem chn_set {PH : aH} {q : Nat} {c : aC} (hq : PH q = none) : ∀ {L : List zPos} {v : Value}, chn PH v L → chn (hset PH q c) v L := by
  intro L
  induction L with
  | nil => intro v h; exact h
  | cons p L ih =>
    intro v h
    obtain ⟨a, ev, h1, h2, h3, h4⟩ := h
    exact ⟨a, ev, h1, hset_o hq h2, h3, ih h4⟩
set_option maxRecDepth 20000 in
theorem ct_Ps_looksLike {E : zE} (hE : zEv E) {l : Launch} (hl : l.stackTraces = false) (h : aH) (q1 q2 t : Nat) (a : Nat → Nat) (fs f2 : Nat → Value) (p : zPos) (h1 : h q1 = some (4, 0, fs)) (h2 : h q2 = some (4, 0, f2)) (hp1 : pfs fs t a) (hp2 : pfs f2 p.1 p.2.1) (sz : Nat) : zM E l y_Ps_looksLike [.code y_Ps_looksLike c_Ps_looksLike 2 (some .boolean)] rm_Ps_looksLike [.ref q1, .ref q2] h sz (zRet (some (.int (bI (lkl t a p)))) h sz) := by
  refine zM_of hE hl (by decide +kernel) [some (.ref q1), some (.ref q2)] ⟨rfl, rfl, Nat.le_of_ble_eq_true rfl⟩ ?_
  intro G C q htb
  have ht1 := hp1.2.2.2.2.2.1
  have ht2 := hp2.2.2.2.2.2.1
  refine Z_run C it_Ps_looksLike 1 (f2 := (1, [some (.ref q1), some (.ref q2)], [.ref q1])) rfl ?_
  refine Z_getf C it_Ps_looksLike rfl wi_Ps h1 rfl (j := 1) (by decide) fl_Ps_13 (v := .int (nI t)) hp1.1 ?_
  refine Z_run C it_Ps_looksLike 1 (f2 := (5, [some (.ref q1), some (.ref q2)], [.ref q2, .int (nI t)])) rfl ?_
  refine Z_getf C it_Ps_looksLike rfl wi_Ps h2 rfl (j := 1) (by decide) fl_Ps_13 (v := .int (nI p.1)) hp2.1 ?_
  refine Z_br C it_Ps_looksLike rfl rfl (fun hc1 => ?_) (fun hc1 => ?_)
  · replace hc1 : ¬ _ := fun z9 => hc1 ((nI_eq (a := t) (b := p.1) (by omega) (by omega)).mpr z9)
    refine Z_run C it_Ps_looksLike 1 (f2 := (64, [some (.ref q1), some (.ref q2)], [.int (nI 0)])) rfl ?_
    exact Z_zret C q.e it_Ps_looksLike rfl (Or.inl rfl) (zRet_i (bI_f (by first | (simp [lkl, hc5]; done) | (simp [lkl, hc4]; done) | (simp [lkl, hc3]; done) | (simp [lkl, hc2]; done) | (simp [lkl, hc1]; done)))) (by decide) (by decide)
  · replace hc1 := Classical.not_not.mp hc1
    replace hc1 := (nI_eq (a := t) (b := p.1) (by omega) (by omega)).mp hc1
    refine Z_run C it_Ps_looksLike 1 (f2 := (12, [some (.ref q1), some (.ref q2)], [.ref q1])) rfl ?_
    refine Z_getf C it_Ps_looksLike rfl wi_Ps h1 rfl (j := 2) (by decide) fl_Ps_23 (v := .long (lN (a 0))) hp1.2.1 ?_
    refine Z_run C it_Ps_looksLike 1 (f2 := (16, [some (.ref q1), some (.ref q2)], [.ref q2, .long (lN (a 0))])) rfl ?_
    refine Z_getf C it_Ps_looksLike rfl wi_Ps h2 rfl (j := 2) (by decide) fl_Ps_23 (v := .long (lN (p.2.1 0))) hp2.2.1 ?_
    refine Z_run C it_Ps_looksLike 1 (f2 := (20, [some (.ref q1), some (.ref q2)], [.int (lg_cmp (lN (a 0)) (lN (p.2.1 0)))])) rfl ?_
    refine Z_br C it_Ps_looksLike rfl rfl (fun hc2 => ?_) (fun hc2 => ?_)
    · replace hc2 : ¬ a 0 = p.2.1 0 := fun z9 => hc2 ((lgc0 (hp1.2.2.2.2.2.2 0 (by decide)) (hp2.2.2.2.2.2.2 0 (by decide))).mpr z9)
      refine Z_run C it_Ps_looksLike 1 (f2 := (64, [some (.ref q1), some (.ref q2)], [.int (nI 0)])) rfl ?_
      exact Z_zret C q.e it_Ps_looksLike rfl (Or.inl rfl) (zRet_i (bI_f (by first | (simp [lkl, hc5]; done) | (simp [lkl, hc4]; done) | (simp [lkl, hc3]; done) | (simp [lkl, hc2]; done) | (simp [lkl, hc1]; done)))) (by decide) (by decide)
    · replace hc2 := (lgc0 (hp1.2.2.2.2.2.2 0 (by decide)) (hp2.2.2.2.2.2.2 0 (by decide))).mp (Classical.not_not.mp hc2)
      refine Z_run C it_Ps_looksLike 1 (f2 := (24, [some (.ref q1), some (.ref q2)], [.ref q1])) rfl ?_
      refine Z_getf C it_Ps_looksLike rfl wi_Ps h1 rfl (j := 3) (by decide) fl_Ps_27 (v := .long (lN (a 1))) hp1.2.2.1 ?_
      refine Z_run C it_Ps_looksLike 1 (f2 := (28, [some (.ref q1), some (.ref q2)], [.ref q2, .long (lN (a 1))])) rfl ?_
      refine Z_getf C it_Ps_looksLike rfl wi_Ps h2 rfl (j := 3) (by decide) fl_Ps_27 (v := .long (lN (p.2.1 1))) hp2.2.2.1 ?_
      refine Z_run C it_Ps_looksLike 1 (f2 := (32, [some (.ref q1), some (.ref q2)], [.int (lg_cmp (lN (a 1)) (lN (p.2.1 1)))])) rfl ?_
      refine Z_br C it_Ps_looksLike rfl rfl (fun hc3 => ?_) (fun hc3 => ?_)
      · replace hc3 : ¬ a 1 = p.2.1 1 := fun z9 => hc3 ((lgc0 (hp1.2.2.2.2.2.2 1 (by decide)) (hp2.2.2.2.2.2.2 1 (by decide))).mpr z9)
        refine Z_run C it_Ps_looksLike 1 (f2 := (64, [some (.ref q1), some (.ref q2)], [.int (nI 0)])) rfl ?_
        exact Z_zret C q.e it_Ps_looksLike rfl (Or.inl rfl) (zRet_i (bI_f (by first | (simp [lkl, hc5]; done) | (simp [lkl, hc4]; done) | (simp [lkl, hc3]; done) | (simp [lkl, hc2]; done) | (simp [lkl, hc1]; done)))) (by decide) (by decide)
      · replace hc3 := (lgc0 (hp1.2.2.2.2.2.2 1 (by decide)) (hp2.2.2.2.2.2.2 1 (by decide))).mp (Classical.not_not.mp hc3)
        refine Z_run C it_Ps_looksLike 1 (f2 := (36, [some (.ref q1), some (.ref q2)], [.ref q1])) rfl ?_
        refine Z_getf C it_Ps_looksLike rfl wi_Ps h1 rfl (j := 4) (by decide) fl_Ps_30 (v := .long (lN (a 2))) hp1.2.2.2.1 ?_
        refine Z_run C it_Ps_looksLike 1 (f2 := (40, [some (.ref q1), some (.ref q2)], [.ref q2, .long (lN (a 2))])) rfl ?_
        refine Z_getf C it_Ps_looksLike rfl wi_Ps h2 rfl (j := 4) (by decide) fl_Ps_30 (v := .long (lN (p.2.1 2))) hp2.2.2.2.1 ?_
        refine Z_run C it_Ps_looksLike 1 (f2 := (44, [some (.ref q1), some (.ref q2)], [.int (lg_cmp (lN (a 2)) (lN (p.2.1 2)))])) rfl ?_
        refine Z_br C it_Ps_looksLike rfl rfl (fun hc4 => ?_) (fun hc4 => ?_)
        · replace hc4 : ¬ a 2 = p.2.1 2 := fun z9 => hc4 ((lgc0 (hp1.2.2.2.2.2.2 2 (by decide)) (hp2.2.2.2.2.2.2 2 (by decide))).mpr z9)
          refine Z_run C it_Ps_looksLike 1 (f2 := (64, [some (.ref q1), some (.ref q2)], [.int (nI 0)])) rfl ?_
          exact Z_zret C q.e it_Ps_looksLike rfl (Or.inl rfl) (zRet_i (bI_f (by first | (simp [lkl, hc5]; done) | (simp [lkl, hc4]; done) | (simp [lkl, hc3]; done) | (simp [lkl, hc2]; done) | (simp [lkl, hc1]; done)))) (by decide) (by decide)
        · replace hc4 := (lgc0 (hp1.2.2.2.2.2.2 2 (by decide)) (hp2.2.2.2.2.2.2 2 (by decide))).mp (Classical.not_not.mp hc4)
          refine Z_run C it_Ps_looksLike 1 (f2 := (48, [some (.ref q1), some (.ref q2)], [.ref q1])) rfl ?_
          refine Z_getf C it_Ps_looksLike rfl wi_Ps h1 rfl (j := 5) (by decide) fl_Ps_33 (v := .long (lN (a 3))) hp1.2.2.2.2.1 ?_
          refine Z_run C it_Ps_looksLike 1 (f2 := (52, [some (.ref q1), some (.ref q2)], [.ref q2, .long (lN (a 3))])) rfl ?_
          refine Z_getf C it_Ps_looksLike rfl wi_Ps h2 rfl (j := 5) (by decide) fl_Ps_33 (v := .long (lN (p.2.1 3))) hp2.2.2.2.2.1 ?_
          refine Z_run C it_Ps_looksLike 1 (f2 := (56, [some (.ref q1), some (.ref q2)], [.int (lg_cmp (lN (a 3)) (lN (p.2.1 3)))])) rfl ?_
          refine Z_br C it_Ps_looksLike rfl rfl (fun hc5 => ?_) (fun hc5 => ?_)
          · replace hc5 : ¬ a 3 = p.2.1 3 := fun z9 => hc5 ((lgc0 (hp1.2.2.2.2.2.2 3 (by decide)) (hp2.2.2.2.2.2.2 3 (by decide))).mpr z9)
            refine Z_run C it_Ps_looksLike 1 (f2 := (64, [some (.ref q1), some (.ref q2)], [.int (nI 0)])) rfl ?_
            exact Z_zret C q.e it_Ps_looksLike rfl (Or.inl rfl) (zRet_i (bI_f (by first | (simp [lkl, hc5]; done) | (simp [lkl, hc4]; done) | (simp [lkl, hc3]; done) | (simp [lkl, hc2]; done) | (simp [lkl, hc1]; done)))) (by decide) (by decide)
          · replace hc5 := (lgc0 (hp1.2.2.2.2.2.2 3 (by decide)) (hp2.2.2.2.2.2.2 3 (by decide))).mp (Classical.not_not.mp hc5)
            refine Z_run C it_Ps_looksLike 2 (f2 := (64, [some (.ref q1), some (.ref q2)], [.int (nI 1)])) rfl ?_
            exact Z_zret C q.e it_Ps_looksLike rfl (Or.inr rfl) (zRet_i (bI_t (by simp [lkl, hc1, hc2, hc3, hc4, hc5]))) (by decide) (by decide)
theorem pfs_pcl {ev : Value} {p : zPos} (h : zPok p) : pfs (pcl ev p.1 p.2.1 p.2.2).2.2 p.1 p.2.1 := ⟨rfl, rfl, rfl, rfl, rfl, h.1, h.2.1⟩
set_option maxRecDepth 20000 in
theorem lp_Ps_timesBefore {E : zE} {G : zG} {O : zO} (C : zCx E G c_Ps_timesBefore 2 y_Ps_timesBefore.cls y_Ps_timesBefore.name (some .int) rm_Ps_timesBefore) (q : zEndX E G O rm_Ps_timesBefore.cells rm_Ps_timesBefore.slots)  {D : zD} (hD : zDok E D) (V : Nat → Nat → Int32) (P : Nat → Nat → Value) (PH : aH) (hP : okP D PH) (q0 t : Nat) (a : Nat → Nat) (fs : Nat → Value) (hn0 : notD D q0) (hPq : PH q0 = none) (hpf : pfs fs t a) {sz : Nat} : ∀ (L : List zPos) (v : Value), chn PH v L → O (.inl (some (.int (nI (tbf t a L))))) (HM D V P (hset PH q0 (4, 0, fs))) sz → Z E G (HM D V P (hset PH q0 (4, 0, fs))) sz 0 0 (5, [some (.ref q0), some v], []) := by
  have hq0 : HM D V P (hset PH q0 (4, 0, fs)) q0 = some (4, 0, fs) := by rw [HM_p hn0, hset_s]
  intro L
  induction L with
  | nil =>
    intro v hch hO
    have hv : v = .null := hch
    subst hv
    refine Z_run C it_Ps_timesBefore 3 (f2 := (31, [some (.ref q0), some (.null)], [.int (nI 0)])) rfl ?_
    exact Z_iret C q.e it_Ps_timesBefore rfl (hO) (by decide) (by decide)
  | cons p L ih =>
    intro v hch hO
    obtain ⟨q1, ev, hv, hp1, hpk, hch⟩ := hch
    subst hv
    have hq1 : HM D V P (hset PH q0 (4, 0, fs)) q1 = some (4, 0, (pcl ev p.1 p.2.1 p.2.2).2.2) := by rw [HM_p (hP q1 _ hp1), hset_o hPq hp1]; rfl
    unfold tbf at hO
    refine Z_run C it_Ps_timesBefore 4 (f2 := (11, [some (.ref q0), some (.ref q1)], [.ref q1, .ref q0])) rfl ?_
    refine Zr_callVh C it_Ps_timesBefore rfl p_Ps_looksLike ml_Ps_43 [.ref q1] (ct_Ps_looksLike C.ev C.l _ q0 q1 t a _ _ p hq0 hq1 hpf (pfs_pcl hpk) _) rfl rfl hq0 rfl ⟨by decide, by decide, by decide, by decide⟩ (Nat.le_of_ble_eq_true rfl) rfl ?_
    show Z E G (HM D V P (hset PH q0 (4, 0, fs))) sz 0 0 (14, [some (.ref q0), some (.ref q1)], [.int (bI (lkl t a p))])
    refine Z_br C it_Ps_timesBefore rfl rfl (fun hc1 => ?_) (fun hc1 => ?_)
    · replace hc1 := bI_0.mp hc1
      refine Z_run C it_Ps_timesBefore 1 (f2 := (23, [some (.ref q0), some (.ref q1)], [.ref q1])) rfl ?_
      rcases chn_v hch with rfl | ⟨q2, rfl⟩
      · refine Z_getf C it_Ps_timesBefore rfl wi_Ps hq1 rfl (j := 0) (by decide) fl_Ps_7 (v := .null) rfl ?_
        refine Z_run C it_Ps_timesBefore 2 (f2 := (5, [some (.ref q0), some (.null)], [])) rfl ?_
        exact ih _ hch (by rw [hc1] at hO; exact hO)
      · refine Z_getf C it_Ps_timesBefore rfl wi_Ps hq1 rfl (j := 0) (by decide) fl_Ps_7 (v := .ref q2) rfl ?_
        refine Z_run C it_Ps_timesBefore 2 (f2 := (5, [some (.ref q0), some (.ref q2)], [])) rfl ?_
        exact ih _ hch (by rw [hc1] at hO; exact hO)
    · replace hc1 := bI_1.mp hc1
      refine Z_run C it_Ps_timesBefore 1 (f2 := (18, [some (.ref q0), some (.ref q1)], [.ref q1])) rfl ?_
      refine Z_getf C it_Ps_timesBefore rfl wi_Ps hq1 rfl (j := 6) (by decide) fl_Ps_40 (v := .int (nI p.2.2)) rfl ?_
      exact Z_iret C q.e it_Ps_timesBefore rfl (by rw [hc1] at hO; exact hO) (by decide) (by decide)
set_option maxRecDepth 20000 in
theorem ct_Ps_timesBefore_n {E : zE} (hE : zEv E) {l : Launch} (hl : l.stackTraces = false) {D : zD} (hD : zDok E D) (V : Nat → Nat → Int32) (P : Nat → Nat → Value) (PH : aH) (hP : okP D PH) (q0 t : Nat) (a : Nat → Nat) (fs : Nat → Value) (hn0 : notD D q0) (hPq : PH q0 = none) (hpf : pfs fs t a) (hf0 : fs 0 = .null) (L : List zPos) (hch : chn PH (.null) L) (sz : Nat) : zM E l y_Ps_timesBefore [.code y_Ps_timesBefore c_Ps_timesBefore 2 (some .int)] rm_Ps_timesBefore [.ref q0] (HM D V P (hset PH q0 (4, 0, fs))) sz (zRet (some (.int (nI (tbf t a L)))) (HM D V P (hset PH q0 (4, 0, fs))) sz) := by
  refine zM_of hE hl (by decide +kernel) [some (.ref q0), none] ⟨rfl, rfl, Nat.le_of_ble_eq_true rfl⟩ ?_
  intro G C q htb
  have hq0 : HM D V P (hset PH q0 (4, 0, fs)) q0 = some (4, 0, fs) := by rw [HM_p hn0, hset_s]
  refine Z_run C it_Ps_timesBefore 1 (f2 := (1, [some (.ref q0), none], [.ref q0])) rfl ?_
  refine Z_getf C it_Ps_timesBefore rfl wi_Ps hq0 rfl (j := 0) (by decide) fl_Ps_7 (v := .null) hf0 ?_
  refine Z_run C it_Ps_timesBefore 1 (f2 := (5, [some (.ref q0), some (.null)], [])) rfl ?_
  exact lp_Ps_timesBefore C q hD V P PH hP q0 t a fs hn0 hPq hpf L _ hch ⟨rfl, rfl, rfl⟩
set_option maxRecDepth 20000 in
theorem ct_Ps_timesBefore_r {E : zE} (hE : zEv E) {l : Launch} (hl : l.stackTraces = false) {D : zD} (hD : zDok E D) (V : Nat → Nat → Int32) (P : Nat → Nat → Value) (PH : aH) (hP : okP D PH) (q0 t : Nat) (a : Nat → Nat) (fs : Nat → Value) (hn0 : notD D q0) (hPq : PH q0 = none) (hpf : pfs fs t a) (q9 : Nat) (hf0 : fs 0 = .ref q9) (L : List zPos) (hch : chn PH (.ref q9) L) (sz : Nat) : zM E l y_Ps_timesBefore [.code y_Ps_timesBefore c_Ps_timesBefore 2 (some .int)] rm_Ps_timesBefore [.ref q0] (HM D V P (hset PH q0 (4, 0, fs))) sz (zRet (some (.int (nI (tbf t a L)))) (HM D V P (hset PH q0 (4, 0, fs))) sz) := by
  refine zM_of hE hl (by decide +kernel) [some (.ref q0), none] ⟨rfl, rfl, Nat.le_of_ble_eq_true rfl⟩ ?_
  intro G C q htb
  have hq0 : HM D V P (hset PH q0 (4, 0, fs)) q0 = some (4, 0, fs) := by rw [HM_p hn0, hset_s]
  refine Z_run C it_Ps_timesBefore 1 (f2 := (1, [some (.ref q0), none], [.ref q0])) rfl ?_
  refine Z_getf C it_Ps_timesBefore rfl wi_Ps hq0 rfl (j := 0) (by decide) fl_Ps_7 (v := .ref q9) hf0 ?_
  refine Z_run C it_Ps_timesBefore 1 (f2 := (5, [some (.ref q0), some (.ref q9)], [])) rfl ?_
  exact lp_Ps_timesBefore C q hD V P PH hP q0 t a fs hn0 hPq hpf L _ hch ⟨rfl, rfl, rfl⟩
section ZPP
variable {E : zE} {G : zG} {cc : ByteArray} {nL : Nat} {own nm : String} {ret : Option FieldType} {R : Room} {sz k n : Nat} {t : List zI} {pc : Nat} {ls : zL} {rest : List Value} {D : zD} {V : Nat → Nat → Int32} {P : Nat → Nat → Value} {PH : aH}
theorem Zp_put (C : zCx E G cc nL own nm ret R) (ht : zT cc t) {idx : Nat} {r : Nat × Int32 × Nat} (hl : t.lookup pc = some (.putfield idx, r)) {q j : Nat} {fs : Nat → Value} (hn : notD D q) (hB : zB E ≤ q) (hj : j < 7) (hlink : Cond.fieldLink own idx (F_Ps j).1 (F_Ps j).2.1 (F_Ps j).2.2.1 ∈ zWs) (hown : (F_Ps j).1 = own ∧ nm = "<init>") {x : Value} (hna : narrow (t_Ps j) x = x) (hfit : fits (t_Ps j) x = true) (kk : Z E G (HM D V P (hset PH q (4, 0, updV fs j x))) sz k n (pc + 3, ls, rest)) : Z E G (HM D V P (hset PH q (4, 0, fs))) sz k n (pc, ls, x :: .ref q :: rest) := by
  refine Z_putf C ht hl wi_Ps t_Ps t_Ps_ok n_Ps (ci := 4) (by rw [HM_p hn, hset_s]) rfl hj hlink (Or.inr hown) hna hfit hB ?_
  rw [HM_ps hn, hset_2]
  exact kk
end ZPP
def pq4 (F : Nat → Nat) : Nat → Nat := fun i => qtr F i 9
def fs0 : Nat → Value := fun j => defaultValue (t_Ps j)
set_option maxRecDepth 20000 in
theorem ct_Ps_init_n {E : zE} (hE : zEv E) {l : Launch} (hl : l.stackTraces = false) {D : zD} (hD : zDok E D) (V : Nat → Nat → Int32) (P : Nat → Nat → Value) (PH : aH) (b : Nat) (hb : isB b) (hF : okF (bF V b)) (hP : okP D PH) (q0 t : Nat) (ht : t < 2) (hn0 : notD D q0) (hBq : zB E ≤ q0) (hPq : PH q0 = none) (L : List zPos) (hch : chn PH (.null) L) (sz : Nat) : zK E l y_Ps_init [.code y_Ps_init c_Ps_init 4 none] rm_Ps_init [.ref q0, .null, .ref (D.1 b), .int (nI t)] (HM D V P (hset PH q0 (4, 0, fs0))) sz (zRet none (HM D V P (hset PH q0 (pcl (.null) t (pq4 (bF V b)) (1 + tbf t (pq4 (bF V b)) L)))) sz) := by
  refine zK_of hE hl (by decide +kernel) [some (.ref q0), some (.null), some (.ref (D.1 b)), some (.int (nI t))] ⟨rfl, rfl, Nat.le_of_ble_eq_true rfl⟩ ?_
  intro G C q
  refine Z_run C it_Ps_init 1 (f2 := (1, [some (.ref q0), some (.null), some (.ref (D.1 b)), some (.int (nI t))], [.ref q0])) rfl ?_
  refine Z_oinit C it_Ps_init rfl ml_Ps_o wO_in wO_co rfl ⟨by decide, by decide⟩ ?_
  refine Z_run C it_Ps_init 2 (f2 := (6, [some (.ref q0), some (.null), some (.ref (D.1 b)), some (.int (nI t))], [.null, .ref q0])) rfl ?_
  refine Zp_put C it_Ps_init rfl (j := 0) hn0 hBq (by decide) fl_Ps_7 ⟨rfl, rfl⟩ (x := .null) rfl rfl ?_
  refine Z_run C it_Ps_init 2 (f2 := (11, [some (.ref q0), some (.null), some (.ref (D.1 b)), some (.int (nI t))], [.int (nI t), .ref q0])) rfl ?_
  refine Zp_put C it_Ps_init rfl (j := 1) hn0 hBq (by decide) fl_Ps_13 ⟨rfl, rfl⟩ (x := .int (nI t)) rfl rfl ?_
  refine Z_run C it_Ps_init 3 (f2 := (17, [some (.ref q0), some (.null), some (.ref (D.1 b)), some (.int (nI t))], [.int (nI 0), .ref (D.1 b), .ref q0])) rfl ?_
  refine Zr_callV C it_Ps_init hD rfl p_Bd_quarter ml_Ps_17 b (isB_i hb) (hb.1 _ _ _) rfl [.int (nI 0)] (ct_Bd_quarter C.ev C.l hD _ _ _ b hb hF 0 (by omega) _) rfl rfl ⟨by decide, by decide, by decide, by decide⟩ (Nat.le_of_ble_eq_true rfl) rfl ?_
  show Z E G (HM D V P (hset PH q0 (4, 0, (updV (updV fs0 0 (.null)) 1 (.int (nI t)))))) sz 0 0 (20, [some (.ref q0), some (.null), some (.ref (D.1 b)), some (.int (nI t))], [.long (lN (qtr (bF V b) 0 9)), .ref q0])
  refine Zp_put C it_Ps_init rfl (j := 2) hn0 hBq (by decide) fl_Ps_23 ⟨rfl, rfl⟩ (x := .long (lN (qtr (bF V b) 0 9))) rfl rfl ?_
  refine Z_run C it_Ps_init 3 (f2 := (26, [some (.ref q0), some (.null), some (.ref (D.1 b)), some (.int (nI t))], [.int (nI 1), .ref (D.1 b), .ref q0])) rfl ?_
  refine Zr_callV C it_Ps_init hD rfl p_Bd_quarter ml_Ps_17 b (isB_i hb) (hb.1 _ _ _) rfl [.int (nI 1)] (ct_Bd_quarter C.ev C.l hD _ _ _ b hb hF 1 (by omega) _) rfl rfl ⟨by decide, by decide, by decide, by decide⟩ (Nat.le_of_ble_eq_true rfl) rfl ?_
  show Z E G (HM D V P (hset PH q0 (4, 0, (updV (updV (updV fs0 0 (.null)) 1 (.int (nI t))) 2 (.long (lN (qtr (bF V b) 0 9))))))) sz 0 0 (29, [some (.ref q0), some (.null), some (.ref (D.1 b)), some (.int (nI t))], [.long (lN (qtr (bF V b) 1 9)), .ref q0])
  refine Zp_put C it_Ps_init rfl (j := 3) hn0 hBq (by decide) fl_Ps_27 ⟨rfl, rfl⟩ (x := .long (lN (qtr (bF V b) 1 9))) rfl rfl ?_
  refine Z_run C it_Ps_init 3 (f2 := (35, [some (.ref q0), some (.null), some (.ref (D.1 b)), some (.int (nI t))], [.int (nI 2), .ref (D.1 b), .ref q0])) rfl ?_
  refine Zr_callV C it_Ps_init hD rfl p_Bd_quarter ml_Ps_17 b (isB_i hb) (hb.1 _ _ _) rfl [.int (nI 2)] (ct_Bd_quarter C.ev C.l hD _ _ _ b hb hF 2 (by omega) _) rfl rfl ⟨by decide, by decide, by decide, by decide⟩ (Nat.le_of_ble_eq_true rfl) rfl ?_
  show Z E G (HM D V P (hset PH q0 (4, 0, (updV (updV (updV (updV fs0 0 (.null)) 1 (.int (nI t))) 2 (.long (lN (qtr (bF V b) 0 9)))) 3 (.long (lN (qtr (bF V b) 1 9))))))) sz 0 0 (38, [some (.ref q0), some (.null), some (.ref (D.1 b)), some (.int (nI t))], [.long (lN (qtr (bF V b) 2 9)), .ref q0])
  refine Zp_put C it_Ps_init rfl (j := 4) hn0 hBq (by decide) fl_Ps_30 ⟨rfl, rfl⟩ (x := .long (lN (qtr (bF V b) 2 9))) rfl rfl ?_
  refine Z_run C it_Ps_init 3 (f2 := (44, [some (.ref q0), some (.null), some (.ref (D.1 b)), some (.int (nI t))], [.int (nI 3), .ref (D.1 b), .ref q0])) rfl ?_
  refine Zr_callV C it_Ps_init hD rfl p_Bd_quarter ml_Ps_17 b (isB_i hb) (hb.1 _ _ _) rfl [.int (nI 3)] (ct_Bd_quarter C.ev C.l hD _ _ _ b hb hF 3 (by omega) _) rfl rfl ⟨by decide, by decide, by decide, by decide⟩ (Nat.le_of_ble_eq_true rfl) rfl ?_
  show Z E G (HM D V P (hset PH q0 (4, 0, (updV (updV (updV (updV (updV fs0 0 (.null)) 1 (.int (nI t))) 2 (.long (lN (qtr (bF V b) 0 9)))) 3 (.long (lN (qtr (bF V b) 1 9)))) 4 (.long (lN (qtr (bF V b) 2 9))))))) sz 0 0 (47, [some (.ref q0), some (.null), some (.ref (D.1 b)), some (.int (nI t))], [.long (lN (qtr (bF V b) 3 9)), .ref q0])
  refine Zp_put C it_Ps_init rfl (j := 5) hn0 hBq (by decide) fl_Ps_33 ⟨rfl, rfl⟩ (x := .long (lN (qtr (bF V b) 3 9))) rfl rfl ?_
  refine Z_run C it_Ps_init 3 (f2 := (53, [some (.ref q0), some (.null), some (.ref (D.1 b)), some (.int (nI t))], [.ref q0, .int (nI 1), .ref q0])) rfl ?_
  refine Zr_callVh C it_Ps_init rfl p_Ps_timesBefore ml_Ps_36 [] (ct_Ps_timesBefore_n C.ev C.l hD V P PH hP q0 t (pq4 (bF V b)) _ hn0 hPq ⟨rfl, rfl, rfl, rfl, rfl, ht, fun i hi => qtr_63 hF (by omega) (by omega)⟩ rfl L hch _) rfl rfl (by rw [HM_p hn0, hset_s]) rfl ⟨by decide, by decide, by decide, by decide⟩ (Nat.le_of_ble_eq_true rfl) rfl ?_
  show Z E G (HM D V P (hset PH q0 (4, 0, (updV (updV (updV (updV (updV (updV fs0 0 (.null)) 1 (.int (nI t))) 2 (.long (lN (qtr (bF V b) 0 9)))) 3 (.long (lN (qtr (bF V b) 1 9)))) 4 (.long (lN (qtr (bF V b) 2 9)))) 5 (.long (lN (qtr (bF V b) 3 9))))))) sz 0 0 (56, [some (.ref q0), some (.null), some (.ref (D.1 b)), some (.int (nI t))], [.int (nI (tbf t (pq4 (bF V b)) L)), .int (nI 1), .ref q0])
  refine Z_run C it_Ps_init 1 (f2 := (57, [some (.ref q0), some (.null), some (.ref (D.1 b)), some (.int (nI t))], [.int (nI 1 + nI (tbf t (pq4 (bF V b)) L)), .ref q0])) rfl ?_
  rw [nI_add 1 (tbf t (pq4 (bF V b)) L)]
  refine Zp_put C it_Ps_init rfl (j := 6) hn0 hBq (by decide) fl_Ps_40 ⟨rfl, rfl⟩ (x := .int (nI (1 + tbf t (pq4 (bF V b)) L))) rfl rfl ?_
  have pcl_e : (4, 0, (updV (updV (updV (updV (updV (updV (updV fs0 0 (.null)) 1 (.int (nI t))) 2 (.long (lN (qtr (bF V b) 0 9)))) 3 (.long (lN (qtr (bF V b) 1 9)))) 4 (.long (lN (qtr (bF V b) 2 9)))) 5 (.long (lN (qtr (bF V b) 3 9)))) 6 (.int (nI (1 + tbf t (pq4 (bF V b)) L))))) = pcl (.null) t (pq4 (bF V b)) (1 + tbf t (pq4 (bF V b)) L) := by
    unfold pcl
    congr 2
    funext k9
    match k9 with
    | 0 => rfl
    | 1 => rfl
    | 2 => rfl
    | 3 => rfl
    | 4 => rfl
    | 5 => rfl
    | 6 => rfl
    | k9 + 7 => simp [updV, fs0]
  exact Z_vret C q it_Ps_init rfl (zRet_vH (by rw [pcl_e])) (by decide) (by decide)
set_option maxRecDepth 20000 in
theorem ct_Ps_init_r {E : zE} (hE : zEv E) {l : Launch} (hl : l.stackTraces = false) {D : zD} (hD : zDok E D) (V : Nat → Nat → Int32) (P : Nat → Nat → Value) (PH : aH) (b : Nat) (hb : isB b) (hF : okF (bF V b)) (hP : okP D PH) (q0 t : Nat) (ht : t < 2) (hn0 : notD D q0) (hBq : zB E ≤ q0) (hPq : PH q0 = none) (q9 : Nat) (L : List zPos) (hch : chn PH (.ref q9) L) (sz : Nat) : zK E l y_Ps_init [.code y_Ps_init c_Ps_init 4 none] rm_Ps_init [.ref q0, .ref q9, .ref (D.1 b), .int (nI t)] (HM D V P (hset PH q0 (4, 0, fs0))) sz (zRet none (HM D V P (hset PH q0 (pcl (.ref q9) t (pq4 (bF V b)) (1 + tbf t (pq4 (bF V b)) L)))) sz) := by
  refine zK_of hE hl (by decide +kernel) [some (.ref q0), some (.ref q9), some (.ref (D.1 b)), some (.int (nI t))] ⟨rfl, rfl, Nat.le_of_ble_eq_true rfl⟩ ?_
  intro G C q
  refine Z_run C it_Ps_init 1 (f2 := (1, [some (.ref q0), some (.ref q9), some (.ref (D.1 b)), some (.int (nI t))], [.ref q0])) rfl ?_
  refine Z_oinit C it_Ps_init rfl ml_Ps_o wO_in wO_co rfl ⟨by decide, by decide⟩ ?_
  refine Z_run C it_Ps_init 2 (f2 := (6, [some (.ref q0), some (.ref q9), some (.ref (D.1 b)), some (.int (nI t))], [.ref q9, .ref q0])) rfl ?_
  refine Zp_put C it_Ps_init rfl (j := 0) hn0 hBq (by decide) fl_Ps_7 ⟨rfl, rfl⟩ (x := .ref q9) rfl rfl ?_
  refine Z_run C it_Ps_init 2 (f2 := (11, [some (.ref q0), some (.ref q9), some (.ref (D.1 b)), some (.int (nI t))], [.int (nI t), .ref q0])) rfl ?_
  refine Zp_put C it_Ps_init rfl (j := 1) hn0 hBq (by decide) fl_Ps_13 ⟨rfl, rfl⟩ (x := .int (nI t)) rfl rfl ?_
  refine Z_run C it_Ps_init 3 (f2 := (17, [some (.ref q0), some (.ref q9), some (.ref (D.1 b)), some (.int (nI t))], [.int (nI 0), .ref (D.1 b), .ref q0])) rfl ?_
  refine Zr_callV C it_Ps_init hD rfl p_Bd_quarter ml_Ps_17 b (isB_i hb) (hb.1 _ _ _) rfl [.int (nI 0)] (ct_Bd_quarter C.ev C.l hD _ _ _ b hb hF 0 (by omega) _) rfl rfl ⟨by decide, by decide, by decide, by decide⟩ (Nat.le_of_ble_eq_true rfl) rfl ?_
  show Z E G (HM D V P (hset PH q0 (4, 0, (updV (updV fs0 0 (.ref q9)) 1 (.int (nI t)))))) sz 0 0 (20, [some (.ref q0), some (.ref q9), some (.ref (D.1 b)), some (.int (nI t))], [.long (lN (qtr (bF V b) 0 9)), .ref q0])
  refine Zp_put C it_Ps_init rfl (j := 2) hn0 hBq (by decide) fl_Ps_23 ⟨rfl, rfl⟩ (x := .long (lN (qtr (bF V b) 0 9))) rfl rfl ?_
  refine Z_run C it_Ps_init 3 (f2 := (26, [some (.ref q0), some (.ref q9), some (.ref (D.1 b)), some (.int (nI t))], [.int (nI 1), .ref (D.1 b), .ref q0])) rfl ?_
  refine Zr_callV C it_Ps_init hD rfl p_Bd_quarter ml_Ps_17 b (isB_i hb) (hb.1 _ _ _) rfl [.int (nI 1)] (ct_Bd_quarter C.ev C.l hD _ _ _ b hb hF 1 (by omega) _) rfl rfl ⟨by decide, by decide, by decide, by decide⟩ (Nat.le_of_ble_eq_true rfl) rfl ?_
  show Z E G (HM D V P (hset PH q0 (4, 0, (updV (updV (updV fs0 0 (.ref q9)) 1 (.int (nI t))) 2 (.long (lN (qtr (bF V b) 0 9))))))) sz 0 0 (29, [some (.ref q0), some (.ref q9), some (.ref (D.1 b)), some (.int (nI t))], [.long (lN (qtr (bF V b) 1 9)), .ref q0])
  refine Zp_put C it_Ps_init rfl (j := 3) hn0 hBq (by decide) fl_Ps_27 ⟨rfl, rfl⟩ (x := .long (lN (qtr (bF V b) 1 9))) rfl rfl ?_
  refine Z_run C it_Ps_init 3 (f2 := (35, [some (.ref q0), some (.ref q9), some (.ref (D.1 b)), some (.int (nI t))], [.int (nI 2), .ref (D.1 b), .ref q0])) rfl ?_
  refine Zr_callV C it_Ps_init hD rfl p_Bd_quarter ml_Ps_17 b (isB_i hb) (hb.1 _ _ _) rfl [.int (nI 2)] (ct_Bd_quarter C.ev C.l hD _ _ _ b hb hF 2 (by omega) _) rfl rfl ⟨by decide, by decide, by decide, by decide⟩ (Nat.le_of_ble_eq_true rfl) rfl ?_
  show Z E G (HM D V P (hset PH q0 (4, 0, (updV (updV (updV (updV fs0 0 (.ref q9)) 1 (.int (nI t))) 2 (.long (lN (qtr (bF V b) 0 9)))) 3 (.long (lN (qtr (bF V b) 1 9))))))) sz 0 0 (38, [some (.ref q0), some (.ref q9), some (.ref (D.1 b)), some (.int (nI t))], [.long (lN (qtr (bF V b) 2 9)), .ref q0])
  refine Zp_put C it_Ps_init rfl (j := 4) hn0 hBq (by decide) fl_Ps_30 ⟨rfl, rfl⟩ (x := .long (lN (qtr (bF V b) 2 9))) rfl rfl ?_
  refine Z_run C it_Ps_init 3 (f2 := (44, [some (.ref q0), some (.ref q9), some (.ref (D.1 b)), some (.int (nI t))], [.int (nI 3), .ref (D.1 b), .ref q0])) rfl ?_
  refine Zr_callV C it_Ps_init hD rfl p_Bd_quarter ml_Ps_17 b (isB_i hb) (hb.1 _ _ _) rfl [.int (nI 3)] (ct_Bd_quarter C.ev C.l hD _ _ _ b hb hF 3 (by omega) _) rfl rfl ⟨by decide, by decide, by decide, by decide⟩ (Nat.le_of_ble_eq_true rfl) rfl ?_
  show Z E G (HM D V P (hset PH q0 (4, 0, (updV (updV (updV (updV (updV fs0 0 (.ref q9)) 1 (.int (nI t))) 2 (.long (lN (qtr (bF V b) 0 9)))) 3 (.long (lN (qtr (bF V b) 1 9)))) 4 (.long (lN (qtr (bF V b) 2 9))))))) sz 0 0 (47, [some (.ref q0), some (.ref q9), some (.ref (D.1 b)), some (.int (nI t))], [.long (lN (qtr (bF V b) 3 9)), .ref q0])
  refine Zp_put C it_Ps_init rfl (j := 5) hn0 hBq (by decide) fl_Ps_33 ⟨rfl, rfl⟩ (x := .long (lN (qtr (bF V b) 3 9))) rfl rfl ?_
  refine Z_run C it_Ps_init 3 (f2 := (53, [some (.ref q0), some (.ref q9), some (.ref (D.1 b)), some (.int (nI t))], [.ref q0, .int (nI 1), .ref q0])) rfl ?_
  refine Zr_callVh C it_Ps_init rfl p_Ps_timesBefore ml_Ps_36 [] (ct_Ps_timesBefore_r C.ev C.l hD V P PH hP q0 t (pq4 (bF V b)) _ hn0 hPq ⟨rfl, rfl, rfl, rfl, rfl, ht, fun i hi => qtr_63 hF (by omega) (by omega)⟩ q9 rfl L hch _) rfl rfl (by rw [HM_p hn0, hset_s]) rfl ⟨by decide, by decide, by decide, by decide⟩ (Nat.le_of_ble_eq_true rfl) rfl ?_
  show Z E G (HM D V P (hset PH q0 (4, 0, (updV (updV (updV (updV (updV (updV fs0 0 (.ref q9)) 1 (.int (nI t))) 2 (.long (lN (qtr (bF V b) 0 9)))) 3 (.long (lN (qtr (bF V b) 1 9)))) 4 (.long (lN (qtr (bF V b) 2 9)))) 5 (.long (lN (qtr (bF V b) 3 9))))))) sz 0 0 (56, [some (.ref q0), some (.ref q9), some (.ref (D.1 b)), some (.int (nI t))], [.int (nI (tbf t (pq4 (bF V b)) L)), .int (nI 1), .ref q0])
  refine Z_run C it_Ps_init 1 (f2 := (57, [some (.ref q0), some (.ref q9), some (.ref (D.1 b)), some (.int (nI t))], [.int (nI 1 + nI (tbf t (pq4 (bF V b)) L)), .ref q0])) rfl ?_
  rw [nI_add 1 (tbf t (pq4 (bF V b)) L)]
  refine Zp_put C it_Ps_init rfl (j := 6) hn0 hBq (by decide) fl_Ps_40 ⟨rfl, rfl⟩ (x := .int (nI (1 + tbf t (pq4 (bF V b)) L))) rfl rfl ?_
  have pcl_e : (4, 0, (updV (updV (updV (updV (updV (updV (updV fs0 0 (.ref q9)) 1 (.int (nI t))) 2 (.long (lN (qtr (bF V b) 0 9)))) 3 (.long (lN (qtr (bF V b) 1 9)))) 4 (.long (lN (qtr (bF V b) 2 9)))) 5 (.long (lN (qtr (bF V b) 3 9)))) 6 (.int (nI (1 + tbf t (pq4 (bF V b)) L))))) = pcl (.ref q9) t (pq4 (bF V b)) (1 + tbf t (pq4 (bF V b)) L) := by
    unfold pcl
    congr 2
    funext k9
    match k9 with
    | 0 => rfl
    | 1 => rfl
    | 2 => rfl
    | 3 => rfl
    | 4 => rfl
    | 5 => rfl
    | 6 => rfl
    | k9 + 7 => simp [updV, fs0]
  exact Z_vret C q it_Ps_init rfl (zRet_vH (by rw [pcl_e])) (by decide) (by decide)
end
