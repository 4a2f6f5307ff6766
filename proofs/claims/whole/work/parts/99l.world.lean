theorem lw_pick {α : Type} {P : Nat → α → Prop} (h : ∀ k, ∃ z, P k z) : ∃ f : Nat → α, ∀ k, P k (f k) := ⟨fun k => Classical.choose (h k), fun k => Classical.choose_spec (h k)⟩
abbrev lwG : Cond := Jvm.Cond.and given_1 narrow_1
theorem lsr_0 : Cond.stringRef "EchoJars$ShopReader" 48 "sound" ∈ lw_tbl := List.mem_of_getElem? (i := 670) (by decide +kernel)
theorem lsr_1 : Cond.stringRef "EchoJars$Tape" 72 "sound" ∈ lw_tbl := List.mem_of_getElem? (i := 744) (by decide +kernel)
theorem lsr_2 : Cond.stringRef "EchoJars$Tape" 78 "jar" ∈ lw_tbl := List.mem_of_getElem? (i := 746) (by decide +kernel)
theorem lsr_3 : Cond.stringRef "EchoJars$Tape" 80 "size" ∈ lw_tbl := List.mem_of_getElem? (i := 747) (by decide +kernel)
theorem lsr_4 : Cond.stringRef "EchoJars$Tape" 81 "leaks" ∈ lw_tbl := List.mem_of_getElem? (i := 748) (by decide +kernel)
theorem lsr_5 : Cond.stringRef "EchoJars$Tape" 83 "head" ∈ lw_tbl := List.mem_of_getElem? (i := 749) (by decide +kernel)
theorem lsr_6 : Cond.stringRef "EchoJars$Tape" 85 "tail" ∈ lw_tbl := List.mem_of_getElem? (i := 750) (by decide +kernel)
theorem lsr_7 : Cond.stringRef "EchoJars$Tape" 87 "costs" ∈ lw_tbl := List.mem_of_getElem? (i := 751) (by decide +kernel)
theorem lsr_8 : Cond.stringRef "EchoJars$Tape" 89 "worth" ∈ lw_tbl := List.mem_of_getElem? (i := 752) (by decide +kernel)
theorem lsr_9 : Cond.stringRef "EchoJars$Tape" 91 "breaks" ∈ lw_tbl := List.mem_of_getElem? (i := 753) (by decide +kernel)
theorem lsr_10 : Cond.stringRef "EchoJars$Tape" 93 "fill" ∈ lw_tbl := List.mem_of_getElem? (i := 754) (by decide +kernel)
theorem lsr_11 : Cond.stringRef "EchoJars$Tape" 95 "of" ∈ lw_tbl := List.mem_of_getElem? (i := 755) (by decide +kernel)
theorem lsr_12 : Cond.stringRef "EchoJars$Tape" 97 "from" ∈ lw_tbl := List.mem_of_getElem? (i := 756) (by decide +kernel)
theorem lsr_13 : Cond.stringRef "EchoJars$Tape" 99 "on" ∈ lw_tbl := List.mem_of_getElem? (i := 757) (by decide +kernel)
theorem lsr_14 : Cond.stringRef "EchoJars$Tape" 101 "mix" ∈ lw_tbl := List.mem_of_getElem? (i := 758) (by decide +kernel)
theorem lsr_15 : Cond.stringRef "EchoJars$Tape" 103 "with" ∈ lw_tbl := List.mem_of_getElem? (i := 759) (by decide +kernel)
theorem lsr_16 : Cond.stringRef "EchoJars$Tape" 105 "gives" ∈ lw_tbl := List.mem_of_getElem? (i := 760) (by decide +kernel)
theorem lsr_17 : Cond.stringRef "EchoJars$Tape" 107 "any" ∈ lw_tbl := List.mem_of_getElem? (i := 761) (by decide +kernel)
theorem lsr_18 : Cond.stringRef "EchoJars$Tape" 109 "same" ∈ lw_tbl := List.mem_of_getElem? (i := 762) (by decide +kernel)
theorem lsr_19 : Cond.stringRef "EchoJars$Tape" 111 "rest" ∈ lw_tbl := List.mem_of_getElem? (i := 763) (by decide +kernel)
theorem lsr_20 : Cond.stringRef "EchoJars$Tape" 113 "first" ∈ lw_tbl := List.mem_of_getElem? (i := 764) (by decide +kernel)
theorem lsr_21 : Cond.stringRef "EchoJars$Tape" 115 "second" ∈ lw_tbl := List.mem_of_getElem? (i := 765) (by decide +kernel)
theorem lsr_22 : Cond.stringRef "EchoJars$ShopReader" 57 "jar" ∈ lw_tbl := List.mem_of_getElem? (i := 794) (by decide +kernel)
theorem lsr_23 : Cond.stringRef "EchoJars$ShopReader" 99 "size" ∈ lw_tbl := List.mem_of_getElem? (i := 799) (by decide +kernel)
theorem lsr_24 : Cond.stringRef "EchoJars$ShopReader" 113 "leaks" ∈ lw_tbl := List.mem_of_getElem? (i := 813) (by decide +kernel)
theorem lsr_25 : Cond.stringRef "EchoJars$ShopReader" 139 "head" ∈ lw_tbl := List.mem_of_getElem? (i := 818) (by decide +kernel)
theorem lsr_26 : Cond.stringRef "EchoJars$ShopReader" 141 "tail" ∈ lw_tbl := List.mem_of_getElem? (i := 820) (by decide +kernel)
theorem lsr_27 : Cond.stringRef "EchoJars$ShopReader" 124 "costs" ∈ lw_tbl := List.mem_of_getElem? (i := 821) (by decide +kernel)
theorem lsr_28 : Cond.stringRef "EchoJars$ShopReader" 131 "worth" ∈ lw_tbl := List.mem_of_getElem? (i := 822) (by decide +kernel)
theorem lsr_29 : Cond.stringRef "EchoJars$ShopReader" 135 "breaks" ∈ lw_tbl := List.mem_of_getElem? (i := 823) (by decide +kernel)
theorem lsr_30 : Cond.stringRef "EchoJars$ShopReader" 62 "fill" ∈ lw_tbl := List.mem_of_getElem? (i := 824) (by decide +kernel)
theorem lsr_31 : Cond.stringRef "EchoJars$ShopReader" 147 "of" ∈ lw_tbl := List.mem_of_getElem? (i := 837) (by decide +kernel)
theorem lsr_32 : Cond.stringRef "EchoJars$ShopReader" 149 "from" ∈ lw_tbl := List.mem_of_getElem? (i := 838) (by decide +kernel)
theorem lsr_33 : Cond.stringRef "EchoJars$ShopReader" 154 "on" ∈ lw_tbl := List.mem_of_getElem? (i := 839) (by decide +kernel)
theorem lsr_34 : Cond.stringRef "EchoJars$LawReader" 39 "mix" ∈ lw_tbl := List.mem_of_getElem? (i := 868) (by decide +kernel)
theorem lsr_35 : Cond.stringRef "EchoJars$LawReader" 70 "any" ∈ lw_tbl := List.mem_of_getElem? (i := 876) (by decide +kernel)
theorem lsr_36 : Cond.stringRef "EchoJars$LawReader" 82 "rest" ∈ lw_tbl := List.mem_of_getElem? (i := 882) (by decide +kernel)
theorem lsr_37 : Cond.stringRef "EchoJars$LawReader" 56 "with" ∈ lw_tbl := List.mem_of_getElem? (i := 886) (by decide +kernel)
theorem lsr_38 : Cond.stringRef "EchoJars$LawReader" 58 "gives" ∈ lw_tbl := List.mem_of_getElem? (i := 887) (by decide +kernel)
theorem lsr_39 : Cond.stringRef "EchoJars$LawReader" 78 "first" ∈ lw_tbl := List.mem_of_getElem? (i := 892) (by decide +kernel)
theorem lsr_40 : Cond.stringRef "EchoJars$LawReader" 80 "second" ∈ lw_tbl := List.mem_of_getElem? (i := 893) (by decide +kernel)
theorem lsr : ∀ q ∈ strT, Cond.stringRef q.2.1 q.2.2.1 q.2.2.2.1 ∈ lw_tbl := List.forall_mem_cons.mpr ⟨lsr_0, List.forall_mem_cons.mpr ⟨lsr_1, List.forall_mem_cons.mpr ⟨lsr_2, List.forall_mem_cons.mpr ⟨lsr_3, List.forall_mem_cons.mpr ⟨lsr_4, List.forall_mem_cons.mpr ⟨lsr_5, List.forall_mem_cons.mpr ⟨lsr_6, List.forall_mem_cons.mpr ⟨lsr_7, List.forall_mem_cons.mpr ⟨lsr_8, List.forall_mem_cons.mpr ⟨lsr_9, List.forall_mem_cons.mpr ⟨lsr_10, List.forall_mem_cons.mpr ⟨lsr_11, List.forall_mem_cons.mpr ⟨lsr_12, List.forall_mem_cons.mpr ⟨lsr_13, List.forall_mem_cons.mpr ⟨lsr_14, List.forall_mem_cons.mpr ⟨lsr_15, List.forall_mem_cons.mpr ⟨lsr_16, List.forall_mem_cons.mpr ⟨lsr_17, List.forall_mem_cons.mpr ⟨lsr_18, List.forall_mem_cons.mpr ⟨lsr_19, List.forall_mem_cons.mpr ⟨lsr_20, List.forall_mem_cons.mpr ⟨lsr_21, List.forall_mem_cons.mpr ⟨lsr_22, List.forall_mem_cons.mpr ⟨lsr_23, List.forall_mem_cons.mpr ⟨lsr_24, List.forall_mem_cons.mpr ⟨lsr_25, List.forall_mem_cons.mpr ⟨lsr_26, List.forall_mem_cons.mpr ⟨lsr_27, List.forall_mem_cons.mpr ⟨lsr_28, List.forall_mem_cons.mpr ⟨lsr_29, List.forall_mem_cons.mpr ⟨lsr_30, List.forall_mem_cons.mpr ⟨lsr_31, List.forall_mem_cons.mpr ⟨lsr_32, List.forall_mem_cons.mpr ⟨lsr_33, List.forall_mem_cons.mpr ⟨lsr_34, List.forall_mem_cons.mpr ⟨lsr_35, List.forall_mem_cons.mpr ⟨lsr_36, List.forall_mem_cons.mpr ⟨lsr_37, List.forall_mem_cons.mpr ⟨lsr_38, List.forall_mem_cons.mpr ⟨lsr_39, List.forall_mem_cons.mpr ⟨lsr_40, fun _ h => absurd h List.not_mem_nil⟩⟩⟩⟩⟩⟩⟩⟩⟩⟩⟩⟩⟩⟩⟩⟩⟩⟩⟩⟩⟩⟩⟩⟩⟩⟩⟩⟩⟩⟩⟩⟩⟩⟩⟩⟩⟩⟩⟩⟩⟩
theorem lnw_0 : Cond.methodLinkNest "EchoJars" 9 ⟨"EchoJars$Tray", "<init>", "()V"⟩ "EchoJars" ∈ lw_tbl := List.mem_of_getElem? (i := 170) (by decide +kernel)
theorem lnw_1 : Cond.methodLinkNest "EchoJars" 18 ⟨"EchoJars$Tape", "<init>", "()V"⟩ "EchoJars" ∈ lw_tbl := List.mem_of_getElem? (i := 190) (by decide +kernel)
theorem lnw_2 : Cond.methodLinkNest "EchoJars$Shop" 26 ⟨"EchoJars$Jar", "<init>", "()V"⟩ "EchoJars" ∈ lw_tbl := List.mem_of_getElem? (i := 264) (by decide +kernel)
theorem lnw_3 : Cond.methodLinkNest "EchoJars" 48 ⟨"EchoJars$Law", "<init>", "()V"⟩ "EchoJars" ∈ lw_tbl := List.mem_of_getElem? (i := 372) (by decide +kernel)
theorem lnw_4 : Cond.methodLinkNest "EchoJars" 97 ⟨"EchoJars$Planner", "<init>", "()V"⟩ "EchoJars" ∈ lw_tbl := List.mem_of_getElem? (i := 452) (by decide +kernel)
theorem lnw_5 : Cond.methodLinkNest "EchoJars$Tape" 128 ⟨"EchoJars", "within", "(JJJ)Z"⟩ "EchoJars" ∈ lw_tbl := List.mem_of_getElem? (i := 812) (by decide +kernel)
theorem lnw_6 : Cond.methodLinkNest "EchoJars$LawReader" 17 ⟨"EchoJars$Law", "<init>", "()V"⟩ "EchoJars" ∈ lw_tbl := List.mem_of_getElem? (i := 860) (by decide +kernel)
theorem lnw_7 : Cond.methodLinkNest "EchoJars$Tray" 38 ⟨"EchoJars", "within", "(JJJ)Z"⟩ "EchoJars" ∈ lw_tbl := List.mem_of_getElem? (i := 1074) (by decide +kernel)
theorem lnw_8 : Cond.methodLinkNest "EchoJars$Merger" 82 ⟨"EchoJars", "isIn", "(II)Z"⟩ "EchoJars" ∈ lw_tbl := List.mem_of_getElem? (i := 1210) (by decide +kernel)
theorem lnw_9 : Cond.methodLinkNest "EchoJars$Planner" 39 ⟨"EchoJars", "isIn", "(II)Z"⟩ "EchoJars" ∈ lw_tbl := List.mem_of_getElem? (i := 1299) (by decide +kernel)
theorem lnw_10 : Cond.methodLinkNest "EchoJars$Shop" 79 ⟨"EchoJars", "isIn", "(II)Z"⟩ "EchoJars" ∈ lw_tbl := List.mem_of_getElem? (i := 1366) (by decide +kernel)
theorem lnw : ∀ q ∈ nwL, Cond.methodLinkNest q.1 q.2.1 q.2.2.1 q.2.2.2 ∈ lw_tbl := List.forall_mem_cons.mpr ⟨lnw_0, List.forall_mem_cons.mpr ⟨lnw_1, List.forall_mem_cons.mpr ⟨lnw_2, List.forall_mem_cons.mpr ⟨lnw_3, List.forall_mem_cons.mpr ⟨lnw_4, List.forall_mem_cons.mpr ⟨lnw_5, List.forall_mem_cons.mpr ⟨lnw_6, List.forall_mem_cons.mpr ⟨lnw_7, List.forall_mem_cons.mpr ⟨lnw_8, List.forall_mem_cons.mpr ⟨lnw_9, List.forall_mem_cons.mpr ⟨lnw_10, fun _ h => absurd h List.not_mem_nil⟩⟩⟩⟩⟩⟩⟩⟩⟩⟩⟩
theorem lar_20 : Cond.arrayClass .byte ∈ lw_tbl := List.mem_of_getElem? (i := 223) (by decide +kernel)
theorem lar_21 : Cond.arrayClass .int ∈ lw_tbl := List.mem_of_getElem? (i := 262) (by decide +kernel)
theorem lar_22 : Cond.arrayClass .long ∈ lw_tbl := List.mem_of_getElem? (i := 187) (by decide +kernel)
theorem lar_23 : Cond.arrayClass .boolean ∈ lw_tbl := List.mem_of_getElem? (i := 449) (by decide +kernel)
theorem lar_24 : Cond.arrayOver (.object "EchoJars$Jar") ∈ lw_tbl := List.mem_of_getElem? (i := 239) (by decide +kernel)
theorem lar_25 : Cond.arrayOver (.object "EchoJars$Mark") ∈ lw_tbl := List.mem_of_getElem? (i := 392) (by decide +kernel)
theorem lar_26 : Cond.arrayOver (.object "EchoJars$Row") ∈ lw_tbl := List.mem_of_getElem? (i := 237) (by decide +kernel)
theorem lar_27 : Cond.arrayOver (.object "EchoJars$Tray") ∈ lw_tbl := List.mem_of_getElem? (i := 168) (by decide +kernel)
theorem lst_1 : Cond.laysStatic "java/lang/String" "COMPACT_STRINGS" "Z" ∈ lw_tbl := List.mem_of_getElem? (i := 684) (by decide +kernel)
theorem lst_2 : Cond.laysStatic "jdk/internal/util/Preconditions" "SIOOBE_FORMATTER" "Ljava/util/function/BiFunction;" ∈ lw_tbl := List.mem_of_getElem? (i := 704) (by decide +kernel)
theorem lst_3 : Cond.initialized "java/lang/String" ∈ lw_tbl := List.mem_of_getElem? (i := 154) (by decide +kernel)
theorem lst_4 : Cond.initialized "jdk/internal/util/Preconditions" ∈ lw_tbl := List.mem_of_getElem? (i := 156) (by decide +kernel)
theorem lfl_1 : Cond.eq (.static "java/lang/String" "COMPACT_STRINGS" "Z") (.int 1) ∈ flatC lwG := List.mem_of_getElem? (i := 4) (by decide +kernel)
theorem lfl_2 : Cond.isRef (.static "jdk/internal/util/Preconditions" "SIOOBE_FORMATTER" "Ljava/util/function/BiFunction;") ∈ flatC lwG := List.mem_of_getElem? (i := 5) (by decide +kernel)
/-- what the Statement says of a text constant -/
def strW (q : Nat × String × Nat × String × List Nat) : List Cond :=
  Cond.exactly (.string q.2.1 q.2.2.1) "java/lang/String" :: Cond.eq (.field (.string q.2.1 q.2.2.1) "java/lang/String" "coder" "B") (.int 0) :: Cond.arrayOf (.field (.string q.2.1 q.2.2.1) "java/lang/String" "value" "[B") .byte :: Cond.eq (.length (.field (.string q.2.1 q.2.2.1) "java/lang/String" "value" "[B")) (.int (Int32.ofNat q.2.2.2.2.length)) :: (List.range q.2.2.2.2.length).map (fun j => Cond.eq (.elem (.field (.string q.2.1 q.2.2.1) "java/lang/String" "value" "[B") (.int (Int32.ofNat j))) (.int (strB q.2.2.2.2 j)))
theorem strW_mem {q : Nat × String × Nat × String × List Nat} (p n : Nat) (e : ((flatC lwG).drop p).take n = strW q) : ∀ w ∈ strW q, w ∈ flatC lwG := fun w hw => by
  rw [← e] at hw
  exact List.mem_of_mem_drop (List.mem_of_mem_take hw)
theorem lsw_0 : ∀ w ∈ strW (0, "EchoJars$ShopReader", 48, "sound", [115, 111, 117, 110, 100]), w ∈ flatC lwG := strW_mem 61 9 (by decide +kernel)
theorem lsw_1 : ∀ w ∈ strW (1, "EchoJars$Tape", 72, "sound", [115, 111, 117, 110, 100]), w ∈ flatC lwG := strW_mem 70 9 (by decide +kernel)
theorem lsw_2 : ∀ w ∈ strW (2, "EchoJars$Tape", 78, "jar", [106, 97, 114]), w ∈ flatC lwG := strW_mem 80 7 (by decide +kernel)
theorem lsw_3 : ∀ w ∈ strW (3, "EchoJars$Tape", 80, "size", [115, 105, 122, 101]), w ∈ flatC lwG := strW_mem 87 8 (by decide +kernel)
theorem lsw_4 : ∀ w ∈ strW (4, "EchoJars$Tape", 81, "leaks", [108, 101, 97, 107, 115]), w ∈ flatC lwG := strW_mem 95 9 (by decide +kernel)
theorem lsw_5 : ∀ w ∈ strW (5, "EchoJars$Tape", 83, "head", [104, 101, 97, 100]), w ∈ flatC lwG := strW_mem 104 8 (by decide +kernel)
theorem lsw_6 : ∀ w ∈ strW (6, "EchoJars$Tape", 85, "tail", [116, 97, 105, 108]), w ∈ flatC lwG := strW_mem 112 8 (by decide +kernel)
theorem lsw_7 : ∀ w ∈ strW (7, "EchoJars$Tape", 87, "costs", [99, 111, 115, 116, 115]), w ∈ flatC lwG := strW_mem 120 9 (by decide +kernel)
theorem lsw_8 : ∀ w ∈ strW (8, "EchoJars$Tape", 89, "worth", [119, 111, 114, 116, 104]), w ∈ flatC lwG := strW_mem 129 9 (by decide +kernel)
theorem lsw_9 : ∀ w ∈ strW (9, "EchoJars$Tape", 91, "breaks", [98, 114, 101, 97, 107, 115]), w ∈ flatC lwG := strW_mem 138 10 (by decide +kernel)
theorem lsw_10 : ∀ w ∈ strW (10, "EchoJars$Tape", 93, "fill", [102, 105, 108, 108]), w ∈ flatC lwG := strW_mem 148 8 (by decide +kernel)
theorem lsw_11 : ∀ w ∈ strW (11, "EchoJars$Tape", 95, "of", [111, 102]), w ∈ flatC lwG := strW_mem 156 6 (by decide +kernel)
theorem lsw_12 : ∀ w ∈ strW (12, "EchoJars$Tape", 97, "from", [102, 114, 111, 109]), w ∈ flatC lwG := strW_mem 162 8 (by decide +kernel)
theorem lsw_13 : ∀ w ∈ strW (13, "EchoJars$Tape", 99, "on", [111, 110]), w ∈ flatC lwG := strW_mem 170 6 (by decide +kernel)
theorem lsw_14 : ∀ w ∈ strW (14, "EchoJars$Tape", 101, "mix", [109, 105, 120]), w ∈ flatC lwG := strW_mem 176 7 (by decide +kernel)
theorem lsw_15 : ∀ w ∈ strW (15, "EchoJars$Tape", 103, "with", [119, 105, 116, 104]), w ∈ flatC lwG := strW_mem 183 8 (by decide +kernel)
theorem lsw_16 : ∀ w ∈ strW (16, "EchoJars$Tape", 105, "gives", [103, 105, 118, 101, 115]), w ∈ flatC lwG := strW_mem 191 9 (by decide +kernel)
theorem lsw_17 : ∀ w ∈ strW (17, "EchoJars$Tape", 107, "any", [97, 110, 121]), w ∈ flatC lwG := strW_mem 200 7 (by decide +kernel)
theorem lsw_18 : ∀ w ∈ strW (18, "EchoJars$Tape", 109, "same", [115, 97, 109, 101]), w ∈ flatC lwG := strW_mem 207 8 (by decide +kernel)
theorem lsw_19 : ∀ w ∈ strW (19, "EchoJars$Tape", 111, "rest", [114, 101, 115, 116]), w ∈ flatC lwG := strW_mem 215 8 (by decide +kernel)
theorem lsw_20 : ∀ w ∈ strW (20, "EchoJars$Tape", 113, "first", [102, 105, 114, 115, 116]), w ∈ flatC lwG := strW_mem 223 9 (by decide +kernel)
theorem lsw_21 : ∀ w ∈ strW (21, "EchoJars$Tape", 115, "second", [115, 101, 99, 111, 110, 100]), w ∈ flatC lwG := strW_mem 232 10 (by decide +kernel)
theorem lsw_22 : ∀ w ∈ strW (22, "EchoJars$ShopReader", 57, "jar", [106, 97, 114]), w ∈ flatC lwG := strW_mem 242 7 (by decide +kernel)
theorem lsw_23 : ∀ w ∈ strW (23, "EchoJars$ShopReader", 99, "size", [115, 105, 122, 101]), w ∈ flatC lwG := strW_mem 250 8 (by decide +kernel)
theorem lsw_24 : ∀ w ∈ strW (24, "EchoJars$ShopReader", 113, "leaks", [108, 101, 97, 107, 115]), w ∈ flatC lwG := strW_mem 259 9 (by decide +kernel)
theorem lsw_25 : ∀ w ∈ strW (25, "EchoJars$ShopReader", 139, "head", [104, 101, 97, 100]), w ∈ flatC lwG := strW_mem 269 8 (by decide +kernel)
theorem lsw_26 : ∀ w ∈ strW (26, "EchoJars$ShopReader", 141, "tail", [116, 97, 105, 108]), w ∈ flatC lwG := strW_mem 278 8 (by decide +kernel)
theorem lsw_27 : ∀ w ∈ strW (27, "EchoJars$ShopReader", 124, "costs", [99, 111, 115, 116, 115]), w ∈ flatC lwG := strW_mem 287 9 (by decide +kernel)
theorem lsw_28 : ∀ w ∈ strW (28, "EchoJars$ShopReader", 131, "worth", [119, 111, 114, 116, 104]), w ∈ flatC lwG := strW_mem 297 9 (by decide +kernel)
theorem lsw_29 : ∀ w ∈ strW (29, "EchoJars$ShopReader", 135, "breaks", [98, 114, 101, 97, 107, 115]), w ∈ flatC lwG := strW_mem 307 10 (by decide +kernel)
theorem lsw_30 : ∀ w ∈ strW (30, "EchoJars$ShopReader", 62, "fill", [102, 105, 108, 108]), w ∈ flatC lwG := strW_mem 318 8 (by decide +kernel)
theorem lsw_31 : ∀ w ∈ strW (31, "EchoJars$ShopReader", 147, "of", [111, 102]), w ∈ flatC lwG := strW_mem 327 6 (by decide +kernel)
theorem lsw_32 : ∀ w ∈ strW (32, "EchoJars$ShopReader", 149, "from", [102, 114, 111, 109]), w ∈ flatC lwG := strW_mem 334 8 (by decide +kernel)
theorem lsw_33 : ∀ w ∈ strW (33, "EchoJars$ShopReader", 154, "on", [111, 110]), w ∈ flatC lwG := strW_mem 343 6 (by decide +kernel)
theorem lsw_34 : ∀ w ∈ strW (34, "EchoJars$LawReader", 39, "mix", [109, 105, 120]), w ∈ flatC lwG := strW_mem 350 7 (by decide +kernel)
theorem lsw_35 : ∀ w ∈ strW (35, "EchoJars$LawReader", 70, "any", [97, 110, 121]), w ∈ flatC lwG := strW_mem 358 7 (by decide +kernel)
theorem lsw_36 : ∀ w ∈ strW (36, "EchoJars$LawReader", 82, "rest", [114, 101, 115, 116]), w ∈ flatC lwG := strW_mem 366 8 (by decide +kernel)
theorem lsw_37 : ∀ w ∈ strW (37, "EchoJars$LawReader", 56, "with", [119, 105, 116, 104]), w ∈ flatC lwG := strW_mem 375 8 (by decide +kernel)
theorem lsw_38 : ∀ w ∈ strW (38, "EchoJars$LawReader", 58, "gives", [103, 105, 118, 101, 115]), w ∈ flatC lwG := strW_mem 384 9 (by decide +kernel)
theorem lsw_39 : ∀ w ∈ strW (39, "EchoJars$LawReader", 78, "first", [102, 105, 114, 115, 116]), w ∈ flatC lwG := strW_mem 394 9 (by decide +kernel)
theorem lsw_40 : ∀ w ∈ strW (40, "EchoJars$LawReader", 80, "second", [115, 101, 99, 111, 110, 100]), w ∈ flatC lwG := strW_mem 404 10 (by decide +kernel)
theorem lsw : ∀ q ∈ strT, ∀ w ∈ strW q, w ∈ flatC lwG := List.forall_mem_cons.mpr ⟨lsw_0, List.forall_mem_cons.mpr ⟨lsw_1, List.forall_mem_cons.mpr ⟨lsw_2, List.forall_mem_cons.mpr ⟨lsw_3, List.forall_mem_cons.mpr ⟨lsw_4, List.forall_mem_cons.mpr ⟨lsw_5, List.forall_mem_cons.mpr ⟨lsw_6, List.forall_mem_cons.mpr ⟨lsw_7, List.forall_mem_cons.mpr ⟨lsw_8, List.forall_mem_cons.mpr ⟨lsw_9, List.forall_mem_cons.mpr ⟨lsw_10, List.forall_mem_cons.mpr ⟨lsw_11, List.forall_mem_cons.mpr ⟨lsw_12, List.forall_mem_cons.mpr ⟨lsw_13, List.forall_mem_cons.mpr ⟨lsw_14, List.forall_mem_cons.mpr ⟨lsw_15, List.forall_mem_cons.mpr ⟨lsw_16, List.forall_mem_cons.mpr ⟨lsw_17, List.forall_mem_cons.mpr ⟨lsw_18, List.forall_mem_cons.mpr ⟨lsw_19, List.forall_mem_cons.mpr ⟨lsw_20, List.forall_mem_cons.mpr ⟨lsw_21, List.forall_mem_cons.mpr ⟨lsw_22, List.forall_mem_cons.mpr ⟨lsw_23, List.forall_mem_cons.mpr ⟨lsw_24, List.forall_mem_cons.mpr ⟨lsw_25, List.forall_mem_cons.mpr ⟨lsw_26, List.forall_mem_cons.mpr ⟨lsw_27, List.forall_mem_cons.mpr ⟨lsw_28, List.forall_mem_cons.mpr ⟨lsw_29, List.forall_mem_cons.mpr ⟨lsw_30, List.forall_mem_cons.mpr ⟨lsw_31, List.forall_mem_cons.mpr ⟨lsw_32, List.forall_mem_cons.mpr ⟨lsw_33, List.forall_mem_cons.mpr ⟨lsw_34, List.forall_mem_cons.mpr ⟨lsw_35, List.forall_mem_cons.mpr ⟨lsw_36, List.forall_mem_cons.mpr ⟨lsw_37, List.forall_mem_cons.mpr ⟨lsw_38, List.forall_mem_cons.mpr ⟨lsw_39, List.forall_mem_cons.mpr ⟨lsw_40, fun _ h => absurd h List.not_mem_nil⟩⟩⟩⟩⟩⟩⟩⟩⟩⟩⟩⟩⟩⟩⟩⟩⟩⟩⟩⟩⟩⟩⟩⟩⟩⟩⟩⟩⟩⟩⟩⟩⟩⟩⟩⟩⟩⟩⟩⟩⟩
theorem strT_ix {i : Nat} {q : Nat × String × Nat × String × List Nat} (h : strT[i]? = some q) : q.1 = i := by
  have z : (strT.map fun q => q.1)[i]? = some q.1 := by rw [List.getElem?_map, h]; rfl
  rw [show (strT.map fun q => q.1) = List.range 41 from rfl] at z
  obtain ⟨h1, h2⟩ := List.getElem?_eq_some_iff.mp z
  rw [List.getElem_range] at h2
  exact h2.symm
theorem strT_l : ∀ q ∈ strT, q.1 < 100 ∧ q.2.2.2.2.length < 2 ^ 31 := by decide
/-- a text constant at the start -/
def KSq (s : State) (q : Nat × String × Nat × String × List Nat) (z : Nat × Nat) : Prop := vk_R q.2.1 q.2.2.1 q.2.2.2.1 z.1 s ∧ va_O "java/lang/String" z.1 (fun a => s.heap.size ≤ a) s s.heap ∧ va_OF "java/lang/String" "coder" "B" (.int 0) z.1 (fun a => s.heap.size ≤ a) s s.heap ∧ va_OF "java/lang/String" "value" "[B" (.ref z.2) z.1 (fun a => s.heap.size ≤ a) s s.heap ∧ va_T .byte z.2 q.2.2.2.2.length (fun j => .int (strB q.2.2.2.2 j)) (fun a => s.heap.size ≤ a) s s.heap
theorem lw_str {b : Nat} {s : State} (hts : ∀ w ∈ lw_tbl, w.before #[Value.ref b] s = true) (hs : ∀ w ∈ flatC lwG, w.before #[Value.ref b] s = true) {q : Nat × String × Nat × String × List Nat} (hq : q ∈ strT) : ∃ z : Nat × Nat, KSq s q z := by
  have hA : ∀ a : Nat, a < s.heap.size → ¬ s.heap.size ≤ a := fun a h => Nat.not_le.mpr h
  have w : ∀ w ∈ strW q, w.before #[Value.ref b] s = true := fun w hw => hs w (lsw q hq w hw)
  have w1 := w _ List.mem_cons_self
  have w2 := w _ (List.mem_cons_of_mem _ List.mem_cons_self)
  have w3 := w _ (List.mem_cons_of_mem _ (List.mem_cons_of_mem _ List.mem_cons_self))
  have w4 := w _ (List.mem_cons_of_mem _ (List.mem_cons_of_mem _ (List.mem_cons_of_mem _ List.mem_cons_self)))
  have w5 : ∀ j, j < q.2.2.2.2.length → (Cond.eq (.elem (.field (.string q.2.1 q.2.2.1) "java/lang/String" "value" "[B") (.int (Int32.ofNat j))) (.int (strB q.2.2.2.2 j))).before #[Value.ref b] s = true := fun j hj => w _ (List.mem_cons_of_mem _ (List.mem_cons_of_mem _ (List.mem_cons_of_mem _ (List.mem_cons_of_mem _ (List.mem_map.mpr ⟨j, List.mem_range.mpr hj, rfl⟩)))))
  obtain ⟨a, c, cA, kA, q1, q2, q3, q4, q5, q6, -⟩ := Cond.exactly_spec (args := #[Value.ref b]) (first := s) (o := none) (s := s) (idx := []) (t := .string q.2.1 q.2.2.1) (cls := "java/lang/String") w1
  obtain ⟨t, ht, hT⟩ := va_Tof (f := fun j => .int (strB q.2.2.2.2 j)) (A := fun a => s.heap.size ≤ a) (strT_l q hq).2 w3 (va_eqt w4) (fun j hj => va_eqt (w5 j hj)) hA
  exact ⟨(a, t), vk_R.of (hts _ (lsr q hq)) q1, ⟨cA, q3, q5, by rw [q6]; exact q2, hA a (Array.getElem?_eq_some_iff.mp q3).1⟩, vk_OFof q1 (va_eqt w2) hA, vk_OFof q1 ht hA, hT⟩
theorem lw_arp {b : Nat} {s : State} {ty : FieldType} (hc : ∀ cA, s.vm.findClass ("[" ++ ty.toString) = some cA → va_RA s cA ty) (h : (Cond.arrayClass ty).before #[Value.ref b] s = true) : ∃ cA, ArrOfT s cA ty ∧ va_RA s cA ty := by
  obtain ⟨cA, kA, comp, h1, h2, h3⟩ := Cond.arrayClass_spec h
  exact ⟨cA, fun n z => ⟨fun k h => (by cases h), kA, h2, comp, h3⟩, hc cA h1⟩
theorem lw_aro {b : Nat} {s : State} {C : String} (h : (Cond.arrayOver (.object C)).before #[Value.ref b] s = true) : ∃ cA, ArrOfT s cA (.object C) ∧ va_RA s cA (.object C) := by
  obtain ⟨comp, cA, kA, h1, -, h3, h4, h5⟩ := Cond.arrayOver_spec h
  exact ⟨cA, fun n z => ⟨fun k h => (by cases h), kA, h3, comp, h4⟩, kA, comp, h3, h4, h1, h5⟩
theorem lw_cls {b : Nat} {s : State} (htU : ∀ w ∈ uT, w.before #[Value.ref b] s = true) : ∀ k : Nat, ∃ z : ClassId × (Nat → Nat), ∀ q : vw_C, vwCl[k]? = some q → u_Kn s q.1 q.2.1 q.2.2 z.1 z.2 := by
  intro k
  match k with
  | 0 => obtain ⟨c, i, h⟩ := u_known (C := RX0) (T := TX0) (N := 10) (n := 10) htU iw_0 (htU _ kw_263); exact ⟨(c, i), fun q hq => by cases hq; exact h⟩
  | 1 => obtain ⟨c, i, h⟩ := u_known (C := RX1) (T := TX1) (N := 4) (n := 4) htU iw_1 (htU _ kw_371); exact ⟨(c, i), fun q hq => by cases hq; exact h⟩
  | 2 => obtain ⟨c, i, h⟩ := u_known (C := RX2) (T := TX2) (N := 1) (n := 1) htU iw_2 (htU _ kw_359); exact ⟨(c, i), fun q hq => by cases hq; exact h⟩
  | 3 => obtain ⟨c, i, h⟩ := u_known (C := RX3) (T := TX3) (N := 3) (n := 3) htU iw_3 (htU _ kw_393); exact ⟨(c, i), fun q hq => by cases hq; exact h⟩
  | 4 => obtain ⟨c, i, h⟩ := u_known (C := RX4) (T := TX4) (N := 9) (n := 9) htU iw_4 (htU _ kw_413); exact ⟨(c, i), fun q hq => by cases hq; exact h⟩
  | 5 => obtain ⟨c, i, h⟩ := u_known (C := RX5) (T := TX5) (N := 5) (n := 5) htU iw_5 (htU _ kw_451); exact ⟨(c, i), fun q hq => by cases hq; exact h⟩
  | 6 => obtain ⟨c, i, h⟩ := u_known (C := RX6) (T := TX6) (N := 3) (n := 3) htU iw_6 (htU _ kw_240); exact ⟨(c, i), fun q hq => by cases hq; exact h⟩
  | 7 => obtain ⟨c, i, h⟩ := u_known (C := RX7) (T := TX7) (N := 4) (n := 4) htU iw_7 (htU _ kw_231); exact ⟨(c, i), fun q hq => by cases hq; exact h⟩
  | 8 => obtain ⟨c, i, h⟩ := u_known (C := RX8) (T := TX8) (N := 6) (n := 6) htU iw_8 (htU _ kw_225); exact ⟨(c, i), fun q hq => by cases hq; exact h⟩
  | 9 => obtain ⟨c, i, h⟩ := u_known (C := RX9) (T := TX9) (N := 8) (n := 8) htU iw_9 (htU _ kw_189); exact ⟨(c, i), fun q hq => by cases hq; exact h⟩
  | 10 => obtain ⟨c, i, h⟩ := u_known (C := RX10) (T := TX10) (N := 3) (n := 3) htU iw_10 (htU _ kw_169); exact ⟨(c, i), fun q hq => by cases hq; exact h⟩
  | 11 => obtain ⟨c, i, h⟩ := u_known (C := RX11) (T := TX11) (N := 20) (n := 20) htU iw_11 (htU _ kw_160); exact ⟨(c, i), fun q hq => by cases hq; exact h⟩
  | 12 => obtain ⟨c, i, h⟩ := u_known (C := RX12) (T := TX12) (N := 48) (n := 48) htU iw_12 (htU _ kw_1482); exact ⟨(c, i), fun q hq => by cases hq; exact h⟩
  | k + 13 => exact ⟨(0, fun _ => 0), fun q hq => by cases hq⟩
theorem lw_ars {b : Nat} {s : State} (hts : ∀ w ∈ lw_tbl, w.before #[Value.ref b] s = true) : ∀ k : Nat, ∃ cA : ClassId, k < 8 → ArrOfT s cA (tyOf (20 + k)) ∧ va_RA s cA (tyOf (20 + k)) := by
  intro k
  match k with
  | 0 => obtain ⟨c, h⟩ := lw_arp (ty := .byte) (fun _ h => h) (hts _ lar_20); exact ⟨c, fun _ => h⟩
  | 1 => obtain ⟨c, h⟩ := lw_arp (ty := .int) (fun _ h => h) (hts _ lar_21); exact ⟨c, fun _ => h⟩
  | 2 => obtain ⟨c, h⟩ := lw_arp (ty := .long) (fun _ h => h) (hts _ lar_22); exact ⟨c, fun _ => h⟩
  | 3 => obtain ⟨c, h⟩ := lw_arp (ty := .boolean) (fun _ h => h) (hts _ lar_23); exact ⟨c, fun _ => h⟩
  | 4 => obtain ⟨c, h⟩ := lw_aro (hts _ lar_24); exact ⟨c, fun _ => h⟩
  | 5 => obtain ⟨c, h⟩ := lw_aro (hts _ lar_25); exact ⟨c, fun _ => h⟩
  | 6 => obtain ⟨c, h⟩ := lw_aro (hts _ lar_26); exact ⟨c, fun _ => h⟩
  | 7 => obtain ⟨c, h⟩ := lw_aro (hts _ lar_27); exact ⟨c, fun _ => h⟩
  | k + 8 => exact ⟨0, fun h => absurd h (by omega)⟩
/-- what the tables and the premises say, in the walk's own words -/
theorem lw_world {b : Nat} {s : State} (hts : ∀ w ∈ lw_tbl, w.before #[Value.ref b] s = true) (hgv : (Jvm.Cond.and given_1 narrow_1).before #[Value.ref b] s = true) : ∃ (D : va_G) (cy : Nat → ClassId), KG D cy s ∧ KS cy s.heap.size s s.heap := by
  have hs : ∀ w ∈ flatC lwG, w.before #[Value.ref b] s = true := flat_of_before _ hgv
  have htU : ∀ w ∈ uT, w.before #[Value.ref b] s = true := fun w hw => hts w (uT_sub w hw)
  have hA : ∀ a : Nat, a < s.heap.size → ¬ s.heap.size ≤ a := fun a h => Nat.not_le.mpr h
  obtain ⟨zc, hc⟩ := lw_pick (lw_cls htU)
  obtain ⟨za, ha⟩ := lw_pick (lw_ars hts)
  have h0 : ∀ i : Nat, ∃ z : Nat × Nat, ∀ q, strT[i]? = some q → KSq s q z := by
    intro i
    cases hi : strT[i]? with
    | none => exact ⟨(0, 0), fun q h => by cases h⟩
    | some q =>
      obtain ⟨z, hz⟩ := lw_str hts hs (List.mem_of_getElem? hi)
      exact ⟨z, fun q' h => by cases h; exact hz⟩
  obtain ⟨zs, hzs⟩ := lw_pick h0
  refine ⟨(fun k => (zc k).1, fun k => (zc k).2), fun j => if j < 100 then za (j - 20) else if j < 200 then (zs (j - 100)).1 else (zs (j - 200)).2, ⟨⟨fun k q h => hc k q h, ?_⟩, ⟨va_AO.of (hts _ lar_24), va_AO.of (hts _ lar_25), va_AO.of (hts _ lar_26), va_AO.of (hts _ lar_27)⟩, fun q hq => va_Nw.of rfl (hts _ (lnw q hq))⟩, ?_, ?_, ?_⟩
  · intro k q h
    match k, h with
    | 0, h => cases h; exact ha 0 (by decide)
    | 1, h => cases h; exact ha 1 (by decide)
    | 2, h => cases h; exact ha 2 (by decide)
    | 3, h => cases h; exact ha 3 (by decide)
    | 4, h => cases h; exact ha 4 (by decide)
    | 5, h => cases h; exact ha 5 (by decide)
    | 6, h => cases h; exact ha 6 (by decide)
    | 7, h => cases h; exact ha 7 (by decide)
    | k + 8, h => cases h
  · intro q hq
    obtain ⟨i, hi⟩ := List.mem_iff_getElem?.mp hq
    have e := strT_ix hi
    have l := (strT_l q hq).1
    have z := hzs i q hi
    rw [← e] at z
    have e1 : (if 100 + q.1 < 100 then za (100 + q.1 - 20) else if 100 + q.1 < 200 then (zs (100 + q.1 - 100)).1 else (zs (100 + q.1 - 200)).2) = (zs q.1).1 := by rw [if_neg (by omega), if_pos (by omega), Nat.add_sub_cancel_left]
    have e2 : (if 200 + q.1 < 100 then za (200 + q.1 - 20) else if 200 + q.1 < 200 then (zs (200 + q.1 - 100)).1 else (zs (200 + q.1 - 200)).2) = (zs q.1).2 := by rw [if_neg (by omega), if_neg (by omega), Nat.add_sub_cancel_left]
    simp only [e1, e2]
    exact z
  · exact va_Zof (hts _ lst_1) (hts _ lst_3) (va_eqi (hs _ lfl_1)) hA
  · rcases va_Zqof (hts _ lst_2) (hts _ lst_4) (hs _ lfl_2) hA with h | ⟨t, h⟩
    · exact ⟨none, h⟩
    · exact ⟨some t, h⟩
