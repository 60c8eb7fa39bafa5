section
-- ===== PART A: goes FIRST, ahead of the names: the tables' words, and 'selects' of the private methods out of them =====
/-- a private method of a class that the tables say can be made, by its rows of tables_1 -/
def lw_okq (q : MethodName × Nat) : Prop := (q.1.cls ≠ "java/lang/invoke/MethodHandle" ∧ q.1.cls ≠ "java/lang/invoke/VarHandle") ∧ Cond.instantiable q.1.cls q.2 ∈ tables_1 ∧ Cond.privateMethod q.1 ∈ tables_1 ∧ Cond.instanceMethod q.1 ∈ tables_1
theorem lw_p0 : lw_okq (⟨"TapTerminal", "isCard", "(I)Z"⟩, 6) := ⟨⟨by decide +kernel, by decide +kernel⟩, List.mem_of_getElem? (i := 13) (by decide +kernel), List.mem_of_getElem? (i := 353) (by decide +kernel), List.mem_of_getElem? (i := 354) (by decide +kernel)⟩
theorem lw_p1 : lw_okq (⟨"TapTerminal", "chooseCard", "()I"⟩, 6) := ⟨⟨by decide +kernel, by decide +kernel⟩, List.mem_of_getElem? (i := 13) (by decide +kernel), List.mem_of_getElem? (i := 398) (by decide +kernel), List.mem_of_getElem? (i := 399) (by decide +kernel)⟩
theorem lw_p2 : lw_okq (⟨"TapTerminal$Air", "gather", "(II)V"⟩, 6) := ⟨⟨by decide +kernel, by decide +kernel⟩, List.mem_of_getElem? (i := 21) (by decide +kernel), List.mem_of_getElem? (i := 406) (by decide +kernel), List.mem_of_getElem? (i := 407) (by decide +kernel)⟩
theorem lw_p3 : lw_okq (⟨"TapTerminal$Air", "call", "(II)Z"⟩, 6) := ⟨⟨by decide +kernel, by decide +kernel⟩, List.mem_of_getElem? (i := 21) (by decide +kernel), List.mem_of_getElem? (i := 414) (by decide +kernel), List.mem_of_getElem? (i := 415) (by decide +kernel)⟩
theorem lw_p4 : lw_okq (⟨"TapTerminal", "startCommand", "(I)V"⟩, 6) := ⟨⟨by decide +kernel, by decide +kernel⟩, List.mem_of_getElem? (i := 13) (by decide +kernel), List.mem_of_getElem? (i := 441) (by decide +kernel), List.mem_of_getElem? (i := 442) (by decide +kernel)⟩
theorem lw_p5 : lw_okq (⟨"TapTerminal$Air", "prepare", "(ILTapTerminal$Row;II)V"⟩, 6) := ⟨⟨by decide +kernel, by decide +kernel⟩, List.mem_of_getElem? (i := 21) (by decide +kernel), List.mem_of_getElem? (i := 452) (by decide +kernel), List.mem_of_getElem? (i := 453) (by decide +kernel)⟩
theorem lw_p6 : lw_okq (⟨"TapTerminal$Card", "obey", "()V"⟩, 18) := ⟨⟨by decide +kernel, by decide +kernel⟩, List.mem_of_getElem? (i := 28) (by decide +kernel), List.mem_of_getElem? (i := 485) (by decide +kernel), List.mem_of_getElem? (i := 486) (by decide +kernel)⟩
theorem lw_p7 : lw_okq (⟨"TapTerminal$Card", "addRecord", "(I)V"⟩, 18) := ⟨⟨by decide +kernel, by decide +kernel⟩, List.mem_of_getElem? (i := 28) (by decide +kernel), List.mem_of_getElem? (i := 495) (by decide +kernel), List.mem_of_getElem? (i := 496) (by decide +kernel)⟩
theorem lw_p8 : lw_okq (⟨"TapTerminal$Card", "decide", "(II)I"⟩, 18) := ⟨⟨by decide +kernel, by decide +kernel⟩, List.mem_of_getElem? (i := 28) (by decide +kernel), List.mem_of_getElem? (i := 504) (by decide +kernel), List.mem_of_getElem? (i := 505) (by decide +kernel)⟩
theorem lw_p9 : lw_okq (⟨"TapTerminal$Card", "mixtureOf", "(IIII)I"⟩, 18) := ⟨⟨by decide +kernel, by decide +kernel⟩, List.mem_of_getElem? (i := 28) (by decide +kernel), List.mem_of_getElem? (i := 509) (by decide +kernel), List.mem_of_getElem? (i := 510) (by decide +kernel)⟩
theorem lw_p10 : lw_okq (⟨"TapTerminal", "readRecords", "(I)I"⟩, 6) := ⟨⟨by decide +kernel, by decide +kernel⟩, List.mem_of_getElem? (i := 13) (by decide +kernel), List.mem_of_getElem? (i := 531) (by decide +kernel), List.mem_of_getElem? (i := 532) (by decide +kernel)⟩
theorem lw_p11 : lw_okq (⟨"TapTerminal$Items", "takePart", "(LTapTerminal$Row;III)Z"⟩, 4) := ⟨⟨by decide +kernel, by decide +kernel⟩, List.mem_of_getElem? (i := 240) (by decide +kernel), List.mem_of_getElem? (i := 546) (by decide +kernel), List.mem_of_getElem? (i := 547) (by decide +kernel)⟩
theorem lw_p12 : lw_okq (⟨"TapTerminal$Items", "keepFirst", "(ILTapTerminal$Row;II)V"⟩, 4) := ⟨⟨by decide +kernel, by decide +kernel⟩, List.mem_of_getElem? (i := 240) (by decide +kernel), List.mem_of_getElem? (i := 551) (by decide +kernel), List.mem_of_getElem? (i := 552) (by decide +kernel)⟩
theorem lw_p13 : lw_okq (⟨"TapTerminal", "settle", "(III)I"⟩, 6) := ⟨⟨by decide +kernel, by decide +kernel⟩, List.mem_of_getElem? (i := 13) (by decide +kernel), List.mem_of_getElem? (i := 559) (by decide +kernel), List.mem_of_getElem? (i := 560) (by decide +kernel)⟩
theorem lw_p14 : lw_okq (⟨"TapTerminal$Settings", "isSigned", "(LTapTerminal$Items;)Z"⟩, 6) := ⟨⟨by decide +kernel, by decide +kernel⟩, List.mem_of_getElem? (i := 209) (by decide +kernel), List.mem_of_getElem? (i := 567) (by decide +kernel), List.mem_of_getElem? (i := 568) (by decide +kernel)⟩
theorem lw_p15 : lw_okq (⟨"TapTerminal$Settings", "someWayGoes", "(LTapTerminal$Row;Z)Z"⟩, 6) := ⟨⟨by decide +kernel, by decide +kernel⟩, List.mem_of_getElem? (i := 209) (by decide +kernel), List.mem_of_getElem? (i := 582) (by decide +kernel), List.mem_of_getElem? (i := 583) (by decide +kernel)⟩
def lw_privs_1 : List (MethodName × Nat) := [(⟨"TapTerminal", "isCard", "(I)Z"⟩, 6), (⟨"TapTerminal", "chooseCard", "()I"⟩, 6), (⟨"TapTerminal$Air", "gather", "(II)V"⟩, 6), (⟨"TapTerminal$Air", "call", "(II)Z"⟩, 6), (⟨"TapTerminal", "startCommand", "(I)V"⟩, 6), (⟨"TapTerminal$Air", "prepare", "(ILTapTerminal$Row;II)V"⟩, 6), (⟨"TapTerminal$Card", "obey", "()V"⟩, 18), (⟨"TapTerminal$Card", "addRecord", "(I)V"⟩, 18), (⟨"TapTerminal$Card", "decide", "(II)I"⟩, 18), (⟨"TapTerminal$Card", "mixtureOf", "(IIII)I"⟩, 18), (⟨"TapTerminal", "readRecords", "(I)I"⟩, 6), (⟨"TapTerminal$Items", "takePart", "(LTapTerminal$Row;III)Z"⟩, 4), (⟨"TapTerminal$Items", "keepFirst", "(ILTapTerminal$Row;II)V"⟩, 4), (⟨"TapTerminal", "settle", "(III)I"⟩, 6), (⟨"TapTerminal$Settings", "isSigned", "(LTapTerminal$Items;)Z"⟩, 6), (⟨"TapTerminal$Settings", "someWayGoes", "(LTapTerminal$Row;Z)Z"⟩, 6)]
theorem lw_r1 : ∀ q ∈ lw_privs_1, lw_okq q := List.forall_mem_cons.mpr ⟨lw_p0, List.forall_mem_cons.mpr ⟨lw_p1, List.forall_mem_cons.mpr ⟨lw_p2, List.forall_mem_cons.mpr ⟨lw_p3, List.forall_mem_cons.mpr ⟨lw_p4, List.forall_mem_cons.mpr ⟨lw_p5, List.forall_mem_cons.mpr ⟨lw_p6, List.forall_mem_cons.mpr ⟨lw_p7, List.forall_mem_cons.mpr ⟨lw_p8, List.forall_mem_cons.mpr ⟨lw_p9, List.forall_mem_cons.mpr ⟨lw_p10, List.forall_mem_cons.mpr ⟨lw_p11, List.forall_mem_cons.mpr ⟨lw_p12, List.forall_mem_cons.mpr ⟨lw_p13, List.forall_mem_cons.mpr ⟨lw_p14, List.forall_mem_cons.mpr ⟨lw_p15, fun _ h => absurd h List.not_mem_nil⟩⟩⟩⟩⟩⟩⟩⟩⟩⟩⟩⟩⟩⟩⟩⟩
theorem lw_p16 : lw_okq (⟨"TapTerminal$Settings", "hasWay", "(I)Z"⟩, 6) := ⟨⟨by decide +kernel, by decide +kernel⟩, List.mem_of_getElem? (i := 209) (by decide +kernel), List.mem_of_getElem? (i := 589) (by decide +kernel), List.mem_of_getElem? (i := 590) (by decide +kernel)⟩
theorem lw_p17 : lw_okq (⟨"TapTerminalModel", "isCard", "(I)Z"⟩, 54) := ⟨⟨by decide +kernel, by decide +kernel⟩, List.mem_of_getElem? (i := 617) (by decide +kernel), List.mem_of_getElem? (i := 798) (by decide +kernel), List.mem_of_getElem? (i := 799) (by decide +kernel)⟩
theorem lw_p18 : lw_okq (⟨"TapTerminalModel", "goes", "(III)I"⟩, 54) := ⟨⟨by decide +kernel, by decide +kernel⟩, List.mem_of_getElem? (i := 617) (by decide +kernel), List.mem_of_getElem? (i := 826) (by decide +kernel), List.mem_of_getElem? (i := 827) (by decide +kernel)⟩
theorem lw_p19 : lw_okq (⟨"TapTerminalModel", "wake", "()Z"⟩, 54) := ⟨⟨by decide +kernel, by decide +kernel⟩, List.mem_of_getElem? (i := 617) (by decide +kernel), List.mem_of_getElem? (i := 830) (by decide +kernel), List.mem_of_getElem? (i := 831) (by decide +kernel)⟩
theorem lw_p20 : lw_okq (⟨"TapTerminalModel", "faultNow", "()I"⟩, 54) := ⟨⟨by decide +kernel, by decide +kernel⟩, List.mem_of_getElem? (i := 617) (by decide +kernel), List.mem_of_getElem? (i := 834) (by decide +kernel), List.mem_of_getElem? (i := 835) (by decide +kernel)⟩
theorem lw_p21 : lw_okq (⟨"TapTerminalModel", "note", "(IIZ)Z"⟩, 54) := ⟨⟨by decide +kernel, by decide +kernel⟩, List.mem_of_getElem? (i := 617) (by decide +kernel), List.mem_of_getElem? (i := 838) (by decide +kernel), List.mem_of_getElem? (i := 839) (by decide +kernel)⟩
theorem lw_p22 : lw_okq (⟨"TapTerminalModel", "ask", "()I"⟩, 54) := ⟨⟨by decide +kernel, by decide +kernel⟩, List.mem_of_getElem? (i := 617) (by decide +kernel), List.mem_of_getElem? (i := 842) (by decide +kernel), List.mem_of_getElem? (i := 843) (by decide +kernel)⟩
theorem lw_p23 : lw_okq (⟨"TapTerminalModel", "call", "(II)Z"⟩, 54) := ⟨⟨by decide +kernel, by decide +kernel⟩, List.mem_of_getElem? (i := 617) (by decide +kernel), List.mem_of_getElem? (i := 846) (by decide +kernel), List.mem_of_getElem? (i := 847) (by decide +kernel)⟩
theorem lw_p24 : lw_okq (⟨"TapTerminalModel", "talk", "()Z"⟩, 54) := ⟨⟨by decide +kernel, by decide +kernel⟩, List.mem_of_getElem? (i := 617) (by decide +kernel), List.mem_of_getElem? (i := 850) (by decide +kernel), List.mem_of_getElem? (i := 851) (by decide +kernel)⟩
theorem lw_p25 : lw_okq (⟨"TapTerminalModel", "hear", "(IIIIZ)V"⟩, 54) := ⟨⟨by decide +kernel, by decide +kernel⟩, List.mem_of_getElem? (i := 617) (by decide +kernel), List.mem_of_getElem? (i := 854) (by decide +kernel), List.mem_of_getElem? (i := 855) (by decide +kernel)⟩
theorem lw_p26 : lw_okq (⟨"TapTerminalModel", "saySize", "()I"⟩, 54) := ⟨⟨by decide +kernel, by decide +kernel⟩, List.mem_of_getElem? (i := 617) (by decide +kernel), List.mem_of_getElem? (i := 858) (by decide +kernel), List.mem_of_getElem? (i := 859) (by decide +kernel)⟩
theorem lw_p27 : lw_okq (⟨"TapTerminalModel", "command", "()V"⟩, 54) := ⟨⟨by decide +kernel, by decide +kernel⟩, List.mem_of_getElem? (i := 617) (by decide +kernel), List.mem_of_getElem? (i := 862) (by decide +kernel), List.mem_of_getElem? (i := 863) (by decide +kernel)⟩
theorem lw_p28 : lw_okq (⟨"TapTerminalModel", "manyOf", "(I)I"⟩, 54) := ⟨⟨by decide +kernel, by decide +kernel⟩, List.mem_of_getElem? (i := 617) (by decide +kernel), List.mem_of_getElem? (i := 866) (by decide +kernel), List.mem_of_getElem? (i := 867) (by decide +kernel)⟩
theorem lw_p29 : lw_okq (⟨"TapTerminalModel", "decide", "(I)V"⟩, 54) := ⟨⟨by decide +kernel, by decide +kernel⟩, List.mem_of_getElem? (i := 617) (by decide +kernel), List.mem_of_getElem? (i := 870) (by decide +kernel), List.mem_of_getElem? (i := 871) (by decide +kernel)⟩
theorem lw_p30 : lw_okq (⟨"TapTerminalModel", "four", "(I)I"⟩, 54) := ⟨⟨by decide +kernel, by decide +kernel⟩, List.mem_of_getElem? (i := 617) (by decide +kernel), List.mem_of_getElem? (i := 874) (by decide +kernel), List.mem_of_getElem? (i := 875) (by decide +kernel)⟩
theorem lw_p31 : lw_okq (⟨"TapTerminalModel", "put", "(I)V"⟩, 54) := ⟨⟨by decide +kernel, by decide +kernel⟩, List.mem_of_getElem? (i := 617) (by decide +kernel), List.mem_of_getElem? (i := 883) (by decide +kernel), List.mem_of_getElem? (i := 884) (by decide +kernel)⟩
def lw_privs_2 : List (MethodName × Nat) := [(⟨"TapTerminal$Settings", "hasWay", "(I)Z"⟩, 6), (⟨"TapTerminalModel", "isCard", "(I)Z"⟩, 54), (⟨"TapTerminalModel", "goes", "(III)I"⟩, 54), (⟨"TapTerminalModel", "wake", "()Z"⟩, 54), (⟨"TapTerminalModel", "faultNow", "()I"⟩, 54), (⟨"TapTerminalModel", "note", "(IIZ)Z"⟩, 54), (⟨"TapTerminalModel", "ask", "()I"⟩, 54), (⟨"TapTerminalModel", "call", "(II)Z"⟩, 54), (⟨"TapTerminalModel", "talk", "()Z"⟩, 54), (⟨"TapTerminalModel", "hear", "(IIIIZ)V"⟩, 54), (⟨"TapTerminalModel", "saySize", "()I"⟩, 54), (⟨"TapTerminalModel", "command", "()V"⟩, 54), (⟨"TapTerminalModel", "manyOf", "(I)I"⟩, 54), (⟨"TapTerminalModel", "decide", "(I)V"⟩, 54), (⟨"TapTerminalModel", "four", "(I)I"⟩, 54), (⟨"TapTerminalModel", "put", "(I)V"⟩, 54)]
theorem lw_r2 : ∀ q ∈ lw_privs_2, lw_okq q := List.forall_mem_cons.mpr ⟨lw_p16, List.forall_mem_cons.mpr ⟨lw_p17, List.forall_mem_cons.mpr ⟨lw_p18, List.forall_mem_cons.mpr ⟨lw_p19, List.forall_mem_cons.mpr ⟨lw_p20, List.forall_mem_cons.mpr ⟨lw_p21, List.forall_mem_cons.mpr ⟨lw_p22, List.forall_mem_cons.mpr ⟨lw_p23, List.forall_mem_cons.mpr ⟨lw_p24, List.forall_mem_cons.mpr ⟨lw_p25, List.forall_mem_cons.mpr ⟨lw_p26, List.forall_mem_cons.mpr ⟨lw_p27, List.forall_mem_cons.mpr ⟨lw_p28, List.forall_mem_cons.mpr ⟨lw_p29, List.forall_mem_cons.mpr ⟨lw_p30, List.forall_mem_cons.mpr ⟨lw_p31, fun _ h => absurd h List.not_mem_nil⟩⟩⟩⟩⟩⟩⟩⟩⟩⟩⟩⟩⟩⟩⟩⟩
theorem lw_p32 : lw_okq (⟨"TapTerminalModel", "say", "(II)V"⟩, 54) := ⟨⟨by decide +kernel, by decide +kernel⟩, List.mem_of_getElem? (i := 617) (by decide +kernel), List.mem_of_getElem? (i := 887) (by decide +kernel), List.mem_of_getElem? (i := 888) (by decide +kernel)⟩
theorem lw_p33 : lw_okq (⟨"TapTerminalModel", "takeApart", "(I)Z"⟩, 54) := ⟨⟨by decide +kernel, by decide +kernel⟩, List.mem_of_getElem? (i := 617) (by decide +kernel), List.mem_of_getElem? (i := 891) (by decide +kernel), List.mem_of_getElem? (i := 892) (by decide +kernel)⟩
theorem lw_p34 : lw_okq (⟨"TapTerminalModel", "items", "(I)Z"⟩, 54) := ⟨⟨by decide +kernel, by decide +kernel⟩, List.mem_of_getElem? (i := 617) (by decide +kernel), List.mem_of_getElem? (i := 895) (by decide +kernel), List.mem_of_getElem? (i := 896) (by decide +kernel)⟩
theorem lw_p35 : lw_okq (⟨"TapTerminalModel", "find", "(III)V"⟩, 54) := ⟨⟨by decide +kernel, by decide +kernel⟩, List.mem_of_getElem? (i := 617) (by decide +kernel), List.mem_of_getElem? (i := 899) (by decide +kernel), List.mem_of_getElem? (i := 900) (by decide +kernel)⟩
theorem lw_p36 : lw_okq (⟨"TapTerminalModel", "item", "(II)I"⟩, 54) := ⟨⟨by decide +kernel, by decide +kernel⟩, List.mem_of_getElem? (i := 617) (by decide +kernel), List.mem_of_getElem? (i := 903) (by decide +kernel), List.mem_of_getElem? (i := 904) (by decide +kernel)⟩
theorem lw_p37 : lw_okq (⟨"TapTerminalModel", "wayGoes", "(I)Z"⟩, 54) := ⟨⟨by decide +kernel, by decide +kernel⟩, List.mem_of_getElem? (i := 617) (by decide +kernel), List.mem_of_getElem? (i := 907) (by decide +kernel), List.mem_of_getElem? (i := 908) (by decide +kernel)⟩
theorem lw_p38 : lw_okq (⟨"TapTerminalModel", "typeFor", "()I"⟩, 54) := ⟨⟨by decide +kernel, by decide +kernel⟩, List.mem_of_getElem? (i := 617) (by decide +kernel), List.mem_of_getElem? (i := 911) (by decide +kernel), List.mem_of_getElem? (i := 912) (by decide +kernel)⟩
def lw_privs_3 : List (MethodName × Nat) := [(⟨"TapTerminalModel", "say", "(II)V"⟩, 54), (⟨"TapTerminalModel", "takeApart", "(I)Z"⟩, 54), (⟨"TapTerminalModel", "items", "(I)Z"⟩, 54), (⟨"TapTerminalModel", "find", "(III)V"⟩, 54), (⟨"TapTerminalModel", "item", "(II)I"⟩, 54), (⟨"TapTerminalModel", "wayGoes", "(I)Z"⟩, 54), (⟨"TapTerminalModel", "typeFor", "()I"⟩, 54)]
theorem lw_r3 : ∀ q ∈ lw_privs_3, lw_okq q := List.forall_mem_cons.mpr ⟨lw_p32, List.forall_mem_cons.mpr ⟨lw_p33, List.forall_mem_cons.mpr ⟨lw_p34, List.forall_mem_cons.mpr ⟨lw_p35, List.forall_mem_cons.mpr ⟨lw_p36, List.forall_mem_cons.mpr ⟨lw_p37, List.forall_mem_cons.mpr ⟨lw_p38, fun _ h => absurd h List.not_mem_nil⟩⟩⟩⟩⟩⟩⟩
def lw_privs : List (MethodName × Nat) := lw_privs_1 ++ (lw_privs_2 ++ (lw_privs_3))
def lw_tbl : List Cond := k2_sels lw_privs ++ tables_1
theorem lw_privs_ok : ∀ q ∈ lw_privs, lw_okq q := by
  show ∀ q ∈ lw_privs_1 ++ (lw_privs_2 ++ (lw_privs_3)), lw_okq q
  exact List.forall_mem_append.mpr ⟨lw_r1, List.forall_mem_append.mpr ⟨lw_r2, lw_r3⟩⟩
end
section
/-! names and tables of the small machine, printed by wip/whole/gen_tables.py -/
abbrev am_E : Type := (Nat × List Value) ⊕ ((Nat × List Int32) ⊕ (Nat × List (Option Nat)))
abbrev am_H : Type := Nat × Nat × (Nat → Option am_E)
abbrev am_M : Type := MethodName × ByteArray × Nat × Option FieldType × Nat × Bool
abbrev am_L : Type := List (Option Value)
abbrev am_O : Type := Option ((Nat × am_L × List Value × am_H) ⊕ (Option Value ⊕ (Nat × List Value × List Value)))
def am_kw : List Jvm.Cond := lw_tbl.filter goodWord
theorem am_good : ∀ w ∈ am_kw, (w.onTables && w.keeps) = true ∨ ∃ ty, w = .arrayClass ty := fun _ h => good_of_word (List.mem_filter.mp h).2
theorem am_in0 {w : Jvm.Cond} (h : w ∈ k2_sels lw_privs) (g : goodWord w = true) : w ∈ am_kw := List.mem_filter.mpr ⟨List.mem_append_left _ h, g⟩
theorem am_in1 {w : Jvm.Cond} (h : w ∈ tables_1_1) (g : goodWord w = true) : w ∈ am_kw := List.mem_filter.mpr ⟨List.mem_append_right _ (List.mem_append_left _ h), g⟩
theorem am_in2 {w : Jvm.Cond} (h : w ∈ tables_1_2) (g : goodWord w = true) : w ∈ am_kw := List.mem_filter.mpr ⟨List.mem_append_right _ (List.mem_append_right _ (List.mem_append_left _ h)), g⟩
theorem am_in3 {w : Jvm.Cond} (h : w ∈ tables_1_3) (g : goodWord w = true) : w ∈ am_kw := List.mem_filter.mpr ⟨List.mem_append_right _ (List.mem_append_right _ (List.mem_append_right _ (List.mem_append_left _ h))), g⟩
theorem am_in4 {w : Jvm.Cond} (h : w ∈ tables_1_4) (g : goodWord w = true) : w ∈ am_kw := List.mem_filter.mpr ⟨List.mem_append_right _ (List.mem_append_right _ (List.mem_append_right _ (List.mem_append_right _ h))), g⟩
def am_cn (c : Nat) : String := match c with
  | 0 => "TapTerminal$Row"
  | 1 => "TapTerminal$Block"
  | 2 => "TapTerminal$Card"
  | 3 => "TapTerminal$Journal"
  | 4 => "TapTerminal$Air"
  | 5 => "TapTerminal$Items"
  | 6 => "TapTerminal$Settings"
  | 7 => "TapTerminal$Report"
  | 8 => "TapTerminal"
  | 9 => "TapTerminalModel"
  | _ => ""
def F_Row : u_T := fun k => match k with
  | 0 => ("TapTerminal$Row", "octets", "[I", true)
  | _ => ("TapTerminal$Row", "count", "I", false)
def t_Row : Nat → FieldType := fun k => match k with
  | 0 => .array .int
  | _ => .int
def F_Block : u_T := fun k => match k with
  | 0 => ("TapTerminal$Block", "kind", "I", false)
  | 1 => ("TapTerminal$Block", "number", "I", false)
  | 2 => ("TapTerminal$Block", "more", "Z", false)
  | _ => ("TapTerminal$Block", "octets", "LTapTerminal$Row;", true)
def t_Block : Nat → FieldType := fun k => match k with
  | 0 => .int
  | 1 => .int
  | 2 => .boolean
  | _ => .object "TapTerminal$Row"
def F_Card : u_T := fun k => match k with
  | 0 => ("TapTerminal$Card", "exists", "Z", false)
  | 1 => ("TapTerminal$Card", "inField", "Z", false)
  | 2 => ("TapTerminal$Card", "ready", "Z", false)
  | 3 => ("TapTerminal$Card", "address", "I", false)
  | 4 => ("TapTerminal$Card", "application", "I", false)
  | 5 => ("TapTerminal$Card", "key", "I", false)
  | 6 => ("TapTerminal$Card", "size", "I", false)
  | 7 => ("TapTerminal$Card", "counter", "I", false)
  | 8 => ("TapTerminal$Card", "cap", "I", false)
  | 9 => ("TapTerminal$Card", "limit", "I", false)
  | 10 => ("TapTerminal$Card", "runs", "I", false)
  | 11 => ("TapTerminal$Card", "commandsDone", "I", false)
  | 12 => ("TapTerminal$Card", "records", "[LTapTerminal$Row;", true)
  | 13 => ("TapTerminal$Card", "reply", "LTapTerminal$Block;", true)
  | 14 => ("TapTerminal$Card", "number", "I", false)
  | 15 => ("TapTerminal$Card", "heard", "LTapTerminal$Row;", true)
  | 16 => ("TapTerminal$Card", "answer", "LTapTerminal$Row;", true)
  | _ => ("TapTerminal$Card", "answerFrom", "I", false)
def t_Card : Nat → FieldType := fun k => match k with
  | 0 => .boolean
  | 1 => .boolean
  | 2 => .boolean
  | 3 => .int
  | 4 => .int
  | 5 => .int
  | 6 => .int
  | 7 => .int
  | 8 => .int
  | 9 => .int
  | 10 => .int
  | 11 => .int
  | 12 => .array (.object "TapTerminal$Row")
  | 13 => .object "TapTerminal$Block"
  | 14 => .int
  | 15 => .object "TapTerminal$Row"
  | 16 => .object "TapTerminal$Row"
  | _ => .int
def F_Journal : u_T := fun k => match k with
  | 0 => ("TapTerminal$Journal", "faults", "[I", true)
  | 1 => ("TapTerminal$Journal", "kinds", "[I", true)
  | 2 => ("TapTerminal$Journal", "numbers", "[I", true)
  | 3 => ("TapTerminal$Journal", "answered", "[Z", true)
  | 4 => ("TapTerminal$Journal", "count", "I", false)
  | _ => ("TapTerminal$Journal", "unanswered", "I", false)
def t_Journal : Nat → FieldType := fun k => match k with
  | 0 => .array .int
  | 1 => .array .int
  | 2 => .array .int
  | 3 => .array .boolean
  | 4 => .int
  | _ => .int
def F_Air : u_T := fun k => match k with
  | 0 => ("TapTerminal$Air", "cards", "[LTapTerminal$Card;", true)
  | 1 => ("TapTerminal$Air", "journal", "LTapTerminal$Journal;", true)
  | 2 => ("TapTerminal$Air", "partner", "I", false)
  | 3 => ("TapTerminal$Air", "differing", "I", false)
  | 4 => ("TapTerminal$Air", "turn", "I", false)
  | _ => ("TapTerminal$Air", "sent", "LTapTerminal$Block;", true)
def t_Air : Nat → FieldType := fun k => match k with
  | 0 => .array (.object "TapTerminal$Card")
  | 1 => .object "TapTerminal$Journal"
  | 2 => .int
  | 3 => .int
  | 4 => .int
  | _ => .object "TapTerminal$Block"
def F_Items : u_T := fun k => match k with
  | 0 => ("TapTerminal$Items", "rows", "[LTapTerminal$Row;", true)
  | 1 => ("TapTerminal$Items", "there", "[Z", true)
  | 2 => ("TapTerminal$Items", "whole", "Z", false)
  | _ => ("TapTerminal$Items", "seen", "[Z", true)
def t_Items : Nat → FieldType := fun k => match k with
  | 0 => .array (.object "TapTerminal$Row")
  | 1 => .array .boolean
  | 2 => .boolean
  | _ => .array .boolean
def F_Settings : u_T := fun k => match k with
  | 0 => ("TapTerminal$Settings", "place", "I", false)
  | 1 => ("TapTerminal$Settings", "floor", "I", false)
  | 2 => ("TapTerminal$Settings", "ways", "I", false)
  | 3 => ("TapTerminal$Settings", "online", "Z", false)
  | 4 => ("TapTerminal$Settings", "issuer", "I", false)
  | _ => ("TapTerminal$Settings", "applications", "I", false)
def t_Settings : Nat → FieldType := fun k => match k with
  | 0 => .int
  | 1 => .int
  | 2 => .int
  | 3 => .boolean
  | 4 => .int
  | _ => .int
def F_Report : u_T := fun k => match k with
  | 0 => ("TapTerminal$Report", "ending", "I", false)
  | 1 => ("TapTerminal$Report", "chosen", "I", false)
  | 2 => ("TapTerminal$Report", "findings", "I", false)
  | 3 => ("TapTerminal$Report", "typeAsked", "I", false)
  | 4 => ("TapTerminal$Report", "counter", "I", false)
  | 5 => ("TapTerminal$Report", "mixture", "I", false)
  | 6 => ("TapTerminal$Report", "selected", "I", false)
  | _ => ("TapTerminal$Report", "recordsRead", "I", false)
def t_Report : Nat → FieldType := fun k => match k with
  | 0 => .int
  | 1 => .int
  | 2 => .int
  | 3 => .int
  | 4 => .int
  | 5 => .int
  | 6 => .int
  | _ => .int
def F_Tap : u_T := fun k => match k with
  | 0 => ("TapTerminal", "air", "LTapTerminal$Air;", true)
  | 1 => ("TapTerminal", "settings", "LTapTerminal$Settings;", true)
  | 2 => ("TapTerminal", "items", "LTapTerminal$Items;", true)
  | 3 => ("TapTerminal", "report", "LTapTerminal$Report;", true)
  | 4 => ("TapTerminal", "command", "LTapTerminal$Row;", true)
  | _ => ("TapTerminal", "answer", "LTapTerminal$Row;", true)
def t_Tap : Nat → FieldType := fun k => match k with
  | 0 => .object "TapTerminal$Air"
  | 1 => .object "TapTerminal$Settings"
  | 2 => .object "TapTerminal$Items"
  | 3 => .object "TapTerminal$Report"
  | 4 => .object "TapTerminal$Row"
  | _ => .object "TapTerminal$Row"
def F_Mod : u_T := fun k => match k with
  | 0 => ("TapTerminalModel", "there", "[Z", true)
  | 1 => ("TapTerminalModel", "inField", "[Z", true)
  | 2 => ("TapTerminalModel", "ready", "[Z", true)
  | 3 => ("TapTerminalModel", "address", "[I", true)
  | 4 => ("TapTerminalModel", "application", "[I", true)
  | 5 => ("TapTerminalModel", "key", "[I", true)
  | 6 => ("TapTerminalModel", "size", "[I", true)
  | 7 => ("TapTerminalModel", "counter", "[I", true)
  | 8 => ("TapTerminalModel", "cap", "[I", true)
  | 9 => ("TapTerminalModel", "limit", "[I", true)
  | 10 => ("TapTerminalModel", "runs", "[I", true)
  | 11 => ("TapTerminalModel", "commands", "[I", true)
  | 12 => ("TapTerminalModel", "records", "[I", true)
  | 13 => ("TapTerminalModel", "lengths", "[I", true)
  | 14 => ("TapTerminalModel", "place", "I", false)
  | 15 => ("TapTerminalModel", "floor", "I", false)
  | 16 => ("TapTerminalModel", "ways", "I", false)
  | 17 => ("TapTerminalModel", "issuer", "I", false)
  | 18 => ("TapTerminalModel", "applications", "I", false)
  | 19 => ("TapTerminalModel", "online", "Z", false)
  | 20 => ("TapTerminalModel", "faults", "[I", true)
  | 21 => ("TapTerminalModel", "kinds", "[I", true)
  | 22 => ("TapTerminalModel", "numbers", "[I", true)
  | 23 => ("TapTerminalModel", "answered", "[Z", true)
  | 24 => ("TapTerminalModel", "how", "I", false)
  | 25 => ("TapTerminalModel", "chosen", "I", false)
  | 26 => ("TapTerminalModel", "findings", "I", false)
  | 27 => ("TapTerminalModel", "asked", "I", false)
  | 28 => ("TapTerminalModel", "saidCounter", "I", false)
  | 29 => ("TapTerminalModel", "saidMix", "I", false)
  | 30 => ("TapTerminalModel", "exchanges", "I", false)
  | 31 => ("TapTerminalModel", "silentOnes", "I", false)
  | 32 => ("TapTerminalModel", "silent", "I", false)
  | 33 => ("TapTerminalModel", "selected", "I", false)
  | 34 => ("TapTerminalModel", "wholes", "I", false)
  | 35 => ("TapTerminalModel", "row", "[I", true)
  | 36 => ("TapTerminalModel", "came", "[I", true)
  | 37 => ("TapTerminalModel", "reply", "[I", true)
  | 38 => ("TapTerminalModel", "got", "[I", true)
  | 39 => ("TapTerminalModel", "rowLength", "I", false)
  | 40 => ("TapTerminalModel", "cameLength", "I", false)
  | 41 => ("TapTerminalModel", "replyLength", "I", false)
  | 42 => ("TapTerminalModel", "gotLength", "I", false)
  | 43 => ("TapTerminalModel", "number", "I", false)
  | 44 => ("TapTerminalModel", "own", "I", false)
  | 45 => ("TapTerminalModel", "from", "I", false)
  | 46 => ("TapTerminalModel", "last", "I", false)
  | 47 => ("TapTerminalModel", "chosenNow", "I", false)
  | 48 => ("TapTerminalModel", "saidAck", "Z", false)
  | 49 => ("TapTerminalModel", "read", "[I", true)
  | 50 => ("TapTerminalModel", "readLength", "[I", true)
  | 51 => ("TapTerminalModel", "ends", "[I", true)
  | 52 => ("TapTerminalModel", "itemAt", "[I", true)
  | _ => ("TapTerminalModel", "itemLength", "[I", true)
def t_Mod : Nat → FieldType := fun k => match k with
  | 0 => .array .boolean
  | 1 => .array .boolean
  | 2 => .array .boolean
  | 3 => .array .int
  | 4 => .array .int
  | 5 => .array .int
  | 6 => .array .int
  | 7 => .array .int
  | 8 => .array .int
  | 9 => .array .int
  | 10 => .array .int
  | 11 => .array .int
  | 12 => .array .int
  | 13 => .array .int
  | 14 => .int
  | 15 => .int
  | 16 => .int
  | 17 => .int
  | 18 => .int
  | 19 => .boolean
  | 20 => .array .int
  | 21 => .array .int
  | 22 => .array .int
  | 23 => .array .boolean
  | 24 => .int
  | 25 => .int
  | 26 => .int
  | 27 => .int
  | 28 => .int
  | 29 => .int
  | 30 => .int
  | 31 => .int
  | 32 => .int
  | 33 => .int
  | 34 => .int
  | 35 => .array .int
  | 36 => .array .int
  | 37 => .array .int
  | 38 => .array .int
  | 39 => .int
  | 40 => .int
  | 41 => .int
  | 42 => .int
  | 43 => .int
  | 44 => .int
  | 45 => .int
  | 46 => .int
  | 47 => .int
  | 48 => .boolean
  | 49 => .array .int
  | 50 => .array .int
  | 51 => .array .int
  | 52 => .array .int
  | _ => .array .int
abbrev classes : List vw_C := [("TapTerminal$Row", F_Row, 2), ("TapTerminal$Block", F_Block, 4), ("TapTerminal$Card", F_Card, 18), ("TapTerminal$Journal", F_Journal, 6), ("TapTerminal$Air", F_Air, 6), ("TapTerminal$Items", F_Items, 4), ("TapTerminal$Settings", F_Settings, 6), ("TapTerminal$Report", F_Report, 8), ("TapTerminal", F_Tap, 6), ("TapTerminalModel", F_Mod, 54)]
def am_cP (ci : Nat) (C : String) (T : u_T) (N : Nat) (t0 : Nat → FieldType) : Prop := classes[ci]? = some (C, T, N) ∧ (∀ w ∈ u_ws C T N, w ∈ am_kw) ∧ (∀ k, k < N → parseFieldDescriptor (T k).2.2.1 = some (t0 k)) ∧ (∀ a, a < N → ∀ b, b < N → a ≠ b → (T a).2.1 ≠ (T b).2.1)
theorem kw_1_48 : (Jvm.Cond.laysFinal "TapTerminal$Row" "TapTerminal$Row" "octets" "[I") ∈ am_kw := am_in1 (List.mem_of_getElem? (i := 48) rfl) rfl
theorem kw_1_50 : (Jvm.Cond.lays "TapTerminal$Row" "TapTerminal$Row" "count" "I") ∈ am_kw := am_in1 (List.mem_of_getElem? (i := 50) rfl) rfl
set_option maxRecDepth 20000 in
theorem cw_Row : ∀ w ∈ u_ws "TapTerminal$Row" F_Row 2, w ∈ am_kw := List.forall_mem_cons.mpr ⟨kw_1_48, List.forall_mem_cons.mpr ⟨kw_1_50, fun _ h => absurd h List.not_mem_nil⟩⟩
theorem cp_Row : am_cP 0 "TapTerminal$Row" F_Row 2 t_Row := ⟨rfl, cw_Row, by decide +kernel, by decide +kernel⟩
theorem kw_1_74 : (Jvm.Cond.lays "TapTerminal$Block" "TapTerminal$Block" "kind" "I") ∈ am_kw := am_in1 (List.mem_of_getElem? (i := 74) rfl) rfl
theorem kw_1_76 : (Jvm.Cond.lays "TapTerminal$Block" "TapTerminal$Block" "number" "I") ∈ am_kw := am_in1 (List.mem_of_getElem? (i := 76) rfl) rfl
theorem kw_1_78 : (Jvm.Cond.lays "TapTerminal$Block" "TapTerminal$Block" "more" "Z") ∈ am_kw := am_in1 (List.mem_of_getElem? (i := 78) rfl) rfl
theorem kw_1_80 : (Jvm.Cond.laysFinal "TapTerminal$Block" "TapTerminal$Block" "octets" "LTapTerminal$Row;") ∈ am_kw := am_in1 (List.mem_of_getElem? (i := 80) rfl) rfl
set_option maxRecDepth 20000 in
theorem cw_Block : ∀ w ∈ u_ws "TapTerminal$Block" F_Block 4, w ∈ am_kw := List.forall_mem_cons.mpr ⟨kw_1_74, List.forall_mem_cons.mpr ⟨kw_1_76, List.forall_mem_cons.mpr ⟨kw_1_78, List.forall_mem_cons.mpr ⟨kw_1_80, fun _ h => absurd h List.not_mem_nil⟩⟩⟩⟩
theorem cp_Block : am_cP 1 "TapTerminal$Block" F_Block 4 t_Block := ⟨rfl, cw_Block, by decide +kernel, by decide +kernel⟩
theorem kw_1_115 : (Jvm.Cond.lays "TapTerminal$Card" "TapTerminal$Card" "exists" "Z") ∈ am_kw := am_in1 (List.mem_of_getElem? (i := 115) rfl) rfl
theorem kw_1_117 : (Jvm.Cond.lays "TapTerminal$Card" "TapTerminal$Card" "inField" "Z") ∈ am_kw := am_in1 (List.mem_of_getElem? (i := 117) rfl) rfl
theorem kw_1_119 : (Jvm.Cond.lays "TapTerminal$Card" "TapTerminal$Card" "ready" "Z") ∈ am_kw := am_in1 (List.mem_of_getElem? (i := 119) rfl) rfl
theorem kw_1_121 : (Jvm.Cond.lays "TapTerminal$Card" "TapTerminal$Card" "address" "I") ∈ am_kw := am_in1 (List.mem_of_getElem? (i := 121) rfl) rfl
theorem kw_1_123 : (Jvm.Cond.lays "TapTerminal$Card" "TapTerminal$Card" "application" "I") ∈ am_kw := am_in1 (List.mem_of_getElem? (i := 123) rfl) rfl
theorem kw_1_125 : (Jvm.Cond.lays "TapTerminal$Card" "TapTerminal$Card" "key" "I") ∈ am_kw := am_in1 (List.mem_of_getElem? (i := 125) rfl) rfl
theorem kw_1_127 : (Jvm.Cond.lays "TapTerminal$Card" "TapTerminal$Card" "size" "I") ∈ am_kw := am_in1 (List.mem_of_getElem? (i := 127) rfl) rfl
theorem kw_1_129 : (Jvm.Cond.lays "TapTerminal$Card" "TapTerminal$Card" "counter" "I") ∈ am_kw := am_in1 (List.mem_of_getElem? (i := 129) rfl) rfl
theorem kw_1_131 : (Jvm.Cond.lays "TapTerminal$Card" "TapTerminal$Card" "cap" "I") ∈ am_kw := am_in1 (List.mem_of_getElem? (i := 131) rfl) rfl
theorem kw_1_133 : (Jvm.Cond.lays "TapTerminal$Card" "TapTerminal$Card" "limit" "I") ∈ am_kw := am_in1 (List.mem_of_getElem? (i := 133) rfl) rfl
theorem kw_1_135 : (Jvm.Cond.lays "TapTerminal$Card" "TapTerminal$Card" "runs" "I") ∈ am_kw := am_in1 (List.mem_of_getElem? (i := 135) rfl) rfl
theorem kw_1_137 : (Jvm.Cond.lays "TapTerminal$Card" "TapTerminal$Card" "commandsDone" "I") ∈ am_kw := am_in1 (List.mem_of_getElem? (i := 137) rfl) rfl
theorem kw_1_139 : (Jvm.Cond.laysFinal "TapTerminal$Card" "TapTerminal$Card" "records" "[LTapTerminal$Row;") ∈ am_kw := am_in1 (List.mem_of_getElem? (i := 139) rfl) rfl
theorem kw_1_141 : (Jvm.Cond.laysFinal "TapTerminal$Card" "TapTerminal$Card" "reply" "LTapTerminal$Block;") ∈ am_kw := am_in1 (List.mem_of_getElem? (i := 141) rfl) rfl
theorem kw_1_143 : (Jvm.Cond.lays "TapTerminal$Card" "TapTerminal$Card" "number" "I") ∈ am_kw := am_in1 (List.mem_of_getElem? (i := 143) rfl) rfl
theorem kw_1_145 : (Jvm.Cond.laysFinal "TapTerminal$Card" "TapTerminal$Card" "heard" "LTapTerminal$Row;") ∈ am_kw := am_in1 (List.mem_of_getElem? (i := 145) rfl) rfl
theorem kw_1_147 : (Jvm.Cond.laysFinal "TapTerminal$Card" "TapTerminal$Card" "answer" "LTapTerminal$Row;") ∈ am_kw := am_in1 (List.mem_of_getElem? (i := 147) rfl) rfl
theorem kw_1_149 : (Jvm.Cond.lays "TapTerminal$Card" "TapTerminal$Card" "answerFrom" "I") ∈ am_kw := am_in1 (List.mem_of_getElem? (i := 149) rfl) rfl
set_option maxRecDepth 20000 in
theorem cw_Card : ∀ w ∈ u_ws "TapTerminal$Card" F_Card 18, w ∈ am_kw := List.forall_mem_cons.mpr ⟨kw_1_115, List.forall_mem_cons.mpr ⟨kw_1_117, List.forall_mem_cons.mpr ⟨kw_1_119, List.forall_mem_cons.mpr ⟨kw_1_121, List.forall_mem_cons.mpr ⟨kw_1_123, List.forall_mem_cons.mpr ⟨kw_1_125, List.forall_mem_cons.mpr ⟨kw_1_127, List.forall_mem_cons.mpr ⟨kw_1_129, List.forall_mem_cons.mpr ⟨kw_1_131, List.forall_mem_cons.mpr ⟨kw_1_133, List.forall_mem_cons.mpr ⟨kw_1_135, List.forall_mem_cons.mpr ⟨kw_1_137, List.forall_mem_cons.mpr ⟨kw_1_139, List.forall_mem_cons.mpr ⟨kw_1_141, List.forall_mem_cons.mpr ⟨kw_1_143, List.forall_mem_cons.mpr ⟨kw_1_145, List.forall_mem_cons.mpr ⟨kw_1_147, List.forall_mem_cons.mpr ⟨kw_1_149, fun _ h => absurd h List.not_mem_nil⟩⟩⟩⟩⟩⟩⟩⟩⟩⟩⟩⟩⟩⟩⟩⟩⟩⟩
theorem cp_Card : am_cP 2 "TapTerminal$Card" F_Card 18 t_Card := ⟨rfl, cw_Card, by decide +kernel, by decide +kernel⟩
theorem kw_1_170 : (Jvm.Cond.laysFinal "TapTerminal$Journal" "TapTerminal$Journal" "faults" "[I") ∈ am_kw := am_in1 (List.mem_of_getElem? (i := 170) rfl) rfl
theorem kw_1_172 : (Jvm.Cond.laysFinal "TapTerminal$Journal" "TapTerminal$Journal" "kinds" "[I") ∈ am_kw := am_in1 (List.mem_of_getElem? (i := 172) rfl) rfl
theorem kw_1_174 : (Jvm.Cond.laysFinal "TapTerminal$Journal" "TapTerminal$Journal" "numbers" "[I") ∈ am_kw := am_in1 (List.mem_of_getElem? (i := 174) rfl) rfl
theorem kw_1_176 : (Jvm.Cond.laysFinal "TapTerminal$Journal" "TapTerminal$Journal" "answered" "[Z") ∈ am_kw := am_in1 (List.mem_of_getElem? (i := 176) rfl) rfl
theorem kw_1_178 : (Jvm.Cond.lays "TapTerminal$Journal" "TapTerminal$Journal" "count" "I") ∈ am_kw := am_in1 (List.mem_of_getElem? (i := 178) rfl) rfl
theorem kw_1_180 : (Jvm.Cond.lays "TapTerminal$Journal" "TapTerminal$Journal" "unanswered" "I") ∈ am_kw := am_in1 (List.mem_of_getElem? (i := 180) rfl) rfl
set_option maxRecDepth 20000 in
theorem cw_Journal : ∀ w ∈ u_ws "TapTerminal$Journal" F_Journal 6, w ∈ am_kw := List.forall_mem_cons.mpr ⟨kw_1_170, List.forall_mem_cons.mpr ⟨kw_1_172, List.forall_mem_cons.mpr ⟨kw_1_174, List.forall_mem_cons.mpr ⟨kw_1_176, List.forall_mem_cons.mpr ⟨kw_1_178, List.forall_mem_cons.mpr ⟨kw_1_180, fun _ h => absurd h List.not_mem_nil⟩⟩⟩⟩⟩⟩
theorem cp_Journal : am_cP 3 "TapTerminal$Journal" F_Journal 6 t_Journal := ⟨rfl, cw_Journal, by decide +kernel, by decide +kernel⟩
theorem kw_1_195 : (Jvm.Cond.laysFinal "TapTerminal$Air" "TapTerminal$Air" "cards" "[LTapTerminal$Card;") ∈ am_kw := am_in1 (List.mem_of_getElem? (i := 195) rfl) rfl
theorem kw_1_197 : (Jvm.Cond.laysFinal "TapTerminal$Air" "TapTerminal$Air" "journal" "LTapTerminal$Journal;") ∈ am_kw := am_in1 (List.mem_of_getElem? (i := 197) rfl) rfl
theorem kw_1_199 : (Jvm.Cond.lays "TapTerminal$Air" "TapTerminal$Air" "partner" "I") ∈ am_kw := am_in1 (List.mem_of_getElem? (i := 199) rfl) rfl
theorem kw_1_201 : (Jvm.Cond.lays "TapTerminal$Air" "TapTerminal$Air" "differing" "I") ∈ am_kw := am_in1 (List.mem_of_getElem? (i := 201) rfl) rfl
theorem kw_1_203 : (Jvm.Cond.lays "TapTerminal$Air" "TapTerminal$Air" "turn" "I") ∈ am_kw := am_in1 (List.mem_of_getElem? (i := 203) rfl) rfl
theorem kw_1_205 : (Jvm.Cond.laysFinal "TapTerminal$Air" "TapTerminal$Air" "sent" "LTapTerminal$Block;") ∈ am_kw := am_in1 (List.mem_of_getElem? (i := 205) rfl) rfl
set_option maxRecDepth 20000 in
theorem cw_Air : ∀ w ∈ u_ws "TapTerminal$Air" F_Air 6, w ∈ am_kw := List.forall_mem_cons.mpr ⟨kw_1_195, List.forall_mem_cons.mpr ⟨kw_1_197, List.forall_mem_cons.mpr ⟨kw_1_199, List.forall_mem_cons.mpr ⟨kw_1_201, List.forall_mem_cons.mpr ⟨kw_1_203, List.forall_mem_cons.mpr ⟨kw_1_205, fun _ h => absurd h List.not_mem_nil⟩⟩⟩⟩⟩⟩
theorem cp_Air : am_cP 4 "TapTerminal$Air" F_Air 6 t_Air := ⟨rfl, cw_Air, by decide +kernel, by decide +kernel⟩
theorem kw_2_16 : (Jvm.Cond.laysFinal "TapTerminal$Items" "TapTerminal$Items" "rows" "[LTapTerminal$Row;") ∈ am_kw := am_in2 (List.mem_of_getElem? (i := 16) rfl) rfl
theorem kw_2_18 : (Jvm.Cond.laysFinal "TapTerminal$Items" "TapTerminal$Items" "there" "[Z") ∈ am_kw := am_in2 (List.mem_of_getElem? (i := 18) rfl) rfl
theorem kw_2_20 : (Jvm.Cond.lays "TapTerminal$Items" "TapTerminal$Items" "whole" "Z") ∈ am_kw := am_in2 (List.mem_of_getElem? (i := 20) rfl) rfl
theorem kw_2_22 : (Jvm.Cond.laysFinal "TapTerminal$Items" "TapTerminal$Items" "seen" "[Z") ∈ am_kw := am_in2 (List.mem_of_getElem? (i := 22) rfl) rfl
set_option maxRecDepth 20000 in
theorem cw_Items : ∀ w ∈ u_ws "TapTerminal$Items" F_Items 4, w ∈ am_kw := List.forall_mem_cons.mpr ⟨kw_2_16, List.forall_mem_cons.mpr ⟨kw_2_18, List.forall_mem_cons.mpr ⟨kw_2_20, List.forall_mem_cons.mpr ⟨kw_2_22, fun _ h => absurd h List.not_mem_nil⟩⟩⟩⟩
theorem cp_Items : am_cP 5 "TapTerminal$Items" F_Items 4 t_Items := ⟨rfl, cw_Items, by decide +kernel, by decide +kernel⟩
theorem kw_1_226 : (Jvm.Cond.lays "TapTerminal$Settings" "TapTerminal$Settings" "place" "I") ∈ am_kw := am_in1 (List.mem_of_getElem? (i := 226) rfl) rfl
theorem kw_1_228 : (Jvm.Cond.lays "TapTerminal$Settings" "TapTerminal$Settings" "floor" "I") ∈ am_kw := am_in1 (List.mem_of_getElem? (i := 228) rfl) rfl
theorem kw_1_230 : (Jvm.Cond.lays "TapTerminal$Settings" "TapTerminal$Settings" "ways" "I") ∈ am_kw := am_in1 (List.mem_of_getElem? (i := 230) rfl) rfl
theorem kw_1_232 : (Jvm.Cond.lays "TapTerminal$Settings" "TapTerminal$Settings" "online" "Z") ∈ am_kw := am_in1 (List.mem_of_getElem? (i := 232) rfl) rfl
theorem kw_1_234 : (Jvm.Cond.lays "TapTerminal$Settings" "TapTerminal$Settings" "issuer" "I") ∈ am_kw := am_in1 (List.mem_of_getElem? (i := 234) rfl) rfl
theorem kw_1_236 : (Jvm.Cond.lays "TapTerminal$Settings" "TapTerminal$Settings" "applications" "I") ∈ am_kw := am_in1 (List.mem_of_getElem? (i := 236) rfl) rfl
set_option maxRecDepth 20000 in
theorem cw_Settings : ∀ w ∈ u_ws "TapTerminal$Settings" F_Settings 6, w ∈ am_kw := List.forall_mem_cons.mpr ⟨kw_1_226, List.forall_mem_cons.mpr ⟨kw_1_228, List.forall_mem_cons.mpr ⟨kw_1_230, List.forall_mem_cons.mpr ⟨kw_1_232, List.forall_mem_cons.mpr ⟨kw_1_234, List.forall_mem_cons.mpr ⟨kw_1_236, fun _ h => absurd h List.not_mem_nil⟩⟩⟩⟩⟩⟩
theorem cp_Settings : am_cP 6 "TapTerminal$Settings" F_Settings 6 t_Settings := ⟨rfl, cw_Settings, by decide +kernel, by decide +kernel⟩
theorem kw_2_51 : (Jvm.Cond.lays "TapTerminal$Report" "TapTerminal$Report" "ending" "I") ∈ am_kw := am_in2 (List.mem_of_getElem? (i := 51) rfl) rfl
theorem kw_2_53 : (Jvm.Cond.lays "TapTerminal$Report" "TapTerminal$Report" "chosen" "I") ∈ am_kw := am_in2 (List.mem_of_getElem? (i := 53) rfl) rfl
theorem kw_2_55 : (Jvm.Cond.lays "TapTerminal$Report" "TapTerminal$Report" "findings" "I") ∈ am_kw := am_in2 (List.mem_of_getElem? (i := 55) rfl) rfl
theorem kw_2_57 : (Jvm.Cond.lays "TapTerminal$Report" "TapTerminal$Report" "typeAsked" "I") ∈ am_kw := am_in2 (List.mem_of_getElem? (i := 57) rfl) rfl
theorem kw_2_59 : (Jvm.Cond.lays "TapTerminal$Report" "TapTerminal$Report" "counter" "I") ∈ am_kw := am_in2 (List.mem_of_getElem? (i := 59) rfl) rfl
theorem kw_2_61 : (Jvm.Cond.lays "TapTerminal$Report" "TapTerminal$Report" "mixture" "I") ∈ am_kw := am_in2 (List.mem_of_getElem? (i := 61) rfl) rfl
theorem kw_2_63 : (Jvm.Cond.lays "TapTerminal$Report" "TapTerminal$Report" "selected" "I") ∈ am_kw := am_in2 (List.mem_of_getElem? (i := 63) rfl) rfl
theorem kw_2_65 : (Jvm.Cond.lays "TapTerminal$Report" "TapTerminal$Report" "recordsRead" "I") ∈ am_kw := am_in2 (List.mem_of_getElem? (i := 65) rfl) rfl
set_option maxRecDepth 20000 in
theorem cw_Report : ∀ w ∈ u_ws "TapTerminal$Report" F_Report 8, w ∈ am_kw := List.forall_mem_cons.mpr ⟨kw_2_51, List.forall_mem_cons.mpr ⟨kw_2_53, List.forall_mem_cons.mpr ⟨kw_2_55, List.forall_mem_cons.mpr ⟨kw_2_57, List.forall_mem_cons.mpr ⟨kw_2_59, List.forall_mem_cons.mpr ⟨kw_2_61, List.forall_mem_cons.mpr ⟨kw_2_63, List.forall_mem_cons.mpr ⟨kw_2_65, fun _ h => absurd h List.not_mem_nil⟩⟩⟩⟩⟩⟩⟩⟩
theorem cp_Report : am_cP 7 "TapTerminal$Report" F_Report 8 t_Report := ⟨rfl, cw_Report, by decide +kernel, by decide +kernel⟩
theorem kw_2_76 : (Jvm.Cond.laysFinal "TapTerminal" "TapTerminal" "air" "LTapTerminal$Air;") ∈ am_kw := am_in2 (List.mem_of_getElem? (i := 76) rfl) rfl
theorem kw_2_78 : (Jvm.Cond.laysFinal "TapTerminal" "TapTerminal" "settings" "LTapTerminal$Settings;") ∈ am_kw := am_in2 (List.mem_of_getElem? (i := 78) rfl) rfl
theorem kw_2_80 : (Jvm.Cond.laysFinal "TapTerminal" "TapTerminal" "items" "LTapTerminal$Items;") ∈ am_kw := am_in2 (List.mem_of_getElem? (i := 80) rfl) rfl
theorem kw_2_82 : (Jvm.Cond.laysFinal "TapTerminal" "TapTerminal" "report" "LTapTerminal$Report;") ∈ am_kw := am_in2 (List.mem_of_getElem? (i := 82) rfl) rfl
theorem kw_2_84 : (Jvm.Cond.laysFinal "TapTerminal" "TapTerminal" "command" "LTapTerminal$Row;") ∈ am_kw := am_in2 (List.mem_of_getElem? (i := 84) rfl) rfl
theorem kw_2_86 : (Jvm.Cond.laysFinal "TapTerminal" "TapTerminal" "answer" "LTapTerminal$Row;") ∈ am_kw := am_in2 (List.mem_of_getElem? (i := 86) rfl) rfl
set_option maxRecDepth 20000 in
theorem cw_Tap : ∀ w ∈ u_ws "TapTerminal" F_Tap 6, w ∈ am_kw := List.forall_mem_cons.mpr ⟨kw_2_76, List.forall_mem_cons.mpr ⟨kw_2_78, List.forall_mem_cons.mpr ⟨kw_2_80, List.forall_mem_cons.mpr ⟨kw_2_82, List.forall_mem_cons.mpr ⟨kw_2_84, List.forall_mem_cons.mpr ⟨kw_2_86, fun _ h => absurd h List.not_mem_nil⟩⟩⟩⟩⟩⟩
theorem cp_Tap : am_cP 8 "TapTerminal" F_Tap 6 t_Tap := ⟨rfl, cw_Tap, by decide +kernel, by decide +kernel⟩
theorem kw_3_196 : (Jvm.Cond.laysFinal "TapTerminalModel" "TapTerminalModel" "there" "[Z") ∈ am_kw := am_in3 (List.mem_of_getElem? (i := 196) rfl) rfl
theorem kw_3_198 : (Jvm.Cond.laysFinal "TapTerminalModel" "TapTerminalModel" "inField" "[Z") ∈ am_kw := am_in3 (List.mem_of_getElem? (i := 198) rfl) rfl
theorem kw_3_200 : (Jvm.Cond.laysFinal "TapTerminalModel" "TapTerminalModel" "ready" "[Z") ∈ am_kw := am_in3 (List.mem_of_getElem? (i := 200) rfl) rfl
theorem kw_3_202 : (Jvm.Cond.laysFinal "TapTerminalModel" "TapTerminalModel" "address" "[I") ∈ am_kw := am_in3 (List.mem_of_getElem? (i := 202) rfl) rfl
theorem kw_3_204 : (Jvm.Cond.laysFinal "TapTerminalModel" "TapTerminalModel" "application" "[I") ∈ am_kw := am_in3 (List.mem_of_getElem? (i := 204) rfl) rfl
theorem kw_3_206 : (Jvm.Cond.laysFinal "TapTerminalModel" "TapTerminalModel" "key" "[I") ∈ am_kw := am_in3 (List.mem_of_getElem? (i := 206) rfl) rfl
theorem kw_3_208 : (Jvm.Cond.laysFinal "TapTerminalModel" "TapTerminalModel" "size" "[I") ∈ am_kw := am_in3 (List.mem_of_getElem? (i := 208) rfl) rfl
theorem kw_3_210 : (Jvm.Cond.laysFinal "TapTerminalModel" "TapTerminalModel" "counter" "[I") ∈ am_kw := am_in3 (List.mem_of_getElem? (i := 210) rfl) rfl
theorem kw_3_212 : (Jvm.Cond.laysFinal "TapTerminalModel" "TapTerminalModel" "cap" "[I") ∈ am_kw := am_in3 (List.mem_of_getElem? (i := 212) rfl) rfl
theorem kw_3_214 : (Jvm.Cond.laysFinal "TapTerminalModel" "TapTerminalModel" "limit" "[I") ∈ am_kw := am_in3 (List.mem_of_getElem? (i := 214) rfl) rfl
theorem kw_3_216 : (Jvm.Cond.laysFinal "TapTerminalModel" "TapTerminalModel" "runs" "[I") ∈ am_kw := am_in3 (List.mem_of_getElem? (i := 216) rfl) rfl
theorem kw_3_218 : (Jvm.Cond.laysFinal "TapTerminalModel" "TapTerminalModel" "commands" "[I") ∈ am_kw := am_in3 (List.mem_of_getElem? (i := 218) rfl) rfl
theorem kw_3_220 : (Jvm.Cond.laysFinal "TapTerminalModel" "TapTerminalModel" "records" "[I") ∈ am_kw := am_in3 (List.mem_of_getElem? (i := 220) rfl) rfl
theorem kw_3_222 : (Jvm.Cond.laysFinal "TapTerminalModel" "TapTerminalModel" "lengths" "[I") ∈ am_kw := am_in3 (List.mem_of_getElem? (i := 222) rfl) rfl
theorem kw_3_224 : (Jvm.Cond.lays "TapTerminalModel" "TapTerminalModel" "place" "I") ∈ am_kw := am_in3 (List.mem_of_getElem? (i := 224) rfl) rfl
theorem kw_3_226 : (Jvm.Cond.lays "TapTerminalModel" "TapTerminalModel" "floor" "I") ∈ am_kw := am_in3 (List.mem_of_getElem? (i := 226) rfl) rfl
theorem kw_3_228 : (Jvm.Cond.lays "TapTerminalModel" "TapTerminalModel" "ways" "I") ∈ am_kw := am_in3 (List.mem_of_getElem? (i := 228) rfl) rfl
theorem kw_3_230 : (Jvm.Cond.lays "TapTerminalModel" "TapTerminalModel" "issuer" "I") ∈ am_kw := am_in3 (List.mem_of_getElem? (i := 230) rfl) rfl
theorem kw_3_232 : (Jvm.Cond.lays "TapTerminalModel" "TapTerminalModel" "applications" "I") ∈ am_kw := am_in3 (List.mem_of_getElem? (i := 232) rfl) rfl
theorem kw_3_234 : (Jvm.Cond.lays "TapTerminalModel" "TapTerminalModel" "online" "Z") ∈ am_kw := am_in3 (List.mem_of_getElem? (i := 234) rfl) rfl
theorem kw_3_236 : (Jvm.Cond.laysFinal "TapTerminalModel" "TapTerminalModel" "faults" "[I") ∈ am_kw := am_in3 (List.mem_of_getElem? (i := 236) rfl) rfl
theorem kw_3_238 : (Jvm.Cond.laysFinal "TapTerminalModel" "TapTerminalModel" "kinds" "[I") ∈ am_kw := am_in3 (List.mem_of_getElem? (i := 238) rfl) rfl
theorem kw_4_0 : (Jvm.Cond.laysFinal "TapTerminalModel" "TapTerminalModel" "numbers" "[I") ∈ am_kw := am_in4 (List.mem_of_getElem? (i := 0) rfl) rfl
theorem kw_4_2 : (Jvm.Cond.laysFinal "TapTerminalModel" "TapTerminalModel" "answered" "[Z") ∈ am_kw := am_in4 (List.mem_of_getElem? (i := 2) rfl) rfl
theorem kw_4_4 : (Jvm.Cond.lays "TapTerminalModel" "TapTerminalModel" "how" "I") ∈ am_kw := am_in4 (List.mem_of_getElem? (i := 4) rfl) rfl
theorem kw_4_6 : (Jvm.Cond.lays "TapTerminalModel" "TapTerminalModel" "chosen" "I") ∈ am_kw := am_in4 (List.mem_of_getElem? (i := 6) rfl) rfl
theorem kw_4_8 : (Jvm.Cond.lays "TapTerminalModel" "TapTerminalModel" "findings" "I") ∈ am_kw := am_in4 (List.mem_of_getElem? (i := 8) rfl) rfl
theorem kw_4_10 : (Jvm.Cond.lays "TapTerminalModel" "TapTerminalModel" "asked" "I") ∈ am_kw := am_in4 (List.mem_of_getElem? (i := 10) rfl) rfl
theorem kw_4_12 : (Jvm.Cond.lays "TapTerminalModel" "TapTerminalModel" "saidCounter" "I") ∈ am_kw := am_in4 (List.mem_of_getElem? (i := 12) rfl) rfl
theorem kw_4_14 : (Jvm.Cond.lays "TapTerminalModel" "TapTerminalModel" "saidMix" "I") ∈ am_kw := am_in4 (List.mem_of_getElem? (i := 14) rfl) rfl
theorem kw_4_16 : (Jvm.Cond.lays "TapTerminalModel" "TapTerminalModel" "exchanges" "I") ∈ am_kw := am_in4 (List.mem_of_getElem? (i := 16) rfl) rfl
theorem kw_4_18 : (Jvm.Cond.lays "TapTerminalModel" "TapTerminalModel" "silentOnes" "I") ∈ am_kw := am_in4 (List.mem_of_getElem? (i := 18) rfl) rfl
theorem kw_4_20 : (Jvm.Cond.lays "TapTerminalModel" "TapTerminalModel" "silent" "I") ∈ am_kw := am_in4 (List.mem_of_getElem? (i := 20) rfl) rfl
theorem kw_4_22 : (Jvm.Cond.lays "TapTerminalModel" "TapTerminalModel" "selected" "I") ∈ am_kw := am_in4 (List.mem_of_getElem? (i := 22) rfl) rfl
theorem kw_4_24 : (Jvm.Cond.lays "TapTerminalModel" "TapTerminalModel" "wholes" "I") ∈ am_kw := am_in4 (List.mem_of_getElem? (i := 24) rfl) rfl
theorem kw_4_26 : (Jvm.Cond.laysFinal "TapTerminalModel" "TapTerminalModel" "row" "[I") ∈ am_kw := am_in4 (List.mem_of_getElem? (i := 26) rfl) rfl
theorem kw_4_28 : (Jvm.Cond.laysFinal "TapTerminalModel" "TapTerminalModel" "came" "[I") ∈ am_kw := am_in4 (List.mem_of_getElem? (i := 28) rfl) rfl
theorem kw_4_30 : (Jvm.Cond.laysFinal "TapTerminalModel" "TapTerminalModel" "reply" "[I") ∈ am_kw := am_in4 (List.mem_of_getElem? (i := 30) rfl) rfl
theorem kw_4_32 : (Jvm.Cond.laysFinal "TapTerminalModel" "TapTerminalModel" "got" "[I") ∈ am_kw := am_in4 (List.mem_of_getElem? (i := 32) rfl) rfl
theorem kw_4_34 : (Jvm.Cond.lays "TapTerminalModel" "TapTerminalModel" "rowLength" "I") ∈ am_kw := am_in4 (List.mem_of_getElem? (i := 34) rfl) rfl
theorem kw_4_36 : (Jvm.Cond.lays "TapTerminalModel" "TapTerminalModel" "cameLength" "I") ∈ am_kw := am_in4 (List.mem_of_getElem? (i := 36) rfl) rfl
theorem kw_4_38 : (Jvm.Cond.lays "TapTerminalModel" "TapTerminalModel" "replyLength" "I") ∈ am_kw := am_in4 (List.mem_of_getElem? (i := 38) rfl) rfl
theorem kw_4_40 : (Jvm.Cond.lays "TapTerminalModel" "TapTerminalModel" "gotLength" "I") ∈ am_kw := am_in4 (List.mem_of_getElem? (i := 40) rfl) rfl
theorem kw_4_42 : (Jvm.Cond.lays "TapTerminalModel" "TapTerminalModel" "number" "I") ∈ am_kw := am_in4 (List.mem_of_getElem? (i := 42) rfl) rfl
theorem kw_4_44 : (Jvm.Cond.lays "TapTerminalModel" "TapTerminalModel" "own" "I") ∈ am_kw := am_in4 (List.mem_of_getElem? (i := 44) rfl) rfl
theorem kw_4_46 : (Jvm.Cond.lays "TapTerminalModel" "TapTerminalModel" "from" "I") ∈ am_kw := am_in4 (List.mem_of_getElem? (i := 46) rfl) rfl
theorem kw_4_48 : (Jvm.Cond.lays "TapTerminalModel" "TapTerminalModel" "last" "I") ∈ am_kw := am_in4 (List.mem_of_getElem? (i := 48) rfl) rfl
theorem kw_4_50 : (Jvm.Cond.lays "TapTerminalModel" "TapTerminalModel" "chosenNow" "I") ∈ am_kw := am_in4 (List.mem_of_getElem? (i := 50) rfl) rfl
theorem kw_4_52 : (Jvm.Cond.lays "TapTerminalModel" "TapTerminalModel" "saidAck" "Z") ∈ am_kw := am_in4 (List.mem_of_getElem? (i := 52) rfl) rfl
theorem kw_4_54 : (Jvm.Cond.laysFinal "TapTerminalModel" "TapTerminalModel" "read" "[I") ∈ am_kw := am_in4 (List.mem_of_getElem? (i := 54) rfl) rfl
theorem kw_4_56 : (Jvm.Cond.laysFinal "TapTerminalModel" "TapTerminalModel" "readLength" "[I") ∈ am_kw := am_in4 (List.mem_of_getElem? (i := 56) rfl) rfl
theorem kw_4_58 : (Jvm.Cond.laysFinal "TapTerminalModel" "TapTerminalModel" "ends" "[I") ∈ am_kw := am_in4 (List.mem_of_getElem? (i := 58) rfl) rfl
theorem kw_4_60 : (Jvm.Cond.laysFinal "TapTerminalModel" "TapTerminalModel" "itemAt" "[I") ∈ am_kw := am_in4 (List.mem_of_getElem? (i := 60) rfl) rfl
theorem kw_4_62 : (Jvm.Cond.laysFinal "TapTerminalModel" "TapTerminalModel" "itemLength" "[I") ∈ am_kw := am_in4 (List.mem_of_getElem? (i := 62) rfl) rfl
set_option maxRecDepth 20000 in
theorem cw_Mod : ∀ w ∈ u_ws "TapTerminalModel" F_Mod 54, w ∈ am_kw := List.forall_mem_cons.mpr ⟨kw_3_196, List.forall_mem_cons.mpr ⟨kw_3_198, List.forall_mem_cons.mpr ⟨kw_3_200, List.forall_mem_cons.mpr ⟨kw_3_202, List.forall_mem_cons.mpr ⟨kw_3_204, List.forall_mem_cons.mpr ⟨kw_3_206, List.forall_mem_cons.mpr ⟨kw_3_208, List.forall_mem_cons.mpr ⟨kw_3_210, List.forall_mem_cons.mpr ⟨kw_3_212, List.forall_mem_cons.mpr ⟨kw_3_214, List.forall_mem_cons.mpr ⟨kw_3_216, List.forall_mem_cons.mpr ⟨kw_3_218, List.forall_mem_cons.mpr ⟨kw_3_220, List.forall_mem_cons.mpr ⟨kw_3_222, List.forall_mem_cons.mpr ⟨kw_3_224, List.forall_mem_cons.mpr ⟨kw_3_226, List.forall_mem_cons.mpr ⟨kw_3_228, List.forall_mem_cons.mpr ⟨kw_3_230, List.forall_mem_cons.mpr ⟨kw_3_232, List.forall_mem_cons.mpr ⟨kw_3_234, List.forall_mem_cons.mpr ⟨kw_3_236, List.forall_mem_cons.mpr ⟨kw_3_238, List.forall_mem_cons.mpr ⟨kw_4_0, List.forall_mem_cons.mpr ⟨kw_4_2, List.forall_mem_cons.mpr ⟨kw_4_4, List.forall_mem_cons.mpr ⟨kw_4_6, List.forall_mem_cons.mpr ⟨kw_4_8, List.forall_mem_cons.mpr ⟨kw_4_10, List.forall_mem_cons.mpr ⟨kw_4_12, List.forall_mem_cons.mpr ⟨kw_4_14, List.forall_mem_cons.mpr ⟨kw_4_16, List.forall_mem_cons.mpr ⟨kw_4_18, List.forall_mem_cons.mpr ⟨kw_4_20, List.forall_mem_cons.mpr ⟨kw_4_22, List.forall_mem_cons.mpr ⟨kw_4_24, List.forall_mem_cons.mpr ⟨kw_4_26, List.forall_mem_cons.mpr ⟨kw_4_28, List.forall_mem_cons.mpr ⟨kw_4_30, List.forall_mem_cons.mpr ⟨kw_4_32, List.forall_mem_cons.mpr ⟨kw_4_34, List.forall_mem_cons.mpr ⟨kw_4_36, List.forall_mem_cons.mpr ⟨kw_4_38, List.forall_mem_cons.mpr ⟨kw_4_40, List.forall_mem_cons.mpr ⟨kw_4_42, List.forall_mem_cons.mpr ⟨kw_4_44, List.forall_mem_cons.mpr ⟨kw_4_46, List.forall_mem_cons.mpr ⟨kw_4_48, List.forall_mem_cons.mpr ⟨kw_4_50, List.forall_mem_cons.mpr ⟨kw_4_52, List.forall_mem_cons.mpr ⟨kw_4_54, List.forall_mem_cons.mpr ⟨kw_4_56, List.forall_mem_cons.mpr ⟨kw_4_58, List.forall_mem_cons.mpr ⟨kw_4_60, List.forall_mem_cons.mpr ⟨kw_4_62, fun _ h => absurd h List.not_mem_nil⟩⟩⟩⟩⟩⟩⟩⟩⟩⟩⟩⟩⟩⟩⟩⟩⟩⟩⟩⟩⟩⟩⟩⟩⟩⟩⟩⟩⟩⟩⟩⟩⟩⟩⟩⟩⟩⟩⟩⟩⟩⟩⟩⟩⟩⟩⟩⟩⟩⟩⟩⟩⟩⟩
theorem cp_Mod : am_cP 9 "TapTerminalModel" F_Mod 54 t_Mod := ⟨rfl, cw_Mod, by decide +kernel, by decide +kernel⟩
theorem am_cls_ok : ∀ (ci : Nat) (r : vw_C), classes[ci]? = some r → r.1 = am_cn ci := by
  intro ci r h
  match ci, h with
  | 0, h => cases h; rfl
  | 1, h => cases h; rfl
  | 2, h => cases h; rfl
  | 3, h => cases h; rfl
  | 4, h => cases h; rfl
  | 5, h => cases h; rfl
  | 6, h => cases h; rfl
  | 7, h => cases h; rfl
  | 8, h => cases h; rfl
  | 9, h => cases h; rfl
  | n + 10, h => simp at h
def q_Row_init : am_M := (⟨"TapTerminal$Row", "<init>", "(I)V"⟩, prog_8_method_1_code, 2, none, 0, true)
def q_Row_clear : am_M := (⟨"TapTerminal$Row", "clear", "()V"⟩, prog_8_method_2_code, 1, none, 0, false)
def q_Row_add : am_M := (⟨"TapTerminal$Row", "add", "(I)V"⟩, prog_8_method_3_code, 2, none, 0, false)
def q_Row_addInt : am_M := (⟨"TapTerminal$Row", "addInt", "(I)V"⟩, prog_8_method_4_code, 2, none, 0, false)
def q_Row_addPart : am_M := (⟨"TapTerminal$Row", "addPart", "(LTapTerminal$Row;II)V"⟩, prog_8_method_5_code, 5, none, 0, false)
def q_Row_at : am_M := (⟨"TapTerminal$Row", "at", "(I)I"⟩, prog_8_method_6_code, 2, (some .int), 0, false)
def q_Row_pairAt : am_M := (⟨"TapTerminal$Row", "pairAt", "(I)I"⟩, prog_8_method_7_code, 2, (some .int), 0, false)
def q_Row_intAt : am_M := (⟨"TapTerminal$Row", "intAt", "(I)I"⟩, prog_8_method_8_code, 2, (some .int), 0, false)
def q_Row_stirInto : am_M := (⟨"TapTerminal$Row", "stirInto", "(I)I"⟩, prog_8_method_9_code, 4, (some .int), 0, false)
def q_Block_init : am_M := (⟨"TapTerminal$Block", "<init>", "()V"⟩, prog_3_method_1_code, 1, none, 1, true)
def q_Block_becomePlain : am_M := (⟨"TapTerminal$Block", "becomePlain", "(II)V"⟩, prog_3_method_2_code, 3, none, 1, false)
def q_Block_becomePart : am_M := (⟨"TapTerminal$Block", "becomePart", "(ILTapTerminal$Row;II)V"⟩, prog_3_method_3_code, 5, none, 1, false)
def q_Card_init : am_M := (⟨"TapTerminal$Card", "<init>", "()V"⟩, prog_4_method_1_code, 2, none, 2, true)
def q_Card_renew : am_M := (⟨"TapTerminal$Card", "renew", "(IIII)V"⟩, prog_4_method_2_code, 6, none, 2, false)
def q_Card_countRecords : am_M := (⟨"TapTerminal$Card", "countRecords", "()I"⟩, prog_4_method_3_code, 2, (some .int), 2, false)
def q_Card_beginsWith : am_M := (⟨"TapTerminal$Card", "beginsWith", "(II)Z"⟩, prog_4_method_4_code, 3, (some .boolean), 2, false)
def q_Card_hearCall : am_M := (⟨"TapTerminal$Card", "hearCall", "(I)V"⟩, prog_4_method_5_code, 2, none, 2, false)
def q_Card_hearBlock : am_M := (⟨"TapTerminal$Card", "hearBlock", "(LTapTerminal$Block;)V"⟩, prog_4_method_6_code, 2, none, 2, false)
def q_Card_obey : am_M := (⟨"TapTerminal$Card", "obey", "()V"⟩, prog_4_method_7_code, 3, none, 2, false)
def q_Card_addRecord : am_M := (⟨"TapTerminal$Card", "addRecord", "(I)V"⟩, prog_4_method_8_code, 2, none, 2, false)
def q_Card_decide : am_M := (⟨"TapTerminal$Card", "decide", "(II)I"⟩, prog_4_method_9_code, 4, (some .int), 2, false)
def q_Card_mixtureOf : am_M := (⟨"TapTerminal$Card", "mixtureOf", "(IIII)I"⟩, prog_4_method_10_code, 6, (some .int), 2, false)
def q_Journal_init : am_M := (⟨"TapTerminal$Journal", "<init>", "()V"⟩, prog_6_method_1_code, 1, none, 3, true)
def q_Journal_clear : am_M := (⟨"TapTerminal$Journal", "clear", "()V"⟩, prog_6_method_2_code, 1, none, 3, false)
def q_Journal_nextFault : am_M := (⟨"TapTerminal$Journal", "nextFault", "()I"⟩, prog_6_method_3_code, 1, (some .int), 3, false)
def q_Journal_note : am_M := (⟨"TapTerminal$Journal", "note", "(IIZ)Z"⟩, prog_6_method_4_code, 4, (some .boolean), 3, false)
def q_Air_init : am_M := (⟨"TapTerminal$Air", "<init>", "()V"⟩, prog_2_method_1_code, 2, none, 4, true)
def q_Air_isAddressTaken : am_M := (⟨"TapTerminal$Air", "isAddressTaken", "(I)Z"⟩, prog_2_method_2_code, 3, (some .boolean), 4, false)
def q_Air_begin : am_M := (⟨"TapTerminal$Air", "begin", "()V"⟩, prog_2_method_3_code, 2, none, 4, false)
def q_Air_wake : am_M := (⟨"TapTerminal$Air", "wake", "()Z"⟩, prog_2_method_4_code, 1, (some .boolean), 4, false)
def q_Air_findAddress : am_M := (⟨"TapTerminal$Air", "findAddress", "()I"⟩, prog_2_method_5_code, 5, (some .int), 4, false)
def q_Air_select : am_M := (⟨"TapTerminal$Air", "select", "()Z"⟩, prog_2_method_6_code, 1, (some .boolean), 4, false)
def q_Air_putOff : am_M := (⟨"TapTerminal$Air", "putOff", "()Z"⟩, prog_2_method_7_code, 1, (some .boolean), 4, false)
def q_Air_transmit : am_M := (⟨"TapTerminal$Air", "transmit", "(LTapTerminal$Row;LTapTerminal$Row;)Z"⟩, prog_2_method_8_code, 11, (some .boolean), 4, false)
def q_Air_prepare : am_M := (⟨"TapTerminal$Air", "prepare", "(ILTapTerminal$Row;II)V"⟩, prog_2_method_9_code, 5, none, 4, false)
def q_Air_gather : am_M := (⟨"TapTerminal$Air", "gather", "(II)V"⟩, prog_2_method_10_code, 4, none, 4, false)
def q_Air_call : am_M := (⟨"TapTerminal$Air", "call", "(II)Z"⟩, prog_2_method_11_code, 6, (some .boolean), 4, false)
def q_Air_leadingZeros : am_M := (⟨"TapTerminal$Air", "leadingZeros", "(I)I"⟩, prog_2_method_12_code, 2, (some .int), 4, false)
def q_Items_init : am_M := (⟨"TapTerminal$Items", "<init>", "()V"⟩, prog_5_method_1_code, 2, none, 5, true)
def q_Items_clear : am_M := (⟨"TapTerminal$Items", "clear", "()V"⟩, prog_5_method_2_code, 2, none, 5, false)
def q_Items_take : am_M := (⟨"TapTerminal$Items", "take", "(LTapTerminal$Row;)V"⟩, prog_5_method_3_code, 2, none, 5, false)
def q_Items_takePart : am_M := (⟨"TapTerminal$Items", "takePart", "(LTapTerminal$Row;III)Z"⟩, prog_5_method_4_code, 8, (some .boolean), 5, false)
def q_Items_keepFirst : am_M := (⟨"TapTerminal$Items", "keepFirst", "(ILTapTerminal$Row;II)V"⟩, prog_5_method_5_code, 5, none, 5, false)
def q_Items_isLength : am_M := (⟨"TapTerminal$Items", "isLength", "(II)Z"⟩, prog_5_method_6_code, 2, (some .boolean), 5, false)
def q_Settings_init : am_M := (⟨"TapTerminal$Settings", "<init>", "()V"⟩, prog_9_method_1_code, 1, none, 6, true)
def q_Settings_takesApplication : am_M := (⟨"TapTerminal$Settings", "takesApplication", "(I)Z"⟩, prog_9_method_2_code, 2, (some .boolean), 6, false)
def q_Settings_findingsOf : am_M := (⟨"TapTerminal$Settings", "findingsOf", "(LTapTerminal$Items;III)I"⟩, prog_9_method_3_code, 6, (some .int), 6, false)
def q_Settings_typeFor : am_M := (⟨"TapTerminal$Settings", "typeFor", "(ILTapTerminal$Row;)I"⟩, prog_9_method_4_code, 3, (some .int), 6, false)
def q_Settings_isSigned : am_M := (⟨"TapTerminal$Settings", "isSigned", "(LTapTerminal$Items;)Z"⟩, prog_9_method_5_code, 4, (some .boolean), 6, false)
def q_Settings_someWayGoes : am_M := (⟨"TapTerminal$Settings", "someWayGoes", "(LTapTerminal$Row;Z)Z"⟩, prog_9_method_6_code, 5, (some .boolean), 6, false)
def q_Settings_isNow : am_M := (⟨"TapTerminal$Settings", "isNow", "(IZ)Z"⟩, prog_9_method_7_code, 2, (some .boolean), 6, false)
def q_Settings_hasWay : am_M := (⟨"TapTerminal$Settings", "hasWay", "(I)Z"⟩, prog_9_method_8_code, 2, (some .boolean), 6, false)
def q_Report_init : am_M := (⟨"TapTerminal$Report", "<init>", "()V"⟩, prog_7_method_1_code, 1, none, 7, true)
def q_Report_clear : am_M := (⟨"TapTerminal$Report", "clear", "()V"⟩, prog_7_method_2_code, 1, none, 7, false)
def q_Tap_init : am_M := (⟨"TapTerminal", "<init>", "()V"⟩, prog_1_method_1_code, 1, none, 8, true)
def q_Tap_card : am_M := (⟨"TapTerminal", "card", "(IIIII)Z"⟩, prog_1_method_2_code, 7, (some .boolean), 8, false)
def q_Tap_allow : am_M := (⟨"TapTerminal", "allow", "(III)Z"⟩, prog_1_method_3_code, 5, (some .boolean), 8, false)
def q_Tap_write : am_M := (⟨"TapTerminal", "write", "(III)I"⟩, prog_1_method_4_code, 5, (some .int), 8, false)
def q_Tap_field : am_M := (⟨"TapTerminal", "field", "(IZ)Z"⟩, prog_1_method_5_code, 3, (some .boolean), 8, false)
def q_Tap_terminal : am_M := (⟨"TapTerminal", "terminal", "(IIIZI)Z"⟩, prog_1_method_6_code, 7, (some .boolean), 8, false)
def q_Tap_takes : am_M := (⟨"TapTerminal", "takes", "(I)Z"⟩, prog_1_method_7_code, 3, (some .boolean), 8, false)
def q_Tap_fault : am_M := (⟨"TapTerminal", "fault", "(II)I"⟩, prog_1_method_8_code, 4, (some .int), 8, false)
def q_Tap_run : am_M := (⟨"TapTerminal", "run", "(III)I"⟩, prog_1_method_9_code, 5, (some .int), 8, false)
def q_Tap_told : am_M := (⟨"TapTerminal", "told", "(I)I"⟩, prog_1_method_10_code, 2, (some .int), 8, false)
def q_Tap_exchange : am_M := (⟨"TapTerminal", "exchange", "(II)I"⟩, prog_1_method_11_code, 4, (some .int), 8, false)
def q_Tap_look : am_M := (⟨"TapTerminal", "look", "(II)I"⟩, prog_1_method_12_code, 4, (some .int), 8, false)
def q_Tap_mix : am_M := (⟨"TapTerminal", "mix", "(IIIII)I"⟩, prog_1_method_13_code, 6, (some .int), 8, false)
def q_Tap_chooseCard : am_M := (⟨"TapTerminal", "chooseCard", "()I"⟩, prog_1_method_14_code, 3, (some .int), 8, false)
def q_Tap_readRecords : am_M := (⟨"TapTerminal", "readRecords", "(I)I"⟩, prog_1_method_15_code, 4, (some .int), 8, false)
def q_Tap_settle : am_M := (⟨"TapTerminal", "settle", "(III)I"⟩, prog_1_method_16_code, 4, (some .int), 8, false)
def q_Tap_startCommand : am_M := (⟨"TapTerminal", "startCommand", "(I)V"⟩, prog_1_method_17_code, 2, none, 8, false)
def q_Tap_isCard : am_M := (⟨"TapTerminal", "isCard", "(I)Z"⟩, prog_1_method_18_code, 2, (some .boolean), 8, false)
def q_Tap_isWithin : am_M := (⟨"TapTerminal", "isWithin", "(II)Z"⟩, prog_1_method_19_code, 2, (some .boolean), 8, false)
def q_Tap_isOctet : am_M := (⟨"TapTerminal", "isOctet", "(I)Z"⟩, prog_1_method_20_code, 1, (some .boolean), 8, false)
def q_Tap_stir : am_M := (⟨"TapTerminal", "stir", "(II)I"⟩, prog_1_method_21_code, 3, (some .int), 8, false)
def q_Mod_init : am_M := (⟨"TapTerminalModel", "<init>", "()V"⟩, prog_11_method_1_code, 1, none, 9, true)
def q_Mod_is : am_M := (⟨"TapTerminalModel", "is", "(III)Z"⟩, prog_11_method_2_code, 3, (some .boolean), 9, false)
def q_Mod_isCard : am_M := (⟨"TapTerminalModel", "isCard", "(I)Z"⟩, prog_11_method_3_code, 2, (some .boolean), 9, false)
def q_Mod_stir : am_M := (⟨"TapTerminalModel", "stir", "(II)I"⟩, prog_11_method_4_code, 3, (some .int), 9, false)
def q_Mod_card : am_M := (⟨"TapTerminalModel", "card", "(IIIII)Z"⟩, prog_11_method_5_code, 7, (some .boolean), 9, false)
def q_Mod_allow : am_M := (⟨"TapTerminalModel", "allow", "(III)Z"⟩, prog_11_method_6_code, 4, (some .boolean), 9, false)
def q_Mod_write : am_M := (⟨"TapTerminalModel", "write", "(III)I"⟩, prog_11_method_7_code, 5, (some .int), 9, false)
def q_Mod_field : am_M := (⟨"TapTerminalModel", "field", "(IZ)Z"⟩, prog_11_method_8_code, 4, (some .boolean), 9, false)
def q_Mod_terminal : am_M := (⟨"TapTerminalModel", "terminal", "(IIIZI)Z"⟩, prog_11_method_9_code, 6, (some .boolean), 9, false)
def q_Mod_takes : am_M := (⟨"TapTerminalModel", "takes", "(I)Z"⟩, prog_11_method_10_code, 2, (some .boolean), 9, false)
def q_Mod_fault : am_M := (⟨"TapTerminalModel", "fault", "(II)I"⟩, prog_11_method_11_code, 4, (some .int), 9, false)
def q_Mod_faultNow : am_M := (⟨"TapTerminalModel", "faultNow", "()I"⟩, prog_11_method_12_code, 1, (some .int), 9, false)
def q_Mod_note : am_M := (⟨"TapTerminalModel", "note", "(IIZ)Z"⟩, prog_11_method_13_code, 4, (some .boolean), 9, false)
def q_Mod_saySize : am_M := (⟨"TapTerminalModel", "saySize", "()I"⟩, prog_11_method_14_code, 2, (some .int), 9, false)
def q_Mod_hear : am_M := (⟨"TapTerminalModel", "hear", "(IIIIZ)V"⟩, prog_11_method_15_code, 7, none, 9, false)
def q_Mod_four : am_M := (⟨"TapTerminalModel", "four", "(I)I"⟩, prog_11_method_16_code, 2, (some .int), 9, false)
def q_Mod_command : am_M := (⟨"TapTerminalModel", "command", "()V"⟩, prog_11_method_17_code, 4, none, 9, false)
def q_Mod_manyOf : am_M := (⟨"TapTerminalModel", "manyOf", "(I)I"⟩, prog_11_method_18_code, 3, (some .int), 9, false)
def q_Mod_decide : am_M := (⟨"TapTerminalModel", "decide", "(I)V"⟩, prog_11_method_19_code, 7, none, 9, false)
def q_Mod_talk : am_M := (⟨"TapTerminalModel", "talk", "()Z"⟩, prog_11_method_20_code, 9, (some .boolean), 9, false)
def q_Mod_say : am_M := (⟨"TapTerminalModel", "say", "(II)V"⟩, prog_11_method_21_code, 3, none, 9, false)
def q_Mod_put : am_M := (⟨"TapTerminalModel", "put", "(I)V"⟩, prog_11_method_22_code, 3, none, 9, false)
def q_Mod_wake : am_M := (⟨"TapTerminalModel", "wake", "()Z"⟩, prog_11_method_23_code, 3, (some .boolean), 9, false)
def q_Mod_ask : am_M := (⟨"TapTerminalModel", "ask", "()I"⟩, prog_11_method_24_code, 7, (some .int), 9, false)
def q_Mod_call : am_M := (⟨"TapTerminalModel", "call", "(II)Z"⟩, prog_11_method_25_code, 4, (some .boolean), 9, false)
def q_Mod_run : am_M := (⟨"TapTerminalModel", "run", "(III)I"⟩, prog_11_method_26_code, 5, (some .int), 9, false)
def q_Mod_goes : am_M := (⟨"TapTerminalModel", "goes", "(III)I"⟩, prog_11_method_27_code, 7, (some .int), 9, false)
def q_Mod_takeApart : am_M := (⟨"TapTerminalModel", "takeApart", "(I)Z"⟩, prog_11_method_28_code, 6, (some .boolean), 9, false)
def q_Mod_items : am_M := (⟨"TapTerminalModel", "items", "(I)Z"⟩, prog_11_method_29_code, 6, (some .boolean), 9, false)
def q_Mod_item : am_M := (⟨"TapTerminalModel", "item", "(II)I"⟩, prog_11_method_30_code, 3, (some .int), 9, false)
def q_Mod_find : am_M := (⟨"TapTerminalModel", "find", "(III)V"⟩, prog_11_method_31_code, 8, none, 9, false)
def q_Mod_wayGoes : am_M := (⟨"TapTerminalModel", "wayGoes", "(I)Z"⟩, prog_11_method_32_code, 7, (some .boolean), 9, false)
def q_Mod_typeFor : am_M := (⟨"TapTerminalModel", "typeFor", "()I"⟩, prog_11_method_33_code, 1, (some .int), 9, false)
def q_Mod_told : am_M := (⟨"TapTerminalModel", "told", "(I)I"⟩, prog_11_method_34_code, 2, (some .int), 9, false)
def q_Mod_exchange : am_M := (⟨"TapTerminalModel", "exchange", "(II)I"⟩, prog_11_method_35_code, 3, (some .int), 9, false)
def q_Mod_look : am_M := (⟨"TapTerminalModel", "look", "(II)I"⟩, prog_11_method_36_code, 3, (some .int), 9, false)
def q_Mod_mix : am_M := (⟨"TapTerminalModel", "mix", "(IIIII)I"⟩, prog_11_method_37_code, 7, (some .int), 9, false)
def am_ms : List am_M := [q_Row_init, q_Row_clear, q_Row_add, q_Row_addInt, q_Row_addPart, q_Row_at, q_Row_pairAt, q_Row_intAt, q_Row_stirInto, q_Block_init, q_Block_becomePlain, q_Block_becomePart, q_Card_init, q_Card_renew, q_Card_countRecords, q_Card_beginsWith, q_Card_hearCall, q_Card_hearBlock, q_Card_obey, q_Card_addRecord, q_Card_decide, q_Card_mixtureOf, q_Journal_init, q_Journal_clear, q_Journal_nextFault, q_Journal_note, q_Air_init, q_Air_isAddressTaken, q_Air_begin, q_Air_wake, q_Air_findAddress, q_Air_select, q_Air_putOff, q_Air_transmit, q_Air_prepare, q_Air_gather, q_Air_call, q_Air_leadingZeros, q_Items_init, q_Items_clear, q_Items_take, q_Items_takePart, q_Items_keepFirst, q_Items_isLength, q_Settings_init, q_Settings_takesApplication, q_Settings_findingsOf, q_Settings_typeFor, q_Settings_isSigned, q_Settings_someWayGoes, q_Settings_isNow, q_Settings_hasWay, q_Report_init, q_Report_clear, q_Tap_init, q_Tap_card, q_Tap_allow, q_Tap_write, q_Tap_field, q_Tap_terminal, q_Tap_takes, q_Tap_fault, q_Tap_run, q_Tap_told, q_Tap_exchange, q_Tap_look, q_Tap_mix, q_Tap_chooseCard, q_Tap_readRecords, q_Tap_settle, q_Tap_startCommand, q_Tap_isCard, q_Tap_isWithin, q_Tap_isOctet, q_Tap_stir, q_Mod_init, q_Mod_is, q_Mod_isCard, q_Mod_stir, q_Mod_card, q_Mod_allow, q_Mod_write, q_Mod_field, q_Mod_terminal, q_Mod_takes, q_Mod_fault, q_Mod_faultNow, q_Mod_note, q_Mod_saySize, q_Mod_hear, q_Mod_four, q_Mod_command, q_Mod_manyOf, q_Mod_decide, q_Mod_talk, q_Mod_say, q_Mod_put, q_Mod_wake, q_Mod_ask, q_Mod_call, q_Mod_run, q_Mod_goes, q_Mod_takeApart, q_Mod_items, q_Mod_item, q_Mod_find, q_Mod_wayGoes, q_Mod_typeFor, q_Mod_told, q_Mod_exchange, q_Mod_look, q_Mod_mix]
def am_qP (q : am_M) : Prop := am_cn q.2.2.2.2.1 = q.1.cls ∧ Jvm.Cond.code q.1 q.2.1 q.2.2.1 q.2.2.2.1 ∈ am_kw ∧ Jvm.Cond.initialized q.1.cls ∈ am_kw ∧ q.1.cls ≠ "java/lang/invoke/MethodHandle" ∧ q.1.cls ≠ "java/lang/invoke/VarHandle" ∧ plainName q.1.cls = true ∧ (q.2.2.2.2.2 = true → q.1.name = "<init>") ∧ q.2.2.1 ≤ 40
theorem kw_1_38 : (Jvm.Cond.code ({ cls := "TapTerminal$Row", name := "<init>", desc := "(I)V" } : Jvm.MethodName) prog_8_method_1_code (2 : Nat) (Option.none : Option Jvm.ClassFile.FieldType)) ∈ am_kw := am_in1 (List.mem_of_getElem? (i := 38) rfl) rfl
theorem kw_1_4 : (Jvm.Cond.initialized "TapTerminal$Row") ∈ am_kw := am_in1 (List.mem_of_getElem? (i := 4) rfl) rfl
theorem qp_Row_init : am_qP q_Row_init := ⟨rfl, kw_1_38, kw_1_4, by decide +kernel, by decide +kernel, by decide +kernel, by decide +kernel, by decide +kernel⟩
theorem kw_2_107 : (Jvm.Cond.code ({ cls := "TapTerminal$Row", name := "clear", desc := "()V" } : Jvm.MethodName) prog_8_method_2_code (1 : Nat) (Option.none : Option Jvm.ClassFile.FieldType)) ∈ am_kw := am_in2 (List.mem_of_getElem? (i := 107) rfl) rfl
theorem qp_Row_clear : am_qP q_Row_clear := ⟨rfl, kw_2_107, kw_1_4, by decide +kernel, by decide +kernel, by decide +kernel, by decide +kernel, by decide +kernel⟩
theorem kw_2_123 : (Jvm.Cond.code ({ cls := "TapTerminal$Row", name := "add", desc := "(I)V" } : Jvm.MethodName) prog_8_method_3_code (2 : Nat) (Option.none : Option Jvm.ClassFile.FieldType)) ∈ am_kw := am_in2 (List.mem_of_getElem? (i := 123) rfl) rfl
theorem qp_Row_add : am_qP q_Row_add := ⟨rfl, kw_2_123, kw_1_4, by decide +kernel, by decide +kernel, by decide +kernel, by decide +kernel, by decide +kernel⟩
theorem kw_3_39 : (Jvm.Cond.code ({ cls := "TapTerminal$Row", name := "addInt", desc := "(I)V" } : Jvm.MethodName) prog_8_method_4_code (2 : Nat) (Option.none : Option Jvm.ClassFile.FieldType)) ∈ am_kw := am_in3 (List.mem_of_getElem? (i := 39) rfl) rfl
theorem qp_Row_addInt : am_qP q_Row_addInt := ⟨rfl, kw_3_39, kw_1_4, by decide +kernel, by decide +kernel, by decide +kernel, by decide +kernel, by decide +kernel⟩
theorem kw_2_230 : (Jvm.Cond.code ({ cls := "TapTerminal$Row", name := "addPart", desc := "(LTapTerminal$Row;II)V" } : Jvm.MethodName) prog_8_method_5_code (5 : Nat) (Option.none : Option Jvm.ClassFile.FieldType)) ∈ am_kw := am_in2 (List.mem_of_getElem? (i := 230) rfl) rfl
theorem qp_Row_addPart : am_qP q_Row_addPart := ⟨rfl, kw_2_230, kw_1_4, by decide +kernel, by decide +kernel, by decide +kernel, by decide +kernel, by decide +kernel⟩
theorem kw_2_234 : (Jvm.Cond.code ({ cls := "TapTerminal$Row", name := "at", desc := "(I)I" } : Jvm.MethodName) prog_8_method_6_code (2 : Nat) (Option.some Jvm.ClassFile.FieldType.int)) ∈ am_kw := am_in2 (List.mem_of_getElem? (i := 234) rfl) rfl
theorem qp_Row_at : am_qP q_Row_at := ⟨rfl, kw_2_234, kw_1_4, by decide +kernel, by decide +kernel, by decide +kernel, by decide +kernel, by decide +kernel⟩
theorem kw_3_99 : (Jvm.Cond.code ({ cls := "TapTerminal$Row", name := "pairAt", desc := "(I)I" } : Jvm.MethodName) prog_8_method_7_code (2 : Nat) (Option.some Jvm.ClassFile.FieldType.int)) ∈ am_kw := am_in3 (List.mem_of_getElem? (i := 99) rfl) rfl
theorem qp_Row_pairAt : am_qP q_Row_pairAt := ⟨rfl, kw_3_99, kw_1_4, by decide +kernel, by decide +kernel, by decide +kernel, by decide +kernel, by decide +kernel⟩
theorem kw_3_22 : (Jvm.Cond.code ({ cls := "TapTerminal$Row", name := "intAt", desc := "(I)I" } : Jvm.MethodName) prog_8_method_8_code (2 : Nat) (Option.some Jvm.ClassFile.FieldType.int)) ∈ am_kw := am_in3 (List.mem_of_getElem? (i := 22) rfl) rfl
theorem qp_Row_intAt : am_qP q_Row_intAt := ⟨rfl, kw_3_22, kw_1_4, by decide +kernel, by decide +kernel, by decide +kernel, by decide +kernel, by decide +kernel⟩
theorem kw_3_93 : (Jvm.Cond.code ({ cls := "TapTerminal$Row", name := "stirInto", desc := "(I)I" } : Jvm.MethodName) prog_8_method_9_code (4 : Nat) (Option.some Jvm.ClassFile.FieldType.int)) ∈ am_kw := am_in3 (List.mem_of_getElem? (i := 93) rfl) rfl
theorem qp_Row_stirInto : am_qP q_Row_stirInto := ⟨rfl, kw_3_93, kw_1_4, by decide +kernel, by decide +kernel, by decide +kernel, by decide +kernel, by decide +kernel⟩
theorem kw_1_58 : (Jvm.Cond.code ({ cls := "TapTerminal$Block", name := "<init>", desc := "()V" } : Jvm.MethodName) prog_3_method_1_code (1 : Nat) (Option.none : Option Jvm.ClassFile.FieldType)) ∈ am_kw := am_in1 (List.mem_of_getElem? (i := 58) rfl) rfl
theorem kw_1_5 : (Jvm.Cond.initialized "TapTerminal$Block") ∈ am_kw := am_in1 (List.mem_of_getElem? (i := 5) rfl) rfl
theorem qp_Block_init : am_qP q_Block_init := ⟨rfl, kw_1_58, kw_1_5, by decide +kernel, by decide +kernel, by decide +kernel, by decide +kernel, by decide +kernel⟩
theorem kw_2_222 : (Jvm.Cond.code ({ cls := "TapTerminal$Block", name := "becomePlain", desc := "(II)V" } : Jvm.MethodName) prog_3_method_2_code (3 : Nat) (Option.none : Option Jvm.ClassFile.FieldType)) ∈ am_kw := am_in2 (List.mem_of_getElem? (i := 222) rfl) rfl
theorem qp_Block_becomePlain : am_qP q_Block_becomePlain := ⟨rfl, kw_2_222, kw_1_5, by decide +kernel, by decide +kernel, by decide +kernel, by decide +kernel, by decide +kernel⟩
theorem kw_2_218 : (Jvm.Cond.code ({ cls := "TapTerminal$Block", name := "becomePart", desc := "(ILTapTerminal$Row;II)V" } : Jvm.MethodName) prog_3_method_3_code (5 : Nat) (Option.none : Option Jvm.ClassFile.FieldType)) ∈ am_kw := am_in2 (List.mem_of_getElem? (i := 218) rfl) rfl
theorem qp_Block_becomePart : am_qP q_Block_becomePart := ⟨rfl, kw_2_218, kw_1_5, by decide +kernel, by decide +kernel, by decide +kernel, by decide +kernel, by decide +kernel⟩
theorem kw_1_31 : (Jvm.Cond.code ({ cls := "TapTerminal$Card", name := "<init>", desc := "()V" } : Jvm.MethodName) prog_4_method_1_code (2 : Nat) (Option.none : Option Jvm.ClassFile.FieldType)) ∈ am_kw := am_in1 (List.mem_of_getElem? (i := 31) rfl) rfl
theorem kw_1_3 : (Jvm.Cond.initialized "TapTerminal$Card") ∈ am_kw := am_in1 (List.mem_of_getElem? (i := 3) rfl) rfl
theorem qp_Card_init : am_qP q_Card_init := ⟨rfl, kw_1_31, kw_1_3, by decide +kernel, by decide +kernel, by decide +kernel, by decide +kernel, by decide +kernel⟩
theorem kw_2_102 : (Jvm.Cond.code ({ cls := "TapTerminal$Card", name := "renew", desc := "(IIII)V" } : Jvm.MethodName) prog_4_method_2_code (6 : Nat) (Option.none : Option Jvm.ClassFile.FieldType)) ∈ am_kw := am_in2 (List.mem_of_getElem? (i := 102) rfl) rfl
theorem qp_Card_renew : am_qP q_Card_renew := ⟨rfl, kw_2_102, kw_1_3, by decide +kernel, by decide +kernel, by decide +kernel, by decide +kernel, by decide +kernel⟩
theorem kw_3_13 : (Jvm.Cond.code ({ cls := "TapTerminal$Card", name := "countRecords", desc := "()I" } : Jvm.MethodName) prog_4_method_3_code (2 : Nat) (Option.some Jvm.ClassFile.FieldType.int)) ∈ am_kw := am_in3 (List.mem_of_getElem? (i := 13) rfl) rfl
theorem qp_Card_countRecords : am_qP q_Card_countRecords := ⟨rfl, kw_3_13, kw_1_3, by decide +kernel, by decide +kernel, by decide +kernel, by decide +kernel, by decide +kernel⟩
theorem kw_2_172 : (Jvm.Cond.code ({ cls := "TapTerminal$Card", name := "beginsWith", desc := "(II)Z" } : Jvm.MethodName) prog_4_method_4_code (3 : Nat) (Option.some Jvm.ClassFile.FieldType.boolean)) ∈ am_kw := am_in2 (List.mem_of_getElem? (i := 172) rfl) rfl
theorem qp_Card_beginsWith : am_qP q_Card_beginsWith := ⟨rfl, kw_2_172, kw_1_3, by decide +kernel, by decide +kernel, by decide +kernel, by decide +kernel, by decide +kernel⟩
theorem kw_2_184 : (Jvm.Cond.code ({ cls := "TapTerminal$Card", name := "hearCall", desc := "(I)V" } : Jvm.MethodName) prog_4_method_5_code (2 : Nat) (Option.none : Option Jvm.ClassFile.FieldType)) ∈ am_kw := am_in2 (List.mem_of_getElem? (i := 184) rfl) rfl
theorem qp_Card_hearCall : am_qP q_Card_hearCall := ⟨rfl, kw_2_184, kw_1_3, by decide +kernel, by decide +kernel, by decide +kernel, by decide +kernel, by decide +kernel⟩
theorem kw_3_0 : (Jvm.Cond.code ({ cls := "TapTerminal$Card", name := "hearBlock", desc := "(LTapTerminal$Block;)V" } : Jvm.MethodName) prog_4_method_6_code (2 : Nat) (Option.none : Option Jvm.ClassFile.FieldType)) ∈ am_kw := am_in3 (List.mem_of_getElem? (i := 0) rfl) rfl
theorem qp_Card_hearBlock : am_qP q_Card_hearBlock := ⟨rfl, kw_3_0, kw_1_3, by decide +kernel, by decide +kernel, by decide +kernel, by decide +kernel, by decide +kernel⟩
theorem kw_3_7 : (Jvm.Cond.code ({ cls := "TapTerminal$Card", name := "obey", desc := "()V" } : Jvm.MethodName) prog_4_method_7_code (3 : Nat) (Option.none : Option Jvm.ClassFile.FieldType)) ∈ am_kw := am_in3 (List.mem_of_getElem? (i := 7) rfl) rfl
theorem qp_Card_obey : am_qP q_Card_obey := ⟨rfl, kw_3_7, kw_1_3, by decide +kernel, by decide +kernel, by decide +kernel, by decide +kernel, by decide +kernel⟩
theorem kw_3_17 : (Jvm.Cond.code ({ cls := "TapTerminal$Card", name := "addRecord", desc := "(I)V" } : Jvm.MethodName) prog_4_method_8_code (2 : Nat) (Option.none : Option Jvm.ClassFile.FieldType)) ∈ am_kw := am_in3 (List.mem_of_getElem? (i := 17) rfl) rfl
theorem qp_Card_addRecord : am_qP q_Card_addRecord := ⟨rfl, kw_3_17, kw_1_3, by decide +kernel, by decide +kernel, by decide +kernel, by decide +kernel, by decide +kernel⟩
theorem kw_3_26 : (Jvm.Cond.code ({ cls := "TapTerminal$Card", name := "decide", desc := "(II)I" } : Jvm.MethodName) prog_4_method_9_code (4 : Nat) (Option.some Jvm.ClassFile.FieldType.int)) ∈ am_kw := am_in3 (List.mem_of_getElem? (i := 26) rfl) rfl
theorem qp_Card_decide : am_qP q_Card_decide := ⟨rfl, kw_3_26, kw_1_3, by decide +kernel, by decide +kernel, by decide +kernel, by decide +kernel, by decide +kernel⟩
theorem kw_3_31 : (Jvm.Cond.code ({ cls := "TapTerminal$Card", name := "mixtureOf", desc := "(IIII)I" } : Jvm.MethodName) prog_4_method_10_code (6 : Nat) (Option.some Jvm.ClassFile.FieldType.int)) ∈ am_kw := am_in3 (List.mem_of_getElem? (i := 31) rfl) rfl
theorem qp_Card_mixtureOf : am_qP q_Card_mixtureOf := ⟨rfl, kw_3_31, kw_1_3, by decide +kernel, by decide +kernel, by decide +kernel, by decide +kernel, by decide +kernel⟩
theorem kw_1_156 : (Jvm.Cond.code ({ cls := "TapTerminal$Journal", name := "<init>", desc := "()V" } : Jvm.MethodName) prog_6_method_1_code (1 : Nat) (Option.none : Option Jvm.ClassFile.FieldType)) ∈ am_kw := am_in1 (List.mem_of_getElem? (i := 156) rfl) rfl
theorem kw_1_6 : (Jvm.Cond.initialized "TapTerminal$Journal") ∈ am_kw := am_in1 (List.mem_of_getElem? (i := 6) rfl) rfl
theorem qp_Journal_init : am_qP q_Journal_init := ⟨rfl, kw_1_156, kw_1_6, by decide +kernel, by decide +kernel, by decide +kernel, by decide +kernel, by decide +kernel⟩
theorem kw_2_156 : (Jvm.Cond.code ({ cls := "TapTerminal$Journal", name := "clear", desc := "()V" } : Jvm.MethodName) prog_6_method_2_code (1 : Nat) (Option.none : Option Jvm.ClassFile.FieldType)) ∈ am_kw := am_in2 (List.mem_of_getElem? (i := 156) rfl) rfl
theorem qp_Journal_clear : am_qP q_Journal_clear := ⟨rfl, kw_2_156, kw_1_6, by decide +kernel, by decide +kernel, by decide +kernel, by decide +kernel, by decide +kernel⟩
theorem kw_2_180 : (Jvm.Cond.code ({ cls := "TapTerminal$Journal", name := "nextFault", desc := "()I" } : Jvm.MethodName) prog_6_method_3_code (1 : Nat) (Option.some Jvm.ClassFile.FieldType.int)) ∈ am_kw := am_in2 (List.mem_of_getElem? (i := 180) rfl) rfl
theorem qp_Journal_nextFault : am_qP q_Journal_nextFault := ⟨rfl, kw_2_180, kw_1_6, by decide +kernel, by decide +kernel, by decide +kernel, by decide +kernel, by decide +kernel⟩
theorem kw_2_188 : (Jvm.Cond.code ({ cls := "TapTerminal$Journal", name := "note", desc := "(IIZ)Z" } : Jvm.MethodName) prog_6_method_4_code (4 : Nat) (Option.some Jvm.ClassFile.FieldType.boolean)) ∈ am_kw := am_in2 (List.mem_of_getElem? (i := 188) rfl) rfl
theorem qp_Journal_note : am_qP q_Journal_note := ⟨rfl, kw_2_188, kw_1_6, by decide +kernel, by decide +kernel, by decide +kernel, by decide +kernel, by decide +kernel⟩
theorem kw_1_24 : (Jvm.Cond.code ({ cls := "TapTerminal$Air", name := "<init>", desc := "()V" } : Jvm.MethodName) prog_2_method_1_code (2 : Nat) (Option.none : Option Jvm.ClassFile.FieldType)) ∈ am_kw := am_in1 (List.mem_of_getElem? (i := 24) rfl) rfl
theorem kw_1_2 : (Jvm.Cond.initialized "TapTerminal$Air") ∈ am_kw := am_in1 (List.mem_of_getElem? (i := 2) rfl) rfl
theorem qp_Air_init : am_qP q_Air_init := ⟨rfl, kw_1_24, kw_1_2, by decide +kernel, by decide +kernel, by decide +kernel, by decide +kernel, by decide +kernel⟩
theorem kw_2_131 : (Jvm.Cond.code ({ cls := "TapTerminal$Air", name := "isAddressTaken", desc := "(I)Z" } : Jvm.MethodName) prog_2_method_2_code (3 : Nat) (Option.some Jvm.ClassFile.FieldType.boolean)) ∈ am_kw := am_in2 (List.mem_of_getElem? (i := 131) rfl) rfl
theorem qp_Air_isAddressTaken : am_qP q_Air_isAddressTaken := ⟨rfl, kw_2_131, kw_1_2, by decide +kernel, by decide +kernel, by decide +kernel, by decide +kernel, by decide +kernel⟩
theorem kw_2_152 : (Jvm.Cond.code ({ cls := "TapTerminal$Air", name := "begin", desc := "()V" } : Jvm.MethodName) prog_2_method_3_code (2 : Nat) (Option.none : Option Jvm.ClassFile.FieldType)) ∈ am_kw := am_in2 (List.mem_of_getElem? (i := 152) rfl) rfl
theorem qp_Air_begin : am_qP q_Air_begin := ⟨rfl, kw_2_152, kw_1_2, by decide +kernel, by decide +kernel, by decide +kernel, by decide +kernel, by decide +kernel⟩
theorem kw_2_164 : (Jvm.Cond.code ({ cls := "TapTerminal$Air", name := "wake", desc := "()Z" } : Jvm.MethodName) prog_2_method_4_code (1 : Nat) (Option.some Jvm.ClassFile.FieldType.boolean)) ∈ am_kw := am_in2 (List.mem_of_getElem? (i := 164) rfl) rfl
theorem qp_Air_wake : am_qP q_Air_wake := ⟨rfl, kw_2_164, kw_1_2, by decide +kernel, by decide +kernel, by decide +kernel, by decide +kernel, by decide +kernel⟩
theorem kw_2_192 : (Jvm.Cond.code ({ cls := "TapTerminal$Air", name := "findAddress", desc := "()I" } : Jvm.MethodName) prog_2_method_5_code (5 : Nat) (Option.some Jvm.ClassFile.FieldType.int)) ∈ am_kw := am_in2 (List.mem_of_getElem? (i := 192) rfl) rfl
theorem qp_Air_findAddress : am_qP q_Air_findAddress := ⟨rfl, kw_2_192, kw_1_2, by decide +kernel, by decide +kernel, by decide +kernel, by decide +kernel, by decide +kernel⟩
theorem kw_2_199 : (Jvm.Cond.code ({ cls := "TapTerminal$Air", name := "select", desc := "()Z" } : Jvm.MethodName) prog_2_method_6_code (1 : Nat) (Option.some Jvm.ClassFile.FieldType.boolean)) ∈ am_kw := am_in2 (List.mem_of_getElem? (i := 199) rfl) rfl
theorem qp_Air_select : am_qP q_Air_select := ⟨rfl, kw_2_199, kw_1_2, by decide +kernel, by decide +kernel, by decide +kernel, by decide +kernel, by decide +kernel⟩
theorem kw_3_49 : (Jvm.Cond.code ({ cls := "TapTerminal$Air", name := "putOff", desc := "()Z" } : Jvm.MethodName) prog_2_method_7_code (1 : Nat) (Option.some Jvm.ClassFile.FieldType.boolean)) ∈ am_kw := am_in3 (List.mem_of_getElem? (i := 49) rfl) rfl
theorem qp_Air_putOff : am_qP q_Air_putOff := ⟨rfl, kw_3_49, kw_1_2, by decide +kernel, by decide +kernel, by decide +kernel, by decide +kernel, by decide +kernel⟩
theorem kw_2_208 : (Jvm.Cond.code ({ cls := "TapTerminal$Air", name := "transmit", desc := "(LTapTerminal$Row;LTapTerminal$Row;)Z" } : Jvm.MethodName) prog_2_method_8_code (11 : Nat) (Option.some Jvm.ClassFile.FieldType.boolean)) ∈ am_kw := am_in2 (List.mem_of_getElem? (i := 208) rfl) rfl
theorem qp_Air_transmit : am_qP q_Air_transmit := ⟨rfl, kw_2_208, kw_1_2, by decide +kernel, by decide +kernel, by decide +kernel, by decide +kernel, by decide +kernel⟩
theorem kw_2_214 : (Jvm.Cond.code ({ cls := "TapTerminal$Air", name := "prepare", desc := "(ILTapTerminal$Row;II)V" } : Jvm.MethodName) prog_2_method_9_code (5 : Nat) (Option.none : Option Jvm.ClassFile.FieldType)) ∈ am_kw := am_in2 (List.mem_of_getElem? (i := 214) rfl) rfl
theorem qp_Air_prepare : am_qP q_Air_prepare := ⟨rfl, kw_2_214, kw_1_2, by decide +kernel, by decide +kernel, by decide +kernel, by decide +kernel, by decide +kernel⟩
theorem kw_2_168 : (Jvm.Cond.code ({ cls := "TapTerminal$Air", name := "gather", desc := "(II)V" } : Jvm.MethodName) prog_2_method_10_code (4 : Nat) (Option.none : Option Jvm.ClassFile.FieldType)) ∈ am_kw := am_in2 (List.mem_of_getElem? (i := 168) rfl) rfl
theorem qp_Air_gather : am_qP q_Air_gather := ⟨rfl, kw_2_168, kw_1_2, by decide +kernel, by decide +kernel, by decide +kernel, by decide +kernel, by decide +kernel⟩
theorem kw_2_176 : (Jvm.Cond.code ({ cls := "TapTerminal$Air", name := "call", desc := "(II)Z" } : Jvm.MethodName) prog_2_method_11_code (6 : Nat) (Option.some Jvm.ClassFile.FieldType.boolean)) ∈ am_kw := am_in2 (List.mem_of_getElem? (i := 176) rfl) rfl
theorem qp_Air_call : am_qP q_Air_call := ⟨rfl, kw_2_176, kw_1_2, by decide +kernel, by decide +kernel, by decide +kernel, by decide +kernel, by decide +kernel⟩
theorem kw_2_195 : (Jvm.Cond.code ({ cls := "TapTerminal$Air", name := "leadingZeros", desc := "(I)I" } : Jvm.MethodName) prog_2_method_12_code (2 : Nat) (Option.some Jvm.ClassFile.FieldType.int)) ∈ am_kw := am_in2 (List.mem_of_getElem? (i := 195) rfl) rfl
theorem qp_Air_leadingZeros : am_qP q_Air_leadingZeros := ⟨rfl, kw_2_195, kw_1_2, by decide +kernel, by decide +kernel, by decide +kernel, by decide +kernel, by decide +kernel⟩
theorem kw_2_3 : (Jvm.Cond.code ({ cls := "TapTerminal$Items", name := "<init>", desc := "()V" } : Jvm.MethodName) prog_5_method_1_code (2 : Nat) (Option.none : Option Jvm.ClassFile.FieldType)) ∈ am_kw := am_in2 (List.mem_of_getElem? (i := 3) rfl) rfl
theorem kw_1_8 : (Jvm.Cond.initialized "TapTerminal$Items") ∈ am_kw := am_in1 (List.mem_of_getElem? (i := 8) rfl) rfl
theorem qp_Items_init : am_qP q_Items_init := ⟨rfl, kw_2_3, kw_1_8, by decide +kernel, by decide +kernel, by decide +kernel, by decide +kernel, by decide +kernel⟩
theorem kw_3_59 : (Jvm.Cond.code ({ cls := "TapTerminal$Items", name := "clear", desc := "()V" } : Jvm.MethodName) prog_5_method_2_code (2 : Nat) (Option.none : Option Jvm.ClassFile.FieldType)) ∈ am_kw := am_in3 (List.mem_of_getElem? (i := 59) rfl) rfl
theorem qp_Items_clear : am_qP q_Items_clear := ⟨rfl, kw_3_59, kw_1_8, by decide +kernel, by decide +kernel, by decide +kernel, by decide +kernel, by decide +kernel⟩
theorem kw_3_64 : (Jvm.Cond.code ({ cls := "TapTerminal$Items", name := "take", desc := "(LTapTerminal$Row;)V" } : Jvm.MethodName) prog_5_method_3_code (2 : Nat) (Option.none : Option Jvm.ClassFile.FieldType)) ∈ am_kw := am_in3 (List.mem_of_getElem? (i := 64) rfl) rfl
theorem qp_Items_take : am_qP q_Items_take := ⟨rfl, kw_3_64, kw_1_8, by decide +kernel, by decide +kernel, by decide +kernel, by decide +kernel, by decide +kernel⟩
theorem kw_3_68 : (Jvm.Cond.code ({ cls := "TapTerminal$Items", name := "takePart", desc := "(LTapTerminal$Row;III)Z" } : Jvm.MethodName) prog_5_method_4_code (8 : Nat) (Option.some Jvm.ClassFile.FieldType.boolean)) ∈ am_kw := am_in3 (List.mem_of_getElem? (i := 68) rfl) rfl
theorem qp_Items_takePart : am_qP q_Items_takePart := ⟨rfl, kw_3_68, kw_1_8, by decide +kernel, by decide +kernel, by decide +kernel, by decide +kernel, by decide +kernel⟩
theorem kw_3_73 : (Jvm.Cond.code ({ cls := "TapTerminal$Items", name := "keepFirst", desc := "(ILTapTerminal$Row;II)V" } : Jvm.MethodName) prog_5_method_5_code (5 : Nat) (Option.none : Option Jvm.ClassFile.FieldType)) ∈ am_kw := am_in3 (List.mem_of_getElem? (i := 73) rfl) rfl
theorem qp_Items_keepFirst : am_qP q_Items_keepFirst := ⟨rfl, kw_3_73, kw_1_8, by decide +kernel, by decide +kernel, by decide +kernel, by decide +kernel, by decide +kernel⟩
theorem kw_3_76 : (Jvm.Cond.code ({ cls := "TapTerminal$Items", name := "isLength", desc := "(II)Z" } : Jvm.MethodName) prog_5_method_6_code (2 : Nat) (Option.some Jvm.ClassFile.FieldType.boolean)) ∈ am_kw := am_in3 (List.mem_of_getElem? (i := 76) rfl) rfl
theorem qp_Items_isLength : am_qP q_Items_isLength := ⟨rfl, kw_3_76, kw_1_8, by decide +kernel, by decide +kernel, by decide +kernel, by decide +kernel, by decide +kernel⟩
theorem kw_1_212 : (Jvm.Cond.code ({ cls := "TapTerminal$Settings", name := "<init>", desc := "()V" } : Jvm.MethodName) prog_9_method_1_code (1 : Nat) (Option.none : Option Jvm.ClassFile.FieldType)) ∈ am_kw := am_in1 (List.mem_of_getElem? (i := 212) rfl) rfl
theorem kw_1_7 : (Jvm.Cond.initialized "TapTerminal$Settings") ∈ am_kw := am_in1 (List.mem_of_getElem? (i := 7) rfl) rfl
theorem qp_Settings_init : am_qP q_Settings_init := ⟨rfl, kw_1_212, kw_1_7, by decide +kernel, by decide +kernel, by decide +kernel, by decide +kernel, by decide +kernel⟩
theorem kw_3_45 : (Jvm.Cond.code ({ cls := "TapTerminal$Settings", name := "takesApplication", desc := "(I)Z" } : Jvm.MethodName) prog_9_method_2_code (2 : Nat) (Option.some Jvm.ClassFile.FieldType.boolean)) ∈ am_kw := am_in3 (List.mem_of_getElem? (i := 45) rfl) rfl
theorem qp_Settings_takesApplication : am_qP q_Settings_takesApplication := ⟨rfl, kw_3_45, kw_1_7, by decide +kernel, by decide +kernel, by decide +kernel, by decide +kernel, by decide +kernel⟩
theorem kw_3_85 : (Jvm.Cond.code ({ cls := "TapTerminal$Settings", name := "findingsOf", desc := "(LTapTerminal$Items;III)I" } : Jvm.MethodName) prog_9_method_3_code (6 : Nat) (Option.some Jvm.ClassFile.FieldType.int)) ∈ am_kw := am_in3 (List.mem_of_getElem? (i := 85) rfl) rfl
theorem qp_Settings_findingsOf : am_qP q_Settings_findingsOf := ⟨rfl, kw_3_85, kw_1_7, by decide +kernel, by decide +kernel, by decide +kernel, by decide +kernel, by decide +kernel⟩
theorem kw_3_115 : (Jvm.Cond.code ({ cls := "TapTerminal$Settings", name := "typeFor", desc := "(ILTapTerminal$Row;)I" } : Jvm.MethodName) prog_9_method_4_code (3 : Nat) (Option.some Jvm.ClassFile.FieldType.int)) ∈ am_kw := am_in3 (List.mem_of_getElem? (i := 115) rfl) rfl
theorem qp_Settings_typeFor : am_qP q_Settings_typeFor := ⟨rfl, kw_3_115, kw_1_7, by decide +kernel, by decide +kernel, by decide +kernel, by decide +kernel, by decide +kernel⟩
theorem kw_3_89 : (Jvm.Cond.code ({ cls := "TapTerminal$Settings", name := "isSigned", desc := "(LTapTerminal$Items;)Z" } : Jvm.MethodName) prog_9_method_5_code (4 : Nat) (Option.some Jvm.ClassFile.FieldType.boolean)) ∈ am_kw := am_in3 (List.mem_of_getElem? (i := 89) rfl) rfl
theorem qp_Settings_isSigned : am_qP q_Settings_isSigned := ⟨rfl, kw_3_89, kw_1_7, by decide +kernel, by decide +kernel, by decide +kernel, by decide +kernel, by decide +kernel⟩
theorem kw_3_104 : (Jvm.Cond.code ({ cls := "TapTerminal$Settings", name := "someWayGoes", desc := "(LTapTerminal$Row;Z)Z" } : Jvm.MethodName) prog_9_method_6_code (5 : Nat) (Option.some Jvm.ClassFile.FieldType.boolean)) ∈ am_kw := am_in3 (List.mem_of_getElem? (i := 104) rfl) rfl
theorem qp_Settings_someWayGoes : am_qP q_Settings_someWayGoes := ⟨rfl, kw_3_104, kw_1_7, by decide +kernel, by decide +kernel, by decide +kernel, by decide +kernel, by decide +kernel⟩
theorem kw_3_107 : (Jvm.Cond.code ({ cls := "TapTerminal$Settings", name := "isNow", desc := "(IZ)Z" } : Jvm.MethodName) prog_9_method_7_code (2 : Nat) (Option.some Jvm.ClassFile.FieldType.boolean)) ∈ am_kw := am_in3 (List.mem_of_getElem? (i := 107) rfl) rfl
theorem qp_Settings_isNow : am_qP q_Settings_isNow := ⟨rfl, kw_3_107, kw_1_7, by decide +kernel, by decide +kernel, by decide +kernel, by decide +kernel, by decide +kernel⟩
theorem kw_3_111 : (Jvm.Cond.code ({ cls := "TapTerminal$Settings", name := "hasWay", desc := "(I)Z" } : Jvm.MethodName) prog_9_method_8_code (2 : Nat) (Option.some Jvm.ClassFile.FieldType.boolean)) ∈ am_kw := am_in3 (List.mem_of_getElem? (i := 111) rfl) rfl
theorem qp_Settings_hasWay : am_qP q_Settings_hasWay := ⟨rfl, kw_3_111, kw_1_7, by decide +kernel, by decide +kernel, by decide +kernel, by decide +kernel, by decide +kernel⟩
theorem kw_2_29 : (Jvm.Cond.code ({ cls := "TapTerminal$Report", name := "<init>", desc := "()V" } : Jvm.MethodName) prog_7_method_1_code (1 : Nat) (Option.none : Option Jvm.ClassFile.FieldType)) ∈ am_kw := am_in2 (List.mem_of_getElem? (i := 29) rfl) rfl
theorem kw_1_9 : (Jvm.Cond.initialized "TapTerminal$Report") ∈ am_kw := am_in1 (List.mem_of_getElem? (i := 9) rfl) rfl
theorem qp_Report_init : am_qP q_Report_init := ⟨rfl, kw_2_29, kw_1_9, by decide +kernel, by decide +kernel, by decide +kernel, by decide +kernel, by decide +kernel⟩
theorem kw_2_34 : (Jvm.Cond.code ({ cls := "TapTerminal$Report", name := "clear", desc := "()V" } : Jvm.MethodName) prog_7_method_2_code (1 : Nat) (Option.none : Option Jvm.ClassFile.FieldType)) ∈ am_kw := am_in2 (List.mem_of_getElem? (i := 34) rfl) rfl
theorem qp_Report_clear : am_qP q_Report_clear := ⟨rfl, kw_2_34, kw_1_9, by decide +kernel, by decide +kernel, by decide +kernel, by decide +kernel, by decide +kernel⟩
theorem kw_1_16 : (Jvm.Cond.code ({ cls := "TapTerminal", name := "<init>", desc := "()V" } : Jvm.MethodName) prog_1_method_1_code (1 : Nat) (Option.none : Option Jvm.ClassFile.FieldType)) ∈ am_kw := am_in1 (List.mem_of_getElem? (i := 16) rfl) rfl
theorem kw_1_1 : (Jvm.Cond.initialized "TapTerminal") ∈ am_kw := am_in1 (List.mem_of_getElem? (i := 1) rfl) rfl
theorem qp_Tap_init : am_qP q_Tap_init := ⟨rfl, kw_1_16, kw_1_1, by decide +kernel, by decide +kernel, by decide +kernel, by decide +kernel, by decide +kernel⟩
theorem kw_2_92 : (Jvm.Cond.code ({ cls := "TapTerminal", name := "card", desc := "(IIIII)Z" } : Jvm.MethodName) prog_1_method_2_code (7 : Nat) (Option.some Jvm.ClassFile.FieldType.boolean)) ∈ am_kw := am_in2 (List.mem_of_getElem? (i := 92) rfl) rfl
theorem qp_Tap_card : am_qP q_Tap_card := ⟨rfl, kw_2_92, kw_1_1, by decide +kernel, by decide +kernel, by decide +kernel, by decide +kernel, by decide +kernel⟩
theorem kw_2_111 : (Jvm.Cond.code ({ cls := "TapTerminal", name := "allow", desc := "(III)Z" } : Jvm.MethodName) prog_1_method_3_code (5 : Nat) (Option.some Jvm.ClassFile.FieldType.boolean)) ∈ am_kw := am_in2 (List.mem_of_getElem? (i := 111) rfl) rfl
theorem qp_Tap_allow : am_qP q_Tap_allow := ⟨rfl, kw_2_111, kw_1_1, by decide +kernel, by decide +kernel, by decide +kernel, by decide +kernel, by decide +kernel⟩
theorem kw_2_119 : (Jvm.Cond.code ({ cls := "TapTerminal", name := "write", desc := "(III)I" } : Jvm.MethodName) prog_1_method_4_code (5 : Nat) (Option.some Jvm.ClassFile.FieldType.int)) ∈ am_kw := am_in2 (List.mem_of_getElem? (i := 119) rfl) rfl
theorem qp_Tap_write : am_qP q_Tap_write := ⟨rfl, kw_2_119, kw_1_1, by decide +kernel, by decide +kernel, by decide +kernel, by decide +kernel, by decide +kernel⟩
theorem kw_2_127 : (Jvm.Cond.code ({ cls := "TapTerminal", name := "field", desc := "(IZ)Z" } : Jvm.MethodName) prog_1_method_5_code (3 : Nat) (Option.some Jvm.ClassFile.FieldType.boolean)) ∈ am_kw := am_in2 (List.mem_of_getElem? (i := 127) rfl) rfl
theorem qp_Tap_field : am_qP q_Tap_field := ⟨rfl, kw_2_127, kw_1_1, by decide +kernel, by decide +kernel, by decide +kernel, by decide +kernel, by decide +kernel⟩
theorem kw_2_135 : (Jvm.Cond.code ({ cls := "TapTerminal", name := "terminal", desc := "(IIIZI)Z" } : Jvm.MethodName) prog_1_method_6_code (7 : Nat) (Option.some Jvm.ClassFile.FieldType.boolean)) ∈ am_kw := am_in2 (List.mem_of_getElem? (i := 135) rfl) rfl
theorem qp_Tap_terminal : am_qP q_Tap_terminal := ⟨rfl, kw_2_135, kw_1_1, by decide +kernel, by decide +kernel, by decide +kernel, by decide +kernel, by decide +kernel⟩
theorem kw_2_139 : (Jvm.Cond.code ({ cls := "TapTerminal", name := "takes", desc := "(I)Z" } : Jvm.MethodName) prog_1_method_7_code (3 : Nat) (Option.some Jvm.ClassFile.FieldType.boolean)) ∈ am_kw := am_in2 (List.mem_of_getElem? (i := 139) rfl) rfl
theorem qp_Tap_takes : am_qP q_Tap_takes := ⟨rfl, kw_2_139, kw_1_1, by decide +kernel, by decide +kernel, by decide +kernel, by decide +kernel, by decide +kernel⟩
theorem kw_2_143 : (Jvm.Cond.code ({ cls := "TapTerminal", name := "fault", desc := "(II)I" } : Jvm.MethodName) prog_1_method_8_code (4 : Nat) (Option.some Jvm.ClassFile.FieldType.int)) ∈ am_kw := am_in2 (List.mem_of_getElem? (i := 143) rfl) rfl
theorem qp_Tap_fault : am_qP q_Tap_fault := ⟨rfl, kw_2_143, kw_1_1, by decide +kernel, by decide +kernel, by decide +kernel, by decide +kernel, by decide +kernel⟩
theorem kw_2_147 : (Jvm.Cond.code ({ cls := "TapTerminal", name := "run", desc := "(III)I" } : Jvm.MethodName) prog_1_method_9_code (5 : Nat) (Option.some Jvm.ClassFile.FieldType.int)) ∈ am_kw := am_in2 (List.mem_of_getElem? (i := 147) rfl) rfl
theorem qp_Tap_run : am_qP q_Tap_run := ⟨rfl, kw_2_147, kw_1_1, by decide +kernel, by decide +kernel, by decide +kernel, by decide +kernel, by decide +kernel⟩
theorem kw_3_121 : (Jvm.Cond.code ({ cls := "TapTerminal", name := "told", desc := "(I)I" } : Jvm.MethodName) prog_1_method_10_code (2 : Nat) (Option.some Jvm.ClassFile.FieldType.int)) ∈ am_kw := am_in3 (List.mem_of_getElem? (i := 121) rfl) rfl
theorem qp_Tap_told : am_qP q_Tap_told := ⟨rfl, kw_3_121, kw_1_1, by decide +kernel, by decide +kernel, by decide +kernel, by decide +kernel, by decide +kernel⟩
theorem kw_3_125 : (Jvm.Cond.code ({ cls := "TapTerminal", name := "exchange", desc := "(II)I" } : Jvm.MethodName) prog_1_method_11_code (4 : Nat) (Option.some Jvm.ClassFile.FieldType.int)) ∈ am_kw := am_in3 (List.mem_of_getElem? (i := 125) rfl) rfl
theorem qp_Tap_exchange : am_qP q_Tap_exchange := ⟨rfl, kw_3_125, kw_1_1, by decide +kernel, by decide +kernel, by decide +kernel, by decide +kernel, by decide +kernel⟩
theorem kw_3_129 : (Jvm.Cond.code ({ cls := "TapTerminal", name := "look", desc := "(II)I" } : Jvm.MethodName) prog_1_method_12_code (4 : Nat) (Option.some Jvm.ClassFile.FieldType.int)) ∈ am_kw := am_in3 (List.mem_of_getElem? (i := 129) rfl) rfl
theorem qp_Tap_look : am_qP q_Tap_look := ⟨rfl, kw_3_129, kw_1_1, by decide +kernel, by decide +kernel, by decide +kernel, by decide +kernel, by decide +kernel⟩
theorem kw_3_134 : (Jvm.Cond.code ({ cls := "TapTerminal", name := "mix", desc := "(IIIII)I" } : Jvm.MethodName) prog_1_method_13_code (6 : Nat) (Option.some Jvm.ClassFile.FieldType.int)) ∈ am_kw := am_in3 (List.mem_of_getElem? (i := 134) rfl) rfl
theorem qp_Tap_mix : am_qP q_Tap_mix := ⟨rfl, kw_3_134, kw_1_1, by decide +kernel, by decide +kernel, by decide +kernel, by decide +kernel, by decide +kernel⟩
theorem kw_2_160 : (Jvm.Cond.code ({ cls := "TapTerminal", name := "chooseCard", desc := "()I" } : Jvm.MethodName) prog_1_method_14_code (3 : Nat) (Option.some Jvm.ClassFile.FieldType.int)) ∈ am_kw := am_in2 (List.mem_of_getElem? (i := 160) rfl) rfl
theorem qp_Tap_chooseCard : am_qP q_Tap_chooseCard := ⟨rfl, kw_2_160, kw_1_1, by decide +kernel, by decide +kernel, by decide +kernel, by decide +kernel, by decide +kernel⟩
theorem kw_3_53 : (Jvm.Cond.code ({ cls := "TapTerminal", name := "readRecords", desc := "(I)I" } : Jvm.MethodName) prog_1_method_15_code (4 : Nat) (Option.some Jvm.ClassFile.FieldType.int)) ∈ am_kw := am_in3 (List.mem_of_getElem? (i := 53) rfl) rfl
theorem qp_Tap_readRecords : am_qP q_Tap_readRecords := ⟨rfl, kw_3_53, kw_1_1, by decide +kernel, by decide +kernel, by decide +kernel, by decide +kernel, by decide +kernel⟩
theorem kw_3_81 : (Jvm.Cond.code ({ cls := "TapTerminal", name := "settle", desc := "(III)I" } : Jvm.MethodName) prog_1_method_16_code (4 : Nat) (Option.some Jvm.ClassFile.FieldType.int)) ∈ am_kw := am_in3 (List.mem_of_getElem? (i := 81) rfl) rfl
theorem qp_Tap_settle : am_qP q_Tap_settle := ⟨rfl, kw_3_81, kw_1_1, by decide +kernel, by decide +kernel, by decide +kernel, by decide +kernel, by decide +kernel⟩
theorem kw_2_203 : (Jvm.Cond.code ({ cls := "TapTerminal", name := "startCommand", desc := "(I)V" } : Jvm.MethodName) prog_1_method_17_code (2 : Nat) (Option.none : Option Jvm.ClassFile.FieldType)) ∈ am_kw := am_in2 (List.mem_of_getElem? (i := 203) rfl) rfl
theorem qp_Tap_startCommand : am_qP q_Tap_startCommand := ⟨rfl, kw_2_203, kw_1_1, by decide +kernel, by decide +kernel, by decide +kernel, by decide +kernel, by decide +kernel⟩
theorem kw_2_115 : (Jvm.Cond.code ({ cls := "TapTerminal", name := "isCard", desc := "(I)Z" } : Jvm.MethodName) prog_1_method_18_code (2 : Nat) (Option.some Jvm.ClassFile.FieldType.boolean)) ∈ am_kw := am_in2 (List.mem_of_getElem? (i := 115) rfl) rfl
theorem qp_Tap_isCard : am_qP q_Tap_isCard := ⟨rfl, kw_2_115, kw_1_1, by decide +kernel, by decide +kernel, by decide +kernel, by decide +kernel, by decide +kernel⟩
theorem kw_2_95 : (Jvm.Cond.code ({ cls := "TapTerminal", name := "isWithin", desc := "(II)Z" } : Jvm.MethodName) prog_1_method_19_code (2 : Nat) (Option.some Jvm.ClassFile.FieldType.boolean)) ∈ am_kw := am_in2 (List.mem_of_getElem? (i := 95) rfl) rfl
theorem qp_Tap_isWithin : am_qP q_Tap_isWithin := ⟨rfl, kw_2_95, kw_1_1, by decide +kernel, by decide +kernel, by decide +kernel, by decide +kernel, by decide +kernel⟩
theorem kw_2_98 : (Jvm.Cond.code ({ cls := "TapTerminal", name := "isOctet", desc := "(I)Z" } : Jvm.MethodName) prog_1_method_20_code (1 : Nat) (Option.some Jvm.ClassFile.FieldType.boolean)) ∈ am_kw := am_in2 (List.mem_of_getElem? (i := 98) rfl) rfl
theorem qp_Tap_isOctet : am_qP q_Tap_isOctet := ⟨rfl, kw_2_98, kw_1_1, by decide +kernel, by decide +kernel, by decide +kernel, by decide +kernel, by decide +kernel⟩
theorem kw_3_34 : (Jvm.Cond.code ({ cls := "TapTerminal", name := "stir", desc := "(II)I" } : Jvm.MethodName) prog_1_method_21_code (3 : Nat) (Option.some Jvm.ClassFile.FieldType.int)) ∈ am_kw := am_in3 (List.mem_of_getElem? (i := 34) rfl) rfl
theorem qp_Tap_stir : am_qP q_Tap_stir := ⟨rfl, kw_3_34, kw_1_1, by decide +kernel, by decide +kernel, by decide +kernel, by decide +kernel, by decide +kernel⟩
theorem kw_3_140 : (Jvm.Cond.code ({ cls := "TapTerminalModel", name := "<init>", desc := "()V" } : Jvm.MethodName) prog_11_method_1_code (1 : Nat) (Option.none : Option Jvm.ClassFile.FieldType)) ∈ am_kw := am_in3 (List.mem_of_getElem? (i := 140) rfl) rfl
theorem kw_1_10 : (Jvm.Cond.initialized "TapTerminalModel") ∈ am_kw := am_in1 (List.mem_of_getElem? (i := 10) rfl) rfl
theorem qp_Mod_init : am_qP q_Mod_init := ⟨rfl, kw_3_140, kw_1_10, by decide +kernel, by decide +kernel, by decide +kernel, by decide +kernel, by decide +kernel⟩
theorem kw_4_71 : (Jvm.Cond.code ({ cls := "TapTerminalModel", name := "is", desc := "(III)Z" } : Jvm.MethodName) prog_11_method_2_code (3 : Nat) (Option.some Jvm.ClassFile.FieldType.boolean)) ∈ am_kw := am_in4 (List.mem_of_getElem? (i := 71) rfl) rfl
theorem qp_Mod_is : am_qP q_Mod_is := ⟨rfl, kw_4_71, kw_1_10, by decide +kernel, by decide +kernel, by decide +kernel, by decide +kernel, by decide +kernel⟩
theorem kw_4_80 : (Jvm.Cond.code ({ cls := "TapTerminalModel", name := "isCard", desc := "(I)Z" } : Jvm.MethodName) prog_11_method_3_code (2 : Nat) (Option.some Jvm.ClassFile.FieldType.boolean)) ∈ am_kw := am_in4 (List.mem_of_getElem? (i := 80) rfl) rfl
theorem qp_Mod_isCard : am_qP q_Mod_isCard := ⟨rfl, kw_4_80, kw_1_10, by decide +kernel, by decide +kernel, by decide +kernel, by decide +kernel, by decide +kernel⟩
theorem kw_4_160 : (Jvm.Cond.code ({ cls := "TapTerminalModel", name := "stir", desc := "(II)I" } : Jvm.MethodName) prog_11_method_4_code (3 : Nat) (Option.some Jvm.ClassFile.FieldType.int)) ∈ am_kw := am_in4 (List.mem_of_getElem? (i := 160) rfl) rfl
theorem qp_Mod_stir : am_qP q_Mod_stir := ⟨rfl, kw_4_160, kw_1_10, by decide +kernel, by decide +kernel, by decide +kernel, by decide +kernel, by decide +kernel⟩
theorem kw_4_68 : (Jvm.Cond.code ({ cls := "TapTerminalModel", name := "card", desc := "(IIIII)Z" } : Jvm.MethodName) prog_11_method_5_code (7 : Nat) (Option.some Jvm.ClassFile.FieldType.boolean)) ∈ am_kw := am_in4 (List.mem_of_getElem? (i := 68) rfl) rfl
theorem qp_Mod_card : am_qP q_Mod_card := ⟨rfl, kw_4_68, kw_1_10, by decide +kernel, by decide +kernel, by decide +kernel, by decide +kernel, by decide +kernel⟩
theorem kw_4_76 : (Jvm.Cond.code ({ cls := "TapTerminalModel", name := "allow", desc := "(III)Z" } : Jvm.MethodName) prog_11_method_6_code (4 : Nat) (Option.some Jvm.ClassFile.FieldType.boolean)) ∈ am_kw := am_in4 (List.mem_of_getElem? (i := 76) rfl) rfl
theorem qp_Mod_allow : am_qP q_Mod_allow := ⟨rfl, kw_4_76, kw_1_10, by decide +kernel, by decide +kernel, by decide +kernel, by decide +kernel, by decide +kernel⟩
theorem kw_4_84 : (Jvm.Cond.code ({ cls := "TapTerminalModel", name := "write", desc := "(III)I" } : Jvm.MethodName) prog_11_method_7_code (5 : Nat) (Option.some Jvm.ClassFile.FieldType.int)) ∈ am_kw := am_in4 (List.mem_of_getElem? (i := 84) rfl) rfl
theorem qp_Mod_write : am_qP q_Mod_write := ⟨rfl, kw_4_84, kw_1_10, by decide +kernel, by decide +kernel, by decide +kernel, by decide +kernel, by decide +kernel⟩
theorem kw_4_88 : (Jvm.Cond.code ({ cls := "TapTerminalModel", name := "field", desc := "(IZ)Z" } : Jvm.MethodName) prog_11_method_8_code (4 : Nat) (Option.some Jvm.ClassFile.FieldType.boolean)) ∈ am_kw := am_in4 (List.mem_of_getElem? (i := 88) rfl) rfl
theorem qp_Mod_field : am_qP q_Mod_field := ⟨rfl, kw_4_88, kw_1_10, by decide +kernel, by decide +kernel, by decide +kernel, by decide +kernel, by decide +kernel⟩
theorem kw_4_92 : (Jvm.Cond.code ({ cls := "TapTerminalModel", name := "terminal", desc := "(IIIZI)Z" } : Jvm.MethodName) prog_11_method_9_code (6 : Nat) (Option.some Jvm.ClassFile.FieldType.boolean)) ∈ am_kw := am_in4 (List.mem_of_getElem? (i := 92) rfl) rfl
theorem qp_Mod_terminal : am_qP q_Mod_terminal := ⟨rfl, kw_4_92, kw_1_10, by decide +kernel, by decide +kernel, by decide +kernel, by decide +kernel, by decide +kernel⟩
theorem kw_4_96 : (Jvm.Cond.code ({ cls := "TapTerminalModel", name := "takes", desc := "(I)Z" } : Jvm.MethodName) prog_11_method_10_code (2 : Nat) (Option.some Jvm.ClassFile.FieldType.boolean)) ∈ am_kw := am_in4 (List.mem_of_getElem? (i := 96) rfl) rfl
theorem qp_Mod_takes : am_qP q_Mod_takes := ⟨rfl, kw_4_96, kw_1_10, by decide +kernel, by decide +kernel, by decide +kernel, by decide +kernel, by decide +kernel⟩
theorem kw_4_100 : (Jvm.Cond.code ({ cls := "TapTerminalModel", name := "fault", desc := "(II)I" } : Jvm.MethodName) prog_11_method_11_code (4 : Nat) (Option.some Jvm.ClassFile.FieldType.int)) ∈ am_kw := am_in4 (List.mem_of_getElem? (i := 100) rfl) rfl
theorem qp_Mod_fault : am_qP q_Mod_fault := ⟨rfl, kw_4_100, kw_1_10, by decide +kernel, by decide +kernel, by decide +kernel, by decide +kernel, by decide +kernel⟩
theorem kw_4_116 : (Jvm.Cond.code ({ cls := "TapTerminalModel", name := "faultNow", desc := "()I" } : Jvm.MethodName) prog_11_method_12_code (1 : Nat) (Option.some Jvm.ClassFile.FieldType.int)) ∈ am_kw := am_in4 (List.mem_of_getElem? (i := 116) rfl) rfl
theorem qp_Mod_faultNow : am_qP q_Mod_faultNow := ⟨rfl, kw_4_116, kw_1_10, by decide +kernel, by decide +kernel, by decide +kernel, by decide +kernel, by decide +kernel⟩
theorem kw_4_120 : (Jvm.Cond.code ({ cls := "TapTerminalModel", name := "note", desc := "(IIZ)Z" } : Jvm.MethodName) prog_11_method_13_code (4 : Nat) (Option.some Jvm.ClassFile.FieldType.boolean)) ∈ am_kw := am_in4 (List.mem_of_getElem? (i := 120) rfl) rfl
theorem qp_Mod_note : am_qP q_Mod_note := ⟨rfl, kw_4_120, kw_1_10, by decide +kernel, by decide +kernel, by decide +kernel, by decide +kernel, by decide +kernel⟩
theorem kw_4_140 : (Jvm.Cond.code ({ cls := "TapTerminalModel", name := "saySize", desc := "()I" } : Jvm.MethodName) prog_11_method_14_code (2 : Nat) (Option.some Jvm.ClassFile.FieldType.int)) ∈ am_kw := am_in4 (List.mem_of_getElem? (i := 140) rfl) rfl
theorem qp_Mod_saySize : am_qP q_Mod_saySize := ⟨rfl, kw_4_140, kw_1_10, by decide +kernel, by decide +kernel, by decide +kernel, by decide +kernel, by decide +kernel⟩
theorem kw_4_136 : (Jvm.Cond.code ({ cls := "TapTerminalModel", name := "hear", desc := "(IIIIZ)V" } : Jvm.MethodName) prog_11_method_15_code (7 : Nat) (Option.none : Option Jvm.ClassFile.FieldType)) ∈ am_kw := am_in4 (List.mem_of_getElem? (i := 136) rfl) rfl
theorem qp_Mod_hear : am_qP q_Mod_hear := ⟨rfl, kw_4_136, kw_1_10, by decide +kernel, by decide +kernel, by decide +kernel, by decide +kernel, by decide +kernel⟩
theorem kw_4_156 : (Jvm.Cond.code ({ cls := "TapTerminalModel", name := "four", desc := "(I)I" } : Jvm.MethodName) prog_11_method_16_code (2 : Nat) (Option.some Jvm.ClassFile.FieldType.int)) ∈ am_kw := am_in4 (List.mem_of_getElem? (i := 156) rfl) rfl
theorem qp_Mod_four : am_qP q_Mod_four := ⟨rfl, kw_4_156, kw_1_10, by decide +kernel, by decide +kernel, by decide +kernel, by decide +kernel, by decide +kernel⟩
theorem kw_4_144 : (Jvm.Cond.code ({ cls := "TapTerminalModel", name := "command", desc := "()V" } : Jvm.MethodName) prog_11_method_17_code (4 : Nat) (Option.none : Option Jvm.ClassFile.FieldType)) ∈ am_kw := am_in4 (List.mem_of_getElem? (i := 144) rfl) rfl
theorem qp_Mod_command : am_qP q_Mod_command := ⟨rfl, kw_4_144, kw_1_10, by decide +kernel, by decide +kernel, by decide +kernel, by decide +kernel, by decide +kernel⟩
theorem kw_4_148 : (Jvm.Cond.code ({ cls := "TapTerminalModel", name := "manyOf", desc := "(I)I" } : Jvm.MethodName) prog_11_method_18_code (3 : Nat) (Option.some Jvm.ClassFile.FieldType.int)) ∈ am_kw := am_in4 (List.mem_of_getElem? (i := 148) rfl) rfl
theorem qp_Mod_manyOf : am_qP q_Mod_manyOf := ⟨rfl, kw_4_148, kw_1_10, by decide +kernel, by decide +kernel, by decide +kernel, by decide +kernel, by decide +kernel⟩
theorem kw_4_152 : (Jvm.Cond.code ({ cls := "TapTerminalModel", name := "decide", desc := "(I)V" } : Jvm.MethodName) prog_11_method_19_code (7 : Nat) (Option.none : Option Jvm.ClassFile.FieldType)) ∈ am_kw := am_in4 (List.mem_of_getElem? (i := 152) rfl) rfl
theorem qp_Mod_decide : am_qP q_Mod_decide := ⟨rfl, kw_4_152, kw_1_10, by decide +kernel, by decide +kernel, by decide +kernel, by decide +kernel, by decide +kernel⟩
theorem kw_4_132 : (Jvm.Cond.code ({ cls := "TapTerminalModel", name := "talk", desc := "()Z" } : Jvm.MethodName) prog_11_method_20_code (9 : Nat) (Option.some Jvm.ClassFile.FieldType.boolean)) ∈ am_kw := am_in4 (List.mem_of_getElem? (i := 132) rfl) rfl
theorem qp_Mod_talk : am_qP q_Mod_talk := ⟨rfl, kw_4_132, kw_1_10, by decide +kernel, by decide +kernel, by decide +kernel, by decide +kernel, by decide +kernel⟩
theorem kw_4_169 : (Jvm.Cond.code ({ cls := "TapTerminalModel", name := "say", desc := "(II)V" } : Jvm.MethodName) prog_11_method_21_code (3 : Nat) (Option.none : Option Jvm.ClassFile.FieldType)) ∈ am_kw := am_in4 (List.mem_of_getElem? (i := 169) rfl) rfl
theorem qp_Mod_say : am_qP q_Mod_say := ⟨rfl, kw_4_169, kw_1_10, by decide +kernel, by decide +kernel, by decide +kernel, by decide +kernel, by decide +kernel⟩
theorem kw_4_165 : (Jvm.Cond.code ({ cls := "TapTerminalModel", name := "put", desc := "(I)V" } : Jvm.MethodName) prog_11_method_22_code (3 : Nat) (Option.none : Option Jvm.ClassFile.FieldType)) ∈ am_kw := am_in4 (List.mem_of_getElem? (i := 165) rfl) rfl
theorem qp_Mod_put : am_qP q_Mod_put := ⟨rfl, kw_4_165, kw_1_10, by decide +kernel, by decide +kernel, by decide +kernel, by decide +kernel, by decide +kernel⟩
theorem kw_4_112 : (Jvm.Cond.code ({ cls := "TapTerminalModel", name := "wake", desc := "()Z" } : Jvm.MethodName) prog_11_method_23_code (3 : Nat) (Option.some Jvm.ClassFile.FieldType.boolean)) ∈ am_kw := am_in4 (List.mem_of_getElem? (i := 112) rfl) rfl
theorem qp_Mod_wake : am_qP q_Mod_wake := ⟨rfl, kw_4_112, kw_1_10, by decide +kernel, by decide +kernel, by decide +kernel, by decide +kernel, by decide +kernel⟩
theorem kw_4_124 : (Jvm.Cond.code ({ cls := "TapTerminalModel", name := "ask", desc := "()I" } : Jvm.MethodName) prog_11_method_24_code (7 : Nat) (Option.some Jvm.ClassFile.FieldType.int)) ∈ am_kw := am_in4 (List.mem_of_getElem? (i := 124) rfl) rfl
theorem qp_Mod_ask : am_qP q_Mod_ask := ⟨rfl, kw_4_124, kw_1_10, by decide +kernel, by decide +kernel, by decide +kernel, by decide +kernel, by decide +kernel⟩
theorem kw_4_128 : (Jvm.Cond.code ({ cls := "TapTerminalModel", name := "call", desc := "(II)Z" } : Jvm.MethodName) prog_11_method_25_code (4 : Nat) (Option.some Jvm.ClassFile.FieldType.boolean)) ∈ am_kw := am_in4 (List.mem_of_getElem? (i := 128) rfl) rfl
theorem qp_Mod_call : am_qP q_Mod_call := ⟨rfl, kw_4_128, kw_1_10, by decide +kernel, by decide +kernel, by decide +kernel, by decide +kernel, by decide +kernel⟩
theorem kw_4_104 : (Jvm.Cond.code ({ cls := "TapTerminalModel", name := "run", desc := "(III)I" } : Jvm.MethodName) prog_11_method_26_code (5 : Nat) (Option.some Jvm.ClassFile.FieldType.int)) ∈ am_kw := am_in4 (List.mem_of_getElem? (i := 104) rfl) rfl
theorem qp_Mod_run : am_qP q_Mod_run := ⟨rfl, kw_4_104, kw_1_10, by decide +kernel, by decide +kernel, by decide +kernel, by decide +kernel, by decide +kernel⟩
theorem kw_4_108 : (Jvm.Cond.code ({ cls := "TapTerminalModel", name := "goes", desc := "(III)I" } : Jvm.MethodName) prog_11_method_27_code (7 : Nat) (Option.some Jvm.ClassFile.FieldType.int)) ∈ am_kw := am_in4 (List.mem_of_getElem? (i := 108) rfl) rfl
theorem qp_Mod_goes : am_qP q_Mod_goes := ⟨rfl, kw_4_108, kw_1_10, by decide +kernel, by decide +kernel, by decide +kernel, by decide +kernel, by decide +kernel⟩
theorem kw_4_173 : (Jvm.Cond.code ({ cls := "TapTerminalModel", name := "takeApart", desc := "(I)Z" } : Jvm.MethodName) prog_11_method_28_code (6 : Nat) (Option.some Jvm.ClassFile.FieldType.boolean)) ∈ am_kw := am_in4 (List.mem_of_getElem? (i := 173) rfl) rfl
theorem qp_Mod_takeApart : am_qP q_Mod_takeApart := ⟨rfl, kw_4_173, kw_1_10, by decide +kernel, by decide +kernel, by decide +kernel, by decide +kernel, by decide +kernel⟩
theorem kw_4_177 : (Jvm.Cond.code ({ cls := "TapTerminalModel", name := "items", desc := "(I)Z" } : Jvm.MethodName) prog_11_method_29_code (6 : Nat) (Option.some Jvm.ClassFile.FieldType.boolean)) ∈ am_kw := am_in4 (List.mem_of_getElem? (i := 177) rfl) rfl
theorem qp_Mod_items : am_qP q_Mod_items := ⟨rfl, kw_4_177, kw_1_10, by decide +kernel, by decide +kernel, by decide +kernel, by decide +kernel, by decide +kernel⟩
theorem kw_4_185 : (Jvm.Cond.code ({ cls := "TapTerminalModel", name := "item", desc := "(II)I" } : Jvm.MethodName) prog_11_method_30_code (3 : Nat) (Option.some Jvm.ClassFile.FieldType.int)) ∈ am_kw := am_in4 (List.mem_of_getElem? (i := 185) rfl) rfl
theorem qp_Mod_item : am_qP q_Mod_item := ⟨rfl, kw_4_185, kw_1_10, by decide +kernel, by decide +kernel, by decide +kernel, by decide +kernel, by decide +kernel⟩
theorem kw_4_181 : (Jvm.Cond.code ({ cls := "TapTerminalModel", name := "find", desc := "(III)V" } : Jvm.MethodName) prog_11_method_31_code (8 : Nat) (Option.none : Option Jvm.ClassFile.FieldType)) ∈ am_kw := am_in4 (List.mem_of_getElem? (i := 181) rfl) rfl
theorem qp_Mod_find : am_qP q_Mod_find := ⟨rfl, kw_4_181, kw_1_10, by decide +kernel, by decide +kernel, by decide +kernel, by decide +kernel, by decide +kernel⟩
theorem kw_4_189 : (Jvm.Cond.code ({ cls := "TapTerminalModel", name := "wayGoes", desc := "(I)Z" } : Jvm.MethodName) prog_11_method_32_code (7 : Nat) (Option.some Jvm.ClassFile.FieldType.boolean)) ∈ am_kw := am_in4 (List.mem_of_getElem? (i := 189) rfl) rfl
theorem qp_Mod_wayGoes : am_qP q_Mod_wayGoes := ⟨rfl, kw_4_189, kw_1_10, by decide +kernel, by decide +kernel, by decide +kernel, by decide +kernel, by decide +kernel⟩
theorem kw_4_193 : (Jvm.Cond.code ({ cls := "TapTerminalModel", name := "typeFor", desc := "()I" } : Jvm.MethodName) prog_11_method_33_code (1 : Nat) (Option.some Jvm.ClassFile.FieldType.int)) ∈ am_kw := am_in4 (List.mem_of_getElem? (i := 193) rfl) rfl
theorem qp_Mod_typeFor : am_qP q_Mod_typeFor := ⟨rfl, kw_4_193, kw_1_10, by decide +kernel, by decide +kernel, by decide +kernel, by decide +kernel, by decide +kernel⟩
theorem kw_4_197 : (Jvm.Cond.code ({ cls := "TapTerminalModel", name := "told", desc := "(I)I" } : Jvm.MethodName) prog_11_method_34_code (2 : Nat) (Option.some Jvm.ClassFile.FieldType.int)) ∈ am_kw := am_in4 (List.mem_of_getElem? (i := 197) rfl) rfl
theorem qp_Mod_told : am_qP q_Mod_told := ⟨rfl, kw_4_197, kw_1_10, by decide +kernel, by decide +kernel, by decide +kernel, by decide +kernel, by decide +kernel⟩
theorem kw_4_201 : (Jvm.Cond.code ({ cls := "TapTerminalModel", name := "exchange", desc := "(II)I" } : Jvm.MethodName) prog_11_method_35_code (3 : Nat) (Option.some Jvm.ClassFile.FieldType.int)) ∈ am_kw := am_in4 (List.mem_of_getElem? (i := 201) rfl) rfl
theorem qp_Mod_exchange : am_qP q_Mod_exchange := ⟨rfl, kw_4_201, kw_1_10, by decide +kernel, by decide +kernel, by decide +kernel, by decide +kernel, by decide +kernel⟩
theorem kw_4_205 : (Jvm.Cond.code ({ cls := "TapTerminalModel", name := "look", desc := "(II)I" } : Jvm.MethodName) prog_11_method_36_code (3 : Nat) (Option.some Jvm.ClassFile.FieldType.int)) ∈ am_kw := am_in4 (List.mem_of_getElem? (i := 205) rfl) rfl
theorem qp_Mod_look : am_qP q_Mod_look := ⟨rfl, kw_4_205, kw_1_10, by decide +kernel, by decide +kernel, by decide +kernel, by decide +kernel, by decide +kernel⟩
theorem kw_4_209 : (Jvm.Cond.code ({ cls := "TapTerminalModel", name := "mix", desc := "(IIIII)I" } : Jvm.MethodName) prog_11_method_37_code (7 : Nat) (Option.some Jvm.ClassFile.FieldType.int)) ∈ am_kw := am_in4 (List.mem_of_getElem? (i := 209) rfl) rfl
theorem qp_Mod_mix : am_qP q_Mod_mix := ⟨rfl, kw_4_209, kw_1_10, by decide +kernel, by decide +kernel, by decide +kernel, by decide +kernel, by decide +kernel⟩
set_option maxRecDepth 20000 in
theorem am_ms_all : ∀ q ∈ am_ms, am_qP q := List.forall_mem_cons.mpr ⟨qp_Row_init, List.forall_mem_cons.mpr ⟨qp_Row_clear, List.forall_mem_cons.mpr ⟨qp_Row_add, List.forall_mem_cons.mpr ⟨qp_Row_addInt, List.forall_mem_cons.mpr ⟨qp_Row_addPart, List.forall_mem_cons.mpr ⟨qp_Row_at, List.forall_mem_cons.mpr ⟨qp_Row_pairAt, List.forall_mem_cons.mpr ⟨qp_Row_intAt, List.forall_mem_cons.mpr ⟨qp_Row_stirInto, List.forall_mem_cons.mpr ⟨qp_Block_init, List.forall_mem_cons.mpr ⟨qp_Block_becomePlain, List.forall_mem_cons.mpr ⟨qp_Block_becomePart, List.forall_mem_cons.mpr ⟨qp_Card_init, List.forall_mem_cons.mpr ⟨qp_Card_renew, List.forall_mem_cons.mpr ⟨qp_Card_countRecords, List.forall_mem_cons.mpr ⟨qp_Card_beginsWith, List.forall_mem_cons.mpr ⟨qp_Card_hearCall, List.forall_mem_cons.mpr ⟨qp_Card_hearBlock, List.forall_mem_cons.mpr ⟨qp_Card_obey, List.forall_mem_cons.mpr ⟨qp_Card_addRecord, List.forall_mem_cons.mpr ⟨qp_Card_decide, List.forall_mem_cons.mpr ⟨qp_Card_mixtureOf, List.forall_mem_cons.mpr ⟨qp_Journal_init, List.forall_mem_cons.mpr ⟨qp_Journal_clear, List.forall_mem_cons.mpr ⟨qp_Journal_nextFault, List.forall_mem_cons.mpr ⟨qp_Journal_note, List.forall_mem_cons.mpr ⟨qp_Air_init, List.forall_mem_cons.mpr ⟨qp_Air_isAddressTaken, List.forall_mem_cons.mpr ⟨qp_Air_begin, List.forall_mem_cons.mpr ⟨qp_Air_wake, List.forall_mem_cons.mpr ⟨qp_Air_findAddress, List.forall_mem_cons.mpr ⟨qp_Air_select, List.forall_mem_cons.mpr ⟨qp_Air_putOff, List.forall_mem_cons.mpr ⟨qp_Air_transmit, List.forall_mem_cons.mpr ⟨qp_Air_prepare, List.forall_mem_cons.mpr ⟨qp_Air_gather, List.forall_mem_cons.mpr ⟨qp_Air_call, List.forall_mem_cons.mpr ⟨qp_Air_leadingZeros, List.forall_mem_cons.mpr ⟨qp_Items_init, List.forall_mem_cons.mpr ⟨qp_Items_clear, List.forall_mem_cons.mpr ⟨qp_Items_take, List.forall_mem_cons.mpr ⟨qp_Items_takePart, List.forall_mem_cons.mpr ⟨qp_Items_keepFirst, List.forall_mem_cons.mpr ⟨qp_Items_isLength, List.forall_mem_cons.mpr ⟨qp_Settings_init, List.forall_mem_cons.mpr ⟨qp_Settings_takesApplication, List.forall_mem_cons.mpr ⟨qp_Settings_findingsOf, List.forall_mem_cons.mpr ⟨qp_Settings_typeFor, List.forall_mem_cons.mpr ⟨qp_Settings_isSigned, List.forall_mem_cons.mpr ⟨qp_Settings_someWayGoes, List.forall_mem_cons.mpr ⟨qp_Settings_isNow, List.forall_mem_cons.mpr ⟨qp_Settings_hasWay, List.forall_mem_cons.mpr ⟨qp_Report_init, List.forall_mem_cons.mpr ⟨qp_Report_clear, List.forall_mem_cons.mpr ⟨qp_Tap_init, List.forall_mem_cons.mpr ⟨qp_Tap_card, List.forall_mem_cons.mpr ⟨qp_Tap_allow, List.forall_mem_cons.mpr ⟨qp_Tap_write, List.forall_mem_cons.mpr ⟨qp_Tap_field, List.forall_mem_cons.mpr ⟨qp_Tap_terminal, List.forall_mem_cons.mpr ⟨qp_Tap_takes, List.forall_mem_cons.mpr ⟨qp_Tap_fault, List.forall_mem_cons.mpr ⟨qp_Tap_run, List.forall_mem_cons.mpr ⟨qp_Tap_told, List.forall_mem_cons.mpr ⟨qp_Tap_exchange, List.forall_mem_cons.mpr ⟨qp_Tap_look, List.forall_mem_cons.mpr ⟨qp_Tap_mix, List.forall_mem_cons.mpr ⟨qp_Tap_chooseCard, List.forall_mem_cons.mpr ⟨qp_Tap_readRecords, List.forall_mem_cons.mpr ⟨qp_Tap_settle, List.forall_mem_cons.mpr ⟨qp_Tap_startCommand, List.forall_mem_cons.mpr ⟨qp_Tap_isCard, List.forall_mem_cons.mpr ⟨qp_Tap_isWithin, List.forall_mem_cons.mpr ⟨qp_Tap_isOctet, List.forall_mem_cons.mpr ⟨qp_Tap_stir, List.forall_mem_cons.mpr ⟨qp_Mod_init, List.forall_mem_cons.mpr ⟨qp_Mod_is, List.forall_mem_cons.mpr ⟨qp_Mod_isCard, List.forall_mem_cons.mpr ⟨qp_Mod_stir, List.forall_mem_cons.mpr ⟨qp_Mod_card, List.forall_mem_cons.mpr ⟨qp_Mod_allow, List.forall_mem_cons.mpr ⟨qp_Mod_write, List.forall_mem_cons.mpr ⟨qp_Mod_field, List.forall_mem_cons.mpr ⟨qp_Mod_terminal, List.forall_mem_cons.mpr ⟨qp_Mod_takes, List.forall_mem_cons.mpr ⟨qp_Mod_fault, List.forall_mem_cons.mpr ⟨qp_Mod_faultNow, List.forall_mem_cons.mpr ⟨qp_Mod_note, List.forall_mem_cons.mpr ⟨qp_Mod_saySize, List.forall_mem_cons.mpr ⟨qp_Mod_hear, List.forall_mem_cons.mpr ⟨qp_Mod_four, List.forall_mem_cons.mpr ⟨qp_Mod_command, List.forall_mem_cons.mpr ⟨qp_Mod_manyOf, List.forall_mem_cons.mpr ⟨qp_Mod_decide, List.forall_mem_cons.mpr ⟨qp_Mod_talk, List.forall_mem_cons.mpr ⟨qp_Mod_say, List.forall_mem_cons.mpr ⟨qp_Mod_put, List.forall_mem_cons.mpr ⟨qp_Mod_wake, List.forall_mem_cons.mpr ⟨qp_Mod_ask, List.forall_mem_cons.mpr ⟨qp_Mod_call, List.forall_mem_cons.mpr ⟨qp_Mod_run, List.forall_mem_cons.mpr ⟨qp_Mod_goes, List.forall_mem_cons.mpr ⟨qp_Mod_takeApart, List.forall_mem_cons.mpr ⟨qp_Mod_items, List.forall_mem_cons.mpr ⟨qp_Mod_item, List.forall_mem_cons.mpr ⟨qp_Mod_find, List.forall_mem_cons.mpr ⟨qp_Mod_wayGoes, List.forall_mem_cons.mpr ⟨qp_Mod_typeFor, List.forall_mem_cons.mpr ⟨qp_Mod_told, List.forall_mem_cons.mpr ⟨qp_Mod_exchange, List.forall_mem_cons.mpr ⟨qp_Mod_look, List.forall_mem_cons.mpr ⟨qp_Mod_mix, fun _ h => absurd h List.not_mem_nil⟩⟩⟩⟩⟩⟩⟩⟩⟩⟩⟩⟩⟩⟩⟩⟩⟩⟩⟩⟩⟩⟩⟩⟩⟩⟩⟩⟩⟩⟩⟩⟩⟩⟩⟩⟩⟩⟩⟩⟩⟩⟩⟩⟩⟩⟩⟩⟩⟩⟩⟩⟩⟩⟩⟩⟩⟩⟩⟩⟩⟩⟩⟩⟩⟩⟩⟩⟩⟩⟩⟩⟩⟩⟩⟩⟩⟩⟩⟩⟩⟩⟩⟩⟩⟩⟩⟩⟩⟩⟩⟩⟩⟩⟩⟩⟩⟩⟩⟩⟩⟩⟩⟩⟩⟩⟩⟩⟩⟩⟩⟩⟩
theorem am_ms_ok : ∀ (y : Nat) (q : am_M), am_ms[y]? = some q → am_qP q := fun _ q h => am_ms_all q (List.mem_of_getElem? h)
def am_nest : List Jvm.Cond := [(Jvm.Cond.methodLinkNest "TapTerminal$Card" (140 : Nat) ({ cls := "TapTerminal", name := "isWithin", desc := "(II)Z" } : Jvm.MethodName) "TapTerminal"), (Jvm.Cond.methodLinkNest "TapTerminal$Card" (145 : Nat) ({ cls := "TapTerminal", name := "stir", desc := "(II)I" } : Jvm.MethodName) "TapTerminal"), (Jvm.Cond.methodLinkNest "TapTerminal$Row" (25 : Nat) ({ cls := "TapTerminal", name := "stir", desc := "(II)I" } : Jvm.MethodName) "TapTerminal")]
def am_isN (w : Jvm.Cond) : Bool := match w with
  | .fieldLinkNest .. => true
  | .methodLinkNest .. => true
  | _ => false
theorem am_nest_ok : ∀ w ∈ am_nest, am_isN w = true := by decide +kernel
theorem nt_0 : (Jvm.Cond.methodLinkNest "TapTerminal$Card" (140 : Nat) ({ cls := "TapTerminal", name := "isWithin", desc := "(II)Z" } : Jvm.MethodName) "TapTerminal") ∈ lw_tbl := List.mem_append_right _ (List.mem_append_right _ (List.mem_append_right _ (List.mem_append_left _ (List.mem_of_getElem? (i := 18) rfl))))
theorem nt_1 : (Jvm.Cond.methodLinkNest "TapTerminal$Card" (145 : Nat) ({ cls := "TapTerminal", name := "stir", desc := "(II)I" } : Jvm.MethodName) "TapTerminal") ∈ lw_tbl := List.mem_append_right _ (List.mem_append_right _ (List.mem_append_right _ (List.mem_append_left _ (List.mem_of_getElem? (i := 32) rfl))))
theorem nt_2 : (Jvm.Cond.methodLinkNest "TapTerminal$Row" (25 : Nat) ({ cls := "TapTerminal", name := "stir", desc := "(II)I" } : Jvm.MethodName) "TapTerminal") ∈ lw_tbl := List.mem_append_right _ (List.mem_append_right _ (List.mem_append_right _ (List.mem_append_left _ (List.mem_of_getElem? (i := 94) rfl))))
theorem am_nest_in : ∀ w ∈ am_nest, w ∈ lw_tbl := List.forall_mem_cons.mpr ⟨nt_0, List.forall_mem_cons.mpr ⟨nt_1, List.forall_mem_cons.mpr ⟨nt_2, fun _ h => absurd h List.not_mem_nil⟩⟩⟩
def am_fP (oc idx : Nat) (f : Nat × Nat × FieldType × Bool) : Prop := ∃ (C : String) (T : u_T) (N : Nat) (t0 : Nat → FieldType), classes[f.1]? = some (C, T, N) ∧ f.2.1 < N ∧ (∀ w ∈ u_ws C T N, w ∈ am_kw) ∧ (∀ k, k < N → parseFieldDescriptor (T k).2.2.1 = some (t0 k)) ∧ (∀ a, a < N → ∀ b, b < N → a ≠ b → (T a).2.1 ≠ (T b).2.1) ∧ (T f.2.1).1 = C ∧ (T f.2.1).2.2.2 = f.2.2.2 ∧ parseFieldDescriptor (T f.2.1).2.2.1 = some f.2.2.1 ∧ (Jvm.Cond.fieldLink (am_cn oc) idx C (T f.2.1).2.1 (T f.2.1).2.2.1 ∈ am_kw ∨ ∃ host, Jvm.Cond.fieldLinkNest (am_cn oc) idx C (T f.2.1).2.1 (T f.2.1).2.2.1 host ∈ am_nest) ∧ (oc = f.1 → Jvm.Cond.fieldLink (am_cn oc) idx C (T f.2.1).2.1 (T f.2.1).2.2.1 ∈ am_kw ∧ am_cn oc = C)
theorem kw_1_40 : (Jvm.Cond.fieldLink "TapTerminal$Row" (7 : Nat) "TapTerminal$Row" "octets" "[I") ∈ am_kw := am_in1 (List.mem_of_getElem? (i := 40) rfl) rfl
theorem fp_0_7 : am_fP 0 7 (0, 0, (.array .int), true) := ⟨"TapTerminal$Row", F_Row, 2, t_Row, cp_Row.1, by decide, cp_Row.2.1, cp_Row.2.2.1, cp_Row.2.2.2, rfl, rfl, cp_Row.2.2.1 0 (by decide), Or.inl kw_1_40, fun _ => ⟨kw_1_40, rfl⟩⟩
theorem kw_1_41 : (Jvm.Cond.fieldLink "TapTerminal$Row" (13 : Nat) "TapTerminal$Row" "count" "I") ∈ am_kw := am_in1 (List.mem_of_getElem? (i := 41) rfl) rfl
theorem fp_0_13 : am_fP 0 13 (0, 1, .int, false) := ⟨"TapTerminal$Row", F_Row, 2, t_Row, cp_Row.1, by decide, cp_Row.2.1, cp_Row.2.2.1, cp_Row.2.2.2, rfl, rfl, cp_Row.2.2.1 1 (by decide), Or.inl kw_1_41, fun _ => ⟨kw_1_41, rfl⟩⟩
def fls_0 : List (Nat × Nat × Nat × FieldType × Bool) := [(7, 0, 0, (.array .int), true), (13, 0, 1, .int, false)]
set_option maxRecDepth 20000 in
theorem fls_0_ok : ∀ e ∈ fls_0, am_fP 0 e.1 e.2 := List.forall_mem_cons.mpr ⟨fp_0_7, List.forall_mem_cons.mpr ⟨fp_0_13, fun _ h => absurd h List.not_mem_nil⟩⟩
theorem kw_1_44 : (Jvm.Cond.fieldLink "TapTerminal$Block" (38 : Nat) "TapTerminal$Row" "count" "I") ∈ am_kw := am_in1 (List.mem_of_getElem? (i := 44) rfl) rfl
theorem fp_1_38 : am_fP 1 38 (0, 1, .int, false) := ⟨"TapTerminal$Row", F_Row, 2, t_Row, cp_Row.1, by decide, cp_Row.2.1, cp_Row.2.2.1, cp_Row.2.2.2, rfl, rfl, cp_Row.2.2.1 1 (by decide), Or.inl kw_1_44, fun h => absurd h (by decide)⟩
theorem kw_1_62 : (Jvm.Cond.fieldLink "TapTerminal$Block" (20 : Nat) "TapTerminal$Block" "kind" "I") ∈ am_kw := am_in1 (List.mem_of_getElem? (i := 62) rfl) rfl
theorem fp_1_20 : am_fP 1 20 (1, 0, .int, false) := ⟨"TapTerminal$Block", F_Block, 4, t_Block, cp_Block.1, by decide, cp_Block.2.1, cp_Block.2.2.1, cp_Block.2.2.2, rfl, rfl, cp_Block.2.2.1 0 (by decide), Or.inl kw_1_62, fun _ => ⟨kw_1_62, rfl⟩⟩
theorem kw_1_65 : (Jvm.Cond.fieldLink "TapTerminal$Block" (24 : Nat) "TapTerminal$Block" "number" "I") ∈ am_kw := am_in1 (List.mem_of_getElem? (i := 65) rfl) rfl
theorem fp_1_24 : am_fP 1 24 (1, 1, .int, false) := ⟨"TapTerminal$Block", F_Block, 4, t_Block, cp_Block.1, by decide, cp_Block.2.1, cp_Block.2.2.1, cp_Block.2.2.2, rfl, rfl, cp_Block.2.2.1 1 (by decide), Or.inl kw_1_65, fun _ => ⟨kw_1_65, rfl⟩⟩
theorem kw_1_68 : (Jvm.Cond.fieldLink "TapTerminal$Block" (27 : Nat) "TapTerminal$Block" "more" "Z") ∈ am_kw := am_in1 (List.mem_of_getElem? (i := 68) rfl) rfl
theorem fp_1_27 : am_fP 1 27 (1, 2, .boolean, false) := ⟨"TapTerminal$Block", F_Block, 4, t_Block, cp_Block.1, by decide, cp_Block.2.1, cp_Block.2.2.1, cp_Block.2.2.2, rfl, rfl, cp_Block.2.2.1 2 (by decide), Or.inl kw_1_68, fun _ => ⟨kw_1_68, rfl⟩⟩
theorem kw_1_71 : (Jvm.Cond.fieldLink "TapTerminal$Block" (14 : Nat) "TapTerminal$Block" "octets" "LTapTerminal$Row;") ∈ am_kw := am_in1 (List.mem_of_getElem? (i := 71) rfl) rfl
theorem fp_1_14 : am_fP 1 14 (1, 3, (.object "TapTerminal$Row"), true) := ⟨"TapTerminal$Block", F_Block, 4, t_Block, cp_Block.1, by decide, cp_Block.2.1, cp_Block.2.2.1, cp_Block.2.2.2, rfl, rfl, cp_Block.2.2.1 3 (by decide), Or.inl kw_1_71, fun _ => ⟨kw_1_71, rfl⟩⟩
def fls_1 : List (Nat × Nat × Nat × FieldType × Bool) := [(38, 0, 1, .int, false), (20, 1, 0, .int, false), (24, 1, 1, .int, false), (27, 1, 2, .boolean, false), (14, 1, 3, (.object "TapTerminal$Row"), true)]
set_option maxRecDepth 20000 in
theorem fls_1_ok : ∀ e ∈ fls_1, am_fP 1 e.1 e.2 := List.forall_mem_cons.mpr ⟨fp_1_38, List.forall_mem_cons.mpr ⟨fp_1_20, List.forall_mem_cons.mpr ⟨fp_1_24, List.forall_mem_cons.mpr ⟨fp_1_27, List.forall_mem_cons.mpr ⟨fp_1_14, fun _ h => absurd h List.not_mem_nil⟩⟩⟩⟩⟩
theorem kw_1_43 : (Jvm.Cond.fieldLink "TapTerminal$Card" (75 : Nat) "TapTerminal$Row" "count" "I") ∈ am_kw := am_in1 (List.mem_of_getElem? (i := 43) rfl) rfl
theorem fp_2_75 : am_fP 2 75 (0, 1, .int, false) := ⟨"TapTerminal$Row", F_Row, 2, t_Row, cp_Row.1, by decide, cp_Row.2.1, cp_Row.2.2.1, cp_Row.2.2.2, rfl, rfl, cp_Row.2.2.1 1 (by decide), Or.inl kw_1_43, fun h => absurd h (by decide)⟩
theorem kw_1_63 : (Jvm.Cond.fieldLink "TapTerminal$Card" (85 : Nat) "TapTerminal$Block" "kind" "I") ∈ am_kw := am_in1 (List.mem_of_getElem? (i := 63) rfl) rfl
theorem fp_2_85 : am_fP 2 85 (1, 0, .int, false) := ⟨"TapTerminal$Block", F_Block, 4, t_Block, cp_Block.1, by decide, cp_Block.2.1, cp_Block.2.2.1, cp_Block.2.2.2, rfl, rfl, cp_Block.2.2.1 0 (by decide), Or.inl kw_1_63, fun h => absurd h (by decide)⟩
theorem kw_1_66 : (Jvm.Cond.fieldLink "TapTerminal$Card" (84 : Nat) "TapTerminal$Block" "number" "I") ∈ am_kw := am_in1 (List.mem_of_getElem? (i := 66) rfl) rfl
theorem fp_2_84 : am_fP 2 84 (1, 1, .int, false) := ⟨"TapTerminal$Block", F_Block, 4, t_Block, cp_Block.1, by decide, cp_Block.2.1, cp_Block.2.2.1, cp_Block.2.2.2, rfl, rfl, cp_Block.2.2.1 1 (by decide), Or.inl kw_1_66, fun h => absurd h (by decide)⟩
theorem kw_1_69 : (Jvm.Cond.fieldLink "TapTerminal$Card" (106 : Nat) "TapTerminal$Block" "more" "Z") ∈ am_kw := am_in1 (List.mem_of_getElem? (i := 69) rfl) rfl
theorem fp_2_106 : am_fP 2 106 (1, 2, .boolean, false) := ⟨"TapTerminal$Block", F_Block, 4, t_Block, cp_Block.1, by decide, cp_Block.2.1, cp_Block.2.2.1, cp_Block.2.2.2, rfl, rfl, cp_Block.2.2.1 2 (by decide), Or.inl kw_1_69, fun h => absurd h (by decide)⟩
theorem kw_1_72 : (Jvm.Cond.fieldLink "TapTerminal$Card" (99 : Nat) "TapTerminal$Block" "octets" "LTapTerminal$Row;") ∈ am_kw := am_in1 (List.mem_of_getElem? (i := 72) rfl) rfl
theorem fp_2_99 : am_fP 2 99 (1, 3, (.object "TapTerminal$Row"), true) := ⟨"TapTerminal$Block", F_Block, 4, t_Block, cp_Block.1, by decide, cp_Block.2.1, cp_Block.2.2.1, cp_Block.2.2.2, rfl, rfl, cp_Block.2.2.1 3 (by decide), Or.inl kw_1_72, fun h => absurd h (by decide)⟩
theorem kw_1_83 : (Jvm.Cond.fieldLink "TapTerminal$Card" (34 : Nat) "TapTerminal$Card" "exists" "Z") ∈ am_kw := am_in1 (List.mem_of_getElem? (i := 83) rfl) rfl
theorem fp_2_34 : am_fP 2 34 (2, 0, .boolean, false) := ⟨"TapTerminal$Card", F_Card, 18, t_Card, cp_Card.1, by decide, cp_Card.2.1, cp_Card.2.2.1, cp_Card.2.2.2, rfl, rfl, cp_Card.2.2.1 0 (by decide), Or.inl kw_1_83, fun _ => ⟨kw_1_83, rfl⟩⟩
theorem kw_1_85 : (Jvm.Cond.fieldLink "TapTerminal$Card" (38 : Nat) "TapTerminal$Card" "inField" "Z") ∈ am_kw := am_in1 (List.mem_of_getElem? (i := 85) rfl) rfl
theorem fp_2_38 : am_fP 2 38 (2, 1, .boolean, false) := ⟨"TapTerminal$Card", F_Card, 18, t_Card, cp_Card.1, by decide, cp_Card.2.1, cp_Card.2.2.1, cp_Card.2.2.2, rfl, rfl, cp_Card.2.2.1 1 (by decide), Or.inl kw_1_85, fun _ => ⟨kw_1_85, rfl⟩⟩
theorem kw_1_89 : (Jvm.Cond.fieldLink "TapTerminal$Card" (81 : Nat) "TapTerminal$Card" "ready" "Z") ∈ am_kw := am_in1 (List.mem_of_getElem? (i := 89) rfl) rfl
theorem fp_2_81 : am_fP 2 81 (2, 2, .boolean, false) := ⟨"TapTerminal$Card", F_Card, 18, t_Card, cp_Card.1, by decide, cp_Card.2.1, cp_Card.2.2.1, cp_Card.2.2.2, rfl, rfl, cp_Card.2.2.1 2 (by decide), Or.inl kw_1_89, fun _ => ⟨kw_1_89, rfl⟩⟩
theorem kw_1_90 : (Jvm.Cond.fieldLink "TapTerminal$Card" (41 : Nat) "TapTerminal$Card" "address" "I") ∈ am_kw := am_in1 (List.mem_of_getElem? (i := 90) rfl) rfl
theorem fp_2_41 : am_fP 2 41 (2, 3, .int, false) := ⟨"TapTerminal$Card", F_Card, 18, t_Card, cp_Card.1, by decide, cp_Card.2.1, cp_Card.2.2.1, cp_Card.2.2.2, rfl, rfl, cp_Card.2.2.1 3 (by decide), Or.inl kw_1_90, fun _ => ⟨kw_1_90, rfl⟩⟩
theorem kw_1_93 : (Jvm.Cond.fieldLink "TapTerminal$Card" (45 : Nat) "TapTerminal$Card" "application" "I") ∈ am_kw := am_in1 (List.mem_of_getElem? (i := 93) rfl) rfl
theorem fp_2_45 : am_fP 2 45 (2, 4, .int, false) := ⟨"TapTerminal$Card", F_Card, 18, t_Card, cp_Card.1, by decide, cp_Card.2.1, cp_Card.2.2.1, cp_Card.2.2.2, rfl, rfl, cp_Card.2.2.1 4 (by decide), Or.inl kw_1_93, fun _ => ⟨kw_1_93, rfl⟩⟩
theorem kw_1_94 : (Jvm.Cond.fieldLink "TapTerminal$Card" (48 : Nat) "TapTerminal$Card" "key" "I") ∈ am_kw := am_in1 (List.mem_of_getElem? (i := 94) rfl) rfl
theorem fp_2_48 : am_fP 2 48 (2, 5, .int, false) := ⟨"TapTerminal$Card", F_Card, 18, t_Card, cp_Card.1, by decide, cp_Card.2.1, cp_Card.2.2.1, cp_Card.2.2.2, rfl, rfl, cp_Card.2.2.1 5 (by decide), Or.inl kw_1_94, fun _ => ⟨kw_1_94, rfl⟩⟩
theorem kw_1_95 : (Jvm.Cond.fieldLink "TapTerminal$Card" (51 : Nat) "TapTerminal$Card" "size" "I") ∈ am_kw := am_in1 (List.mem_of_getElem? (i := 95) rfl) rfl
theorem fp_2_51 : am_fP 2 51 (2, 6, .int, false) := ⟨"TapTerminal$Card", F_Card, 18, t_Card, cp_Card.1, by decide, cp_Card.2.1, cp_Card.2.2.1, cp_Card.2.2.2, rfl, rfl, cp_Card.2.2.1 6 (by decide), Or.inl kw_1_95, fun _ => ⟨kw_1_95, rfl⟩⟩
theorem kw_1_97 : (Jvm.Cond.fieldLink "TapTerminal$Card" (54 : Nat) "TapTerminal$Card" "counter" "I") ∈ am_kw := am_in1 (List.mem_of_getElem? (i := 97) rfl) rfl
theorem fp_2_54 : am_fP 2 54 (2, 7, .int, false) := ⟨"TapTerminal$Card", F_Card, 18, t_Card, cp_Card.1, by decide, cp_Card.2.1, cp_Card.2.2.1, cp_Card.2.2.2, rfl, rfl, cp_Card.2.2.1 7 (by decide), Or.inl kw_1_97, fun _ => ⟨kw_1_97, rfl⟩⟩
theorem kw_1_99 : (Jvm.Cond.fieldLink "TapTerminal$Card" (60 : Nat) "TapTerminal$Card" "cap" "I") ∈ am_kw := am_in1 (List.mem_of_getElem? (i := 99) rfl) rfl
theorem fp_2_60 : am_fP 2 60 (2, 8, .int, false) := ⟨"TapTerminal$Card", F_Card, 18, t_Card, cp_Card.1, by decide, cp_Card.2.1, cp_Card.2.2.1, cp_Card.2.2.2, rfl, rfl, cp_Card.2.2.1 8 (by decide), Or.inl kw_1_99, fun _ => ⟨kw_1_99, rfl⟩⟩
theorem kw_1_101 : (Jvm.Cond.fieldLink "TapTerminal$Card" (63 : Nat) "TapTerminal$Card" "limit" "I") ∈ am_kw := am_in1 (List.mem_of_getElem? (i := 101) rfl) rfl
theorem fp_2_63 : am_fP 2 63 (2, 9, .int, false) := ⟨"TapTerminal$Card", F_Card, 18, t_Card, cp_Card.1, by decide, cp_Card.2.1, cp_Card.2.2.1, cp_Card.2.2.2, rfl, rfl, cp_Card.2.2.1 9 (by decide), Or.inl kw_1_101, fun _ => ⟨kw_1_101, rfl⟩⟩
theorem kw_1_103 : (Jvm.Cond.fieldLink "TapTerminal$Card" (66 : Nat) "TapTerminal$Card" "runs" "I") ∈ am_kw := am_in1 (List.mem_of_getElem? (i := 103) rfl) rfl
theorem fp_2_66 : am_fP 2 66 (2, 10, .int, false) := ⟨"TapTerminal$Card", F_Card, 18, t_Card, cp_Card.1, by decide, cp_Card.2.1, cp_Card.2.2.1, cp_Card.2.2.2, rfl, rfl, cp_Card.2.2.1 10 (by decide), Or.inl kw_1_103, fun _ => ⟨kw_1_103, rfl⟩⟩
theorem kw_1_105 : (Jvm.Cond.fieldLink "TapTerminal$Card" (69 : Nat) "TapTerminal$Card" "commandsDone" "I") ∈ am_kw := am_in1 (List.mem_of_getElem? (i := 105) rfl) rfl
theorem fp_2_69 : am_fP 2 69 (2, 11, .int, false) := ⟨"TapTerminal$Card", F_Card, 18, t_Card, cp_Card.1, by decide, cp_Card.2.1, cp_Card.2.2.1, cp_Card.2.2.2, rfl, rfl, cp_Card.2.2.1 11 (by decide), Or.inl kw_1_105, fun _ => ⟨kw_1_105, rfl⟩⟩
theorem kw_1_107 : (Jvm.Cond.fieldLink "TapTerminal$Card" (11 : Nat) "TapTerminal$Card" "records" "[LTapTerminal$Row;") ∈ am_kw := am_in1 (List.mem_of_getElem? (i := 107) rfl) rfl
theorem fp_2_11 : am_fP 2 11 (2, 12, (.array (.object "TapTerminal$Row")), true) := ⟨"TapTerminal$Card", F_Card, 18, t_Card, cp_Card.1, by decide, cp_Card.2.1, cp_Card.2.2.1, cp_Card.2.2.2, rfl, rfl, cp_Card.2.2.1 12 (by decide), Or.inl kw_1_107, fun _ => ⟨kw_1_107, rfl⟩⟩
theorem kw_1_109 : (Jvm.Cond.fieldLink "TapTerminal$Card" (23 : Nat) "TapTerminal$Card" "reply" "LTapTerminal$Block;") ∈ am_kw := am_in1 (List.mem_of_getElem? (i := 109) rfl) rfl
theorem fp_2_23 : am_fP 2 23 (2, 13, (.object "TapTerminal$Block"), true) := ⟨"TapTerminal$Card", F_Card, 18, t_Card, cp_Card.1, by decide, cp_Card.2.1, cp_Card.2.2.1, cp_Card.2.2.2, rfl, rfl, cp_Card.2.2.1 13 (by decide), Or.inl kw_1_109, fun _ => ⟨kw_1_109, rfl⟩⟩
theorem kw_1_111 : (Jvm.Cond.fieldLink "TapTerminal$Card" (78 : Nat) "TapTerminal$Card" "number" "I") ∈ am_kw := am_in1 (List.mem_of_getElem? (i := 111) rfl) rfl
theorem fp_2_78 : am_fP 2 78 (2, 14, .int, false) := ⟨"TapTerminal$Card", F_Card, 18, t_Card, cp_Card.1, by decide, cp_Card.2.1, cp_Card.2.2.1, cp_Card.2.2.2, rfl, rfl, cp_Card.2.2.1 14 (by decide), Or.inl kw_1_111, fun _ => ⟨kw_1_111, rfl⟩⟩
theorem kw_1_112 : (Jvm.Cond.fieldLink "TapTerminal$Card" (27 : Nat) "TapTerminal$Card" "heard" "LTapTerminal$Row;") ∈ am_kw := am_in1 (List.mem_of_getElem? (i := 112) rfl) rfl
theorem fp_2_27 : am_fP 2 27 (2, 15, (.object "TapTerminal$Row"), true) := ⟨"TapTerminal$Card", F_Card, 18, t_Card, cp_Card.1, by decide, cp_Card.2.1, cp_Card.2.2.1, cp_Card.2.2.2, rfl, rfl, cp_Card.2.2.1 15 (by decide), Or.inl kw_1_112, fun _ => ⟨kw_1_112, rfl⟩⟩
theorem kw_1_113 : (Jvm.Cond.fieldLink "TapTerminal$Card" (31 : Nat) "TapTerminal$Card" "answer" "LTapTerminal$Row;") ∈ am_kw := am_in1 (List.mem_of_getElem? (i := 113) rfl) rfl
theorem fp_2_31 : am_fP 2 31 (2, 16, (.object "TapTerminal$Row"), true) := ⟨"TapTerminal$Card", F_Card, 18, t_Card, cp_Card.1, by decide, cp_Card.2.1, cp_Card.2.2.1, cp_Card.2.2.2, rfl, rfl, cp_Card.2.2.1 16 (by decide), Or.inl kw_1_113, fun _ => ⟨kw_1_113, rfl⟩⟩
theorem kw_1_114 : (Jvm.Cond.fieldLink "TapTerminal$Card" (92 : Nat) "TapTerminal$Card" "answerFrom" "I") ∈ am_kw := am_in1 (List.mem_of_getElem? (i := 114) rfl) rfl
theorem fp_2_92 : am_fP 2 92 (2, 17, .int, false) := ⟨"TapTerminal$Card", F_Card, 18, t_Card, cp_Card.1, by decide, cp_Card.2.1, cp_Card.2.2.1, cp_Card.2.2.2, rfl, rfl, cp_Card.2.2.1 17 (by decide), Or.inl kw_1_114, fun _ => ⟨kw_1_114, rfl⟩⟩
def fls_2 : List (Nat × Nat × Nat × FieldType × Bool) := [(75, 0, 1, .int, false), (85, 1, 0, .int, false), (84, 1, 1, .int, false), (106, 1, 2, .boolean, false), (99, 1, 3, (.object "TapTerminal$Row"), true), (34, 2, 0, .boolean, false), (38, 2, 1, .boolean, false), (81, 2, 2, .boolean, false), (41, 2, 3, .int, false), (45, 2, 4, .int, false), (48, 2, 5, .int, false), (51, 2, 6, .int, false), (54, 2, 7, .int, false), (60, 2, 8, .int, false), (63, 2, 9, .int, false), (66, 2, 10, .int, false), (69, 2, 11, .int, false), (11, 2, 12, (.array (.object "TapTerminal$Row")), true), (23, 2, 13, (.object "TapTerminal$Block"), true), (78, 2, 14, .int, false), (27, 2, 15, (.object "TapTerminal$Row"), true), (31, 2, 16, (.object "TapTerminal$Row"), true), (92, 2, 17, .int, false)]
set_option maxRecDepth 20000 in
theorem fls_2_ok : ∀ e ∈ fls_2, am_fP 2 e.1 e.2 := List.forall_mem_cons.mpr ⟨fp_2_75, List.forall_mem_cons.mpr ⟨fp_2_85, List.forall_mem_cons.mpr ⟨fp_2_84, List.forall_mem_cons.mpr ⟨fp_2_106, List.forall_mem_cons.mpr ⟨fp_2_99, List.forall_mem_cons.mpr ⟨fp_2_34, List.forall_mem_cons.mpr ⟨fp_2_38, List.forall_mem_cons.mpr ⟨fp_2_81, List.forall_mem_cons.mpr ⟨fp_2_41, List.forall_mem_cons.mpr ⟨fp_2_45, List.forall_mem_cons.mpr ⟨fp_2_48, List.forall_mem_cons.mpr ⟨fp_2_51, List.forall_mem_cons.mpr ⟨fp_2_54, List.forall_mem_cons.mpr ⟨fp_2_60, List.forall_mem_cons.mpr ⟨fp_2_63, List.forall_mem_cons.mpr ⟨fp_2_66, List.forall_mem_cons.mpr ⟨fp_2_69, List.forall_mem_cons.mpr ⟨fp_2_11, List.forall_mem_cons.mpr ⟨fp_2_23, List.forall_mem_cons.mpr ⟨fp_2_78, List.forall_mem_cons.mpr ⟨fp_2_27, List.forall_mem_cons.mpr ⟨fp_2_31, List.forall_mem_cons.mpr ⟨fp_2_92, fun _ h => absurd h List.not_mem_nil⟩⟩⟩⟩⟩⟩⟩⟩⟩⟩⟩⟩⟩⟩⟩⟩⟩⟩⟩⟩⟩⟩⟩
theorem kw_1_158 : (Jvm.Cond.fieldLink "TapTerminal$Journal" (9 : Nat) "TapTerminal$Journal" "faults" "[I") ∈ am_kw := am_in1 (List.mem_of_getElem? (i := 158) rfl) rfl
theorem fp_3_9 : am_fP 3 9 (3, 0, (.array .int), true) := ⟨"TapTerminal$Journal", F_Journal, 6, t_Journal, cp_Journal.1, by decide, cp_Journal.2.1, cp_Journal.2.2.1, cp_Journal.2.2.2, rfl, rfl, cp_Journal.2.2.1 0 (by decide), Or.inl kw_1_158, fun _ => ⟨kw_1_158, rfl⟩⟩
theorem kw_1_160 : (Jvm.Cond.fieldLink "TapTerminal$Journal" (15 : Nat) "TapTerminal$Journal" "kinds" "[I") ∈ am_kw := am_in1 (List.mem_of_getElem? (i := 160) rfl) rfl
theorem fp_3_15 : am_fP 3 15 (3, 1, (.array .int), true) := ⟨"TapTerminal$Journal", F_Journal, 6, t_Journal, cp_Journal.1, by decide, cp_Journal.2.1, cp_Journal.2.2.1, cp_Journal.2.2.2, rfl, rfl, cp_Journal.2.2.1 1 (by decide), Or.inl kw_1_160, fun _ => ⟨kw_1_160, rfl⟩⟩
theorem kw_1_162 : (Jvm.Cond.fieldLink "TapTerminal$Journal" (18 : Nat) "TapTerminal$Journal" "numbers" "[I") ∈ am_kw := am_in1 (List.mem_of_getElem? (i := 162) rfl) rfl
theorem fp_3_18 : am_fP 3 18 (3, 2, (.array .int), true) := ⟨"TapTerminal$Journal", F_Journal, 6, t_Journal, cp_Journal.1, by decide, cp_Journal.2.1, cp_Journal.2.2.1, cp_Journal.2.2.2, rfl, rfl, cp_Journal.2.2.1 2 (by decide), Or.inl kw_1_162, fun _ => ⟨kw_1_162, rfl⟩⟩
theorem kw_1_164 : (Jvm.Cond.fieldLink "TapTerminal$Journal" (21 : Nat) "TapTerminal$Journal" "answered" "[Z") ∈ am_kw := am_in1 (List.mem_of_getElem? (i := 164) rfl) rfl
theorem fp_3_21 : am_fP 3 21 (3, 3, (.array .boolean), true) := ⟨"TapTerminal$Journal", F_Journal, 6, t_Journal, cp_Journal.1, by decide, cp_Journal.2.1, cp_Journal.2.2.1, cp_Journal.2.2.2, rfl, rfl, cp_Journal.2.2.1 3 (by decide), Or.inl kw_1_164, fun _ => ⟨kw_1_164, rfl⟩⟩
theorem kw_1_166 : (Jvm.Cond.fieldLink "TapTerminal$Journal" (25 : Nat) "TapTerminal$Journal" "count" "I") ∈ am_kw := am_in1 (List.mem_of_getElem? (i := 166) rfl) rfl
theorem fp_3_25 : am_fP 3 25 (3, 4, .int, false) := ⟨"TapTerminal$Journal", F_Journal, 6, t_Journal, cp_Journal.1, by decide, cp_Journal.2.1, cp_Journal.2.2.1, cp_Journal.2.2.2, rfl, rfl, cp_Journal.2.2.1 4 (by decide), Or.inl kw_1_166, fun _ => ⟨kw_1_166, rfl⟩⟩
theorem kw_1_168 : (Jvm.Cond.fieldLink "TapTerminal$Journal" (29 : Nat) "TapTerminal$Journal" "unanswered" "I") ∈ am_kw := am_in1 (List.mem_of_getElem? (i := 168) rfl) rfl
theorem fp_3_29 : am_fP 3 29 (3, 5, .int, false) := ⟨"TapTerminal$Journal", F_Journal, 6, t_Journal, cp_Journal.1, by decide, cp_Journal.2.1, cp_Journal.2.2.1, cp_Journal.2.2.2, rfl, rfl, cp_Journal.2.2.1 5 (by decide), Or.inl kw_1_168, fun _ => ⟨kw_1_168, rfl⟩⟩
def fls_3 : List (Nat × Nat × Nat × FieldType × Bool) := [(9, 3, 0, (.array .int), true), (15, 3, 1, (.array .int), true), (18, 3, 2, (.array .int), true), (21, 3, 3, (.array .boolean), true), (25, 3, 4, .int, false), (29, 3, 5, .int, false)]
set_option maxRecDepth 20000 in
theorem fls_3_ok : ∀ e ∈ fls_3, am_fP 3 e.1 e.2 := List.forall_mem_cons.mpr ⟨fp_3_9, List.forall_mem_cons.mpr ⟨fp_3_15, List.forall_mem_cons.mpr ⟨fp_3_18, List.forall_mem_cons.mpr ⟨fp_3_21, List.forall_mem_cons.mpr ⟨fp_3_25, List.forall_mem_cons.mpr ⟨fp_3_29, fun _ h => absurd h List.not_mem_nil⟩⟩⟩⟩⟩⟩
theorem kw_1_47 : (Jvm.Cond.fieldLink "TapTerminal$Air" (103 : Nat) "TapTerminal$Row" "count" "I") ∈ am_kw := am_in1 (List.mem_of_getElem? (i := 47) rfl) rfl
theorem fp_4_103 : am_fP 4 103 (0, 1, .int, false) := ⟨"TapTerminal$Row", F_Row, 2, t_Row, cp_Row.1, by decide, cp_Row.2.1, cp_Row.2.2.1, cp_Row.2.2.2, rfl, rfl, cp_Row.2.2.1 1 (by decide), Or.inl kw_1_47, fun h => absurd h (by decide)⟩
theorem kw_1_64 : (Jvm.Cond.fieldLink "TapTerminal$Air" (96 : Nat) "TapTerminal$Block" "kind" "I") ∈ am_kw := am_in1 (List.mem_of_getElem? (i := 64) rfl) rfl
theorem fp_4_96 : am_fP 4 96 (1, 0, .int, false) := ⟨"TapTerminal$Block", F_Block, 4, t_Block, cp_Block.1, by decide, cp_Block.2.1, cp_Block.2.2.1, cp_Block.2.2.2, rfl, rfl, cp_Block.2.2.1 0 (by decide), Or.inl kw_1_64, fun h => absurd h (by decide)⟩
theorem kw_1_67 : (Jvm.Cond.fieldLink "TapTerminal$Air" (93 : Nat) "TapTerminal$Block" "number" "I") ∈ am_kw := am_in1 (List.mem_of_getElem? (i := 67) rfl) rfl
theorem fp_4_93 : am_fP 4 93 (1, 1, .int, false) := ⟨"TapTerminal$Block", F_Block, 4, t_Block, cp_Block.1, by decide, cp_Block.2.1, cp_Block.2.2.1, cp_Block.2.2.2, rfl, rfl, cp_Block.2.2.1 1 (by decide), Or.inl kw_1_67, fun h => absurd h (by decide)⟩
theorem kw_1_70 : (Jvm.Cond.fieldLink "TapTerminal$Air" (110 : Nat) "TapTerminal$Block" "more" "Z") ∈ am_kw := am_in1 (List.mem_of_getElem? (i := 70) rfl) rfl
theorem fp_4_110 : am_fP 4 110 (1, 2, .boolean, false) := ⟨"TapTerminal$Block", F_Block, 4, t_Block, cp_Block.1, by decide, cp_Block.2.1, cp_Block.2.2.1, cp_Block.2.2.2, rfl, rfl, cp_Block.2.2.1 2 (by decide), Or.inl kw_1_70, fun h => absurd h (by decide)⟩
theorem kw_1_73 : (Jvm.Cond.fieldLink "TapTerminal$Air" (99 : Nat) "TapTerminal$Block" "octets" "LTapTerminal$Row;") ∈ am_kw := am_in1 (List.mem_of_getElem? (i := 73) rfl) rfl
theorem fp_4_99 : am_fP 4 99 (1, 3, (.object "TapTerminal$Row"), true) := ⟨"TapTerminal$Block", F_Block, 4, t_Block, cp_Block.1, by decide, cp_Block.2.1, cp_Block.2.2.1, cp_Block.2.2.2, rfl, rfl, cp_Block.2.2.1 3 (by decide), Or.inl kw_1_73, fun h => absurd h (by decide)⟩
theorem kw_1_86 : (Jvm.Cond.fieldLink "TapTerminal$Air" (32 : Nat) "TapTerminal$Card" "inField" "Z") ∈ am_kw := am_in1 (List.mem_of_getElem? (i := 86) rfl) rfl
theorem fp_4_32 : am_fP 4 32 (2, 1, .boolean, false) := ⟨"TapTerminal$Card", F_Card, 18, t_Card, cp_Card.1, by decide, cp_Card.2.1, cp_Card.2.2.1, cp_Card.2.2.2, rfl, rfl, cp_Card.2.2.1 1 (by decide), Or.inl kw_1_86, fun h => absurd h (by decide)⟩
theorem kw_1_88 : (Jvm.Cond.fieldLink "TapTerminal$Air" (43 : Nat) "TapTerminal$Card" "ready" "Z") ∈ am_kw := am_in1 (List.mem_of_getElem? (i := 88) rfl) rfl
theorem fp_4_43 : am_fP 4 43 (2, 2, .boolean, false) := ⟨"TapTerminal$Card", F_Card, 18, t_Card, cp_Card.1, by decide, cp_Card.2.1, cp_Card.2.2.1, cp_Card.2.2.2, rfl, rfl, cp_Card.2.2.1 2 (by decide), Or.inl kw_1_88, fun h => absurd h (by decide)⟩
theorem kw_1_91 : (Jvm.Cond.fieldLink "TapTerminal$Air" (36 : Nat) "TapTerminal$Card" "address" "I") ∈ am_kw := am_in1 (List.mem_of_getElem? (i := 91) rfl) rfl
theorem fp_4_36 : am_fP 4 36 (2, 3, .int, false) := ⟨"TapTerminal$Card", F_Card, 18, t_Card, cp_Card.1, by decide, cp_Card.2.1, cp_Card.2.2.1, cp_Card.2.2.2, rfl, rfl, cp_Card.2.2.1 3 (by decide), Or.inl kw_1_91, fun h => absurd h (by decide)⟩
theorem kw_1_96 : (Jvm.Cond.fieldLink "TapTerminal$Air" (71 : Nat) "TapTerminal$Card" "size" "I") ∈ am_kw := am_in1 (List.mem_of_getElem? (i := 96) rfl) rfl
theorem fp_4_71 : am_fP 4 71 (2, 6, .int, false) := ⟨"TapTerminal$Card", F_Card, 18, t_Card, cp_Card.1, by decide, cp_Card.2.1, cp_Card.2.2.1, cp_Card.2.2.2, rfl, rfl, cp_Card.2.2.1 6 (by decide), Or.inl kw_1_96, fun h => absurd h (by decide)⟩
theorem kw_1_110 : (Jvm.Cond.fieldLink "TapTerminal$Air" (90 : Nat) "TapTerminal$Card" "reply" "LTapTerminal$Block;") ∈ am_kw := am_in1 (List.mem_of_getElem? (i := 110) rfl) rfl
theorem fp_4_90 : am_fP 4 90 (2, 13, (.object "TapTerminal$Block"), true) := ⟨"TapTerminal$Card", F_Card, 18, t_Card, cp_Card.1, by decide, cp_Card.2.1, cp_Card.2.2.1, cp_Card.2.2.2, rfl, rfl, cp_Card.2.2.1 13 (by decide), Or.inl kw_1_110, fun h => absurd h (by decide)⟩
theorem kw_1_186 : (Jvm.Cond.fieldLink "TapTerminal$Air" (11 : Nat) "TapTerminal$Air" "cards" "[LTapTerminal$Card;") ∈ am_kw := am_in1 (List.mem_of_getElem? (i := 186) rfl) rfl
theorem fp_4_11 : am_fP 4 11 (4, 0, (.array (.object "TapTerminal$Card")), true) := ⟨"TapTerminal$Air", F_Air, 6, t_Air, cp_Air.1, by decide, cp_Air.2.1, cp_Air.2.2.1, cp_Air.2.2.2, rfl, rfl, cp_Air.2.2.1 0 (by decide), Or.inl kw_1_186, fun _ => ⟨kw_1_186, rfl⟩⟩
theorem kw_1_188 : (Jvm.Cond.fieldLink "TapTerminal$Air" (21 : Nat) "TapTerminal$Air" "journal" "LTapTerminal$Journal;") ∈ am_kw := am_in1 (List.mem_of_getElem? (i := 188) rfl) rfl
theorem fp_4_21 : am_fP 4 21 (4, 1, (.object "TapTerminal$Journal"), true) := ⟨"TapTerminal$Air", F_Air, 6, t_Air, cp_Air.1, by decide, cp_Air.2.1, cp_Air.2.2.1, cp_Air.2.2.2, rfl, rfl, cp_Air.2.2.1 1 (by decide), Or.inl kw_1_188, fun _ => ⟨kw_1_188, rfl⟩⟩
theorem kw_1_190 : (Jvm.Cond.fieldLink "TapTerminal$Air" (61 : Nat) "TapTerminal$Air" "partner" "I") ∈ am_kw := am_in1 (List.mem_of_getElem? (i := 190) rfl) rfl
theorem fp_4_61 : am_fP 4 61 (4, 2, .int, false) := ⟨"TapTerminal$Air", F_Air, 6, t_Air, cp_Air.1, by decide, cp_Air.2.1, cp_Air.2.2.1, cp_Air.2.2.2, rfl, rfl, cp_Air.2.2.1 2 (by decide), Or.inl kw_1_190, fun _ => ⟨kw_1_190, rfl⟩⟩
theorem kw_1_192 : (Jvm.Cond.fieldLink "TapTerminal$Air" (54 : Nat) "TapTerminal$Air" "differing" "I") ∈ am_kw := am_in1 (List.mem_of_getElem? (i := 192) rfl) rfl
theorem fp_4_54 : am_fP 4 54 (4, 3, .int, false) := ⟨"TapTerminal$Air", F_Air, 6, t_Air, cp_Air.1, by decide, cp_Air.2.1, cp_Air.2.2.1, cp_Air.2.2.2, rfl, rfl, cp_Air.2.2.1 3 (by decide), Or.inl kw_1_192, fun _ => ⟨kw_1_192, rfl⟩⟩
theorem kw_1_193 : (Jvm.Cond.fieldLink "TapTerminal$Air" (64 : Nat) "TapTerminal$Air" "turn" "I") ∈ am_kw := am_in1 (List.mem_of_getElem? (i := 193) rfl) rfl
theorem fp_4_64 : am_fP 4 64 (4, 4, .int, false) := ⟨"TapTerminal$Air", F_Air, 6, t_Air, cp_Air.1, by decide, cp_Air.2.1, cp_Air.2.2.1, cp_Air.2.2.2, rfl, rfl, cp_Air.2.2.1 4 (by decide), Or.inl kw_1_193, fun _ => ⟨kw_1_193, rfl⟩⟩
theorem kw_1_194 : (Jvm.Cond.fieldLink "TapTerminal$Air" (28 : Nat) "TapTerminal$Air" "sent" "LTapTerminal$Block;") ∈ am_kw := am_in1 (List.mem_of_getElem? (i := 194) rfl) rfl
theorem fp_4_28 : am_fP 4 28 (4, 5, (.object "TapTerminal$Block"), true) := ⟨"TapTerminal$Air", F_Air, 6, t_Air, cp_Air.1, by decide, cp_Air.2.1, cp_Air.2.2.1, cp_Air.2.2.2, rfl, rfl, cp_Air.2.2.1 5 (by decide), Or.inl kw_1_194, fun _ => ⟨kw_1_194, rfl⟩⟩
def fls_4 : List (Nat × Nat × Nat × FieldType × Bool) := [(103, 0, 1, .int, false), (96, 1, 0, .int, false), (93, 1, 1, .int, false), (110, 1, 2, .boolean, false), (99, 1, 3, (.object "TapTerminal$Row"), true), (32, 2, 1, .boolean, false), (43, 2, 2, .boolean, false), (36, 2, 3, .int, false), (71, 2, 6, .int, false), (90, 2, 13, (.object "TapTerminal$Block"), true), (11, 4, 0, (.array (.object "TapTerminal$Card")), true), (21, 4, 1, (.object "TapTerminal$Journal"), true), (61, 4, 2, .int, false), (54, 4, 3, .int, false), (64, 4, 4, .int, false), (28, 4, 5, (.object "TapTerminal$Block"), true)]
set_option maxRecDepth 20000 in
theorem fls_4_ok : ∀ e ∈ fls_4, am_fP 4 e.1 e.2 := List.forall_mem_cons.mpr ⟨fp_4_103, List.forall_mem_cons.mpr ⟨fp_4_96, List.forall_mem_cons.mpr ⟨fp_4_93, List.forall_mem_cons.mpr ⟨fp_4_110, List.forall_mem_cons.mpr ⟨fp_4_99, List.forall_mem_cons.mpr ⟨fp_4_32, List.forall_mem_cons.mpr ⟨fp_4_43, List.forall_mem_cons.mpr ⟨fp_4_36, List.forall_mem_cons.mpr ⟨fp_4_71, List.forall_mem_cons.mpr ⟨fp_4_90, List.forall_mem_cons.mpr ⟨fp_4_11, List.forall_mem_cons.mpr ⟨fp_4_21, List.forall_mem_cons.mpr ⟨fp_4_61, List.forall_mem_cons.mpr ⟨fp_4_54, List.forall_mem_cons.mpr ⟨fp_4_64, List.forall_mem_cons.mpr ⟨fp_4_28, fun _ h => absurd h List.not_mem_nil⟩⟩⟩⟩⟩⟩⟩⟩⟩⟩⟩⟩⟩⟩⟩⟩
theorem kw_1_42 : (Jvm.Cond.fieldLink "TapTerminal$Items" (34 : Nat) "TapTerminal$Row" "count" "I") ∈ am_kw := am_in1 (List.mem_of_getElem? (i := 42) rfl) rfl
theorem fp_5_34 : am_fP 5 34 (0, 1, .int, false) := ⟨"TapTerminal$Row", F_Row, 2, t_Row, cp_Row.1, by decide, cp_Row.2.1, cp_Row.2.2.1, cp_Row.2.2.2, rfl, rfl, cp_Row.2.2.1 1 (by decide), Or.inl kw_1_42, fun h => absurd h (by decide)⟩
theorem kw_2_7 : (Jvm.Cond.fieldLink "TapTerminal$Items" (11 : Nat) "TapTerminal$Items" "rows" "[LTapTerminal$Row;") ∈ am_kw := am_in2 (List.mem_of_getElem? (i := 7) rfl) rfl
theorem fp_5_11 : am_fP 5 11 (5, 0, (.array (.object "TapTerminal$Row")), true) := ⟨"TapTerminal$Items", F_Items, 4, t_Items, cp_Items.1, by decide, cp_Items.2.1, cp_Items.2.2.1, cp_Items.2.2.2, rfl, rfl, cp_Items.2.2.1 0 (by decide), Or.inl kw_2_7, fun _ => ⟨kw_2_7, rfl⟩⟩
theorem kw_2_10 : (Jvm.Cond.fieldLink "TapTerminal$Items" (20 : Nat) "TapTerminal$Items" "there" "[Z") ∈ am_kw := am_in2 (List.mem_of_getElem? (i := 10) rfl) rfl
theorem fp_5_20 : am_fP 5 20 (5, 1, (.array .boolean), true) := ⟨"TapTerminal$Items", F_Items, 4, t_Items, cp_Items.1, by decide, cp_Items.2.1, cp_Items.2.2.1, cp_Items.2.2.2, rfl, rfl, cp_Items.2.2.1 1 (by decide), Or.inl kw_2_10, fun _ => ⟨kw_2_10, rfl⟩⟩
theorem kw_2_13 : (Jvm.Cond.fieldLink "TapTerminal$Items" (27 : Nat) "TapTerminal$Items" "whole" "Z") ∈ am_kw := am_in2 (List.mem_of_getElem? (i := 13) rfl) rfl
theorem fp_5_27 : am_fP 5 27 (5, 2, .boolean, false) := ⟨"TapTerminal$Items", F_Items, 4, t_Items, cp_Items.1, by decide, cp_Items.2.1, cp_Items.2.2.1, cp_Items.2.2.2, rfl, rfl, cp_Items.2.2.1 2 (by decide), Or.inl kw_2_13, fun _ => ⟨kw_2_13, rfl⟩⟩
theorem kw_2_15 : (Jvm.Cond.fieldLink "TapTerminal$Items" (24 : Nat) "TapTerminal$Items" "seen" "[Z") ∈ am_kw := am_in2 (List.mem_of_getElem? (i := 15) rfl) rfl
theorem fp_5_24 : am_fP 5 24 (5, 3, (.array .boolean), true) := ⟨"TapTerminal$Items", F_Items, 4, t_Items, cp_Items.1, by decide, cp_Items.2.1, cp_Items.2.2.1, cp_Items.2.2.2, rfl, rfl, cp_Items.2.2.1 3 (by decide), Or.inl kw_2_15, fun _ => ⟨kw_2_15, rfl⟩⟩
def fls_5 : List (Nat × Nat × Nat × FieldType × Bool) := [(34, 0, 1, .int, false), (11, 5, 0, (.array (.object "TapTerminal$Row")), true), (20, 5, 1, (.array .boolean), true), (27, 5, 2, .boolean, false), (24, 5, 3, (.array .boolean), true)]
set_option maxRecDepth 20000 in
theorem fls_5_ok : ∀ e ∈ fls_5, am_fP 5 e.1 e.2 := List.forall_mem_cons.mpr ⟨fp_5_34, List.forall_mem_cons.mpr ⟨fp_5_11, List.forall_mem_cons.mpr ⟨fp_5_20, List.forall_mem_cons.mpr ⟨fp_5_27, List.forall_mem_cons.mpr ⟨fp_5_24, fun _ h => absurd h List.not_mem_nil⟩⟩⟩⟩⟩
theorem kw_1_46 : (Jvm.Cond.fieldLink "TapTerminal$Settings" (61 : Nat) "TapTerminal$Row" "count" "I") ∈ am_kw := am_in1 (List.mem_of_getElem? (i := 46) rfl) rfl
theorem fp_6_61 : am_fP 6 61 (0, 1, .int, false) := ⟨"TapTerminal$Row", F_Row, 2, t_Row, cp_Row.1, by decide, cp_Row.2.1, cp_Row.2.2.1, cp_Row.2.2.2, rfl, rfl, cp_Row.2.2.1 1 (by decide), Or.inl kw_1_46, fun h => absurd h (by decide)⟩
theorem kw_1_214 : (Jvm.Cond.fieldLink "TapTerminal$Settings" (42 : Nat) "TapTerminal$Settings" "place" "I") ∈ am_kw := am_in1 (List.mem_of_getElem? (i := 214) rfl) rfl
theorem fp_6_42 : am_fP 6 42 (6, 0, .int, false) := ⟨"TapTerminal$Settings", F_Settings, 6, t_Settings, cp_Settings.1, by decide, cp_Settings.2.1, cp_Settings.2.2.1, cp_Settings.2.2.2, rfl, rfl, cp_Settings.2.2.1 0 (by decide), Or.inl kw_1_214, fun _ => ⟨kw_1_214, rfl⟩⟩
theorem kw_1_216 : (Jvm.Cond.fieldLink "TapTerminal$Settings" (45 : Nat) "TapTerminal$Settings" "floor" "I") ∈ am_kw := am_in1 (List.mem_of_getElem? (i := 216) rfl) rfl
theorem fp_6_45 : am_fP 6 45 (6, 1, .int, false) := ⟨"TapTerminal$Settings", F_Settings, 6, t_Settings, cp_Settings.1, by decide, cp_Settings.2.1, cp_Settings.2.2.1, cp_Settings.2.2.2, rfl, rfl, cp_Settings.2.2.1 1 (by decide), Or.inl kw_1_216, fun _ => ⟨kw_1_216, rfl⟩⟩
theorem kw_1_219 : (Jvm.Cond.fieldLink "TapTerminal$Settings" (72 : Nat) "TapTerminal$Settings" "ways" "I") ∈ am_kw := am_in1 (List.mem_of_getElem? (i := 219) rfl) rfl
theorem fp_6_72 : am_fP 6 72 (6, 2, .int, false) := ⟨"TapTerminal$Settings", F_Settings, 6, t_Settings, cp_Settings.1, by decide, cp_Settings.2.1, cp_Settings.2.2.1, cp_Settings.2.2.2, rfl, rfl, cp_Settings.2.2.1 2 (by decide), Or.inl kw_1_219, fun _ => ⟨kw_1_219, rfl⟩⟩
theorem kw_1_220 : (Jvm.Cond.fieldLink "TapTerminal$Settings" (9 : Nat) "TapTerminal$Settings" "online" "Z") ∈ am_kw := am_in1 (List.mem_of_getElem? (i := 220) rfl) rfl
theorem fp_6_9 : am_fP 6 9 (6, 3, .boolean, false) := ⟨"TapTerminal$Settings", F_Settings, 6, t_Settings, cp_Settings.1, by decide, cp_Settings.2.1, cp_Settings.2.2.1, cp_Settings.2.2.2, rfl, rfl, cp_Settings.2.2.1 3 (by decide), Or.inl kw_1_220, fun _ => ⟨kw_1_220, rfl⟩⟩
theorem kw_1_222 : (Jvm.Cond.fieldLink "TapTerminal$Settings" (52 : Nat) "TapTerminal$Settings" "issuer" "I") ∈ am_kw := am_in1 (List.mem_of_getElem? (i := 222) rfl) rfl
theorem fp_6_52 : am_fP 6 52 (6, 4, .int, false) := ⟨"TapTerminal$Settings", F_Settings, 6, t_Settings, cp_Settings.1, by decide, cp_Settings.2.1, cp_Settings.2.2.1, cp_Settings.2.2.2, rfl, rfl, cp_Settings.2.2.1 4 (by decide), Or.inl kw_1_222, fun _ => ⟨kw_1_222, rfl⟩⟩
theorem kw_1_224 : (Jvm.Cond.fieldLink "TapTerminal$Settings" (15 : Nat) "TapTerminal$Settings" "applications" "I") ∈ am_kw := am_in1 (List.mem_of_getElem? (i := 224) rfl) rfl
theorem fp_6_15 : am_fP 6 15 (6, 5, .int, false) := ⟨"TapTerminal$Settings", F_Settings, 6, t_Settings, cp_Settings.1, by decide, cp_Settings.2.1, cp_Settings.2.2.1, cp_Settings.2.2.2, rfl, rfl, cp_Settings.2.2.1 5 (by decide), Or.inl kw_1_224, fun _ => ⟨kw_1_224, rfl⟩⟩
theorem kw_2_8 : (Jvm.Cond.fieldLink "TapTerminal$Settings" (23 : Nat) "TapTerminal$Items" "rows" "[LTapTerminal$Row;") ∈ am_kw := am_in2 (List.mem_of_getElem? (i := 8) rfl) rfl
theorem fp_6_23 : am_fP 6 23 (5, 0, (.array (.object "TapTerminal$Row")), true) := ⟨"TapTerminal$Items", F_Items, 4, t_Items, cp_Items.1, by decide, cp_Items.2.1, cp_Items.2.2.1, cp_Items.2.2.2, rfl, rfl, cp_Items.2.2.1 0 (by decide), Or.inl kw_2_8, fun h => absurd h (by decide)⟩
theorem kw_2_11 : (Jvm.Cond.fieldLink "TapTerminal$Settings" (35 : Nat) "TapTerminal$Items" "there" "[Z") ∈ am_kw := am_in2 (List.mem_of_getElem? (i := 11) rfl) rfl
theorem fp_6_35 : am_fP 6 35 (5, 1, (.array .boolean), true) := ⟨"TapTerminal$Items", F_Items, 4, t_Items, cp_Items.1, by decide, cp_Items.2.1, cp_Items.2.2.1, cp_Items.2.2.2, rfl, rfl, cp_Items.2.2.1 1 (by decide), Or.inl kw_2_11, fun h => absurd h (by decide)⟩
def fls_6 : List (Nat × Nat × Nat × FieldType × Bool) := [(61, 0, 1, .int, false), (42, 6, 0, .int, false), (45, 6, 1, .int, false), (72, 6, 2, .int, false), (9, 6, 3, .boolean, false), (52, 6, 4, .int, false), (15, 6, 5, .int, false), (23, 5, 0, (.array (.object "TapTerminal$Row")), true), (35, 5, 1, (.array .boolean), true)]
set_option maxRecDepth 20000 in
theorem fls_6_ok : ∀ e ∈ fls_6, am_fP 6 e.1 e.2 := List.forall_mem_cons.mpr ⟨fp_6_61, List.forall_mem_cons.mpr ⟨fp_6_42, List.forall_mem_cons.mpr ⟨fp_6_45, List.forall_mem_cons.mpr ⟨fp_6_72, List.forall_mem_cons.mpr ⟨fp_6_9, List.forall_mem_cons.mpr ⟨fp_6_52, List.forall_mem_cons.mpr ⟨fp_6_15, List.forall_mem_cons.mpr ⟨fp_6_23, List.forall_mem_cons.mpr ⟨fp_6_35, fun _ h => absurd h List.not_mem_nil⟩⟩⟩⟩⟩⟩⟩⟩⟩
theorem kw_2_35 : (Jvm.Cond.fieldLink "TapTerminal$Report" (14 : Nat) "TapTerminal$Report" "ending" "I") ∈ am_kw := am_in2 (List.mem_of_getElem? (i := 35) rfl) rfl
theorem fp_7_14 : am_fP 7 14 (7, 0, .int, false) := ⟨"TapTerminal$Report", F_Report, 8, t_Report, cp_Report.1, by decide, cp_Report.2.1, cp_Report.2.2.1, cp_Report.2.2.2, rfl, rfl, cp_Report.2.2.1 0 (by decide), Or.inl kw_2_35, fun _ => ⟨kw_2_35, rfl⟩⟩
theorem kw_2_37 : (Jvm.Cond.fieldLink "TapTerminal$Report" (18 : Nat) "TapTerminal$Report" "chosen" "I") ∈ am_kw := am_in2 (List.mem_of_getElem? (i := 37) rfl) rfl
theorem fp_7_18 : am_fP 7 18 (7, 1, .int, false) := ⟨"TapTerminal$Report", F_Report, 8, t_Report, cp_Report.1, by decide, cp_Report.2.1, cp_Report.2.2.1, cp_Report.2.2.2, rfl, rfl, cp_Report.2.2.1 1 (by decide), Or.inl kw_2_37, fun _ => ⟨kw_2_37, rfl⟩⟩
theorem kw_2_39 : (Jvm.Cond.fieldLink "TapTerminal$Report" (21 : Nat) "TapTerminal$Report" "findings" "I") ∈ am_kw := am_in2 (List.mem_of_getElem? (i := 39) rfl) rfl
theorem fp_7_21 : am_fP 7 21 (7, 2, .int, false) := ⟨"TapTerminal$Report", F_Report, 8, t_Report, cp_Report.1, by decide, cp_Report.2.1, cp_Report.2.2.1, cp_Report.2.2.2, rfl, rfl, cp_Report.2.2.1 2 (by decide), Or.inl kw_2_39, fun _ => ⟨kw_2_39, rfl⟩⟩
theorem kw_2_41 : (Jvm.Cond.fieldLink "TapTerminal$Report" (24 : Nat) "TapTerminal$Report" "typeAsked" "I") ∈ am_kw := am_in2 (List.mem_of_getElem? (i := 41) rfl) rfl
theorem fp_7_24 : am_fP 7 24 (7, 3, .int, false) := ⟨"TapTerminal$Report", F_Report, 8, t_Report, cp_Report.1, by decide, cp_Report.2.1, cp_Report.2.2.1, cp_Report.2.2.2, rfl, rfl, cp_Report.2.2.1 3 (by decide), Or.inl kw_2_41, fun _ => ⟨kw_2_41, rfl⟩⟩
theorem kw_2_43 : (Jvm.Cond.fieldLink "TapTerminal$Report" (27 : Nat) "TapTerminal$Report" "counter" "I") ∈ am_kw := am_in2 (List.mem_of_getElem? (i := 43) rfl) rfl
theorem fp_7_27 : am_fP 7 27 (7, 4, .int, false) := ⟨"TapTerminal$Report", F_Report, 8, t_Report, cp_Report.1, by decide, cp_Report.2.1, cp_Report.2.2.1, cp_Report.2.2.2, rfl, rfl, cp_Report.2.2.1 4 (by decide), Or.inl kw_2_43, fun _ => ⟨kw_2_43, rfl⟩⟩
theorem kw_2_45 : (Jvm.Cond.fieldLink "TapTerminal$Report" (30 : Nat) "TapTerminal$Report" "mixture" "I") ∈ am_kw := am_in2 (List.mem_of_getElem? (i := 45) rfl) rfl
theorem fp_7_30 : am_fP 7 30 (7, 5, .int, false) := ⟨"TapTerminal$Report", F_Report, 8, t_Report, cp_Report.1, by decide, cp_Report.2.1, cp_Report.2.2.1, cp_Report.2.2.2, rfl, rfl, cp_Report.2.2.1 5 (by decide), Or.inl kw_2_45, fun _ => ⟨kw_2_45, rfl⟩⟩
theorem kw_2_47 : (Jvm.Cond.fieldLink "TapTerminal$Report" (33 : Nat) "TapTerminal$Report" "selected" "I") ∈ am_kw := am_in2 (List.mem_of_getElem? (i := 47) rfl) rfl
theorem fp_7_33 : am_fP 7 33 (7, 6, .int, false) := ⟨"TapTerminal$Report", F_Report, 8, t_Report, cp_Report.1, by decide, cp_Report.2.1, cp_Report.2.2.1, cp_Report.2.2.2, rfl, rfl, cp_Report.2.2.1 6 (by decide), Or.inl kw_2_47, fun _ => ⟨kw_2_47, rfl⟩⟩
theorem kw_2_49 : (Jvm.Cond.fieldLink "TapTerminal$Report" (36 : Nat) "TapTerminal$Report" "recordsRead" "I") ∈ am_kw := am_in2 (List.mem_of_getElem? (i := 49) rfl) rfl
theorem fp_7_36 : am_fP 7 36 (7, 7, .int, false) := ⟨"TapTerminal$Report", F_Report, 8, t_Report, cp_Report.1, by decide, cp_Report.2.1, cp_Report.2.2.1, cp_Report.2.2.2, rfl, rfl, cp_Report.2.2.1 7 (by decide), Or.inl kw_2_49, fun _ => ⟨kw_2_49, rfl⟩⟩
def fls_7 : List (Nat × Nat × Nat × FieldType × Bool) := [(14, 7, 0, .int, false), (18, 7, 1, .int, false), (21, 7, 2, .int, false), (24, 7, 3, .int, false), (27, 7, 4, .int, false), (30, 7, 5, .int, false), (33, 7, 6, .int, false), (36, 7, 7, .int, false)]
set_option maxRecDepth 20000 in
theorem fls_7_ok : ∀ e ∈ fls_7, am_fP 7 e.1 e.2 := List.forall_mem_cons.mpr ⟨fp_7_14, List.forall_mem_cons.mpr ⟨fp_7_18, List.forall_mem_cons.mpr ⟨fp_7_21, List.forall_mem_cons.mpr ⟨fp_7_24, List.forall_mem_cons.mpr ⟨fp_7_27, List.forall_mem_cons.mpr ⟨fp_7_30, List.forall_mem_cons.mpr ⟨fp_7_33, List.forall_mem_cons.mpr ⟨fp_7_36, fun _ h => absurd h List.not_mem_nil⟩⟩⟩⟩⟩⟩⟩⟩
theorem kw_1_45 : (Jvm.Cond.fieldLink "TapTerminal" (81 : Nat) "TapTerminal$Row" "count" "I") ∈ am_kw := am_in1 (List.mem_of_getElem? (i := 45) rfl) rfl
theorem fp_8_81 : am_fP 8 81 (0, 1, .int, false) := ⟨"TapTerminal$Row", F_Row, 2, t_Row, cp_Row.1, by decide, cp_Row.2.1, cp_Row.2.2.1, cp_Row.2.2.2, rfl, rfl, cp_Row.2.2.1 1 (by decide), Or.inl kw_1_45, fun h => absurd h (by decide)⟩
theorem kw_1_84 : (Jvm.Cond.fieldLink "TapTerminal" (261 : Nat) "TapTerminal$Card" "exists" "Z") ∈ am_kw := am_in1 (List.mem_of_getElem? (i := 84) rfl) rfl
theorem fp_8_261 : am_fP 8 261 (2, 0, .boolean, false) := ⟨"TapTerminal$Card", F_Card, 18, t_Card, cp_Card.1, by decide, cp_Card.2.1, cp_Card.2.2.1, cp_Card.2.2.2, rfl, rfl, cp_Card.2.2.1 0 (by decide), Or.inl kw_1_84, fun h => absurd h (by decide)⟩
theorem kw_1_87 : (Jvm.Cond.fieldLink "TapTerminal" (90 : Nat) "TapTerminal$Card" "inField" "Z") ∈ am_kw := am_in1 (List.mem_of_getElem? (i := 87) rfl) rfl
theorem fp_8_90 : am_fP 8 90 (2, 1, .boolean, false) := ⟨"TapTerminal$Card", F_Card, 18, t_Card, cp_Card.1, by decide, cp_Card.2.1, cp_Card.2.2.1, cp_Card.2.2.2, rfl, rfl, cp_Card.2.2.1 1 (by decide), Or.inl kw_1_87, fun h => absurd h (by decide)⟩
theorem kw_1_92 : (Jvm.Cond.fieldLink "TapTerminal" (178 : Nat) "TapTerminal$Card" "address" "I") ∈ am_kw := am_in1 (List.mem_of_getElem? (i := 92) rfl) rfl
theorem fp_8_178 : am_fP 8 178 (2, 3, .int, false) := ⟨"TapTerminal$Card", F_Card, 18, t_Card, cp_Card.1, by decide, cp_Card.2.1, cp_Card.2.2.1, cp_Card.2.2.2, rfl, rfl, cp_Card.2.2.1 3 (by decide), Or.inl kw_1_92, fun h => absurd h (by decide)⟩
theorem kw_1_98 : (Jvm.Cond.fieldLink "TapTerminal" (181 : Nat) "TapTerminal$Card" "counter" "I") ∈ am_kw := am_in1 (List.mem_of_getElem? (i := 98) rfl) rfl
theorem fp_8_181 : am_fP 8 181 (2, 7, .int, false) := ⟨"TapTerminal$Card", F_Card, 18, t_Card, cp_Card.1, by decide, cp_Card.2.1, cp_Card.2.2.1, cp_Card.2.2.2, rfl, rfl, cp_Card.2.2.1 7 (by decide), Or.inl kw_1_98, fun h => absurd h (by decide)⟩
theorem kw_1_100 : (Jvm.Cond.fieldLink "TapTerminal" (70 : Nat) "TapTerminal$Card" "cap" "I") ∈ am_kw := am_in1 (List.mem_of_getElem? (i := 100) rfl) rfl
theorem fp_8_70 : am_fP 8 70 (2, 8, .int, false) := ⟨"TapTerminal$Card", F_Card, 18, t_Card, cp_Card.1, by decide, cp_Card.2.1, cp_Card.2.2.1, cp_Card.2.2.2, rfl, rfl, cp_Card.2.2.1 8 (by decide), Or.inl kw_1_100, fun h => absurd h (by decide)⟩
theorem kw_1_102 : (Jvm.Cond.fieldLink "TapTerminal" (74 : Nat) "TapTerminal$Card" "limit" "I") ∈ am_kw := am_in1 (List.mem_of_getElem? (i := 102) rfl) rfl
theorem fp_8_74 : am_fP 8 74 (2, 9, .int, false) := ⟨"TapTerminal$Card", F_Card, 18, t_Card, cp_Card.1, by decide, cp_Card.2.1, cp_Card.2.2.1, cp_Card.2.2.2, rfl, rfl, cp_Card.2.2.1 9 (by decide), Or.inl kw_1_102, fun h => absurd h (by decide)⟩
theorem kw_1_104 : (Jvm.Cond.fieldLink "TapTerminal" (182 : Nat) "TapTerminal$Card" "runs" "I") ∈ am_kw := am_in1 (List.mem_of_getElem? (i := 104) rfl) rfl
theorem fp_8_182 : am_fP 8 182 (2, 10, .int, false) := ⟨"TapTerminal$Card", F_Card, 18, t_Card, cp_Card.1, by decide, cp_Card.2.1, cp_Card.2.2.1, cp_Card.2.2.2, rfl, rfl, cp_Card.2.2.1 10 (by decide), Or.inl kw_1_104, fun h => absurd h (by decide)⟩
theorem kw_1_106 : (Jvm.Cond.fieldLink "TapTerminal" (185 : Nat) "TapTerminal$Card" "commandsDone" "I") ∈ am_kw := am_in1 (List.mem_of_getElem? (i := 106) rfl) rfl
theorem fp_8_185 : am_fP 8 185 (2, 11, .int, false) := ⟨"TapTerminal$Card", F_Card, 18, t_Card, cp_Card.1, by decide, cp_Card.2.1, cp_Card.2.2.1, cp_Card.2.2.2, rfl, rfl, cp_Card.2.2.1 11 (by decide), Or.inl kw_1_106, fun h => absurd h (by decide)⟩
theorem kw_1_108 : (Jvm.Cond.fieldLink "TapTerminal" (77 : Nat) "TapTerminal$Card" "records" "[LTapTerminal$Row;") ∈ am_kw := am_in1 (List.mem_of_getElem? (i := 108) rfl) rfl
theorem fp_8_77 : am_fP 8 77 (2, 12, (.array (.object "TapTerminal$Row")), true) := ⟨"TapTerminal$Card", F_Card, 18, t_Card, cp_Card.1, by decide, cp_Card.2.1, cp_Card.2.2.1, cp_Card.2.2.2, rfl, rfl, cp_Card.2.2.1 12 (by decide), Or.inl kw_1_108, fun h => absurd h (by decide)⟩
theorem kw_1_159 : (Jvm.Cond.fieldLink "TapTerminal" (116 : Nat) "TapTerminal$Journal" "faults" "[I") ∈ am_kw := am_in1 (List.mem_of_getElem? (i := 159) rfl) rfl
theorem fp_8_116 : am_fP 8 116 (3, 0, (.array .int), true) := ⟨"TapTerminal$Journal", F_Journal, 6, t_Journal, cp_Journal.1, by decide, cp_Journal.2.1, cp_Journal.2.2.1, cp_Journal.2.2.2, rfl, rfl, cp_Journal.2.2.1 0 (by decide), Or.inl kw_1_159, fun h => absurd h (by decide)⟩
theorem kw_1_161 : (Jvm.Cond.fieldLink "TapTerminal" (168 : Nat) "TapTerminal$Journal" "kinds" "[I") ∈ am_kw := am_in1 (List.mem_of_getElem? (i := 161) rfl) rfl
theorem fp_8_168 : am_fP 8 168 (3, 1, (.array .int), true) := ⟨"TapTerminal$Journal", F_Journal, 6, t_Journal, cp_Journal.1, by decide, cp_Journal.2.1, cp_Journal.2.2.1, cp_Journal.2.2.2, rfl, rfl, cp_Journal.2.2.1 1 (by decide), Or.inl kw_1_161, fun h => absurd h (by decide)⟩
theorem kw_1_163 : (Jvm.Cond.fieldLink "TapTerminal" (171 : Nat) "TapTerminal$Journal" "numbers" "[I") ∈ am_kw := am_in1 (List.mem_of_getElem? (i := 163) rfl) rfl
theorem fp_8_171 : am_fP 8 171 (3, 2, (.array .int), true) := ⟨"TapTerminal$Journal", F_Journal, 6, t_Journal, cp_Journal.1, by decide, cp_Journal.2.1, cp_Journal.2.2.1, cp_Journal.2.2.2, rfl, rfl, cp_Journal.2.2.1 2 (by decide), Or.inl kw_1_163, fun h => absurd h (by decide)⟩
theorem kw_1_165 : (Jvm.Cond.fieldLink "TapTerminal" (174 : Nat) "TapTerminal$Journal" "answered" "[Z") ∈ am_kw := am_in1 (List.mem_of_getElem? (i := 165) rfl) rfl
theorem fp_8_174 : am_fP 8 174 (3, 3, (.array .boolean), true) := ⟨"TapTerminal$Journal", F_Journal, 6, t_Journal, cp_Journal.1, by decide, cp_Journal.2.1, cp_Journal.2.2.1, cp_Journal.2.2.2, rfl, rfl, cp_Journal.2.2.1 3 (by decide), Or.inl kw_1_165, fun h => absurd h (by decide)⟩
theorem kw_1_167 : (Jvm.Cond.fieldLink "TapTerminal" (158 : Nat) "TapTerminal$Journal" "count" "I") ∈ am_kw := am_in1 (List.mem_of_getElem? (i := 167) rfl) rfl
theorem fp_8_158 : am_fP 8 158 (3, 4, .int, false) := ⟨"TapTerminal$Journal", F_Journal, 6, t_Journal, cp_Journal.1, by decide, cp_Journal.2.1, cp_Journal.2.2.1, cp_Journal.2.2.2, rfl, rfl, cp_Journal.2.2.1 4 (by decide), Or.inl kw_1_167, fun h => absurd h (by decide)⟩
theorem kw_1_169 : (Jvm.Cond.fieldLink "TapTerminal" (159 : Nat) "TapTerminal$Journal" "unanswered" "I") ∈ am_kw := am_in1 (List.mem_of_getElem? (i := 169) rfl) rfl
theorem fp_8_159 : am_fP 8 159 (3, 5, .int, false) := ⟨"TapTerminal$Journal", F_Journal, 6, t_Journal, cp_Journal.1, by decide, cp_Journal.2.1, cp_Journal.2.2.1, cp_Journal.2.2.2, rfl, rfl, cp_Journal.2.2.1 5 (by decide), Or.inl kw_1_169, fun h => absurd h (by decide)⟩
theorem kw_1_187 : (Jvm.Cond.fieldLink "TapTerminal" (57 : Nat) "TapTerminal$Air" "cards" "[LTapTerminal$Card;") ∈ am_kw := am_in1 (List.mem_of_getElem? (i := 187) rfl) rfl
theorem fp_8_57 : am_fP 8 57 (4, 0, (.array (.object "TapTerminal$Card")), true) := ⟨"TapTerminal$Air", F_Air, 6, t_Air, cp_Air.1, by decide, cp_Air.2.1, cp_Air.2.2.1, cp_Air.2.2.2, rfl, rfl, cp_Air.2.2.1 0 (by decide), Or.inl kw_1_187, fun h => absurd h (by decide)⟩
theorem kw_1_189 : (Jvm.Cond.fieldLink "TapTerminal" (112 : Nat) "TapTerminal$Air" "journal" "LTapTerminal$Journal;") ∈ am_kw := am_in1 (List.mem_of_getElem? (i := 189) rfl) rfl
theorem fp_8_112 : am_fP 8 112 (4, 1, (.object "TapTerminal$Journal"), true) := ⟨"TapTerminal$Air", F_Air, 6, t_Air, cp_Air.1, by decide, cp_Air.2.1, cp_Air.2.2.1, cp_Air.2.2.2, rfl, rfl, cp_Air.2.2.1 1 (by decide), Or.inl kw_1_189, fun h => absurd h (by decide)⟩
theorem kw_1_191 : (Jvm.Cond.fieldLink "TapTerminal" (218 : Nat) "TapTerminal$Air" "partner" "I") ∈ am_kw := am_in1 (List.mem_of_getElem? (i := 191) rfl) rfl
theorem fp_8_218 : am_fP 8 218 (4, 2, .int, false) := ⟨"TapTerminal$Air", F_Air, 6, t_Air, cp_Air.1, by decide, cp_Air.2.1, cp_Air.2.2.1, cp_Air.2.2.2, rfl, rfl, cp_Air.2.2.1 2 (by decide), Or.inl kw_1_191, fun h => absurd h (by decide)⟩
theorem kw_1_215 : (Jvm.Cond.fieldLink "TapTerminal" (94 : Nat) "TapTerminal$Settings" "place" "I") ∈ am_kw := am_in1 (List.mem_of_getElem? (i := 215) rfl) rfl
theorem fp_8_94 : am_fP 8 94 (6, 0, .int, false) := ⟨"TapTerminal$Settings", F_Settings, 6, t_Settings, cp_Settings.1, by decide, cp_Settings.2.1, cp_Settings.2.2.1, cp_Settings.2.2.2, rfl, rfl, cp_Settings.2.2.1 0 (by decide), Or.inl kw_1_215, fun h => absurd h (by decide)⟩
theorem kw_1_217 : (Jvm.Cond.fieldLink "TapTerminal" (97 : Nat) "TapTerminal$Settings" "floor" "I") ∈ am_kw := am_in1 (List.mem_of_getElem? (i := 217) rfl) rfl
theorem fp_8_97 : am_fP 8 97 (6, 1, .int, false) := ⟨"TapTerminal$Settings", F_Settings, 6, t_Settings, cp_Settings.1, by decide, cp_Settings.2.1, cp_Settings.2.2.1, cp_Settings.2.2.2, rfl, rfl, cp_Settings.2.2.1 1 (by decide), Or.inl kw_1_217, fun h => absurd h (by decide)⟩
theorem kw_1_218 : (Jvm.Cond.fieldLink "TapTerminal" (100 : Nat) "TapTerminal$Settings" "ways" "I") ∈ am_kw := am_in1 (List.mem_of_getElem? (i := 218) rfl) rfl
theorem fp_8_100 : am_fP 8 100 (6, 2, .int, false) := ⟨"TapTerminal$Settings", F_Settings, 6, t_Settings, cp_Settings.1, by decide, cp_Settings.2.1, cp_Settings.2.2.1, cp_Settings.2.2.2, rfl, rfl, cp_Settings.2.2.1 2 (by decide), Or.inl kw_1_218, fun h => absurd h (by decide)⟩
theorem kw_1_221 : (Jvm.Cond.fieldLink "TapTerminal" (103 : Nat) "TapTerminal$Settings" "online" "Z") ∈ am_kw := am_in1 (List.mem_of_getElem? (i := 221) rfl) rfl
theorem fp_8_103 : am_fP 8 103 (6, 3, .boolean, false) := ⟨"TapTerminal$Settings", F_Settings, 6, t_Settings, cp_Settings.1, by decide, cp_Settings.2.1, cp_Settings.2.2.1, cp_Settings.2.2.2, rfl, rfl, cp_Settings.2.2.1 3 (by decide), Or.inl kw_1_221, fun h => absurd h (by decide)⟩
theorem kw_1_223 : (Jvm.Cond.fieldLink "TapTerminal" (106 : Nat) "TapTerminal$Settings" "issuer" "I") ∈ am_kw := am_in1 (List.mem_of_getElem? (i := 223) rfl) rfl
theorem fp_8_106 : am_fP 8 106 (6, 4, .int, false) := ⟨"TapTerminal$Settings", F_Settings, 6, t_Settings, cp_Settings.1, by decide, cp_Settings.2.1, cp_Settings.2.2.1, cp_Settings.2.2.2, rfl, rfl, cp_Settings.2.2.1 4 (by decide), Or.inl kw_1_223, fun h => absurd h (by decide)⟩
theorem kw_1_225 : (Jvm.Cond.fieldLink "TapTerminal" (109 : Nat) "TapTerminal$Settings" "applications" "I") ∈ am_kw := am_in1 (List.mem_of_getElem? (i := 225) rfl) rfl
theorem fp_8_109 : am_fP 8 109 (6, 5, .int, false) := ⟨"TapTerminal$Settings", F_Settings, 6, t_Settings, cp_Settings.1, by decide, cp_Settings.2.1, cp_Settings.2.2.1, cp_Settings.2.2.2, rfl, rfl, cp_Settings.2.2.1 5 (by decide), Or.inl kw_1_225, fun h => absurd h (by decide)⟩
theorem kw_2_9 : (Jvm.Cond.fieldLink "TapTerminal" (247 : Nat) "TapTerminal$Items" "rows" "[LTapTerminal$Row;") ∈ am_kw := am_in2 (List.mem_of_getElem? (i := 9) rfl) rfl
theorem fp_8_247 : am_fP 8 247 (5, 0, (.array (.object "TapTerminal$Row")), true) := ⟨"TapTerminal$Items", F_Items, 4, t_Items, cp_Items.1, by decide, cp_Items.2.1, cp_Items.2.2.1, cp_Items.2.2.2, rfl, rfl, cp_Items.2.2.1 0 (by decide), Or.inl kw_2_9, fun h => absurd h (by decide)⟩
theorem kw_2_12 : (Jvm.Cond.fieldLink "TapTerminal" (240 : Nat) "TapTerminal$Items" "there" "[Z") ∈ am_kw := am_in2 (List.mem_of_getElem? (i := 12) rfl) rfl
theorem fp_8_240 : am_fP 8 240 (5, 1, (.array .boolean), true) := ⟨"TapTerminal$Items", F_Items, 4, t_Items, cp_Items.1, by decide, cp_Items.2.1, cp_Items.2.2.1, cp_Items.2.2.2, rfl, rfl, cp_Items.2.2.1 1 (by decide), Or.inl kw_2_12, fun h => absurd h (by decide)⟩
theorem kw_2_14 : (Jvm.Cond.fieldLink "TapTerminal" (237 : Nat) "TapTerminal$Items" "whole" "Z") ∈ am_kw := am_in2 (List.mem_of_getElem? (i := 14) rfl) rfl
theorem fp_8_237 : am_fP 8 237 (5, 2, .boolean, false) := ⟨"TapTerminal$Items", F_Items, 4, t_Items, cp_Items.1, by decide, cp_Items.2.1, cp_Items.2.2.1, cp_Items.2.2.2, rfl, rfl, cp_Items.2.2.1 2 (by decide), Or.inl kw_2_14, fun h => absurd h (by decide)⟩
theorem kw_2_36 : (Jvm.Cond.fieldLink "TapTerminal" (140 : Nat) "TapTerminal$Report" "ending" "I") ∈ am_kw := am_in2 (List.mem_of_getElem? (i := 36) rfl) rfl
theorem fp_8_140 : am_fP 8 140 (7, 0, .int, false) := ⟨"TapTerminal$Report", F_Report, 8, t_Report, cp_Report.1, by decide, cp_Report.2.1, cp_Report.2.2.1, cp_Report.2.2.2, rfl, rfl, cp_Report.2.2.1 0 (by decide), Or.inl kw_2_36, fun h => absurd h (by decide)⟩
theorem kw_2_38 : (Jvm.Cond.fieldLink "TapTerminal" (143 : Nat) "TapTerminal$Report" "chosen" "I") ∈ am_kw := am_in2 (List.mem_of_getElem? (i := 38) rfl) rfl
theorem fp_8_143 : am_fP 8 143 (7, 1, .int, false) := ⟨"TapTerminal$Report", F_Report, 8, t_Report, cp_Report.1, by decide, cp_Report.2.1, cp_Report.2.2.1, cp_Report.2.2.2, rfl, rfl, cp_Report.2.2.1 1 (by decide), Or.inl kw_2_38, fun h => absurd h (by decide)⟩
theorem kw_2_40 : (Jvm.Cond.fieldLink "TapTerminal" (146 : Nat) "TapTerminal$Report" "findings" "I") ∈ am_kw := am_in2 (List.mem_of_getElem? (i := 40) rfl) rfl
theorem fp_8_146 : am_fP 8 146 (7, 2, .int, false) := ⟨"TapTerminal$Report", F_Report, 8, t_Report, cp_Report.1, by decide, cp_Report.2.1, cp_Report.2.2.1, cp_Report.2.2.2, rfl, rfl, cp_Report.2.2.1 2 (by decide), Or.inl kw_2_40, fun h => absurd h (by decide)⟩
theorem kw_2_42 : (Jvm.Cond.fieldLink "TapTerminal" (149 : Nat) "TapTerminal$Report" "typeAsked" "I") ∈ am_kw := am_in2 (List.mem_of_getElem? (i := 42) rfl) rfl
theorem fp_8_149 : am_fP 8 149 (7, 3, .int, false) := ⟨"TapTerminal$Report", F_Report, 8, t_Report, cp_Report.1, by decide, cp_Report.2.1, cp_Report.2.2.1, cp_Report.2.2.2, rfl, rfl, cp_Report.2.2.1 3 (by decide), Or.inl kw_2_42, fun h => absurd h (by decide)⟩
theorem kw_2_44 : (Jvm.Cond.fieldLink "TapTerminal" (152 : Nat) "TapTerminal$Report" "counter" "I") ∈ am_kw := am_in2 (List.mem_of_getElem? (i := 44) rfl) rfl
theorem fp_8_152 : am_fP 8 152 (7, 4, .int, false) := ⟨"TapTerminal$Report", F_Report, 8, t_Report, cp_Report.1, by decide, cp_Report.2.1, cp_Report.2.2.1, cp_Report.2.2.2, rfl, rfl, cp_Report.2.2.1 4 (by decide), Or.inl kw_2_44, fun h => absurd h (by decide)⟩
theorem kw_2_46 : (Jvm.Cond.fieldLink "TapTerminal" (155 : Nat) "TapTerminal$Report" "mixture" "I") ∈ am_kw := am_in2 (List.mem_of_getElem? (i := 46) rfl) rfl
theorem fp_8_155 : am_fP 8 155 (7, 5, .int, false) := ⟨"TapTerminal$Report", F_Report, 8, t_Report, cp_Report.1, by decide, cp_Report.2.1, cp_Report.2.2.1, cp_Report.2.2.2, rfl, rfl, cp_Report.2.2.1 5 (by decide), Or.inl kw_2_46, fun h => absurd h (by decide)⟩
theorem kw_2_48 : (Jvm.Cond.fieldLink "TapTerminal" (162 : Nat) "TapTerminal$Report" "selected" "I") ∈ am_kw := am_in2 (List.mem_of_getElem? (i := 48) rfl) rfl
theorem fp_8_162 : am_fP 8 162 (7, 6, .int, false) := ⟨"TapTerminal$Report", F_Report, 8, t_Report, cp_Report.1, by decide, cp_Report.2.1, cp_Report.2.2.1, cp_Report.2.2.2, rfl, rfl, cp_Report.2.2.1 6 (by decide), Or.inl kw_2_48, fun h => absurd h (by decide)⟩
theorem kw_2_50 : (Jvm.Cond.fieldLink "TapTerminal" (165 : Nat) "TapTerminal$Report" "recordsRead" "I") ∈ am_kw := am_in2 (List.mem_of_getElem? (i := 50) rfl) rfl
theorem fp_8_165 : am_fP 8 165 (7, 7, .int, false) := ⟨"TapTerminal$Report", F_Report, 8, t_Report, cp_Report.1, by decide, cp_Report.2.1, cp_Report.2.2.1, cp_Report.2.2.2, rfl, rfl, cp_Report.2.2.1 7 (by decide), Or.inl kw_2_50, fun h => absurd h (by decide)⟩
theorem kw_2_70 : (Jvm.Cond.fieldLink "TapTerminal" (10 : Nat) "TapTerminal" "air" "LTapTerminal$Air;") ∈ am_kw := am_in2 (List.mem_of_getElem? (i := 70) rfl) rfl
theorem fp_8_10 : am_fP 8 10 (8, 0, (.object "TapTerminal$Air"), true) := ⟨"TapTerminal", F_Tap, 6, t_Tap, cp_Tap.1, by decide, cp_Tap.2.1, cp_Tap.2.2.1, cp_Tap.2.2.2, rfl, rfl, cp_Tap.2.2.1 0 (by decide), Or.inl kw_2_70, fun _ => ⟨kw_2_70, rfl⟩⟩
theorem kw_2_71 : (Jvm.Cond.fieldLink "TapTerminal" (19 : Nat) "TapTerminal" "settings" "LTapTerminal$Settings;") ∈ am_kw := am_in2 (List.mem_of_getElem? (i := 71) rfl) rfl
theorem fp_8_19 : am_fP 8 19 (8, 1, (.object "TapTerminal$Settings"), true) := ⟨"TapTerminal", F_Tap, 6, t_Tap, cp_Tap.1, by decide, cp_Tap.2.1, cp_Tap.2.2.1, cp_Tap.2.2.2, rfl, rfl, cp_Tap.2.2.1 1 (by decide), Or.inl kw_2_71, fun _ => ⟨kw_2_71, rfl⟩⟩
theorem kw_2_72 : (Jvm.Cond.fieldLink "TapTerminal" (26 : Nat) "TapTerminal" "items" "LTapTerminal$Items;") ∈ am_kw := am_in2 (List.mem_of_getElem? (i := 72) rfl) rfl
theorem fp_8_26 : am_fP 8 26 (8, 2, (.object "TapTerminal$Items"), true) := ⟨"TapTerminal", F_Tap, 6, t_Tap, cp_Tap.1, by decide, cp_Tap.2.1, cp_Tap.2.2.1, cp_Tap.2.2.2, rfl, rfl, cp_Tap.2.2.1 2 (by decide), Or.inl kw_2_72, fun _ => ⟨kw_2_72, rfl⟩⟩
theorem kw_2_73 : (Jvm.Cond.fieldLink "TapTerminal" (33 : Nat) "TapTerminal" "report" "LTapTerminal$Report;") ∈ am_kw := am_in2 (List.mem_of_getElem? (i := 73) rfl) rfl
theorem fp_8_33 : am_fP 8 33 (8, 3, (.object "TapTerminal$Report"), true) := ⟨"TapTerminal", F_Tap, 6, t_Tap, cp_Tap.1, by decide, cp_Tap.2.1, cp_Tap.2.2.1, cp_Tap.2.2.2, rfl, rfl, cp_Tap.2.2.1 3 (by decide), Or.inl kw_2_73, fun _ => ⟨kw_2_73, rfl⟩⟩
theorem kw_2_74 : (Jvm.Cond.fieldLink "TapTerminal" (42 : Nat) "TapTerminal" "command" "LTapTerminal$Row;") ∈ am_kw := am_in2 (List.mem_of_getElem? (i := 74) rfl) rfl
theorem fp_8_42 : am_fP 8 42 (8, 4, (.object "TapTerminal$Row"), true) := ⟨"TapTerminal", F_Tap, 6, t_Tap, cp_Tap.1, by decide, cp_Tap.2.1, cp_Tap.2.2.1, cp_Tap.2.2.2, rfl, rfl, cp_Tap.2.2.1 4 (by decide), Or.inl kw_2_74, fun _ => ⟨kw_2_74, rfl⟩⟩
theorem kw_2_75 : (Jvm.Cond.fieldLink "TapTerminal" (46 : Nat) "TapTerminal" "answer" "LTapTerminal$Row;") ∈ am_kw := am_in2 (List.mem_of_getElem? (i := 75) rfl) rfl
theorem fp_8_46 : am_fP 8 46 (8, 5, (.object "TapTerminal$Row"), true) := ⟨"TapTerminal", F_Tap, 6, t_Tap, cp_Tap.1, by decide, cp_Tap.2.1, cp_Tap.2.2.1, cp_Tap.2.2.2, rfl, rfl, cp_Tap.2.2.1 5 (by decide), Or.inl kw_2_75, fun _ => ⟨kw_2_75, rfl⟩⟩
def fls_8 : List (Nat × Nat × Nat × FieldType × Bool) := [(81, 0, 1, .int, false), (261, 2, 0, .boolean, false), (90, 2, 1, .boolean, false), (178, 2, 3, .int, false), (181, 2, 7, .int, false), (70, 2, 8, .int, false), (74, 2, 9, .int, false), (182, 2, 10, .int, false), (185, 2, 11, .int, false), (77, 2, 12, (.array (.object "TapTerminal$Row")), true), (116, 3, 0, (.array .int), true), (168, 3, 1, (.array .int), true), (171, 3, 2, (.array .int), true), (174, 3, 3, (.array .boolean), true), (158, 3, 4, .int, false), (159, 3, 5, .int, false), (57, 4, 0, (.array (.object "TapTerminal$Card")), true), (112, 4, 1, (.object "TapTerminal$Journal"), true), (218, 4, 2, .int, false), (94, 6, 0, .int, false), (97, 6, 1, .int, false), (100, 6, 2, .int, false), (103, 6, 3, .boolean, false), (106, 6, 4, .int, false), (109, 6, 5, .int, false), (247, 5, 0, (.array (.object "TapTerminal$Row")), true), (240, 5, 1, (.array .boolean), true), (237, 5, 2, .boolean, false), (140, 7, 0, .int, false), (143, 7, 1, .int, false), (146, 7, 2, .int, false), (149, 7, 3, .int, false), (152, 7, 4, .int, false), (155, 7, 5, .int, false), (162, 7, 6, .int, false), (165, 7, 7, .int, false), (10, 8, 0, (.object "TapTerminal$Air"), true), (19, 8, 1, (.object "TapTerminal$Settings"), true), (26, 8, 2, (.object "TapTerminal$Items"), true), (33, 8, 3, (.object "TapTerminal$Report"), true), (42, 8, 4, (.object "TapTerminal$Row"), true), (46, 8, 5, (.object "TapTerminal$Row"), true)]
set_option maxRecDepth 20000 in
theorem fls_8_ok : ∀ e ∈ fls_8, am_fP 8 e.1 e.2 := List.forall_mem_cons.mpr ⟨fp_8_81, List.forall_mem_cons.mpr ⟨fp_8_261, List.forall_mem_cons.mpr ⟨fp_8_90, List.forall_mem_cons.mpr ⟨fp_8_178, List.forall_mem_cons.mpr ⟨fp_8_181, List.forall_mem_cons.mpr ⟨fp_8_70, List.forall_mem_cons.mpr ⟨fp_8_74, List.forall_mem_cons.mpr ⟨fp_8_182, List.forall_mem_cons.mpr ⟨fp_8_185, List.forall_mem_cons.mpr ⟨fp_8_77, List.forall_mem_cons.mpr ⟨fp_8_116, List.forall_mem_cons.mpr ⟨fp_8_168, List.forall_mem_cons.mpr ⟨fp_8_171, List.forall_mem_cons.mpr ⟨fp_8_174, List.forall_mem_cons.mpr ⟨fp_8_158, List.forall_mem_cons.mpr ⟨fp_8_159, List.forall_mem_cons.mpr ⟨fp_8_57, List.forall_mem_cons.mpr ⟨fp_8_112, List.forall_mem_cons.mpr ⟨fp_8_218, List.forall_mem_cons.mpr ⟨fp_8_94, List.forall_mem_cons.mpr ⟨fp_8_97, List.forall_mem_cons.mpr ⟨fp_8_100, List.forall_mem_cons.mpr ⟨fp_8_103, List.forall_mem_cons.mpr ⟨fp_8_106, List.forall_mem_cons.mpr ⟨fp_8_109, List.forall_mem_cons.mpr ⟨fp_8_247, List.forall_mem_cons.mpr ⟨fp_8_240, List.forall_mem_cons.mpr ⟨fp_8_237, List.forall_mem_cons.mpr ⟨fp_8_140, List.forall_mem_cons.mpr ⟨fp_8_143, List.forall_mem_cons.mpr ⟨fp_8_146, List.forall_mem_cons.mpr ⟨fp_8_149, List.forall_mem_cons.mpr ⟨fp_8_152, List.forall_mem_cons.mpr ⟨fp_8_155, List.forall_mem_cons.mpr ⟨fp_8_162, List.forall_mem_cons.mpr ⟨fp_8_165, List.forall_mem_cons.mpr ⟨fp_8_10, List.forall_mem_cons.mpr ⟨fp_8_19, List.forall_mem_cons.mpr ⟨fp_8_26, List.forall_mem_cons.mpr ⟨fp_8_33, List.forall_mem_cons.mpr ⟨fp_8_42, List.forall_mem_cons.mpr ⟨fp_8_46, fun _ h => absurd h List.not_mem_nil⟩⟩⟩⟩⟩⟩⟩⟩⟩⟩⟩⟩⟩⟩⟩⟩⟩⟩⟩⟩⟩⟩⟩⟩⟩⟩⟩⟩⟩⟩⟩⟩⟩⟩⟩⟩⟩⟩⟩⟩⟩⟩
theorem kw_3_142 : (Jvm.Cond.fieldLink "TapTerminalModel" (7 : Nat) "TapTerminalModel" "there" "[Z") ∈ am_kw := am_in3 (List.mem_of_getElem? (i := 142) rfl) rfl
theorem fp_9_7 : am_fP 9 7 (9, 0, (.array .boolean), true) := ⟨"TapTerminalModel", F_Mod, 54, t_Mod, cp_Mod.1, by decide, cp_Mod.2.1, cp_Mod.2.2.1, cp_Mod.2.2.2, rfl, rfl, cp_Mod.2.2.1 0 (by decide), Or.inl kw_3_142, fun _ => ⟨kw_3_142, rfl⟩⟩
theorem kw_3_143 : (Jvm.Cond.fieldLink "TapTerminalModel" (13 : Nat) "TapTerminalModel" "inField" "[Z") ∈ am_kw := am_in3 (List.mem_of_getElem? (i := 143) rfl) rfl
theorem fp_9_13 : am_fP 9 13 (9, 1, (.array .boolean), true) := ⟨"TapTerminalModel", F_Mod, 54, t_Mod, cp_Mod.1, by decide, cp_Mod.2.1, cp_Mod.2.2.1, cp_Mod.2.2.2, rfl, rfl, cp_Mod.2.2.1 1 (by decide), Or.inl kw_3_143, fun _ => ⟨kw_3_143, rfl⟩⟩
theorem kw_3_144 : (Jvm.Cond.fieldLink "TapTerminalModel" (16 : Nat) "TapTerminalModel" "ready" "[Z") ∈ am_kw := am_in3 (List.mem_of_getElem? (i := 144) rfl) rfl
theorem fp_9_16 : am_fP 9 16 (9, 2, (.array .boolean), true) := ⟨"TapTerminalModel", F_Mod, 54, t_Mod, cp_Mod.1, by decide, cp_Mod.2.1, cp_Mod.2.2.1, cp_Mod.2.2.2, rfl, rfl, cp_Mod.2.2.1 2 (by decide), Or.inl kw_3_144, fun _ => ⟨kw_3_144, rfl⟩⟩
theorem kw_3_145 : (Jvm.Cond.fieldLink "TapTerminalModel" (19 : Nat) "TapTerminalModel" "address" "[I") ∈ am_kw := am_in3 (List.mem_of_getElem? (i := 145) rfl) rfl
theorem fp_9_19 : am_fP 9 19 (9, 3, (.array .int), true) := ⟨"TapTerminalModel", F_Mod, 54, t_Mod, cp_Mod.1, by decide, cp_Mod.2.1, cp_Mod.2.2.1, cp_Mod.2.2.2, rfl, rfl, cp_Mod.2.2.1 3 (by decide), Or.inl kw_3_145, fun _ => ⟨kw_3_145, rfl⟩⟩
theorem kw_3_146 : (Jvm.Cond.fieldLink "TapTerminalModel" (23 : Nat) "TapTerminalModel" "application" "[I") ∈ am_kw := am_in3 (List.mem_of_getElem? (i := 146) rfl) rfl
theorem fp_9_23 : am_fP 9 23 (9, 4, (.array .int), true) := ⟨"TapTerminalModel", F_Mod, 54, t_Mod, cp_Mod.1, by decide, cp_Mod.2.1, cp_Mod.2.2.1, cp_Mod.2.2.2, rfl, rfl, cp_Mod.2.2.1 4 (by decide), Or.inl kw_3_146, fun _ => ⟨kw_3_146, rfl⟩⟩
theorem kw_3_147 : (Jvm.Cond.fieldLink "TapTerminalModel" (26 : Nat) "TapTerminalModel" "key" "[I") ∈ am_kw := am_in3 (List.mem_of_getElem? (i := 147) rfl) rfl
theorem fp_9_26 : am_fP 9 26 (9, 5, (.array .int), true) := ⟨"TapTerminalModel", F_Mod, 54, t_Mod, cp_Mod.1, by decide, cp_Mod.2.1, cp_Mod.2.2.1, cp_Mod.2.2.2, rfl, rfl, cp_Mod.2.2.1 5 (by decide), Or.inl kw_3_147, fun _ => ⟨kw_3_147, rfl⟩⟩
theorem kw_3_148 : (Jvm.Cond.fieldLink "TapTerminalModel" (29 : Nat) "TapTerminalModel" "size" "[I") ∈ am_kw := am_in3 (List.mem_of_getElem? (i := 148) rfl) rfl
theorem fp_9_29 : am_fP 9 29 (9, 6, (.array .int), true) := ⟨"TapTerminalModel", F_Mod, 54, t_Mod, cp_Mod.1, by decide, cp_Mod.2.1, cp_Mod.2.2.1, cp_Mod.2.2.2, rfl, rfl, cp_Mod.2.2.1 6 (by decide), Or.inl kw_3_148, fun _ => ⟨kw_3_148, rfl⟩⟩
theorem kw_3_149 : (Jvm.Cond.fieldLink "TapTerminalModel" (32 : Nat) "TapTerminalModel" "counter" "[I") ∈ am_kw := am_in3 (List.mem_of_getElem? (i := 149) rfl) rfl
theorem fp_9_32 : am_fP 9 32 (9, 7, (.array .int), true) := ⟨"TapTerminalModel", F_Mod, 54, t_Mod, cp_Mod.1, by decide, cp_Mod.2.1, cp_Mod.2.2.1, cp_Mod.2.2.2, rfl, rfl, cp_Mod.2.2.1 7 (by decide), Or.inl kw_3_149, fun _ => ⟨kw_3_149, rfl⟩⟩
theorem kw_3_150 : (Jvm.Cond.fieldLink "TapTerminalModel" (35 : Nat) "TapTerminalModel" "cap" "[I") ∈ am_kw := am_in3 (List.mem_of_getElem? (i := 150) rfl) rfl
theorem fp_9_35 : am_fP 9 35 (9, 8, (.array .int), true) := ⟨"TapTerminalModel", F_Mod, 54, t_Mod, cp_Mod.1, by decide, cp_Mod.2.1, cp_Mod.2.2.1, cp_Mod.2.2.2, rfl, rfl, cp_Mod.2.2.1 8 (by decide), Or.inl kw_3_150, fun _ => ⟨kw_3_150, rfl⟩⟩
theorem kw_3_151 : (Jvm.Cond.fieldLink "TapTerminalModel" (38 : Nat) "TapTerminalModel" "limit" "[I") ∈ am_kw := am_in3 (List.mem_of_getElem? (i := 151) rfl) rfl
theorem fp_9_38 : am_fP 9 38 (9, 9, (.array .int), true) := ⟨"TapTerminalModel", F_Mod, 54, t_Mod, cp_Mod.1, by decide, cp_Mod.2.1, cp_Mod.2.2.1, cp_Mod.2.2.2, rfl, rfl, cp_Mod.2.2.1 9 (by decide), Or.inl kw_3_151, fun _ => ⟨kw_3_151, rfl⟩⟩
theorem kw_3_152 : (Jvm.Cond.fieldLink "TapTerminalModel" (41 : Nat) "TapTerminalModel" "runs" "[I") ∈ am_kw := am_in3 (List.mem_of_getElem? (i := 152) rfl) rfl
theorem fp_9_41 : am_fP 9 41 (9, 10, (.array .int), true) := ⟨"TapTerminalModel", F_Mod, 54, t_Mod, cp_Mod.1, by decide, cp_Mod.2.1, cp_Mod.2.2.1, cp_Mod.2.2.2, rfl, rfl, cp_Mod.2.2.1 10 (by decide), Or.inl kw_3_152, fun _ => ⟨kw_3_152, rfl⟩⟩
theorem kw_3_153 : (Jvm.Cond.fieldLink "TapTerminalModel" (44 : Nat) "TapTerminalModel" "commands" "[I") ∈ am_kw := am_in3 (List.mem_of_getElem? (i := 153) rfl) rfl
theorem fp_9_44 : am_fP 9 44 (9, 11, (.array .int), true) := ⟨"TapTerminalModel", F_Mod, 54, t_Mod, cp_Mod.1, by decide, cp_Mod.2.1, cp_Mod.2.2.1, cp_Mod.2.2.2, rfl, rfl, cp_Mod.2.2.1 11 (by decide), Or.inl kw_3_153, fun _ => ⟨kw_3_153, rfl⟩⟩
theorem kw_3_154 : (Jvm.Cond.fieldLink "TapTerminalModel" (47 : Nat) "TapTerminalModel" "records" "[I") ∈ am_kw := am_in3 (List.mem_of_getElem? (i := 154) rfl) rfl
theorem fp_9_47 : am_fP 9 47 (9, 12, (.array .int), true) := ⟨"TapTerminalModel", F_Mod, 54, t_Mod, cp_Mod.1, by decide, cp_Mod.2.1, cp_Mod.2.2.1, cp_Mod.2.2.2, rfl, rfl, cp_Mod.2.2.1 12 (by decide), Or.inl kw_3_154, fun _ => ⟨kw_3_154, rfl⟩⟩
theorem kw_3_155 : (Jvm.Cond.fieldLink "TapTerminalModel" (50 : Nat) "TapTerminalModel" "lengths" "[I") ∈ am_kw := am_in3 (List.mem_of_getElem? (i := 155) rfl) rfl
theorem fp_9_50 : am_fP 9 50 (9, 13, (.array .int), true) := ⟨"TapTerminalModel", F_Mod, 54, t_Mod, cp_Mod.1, by decide, cp_Mod.2.1, cp_Mod.2.2.1, cp_Mod.2.2.2, rfl, rfl, cp_Mod.2.2.1 13 (by decide), Or.inl kw_3_155, fun _ => ⟨kw_3_155, rfl⟩⟩
theorem kw_3_156 : (Jvm.Cond.fieldLink "TapTerminalModel" (116 : Nat) "TapTerminalModel" "place" "I") ∈ am_kw := am_in3 (List.mem_of_getElem? (i := 156) rfl) rfl
theorem fp_9_116 : am_fP 9 116 (9, 14, .int, false) := ⟨"TapTerminalModel", F_Mod, 54, t_Mod, cp_Mod.1, by decide, cp_Mod.2.1, cp_Mod.2.2.1, cp_Mod.2.2.2, rfl, rfl, cp_Mod.2.2.1 14 (by decide), Or.inl kw_3_156, fun _ => ⟨kw_3_156, rfl⟩⟩
theorem kw_3_157 : (Jvm.Cond.fieldLink "TapTerminalModel" (119 : Nat) "TapTerminalModel" "floor" "I") ∈ am_kw := am_in3 (List.mem_of_getElem? (i := 157) rfl) rfl
theorem fp_9_119 : am_fP 9 119 (9, 15, .int, false) := ⟨"TapTerminalModel", F_Mod, 54, t_Mod, cp_Mod.1, by decide, cp_Mod.2.1, cp_Mod.2.2.1, cp_Mod.2.2.2, rfl, rfl, cp_Mod.2.2.1 15 (by decide), Or.inl kw_3_157, fun _ => ⟨kw_3_157, rfl⟩⟩
theorem kw_3_158 : (Jvm.Cond.fieldLink "TapTerminalModel" (122 : Nat) "TapTerminalModel" "ways" "I") ∈ am_kw := am_in3 (List.mem_of_getElem? (i := 158) rfl) rfl
theorem fp_9_122 : am_fP 9 122 (9, 16, .int, false) := ⟨"TapTerminalModel", F_Mod, 54, t_Mod, cp_Mod.1, by decide, cp_Mod.2.1, cp_Mod.2.2.1, cp_Mod.2.2.2, rfl, rfl, cp_Mod.2.2.1 16 (by decide), Or.inl kw_3_158, fun _ => ⟨kw_3_158, rfl⟩⟩
theorem kw_3_159 : (Jvm.Cond.fieldLink "TapTerminalModel" (125 : Nat) "TapTerminalModel" "issuer" "I") ∈ am_kw := am_in3 (List.mem_of_getElem? (i := 159) rfl) rfl
theorem fp_9_125 : am_fP 9 125 (9, 17, .int, false) := ⟨"TapTerminalModel", F_Mod, 54, t_Mod, cp_Mod.1, by decide, cp_Mod.2.1, cp_Mod.2.2.1, cp_Mod.2.2.2, rfl, rfl, cp_Mod.2.2.1 17 (by decide), Or.inl kw_3_159, fun _ => ⟨kw_3_159, rfl⟩⟩
theorem kw_3_160 : (Jvm.Cond.fieldLink "TapTerminalModel" (128 : Nat) "TapTerminalModel" "applications" "I") ∈ am_kw := am_in3 (List.mem_of_getElem? (i := 160) rfl) rfl
theorem fp_9_128 : am_fP 9 128 (9, 18, .int, false) := ⟨"TapTerminalModel", F_Mod, 54, t_Mod, cp_Mod.1, by decide, cp_Mod.2.1, cp_Mod.2.2.1, cp_Mod.2.2.2, rfl, rfl, cp_Mod.2.2.1 18 (by decide), Or.inl kw_3_160, fun _ => ⟨kw_3_160, rfl⟩⟩
theorem kw_3_161 : (Jvm.Cond.fieldLink "TapTerminalModel" (53 : Nat) "TapTerminalModel" "online" "Z") ∈ am_kw := am_in3 (List.mem_of_getElem? (i := 161) rfl) rfl
theorem fp_9_53 : am_fP 9 53 (9, 19, .boolean, false) := ⟨"TapTerminalModel", F_Mod, 54, t_Mod, cp_Mod.1, by decide, cp_Mod.2.1, cp_Mod.2.2.1, cp_Mod.2.2.2, rfl, rfl, cp_Mod.2.2.1 19 (by decide), Or.inl kw_3_161, fun _ => ⟨kw_3_161, rfl⟩⟩
theorem kw_3_162 : (Jvm.Cond.fieldLink "TapTerminalModel" (57 : Nat) "TapTerminalModel" "faults" "[I") ∈ am_kw := am_in3 (List.mem_of_getElem? (i := 162) rfl) rfl
theorem fp_9_57 : am_fP 9 57 (9, 20, (.array .int), true) := ⟨"TapTerminalModel", F_Mod, 54, t_Mod, cp_Mod.1, by decide, cp_Mod.2.1, cp_Mod.2.2.1, cp_Mod.2.2.2, rfl, rfl, cp_Mod.2.2.1 20 (by decide), Or.inl kw_3_162, fun _ => ⟨kw_3_162, rfl⟩⟩
theorem kw_3_163 : (Jvm.Cond.fieldLink "TapTerminalModel" (60 : Nat) "TapTerminalModel" "kinds" "[I") ∈ am_kw := am_in3 (List.mem_of_getElem? (i := 163) rfl) rfl
theorem fp_9_60 : am_fP 9 60 (9, 21, (.array .int), true) := ⟨"TapTerminalModel", F_Mod, 54, t_Mod, cp_Mod.1, by decide, cp_Mod.2.1, cp_Mod.2.2.1, cp_Mod.2.2.2, rfl, rfl, cp_Mod.2.2.1 21 (by decide), Or.inl kw_3_163, fun _ => ⟨kw_3_163, rfl⟩⟩
theorem kw_3_164 : (Jvm.Cond.fieldLink "TapTerminalModel" (63 : Nat) "TapTerminalModel" "numbers" "[I") ∈ am_kw := am_in3 (List.mem_of_getElem? (i := 164) rfl) rfl
theorem fp_9_63 : am_fP 9 63 (9, 22, (.array .int), true) := ⟨"TapTerminalModel", F_Mod, 54, t_Mod, cp_Mod.1, by decide, cp_Mod.2.1, cp_Mod.2.2.1, cp_Mod.2.2.2, rfl, rfl, cp_Mod.2.2.1 22 (by decide), Or.inl kw_3_164, fun _ => ⟨kw_3_164, rfl⟩⟩
theorem kw_3_165 : (Jvm.Cond.fieldLink "TapTerminalModel" (66 : Nat) "TapTerminalModel" "answered" "[Z") ∈ am_kw := am_in3 (List.mem_of_getElem? (i := 165) rfl) rfl
theorem fp_9_66 : am_fP 9 66 (9, 23, (.array .boolean), true) := ⟨"TapTerminalModel", F_Mod, 54, t_Mod, cp_Mod.1, by decide, cp_Mod.2.1, cp_Mod.2.2.1, cp_Mod.2.2.2, rfl, rfl, cp_Mod.2.2.1 23 (by decide), Or.inl kw_3_165, fun _ => ⟨kw_3_165, rfl⟩⟩
theorem kw_3_166 : (Jvm.Cond.fieldLink "TapTerminalModel" (69 : Nat) "TapTerminalModel" "how" "I") ∈ am_kw := am_in3 (List.mem_of_getElem? (i := 166) rfl) rfl
theorem fp_9_69 : am_fP 9 69 (9, 24, .int, false) := ⟨"TapTerminalModel", F_Mod, 54, t_Mod, cp_Mod.1, by decide, cp_Mod.2.1, cp_Mod.2.2.1, cp_Mod.2.2.2, rfl, rfl, cp_Mod.2.2.1 24 (by decide), Or.inl kw_3_166, fun _ => ⟨kw_3_166, rfl⟩⟩
theorem kw_3_167 : (Jvm.Cond.fieldLink "TapTerminalModel" (73 : Nat) "TapTerminalModel" "chosen" "I") ∈ am_kw := am_in3 (List.mem_of_getElem? (i := 167) rfl) rfl
theorem fp_9_73 : am_fP 9 73 (9, 25, .int, false) := ⟨"TapTerminalModel", F_Mod, 54, t_Mod, cp_Mod.1, by decide, cp_Mod.2.1, cp_Mod.2.2.1, cp_Mod.2.2.2, rfl, rfl, cp_Mod.2.2.1 25 (by decide), Or.inl kw_3_167, fun _ => ⟨kw_3_167, rfl⟩⟩
theorem kw_3_168 : (Jvm.Cond.fieldLink "TapTerminalModel" (204 : Nat) "TapTerminalModel" "findings" "I") ∈ am_kw := am_in3 (List.mem_of_getElem? (i := 168) rfl) rfl
theorem fp_9_204 : am_fP 9 204 (9, 26, .int, false) := ⟨"TapTerminalModel", F_Mod, 54, t_Mod, cp_Mod.1, by decide, cp_Mod.2.1, cp_Mod.2.2.1, cp_Mod.2.2.2, rfl, rfl, cp_Mod.2.2.1 26 (by decide), Or.inl kw_3_168, fun _ => ⟨kw_3_168, rfl⟩⟩
theorem kw_3_169 : (Jvm.Cond.fieldLink "TapTerminalModel" (76 : Nat) "TapTerminalModel" "asked" "I") ∈ am_kw := am_in3 (List.mem_of_getElem? (i := 169) rfl) rfl
theorem fp_9_76 : am_fP 9 76 (9, 27, .int, false) := ⟨"TapTerminalModel", F_Mod, 54, t_Mod, cp_Mod.1, by decide, cp_Mod.2.1, cp_Mod.2.2.1, cp_Mod.2.2.2, rfl, rfl, cp_Mod.2.2.1 27 (by decide), Or.inl kw_3_169, fun _ => ⟨kw_3_169, rfl⟩⟩
theorem kw_3_170 : (Jvm.Cond.fieldLink "TapTerminalModel" (207 : Nat) "TapTerminalModel" "saidCounter" "I") ∈ am_kw := am_in3 (List.mem_of_getElem? (i := 170) rfl) rfl
theorem fp_9_207 : am_fP 9 207 (9, 28, .int, false) := ⟨"TapTerminalModel", F_Mod, 54, t_Mod, cp_Mod.1, by decide, cp_Mod.2.1, cp_Mod.2.2.1, cp_Mod.2.2.2, rfl, rfl, cp_Mod.2.2.1 28 (by decide), Or.inl kw_3_170, fun _ => ⟨kw_3_170, rfl⟩⟩
theorem kw_3_171 : (Jvm.Cond.fieldLink "TapTerminalModel" (210 : Nat) "TapTerminalModel" "saidMix" "I") ∈ am_kw := am_in3 (List.mem_of_getElem? (i := 171) rfl) rfl
theorem fp_9_210 : am_fP 9 210 (9, 29, .int, false) := ⟨"TapTerminalModel", F_Mod, 54, t_Mod, cp_Mod.1, by decide, cp_Mod.2.1, cp_Mod.2.2.1, cp_Mod.2.2.2, rfl, rfl, cp_Mod.2.2.1 29 (by decide), Or.inl kw_3_171, fun _ => ⟨kw_3_171, rfl⟩⟩
theorem kw_3_172 : (Jvm.Cond.fieldLink "TapTerminalModel" (131 : Nat) "TapTerminalModel" "exchanges" "I") ∈ am_kw := am_in3 (List.mem_of_getElem? (i := 172) rfl) rfl
theorem fp_9_131 : am_fP 9 131 (9, 30, .int, false) := ⟨"TapTerminalModel", F_Mod, 54, t_Mod, cp_Mod.1, by decide, cp_Mod.2.1, cp_Mod.2.2.1, cp_Mod.2.2.2, rfl, rfl, cp_Mod.2.2.1 30 (by decide), Or.inl kw_3_172, fun _ => ⟨kw_3_172, rfl⟩⟩
theorem kw_3_173 : (Jvm.Cond.fieldLink "TapTerminalModel" (137 : Nat) "TapTerminalModel" "silentOnes" "I") ∈ am_kw := am_in3 (List.mem_of_getElem? (i := 173) rfl) rfl
theorem fp_9_137 : am_fP 9 137 (9, 31, .int, false) := ⟨"TapTerminalModel", F_Mod, 54, t_Mod, cp_Mod.1, by decide, cp_Mod.2.1, cp_Mod.2.2.1, cp_Mod.2.2.2, rfl, rfl, cp_Mod.2.2.1 31 (by decide), Or.inl kw_3_173, fun _ => ⟨kw_3_173, rfl⟩⟩
theorem kw_3_174 : (Jvm.Cond.fieldLink "TapTerminalModel" (134 : Nat) "TapTerminalModel" "silent" "I") ∈ am_kw := am_in3 (List.mem_of_getElem? (i := 174) rfl) rfl
theorem fp_9_134 : am_fP 9 134 (9, 32, .int, false) := ⟨"TapTerminalModel", F_Mod, 54, t_Mod, cp_Mod.1, by decide, cp_Mod.2.1, cp_Mod.2.2.1, cp_Mod.2.2.2, rfl, rfl, cp_Mod.2.2.1 32 (by decide), Or.inl kw_3_174, fun _ => ⟨kw_3_174, rfl⟩⟩
theorem kw_3_175 : (Jvm.Cond.fieldLink "TapTerminalModel" (213 : Nat) "TapTerminalModel" "selected" "I") ∈ am_kw := am_in3 (List.mem_of_getElem? (i := 175) rfl) rfl
theorem fp_9_213 : am_fP 9 213 (9, 33, .int, false) := ⟨"TapTerminalModel", F_Mod, 54, t_Mod, cp_Mod.1, by decide, cp_Mod.2.1, cp_Mod.2.2.1, cp_Mod.2.2.2, rfl, rfl, cp_Mod.2.2.1 33 (by decide), Or.inl kw_3_175, fun _ => ⟨kw_3_175, rfl⟩⟩
theorem kw_3_176 : (Jvm.Cond.fieldLink "TapTerminalModel" (216 : Nat) "TapTerminalModel" "wholes" "I") ∈ am_kw := am_in3 (List.mem_of_getElem? (i := 176) rfl) rfl
theorem fp_9_216 : am_fP 9 216 (9, 34, .int, false) := ⟨"TapTerminalModel", F_Mod, 54, t_Mod, cp_Mod.1, by decide, cp_Mod.2.1, cp_Mod.2.2.1, cp_Mod.2.2.2, rfl, rfl, cp_Mod.2.2.1 34 (by decide), Or.inl kw_3_176, fun _ => ⟨kw_3_176, rfl⟩⟩
theorem kw_3_177 : (Jvm.Cond.fieldLink "TapTerminalModel" (79 : Nat) "TapTerminalModel" "row" "[I") ∈ am_kw := am_in3 (List.mem_of_getElem? (i := 177) rfl) rfl
theorem fp_9_79 : am_fP 9 79 (9, 35, (.array .int), true) := ⟨"TapTerminalModel", F_Mod, 54, t_Mod, cp_Mod.1, by decide, cp_Mod.2.1, cp_Mod.2.2.1, cp_Mod.2.2.2, rfl, rfl, cp_Mod.2.2.1 35 (by decide), Or.inl kw_3_177, fun _ => ⟨kw_3_177, rfl⟩⟩
theorem kw_3_178 : (Jvm.Cond.fieldLink "TapTerminalModel" (82 : Nat) "TapTerminalModel" "came" "[I") ∈ am_kw := am_in3 (List.mem_of_getElem? (i := 178) rfl) rfl
theorem fp_9_82 : am_fP 9 82 (9, 36, (.array .int), true) := ⟨"TapTerminalModel", F_Mod, 54, t_Mod, cp_Mod.1, by decide, cp_Mod.2.1, cp_Mod.2.2.1, cp_Mod.2.2.2, rfl, rfl, cp_Mod.2.2.1 36 (by decide), Or.inl kw_3_178, fun _ => ⟨kw_3_178, rfl⟩⟩
theorem kw_3_179 : (Jvm.Cond.fieldLink "TapTerminalModel" (85 : Nat) "TapTerminalModel" "reply" "[I") ∈ am_kw := am_in3 (List.mem_of_getElem? (i := 179) rfl) rfl
theorem fp_9_85 : am_fP 9 85 (9, 37, (.array .int), true) := ⟨"TapTerminalModel", F_Mod, 54, t_Mod, cp_Mod.1, by decide, cp_Mod.2.1, cp_Mod.2.2.1, cp_Mod.2.2.2, rfl, rfl, cp_Mod.2.2.1 37 (by decide), Or.inl kw_3_179, fun _ => ⟨kw_3_179, rfl⟩⟩
theorem kw_3_180 : (Jvm.Cond.fieldLink "TapTerminalModel" (88 : Nat) "TapTerminalModel" "got" "[I") ∈ am_kw := am_in3 (List.mem_of_getElem? (i := 180) rfl) rfl
theorem fp_9_88 : am_fP 9 88 (9, 38, (.array .int), true) := ⟨"TapTerminalModel", F_Mod, 54, t_Mod, cp_Mod.1, by decide, cp_Mod.2.1, cp_Mod.2.2.1, cp_Mod.2.2.2, rfl, rfl, cp_Mod.2.2.1 38 (by decide), Or.inl kw_3_180, fun _ => ⟨kw_3_180, rfl⟩⟩
theorem kw_3_181 : (Jvm.Cond.fieldLink "TapTerminalModel" (187 : Nat) "TapTerminalModel" "rowLength" "I") ∈ am_kw := am_in3 (List.mem_of_getElem? (i := 181) rfl) rfl
theorem fp_9_187 : am_fP 9 187 (9, 39, .int, false) := ⟨"TapTerminalModel", F_Mod, 54, t_Mod, cp_Mod.1, by decide, cp_Mod.2.1, cp_Mod.2.2.1, cp_Mod.2.2.2, rfl, rfl, cp_Mod.2.2.1 39 (by decide), Or.inl kw_3_181, fun _ => ⟨kw_3_181, rfl⟩⟩
theorem kw_3_182 : (Jvm.Cond.fieldLink "TapTerminalModel" (162 : Nat) "TapTerminalModel" "cameLength" "I") ∈ am_kw := am_in3 (List.mem_of_getElem? (i := 182) rfl) rfl
theorem fp_9_162 : am_fP 9 162 (9, 40, .int, false) := ⟨"TapTerminalModel", F_Mod, 54, t_Mod, cp_Mod.1, by decide, cp_Mod.2.1, cp_Mod.2.2.1, cp_Mod.2.2.2, rfl, rfl, cp_Mod.2.2.1 40 (by decide), Or.inl kw_3_182, fun _ => ⟨kw_3_182, rfl⟩⟩
theorem kw_3_183 : (Jvm.Cond.fieldLink "TapTerminalModel" (140 : Nat) "TapTerminalModel" "replyLength" "I") ∈ am_kw := am_in3 (List.mem_of_getElem? (i := 183) rfl) rfl
theorem fp_9_140 : am_fP 9 140 (9, 41, .int, false) := ⟨"TapTerminalModel", F_Mod, 54, t_Mod, cp_Mod.1, by decide, cp_Mod.2.1, cp_Mod.2.2.1, cp_Mod.2.2.2, rfl, rfl, cp_Mod.2.2.1 41 (by decide), Or.inl kw_3_183, fun _ => ⟨kw_3_183, rfl⟩⟩
theorem kw_3_184 : (Jvm.Cond.fieldLink "TapTerminalModel" (184 : Nat) "TapTerminalModel" "gotLength" "I") ∈ am_kw := am_in3 (List.mem_of_getElem? (i := 184) rfl) rfl
theorem fp_9_184 : am_fP 9 184 (9, 42, .int, false) := ⟨"TapTerminalModel", F_Mod, 54, t_Mod, cp_Mod.1, by decide, cp_Mod.2.1, cp_Mod.2.2.1, cp_Mod.2.2.2, rfl, rfl, cp_Mod.2.2.1 42 (by decide), Or.inl kw_3_184, fun _ => ⟨kw_3_184, rfl⟩⟩
theorem kw_3_185 : (Jvm.Cond.fieldLink "TapTerminalModel" (193 : Nat) "TapTerminalModel" "number" "I") ∈ am_kw := am_in3 (List.mem_of_getElem? (i := 185) rfl) rfl
theorem fp_9_193 : am_fP 9 193 (9, 43, .int, false) := ⟨"TapTerminalModel", F_Mod, 54, t_Mod, cp_Mod.1, by decide, cp_Mod.2.1, cp_Mod.2.2.1, cp_Mod.2.2.2, rfl, rfl, cp_Mod.2.2.1 43 (by decide), Or.inl kw_3_185, fun _ => ⟨kw_3_185, rfl⟩⟩
theorem kw_3_186 : (Jvm.Cond.fieldLink "TapTerminalModel" (149 : Nat) "TapTerminalModel" "own" "I") ∈ am_kw := am_in3 (List.mem_of_getElem? (i := 186) rfl) rfl
theorem fp_9_149 : am_fP 9 149 (9, 44, .int, false) := ⟨"TapTerminalModel", F_Mod, 54, t_Mod, cp_Mod.1, by decide, cp_Mod.2.1, cp_Mod.2.2.1, cp_Mod.2.2.2, rfl, rfl, cp_Mod.2.2.1 44 (by decide), Or.inl kw_3_186, fun _ => ⟨kw_3_186, rfl⟩⟩
theorem kw_3_187 : (Jvm.Cond.fieldLink "TapTerminalModel" (143 : Nat) "TapTerminalModel" "from" "I") ∈ am_kw := am_in3 (List.mem_of_getElem? (i := 187) rfl) rfl
theorem fp_9_143 : am_fP 9 143 (9, 45, .int, false) := ⟨"TapTerminalModel", F_Mod, 54, t_Mod, cp_Mod.1, by decide, cp_Mod.2.1, cp_Mod.2.2.1, cp_Mod.2.2.2, rfl, rfl, cp_Mod.2.2.1 45 (by decide), Or.inl kw_3_187, fun _ => ⟨kw_3_187, rfl⟩⟩
theorem kw_3_188 : (Jvm.Cond.fieldLink "TapTerminalModel" (155 : Nat) "TapTerminalModel" "last" "I") ∈ am_kw := am_in3 (List.mem_of_getElem? (i := 188) rfl) rfl
theorem fp_9_155 : am_fP 9 155 (9, 46, .int, false) := ⟨"TapTerminalModel", F_Mod, 54, t_Mod, cp_Mod.1, by decide, cp_Mod.2.1, cp_Mod.2.2.1, cp_Mod.2.2.2, rfl, rfl, cp_Mod.2.2.1 46 (by decide), Or.inl kw_3_188, fun _ => ⟨kw_3_188, rfl⟩⟩
theorem kw_3_189 : (Jvm.Cond.fieldLink "TapTerminalModel" (146 : Nat) "TapTerminalModel" "chosenNow" "I") ∈ am_kw := am_in3 (List.mem_of_getElem? (i := 189) rfl) rfl
theorem fp_9_146 : am_fP 9 146 (9, 47, .int, false) := ⟨"TapTerminalModel", F_Mod, 54, t_Mod, cp_Mod.1, by decide, cp_Mod.2.1, cp_Mod.2.2.1, cp_Mod.2.2.2, rfl, rfl, cp_Mod.2.2.1 47 (by decide), Or.inl kw_3_189, fun _ => ⟨kw_3_189, rfl⟩⟩
theorem kw_3_190 : (Jvm.Cond.fieldLink "TapTerminalModel" (152 : Nat) "TapTerminalModel" "saidAck" "Z") ∈ am_kw := am_in3 (List.mem_of_getElem? (i := 190) rfl) rfl
theorem fp_9_152 : am_fP 9 152 (9, 48, .boolean, false) := ⟨"TapTerminalModel", F_Mod, 54, t_Mod, cp_Mod.1, by decide, cp_Mod.2.1, cp_Mod.2.2.1, cp_Mod.2.2.2, rfl, rfl, cp_Mod.2.2.1 48 (by decide), Or.inl kw_3_190, fun _ => ⟨kw_3_190, rfl⟩⟩
theorem kw_3_191 : (Jvm.Cond.fieldLink "TapTerminalModel" (91 : Nat) "TapTerminalModel" "read" "[I") ∈ am_kw := am_in3 (List.mem_of_getElem? (i := 191) rfl) rfl
theorem fp_9_91 : am_fP 9 91 (9, 49, (.array .int), true) := ⟨"TapTerminalModel", F_Mod, 54, t_Mod, cp_Mod.1, by decide, cp_Mod.2.1, cp_Mod.2.2.1, cp_Mod.2.2.2, rfl, rfl, cp_Mod.2.2.1 49 (by decide), Or.inl kw_3_191, fun _ => ⟨kw_3_191, rfl⟩⟩
theorem kw_3_192 : (Jvm.Cond.fieldLink "TapTerminalModel" (94 : Nat) "TapTerminalModel" "readLength" "[I") ∈ am_kw := am_in3 (List.mem_of_getElem? (i := 192) rfl) rfl
theorem fp_9_94 : am_fP 9 94 (9, 50, (.array .int), true) := ⟨"TapTerminalModel", F_Mod, 54, t_Mod, cp_Mod.1, by decide, cp_Mod.2.1, cp_Mod.2.2.1, cp_Mod.2.2.2, rfl, rfl, cp_Mod.2.2.1 50 (by decide), Or.inl kw_3_192, fun _ => ⟨kw_3_192, rfl⟩⟩
theorem kw_3_193 : (Jvm.Cond.fieldLink "TapTerminalModel" (97 : Nat) "TapTerminalModel" "ends" "[I") ∈ am_kw := am_in3 (List.mem_of_getElem? (i := 193) rfl) rfl
theorem fp_9_97 : am_fP 9 97 (9, 51, (.array .int), true) := ⟨"TapTerminalModel", F_Mod, 54, t_Mod, cp_Mod.1, by decide, cp_Mod.2.1, cp_Mod.2.2.1, cp_Mod.2.2.2, rfl, rfl, cp_Mod.2.2.1 51 (by decide), Or.inl kw_3_193, fun _ => ⟨kw_3_193, rfl⟩⟩
theorem kw_3_194 : (Jvm.Cond.fieldLink "TapTerminalModel" (100 : Nat) "TapTerminalModel" "itemAt" "[I") ∈ am_kw := am_in3 (List.mem_of_getElem? (i := 194) rfl) rfl
theorem fp_9_100 : am_fP 9 100 (9, 52, (.array .int), true) := ⟨"TapTerminalModel", F_Mod, 54, t_Mod, cp_Mod.1, by decide, cp_Mod.2.1, cp_Mod.2.2.1, cp_Mod.2.2.2, rfl, rfl, cp_Mod.2.2.1 52 (by decide), Or.inl kw_3_194, fun _ => ⟨kw_3_194, rfl⟩⟩
theorem kw_3_195 : (Jvm.Cond.fieldLink "TapTerminalModel" (103 : Nat) "TapTerminalModel" "itemLength" "[I") ∈ am_kw := am_in3 (List.mem_of_getElem? (i := 195) rfl) rfl
theorem fp_9_103 : am_fP 9 103 (9, 53, (.array .int), true) := ⟨"TapTerminalModel", F_Mod, 54, t_Mod, cp_Mod.1, by decide, cp_Mod.2.1, cp_Mod.2.2.1, cp_Mod.2.2.2, rfl, rfl, cp_Mod.2.2.1 53 (by decide), Or.inl kw_3_195, fun _ => ⟨kw_3_195, rfl⟩⟩
def fls_9 : List (Nat × Nat × Nat × FieldType × Bool) := [(7, 9, 0, (.array .boolean), true), (13, 9, 1, (.array .boolean), true), (16, 9, 2, (.array .boolean), true), (19, 9, 3, (.array .int), true), (23, 9, 4, (.array .int), true), (26, 9, 5, (.array .int), true), (29, 9, 6, (.array .int), true), (32, 9, 7, (.array .int), true), (35, 9, 8, (.array .int), true), (38, 9, 9, (.array .int), true), (41, 9, 10, (.array .int), true), (44, 9, 11, (.array .int), true), (47, 9, 12, (.array .int), true), (50, 9, 13, (.array .int), true), (116, 9, 14, .int, false), (119, 9, 15, .int, false), (122, 9, 16, .int, false), (125, 9, 17, .int, false), (128, 9, 18, .int, false), (53, 9, 19, .boolean, false), (57, 9, 20, (.array .int), true), (60, 9, 21, (.array .int), true), (63, 9, 22, (.array .int), true), (66, 9, 23, (.array .boolean), true), (69, 9, 24, .int, false), (73, 9, 25, .int, false), (204, 9, 26, .int, false), (76, 9, 27, .int, false), (207, 9, 28, .int, false), (210, 9, 29, .int, false), (131, 9, 30, .int, false), (137, 9, 31, .int, false), (134, 9, 32, .int, false), (213, 9, 33, .int, false), (216, 9, 34, .int, false), (79, 9, 35, (.array .int), true), (82, 9, 36, (.array .int), true), (85, 9, 37, (.array .int), true), (88, 9, 38, (.array .int), true), (187, 9, 39, .int, false), (162, 9, 40, .int, false), (140, 9, 41, .int, false), (184, 9, 42, .int, false), (193, 9, 43, .int, false), (149, 9, 44, .int, false), (143, 9, 45, .int, false), (155, 9, 46, .int, false), (146, 9, 47, .int, false), (152, 9, 48, .boolean, false), (91, 9, 49, (.array .int), true), (94, 9, 50, (.array .int), true), (97, 9, 51, (.array .int), true), (100, 9, 52, (.array .int), true), (103, 9, 53, (.array .int), true)]
set_option maxRecDepth 20000 in
theorem fls_9_ok : ∀ e ∈ fls_9, am_fP 9 e.1 e.2 := List.forall_mem_cons.mpr ⟨fp_9_7, List.forall_mem_cons.mpr ⟨fp_9_13, List.forall_mem_cons.mpr ⟨fp_9_16, List.forall_mem_cons.mpr ⟨fp_9_19, List.forall_mem_cons.mpr ⟨fp_9_23, List.forall_mem_cons.mpr ⟨fp_9_26, List.forall_mem_cons.mpr ⟨fp_9_29, List.forall_mem_cons.mpr ⟨fp_9_32, List.forall_mem_cons.mpr ⟨fp_9_35, List.forall_mem_cons.mpr ⟨fp_9_38, List.forall_mem_cons.mpr ⟨fp_9_41, List.forall_mem_cons.mpr ⟨fp_9_44, List.forall_mem_cons.mpr ⟨fp_9_47, List.forall_mem_cons.mpr ⟨fp_9_50, List.forall_mem_cons.mpr ⟨fp_9_116, List.forall_mem_cons.mpr ⟨fp_9_119, List.forall_mem_cons.mpr ⟨fp_9_122, List.forall_mem_cons.mpr ⟨fp_9_125, List.forall_mem_cons.mpr ⟨fp_9_128, List.forall_mem_cons.mpr ⟨fp_9_53, List.forall_mem_cons.mpr ⟨fp_9_57, List.forall_mem_cons.mpr ⟨fp_9_60, List.forall_mem_cons.mpr ⟨fp_9_63, List.forall_mem_cons.mpr ⟨fp_9_66, List.forall_mem_cons.mpr ⟨fp_9_69, List.forall_mem_cons.mpr ⟨fp_9_73, List.forall_mem_cons.mpr ⟨fp_9_204, List.forall_mem_cons.mpr ⟨fp_9_76, List.forall_mem_cons.mpr ⟨fp_9_207, List.forall_mem_cons.mpr ⟨fp_9_210, List.forall_mem_cons.mpr ⟨fp_9_131, List.forall_mem_cons.mpr ⟨fp_9_137, List.forall_mem_cons.mpr ⟨fp_9_134, List.forall_mem_cons.mpr ⟨fp_9_213, List.forall_mem_cons.mpr ⟨fp_9_216, List.forall_mem_cons.mpr ⟨fp_9_79, List.forall_mem_cons.mpr ⟨fp_9_82, List.forall_mem_cons.mpr ⟨fp_9_85, List.forall_mem_cons.mpr ⟨fp_9_88, List.forall_mem_cons.mpr ⟨fp_9_187, List.forall_mem_cons.mpr ⟨fp_9_162, List.forall_mem_cons.mpr ⟨fp_9_140, List.forall_mem_cons.mpr ⟨fp_9_184, List.forall_mem_cons.mpr ⟨fp_9_193, List.forall_mem_cons.mpr ⟨fp_9_149, List.forall_mem_cons.mpr ⟨fp_9_143, List.forall_mem_cons.mpr ⟨fp_9_155, List.forall_mem_cons.mpr ⟨fp_9_146, List.forall_mem_cons.mpr ⟨fp_9_152, List.forall_mem_cons.mpr ⟨fp_9_91, List.forall_mem_cons.mpr ⟨fp_9_94, List.forall_mem_cons.mpr ⟨fp_9_97, List.forall_mem_cons.mpr ⟨fp_9_100, List.forall_mem_cons.mpr ⟨fp_9_103, fun _ h => absurd h List.not_mem_nil⟩⟩⟩⟩⟩⟩⟩⟩⟩⟩⟩⟩⟩⟩⟩⟩⟩⟩⟩⟩⟩⟩⟩⟩⟩⟩⟩⟩⟩⟩⟩⟩⟩⟩⟩⟩⟩⟩⟩⟩⟩⟩⟩⟩⟩⟩⟩⟩⟩⟩⟩⟩⟩⟩
def am_lk {α : Type} (l : List (Nat × α)) (k : Nat) : Option α := match l with
  | [] => none
  | e :: r => if e.1 = k then some e.2 else am_lk r k
theorem am_lk_mem {α : Type} {l : List (Nat × α)} {k : Nat} {v : α} (h : am_lk l k = some v) : (k, v) ∈ l := by
  induction l with
  | nil => cases h
  | cons e r ih =>
    unfold am_lk at h
    split at h
    · rename_i he; cases h; rw [← he]; exact List.mem_cons_self
    · exact List.mem_cons_of_mem _ (ih h)
def am_flt (oc : Nat) : List (Nat × Nat × Nat × FieldType × Bool) := match oc with
  | 0 => fls_0
  | 1 => fls_1
  | 2 => fls_2
  | 3 => fls_3
  | 4 => fls_4
  | 5 => fls_5
  | 6 => fls_6
  | 7 => fls_7
  | 8 => fls_8
  | 9 => fls_9
  | _ => []
def am_fl (oc idx : Nat) : Option (Nat × Nat × FieldType × Bool) := am_lk (am_flt oc) idx
theorem am_fl_ok (oc idx : Nat) (f : Nat × Nat × FieldType × Bool) (h : am_fl oc idx = some f) : am_fP oc idx f := by
  have hm := am_lk_mem h
  match oc, hm with
  | 0, hm => exact fls_0_ok _ hm
  | 1, hm => exact fls_1_ok _ hm
  | 2, hm => exact fls_2_ok _ hm
  | 3, hm => exact fls_3_ok _ hm
  | 4, hm => exact fls_4_ok _ hm
  | 5, hm => exact fls_5_ok _ hm
  | 6, hm => exact fls_6_ok _ hm
  | 7, hm => exact fls_7_ok _ hm
  | 8, hm => exact fls_8_ok _ hm
  | 9, hm => exact fls_9_ok _ hm
  | n + 10, hm => cases hm
def am_mP (oc idx : Nat) (f : Nat × Nat × Nat) : Prop := (f.2.1 < 6 → ∃ q : am_M, am_ms[f.1]? = some q ∧ (parseMethodDescriptor q.1.desc).map (fun d => d.parameters.length) = some f.2.2 ∧ (f.2.1 = 0 → Jvm.Cond.methodLink (am_cn oc) idx q.1 ∈ am_kw ∧ Jvm.Cond.instanceMethod q.1 ∈ am_kw ∧ Jvm.Cond.selects q.1.cls q.1 q.1 ∈ am_kw) ∧ (f.2.1 = 1 → (∃ host, Jvm.Cond.methodLinkNest (am_cn oc) idx q.1 host ∈ am_nest) ∧ Jvm.Cond.instanceMethod q.1 ∈ am_kw ∧ Jvm.Cond.selects q.1.cls q.1 q.1 ∈ am_kw) ∧ (f.2.1 = 2 → Jvm.Cond.methodLink (am_cn oc) idx q.1 ∈ am_kw ∧ Jvm.Cond.static q.1 ∈ am_kw) ∧ (f.2.1 = 3 → (∃ host, Jvm.Cond.methodLinkNest (am_cn oc) idx q.1 host ∈ am_nest) ∧ Jvm.Cond.static q.1 ∈ am_kw) ∧ (f.2.1 = 4 → Jvm.Cond.methodLink (am_cn oc) idx q.1 ∈ am_kw ∧ q.1.name = "<init>" ∧ Jvm.Cond.instanceMethod q.1 ∈ am_kw ∧ q.2.2.2.1 = none) ∧ (f.2.1 = 5 → (∃ host, Jvm.Cond.methodLinkNest (am_cn oc) idx q.1 host ∈ am_nest) ∧ q.1.name = "<init>" ∧ Jvm.Cond.instanceMethod q.1 ∈ am_kw ∧ q.2.2.2.1 = none)) ∧ (f.2.1 = 6 → Jvm.Cond.methodLink (am_cn oc) idx objectInit ∈ am_kw) ∧ (f.2.1 = 7 → Jvm.Cond.methodLink (am_cn oc) idx Lib.Math.min.name ∈ am_kw)
theorem am_m0 {oc idx y n : Nat} (q : am_M) (h1 : am_ms[y]? = some q) (h2 : (parseMethodDescriptor q.1.desc).map (fun d => d.parameters.length) = some n) (a : Jvm.Cond.methodLink (am_cn oc) idx q.1 ∈ am_kw) (b : Jvm.Cond.instanceMethod q.1 ∈ am_kw) (c : Jvm.Cond.selects q.1.cls q.1 q.1 ∈ am_kw) : am_mP oc idx (y, 0, n) := ⟨fun _ => ⟨q, h1, h2, fun _ => ⟨a, b, c⟩, fun h => by simp at h, fun h => by simp at h, fun h => by simp at h, fun h => by simp at h, fun h => by simp at h⟩, fun h => by simp at h, fun h => by simp at h⟩
theorem am_m2 {oc idx y n : Nat} (q : am_M) (h1 : am_ms[y]? = some q) (h2 : (parseMethodDescriptor q.1.desc).map (fun d => d.parameters.length) = some n) (a : Jvm.Cond.methodLink (am_cn oc) idx q.1 ∈ am_kw) (b : Jvm.Cond.static q.1 ∈ am_kw) : am_mP oc idx (y, 2, n) := ⟨fun _ => ⟨q, h1, h2, fun h => by simp at h, fun h => by simp at h, fun _ => ⟨a, b⟩, fun h => by simp at h, fun h => by simp at h, fun h => by simp at h⟩, fun h => by simp at h, fun h => by simp at h⟩
theorem am_m3 {oc idx y n : Nat} (q : am_M) (h1 : am_ms[y]? = some q) (h2 : (parseMethodDescriptor q.1.desc).map (fun d => d.parameters.length) = some n) (host : String) (a : Jvm.Cond.methodLinkNest (am_cn oc) idx q.1 host ∈ am_nest) (b : Jvm.Cond.static q.1 ∈ am_kw) : am_mP oc idx (y, 3, n) := ⟨fun _ => ⟨q, h1, h2, fun h => by simp at h, fun h => by simp at h, fun h => by simp at h, fun _ => ⟨⟨host, a⟩, b⟩, fun h => by simp at h, fun h => by simp at h⟩, fun h => by simp at h, fun h => by simp at h⟩
theorem am_m4 {oc idx y n : Nat} (q : am_M) (h1 : am_ms[y]? = some q) (h2 : (parseMethodDescriptor q.1.desc).map (fun d => d.parameters.length) = some n) (a : Jvm.Cond.methodLink (am_cn oc) idx q.1 ∈ am_kw) (b : q.1.name = "<init>") (c : Jvm.Cond.instanceMethod q.1 ∈ am_kw) (e : q.2.2.2.1 = none) : am_mP oc idx (y, 4, n) := ⟨fun _ => ⟨q, h1, h2, fun h => by simp at h, fun h => by simp at h, fun h => by simp at h, fun h => by simp at h, fun _ => ⟨a, b, c, e⟩, fun h => by simp at h⟩, fun h => by simp at h, fun h => by simp at h⟩
theorem am_m6 {oc idx y n : Nat} (a : Jvm.Cond.methodLink (am_cn oc) idx objectInit ∈ am_kw) : am_mP oc idx (y, 6, n) := ⟨fun h => by simp at h, fun _ => a, fun h => by simp at h⟩
theorem am_m7 {oc idx y n : Nat} (a : Jvm.Cond.methodLink (am_cn oc) idx Lib.Math.min.name ∈ am_kw) : am_mP oc idx (y, 7, n) := ⟨fun h => by simp at h, fun h => by simp at h, fun _ => a⟩
theorem kw_1_17 : (Jvm.Cond.methodLink "TapTerminal" (1 : Nat) ({ cls := "java/lang/Object", name := "<init>", desc := "()V" } : Jvm.MethodName)) ∈ am_kw := am_in1 (List.mem_of_getElem? (i := 17) rfl) rfl
theorem mp_8_1 : am_mP 8 1 (0, 6, 0) := am_m6 kw_1_17
theorem kw_1_22 : (Jvm.Cond.methodLink "TapTerminal" (9 : Nat) ({ cls := "TapTerminal$Air", name := "<init>", desc := "()V" } : Jvm.MethodName)) ∈ am_kw := am_in1 (List.mem_of_getElem? (i := 22) rfl) rfl
theorem kw_1_23 : (Jvm.Cond.instanceMethod ({ cls := "TapTerminal$Air", name := "<init>", desc := "()V" } : Jvm.MethodName)) ∈ am_kw := am_in1 (List.mem_of_getElem? (i := 23) rfl) rfl
theorem mp_8_9 : am_mP 8 9 (26, 4, 0) := am_m4 q_Air_init rfl (by decide +kernel) kw_1_22 rfl kw_1_23 rfl
theorem kw_1_25 : (Jvm.Cond.methodLink "TapTerminal$Air" (3 : Nat) ({ cls := "java/lang/Object", name := "<init>", desc := "()V" } : Jvm.MethodName)) ∈ am_kw := am_in1 (List.mem_of_getElem? (i := 25) rfl) rfl
theorem mp_4_3 : am_mP 4 3 (0, 6, 0) := am_m6 kw_1_25
theorem kw_1_29 : (Jvm.Cond.methodLink "TapTerminal$Air" (17 : Nat) ({ cls := "TapTerminal$Card", name := "<init>", desc := "()V" } : Jvm.MethodName)) ∈ am_kw := am_in1 (List.mem_of_getElem? (i := 29) rfl) rfl
theorem kw_1_30 : (Jvm.Cond.instanceMethod ({ cls := "TapTerminal$Card", name := "<init>", desc := "()V" } : Jvm.MethodName)) ∈ am_kw := am_in1 (List.mem_of_getElem? (i := 30) rfl) rfl
theorem mp_4_17 : am_mP 4 17 (12, 4, 0) := am_m4 q_Card_init rfl (by decide +kernel) kw_1_29 rfl kw_1_30 rfl
theorem kw_1_32 : (Jvm.Cond.methodLink "TapTerminal$Card" (3 : Nat) ({ cls := "java/lang/Object", name := "<init>", desc := "()V" } : Jvm.MethodName)) ∈ am_kw := am_in1 (List.mem_of_getElem? (i := 32) rfl) rfl
theorem mp_2_3 : am_mP 2 3 (0, 6, 0) := am_m6 kw_1_32
theorem kw_1_36 : (Jvm.Cond.methodLink "TapTerminal$Card" (17 : Nat) ({ cls := "TapTerminal$Row", name := "<init>", desc := "(I)V" } : Jvm.MethodName)) ∈ am_kw := am_in1 (List.mem_of_getElem? (i := 36) rfl) rfl
theorem kw_1_37 : (Jvm.Cond.instanceMethod ({ cls := "TapTerminal$Row", name := "<init>", desc := "(I)V" } : Jvm.MethodName)) ∈ am_kw := am_in1 (List.mem_of_getElem? (i := 37) rfl) rfl
theorem mp_2_17 : am_mP 2 17 (0, 4, 1) := am_m4 q_Row_init rfl (by decide +kernel) kw_1_36 rfl kw_1_37 rfl
theorem kw_1_39 : (Jvm.Cond.methodLink "TapTerminal$Row" (1 : Nat) ({ cls := "java/lang/Object", name := "<init>", desc := "()V" } : Jvm.MethodName)) ∈ am_kw := am_in1 (List.mem_of_getElem? (i := 39) rfl) rfl
theorem mp_0_1 : am_mP 0 1 (0, 6, 0) := am_m6 kw_1_39
theorem kw_1_56 : (Jvm.Cond.methodLink "TapTerminal$Card" (22 : Nat) ({ cls := "TapTerminal$Block", name := "<init>", desc := "()V" } : Jvm.MethodName)) ∈ am_kw := am_in1 (List.mem_of_getElem? (i := 56) rfl) rfl
theorem kw_1_57 : (Jvm.Cond.instanceMethod ({ cls := "TapTerminal$Block", name := "<init>", desc := "()V" } : Jvm.MethodName)) ∈ am_kw := am_in1 (List.mem_of_getElem? (i := 57) rfl) rfl
theorem mp_2_22 : am_mP 2 22 (9, 4, 0) := am_m4 q_Block_init rfl (by decide +kernel) kw_1_56 rfl kw_1_57 rfl
theorem kw_1_59 : (Jvm.Cond.methodLink "TapTerminal$Block" (3 : Nat) ({ cls := "java/lang/Object", name := "<init>", desc := "()V" } : Jvm.MethodName)) ∈ am_kw := am_in1 (List.mem_of_getElem? (i := 59) rfl) rfl
theorem mp_1_3 : am_mP 1 3 (0, 6, 0) := am_m6 kw_1_59
theorem kw_1_61 : (Jvm.Cond.methodLink "TapTerminal$Block" (11 : Nat) ({ cls := "TapTerminal$Row", name := "<init>", desc := "(I)V" } : Jvm.MethodName)) ∈ am_kw := am_in1 (List.mem_of_getElem? (i := 61) rfl) rfl
theorem mp_1_11 : am_mP 1 11 (0, 4, 1) := am_m4 q_Row_init rfl (by decide +kernel) kw_1_61 rfl kw_1_37 rfl
theorem kw_1_154 : (Jvm.Cond.methodLink "TapTerminal$Air" (20 : Nat) ({ cls := "TapTerminal$Journal", name := "<init>", desc := "()V" } : Jvm.MethodName)) ∈ am_kw := am_in1 (List.mem_of_getElem? (i := 154) rfl) rfl
theorem kw_1_155 : (Jvm.Cond.instanceMethod ({ cls := "TapTerminal$Journal", name := "<init>", desc := "()V" } : Jvm.MethodName)) ∈ am_kw := am_in1 (List.mem_of_getElem? (i := 155) rfl) rfl
theorem mp_4_20 : am_mP 4 20 (22, 4, 0) := am_m4 q_Journal_init rfl (by decide +kernel) kw_1_154 rfl kw_1_155 rfl
theorem kw_1_157 : (Jvm.Cond.methodLink "TapTerminal$Journal" (3 : Nat) ({ cls := "java/lang/Object", name := "<init>", desc := "()V" } : Jvm.MethodName)) ∈ am_kw := am_in1 (List.mem_of_getElem? (i := 157) rfl) rfl
theorem mp_3_3 : am_mP 3 3 (0, 6, 0) := am_m6 kw_1_157
theorem kw_1_185 : (Jvm.Cond.methodLink "TapTerminal$Air" (27 : Nat) ({ cls := "TapTerminal$Block", name := "<init>", desc := "()V" } : Jvm.MethodName)) ∈ am_kw := am_in1 (List.mem_of_getElem? (i := 185) rfl) rfl
theorem mp_4_27 : am_mP 4 27 (9, 4, 0) := am_m4 q_Block_init rfl (by decide +kernel) kw_1_185 rfl kw_1_57 rfl
theorem kw_1_210 : (Jvm.Cond.methodLink "TapTerminal" (18 : Nat) ({ cls := "TapTerminal$Settings", name := "<init>", desc := "()V" } : Jvm.MethodName)) ∈ am_kw := am_in1 (List.mem_of_getElem? (i := 210) rfl) rfl
theorem kw_1_211 : (Jvm.Cond.instanceMethod ({ cls := "TapTerminal$Settings", name := "<init>", desc := "()V" } : Jvm.MethodName)) ∈ am_kw := am_in1 (List.mem_of_getElem? (i := 211) rfl) rfl
theorem mp_8_18 : am_mP 8 18 (44, 4, 0) := am_m4 q_Settings_init rfl (by decide +kernel) kw_1_210 rfl kw_1_211 rfl
theorem kw_1_213 : (Jvm.Cond.methodLink "TapTerminal$Settings" (3 : Nat) ({ cls := "java/lang/Object", name := "<init>", desc := "()V" } : Jvm.MethodName)) ∈ am_kw := am_in1 (List.mem_of_getElem? (i := 213) rfl) rfl
theorem mp_6_3 : am_mP 6 3 (0, 6, 0) := am_m6 kw_1_213
theorem kw_2_1 : (Jvm.Cond.methodLink "TapTerminal" (25 : Nat) ({ cls := "TapTerminal$Items", name := "<init>", desc := "()V" } : Jvm.MethodName)) ∈ am_kw := am_in2 (List.mem_of_getElem? (i := 1) rfl) rfl
theorem kw_2_2 : (Jvm.Cond.instanceMethod ({ cls := "TapTerminal$Items", name := "<init>", desc := "()V" } : Jvm.MethodName)) ∈ am_kw := am_in2 (List.mem_of_getElem? (i := 2) rfl) rfl
theorem mp_8_25 : am_mP 8 25 (38, 4, 0) := am_m4 q_Items_init rfl (by decide +kernel) kw_2_1 rfl kw_2_2 rfl
theorem kw_2_4 : (Jvm.Cond.methodLink "TapTerminal$Items" (3 : Nat) ({ cls := "java/lang/Object", name := "<init>", desc := "()V" } : Jvm.MethodName)) ∈ am_kw := am_in2 (List.mem_of_getElem? (i := 4) rfl) rfl
theorem mp_5_3 : am_mP 5 3 (0, 6, 0) := am_m6 kw_2_4
theorem kw_2_6 : (Jvm.Cond.methodLink "TapTerminal$Items" (17 : Nat) ({ cls := "TapTerminal$Row", name := "<init>", desc := "(I)V" } : Jvm.MethodName)) ∈ am_kw := am_in2 (List.mem_of_getElem? (i := 6) rfl) rfl
theorem mp_5_17 : am_mP 5 17 (0, 4, 1) := am_m4 q_Row_init rfl (by decide +kernel) kw_2_6 rfl kw_1_37 rfl
theorem kw_2_27 : (Jvm.Cond.methodLink "TapTerminal" (32 : Nat) ({ cls := "TapTerminal$Report", name := "<init>", desc := "()V" } : Jvm.MethodName)) ∈ am_kw := am_in2 (List.mem_of_getElem? (i := 27) rfl) rfl
theorem kw_2_28 : (Jvm.Cond.instanceMethod ({ cls := "TapTerminal$Report", name := "<init>", desc := "()V" } : Jvm.MethodName)) ∈ am_kw := am_in2 (List.mem_of_getElem? (i := 28) rfl) rfl
theorem mp_8_32 : am_mP 8 32 (52, 4, 0) := am_m4 q_Report_init rfl (by decide +kernel) kw_2_27 rfl kw_2_28 rfl
theorem kw_2_30 : (Jvm.Cond.methodLink "TapTerminal$Report" (3 : Nat) ({ cls := "java/lang/Object", name := "<init>", desc := "()V" } : Jvm.MethodName)) ∈ am_kw := am_in2 (List.mem_of_getElem? (i := 30) rfl) rfl
theorem mp_7_3 : am_mP 7 3 (0, 6, 0) := am_m6 kw_2_30
theorem kw_2_31 : (Jvm.Cond.methodLink "TapTerminal$Report" (9 : Nat) ({ cls := "TapTerminal$Report", name := "clear", desc := "()V" } : Jvm.MethodName)) ∈ am_kw := am_in2 (List.mem_of_getElem? (i := 31) rfl) rfl
theorem kw_2_32 : (Jvm.Cond.instanceMethod ({ cls := "TapTerminal$Report", name := "clear", desc := "()V" } : Jvm.MethodName)) ∈ am_kw := am_in2 (List.mem_of_getElem? (i := 32) rfl) rfl
theorem kw_2_33 : (Jvm.Cond.selects "TapTerminal$Report" ({ cls := "TapTerminal$Report", name := "clear", desc := "()V" } : Jvm.MethodName) ({ cls := "TapTerminal$Report", name := "clear", desc := "()V" } : Jvm.MethodName)) ∈ am_kw := am_in2 (List.mem_of_getElem? (i := 33) rfl) rfl
theorem mp_7_9 : am_mP 7 9 (53, 0, 0) := am_m0 q_Report_clear rfl (by decide +kernel) kw_2_31 kw_2_32 kw_2_33
theorem kw_2_69 : (Jvm.Cond.methodLink "TapTerminal" (39 : Nat) ({ cls := "TapTerminal$Row", name := "<init>", desc := "(I)V" } : Jvm.MethodName)) ∈ am_kw := am_in2 (List.mem_of_getElem? (i := 69) rfl) rfl
theorem mp_8_39 : am_mP 8 39 (0, 4, 1) := am_m4 q_Row_init rfl (by decide +kernel) kw_2_69 rfl kw_1_37 rfl
theorem kw_2_94 : (Jvm.Cond.static ({ cls := "TapTerminal", name := "isWithin", desc := "(II)Z" } : Jvm.MethodName)) ∈ am_kw := am_in2 (List.mem_of_getElem? (i := 94) rfl) rfl
theorem kw_2_93 : (Jvm.Cond.methodLink "TapTerminal" (49 : Nat) ({ cls := "TapTerminal", name := "isWithin", desc := "(II)Z" } : Jvm.MethodName)) ∈ am_kw := am_in2 (List.mem_of_getElem? (i := 93) rfl) rfl
theorem mp_8_49 : am_mP 8 49 (72, 2, 2) := am_m2 q_Tap_isWithin rfl (by decide +kernel) kw_2_93 kw_2_94
theorem kw_2_97 : (Jvm.Cond.static ({ cls := "TapTerminal", name := "isOctet", desc := "(I)Z" } : Jvm.MethodName)) ∈ am_kw := am_in2 (List.mem_of_getElem? (i := 97) rfl) rfl
theorem kw_2_96 : (Jvm.Cond.methodLink "TapTerminal" (53 : Nat) ({ cls := "TapTerminal", name := "isOctet", desc := "(I)Z" } : Jvm.MethodName)) ∈ am_kw := am_in2 (List.mem_of_getElem? (i := 96) rfl) rfl
theorem mp_8_53 : am_mP 8 53 (73, 2, 1) := am_m2 q_Tap_isOctet rfl (by decide +kernel) kw_2_96 kw_2_97
theorem kw_2_99 : (Jvm.Cond.methodLink "TapTerminal" (61 : Nat) ({ cls := "TapTerminal$Card", name := "renew", desc := "(IIII)V" } : Jvm.MethodName)) ∈ am_kw := am_in2 (List.mem_of_getElem? (i := 99) rfl) rfl
theorem kw_2_100 : (Jvm.Cond.instanceMethod ({ cls := "TapTerminal$Card", name := "renew", desc := "(IIII)V" } : Jvm.MethodName)) ∈ am_kw := am_in2 (List.mem_of_getElem? (i := 100) rfl) rfl
theorem kw_2_101 : (Jvm.Cond.selects "TapTerminal$Card" ({ cls := "TapTerminal$Card", name := "renew", desc := "(IIII)V" } : Jvm.MethodName) ({ cls := "TapTerminal$Card", name := "renew", desc := "(IIII)V" } : Jvm.MethodName)) ∈ am_kw := am_in2 (List.mem_of_getElem? (i := 101) rfl) rfl
theorem mp_8_61 : am_mP 8 61 (13, 0, 4) := am_m0 q_Card_renew rfl (by decide +kernel) kw_2_99 kw_2_100 kw_2_101
theorem kw_2_104 : (Jvm.Cond.methodLink "TapTerminal$Card" (72 : Nat) ({ cls := "TapTerminal$Row", name := "clear", desc := "()V" } : Jvm.MethodName)) ∈ am_kw := am_in2 (List.mem_of_getElem? (i := 104) rfl) rfl
theorem kw_2_105 : (Jvm.Cond.instanceMethod ({ cls := "TapTerminal$Row", name := "clear", desc := "()V" } : Jvm.MethodName)) ∈ am_kw := am_in2 (List.mem_of_getElem? (i := 105) rfl) rfl
theorem kw_2_106 : (Jvm.Cond.selects "TapTerminal$Row" ({ cls := "TapTerminal$Row", name := "clear", desc := "()V" } : Jvm.MethodName) ({ cls := "TapTerminal$Row", name := "clear", desc := "()V" } : Jvm.MethodName)) ∈ am_kw := am_in2 (List.mem_of_getElem? (i := 106) rfl) rfl
theorem mp_2_72 : am_mP 2 72 (1, 0, 0) := am_m0 q_Row_clear rfl (by decide +kernel) kw_2_104 kw_2_105 kw_2_106
theorem kw_2_112 : (Jvm.Cond.methodLink "TapTerminal" (67 : Nat) ({ cls := "TapTerminal", name := "isCard", desc := "(I)Z" } : Jvm.MethodName)) ∈ am_kw := am_in2 (List.mem_of_getElem? (i := 112) rfl) rfl
theorem kw_2_114 : (Jvm.Cond.instanceMethod ({ cls := "TapTerminal", name := "isCard", desc := "(I)Z" } : Jvm.MethodName)) ∈ am_kw := am_in2 (List.mem_of_getElem? (i := 114) rfl) rfl
theorem kw_0_0 : (Jvm.Cond.selects "TapTerminal" ({ cls := "TapTerminal", name := "isCard", desc := "(I)Z" } : Jvm.MethodName) ({ cls := "TapTerminal", name := "isCard", desc := "(I)Z" } : Jvm.MethodName)) ∈ am_kw := am_in0 (List.mem_of_getElem? (i := 0) rfl) rfl
theorem mp_8_67 : am_mP 8 67 (71, 0, 1) := am_m0 q_Tap_isCard rfl (by decide +kernel) kw_2_112 kw_2_114 kw_0_0
theorem kw_2_120 : (Jvm.Cond.methodLink "TapTerminal" (84 : Nat) ({ cls := "TapTerminal$Row", name := "add", desc := "(I)V" } : Jvm.MethodName)) ∈ am_kw := am_in2 (List.mem_of_getElem? (i := 120) rfl) rfl
theorem kw_2_121 : (Jvm.Cond.instanceMethod ({ cls := "TapTerminal$Row", name := "add", desc := "(I)V" } : Jvm.MethodName)) ∈ am_kw := am_in2 (List.mem_of_getElem? (i := 121) rfl) rfl
theorem kw_2_122 : (Jvm.Cond.selects "TapTerminal$Row" ({ cls := "TapTerminal$Row", name := "add", desc := "(I)V" } : Jvm.MethodName) ({ cls := "TapTerminal$Row", name := "add", desc := "(I)V" } : Jvm.MethodName)) ∈ am_kw := am_in2 (List.mem_of_getElem? (i := 122) rfl) rfl
theorem mp_8_84 : am_mP 8 84 (2, 0, 1) := am_m0 q_Row_add rfl (by decide +kernel) kw_2_120 kw_2_121 kw_2_122
theorem kw_2_128 : (Jvm.Cond.methodLink "TapTerminal" (87 : Nat) ({ cls := "TapTerminal$Air", name := "isAddressTaken", desc := "(I)Z" } : Jvm.MethodName)) ∈ am_kw := am_in2 (List.mem_of_getElem? (i := 128) rfl) rfl
theorem kw_2_129 : (Jvm.Cond.instanceMethod ({ cls := "TapTerminal$Air", name := "isAddressTaken", desc := "(I)Z" } : Jvm.MethodName)) ∈ am_kw := am_in2 (List.mem_of_getElem? (i := 129) rfl) rfl
theorem kw_2_130 : (Jvm.Cond.selects "TapTerminal$Air" ({ cls := "TapTerminal$Air", name := "isAddressTaken", desc := "(I)Z" } : Jvm.MethodName) ({ cls := "TapTerminal$Air", name := "isAddressTaken", desc := "(I)Z" } : Jvm.MethodName)) ∈ am_kw := am_in2 (List.mem_of_getElem? (i := 130) rfl) rfl
theorem mp_8_87 : am_mP 8 87 (27, 0, 1) := am_m0 q_Air_isAddressTaken rfl (by decide +kernel) kw_2_128 kw_2_129 kw_2_130
theorem kw_2_148 : (Jvm.Cond.methodLink "TapTerminal" (122 : Nat) ({ cls := "TapTerminal$Report", name := "clear", desc := "()V" } : Jvm.MethodName)) ∈ am_kw := am_in2 (List.mem_of_getElem? (i := 148) rfl) rfl
theorem mp_8_122 : am_mP 8 122 (53, 0, 0) := am_m0 q_Report_clear rfl (by decide +kernel) kw_2_148 kw_2_32 kw_2_33
theorem kw_2_149 : (Jvm.Cond.methodLink "TapTerminal" (125 : Nat) ({ cls := "TapTerminal$Air", name := "begin", desc := "()V" } : Jvm.MethodName)) ∈ am_kw := am_in2 (List.mem_of_getElem? (i := 149) rfl) rfl
theorem kw_2_150 : (Jvm.Cond.instanceMethod ({ cls := "TapTerminal$Air", name := "begin", desc := "()V" } : Jvm.MethodName)) ∈ am_kw := am_in2 (List.mem_of_getElem? (i := 150) rfl) rfl
theorem kw_2_151 : (Jvm.Cond.selects "TapTerminal$Air" ({ cls := "TapTerminal$Air", name := "begin", desc := "()V" } : Jvm.MethodName) ({ cls := "TapTerminal$Air", name := "begin", desc := "()V" } : Jvm.MethodName)) ∈ am_kw := am_in2 (List.mem_of_getElem? (i := 151) rfl) rfl
theorem mp_8_125 : am_mP 8 125 (28, 0, 0) := am_m0 q_Air_begin rfl (by decide +kernel) kw_2_149 kw_2_150 kw_2_151
theorem kw_2_153 : (Jvm.Cond.methodLink "TapTerminal$Air" (40 : Nat) ({ cls := "TapTerminal$Journal", name := "clear", desc := "()V" } : Jvm.MethodName)) ∈ am_kw := am_in2 (List.mem_of_getElem? (i := 153) rfl) rfl
theorem kw_2_154 : (Jvm.Cond.instanceMethod ({ cls := "TapTerminal$Journal", name := "clear", desc := "()V" } : Jvm.MethodName)) ∈ am_kw := am_in2 (List.mem_of_getElem? (i := 154) rfl) rfl
theorem kw_2_155 : (Jvm.Cond.selects "TapTerminal$Journal" ({ cls := "TapTerminal$Journal", name := "clear", desc := "()V" } : Jvm.MethodName) ({ cls := "TapTerminal$Journal", name := "clear", desc := "()V" } : Jvm.MethodName)) ∈ am_kw := am_in2 (List.mem_of_getElem? (i := 155) rfl) rfl
theorem mp_4_40 : am_mP 4 40 (23, 0, 0) := am_m0 q_Journal_clear rfl (by decide +kernel) kw_2_153 kw_2_154 kw_2_155
theorem kw_2_157 : (Jvm.Cond.methodLink "TapTerminal" (128 : Nat) ({ cls := "TapTerminal", name := "chooseCard", desc := "()I" } : Jvm.MethodName)) ∈ am_kw := am_in2 (List.mem_of_getElem? (i := 157) rfl) rfl
theorem kw_2_159 : (Jvm.Cond.instanceMethod ({ cls := "TapTerminal", name := "chooseCard", desc := "()I" } : Jvm.MethodName)) ∈ am_kw := am_in2 (List.mem_of_getElem? (i := 159) rfl) rfl
theorem kw_0_1 : (Jvm.Cond.selects "TapTerminal" ({ cls := "TapTerminal", name := "chooseCard", desc := "()I" } : Jvm.MethodName) ({ cls := "TapTerminal", name := "chooseCard", desc := "()I" } : Jvm.MethodName)) ∈ am_kw := am_in0 (List.mem_of_getElem? (i := 1) rfl) rfl
theorem mp_8_128 : am_mP 8 128 (67, 0, 0) := am_m0 q_Tap_chooseCard rfl (by decide +kernel) kw_2_157 kw_2_159 kw_0_1
theorem kw_2_161 : (Jvm.Cond.methodLink "TapTerminal" (195 : Nat) ({ cls := "TapTerminal$Air", name := "wake", desc := "()Z" } : Jvm.MethodName)) ∈ am_kw := am_in2 (List.mem_of_getElem? (i := 161) rfl) rfl
theorem kw_2_162 : (Jvm.Cond.instanceMethod ({ cls := "TapTerminal$Air", name := "wake", desc := "()Z" } : Jvm.MethodName)) ∈ am_kw := am_in2 (List.mem_of_getElem? (i := 162) rfl) rfl
theorem kw_2_163 : (Jvm.Cond.selects "TapTerminal$Air" ({ cls := "TapTerminal$Air", name := "wake", desc := "()Z" } : Jvm.MethodName) ({ cls := "TapTerminal$Air", name := "wake", desc := "()Z" } : Jvm.MethodName)) ∈ am_kw := am_in2 (List.mem_of_getElem? (i := 163) rfl) rfl
theorem mp_8_195 : am_mP 8 195 (29, 0, 0) := am_m0 q_Air_wake rfl (by decide +kernel) kw_2_161 kw_2_162 kw_2_163
theorem kw_2_165 : (Jvm.Cond.methodLink "TapTerminal$Air" (46 : Nat) ({ cls := "TapTerminal$Air", name := "gather", desc := "(II)V" } : Jvm.MethodName)) ∈ am_kw := am_in2 (List.mem_of_getElem? (i := 165) rfl) rfl
theorem kw_2_167 : (Jvm.Cond.instanceMethod ({ cls := "TapTerminal$Air", name := "gather", desc := "(II)V" } : Jvm.MethodName)) ∈ am_kw := am_in2 (List.mem_of_getElem? (i := 167) rfl) rfl
theorem kw_0_2 : (Jvm.Cond.selects "TapTerminal$Air" ({ cls := "TapTerminal$Air", name := "gather", desc := "(II)V" } : Jvm.MethodName) ({ cls := "TapTerminal$Air", name := "gather", desc := "(II)V" } : Jvm.MethodName)) ∈ am_kw := am_in0 (List.mem_of_getElem? (i := 2) rfl) rfl
theorem mp_4_46 : am_mP 4 46 (35, 0, 2) := am_m0 q_Air_gather rfl (by decide +kernel) kw_2_165 kw_2_167 kw_0_2
theorem kw_2_169 : (Jvm.Cond.methodLink "TapTerminal$Air" (119 : Nat) ({ cls := "TapTerminal$Card", name := "beginsWith", desc := "(II)Z" } : Jvm.MethodName)) ∈ am_kw := am_in2 (List.mem_of_getElem? (i := 169) rfl) rfl
theorem kw_2_170 : (Jvm.Cond.instanceMethod ({ cls := "TapTerminal$Card", name := "beginsWith", desc := "(II)Z" } : Jvm.MethodName)) ∈ am_kw := am_in2 (List.mem_of_getElem? (i := 170) rfl) rfl
theorem kw_2_171 : (Jvm.Cond.selects "TapTerminal$Card" ({ cls := "TapTerminal$Card", name := "beginsWith", desc := "(II)Z" } : Jvm.MethodName) ({ cls := "TapTerminal$Card", name := "beginsWith", desc := "(II)Z" } : Jvm.MethodName)) ∈ am_kw := am_in2 (List.mem_of_getElem? (i := 171) rfl) rfl
theorem mp_4_119 : am_mP 4 119 (15, 0, 2) := am_m0 q_Card_beginsWith rfl (by decide +kernel) kw_2_169 kw_2_170 kw_2_171
theorem kw_2_173 : (Jvm.Cond.methodLink "TapTerminal$Air" (50 : Nat) ({ cls := "TapTerminal$Air", name := "call", desc := "(II)Z" } : Jvm.MethodName)) ∈ am_kw := am_in2 (List.mem_of_getElem? (i := 173) rfl) rfl
theorem kw_2_175 : (Jvm.Cond.instanceMethod ({ cls := "TapTerminal$Air", name := "call", desc := "(II)Z" } : Jvm.MethodName)) ∈ am_kw := am_in2 (List.mem_of_getElem? (i := 175) rfl) rfl
theorem kw_0_3 : (Jvm.Cond.selects "TapTerminal$Air" ({ cls := "TapTerminal$Air", name := "call", desc := "(II)Z" } : Jvm.MethodName) ({ cls := "TapTerminal$Air", name := "call", desc := "(II)Z" } : Jvm.MethodName)) ∈ am_kw := am_in0 (List.mem_of_getElem? (i := 3) rfl) rfl
theorem mp_4_50 : am_mP 4 50 (36, 0, 2) := am_m0 q_Air_call rfl (by decide +kernel) kw_2_173 kw_2_175 kw_0_3
theorem kw_2_177 : (Jvm.Cond.methodLink "TapTerminal$Air" (78 : Nat) ({ cls := "TapTerminal$Journal", name := "nextFault", desc := "()I" } : Jvm.MethodName)) ∈ am_kw := am_in2 (List.mem_of_getElem? (i := 177) rfl) rfl
theorem kw_2_178 : (Jvm.Cond.instanceMethod ({ cls := "TapTerminal$Journal", name := "nextFault", desc := "()I" } : Jvm.MethodName)) ∈ am_kw := am_in2 (List.mem_of_getElem? (i := 178) rfl) rfl
theorem kw_2_179 : (Jvm.Cond.selects "TapTerminal$Journal" ({ cls := "TapTerminal$Journal", name := "nextFault", desc := "()I" } : Jvm.MethodName) ({ cls := "TapTerminal$Journal", name := "nextFault", desc := "()I" } : Jvm.MethodName)) ∈ am_kw := am_in2 (List.mem_of_getElem? (i := 179) rfl) rfl
theorem mp_4_78 : am_mP 4 78 (24, 0, 0) := am_m0 q_Journal_nextFault rfl (by decide +kernel) kw_2_177 kw_2_178 kw_2_179
theorem kw_2_181 : (Jvm.Cond.methodLink "TapTerminal$Air" (122 : Nat) ({ cls := "TapTerminal$Card", name := "hearCall", desc := "(I)V" } : Jvm.MethodName)) ∈ am_kw := am_in2 (List.mem_of_getElem? (i := 181) rfl) rfl
theorem kw_2_182 : (Jvm.Cond.instanceMethod ({ cls := "TapTerminal$Card", name := "hearCall", desc := "(I)V" } : Jvm.MethodName)) ∈ am_kw := am_in2 (List.mem_of_getElem? (i := 182) rfl) rfl
theorem kw_2_183 : (Jvm.Cond.selects "TapTerminal$Card" ({ cls := "TapTerminal$Card", name := "hearCall", desc := "(I)V" } : Jvm.MethodName) ({ cls := "TapTerminal$Card", name := "hearCall", desc := "(I)V" } : Jvm.MethodName)) ∈ am_kw := am_in2 (List.mem_of_getElem? (i := 183) rfl) rfl
theorem mp_4_122 : am_mP 4 122 (16, 0, 1) := am_m0 q_Card_hearCall rfl (by decide +kernel) kw_2_181 kw_2_182 kw_2_183
theorem kw_2_185 : (Jvm.Cond.methodLink "TapTerminal$Air" (86 : Nat) ({ cls := "TapTerminal$Journal", name := "note", desc := "(IIZ)Z" } : Jvm.MethodName)) ∈ am_kw := am_in2 (List.mem_of_getElem? (i := 185) rfl) rfl
theorem kw_2_186 : (Jvm.Cond.instanceMethod ({ cls := "TapTerminal$Journal", name := "note", desc := "(IIZ)Z" } : Jvm.MethodName)) ∈ am_kw := am_in2 (List.mem_of_getElem? (i := 186) rfl) rfl
theorem kw_2_187 : (Jvm.Cond.selects "TapTerminal$Journal" ({ cls := "TapTerminal$Journal", name := "note", desc := "(IIZ)Z" } : Jvm.MethodName) ({ cls := "TapTerminal$Journal", name := "note", desc := "(IIZ)Z" } : Jvm.MethodName)) ∈ am_kw := am_in2 (List.mem_of_getElem? (i := 187) rfl) rfl
theorem mp_4_86 : am_mP 4 86 (25, 0, 3) := am_m0 q_Journal_note rfl (by decide +kernel) kw_2_185 kw_2_186 kw_2_187
theorem kw_2_189 : (Jvm.Cond.methodLink "TapTerminal" (199 : Nat) ({ cls := "TapTerminal$Air", name := "findAddress", desc := "()I" } : Jvm.MethodName)) ∈ am_kw := am_in2 (List.mem_of_getElem? (i := 189) rfl) rfl
theorem kw_2_190 : (Jvm.Cond.instanceMethod ({ cls := "TapTerminal$Air", name := "findAddress", desc := "()I" } : Jvm.MethodName)) ∈ am_kw := am_in2 (List.mem_of_getElem? (i := 190) rfl) rfl
theorem kw_2_191 : (Jvm.Cond.selects "TapTerminal$Air" ({ cls := "TapTerminal$Air", name := "findAddress", desc := "()I" } : Jvm.MethodName) ({ cls := "TapTerminal$Air", name := "findAddress", desc := "()I" } : Jvm.MethodName)) ∈ am_kw := am_in2 (List.mem_of_getElem? (i := 191) rfl) rfl
theorem mp_8_199 : am_mP 8 199 (30, 0, 0) := am_m0 q_Air_findAddress rfl (by decide +kernel) kw_2_189 kw_2_190 kw_2_191
theorem kw_2_194 : (Jvm.Cond.static ({ cls := "TapTerminal$Air", name := "leadingZeros", desc := "(I)I" } : Jvm.MethodName)) ∈ am_kw := am_in2 (List.mem_of_getElem? (i := 194) rfl) rfl
theorem kw_2_193 : (Jvm.Cond.methodLink "TapTerminal$Air" (57 : Nat) ({ cls := "TapTerminal$Air", name := "leadingZeros", desc := "(I)I" } : Jvm.MethodName)) ∈ am_kw := am_in2 (List.mem_of_getElem? (i := 193) rfl) rfl
theorem mp_4_57 : am_mP 4 57 (37, 2, 1) := am_m2 q_Air_leadingZeros rfl (by decide +kernel) kw_2_193 kw_2_194
theorem kw_2_196 : (Jvm.Cond.methodLink "TapTerminal" (202 : Nat) ({ cls := "TapTerminal$Air", name := "select", desc := "()Z" } : Jvm.MethodName)) ∈ am_kw := am_in2 (List.mem_of_getElem? (i := 196) rfl) rfl
theorem kw_2_197 : (Jvm.Cond.instanceMethod ({ cls := "TapTerminal$Air", name := "select", desc := "()Z" } : Jvm.MethodName)) ∈ am_kw := am_in2 (List.mem_of_getElem? (i := 197) rfl) rfl
theorem kw_2_198 : (Jvm.Cond.selects "TapTerminal$Air" ({ cls := "TapTerminal$Air", name := "select", desc := "()Z" } : Jvm.MethodName) ({ cls := "TapTerminal$Air", name := "select", desc := "()Z" } : Jvm.MethodName)) ∈ am_kw := am_in2 (List.mem_of_getElem? (i := 198) rfl) rfl
theorem mp_8_202 : am_mP 8 202 (31, 0, 0) := am_m0 q_Air_select rfl (by decide +kernel) kw_2_196 kw_2_197 kw_2_198
theorem kw_2_200 : (Jvm.Cond.methodLink "TapTerminal" (205 : Nat) ({ cls := "TapTerminal", name := "startCommand", desc := "(I)V" } : Jvm.MethodName)) ∈ am_kw := am_in2 (List.mem_of_getElem? (i := 200) rfl) rfl
theorem kw_2_202 : (Jvm.Cond.instanceMethod ({ cls := "TapTerminal", name := "startCommand", desc := "(I)V" } : Jvm.MethodName)) ∈ am_kw := am_in2 (List.mem_of_getElem? (i := 202) rfl) rfl
theorem kw_0_4 : (Jvm.Cond.selects "TapTerminal" ({ cls := "TapTerminal", name := "startCommand", desc := "(I)V" } : Jvm.MethodName) ({ cls := "TapTerminal", name := "startCommand", desc := "(I)V" } : Jvm.MethodName)) ∈ am_kw := am_in0 (List.mem_of_getElem? (i := 4) rfl) rfl
theorem mp_8_205 : am_mP 8 205 (70, 0, 1) := am_m0 q_Tap_startCommand rfl (by decide +kernel) kw_2_200 kw_2_202 kw_0_4
theorem kw_2_204 : (Jvm.Cond.methodLink "TapTerminal" (260 : Nat) ({ cls := "TapTerminal$Row", name := "clear", desc := "()V" } : Jvm.MethodName)) ∈ am_kw := am_in2 (List.mem_of_getElem? (i := 204) rfl) rfl
theorem mp_8_260 : am_mP 8 260 (1, 0, 0) := am_m0 q_Row_clear rfl (by decide +kernel) kw_2_204 kw_2_105 kw_2_106
theorem kw_2_205 : (Jvm.Cond.methodLink "TapTerminal" (208 : Nat) ({ cls := "TapTerminal$Air", name := "transmit", desc := "(LTapTerminal$Row;LTapTerminal$Row;)Z" } : Jvm.MethodName)) ∈ am_kw := am_in2 (List.mem_of_getElem? (i := 205) rfl) rfl
theorem kw_2_206 : (Jvm.Cond.instanceMethod ({ cls := "TapTerminal$Air", name := "transmit", desc := "(LTapTerminal$Row;LTapTerminal$Row;)Z" } : Jvm.MethodName)) ∈ am_kw := am_in2 (List.mem_of_getElem? (i := 206) rfl) rfl
theorem kw_2_207 : (Jvm.Cond.selects "TapTerminal$Air" ({ cls := "TapTerminal$Air", name := "transmit", desc := "(LTapTerminal$Row;LTapTerminal$Row;)Z" } : Jvm.MethodName) ({ cls := "TapTerminal$Air", name := "transmit", desc := "(LTapTerminal$Row;LTapTerminal$Row;)Z" } : Jvm.MethodName)) ∈ am_kw := am_in2 (List.mem_of_getElem? (i := 207) rfl) rfl
theorem mp_8_208 : am_mP 8 208 (33, 0, 2) := am_m0 q_Air_transmit rfl (by decide +kernel) kw_2_205 kw_2_206 kw_2_207
theorem kw_2_209 : (Jvm.Cond.methodLink "TapTerminal$Air" (67 : Nat) ({ cls := "TapTerminal$Row", name := "clear", desc := "()V" } : Jvm.MethodName)) ∈ am_kw := am_in2 (List.mem_of_getElem? (i := 209) rfl) rfl
theorem mp_4_67 : am_mP 4 67 (1, 0, 0) := am_m0 q_Row_clear rfl (by decide +kernel) kw_2_209 kw_2_105 kw_2_106
theorem kw_2_211 : (Jvm.Cond.methodLink "TapTerminal$Air" (74 : Nat) ({ cls := "TapTerminal$Air", name := "prepare", desc := "(ILTapTerminal$Row;II)V" } : Jvm.MethodName)) ∈ am_kw := am_in2 (List.mem_of_getElem? (i := 211) rfl) rfl
theorem kw_2_213 : (Jvm.Cond.instanceMethod ({ cls := "TapTerminal$Air", name := "prepare", desc := "(ILTapTerminal$Row;II)V" } : Jvm.MethodName)) ∈ am_kw := am_in2 (List.mem_of_getElem? (i := 213) rfl) rfl
theorem kw_0_5 : (Jvm.Cond.selects "TapTerminal$Air" ({ cls := "TapTerminal$Air", name := "prepare", desc := "(ILTapTerminal$Row;II)V" } : Jvm.MethodName) ({ cls := "TapTerminal$Air", name := "prepare", desc := "(ILTapTerminal$Row;II)V" } : Jvm.MethodName)) ∈ am_kw := am_in0 (List.mem_of_getElem? (i := 5) rfl) rfl
theorem mp_4_74 : am_mP 4 74 (34, 0, 4) := am_m0 q_Air_prepare rfl (by decide +kernel) kw_2_211 kw_2_213 kw_0_5
theorem kw_2_215 : (Jvm.Cond.methodLink "TapTerminal$Air" (113 : Nat) ({ cls := "TapTerminal$Block", name := "becomePart", desc := "(ILTapTerminal$Row;II)V" } : Jvm.MethodName)) ∈ am_kw := am_in2 (List.mem_of_getElem? (i := 215) rfl) rfl
theorem kw_2_216 : (Jvm.Cond.instanceMethod ({ cls := "TapTerminal$Block", name := "becomePart", desc := "(ILTapTerminal$Row;II)V" } : Jvm.MethodName)) ∈ am_kw := am_in2 (List.mem_of_getElem? (i := 216) rfl) rfl
theorem kw_2_217 : (Jvm.Cond.selects "TapTerminal$Block" ({ cls := "TapTerminal$Block", name := "becomePart", desc := "(ILTapTerminal$Row;II)V" } : Jvm.MethodName) ({ cls := "TapTerminal$Block", name := "becomePart", desc := "(ILTapTerminal$Row;II)V" } : Jvm.MethodName)) ∈ am_kw := am_in2 (List.mem_of_getElem? (i := 217) rfl) rfl
theorem mp_4_113 : am_mP 4 113 (11, 0, 4) := am_m0 q_Block_becomePart rfl (by decide +kernel) kw_2_215 kw_2_216 kw_2_217
theorem kw_2_219 : (Jvm.Cond.methodLink "TapTerminal$Block" (34 : Nat) ({ cls := "TapTerminal$Block", name := "becomePlain", desc := "(II)V" } : Jvm.MethodName)) ∈ am_kw := am_in2 (List.mem_of_getElem? (i := 219) rfl) rfl
theorem kw_2_220 : (Jvm.Cond.instanceMethod ({ cls := "TapTerminal$Block", name := "becomePlain", desc := "(II)V" } : Jvm.MethodName)) ∈ am_kw := am_in2 (List.mem_of_getElem? (i := 220) rfl) rfl
theorem kw_2_221 : (Jvm.Cond.selects "TapTerminal$Block" ({ cls := "TapTerminal$Block", name := "becomePlain", desc := "(II)V" } : Jvm.MethodName) ({ cls := "TapTerminal$Block", name := "becomePlain", desc := "(II)V" } : Jvm.MethodName)) ∈ am_kw := am_in2 (List.mem_of_getElem? (i := 221) rfl) rfl
theorem mp_1_34 : am_mP 1 34 (10, 0, 2) := am_m0 q_Block_becomePlain rfl (by decide +kernel) kw_2_219 kw_2_220 kw_2_221
theorem kw_2_223 : (Jvm.Cond.methodLink "TapTerminal$Block" (31 : Nat) ({ cls := "TapTerminal$Row", name := "clear", desc := "()V" } : Jvm.MethodName)) ∈ am_kw := am_in2 (List.mem_of_getElem? (i := 223) rfl) rfl
theorem mp_1_31 : am_mP 1 31 (1, 0, 0) := am_m0 q_Row_clear rfl (by decide +kernel) kw_2_223 kw_2_105 kw_2_106
theorem kw_2_224 : (Jvm.Cond.methodLink "TapTerminal$Block" (41 : Nat) ({ cls := "java/lang/Math", name := "min", desc := "(II)I" } : Jvm.MethodName)) ∈ am_kw := am_in2 (List.mem_of_getElem? (i := 224) rfl) rfl
theorem mp_1_41 : am_mP 1 41 (0, 7, 2) := am_m7 kw_2_224
theorem kw_2_227 : (Jvm.Cond.methodLink "TapTerminal$Block" (47 : Nat) ({ cls := "TapTerminal$Row", name := "addPart", desc := "(LTapTerminal$Row;II)V" } : Jvm.MethodName)) ∈ am_kw := am_in2 (List.mem_of_getElem? (i := 227) rfl) rfl
theorem kw_2_228 : (Jvm.Cond.instanceMethod ({ cls := "TapTerminal$Row", name := "addPart", desc := "(LTapTerminal$Row;II)V" } : Jvm.MethodName)) ∈ am_kw := am_in2 (List.mem_of_getElem? (i := 228) rfl) rfl
theorem kw_2_229 : (Jvm.Cond.selects "TapTerminal$Row" ({ cls := "TapTerminal$Row", name := "addPart", desc := "(LTapTerminal$Row;II)V" } : Jvm.MethodName) ({ cls := "TapTerminal$Row", name := "addPart", desc := "(LTapTerminal$Row;II)V" } : Jvm.MethodName)) ∈ am_kw := am_in2 (List.mem_of_getElem? (i := 229) rfl) rfl
theorem mp_1_47 : am_mP 1 47 (4, 0, 3) := am_m0 q_Row_addPart rfl (by decide +kernel) kw_2_227 kw_2_228 kw_2_229
theorem kw_2_231 : (Jvm.Cond.methodLink "TapTerminal$Row" (21 : Nat) ({ cls := "TapTerminal$Row", name := "at", desc := "(I)I" } : Jvm.MethodName)) ∈ am_kw := am_in2 (List.mem_of_getElem? (i := 231) rfl) rfl
theorem kw_2_232 : (Jvm.Cond.instanceMethod ({ cls := "TapTerminal$Row", name := "at", desc := "(I)I" } : Jvm.MethodName)) ∈ am_kw := am_in2 (List.mem_of_getElem? (i := 232) rfl) rfl
theorem kw_2_233 : (Jvm.Cond.selects "TapTerminal$Row" ({ cls := "TapTerminal$Row", name := "at", desc := "(I)I" } : Jvm.MethodName) ({ cls := "TapTerminal$Row", name := "at", desc := "(I)I" } : Jvm.MethodName)) ∈ am_kw := am_in2 (List.mem_of_getElem? (i := 233) rfl) rfl
theorem mp_0_21 : am_mP 0 21 (5, 0, 1) := am_m0 q_Row_at rfl (by decide +kernel) kw_2_231 kw_2_232 kw_2_233
theorem kw_2_235 : (Jvm.Cond.methodLink "TapTerminal$Row" (17 : Nat) ({ cls := "TapTerminal$Row", name := "add", desc := "(I)V" } : Jvm.MethodName)) ∈ am_kw := am_in2 (List.mem_of_getElem? (i := 235) rfl) rfl
theorem mp_0_17 : am_mP 0 17 (2, 0, 1) := am_m0 q_Row_add rfl (by decide +kernel) kw_2_235 kw_2_121 kw_2_122
theorem kw_2_236 : (Jvm.Cond.methodLink "TapTerminal$Air" (116 : Nat) ({ cls := "TapTerminal$Block", name := "becomePlain", desc := "(II)V" } : Jvm.MethodName)) ∈ am_kw := am_in2 (List.mem_of_getElem? (i := 236) rfl) rfl
theorem mp_4_116 : am_mP 4 116 (10, 0, 2) := am_m0 q_Block_becomePlain rfl (by decide +kernel) kw_2_236 kw_2_220 kw_2_221
theorem kw_2_237 : (Jvm.Cond.methodLink "TapTerminal$Air" (82 : Nat) ({ cls := "TapTerminal$Card", name := "hearBlock", desc := "(LTapTerminal$Block;)V" } : Jvm.MethodName)) ∈ am_kw := am_in2 (List.mem_of_getElem? (i := 237) rfl) rfl
theorem kw_2_238 : (Jvm.Cond.instanceMethod ({ cls := "TapTerminal$Card", name := "hearBlock", desc := "(LTapTerminal$Block;)V" } : Jvm.MethodName)) ∈ am_kw := am_in2 (List.mem_of_getElem? (i := 238) rfl) rfl
theorem kw_2_239 : (Jvm.Cond.selects "TapTerminal$Card" ({ cls := "TapTerminal$Card", name := "hearBlock", desc := "(LTapTerminal$Block;)V" } : Jvm.MethodName) ({ cls := "TapTerminal$Card", name := "hearBlock", desc := "(LTapTerminal$Block;)V" } : Jvm.MethodName)) ∈ am_kw := am_in2 (List.mem_of_getElem? (i := 239) rfl) rfl
theorem mp_4_82 : am_mP 4 82 (17, 0, 1) := am_m0 q_Card_hearBlock rfl (by decide +kernel) kw_2_237 kw_2_238 kw_2_239
theorem kw_3_1 : (Jvm.Cond.methodLink "TapTerminal$Card" (88 : Nat) ({ cls := "TapTerminal$Block", name := "becomePlain", desc := "(II)V" } : Jvm.MethodName)) ∈ am_kw := am_in3 (List.mem_of_getElem? (i := 1) rfl) rfl
theorem mp_2_88 : am_mP 2 88 (10, 0, 2) := am_m0 q_Block_becomePlain rfl (by decide +kernel) kw_3_1 kw_2_220 kw_2_221
theorem kw_3_2 : (Jvm.Cond.methodLink "TapTerminal$Card" (95 : Nat) ({ cls := "TapTerminal$Block", name := "becomePart", desc := "(ILTapTerminal$Row;II)V" } : Jvm.MethodName)) ∈ am_kw := am_in3 (List.mem_of_getElem? (i := 2) rfl) rfl
theorem mp_2_95 : am_mP 2 95 (11, 0, 4) := am_m0 q_Block_becomePart rfl (by decide +kernel) kw_3_2 kw_2_216 kw_2_217
theorem kw_3_3 : (Jvm.Cond.methodLink "TapTerminal$Card" (102 : Nat) ({ cls := "TapTerminal$Row", name := "addPart", desc := "(LTapTerminal$Row;II)V" } : Jvm.MethodName)) ∈ am_kw := am_in3 (List.mem_of_getElem? (i := 3) rfl) rfl
theorem mp_2_102 : am_mP 2 102 (4, 0, 3) := am_m0 q_Row_addPart rfl (by decide +kernel) kw_3_3 kw_2_228 kw_2_229
theorem kw_3_4 : (Jvm.Cond.methodLink "TapTerminal$Card" (109 : Nat) ({ cls := "TapTerminal$Card", name := "obey", desc := "()V" } : Jvm.MethodName)) ∈ am_kw := am_in3 (List.mem_of_getElem? (i := 4) rfl) rfl
theorem kw_3_6 : (Jvm.Cond.instanceMethod ({ cls := "TapTerminal$Card", name := "obey", desc := "()V" } : Jvm.MethodName)) ∈ am_kw := am_in3 (List.mem_of_getElem? (i := 6) rfl) rfl
theorem kw_0_6 : (Jvm.Cond.selects "TapTerminal$Card" ({ cls := "TapTerminal$Card", name := "obey", desc := "()V" } : Jvm.MethodName) ({ cls := "TapTerminal$Card", name := "obey", desc := "()V" } : Jvm.MethodName)) ∈ am_kw := am_in0 (List.mem_of_getElem? (i := 6) rfl) rfl
theorem mp_2_109 : am_mP 2 109 (18, 0, 0) := am_m0 q_Card_obey rfl (by decide +kernel) kw_3_4 kw_3_6 kw_0_6
theorem kw_3_8 : (Jvm.Cond.methodLink "TapTerminal$Card" (112 : Nat) ({ cls := "TapTerminal$Row", name := "at", desc := "(I)I" } : Jvm.MethodName)) ∈ am_kw := am_in3 (List.mem_of_getElem? (i := 8) rfl) rfl
theorem mp_2_112 : am_mP 2 112 (5, 0, 1) := am_m0 q_Row_at rfl (by decide +kernel) kw_3_8 kw_2_232 kw_2_233
theorem kw_3_9 : (Jvm.Cond.methodLink "TapTerminal$Card" (116 : Nat) ({ cls := "TapTerminal$Row", name := "add", desc := "(I)V" } : Jvm.MethodName)) ∈ am_kw := am_in3 (List.mem_of_getElem? (i := 9) rfl) rfl
theorem mp_2_116 : am_mP 2 116 (2, 0, 1) := am_m0 q_Row_add rfl (by decide +kernel) kw_3_9 kw_2_121 kw_2_122
theorem kw_3_10 : (Jvm.Cond.methodLink "TapTerminal$Card" (119 : Nat) ({ cls := "TapTerminal$Card", name := "countRecords", desc := "()I" } : Jvm.MethodName)) ∈ am_kw := am_in3 (List.mem_of_getElem? (i := 10) rfl) rfl
theorem kw_3_11 : (Jvm.Cond.instanceMethod ({ cls := "TapTerminal$Card", name := "countRecords", desc := "()I" } : Jvm.MethodName)) ∈ am_kw := am_in3 (List.mem_of_getElem? (i := 11) rfl) rfl
theorem kw_3_12 : (Jvm.Cond.selects "TapTerminal$Card" ({ cls := "TapTerminal$Card", name := "countRecords", desc := "()I" } : Jvm.MethodName) ({ cls := "TapTerminal$Card", name := "countRecords", desc := "()I" } : Jvm.MethodName)) ∈ am_kw := am_in3 (List.mem_of_getElem? (i := 12) rfl) rfl
theorem mp_2_119 : am_mP 2 119 (14, 0, 0) := am_m0 q_Card_countRecords rfl (by decide +kernel) kw_3_10 kw_3_11 kw_3_12
theorem kw_3_14 : (Jvm.Cond.methodLink "TapTerminal$Card" (123 : Nat) ({ cls := "TapTerminal$Card", name := "addRecord", desc := "(I)V" } : Jvm.MethodName)) ∈ am_kw := am_in3 (List.mem_of_getElem? (i := 14) rfl) rfl
theorem kw_3_16 : (Jvm.Cond.instanceMethod ({ cls := "TapTerminal$Card", name := "addRecord", desc := "(I)V" } : Jvm.MethodName)) ∈ am_kw := am_in3 (List.mem_of_getElem? (i := 16) rfl) rfl
theorem kw_0_7 : (Jvm.Cond.selects "TapTerminal$Card" ({ cls := "TapTerminal$Card", name := "addRecord", desc := "(I)V" } : Jvm.MethodName) ({ cls := "TapTerminal$Card", name := "addRecord", desc := "(I)V" } : Jvm.MethodName)) ∈ am_kw := am_in0 (List.mem_of_getElem? (i := 7) rfl) rfl
theorem mp_2_123 : am_mP 2 123 (19, 0, 1) := am_m0 q_Card_addRecord rfl (by decide +kernel) kw_3_14 kw_3_16 kw_0_7
theorem mp_2_140 : am_mP 2 140 (72, 3, 2) := am_m3 q_Tap_isWithin rfl (by decide +kernel) "TapTerminal" (List.mem_of_getElem? (i := 0) rfl) kw_2_94
theorem kw_3_19 : (Jvm.Cond.methodLink "TapTerminal$Card" (126 : Nat) ({ cls := "TapTerminal$Row", name := "intAt", desc := "(I)I" } : Jvm.MethodName)) ∈ am_kw := am_in3 (List.mem_of_getElem? (i := 19) rfl) rfl
theorem kw_3_20 : (Jvm.Cond.instanceMethod ({ cls := "TapTerminal$Row", name := "intAt", desc := "(I)I" } : Jvm.MethodName)) ∈ am_kw := am_in3 (List.mem_of_getElem? (i := 20) rfl) rfl
theorem kw_3_21 : (Jvm.Cond.selects "TapTerminal$Row" ({ cls := "TapTerminal$Row", name := "intAt", desc := "(I)I" } : Jvm.MethodName) ({ cls := "TapTerminal$Row", name := "intAt", desc := "(I)I" } : Jvm.MethodName)) ∈ am_kw := am_in3 (List.mem_of_getElem? (i := 21) rfl) rfl
theorem mp_2_126 : am_mP 2 126 (7, 0, 1) := am_m0 q_Row_intAt rfl (by decide +kernel) kw_3_19 kw_3_20 kw_3_21
theorem kw_3_23 : (Jvm.Cond.methodLink "TapTerminal$Card" (129 : Nat) ({ cls := "TapTerminal$Card", name := "decide", desc := "(II)I" } : Jvm.MethodName)) ∈ am_kw := am_in3 (List.mem_of_getElem? (i := 23) rfl) rfl
theorem kw_3_25 : (Jvm.Cond.instanceMethod ({ cls := "TapTerminal$Card", name := "decide", desc := "(II)I" } : Jvm.MethodName)) ∈ am_kw := am_in3 (List.mem_of_getElem? (i := 25) rfl) rfl
theorem kw_0_8 : (Jvm.Cond.selects "TapTerminal$Card" ({ cls := "TapTerminal$Card", name := "decide", desc := "(II)I" } : Jvm.MethodName) ({ cls := "TapTerminal$Card", name := "decide", desc := "(II)I" } : Jvm.MethodName)) ∈ am_kw := am_in0 (List.mem_of_getElem? (i := 8) rfl) rfl
theorem mp_2_129 : am_mP 2 129 (20, 0, 2) := am_m0 q_Card_decide rfl (by decide +kernel) kw_3_23 kw_3_25 kw_0_8
theorem kw_3_28 : (Jvm.Cond.methodLink "TapTerminal$Card" (133 : Nat) ({ cls := "TapTerminal$Card", name := "mixtureOf", desc := "(IIII)I" } : Jvm.MethodName)) ∈ am_kw := am_in3 (List.mem_of_getElem? (i := 28) rfl) rfl
theorem kw_3_30 : (Jvm.Cond.instanceMethod ({ cls := "TapTerminal$Card", name := "mixtureOf", desc := "(IIII)I" } : Jvm.MethodName)) ∈ am_kw := am_in3 (List.mem_of_getElem? (i := 30) rfl) rfl
theorem kw_0_9 : (Jvm.Cond.selects "TapTerminal$Card" ({ cls := "TapTerminal$Card", name := "mixtureOf", desc := "(IIII)I" } : Jvm.MethodName) ({ cls := "TapTerminal$Card", name := "mixtureOf", desc := "(IIII)I" } : Jvm.MethodName)) ∈ am_kw := am_in0 (List.mem_of_getElem? (i := 9) rfl) rfl
theorem mp_2_133 : am_mP 2 133 (21, 0, 4) := am_m0 q_Card_mixtureOf rfl (by decide +kernel) kw_3_28 kw_3_30 kw_0_9
theorem kw_3_33 : (Jvm.Cond.static ({ cls := "TapTerminal", name := "stir", desc := "(II)I" } : Jvm.MethodName)) ∈ am_kw := am_in3 (List.mem_of_getElem? (i := 33) rfl) rfl
theorem mp_2_145 : am_mP 2 145 (74, 3, 2) := am_m3 q_Tap_stir rfl (by decide +kernel) "TapTerminal" (List.mem_of_getElem? (i := 1) rfl) kw_3_33
theorem kw_3_36 : (Jvm.Cond.methodLink "TapTerminal$Card" (137 : Nat) ({ cls := "TapTerminal$Row", name := "addInt", desc := "(I)V" } : Jvm.MethodName)) ∈ am_kw := am_in3 (List.mem_of_getElem? (i := 36) rfl) rfl
theorem kw_3_37 : (Jvm.Cond.instanceMethod ({ cls := "TapTerminal$Row", name := "addInt", desc := "(I)V" } : Jvm.MethodName)) ∈ am_kw := am_in3 (List.mem_of_getElem? (i := 37) rfl) rfl
theorem kw_3_38 : (Jvm.Cond.selects "TapTerminal$Row" ({ cls := "TapTerminal$Row", name := "addInt", desc := "(I)V" } : Jvm.MethodName) ({ cls := "TapTerminal$Row", name := "addInt", desc := "(I)V" } : Jvm.MethodName)) ∈ am_kw := am_in3 (List.mem_of_getElem? (i := 38) rfl) rfl
theorem mp_2_137 : am_mP 2 137 (3, 0, 1) := am_m0 q_Row_addInt rfl (by decide +kernel) kw_3_36 kw_3_37 kw_3_38
theorem kw_3_40 : (Jvm.Cond.methodLink "TapTerminal$Air" (106 : Nat) ({ cls := "TapTerminal$Row", name := "addPart", desc := "(LTapTerminal$Row;II)V" } : Jvm.MethodName)) ∈ am_kw := am_in3 (List.mem_of_getElem? (i := 40) rfl) rfl
theorem mp_4_106 : am_mP 4 106 (4, 0, 3) := am_m0 q_Row_addPart rfl (by decide +kernel) kw_3_40 kw_2_228 kw_2_229
theorem kw_3_41 : (Jvm.Cond.methodLink "TapTerminal" (212 : Nat) ({ cls := "TapTerminal$Row", name := "at", desc := "(I)I" } : Jvm.MethodName)) ∈ am_kw := am_in3 (List.mem_of_getElem? (i := 41) rfl) rfl
theorem mp_8_212 : am_mP 8 212 (5, 0, 1) := am_m0 q_Row_at rfl (by decide +kernel) kw_3_41 kw_2_232 kw_2_233
theorem kw_3_42 : (Jvm.Cond.methodLink "TapTerminal" (215 : Nat) ({ cls := "TapTerminal$Settings", name := "takesApplication", desc := "(I)Z" } : Jvm.MethodName)) ∈ am_kw := am_in3 (List.mem_of_getElem? (i := 42) rfl) rfl
theorem kw_3_43 : (Jvm.Cond.instanceMethod ({ cls := "TapTerminal$Settings", name := "takesApplication", desc := "(I)Z" } : Jvm.MethodName)) ∈ am_kw := am_in3 (List.mem_of_getElem? (i := 43) rfl) rfl
theorem kw_3_44 : (Jvm.Cond.selects "TapTerminal$Settings" ({ cls := "TapTerminal$Settings", name := "takesApplication", desc := "(I)Z" } : Jvm.MethodName) ({ cls := "TapTerminal$Settings", name := "takesApplication", desc := "(I)Z" } : Jvm.MethodName)) ∈ am_kw := am_in3 (List.mem_of_getElem? (i := 44) rfl) rfl
theorem mp_8_215 : am_mP 8 215 (45, 0, 1) := am_m0 q_Settings_takesApplication rfl (by decide +kernel) kw_3_42 kw_3_43 kw_3_44
theorem kw_3_46 : (Jvm.Cond.methodLink "TapTerminal" (221 : Nat) ({ cls := "TapTerminal$Air", name := "putOff", desc := "()Z" } : Jvm.MethodName)) ∈ am_kw := am_in3 (List.mem_of_getElem? (i := 46) rfl) rfl
theorem kw_3_47 : (Jvm.Cond.instanceMethod ({ cls := "TapTerminal$Air", name := "putOff", desc := "()Z" } : Jvm.MethodName)) ∈ am_kw := am_in3 (List.mem_of_getElem? (i := 47) rfl) rfl
theorem kw_3_48 : (Jvm.Cond.selects "TapTerminal$Air" ({ cls := "TapTerminal$Air", name := "putOff", desc := "()Z" } : Jvm.MethodName) ({ cls := "TapTerminal$Air", name := "putOff", desc := "()Z" } : Jvm.MethodName)) ∈ am_kw := am_in3 (List.mem_of_getElem? (i := 48) rfl) rfl
theorem mp_8_221 : am_mP 8 221 (32, 0, 0) := am_m0 q_Air_putOff rfl (by decide +kernel) kw_3_46 kw_3_47 kw_3_48
theorem kw_3_50 : (Jvm.Cond.methodLink "TapTerminal" (132 : Nat) ({ cls := "TapTerminal", name := "readRecords", desc := "(I)I" } : Jvm.MethodName)) ∈ am_kw := am_in3 (List.mem_of_getElem? (i := 50) rfl) rfl
theorem kw_3_52 : (Jvm.Cond.instanceMethod ({ cls := "TapTerminal", name := "readRecords", desc := "(I)I" } : Jvm.MethodName)) ∈ am_kw := am_in3 (List.mem_of_getElem? (i := 52) rfl) rfl
theorem kw_0_10 : (Jvm.Cond.selects "TapTerminal" ({ cls := "TapTerminal", name := "readRecords", desc := "(I)I" } : Jvm.MethodName) ({ cls := "TapTerminal", name := "readRecords", desc := "(I)I" } : Jvm.MethodName)) ∈ am_kw := am_in0 (List.mem_of_getElem? (i := 10) rfl) rfl
theorem mp_8_132 : am_mP 8 132 (68, 0, 1) := am_m0 q_Tap_readRecords rfl (by decide +kernel) kw_3_50 kw_3_52 kw_0_10
theorem kw_3_54 : (Jvm.Cond.methodLink "TapTerminal" (224 : Nat) ({ cls := "TapTerminal$Row", name := "addInt", desc := "(I)V" } : Jvm.MethodName)) ∈ am_kw := am_in3 (List.mem_of_getElem? (i := 54) rfl) rfl
theorem mp_8_224 : am_mP 8 224 (3, 0, 1) := am_m0 q_Row_addInt rfl (by decide +kernel) kw_3_54 kw_3_37 kw_3_38
theorem kw_3_55 : (Jvm.Cond.methodLink "TapTerminal" (227 : Nat) ({ cls := "java/lang/Math", name := "min", desc := "(II)I" } : Jvm.MethodName)) ∈ am_kw := am_in3 (List.mem_of_getElem? (i := 55) rfl) rfl
theorem mp_8_227 : am_mP 8 227 (0, 7, 2) := am_m7 kw_3_55
theorem kw_3_56 : (Jvm.Cond.methodLink "TapTerminal" (232 : Nat) ({ cls := "TapTerminal$Items", name := "clear", desc := "()V" } : Jvm.MethodName)) ∈ am_kw := am_in3 (List.mem_of_getElem? (i := 56) rfl) rfl
theorem kw_3_57 : (Jvm.Cond.instanceMethod ({ cls := "TapTerminal$Items", name := "clear", desc := "()V" } : Jvm.MethodName)) ∈ am_kw := am_in3 (List.mem_of_getElem? (i := 57) rfl) rfl
theorem kw_3_58 : (Jvm.Cond.selects "TapTerminal$Items" ({ cls := "TapTerminal$Items", name := "clear", desc := "()V" } : Jvm.MethodName) ({ cls := "TapTerminal$Items", name := "clear", desc := "()V" } : Jvm.MethodName)) ∈ am_kw := am_in3 (List.mem_of_getElem? (i := 58) rfl) rfl
theorem mp_8_232 : am_mP 8 232 (39, 0, 0) := am_m0 q_Items_clear rfl (by decide +kernel) kw_3_56 kw_3_57 kw_3_58
theorem kw_3_60 : (Jvm.Cond.methodLink "TapTerminal$Items" (31 : Nat) ({ cls := "TapTerminal$Row", name := "clear", desc := "()V" } : Jvm.MethodName)) ∈ am_kw := am_in3 (List.mem_of_getElem? (i := 60) rfl) rfl
theorem mp_5_31 : am_mP 5 31 (1, 0, 0) := am_m0 q_Row_clear rfl (by decide +kernel) kw_3_60 kw_2_105 kw_2_106
theorem kw_3_61 : (Jvm.Cond.methodLink "TapTerminal" (233 : Nat) ({ cls := "TapTerminal$Items", name := "take", desc := "(LTapTerminal$Row;)V" } : Jvm.MethodName)) ∈ am_kw := am_in3 (List.mem_of_getElem? (i := 61) rfl) rfl
theorem kw_3_62 : (Jvm.Cond.instanceMethod ({ cls := "TapTerminal$Items", name := "take", desc := "(LTapTerminal$Row;)V" } : Jvm.MethodName)) ∈ am_kw := am_in3 (List.mem_of_getElem? (i := 62) rfl) rfl
theorem kw_3_63 : (Jvm.Cond.selects "TapTerminal$Items" ({ cls := "TapTerminal$Items", name := "take", desc := "(LTapTerminal$Row;)V" } : Jvm.MethodName) ({ cls := "TapTerminal$Items", name := "take", desc := "(LTapTerminal$Row;)V" } : Jvm.MethodName)) ∈ am_kw := am_in3 (List.mem_of_getElem? (i := 63) rfl) rfl
theorem mp_8_233 : am_mP 8 233 (40, 0, 1) := am_m0 q_Items_take rfl (by decide +kernel) kw_3_61 kw_3_62 kw_3_63
theorem kw_3_65 : (Jvm.Cond.methodLink "TapTerminal$Items" (38 : Nat) ({ cls := "TapTerminal$Items", name := "takePart", desc := "(LTapTerminal$Row;III)Z" } : Jvm.MethodName)) ∈ am_kw := am_in3 (List.mem_of_getElem? (i := 65) rfl) rfl
theorem kw_3_67 : (Jvm.Cond.instanceMethod ({ cls := "TapTerminal$Items", name := "takePart", desc := "(LTapTerminal$Row;III)Z" } : Jvm.MethodName)) ∈ am_kw := am_in3 (List.mem_of_getElem? (i := 67) rfl) rfl
theorem kw_0_11 : (Jvm.Cond.selects "TapTerminal$Items" ({ cls := "TapTerminal$Items", name := "takePart", desc := "(LTapTerminal$Row;III)Z" } : Jvm.MethodName) ({ cls := "TapTerminal$Items", name := "takePart", desc := "(LTapTerminal$Row;III)Z" } : Jvm.MethodName)) ∈ am_kw := am_in0 (List.mem_of_getElem? (i := 11) rfl) rfl
theorem mp_5_38 : am_mP 5 38 (41, 0, 4) := am_m0 q_Items_takePart rfl (by decide +kernel) kw_3_65 kw_3_67 kw_0_11
theorem kw_3_69 : (Jvm.Cond.methodLink "TapTerminal$Items" (42 : Nat) ({ cls := "TapTerminal$Row", name := "at", desc := "(I)I" } : Jvm.MethodName)) ∈ am_kw := am_in3 (List.mem_of_getElem? (i := 69) rfl) rfl
theorem mp_5_42 : am_mP 5 42 (5, 0, 1) := am_m0 q_Row_at rfl (by decide +kernel) kw_3_69 kw_2_232 kw_2_233
theorem kw_3_70 : (Jvm.Cond.methodLink "TapTerminal$Items" (46 : Nat) ({ cls := "TapTerminal$Items", name := "keepFirst", desc := "(ILTapTerminal$Row;II)V" } : Jvm.MethodName)) ∈ am_kw := am_in3 (List.mem_of_getElem? (i := 70) rfl) rfl
theorem kw_3_72 : (Jvm.Cond.instanceMethod ({ cls := "TapTerminal$Items", name := "keepFirst", desc := "(ILTapTerminal$Row;II)V" } : Jvm.MethodName)) ∈ am_kw := am_in3 (List.mem_of_getElem? (i := 72) rfl) rfl
theorem kw_0_12 : (Jvm.Cond.selects "TapTerminal$Items" ({ cls := "TapTerminal$Items", name := "keepFirst", desc := "(ILTapTerminal$Row;II)V" } : Jvm.MethodName) ({ cls := "TapTerminal$Items", name := "keepFirst", desc := "(ILTapTerminal$Row;II)V" } : Jvm.MethodName)) ∈ am_kw := am_in0 (List.mem_of_getElem? (i := 12) rfl) rfl
theorem mp_5_46 : am_mP 5 46 (42, 0, 4) := am_m0 q_Items_keepFirst rfl (by decide +kernel) kw_3_70 kw_3_72 kw_0_12
theorem kw_3_75 : (Jvm.Cond.static ({ cls := "TapTerminal$Items", name := "isLength", desc := "(II)Z" } : Jvm.MethodName)) ∈ am_kw := am_in3 (List.mem_of_getElem? (i := 75) rfl) rfl
theorem kw_3_74 : (Jvm.Cond.methodLink "TapTerminal$Items" (50 : Nat) ({ cls := "TapTerminal$Items", name := "isLength", desc := "(II)Z" } : Jvm.MethodName)) ∈ am_kw := am_in3 (List.mem_of_getElem? (i := 74) rfl) rfl
theorem mp_5_50 : am_mP 5 50 (43, 2, 2) := am_m2 q_Items_isLength rfl (by decide +kernel) kw_3_74 kw_3_75
theorem kw_3_77 : (Jvm.Cond.methodLink "TapTerminal$Items" (54 : Nat) ({ cls := "TapTerminal$Row", name := "addPart", desc := "(LTapTerminal$Row;II)V" } : Jvm.MethodName)) ∈ am_kw := am_in3 (List.mem_of_getElem? (i := 77) rfl) rfl
theorem mp_5_54 : am_mP 5 54 (4, 0, 3) := am_m0 q_Row_addPart rfl (by decide +kernel) kw_3_77 kw_2_228 kw_2_229
theorem kw_3_78 : (Jvm.Cond.methodLink "TapTerminal" (136 : Nat) ({ cls := "TapTerminal", name := "settle", desc := "(III)I" } : Jvm.MethodName)) ∈ am_kw := am_in3 (List.mem_of_getElem? (i := 78) rfl) rfl
theorem kw_3_80 : (Jvm.Cond.instanceMethod ({ cls := "TapTerminal", name := "settle", desc := "(III)I" } : Jvm.MethodName)) ∈ am_kw := am_in3 (List.mem_of_getElem? (i := 80) rfl) rfl
theorem kw_0_13 : (Jvm.Cond.selects "TapTerminal" ({ cls := "TapTerminal", name := "settle", desc := "(III)I" } : Jvm.MethodName) ({ cls := "TapTerminal", name := "settle", desc := "(III)I" } : Jvm.MethodName)) ∈ am_kw := am_in0 (List.mem_of_getElem? (i := 13) rfl) rfl
theorem mp_8_136 : am_mP 8 136 (69, 0, 3) := am_m0 q_Tap_settle rfl (by decide +kernel) kw_3_78 kw_3_80 kw_0_13
theorem kw_3_82 : (Jvm.Cond.methodLink "TapTerminal" (243 : Nat) ({ cls := "TapTerminal$Settings", name := "findingsOf", desc := "(LTapTerminal$Items;III)I" } : Jvm.MethodName)) ∈ am_kw := am_in3 (List.mem_of_getElem? (i := 82) rfl) rfl
theorem kw_3_83 : (Jvm.Cond.instanceMethod ({ cls := "TapTerminal$Settings", name := "findingsOf", desc := "(LTapTerminal$Items;III)I" } : Jvm.MethodName)) ∈ am_kw := am_in3 (List.mem_of_getElem? (i := 83) rfl) rfl
theorem kw_3_84 : (Jvm.Cond.selects "TapTerminal$Settings" ({ cls := "TapTerminal$Settings", name := "findingsOf", desc := "(LTapTerminal$Items;III)I" } : Jvm.MethodName) ({ cls := "TapTerminal$Settings", name := "findingsOf", desc := "(LTapTerminal$Items;III)I" } : Jvm.MethodName)) ∈ am_kw := am_in3 (List.mem_of_getElem? (i := 84) rfl) rfl
theorem mp_8_243 : am_mP 8 243 (46, 0, 4) := am_m0 q_Settings_findingsOf rfl (by decide +kernel) kw_3_82 kw_3_83 kw_3_84
theorem kw_3_86 : (Jvm.Cond.methodLink "TapTerminal$Settings" (19 : Nat) ({ cls := "TapTerminal$Settings", name := "isSigned", desc := "(LTapTerminal$Items;)Z" } : Jvm.MethodName)) ∈ am_kw := am_in3 (List.mem_of_getElem? (i := 86) rfl) rfl
theorem kw_3_88 : (Jvm.Cond.instanceMethod ({ cls := "TapTerminal$Settings", name := "isSigned", desc := "(LTapTerminal$Items;)Z" } : Jvm.MethodName)) ∈ am_kw := am_in3 (List.mem_of_getElem? (i := 88) rfl) rfl
theorem kw_0_14 : (Jvm.Cond.selects "TapTerminal$Settings" ({ cls := "TapTerminal$Settings", name := "isSigned", desc := "(LTapTerminal$Items;)Z" } : Jvm.MethodName) ({ cls := "TapTerminal$Settings", name := "isSigned", desc := "(LTapTerminal$Items;)Z" } : Jvm.MethodName)) ∈ am_kw := am_in0 (List.mem_of_getElem? (i := 14) rfl) rfl
theorem mp_6_19 : am_mP 6 19 (48, 0, 1) := am_m0 q_Settings_isSigned rfl (by decide +kernel) kw_3_86 kw_3_88 kw_0_14
theorem kw_3_90 : (Jvm.Cond.methodLink "TapTerminal$Settings" (55 : Nat) ({ cls := "TapTerminal$Row", name := "stirInto", desc := "(I)I" } : Jvm.MethodName)) ∈ am_kw := am_in3 (List.mem_of_getElem? (i := 90) rfl) rfl
theorem kw_3_91 : (Jvm.Cond.instanceMethod ({ cls := "TapTerminal$Row", name := "stirInto", desc := "(I)I" } : Jvm.MethodName)) ∈ am_kw := am_in3 (List.mem_of_getElem? (i := 91) rfl) rfl
theorem kw_3_92 : (Jvm.Cond.selects "TapTerminal$Row" ({ cls := "TapTerminal$Row", name := "stirInto", desc := "(I)I" } : Jvm.MethodName) ({ cls := "TapTerminal$Row", name := "stirInto", desc := "(I)I" } : Jvm.MethodName)) ∈ am_kw := am_in3 (List.mem_of_getElem? (i := 92) rfl) rfl
theorem mp_6_55 : am_mP 6 55 (8, 0, 1) := am_m0 q_Row_stirInto rfl (by decide +kernel) kw_3_90 kw_3_91 kw_3_92
theorem mp_0_25 : am_mP 0 25 (74, 3, 2) := am_m3 q_Tap_stir rfl (by decide +kernel) "TapTerminal" (List.mem_of_getElem? (i := 2) rfl) kw_3_33
theorem kw_3_95 : (Jvm.Cond.methodLink "TapTerminal$Settings" (58 : Nat) ({ cls := "TapTerminal$Row", name := "intAt", desc := "(I)I" } : Jvm.MethodName)) ∈ am_kw := am_in3 (List.mem_of_getElem? (i := 95) rfl) rfl
theorem mp_6_58 : am_mP 6 58 (7, 0, 1) := am_m0 q_Row_intAt rfl (by decide +kernel) kw_3_95 kw_3_20 kw_3_21
theorem kw_3_96 : (Jvm.Cond.methodLink "TapTerminal$Settings" (29 : Nat) ({ cls := "TapTerminal$Row", name := "pairAt", desc := "(I)I" } : Jvm.MethodName)) ∈ am_kw := am_in3 (List.mem_of_getElem? (i := 96) rfl) rfl
theorem kw_3_97 : (Jvm.Cond.instanceMethod ({ cls := "TapTerminal$Row", name := "pairAt", desc := "(I)I" } : Jvm.MethodName)) ∈ am_kw := am_in3 (List.mem_of_getElem? (i := 97) rfl) rfl
theorem kw_3_98 : (Jvm.Cond.selects "TapTerminal$Row" ({ cls := "TapTerminal$Row", name := "pairAt", desc := "(I)I" } : Jvm.MethodName) ({ cls := "TapTerminal$Row", name := "pairAt", desc := "(I)I" } : Jvm.MethodName)) ∈ am_kw := am_in3 (List.mem_of_getElem? (i := 98) rfl) rfl
theorem mp_6_29 : am_mP 6 29 (6, 0, 1) := am_m0 q_Row_pairAt rfl (by decide +kernel) kw_3_96 kw_3_97 kw_3_98
theorem kw_3_100 : (Jvm.Cond.methodLink "TapTerminal$Settings" (39 : Nat) ({ cls := "TapTerminal$Row", name := "at", desc := "(I)I" } : Jvm.MethodName)) ∈ am_kw := am_in3 (List.mem_of_getElem? (i := 100) rfl) rfl
theorem mp_6_39 : am_mP 6 39 (5, 0, 1) := am_m0 q_Row_at rfl (by decide +kernel) kw_3_100 kw_2_232 kw_2_233
theorem kw_3_101 : (Jvm.Cond.methodLink "TapTerminal$Settings" (48 : Nat) ({ cls := "TapTerminal$Settings", name := "someWayGoes", desc := "(LTapTerminal$Row;Z)Z" } : Jvm.MethodName)) ∈ am_kw := am_in3 (List.mem_of_getElem? (i := 101) rfl) rfl
theorem kw_3_103 : (Jvm.Cond.instanceMethod ({ cls := "TapTerminal$Settings", name := "someWayGoes", desc := "(LTapTerminal$Row;Z)Z" } : Jvm.MethodName)) ∈ am_kw := am_in3 (List.mem_of_getElem? (i := 103) rfl) rfl
theorem kw_0_15 : (Jvm.Cond.selects "TapTerminal$Settings" ({ cls := "TapTerminal$Settings", name := "someWayGoes", desc := "(LTapTerminal$Row;Z)Z" } : Jvm.MethodName) ({ cls := "TapTerminal$Settings", name := "someWayGoes", desc := "(LTapTerminal$Row;Z)Z" } : Jvm.MethodName)) ∈ am_kw := am_in0 (List.mem_of_getElem? (i := 15) rfl) rfl
theorem mp_6_48 : am_mP 6 48 (49, 0, 2) := am_m0 q_Settings_someWayGoes rfl (by decide +kernel) kw_3_101 kw_3_103 kw_0_15
theorem kw_3_106 : (Jvm.Cond.static ({ cls := "TapTerminal$Settings", name := "isNow", desc := "(IZ)Z" } : Jvm.MethodName)) ∈ am_kw := am_in3 (List.mem_of_getElem? (i := 106) rfl) rfl
theorem kw_3_105 : (Jvm.Cond.methodLink "TapTerminal$Settings" (64 : Nat) ({ cls := "TapTerminal$Settings", name := "isNow", desc := "(IZ)Z" } : Jvm.MethodName)) ∈ am_kw := am_in3 (List.mem_of_getElem? (i := 105) rfl) rfl
theorem mp_6_64 : am_mP 6 64 (50, 2, 2) := am_m2 q_Settings_isNow rfl (by decide +kernel) kw_3_105 kw_3_106
theorem kw_3_108 : (Jvm.Cond.methodLink "TapTerminal$Settings" (68 : Nat) ({ cls := "TapTerminal$Settings", name := "hasWay", desc := "(I)Z" } : Jvm.MethodName)) ∈ am_kw := am_in3 (List.mem_of_getElem? (i := 108) rfl) rfl
theorem kw_3_110 : (Jvm.Cond.instanceMethod ({ cls := "TapTerminal$Settings", name := "hasWay", desc := "(I)Z" } : Jvm.MethodName)) ∈ am_kw := am_in3 (List.mem_of_getElem? (i := 110) rfl) rfl
theorem kw_0_16 : (Jvm.Cond.selects "TapTerminal$Settings" ({ cls := "TapTerminal$Settings", name := "hasWay", desc := "(I)Z" } : Jvm.MethodName) ({ cls := "TapTerminal$Settings", name := "hasWay", desc := "(I)Z" } : Jvm.MethodName)) ∈ am_kw := am_in0 (List.mem_of_getElem? (i := 16) rfl) rfl
theorem mp_6_68 : am_mP 6 68 (51, 0, 1) := am_m0 q_Settings_hasWay rfl (by decide +kernel) kw_3_108 kw_3_110 kw_0_16
theorem kw_3_112 : (Jvm.Cond.methodLink "TapTerminal" (250 : Nat) ({ cls := "TapTerminal$Settings", name := "typeFor", desc := "(ILTapTerminal$Row;)I" } : Jvm.MethodName)) ∈ am_kw := am_in3 (List.mem_of_getElem? (i := 112) rfl) rfl
theorem kw_3_113 : (Jvm.Cond.instanceMethod ({ cls := "TapTerminal$Settings", name := "typeFor", desc := "(ILTapTerminal$Row;)I" } : Jvm.MethodName)) ∈ am_kw := am_in3 (List.mem_of_getElem? (i := 113) rfl) rfl
theorem kw_3_114 : (Jvm.Cond.selects "TapTerminal$Settings" ({ cls := "TapTerminal$Settings", name := "typeFor", desc := "(ILTapTerminal$Row;)I" } : Jvm.MethodName) ({ cls := "TapTerminal$Settings", name := "typeFor", desc := "(ILTapTerminal$Row;)I" } : Jvm.MethodName)) ∈ am_kw := am_in3 (List.mem_of_getElem? (i := 114) rfl) rfl
theorem mp_8_250 : am_mP 8 250 (47, 0, 2) := am_m0 q_Settings_typeFor rfl (by decide +kernel) kw_3_112 kw_3_113 kw_3_114
theorem kw_3_116 : (Jvm.Cond.methodLink "TapTerminal" (254 : Nat) ({ cls := "TapTerminal$Row", name := "pairAt", desc := "(I)I" } : Jvm.MethodName)) ∈ am_kw := am_in3 (List.mem_of_getElem? (i := 116) rfl) rfl
theorem mp_8_254 : am_mP 8 254 (6, 0, 1) := am_m0 q_Row_pairAt rfl (by decide +kernel) kw_3_116 kw_3_97 kw_3_98
theorem kw_3_117 : (Jvm.Cond.methodLink "TapTerminal" (257 : Nat) ({ cls := "TapTerminal$Row", name := "intAt", desc := "(I)I" } : Jvm.MethodName)) ∈ am_kw := am_in3 (List.mem_of_getElem? (i := 117) rfl) rfl
theorem mp_8_257 : am_mP 8 257 (7, 0, 1) := am_m0 q_Row_intAt rfl (by decide +kernel) kw_3_117 kw_3_20 kw_3_21
theorem kw_3_130 : (Jvm.Cond.methodLink "TapTerminal" (188 : Nat) ({ cls := "TapTerminal$Card", name := "countRecords", desc := "()I" } : Jvm.MethodName)) ∈ am_kw := am_in3 (List.mem_of_getElem? (i := 130) rfl) rfl
theorem mp_8_188 : am_mP 8 188 (14, 0, 0) := am_m0 q_Card_countRecords rfl (by decide +kernel) kw_3_130 kw_3_11 kw_3_12
theorem kw_3_135 : (Jvm.Cond.methodLink "TapTerminal" (191 : Nat) ({ cls := "TapTerminal", name := "stir", desc := "(II)I" } : Jvm.MethodName)) ∈ am_kw := am_in3 (List.mem_of_getElem? (i := 135) rfl) rfl
theorem mp_8_191 : am_mP 8 191 (74, 2, 2) := am_m2 q_Tap_stir rfl (by decide +kernel) kw_3_135 kw_3_33
theorem kw_3_141 : (Jvm.Cond.methodLink "TapTerminalModel" (1 : Nat) ({ cls := "java/lang/Object", name := "<init>", desc := "()V" } : Jvm.MethodName)) ∈ am_kw := am_in3 (List.mem_of_getElem? (i := 141) rfl) rfl
theorem mp_9_1 : am_mP 9 1 (0, 6, 0) := am_m6 kw_3_141
theorem kw_4_70 : (Jvm.Cond.static ({ cls := "TapTerminalModel", name := "is", desc := "(III)Z" } : Jvm.MethodName)) ∈ am_kw := am_in4 (List.mem_of_getElem? (i := 70) rfl) rfl
theorem kw_4_69 : (Jvm.Cond.methodLink "TapTerminalModel" (106 : Nat) ({ cls := "TapTerminalModel", name := "is", desc := "(III)Z" } : Jvm.MethodName)) ∈ am_kw := am_in4 (List.mem_of_getElem? (i := 69) rfl) rfl
theorem mp_9_106 : am_mP 9 106 (76, 2, 3) := am_m2 q_Mod_is rfl (by decide +kernel) kw_4_69 kw_4_70
theorem kw_4_77 : (Jvm.Cond.methodLink "TapTerminalModel" (112 : Nat) ({ cls := "TapTerminalModel", name := "isCard", desc := "(I)Z" } : Jvm.MethodName)) ∈ am_kw := am_in4 (List.mem_of_getElem? (i := 77) rfl) rfl
theorem kw_4_79 : (Jvm.Cond.instanceMethod ({ cls := "TapTerminalModel", name := "isCard", desc := "(I)Z" } : Jvm.MethodName)) ∈ am_kw := am_in4 (List.mem_of_getElem? (i := 79) rfl) rfl
theorem kw_0_17 : (Jvm.Cond.selects "TapTerminalModel" ({ cls := "TapTerminalModel", name := "isCard", desc := "(I)Z" } : Jvm.MethodName) ({ cls := "TapTerminalModel", name := "isCard", desc := "(I)Z" } : Jvm.MethodName)) ∈ am_kw := am_in0 (List.mem_of_getElem? (i := 17) rfl) rfl
theorem mp_9_112 : am_mP 9 112 (77, 0, 1) := am_m0 q_Mod_isCard rfl (by decide +kernel) kw_4_77 kw_4_79 kw_0_17
theorem kw_4_105 : (Jvm.Cond.methodLink "TapTerminalModel" (219 : Nat) ({ cls := "TapTerminalModel", name := "goes", desc := "(III)I" } : Jvm.MethodName)) ∈ am_kw := am_in4 (List.mem_of_getElem? (i := 105) rfl) rfl
theorem kw_4_107 : (Jvm.Cond.instanceMethod ({ cls := "TapTerminalModel", name := "goes", desc := "(III)I" } : Jvm.MethodName)) ∈ am_kw := am_in4 (List.mem_of_getElem? (i := 107) rfl) rfl
theorem kw_0_18 : (Jvm.Cond.selects "TapTerminalModel" ({ cls := "TapTerminalModel", name := "goes", desc := "(III)I" } : Jvm.MethodName) ({ cls := "TapTerminalModel", name := "goes", desc := "(III)I" } : Jvm.MethodName)) ∈ am_kw := am_in0 (List.mem_of_getElem? (i := 18) rfl) rfl
theorem mp_9_219 : am_mP 9 219 (101, 0, 3) := am_m0 q_Mod_goes rfl (by decide +kernel) kw_4_105 kw_4_107 kw_0_18
theorem kw_4_109 : (Jvm.Cond.methodLink "TapTerminalModel" (223 : Nat) ({ cls := "TapTerminalModel", name := "wake", desc := "()Z" } : Jvm.MethodName)) ∈ am_kw := am_in4 (List.mem_of_getElem? (i := 109) rfl) rfl
theorem kw_4_111 : (Jvm.Cond.instanceMethod ({ cls := "TapTerminalModel", name := "wake", desc := "()Z" } : Jvm.MethodName)) ∈ am_kw := am_in4 (List.mem_of_getElem? (i := 111) rfl) rfl
theorem kw_0_19 : (Jvm.Cond.selects "TapTerminalModel" ({ cls := "TapTerminalModel", name := "wake", desc := "()Z" } : Jvm.MethodName) ({ cls := "TapTerminalModel", name := "wake", desc := "()Z" } : Jvm.MethodName)) ∈ am_kw := am_in0 (List.mem_of_getElem? (i := 19) rfl) rfl
theorem mp_9_223 : am_mP 9 223 (97, 0, 0) := am_m0 q_Mod_wake rfl (by decide +kernel) kw_4_109 kw_4_111 kw_0_19
theorem kw_4_113 : (Jvm.Cond.methodLink "TapTerminalModel" (190 : Nat) ({ cls := "TapTerminalModel", name := "faultNow", desc := "()I" } : Jvm.MethodName)) ∈ am_kw := am_in4 (List.mem_of_getElem? (i := 113) rfl) rfl
theorem kw_4_115 : (Jvm.Cond.instanceMethod ({ cls := "TapTerminalModel", name := "faultNow", desc := "()I" } : Jvm.MethodName)) ∈ am_kw := am_in4 (List.mem_of_getElem? (i := 115) rfl) rfl
theorem kw_0_20 : (Jvm.Cond.selects "TapTerminalModel" ({ cls := "TapTerminalModel", name := "faultNow", desc := "()I" } : Jvm.MethodName) ({ cls := "TapTerminalModel", name := "faultNow", desc := "()I" } : Jvm.MethodName)) ∈ am_kw := am_in0 (List.mem_of_getElem? (i := 20) rfl) rfl
theorem mp_9_190 : am_mP 9 190 (86, 0, 0) := am_m0 q_Mod_faultNow rfl (by decide +kernel) kw_4_113 kw_4_115 kw_0_20
theorem kw_4_117 : (Jvm.Cond.methodLink "TapTerminalModel" (200 : Nat) ({ cls := "TapTerminalModel", name := "note", desc := "(IIZ)Z" } : Jvm.MethodName)) ∈ am_kw := am_in4 (List.mem_of_getElem? (i := 117) rfl) rfl
theorem kw_4_119 : (Jvm.Cond.instanceMethod ({ cls := "TapTerminalModel", name := "note", desc := "(IIZ)Z" } : Jvm.MethodName)) ∈ am_kw := am_in4 (List.mem_of_getElem? (i := 119) rfl) rfl
theorem kw_0_21 : (Jvm.Cond.selects "TapTerminalModel" ({ cls := "TapTerminalModel", name := "note", desc := "(IIZ)Z" } : Jvm.MethodName) ({ cls := "TapTerminalModel", name := "note", desc := "(IIZ)Z" } : Jvm.MethodName)) ∈ am_kw := am_in0 (List.mem_of_getElem? (i := 21) rfl) rfl
theorem mp_9_200 : am_mP 9 200 (87, 0, 3) := am_m0 q_Mod_note rfl (by decide +kernel) kw_4_117 kw_4_119 kw_0_21
theorem kw_4_121 : (Jvm.Cond.methodLink "TapTerminalModel" (227 : Nat) ({ cls := "TapTerminalModel", name := "ask", desc := "()I" } : Jvm.MethodName)) ∈ am_kw := am_in4 (List.mem_of_getElem? (i := 121) rfl) rfl
theorem kw_4_123 : (Jvm.Cond.instanceMethod ({ cls := "TapTerminalModel", name := "ask", desc := "()I" } : Jvm.MethodName)) ∈ am_kw := am_in4 (List.mem_of_getElem? (i := 123) rfl) rfl
theorem kw_0_22 : (Jvm.Cond.selects "TapTerminalModel" ({ cls := "TapTerminalModel", name := "ask", desc := "()I" } : Jvm.MethodName) ({ cls := "TapTerminalModel", name := "ask", desc := "()I" } : Jvm.MethodName)) ∈ am_kw := am_in0 (List.mem_of_getElem? (i := 22) rfl) rfl
theorem mp_9_227 : am_mP 9 227 (98, 0, 0) := am_m0 q_Mod_ask rfl (by decide +kernel) kw_4_121 kw_4_123 kw_0_22
theorem kw_4_125 : (Jvm.Cond.methodLink "TapTerminalModel" (230 : Nat) ({ cls := "TapTerminalModel", name := "call", desc := "(II)Z" } : Jvm.MethodName)) ∈ am_kw := am_in4 (List.mem_of_getElem? (i := 125) rfl) rfl
theorem kw_4_127 : (Jvm.Cond.instanceMethod ({ cls := "TapTerminalModel", name := "call", desc := "(II)Z" } : Jvm.MethodName)) ∈ am_kw := am_in4 (List.mem_of_getElem? (i := 127) rfl) rfl
theorem kw_0_23 : (Jvm.Cond.selects "TapTerminalModel" ({ cls := "TapTerminalModel", name := "call", desc := "(II)Z" } : Jvm.MethodName) ({ cls := "TapTerminalModel", name := "call", desc := "(II)Z" } : Jvm.MethodName)) ∈ am_kw := am_in0 (List.mem_of_getElem? (i := 23) rfl) rfl
theorem mp_9_230 : am_mP 9 230 (99, 0, 2) := am_m0 q_Mod_call rfl (by decide +kernel) kw_4_125 kw_4_127 kw_0_23
theorem kw_4_129 : (Jvm.Cond.methodLink "TapTerminalModel" (234 : Nat) ({ cls := "TapTerminalModel", name := "talk", desc := "()Z" } : Jvm.MethodName)) ∈ am_kw := am_in4 (List.mem_of_getElem? (i := 129) rfl) rfl
theorem kw_4_131 : (Jvm.Cond.instanceMethod ({ cls := "TapTerminalModel", name := "talk", desc := "()Z" } : Jvm.MethodName)) ∈ am_kw := am_in4 (List.mem_of_getElem? (i := 131) rfl) rfl
theorem kw_0_24 : (Jvm.Cond.selects "TapTerminalModel" ({ cls := "TapTerminalModel", name := "talk", desc := "()Z" } : Jvm.MethodName) ({ cls := "TapTerminalModel", name := "talk", desc := "()Z" } : Jvm.MethodName)) ∈ am_kw := am_in0 (List.mem_of_getElem? (i := 24) rfl) rfl
theorem mp_9_234 : am_mP 9 234 (94, 0, 0) := am_m0 q_Mod_talk rfl (by decide +kernel) kw_4_129 kw_4_131 kw_0_24
theorem kw_4_133 : (Jvm.Cond.methodLink "TapTerminalModel" (196 : Nat) ({ cls := "TapTerminalModel", name := "hear", desc := "(IIIIZ)V" } : Jvm.MethodName)) ∈ am_kw := am_in4 (List.mem_of_getElem? (i := 133) rfl) rfl
theorem kw_4_135 : (Jvm.Cond.instanceMethod ({ cls := "TapTerminalModel", name := "hear", desc := "(IIIIZ)V" } : Jvm.MethodName)) ∈ am_kw := am_in4 (List.mem_of_getElem? (i := 135) rfl) rfl
theorem kw_0_25 : (Jvm.Cond.selects "TapTerminalModel" ({ cls := "TapTerminalModel", name := "hear", desc := "(IIIIZ)V" } : Jvm.MethodName) ({ cls := "TapTerminalModel", name := "hear", desc := "(IIIIZ)V" } : Jvm.MethodName)) ∈ am_kw := am_in0 (List.mem_of_getElem? (i := 25) rfl) rfl
theorem mp_9_196 : am_mP 9 196 (89, 0, 5) := am_m0 q_Mod_hear rfl (by decide +kernel) kw_4_133 kw_4_135 kw_0_25
theorem kw_4_137 : (Jvm.Cond.methodLink "TapTerminalModel" (158 : Nat) ({ cls := "TapTerminalModel", name := "saySize", desc := "()I" } : Jvm.MethodName)) ∈ am_kw := am_in4 (List.mem_of_getElem? (i := 137) rfl) rfl
theorem kw_4_139 : (Jvm.Cond.instanceMethod ({ cls := "TapTerminalModel", name := "saySize", desc := "()I" } : Jvm.MethodName)) ∈ am_kw := am_in4 (List.mem_of_getElem? (i := 139) rfl) rfl
theorem kw_0_26 : (Jvm.Cond.selects "TapTerminalModel" ({ cls := "TapTerminalModel", name := "saySize", desc := "()I" } : Jvm.MethodName) ({ cls := "TapTerminalModel", name := "saySize", desc := "()I" } : Jvm.MethodName)) ∈ am_kw := am_in0 (List.mem_of_getElem? (i := 26) rfl) rfl
theorem mp_9_158 : am_mP 9 158 (88, 0, 0) := am_m0 q_Mod_saySize rfl (by decide +kernel) kw_4_137 kw_4_139 kw_0_26
theorem kw_4_141 : (Jvm.Cond.methodLink "TapTerminalModel" (165 : Nat) ({ cls := "TapTerminalModel", name := "command", desc := "()V" } : Jvm.MethodName)) ∈ am_kw := am_in4 (List.mem_of_getElem? (i := 141) rfl) rfl
theorem kw_4_143 : (Jvm.Cond.instanceMethod ({ cls := "TapTerminalModel", name := "command", desc := "()V" } : Jvm.MethodName)) ∈ am_kw := am_in4 (List.mem_of_getElem? (i := 143) rfl) rfl
theorem kw_0_27 : (Jvm.Cond.selects "TapTerminalModel" ({ cls := "TapTerminalModel", name := "command", desc := "()V" } : Jvm.MethodName) ({ cls := "TapTerminalModel", name := "command", desc := "()V" } : Jvm.MethodName)) ∈ am_kw := am_in0 (List.mem_of_getElem? (i := 27) rfl) rfl
theorem mp_9_165 : am_mP 9 165 (91, 0, 0) := am_m0 q_Mod_command rfl (by decide +kernel) kw_4_141 kw_4_143 kw_0_27
theorem kw_4_145 : (Jvm.Cond.methodLink "TapTerminalModel" (168 : Nat) ({ cls := "TapTerminalModel", name := "manyOf", desc := "(I)I" } : Jvm.MethodName)) ∈ am_kw := am_in4 (List.mem_of_getElem? (i := 145) rfl) rfl
theorem kw_4_147 : (Jvm.Cond.instanceMethod ({ cls := "TapTerminalModel", name := "manyOf", desc := "(I)I" } : Jvm.MethodName)) ∈ am_kw := am_in4 (List.mem_of_getElem? (i := 147) rfl) rfl
theorem kw_0_28 : (Jvm.Cond.selects "TapTerminalModel" ({ cls := "TapTerminalModel", name := "manyOf", desc := "(I)I" } : Jvm.MethodName) ({ cls := "TapTerminalModel", name := "manyOf", desc := "(I)I" } : Jvm.MethodName)) ∈ am_kw := am_in0 (List.mem_of_getElem? (i := 28) rfl) rfl
theorem mp_9_168 : am_mP 9 168 (92, 0, 1) := am_m0 q_Mod_manyOf rfl (by decide +kernel) kw_4_145 kw_4_147 kw_0_28
theorem kw_4_149 : (Jvm.Cond.methodLink "TapTerminalModel" (172 : Nat) ({ cls := "TapTerminalModel", name := "decide", desc := "(I)V" } : Jvm.MethodName)) ∈ am_kw := am_in4 (List.mem_of_getElem? (i := 149) rfl) rfl
theorem kw_4_151 : (Jvm.Cond.instanceMethod ({ cls := "TapTerminalModel", name := "decide", desc := "(I)V" } : Jvm.MethodName)) ∈ am_kw := am_in4 (List.mem_of_getElem? (i := 151) rfl) rfl
theorem kw_0_29 : (Jvm.Cond.selects "TapTerminalModel" ({ cls := "TapTerminalModel", name := "decide", desc := "(I)V" } : Jvm.MethodName) ({ cls := "TapTerminalModel", name := "decide", desc := "(I)V" } : Jvm.MethodName)) ∈ am_kw := am_in0 (List.mem_of_getElem? (i := 29) rfl) rfl
theorem mp_9_172 : am_mP 9 172 (93, 0, 1) := am_m0 q_Mod_decide rfl (by decide +kernel) kw_4_149 kw_4_151 kw_0_29
theorem kw_4_153 : (Jvm.Cond.methodLink "TapTerminalModel" (176 : Nat) ({ cls := "TapTerminalModel", name := "four", desc := "(I)I" } : Jvm.MethodName)) ∈ am_kw := am_in4 (List.mem_of_getElem? (i := 153) rfl) rfl
theorem kw_4_155 : (Jvm.Cond.instanceMethod ({ cls := "TapTerminalModel", name := "four", desc := "(I)I" } : Jvm.MethodName)) ∈ am_kw := am_in4 (List.mem_of_getElem? (i := 155) rfl) rfl
theorem kw_0_30 : (Jvm.Cond.selects "TapTerminalModel" ({ cls := "TapTerminalModel", name := "four", desc := "(I)I" } : Jvm.MethodName) ({ cls := "TapTerminalModel", name := "four", desc := "(I)I" } : Jvm.MethodName)) ∈ am_kw := am_in0 (List.mem_of_getElem? (i := 30) rfl) rfl
theorem mp_9_176 : am_mP 9 176 (90, 0, 1) := am_m0 q_Mod_four rfl (by decide +kernel) kw_4_153 kw_4_155 kw_0_30
theorem kw_4_159 : (Jvm.Cond.static ({ cls := "TapTerminalModel", name := "stir", desc := "(II)I" } : Jvm.MethodName)) ∈ am_kw := am_in4 (List.mem_of_getElem? (i := 159) rfl) rfl
theorem kw_4_158 : (Jvm.Cond.methodLink "TapTerminalModel" (180 : Nat) ({ cls := "TapTerminalModel", name := "stir", desc := "(II)I" } : Jvm.MethodName)) ∈ am_kw := am_in4 (List.mem_of_getElem? (i := 158) rfl) rfl
theorem mp_9_180 : am_mP 9 180 (78, 2, 2) := am_m2 q_Mod_stir rfl (by decide +kernel) kw_4_158 kw_4_159
theorem kw_4_162 : (Jvm.Cond.methodLink "TapTerminalModel" (237 : Nat) ({ cls := "TapTerminalModel", name := "put", desc := "(I)V" } : Jvm.MethodName)) ∈ am_kw := am_in4 (List.mem_of_getElem? (i := 162) rfl) rfl
theorem kw_4_164 : (Jvm.Cond.instanceMethod ({ cls := "TapTerminalModel", name := "put", desc := "(I)V" } : Jvm.MethodName)) ∈ am_kw := am_in4 (List.mem_of_getElem? (i := 164) rfl) rfl
theorem kw_0_31 : (Jvm.Cond.selects "TapTerminalModel" ({ cls := "TapTerminalModel", name := "put", desc := "(I)V" } : Jvm.MethodName) ({ cls := "TapTerminalModel", name := "put", desc := "(I)V" } : Jvm.MethodName)) ∈ am_kw := am_in0 (List.mem_of_getElem? (i := 31) rfl) rfl
theorem mp_9_237 : am_mP 9 237 (96, 0, 1) := am_m0 q_Mod_put rfl (by decide +kernel) kw_4_162 kw_4_164 kw_0_31
theorem kw_4_166 : (Jvm.Cond.methodLink "TapTerminalModel" (240 : Nat) ({ cls := "TapTerminalModel", name := "say", desc := "(II)V" } : Jvm.MethodName)) ∈ am_kw := am_in4 (List.mem_of_getElem? (i := 166) rfl) rfl
theorem kw_4_168 : (Jvm.Cond.instanceMethod ({ cls := "TapTerminalModel", name := "say", desc := "(II)V" } : Jvm.MethodName)) ∈ am_kw := am_in4 (List.mem_of_getElem? (i := 168) rfl) rfl
theorem kw_0_32 : (Jvm.Cond.selects "TapTerminalModel" ({ cls := "TapTerminalModel", name := "say", desc := "(II)V" } : Jvm.MethodName) ({ cls := "TapTerminalModel", name := "say", desc := "(II)V" } : Jvm.MethodName)) ∈ am_kw := am_in0 (List.mem_of_getElem? (i := 32) rfl) rfl
theorem mp_9_240 : am_mP 9 240 (95, 0, 2) := am_m0 q_Mod_say rfl (by decide +kernel) kw_4_166 kw_4_168 kw_0_32
theorem kw_4_170 : (Jvm.Cond.methodLink "TapTerminalModel" (244 : Nat) ({ cls := "TapTerminalModel", name := "takeApart", desc := "(I)Z" } : Jvm.MethodName)) ∈ am_kw := am_in4 (List.mem_of_getElem? (i := 170) rfl) rfl
theorem kw_4_172 : (Jvm.Cond.instanceMethod ({ cls := "TapTerminalModel", name := "takeApart", desc := "(I)Z" } : Jvm.MethodName)) ∈ am_kw := am_in4 (List.mem_of_getElem? (i := 172) rfl) rfl
theorem kw_0_33 : (Jvm.Cond.selects "TapTerminalModel" ({ cls := "TapTerminalModel", name := "takeApart", desc := "(I)Z" } : Jvm.MethodName) ({ cls := "TapTerminalModel", name := "takeApart", desc := "(I)Z" } : Jvm.MethodName)) ∈ am_kw := am_in0 (List.mem_of_getElem? (i := 33) rfl) rfl
theorem mp_9_244 : am_mP 9 244 (102, 0, 1) := am_m0 q_Mod_takeApart rfl (by decide +kernel) kw_4_170 kw_4_172 kw_0_33
theorem kw_4_174 : (Jvm.Cond.methodLink "TapTerminalModel" (254 : Nat) ({ cls := "TapTerminalModel", name := "items", desc := "(I)Z" } : Jvm.MethodName)) ∈ am_kw := am_in4 (List.mem_of_getElem? (i := 174) rfl) rfl
theorem kw_4_176 : (Jvm.Cond.instanceMethod ({ cls := "TapTerminalModel", name := "items", desc := "(I)Z" } : Jvm.MethodName)) ∈ am_kw := am_in4 (List.mem_of_getElem? (i := 176) rfl) rfl
theorem kw_0_34 : (Jvm.Cond.selects "TapTerminalModel" ({ cls := "TapTerminalModel", name := "items", desc := "(I)Z" } : Jvm.MethodName) ({ cls := "TapTerminalModel", name := "items", desc := "(I)Z" } : Jvm.MethodName)) ∈ am_kw := am_in0 (List.mem_of_getElem? (i := 34) rfl) rfl
theorem mp_9_254 : am_mP 9 254 (103, 0, 1) := am_m0 q_Mod_items rfl (by decide +kernel) kw_4_174 kw_4_176 kw_0_34
theorem kw_4_178 : (Jvm.Cond.methodLink "TapTerminalModel" (247 : Nat) ({ cls := "TapTerminalModel", name := "find", desc := "(III)V" } : Jvm.MethodName)) ∈ am_kw := am_in4 (List.mem_of_getElem? (i := 178) rfl) rfl
theorem kw_4_180 : (Jvm.Cond.instanceMethod ({ cls := "TapTerminalModel", name := "find", desc := "(III)V" } : Jvm.MethodName)) ∈ am_kw := am_in4 (List.mem_of_getElem? (i := 180) rfl) rfl
theorem kw_0_35 : (Jvm.Cond.selects "TapTerminalModel" ({ cls := "TapTerminalModel", name := "find", desc := "(III)V" } : Jvm.MethodName) ({ cls := "TapTerminalModel", name := "find", desc := "(III)V" } : Jvm.MethodName)) ∈ am_kw := am_in0 (List.mem_of_getElem? (i := 35) rfl) rfl
theorem mp_9_247 : am_mP 9 247 (105, 0, 3) := am_m0 q_Mod_find rfl (by decide +kernel) kw_4_178 kw_4_180 kw_0_35
theorem kw_4_182 : (Jvm.Cond.methodLink "TapTerminalModel" (257 : Nat) ({ cls := "TapTerminalModel", name := "item", desc := "(II)I" } : Jvm.MethodName)) ∈ am_kw := am_in4 (List.mem_of_getElem? (i := 182) rfl) rfl
theorem kw_4_184 : (Jvm.Cond.instanceMethod ({ cls := "TapTerminalModel", name := "item", desc := "(II)I" } : Jvm.MethodName)) ∈ am_kw := am_in4 (List.mem_of_getElem? (i := 184) rfl) rfl
theorem kw_0_36 : (Jvm.Cond.selects "TapTerminalModel" ({ cls := "TapTerminalModel", name := "item", desc := "(II)I" } : Jvm.MethodName) ({ cls := "TapTerminalModel", name := "item", desc := "(II)I" } : Jvm.MethodName)) ∈ am_kw := am_in0 (List.mem_of_getElem? (i := 36) rfl) rfl
theorem mp_9_257 : am_mP 9 257 (104, 0, 2) := am_m0 q_Mod_item rfl (by decide +kernel) kw_4_182 kw_4_184 kw_0_36
theorem kw_4_186 : (Jvm.Cond.methodLink "TapTerminalModel" (260 : Nat) ({ cls := "TapTerminalModel", name := "wayGoes", desc := "(I)Z" } : Jvm.MethodName)) ∈ am_kw := am_in4 (List.mem_of_getElem? (i := 186) rfl) rfl
theorem kw_4_188 : (Jvm.Cond.instanceMethod ({ cls := "TapTerminalModel", name := "wayGoes", desc := "(I)Z" } : Jvm.MethodName)) ∈ am_kw := am_in4 (List.mem_of_getElem? (i := 188) rfl) rfl
theorem kw_0_37 : (Jvm.Cond.selects "TapTerminalModel" ({ cls := "TapTerminalModel", name := "wayGoes", desc := "(I)Z" } : Jvm.MethodName) ({ cls := "TapTerminalModel", name := "wayGoes", desc := "(I)Z" } : Jvm.MethodName)) ∈ am_kw := am_in0 (List.mem_of_getElem? (i := 37) rfl) rfl
theorem mp_9_260 : am_mP 9 260 (106, 0, 1) := am_m0 q_Mod_wayGoes rfl (by decide +kernel) kw_4_186 kw_4_188 kw_0_37
theorem kw_4_190 : (Jvm.Cond.methodLink "TapTerminalModel" (251 : Nat) ({ cls := "TapTerminalModel", name := "typeFor", desc := "()I" } : Jvm.MethodName)) ∈ am_kw := am_in4 (List.mem_of_getElem? (i := 190) rfl) rfl
theorem kw_4_192 : (Jvm.Cond.instanceMethod ({ cls := "TapTerminalModel", name := "typeFor", desc := "()I" } : Jvm.MethodName)) ∈ am_kw := am_in4 (List.mem_of_getElem? (i := 192) rfl) rfl
theorem kw_0_38 : (Jvm.Cond.selects "TapTerminalModel" ({ cls := "TapTerminalModel", name := "typeFor", desc := "()I" } : Jvm.MethodName) ({ cls := "TapTerminalModel", name := "typeFor", desc := "()I" } : Jvm.MethodName)) ∈ am_kw := am_in0 (List.mem_of_getElem? (i := 38) rfl) rfl
theorem mp_9_251 : am_mP 9 251 (107, 0, 0) := am_m0 q_Mod_typeFor rfl (by decide +kernel) kw_4_190 kw_4_192 kw_0_38
def mls_0 : List (Nat × Nat × Nat × Nat) := [(1, 0, 6, 0), (21, 5, 0, 1), (17, 2, 0, 1), (25, 74, 3, 2)]
set_option maxRecDepth 20000 in
theorem mls_0_ok : ∀ e ∈ mls_0, am_mP 0 e.1 e.2 := List.forall_mem_cons.mpr ⟨mp_0_1, List.forall_mem_cons.mpr ⟨mp_0_21, List.forall_mem_cons.mpr ⟨mp_0_17, List.forall_mem_cons.mpr ⟨mp_0_25, fun _ h => absurd h List.not_mem_nil⟩⟩⟩⟩
def mls_1 : List (Nat × Nat × Nat × Nat) := [(3, 0, 6, 0), (11, 0, 4, 1), (34, 10, 0, 2), (31, 1, 0, 0), (41, 0, 7, 2), (47, 4, 0, 3)]
set_option maxRecDepth 20000 in
theorem mls_1_ok : ∀ e ∈ mls_1, am_mP 1 e.1 e.2 := List.forall_mem_cons.mpr ⟨mp_1_3, List.forall_mem_cons.mpr ⟨mp_1_11, List.forall_mem_cons.mpr ⟨mp_1_34, List.forall_mem_cons.mpr ⟨mp_1_31, List.forall_mem_cons.mpr ⟨mp_1_41, List.forall_mem_cons.mpr ⟨mp_1_47, fun _ h => absurd h List.not_mem_nil⟩⟩⟩⟩⟩⟩
def mls_2 : List (Nat × Nat × Nat × Nat) := [(3, 0, 6, 0), (17, 0, 4, 1), (22, 9, 4, 0), (72, 1, 0, 0), (88, 10, 0, 2), (95, 11, 0, 4), (102, 4, 0, 3), (109, 18, 0, 0), (112, 5, 0, 1), (116, 2, 0, 1), (119, 14, 0, 0), (123, 19, 0, 1), (140, 72, 3, 2), (126, 7, 0, 1), (129, 20, 0, 2), (133, 21, 0, 4), (145, 74, 3, 2), (137, 3, 0, 1)]
set_option maxRecDepth 20000 in
theorem mls_2_ok : ∀ e ∈ mls_2, am_mP 2 e.1 e.2 := List.forall_mem_cons.mpr ⟨mp_2_3, List.forall_mem_cons.mpr ⟨mp_2_17, List.forall_mem_cons.mpr ⟨mp_2_22, List.forall_mem_cons.mpr ⟨mp_2_72, List.forall_mem_cons.mpr ⟨mp_2_88, List.forall_mem_cons.mpr ⟨mp_2_95, List.forall_mem_cons.mpr ⟨mp_2_102, List.forall_mem_cons.mpr ⟨mp_2_109, List.forall_mem_cons.mpr ⟨mp_2_112, List.forall_mem_cons.mpr ⟨mp_2_116, List.forall_mem_cons.mpr ⟨mp_2_119, List.forall_mem_cons.mpr ⟨mp_2_123, List.forall_mem_cons.mpr ⟨mp_2_140, List.forall_mem_cons.mpr ⟨mp_2_126, List.forall_mem_cons.mpr ⟨mp_2_129, List.forall_mem_cons.mpr ⟨mp_2_133, List.forall_mem_cons.mpr ⟨mp_2_145, List.forall_mem_cons.mpr ⟨mp_2_137, fun _ h => absurd h List.not_mem_nil⟩⟩⟩⟩⟩⟩⟩⟩⟩⟩⟩⟩⟩⟩⟩⟩⟩⟩
def mls_3 : List (Nat × Nat × Nat × Nat) := [(3, 0, 6, 0)]
set_option maxRecDepth 20000 in
theorem mls_3_ok : ∀ e ∈ mls_3, am_mP 3 e.1 e.2 := List.forall_mem_cons.mpr ⟨mp_3_3, fun _ h => absurd h List.not_mem_nil⟩
def mls_4 : List (Nat × Nat × Nat × Nat) := [(3, 0, 6, 0), (17, 12, 4, 0), (20, 22, 4, 0), (27, 9, 4, 0), (40, 23, 0, 0), (46, 35, 0, 2), (119, 15, 0, 2), (50, 36, 0, 2), (78, 24, 0, 0), (122, 16, 0, 1), (86, 25, 0, 3), (57, 37, 2, 1), (67, 1, 0, 0), (74, 34, 0, 4), (113, 11, 0, 4), (116, 10, 0, 2), (82, 17, 0, 1), (106, 4, 0, 3)]
set_option maxRecDepth 20000 in
theorem mls_4_ok : ∀ e ∈ mls_4, am_mP 4 e.1 e.2 := List.forall_mem_cons.mpr ⟨mp_4_3, List.forall_mem_cons.mpr ⟨mp_4_17, List.forall_mem_cons.mpr ⟨mp_4_20, List.forall_mem_cons.mpr ⟨mp_4_27, List.forall_mem_cons.mpr ⟨mp_4_40, List.forall_mem_cons.mpr ⟨mp_4_46, List.forall_mem_cons.mpr ⟨mp_4_119, List.forall_mem_cons.mpr ⟨mp_4_50, List.forall_mem_cons.mpr ⟨mp_4_78, List.forall_mem_cons.mpr ⟨mp_4_122, List.forall_mem_cons.mpr ⟨mp_4_86, List.forall_mem_cons.mpr ⟨mp_4_57, List.forall_mem_cons.mpr ⟨mp_4_67, List.forall_mem_cons.mpr ⟨mp_4_74, List.forall_mem_cons.mpr ⟨mp_4_113, List.forall_mem_cons.mpr ⟨mp_4_116, List.forall_mem_cons.mpr ⟨mp_4_82, List.forall_mem_cons.mpr ⟨mp_4_106, fun _ h => absurd h List.not_mem_nil⟩⟩⟩⟩⟩⟩⟩⟩⟩⟩⟩⟩⟩⟩⟩⟩⟩⟩
def mls_5 : List (Nat × Nat × Nat × Nat) := [(3, 0, 6, 0), (17, 0, 4, 1), (31, 1, 0, 0), (38, 41, 0, 4), (42, 5, 0, 1), (46, 42, 0, 4), (50, 43, 2, 2), (54, 4, 0, 3)]
set_option maxRecDepth 20000 in
theorem mls_5_ok : ∀ e ∈ mls_5, am_mP 5 e.1 e.2 := List.forall_mem_cons.mpr ⟨mp_5_3, List.forall_mem_cons.mpr ⟨mp_5_17, List.forall_mem_cons.mpr ⟨mp_5_31, List.forall_mem_cons.mpr ⟨mp_5_38, List.forall_mem_cons.mpr ⟨mp_5_42, List.forall_mem_cons.mpr ⟨mp_5_46, List.forall_mem_cons.mpr ⟨mp_5_50, List.forall_mem_cons.mpr ⟨mp_5_54, fun _ h => absurd h List.not_mem_nil⟩⟩⟩⟩⟩⟩⟩⟩
def mls_6 : List (Nat × Nat × Nat × Nat) := [(3, 0, 6, 0), (19, 48, 0, 1), (55, 8, 0, 1), (58, 7, 0, 1), (29, 6, 0, 1), (39, 5, 0, 1), (48, 49, 0, 2), (64, 50, 2, 2), (68, 51, 0, 1)]
set_option maxRecDepth 20000 in
theorem mls_6_ok : ∀ e ∈ mls_6, am_mP 6 e.1 e.2 := List.forall_mem_cons.mpr ⟨mp_6_3, List.forall_mem_cons.mpr ⟨mp_6_19, List.forall_mem_cons.mpr ⟨mp_6_55, List.forall_mem_cons.mpr ⟨mp_6_58, List.forall_mem_cons.mpr ⟨mp_6_29, List.forall_mem_cons.mpr ⟨mp_6_39, List.forall_mem_cons.mpr ⟨mp_6_48, List.forall_mem_cons.mpr ⟨mp_6_64, List.forall_mem_cons.mpr ⟨mp_6_68, fun _ h => absurd h List.not_mem_nil⟩⟩⟩⟩⟩⟩⟩⟩⟩
def mls_7 : List (Nat × Nat × Nat × Nat) := [(3, 0, 6, 0), (9, 53, 0, 0)]
set_option maxRecDepth 20000 in
theorem mls_7_ok : ∀ e ∈ mls_7, am_mP 7 e.1 e.2 := List.forall_mem_cons.mpr ⟨mp_7_3, List.forall_mem_cons.mpr ⟨mp_7_9, fun _ h => absurd h List.not_mem_nil⟩⟩
def mls_8 : List (Nat × Nat × Nat × Nat) := [(1, 0, 6, 0), (9, 26, 4, 0), (18, 44, 4, 0), (25, 38, 4, 0), (32, 52, 4, 0), (39, 0, 4, 1), (49, 72, 2, 2), (53, 73, 2, 1), (61, 13, 0, 4), (67, 71, 0, 1), (84, 2, 0, 1), (87, 27, 0, 1), (122, 53, 0, 0), (125, 28, 0, 0), (128, 67, 0, 0), (195, 29, 0, 0), (199, 30, 0, 0), (202, 31, 0, 0), (205, 70, 0, 1), (260, 1, 0, 0), (208, 33, 0, 2), (212, 5, 0, 1), (215, 45, 0, 1), (221, 32, 0, 0), (132, 68, 0, 1), (224, 3, 0, 1), (227, 0, 7, 2), (232, 39, 0, 0), (233, 40, 0, 1), (136, 69, 0, 3), (243, 46, 0, 4), (250, 47, 0, 2), (254, 6, 0, 1), (257, 7, 0, 1), (188, 14, 0, 0), (191, 74, 2, 2)]
set_option maxRecDepth 20000 in
theorem mls_8_ok : ∀ e ∈ mls_8, am_mP 8 e.1 e.2 := List.forall_mem_cons.mpr ⟨mp_8_1, List.forall_mem_cons.mpr ⟨mp_8_9, List.forall_mem_cons.mpr ⟨mp_8_18, List.forall_mem_cons.mpr ⟨mp_8_25, List.forall_mem_cons.mpr ⟨mp_8_32, List.forall_mem_cons.mpr ⟨mp_8_39, List.forall_mem_cons.mpr ⟨mp_8_49, List.forall_mem_cons.mpr ⟨mp_8_53, List.forall_mem_cons.mpr ⟨mp_8_61, List.forall_mem_cons.mpr ⟨mp_8_67, List.forall_mem_cons.mpr ⟨mp_8_84, List.forall_mem_cons.mpr ⟨mp_8_87, List.forall_mem_cons.mpr ⟨mp_8_122, List.forall_mem_cons.mpr ⟨mp_8_125, List.forall_mem_cons.mpr ⟨mp_8_128, List.forall_mem_cons.mpr ⟨mp_8_195, List.forall_mem_cons.mpr ⟨mp_8_199, List.forall_mem_cons.mpr ⟨mp_8_202, List.forall_mem_cons.mpr ⟨mp_8_205, List.forall_mem_cons.mpr ⟨mp_8_260, List.forall_mem_cons.mpr ⟨mp_8_208, List.forall_mem_cons.mpr ⟨mp_8_212, List.forall_mem_cons.mpr ⟨mp_8_215, List.forall_mem_cons.mpr ⟨mp_8_221, List.forall_mem_cons.mpr ⟨mp_8_132, List.forall_mem_cons.mpr ⟨mp_8_224, List.forall_mem_cons.mpr ⟨mp_8_227, List.forall_mem_cons.mpr ⟨mp_8_232, List.forall_mem_cons.mpr ⟨mp_8_233, List.forall_mem_cons.mpr ⟨mp_8_136, List.forall_mem_cons.mpr ⟨mp_8_243, List.forall_mem_cons.mpr ⟨mp_8_250, List.forall_mem_cons.mpr ⟨mp_8_254, List.forall_mem_cons.mpr ⟨mp_8_257, List.forall_mem_cons.mpr ⟨mp_8_188, List.forall_mem_cons.mpr ⟨mp_8_191, fun _ h => absurd h List.not_mem_nil⟩⟩⟩⟩⟩⟩⟩⟩⟩⟩⟩⟩⟩⟩⟩⟩⟩⟩⟩⟩⟩⟩⟩⟩⟩⟩⟩⟩⟩⟩⟩⟩⟩⟩⟩⟩
def mls_9 : List (Nat × Nat × Nat × Nat) := [(1, 0, 6, 0), (106, 76, 2, 3), (112, 77, 0, 1), (219, 101, 0, 3), (223, 97, 0, 0), (190, 86, 0, 0), (200, 87, 0, 3), (227, 98, 0, 0), (230, 99, 0, 2), (234, 94, 0, 0), (196, 89, 0, 5), (158, 88, 0, 0), (165, 91, 0, 0), (168, 92, 0, 1), (172, 93, 0, 1), (176, 90, 0, 1), (180, 78, 2, 2), (237, 96, 0, 1), (240, 95, 0, 2), (244, 102, 0, 1), (254, 103, 0, 1), (247, 105, 0, 3), (257, 104, 0, 2), (260, 106, 0, 1), (251, 107, 0, 0)]
set_option maxRecDepth 20000 in
theorem mls_9_ok : ∀ e ∈ mls_9, am_mP 9 e.1 e.2 := List.forall_mem_cons.mpr ⟨mp_9_1, List.forall_mem_cons.mpr ⟨mp_9_106, List.forall_mem_cons.mpr ⟨mp_9_112, List.forall_mem_cons.mpr ⟨mp_9_219, List.forall_mem_cons.mpr ⟨mp_9_223, List.forall_mem_cons.mpr ⟨mp_9_190, List.forall_mem_cons.mpr ⟨mp_9_200, List.forall_mem_cons.mpr ⟨mp_9_227, List.forall_mem_cons.mpr ⟨mp_9_230, List.forall_mem_cons.mpr ⟨mp_9_234, List.forall_mem_cons.mpr ⟨mp_9_196, List.forall_mem_cons.mpr ⟨mp_9_158, List.forall_mem_cons.mpr ⟨mp_9_165, List.forall_mem_cons.mpr ⟨mp_9_168, List.forall_mem_cons.mpr ⟨mp_9_172, List.forall_mem_cons.mpr ⟨mp_9_176, List.forall_mem_cons.mpr ⟨mp_9_180, List.forall_mem_cons.mpr ⟨mp_9_237, List.forall_mem_cons.mpr ⟨mp_9_240, List.forall_mem_cons.mpr ⟨mp_9_244, List.forall_mem_cons.mpr ⟨mp_9_254, List.forall_mem_cons.mpr ⟨mp_9_247, List.forall_mem_cons.mpr ⟨mp_9_257, List.forall_mem_cons.mpr ⟨mp_9_260, List.forall_mem_cons.mpr ⟨mp_9_251, fun _ h => absurd h List.not_mem_nil⟩⟩⟩⟩⟩⟩⟩⟩⟩⟩⟩⟩⟩⟩⟩⟩⟩⟩⟩⟩⟩⟩⟩⟩⟩
def am_mlt (oc : Nat) : List (Nat × Nat × Nat × Nat) := match oc with
  | 0 => mls_0
  | 1 => mls_1
  | 2 => mls_2
  | 3 => mls_3
  | 4 => mls_4
  | 5 => mls_5
  | 6 => mls_6
  | 7 => mls_7
  | 8 => mls_8
  | 9 => mls_9
  | _ => []
def am_ml (oc idx : Nat) : Option (Nat × Nat × Nat) := am_lk (am_mlt oc) idx
theorem am_ml_ok (oc idx : Nat) (f : Nat × Nat × Nat) (h : am_ml oc idx = some f) : am_mP oc idx f := by
  have hm := am_lk_mem h
  match oc, hm with
  | 0, hm => exact mls_0_ok _ hm
  | 1, hm => exact mls_1_ok _ hm
  | 2, hm => exact mls_2_ok _ hm
  | 3, hm => exact mls_3_ok _ hm
  | 4, hm => exact mls_4_ok _ hm
  | 5, hm => exact mls_5_ok _ hm
  | 6, hm => exact mls_6_ok _ hm
  | 7, hm => exact mls_7_ok _ hm
  | 8, hm => exact mls_8_ok _ hm
  | 9, hm => exact mls_9_ok _ hm
  | n + 10, hm => cases hm
def am_ats : List FieldType := [.int, .boolean, .object "TapTerminal$Row", .object "TapTerminal$Card"]
theorem am_ats_0 : am_ats[0]? = some .int := rfl
theorem am_ats_1 : am_ats[1]? = some .boolean := rfl
theorem kw_1_53 : (Jvm.Cond.arrayClass Jvm.ClassFile.FieldType.int) ∈ am_kw := am_in1 (List.mem_of_getElem? (i := 53) rfl) rfl
theorem am_kw_int : Jvm.Cond.arrayClass (newarray.typeOf .int) ∈ am_kw := kw_1_53
theorem kw_1_183 : (Jvm.Cond.arrayClass Jvm.ClassFile.FieldType.boolean) ∈ am_kw := am_in1 (List.mem_of_getElem? (i := 183) rfl) rfl
theorem am_kw_bool : Jvm.Cond.arrayClass (newarray.typeOf .boolean) ∈ am_kw := kw_1_183
def am_ac (t : Nat) : Option Nat := match t with
  | 2 => some 0
  | 3 => some 2
  | _ => none
theorem am_ac_ok (t ci : Nat) (h : am_ac t = some ci) : ∃ r, classes[ci]? = some r ∧ am_ats[t]? = some (.object r.1) := by
  unfold am_ac at h
  split at h
  · cases h; exact ⟨_, rfl, rfl⟩
  · cases h; exact ⟨_, rfl, rfl⟩
  · cases h
def am_aos : List String := ["TapTerminal$Row", "TapTerminal$Card"]
theorem ao_Row : (Jvm.Cond.arrayOver (Jvm.ClassFile.FieldType.object "TapTerminal$Row")) ∈ lw_tbl := List.mem_append_right _ (List.mem_append_left _ (List.mem_of_getElem? (i := 34) rfl))
theorem ao_Card : (Jvm.Cond.arrayOver (Jvm.ClassFile.FieldType.object "TapTerminal$Card")) ∈ lw_tbl := List.mem_append_right _ (List.mem_append_left _ (List.mem_of_getElem? (i := 27) rfl))
def am_df (c : Nat) : List Value := match c with
  | 0 => [.null, .int 0]
  | 1 => [.int 0, .int 0, .int 0, .null]
  | 2 => [.int 0, .int 0, .int 0, .int 0, .int 0, .int 0, .int 0, .int 0, .int 0, .int 0, .int 0, .int 0, .null, .null, .int 0, .null, .null, .int 0]
  | 3 => [.null, .null, .null, .null, .int 0, .int 0]
  | 4 => [.null, .null, .int 0, .int 0, .int 0, .null]
  | 5 => [.null, .null, .int 0, .null]
  | 6 => [.int 0, .int 0, .int 0, .int 0, .int 0, .int 0]
  | 7 => [.int 0, .int 0, .int 0, .int 0, .int 0, .int 0, .int 0, .int 0]
  | 8 => [.null, .null, .null, .null, .null, .null]
  | 9 => [.null, .null, .null, .null, .null, .null, .null, .null, .null, .null, .null, .null, .null, .null, .int 0, .int 0, .int 0, .int 0, .int 0, .int 0, .null, .null, .null, .null, .int 0, .int 0, .int 0, .int 0, .int 0, .int 0, .int 0, .int 0, .int 0, .int 0, .int 0, .null, .null, .null, .null, .int 0, .int 0, .int 0, .int 0, .int 0, .int 0, .int 0, .int 0, .int 0, .int 0, .null, .null, .null, .null, .null]
  | _ => []
def am_kP (oc idx ci : Nat) : Prop := ∃ (C : String) (T : u_T) (N : Nat) (t0 : Nat → FieldType), classes[ci]? = some (C, T, N) ∧ (∀ w ∈ u_ws C T N, w ∈ am_kw) ∧ (∀ k, k < N → parseFieldDescriptor (T k).2.2.1 = some (t0 k)) ∧ Jvm.Cond.classLink (am_cn oc) idx C ∈ am_kw ∧ Jvm.Cond.instantiable C N ∈ am_kw ∧ Jvm.Cond.initialized C ∈ am_kw ∧ (∀ j, j < N → defaultValue (t0 j) = vp_V (am_df ci) j) ∧ (am_df ci).length = N ∧ ∀ v ∈ am_df ci, v = .int 0 ∨ v = .null
theorem kw_1_20 : (Jvm.Cond.classLink "TapTerminal" (7 : Nat) "TapTerminal$Air") ∈ am_kw := am_in1 (List.mem_of_getElem? (i := 20) rfl) rfl
theorem kw_1_21 : (Jvm.Cond.instantiable "TapTerminal$Air" (6 : Nat)) ∈ am_kw := am_in1 (List.mem_of_getElem? (i := 21) rfl) rfl
theorem kp_8_7 : am_kP 8 7 4 := ⟨"TapTerminal$Air", F_Air, 6, t_Air, cp_Air.1, cp_Air.2.1, cp_Air.2.2.1, kw_1_20, kw_1_21, kw_1_2, by decide +kernel, rfl, by decide +kernel⟩
theorem kw_1_26 : (Jvm.Cond.classLink "TapTerminal$Air" (9 : Nat) "TapTerminal$Card") ∈ am_kw := am_in1 (List.mem_of_getElem? (i := 26) rfl) rfl
theorem kw_1_28 : (Jvm.Cond.instantiable "TapTerminal$Card" (18 : Nat)) ∈ am_kw := am_in1 (List.mem_of_getElem? (i := 28) rfl) rfl
theorem kp_4_9 : am_kP 4 9 2 := ⟨"TapTerminal$Card", F_Card, 18, t_Card, cp_Card.1, cp_Card.2.1, cp_Card.2.2.1, kw_1_26, kw_1_28, kw_1_3, by decide +kernel, rfl, by decide +kernel⟩
theorem kw_1_33 : (Jvm.Cond.classLink "TapTerminal$Card" (9 : Nat) "TapTerminal$Row") ∈ am_kw := am_in1 (List.mem_of_getElem? (i := 33) rfl) rfl
theorem kw_1_35 : (Jvm.Cond.instantiable "TapTerminal$Row" (2 : Nat)) ∈ am_kw := am_in1 (List.mem_of_getElem? (i := 35) rfl) rfl
theorem kp_2_9 : am_kP 2 9 0 := ⟨"TapTerminal$Row", F_Row, 2, t_Row, cp_Row.1, cp_Row.2.1, cp_Row.2.2.1, kw_1_33, kw_1_35, kw_1_4, by decide +kernel, rfl, by decide +kernel⟩
theorem kw_1_54 : (Jvm.Cond.classLink "TapTerminal$Card" (20 : Nat) "TapTerminal$Block") ∈ am_kw := am_in1 (List.mem_of_getElem? (i := 54) rfl) rfl
theorem kw_1_55 : (Jvm.Cond.instantiable "TapTerminal$Block" (4 : Nat)) ∈ am_kw := am_in1 (List.mem_of_getElem? (i := 55) rfl) rfl
theorem kp_2_20 : am_kP 2 20 1 := ⟨"TapTerminal$Block", F_Block, 4, t_Block, cp_Block.1, cp_Block.2.1, cp_Block.2.2.1, kw_1_54, kw_1_55, kw_1_5, by decide +kernel, rfl, by decide +kernel⟩
theorem kw_1_60 : (Jvm.Cond.classLink "TapTerminal$Block" (9 : Nat) "TapTerminal$Row") ∈ am_kw := am_in1 (List.mem_of_getElem? (i := 60) rfl) rfl
theorem kp_1_9 : am_kP 1 9 0 := ⟨"TapTerminal$Row", F_Row, 2, t_Row, cp_Row.1, cp_Row.2.1, cp_Row.2.2.1, kw_1_60, kw_1_35, kw_1_4, by decide +kernel, rfl, by decide +kernel⟩
theorem kw_1_152 : (Jvm.Cond.classLink "TapTerminal$Air" (18 : Nat) "TapTerminal$Journal") ∈ am_kw := am_in1 (List.mem_of_getElem? (i := 152) rfl) rfl
theorem kw_1_153 : (Jvm.Cond.instantiable "TapTerminal$Journal" (6 : Nat)) ∈ am_kw := am_in1 (List.mem_of_getElem? (i := 153) rfl) rfl
theorem kp_4_18 : am_kP 4 18 3 := ⟨"TapTerminal$Journal", F_Journal, 6, t_Journal, cp_Journal.1, cp_Journal.2.1, cp_Journal.2.2.1, kw_1_152, kw_1_153, kw_1_6, by decide +kernel, rfl, by decide +kernel⟩
theorem kw_1_184 : (Jvm.Cond.classLink "TapTerminal$Air" (25 : Nat) "TapTerminal$Block") ∈ am_kw := am_in1 (List.mem_of_getElem? (i := 184) rfl) rfl
theorem kp_4_25 : am_kP 4 25 1 := ⟨"TapTerminal$Block", F_Block, 4, t_Block, cp_Block.1, cp_Block.2.1, cp_Block.2.2.1, kw_1_184, kw_1_55, kw_1_5, by decide +kernel, rfl, by decide +kernel⟩
theorem kw_1_208 : (Jvm.Cond.classLink "TapTerminal" (16 : Nat) "TapTerminal$Settings") ∈ am_kw := am_in1 (List.mem_of_getElem? (i := 208) rfl) rfl
theorem kw_1_209 : (Jvm.Cond.instantiable "TapTerminal$Settings" (6 : Nat)) ∈ am_kw := am_in1 (List.mem_of_getElem? (i := 209) rfl) rfl
theorem kp_8_16 : am_kP 8 16 6 := ⟨"TapTerminal$Settings", F_Settings, 6, t_Settings, cp_Settings.1, cp_Settings.2.1, cp_Settings.2.2.1, kw_1_208, kw_1_209, kw_1_7, by decide +kernel, rfl, by decide +kernel⟩
theorem kw_1_239 : (Jvm.Cond.classLink "TapTerminal" (23 : Nat) "TapTerminal$Items") ∈ am_kw := am_in1 (List.mem_of_getElem? (i := 239) rfl) rfl
theorem kw_2_0 : (Jvm.Cond.instantiable "TapTerminal$Items" (4 : Nat)) ∈ am_kw := am_in2 (List.mem_of_getElem? (i := 0) rfl) rfl
theorem kp_8_23 : am_kP 8 23 5 := ⟨"TapTerminal$Items", F_Items, 4, t_Items, cp_Items.1, cp_Items.2.1, cp_Items.2.2.1, kw_1_239, kw_2_0, kw_1_8, by decide +kernel, rfl, by decide +kernel⟩
theorem kw_2_5 : (Jvm.Cond.classLink "TapTerminal$Items" (9 : Nat) "TapTerminal$Row") ∈ am_kw := am_in2 (List.mem_of_getElem? (i := 5) rfl) rfl
theorem kp_5_9 : am_kP 5 9 0 := ⟨"TapTerminal$Row", F_Row, 2, t_Row, cp_Row.1, cp_Row.2.1, cp_Row.2.2.1, kw_2_5, kw_1_35, kw_1_4, by decide +kernel, rfl, by decide +kernel⟩
theorem kw_2_25 : (Jvm.Cond.classLink "TapTerminal" (30 : Nat) "TapTerminal$Report") ∈ am_kw := am_in2 (List.mem_of_getElem? (i := 25) rfl) rfl
theorem kw_2_26 : (Jvm.Cond.instantiable "TapTerminal$Report" (8 : Nat)) ∈ am_kw := am_in2 (List.mem_of_getElem? (i := 26) rfl) rfl
theorem kp_8_30 : am_kP 8 30 7 := ⟨"TapTerminal$Report", F_Report, 8, t_Report, cp_Report.1, cp_Report.2.1, cp_Report.2.2.1, kw_2_25, kw_2_26, kw_1_9, by decide +kernel, rfl, by decide +kernel⟩
theorem kw_2_68 : (Jvm.Cond.classLink "TapTerminal" (37 : Nat) "TapTerminal$Row") ∈ am_kw := am_in2 (List.mem_of_getElem? (i := 68) rfl) rfl
theorem kp_8_37 : am_kP 8 37 0 := ⟨"TapTerminal$Row", F_Row, 2, t_Row, cp_Row.1, cp_Row.2.1, cp_Row.2.2.1, kw_2_68, kw_1_35, kw_1_4, by decide +kernel, rfl, by decide +kernel⟩
def am_cl (oc idx : Nat) : Option Nat := match oc, idx with
  | 1, 9 => some 0
  | 2, 9 => some 0
  | 2, 20 => some 1
  | 4, 9 => some 2
  | 4, 18 => some 3
  | 4, 25 => some 1
  | 5, 9 => some 0
  | 8, 7 => some 4
  | 8, 16 => some 6
  | 8, 23 => some 5
  | 8, 30 => some 7
  | 8, 37 => some 0
  | _, _ => none
theorem am_cl_ok0 (oc idx ci : Nat) (h : am_cl oc idx = some ci) : am_kP oc idx ci := by
  unfold am_cl at h
  split at h
  · cases h; exact kp_1_9
  · cases h; exact kp_2_9
  · cases h; exact kp_2_20
  · cases h; exact kp_4_9
  · cases h; exact kp_4_18
  · cases h; exact kp_4_25
  · cases h; exact kp_5_9
  · cases h; exact kp_8_7
  · cases h; exact kp_8_16
  · cases h; exact kp_8_23
  · cases h; exact kp_8_30
  · cases h; exact kp_8_37
  · cases h
def am_al (oc idx : Nat) : Option Nat := match oc, idx with
  | 2, 9 => some 2
  | 4, 9 => some 3
  | 5, 9 => some 2
  | _, _ => none
theorem am_al_ok (oc idx t : Nat) (h : am_al oc idx = some t) : ∃ C, am_ats[t]? = some (.object C) ∧ Jvm.Cond.classLink (am_cn oc) idx C ∈ am_kw ∧ C ∈ am_aos := by
  unfold am_al at h
  split at h
  · cases h; exact ⟨"TapTerminal$Row", rfl, kw_1_33, by decide⟩
  · cases h; exact ⟨"TapTerminal$Card", rfl, kw_1_26, by decide⟩
  · cases h; exact ⟨"TapTerminal$Row", rfl, kw_2_5, by decide⟩
  · cases h
theorem kw_2_103 : (Jvm.Cond.constant "TapTerminal$Card" (59 : Nat) (2147483647 : Int32)) ∈ am_kw := am_in2 (List.mem_of_getElem? (i := 103) rfl) rfl
theorem kw_2_210 : (Jvm.Cond.constant "TapTerminal$Air" (70 : Nat) (1000000 : Int32)) ∈ am_kw := am_in2 (List.mem_of_getElem? (i := 210) rfl) rfl
theorem kw_3_27 : (Jvm.Cond.constant "TapTerminal$Card" (144 : Nat) (65535 : Int32)) ∈ am_kw := am_in3 (List.mem_of_getElem? (i := 27) rfl) rfl
theorem kw_3_35 : (Jvm.Cond.constant "TapTerminal" (264 : Nat) (16777619 : Int32)) ∈ am_kw := am_in3 (List.mem_of_getElem? (i := 35) rfl) rfl
theorem kw_4_72 : (Jvm.Cond.constant "TapTerminalModel" (111 : Nat) (2147483647 : Int32)) ∈ am_kw := am_in4 (List.mem_of_getElem? (i := 72) rfl) rfl
theorem kw_4_157 : (Jvm.Cond.constant "TapTerminalModel" (179 : Nat) (65535 : Int32)) ∈ am_kw := am_in4 (List.mem_of_getElem? (i := 157) rfl) rfl
theorem kw_4_161 : (Jvm.Cond.constant "TapTerminalModel" (110 : Nat) (16777619 : Int32)) ∈ am_kw := am_in4 (List.mem_of_getElem? (i := 161) rfl) rfl
def am_kc (oc idx : Nat) : Option Int32 := match oc, idx with
  | 2, 59 => some (2147483647)
  | 4, 70 => some (1000000)
  | 2, 144 => some (65535)
  | 8, 264 => some (16777619)
  | 9, 111 => some (2147483647)
  | 9, 179 => some (65535)
  | 9, 110 => some (16777619)
  | _, _ => none
theorem am_kc_ok (oc idx : Nat) (v : Int32) (h : am_kc oc idx = some v) : Jvm.Cond.constant (am_cn oc) idx v ∈ am_kw := by
  unfold am_kc at h
  split at h
  · cases h; exact kw_2_103
  · cases h; exact kw_2_210
  · cases h; exact kw_3_27
  · cases h; exact kw_3_35
  · cases h; exact kw_4_72
  · cases h; exact kw_4_157
  · cases h; exact kw_4_161
  · cases h
theorem kw_1_18 : (Jvm.Cond.instanceMethod ({ cls := "java/lang/Object", name := "<init>", desc := "()V" } : Jvm.MethodName)) ∈ am_kw := am_in1 (List.mem_of_getElem? (i := 18) rfl) rfl
theorem kw_1_19 : (Jvm.Cond.code ({ cls := "java/lang/Object", name := "<init>", desc := "()V" } : Jvm.MethodName) object_method_1_code (1 : Nat) (Option.none : Option Jvm.ClassFile.FieldType)) ∈ am_kw := am_in1 (List.mem_of_getElem? (i := 19) rfl) rfl
theorem am_kw_obj : Jvm.Cond.instanceMethod objectInit ∈ am_kw ∧ Jvm.Cond.code objectInit ⟨#[0xb1]⟩ 1 none ∈ am_kw := ⟨kw_1_18, kw_1_19⟩
theorem kw_2_225 : (Jvm.Cond.static ({ cls := "java/lang/Math", name := "min", desc := "(II)I" } : Jvm.MethodName)) ∈ am_kw := am_in2 (List.mem_of_getElem? (i := 225) rfl) rfl
theorem kw_1_11 : (Jvm.Cond.initialized "java/lang/Math") ∈ am_kw := am_in1 (List.mem_of_getElem? (i := 11) rfl) rfl
theorem kw_2_226 : (Jvm.Cond.code ({ cls := "java/lang/Math", name := "min", desc := "(II)I" } : Jvm.MethodName) prog_12_method_69_code (2 : Nat) (Option.some Jvm.ClassFile.FieldType.int)) ∈ am_kw := am_in2 (List.mem_of_getElem? (i := 226) rfl) rfl
theorem am_kw_min : Jvm.Cond.static Lib.Math.min.name ∈ am_kw ∧ Jvm.Cond.initialized "java/lang/Math" ∈ am_kw ∧ Jvm.Cond.code Lib.Math.min.name Lib.Math.min.code 2 (some .int) ∈ am_kw := ⟨kw_2_225, kw_1_11, kw_2_226⟩
end
section
/-! THE SMALL MACHINE: what the methods of the system do, over a heap of its own cells alone (addresses count from 0), as a function; it follows the bytes by 'decode'. The tables am_.. stand in the part ahead. -/
def am_up (f : Nat → Option am_E) (k : Nat) (e : am_E) : Nat → Option am_E := fun j => if j = k then some e else f j
def am_get (h : am_H) (a ci k : Nat) : Option Value := match h.2.2 a with
  | some (.inl o) => if o.1 = ci then o.2[k]? else none
  | _ => none
def am_put (h : am_H) (a ci k : Nat) (v : Value) : Option am_H := match h.2.2 a with
  | some (.inl o) => if o.1 = ci ∧ k < o.2.length then some (h.1, h.2.1, am_up h.2.2 a (.inl (ci, o.2.set k v))) else none
  | _ => none
def am_ld (h : am_H) (a t : Nat) (i : Int32) : Option Int32 := match h.2.2 a with
  | some (.inr (.inl o)) => if o.1 = t ∧ ¬ i < 0 then o.2[i.toNatClampNeg]? else none
  | _ => none
def am_sv (h : am_H) (a t : Nat) (i x : Int32) : Option am_H := match h.2.2 a with
  | some (.inr (.inl o)) => if o.1 = t ∧ ¬ i < 0 ∧ i.toNatClampNeg < o.2.length then some (h.1, h.2.1, am_up h.2.2 a (.inr (.inl (t, o.2.set i.toNatClampNeg x)))) else none
  | _ => none
def am_isq (t : Nat) : Bool := match am_ats[t]? with
  | some (.object _) => true
  | _ => false
def am_len (h : am_H) (a : Nat) : Option Int32 := match h.2.2 a with
  | some (.inr (.inl o)) => if (am_ats[o.1]?).isSome = true then some (Int32.ofNat o.2.length) else none
  | some (.inr (.inr o)) => if (am_ats[o.1]?).isSome = true then some (Int32.ofNat o.2.length) else none
  | _ => none
def am_ldq (h : am_H) (a : Nat) (i : Int32) : Option Value := match h.2.2 a with
  | some (.inr (.inr o)) => if am_isq o.1 = true ∧ ¬ i < 0 then (o.2[i.toNatClampNeg]?).map va_rf else none
  | _ => none
def am_stq (h : am_H) (a : Nat) (i : Int32) (v : Nat) : Option am_H := match h.2.2 a with
  | some (.inr (.inr o)) => (match h.2.2 v with
    | some (.inl x) => if am_ac o.1 = some x.1 ∧ ¬ i < 0 ∧ i.toNatClampNeg < o.2.length then some (h.1, h.2.1, am_up h.2.2 a (.inr (.inr (o.1, o.2.set i.toNatClampNeg (some v))))) else none
    | _ => none)
  | _ => none
def am_new (h : am_H) (e : am_E) (n : Nat) : am_H := (h.1 + 1, h.2.1 + n, am_up h.2.2 h.1 e)
def am_ok (ty : FieldType) (v : Value) : Bool := decide (narrow ty v = v) && fits ty v
def am_cat (st : List Value) : Nat := (st.map fun v => v.category).sum
def am_j (pc : Nat) (off : Int) : Nat := ((pc : Int) + off).toNat
def am_c1 (c : Jvm.ClassFile.Cond) (x : Int32) : Bool := match c with
  | .eq => decide (x = 0)
  | .ne => decide (¬ x = 0)
  | .lt => decide (x < 0)
  | .ge => decide (0 ≤ x)
  | .gt => decide (0 < x)
  | .le => decide (x ≤ 0)
def am_c2 (c : Jvm.ClassFile.Cond) (x y : Int32) : Bool := match c with
  | .eq => decide (x = y)
  | .ne => decide (¬ x = y)
  | .lt => decide (x < y)
  | .ge => decide (y ≤ x)
  | .gt => decide (y < x)
  | .le => decide (x ≤ y)
def am_li (lc : am_L) (i : Nat) (st : List Value) : Option (am_L × List Value) := match lc[i]? with
  | some (some (.int x)) => some (lc, .int x :: st)
  | _ => none
def am_la (lc : am_L) (i : Nat) (st : List Value) : Option (am_L × List Value) := match lc[i]? with
  | some (some (.ref x)) => some (lc, .ref x :: st)
  | _ => none
def am_si (lc : am_L) (i : Nat) (st : List Value) : Option (am_L × List Value) := match st with
  | .int x :: r => if i < lc.length then some (lc.set i (some (.int x)), r) else none
  | _ => none
def am_sa (lc : am_L) (i : Nat) (st : List Value) : Option (am_L × List Value) := match st with
  | .ref x :: r => if i < lc.length then some (lc.set i (some (.ref x)), r) else none
  | _ => none
def am_ii (lc : am_L) (i : Nat) (n : Int) (st : List Value) : Option (am_L × List Value) := match lc[i]? with
  | some (some (.int x)) => if i < lc.length then some (lc.set i (some (.int (x + Int32.ofInt n))), st) else none
  | _ => none
def am_b2 (f : Int32 → Int32 → Int32) (lc : am_L) (st : List Value) : Option (am_L × List Value) := match st with
  | .int y :: .int x :: r => some (lc, .int (f x y) :: r)
  | _ => none
/-- what touches no heap and goes on behind itself -/
def am_pu (i : Instr) (len : Nat) (lc : am_L) (st : List Value) : Option (am_L × List Value) := match i, len with
  | .iconst n, 1 => some (lc, .int (Int32.ofInt n) :: st)
  | .bipush n, 2 => some (lc, .int (Int8.ofInt n).toInt32 :: st)
  | .sipush n, 3 => some (lc, .int (Int16.ofInt n).toInt32 :: st)
  | .iload_n k, 1 => am_li lc k st
  | .iload k, 2 => am_li lc k st
  | .aload_n k, 1 => am_la lc k st
  | .aload k, 2 => am_la lc k st
  | .istore_n k, 1 => am_si lc k st
  | .istore k, 2 => am_si lc k st
  | .astore_n k, 1 => am_sa lc k st
  | .astore k, 2 => am_sa lc k st
  | .iinc k n, 3 => am_ii lc k n st
  | .iadd, 1 => am_b2 (fun x y => x + y) lc st
  | .isub, 1 => am_b2 (fun x y => x - y) lc st
  | .imul, 1 => am_b2 (fun x y => x * y) lc st
  | .iand, 1 => am_b2 (fun x y => x &&& y) lc st
  | .ior, 1 => am_b2 (fun x y => x ||| y) lc st
  | .ixor, 1 => am_b2 (fun x y => x ^^^ y) lc st
  | .ishl, 1 => am_b2 (fun x y => x <<< (y &&& 31)) lc st
  | .ishr, 1 => am_b2 (fun x y => x >>> (y &&& 31)) lc st
  | .iushr, 1 => am_b2 (fun x y => (x.toUInt32 >>> (y.toUInt32 &&& Int32.toUInt32 31)).toInt32) lc st
  | .irem, 1 => (match st with
    | .int y :: .int x :: r => if ¬ y = 0 then some (lc, .int (x - x / y * y) :: r) else none
    | _ => none)
  | .idiv, 1 => (match st with
    | .int y :: .int x :: r => if ¬ y = 0 then some (lc, .int (x / y) :: r) else none
    | _ => none)
  | .ineg, 1 => (match st with
    | .int x :: r => some (lc, .int (-x) :: r)
    | _ => none)
  | .dup, 1 => (match st with
    | v :: r => if v.category = 1 then some (lc, v :: v :: r) else none
    | _ => none)
  | .pop, 1 => (match st with
    | v :: r => if v.category = 1 then some (lc, r) else none
    | _ => none)
  | .dup_x1, 1 => (match st with
    | v :: w :: r => if v.category = 1 ∧ w.category = 1 then some (lc, v :: w :: v :: r) else none
    | _ => none)
  | .dup_x2, 1 => (match st with
    | v :: w :: x :: r => if v.category = 1 ∧ w.category = 1 ∧ x.category = 1 then some (lc, v :: w :: x :: v :: r) else none
    | _ => none)
  | .dup2, 1 => (match st with
    | v :: w :: r => if v.category = 1 ∧ w.category = 1 then some (lc, v :: w :: v :: w :: r) else none
    | _ => none)
  | _, _ => none
/-- jumps -/
def am_bb (i : Instr) (len pc : Nat) (st : List Value) : Option (Nat × List Value) := match i with
  | .ifCond c off => (match st with
    | .int x :: r => if len = 3 ∧ 0 ≤ (pc : Int) + off then some (if am_c1 c x then am_j pc off else pc + 3, r) else none
    | _ => none)
  | .if_icmp c off => (match st with
    | .int y :: .int x :: r => if len = 3 ∧ 0 ≤ (pc : Int) + off then some (if am_c2 c x y then am_j pc off else pc + 3, r) else none
    | _ => none)
  | .goto off => if len = 3 ∧ 0 ≤ (pc : Int) + off then some (am_j pc off, st) else none
  | .tableswitch dflt a b offs => (match st with
    | .int x :: r => if x.toInt < a ∨ b < x.toInt then (if 0 ≤ (pc : Int) + dflt then some (am_j pc dflt, r) else none) else (match offs[(x.toInt - a).toNat]? with
      | some off => if 0 ≤ (pc : Int) + off then some (am_j pc off, r) else none
      | none => none)
    | _ => none)
  | .lookupswitch dflt ps => (match st with
    | .int x :: r => if (ps.toList.zip (ps.toList.drop 1)).all (fun (a, next) => a.1 < next.1) = true ∧ 0 ≤ (pc : Int) + Op.lookupswitch.offset ps.toList dflt x.toInt then some (am_j pc (Op.lookupswitch.offset ps.toList dflt x.toInt), r) else none
    | _ => none)
  | _ => none
/-- what reads or writes the heap and goes on behind itself -/
def am_hp (q : am_M) (i : Instr) (len : Nat) (st : List Value) (h : am_H) : Option (List Value × am_H) := match i, len with
  | .getfield idx, 3 => (match am_fl q.2.2.2.2.1 idx with
    | some f => (match st with
      | .ref a :: r => (am_get h a f.1 f.2.1).map (fun v => (v :: r, h))
      | _ => none)
    | none => none)
  | .putfield idx, 3 => (match am_fl q.2.2.2.2.1 idx with
    | some f => (match st with
      | v :: .ref a :: r => if am_ok f.2.2.1 v = true ∧ (f.2.2.2 = false ∨ (q.2.2.2.2.2 = true ∧ q.2.2.2.2.1 = f.1)) then (am_put h a f.1 f.2.1 v).map (fun h' => (r, h')) else none
      | _ => none)
    | none => none)
  | .iaload, 1 => (match st with
    | .int x :: .ref a :: r => (am_ld h a 0 x).map (fun v => (.int v :: r, h))
    | _ => none)
  | .baload, 1 => (match st with
    | .int x :: .ref a :: r => (am_ld h a 1 x).map (fun v => (.int v :: r, h))
    | _ => none)
  | .aaload, 1 => (match st with
    | .int x :: .ref a :: r => (am_ldq h a x).map (fun v => (v :: r, h))
    | _ => none)
  | .iastore, 1 => (match st with
    | .int v :: .int x :: .ref a :: r => (am_sv h a 0 x v).map (fun h' => (r, h'))
    | _ => none)
  | .bastore, 1 => (match st with
    | .int v :: .int x :: .ref a :: r => (am_sv h a 1 x (vp_nar .boolean v)).map (fun h' => (r, h'))
    | _ => none)
  | .aastore, 1 => (match st with
    | .ref v :: .int x :: .ref a :: r => (am_stq h a x v).map (fun h' => (r, h'))
    | _ => none)
  | .arraylength, 1 => (match st with
    | .ref a :: r => (am_len h a).map (fun v => (.int v :: r, h))
    | _ => none)
  | .new idx, 3 => (match am_cl q.2.2.2.2.1 idx with
    | some ci => some (.ref h.1 :: st, am_new h (.inl (ci, am_df ci)) (am_df ci).length)
    | none => none)
  | .newarray .int, 2 => (match st with
    | .int n :: r => if ¬ n < 0 ∧ n.toNatClampNeg ≤ 1000000 then some (.ref h.1 :: r, am_new h (.inr (.inl (0, List.replicate n.toNatClampNeg 0))) n.toNatClampNeg) else none
    | _ => none)
  | .newarray .boolean, 2 => (match st with
    | .int n :: r => if ¬ n < 0 ∧ n.toNatClampNeg ≤ 1000000 then some (.ref h.1 :: r, am_new h (.inr (.inl (1, List.replicate n.toNatClampNeg 0))) n.toNatClampNeg) else none
    | _ => none)
  | .anewarray idx, 3 => (match am_al q.2.2.2.2.1 idx with
    | some t => (match st with
      | .int n :: r => if ¬ n < 0 ∧ n.toNatClampNeg ≤ 1000000 then some (.ref h.1 :: r, am_new h (.inr (.inr (t, List.replicate n.toNatClampNeg none))) n.toNatClampNeg) else none
      | _ => none)
    | none => none)
  | .ldc idx, 2 => (match am_kc q.2.2.2.2.1 idx with
    | some v => some (.int v :: st, h)
    | none => none)
  | .ldc_w idx, 3 => (match am_kc q.2.2.2.2.1 idx with
    | some v => some (.int v :: st, h)
    | none => none)
  | .invokespecial idx, 3 => (match am_ml q.2.2.2.2.1 idx with
    | some f => (match st with
      | .ref _ :: r => if f.2.1 = 6 ∧ am_cat r ≤ 8 then some (r, h) else none
      | _ => none)
    | none => none)
  | .invokestatic idx, 3 => (match am_ml q.2.2.2.2.1 idx with
    | some f => (match st with
      | .int y :: .int x :: r => if f.2.1 = 7 ∧ am_cat r ≤ 8 then some (.int (if y < x then y else x) :: r, h) else none
      | _ => none)
    | none => none)
  | _, _ => none
/-- returns -/
def am_rt (q : am_M) (i : Instr) (len : Nat) (st : List Value) : Option (Option Value) := match i, len with
  | .ireturn, 1 => (match st, q.2.2.2.1 with
    | [.int v], some ty => if narrow ty (.int v) = .int v then some (some (.int v)) else none
    | _, _ => none)
  | .return_, 1 => (match st, q.2.2.2.1 with
    | [], none => some none
    | _, _ => none)
  | .areturn, 1 => (match st, q.2.2.2.1 with
    | [.ref a], some (.object _) => some (some (.ref a))
    | [.ref a], some (.array _) => some (some (.ref a))
    | _, _ => none)
  | _, _ => none
/-- the receiver is an object of the method's own class -/
def am_rc (h : am_H) (b y : Nat) : Bool := match h.2.2 b with
  | some (.inl o) => (match am_ms[y]? with
    | some q => decide (o.1 = q.2.2.2.2.1)
    | none => false)
  | _ => false
def am_g (y n : Nat) (as rest : List Value) : Bool := match am_ms[y]? with
  | some q => decide (as.length ≤ q.2.2.1) && as.all (fun v => decide (v.category = 1)) && decide (am_cat rest ≤ 8) && decide (as.length = n)
  | none => false
def am_ca (q : am_M) (i : Instr) (len : Nat) (st : List Value) (h : am_H) : Option (Nat × List Value × List Value) := match i, len with
  | .invokevirtual idx, 3 => (match am_ml q.2.2.2.2.1 idx with
    | some f => (match st.drop f.2.2 with
      | .ref b :: r => if (f.2.1 = 0 ∨ f.2.1 = 1) ∧ am_rc h b f.1 = true ∧ am_g f.1 (f.2.2 + 1) (.ref b :: (st.take f.2.2).reverse) r = true then some (f.1, .ref b :: (st.take f.2.2).reverse, r) else none
      | _ => none)
    | none => none)
  | .invokestatic idx, 3 => (match am_ml q.2.2.2.2.1 idx with
    | some f => if (f.2.1 = 2 ∨ f.2.1 = 3) ∧ am_g f.1 f.2.2 (st.take f.2.2).reverse (st.drop f.2.2) = true then some (f.1, (st.take f.2.2).reverse, st.drop f.2.2) else none
    | none => none)
  | .invokespecial idx, 3 => (match am_ml q.2.2.2.2.1 idx with
    | some f => (match st.drop f.2.2 with
      | .ref b :: r => if (f.2.1 = 4 ∨ f.2.1 = 5) ∧ am_g f.1 (f.2.2 + 1) (.ref b :: (st.take f.2.2).reverse) r = true then some (f.1, .ref b :: (st.take f.2.2).reverse, r) else none
      | _ => none)
    | none => none)
  | _, _ => none
def am_go (q : am_M) (i : Instr) (len pc : Nat) (lc : am_L) (st : List Value) (h : am_H) : am_O := match am_pu i len lc st with
  | some r => some (.inl (pc + len, r.1, r.2, h))
  | none => match am_bb i len pc st with
    | some r => some (.inl (r.1, lc, r.2, h))
    | none => match am_hp q i len st h with
      | some r => some (.inl (pc + len, lc, r.1, r.2))
      | none => match am_rt q i len st with
        | some r => some (.inr (.inl r))
        | none => match am_ca q i len st h with
          | some r => some (.inr (.inr r))
          | none => none
def am_en (y : Nat) (as : List Value) : am_L := match am_ms[y]? with
  | some q => as.map some ++ List.replicate (q.2.2.1 - as.length) none
  | none => []
/-- one instruction, and what comes behind it by 'rec' -/
def am_bd (rec : Nat → Nat → Nat → am_L → List Value → am_H → Option (Option Value × am_H)) (d y pc : Nat) (lc : am_L) (st : List Value) (h : am_H) : Option (Option Value × am_H) := match am_ms[y]? with
  | none => none
  | some q => match decode q.2.1 pc with
    | .error _ => none
    | .ok il => match am_go q il.1 il.2 pc lc st h with
      | none => none
      | some (.inl r) => rec d y r.1 r.2.1 r.2.2.1 r.2.2.2
      | some (.inr (.inl r)) => some (r, h)
      | some (.inr (.inr r)) => match d with
        | 0 => none
        | d' + 1 => match rec d' r.1 0 (am_en r.1 r.2.1) [] h with
          | none => none
          | some x => rec (d' + 1) y (pc + 3) lc (x.1.toList ++ r.2.2) x.2
def am_run : Nat → Nat → Nat → Nat → am_L → List Value → am_H → Option (Option Value × am_H)
  | 0, _, _, _, _, _, _ => none
  | n + 1, d, y, pc, lc, st, h => am_bd (fun d y pc lc st h => am_run n d y pc lc st h) d y pc lc st h
theorem am_bd_mono {f g : Nat → Nat → Nat → am_L → List Value → am_H → Option (Option Value × am_H)} (hfg : ∀ d y pc lc st h R, f d y pc lc st h = some R → g d y pc lc st h = some R) {d y pc : Nat} {lc : am_L} {st : List Value} {h : am_H} {R : Option Value × am_H} (hR : am_bd f d y pc lc st h = some R) : am_bd g d y pc lc st h = some R := by
  unfold am_bd at hR ⊢
  cases hq : am_ms[y]? with
  | none => rw [hq] at hR; cases hR
  | some q =>
    rw [hq] at hR
    dsimp only at hR ⊢
    cases hd : decode q.2.1 pc with
    | error e => rw [hd] at hR; cases hR
    | ok il =>
      rw [hd] at hR
      dsimp only at hR ⊢
      cases hg : am_go q il.1 il.2 pc lc st h with
      | none => rw [hg] at hR; cases hR
      | some z =>
        rw [hg] at hR
        obtain r | r | r := z
        · exact hfg _ _ _ _ _ _ _ hR
        · exact hR
        · cases d with
          | zero => cases hR
          | succ d' =>
            dsimp only at hR ⊢
            cases hc : f d' r.1 0 (am_en r.1 r.2.1) [] h with
            | none => rw [hc] at hR; cases hR
            | some x =>
              rw [hc] at hR
              rw [hfg _ _ _ _ _ _ _ hc]
              exact hfg _ _ _ _ _ _ _ hR
theorem am_run_s (n : Nat) : ∀ (d y pc : Nat) (lc : am_L) (st : List Value) (h : am_H) (R : Option Value × am_H), am_run n d y pc lc st h = some R → am_run (n + 1) d y pc lc st h = some R := by
  induction n with
  | zero => intro d y pc lc st h R hR; cases hR
  | succ n ih =>
    intro d y pc lc st h R hR
    exact am_bd_mono (f := fun d y pc lc st h => am_run n d y pc lc st h) (g := fun d y pc lc st h => am_run (n + 1) d y pc lc st h) ih hR
theorem am_run_le {n m : Nat} (hnm : n ≤ m) {d y pc : Nat} {lc : am_L} {st : List Value} {h : am_H} {R : Option Value × am_H} (hR : am_run n d y pc lc st h = some R) : am_run m d y pc lc st h = some R := by
  induction hnm with
  | refl => exact hR
  | step _ ih => exact am_run_s _ _ _ _ _ _ _ _ ih
noncomputable def rn (d y pc : Nat) (lc : am_L) (st : List Value) (h : am_H) : Option (Option Value × am_H) :=
  @dite _ (∃ R : Option Value × am_H, ∃ n : Nat, am_run n d y pc lc st h = some R) (Classical.propDecidable _) (fun hx => some (Classical.choose hx)) (fun _ => none)
theorem rn_iff {d y pc : Nat} {lc : am_L} {st : List Value} {h : am_H} {R : Option Value × am_H} : rn d y pc lc st h = some R ↔ ∃ n : Nat, am_run n d y pc lc st h = some R := by
  unfold rn
  by_cases hx : ∃ R : Option Value × am_H, ∃ n : Nat, am_run n d y pc lc st h = some R
  · rw [dif_pos hx]
    obtain ⟨m, hm⟩ := Classical.choose_spec hx
    constructor
    · intro e
      rw [← Option.some.inj e]
      exact ⟨m, hm⟩
    · rintro ⟨n, hn⟩
      have h1 := am_run_le (Nat.le_max_left n m) hn
      have h2 := am_run_le (Nat.le_max_right n m) hm
      rw [h1] at h2
      exact h2.symm
  · rw [dif_neg hx]
    constructor
    · intro e; cases e
    · intro hn; exact absurd ⟨R, hn⟩ hx
theorem rn_eq (d y pc : Nat) (lc : am_L) (st : List Value) (h : am_H) : rn d y pc lc st h = am_bd rn d y pc lc st h := by
  have key : ∀ R, rn d y pc lc st h = some R ↔ am_bd rn d y pc lc st h = some R := by
    intro R
    constructor
    · intro hR
      obtain ⟨n, hn⟩ := rn_iff.mp hR
      cases n with
      | zero => cases hn
      | succ n => exact am_bd_mono (f := fun d y pc lc st h => am_run n d y pc lc st h) (fun d y pc lc st h R hR => rn_iff.mpr ⟨n, hR⟩) hn
    · intro hR
      have : ∃ n : Nat, am_bd (fun d y pc lc st h => am_run n d y pc lc st h) d y pc lc st h = some R := by
        unfold am_bd at hR ⊢
        cases hq : am_ms[y]? with
        | none => rw [hq] at hR; cases hR
        | some q =>
          rw [hq] at hR
          dsimp only at hR ⊢
          cases hd : decode q.2.1 pc with
          | error e => rw [hd] at hR; cases hR
          | ok il =>
            rw [hd] at hR
            dsimp only at hR ⊢
            cases hg : am_go q il.1 il.2 pc lc st h with
            | none => rw [hg] at hR; cases hR
            | some z =>
              rw [hg] at hR
              obtain r | r | r := z
              · exact rn_iff.mp hR
              · exact ⟨0, hR⟩
              · cases d with
                | zero => cases hR
                | succ d' =>
                  dsimp only at hR ⊢
                  cases hc : rn d' r.1 0 (am_en r.1 r.2.1) [] h with
                  | none => rw [hc] at hR; cases hR
                  | some x =>
                    rw [hc] at hR
                    obtain ⟨n1, h1⟩ := rn_iff.mp hc
                    obtain ⟨n2, h2⟩ := rn_iff.mp hR
                    refine ⟨max n1 n2, ?_⟩
                    rw [am_run_le (Nat.le_max_left n1 n2) h1]
                    exact am_run_le (Nat.le_max_right n1 n2) h2
      obtain ⟨n, hn⟩ := this
      exact rn_iff.mpr ⟨n + 1, hn⟩
  cases h1 : am_bd rn d y pc lc st h with
  | some R => exact (key R).mpr h1
  | none =>
    cases h2 : rn d y pc lc st h with
    | none => rfl
    | some R => rw [(key R).mp h2] at h1; cases h1
section RNL
variable {d y pc len : Nat} {lc : am_L} {st : List Value} {h : am_H} {q : am_M} {i : Instr}
theorem rn_nx {pc' : Nat} {lc' : am_L} {st' : List Value} {h' : am_H} (hq : am_ms[y]? = some q) (hd : decode q.2.1 pc = .ok (i, len)) (hg : am_go q i len pc lc st h = some (.inl (pc', lc', st', h'))) : rn d y pc lc st h = rn d y pc' lc' st' h' := by
  rw [rn_eq]
  simp only [am_bd, hq, hd, hg]
theorem rn_rt {r : Option Value} (hq : am_ms[y]? = some q) (hd : decode q.2.1 pc = .ok (i, len)) (hg : am_go q i len pc lc st h = some (.inr (.inl r))) : rn d y pc lc st h = some (r, h) := by
  rw [rn_eq]
  simp only [am_bd, hq, hd, hg]
theorem rn_no (hq : am_ms[y]? = some q) (hd : decode q.2.1 pc = .ok (i, len)) (hg : am_go q i len pc lc st h = none) : rn d y pc lc st h = none := by
  rw [rn_eq]
  simp only [am_bd, hq, hd, hg]
theorem rn_ca {y' : Nat} {as rest : List Value} (hq : am_ms[y]? = some q) (hd : decode q.2.1 pc = .ok (i, len)) (hg : am_go q i len pc lc st h = some (.inr (.inr (y', as, rest)))) : rn (d + 1) y pc lc st h = (rn d y' 0 (am_en y' as) [] h).bind (fun x => rn (d + 1) y (pc + 3) lc (x.1.toList ++ rest) x.2) := by
  rw [rn_eq]
  simp only [am_bd, hq, hd, hg]
  cases rn d y' 0 (am_en y' as) [] h <;> rfl
end RNL
end
section
/-! THE SMALL MACHINE IS TRUE TO THE LARGE ONE: its cells lie from the address 'lo' on -/
def am_u (lo : Nat) (v : Value) : Value := match v with
  | .ref a => .ref (lo + a)
  | v => v
theorem am_u_cat (lo : Nat) (v : Value) : (am_u lo v).category = v.category := by cases v <;> rfl
theorem am_u_rf (lo : Nat) (q : Option Nat) : am_u lo (va_rf q) = va_rf (q.map (fun a => lo + a)) := by cases q <;> rfl
theorem am_u_ok {lo : Nat} {ty : FieldType} {v : Value} (h : am_ok ty v = true) : narrow ty (am_u lo v) = am_u lo v ∧ fits ty (am_u lo v) = true := by
  simp only [am_ok, Bool.and_eq_true, decide_eq_true_eq] at h
  cases v with
  | ref a => cases ty <;> exact ⟨rfl, h.2⟩
  | _ => exact h
theorem am_cat_u (lo : Nat) (st : List Value) : ((st.map (am_u lo)).map fun v => v.category).sum = am_cat st := by
  unfold am_cat
  rw [List.map_map]
  congr 1
  exact List.map_congr_left fun v _ => am_u_cat lo v
def am_c (tc : Nat → ClassId) (lo : Nat) (e : am_E) : va_E := match e with
  | .inl o => .inr (o.1, o.2.map (am_u lo))
  | .inr (.inl a) => .inl (tc a.1, a.2.length, .inl (fun j => a.2.getD j 0))
  | .inr (.inr a) => .inl (tc a.1, a.2.length, .inr (.inr (.inr (.inr (fun j => (a.2.getD j none).map (fun q => lo + q))))))
def am_R (D : va_G) (tc : Nat → ClassId) (lo : Nat) (h : am_H) (H : Heap) : Prop := H.size = lo + h.1 ∧ ∀ (k : Nat) (e : am_E), h.2.2 k = some e → va_at D classes (lo + k, am_c tc lo e) H
def am_LR (lo : Nat) (lc : am_L) (ls : Array Slot) : Prop := lc.length = ls.size ∧ lv_wf ls ∧ ∀ (i : Nat) (v : Value), lc[i]? = some (some v) → v.category = 1 ∧ ls[i]? = some (.val (am_u lo v))
def am_Kn (D : va_G) (tc : Nat → ClassId) (U : State) : Prop := va_K D classes [] U ∧ (∀ (t : Nat) (ty : FieldType), am_ats[t]? = some ty → ArrOfT U (tc t) ty ∧ va_RA U (tc t) ty) ∧ (∀ w ∈ am_nest, va_Nw w U) ∧ ∀ C ∈ am_aos, va_AO C U
theorem am_nw {w : Jvm.Cond} (hw : am_isN w = true) {s U : State} (hW : s.WarmedH U.vm) (h : va_Nw w s) : va_Nw w U := by
  unfold am_isN at hw
  split at hw
  · exact va_Nw.warmF hW h
  · exact va_Nw.warmM hW h
  · cases hw
theorem am_nws {w : Jvm.Cond} (hw : am_isN w = true) {s U : State} (hW : s.vm = U.vm) (h : va_Nw w s) : va_Nw w U := by
  unfold am_isN at hw
  split at hw
  · exact va_Nw.same rfl hW h
  · exact va_Nw.same rfl hW h
  · cases hw
theorem am_Kn.moved {D : va_G} {tc : Nat → ClassId} {s U : State} (hW : s.WarmedH U.vm) (h : am_Kn D tc s) : am_Kn D tc U :=
  ⟨va_K.moved hW.alike h.1, fun t ty ht => ⟨arrOfT_moved hW.alike (h.2.1 t ty ht).1, (h.2.1 t ty ht).2.moved hW.alike⟩, fun w hw => am_nw (am_nest_ok w hw) hW (h.2.2.1 w hw), fun C hC => va_AO.moved hW.alike (h.2.2.2 C hC)⟩
theorem am_Kn.same {D : va_G} {tc : Nat → ClassId} {s U : State} (hW : s.vm = U.vm) (h : am_Kn D tc s) : am_Kn D tc U := by
  have ha : s.vm.Alike U.vm := hW ▸ Vm.Alike.refl s.vm
  exact ⟨va_K.moved ha h.1, fun t ty ht => ⟨arrOfT_moved ha (h.2.1 t ty ht).1, (h.2.1 t ty ht).2.moved ha⟩, fun w hw => am_nws (am_nest_ok w hw) hW (h.2.2.1 w hw), fun C hC => va_AO.moved ha (h.2.2.2 C hC)⟩
theorem am_P1 {D : va_G} {x : Nat × va_E} {H : Heap} (h : va_at D classes x H) : va_P D classes [x] H := by
  intro k q hk
  cases k with
  | zero => cases hk; exact h
  | succ k => simp at hk
theorem am_R.up {D : va_G} {tc : Nat → ClassId} {lo : Nat} {h : am_H} {H H1 : Heap} {k : Nat} {e : am_E} (hR : am_R D tc lo h H) (z : H1.size = H.size) (he : va_at D classes (lo + k, am_c tc lo e) H1) (oq : ∀ q, q ≠ lo + k → H1[q]? = H[q]?) : am_R D tc lo (h.1, h.2.1, am_up h.2.2 k e) H1 := by
  refine ⟨by rw [z]; exact hR.1, fun j e' hj => ?_⟩
  dsimp only [am_up] at hj
  by_cases hjk : j = k
  · subst hjk
    rw [if_pos rfl] at hj
    cases hj
    exact he
  · rw [if_neg hjk] at hj
    exact (hR.2 j e' hj).kept (oq _ (by dsimp only; omega))
theorem am_R.push {D : va_G} {tc : Nat → ClassId} {lo : Nat} {h : am_H} {H H1 : Heap} {e : am_E} (n : Nat) (hR : am_R D tc lo h H) (z : H1.size = lo + h.1 + 1) (he : va_at D classes (lo + h.1, am_c tc lo e) H1) (oq : ∀ q, q < lo + h.1 → H1[q]? = H[q]?) : am_R D tc lo (am_new h e n) H1 := by
  refine ⟨by rw [z]; rfl, fun j e' hj => ?_⟩
  dsimp only [am_new, am_up] at hj
  by_cases hjk : j = h.1
  · subst hjk
    rw [if_pos rfl] at hj
    cases hj
    exact he
  · rw [if_neg hjk] at hj
    have h1 := hR.2 j e' hj
    have h2 := h1.lt
    rw [hR.1] at h2
    exact h1.kept (oq _ h2)
theorem am_get_sp {h : am_H} {a ci k : Nat} {v : Value} (hg : am_get h a ci k = some v) : ∃ fs, h.2.2 a = some (.inl (ci, fs)) ∧ fs[k]? = some v := by
  unfold am_get at hg
  split at hg
  · rename_i o ho
    split at hg
    · rename_i hc
      exact ⟨o.2, by rw [ho, ← hc], hg⟩
    · cases hg
  · cases hg
theorem am_put_sp {h h' : am_H} {a ci k : Nat} {v : Value} (hg : am_put h a ci k v = some h') : ∃ fs, h.2.2 a = some (.inl (ci, fs)) ∧ k < fs.length ∧ (h.1, h.2.1, am_up h.2.2 a (.inl (ci, fs.set k v))) = h' := by
  unfold am_put at hg
  split at hg
  · rename_i o ho
    split at hg
    · rename_i hc
      exact ⟨o.2, by rw [ho, ← hc.1], hc.2, Option.some.inj hg⟩
    · cases hg
  · cases hg
theorem am_ld_sp {h : am_H} {a t : Nat} {i v : Int32} (hg : am_ld h a t i = some v) : ∃ xs, h.2.2 a = some (.inr (.inl (t, xs))) ∧ ¬ i < 0 ∧ xs[i.toNatClampNeg]? = some v := by
  unfold am_ld at hg
  split at hg
  · rename_i o ho
    split at hg
    · rename_i hc
      exact ⟨o.2, by rw [ho, ← hc.1], hc.2, hg⟩
    · cases hg
  · cases hg
theorem am_sv_sp {h h' : am_H} {a t : Nat} {i v : Int32} (hg : am_sv h a t i v = some h') : ∃ xs, h.2.2 a = some (.inr (.inl (t, xs))) ∧ ¬ i < 0 ∧ i.toNatClampNeg < xs.length ∧ (h.1, h.2.1, am_up h.2.2 a (.inr (.inl (t, xs.set i.toNatClampNeg v)))) = h' := by
  unfold am_sv at hg
  split at hg
  · rename_i o ho
    split at hg
    · rename_i hc
      exact ⟨o.2, by rw [ho, ← hc.1], hc.2.1, hc.2.2, Option.some.inj hg⟩
    · cases hg
  · cases hg
theorem am_ldq_sp {h : am_H} {a : Nat} {i : Int32} {v : Value} (hg : am_ldq h a i = some v) : ∃ t qs q, h.2.2 a = some (.inr (.inr (t, qs))) ∧ am_isq t = true ∧ ¬ i < 0 ∧ qs[i.toNatClampNeg]? = some q ∧ v = va_rf q := by
  unfold am_ldq at hg
  split at hg
  · rename_i o ho
    split at hg
    · rename_i hc
      cases hq : o.2[i.toNatClampNeg]? with
      | none => rw [hq] at hg; cases hg
      | some q => rw [hq] at hg; exact ⟨o.1, o.2, q, ho, hc.1, hc.2, hq, (Option.some.inj hg).symm⟩
    · cases hg
  · cases hg
theorem am_stq_sp {h h' : am_H} {a v : Nat} {i : Int32} (hg : am_stq h a i v = some h') : ∃ t qs ci vs, h.2.2 a = some (.inr (.inr (t, qs))) ∧ h.2.2 v = some (.inl (ci, vs)) ∧ am_ac t = some ci ∧ ¬ i < 0 ∧ i.toNatClampNeg < qs.length ∧ (h.1, h.2.1, am_up h.2.2 a (.inr (.inr (t, qs.set i.toNatClampNeg (some v))))) = h' := by
  unfold am_stq at hg
  split at hg
  · rename_i o ho
    split at hg
    · rename_i x hx
      split at hg
      · rename_i hc
        exact ⟨o.1, o.2, x.1, x.2, ho, hx, hc.1, hc.2.1, hc.2.2, Option.some.inj hg⟩
      · cases hg
    · cases hg
  · cases hg
theorem am_isq_sp {t : Nat} (h : am_isq t = true) : ∃ C, am_ats[t]? = some (.object C) := by
  unfold am_isq at h
  split at h
  · rename_i C hC
    exact ⟨C, hC⟩
  · cases h
theorem am_in {i : Int32} {n : Nat} (h0 : ¬ i < 0) (h1 : i.toNatClampNeg < n) : vp_in i n := fun q => q.elim h0 (fun z => absurd z (Nat.not_le.mpr h1))
theorem am_setD {α : Type} (xs : List α) (d : α) {k : Nat} (v : α) (hk : k < xs.length) (j : Nat) : (xs.set k v).getD j d = if j = k then v else xs.getD j d := by
  by_cases hj : j = k
  · subst hj
    simp [List.getD, hk]
  · simp [List.getD, List.getElem?_set_ne (Ne.symm hj), hj]
theorem am_repD {α : Type} (n : Nat) (d : α) (j : Nat) : (List.replicate n d).getD j d = d := by
  simp only [List.getD, List.getElem?_replicate]
  split <;> rfl
theorem am_store {lo : Nat} {lc : am_L} {ls : Array Slot} {i : Nat} {v : Value} (hL : am_LR lo lc ls) (hi : i < lc.length) (hc : v.category = 1) : ∃ ls', storeLocals ls i (am_u lo v) = some ls' ∧ am_LR lo (lc.set i (some v)) ls' := by
  obtain ⟨hs, hw, hv⟩ := hL
  have hc' : (am_u lo v).category = 1 := by rw [am_u_cat]; exact hc
  have hi' : i < ls.size := by rw [← hs]; exact hi
  obtain ⟨ls', e', h'⟩ := lv_store1 (nL := ls.size) (l := []) ⟨rfl, hw, fun q hq => by cases hq⟩ hi' hc'
  refine ⟨ls', e', by rw [List.length_set, hs]; exact h'.1.symm, h'.2.1, fun j w hj => ?_⟩
  by_cases hji : j = i
  · subst hji
    rw [List.getElem?_set_self hi] at hj
    cases hj
    exact ⟨hc, h'.2.2 _ List.mem_cons_self⟩
  · rw [List.getElem?_set_ne (Ne.symm hji)] at hj
    obtain ⟨c1, c2⟩ := hv j w hj
    refine ⟨c1, ?_⟩
    obtain ⟨ls2, e2, h2⟩ := lv_store1 (nL := ls.size) (l := [(j, am_u lo w)]) ⟨rfl, hw, fun q hq => by rw [List.mem_singleton] at hq; subst hq; exact c2⟩ hi' hc'
    rw [e'] at e2
    cases e2
    refine h2.2.2 (j, am_u lo w) (List.mem_cons_of_mem _ (List.mem_filter.mpr ⟨List.mem_singleton.mpr rfl, ?_⟩))
    simp [hji, am_u_cat, c1]
theorem am_df_u {lo : Nat} {vs : List Value} (h : ∀ v ∈ vs, v = .int 0 ∨ v = .null) : vs.map (am_u lo) = vs := by
  have h2 : vs.map (am_u lo) = vs.map id := List.map_congr_left fun v hv => by rcases h v hv with rfl | rfl <;> rfl
  rw [h2, List.map_id]
section AMW
variable {p : Program} {l : Launch} {e : Env} {R : Room} {s : State} {m : MethodId} {args : Array Value} {below : List Frame} {meth : Method} {c : Code} {H : Heap} {locs : List Loc} {cells slots : Nat} {Q : State → Prop}
variable {cc : ByteArray} {pc : Nat} {ls : Array Slot} {rest : List Value} {D : va_G} {tc : Nat → ClassId} {lo : Nat} {h h' : am_H} {oc : Nat}
theorem am_w_istn (hexec : p.tables.exec = Jvm.exec) (hb : c.code = cc) {k : Fin 4} {x : Int32} {ls' : Array Slot} (hdg : decode cc pc = .ok (.istore_n k, 1)) (e' : storeLocals ls k (.int x) = some ls') (kk : W p l e R s m args below meth c H locs cells slots Q (F0 m (pc + 1) ls' rest)) : W p l e R s m args below meth c H locs cells slots Q (F0 m pc ls (.int x :: rest)) := by
  intro T hT X
  obtain ⟨t, a, b⟩ := kk T hT X
  refine ⟨t, ?_, b⟩
  jvm_step X.here [X.here.top, ↓top_set X.here.top, hexec, hb, hdg, e']
  exact a
theorem am_w_ist (hexec : p.tables.exec = Jvm.exec) (hb : c.code = cc) {k : Nat} {x : Int32} {ls' : Array Slot} (hdg : decode cc pc = .ok (.istore k, 2)) (e' : storeLocals ls k (.int x) = some ls') (kk : W p l e R s m args below meth c H locs cells slots Q (F0 m (pc + 2) ls' rest)) : W p l e R s m args below meth c H locs cells slots Q (F0 m pc ls (.int x :: rest)) := by
  intro T hT X
  obtain ⟨t, a, b⟩ := kk T hT X
  refine ⟨t, ?_, b⟩
  jvm_step X.here [X.here.top, ↓top_set X.here.top, hexec, hb, hdg, e']
  exact a
theorem am_w_astn (hexec : p.tables.exec = Jvm.exec) (hb : c.code = cc) {k : Fin 4} {x : Nat} {ls' : Array Slot} (hdg : decode cc pc = .ok (.astore_n k, 1)) (e' : storeLocals ls k (.ref x) = some ls') (kk : W p l e R s m args below meth c H locs cells slots Q (F0 m (pc + 1) ls' rest)) : W p l e R s m args below meth c H locs cells slots Q (F0 m pc ls (.ref x :: rest)) := by
  intro T hT X
  obtain ⟨t, a, b⟩ := kk T hT X
  refine ⟨t, ?_, b⟩
  jvm_step X.here [X.here.top, ↓top_set X.here.top, hexec, hb, hdg, e', Value.isRef]
  exact a
theorem am_w_ast (hexec : p.tables.exec = Jvm.exec) (hb : c.code = cc) {k : Nat} {x : Nat} {ls' : Array Slot} (hdg : decode cc pc = .ok (.astore k, 2)) (e' : storeLocals ls k (.ref x) = some ls') (kk : W p l e R s m args below meth c H locs cells slots Q (F0 m (pc + 2) ls' rest)) : W p l e R s m args below meth c H locs cells slots Q (F0 m pc ls (.ref x :: rest)) := by
  intro T hT X
  obtain ⟨t, a, b⟩ := kk T hT X
  refine ⟨t, ?_, b⟩
  jvm_step X.here [X.here.top, ↓top_set X.here.top, hexec, hb, hdg, e', Value.isRef]
  exact a
theorem am_w_iinc (hexec : p.tables.exec = Jvm.exec) (hb : c.code = cc) {k : Nat} {n : Int} {x : Int32} {ls' : Array Slot} (hdg : decode cc pc = .ok (.iinc k n, 3)) (hg : ls[k]? = some (.val (.int x))) (e' : storeLocals ls k (.int (x + Int32.ofInt n)) = some ls') (kk : W p l e R s m args below meth c H locs cells slots Q (F0 m (pc + 3) ls' rest)) : W p l e R s m args below meth c H locs cells slots Q (F0 m pc ls rest) := by
  intro T hT X
  obtain ⟨t, a, b⟩ := kk T hT X
  refine ⟨t, ?_, b⟩
  jvm_step X.here [X.here.top, ↓top_set X.here.top, hexec, hb, hdg, hg, e']
  exact a
theorem am_w_get (hx : p.tables.exec = Jvm.exec) (hb : c.code = cc) (hts : ∀ w ∈ am_kw, w.before args s = true) (hown : s.vm.findClass (am_cn oc) = some m.cls) (hK : am_Kn D tc s) (hR : am_R D tc lo h H) {idx a : Nat} {f : Nat × Nat × FieldType × Bool} {v : Value} (hf : am_fl oc idx = some f) (hg : am_get h a f.1 f.2.1 = some v) (hdg : decode cc pc = .ok (.getfield idx, 3))
    (kk : W p l e R s m args below meth c H locs cells slots Q (F0 m (pc + 3) ls (am_u lo v :: rest))) : W p l e R s m args below meth c H locs cells slots Q (F0 m pc ls (.ref (lo + a) :: rest)) := by
  obtain ⟨fs, he, hv⟩ := am_get_sp hg
  obtain ⟨C, T, N, t0, hc, hk, hin, hty, hnm, hT1, hfin, hd, hl, -⟩ := am_fl_ok oc idx f hf
  have hP := am_P1 (hR.2 a _ he)
  have hv' : (fs.map (am_u lo))[f.2.1]? = some (am_u lo v) := by rw [List.getElem?_map, hv]; rfl
  rcases hl with hl | ⟨host, hl⟩
  · exact va_get (D := D) (cl := classes) (tys := []) hx hb hts hin hown hK.1 hP 0 rfl hc f.2.1 hk (hts _ hl) (fun x h9 => by rw [hT1] at h9; exact h9) hv' hdg kk
  · exact va_getN (D := D) (cl := classes) (tys := []) hx hb hts hin hown hK.1 hP 0 rfl hc f.2.1 hk (va_Nw.use rfl (hK.2.2.1 _ hl)) (fun x h9 => by rw [hT1] at h9; exact h9) hv' hdg kk
theorem am_w_put (hx : p.tables.exec = Jvm.exec) (hb : c.code = cc) (hts : ∀ w ∈ am_kw, w.before args s = true) (hown : s.vm.findClass (am_cn oc) = some m.cls) (hK : am_Kn D tc s) (hR : am_R D tc lo h H) {idx a : Nat} {f : Nat × Nat × FieldType × Bool} {v : Value} (hf : am_fl oc idx = some f) (hi : f.2.2.2 = false ∨ (oc = f.1 ∧ meth.name = "<init>")) (hok : am_ok f.2.2.1 v = true) (hg : am_put h a f.1 f.2.1 v = some h') (hdg : decode cc pc = .ok (.putfield idx, 3))
    (kk : ∀ (H1 : Heap) (sl : Nat), am_R D tc lo h' H1 → (∀ x, x < lo → H1[x]? = H[x]?) → W p l e R s m args below meth c H1 (locs ++ [⟨lo + a, sl⟩]) cells slots Q (F0 m (pc + 3) ls rest)) : W p l e R s m args below meth c H locs cells slots Q (F0 m pc ls (am_u lo v :: .ref (lo + a) :: rest)) := by
  obtain ⟨fs, he, hlen, rfl⟩ := am_put_sp hg
  obtain ⟨C, T, N, t0, hc, hk, hin, hty, hnm, hT1, hfin, hd, hl, hll⟩ := am_fl_ok oc idx f hf
  have hap := va_apart (own := "") (D := D) (cl := classes) (tys := []) hts hin t0 hty hnm hK.1 hc
  obtain ⟨r, h1, cell, q1, q2, q3, q4⟩ := hR.2 a _ he
  have hr : r = (C, T, N) := Option.some.inj (h1.symm.trans hc)
  subst hr
  obtain ⟨hS, hfc, kC, hkC, hkind⟩ := hK.1.1 f.1 _ hc
  obtain ⟨cf, kf, fi, fd, hi', hsl⟩ := hS f.2.1 hk
  have hlay := hts _ (hin _ (u_in_lay hk))
  unfold u_lay at hlay
  have hst := (u_facts hfc hkC (u_lays hts hin hk) hi').1
  obtain ⟨hn, hfit⟩ := am_u_ok (lo := lo) hok
  have fin : ∀ H' : Heap, H'[lo + a]? = some (cell.setSlot (D.2 f.1 f.2.1) (am_u lo v)) → H'.size = H.size → (∀ q, q ≠ lo + a → H'[q]? = H[q]?) → am_R D tc lo (h.1, h.2.1, am_up h.2.2 a (.inl (f.1, fs.set f.2.1 v))) H' ∧ ∀ x, x < lo → H'[x]? = H[x]? := by
    intro H' e1 e2 e3
    refine ⟨am_R.up hR e2 ?_ e3, fun x hx => e3 x (by omega)⟩
    refine ⟨_, hc, t_OB.to (V := updV (vp_V (fs.map (am_u lo))) f.2.1 (am_u lo v)) ⟨_, e1, q2, q3, t_set q4 hap hk _⟩ (fun j _ => ?_)⟩
    show _ = vp_V ((fs.set f.2.1 v).map (am_u lo)) j
    rw [vp_updV_set (by simpa using hlen), List.map_set]
  have hi2 : s.fieldFound? C (T f.2.1).2.1 (T f.2.1).2.2.1 = some (cf, kf, fi, fd) := by rw [← hT1]; exact hi'
  by_cases hF : f.2.2.2 = false
  · rw [if_neg (by rw [hfin, hF]; decide)] at hlay
    have h6 := u_store hfc hkC hkind hlay hi' hd hn hfit
    rcases hl with hl | ⟨host, hl⟩
    · refine W.putK hx hb (f := fd) ⟨hown, hts _ hl, ⟨_, _, _, hi2⟩, hst⟩ (by rw [q2]; exact h6) q1 q3 (by rw [hsl]; exact k2_hasslot (q4 _ hk)) rfl rfl hdg fun H' e1 e2 e3 => ?_
      rw [hsl] at e1
      exact kk H' _ (fin H' e1 e2 e3).1 (fin H' e1 e2 e3).2
    · refine va_WputK hx hb (f := fd) hown (va_Nw.use rfl (hK.2.2.1 _ hl)) hi2 hst (by rw [q2]; exact h6) q1 q3 (by rw [hsl]; exact k2_hasslot (q4 _ hk)) rfl rfl hdg fun H' e1 e2 e3 => ?_
      rw [hsl] at e1
      exact kk H' _ (fin H' e1 e2 e3).1 (fin H' e1 e2 e3).2
  · obtain ⟨ho, hin2⟩ := hi.resolve_left hF
    have hF' : f.2.2.2 = true := by cases hz : f.2.2.2 with
      | true => rfl
      | false => exact absurd hz hF
    obtain ⟨hl2, hcn⟩ := hll ho
    rw [if_pos (by rw [hfin, hF'])] at hlay
    have hcf : m.cls = cf := by
      obtain ⟨_, _, c', _, _, _, -, -, hf', -, -, -, hown2, -⟩ := Cond.laysFinal_spec hlay
      have e1 : c' = cf := by have := hi'.symm.trans hf'; simp at this; exact this.1.symm
      rw [hT1, ← hcn] at hown2
      rw [← e1]; exact Option.some.inj (hown.symm.trans hown2)
    have h6 := u_fits hfc hkC hkind (Or.inr hlay) hi' hd hn hfit
    refine W.putFinK hx hb hown (hts _ hl2) hi2 hst hcf hin2 (by rw [q2]; exact h6) q1 q3 (by rw [hsl]; exact k2_hasslot (q4 _ hk)) rfl rfl hdg fun H' e1 e2 e3 => ?_
    rw [hsl] at e1
    exact kk H' _ (fin H' e1 e2 e3).1 (fin H' e1 e2 e3).2
theorem am_K1 {t : Nat} {ty : FieldType} (hK : am_Kn D tc s) (ht : am_ats[t]? = some ty) : va_K D classes [(tc t, ty)] s := by
  refine ⟨hK.1.1, fun k q hk => ?_⟩
  cases k with
  | zero => cases hk; exact hK.2.1 t ty ht
  | succ k => simp at hk
theorem am_getD {α : Type} {xs : List α} {d v : α} {k : Nat} (h : xs[k]? = some v) : xs.getD k d = v := by simp [List.getD, h]
theorem am_w_ild (hx : p.tables.exec = Jvm.exec) (hb : c.code = cc) (hK : am_Kn D tc s) (hR : am_R D tc lo h H) {a : Nat} {i v : Int32} (hg : am_ld h a 0 i = some v) (hdg : decode cc pc = .ok (.iaload, 1))
    (kk : W p l e R s m args below meth c H locs cells slots Q (F0 m (pc + 1) ls (.int v :: rest))) : W p l e R s m args below meth c H locs cells slots Q (F0 m pc ls (.int i :: .ref (lo + a) :: rest)) := by
  obtain ⟨xs, he, h0, hv⟩ := am_ld_sp hg
  refine va_iald (D := D) (cl := classes) (n := xs.length) (f := fun j => xs.getD j 0) hx hb (am_K1 hK (t := 0) (ty := .int) am_ats_0) (am_P1 (hR.2 a _ he)) 0 0 rfl rfl (am_in h0 (List.getElem?_eq_some_iff.mp hv).1) hdg ?_
  rw [am_getD hv]
  exact kk
theorem am_w_zld (hx : p.tables.exec = Jvm.exec) (hb : c.code = cc) (hK : am_Kn D tc s) (hR : am_R D tc lo h H) {a : Nat} {i v : Int32} (hg : am_ld h a 1 i = some v) (hdg : decode cc pc = .ok (.baload, 1))
    (kk : W p l e R s m args below meth c H locs cells slots Q (F0 m (pc + 1) ls (.int v :: rest))) : W p l e R s m args below meth c H locs cells slots Q (F0 m pc ls (.int i :: .ref (lo + a) :: rest)) := by
  obtain ⟨xs, he, h0, hv⟩ := am_ld_sp hg
  refine va_zald (D := D) (cl := classes) (n := xs.length) (f := fun j => xs.getD j 0) hx hb (am_K1 hK (t := 1) (ty := .boolean) am_ats_1) (am_P1 (hR.2 a _ he)) 0 0 rfl rfl (am_in h0 (List.getElem?_eq_some_iff.mp hv).1) hdg ?_
  rw [am_getD hv]
  exact kk
theorem am_w_qld (hx : p.tables.exec = Jvm.exec) (hb : c.code = cc) (hK : am_Kn D tc s) (hR : am_R D tc lo h H) {a : Nat} {i : Int32} {v : Value} (hg : am_ldq h a i = some v) (hdg : decode cc pc = .ok (.aaload, 1))
    (kk : W p l e R s m args below meth c H locs cells slots Q (F0 m (pc + 1) ls (am_u lo v :: rest))) : W p l e R s m args below meth c H locs cells slots Q (F0 m pc ls (.int i :: .ref (lo + a) :: rest)) := by
  obtain ⟨t, qs, q, he, hq, h0, hv, rfl⟩ := am_ldq_sp hg
  obtain ⟨C, hC⟩ := am_isq_sp hq
  refine va_aldq (D := D) (cl := classes) (n := qs.length) (f := fun j => (qs.getD j none).map (fun q => lo + q)) hx hb (am_K1 hK (t := t) (ty := .object C) hC) (am_P1 (hR.2 a _ he)) 0 0 rfl rfl (am_in h0 (List.getElem?_eq_some_iff.mp hv).1) hdg ?_
  rw [am_getD hv, ← am_u_rf]
  exact kk
theorem am_w_len (hx : p.tables.exec = Jvm.exec) (hb : c.code = cc) (hK : am_Kn D tc s) (hR : am_R D tc lo h H) {a : Nat} {v : Int32} (hg : am_len h a = some v) (hdg : decode cc pc = .ok (.arraylength, 1))
    (kk : W p l e R s m args below meth c H locs cells slots Q (F0 m (pc + 1) ls (.int v :: rest))) : W p l e R s m args below meth c H locs cells slots Q (F0 m pc ls (.ref (lo + a) :: rest)) := by
  unfold am_len at hg
  split at hg
  · rename_i o ho
    split at hg
    · rename_i hs
      obtain ⟨ty, hty⟩ := Option.isSome_iff_exists.mp hs
      exact va_alen (D := D) (cl := classes) hx hb (am_K1 hK hty) (am_P1 (hR.2 a _ ho)) 0 0 rfl rfl (Option.some.inj hg) hdg kk
    · cases hg
  · rename_i o ho
    split at hg
    · rename_i hs
      obtain ⟨ty, hty⟩ := Option.isSome_iff_exists.mp hs
      exact va_alen (D := D) (cl := classes) hx hb (am_K1 hK hty) (am_P1 (hR.2 a _ ho)) 0 0 rfl rfl (Option.some.inj hg) hdg kk
    · cases hg
  · cases hg
theorem am_w_ist' (hx : p.tables.exec = Jvm.exec) (hb : c.code = cc) (hK : am_Kn D tc s) (hR : am_R D tc lo h H) {a : Nat} {i v : Int32} (hg : am_sv h a 0 i v = some h') (hdg : decode cc pc = .ok (.iastore, 1))
    (kk : ∀ (H1 : Heap) (sl : Nat), am_R D tc lo h' H1 → (∀ x, x < lo → H1[x]? = H[x]?) → W p l e R s m args below meth c H1 (locs ++ [⟨lo + a, sl⟩]) cells slots Q (F0 m (pc + 1) ls rest)) : W p l e R s m args below meth c H locs cells slots Q (F0 m pc ls (.int v :: .int i :: .ref (lo + a) :: rest)) := by
  obtain ⟨xs, he, h0, hlt, rfl⟩ := am_sv_sp hg
  have hA := (hK.2.1 0 .int am_ats_0).1 xs.length (fun j => .int (xs.getD j 0))
  refine W.iast hx hb (hR.2 a _ he) hA (fun q => by cases q) (by show ¬ (i < 0 ∨ (arrV _ _ _).slots.size ≤ _); rw [arrV_size]; exact am_in h0 hlt) rfl rfl hdg fun H1 e z oq => ?_
  refine kk H1 _ (am_R.up hR z ?_ oq) (fun x hx => oq x (Nat.ne_of_lt (Nat.lt_of_lt_of_le hx (Nat.le_add_right _ _))))
  show H1[lo + a]? = some (arrV (tc 0) (xs.set i.toNatClampNeg v).length (fun j => .int ((xs.set i.toNatClampNeg v).getD j 0)))
  have e' : H1[lo + a]? = some ((arrV (tc 0) xs.length (fun j => .int (xs.getD j 0))).setSlot i.toNatClampNeg (.int v)) := e
  rw [e', arrV_store, List.length_set]
  congr 2
  funext j
  rw [am_setD xs 0 v hlt j]
  unfold updV
  split <;> rfl
theorem am_w_zst' (hx : p.tables.exec = Jvm.exec) (hb : c.code = cc) (hK : am_Kn D tc s) (hR : am_R D tc lo h H) {a : Nat} {i v : Int32} (hg : am_sv h a 1 i (vp_nar .boolean v) = some h') (hdg : decode cc pc = .ok (.bastore, 1))
    (kk : ∀ (H1 : Heap) (sl : Nat), am_R D tc lo h' H1 → (∀ x, x < lo → H1[x]? = H[x]?) → W p l e R s m args below meth c H1 (locs ++ [⟨lo + a, sl⟩]) cells slots Q (F0 m (pc + 1) ls rest)) : W p l e R s m args below meth c H locs cells slots Q (F0 m pc ls (.int v :: .int i :: .ref (lo + a) :: rest)) := by
  obtain ⟨xs, he, h0, hlt, rfl⟩ := am_sv_sp hg
  have hA := (hK.2.1 1 .boolean am_ats_1).1 xs.length (fun j => .int (xs.getD j 0))
  refine W.zast hx hb (hR.2 a _ he) hA (fun q => by cases q) (by show ¬ (i < 0 ∨ (arrV _ _ _).slots.size ≤ _); rw [arrV_size]; exact am_in h0 hlt) rfl rfl hdg fun H1 e z oq => ?_
  refine kk H1 _ (am_R.up hR z ?_ oq) (fun x hx => oq x (Nat.ne_of_lt (Nat.lt_of_lt_of_le hx (Nat.le_add_right _ _))))
  show H1[lo + a]? = some (arrV (tc 1) (xs.set i.toNatClampNeg (vp_nar .boolean v)).length (fun j => .int ((xs.set i.toNatClampNeg (vp_nar .boolean v)).getD j 0)))
  have e' : H1[lo + a]? = some ((arrV (tc 1) xs.length (fun j => .int (xs.getD j 0))).setSlot i.toNatClampNeg (narrow .boolean (.int v))) := e
  rw [e', arrV_store, List.length_set]
  congr 2
  funext j
  rw [am_setD xs 0 (vp_nar .boolean v) hlt j]
  unfold updV
  split <;> rfl
theorem am_w_qst' (hx : p.tables.exec = Jvm.exec) (hb : c.code = cc) (hK : am_Kn D tc s) (hR : am_R D tc lo h H) {a v : Nat} {i : Int32} (hg : am_stq h a i v = some h') (hdg : decode cc pc = .ok (.aastore, 1))
    (kk : ∀ (H1 : Heap) (sl : Nat), am_R D tc lo h' H1 → (∀ x, x < lo → H1[x]? = H[x]?) → W p l e R s m args below meth c H1 (locs ++ [⟨lo + a, sl⟩]) cells slots Q (F0 m (pc + 1) ls rest)) : W p l e R s m args below meth c H locs cells slots Q (F0 m pc ls (.ref (lo + v) :: .int i :: .ref (lo + a) :: rest)) := by
  obtain ⟨t, qs, ci, vs, he, hv, hac, h0, hlt, rfl⟩ := am_stq_sp hg
  obtain ⟨r, hc, hty⟩ := am_ac_ok t ci hac
  obtain ⟨r', hr', cellV, g1, g2, g3, -⟩ := hR.2 v _ hv
  have hcls := (hK.1.1 ci r hc).2
  obtain ⟨kA, comp, k1, k2, k3, -⟩ := (hK.2.1 t _ hty).2
  have hcomp : comp = D.1 ci := Option.some.inj (k3.symm.trans hcls.1)
  subst hcomp
  obtain ⟨kC, hkC, -⟩ := hcls.2
  refine W.aast hx hb (hR.2 a _ he) (fun q h => by cases h) (fun h => by cases h) k1 k2 rfl hkC ⟨h0, by show _ < (arrV _ _ _).slots.size; rw [arrV_size]; exact hlt⟩ g1 (fun q h => by rw [g3] at h; cases h) (by rw [g2]; exact hkC) (by rw [g2]; exact va_assign hcls) rfl rfl hdg fun H1 e z oq => ?_
  refine kk H1 _ (am_R.up hR z ?_ oq) (fun x hx => oq x (Nat.ne_of_lt (Nat.lt_of_lt_of_le hx (Nat.le_add_right _ _))))
  show H1[lo + a]? = some (arrV (tc t) (qs.set i.toNatClampNeg (some v)).length (fun j => va_rf (((qs.set i.toNatClampNeg (some v)).getD j none).map (fun q => lo + q))))
  have e' : H1[lo + a]? = some ((arrV (tc t) qs.length (fun j => va_rf ((qs.getD j none).map (fun q => lo + q)))).setSlot i.toNatClampNeg (.ref (lo + v))) := e
  rw [e', arrV_store, List.length_set]
  congr 2
  funext j
  rw [am_setD qs none (some v) hlt j]
  unfold updV
  split <;> rfl
theorem am_w_new (hx : p.tables.exec = Jvm.exec) (hb : c.code = cc) (hts : ∀ w ∈ am_kw, w.before args s = true) (hown : s.vm.findClass (am_cn oc) = some m.cls) (hK : am_Kn D tc s) (hR : am_R D tc lo h H) {idx ci : Nat} (hf : am_cl oc idx = some ci) (hcells : cells + 1 ≤ R.cells) (hslots : slots + (am_df ci).length ≤ R.slots) (hdg : decode cc pc = .ok (.new idx, 3))
    (kk : ∀ H1 : Heap, am_R D tc lo (am_new h (.inl (ci, am_df ci)) (am_df ci).length) H1 → (∀ x, x < lo → H1[x]? = H[x]?) → W p l e R s m args below meth c H1 locs (cells + 1) (slots + (am_df ci).length) Q (F0 m (pc + 3) ls (.ref (lo + h.1) :: rest))) : W p l e R s m args below meth c H locs cells slots Q (F0 m pc ls rest) := by
  obtain ⟨C, T, N, t0, hc, hin, hty, hlink, hinst, hini, hdf, hN, hmap⟩ := am_cl_ok0 oc idx ci hf
  have hKn := hK.1.1 ci _ hc
  subst hN
  refine W.newcK hx hb hown (hts _ hlink) (hts _ hinst) (hts _ hini) rfl hdg hcells hslots hKn.2.1 hR.1 fun H1 kC hkC e1 z1 o1 => ?_
  refine kk H1 (am_R.push _ hR z1 ?_ o1) (fun x hx => o1 x (by omega))
  exact ⟨_, hc, (u_born t0 hts hin hKn hkC e1 hty).to (fun j hj => by show _ = vp_V ((am_df ci).map (am_u lo)) j; rw [am_df_u hmap]; exact hdf j hj)⟩
theorem am_w_newi (hx : p.tables.exec = Jvm.exec) (hb : c.code = cc) (hts : ∀ w ∈ am_kw, w.before args s = true) (hK : am_Kn D tc s) (hR : am_R D tc lo h H) {n : Int32} (hn : ¬ n < 0) (hN : n.toNatClampNeg ≤ 1000000) (hcells : cells + 1 ≤ R.cells) (hslots : slots + n.toNatClampNeg ≤ R.slots) (hdg : decode cc pc = .ok (.newarray .int, 2))
    (kk : ∀ H1 : Heap, am_R D tc lo (am_new h (.inr (.inl (0, List.replicate n.toNatClampNeg 0))) n.toNatClampNeg) H1 → (∀ x, x < lo → H1[x]? = H[x]?) → W p l e R s m args below meth c H1 locs (cells + 1) (slots + n.toNatClampNeg) Q (F0 m (pc + 2) ls (.ref (lo + h.1) :: rest))) : W p l e R s m args below meth c H locs cells slots Q (F0 m pc ls (.int n :: rest)) := by
  refine va_newaK hx hb (hts _ am_kw_int) rfl hdg rfl hn rfl (by show _ * 4 ≤ _; omega) hcells hslots hR.1 fun H1 cA e1 z1 o1 hAr hNm => ?_
  have hcA : cA = tc 0 := Option.some.inj (hNm.symm.trans (hK.2.1 0 .int am_ats_0).2)
  subst hcA
  refine kk H1 (am_R.push _ hR z1 ?_ o1) (fun x hx => o1 x (by omega))
  show H1[lo + h.1]? = some (arrV (tc 0) (List.replicate n.toNatClampNeg (0 : Int32)).length (fun j => .int ((List.replicate n.toNatClampNeg (0 : Int32)).getD j 0)))
  rw [e1, List.length_replicate]
  congr 2
  funext j
  rw [am_repD]
  rfl
theorem am_w_newz (hx : p.tables.exec = Jvm.exec) (hb : c.code = cc) (hts : ∀ w ∈ am_kw, w.before args s = true) (hK : am_Kn D tc s) (hR : am_R D tc lo h H) {n : Int32} (hn : ¬ n < 0) (hN : n.toNatClampNeg ≤ 1000000) (hcells : cells + 1 ≤ R.cells) (hslots : slots + n.toNatClampNeg ≤ R.slots) (hdg : decode cc pc = .ok (.newarray .boolean, 2))
    (kk : ∀ H1 : Heap, am_R D tc lo (am_new h (.inr (.inl (1, List.replicate n.toNatClampNeg 0))) n.toNatClampNeg) H1 → (∀ x, x < lo → H1[x]? = H[x]?) → W p l e R s m args below meth c H1 locs (cells + 1) (slots + n.toNatClampNeg) Q (F0 m (pc + 2) ls (.ref (lo + h.1) :: rest))) : W p l e R s m args below meth c H locs cells slots Q (F0 m pc ls (.int n :: rest)) := by
  refine va_newaK hx hb (hts _ am_kw_bool) rfl hdg rfl hn rfl (by show _ * 1 ≤ _; omega) hcells hslots hR.1 fun H1 cA e1 z1 o1 hAr hNm => ?_
  have hcA : cA = tc 1 := Option.some.inj (hNm.symm.trans (hK.2.1 1 .boolean am_ats_1).2)
  subst hcA
  refine kk H1 (am_R.push _ hR z1 ?_ o1) (fun x hx => o1 x (by omega))
  show H1[lo + h.1]? = some (arrV (tc 1) (List.replicate n.toNatClampNeg (0 : Int32)).length (fun j => .int ((List.replicate n.toNatClampNeg (0 : Int32)).getD j 0)))
  rw [e1, List.length_replicate]
  congr 2
  funext j
  rw [am_repD]
  rfl
theorem am_w_newq (hx : p.tables.exec = Jvm.exec) (hb : c.code = cc) (hts : ∀ w ∈ am_kw, w.before args s = true) (hown : s.vm.findClass (am_cn oc) = some m.cls) (hK : am_Kn D tc s) (hR : am_R D tc lo h H) {idx t : Nat} (hf : am_al oc idx = some t) {n : Int32} (hn : ¬ n < 0) (hN : n.toNatClampNeg ≤ 1000000) (hcells : cells + 1 ≤ R.cells) (hslots : slots + n.toNatClampNeg ≤ R.slots) (hdg : decode cc pc = .ok (.anewarray idx, 3))
    (kk : ∀ H1 : Heap, am_R D tc lo (am_new h (.inr (.inr (t, List.replicate n.toNatClampNeg none))) n.toNatClampNeg) H1 → (∀ x, x < lo → H1[x]? = H[x]?) → W p l e R s m args below meth c H1 locs (cells + 1) (slots + n.toNatClampNeg) Q (F0 m (pc + 3) ls (.ref (lo + h.1) :: rest))) : W p l e R s m args below meth c H locs cells slots Q (F0 m pc ls (.int n :: rest)) := by
  obtain ⟨C, hty, hlink, hao⟩ := am_al_ok oc idx t hf
  refine W.anew hx hb hown (hts _ hlink) (va_AO.use (hK.2.2.2 C hao)) rfl hdg rfl hn (by omega) hcells hslots fun cA kA comp f1 f2 f3 f4 => ?_
  obtain ⟨kA', comp', k1, k2, k3, k4⟩ := (hK.2.1 t _ hty).2
  have hcA : cA = tc t := Option.some.inj (f1.symm.trans k4)
  subst hcA
  have hsz := hR.1
  generalize hH1 : H.push ({ cls := tc t, slots := Array.replicate n.toNatClampNeg .null, vm := .none } : Cell) = H1
  have z1 : H1.size = lo + h.1 + 1 := by rw [← hH1, Array.size_push, hsz]
  have e1 : H1[lo + h.1]? = some (arrV (tc t) n.toNatClampNeg (fun _ => .null)) := by rw [← hH1, ← hsz, Array.getElem?_push_size, ← arrV_new]
  have o1 : ∀ q : Nat, q < lo + h.1 → H1[q]? = H[q]? := fun q hq => by rw [← hH1, Array.getElem?_push, if_neg (Nat.ne_of_lt (by rw [hsz]; exact hq))]
  rw [hsz]
  refine kk H1 (am_R.push _ hR z1 ?_ o1) (fun x hx => o1 x (by omega))
  show H1[lo + h.1]? = some (arrV (tc t) (List.replicate n.toNatClampNeg (none : Option Nat)).length (fun j => va_rf (((List.replicate n.toNatClampNeg (none : Option Nat)).getD j none).map (fun q => lo + q))))
  rw [e1, List.length_replicate]
  congr 2
  funext j
  rw [am_repD]
  rfl
end AMW
end
section
def am_rm (d mc ms : Nat) : Room := { frames := d + 1, cells := mc, slots := ms, locals := 60 * (d + 1) }
def am_ws (q : am_M) : List Jvm.Cond := Jvm.Cond.code q.1 q.2.1 q.2.2.1 q.2.2.2.1 :: am_kw
def am_Pr (D : va_G) (tc : Nat → ClassId) (lo : Nat) (h : am_H) (U : State) : Prop := am_R D tc lo h U.heap ∧ am_Kn D tc U
def am_Q (D : va_G) (tc : Nat → ClassId) (lo : Nat) (r : Option Value) (h' : am_H) : Array Value → State → Outcome → State → Prop := fun _ st o t => o = .returned (r.map (am_u lo)) ∧ am_Pr D tc lo h' t ∧ ∀ a, a < lo → t.heap[a]? = st.heap[a]?
def am_X (D : va_G) (tc : Nat → ClassId) (q : am_M) (p : Program) (s : State) (m : MethodId) (args : Array Value) (meth : Method) (c : Code) : Prop := p.tables.exec = Jvm.exec ∧ c.code = q.2.1 ∧ c.maxLocals = q.2.2.1 ∧ s.vm.findClass (am_cn q.2.2.2.2.1) = some m.cls ∧ (∀ w ∈ am_kw, w.before args s = true) ∧ meth.sig.returnType = q.2.2.2.1 ∧ meth.locks = false ∧ (q.2.2.2.2.2 = true → meth.name = "<init>") ∧ am_Kn D tc s
theorem am_li_sp {lc lc' : am_L} {i : Nat} {st st' : List Value} (h : am_li lc i st = some (lc', st')) : ∃ x, lc[i]? = some (some (.int x)) ∧ lc = lc' ∧ .int x :: st = st' := by
  unfold am_li at h
  split at h
  · rename_i x hx
    cases h
    exact ⟨x, hx, rfl, rfl⟩
  · cases h
theorem am_la_sp {lc lc' : am_L} {i : Nat} {st st' : List Value} (h : am_la lc i st = some (lc', st')) : ∃ x, lc[i]? = some (some (.ref x)) ∧ lc = lc' ∧ .ref x :: st = st' := by
  unfold am_la at h
  split at h
  · rename_i x hx
    cases h
    exact ⟨x, hx, rfl, rfl⟩
  · cases h
theorem am_si_sp {lc lc' : am_L} {i : Nat} {st st' : List Value} (h : am_si lc i st = some (lc', st')) : ∃ x, .int x :: st' = st ∧ i < lc.length ∧ lc.set i (some (.int x)) = lc' := by
  unfold am_si at h
  split at h
  · rename_i x r
    split at h
    · rename_i hi
      cases h
      exact ⟨x, rfl, hi, rfl⟩
    · cases h
  · cases h
theorem am_sa_sp {lc lc' : am_L} {i : Nat} {st st' : List Value} (h : am_sa lc i st = some (lc', st')) : ∃ x, .ref x :: st' = st ∧ i < lc.length ∧ lc.set i (some (.ref x)) = lc' := by
  unfold am_sa at h
  split at h
  · rename_i x r
    split at h
    · rename_i hi
      cases h
      exact ⟨x, rfl, hi, rfl⟩
    · cases h
  · cases h
theorem am_ii_sp {lc lc' : am_L} {i : Nat} {n : Int} {st st' : List Value} (h : am_ii lc i n st = some (lc', st')) : ∃ x, lc[i]? = some (some (.int x)) ∧ i < lc.length ∧ lc.set i (some (.int (x + Int32.ofInt n))) = lc' ∧ st = st' := by
  unfold am_ii at h
  split at h
  · rename_i x hx
    split at h
    · rename_i hi
      cases h
      exact ⟨x, hx, hi, rfl, rfl⟩
    · cases h
  · cases h
theorem am_b2_sp {f : Int32 → Int32 → Int32} {lc lc' : am_L} {st st' : List Value} (h : am_b2 f lc st = some (lc', st')) : ∃ x y r, .int y :: .int x :: r = st ∧ lc = lc' ∧ .int (f x y) :: r = st' := by
  unfold am_b2 at h
  split at h
  · rename_i y x r
    cases h
    exact ⟨x, y, r, rfl, rfl, rfl⟩
  · cases h
section AMP
variable {p : Program} {l : Launch} {e : Env} {R : Room} {s : State} {m : MethodId} {args : Array Value} {below : List Frame} {meth : Method} {c : Code} {H : Heap} {locs : List Loc} {cells slots : Nat} {Q : State → Prop}
variable {cc : ByteArray} {pc len : Nat} {ls : Array Slot} {D : va_G} {tc : Nat → ClassId} {lo : Nat} {h h' : am_H} {q : am_M} {i : Instr} {lc lc' : am_L} {st st' : List Value}
set_option maxHeartbeats 4000000 in
theorem am_w_pu (hx : p.tables.exec = Jvm.exec) (hb : c.code = cc) (hp : am_pu i len lc st = some (lc', st')) (hdg : decode cc pc = .ok (i, len)) (hL : am_LR lo lc ls) (kk : ∀ ls', am_LR lo lc' ls' → W p l e R s m args below meth c H locs cells slots Q (F0 m (pc + len) ls' (st'.map (am_u lo)))) : W p l e R s m args below meth c H locs cells slots Q (F0 m pc ls (st.map (am_u lo))) := by
  unfold am_pu at hp
  split at hp
  · cases hp; exact lv_iconst hx hb hdg rfl (kk ls hL)
  · cases hp; exact lv_bipush hx hb hdg rfl (kk ls hL)
  · cases hp; exact lv_sipush hx hb hdg rfl (kk ls hL)
  · obtain ⟨x, h1, rfl, rfl⟩ := am_li_sp hp; exact lv_iload_n hx hb hdg rfl (hL.2.2 _ _ h1).2 (kk ls hL)
  · obtain ⟨x, h1, rfl, rfl⟩ := am_li_sp hp; exact lv_iload hx hb hdg (hL.2.2 _ _ h1).2 (kk ls hL)
  · obtain ⟨x, h1, rfl, rfl⟩ := am_la_sp hp; exact lv_aload_n hx hb hdg rfl (hL.2.2 _ _ h1).2 (kk ls hL)
  · obtain ⟨x, h1, rfl, rfl⟩ := am_la_sp hp; exact lv_aload hx hb hdg (hL.2.2 _ _ h1).2 (kk ls hL)
  · obtain ⟨x, rfl, h1, rfl⟩ := am_si_sp hp
    obtain ⟨ls', e', h'⟩ := am_store (v := .int x) hL h1 rfl
    exact am_w_istn hx hb hdg e' (kk ls' h')
  · obtain ⟨x, rfl, h1, rfl⟩ := am_si_sp hp
    obtain ⟨ls', e', h'⟩ := am_store (v := .int x) hL h1 rfl
    exact am_w_ist hx hb hdg e' (kk ls' h')
  · obtain ⟨x, rfl, h1, rfl⟩ := am_sa_sp hp
    obtain ⟨ls', e', h'⟩ := am_store (v := .ref x) hL h1 rfl
    exact am_w_astn hx hb hdg e' (kk ls' h')
  · obtain ⟨x, rfl, h1, rfl⟩ := am_sa_sp hp
    obtain ⟨ls', e', h'⟩ := am_store (v := .ref x) hL h1 rfl
    exact am_w_ast hx hb hdg e' (kk ls' h')
  · obtain ⟨x, h0, h1, rfl, rfl⟩ := am_ii_sp hp
    obtain ⟨ls', e', h'⟩ := am_store hL h1 (v := .int (x + Int32.ofInt _)) rfl
    exact am_w_iinc hx hb hdg (hL.2.2 _ _ h0).2 e' (kk ls' h')
  · obtain ⟨x, y, r, rfl, rfl, rfl⟩ := am_b2_sp hp; exact lv_iadd hx hb hdg (kk ls hL)
  · obtain ⟨x, y, r, rfl, rfl, rfl⟩ := am_b2_sp hp; exact lv_isub hx hb hdg (kk ls hL)
  · obtain ⟨x, y, r, rfl, rfl, rfl⟩ := am_b2_sp hp; exact lv_imul hx hb hdg (kk ls hL)
  · obtain ⟨x, y, r, rfl, rfl, rfl⟩ := am_b2_sp hp; exact lv_iand hx hb hdg (kk ls hL)
  · obtain ⟨x, y, r, rfl, rfl, rfl⟩ := am_b2_sp hp; exact lv_ior hx hb hdg (kk ls hL)
  · obtain ⟨x, y, r, rfl, rfl, rfl⟩ := am_b2_sp hp; exact lv_ixor hx hb hdg (kk ls hL)
  · obtain ⟨x, y, r, rfl, rfl, rfl⟩ := am_b2_sp hp; exact lv_ishl hx hb hdg (kk ls hL)
  · obtain ⟨x, y, r, rfl, rfl, rfl⟩ := am_b2_sp hp; exact lv_ishr hx hb hdg (kk ls hL)
  · obtain ⟨x, y, r, rfl, rfl, rfl⟩ := am_b2_sp hp; exact lv_iushr hx hb hdg rfl (kk ls hL)
  · split at hp
    · split at hp
      · rename_i hne
        cases hp; exact lv_irem hx hb hdg hne (kk ls hL)
      · cases hp
    · cases hp
  · split at hp
    · split at hp
      · rename_i hne
        cases hp; exact lv_idiv hx hb hdg hne (kk ls hL)
      · cases hp
    · cases hp
  · split at hp
    · cases hp; exact lv_ineg hx hb hdg (kk ls hL)
    · cases hp
  · split at hp
    · split at hp
      · rename_i hc
        cases hp; exact lv_dup hx hb hdg (by rw [am_u_cat]; exact hc) (kk ls hL)
      · cases hp
    · cases hp
  · split at hp
    · split at hp
      · rename_i hc
        cases hp; exact lv_pop hx hb hdg (by rw [am_u_cat]; exact hc) (kk ls hL)
      · cases hp
    · cases hp
  · split at hp
    · split at hp
      · rename_i hc
        cases hp; exact lv_dup_x1 hx hb hdg (by rw [am_u_cat]; exact hc.1) (by rw [am_u_cat]; exact hc.2) (kk ls hL)
      · cases hp
    · cases hp
  · split at hp
    · split at hp
      · rename_i hc
        cases hp; exact lv_dup_x2 hx hb hdg (by rw [am_u_cat]; exact hc.1) (by rw [am_u_cat]; exact hc.2.1) (by rw [am_u_cat]; exact hc.2.2) (kk ls hL)
      · cases hp
    · cases hp
  · split at hp
    · split at hp
      · rename_i hc
        cases hp; exact lv_dup2_11 hx hb hdg (by rw [am_u_cat]; exact hc.1) (by rw [am_u_cat]; exact hc.2) (kk ls hL)
      · cases hp
    · cases hp
  · cases hp
theorem am_jt {pc : Nat} {off : Int} (h0 : 0 ≤ (pc : Int) + off) : (pc : Int) + off = ((am_j pc off : Nat) : Int) := (Int.toNat_of_nonneg h0).symm
set_option maxHeartbeats 4000000 in
theorem am_w_bb {pc' : Nat} (hx : p.tables.exec = Jvm.exec) (hb : c.code = cc) (hp : am_bb i len pc st = some (pc', st')) (hdg : decode cc pc = .ok (i, len)) (kk : W p l e R s m args below meth c H locs cells slots Q (F0 m pc' ls (st'.map (am_u lo)))) : W p l e R s m args below meth c H locs cells slots Q (F0 m pc ls (st.map (am_u lo))) := by
  unfold am_bb at hp
  split at hp
  · rename_i cd off
    split at hp
    · rename_i x r
      split at hp
      · rename_i hc
        obtain ⟨rfl, h0⟩ := hc
        cases hp
        have ht := am_jt h0
        cases cd
        · exact lv_if_eq hx hb hdg ht (fun z => by simpa [am_c1, z] using kk) (fun z => by simpa [am_c1, z] using kk)
        · exact lv_if_ne hx hb hdg ht (fun z => by simpa [am_c1, z] using kk) (fun z => by simpa [am_c1, z] using kk)
        · exact lv_if_lt hx hb hdg ht (fun z => by rw [if_pos (by simpa [am_c1] using z)] at kk; exact kk) (fun z => by rw [if_neg (by simpa [am_c1] using z)] at kk; exact kk)
        · exact lv_if_ge hx hb hdg ht (fun z => by rw [if_pos (by simpa [am_c1] using z)] at kk; exact kk) (fun z => by rw [if_neg (by simpa [am_c1] using z)] at kk; exact kk)
        · exact lv_if_gt hx hb hdg ht (fun z => by rw [if_pos (by simpa [am_c1] using z)] at kk; exact kk) (fun z => by rw [if_neg (by simpa [am_c1] using z)] at kk; exact kk)
        · exact lv_if_le hx hb hdg ht (fun z => by rw [if_pos (by simpa [am_c1] using z)] at kk; exact kk) (fun z => by rw [if_neg (by simpa [am_c1] using z)] at kk; exact kk)
      · cases hp
    · cases hp
  · rename_i cd off
    split at hp
    · rename_i y x r
      split at hp
      · rename_i hc
        obtain ⟨rfl, h0⟩ := hc
        cases hp
        have ht := am_jt h0
        cases cd
        · exact lv_icmp_eq hx hb hdg ht (fun z => by rw [if_pos (by simpa [am_c2] using z)] at kk; exact kk) (fun z => by rw [if_neg (by simpa [am_c2] using z)] at kk; exact kk)
        · exact lv_icmp_ne hx hb hdg ht (fun z => by rw [if_pos (by simpa [am_c2] using z)] at kk; exact kk) (fun z => by rw [if_neg (by simpa [am_c2] using z)] at kk; exact kk)
        · exact lv_icmp_lt hx hb hdg ht (fun z => by rw [if_pos (by simpa [am_c2] using z)] at kk; exact kk) (fun z => by rw [if_neg (by simpa [am_c2] using z)] at kk; exact kk)
        · exact lv_icmp_ge hx hb hdg ht (fun z => by rw [if_pos (by simpa [am_c2] using z)] at kk; exact kk) (fun z => by rw [if_neg (by simpa [am_c2] using z)] at kk; exact kk)
        · exact lv_icmp_gt hx hb hdg ht (fun z => by rw [if_pos (by simpa [am_c2] using z)] at kk; exact kk) (fun z => by rw [if_neg (by simpa [am_c2] using z)] at kk; exact kk)
        · exact lv_icmp_le hx hb hdg ht (fun z => by rw [if_pos (by simpa [am_c2] using z)] at kk; exact kk) (fun z => by rw [if_neg (by simpa [am_c2] using z)] at kk; exact kk)
      · cases hp
    · cases hp
  · split at hp
    · rename_i hc
      obtain ⟨rfl, h0⟩ := hc
      cases hp
      exact lv_goto hx hb hdg (am_jt h0) kk
    · cases hp
  · rename_i dflt a b offs
    split at hp
    · rename_i x r
      split at hp
      · rename_i hr
        split at hp
        · rename_i h0
          cases hp
          exact lv_tableOut hx hb hdg hr (am_jt h0) kk
        · cases hp
      · rename_i hr
        split at hp
        · rename_i off ho
          split at hp
          · rename_i h0
            cases hp
            exact lv_tableIn hx hb hdg (fun z => hr (Or.inl z)) (fun z => hr (Or.inr z)) ho (am_jt h0) kk
          · cases hp
        · cases hp
    · cases hp
  · rename_i dflt ps
    split at hp
    · rename_i x r
      split at hp
      · rename_i hc
        cases hp
        exact lv_lookup hx hb hdg hc.1 rfl (am_jt hc.2) kk
      · cases hp
    · cases hp
  · cases hp
theorem am_mapo {α β : Type} {o : Option α} {f : α → β} {b : β} (h : o.map f = some b) : ∃ a, o = some a ∧ f a = b := by
  cases o with
  | none => cases h
  | some a => exact ⟨a, rfl, Option.some.inj h⟩
set_option maxHeartbeats 4000000 in
theorem am_w_hp {h1 : am_H} (X : am_X D tc q p s m args meth c) (hp : am_hp q i len st h = some (st', h1)) (hdg : decode q.2.1 pc = .ok (i, len)) (hR : am_R D tc lo h H) (hsz : ls.size = q.2.2.1) (hrf : 1 ≤ R.frames) (hrl : 60 ≤ R.locals) (hcells : cells + (h1.1 - h.1) ≤ R.cells) (hslots : slots + (h1.2.1 - h.2.1) ≤ R.slots)
    (kk : ∀ (H1 : Heap) (locs1 : List Loc), am_R D tc lo h1 H1 → (∀ x, x < lo → H1[x]? = H[x]?) → (∀ x ∈ locs1, x ∈ locs ∨ lo ≤ x.base) → W p l e R s m args below meth c H1 locs1 (cells + (h1.1 - h.1)) (slots + (h1.2.1 - h.2.1)) Q (F0 m (pc + len) ls (st'.map (am_u lo)))) : W p l e R s m args below meth c H locs cells slots Q (F0 m pc ls (st.map (am_u lo))) := by
  obtain ⟨hx, hb, hml, hown, hts, hr, hlk, hin, hK⟩ := X
  have stay : ∀ {st2 : List Value} {ln : Nat}, (∀ (H1 : Heap) (locs1 : List Loc), am_R D tc lo h H1 → (∀ x, x < lo → H1[x]? = H[x]?) → (∀ x ∈ locs1, x ∈ locs ∨ lo ≤ x.base) → W p l e R s m args below meth c H1 locs1 (cells + (h.1 - h.1)) (slots + (h.2.1 - h.2.1)) Q (F0 m (pc + ln) ls (st2.map (am_u lo)))) → W p l e R s m args below meth c H locs cells slots Q (F0 m (pc + ln) ls (st2.map (am_u lo))) := by
    intro st2 ln k2
    have := k2 H locs hR (fun _ _ => rfl) (fun x hx => Or.inl hx)
    rw [Nat.sub_self, Nat.sub_self, Nat.add_zero, Nat.add_zero] at this
    exact this
  have gone : ∀ {a sl : Nat} {x : Loc}, x ∈ locs ++ [⟨lo + a, sl⟩] → x ∈ locs ∨ lo ≤ x.base := by
    intro a sl x hx
    rcases List.mem_append.mp hx with h | h
    · exact Or.inl h
    · rw [List.mem_singleton.mp h]
      exact Or.inr (Nat.le_add_right _ _)
  have back : ∀ {f2 : Nat → Option am_E} {st2 : List Value} {ln : Nat}, (∀ (H1 : Heap) (locs1 : List Loc), am_R D tc lo (h.1, h.2.1, f2) H1 → (∀ x, x < lo → H1[x]? = H[x]?) → (∀ x ∈ locs1, x ∈ locs ∨ lo ≤ x.base) → W p l e R s m args below meth c H1 locs1 (cells + (h.1 - h.1)) (slots + (h.2.1 - h.2.1)) Q (F0 m (pc + ln) ls (st2.map (am_u lo)))) → ∀ (H1 : Heap) (lx : List Loc), am_R D tc lo (h.1, h.2.1, f2) H1 → (∀ x, x < lo → H1[x]? = H[x]?) → (∀ x ∈ lx, x ∈ locs ∨ lo ≤ x.base) → W p l e R s m args below meth c H1 lx cells slots Q (F0 m (pc + ln) ls (st2.map (am_u lo))) := by
    intro f2 st2 ln k2 H1 lx r1 r2 r3
    have := k2 H1 lx r1 r2 r3
    rw [Nat.sub_self, Nat.sub_self, Nat.add_zero, Nat.add_zero] at this
    exact this
  unfold am_hp at hp
  split at hp
  · split at hp
    · rename_i f hf
      split at hp
      · obtain ⟨v, hv, hh⟩ := am_mapo hp
        cases hh
        exact am_w_get hx hb hts hown hK hR hf hv hdg (stay kk)
      · cases hp
    · cases hp
  · split at hp
    · rename_i f hf
      split at hp
      · split at hp
        · rename_i hc
          obtain ⟨h2, hv, hh⟩ := am_mapo hp
          cases hh
          have hh1 := am_put_sp hv
          refine am_w_put hx hb hts hown hK hR hf (hc.2.imp id (fun z => ⟨z.2, hin z.1⟩)) hc.1 hv hdg (fun H1 sl r1 r2 => ?_)
          obtain ⟨fs, -, -, rfl⟩ := hh1
          refine back kk H1 _ r1 r2 (fun x hx => gone hx)
        · cases hp
      · cases hp
    · cases hp
  · split at hp
    · obtain ⟨v, hv, hh⟩ := am_mapo hp
      cases hh
      exact am_w_ild hx hb hK hR hv hdg (stay kk)
    · cases hp
  · split at hp
    · obtain ⟨v, hv, hh⟩ := am_mapo hp
      cases hh
      exact am_w_zld hx hb hK hR hv hdg (stay kk)
    · cases hp
  · split at hp
    · obtain ⟨v, hv, hh⟩ := am_mapo hp
      cases hh
      exact am_w_qld hx hb hK hR hv hdg (stay kk)
    · cases hp
  · split at hp
    · obtain ⟨h2, hv, hh⟩ := am_mapo hp
      cases hh
      have hh1 := am_sv_sp hv
      refine am_w_ist' hx hb hK hR hv hdg (fun H1 sl r1 r2 => ?_)
      obtain ⟨fs, -, -, -, rfl⟩ := hh1
      refine back kk H1 _ r1 r2 (fun x hx => gone hx)
    · cases hp
  · split at hp
    · obtain ⟨h2, hv, hh⟩ := am_mapo hp
      cases hh
      have hh1 := am_sv_sp hv
      refine am_w_zst' hx hb hK hR hv hdg (fun H1 sl r1 r2 => ?_)
      obtain ⟨fs, -, -, -, rfl⟩ := hh1
      refine back kk H1 _ r1 r2 (fun x hx => gone hx)
    · cases hp
  · split at hp
    · obtain ⟨h2, hv, hh⟩ := am_mapo hp
      cases hh
      have hh1 := am_stq_sp hv
      refine am_w_qst' hx hb hK hR hv hdg (fun H1 sl r1 r2 => ?_)
      obtain ⟨_, _, _, _, -, -, -, -, -, rfl⟩ := hh1
      refine back kk H1 _ r1 r2 (fun x hx => gone hx)
    · cases hp
  · split at hp
    · obtain ⟨v, hv, hh⟩ := am_mapo hp
      cases hh
      exact am_w_len hx hb hK hR hv hdg (stay kk)
    · cases hp
  · split at hp
    · rename_i ci hf
      cases hp
      dsimp only [am_new] at hcells hslots kk
      rw [Nat.add_sub_cancel_left] at hcells hslots kk
      rw [Nat.add_sub_cancel_left] at kk
      exact am_w_new hx hb hts hown hK hR hf hcells hslots hdg (fun H1 r1 r2 => kk H1 locs r1 r2 (fun x hx => Or.inl hx))
    · cases hp
  · split at hp
    · split at hp
      · rename_i hc
        cases hp
        dsimp only [am_new] at hcells hslots kk
        rw [Nat.add_sub_cancel_left] at hcells hslots kk
        rw [Nat.add_sub_cancel_left] at kk
        exact am_w_newi hx hb hts hK hR hc.1 hc.2 hcells hslots hdg (fun H1 r1 r2 => kk H1 locs r1 r2 (fun x hx => Or.inl hx))
      · cases hp
    · cases hp
  · split at hp
    · split at hp
      · rename_i hc
        cases hp
        dsimp only [am_new] at hcells hslots kk
        rw [Nat.add_sub_cancel_left] at hcells hslots kk
        rw [Nat.add_sub_cancel_left] at kk
        exact am_w_newz hx hb hts hK hR hc.1 hc.2 hcells hslots hdg (fun H1 r1 r2 => kk H1 locs r1 r2 (fun x hx => Or.inl hx))
      · cases hp
    · cases hp
  · split at hp
    · rename_i t hf
      split at hp
      · split at hp
        · rename_i hc
          cases hp
          dsimp only [am_new] at hcells hslots kk
          rw [Nat.add_sub_cancel_left] at hcells hslots kk
          rw [Nat.add_sub_cancel_left] at kk
          exact am_w_newq hx hb hts hown hK hR hf hc.1 hc.2 hcells hslots hdg (fun H1 r1 r2 => kk H1 locs r1 r2 (fun x hx => Or.inl hx))
        · cases hp
      · cases hp
    · cases hp
  · split at hp
    · rename_i v hf
      cases hp
      exact lv_ldc hx hb hown (hts _ (am_kc_ok _ _ _ hf)) hdg (stay kk)
    · cases hp
  · split at hp
    · rename_i v hf
      cases hp
      exact lv_ldcw hx hb hown (hts _ (am_kc_ok _ _ _ hf)) hdg (stay kk)
    · cases hp
  · split at hp
    · rename_i f hf
      split at hp
      · rename_i a r
        split at hp
        · rename_i hc
          cases hp
          have hl := (am_ml_ok _ _ _ hf).2.1 hc.1
          refine W.objInit hx hb hown (hts _ hl) (hts _ am_kw_obj.1) (hts _ am_kw_obj.2) rfl (by rw [hml]; exact hsz) rfl hdg hrf ?_ (stay kk)
          show 2 * 0 + _ + 12 ≤ _
          have := am_cat_u lo st'
          omega
        · cases hp
      · cases hp
    · cases hp
  · split at hp
    · rename_i f hf
      split at hp
      · rename_i y x r
        split at hp
        · rename_i hc
          cases hp
          have hl := (am_ml_ok _ _ _ hf).2.2 hc.1
          refine va_mmin hx hb (by rw [hml]; exact hsz.symm) hown (hts _ hl) (hts _ am_kw_min.1) (hts _ am_kw_min.2.1) (hts _ am_kw_min.2.2) hrf ?_ (by omega) (by omega) hdg (stay kk)
          have := am_cat_u lo r
          omega
        · cases hp
      · cases hp
    · cases hp
  · cases hp
end AMP
end
section
theorem am_g_sp {y n : Nat} {as rest : List Value} {q : am_M} (hq : am_ms[y]? = some q) (hg : am_g y n as rest = true) : as.length ≤ q.2.2.1 ∧ (∀ v ∈ as, v.category = 1) ∧ am_cat rest ≤ 8 ∧ as.length = n := by
  unfold am_g at hg
  rw [hq] at hg
  simp only [Bool.and_eq_true, decide_eq_true_eq, List.all_eq_true] at hg
  exact ⟨hg.1.1.1, fun v hv => hg.1.1.2 v hv, hg.1.2, hg.2⟩
theorem am_sl1 : ∀ (vs : List Value), (∀ v ∈ vs, v.category = 1) → lg_sl vs = vs.map Slot.val
  | [], _ => rfl
  | v :: vs, hv => by
    have h1 : v.category = 1 := hv v List.mem_cons_self
    have h2 := am_sl1 vs (fun w hw => hv w (List.mem_cons_of_mem _ hw))
    unfold lg_sl at h2 ⊢
    rw [List.flatMap_cons, h2, if_neg (by omega)]
    rfl
theorem am_en_LR {lo y : Nat} {as : List Value} {q : am_M} (hq : am_ms[y]? = some q) (hl : as.length ≤ q.2.2.1) (hc : ∀ v ∈ as, v.category = 1) : am_LR lo (am_en y as) ((lg_sl (as.map (am_u lo)) ++ List.replicate (q.2.2.1 - (lg_sl (as.map (am_u lo))).length) Slot.unset).toArray) ∧ ((lg_sl (as.map (am_u lo)) ++ List.replicate (q.2.2.1 - (lg_sl (as.map (am_u lo))).length) Slot.unset).toArray).size = q.2.2.1 := by
  have hs : lg_sl (as.map (am_u lo)) = (as.map (am_u lo)).map Slot.val := am_sl1 _ (fun v hv => by
    obtain ⟨w, hw, rfl⟩ := List.mem_map.mp hv
    rw [am_u_cat]; exact hc w hw)
  have hlen : (lg_sl (as.map (am_u lo))).length = as.length := by rw [hs]; simp
  have hent := lv_entry (as.map (am_u lo)) (n := q.2.2.1) (by rw [hlen]; exact hl)
  refine ⟨⟨?_, hent.2.1, fun i v hi => ?_⟩, hent.1⟩
  · rw [hent.1]
    unfold am_en
    rw [hq]
    simp
    omega
  · unfold am_en at hi
    rw [hq] at hi
    dsimp only at hi
    by_cases hil : i < as.length
    · rw [List.getElem?_append_left (by simpa using hil), List.getElem?_map] at hi
      cases hv : as[i]? with
      | none => rw [hv] at hi; cases hi
      | some w =>
        rw [hv] at hi
        obtain rfl : w = v := by simpa using hi
        refine ⟨hc _ (List.mem_of_getElem? hv), ?_⟩
        rw [hs]
        rw [List.getElem?_toArray, List.getElem?_append_left (by simpa using hil), List.getElem?_map, List.getElem?_map, hv]
        rfl
    · rw [List.getElem?_append_right (by simp; omega), List.getElem?_replicate] at hi
      split at hi <;> cases hi
theorem am_pay {s : State} {args : Array Value} {q : am_M} (hts : ∀ w ∈ am_kw, w.before args s = true) (hq : Jvm.Cond.code q.1 q.2.1 q.2.2.1 q.2.2.2.1 ∈ am_kw) : ∀ w ∈ am_ws q, ∀ (a' : Array Value) (U : State), s.WarmedH U.vm → w.before a' U = true := by
  intro w hw a' U hW
  have hm : w ∈ am_kw := by
    rcases List.mem_cons.mp hw with h | h
    · rw [h]; exact hq
    · exact h
  exact word_at hW (am_good w hm) (hts w hm)
theorem am_blind {D : va_G} {tc : Nat → ClassId} {lo : Nat} {h : am_H} {av : List Value} : FrameBlind (va_Pc av (am_Pr D tc lo h)) := fun _ U g mk q => ⟨q.1, q.2.1, am_Kn.same (s := U) rfl q.2.2⟩
section AMC
variable {p : Program} {l : Launch} {e : Env} {R : Room} {s : State} {m : MethodId} {args : Array Value} {below : List Frame} {meth : Method} {c : Code} {H : Heap} {locs : List Loc} {cells slots : Nat} {Q : State → Prop}
variable {pc len : Nat} {ls : Array Slot} {D : va_G} {tc : Nat → ClassId} {lo : Nat} {h h' : am_H} {q : am_M} {i : Instr} {lc lc' : am_L} {st st' : List Value}
theorem am_w_call {g : JFrame} {rest : List Value} {mc ms : Nat} {Qa : State → Outcome → State → Prop} {free : Addr → Prop} (hr : va_Run p l e R s m args below meth c H locs cells slots mc ms g rest Qa free)
    (kk : ∀ (v : Option Value) (st₀ t T' : State) (L : List Loc), st₀.heap = H → T'.heap = t.heap → (∀ x ∈ L, free x.base) → Qa st₀ (.returned v) t → W p l e R s m args below meth c T'.heap (locs ++ L) (cells + mc) (slots + ms) Q { g with pc := g.pc + 3, stack := v.toList ++ rest }) : W p l e R s m args below meth c H locs cells slots Q g := by
  intro T hT X
  obtain ⟨v, st₀, t, T', L, h0, X', hL, e1, e2, hq, st⟩ := hr T hT X
  obtain ⟨t2, a1, b1⟩ := kk v st₀ t T' L h0 e1 hL hq T' rfl X'
  exact ⟨t2, st t2 a1, b1⟩
set_option maxHeartbeats 4000000 in
theorem am_w_ca {y' d' mc' ms' : Nat} {as rest : List Value} {q' : am_M} {Qc : Array Value → State → Outcome → State → Prop} {free : Addr → Prop} (X : am_X D tc q p s m args meth c) (hca : am_ca q i len st h = some (y', as, rest)) (hdg : decode q.2.1 pc = .ok (i, len)) (hR : am_R D tc lo h H) (hsz : ls.size = q.2.2.1) (hq' : am_ms[y']? = some q')
    (hM : Met l q'.1 (am_ws q') (am_rm d' mc' ms') (va_Pc (as.map (am_u lo)) (am_Pr D tc lo h)) Qc mc' ms' free) (hfr : d' + 2 ≤ R.frames) (hlo : 60 * (d' + 1) + 60 ≤ R.locals) (hcells : cells + mc' ≤ R.cells) (hslots : slots + ms' ≤ R.slots) :
    va_Run p l e R s m args below meth c H locs cells slots mc' ms' (F0 m pc ls (st.map (am_u lo))) (rest.map (am_u lo)) (Qc (as.map (am_u lo)).toArray) free ∧ ∃ n, am_g y' n as rest = true := by
  obtain ⟨hx, hb, hml, hown, hts, hr, hlk, hin, hK⟩ := X
  obtain ⟨hcn, hcode, hini, hmh, hvh, hpl, hit, hmx⟩ := am_ms_ok y' q' hq'
  have hrm : (am_rm d' mc' ms').frames + 1 ≤ R.frames ∧ 8 + (q'.2.2.1 + 11) + (am_rm d' mc' ms').locals ≤ R.locals := ⟨hfr, by show 8 + (q'.2.2.1 + 11) + 60 * (d' + 1) ≤ _; omega⟩
  have hpre : ∀ U : State, U.heap = H → s.WarmedH U.vm → va_Pc (as.map (am_u lo)) (am_Pr D tc lo h) (as.map (am_u lo)).toArray U := fun U hU hW => ⟨rfl, by rw [hU]; exact hR, am_Kn.moved hW hK⟩
  have hrest : ∀ {ry : List Value}, am_cat ry ≤ 8 → 2 * (F0 m pc ls (st.map (am_u lo))).monitorRoom + ((ry.map (am_u lo)).map fun v => v.category).sum ≤ 8 := fun hy => by
    show 2 * 0 + _ ≤ 8
    rw [am_cat_u]; omega
  unfold am_ca at hca
  split at hca
  · split at hca
    · rename_i f hf
      split at hca
      · rename_i b r hdr
        split at hca
        · rename_i hc
          obtain ⟨hk, hrc, hg⟩ := hc
          cases hca
          obtain ⟨q2, hq2, hpn, m0, m1, -⟩ := (am_ml_ok _ _ _ hf).1 (by omega)
          cases hq'.symm.trans hq2
          obtain ⟨g1, g2, g3, g4⟩ := am_g_sp hq' hg
          refine ⟨?_, _, hg⟩
          have hcell : ∃ cellB : Cell, H[lo + b]? = some cellB ∧ cellB.vm.isStatics = false ∧ s.vm.findClass q'.1.cls = some cellB.cls := by
            unfold am_rc at hrc
            split at hrc
            · rename_i o ho
              rw [hq'] at hrc
              dsimp only at hrc
              have ho1 : o.1 = q'.2.2.2.2.1 := of_decide_eq_true hrc
              obtain ⟨rr, z1, cell, z2, z3, z4, -⟩ := hR.2 b _ ho
              refine ⟨cell, z2, by rw [z4]; rfl, ?_⟩
              have z5 := (hK.1.1 o.1 rr z1).2.1
              rw [am_cls_ok o.1 rr z1, ho1, hcn] at z5
              rw [z3]
              show _ = some (D.1 o.1)
              rw [ho1]; exact z5
            · cases hrc
          have hst : st = st.take f.2.2 ++ .ref b :: rest := by rw [← hdr]; exact (List.take_append_drop _ _).symm
          have hstack : (F0 m pc ls (st.map (am_u lo))).stack = (((st.take f.2.2).reverse).map (am_u lo)).reverse ++ .ref (lo + b) :: rest.map (am_u lo) := by
            show st.map (am_u lo) = _
            conv => lhs; rw [hst]
            rw [List.map_append, List.map_reverse, List.reverse_reverse]
            rfl
          have hlen : (((st.take f.2.2).reverse).map (am_u lo)).length = f.2.2 := by
            rw [List.length_cons] at g4
            rw [List.length_map]; omega
          have hsig : ∀ sig, parseMethodDescriptor q'.1.desc = some sig → f.2.2 = sig.parameters.length := fun sig h => by
            rw [h] at hpn; exact (Option.some.inj hpn).symm
          rcases hk with hk | hk
          · obtain ⟨w1, w2, w3⟩ := m0 hk
            exact va_runV (bytes := q'.2.1) (maxL := q'.2.2.1) (ret := q'.2.2.2.1) (C := q'.1.cls) (own := am_cn q.2.2.2.2.1) (n := f.2.2) ⟨hx, hb, hml, hown, hts⟩ hM ⟨⟨rfl, rfl, hrm.1, hrm.2, am_pay hts hcode, List.mem_cons_self, hts _ hcode, hts _ hini, ⟨hmh, hvh⟩, hsig, hts _ w1⟩, hts _ w2, hts _ w3⟩ ⟨am_blind, hcell, hpre⟩ rfl hlen hsz hstack (hrest g3) hdg ⟨hcells, hslots⟩
          · obtain ⟨⟨host, w1⟩, w2, w3⟩ := m1 hk
            exact va_runVN (bytes := q'.2.1) (maxL := q'.2.2.1) (ret := q'.2.2.2.1) (C := q'.1.cls) (own := am_cn q.2.2.2.2.1) (n := f.2.2) ⟨hx, hb, hml, hown, hts⟩ hM ⟨⟨⟨rfl, rfl, hrm.1, hrm.2, am_pay hts hcode, List.mem_cons_self⟩, hts _ hcode, hts _ hini, ⟨hmh, hvh⟩, hsig, va_Nw.use rfl (hK.2.2.1 _ w1)⟩, hts _ w2, hts _ w3⟩ ⟨am_blind, hcell, hpre⟩ rfl hlen hsz hstack (hrest g3) hdg ⟨hcells, hslots⟩
        · cases hca
      · cases hca
    · cases hca
  · split at hca
    · rename_i f hf
      split at hca
      · rename_i hc
        obtain ⟨hk, hg⟩ := hc
        cases hca
        obtain ⟨q2, hq2, hpn, -, -, m2, m3, -⟩ := (am_ml_ok _ _ _ hf).1 (by omega)
        cases hq'.symm.trans hq2
        obtain ⟨g1, g2, g3, g4⟩ := am_g_sp hq' hg
        refine ⟨?_, _, hg⟩
        have hstack : (F0 m pc ls (st.map (am_u lo))).stack = (((st.take f.2.2).reverse).map (am_u lo)).reverse ++ (st.drop f.2.2).map (am_u lo) := by
          show st.map (am_u lo) = _
          rw [List.map_reverse, List.reverse_reverse, ← List.map_append, List.take_append_drop]
        have hlen : (((st.take f.2.2).reverse).map (am_u lo)).length = f.2.2 := by
          rw [List.length_map]; exact g4
        have hsig : ∀ sig, parseMethodDescriptor q'.1.desc = some sig → f.2.2 = sig.parameters.length := fun sig h => by
          rw [h] at hpn; exact (Option.some.inj hpn).symm
        rcases hk with hk | hk
        · obtain ⟨w1, w2⟩ := m2 hk
          exact va_runS (bytes := q'.2.1) (maxL := q'.2.2.1) (ret := q'.2.2.2.1) (own := am_cn q.2.2.2.2.1) (n := f.2.2) ⟨hx, hb, hml, hown, hts⟩ hM ⟨⟨rfl, rfl, hrm.1, hrm.2, am_pay hts hcode, List.mem_cons_self, hts _ hcode, hts _ hini, ⟨hmh, hvh⟩, hsig, hts _ w1⟩, hts _ w2⟩ ⟨am_blind, hpre⟩ rfl hlen hsz hstack (hrest g3) hdg ⟨hcells, hslots⟩
        · obtain ⟨⟨host, w1⟩, w2⟩ := m3 hk
          exact va_runSN (bytes := q'.2.1) (maxL := q'.2.2.1) (ret := q'.2.2.2.1) (own := am_cn q.2.2.2.2.1) (n := f.2.2) ⟨hx, hb, hml, hown, hts⟩ hM ⟨⟨⟨rfl, rfl, hrm.1, hrm.2, am_pay hts hcode, List.mem_cons_self⟩, hts _ hcode, hts _ hini, ⟨hmh, hvh⟩, hsig, va_Nw.use rfl (hK.2.2.1 _ w1)⟩, hts _ w2, trivial⟩ ⟨am_blind, hpre⟩ rfl hlen hsz hstack (hrest g3) hdg ⟨hcells, hslots⟩
      · cases hca
    · cases hca
  · split at hca
    · rename_i f hf
      split at hca
      · rename_i b r hdr
        split at hca
        · rename_i hc
          obtain ⟨hk, hg⟩ := hc
          cases hca
          obtain ⟨q2, hq2, hpn, -, -, -, -, m4, m5⟩ := (am_ml_ok _ _ _ hf).1 (by omega)
          cases hq'.symm.trans hq2
          obtain ⟨g1, g2, g3, g4⟩ := am_g_sp hq' hg
          refine ⟨?_, _, hg⟩
          have hst : st = st.take f.2.2 ++ .ref b :: rest := by rw [← hdr]; exact (List.take_append_drop _ _).symm
          have hstack : (F0 m pc ls (st.map (am_u lo))).stack = (((st.take f.2.2).reverse).map (am_u lo)).reverse ++ .ref (lo + b) :: rest.map (am_u lo) := by
            show st.map (am_u lo) = _
            conv => lhs; rw [hst]
            rw [List.map_append, List.map_reverse, List.reverse_reverse]
            rfl
          have hlen : (((st.take f.2.2).reverse).map (am_u lo)).length = f.2.2 := by
            rw [List.length_cons] at g4
            rw [List.length_map]; omega
          have hsig : ∀ sig, parseMethodDescriptor q'.1.desc = some sig → f.2.2 = sig.parameters.length := fun sig h => by
            rw [h] at hpn; exact (Option.some.inj hpn).symm
          rcases hk with hk | hk
          · obtain ⟨w1, w2, w3, w4⟩ := m4 hk
            rw [w4] at hcode
            have hpay := am_pay (q := q') hts (by rw [w4]; exact hcode)
            exact va_runI (bytes := q'.2.1) (maxL := q'.2.2.1) (own := am_cn q.2.2.2.2.1) (n := f.2.2) ⟨hx, hb, hml, hown, hts⟩ hM ⟨⟨rfl, rfl, hrm.1, hrm.2, hpay, by rw [← w4]; exact List.mem_cons_self, hts _ hcode, hts _ hini, ⟨hmh, hvh⟩, hsig, hts _ w1⟩, w2, hts _ w3⟩ ⟨am_blind, hpre⟩ rfl hlen hsz hstack (hrest g3) hdg ⟨hcells, hslots⟩
          · obtain ⟨⟨host, w1⟩, w2, w3, w4⟩ := m5 hk
            rw [w4] at hcode
            have hpay := am_pay (q := q') hts (by rw [w4]; exact hcode)
            exact va_runIN (bytes := q'.2.1) (maxL := q'.2.2.1) (own := am_cn q.2.2.2.2.1) (n := f.2.2) ⟨hx, hb, hml, hown, hts⟩ hM ⟨⟨⟨rfl, rfl, hrm.1, hrm.2, hpay, by rw [← w4]; exact List.mem_cons_self⟩, hts _ hcode, hts _ hini, ⟨hmh, hvh⟩, hsig, va_Nw.use rfl (hK.2.2.1 _ w1)⟩, w2, hts _ w3⟩ ⟨am_blind, hpre⟩ rfl hlen hsz hstack (hrest g3) hdg ⟨hcells, hslots⟩
        · cases hca
      · cases hca
    · cases hca
  · cases hca
end AMC
theorem am_hp_mono {q : am_M} {i : Instr} {len : Nat} {st st' : List Value} {h h1 : am_H} (hp : am_hp q i len st h = some (st', h1)) : h.1 ≤ h1.1 ∧ h.2.1 ≤ h1.2.1 := by
  have put : ∀ {a ci k : Nat} {v : Value} {h2 : am_H}, am_put h a ci k v = some h2 → h.1 ≤ h2.1 ∧ h.2.1 ≤ h2.2.1 := fun hv => by
    obtain ⟨_, -, -, rfl⟩ := am_put_sp hv; exact ⟨Nat.le_refl _, Nat.le_refl _⟩
  have sv : ∀ {a t : Nat} {x v : Int32} {h2 : am_H}, am_sv h a t x v = some h2 → h.1 ≤ h2.1 ∧ h.2.1 ≤ h2.2.1 := fun hv => by
    obtain ⟨_, -, -, -, rfl⟩ := am_sv_sp hv; exact ⟨Nat.le_refl _, Nat.le_refl _⟩
  have sq : ∀ {a v : Nat} {x : Int32} {h2 : am_H}, am_stq h a x v = some h2 → h.1 ≤ h2.1 ∧ h.2.1 ≤ h2.2.1 := fun hv => by
    obtain ⟨_, _, _, _, -, -, -, -, -, rfl⟩ := am_stq_sp hv; exact ⟨Nat.le_refl _, Nat.le_refl _⟩
  have nw : ∀ {x : am_E} {n : Nat}, h.1 ≤ (am_new h x n).1 ∧ h.2.1 ≤ (am_new h x n).2.1 := fun {x n} => ⟨Nat.le_add_right _ _, Nat.le_add_right _ _⟩
  unfold am_hp at hp
  repeat' split at hp
  all_goals first
    | (cases hp; done)
    | (cases hp; exact nw)
    | (cases hp; exact ⟨Nat.le_refl _, Nat.le_refl _⟩)
    | (obtain ⟨v, hv, hh⟩ := am_mapo hp; cases hh; first | exact put hv | exact sv hv | exact sq hv | exact ⟨Nat.le_refl _, Nat.le_refl _⟩)
theorem am_go_sp {q : am_M} {i : Instr} {len pc : Nat} {lc : am_L} {st : List Value} {h : am_H} {r : Nat × am_L × List Value × am_H} (hg : am_go q i len pc lc st h = some (.inl r)) : (am_pu i len lc st = some (r.2.1, r.2.2.1) ∧ r.1 = pc + len ∧ r.2.2.2 = h) ∨ (am_bb i len pc st = some (r.1, r.2.2.1) ∧ r.2.1 = lc ∧ r.2.2.2 = h) ∨ (am_hp q i len st h = some (r.2.2.1, r.2.2.2) ∧ r.1 = pc + len ∧ r.2.1 = lc) := by
  unfold am_go at hg
  split at hg
  · rename_i x hx; cases hg; exact Or.inl ⟨hx, rfl, rfl⟩
  · split at hg
    · rename_i x hx; cases hg; exact Or.inr (Or.inl ⟨hx, rfl, rfl⟩)
    · split at hg
      · rename_i x hx; cases hg; exact Or.inr (Or.inr ⟨hx, rfl, rfl⟩)
      · split at hg
        · cases hg
        · split at hg
          · cases hg
          · cases hg
theorem am_go_rt {q : am_M} {i : Instr} {len pc : Nat} {lc : am_L} {st : List Value} {h : am_H} {r : Option Value} (hg : am_go q i len pc lc st h = some (.inr (.inl r))) : am_rt q i len st = some r := by
  unfold am_go at hg
  split at hg
  · cases hg
  · split at hg
    · cases hg
    · split at hg
      · cases hg
      · split at hg
        · rename_i x hx; cases hg; exact hx
        · split at hg
          · cases hg
          · cases hg
theorem am_go_ca {q : am_M} {i : Instr} {len pc : Nat} {lc : am_L} {st : List Value} {h : am_H} {r : Nat × List Value × List Value} (hg : am_go q i len pc lc st h = some (.inr (.inr r))) : am_ca q i len st h = some r := by
  unfold am_go at hg
  split at hg
  · cases hg
  · split at hg
    · cases hg
    · split at hg
      · cases hg
      · split at hg
        · cases hg
        · split at hg
          · rename_i x hx; cases hg; exact hx
          · cases hg
theorem am_run_mono (n : Nat) : ∀ (d y pc : Nat) (lc : am_L) (st : List Value) (h : am_H) (R : Option Value × am_H), am_run n d y pc lc st h = some R → h.1 ≤ R.2.1 ∧ h.2.1 ≤ R.2.2.1 := by
  induction n with
  | zero => intro d y pc lc st h R hR; cases hR
  | succ n ih =>
    intro d y pc lc st h R hR
    rw [am_run] at hR
    unfold am_bd at hR
    cases hq : am_ms[y]? with
    | none => rw [hq] at hR; cases hR
    | some q =>
      rw [hq] at hR
      dsimp only at hR
      cases hd : decode q.2.1 pc with
      | error e => rw [hd] at hR; cases hR
      | ok il =>
        rw [hd] at hR
        dsimp only at hR
        cases hg : am_go q il.1 il.2 pc lc st h with
        | none => rw [hg] at hR; cases hR
        | some z =>
          rw [hg] at hR
          obtain r | r | r := z
          · have h2 := ih _ _ _ _ _ _ _ hR
            rcases am_go_sp hg with ⟨-, -, e⟩ | ⟨-, -, e⟩ | ⟨e, -, -⟩
            · rw [e] at h2; exact h2
            · rw [e] at h2; exact h2
            · have h1 := am_hp_mono e
              exact ⟨Nat.le_trans h1.1 h2.1, Nat.le_trans h1.2 h2.2⟩
          · cases hR; exact ⟨Nat.le_refl _, Nat.le_refl _⟩
          · cases d with
            | zero => cases hR
            | succ d' =>
              dsimp only at hR
              cases hc : am_run n d' r.1 0 (am_en r.1 r.2.1) [] h with
              | none => rw [hc] at hR; cases hR
              | some x =>
                rw [hc] at hR
                have h1 := ih _ _ _ _ _ _ _ hc
                have h2 := ih _ _ _ _ _ _ _ hR
                exact ⟨Nat.le_trans h1.1 h2.1, Nat.le_trans h1.2 h2.2⟩
theorem am_pu_len {i : Instr} {len : Nat} {lc lc' : am_L} {st st' : List Value} (hp : am_pu i len lc st = some (lc', st')) : lc'.length = lc.length := by
  unfold am_pu at hp
  split at hp
  all_goals first
    | (cases hp; done)
    | (cases hp; rfl)
    | (obtain ⟨x, h1, rfl, rfl⟩ := am_li_sp hp; rfl)
    | (obtain ⟨x, h1, rfl, rfl⟩ := am_la_sp hp; rfl)
    | (obtain ⟨x, h1, h2, rfl⟩ := am_si_sp hp; exact List.length_set)
    | (obtain ⟨x, h1, h2, rfl⟩ := am_sa_sp hp; exact List.length_set)
    | (obtain ⟨x, h1, h2, rfl, rfl⟩ := am_ii_sp hp; exact List.length_set)
    | (obtain ⟨x, y, r, h1, rfl, h2⟩ := am_b2_sp hp; rfl)
    | (split at hp
       · first
         | (cases hp; rfl)
         | (split at hp
            · cases hp; rfl
            · cases hp)
       · cases hp)
theorem am_ca_g {q : am_M} {i : Instr} {len y' : Nat} {st as rest : List Value} {h : am_H} (hca : am_ca q i len st h = some (y', as, rest)) : ∃ n, am_g y' n as rest = true := by
  unfold am_ca at hca
  split at hca
  · split at hca
    · split at hca
      · split at hca
        · rename_i hc
          cases hca
          exact ⟨_, hc.2.2⟩
        · cases hca
      · cases hca
    · cases hca
  · split at hca
    · split at hca
      · rename_i hc
        cases hca
        exact ⟨_, hc.2⟩
      · cases hca
    · cases hca
  · split at hca
    · split at hca
      · split at hca
        · rename_i hc
          cases hca
          exact ⟨_, hc.2⟩
        · cases hca
      · cases hca
    · cases hca
  · cases hca
theorem am_ca_ms {q : am_M} {i : Instr} {len y' : Nat} {st as rest : List Value} {h : am_H} (hca : am_ca q i len st h = some (y', as, rest)) : ∃ q', am_ms[y']? = some q' := by
  obtain ⟨n, hg⟩ := am_ca_g hca
  unfold am_g at hg
  split at hg
  · rename_i q' hq'
    exact ⟨q', hq'⟩
  · cases hg
/-- the small machine's run from a place in a method, as a walk of the large one -/
def am_B (l : Launch) (D : va_G) (tc : Nat → ClassId) (lo n : Nat) : Prop := ∀ (d y : Nat) (q : am_M) (pc : Nat) (lc : am_L) (st : List Value) (h : am_H) (r : Option Value) (h' : am_H), am_ms[y]? = some q → am_run n d y pc lc st h = some (r, h') →
  ∀ (p : Program) (e : Env) (s : State) (m : MethodId) (args : Array Value) (below : List Frame) (meth : Method) (c : Code), am_X D tc q p s m args meth c →
  ∀ (mc ms : Nat) (H : Heap) (locs : List Loc) (cells slots : Nat) (ls : Array Slot), am_R D tc lo h H → am_LR lo lc ls → ls.size = q.2.2.1 → (∀ x ∈ locs, lo ≤ x.base) → (∀ a, a < lo → H[a]? = s.heap[a]?) → cells + (h'.1 - h.1) = mc → slots + (h'.2.1 - h.2.1) = ms →
  W p l e (am_rm d mc ms) s m args below meth c H locs cells slots (MQ below (am_Q D tc lo r h') args s mc ms (fun a => lo ≤ a)) (F0 m pc ls (st.map (am_u lo)))
theorem am_met {l : Launch} {D : va_G} {tc : Nat → ClassId} {lo n : Nat} (hB : am_B l D tc lo n) {d y : Nat} {q : am_M} {as : List Value} {h h' : am_H} {r : Option Value} (hq : am_ms[y]? = some q) (hrun : am_run n d y 0 (am_en y as) [] h = some (r, h')) (hl : as.length ≤ q.2.2.1) (hc : ∀ v ∈ as, v.category = 1) :
    Met l q.1 (am_ws q) (am_rm d (h'.1 - h.1) (h'.2.1 - h.2.1)) (va_Pc (as.map (am_u lo)) (am_Pr D tc lo h)) (am_Q D tc lo r h') (h'.1 - h.1) (h'.2.1 - h.2.1) (fun a => lo ≤ a) := by
  obtain ⟨hcn, hcode, hini, hmh, hvh, hpl, hit, hmx⟩ := am_ms_ok y q hq
  refine Met.ofW (cc := q.2.1) (maxL := q.2.2.1) (ret := q.2.2.2.1) hpl rfl ?_
  intro p e s m args below meth c s₁ B hml hv
  obtain ⟨rfl, hR, hK⟩ := hv
  have hts := atoms_spec (ws := am_ws q) B.pre
  have hown : s.vm.findClass q.1.cls = some m.cls := findClass_of_methodNamed B.named
  obtain ⟨hL, hsz⟩ := am_en_LR (lo := lo) hq hl hc
  rw [lg_entry_eq]
  exact hB d y q 0 (am_en y as) [] h r h' hq hrun p e s m _ below meth c ⟨B.exec, B.bytes, hml, by rw [hcn]; exact hown, fun w hw => hts w (List.mem_cons_of_mem _ hw), B.returns, B.notSynchronized, fun hi => (name_of_methodNamed B.named B.method).1.trans (hit hi), hK⟩ _ _ _ [] 0 0 _ hR hL hsz (fun x hx => by cases hx) (fun a _ => rfl) (Nat.zero_add _) (Nat.zero_add _)
set_option maxHeartbeats 4000000 in
theorem am_body (l : Launch) (D : va_G) (tc : Nat → ClassId) (lo n : Nat) : am_B l D tc lo n := by
  induction n with
  | zero => intro d y q pc lc st h r h' _ hR; cases hR
  | succ n ih =>
    intro d y q pc lc st h r h' hq hR p e s m args below meth c X mc ms H locs cells slots ls hh hL hsz hlo hs0 hmc hms
    rw [am_run] at hR
    unfold am_bd at hR
    rw [hq] at hR
    dsimp only at hR
    cases hd : decode q.2.1 pc with
    | error e => rw [hd] at hR; cases hR
    | ok il =>
      rw [hd] at hR
      dsimp only at hR
      obtain ⟨i, len⟩ := il
      cases hg : am_go q i len pc lc st h with
      | none => rw [hg] at hR; cases hR
      | some z =>
        rw [hg] at hR
        obtain z | z | z := z
        · obtain ⟨pc', lc', st', h1⟩ := z
          dsimp only at hR
          have hm2 := am_run_mono _ _ _ _ _ _ _ _ hR
          dsimp only at hm2
          rcases am_go_sp hg with ⟨e1, e2, e3⟩ | ⟨e1, e2, e3⟩ | ⟨e1, e2, e3⟩
          · dsimp only at e1 e2 e3
            subst e2; subst e3
            exact am_w_pu X.1 X.2.1 e1 hd hL (fun ls' hL' => ih d y q _ lc' st' _ r h' hq hR p e s m args below meth c X mc ms H locs cells slots ls' hh hL' (by rw [← hL'.1]; rw [← hsz, ← hL.1]; exact am_pu_len e1) hlo hs0 hmc hms)
          · dsimp only at e1 e2 e3
            subst e2; subst e3
            exact am_w_bb X.1 X.2.1 e1 hd (ih d y q _ _ st' _ r h' hq hR p e s m args below meth c X mc ms H locs cells slots ls hh hL hsz hlo hs0 hmc hms)
          · dsimp only at e1 e2 e3
            subst e2; subst e3
            have hm1 := am_hp_mono e1
            refine am_w_hp (R := am_rm d mc ms) X e1 hd hh hsz (by show 1 ≤ d + 1; omega) (by show 60 ≤ 60 * (d + 1); omega) (by show _ ≤ mc; omega) (by show _ ≤ ms; omega) (fun H1 locs1 r1 r2 r3 => ?_)
            exact ih d y q _ _ st' h1 r h' hq hR p e s m args below meth c X mc ms H1 locs1 _ _ ls r1 hL hsz (fun x hx => (r3 x hx).elim (hlo x) id) (fun a ha => (r2 a ha).trans (hs0 a ha)) (by omega) (by omega)
        · have hrt := am_go_rt hg
          cases hR
          have hmc' : cells = mc := by omega
          have hms' : slots = ms := by omega
          subst hmc'; subst hms'
          obtain ⟨hx, hb, hml, hown, hts, hr, hlk, hin, hK⟩ := X
          have fin : ∀ (t : State), t.heap = H → s.WarmedH t.vm → am_Pr D tc lo h t ∧ ∀ a, a < lo → t.heap[a]? = s.heap[a]? := fun t ht hW => ⟨⟨by rw [ht]; exact hh, am_Kn.moved hW hK⟩, fun a ha => by rw [ht]; exact hs0 a ha⟩
          unfold am_rt at hrt
          split at hrt
          · split at hrt
            · rename_i v ty hty
              split at hrt
              · rename_i hn
                cases hrt
                exact W.zret hx hb (by rw [hr]; exact hty) hn (fun t ht hW => ⟨rfl, (fin t ht hW).1, (fin t ht hW).2⟩) hlo hd hlk
              · cases hrt
            · cases hrt
          · split at hrt
            · rename_i hty
              cases hrt
              exact W.vret hx hb (by rw [hr]; exact hty) (fun t ht hW => ⟨rfl, (fin t ht hW).1, (fin t ht hW).2⟩) hlo hd hlk
            · cases hrt
          · split at hrt
            · rename_i a nm hty
              cases hrt
              exact W.aret hx hb (by rw [hr]; exact hty) (Or.inl ⟨_, rfl⟩) (Or.inr ⟨_, rfl⟩) (fun t ht hW => ⟨rfl, (fin t ht hW).1, (fin t ht hW).2⟩) hlo hd hlk
            · rename_i a nm hty
              cases hrt
              exact W.aret hx hb (by rw [hr]; exact hty) (Or.inr ⟨_, rfl⟩) (Or.inr ⟨_, rfl⟩) (fun t ht hW => ⟨rfl, (fin t ht hW).1, (fin t ht hW).2⟩) hlo hd hlk
            · cases hrt
          · cases hrt
        · obtain ⟨y', as, rest⟩ := z
          dsimp only at hR
          have hca := am_go_ca hg
          cases d with
          | zero => cases hR
          | succ d' =>
            dsimp only at hR
            cases hc : am_run n d' y' 0 (am_en y' as) [] h with
            | none => rw [hc] at hR; cases hR
            | some x =>
              rw [hc] at hR
              dsimp only at hR
              obtain ⟨r1, h1⟩ := x
              dsimp only at hR
              have m1 := am_run_mono _ _ _ _ _ _ _ _ hc
              have m2 := am_run_mono _ _ _ _ _ _ _ _ hR
              dsimp only at m1 m2
              obtain ⟨q', hq'⟩ := am_ca_ms hca
              obtain ⟨nn, hgg⟩ := am_ca_g hca
              obtain ⟨g1, g2, -, -⟩ := am_g_sp hq' hgg
              have hM := am_met ih hq' hc g1 g2
              have hrun := (am_w_ca (R := am_rm (d' + 1) mc ms) (l := l) (e := e) (below := below) (locs := locs) (cells := cells) (slots := slots) X hca hd hh hsz hq' hM (by show d' + 2 ≤ d' + 1 + 1; omega) (by show 60 * (d' + 1) + 60 ≤ 60 * (d' + 1 + 1); omega) (by show _ ≤ mc; omega) (by show _ ≤ ms; omega)).1
              refine am_w_call hrun (fun v st₀ t T' L k0 k1 kL kQ => ?_)
              obtain ⟨kv, ⟨kR, kK⟩, kO⟩ := kQ
              cases kv
              have e1 : (r1.map (am_u lo)).toList ++ rest.map (am_u lo) = (r1.toList ++ rest).map (am_u lo) := by cases r1 <;> rfl
              rw [e1]
              rw [k1]
              refine ih (d' + 1) y q (pc + 3) lc (r1.toList ++ rest) h1 r h' hq hR p e s m args below meth c X mc ms t.heap _ _ _ ls kR hL hsz (fun x hx => ?_) (fun a ha => (kO a ha).trans (by rw [k0]; exact hs0 a ha)) (by omega) (by omega)
              rcases List.mem_append.mp hx with hx | hx
              · exact hlo x hx
              · exact kL x hx
/-- **A method's contract, out of the small machine's run** -/
theorem am_sound (l : Launch) (D : va_G) (tc : Nat → ClassId) (lo : Nat) {d y : Nat} {q : am_M} {as : List Value} {h h' : am_H} {r : Option Value} (hq : am_ms[y]? = some q) (hrun : rn d y 0 (am_en y as) [] h = some (r, h')) (hl : as.length ≤ q.2.2.1) (hc : ∀ v ∈ as, v.category = 1) :
    Met l q.1 (am_ws q) (am_rm d (h'.1 - h.1) (h'.2.1 - h.2.1)) (va_Pc (as.map (am_u lo)) (am_Pr D tc lo h)) (am_Q D tc lo r h') (h'.1 - h.1) (h'.2.1 - h.2.1) (fun a => lo ≤ a) := by
  obtain ⟨n, hn⟩ := rn_iff.mp hrun
  exact am_met (am_body l D tc lo n) hq hn hl hc
end
