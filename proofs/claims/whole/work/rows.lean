section
-- ===== PART A: goes FIRST, ahead of the names: the tables' words, and 'selects' of the private methods out of them =====
/-- a private method of a class that the tables say can be made, by its rows of tables_1 -/
def lw_okq (q : MethodName × Nat) : Prop := (q.1.cls ≠ "java/lang/invoke/MethodHandle" ∧ q.1.cls ≠ "java/lang/invoke/VarHandle") ∧ Cond.instantiable q.1.cls q.2 ∈ tables_1 ∧ Cond.privateMethod q.1 ∈ tables_1 ∧ Cond.instanceMethod q.1 ∈ tables_1
theorem lw_p0 : lw_okq (⟨"HeartVanes$Reader", "readNumbers", "(LHeartVanes$Text;II)I"⟩, 1) := ⟨⟨by decide +kernel, by decide +kernel⟩, List.mem_of_getElem? (i := 41) (by decide +kernel), List.mem_of_getElem? (i := 247) (by decide +kernel), List.mem_of_getElem? (i := 248) (by decide +kernel)⟩
theorem lw_p1 : lw_okq (⟨"HeartVanes$Reader", "take", "(LHeartVanes$Room;I)Z"⟩, 1) := ⟨⟨by decide +kernel, by decide +kernel⟩, List.mem_of_getElem? (i := 41) (by decide +kernel), List.mem_of_getElem? (i := 256) (by decide +kernel), List.mem_of_getElem? (i := 257) (by decide +kernel)⟩
theorem lw_p2 : lw_okq (⟨"HeartVanes$Reader", "takeWalls", "(LHeartVanes$Room;)Z"⟩, 1) := ⟨⟨by decide +kernel, by decide +kernel⟩, List.mem_of_getElem? (i := 41) (by decide +kernel), List.mem_of_getElem? (i := 260) (by decide +kernel), List.mem_of_getElem? (i := 261) (by decide +kernel)⟩
theorem lw_p3 : lw_okq (⟨"HeartVanes$Reader", "takePerson", "(LHeartVanes$Room;)Z"⟩, 1) := ⟨⟨by decide +kernel, by decide +kernel⟩, List.mem_of_getElem? (i := 41) (by decide +kernel), List.mem_of_getElem? (i := 264) (by decide +kernel), List.mem_of_getElem? (i := 265) (by decide +kernel)⟩
theorem lw_p4 : lw_okq (⟨"HeartVanes$Reader", "takeLeaning", "(LHeartVanes$Room;)Z"⟩, 1) := ⟨⟨by decide +kernel, by decide +kernel⟩, List.mem_of_getElem? (i := 41) (by decide +kernel), List.mem_of_getElem? (i := 281) (by decide +kernel), List.mem_of_getElem? (i := 282) (by decide +kernel)⟩
theorem lw_p5 : lw_okq (⟨"HeartVanes$Room", "pull", "(II)I"⟩, 9) := ⟨⟨by decide +kernel, by decide +kernel⟩, List.mem_of_getElem? (i := 51) (by decide +kernel), List.mem_of_getElem? (i := 381) (by decide +kernel), List.mem_of_getElem? (i := 382) (by decide +kernel)⟩
theorem lw_p6 : lw_okq (⟨"HeartVanes$Search", "noteRow", "(I)V"⟩, 6) := ⟨⟨by decide +kernel, by decide +kernel⟩, List.mem_of_getElem? (i := 139) (by decide +kernel), List.mem_of_getElem? (i := 518) (by decide +kernel), List.mem_of_getElem? (i := 519) (by decide +kernel)⟩
theorem lw_p7 : lw_okq (⟨"HeartVanes$Search", "findNext", "(LHeartVanes$Room;III)I"⟩, 6) := ⟨⟨by decide +kernel, by decide +kernel⟩, List.mem_of_getElem? (i := 139) (by decide +kernel), List.mem_of_getElem? (i := 522) (by decide +kernel), List.mem_of_getElem? (i := 523) (by decide +kernel)⟩
theorem lw_p8 : lw_okq (⟨"HeartVanes", "weightOf", "(III)I"⟩, 10) := ⟨⟨by decide +kernel, by decide +kernel⟩, List.mem_of_getElem? (i := 17) (by decide +kernel), List.mem_of_getElem? (i := 599) (by decide +kernel), List.mem_of_getElem? (i := 600) (by decide +kernel)⟩
theorem lw_p9 : lw_okq (⟨"HeartVanesModel", "begins", "()V"⟩, 16) := ⟨⟨by decide +kernel, by decide +kernel⟩, List.mem_of_getElem? (i := 647) (by decide +kernel), List.mem_of_getElem? (i := 653) (by decide +kernel), List.mem_of_getElem? (i := 654) (by decide +kernel)⟩
theorem lw_p10 : lw_okq (⟨"HeartVanesModel", "stands", "(III)V"⟩, 16) := ⟨⟨by decide +kernel, by decide +kernel⟩, List.mem_of_getElem? (i := 647) (by decide +kernel), List.mem_of_getElem? (i := 657) (by decide +kernel), List.mem_of_getElem? (i := 658) (by decide +kernel)⟩
theorem lw_p11 : lw_okq (⟨"HeartVanesModel", "lays", "()V"⟩, 16) := ⟨⟨by decide +kernel, by decide +kernel⟩, List.mem_of_getElem? (i := 647) (by decide +kernel), List.mem_of_getElem? (i := 661) (by decide +kernel), List.mem_of_getElem? (i := 662) (by decide +kernel)⟩
theorem lw_p12 : lw_okq (⟨"HeartVanesModel", "readsAll", "()I"⟩, 16) := ⟨⟨by decide +kernel, by decide +kernel⟩, List.mem_of_getElem? (i := 647) (by decide +kernel), List.mem_of_getElem? (i := 729) (by decide +kernel), List.mem_of_getElem? (i := 730) (by decide +kernel)⟩
theorem lw_p13 : lw_okq (⟨"HeartVanesModel", "readsRoom", "()Z"⟩, 16) := ⟨⟨by decide +kernel, by decide +kernel⟩, List.mem_of_getElem? (i := 647) (by decide +kernel), List.mem_of_getElem? (i := 733) (by decide +kernel), List.mem_of_getElem? (i := 734) (by decide +kernel)⟩
theorem lw_p14 : lw_okq (⟨"HeartVanesModel", "number", "(III)I"⟩, 16) := ⟨⟨by decide +kernel, by decide +kernel⟩, List.mem_of_getElem? (i := 647) (by decide +kernel), List.mem_of_getElem? (i := 737) (by decide +kernel), List.mem_of_getElem? (i := 738) (by decide +kernel)⟩
theorem lw_p15 : lw_okq (⟨"HeartVanesModel", "letterAt", "(I)I"⟩, 16) := ⟨⟨by decide +kernel, by decide +kernel⟩, List.mem_of_getElem? (i := 647) (by decide +kernel), List.mem_of_getElem? (i := 741) (by decide +kernel), List.mem_of_getElem? (i := 742) (by decide +kernel)⟩
def lw_privs_1 : List (MethodName × Nat) := [(⟨"HeartVanes$Reader", "readNumbers", "(LHeartVanes$Text;II)I"⟩, 1), (⟨"HeartVanes$Reader", "take", "(LHeartVanes$Room;I)Z"⟩, 1), (⟨"HeartVanes$Reader", "takeWalls", "(LHeartVanes$Room;)Z"⟩, 1), (⟨"HeartVanes$Reader", "takePerson", "(LHeartVanes$Room;)Z"⟩, 1), (⟨"HeartVanes$Reader", "takeLeaning", "(LHeartVanes$Room;)Z"⟩, 1), (⟨"HeartVanes$Room", "pull", "(II)I"⟩, 9), (⟨"HeartVanes$Search", "noteRow", "(I)V"⟩, 6), (⟨"HeartVanes$Search", "findNext", "(LHeartVanes$Room;III)I"⟩, 6), (⟨"HeartVanes", "weightOf", "(III)I"⟩, 10), (⟨"HeartVanesModel", "begins", "()V"⟩, 16), (⟨"HeartVanesModel", "stands", "(III)V"⟩, 16), (⟨"HeartVanesModel", "lays", "()V"⟩, 16), (⟨"HeartVanesModel", "readsAll", "()I"⟩, 16), (⟨"HeartVanesModel", "readsRoom", "()Z"⟩, 16), (⟨"HeartVanesModel", "number", "(III)I"⟩, 16), (⟨"HeartVanesModel", "letterAt", "(I)I"⟩, 16)]
theorem lw_r1 : ∀ q ∈ lw_privs_1, lw_okq q := List.forall_mem_cons.mpr ⟨lw_p0, List.forall_mem_cons.mpr ⟨lw_p1, List.forall_mem_cons.mpr ⟨lw_p2, List.forall_mem_cons.mpr ⟨lw_p3, List.forall_mem_cons.mpr ⟨lw_p4, List.forall_mem_cons.mpr ⟨lw_p5, List.forall_mem_cons.mpr ⟨lw_p6, List.forall_mem_cons.mpr ⟨lw_p7, List.forall_mem_cons.mpr ⟨lw_p8, List.forall_mem_cons.mpr ⟨lw_p9, List.forall_mem_cons.mpr ⟨lw_p10, List.forall_mem_cons.mpr ⟨lw_p11, List.forall_mem_cons.mpr ⟨lw_p12, List.forall_mem_cons.mpr ⟨lw_p13, List.forall_mem_cons.mpr ⟨lw_p14, List.forall_mem_cons.mpr ⟨lw_p15, fun _ h => absurd h List.not_mem_nil⟩⟩⟩⟩⟩⟩⟩⟩⟩⟩⟩⟩⟩⟩⟩⟩
theorem lw_p16 : lw_okq (⟨"HeartVanesModel", "readsPerson", "()Z"⟩, 16) := ⟨⟨by decide +kernel, by decide +kernel⟩, List.mem_of_getElem? (i := 647) (by decide +kernel), List.mem_of_getElem? (i := 748) (by decide +kernel), List.mem_of_getElem? (i := 749) (by decide +kernel)⟩
theorem lw_p17 : lw_okq (⟨"HeartVanesModel", "readsLeaning", "()Z"⟩, 16) := ⟨⟨by decide +kernel, by decide +kernel⟩, List.mem_of_getElem? (i := 647) (by decide +kernel), List.mem_of_getElem? (i := 752) (by decide +kernel), List.mem_of_getElem? (i := 753) (by decide +kernel)⟩
theorem lw_p18 : lw_okq (⟨"HeartVanesModel", "isOne", "(I)Z"⟩, 16) := ⟨⟨by decide +kernel, by decide +kernel⟩, List.mem_of_getElem? (i := 647) (by decide +kernel), List.mem_of_getElem? (i := 764) (by decide +kernel), List.mem_of_getElem? (i := 765) (by decide +kernel)⟩
theorem lw_p19 : lw_okq (⟨"HeartVanesModel", "draftOf", "(I)I"⟩, 16) := ⟨⟨by decide +kernel, by decide +kernel⟩, List.mem_of_getElem? (i := 647) (by decide +kernel), List.mem_of_getElem? (i := 768) (by decide +kernel), List.mem_of_getElem? (i := 769) (by decide +kernel)⟩
theorem lw_p20 : lw_okq (⟨"HeartVanesModel", "draftBy", "(II)I"⟩, 16) := ⟨⟨by decide +kernel, by decide +kernel⟩, List.mem_of_getElem? (i := 647) (by decide +kernel), List.mem_of_getElem? (i := 775) (by decide +kernel), List.mem_of_getElem? (i := 776) (by decide +kernel)⟩
theorem lw_p21 : lw_okq (⟨"HeartVanesModel", "feels", "(IIZ)I"⟩, 16) := ⟨⟨by decide +kernel, by decide +kernel⟩, List.mem_of_getElem? (i := 647) (by decide +kernel), List.mem_of_getElem? (i := 779) (by decide +kernel), List.mem_of_getElem? (i := 780) (by decide +kernel)⟩
theorem lw_p22 : lw_okq (⟨"HeartVanesModel", "isPlace", "(II)Z"⟩, 16) := ⟨⟨by decide +kernel, by decide +kernel⟩, List.mem_of_getElem? (i := 647) (by decide +kernel), List.mem_of_getElem? (i := 797) (by decide +kernel), List.mem_of_getElem? (i := 798) (by decide +kernel)⟩
theorem lw_p23 : lw_okq (⟨"HeartVanesModel", "whoAt", "(II)I"⟩, 16) := ⟨⟨by decide +kernel, by decide +kernel⟩, List.mem_of_getElem? (i := 647) (by decide +kernel), List.mem_of_getElem? (i := 801) (by decide +kernel), List.mem_of_getElem? (i := 802) (by decide +kernel)⟩
theorem lw_p24 : lw_okq (⟨"HeartVanesModel", "keeps", "()V"⟩, 16) := ⟨⟨by decide +kernel, by decide +kernel⟩, List.mem_of_getElem? (i := 647) (by decide +kernel), List.mem_of_getElem? (i := 809) (by decide +kernel), List.mem_of_getElem? (i := 810) (by decide +kernel)⟩
theorem lw_p25 : lw_okq (⟨"HeartVanesModel", "passes", "()I"⟩, 16) := ⟨⟨by decide +kernel, by decide +kernel⟩, List.mem_of_getElem? (i := 647) (by decide +kernel), List.mem_of_getElem? (i := 813) (by decide +kernel), List.mem_of_getElem? (i := 814) (by decide +kernel)⟩
theorem lw_p26 : lw_okq (⟨"HeartVanesModel", "next", "(II)I"⟩, 16) := ⟨⟨by decide +kernel, by decide +kernel⟩, List.mem_of_getElem? (i := 647) (by decide +kernel), List.mem_of_getElem? (i := 817) (by decide +kernel), List.mem_of_getElem? (i := 818) (by decide +kernel)⟩
theorem lw_p27 : lw_okq (⟨"HeartVanesModel", "mayWalk", "(II)Z"⟩, 16) := ⟨⟨by decide +kernel, by decide +kernel⟩, List.mem_of_getElem? (i := 647) (by decide +kernel), List.mem_of_getElem? (i := 825) (by decide +kernel), List.mem_of_getElem? (i := 826) (by decide +kernel)⟩
theorem lw_p28 : lw_okq (⟨"HeartVanesModel", "goes", "(II)V"⟩, 16) := ⟨⟨by decide +kernel, by decide +kernel⟩, List.mem_of_getElem? (i := 647) (by decide +kernel), List.mem_of_getElem? (i := 835) (by decide +kernel), List.mem_of_getElem? (i := 836) (by decide +kernel)⟩
theorem lw_p29 : lw_okq (⟨"HeartVanesModel", "towardOf", "(I)I"⟩, 16) := ⟨⟨by decide +kernel, by decide +kernel⟩, List.mem_of_getElem? (i := 647) (by decide +kernel), List.mem_of_getElem? (i := 851) (by decide +kernel), List.mem_of_getElem? (i := 852) (by decide +kernel)⟩
theorem lw_p30 : lw_okq (⟨"HeartVanesModel", "behindOf", "(II)I"⟩, 16) := ⟨⟨by decide +kernel, by decide +kernel⟩, List.mem_of_getElem? (i := 647) (by decide +kernel), List.mem_of_getElem? (i := 863) (by decide +kernel), List.mem_of_getElem? (i := 864) (by decide +kernel)⟩
theorem lw_p31 : lw_okq (⟨"HeartVanesModel", "holds", "()V"⟩, 16) := ⟨⟨by decide +kernel, by decide +kernel⟩, List.mem_of_getElem? (i := 647) (by decide +kernel), List.mem_of_getElem? (i := 867) (by decide +kernel), List.mem_of_getElem? (i := 868) (by decide +kernel)⟩
def lw_privs_2 : List (MethodName × Nat) := [(⟨"HeartVanesModel", "readsPerson", "()Z"⟩, 16), (⟨"HeartVanesModel", "readsLeaning", "()Z"⟩, 16), (⟨"HeartVanesModel", "isOne", "(I)Z"⟩, 16), (⟨"HeartVanesModel", "draftOf", "(I)I"⟩, 16), (⟨"HeartVanesModel", "draftBy", "(II)I"⟩, 16), (⟨"HeartVanesModel", "feels", "(IIZ)I"⟩, 16), (⟨"HeartVanesModel", "isPlace", "(II)Z"⟩, 16), (⟨"HeartVanesModel", "whoAt", "(II)I"⟩, 16), (⟨"HeartVanesModel", "keeps", "()V"⟩, 16), (⟨"HeartVanesModel", "passes", "()I"⟩, 16), (⟨"HeartVanesModel", "next", "(II)I"⟩, 16), (⟨"HeartVanesModel", "mayWalk", "(II)Z"⟩, 16), (⟨"HeartVanesModel", "goes", "(II)V"⟩, 16), (⟨"HeartVanesModel", "towardOf", "(I)I"⟩, 16), (⟨"HeartVanesModel", "behindOf", "(II)I"⟩, 16), (⟨"HeartVanesModel", "holds", "()V"⟩, 16)]
theorem lw_r2 : ∀ q ∈ lw_privs_2, lw_okq q := List.forall_mem_cons.mpr ⟨lw_p16, List.forall_mem_cons.mpr ⟨lw_p17, List.forall_mem_cons.mpr ⟨lw_p18, List.forall_mem_cons.mpr ⟨lw_p19, List.forall_mem_cons.mpr ⟨lw_p20, List.forall_mem_cons.mpr ⟨lw_p21, List.forall_mem_cons.mpr ⟨lw_p22, List.forall_mem_cons.mpr ⟨lw_p23, List.forall_mem_cons.mpr ⟨lw_p24, List.forall_mem_cons.mpr ⟨lw_p25, List.forall_mem_cons.mpr ⟨lw_p26, List.forall_mem_cons.mpr ⟨lw_p27, List.forall_mem_cons.mpr ⟨lw_p28, List.forall_mem_cons.mpr ⟨lw_p29, List.forall_mem_cons.mpr ⟨lw_p30, List.forall_mem_cons.mpr ⟨lw_p31, fun _ h => absurd h List.not_mem_nil⟩⟩⟩⟩⟩⟩⟩⟩⟩⟩⟩⟩⟩⟩⟩⟩
theorem lw_p32 : lw_okq (⟨"HeartVanesModel", "lets", "()V"⟩, 16) := ⟨⟨by decide +kernel, by decide +kernel⟩, List.mem_of_getElem? (i := 647) (by decide +kernel), List.mem_of_getElem? (i := 871) (by decide +kernel), List.mem_of_getElem? (i := 872) (by decide +kernel)⟩
theorem lw_p33 : lw_okq (⟨"HeartVanesModel", "measures", "(II)V"⟩, 16) := ⟨⟨by decide +kernel, by decide +kernel⟩, List.mem_of_getElem? (i := 647) (by decide +kernel), List.mem_of_getElem? (i := 883) (by decide +kernel), List.mem_of_getElem? (i := 884) (by decide +kernel)⟩
theorem lw_p34 : lw_okq (⟨"HeartVanesModel", "puts", "(II)V"⟩, 16) := ⟨⟨by decide +kernel, by decide +kernel⟩, List.mem_of_getElem? (i := 647) (by decide +kernel), List.mem_of_getElem? (i := 887) (by decide +kernel), List.mem_of_getElem? (i := 888) (by decide +kernel)⟩
theorem lw_p35 : lw_okq (⟨"HeartVanesModel", "beside", "(II)I"⟩, 16) := ⟨⟨by decide +kernel, by decide +kernel⟩, List.mem_of_getElem? (i := 647) (by decide +kernel), List.mem_of_getElem? (i := 891) (by decide +kernel), List.mem_of_getElem? (i := 892) (by decide +kernel)⟩
theorem lw_p36 : lw_okq (⟨"HeartVanesModel", "marries", "()Z"⟩, 16) := ⟨⟨by decide +kernel, by decide +kernel⟩, List.mem_of_getElem? (i := 647) (by decide +kernel), List.mem_of_getElem? (i := 903) (by decide +kernel), List.mem_of_getElem? (i := 904) (by decide +kernel)⟩
theorem lw_p37 : lw_okq (⟨"HeartVanesModel", "leans", "(II)I"⟩, 16) := ⟨⟨by decide +kernel, by decide +kernel⟩, List.mem_of_getElem? (i := 647) (by decide +kernel), List.mem_of_getElem? (i := 907) (by decide +kernel), List.mem_of_getElem? (i := 908) (by decide +kernel)⟩
theorem lw_p38 : lw_okq (⟨"HeartVanesModel", "isMarried", "()Z"⟩, 16) := ⟨⟨by decide +kernel, by decide +kernel⟩, List.mem_of_getElem? (i := 647) (by decide +kernel), List.mem_of_getElem? (i := 911) (by decide +kernel), List.mem_of_getElem? (i := 912) (by decide +kernel)⟩
theorem lw_p39 : lw_okq (⟨"HeartVanesModel", "turn", "(I)V"⟩, 16) := ⟨⟨by decide +kernel, by decide +kernel⟩, List.mem_of_getElem? (i := 647) (by decide +kernel), List.mem_of_getElem? (i := 942) (by decide +kernel), List.mem_of_getElem? (i := 943) (by decide +kernel)⟩
def lw_privs_3 : List (MethodName × Nat) := [(⟨"HeartVanesModel", "lets", "()V"⟩, 16), (⟨"HeartVanesModel", "measures", "(II)V"⟩, 16), (⟨"HeartVanesModel", "puts", "(II)V"⟩, 16), (⟨"HeartVanesModel", "beside", "(II)I"⟩, 16), (⟨"HeartVanesModel", "marries", "()Z"⟩, 16), (⟨"HeartVanesModel", "leans", "(II)I"⟩, 16), (⟨"HeartVanesModel", "isMarried", "()Z"⟩, 16), (⟨"HeartVanesModel", "turn", "(I)V"⟩, 16)]
theorem lw_r3 : ∀ q ∈ lw_privs_3, lw_okq q := List.forall_mem_cons.mpr ⟨lw_p32, List.forall_mem_cons.mpr ⟨lw_p33, List.forall_mem_cons.mpr ⟨lw_p34, List.forall_mem_cons.mpr ⟨lw_p35, List.forall_mem_cons.mpr ⟨lw_p36, List.forall_mem_cons.mpr ⟨lw_p37, List.forall_mem_cons.mpr ⟨lw_p38, List.forall_mem_cons.mpr ⟨lw_p39, fun _ h => absurd h List.not_mem_nil⟩⟩⟩⟩⟩⟩⟩⟩
def lw_privs : List (MethodName × Nat) := lw_privs_1 ++ (lw_privs_2 ++ (lw_privs_3))
def lw_tbl : List Cond := k2_sels lw_privs ++ tables_1
theorem lw_privs_ok : ∀ q ∈ lw_privs, lw_okq q := by
  show ∀ q ∈ lw_privs_1 ++ (lw_privs_2 ++ (lw_privs_3)), lw_okq q
  exact List.forall_mem_append.mpr ⟨lw_r1, List.forall_mem_append.mpr ⟨lw_r2, lw_r3⟩⟩
end
section
def RX0 : String := "HeartVanes$Couples"
def TX0 : u_T := fun k => match k with
  | _ => ("HeartVanes$Couples", "mate", "[I", true)
def tyX0 : Nat → FieldType := fun k => match k with
  | _ => .array .int
theorem nmX0 : ∀ a, a < 1 → ∀ b, b < 1 → a ≠ b → (TX0 a).2.1 ≠ (TX0 b).2.1 := by decide +kernel
theorem tyX0_ok : ∀ k, k < 1 → parseFieldDescriptor (TX0 k).2.2.1 = some (tyX0 k) := by decide +kernel
abbrev cX0_init : ByteArray := prog_2_method_1_code
def yX0_init : MethodName := ⟨RX0, "<init>", "()V"⟩
abbrev cX0_find : ByteArray := prog_2_method_2_code
def yX0_find : MethodName := ⟨RX0, "find", "(LHeartVanes$Room;)Z"⟩
abbrev cX0_together : ByteArray := prog_2_method_3_code
def yX0_together : MethodName := ⟨RX0, "together", "(LHeartVanes$Room;)I"⟩
abbrev cX0_pairFrom : ByteArray := prog_2_method_4_code
def yX0_pairFrom : MethodName := ⟨RX0, "pairFrom", "(LHeartVanes$Room;[II)Z"⟩
abbrev cX0_nobodyWouldLeave : ByteArray := prog_2_method_5_code
def yX0_nobodyWouldLeave : MethodName := ⟨RX0, "nobodyWouldLeave", "(LHeartVanes$Room;[I)Z"⟩
abbrev cX0_wouldRather : ByteArray := prog_2_method_6_code
def yX0_wouldRather : MethodName := ⟨RX0, "wouldRather", "(LHeartVanes$Room;[III)Z"⟩
def RX1 : String := "HeartVanes$Past"
def TX1 : u_T := fun k => match k with
  | 0 => ("HeartVanes$Past", "earlier", "[LHeartVanes$Room;", true)
  | 1 => ("HeartVanes$Past", "next", "I", false)
  | _ => ("HeartVanes$Past", "size", "I", false)
def tyX1 : Nat → FieldType := fun k => match k with
  | 0 => .array (.object "HeartVanes$Room")
  | 1 => .int
  | _ => .int
theorem nmX1 : ∀ a, a < 3 → ∀ b, b < 3 → a ≠ b → (TX1 a).2.1 ≠ (TX1 b).2.1 := by decide +kernel
theorem tyX1_ok : ∀ k, k < 3 → parseFieldDescriptor (TX1 k).2.2.1 = some (tyX1 k) := by decide +kernel
abbrev cX1_init : ByteArray := prog_3_method_1_code
def yX1_init : MethodName := ⟨RX1, "<init>", "()V"⟩
abbrev cX1_clear : ByteArray := prog_3_method_2_code
def yX1_clear : MethodName := ⟨RX1, "clear", "()V"⟩
abbrev cX1_remember : ByteArray := prog_3_method_3_code
def yX1_remember : MethodName := ⟨RX1, "remember", "(LHeartVanes$Room;)V"⟩
abbrev cX1_restoreLatest : ByteArray := prog_3_method_4_code
def yX1_restoreLatest : MethodName := ⟨RX1, "restoreLatest", "(LHeartVanes$Room;)V"⟩
def RX2 : String := "HeartVanes$Reader"
def TX2 : u_T := fun k => match k with
  | _ => ("HeartVanes$Reader", "number", "[I", true)
def tyX2 : Nat → FieldType := fun k => match k with
  | _ => .array .int
theorem nmX2 : ∀ a, a < 1 → ∀ b, b < 1 → a ≠ b → (TX2 a).2.1 ≠ (TX2 b).2.1 := by decide +kernel
theorem tyX2_ok : ∀ k, k < 1 → parseFieldDescriptor (TX2 k).2.2.1 = some (tyX2 k) := by decide +kernel
abbrev cX2_init : ByteArray := prog_4_method_1_code
def yX2_init : MethodName := ⟨RX2, "<init>", "()V"⟩
abbrev cX2_readInto : ByteArray := prog_4_method_2_code
def yX2_readInto : MethodName := ⟨RX2, "readInto", "(LHeartVanes$Room;LHeartVanes$Text;)I"⟩
abbrev cX2_numbersOf : ByteArray := prog_4_method_3_code
def yX2_numbersOf : MethodName := ⟨RX2, "numbersOf", "(I)I"⟩
abbrev cX2_readNumbers : ByteArray := prog_4_method_4_code
def yX2_readNumbers : MethodName := ⟨RX2, "readNumbers", "(LHeartVanes$Text;II)I"⟩
abbrev cX2_take : ByteArray := prog_4_method_5_code
def yX2_take : MethodName := ⟨RX2, "take", "(LHeartVanes$Room;I)Z"⟩
abbrev cX2_takeWalls : ByteArray := prog_4_method_6_code
def yX2_takeWalls : MethodName := ⟨RX2, "takeWalls", "(LHeartVanes$Room;)Z"⟩
abbrev cX2_takePerson : ByteArray := prog_4_method_7_code
def yX2_takePerson : MethodName := ⟨RX2, "takePerson", "(LHeartVanes$Room;)Z"⟩
abbrev cX2_takeLeaning : ByteArray := prog_4_method_8_code
def yX2_takeLeaning : MethodName := ⟨RX2, "takeLeaning", "(LHeartVanes$Room;)Z"⟩
def RX3 : String := "HeartVanes$Room"
def TX3 : u_T := fun k => match k with
  | 0 => ("HeartVanes$Room", "kind", "[I", true)
  | 1 => ("HeartVanes$Room", "x", "[I", true)
  | 2 => ("HeartVanes$Room", "y", "[I", true)
  | 3 => ("HeartVanes$Room", "vane", "[I", true)
  | 4 => ("HeartVanes$Room", "leanings", "[I", true)
  | 5 => ("HeartVanes$Room", "width", "I", false)
  | 6 => ("HeartVanes$Room", "depth", "I", false)
  | 7 => ("HeartVanes$Room", "people", "I", false)
  | _ => ("HeartVanes$Room", "hours", "I", false)
def tyX3 : Nat → FieldType := fun k => match k with
  | 0 => .array .int
  | 1 => .array .int
  | 2 => .array .int
  | 3 => .array .int
  | 4 => .array .int
  | 5 => .int
  | 6 => .int
  | 7 => .int
  | _ => .int
theorem nmX3 : ∀ a, a < 9 → ∀ b, b < 9 → a ≠ b → (TX3 a).2.1 ≠ (TX3 b).2.1 := by decide +kernel
theorem tyX3_ok : ∀ k, k < 9 → parseFieldDescriptor (TX3 k).2.2.1 = some (tyX3 k) := by decide +kernel
abbrev cX3_init : ByteArray := prog_5_method_1_code
def yX3_init : MethodName := ⟨RX3, "<init>", "()V"⟩
abbrev cX3_clear : ByteArray := prog_5_method_2_code
def yX3_clear : MethodName := ⟨RX3, "clear", "()V"⟩
abbrev cX3_copyFrom : ByteArray := prog_5_method_3_code
def yX3_copyFrom : MethodName := ⟨RX3, "copyFrom", "(LHeartVanes$Room;)V"⟩
abbrev cX3_has : ByteArray := prog_5_method_4_code
def yX3_has : MethodName := ⟨RX3, "has", "(I)Z"⟩
abbrev cX3_hasTwo : ByteArray := prog_5_method_5_code
def yX3_hasTwo : MethodName := ⟨RX3, "hasTwo", "(II)Z"⟩
abbrev cX3_reaches : ByteArray := prog_5_method_6_code
def yX3_reaches : MethodName := ⟨RX3, "reaches", "(II)Z"⟩
abbrev cX3_whoIsAt : ByteArray := prog_5_method_7_code
def yX3_whoIsAt : MethodName := ⟨RX3, "whoIsAt", "(II)I"⟩
abbrev cX3_isFreeFor : ByteArray := prog_5_method_8_code
def yX3_isFreeFor : MethodName := ⟨RX3, "isFreeFor", "(III)Z"⟩
abbrev cX3_add : ByteArray := prog_5_method_9_code
def yX3_add : MethodName := ⟨RX3, "add", "(III)V"⟩
abbrev cX3_put : ByteArray := prog_5_method_10_code
def yX3_put : MethodName := ⟨RX3, "put", "(III)V"⟩
abbrev cX3_canStep : ByteArray := prog_5_method_11_code
def yX3_canStep : MethodName := ⟨RX3, "canStep", "(II)Z"⟩
abbrev cX3_step : ByteArray := prog_5_method_12_code
def yX3_step : MethodName := ⟨RX3, "step", "(II)V"⟩
abbrev cX3_leaningOf : ByteArray := prog_5_method_13_code
def yX3_leaningOf : MethodName := ⟨RX3, "leaningOf", "(II)I"⟩
abbrev cX3_setLeaning : ByteArray := prog_5_method_14_code
def yX3_setLeaning : MethodName := ⟨RX3, "setLeaning", "(III)V"⟩
abbrev cX3_leanTowardAlone : ByteArray := prog_5_method_15_code
def yX3_leanTowardAlone : MethodName := ⟨RX3, "leanTowardAlone", "(II)V"⟩
abbrev cX3_pull : ByteArray := prog_5_method_16_code
def yX3_pull : MethodName := ⟨RX3, "pull", "(II)I"⟩
abbrev cX3_feltEast : ByteArray := prog_5_method_17_code
def yX3_feltEast : MethodName := ⟨RX3, "feltEast", "(II)I"⟩
abbrev cX3_feltSouth : ByteArray := prog_5_method_18_code
def yX3_feltSouth : MethodName := ⟨RX3, "feltSouth", "(II)I"⟩
abbrev cX3_draftAmong : ByteArray := prog_5_method_19_code
def yX3_draftAmong : MethodName := ⟨RX3, "draftAmong", "(II)I"⟩
abbrev cX3_draft : ByteArray := prog_5_method_20_code
def yX3_draft : MethodName := ⟨RX3, "draft", "(I)I"⟩
abbrev cX3_passHour : ByteArray := prog_5_method_21_code
def yX3_passHour : MethodName := ⟨RX3, "passHour", "()I"⟩
abbrev cX3_actBy : ByteArray := prog_5_method_22_code
def yX3_actBy : MethodName := ⟨RX3, "actBy", "(I)V"⟩
abbrev cX3_tellsToward : ByteArray := prog_5_method_23_code
def yX3_tellsToward : MethodName := ⟨RX3, "tellsToward", "(II)Z"⟩
abbrev cX3_lookersAt : ByteArray := prog_5_method_24_code
def yX3_lookersAt : MethodName := ⟨RX3, "lookersAt", "(I)I"⟩
abbrev cX3_sumOfVanes : ByteArray := prog_5_method_25_code
def yX3_sumOfVanes : MethodName := ⟨RX3, "sumOfVanes", "()I"⟩
abbrev cX3_howManyFeelADraft : ByteArray := prog_5_method_26_code
def yX3_howManyFeelADraft : MethodName := ⟨RX3, "howManyFeelADraft", "()I"⟩
abbrev cX3_howManyLeanings : ByteArray := prog_5_method_27_code
def yX3_howManyLeanings : MethodName := ⟨RX3, "howManyLeanings", "()I"⟩
def RX4 : String := "HeartVanes$Search"
def TX4 : u_T := fun k => match k with
  | 0 => ("HeartVanes$Search", "found", "[I", true)
  | 1 => ("HeartVanes$Search", "cameFrom", "[I", true)
  | 2 => ("HeartVanes$Search", "bySide", "[I", true)
  | 3 => ("HeartVanes$Search", "distance", "[I", true)
  | 4 => ("HeartVanes$Search", "row", "[I", true)
  | _ => ("HeartVanes$Search", "length", "I", false)
def tyX4 : Nat → FieldType := fun k => match k with
  | 0 => .array .int
  | 1 => .array .int
  | 2 => .array .int
  | 3 => .array .int
  | 4 => .array .int
  | _ => .int
theorem nmX4 : ∀ a, a < 6 → ∀ b, b < 6 → a ≠ b → (TX4 a).2.1 ≠ (TX4 b).2.1 := by decide +kernel
theorem tyX4_ok : ∀ k, k < 6 → parseFieldDescriptor (TX4 k).2.2.1 = some (tyX4 k) := by decide +kernel
abbrev cX4_init : ByteArray := prog_6_method_1_code
def yX4_init : MethodName := ⟨RX4, "<init>", "()V"⟩
abbrev cX4_run : ByteArray := prog_6_method_2_code
def yX4_run : MethodName := ⟨RX4, "run", "(LHeartVanes$Room;II)V"⟩
abbrev cX4_sideAt : ByteArray := prog_6_method_3_code
def yX4_sideAt : MethodName := ⟨RX4, "sideAt", "(I)I"⟩
abbrev cX4_goTo : ByteArray := prog_6_method_4_code
def yX4_goTo : MethodName := ⟨RX4, "goTo", "(LHeartVanes$Room;II)V"⟩
abbrev cX4_findNext : ByteArray := prog_6_method_5_code
def yX4_findNext : MethodName := ⟨RX4, "findNext", "(LHeartVanes$Room;III)I"⟩
abbrev cX4_noteRow : ByteArray := prog_6_method_6_code
def yX4_noteRow : MethodName := ⟨RX4, "noteRow", "(I)V"⟩
def RX5 : String := "HeartVanes$Sights"
def TX5 : u_T := fun k => match k with
  | 0 => ("HeartVanes$Sights", "who", "[I", true)
  | 1 => ("HeartVanes$Sights", "hoursBehind", "[I", true)
  | 2 => ("HeartVanes$Sights", "way", "[I", true)
  | _ => ("HeartVanes$Sights", "size", "I", false)
def tyX5 : Nat → FieldType := fun k => match k with
  | 0 => .array .int
  | 1 => .array .int
  | 2 => .array .int
  | _ => .int
theorem nmX5 : ∀ a, a < 4 → ∀ b, b < 4 → a ≠ b → (TX5 a).2.1 ≠ (TX5 b).2.1 := by decide +kernel
theorem tyX5_ok : ∀ k, k < 4 → parseFieldDescriptor (TX5 k).2.2.1 = some (tyX5 k) := by decide +kernel
abbrev cX5_init : ByteArray := prog_7_method_1_code
def yX5_init : MethodName := ⟨RX5, "<init>", "()V"⟩
abbrev cX5_clear : ByteArray := prog_7_method_2_code
def yX5_clear : MethodName := ⟨RX5, "clear", "()V"⟩
abbrev cX5_add : ByteArray := prog_7_method_3_code
def yX5_add : MethodName := ⟨RX5, "add", "(III)V"⟩
abbrev cX5_wouldHold : ByteArray := prog_7_method_4_code
def yX5_wouldHold : MethodName := ⟨RX5, "wouldHold", "(IIII)Z"⟩
def RX6 : String := "HeartVanes$Text"
def TX6 : u_T := fun k => match k with
  | 0 => ("HeartVanes$Text", "letters", "[I", true)
  | _ => ("HeartVanes$Text", "length", "I", false)
def tyX6 : Nat → FieldType := fun k => match k with
  | 0 => .array .int
  | _ => .int
theorem nmX6 : ∀ a, a < 2 → ∀ b, b < 2 → a ≠ b → (TX6 a).2.1 ≠ (TX6 b).2.1 := by decide +kernel
theorem tyX6_ok : ∀ k, k < 2 → parseFieldDescriptor (TX6 k).2.2.1 = some (tyX6 k) := by decide +kernel
abbrev cX6_init : ByteArray := prog_8_method_1_code
def yX6_init : MethodName := ⟨RX6, "<init>", "()V"⟩
abbrev cX6_append : ByteArray := prog_8_method_2_code
def yX6_append : MethodName := ⟨RX6, "append", "(I)V"⟩
abbrev cX6_clear : ByteArray := prog_8_method_3_code
def yX6_clear : MethodName := ⟨RX6, "clear", "()V"⟩
abbrev cX6_letterAt : ByteArray := prog_8_method_4_code
def yX6_letterAt : MethodName := ⟨RX6, "letterAt", "(I)I"⟩
abbrev cX6_isFigure : ByteArray := prog_8_method_5_code
def yX6_isFigure : MethodName := ⟨RX6, "isFigure", "(I)Z"⟩
def RX7 : String := "HeartVanes"
def TX7 : u_T := fun k => match k with
  | 0 => ("HeartVanes", "text", "LHeartVanes$Text;", true)
  | 1 => ("HeartVanes", "reader", "LHeartVanes$Reader;", true)
  | 2 => ("HeartVanes", "room", "LHeartVanes$Room;", true)
  | 3 => ("HeartVanes", "trial", "LHeartVanes$Room;", true)
  | 4 => ("HeartVanes", "past", "LHeartVanes$Past;", true)
  | 5 => ("HeartVanes", "sights", "LHeartVanes$Sights;", true)
  | 6 => ("HeartVanes", "search", "LHeartVanes$Search;", true)
  | 7 => ("HeartVanes", "couples", "LHeartVanes$Couples;", true)
  | 8 => ("HeartVanes", "kept", "[LHeartVanes$Room;", true)
  | _ => ("HeartVanes", "keptCount", "I", false)
def tyX7 : Nat → FieldType := fun k => match k with
  | 0 => .object "HeartVanes$Text"
  | 1 => .object "HeartVanes$Reader"
  | 2 => .object "HeartVanes$Room"
  | 3 => .object "HeartVanes$Room"
  | 4 => .object "HeartVanes$Past"
  | 5 => .object "HeartVanes$Sights"
  | 6 => .object "HeartVanes$Search"
  | 7 => .object "HeartVanes$Couples"
  | 8 => .array (.object "HeartVanes$Room")
  | _ => .int
theorem nmX7 : ∀ a, a < 10 → ∀ b, b < 10 → a ≠ b → (TX7 a).2.1 ≠ (TX7 b).2.1 := by decide +kernel
theorem tyX7_ok : ∀ k, k < 10 → parseFieldDescriptor (TX7 k).2.2.1 = some (tyX7 k) := by decide +kernel
abbrev cX7_init : ByteArray := prog_1_method_1_code
def yX7_init : MethodName := ⟨RX7, "<init>", "()V"⟩
abbrev cX7_write : ByteArray := prog_1_method_2_code
def yX7_write : MethodName := ⟨RX7, "write", "(I)I"⟩
abbrev cX7_wipe : ByteArray := prog_1_method_3_code
def yX7_wipe : MethodName := ⟨RX7, "wipe", "()I"⟩
abbrev cX7_fault : ByteArray := prog_1_method_4_code
def yX7_fault : MethodName := ⟨RX7, "fault", "()I"⟩
abbrev cX7_lay : ByteArray := prog_1_method_5_code
def yX7_lay : MethodName := ⟨RX7, "lay", "()I"⟩
abbrev cX7_person : ByteArray := prog_1_method_6_code
def yX7_person : MethodName := ⟨RX7, "person", "(II)I"⟩
abbrev cX7_leaning : ByteArray := prog_1_method_7_code
def yX7_leaning : MethodName := ⟨RX7, "leaning", "(II)I"⟩
abbrev cX7_place : ByteArray := prog_1_method_8_code
def yX7_place : MethodName := ⟨RX7, "place", "(II)I"⟩
abbrev cX7_pass : ByteArray := prog_1_method_9_code
def yX7_pass : MethodName := ⟨RX7, "pass", "(I)I"⟩
abbrev cX7_walk : ByteArray := prog_1_method_10_code
def yX7_walk : MethodName := ⟨RX7, "walk", "(II)I"⟩
abbrev cX7_lean : ByteArray := prog_1_method_11_code
def yX7_lean : MethodName := ⟨RX7, "lean", "(III)I"⟩
abbrev cX7_undo : ByteArray := prog_1_method_12_code
def yX7_undo : MethodName := ⟨RX7, "undo", "()I"⟩
abbrev cX7_toward : ByteArray := prog_1_method_13_code
def yX7_toward : MethodName := ⟨RX7, "toward", "(I)I"⟩
abbrev cX7_looked : ByteArray := prog_1_method_14_code
def yX7_looked : MethodName := ⟨RX7, "looked", "(I)I"⟩
abbrev cX7_behind : ByteArray := prog_1_method_15_code
def yX7_behind : MethodName := ⟨RX7, "behind", "(II)I"⟩
abbrev cX7_settled : ByteArray := prog_1_method_16_code
def yX7_settled : MethodName := ⟨RX7, "settled", "()I"⟩
abbrev cX7_steps : ByteArray := prog_1_method_17_code
def yX7_steps : MethodName := ⟨RX7, "steps", "(III)I"⟩
abbrev cX7_stand : ByteArray := prog_1_method_18_code
def yX7_stand : MethodName := ⟨RX7, "stand", "(IIII)I"⟩
abbrev cX7_marry : ByteArray := prog_1_method_19_code
def yX7_marry : MethodName := ⟨RX7, "marry", "(I)I"⟩
abbrev cX7_see : ByteArray := prog_1_method_20_code
def yX7_see : MethodName := ⟨RX7, "see", "(III)I"⟩
abbrev cX7_forget : ByteArray := prog_1_method_21_code
def yX7_forget : MethodName := ⟨RX7, "forget", "()I"⟩
abbrev cX7_kinds : ByteArray := prog_1_method_22_code
def yX7_kinds : MethodName := ⟨RX7, "kinds", "(I)I"⟩
abbrev cX7_loves : ByteArray := prog_1_method_23_code
def yX7_loves : MethodName := ⟨RX7, "loves", "(II)I"⟩
abbrev cX7_away : ByteArray := prog_1_method_24_code
def yX7_away : MethodName := ⟨RX7, "away", "(IIII)I"⟩
abbrev cX7_evening : ByteArray := prog_1_method_25_code
def yX7_evening : MethodName := ⟨RX7, "evening", "(III)I"⟩
abbrev cX7_keep : ByteArray := prog_1_method_26_code
def yX7_keep : MethodName := ⟨RX7, "keep", "()I"⟩
abbrev cX7_back : ByteArray := prog_1_method_27_code
def yX7_back : MethodName := ⟨RX7, "back", "()I"⟩
abbrev cX7_count : ByteArray := prog_1_method_28_code
def yX7_count : MethodName := ⟨RX7, "count", "(I)I"⟩
abbrev cX7_isBelow : ByteArray := prog_1_method_29_code
def yX7_isBelow : MethodName := ⟨RX7, "isBelow", "(II)Z"⟩
abbrev cX7_placeNumber : ByteArray := prog_1_method_30_code
def yX7_placeNumber : MethodName := ⟨RX7, "placeNumber", "(II)I"⟩
abbrev cX7_weightOf : ByteArray := prog_1_method_31_code
def yX7_weightOf : MethodName := ⟨RX7, "weightOf", "(III)I"⟩
abbrev cX7_greatestShared : ByteArray := prog_1_method_32_code
def yX7_greatestShared : MethodName := ⟨RX7, "greatestShared", "(II)I"⟩
abbrev cX7_drawFor : ByteArray := prog_1_method_33_code
def yX7_drawFor : MethodName := ⟨RX7, "drawFor", "(II)I"⟩
abbrev cX7_wayBy : ByteArray := prog_1_method_34_code
def yX7_wayBy : MethodName := ⟨RX7, "wayBy", "(II)I"⟩
abbrev cX7_toldNext : ByteArray := prog_1_method_35_code
def yX7_toldNext : MethodName := ⟨RX7, "toldNext", "(III)I"⟩
abbrev cX7_toldBehind : ByteArray := prog_1_method_36_code
def yX7_toldBehind : MethodName := ⟨RX7, "toldBehind", "(IIII)I"⟩
abbrev cX7_turnedOneToward : ByteArray := prog_1_method_37_code
def yX7_turnedOneToward : MethodName := ⟨RX7, "turnedOneToward", "(II)I"⟩
def RX8 : String := "HeartVanesModel"
def TX8 : u_T := fun k => match k with
  | 0 => ("HeartVanesModel", "text", "[I", true)
  | 1 => ("HeartVanesModel", "typed", "I", false)
  | 2 => ("HeartVanesModel", "told", "[I", true)
  | 3 => ("HeartVanesModel", "draft", "[I", true)
  | 4 => ("HeartVanesModel", "begun", "[I", true)
  | 5 => ("HeartVanesModel", "s", "[I", true)
  | 6 => ("HeartVanesModel", "past", "[I", true)
  | 7 => ("HeartVanesModel", "known", "I", false)
  | 8 => ("HeartVanesModel", "images", "[I", true)
  | 9 => ("HeartVanesModel", "kept", "I", false)
  | 10 => ("HeartVanesModel", "notes", "[I", true)
  | 11 => ("HeartVanesModel", "noted", "I", false)
  | 12 => ("HeartVanesModel", "at", "I", false)
  | 13 => ("HeartVanesModel", "aside", "[I", true)
  | 14 => ("HeartVanesModel", "far", "[I", true)
  | _ => ("HeartVanesModel", "mate", "[I", true)
def tyX8 : Nat → FieldType := fun k => match k with
  | 0 => .array .int
  | 1 => .int
  | 2 => .array .int
  | 3 => .array .int
  | 4 => .array .int
  | 5 => .array .int
  | 6 => .array .int
  | 7 => .int
  | 8 => .array .int
  | 9 => .int
  | 10 => .array .int
  | 11 => .int
  | 12 => .int
  | 13 => .array .int
  | 14 => .array .int
  | _ => .array .int
theorem nmX8 : ∀ a, a < 16 → ∀ b, b < 16 → a ≠ b → (TX8 a).2.1 ≠ (TX8 b).2.1 := by decide +kernel
theorem tyX8_ok : ∀ k, k < 16 → parseFieldDescriptor (TX8 k).2.2.1 = some (tyX8 k) := by decide +kernel
abbrev cX8_init : ByteArray := prog_10_method_1_code
def yX8_init : MethodName := ⟨RX8, "<init>", "()V"⟩
abbrev cX8_in : ByteArray := prog_10_method_3_code
def yX8_in : MethodName := ⟨RX8, "in", "(III)Z"⟩
abbrev cX8_abs : ByteArray := prog_10_method_4_code
def yX8_abs : MethodName := ⟨RX8, "abs", "(I)I"⟩
abbrev cX8_isOne : ByteArray := prog_10_method_5_code
def yX8_isOne : MethodName := ⟨RX8, "isOne", "(I)Z"⟩
abbrev cX8_write : ByteArray := prog_10_method_6_code
def yX8_write : MethodName := ⟨RX8, "write", "(I)I"⟩
abbrev cX8_wipe : ByteArray := prog_10_method_7_code
def yX8_wipe : MethodName := ⟨RX8, "wipe", "()I"⟩
abbrev cX8_letterAt : ByteArray := prog_10_method_8_code
def yX8_letterAt : MethodName := ⟨RX8, "letterAt", "(I)I"⟩
abbrev cX8_isFigure : ByteArray := prog_10_method_9_code
def yX8_isFigure : MethodName := ⟨RX8, "isFigure", "(I)Z"⟩
abbrev cX8_number : ByteArray := prog_10_method_10_code
def yX8_number : MethodName := ⟨RX8, "number", "(III)I"⟩
abbrev cX8_begins : ByteArray := prog_10_method_11_code
def yX8_begins : MethodName := ⟨RX8, "begins", "()V"⟩
abbrev cX8_stands : ByteArray := prog_10_method_12_code
def yX8_stands : MethodName := ⟨RX8, "stands", "(III)V"⟩
abbrev cX8_readsRoom : ByteArray := prog_10_method_13_code
def yX8_readsRoom : MethodName := ⟨RX8, "readsRoom", "()Z"⟩
abbrev cX8_readsPerson : ByteArray := prog_10_method_14_code
def yX8_readsPerson : MethodName := ⟨RX8, "readsPerson", "()Z"⟩
abbrev cX8_readsLeaning : ByteArray := prog_10_method_15_code
def yX8_readsLeaning : MethodName := ⟨RX8, "readsLeaning", "()Z"⟩
abbrev cX8_readsAll : ByteArray := prog_10_method_16_code
def yX8_readsAll : MethodName := ⟨RX8, "readsAll", "()I"⟩
abbrev cX8_fault : ByteArray := prog_10_method_17_code
def yX8_fault : MethodName := ⟨RX8, "fault", "()I"⟩
abbrev cX8_lays : ByteArray := prog_10_method_18_code
def yX8_lays : MethodName := ⟨RX8, "lays", "()V"⟩
abbrev cX8_lay : ByteArray := prog_10_method_19_code
def yX8_lay : MethodName := ⟨RX8, "lay", "()I"⟩
abbrev cX8_way : ByteArray := prog_10_method_20_code
def yX8_way : MethodName := ⟨RX8, "way", "(II)I"⟩
abbrev cX8_feels : ByteArray := prog_10_method_21_code
def yX8_feels : MethodName := ⟨RX8, "feels", "(IIZ)I"⟩
abbrev cX8_all : ByteArray := prog_10_method_22_code
def yX8_all : MethodName := ⟨RX8, "all", "()I"⟩
abbrev cX8_draftBy : ByteArray := prog_10_method_23_code
def yX8_draftBy : MethodName := ⟨RX8, "draftBy", "(II)I"⟩
abbrev cX8_draftOf : ByteArray := prog_10_method_24_code
def yX8_draftOf : MethodName := ⟨RX8, "draftOf", "(I)I"⟩
abbrev cX8_person : ByteArray := prog_10_method_25_code
def yX8_person : MethodName := ⟨RX8, "person", "(II)I"⟩
abbrev cX8_leaning : ByteArray := prog_10_method_26_code
def yX8_leaning : MethodName := ⟨RX8, "leaning", "(II)I"⟩
abbrev cX8_isPlace : ByteArray := prog_10_method_27_code
def yX8_isPlace : MethodName := ⟨RX8, "isPlace", "(II)Z"⟩
abbrev cX8_whoAt : ByteArray := prog_10_method_28_code
def yX8_whoAt : MethodName := ⟨RX8, "whoAt", "(II)I"⟩
abbrev cX8_place : ByteArray := prog_10_method_29_code
def yX8_place : MethodName := ⟨RX8, "place", "(II)I"⟩
abbrev cX8_keeps : ByteArray := prog_10_method_30_code
def yX8_keeps : MethodName := ⟨RX8, "keeps", "()V"⟩
abbrev cX8_next : ByteArray := prog_10_method_31_code
def yX8_next : MethodName := ⟨RX8, "next", "(II)I"⟩
abbrev cX8_passes : ByteArray := prog_10_method_32_code
def yX8_passes : MethodName := ⟨RX8, "passes", "()I"⟩
abbrev cX8_pass : ByteArray := prog_10_method_33_code
def yX8_pass : MethodName := ⟨RX8, "pass", "(I)I"⟩
abbrev cX8_eastBy : ByteArray := prog_10_method_34_code
def yX8_eastBy : MethodName := ⟨RX8, "eastBy", "(I)I"⟩
abbrev cX8_southBy : ByteArray := prog_10_method_35_code
def yX8_southBy : MethodName := ⟨RX8, "southBy", "(I)I"⟩
abbrev cX8_mayWalk : ByteArray := prog_10_method_36_code
def yX8_mayWalk : MethodName := ⟨RX8, "mayWalk", "(II)Z"⟩
abbrev cX8_goes : ByteArray := prog_10_method_37_code
def yX8_goes : MethodName := ⟨RX8, "goes", "(II)V"⟩
abbrev cX8_walk : ByteArray := prog_10_method_38_code
def yX8_walk : MethodName := ⟨RX8, "walk", "(II)I"⟩
abbrev cX8_lean : ByteArray := prog_10_method_39_code
def yX8_lean : MethodName := ⟨RX8, "lean", "(III)I"⟩
abbrev cX8_undo : ByteArray := prog_10_method_40_code
def yX8_undo : MethodName := ⟨RX8, "undo", "()I"⟩
abbrev cX8_towardOf : ByteArray := prog_10_method_41_code
def yX8_towardOf : MethodName := ⟨RX8, "towardOf", "(I)I"⟩
abbrev cX8_toward : ByteArray := prog_10_method_42_code
def yX8_toward : MethodName := ⟨RX8, "toward", "(I)I"⟩
abbrev cX8_looked : ByteArray := prog_10_method_43_code
def yX8_looked : MethodName := ⟨RX8, "looked", "(I)I"⟩
abbrev cX8_holds : ByteArray := prog_10_method_44_code
def yX8_holds : MethodName := ⟨RX8, "holds", "()V"⟩
abbrev cX8_lets : ByteArray := prog_10_method_45_code
def yX8_lets : MethodName := ⟨RX8, "lets", "()V"⟩
abbrev cX8_behindOf : ByteArray := prog_10_method_46_code
def yX8_behindOf : MethodName := ⟨RX8, "behindOf", "(II)I"⟩
abbrev cX8_behind : ByteArray := prog_10_method_47_code
def yX8_behind : MethodName := ⟨RX8, "behind", "(II)I"⟩
abbrev cX8_settled : ByteArray := prog_10_method_48_code
def yX8_settled : MethodName := ⟨RX8, "settled", "()I"⟩
abbrev cX8_puts : ByteArray := prog_10_method_49_code
def yX8_puts : MethodName := ⟨RX8, "puts", "(II)V"⟩
abbrev cX8_measures : ByteArray := prog_10_method_50_code
def yX8_measures : MethodName := ⟨RX8, "measures", "(II)V"⟩
abbrev cX8_beside : ByteArray := prog_10_method_51_code
def yX8_beside : MethodName := ⟨RX8, "beside", "(II)I"⟩
abbrev cX8_steps : ByteArray := prog_10_method_52_code
def yX8_steps : MethodName := ⟨RX8, "steps", "(III)I"⟩
abbrev cX8_stand : ByteArray := prog_10_method_53_code
def yX8_stand : MethodName := ⟨RX8, "stand", "(IIII)I"⟩
abbrev cX8_leans : ByteArray := prog_10_method_54_code
def yX8_leans : MethodName := ⟨RX8, "leans", "(II)I"⟩
abbrev cX8_isMarried : ByteArray := prog_10_method_55_code
def yX8_isMarried : MethodName := ⟨RX8, "isMarried", "()Z"⟩
abbrev cX8_marries : ByteArray := prog_10_method_56_code
def yX8_marries : MethodName := ⟨RX8, "marries", "()Z"⟩
abbrev cX8_marry : ByteArray := prog_10_method_57_code
def yX8_marry : MethodName := ⟨RX8, "marry", "(I)I"⟩
abbrev cX8_see : ByteArray := prog_10_method_58_code
def yX8_see : MethodName := ⟨RX8, "see", "(III)I"⟩
abbrev cX8_forget : ByteArray := prog_10_method_59_code
def yX8_forget : MethodName := ⟨RX8, "forget", "()I"⟩
abbrev cX8_kinds : ByteArray := prog_10_method_60_code
def yX8_kinds : MethodName := ⟨RX8, "kinds", "(I)I"⟩
abbrev cX8_loves : ByteArray := prog_10_method_61_code
def yX8_loves : MethodName := ⟨RX8, "loves", "(II)I"⟩
abbrev cX8_away : ByteArray := prog_10_method_62_code
def yX8_away : MethodName := ⟨RX8, "away", "(IIII)I"⟩
abbrev cX8_turn : ByteArray := prog_10_method_63_code
def yX8_turn : MethodName := ⟨RX8, "turn", "(I)V"⟩
abbrev cX8_evening : ByteArray := prog_10_method_64_code
def yX8_evening : MethodName := ⟨RX8, "evening", "(III)I"⟩
abbrev cX8_keep : ByteArray := prog_10_method_65_code
def yX8_keep : MethodName := ⟨RX8, "keep", "()I"⟩
abbrev cX8_back : ByteArray := prog_10_method_66_code
def yX8_back : MethodName := ⟨RX8, "back", "()I"⟩
abbrev cX8_count : ByteArray := prog_10_method_67_code
def yX8_count : MethodName := ⟨RX8, "count", "(I)I"⟩
def RL : String := "HeartVanesLaw"
abbrev cL_law : ByteArray := code
def yL_law : MethodName := ⟨RL, "law", "([I)Z"⟩
abbrev vwCl : List vw_C := [(RX0, TX0, 1), (RX1, TX1, 3), (RX2, TX2, 1), (RX3, TX3, 9), (RX4, TX4, 6), (RX5, TX5, 4), (RX6, TX6, 2), (RX7, TX7, 10), (RX8, TX8, 16)]
end
section
theorem dX0_init_0 : decode cX0_init 0 = .ok (.aload_n 0, 1) := by decide +kernel
theorem dX0_init_1 : decode cX0_init 1 = .ok (.invokespecial 3, 3) := by decide +kernel
theorem dX0_init_4 : decode cX0_init 4 = .ok (.aload_n 0, 1) := by decide +kernel
theorem dX0_init_5 : decode cX0_init 5 = .ok (.bipush 6, 2) := by decide +kernel
theorem dX0_init_7 : decode cX0_init 7 = .ok (.newarray .int, 2) := by decide +kernel
theorem dX0_init_9 : decode cX0_init 9 = .ok (.putfield 9, 3) := by decide +kernel
theorem dX0_init_12 : decode cX0_init 12 = .ok (.return_, 1) := by decide +kernel
theorem dX0_find_0 : decode cX0_find 0 = .ok (.iconst 0, 1) := by decide +kernel
theorem dX0_find_1 : decode cX0_find 1 = .ok (.istore_n 2, 1) := by decide +kernel
theorem dX0_find_2 : decode cX0_find 2 = .ok (.iload_n 2, 1) := by decide +kernel
theorem dX0_find_3 : decode cX0_find 3 = .ok (.bipush 6, 2) := by decide +kernel
theorem dX0_find_5 : decode cX0_find 5 = .ok (.if_icmp .ge 17, 3) := by decide +kernel
theorem dX0_find_8 : decode cX0_find 8 = .ok (.aload_n 0, 1) := by decide +kernel
theorem dX0_find_9 : decode cX0_find 9 = .ok (.getfield 9, 3) := by decide +kernel
theorem dX0_find_12 : decode cX0_find 12 = .ok (.iload_n 2, 1) := by decide +kernel
theorem dX0_find_13 : decode cX0_find 13 = .ok (.bipush (-4), 2) := by decide +kernel
theorem dX0_find_15 : decode cX0_find 15 = .ok (.iastore, 1) := by decide +kernel
theorem dX0_find_16 : decode cX0_find 16 = .ok (.iinc 2 1, 3) := by decide +kernel
theorem dX0_find_19 : decode cX0_find 19 = .ok (.goto (-17), 3) := by decide +kernel
theorem dX0_find_22 : decode cX0_find 22 = .ok (.aload_n 1, 1) := by decide +kernel
theorem dX0_find_23 : decode cX0_find 23 = .ok (.aload_n 0, 1) := by decide +kernel
theorem dX0_find_24 : decode cX0_find 24 = .ok (.getfield 9, 3) := by decide +kernel
theorem dX0_find_27 : decode cX0_find 27 = .ok (.iconst 0, 1) := by decide +kernel
theorem dX0_find_28 : decode cX0_find 28 = .ok (.invokestatic 15, 3) := by decide +kernel
theorem dX0_find_31 : decode cX0_find 31 = .ok (.ireturn, 1) := by decide +kernel
theorem dX0_together_0 : decode cX0_together 0 = .ok (.iconst 0, 1) := by decide +kernel
theorem dX0_together_1 : decode cX0_together 1 = .ok (.istore_n 2, 1) := by decide +kernel
theorem dX0_together_2 : decode cX0_together 2 = .ok (.iconst 0, 1) := by decide +kernel
theorem dX0_together_3 : decode cX0_together 3 = .ok (.istore_n 3, 1) := by decide +kernel
theorem dX0_together_4 : decode cX0_together 4 = .ok (.iload_n 3, 1) := by decide +kernel
theorem dX0_together_5 : decode cX0_together 5 = .ok (.aload_n 1, 1) := by decide +kernel
theorem dX0_together_6 : decode cX0_together 6 = .ok (.getfield 19, 3) := by decide +kernel
theorem dX0_together_9 : decode cX0_together 9 = .ok (.if_icmp .ge 23, 3) := by decide +kernel
theorem dX0_together_12 : decode cX0_together 12 = .ok (.aload_n 0, 1) := by decide +kernel
theorem dX0_together_13 : decode cX0_together 13 = .ok (.getfield 9, 3) := by decide +kernel
theorem dX0_together_16 : decode cX0_together 16 = .ok (.iload_n 3, 1) := by decide +kernel
theorem dX0_together_17 : decode cX0_together 17 = .ok (.iaload, 1) := by decide +kernel
theorem dX0_together_18 : decode cX0_together 18 = .ok (.bipush (-4), 2) := by decide +kernel
theorem dX0_together_20 : decode cX0_together 20 = .ok (.if_icmp .eq 6, 3) := by decide +kernel
theorem dX0_together_23 : decode cX0_together 23 = .ok (.iinc 2 1, 3) := by decide +kernel
theorem dX0_together_26 : decode cX0_together 26 = .ok (.iinc 3 1, 3) := by decide +kernel
theorem dX0_together_29 : decode cX0_together 29 = .ok (.goto (-25), 3) := by decide +kernel
theorem dX0_together_32 : decode cX0_together 32 = .ok (.iload_n 2, 1) := by decide +kernel
theorem dX0_together_33 : decode cX0_together 33 = .ok (.ireturn, 1) := by decide +kernel
theorem dX0_pairFrom_0 : decode cX0_pairFrom 0 = .ok (.iload_n 2, 1) := by decide +kernel
theorem dX0_pairFrom_1 : decode cX0_pairFrom 1 = .ok (.aload_n 0, 1) := by decide +kernel
theorem dX0_pairFrom_2 : decode cX0_pairFrom 2 = .ok (.getfield 19, 3) := by decide +kernel
theorem dX0_pairFrom_5 : decode cX0_pairFrom 5 = .ok (.if_icmp .ge 9, 3) := by decide +kernel
theorem dX0_pairFrom_8 : decode cX0_pairFrom 8 = .ok (.iload_n 2, 1) := by decide +kernel
theorem dX0_pairFrom_9 : decode cX0_pairFrom 9 = .ok (.bipush 6, 2) := by decide +kernel
theorem dX0_pairFrom_11 : decode cX0_pairFrom 11 = .ok (.if_icmp .lt 9, 3) := by decide +kernel
theorem dX0_pairFrom_14 : decode cX0_pairFrom 14 = .ok (.aload_n 0, 1) := by decide +kernel
theorem dX0_pairFrom_15 : decode cX0_pairFrom 15 = .ok (.aload_n 1, 1) := by decide +kernel
theorem dX0_pairFrom_16 : decode cX0_pairFrom 16 = .ok (.invokestatic 25, 3) := by decide +kernel
theorem dX0_pairFrom_19 : decode cX0_pairFrom 19 = .ok (.ireturn, 1) := by decide +kernel
theorem dX0_pairFrom_20 : decode cX0_pairFrom 20 = .ok (.aload_n 1, 1) := by decide +kernel
theorem dX0_pairFrom_21 : decode cX0_pairFrom 21 = .ok (.iload_n 2, 1) := by decide +kernel
theorem dX0_pairFrom_22 : decode cX0_pairFrom 22 = .ok (.iaload, 1) := by decide +kernel
theorem dX0_pairFrom_23 : decode cX0_pairFrom 23 = .ok (.bipush (-4), 2) := by decide +kernel
theorem dX0_pairFrom_25 : decode cX0_pairFrom 25 = .ok (.if_icmp .eq 12, 3) := by decide +kernel
theorem dX0_pairFrom_28 : decode cX0_pairFrom 28 = .ok (.aload_n 0, 1) := by decide +kernel
theorem dX0_pairFrom_29 : decode cX0_pairFrom 29 = .ok (.aload_n 1, 1) := by decide +kernel
theorem dX0_pairFrom_30 : decode cX0_pairFrom 30 = .ok (.iload_n 2, 1) := by decide +kernel
theorem dX0_pairFrom_31 : decode cX0_pairFrom 31 = .ok (.iconst 1, 1) := by decide +kernel
theorem dX0_pairFrom_32 : decode cX0_pairFrom 32 = .ok (.iadd, 1) := by decide +kernel
theorem dX0_pairFrom_33 : decode cX0_pairFrom 33 = .ok (.invokestatic 15, 3) := by decide +kernel
theorem dX0_pairFrom_36 : decode cX0_pairFrom 36 = .ok (.ireturn, 1) := by decide +kernel
theorem dX0_pairFrom_37 : decode cX0_pairFrom 37 = .ok (.iload_n 2, 1) := by decide +kernel
theorem dX0_pairFrom_38 : decode cX0_pairFrom 38 = .ok (.iconst 1, 1) := by decide +kernel
theorem dX0_pairFrom_39 : decode cX0_pairFrom 39 = .ok (.iadd, 1) := by decide +kernel
theorem dX0_pairFrom_40 : decode cX0_pairFrom 40 = .ok (.istore_n 3, 1) := by decide +kernel
theorem dX0_pairFrom_41 : decode cX0_pairFrom 41 = .ok (.iload_n 3, 1) := by decide +kernel
theorem dX0_pairFrom_42 : decode cX0_pairFrom 42 = .ok (.aload_n 0, 1) := by decide +kernel
theorem dX0_pairFrom_43 : decode cX0_pairFrom 43 = .ok (.getfield 19, 3) := by decide +kernel
theorem dX0_pairFrom_46 : decode cX0_pairFrom 46 = .ok (.if_icmp .ge 69, 3) := by decide +kernel
theorem dX0_pairFrom_49 : decode cX0_pairFrom 49 = .ok (.aload_n 1, 1) := by decide +kernel
theorem dX0_pairFrom_50 : decode cX0_pairFrom 50 = .ok (.iload_n 3, 1) := by decide +kernel
theorem dX0_pairFrom_51 : decode cX0_pairFrom 51 = .ok (.iaload, 1) := by decide +kernel
theorem dX0_pairFrom_52 : decode cX0_pairFrom 52 = .ok (.bipush (-4), 2) := by decide +kernel
theorem dX0_pairFrom_54 : decode cX0_pairFrom 54 = .ok (.if_icmp .ne 55, 3) := by decide +kernel
theorem dX0_pairFrom_57 : decode cX0_pairFrom 57 = .ok (.aload_n 0, 1) := by decide +kernel
theorem dX0_pairFrom_58 : decode cX0_pairFrom 58 = .ok (.iload_n 2, 1) := by decide +kernel
theorem dX0_pairFrom_59 : decode cX0_pairFrom 59 = .ok (.iload_n 3, 1) := by decide +kernel
theorem dX0_pairFrom_60 : decode cX0_pairFrom 60 = .ok (.invokevirtual 29, 3) := by decide +kernel
theorem dX0_pairFrom_63 : decode cX0_pairFrom 63 = .ok (.ifCond .le 46, 3) := by decide +kernel
theorem dX0_pairFrom_66 : decode cX0_pairFrom 66 = .ok (.aload_n 0, 1) := by decide +kernel
theorem dX0_pairFrom_67 : decode cX0_pairFrom 67 = .ok (.iload_n 3, 1) := by decide +kernel
theorem dX0_pairFrom_68 : decode cX0_pairFrom 68 = .ok (.iload_n 2, 1) := by decide +kernel
theorem dX0_pairFrom_69 : decode cX0_pairFrom 69 = .ok (.invokevirtual 29, 3) := by decide +kernel
theorem dX0_pairFrom_72 : decode cX0_pairFrom 72 = .ok (.ifCond .gt 6, 3) := by decide +kernel
theorem dX0_pairFrom_75 : decode cX0_pairFrom 75 = .ok (.goto 34, 3) := by decide +kernel
theorem dX0_pairFrom_78 : decode cX0_pairFrom 78 = .ok (.aload_n 1, 1) := by decide +kernel
theorem dX0_pairFrom_79 : decode cX0_pairFrom 79 = .ok (.iload_n 2, 1) := by decide +kernel
theorem dX0_pairFrom_80 : decode cX0_pairFrom 80 = .ok (.iload_n 3, 1) := by decide +kernel
theorem dX0_pairFrom_81 : decode cX0_pairFrom 81 = .ok (.iastore, 1) := by decide +kernel
theorem dX0_pairFrom_82 : decode cX0_pairFrom 82 = .ok (.aload_n 1, 1) := by decide +kernel
theorem dX0_pairFrom_83 : decode cX0_pairFrom 83 = .ok (.iload_n 3, 1) := by decide +kernel
theorem dX0_pairFrom_84 : decode cX0_pairFrom 84 = .ok (.iload_n 2, 1) := by decide +kernel
theorem dX0_pairFrom_85 : decode cX0_pairFrom 85 = .ok (.iastore, 1) := by decide +kernel
theorem dX0_pairFrom_86 : decode cX0_pairFrom 86 = .ok (.aload_n 0, 1) := by decide +kernel
theorem dX0_pairFrom_87 : decode cX0_pairFrom 87 = .ok (.aload_n 1, 1) := by decide +kernel
theorem dX0_pairFrom_88 : decode cX0_pairFrom 88 = .ok (.iload_n 2, 1) := by decide +kernel
theorem dX0_pairFrom_89 : decode cX0_pairFrom 89 = .ok (.iconst 1, 1) := by decide +kernel
theorem dX0_pairFrom_90 : decode cX0_pairFrom 90 = .ok (.iadd, 1) := by decide +kernel
theorem dX0_pairFrom_91 : decode cX0_pairFrom 91 = .ok (.invokestatic 15, 3) := by decide +kernel
theorem dX0_pairFrom_94 : decode cX0_pairFrom 94 = .ok (.ifCond .eq 5, 3) := by decide +kernel
theorem dX0_pairFrom_97 : decode cX0_pairFrom 97 = .ok (.iconst 1, 1) := by decide +kernel
theorem dX0_pairFrom_98 : decode cX0_pairFrom 98 = .ok (.ireturn, 1) := by decide +kernel
theorem dX0_pairFrom_99 : decode cX0_pairFrom 99 = .ok (.aload_n 1, 1) := by decide +kernel
theorem dX0_pairFrom_100 : decode cX0_pairFrom 100 = .ok (.iload_n 2, 1) := by decide +kernel
theorem dX0_pairFrom_101 : decode cX0_pairFrom 101 = .ok (.bipush (-4), 2) := by decide +kernel
theorem dX0_pairFrom_103 : decode cX0_pairFrom 103 = .ok (.iastore, 1) := by decide +kernel
theorem dX0_pairFrom_104 : decode cX0_pairFrom 104 = .ok (.aload_n 1, 1) := by decide +kernel
theorem dX0_pairFrom_105 : decode cX0_pairFrom 105 = .ok (.iload_n 3, 1) := by decide +kernel
theorem dX0_pairFrom_106 : decode cX0_pairFrom 106 = .ok (.bipush (-4), 2) := by decide +kernel
theorem dX0_pairFrom_108 : decode cX0_pairFrom 108 = .ok (.iastore, 1) := by decide +kernel
theorem dX0_pairFrom_109 : decode cX0_pairFrom 109 = .ok (.iinc 3 1, 3) := by decide +kernel
theorem dX0_pairFrom_112 : decode cX0_pairFrom 112 = .ok (.goto (-71), 3) := by decide +kernel
theorem dX0_pairFrom_115 : decode cX0_pairFrom 115 = .ok (.aload_n 0, 1) := by decide +kernel
theorem dX0_pairFrom_116 : decode cX0_pairFrom 116 = .ok (.aload_n 1, 1) := by decide +kernel
theorem dX0_pairFrom_117 : decode cX0_pairFrom 117 = .ok (.iload_n 2, 1) := by decide +kernel
theorem dX0_pairFrom_118 : decode cX0_pairFrom 118 = .ok (.iconst 1, 1) := by decide +kernel
theorem dX0_pairFrom_119 : decode cX0_pairFrom 119 = .ok (.iadd, 1) := by decide +kernel
theorem dX0_pairFrom_120 : decode cX0_pairFrom 120 = .ok (.invokestatic 15, 3) := by decide +kernel
theorem dX0_pairFrom_123 : decode cX0_pairFrom 123 = .ok (.ireturn, 1) := by decide +kernel
theorem dX0_nobodyWouldLeave_0 : decode cX0_nobodyWouldLeave 0 = .ok (.iconst 0, 1) := by decide +kernel
theorem dX0_nobodyWouldLeave_1 : decode cX0_nobodyWouldLeave 1 = .ok (.istore_n 2, 1) := by decide +kernel
theorem dX0_nobodyWouldLeave_2 : decode cX0_nobodyWouldLeave 2 = .ok (.iload_n 2, 1) := by decide +kernel
theorem dX0_nobodyWouldLeave_3 : decode cX0_nobodyWouldLeave 3 = .ok (.aload_n 0, 1) := by decide +kernel
theorem dX0_nobodyWouldLeave_4 : decode cX0_nobodyWouldLeave 4 = .ok (.getfield 19, 3) := by decide +kernel
theorem dX0_nobodyWouldLeave_7 : decode cX0_nobodyWouldLeave 7 = .ok (.if_icmp .ge 56, 3) := by decide +kernel
theorem dX0_nobodyWouldLeave_10 : decode cX0_nobodyWouldLeave 10 = .ok (.iload_n 2, 1) := by decide +kernel
theorem dX0_nobodyWouldLeave_11 : decode cX0_nobodyWouldLeave 11 = .ok (.iconst 1, 1) := by decide +kernel
theorem dX0_nobodyWouldLeave_12 : decode cX0_nobodyWouldLeave 12 = .ok (.iadd, 1) := by decide +kernel
theorem dX0_nobodyWouldLeave_13 : decode cX0_nobodyWouldLeave 13 = .ok (.istore_n 3, 1) := by decide +kernel
theorem dX0_nobodyWouldLeave_14 : decode cX0_nobodyWouldLeave 14 = .ok (.iload_n 3, 1) := by decide +kernel
theorem dX0_nobodyWouldLeave_15 : decode cX0_nobodyWouldLeave 15 = .ok (.aload_n 0, 1) := by decide +kernel
theorem dX0_nobodyWouldLeave_16 : decode cX0_nobodyWouldLeave 16 = .ok (.getfield 19, 3) := by decide +kernel
theorem dX0_nobodyWouldLeave_19 : decode cX0_nobodyWouldLeave 19 = .ok (.if_icmp .ge 38, 3) := by decide +kernel
theorem dX0_nobodyWouldLeave_22 : decode cX0_nobodyWouldLeave 22 = .ok (.aload_n 1, 1) := by decide +kernel
theorem dX0_nobodyWouldLeave_23 : decode cX0_nobodyWouldLeave 23 = .ok (.iload_n 2, 1) := by decide +kernel
theorem dX0_nobodyWouldLeave_24 : decode cX0_nobodyWouldLeave 24 = .ok (.iaload, 1) := by decide +kernel
theorem dX0_nobodyWouldLeave_25 : decode cX0_nobodyWouldLeave 25 = .ok (.iload_n 3, 1) := by decide +kernel
theorem dX0_nobodyWouldLeave_26 : decode cX0_nobodyWouldLeave 26 = .ok (.if_icmp .eq 25, 3) := by decide +kernel
theorem dX0_nobodyWouldLeave_29 : decode cX0_nobodyWouldLeave 29 = .ok (.aload_n 0, 1) := by decide +kernel
theorem dX0_nobodyWouldLeave_30 : decode cX0_nobodyWouldLeave 30 = .ok (.aload_n 1, 1) := by decide +kernel
theorem dX0_nobodyWouldLeave_31 : decode cX0_nobodyWouldLeave 31 = .ok (.iload_n 2, 1) := by decide +kernel
theorem dX0_nobodyWouldLeave_32 : decode cX0_nobodyWouldLeave 32 = .ok (.iload_n 3, 1) := by decide +kernel
theorem dX0_nobodyWouldLeave_33 : decode cX0_nobodyWouldLeave 33 = .ok (.invokestatic 33, 3) := by decide +kernel
theorem dX0_nobodyWouldLeave_36 : decode cX0_nobodyWouldLeave 36 = .ok (.ifCond .eq 15, 3) := by decide +kernel
theorem dX0_nobodyWouldLeave_39 : decode cX0_nobodyWouldLeave 39 = .ok (.aload_n 0, 1) := by decide +kernel
theorem dX0_nobodyWouldLeave_40 : decode cX0_nobodyWouldLeave 40 = .ok (.aload_n 1, 1) := by decide +kernel
theorem dX0_nobodyWouldLeave_41 : decode cX0_nobodyWouldLeave 41 = .ok (.iload_n 3, 1) := by decide +kernel
theorem dX0_nobodyWouldLeave_42 : decode cX0_nobodyWouldLeave 42 = .ok (.iload_n 2, 1) := by decide +kernel
theorem dX0_nobodyWouldLeave_43 : decode cX0_nobodyWouldLeave 43 = .ok (.invokestatic 33, 3) := by decide +kernel
theorem dX0_nobodyWouldLeave_46 : decode cX0_nobodyWouldLeave 46 = .ok (.ifCond .eq 5, 3) := by decide +kernel
theorem dX0_nobodyWouldLeave_49 : decode cX0_nobodyWouldLeave 49 = .ok (.iconst 0, 1) := by decide +kernel
theorem dX0_nobodyWouldLeave_50 : decode cX0_nobodyWouldLeave 50 = .ok (.ireturn, 1) := by decide +kernel
theorem dX0_nobodyWouldLeave_51 : decode cX0_nobodyWouldLeave 51 = .ok (.iinc 3 1, 3) := by decide +kernel
theorem dX0_nobodyWouldLeave_54 : decode cX0_nobodyWouldLeave 54 = .ok (.goto (-40), 3) := by decide +kernel
theorem dX0_nobodyWouldLeave_57 : decode cX0_nobodyWouldLeave 57 = .ok (.iinc 2 1, 3) := by decide +kernel
theorem dX0_nobodyWouldLeave_60 : decode cX0_nobodyWouldLeave 60 = .ok (.goto (-58), 3) := by decide +kernel
theorem dX0_nobodyWouldLeave_63 : decode cX0_nobodyWouldLeave 63 = .ok (.iconst 1, 1) := by decide +kernel
theorem dX0_nobodyWouldLeave_64 : decode cX0_nobodyWouldLeave 64 = .ok (.ireturn, 1) := by decide +kernel
theorem dX0_wouldRather_0 : decode cX0_wouldRather 0 = .ok (.aload_n 1, 1) := by decide +kernel
theorem dX0_wouldRather_1 : decode cX0_wouldRather 1 = .ok (.iload_n 2, 1) := by decide +kernel
theorem dX0_wouldRather_2 : decode cX0_wouldRather 2 = .ok (.iaload, 1) := by decide +kernel
theorem dX0_wouldRather_3 : decode cX0_wouldRather 3 = .ok (.bipush (-4), 2) := by decide +kernel
theorem dX0_wouldRather_5 : decode cX0_wouldRather 5 = .ok (.if_icmp .ne 7, 3) := by decide +kernel
theorem dX0_wouldRather_8 : decode cX0_wouldRather 8 = .ok (.iconst 0, 1) := by decide +kernel
theorem dX0_wouldRather_9 : decode cX0_wouldRather 9 = .ok (.goto 11, 3) := by decide +kernel
theorem dX0_wouldRather_12 : decode cX0_wouldRather 12 = .ok (.aload_n 0, 1) := by decide +kernel
theorem dX0_wouldRather_13 : decode cX0_wouldRather 13 = .ok (.iload_n 2, 1) := by decide +kernel
theorem dX0_wouldRather_14 : decode cX0_wouldRather 14 = .ok (.aload_n 1, 1) := by decide +kernel
theorem dX0_wouldRather_15 : decode cX0_wouldRather 15 = .ok (.iload_n 2, 1) := by decide +kernel
theorem dX0_wouldRather_16 : decode cX0_wouldRather 16 = .ok (.iaload, 1) := by decide +kernel
theorem dX0_wouldRather_17 : decode cX0_wouldRather 17 = .ok (.invokevirtual 29, 3) := by decide +kernel
theorem dX0_wouldRather_20 : decode cX0_wouldRather 20 = .ok (.istore 4, 2) := by decide +kernel
theorem dX0_wouldRather_22 : decode cX0_wouldRather 22 = .ok (.aload_n 0, 1) := by decide +kernel
theorem dX0_wouldRather_23 : decode cX0_wouldRather 23 = .ok (.iload_n 2, 1) := by decide +kernel
theorem dX0_wouldRather_24 : decode cX0_wouldRather 24 = .ok (.iload_n 3, 1) := by decide +kernel
theorem dX0_wouldRather_25 : decode cX0_wouldRather 25 = .ok (.invokevirtual 29, 3) := by decide +kernel
theorem dX0_wouldRather_28 : decode cX0_wouldRather 28 = .ok (.iload 4, 2) := by decide +kernel
theorem dX0_wouldRather_30 : decode cX0_wouldRather 30 = .ok (.if_icmp .le 7, 3) := by decide +kernel
theorem dX0_wouldRather_33 : decode cX0_wouldRather 33 = .ok (.iconst 1, 1) := by decide +kernel
theorem dX0_wouldRather_34 : decode cX0_wouldRather 34 = .ok (.goto 4, 3) := by decide +kernel
theorem dX0_wouldRather_37 : decode cX0_wouldRather 37 = .ok (.iconst 0, 1) := by decide +kernel
theorem dX0_wouldRather_38 : decode cX0_wouldRather 38 = .ok (.ireturn, 1) := by decide +kernel
theorem dX1_init_0 : decode cX1_init 0 = .ok (.aload_n 0, 1) := by decide +kernel
theorem dX1_init_1 : decode cX1_init 1 = .ok (.invokespecial 3, 3) := by decide +kernel
theorem dX1_init_4 : decode cX1_init 4 = .ok (.aload_n 0, 1) := by decide +kernel
theorem dX1_init_5 : decode cX1_init 5 = .ok (.bipush 8, 2) := by decide +kernel
theorem dX1_init_7 : decode cX1_init 7 = .ok (.anewarray 9, 3) := by decide +kernel
theorem dX1_init_10 : decode cX1_init 10 = .ok (.putfield 11, 3) := by decide +kernel
theorem dX1_init_13 : decode cX1_init 13 = .ok (.aload_n 0, 1) := by decide +kernel
theorem dX1_init_14 : decode cX1_init 14 = .ok (.iconst 0, 1) := by decide +kernel
theorem dX1_init_15 : decode cX1_init 15 = .ok (.putfield 17, 3) := by decide +kernel
theorem dX1_init_18 : decode cX1_init 18 = .ok (.aload_n 0, 1) := by decide +kernel
theorem dX1_init_19 : decode cX1_init 19 = .ok (.iconst 0, 1) := by decide +kernel
theorem dX1_init_20 : decode cX1_init 20 = .ok (.putfield 21, 3) := by decide +kernel
theorem dX1_init_23 : decode cX1_init 23 = .ok (.iconst 0, 1) := by decide +kernel
theorem dX1_init_24 : decode cX1_init 24 = .ok (.istore_n 1, 1) := by decide +kernel
theorem dX1_init_25 : decode cX1_init 25 = .ok (.iload_n 1, 1) := by decide +kernel
theorem dX1_init_26 : decode cX1_init 26 = .ok (.bipush 8, 2) := by decide +kernel
theorem dX1_init_28 : decode cX1_init 28 = .ok (.if_icmp .ge 22, 3) := by decide +kernel
theorem dX1_init_31 : decode cX1_init 31 = .ok (.aload_n 0, 1) := by decide +kernel
theorem dX1_init_32 : decode cX1_init 32 = .ok (.getfield 11, 3) := by decide +kernel
theorem dX1_init_35 : decode cX1_init 35 = .ok (.iload_n 1, 1) := by decide +kernel
theorem dX1_init_36 : decode cX1_init 36 = .ok (.new 9, 3) := by decide +kernel
theorem dX1_init_39 : decode cX1_init 39 = .ok (.dup, 1) := by decide +kernel
theorem dX1_init_40 : decode cX1_init 40 = .ok (.invokespecial 24, 3) := by decide +kernel
theorem dX1_init_43 : decode cX1_init 43 = .ok (.aastore, 1) := by decide +kernel
theorem dX1_init_44 : decode cX1_init 44 = .ok (.iinc 1 1, 3) := by decide +kernel
theorem dX1_init_47 : decode cX1_init 47 = .ok (.goto (-22), 3) := by decide +kernel
theorem dX1_init_50 : decode cX1_init 50 = .ok (.return_, 1) := by decide +kernel
theorem dX1_clear_0 : decode cX1_clear 0 = .ok (.aload_n 0, 1) := by decide +kernel
theorem dX1_clear_1 : decode cX1_clear 1 = .ok (.iconst 0, 1) := by decide +kernel
theorem dX1_clear_2 : decode cX1_clear 2 = .ok (.putfield 21, 3) := by decide +kernel
theorem dX1_clear_5 : decode cX1_clear 5 = .ok (.return_, 1) := by decide +kernel
theorem dX1_remember_0 : decode cX1_remember 0 = .ok (.aload_n 0, 1) := by decide +kernel
theorem dX1_remember_1 : decode cX1_remember 1 = .ok (.getfield 11, 3) := by decide +kernel
theorem dX1_remember_4 : decode cX1_remember 4 = .ok (.aload_n 0, 1) := by decide +kernel
theorem dX1_remember_5 : decode cX1_remember 5 = .ok (.getfield 17, 3) := by decide +kernel
theorem dX1_remember_8 : decode cX1_remember 8 = .ok (.aaload, 1) := by decide +kernel
theorem dX1_remember_9 : decode cX1_remember 9 = .ok (.aload_n 1, 1) := by decide +kernel
theorem dX1_remember_10 : decode cX1_remember 10 = .ok (.invokevirtual 25, 3) := by decide +kernel
theorem dX1_remember_13 : decode cX1_remember 13 = .ok (.aload_n 0, 1) := by decide +kernel
theorem dX1_remember_14 : decode cX1_remember 14 = .ok (.aload_n 0, 1) := by decide +kernel
theorem dX1_remember_15 : decode cX1_remember 15 = .ok (.getfield 17, 3) := by decide +kernel
theorem dX1_remember_18 : decode cX1_remember 18 = .ok (.iconst 1, 1) := by decide +kernel
theorem dX1_remember_19 : decode cX1_remember 19 = .ok (.iadd, 1) := by decide +kernel
theorem dX1_remember_20 : decode cX1_remember 20 = .ok (.bipush 8, 2) := by decide +kernel
theorem dX1_remember_22 : decode cX1_remember 22 = .ok (.irem, 1) := by decide +kernel
theorem dX1_remember_23 : decode cX1_remember 23 = .ok (.putfield 17, 3) := by decide +kernel
theorem dX1_remember_26 : decode cX1_remember 26 = .ok (.aload_n 0, 1) := by decide +kernel
theorem dX1_remember_27 : decode cX1_remember 27 = .ok (.aload_n 0, 1) := by decide +kernel
theorem dX1_remember_28 : decode cX1_remember 28 = .ok (.getfield 21, 3) := by decide +kernel
theorem dX1_remember_31 : decode cX1_remember 31 = .ok (.iconst 1, 1) := by decide +kernel
theorem dX1_remember_32 : decode cX1_remember 32 = .ok (.iadd, 1) := by decide +kernel
theorem dX1_remember_33 : decode cX1_remember 33 = .ok (.bipush 8, 2) := by decide +kernel
theorem dX1_remember_35 : decode cX1_remember 35 = .ok (.invokestatic 29, 3) := by decide +kernel
theorem dX1_remember_38 : decode cX1_remember 38 = .ok (.putfield 21, 3) := by decide +kernel
theorem dX1_remember_41 : decode cX1_remember 41 = .ok (.return_, 1) := by decide +kernel
theorem dX1_restoreLatest_0 : decode cX1_restoreLatest 0 = .ok (.aload_n 0, 1) := by decide +kernel
theorem dX1_restoreLatest_1 : decode cX1_restoreLatest 1 = .ok (.getfield 21, 3) := by decide +kernel
theorem dX1_restoreLatest_4 : decode cX1_restoreLatest 4 = .ok (.iconst 1, 1) := by decide +kernel
theorem dX1_restoreLatest_5 : decode cX1_restoreLatest 5 = .ok (.if_icmp .ge 4, 3) := by decide +kernel
theorem dX1_restoreLatest_8 : decode cX1_restoreLatest 8 = .ok (.return_, 1) := by decide +kernel
theorem dX1_restoreLatest_9 : decode cX1_restoreLatest 9 = .ok (.aload_n 0, 1) := by decide +kernel
theorem dX1_restoreLatest_10 : decode cX1_restoreLatest 10 = .ok (.aload_n 0, 1) := by decide +kernel
theorem dX1_restoreLatest_11 : decode cX1_restoreLatest 11 = .ok (.getfield 17, 3) := by decide +kernel
theorem dX1_restoreLatest_14 : decode cX1_restoreLatest 14 = .ok (.bipush 8, 2) := by decide +kernel
theorem dX1_restoreLatest_16 : decode cX1_restoreLatest 16 = .ok (.iadd, 1) := by decide +kernel
theorem dX1_restoreLatest_17 : decode cX1_restoreLatest 17 = .ok (.iconst 1, 1) := by decide +kernel
theorem dX1_restoreLatest_18 : decode cX1_restoreLatest 18 = .ok (.isub, 1) := by decide +kernel
theorem dX1_restoreLatest_19 : decode cX1_restoreLatest 19 = .ok (.bipush 8, 2) := by decide +kernel
theorem dX1_restoreLatest_21 : decode cX1_restoreLatest 21 = .ok (.irem, 1) := by decide +kernel
theorem dX1_restoreLatest_22 : decode cX1_restoreLatest 22 = .ok (.putfield 17, 3) := by decide +kernel
theorem dX1_restoreLatest_25 : decode cX1_restoreLatest 25 = .ok (.aload_n 1, 1) := by decide +kernel
theorem dX1_restoreLatest_26 : decode cX1_restoreLatest 26 = .ok (.aload_n 0, 1) := by decide +kernel
theorem dX1_restoreLatest_27 : decode cX1_restoreLatest 27 = .ok (.getfield 11, 3) := by decide +kernel
theorem dX1_restoreLatest_30 : decode cX1_restoreLatest 30 = .ok (.aload_n 0, 1) := by decide +kernel
theorem dX1_restoreLatest_31 : decode cX1_restoreLatest 31 = .ok (.getfield 17, 3) := by decide +kernel
theorem dX1_restoreLatest_34 : decode cX1_restoreLatest 34 = .ok (.aaload, 1) := by decide +kernel
theorem dX1_restoreLatest_35 : decode cX1_restoreLatest 35 = .ok (.invokevirtual 25, 3) := by decide +kernel
theorem dX1_restoreLatest_38 : decode cX1_restoreLatest 38 = .ok (.aload_n 0, 1) := by decide +kernel
theorem dX1_restoreLatest_39 : decode cX1_restoreLatest 39 = .ok (.dup, 1) := by decide +kernel
theorem dX1_restoreLatest_40 : decode cX1_restoreLatest 40 = .ok (.getfield 21, 3) := by decide +kernel
theorem dX1_restoreLatest_43 : decode cX1_restoreLatest 43 = .ok (.iconst 1, 1) := by decide +kernel
theorem dX1_restoreLatest_44 : decode cX1_restoreLatest 44 = .ok (.isub, 1) := by decide +kernel
theorem dX1_restoreLatest_45 : decode cX1_restoreLatest 45 = .ok (.putfield 21, 3) := by decide +kernel
theorem dX1_restoreLatest_48 : decode cX1_restoreLatest 48 = .ok (.return_, 1) := by decide +kernel
theorem dX2_init_0 : decode cX2_init 0 = .ok (.aload_n 0, 1) := by decide +kernel
theorem dX2_init_1 : decode cX2_init 1 = .ok (.invokespecial 3, 3) := by decide +kernel
theorem dX2_init_4 : decode cX2_init 4 = .ok (.aload_n 0, 1) := by decide +kernel
theorem dX2_init_5 : decode cX2_init 5 = .ok (.iconst 4, 1) := by decide +kernel
theorem dX2_init_6 : decode cX2_init 6 = .ok (.newarray .int, 2) := by decide +kernel
theorem dX2_init_8 : decode cX2_init 8 = .ok (.putfield 11, 3) := by decide +kernel
theorem dX2_init_11 : decode cX2_init 11 = .ok (.return_, 1) := by decide +kernel
theorem dX2_readInto_0 : decode cX2_readInto 0 = .ok (.aload_n 1, 1) := by decide +kernel
theorem dX2_readInto_1 : decode cX2_readInto 1 = .ok (.invokevirtual 15, 3) := by decide +kernel
theorem dX2_readInto_4 : decode cX2_readInto 4 = .ok (.iconst 1, 1) := by decide +kernel
theorem dX2_readInto_5 : decode cX2_readInto 5 = .ok (.istore_n 3, 1) := by decide +kernel
theorem dX2_readInto_6 : decode cX2_readInto 6 = .ok (.iconst 0, 1) := by decide +kernel
theorem dX2_readInto_7 : decode cX2_readInto 7 = .ok (.istore 4, 2) := by decide +kernel
theorem dX2_readInto_9 : decode cX2_readInto 9 = .ok (.iconst 0, 1) := by decide +kernel
theorem dX2_readInto_10 : decode cX2_readInto 10 = .ok (.istore 5, 2) := by decide +kernel
theorem dX2_readInto_12 : decode cX2_readInto 12 = .ok (.iload 5, 2) := by decide +kernel
theorem dX2_readInto_14 : decode cX2_readInto 14 = .ok (.sipush 200, 3) := by decide +kernel
theorem dX2_readInto_17 : decode cX2_readInto 17 = .ok (.if_icmp .ge 90, 3) := by decide +kernel
theorem dX2_readInto_20 : decode cX2_readInto 20 = .ok (.iload 4, 2) := by decide +kernel
theorem dX2_readInto_22 : decode cX2_readInto 22 = .ok (.aload_n 2, 1) := by decide +kernel
theorem dX2_readInto_23 : decode cX2_readInto 23 = .ok (.getfield 20, 3) := by decide +kernel
theorem dX2_readInto_26 : decode cX2_readInto 26 = .ok (.if_icmp .ge 81, 3) := by decide +kernel
theorem dX2_readInto_29 : decode cX2_readInto 29 = .ok (.aload_n 2, 1) := by decide +kernel
theorem dX2_readInto_30 : decode cX2_readInto 30 = .ok (.iload 4, 2) := by decide +kernel
theorem dX2_readInto_32 : decode cX2_readInto 32 = .ok (.invokevirtual 26, 3) := by decide +kernel
theorem dX2_readInto_35 : decode cX2_readInto 35 = .ok (.istore 6, 2) := by decide +kernel
theorem dX2_readInto_37 : decode cX2_readInto 37 = .ok (.aload_n 0, 1) := by decide +kernel
theorem dX2_readInto_38 : decode cX2_readInto 38 = .ok (.aload_n 2, 1) := by decide +kernel
theorem dX2_readInto_39 : decode cX2_readInto 39 = .ok (.iload 4, 2) := by decide +kernel
theorem dX2_readInto_41 : decode cX2_readInto 41 = .ok (.iconst 1, 1) := by decide +kernel
theorem dX2_readInto_42 : decode cX2_readInto 42 = .ok (.iadd, 1) := by decide +kernel
theorem dX2_readInto_43 : decode cX2_readInto 43 = .ok (.iload 6, 2) := by decide +kernel
theorem dX2_readInto_45 : decode cX2_readInto 45 = .ok (.invokestatic 30, 3) := by decide +kernel
theorem dX2_readInto_48 : decode cX2_readInto 48 = .ok (.invokevirtual 33, 3) := by decide +kernel
theorem dX2_readInto_51 : decode cX2_readInto 51 = .ok (.istore 7, 2) := by decide +kernel
theorem dX2_readInto_53 : decode cX2_readInto 53 = .ok (.iload 7, 2) := by decide +kernel
theorem dX2_readInto_55 : decode cX2_readInto 55 = .ok (.bipush (-4), 2) := by decide +kernel
theorem dX2_readInto_57 : decode cX2_readInto 57 = .ok (.if_icmp .eq 24, 3) := by decide +kernel
theorem dX2_readInto_60 : decode cX2_readInto 60 = .ok (.iload 6, 2) := by decide +kernel
theorem dX2_readInto_62 : decode cX2_readInto 62 = .ok (.bipush 114, 2) := by decide +kernel
theorem dX2_readInto_64 : decode cX2_readInto 64 = .ok (.if_icmp .ne 7, 3) := by decide +kernel
theorem dX2_readInto_67 : decode cX2_readInto 67 = .ok (.iload_n 3, 1) := by decide +kernel
theorem dX2_readInto_68 : decode cX2_readInto 68 = .ok (.ifCond .eq 13, 3) := by decide +kernel
theorem dX2_readInto_71 : decode cX2_readInto 71 = .ok (.aload_n 0, 1) := by decide +kernel
theorem dX2_readInto_72 : decode cX2_readInto 72 = .ok (.aload_n 1, 1) := by decide +kernel
theorem dX2_readInto_73 : decode cX2_readInto 73 = .ok (.iload 6, 2) := by decide +kernel
theorem dX2_readInto_75 : decode cX2_readInto 75 = .ok (.invokevirtual 37, 3) := by decide +kernel
theorem dX2_readInto_78 : decode cX2_readInto 78 = .ok (.ifCond .ne 6, 3) := by decide +kernel
theorem dX2_readInto_81 : decode cX2_readInto 81 = .ok (.iload 4, 2) := by decide +kernel
theorem dX2_readInto_83 : decode cX2_readInto 83 = .ok (.ireturn, 1) := by decide +kernel
theorem dX2_readInto_84 : decode cX2_readInto 84 = .ok (.iload 6, 2) := by decide +kernel
theorem dX2_readInto_86 : decode cX2_readInto 86 = .ok (.bipush 114, 2) := by decide +kernel
theorem dX2_readInto_88 : decode cX2_readInto 88 = .ok (.if_icmp .ne 7, 3) := by decide +kernel
theorem dX2_readInto_91 : decode cX2_readInto 91 = .ok (.iconst 1, 1) := by decide +kernel
theorem dX2_readInto_92 : decode cX2_readInto 92 = .ok (.goto 4, 3) := by decide +kernel
theorem dX2_readInto_95 : decode cX2_readInto 95 = .ok (.iconst 0, 1) := by decide +kernel
theorem dX2_readInto_96 : decode cX2_readInto 96 = .ok (.istore_n 3, 1) := by decide +kernel
theorem dX2_readInto_97 : decode cX2_readInto 97 = .ok (.iload 7, 2) := by decide +kernel
theorem dX2_readInto_99 : decode cX2_readInto 99 = .ok (.istore 4, 2) := by decide +kernel
theorem dX2_readInto_101 : decode cX2_readInto 101 = .ok (.iinc 5 1, 3) := by decide +kernel
theorem dX2_readInto_104 : decode cX2_readInto 104 = .ok (.goto (-92), 3) := by decide +kernel
theorem dX2_readInto_107 : decode cX2_readInto 107 = .ok (.bipush (-4), 2) := by decide +kernel
theorem dX2_readInto_109 : decode cX2_readInto 109 = .ok (.ireturn, 1) := by decide +kernel
theorem dX2_numbersOf_0 : decode cX2_numbersOf 0 = .ok (.iload_n 0, 1) := by decide +kernel
theorem dX2_numbersOf_1 : decode cX2_numbersOf 1 = .ok (.lookupswitch 41 #[(108, 39), (112, 37), (114, 35)], 35) := by decide +kernel
theorem dX2_numbersOf_36 : decode cX2_numbersOf 36 = .ok (.iconst 2, 1) := by decide +kernel
theorem dX2_numbersOf_37 : decode cX2_numbersOf 37 = .ok (.ireturn, 1) := by decide +kernel
theorem dX2_numbersOf_38 : decode cX2_numbersOf 38 = .ok (.iconst 3, 1) := by decide +kernel
theorem dX2_numbersOf_39 : decode cX2_numbersOf 39 = .ok (.ireturn, 1) := by decide +kernel
theorem dX2_numbersOf_40 : decode cX2_numbersOf 40 = .ok (.iconst 4, 1) := by decide +kernel
theorem dX2_numbersOf_41 : decode cX2_numbersOf 41 = .ok (.ireturn, 1) := by decide +kernel
theorem dX2_numbersOf_42 : decode cX2_numbersOf 42 = .ok (.iconst 0, 1) := by decide +kernel
theorem dX2_numbersOf_43 : decode cX2_numbersOf 43 = .ok (.ireturn, 1) := by decide +kernel
theorem dX2_readNumbers_0 : decode cX2_readNumbers 0 = .ok (.iload_n 3, 1) := by decide +kernel
theorem dX2_readNumbers_1 : decode cX2_readNumbers 1 = .ok (.iconst 1, 1) := by decide +kernel
theorem dX2_readNumbers_2 : decode cX2_readNumbers 2 = .ok (.if_icmp .lt 8, 3) := by decide +kernel
theorem dX2_readNumbers_5 : decode cX2_readNumbers 5 = .ok (.iload_n 3, 1) := by decide +kernel
theorem dX2_readNumbers_6 : decode cX2_readNumbers 6 = .ok (.iconst 4, 1) := by decide +kernel
theorem dX2_readNumbers_7 : decode cX2_readNumbers 7 = .ok (.if_icmp .le 6, 3) := by decide +kernel
theorem dX2_readNumbers_10 : decode cX2_readNumbers 10 = .ok (.bipush (-4), 2) := by decide +kernel
theorem dX2_readNumbers_12 : decode cX2_readNumbers 12 = .ok (.ireturn, 1) := by decide +kernel
theorem dX2_readNumbers_13 : decode cX2_readNumbers 13 = .ok (.iload_n 2, 1) := by decide +kernel
theorem dX2_readNumbers_14 : decode cX2_readNumbers 14 = .ok (.istore 4, 2) := by decide +kernel
theorem dX2_readNumbers_16 : decode cX2_readNumbers 16 = .ok (.iconst 0, 1) := by decide +kernel
theorem dX2_readNumbers_17 : decode cX2_readNumbers 17 = .ok (.istore 5, 2) := by decide +kernel
theorem dX2_readNumbers_19 : decode cX2_readNumbers 19 = .ok (.iload 5, 2) := by decide +kernel
theorem dX2_readNumbers_21 : decode cX2_readNumbers 21 = .ok (.iload_n 3, 1) := by decide +kernel
theorem dX2_readNumbers_22 : decode cX2_readNumbers 22 = .ok (.if_icmp .ge 103, 3) := by decide +kernel
theorem dX2_readNumbers_25 : decode cX2_readNumbers 25 = .ok (.aload_n 1, 1) := by decide +kernel
theorem dX2_readNumbers_26 : decode cX2_readNumbers 26 = .ok (.iload 4, 2) := by decide +kernel
theorem dX2_readNumbers_28 : decode cX2_readNumbers 28 = .ok (.invokevirtual 41, 3) := by decide +kernel
theorem dX2_readNumbers_31 : decode cX2_readNumbers 31 = .ok (.ifCond .ne 6, 3) := by decide +kernel
theorem dX2_readNumbers_34 : decode cX2_readNumbers 34 = .ok (.bipush (-4), 2) := by decide +kernel
theorem dX2_readNumbers_36 : decode cX2_readNumbers 36 = .ok (.ireturn, 1) := by decide +kernel
theorem dX2_readNumbers_37 : decode cX2_readNumbers 37 = .ok (.aload_n 1, 1) := by decide +kernel
theorem dX2_readNumbers_38 : decode cX2_readNumbers 38 = .ok (.iload 4, 2) := by decide +kernel
theorem dX2_readNumbers_40 : decode cX2_readNumbers 40 = .ok (.invokevirtual 26, 3) := by decide +kernel
theorem dX2_readNumbers_43 : decode cX2_readNumbers 43 = .ok (.bipush 48, 2) := by decide +kernel
theorem dX2_readNumbers_45 : decode cX2_readNumbers 45 = .ok (.isub, 1) := by decide +kernel
theorem dX2_readNumbers_46 : decode cX2_readNumbers 46 = .ok (.istore 6, 2) := by decide +kernel
theorem dX2_readNumbers_48 : decode cX2_readNumbers 48 = .ok (.iinc 4 1, 3) := by decide +kernel
theorem dX2_readNumbers_51 : decode cX2_readNumbers 51 = .ok (.aload_n 1, 1) := by decide +kernel
theorem dX2_readNumbers_52 : decode cX2_readNumbers 52 = .ok (.iload 4, 2) := by decide +kernel
theorem dX2_readNumbers_54 : decode cX2_readNumbers 54 = .ok (.invokevirtual 41, 3) := by decide +kernel
theorem dX2_readNumbers_57 : decode cX2_readNumbers 57 = .ok (.ifCond .eq 23, 3) := by decide +kernel
theorem dX2_readNumbers_60 : decode cX2_readNumbers 60 = .ok (.bipush 10, 2) := by decide +kernel
theorem dX2_readNumbers_62 : decode cX2_readNumbers 62 = .ok (.iload 6, 2) := by decide +kernel
theorem dX2_readNumbers_64 : decode cX2_readNumbers 64 = .ok (.imul, 1) := by decide +kernel
theorem dX2_readNumbers_65 : decode cX2_readNumbers 65 = .ok (.aload_n 1, 1) := by decide +kernel
theorem dX2_readNumbers_66 : decode cX2_readNumbers 66 = .ok (.iload 4, 2) := by decide +kernel
theorem dX2_readNumbers_68 : decode cX2_readNumbers 68 = .ok (.invokevirtual 26, 3) := by decide +kernel
theorem dX2_readNumbers_71 : decode cX2_readNumbers 71 = .ok (.iadd, 1) := by decide +kernel
theorem dX2_readNumbers_72 : decode cX2_readNumbers 72 = .ok (.bipush 48, 2) := by decide +kernel
theorem dX2_readNumbers_74 : decode cX2_readNumbers 74 = .ok (.isub, 1) := by decide +kernel
theorem dX2_readNumbers_75 : decode cX2_readNumbers 75 = .ok (.istore 6, 2) := by decide +kernel
theorem dX2_readNumbers_77 : decode cX2_readNumbers 77 = .ok (.iinc 4 1, 3) := by decide +kernel
theorem dX2_readNumbers_80 : decode cX2_readNumbers 80 = .ok (.aload_n 1, 1) := by decide +kernel
theorem dX2_readNumbers_81 : decode cX2_readNumbers 81 = .ok (.iload 4, 2) := by decide +kernel
theorem dX2_readNumbers_83 : decode cX2_readNumbers 83 = .ok (.invokevirtual 26, 3) := by decide +kernel
theorem dX2_readNumbers_86 : decode cX2_readNumbers 86 = .ok (.iload 5, 2) := by decide +kernel
theorem dX2_readNumbers_88 : decode cX2_readNumbers 88 = .ok (.iconst 1, 1) := by decide +kernel
theorem dX2_readNumbers_89 : decode cX2_readNumbers 89 = .ok (.iadd, 1) := by decide +kernel
theorem dX2_readNumbers_90 : decode cX2_readNumbers 90 = .ok (.iload_n 3, 1) := by decide +kernel
theorem dX2_readNumbers_91 : decode cX2_readNumbers 91 = .ok (.if_icmp .ge 8, 3) := by decide +kernel
theorem dX2_readNumbers_94 : decode cX2_readNumbers 94 = .ok (.bipush 44, 2) := by decide +kernel
theorem dX2_readNumbers_96 : decode cX2_readNumbers 96 = .ok (.goto 5, 3) := by decide +kernel
theorem dX2_readNumbers_99 : decode cX2_readNumbers 99 = .ok (.bipush 59, 2) := by decide +kernel
theorem dX2_readNumbers_101 : decode cX2_readNumbers 101 = .ok (.if_icmp .eq 6, 3) := by decide +kernel
theorem dX2_readNumbers_104 : decode cX2_readNumbers 104 = .ok (.bipush (-4), 2) := by decide +kernel
theorem dX2_readNumbers_106 : decode cX2_readNumbers 106 = .ok (.ireturn, 1) := by decide +kernel
theorem dX2_readNumbers_107 : decode cX2_readNumbers 107 = .ok (.aload_n 0, 1) := by decide +kernel
theorem dX2_readNumbers_108 : decode cX2_readNumbers 108 = .ok (.getfield 11, 3) := by decide +kernel
theorem dX2_readNumbers_111 : decode cX2_readNumbers 111 = .ok (.iload 5, 2) := by decide +kernel
theorem dX2_readNumbers_113 : decode cX2_readNumbers 113 = .ok (.iload 6, 2) := by decide +kernel
theorem dX2_readNumbers_115 : decode cX2_readNumbers 115 = .ok (.iastore, 1) := by decide +kernel
theorem dX2_readNumbers_116 : decode cX2_readNumbers 116 = .ok (.iinc 4 1, 3) := by decide +kernel
theorem dX2_readNumbers_119 : decode cX2_readNumbers 119 = .ok (.iinc 5 1, 3) := by decide +kernel
theorem dX2_readNumbers_122 : decode cX2_readNumbers 122 = .ok (.goto (-103), 3) := by decide +kernel
theorem dX2_readNumbers_125 : decode cX2_readNumbers 125 = .ok (.iload 4, 2) := by decide +kernel
theorem dX2_readNumbers_127 : decode cX2_readNumbers 127 = .ok (.ireturn, 1) := by decide +kernel
theorem dX2_take_0 : decode cX2_take 0 = .ok (.iload_n 2, 1) := by decide +kernel
theorem dX2_take_1 : decode cX2_take 1 = .ok (.lookupswitch 53 #[(108, 47), (112, 41), (114, 35)], 35) := by decide +kernel
theorem dX2_take_36 : decode cX2_take 36 = .ok (.aload_n 0, 1) := by decide +kernel
theorem dX2_take_37 : decode cX2_take 37 = .ok (.aload_n 1, 1) := by decide +kernel
theorem dX2_take_38 : decode cX2_take 38 = .ok (.invokevirtual 45, 3) := by decide +kernel
theorem dX2_take_41 : decode cX2_take 41 = .ok (.ireturn, 1) := by decide +kernel
theorem dX2_take_42 : decode cX2_take 42 = .ok (.aload_n 0, 1) := by decide +kernel
theorem dX2_take_43 : decode cX2_take 43 = .ok (.aload_n 1, 1) := by decide +kernel
theorem dX2_take_44 : decode cX2_take 44 = .ok (.invokevirtual 49, 3) := by decide +kernel
theorem dX2_take_47 : decode cX2_take 47 = .ok (.ireturn, 1) := by decide +kernel
theorem dX2_take_48 : decode cX2_take 48 = .ok (.aload_n 0, 1) := by decide +kernel
theorem dX2_take_49 : decode cX2_take 49 = .ok (.aload_n 1, 1) := by decide +kernel
theorem dX2_take_50 : decode cX2_take 50 = .ok (.invokevirtual 52, 3) := by decide +kernel
theorem dX2_take_53 : decode cX2_take 53 = .ok (.ireturn, 1) := by decide +kernel
theorem dX2_take_54 : decode cX2_take 54 = .ok (.iconst 0, 1) := by decide +kernel
theorem dX2_take_55 : decode cX2_take 55 = .ok (.ireturn, 1) := by decide +kernel
theorem dX2_takeWalls_0 : decode cX2_takeWalls 0 = .ok (.aload_n 0, 1) := by decide +kernel
theorem dX2_takeWalls_1 : decode cX2_takeWalls 1 = .ok (.getfield 11, 3) := by decide +kernel
theorem dX2_takeWalls_4 : decode cX2_takeWalls 4 = .ok (.iconst 0, 1) := by decide +kernel
theorem dX2_takeWalls_5 : decode cX2_takeWalls 5 = .ok (.iaload, 1) := by decide +kernel
theorem dX2_takeWalls_6 : decode cX2_takeWalls 6 = .ok (.iconst 1, 1) := by decide +kernel
theorem dX2_takeWalls_7 : decode cX2_takeWalls 7 = .ok (.if_icmp .lt 35, 3) := by decide +kernel
theorem dX2_takeWalls_10 : decode cX2_takeWalls 10 = .ok (.aload_n 0, 1) := by decide +kernel
theorem dX2_takeWalls_11 : decode cX2_takeWalls 11 = .ok (.getfield 11, 3) := by decide +kernel
theorem dX2_takeWalls_14 : decode cX2_takeWalls 14 = .ok (.iconst 0, 1) := by decide +kernel
theorem dX2_takeWalls_15 : decode cX2_takeWalls 15 = .ok (.iaload, 1) := by decide +kernel
theorem dX2_takeWalls_16 : decode cX2_takeWalls 16 = .ok (.bipush 9, 2) := by decide +kernel
theorem dX2_takeWalls_18 : decode cX2_takeWalls 18 = .ok (.if_icmp .gt 24, 3) := by decide +kernel
theorem dX2_takeWalls_21 : decode cX2_takeWalls 21 = .ok (.aload_n 0, 1) := by decide +kernel
theorem dX2_takeWalls_22 : decode cX2_takeWalls 22 = .ok (.getfield 11, 3) := by decide +kernel
theorem dX2_takeWalls_25 : decode cX2_takeWalls 25 = .ok (.iconst 1, 1) := by decide +kernel
theorem dX2_takeWalls_26 : decode cX2_takeWalls 26 = .ok (.iaload, 1) := by decide +kernel
theorem dX2_takeWalls_27 : decode cX2_takeWalls 27 = .ok (.iconst 1, 1) := by decide +kernel
theorem dX2_takeWalls_28 : decode cX2_takeWalls 28 = .ok (.if_icmp .lt 14, 3) := by decide +kernel
theorem dX2_takeWalls_31 : decode cX2_takeWalls 31 = .ok (.aload_n 0, 1) := by decide +kernel
theorem dX2_takeWalls_32 : decode cX2_takeWalls 32 = .ok (.getfield 11, 3) := by decide +kernel
theorem dX2_takeWalls_35 : decode cX2_takeWalls 35 = .ok (.iconst 1, 1) := by decide +kernel
theorem dX2_takeWalls_36 : decode cX2_takeWalls 36 = .ok (.iaload, 1) := by decide +kernel
theorem dX2_takeWalls_37 : decode cX2_takeWalls 37 = .ok (.bipush 9, 2) := by decide +kernel
theorem dX2_takeWalls_39 : decode cX2_takeWalls 39 = .ok (.if_icmp .le 5, 3) := by decide +kernel
theorem dX2_takeWalls_42 : decode cX2_takeWalls 42 = .ok (.iconst 0, 1) := by decide +kernel
theorem dX2_takeWalls_43 : decode cX2_takeWalls 43 = .ok (.ireturn, 1) := by decide +kernel
theorem dX2_takeWalls_44 : decode cX2_takeWalls 44 = .ok (.aload_n 1, 1) := by decide +kernel
theorem dX2_takeWalls_45 : decode cX2_takeWalls 45 = .ok (.aload_n 0, 1) := by decide +kernel
theorem dX2_takeWalls_46 : decode cX2_takeWalls 46 = .ok (.getfield 11, 3) := by decide +kernel
theorem dX2_takeWalls_49 : decode cX2_takeWalls 49 = .ok (.iconst 0, 1) := by decide +kernel
theorem dX2_takeWalls_50 : decode cX2_takeWalls 50 = .ok (.iaload, 1) := by decide +kernel
theorem dX2_takeWalls_51 : decode cX2_takeWalls 51 = .ok (.putfield 55, 3) := by decide +kernel
theorem dX2_takeWalls_54 : decode cX2_takeWalls 54 = .ok (.aload_n 1, 1) := by decide +kernel
theorem dX2_takeWalls_55 : decode cX2_takeWalls 55 = .ok (.aload_n 0, 1) := by decide +kernel
theorem dX2_takeWalls_56 : decode cX2_takeWalls 56 = .ok (.getfield 11, 3) := by decide +kernel
theorem dX2_takeWalls_59 : decode cX2_takeWalls 59 = .ok (.iconst 1, 1) := by decide +kernel
theorem dX2_takeWalls_60 : decode cX2_takeWalls 60 = .ok (.iaload, 1) := by decide +kernel
theorem dX2_takeWalls_61 : decode cX2_takeWalls 61 = .ok (.putfield 58, 3) := by decide +kernel
theorem dX2_takeWalls_64 : decode cX2_takeWalls 64 = .ok (.iconst 1, 1) := by decide +kernel
theorem dX2_takeWalls_65 : decode cX2_takeWalls 65 = .ok (.ireturn, 1) := by decide +kernel
theorem dX2_takePerson_0 : decode cX2_takePerson 0 = .ok (.aload_n 1, 1) := by decide +kernel
theorem dX2_takePerson_1 : decode cX2_takePerson 1 = .ok (.getfield 61, 3) := by decide +kernel
theorem dX2_takePerson_4 : decode cX2_takePerson 4 = .ok (.bipush 6, 2) := by decide +kernel
theorem dX2_takePerson_6 : decode cX2_takePerson 6 = .ok (.if_icmp .ge 32, 3) := by decide +kernel
theorem dX2_takePerson_9 : decode cX2_takePerson 9 = .ok (.aload_n 0, 1) := by decide +kernel
theorem dX2_takePerson_10 : decode cX2_takePerson 10 = .ok (.getfield 11, 3) := by decide +kernel
theorem dX2_takePerson_13 : decode cX2_takePerson 13 = .ok (.iconst 0, 1) := by decide +kernel
theorem dX2_takePerson_14 : decode cX2_takePerson 14 = .ok (.iaload, 1) := by decide +kernel
theorem dX2_takePerson_15 : decode cX2_takePerson 15 = .ok (.iconst 4, 1) := by decide +kernel
theorem dX2_takePerson_16 : decode cX2_takePerson 16 = .ok (.if_icmp .ge 22, 3) := by decide +kernel
theorem dX2_takePerson_19 : decode cX2_takePerson 19 = .ok (.aload_n 1, 1) := by decide +kernel
theorem dX2_takePerson_20 : decode cX2_takePerson 20 = .ok (.aload_n 0, 1) := by decide +kernel
theorem dX2_takePerson_21 : decode cX2_takePerson 21 = .ok (.getfield 11, 3) := by decide +kernel
theorem dX2_takePerson_24 : decode cX2_takePerson 24 = .ok (.iconst 1, 1) := by decide +kernel
theorem dX2_takePerson_25 : decode cX2_takePerson 25 = .ok (.iaload, 1) := by decide +kernel
theorem dX2_takePerson_26 : decode cX2_takePerson 26 = .ok (.aload_n 0, 1) := by decide +kernel
theorem dX2_takePerson_27 : decode cX2_takePerson 27 = .ok (.getfield 11, 3) := by decide +kernel
theorem dX2_takePerson_30 : decode cX2_takePerson 30 = .ok (.iconst 2, 1) := by decide +kernel
theorem dX2_takePerson_31 : decode cX2_takePerson 31 = .ok (.iaload, 1) := by decide +kernel
theorem dX2_takePerson_32 : decode cX2_takePerson 32 = .ok (.invokevirtual 64, 3) := by decide +kernel
theorem dX2_takePerson_35 : decode cX2_takePerson 35 = .ok (.ifCond .ne 5, 3) := by decide +kernel
theorem dX2_takePerson_38 : decode cX2_takePerson 38 = .ok (.iconst 0, 1) := by decide +kernel
theorem dX2_takePerson_39 : decode cX2_takePerson 39 = .ok (.ireturn, 1) := by decide +kernel
theorem dX2_takePerson_40 : decode cX2_takePerson 40 = .ok (.aload_n 1, 1) := by decide +kernel
theorem dX2_takePerson_41 : decode cX2_takePerson 41 = .ok (.aload_n 0, 1) := by decide +kernel
theorem dX2_takePerson_42 : decode cX2_takePerson 42 = .ok (.getfield 11, 3) := by decide +kernel
theorem dX2_takePerson_45 : decode cX2_takePerson 45 = .ok (.iconst 1, 1) := by decide +kernel
theorem dX2_takePerson_46 : decode cX2_takePerson 46 = .ok (.iaload, 1) := by decide +kernel
theorem dX2_takePerson_47 : decode cX2_takePerson 47 = .ok (.aload_n 0, 1) := by decide +kernel
theorem dX2_takePerson_48 : decode cX2_takePerson 48 = .ok (.getfield 11, 3) := by decide +kernel
theorem dX2_takePerson_51 : decode cX2_takePerson 51 = .ok (.iconst 2, 1) := by decide +kernel
theorem dX2_takePerson_52 : decode cX2_takePerson 52 = .ok (.iaload, 1) := by decide +kernel
theorem dX2_takePerson_53 : decode cX2_takePerson 53 = .ok (.invokevirtual 68, 3) := by decide +kernel
theorem dX2_takePerson_56 : decode cX2_takePerson 56 = .ok (.bipush (-4), 2) := by decide +kernel
theorem dX2_takePerson_58 : decode cX2_takePerson 58 = .ok (.if_icmp .eq 5, 3) := by decide +kernel
theorem dX2_takePerson_61 : decode cX2_takePerson 61 = .ok (.iconst 0, 1) := by decide +kernel
theorem dX2_takePerson_62 : decode cX2_takePerson 62 = .ok (.ireturn, 1) := by decide +kernel
theorem dX2_takePerson_63 : decode cX2_takePerson 63 = .ok (.aload_n 1, 1) := by decide +kernel
theorem dX2_takePerson_64 : decode cX2_takePerson 64 = .ok (.aload_n 0, 1) := by decide +kernel
theorem dX2_takePerson_65 : decode cX2_takePerson 65 = .ok (.getfield 11, 3) := by decide +kernel
theorem dX2_takePerson_68 : decode cX2_takePerson 68 = .ok (.iconst 0, 1) := by decide +kernel
theorem dX2_takePerson_69 : decode cX2_takePerson 69 = .ok (.iaload, 1) := by decide +kernel
theorem dX2_takePerson_70 : decode cX2_takePerson 70 = .ok (.aload_n 0, 1) := by decide +kernel
theorem dX2_takePerson_71 : decode cX2_takePerson 71 = .ok (.getfield 11, 3) := by decide +kernel
theorem dX2_takePerson_74 : decode cX2_takePerson 74 = .ok (.iconst 1, 1) := by decide +kernel
theorem dX2_takePerson_75 : decode cX2_takePerson 75 = .ok (.iaload, 1) := by decide +kernel
theorem dX2_takePerson_76 : decode cX2_takePerson 76 = .ok (.aload_n 0, 1) := by decide +kernel
theorem dX2_takePerson_77 : decode cX2_takePerson 77 = .ok (.getfield 11, 3) := by decide +kernel
theorem dX2_takePerson_80 : decode cX2_takePerson 80 = .ok (.iconst 2, 1) := by decide +kernel
theorem dX2_takePerson_81 : decode cX2_takePerson 81 = .ok (.iaload, 1) := by decide +kernel
theorem dX2_takePerson_82 : decode cX2_takePerson 82 = .ok (.invokevirtual 72, 3) := by decide +kernel
theorem dX2_takePerson_85 : decode cX2_takePerson 85 = .ok (.iconst 1, 1) := by decide +kernel
theorem dX2_takePerson_86 : decode cX2_takePerson 86 = .ok (.ireturn, 1) := by decide +kernel
theorem dX2_takeLeaning_0 : decode cX2_takeLeaning 0 = .ok (.aload_n 1, 1) := by decide +kernel
theorem dX2_takeLeaning_1 : decode cX2_takeLeaning 1 = .ok (.aload_n 0, 1) := by decide +kernel
theorem dX2_takeLeaning_2 : decode cX2_takeLeaning 2 = .ok (.getfield 11, 3) := by decide +kernel
theorem dX2_takeLeaning_5 : decode cX2_takeLeaning 5 = .ok (.iconst 0, 1) := by decide +kernel
theorem dX2_takeLeaning_6 : decode cX2_takeLeaning 6 = .ok (.iaload, 1) := by decide +kernel
theorem dX2_takeLeaning_7 : decode cX2_takeLeaning 7 = .ok (.aload_n 0, 1) := by decide +kernel
theorem dX2_takeLeaning_8 : decode cX2_takeLeaning 8 = .ok (.getfield 11, 3) := by decide +kernel
theorem dX2_takeLeaning_11 : decode cX2_takeLeaning 11 = .ok (.iconst 1, 1) := by decide +kernel
theorem dX2_takeLeaning_12 : decode cX2_takeLeaning 12 = .ok (.iaload, 1) := by decide +kernel
theorem dX2_takeLeaning_13 : decode cX2_takeLeaning 13 = .ok (.invokevirtual 76, 3) := by decide +kernel
theorem dX2_takeLeaning_16 : decode cX2_takeLeaning 16 = .ok (.ifCond .eq 24, 3) := by decide +kernel
theorem dX2_takeLeaning_19 : decode cX2_takeLeaning 19 = .ok (.aload_n 0, 1) := by decide +kernel
theorem dX2_takeLeaning_20 : decode cX2_takeLeaning 20 = .ok (.getfield 11, 3) := by decide +kernel
theorem dX2_takeLeaning_23 : decode cX2_takeLeaning 23 = .ok (.iconst 2, 1) := by decide +kernel
theorem dX2_takeLeaning_24 : decode cX2_takeLeaning 24 = .ok (.iaload, 1) := by decide +kernel
theorem dX2_takeLeaning_25 : decode cX2_takeLeaning 25 = .ok (.iconst 1, 1) := by decide +kernel
theorem dX2_takeLeaning_26 : decode cX2_takeLeaning 26 = .ok (.if_icmp .gt 14, 3) := by decide +kernel
theorem dX2_takeLeaning_29 : decode cX2_takeLeaning 29 = .ok (.aload_n 0, 1) := by decide +kernel
theorem dX2_takeLeaning_30 : decode cX2_takeLeaning 30 = .ok (.getfield 11, 3) := by decide +kernel
theorem dX2_takeLeaning_33 : decode cX2_takeLeaning 33 = .ok (.iconst 3, 1) := by decide +kernel
theorem dX2_takeLeaning_34 : decode cX2_takeLeaning 34 = .ok (.iaload, 1) := by decide +kernel
theorem dX2_takeLeaning_35 : decode cX2_takeLeaning 35 = .ok (.bipush 20, 2) := by decide +kernel
theorem dX2_takeLeaning_37 : decode cX2_takeLeaning 37 = .ok (.if_icmp .le 5, 3) := by decide +kernel
theorem dX2_takeLeaning_40 : decode cX2_takeLeaning 40 = .ok (.iconst 0, 1) := by decide +kernel
theorem dX2_takeLeaning_41 : decode cX2_takeLeaning 41 = .ok (.ireturn, 1) := by decide +kernel
theorem dX2_takeLeaning_42 : decode cX2_takeLeaning 42 = .ok (.aload_n 1, 1) := by decide +kernel
theorem dX2_takeLeaning_43 : decode cX2_takeLeaning 43 = .ok (.aload_n 0, 1) := by decide +kernel
theorem dX2_takeLeaning_44 : decode cX2_takeLeaning 44 = .ok (.getfield 11, 3) := by decide +kernel
theorem dX2_takeLeaning_47 : decode cX2_takeLeaning 47 = .ok (.iconst 0, 1) := by decide +kernel
theorem dX2_takeLeaning_48 : decode cX2_takeLeaning 48 = .ok (.iaload, 1) := by decide +kernel
theorem dX2_takeLeaning_49 : decode cX2_takeLeaning 49 = .ok (.aload_n 0, 1) := by decide +kernel
theorem dX2_takeLeaning_50 : decode cX2_takeLeaning 50 = .ok (.getfield 11, 3) := by decide +kernel
theorem dX2_takeLeaning_53 : decode cX2_takeLeaning 53 = .ok (.iconst 1, 1) := by decide +kernel
theorem dX2_takeLeaning_54 : decode cX2_takeLeaning 54 = .ok (.iaload, 1) := by decide +kernel
theorem dX2_takeLeaning_55 : decode cX2_takeLeaning 55 = .ok (.aload_n 0, 1) := by decide +kernel
theorem dX2_takeLeaning_56 : decode cX2_takeLeaning 56 = .ok (.getfield 11, 3) := by decide +kernel
theorem dX2_takeLeaning_59 : decode cX2_takeLeaning 59 = .ok (.iconst 2, 1) := by decide +kernel
theorem dX2_takeLeaning_60 : decode cX2_takeLeaning 60 = .ok (.iaload, 1) := by decide +kernel
theorem dX2_takeLeaning_61 : decode cX2_takeLeaning 61 = .ok (.ifCond .ne 12, 3) := by decide +kernel
theorem dX2_takeLeaning_64 : decode cX2_takeLeaning 64 = .ok (.aload_n 0, 1) := by decide +kernel
theorem dX2_takeLeaning_65 : decode cX2_takeLeaning 65 = .ok (.getfield 11, 3) := by decide +kernel
theorem dX2_takeLeaning_68 : decode cX2_takeLeaning 68 = .ok (.iconst 3, 1) := by decide +kernel
theorem dX2_takeLeaning_69 : decode cX2_takeLeaning 69 = .ok (.iaload, 1) := by decide +kernel
theorem dX2_takeLeaning_70 : decode cX2_takeLeaning 70 = .ok (.goto 10, 3) := by decide +kernel
theorem dX2_takeLeaning_73 : decode cX2_takeLeaning 73 = .ok (.aload_n 0, 1) := by decide +kernel
theorem dX2_takeLeaning_74 : decode cX2_takeLeaning 74 = .ok (.getfield 11, 3) := by decide +kernel
theorem dX2_takeLeaning_77 : decode cX2_takeLeaning 77 = .ok (.iconst 3, 1) := by decide +kernel
theorem dX2_takeLeaning_78 : decode cX2_takeLeaning 78 = .ok (.iaload, 1) := by decide +kernel
theorem dX2_takeLeaning_79 : decode cX2_takeLeaning 79 = .ok (.ineg, 1) := by decide +kernel
theorem dX2_takeLeaning_80 : decode cX2_takeLeaning 80 = .ok (.invokevirtual 79, 3) := by decide +kernel
theorem dX2_takeLeaning_83 : decode cX2_takeLeaning 83 = .ok (.iconst 1, 1) := by decide +kernel
theorem dX2_takeLeaning_84 : decode cX2_takeLeaning 84 = .ok (.ireturn, 1) := by decide +kernel
theorem dX3_init_0 : decode cX3_init 0 = .ok (.aload_n 0, 1) := by decide +kernel
theorem dX3_init_1 : decode cX3_init 1 = .ok (.invokespecial 3, 3) := by decide +kernel
theorem dX3_init_4 : decode cX3_init 4 = .ok (.aload_n 0, 1) := by decide +kernel
theorem dX3_init_5 : decode cX3_init 5 = .ok (.bipush 6, 2) := by decide +kernel
theorem dX3_init_7 : decode cX3_init 7 = .ok (.newarray .int, 2) := by decide +kernel
theorem dX3_init_9 : decode cX3_init 9 = .ok (.putfield 9, 3) := by decide +kernel
theorem dX3_init_12 : decode cX3_init 12 = .ok (.aload_n 0, 1) := by decide +kernel
theorem dX3_init_13 : decode cX3_init 13 = .ok (.bipush 6, 2) := by decide +kernel
theorem dX3_init_15 : decode cX3_init 15 = .ok (.newarray .int, 2) := by decide +kernel
theorem dX3_init_17 : decode cX3_init 17 = .ok (.putfield 15, 3) := by decide +kernel
theorem dX3_init_20 : decode cX3_init 20 = .ok (.aload_n 0, 1) := by decide +kernel
theorem dX3_init_21 : decode cX3_init 21 = .ok (.bipush 6, 2) := by decide +kernel
theorem dX3_init_23 : decode cX3_init 23 = .ok (.newarray .int, 2) := by decide +kernel
theorem dX3_init_25 : decode cX3_init 25 = .ok (.putfield 18, 3) := by decide +kernel
theorem dX3_init_28 : decode cX3_init 28 = .ok (.aload_n 0, 1) := by decide +kernel
theorem dX3_init_29 : decode cX3_init 29 = .ok (.bipush 6, 2) := by decide +kernel
theorem dX3_init_31 : decode cX3_init 31 = .ok (.newarray .int, 2) := by decide +kernel
theorem dX3_init_33 : decode cX3_init 33 = .ok (.putfield 21, 3) := by decide +kernel
theorem dX3_init_36 : decode cX3_init 36 = .ok (.aload_n 0, 1) := by decide +kernel
theorem dX3_init_37 : decode cX3_init 37 = .ok (.bipush 36, 2) := by decide +kernel
theorem dX3_init_39 : decode cX3_init 39 = .ok (.newarray .int, 2) := by decide +kernel
theorem dX3_init_41 : decode cX3_init 41 = .ok (.putfield 24, 3) := by decide +kernel
theorem dX3_init_44 : decode cX3_init 44 = .ok (.aload_n 0, 1) := by decide +kernel
theorem dX3_init_45 : decode cX3_init 45 = .ok (.bipush 6, 2) := by decide +kernel
theorem dX3_init_47 : decode cX3_init 47 = .ok (.putfield 27, 3) := by decide +kernel
theorem dX3_init_50 : decode cX3_init 50 = .ok (.aload_n 0, 1) := by decide +kernel
theorem dX3_init_51 : decode cX3_init 51 = .ok (.bipush 6, 2) := by decide +kernel
theorem dX3_init_53 : decode cX3_init 53 = .ok (.putfield 31, 3) := by decide +kernel
theorem dX3_init_56 : decode cX3_init 56 = .ok (.aload_n 0, 1) := by decide +kernel
theorem dX3_init_57 : decode cX3_init 57 = .ok (.iconst 0, 1) := by decide +kernel
theorem dX3_init_58 : decode cX3_init 58 = .ok (.putfield 34, 3) := by decide +kernel
theorem dX3_init_61 : decode cX3_init 61 = .ok (.aload_n 0, 1) := by decide +kernel
theorem dX3_init_62 : decode cX3_init 62 = .ok (.iconst 0, 1) := by decide +kernel
theorem dX3_init_63 : decode cX3_init 63 = .ok (.putfield 37, 3) := by decide +kernel
theorem dX3_init_66 : decode cX3_init 66 = .ok (.return_, 1) := by decide +kernel
theorem dX3_clear_0 : decode cX3_clear 0 = .ok (.aload_n 0, 1) := by decide +kernel
theorem dX3_clear_1 : decode cX3_clear 1 = .ok (.bipush 6, 2) := by decide +kernel
theorem dX3_clear_3 : decode cX3_clear 3 = .ok (.putfield 27, 3) := by decide +kernel
theorem dX3_clear_6 : decode cX3_clear 6 = .ok (.aload_n 0, 1) := by decide +kernel
theorem dX3_clear_7 : decode cX3_clear 7 = .ok (.bipush 6, 2) := by decide +kernel
theorem dX3_clear_9 : decode cX3_clear 9 = .ok (.putfield 31, 3) := by decide +kernel
theorem dX3_clear_12 : decode cX3_clear 12 = .ok (.aload_n 0, 1) := by decide +kernel
theorem dX3_clear_13 : decode cX3_clear 13 = .ok (.iconst 0, 1) := by decide +kernel
theorem dX3_clear_14 : decode cX3_clear 14 = .ok (.putfield 34, 3) := by decide +kernel
theorem dX3_clear_17 : decode cX3_clear 17 = .ok (.aload_n 0, 1) := by decide +kernel
theorem dX3_clear_18 : decode cX3_clear 18 = .ok (.iconst 0, 1) := by decide +kernel
theorem dX3_clear_19 : decode cX3_clear 19 = .ok (.putfield 37, 3) := by decide +kernel
theorem dX3_clear_22 : decode cX3_clear 22 = .ok (.iconst 0, 1) := by decide +kernel
theorem dX3_clear_23 : decode cX3_clear 23 = .ok (.istore_n 1, 1) := by decide +kernel
theorem dX3_clear_24 : decode cX3_clear 24 = .ok (.iload_n 1, 1) := by decide +kernel
theorem dX3_clear_25 : decode cX3_clear 25 = .ok (.aload_n 0, 1) := by decide +kernel
theorem dX3_clear_26 : decode cX3_clear 26 = .ok (.getfield 24, 3) := by decide +kernel
theorem dX3_clear_29 : decode cX3_clear 29 = .ok (.arraylength, 1) := by decide +kernel
theorem dX3_clear_30 : decode cX3_clear 30 = .ok (.if_icmp .ge 16, 3) := by decide +kernel
theorem dX3_clear_33 : decode cX3_clear 33 = .ok (.aload_n 0, 1) := by decide +kernel
theorem dX3_clear_34 : decode cX3_clear 34 = .ok (.getfield 24, 3) := by decide +kernel
theorem dX3_clear_37 : decode cX3_clear 37 = .ok (.iload_n 1, 1) := by decide +kernel
theorem dX3_clear_38 : decode cX3_clear 38 = .ok (.iconst 0, 1) := by decide +kernel
theorem dX3_clear_39 : decode cX3_clear 39 = .ok (.iastore, 1) := by decide +kernel
theorem dX3_clear_40 : decode cX3_clear 40 = .ok (.iinc 1 1, 3) := by decide +kernel
theorem dX3_clear_43 : decode cX3_clear 43 = .ok (.goto (-19), 3) := by decide +kernel
theorem dX3_clear_46 : decode cX3_clear 46 = .ok (.return_, 1) := by decide +kernel
theorem dX3_copyFrom_0 : decode cX3_copyFrom 0 = .ok (.aload_n 0, 1) := by decide +kernel
theorem dX3_copyFrom_1 : decode cX3_copyFrom 1 = .ok (.aload_n 1, 1) := by decide +kernel
theorem dX3_copyFrom_2 : decode cX3_copyFrom 2 = .ok (.getfield 27, 3) := by decide +kernel
theorem dX3_copyFrom_5 : decode cX3_copyFrom 5 = .ok (.putfield 27, 3) := by decide +kernel
theorem dX3_copyFrom_8 : decode cX3_copyFrom 8 = .ok (.aload_n 0, 1) := by decide +kernel
theorem dX3_copyFrom_9 : decode cX3_copyFrom 9 = .ok (.aload_n 1, 1) := by decide +kernel
theorem dX3_copyFrom_10 : decode cX3_copyFrom 10 = .ok (.getfield 31, 3) := by decide +kernel
theorem dX3_copyFrom_13 : decode cX3_copyFrom 13 = .ok (.putfield 31, 3) := by decide +kernel
theorem dX3_copyFrom_16 : decode cX3_copyFrom 16 = .ok (.aload_n 0, 1) := by decide +kernel
theorem dX3_copyFrom_17 : decode cX3_copyFrom 17 = .ok (.aload_n 1, 1) := by decide +kernel
theorem dX3_copyFrom_18 : decode cX3_copyFrom 18 = .ok (.getfield 34, 3) := by decide +kernel
theorem dX3_copyFrom_21 : decode cX3_copyFrom 21 = .ok (.putfield 34, 3) := by decide +kernel
theorem dX3_copyFrom_24 : decode cX3_copyFrom 24 = .ok (.aload_n 0, 1) := by decide +kernel
theorem dX3_copyFrom_25 : decode cX3_copyFrom 25 = .ok (.aload_n 1, 1) := by decide +kernel
theorem dX3_copyFrom_26 : decode cX3_copyFrom 26 = .ok (.getfield 37, 3) := by decide +kernel
theorem dX3_copyFrom_29 : decode cX3_copyFrom 29 = .ok (.putfield 37, 3) := by decide +kernel
theorem dX3_copyFrom_32 : decode cX3_copyFrom 32 = .ok (.aload_n 1, 1) := by decide +kernel
theorem dX3_copyFrom_33 : decode cX3_copyFrom 33 = .ok (.getfield 9, 3) := by decide +kernel
theorem dX3_copyFrom_36 : decode cX3_copyFrom 36 = .ok (.iconst 0, 1) := by decide +kernel
theorem dX3_copyFrom_37 : decode cX3_copyFrom 37 = .ok (.aload_n 0, 1) := by decide +kernel
theorem dX3_copyFrom_38 : decode cX3_copyFrom 38 = .ok (.getfield 9, 3) := by decide +kernel
theorem dX3_copyFrom_41 : decode cX3_copyFrom 41 = .ok (.iconst 0, 1) := by decide +kernel
theorem dX3_copyFrom_42 : decode cX3_copyFrom 42 = .ok (.bipush 6, 2) := by decide +kernel
theorem dX3_copyFrom_44 : decode cX3_copyFrom 44 = .ok (.invokestatic 40, 3) := by decide +kernel
theorem dX3_copyFrom_47 : decode cX3_copyFrom 47 = .ok (.aload_n 1, 1) := by decide +kernel
theorem dX3_copyFrom_48 : decode cX3_copyFrom 48 = .ok (.getfield 15, 3) := by decide +kernel
theorem dX3_copyFrom_51 : decode cX3_copyFrom 51 = .ok (.iconst 0, 1) := by decide +kernel
theorem dX3_copyFrom_52 : decode cX3_copyFrom 52 = .ok (.aload_n 0, 1) := by decide +kernel
theorem dX3_copyFrom_53 : decode cX3_copyFrom 53 = .ok (.getfield 15, 3) := by decide +kernel
theorem dX3_copyFrom_56 : decode cX3_copyFrom 56 = .ok (.iconst 0, 1) := by decide +kernel
theorem dX3_copyFrom_57 : decode cX3_copyFrom 57 = .ok (.bipush 6, 2) := by decide +kernel
theorem dX3_copyFrom_59 : decode cX3_copyFrom 59 = .ok (.invokestatic 40, 3) := by decide +kernel
theorem dX3_copyFrom_62 : decode cX3_copyFrom 62 = .ok (.aload_n 1, 1) := by decide +kernel
theorem dX3_copyFrom_63 : decode cX3_copyFrom 63 = .ok (.getfield 18, 3) := by decide +kernel
theorem dX3_copyFrom_66 : decode cX3_copyFrom 66 = .ok (.iconst 0, 1) := by decide +kernel
theorem dX3_copyFrom_67 : decode cX3_copyFrom 67 = .ok (.aload_n 0, 1) := by decide +kernel
theorem dX3_copyFrom_68 : decode cX3_copyFrom 68 = .ok (.getfield 18, 3) := by decide +kernel
theorem dX3_copyFrom_71 : decode cX3_copyFrom 71 = .ok (.iconst 0, 1) := by decide +kernel
theorem dX3_copyFrom_72 : decode cX3_copyFrom 72 = .ok (.bipush 6, 2) := by decide +kernel
theorem dX3_copyFrom_74 : decode cX3_copyFrom 74 = .ok (.invokestatic 40, 3) := by decide +kernel
theorem dX3_copyFrom_77 : decode cX3_copyFrom 77 = .ok (.aload_n 1, 1) := by decide +kernel
theorem dX3_copyFrom_78 : decode cX3_copyFrom 78 = .ok (.getfield 21, 3) := by decide +kernel
theorem dX3_copyFrom_81 : decode cX3_copyFrom 81 = .ok (.iconst 0, 1) := by decide +kernel
theorem dX3_copyFrom_82 : decode cX3_copyFrom 82 = .ok (.aload_n 0, 1) := by decide +kernel
theorem dX3_copyFrom_83 : decode cX3_copyFrom 83 = .ok (.getfield 21, 3) := by decide +kernel
theorem dX3_copyFrom_86 : decode cX3_copyFrom 86 = .ok (.iconst 0, 1) := by decide +kernel
theorem dX3_copyFrom_87 : decode cX3_copyFrom 87 = .ok (.bipush 6, 2) := by decide +kernel
theorem dX3_copyFrom_89 : decode cX3_copyFrom 89 = .ok (.invokestatic 40, 3) := by decide +kernel
theorem dX3_copyFrom_92 : decode cX3_copyFrom 92 = .ok (.aload_n 1, 1) := by decide +kernel
theorem dX3_copyFrom_93 : decode cX3_copyFrom 93 = .ok (.getfield 24, 3) := by decide +kernel
theorem dX3_copyFrom_96 : decode cX3_copyFrom 96 = .ok (.iconst 0, 1) := by decide +kernel
theorem dX3_copyFrom_97 : decode cX3_copyFrom 97 = .ok (.aload_n 0, 1) := by decide +kernel
theorem dX3_copyFrom_98 : decode cX3_copyFrom 98 = .ok (.getfield 24, 3) := by decide +kernel
theorem dX3_copyFrom_101 : decode cX3_copyFrom 101 = .ok (.iconst 0, 1) := by decide +kernel
theorem dX3_copyFrom_102 : decode cX3_copyFrom 102 = .ok (.bipush 36, 2) := by decide +kernel
theorem dX3_copyFrom_104 : decode cX3_copyFrom 104 = .ok (.invokestatic 40, 3) := by decide +kernel
theorem dX3_copyFrom_107 : decode cX3_copyFrom 107 = .ok (.return_, 1) := by decide +kernel
theorem dX3_has_0 : decode cX3_has 0 = .ok (.iload_n 1, 1) := by decide +kernel
theorem dX3_has_1 : decode cX3_has 1 = .ok (.aload_n 0, 1) := by decide +kernel
theorem dX3_has_2 : decode cX3_has 2 = .ok (.getfield 34, 3) := by decide +kernel
theorem dX3_has_5 : decode cX3_has 5 = .ok (.invokestatic 46, 3) := by decide +kernel
theorem dX3_has_8 : decode cX3_has 8 = .ok (.ireturn, 1) := by decide +kernel
theorem dX3_hasTwo_0 : decode cX3_hasTwo 0 = .ok (.aload_n 0, 1) := by decide +kernel
theorem dX3_hasTwo_1 : decode cX3_hasTwo 1 = .ok (.iload_n 1, 1) := by decide +kernel
theorem dX3_hasTwo_2 : decode cX3_hasTwo 2 = .ok (.invokevirtual 50, 3) := by decide +kernel
theorem dX3_hasTwo_5 : decode cX3_hasTwo 5 = .ok (.ifCond .eq 20, 3) := by decide +kernel
theorem dX3_hasTwo_8 : decode cX3_hasTwo 8 = .ok (.aload_n 0, 1) := by decide +kernel
theorem dX3_hasTwo_9 : decode cX3_hasTwo 9 = .ok (.iload_n 2, 1) := by decide +kernel
theorem dX3_hasTwo_10 : decode cX3_hasTwo 10 = .ok (.invokevirtual 50, 3) := by decide +kernel
theorem dX3_hasTwo_13 : decode cX3_hasTwo 13 = .ok (.ifCond .eq 12, 3) := by decide +kernel
theorem dX3_hasTwo_16 : decode cX3_hasTwo 16 = .ok (.iload_n 1, 1) := by decide +kernel
theorem dX3_hasTwo_17 : decode cX3_hasTwo 17 = .ok (.iload_n 2, 1) := by decide +kernel
theorem dX3_hasTwo_18 : decode cX3_hasTwo 18 = .ok (.if_icmp .eq 7, 3) := by decide +kernel
theorem dX3_hasTwo_21 : decode cX3_hasTwo 21 = .ok (.iconst 1, 1) := by decide +kernel
theorem dX3_hasTwo_22 : decode cX3_hasTwo 22 = .ok (.goto 4, 3) := by decide +kernel
theorem dX3_hasTwo_25 : decode cX3_hasTwo 25 = .ok (.iconst 0, 1) := by decide +kernel
theorem dX3_hasTwo_26 : decode cX3_hasTwo 26 = .ok (.ireturn, 1) := by decide +kernel
theorem dX3_reaches_0 : decode cX3_reaches 0 = .ok (.iload_n 1, 1) := by decide +kernel
theorem dX3_reaches_1 : decode cX3_reaches 1 = .ok (.aload_n 0, 1) := by decide +kernel
theorem dX3_reaches_2 : decode cX3_reaches 2 = .ok (.getfield 27, 3) := by decide +kernel
theorem dX3_reaches_5 : decode cX3_reaches 5 = .ok (.invokestatic 46, 3) := by decide +kernel
theorem dX3_reaches_8 : decode cX3_reaches 8 = .ok (.ifCond .eq 18, 3) := by decide +kernel
theorem dX3_reaches_11 : decode cX3_reaches 11 = .ok (.iload_n 2, 1) := by decide +kernel
theorem dX3_reaches_12 : decode cX3_reaches 12 = .ok (.aload_n 0, 1) := by decide +kernel
theorem dX3_reaches_13 : decode cX3_reaches 13 = .ok (.getfield 31, 3) := by decide +kernel
theorem dX3_reaches_16 : decode cX3_reaches 16 = .ok (.invokestatic 46, 3) := by decide +kernel
theorem dX3_reaches_19 : decode cX3_reaches 19 = .ok (.ifCond .eq 7, 3) := by decide +kernel
theorem dX3_reaches_22 : decode cX3_reaches 22 = .ok (.iconst 1, 1) := by decide +kernel
theorem dX3_reaches_23 : decode cX3_reaches 23 = .ok (.goto 4, 3) := by decide +kernel
theorem dX3_reaches_26 : decode cX3_reaches 26 = .ok (.iconst 0, 1) := by decide +kernel
theorem dX3_reaches_27 : decode cX3_reaches 27 = .ok (.ireturn, 1) := by decide +kernel
theorem dX3_whoIsAt_0 : decode cX3_whoIsAt 0 = .ok (.iconst 0, 1) := by decide +kernel
theorem dX3_whoIsAt_1 : decode cX3_whoIsAt 1 = .ok (.istore_n 3, 1) := by decide +kernel
theorem dX3_whoIsAt_2 : decode cX3_whoIsAt 2 = .ok (.iload_n 3, 1) := by decide +kernel
theorem dX3_whoIsAt_3 : decode cX3_whoIsAt 3 = .ok (.aload_n 0, 1) := by decide +kernel
theorem dX3_whoIsAt_4 : decode cX3_whoIsAt 4 = .ok (.getfield 34, 3) := by decide +kernel
theorem dX3_whoIsAt_7 : decode cX3_whoIsAt 7 = .ok (.if_icmp .ge 31, 3) := by decide +kernel
theorem dX3_whoIsAt_10 : decode cX3_whoIsAt 10 = .ok (.aload_n 0, 1) := by decide +kernel
theorem dX3_whoIsAt_11 : decode cX3_whoIsAt 11 = .ok (.getfield 15, 3) := by decide +kernel
theorem dX3_whoIsAt_14 : decode cX3_whoIsAt 14 = .ok (.iload_n 3, 1) := by decide +kernel
theorem dX3_whoIsAt_15 : decode cX3_whoIsAt 15 = .ok (.iaload, 1) := by decide +kernel
theorem dX3_whoIsAt_16 : decode cX3_whoIsAt 16 = .ok (.iload_n 1, 1) := by decide +kernel
theorem dX3_whoIsAt_17 : decode cX3_whoIsAt 17 = .ok (.if_icmp .ne 15, 3) := by decide +kernel
theorem dX3_whoIsAt_20 : decode cX3_whoIsAt 20 = .ok (.aload_n 0, 1) := by decide +kernel
theorem dX3_whoIsAt_21 : decode cX3_whoIsAt 21 = .ok (.getfield 18, 3) := by decide +kernel
theorem dX3_whoIsAt_24 : decode cX3_whoIsAt 24 = .ok (.iload_n 3, 1) := by decide +kernel
theorem dX3_whoIsAt_25 : decode cX3_whoIsAt 25 = .ok (.iaload, 1) := by decide +kernel
theorem dX3_whoIsAt_26 : decode cX3_whoIsAt 26 = .ok (.iload_n 2, 1) := by decide +kernel
theorem dX3_whoIsAt_27 : decode cX3_whoIsAt 27 = .ok (.if_icmp .ne 5, 3) := by decide +kernel
theorem dX3_whoIsAt_30 : decode cX3_whoIsAt 30 = .ok (.iload_n 3, 1) := by decide +kernel
theorem dX3_whoIsAt_31 : decode cX3_whoIsAt 31 = .ok (.ireturn, 1) := by decide +kernel
theorem dX3_whoIsAt_32 : decode cX3_whoIsAt 32 = .ok (.iinc 3 1, 3) := by decide +kernel
theorem dX3_whoIsAt_35 : decode cX3_whoIsAt 35 = .ok (.goto (-33), 3) := by decide +kernel
theorem dX3_whoIsAt_38 : decode cX3_whoIsAt 38 = .ok (.bipush (-4), 2) := by decide +kernel
theorem dX3_whoIsAt_40 : decode cX3_whoIsAt 40 = .ok (.ireturn, 1) := by decide +kernel
theorem dX3_isFreeFor_0 : decode cX3_isFreeFor 0 = .ok (.aload_n 0, 1) := by decide +kernel
theorem dX3_isFreeFor_1 : decode cX3_isFreeFor 1 = .ok (.iload_n 2, 1) := by decide +kernel
theorem dX3_isFreeFor_2 : decode cX3_isFreeFor 2 = .ok (.iload_n 3, 1) := by decide +kernel
theorem dX3_isFreeFor_3 : decode cX3_isFreeFor 3 = .ok (.invokevirtual 54, 3) := by decide +kernel
theorem dX3_isFreeFor_6 : decode cX3_isFreeFor 6 = .ok (.istore 4, 2) := by decide +kernel
theorem dX3_isFreeFor_8 : decode cX3_isFreeFor 8 = .ok (.iload 4, 2) := by decide +kernel
theorem dX3_isFreeFor_10 : decode cX3_isFreeFor 10 = .ok (.bipush (-4), 2) := by decide +kernel
theorem dX3_isFreeFor_12 : decode cX3_isFreeFor 12 = .ok (.if_icmp .eq 9, 3) := by decide +kernel
theorem dX3_isFreeFor_15 : decode cX3_isFreeFor 15 = .ok (.iload 4, 2) := by decide +kernel
theorem dX3_isFreeFor_17 : decode cX3_isFreeFor 17 = .ok (.iload_n 1, 1) := by decide +kernel
theorem dX3_isFreeFor_18 : decode cX3_isFreeFor 18 = .ok (.if_icmp .ne 7, 3) := by decide +kernel
theorem dX3_isFreeFor_21 : decode cX3_isFreeFor 21 = .ok (.iconst 1, 1) := by decide +kernel
theorem dX3_isFreeFor_22 : decode cX3_isFreeFor 22 = .ok (.goto 4, 3) := by decide +kernel
theorem dX3_isFreeFor_25 : decode cX3_isFreeFor 25 = .ok (.iconst 0, 1) := by decide +kernel
theorem dX3_isFreeFor_26 : decode cX3_isFreeFor 26 = .ok (.ireturn, 1) := by decide +kernel
theorem dX3_add_0 : decode cX3_add 0 = .ok (.aload_n 0, 1) := by decide +kernel
theorem dX3_add_1 : decode cX3_add 1 = .ok (.getfield 34, 3) := by decide +kernel
theorem dX3_add_4 : decode cX3_add 4 = .ok (.bipush 6, 2) := by decide +kernel
theorem dX3_add_6 : decode cX3_add 6 = .ok (.if_icmp .lt 4, 3) := by decide +kernel
theorem dX3_add_9 : decode cX3_add 9 = .ok (.return_, 1) := by decide +kernel
theorem dX3_add_10 : decode cX3_add 10 = .ok (.aload_n 0, 1) := by decide +kernel
theorem dX3_add_11 : decode cX3_add 11 = .ok (.getfield 9, 3) := by decide +kernel
theorem dX3_add_14 : decode cX3_add 14 = .ok (.aload_n 0, 1) := by decide +kernel
theorem dX3_add_15 : decode cX3_add 15 = .ok (.getfield 34, 3) := by decide +kernel
theorem dX3_add_18 : decode cX3_add 18 = .ok (.iload_n 1, 1) := by decide +kernel
theorem dX3_add_19 : decode cX3_add 19 = .ok (.iastore, 1) := by decide +kernel
theorem dX3_add_20 : decode cX3_add 20 = .ok (.aload_n 0, 1) := by decide +kernel
theorem dX3_add_21 : decode cX3_add 21 = .ok (.getfield 21, 3) := by decide +kernel
theorem dX3_add_24 : decode cX3_add 24 = .ok (.aload_n 0, 1) := by decide +kernel
theorem dX3_add_25 : decode cX3_add 25 = .ok (.getfield 34, 3) := by decide +kernel
theorem dX3_add_28 : decode cX3_add 28 = .ok (.iconst 0, 1) := by decide +kernel
theorem dX3_add_29 : decode cX3_add 29 = .ok (.iastore, 1) := by decide +kernel
theorem dX3_add_30 : decode cX3_add 30 = .ok (.aload_n 0, 1) := by decide +kernel
theorem dX3_add_31 : decode cX3_add 31 = .ok (.getfield 15, 3) := by decide +kernel
theorem dX3_add_34 : decode cX3_add 34 = .ok (.aload_n 0, 1) := by decide +kernel
theorem dX3_add_35 : decode cX3_add 35 = .ok (.getfield 34, 3) := by decide +kernel
theorem dX3_add_38 : decode cX3_add 38 = .ok (.iload_n 2, 1) := by decide +kernel
theorem dX3_add_39 : decode cX3_add 39 = .ok (.iastore, 1) := by decide +kernel
theorem dX3_add_40 : decode cX3_add 40 = .ok (.aload_n 0, 1) := by decide +kernel
theorem dX3_add_41 : decode cX3_add 41 = .ok (.getfield 18, 3) := by decide +kernel
theorem dX3_add_44 : decode cX3_add 44 = .ok (.aload_n 0, 1) := by decide +kernel
theorem dX3_add_45 : decode cX3_add 45 = .ok (.getfield 34, 3) := by decide +kernel
theorem dX3_add_48 : decode cX3_add 48 = .ok (.iload_n 3, 1) := by decide +kernel
theorem dX3_add_49 : decode cX3_add 49 = .ok (.iastore, 1) := by decide +kernel
theorem dX3_add_50 : decode cX3_add 50 = .ok (.aload_n 0, 1) := by decide +kernel
theorem dX3_add_51 : decode cX3_add 51 = .ok (.dup, 1) := by decide +kernel
theorem dX3_add_52 : decode cX3_add 52 = .ok (.getfield 34, 3) := by decide +kernel
theorem dX3_add_55 : decode cX3_add 55 = .ok (.iconst 1, 1) := by decide +kernel
theorem dX3_add_56 : decode cX3_add 56 = .ok (.iadd, 1) := by decide +kernel
theorem dX3_add_57 : decode cX3_add 57 = .ok (.putfield 34, 3) := by decide +kernel
theorem dX3_add_60 : decode cX3_add 60 = .ok (.return_, 1) := by decide +kernel
theorem dX3_put_0 : decode cX3_put 0 = .ok (.aload_n 0, 1) := by decide +kernel
theorem dX3_put_1 : decode cX3_put 1 = .ok (.getfield 15, 3) := by decide +kernel
theorem dX3_put_4 : decode cX3_put 4 = .ok (.iload_n 1, 1) := by decide +kernel
theorem dX3_put_5 : decode cX3_put 5 = .ok (.iload_n 2, 1) := by decide +kernel
theorem dX3_put_6 : decode cX3_put 6 = .ok (.iastore, 1) := by decide +kernel
theorem dX3_put_7 : decode cX3_put 7 = .ok (.aload_n 0, 1) := by decide +kernel
theorem dX3_put_8 : decode cX3_put 8 = .ok (.getfield 18, 3) := by decide +kernel
theorem dX3_put_11 : decode cX3_put 11 = .ok (.iload_n 1, 1) := by decide +kernel
theorem dX3_put_12 : decode cX3_put 12 = .ok (.iload_n 3, 1) := by decide +kernel
theorem dX3_put_13 : decode cX3_put 13 = .ok (.iastore, 1) := by decide +kernel
theorem dX3_put_14 : decode cX3_put 14 = .ok (.return_, 1) := by decide +kernel
theorem dX3_canStep_0 : decode cX3_canStep 0 = .ok (.aload_n 0, 1) := by decide +kernel
theorem dX3_canStep_1 : decode cX3_canStep 1 = .ok (.getfield 15, 3) := by decide +kernel
theorem dX3_canStep_4 : decode cX3_canStep 4 = .ok (.iload_n 1, 1) := by decide +kernel
theorem dX3_canStep_5 : decode cX3_canStep 5 = .ok (.iaload, 1) := by decide +kernel
theorem dX3_canStep_6 : decode cX3_canStep 6 = .ok (.getstatic 58, 3) := by decide +kernel
theorem dX3_canStep_9 : decode cX3_canStep 9 = .ok (.iload_n 2, 1) := by decide +kernel
theorem dX3_canStep_10 : decode cX3_canStep 10 = .ok (.iaload, 1) := by decide +kernel
theorem dX3_canStep_11 : decode cX3_canStep 11 = .ok (.iadd, 1) := by decide +kernel
theorem dX3_canStep_12 : decode cX3_canStep 12 = .ok (.istore_n 3, 1) := by decide +kernel
theorem dX3_canStep_13 : decode cX3_canStep 13 = .ok (.aload_n 0, 1) := by decide +kernel
theorem dX3_canStep_14 : decode cX3_canStep 14 = .ok (.getfield 18, 3) := by decide +kernel
theorem dX3_canStep_17 : decode cX3_canStep 17 = .ok (.iload_n 1, 1) := by decide +kernel
theorem dX3_canStep_18 : decode cX3_canStep 18 = .ok (.iaload, 1) := by decide +kernel
theorem dX3_canStep_19 : decode cX3_canStep 19 = .ok (.getstatic 61, 3) := by decide +kernel
theorem dX3_canStep_22 : decode cX3_canStep 22 = .ok (.iload_n 2, 1) := by decide +kernel
theorem dX3_canStep_23 : decode cX3_canStep 23 = .ok (.iaload, 1) := by decide +kernel
theorem dX3_canStep_24 : decode cX3_canStep 24 = .ok (.iadd, 1) := by decide +kernel
theorem dX3_canStep_25 : decode cX3_canStep 25 = .ok (.istore 4, 2) := by decide +kernel
theorem dX3_canStep_27 : decode cX3_canStep 27 = .ok (.aload_n 0, 1) := by decide +kernel
theorem dX3_canStep_28 : decode cX3_canStep 28 = .ok (.iload_n 3, 1) := by decide +kernel
theorem dX3_canStep_29 : decode cX3_canStep 29 = .ok (.iload 4, 2) := by decide +kernel
theorem dX3_canStep_31 : decode cX3_canStep 31 = .ok (.invokevirtual 64, 3) := by decide +kernel
theorem dX3_canStep_34 : decode cX3_canStep 34 = .ok (.ifCond .eq 19, 3) := by decide +kernel
theorem dX3_canStep_37 : decode cX3_canStep 37 = .ok (.aload_n 0, 1) := by decide +kernel
theorem dX3_canStep_38 : decode cX3_canStep 38 = .ok (.iload_n 3, 1) := by decide +kernel
theorem dX3_canStep_39 : decode cX3_canStep 39 = .ok (.iload 4, 2) := by decide +kernel
theorem dX3_canStep_41 : decode cX3_canStep 41 = .ok (.invokevirtual 54, 3) := by decide +kernel
theorem dX3_canStep_44 : decode cX3_canStep 44 = .ok (.bipush (-4), 2) := by decide +kernel
theorem dX3_canStep_46 : decode cX3_canStep 46 = .ok (.if_icmp .ne 7, 3) := by decide +kernel
theorem dX3_canStep_49 : decode cX3_canStep 49 = .ok (.iconst 1, 1) := by decide +kernel
theorem dX3_canStep_50 : decode cX3_canStep 50 = .ok (.goto 4, 3) := by decide +kernel
theorem dX3_canStep_53 : decode cX3_canStep 53 = .ok (.iconst 0, 1) := by decide +kernel
theorem dX3_canStep_54 : decode cX3_canStep 54 = .ok (.ireturn, 1) := by decide +kernel
theorem dX3_step_0 : decode cX3_step 0 = .ok (.aload_n 0, 1) := by decide +kernel
theorem dX3_step_1 : decode cX3_step 1 = .ok (.iload_n 1, 1) := by decide +kernel
theorem dX3_step_2 : decode cX3_step 2 = .ok (.aload_n 0, 1) := by decide +kernel
theorem dX3_step_3 : decode cX3_step 3 = .ok (.getfield 15, 3) := by decide +kernel
theorem dX3_step_6 : decode cX3_step 6 = .ok (.iload_n 1, 1) := by decide +kernel
theorem dX3_step_7 : decode cX3_step 7 = .ok (.iaload, 1) := by decide +kernel
theorem dX3_step_8 : decode cX3_step 8 = .ok (.getstatic 58, 3) := by decide +kernel
theorem dX3_step_11 : decode cX3_step 11 = .ok (.iload_n 2, 1) := by decide +kernel
theorem dX3_step_12 : decode cX3_step 12 = .ok (.iaload, 1) := by decide +kernel
theorem dX3_step_13 : decode cX3_step 13 = .ok (.iadd, 1) := by decide +kernel
theorem dX3_step_14 : decode cX3_step 14 = .ok (.aload_n 0, 1) := by decide +kernel
theorem dX3_step_15 : decode cX3_step 15 = .ok (.getfield 18, 3) := by decide +kernel
theorem dX3_step_18 : decode cX3_step 18 = .ok (.iload_n 1, 1) := by decide +kernel
theorem dX3_step_19 : decode cX3_step 19 = .ok (.iaload, 1) := by decide +kernel
theorem dX3_step_20 : decode cX3_step 20 = .ok (.getstatic 61, 3) := by decide +kernel
theorem dX3_step_23 : decode cX3_step 23 = .ok (.iload_n 2, 1) := by decide +kernel
theorem dX3_step_24 : decode cX3_step 24 = .ok (.iaload, 1) := by decide +kernel
theorem dX3_step_25 : decode cX3_step 25 = .ok (.iadd, 1) := by decide +kernel
theorem dX3_step_26 : decode cX3_step 26 = .ok (.invokevirtual 67, 3) := by decide +kernel
theorem dX3_step_29 : decode cX3_step 29 = .ok (.return_, 1) := by decide +kernel
theorem dX3_leaningOf_0 : decode cX3_leaningOf 0 = .ok (.aload_n 0, 1) := by decide +kernel
theorem dX3_leaningOf_1 : decode cX3_leaningOf 1 = .ok (.getfield 24, 3) := by decide +kernel
theorem dX3_leaningOf_4 : decode cX3_leaningOf 4 = .ok (.bipush 6, 2) := by decide +kernel
theorem dX3_leaningOf_6 : decode cX3_leaningOf 6 = .ok (.iload_n 1, 1) := by decide +kernel
theorem dX3_leaningOf_7 : decode cX3_leaningOf 7 = .ok (.imul, 1) := by decide +kernel
theorem dX3_leaningOf_8 : decode cX3_leaningOf 8 = .ok (.iload_n 2, 1) := by decide +kernel
theorem dX3_leaningOf_9 : decode cX3_leaningOf 9 = .ok (.iadd, 1) := by decide +kernel
theorem dX3_leaningOf_10 : decode cX3_leaningOf 10 = .ok (.iaload, 1) := by decide +kernel
theorem dX3_leaningOf_11 : decode cX3_leaningOf 11 = .ok (.ireturn, 1) := by decide +kernel
theorem dX3_setLeaning_0 : decode cX3_setLeaning 0 = .ok (.aload_n 0, 1) := by decide +kernel
theorem dX3_setLeaning_1 : decode cX3_setLeaning 1 = .ok (.getfield 24, 3) := by decide +kernel
theorem dX3_setLeaning_4 : decode cX3_setLeaning 4 = .ok (.bipush 6, 2) := by decide +kernel
theorem dX3_setLeaning_6 : decode cX3_setLeaning 6 = .ok (.iload_n 1, 1) := by decide +kernel
theorem dX3_setLeaning_7 : decode cX3_setLeaning 7 = .ok (.imul, 1) := by decide +kernel
theorem dX3_setLeaning_8 : decode cX3_setLeaning 8 = .ok (.iload_n 2, 1) := by decide +kernel
theorem dX3_setLeaning_9 : decode cX3_setLeaning 9 = .ok (.iadd, 1) := by decide +kernel
theorem dX3_setLeaning_10 : decode cX3_setLeaning 10 = .ok (.iload_n 3, 1) := by decide +kernel
theorem dX3_setLeaning_11 : decode cX3_setLeaning 11 = .ok (.iastore, 1) := by decide +kernel
theorem dX3_setLeaning_12 : decode cX3_setLeaning 12 = .ok (.return_, 1) := by decide +kernel
theorem dX3_leanTowardAlone_0 : decode cX3_leanTowardAlone 0 = .ok (.iconst 0, 1) := by decide +kernel
theorem dX3_leanTowardAlone_1 : decode cX3_leanTowardAlone 1 = .ok (.istore_n 3, 1) := by decide +kernel
theorem dX3_leanTowardAlone_2 : decode cX3_leanTowardAlone 2 = .ok (.iload_n 3, 1) := by decide +kernel
theorem dX3_leanTowardAlone_3 : decode cX3_leanTowardAlone 3 = .ok (.aload_n 0, 1) := by decide +kernel
theorem dX3_leanTowardAlone_4 : decode cX3_leanTowardAlone 4 = .ok (.getfield 34, 3) := by decide +kernel
theorem dX3_leanTowardAlone_7 : decode cX3_leanTowardAlone 7 = .ok (.if_icmp .ge 25, 3) := by decide +kernel
theorem dX3_leanTowardAlone_10 : decode cX3_leanTowardAlone 10 = .ok (.aload_n 0, 1) := by decide +kernel
theorem dX3_leanTowardAlone_11 : decode cX3_leanTowardAlone 11 = .ok (.iload_n 1, 1) := by decide +kernel
theorem dX3_leanTowardAlone_12 : decode cX3_leanTowardAlone 12 = .ok (.iload_n 3, 1) := by decide +kernel
theorem dX3_leanTowardAlone_13 : decode cX3_leanTowardAlone 13 = .ok (.iload_n 3, 1) := by decide +kernel
theorem dX3_leanTowardAlone_14 : decode cX3_leanTowardAlone 14 = .ok (.iload_n 2, 1) := by decide +kernel
theorem dX3_leanTowardAlone_15 : decode cX3_leanTowardAlone 15 = .ok (.if_icmp .ne 7, 3) := by decide +kernel
theorem dX3_leanTowardAlone_18 : decode cX3_leanTowardAlone 18 = .ok (.iconst 1, 1) := by decide +kernel
theorem dX3_leanTowardAlone_19 : decode cX3_leanTowardAlone 19 = .ok (.goto 4, 3) := by decide +kernel
theorem dX3_leanTowardAlone_22 : decode cX3_leanTowardAlone 22 = .ok (.iconst 0, 1) := by decide +kernel
theorem dX3_leanTowardAlone_23 : decode cX3_leanTowardAlone 23 = .ok (.invokevirtual 71, 3) := by decide +kernel
theorem dX3_leanTowardAlone_26 : decode cX3_leanTowardAlone 26 = .ok (.iinc 3 1, 3) := by decide +kernel
theorem dX3_leanTowardAlone_29 : decode cX3_leanTowardAlone 29 = .ok (.goto (-27), 3) := by decide +kernel
theorem dX3_leanTowardAlone_32 : decode cX3_leanTowardAlone 32 = .ok (.return_, 1) := by decide +kernel
theorem dX3_pull_0 : decode cX3_pull 0 = .ok (.aload_n 0, 1) := by decide +kernel
theorem dX3_pull_1 : decode cX3_pull 1 = .ok (.getfield 15, 3) := by decide +kernel
theorem dX3_pull_4 : decode cX3_pull 4 = .ok (.iload_n 2, 1) := by decide +kernel
theorem dX3_pull_5 : decode cX3_pull 5 = .ok (.iaload, 1) := by decide +kernel
theorem dX3_pull_6 : decode cX3_pull 6 = .ok (.aload_n 0, 1) := by decide +kernel
theorem dX3_pull_7 : decode cX3_pull 7 = .ok (.getfield 15, 3) := by decide +kernel
theorem dX3_pull_10 : decode cX3_pull 10 = .ok (.iload_n 1, 1) := by decide +kernel
theorem dX3_pull_11 : decode cX3_pull 11 = .ok (.iaload, 1) := by decide +kernel
theorem dX3_pull_12 : decode cX3_pull 12 = .ok (.isub, 1) := by decide +kernel
theorem dX3_pull_13 : decode cX3_pull 13 = .ok (.invokestatic 74, 3) := by decide +kernel
theorem dX3_pull_16 : decode cX3_pull 16 = .ok (.aload_n 0, 1) := by decide +kernel
theorem dX3_pull_17 : decode cX3_pull 17 = .ok (.getfield 18, 3) := by decide +kernel
theorem dX3_pull_20 : decode cX3_pull 20 = .ok (.iload_n 2, 1) := by decide +kernel
theorem dX3_pull_21 : decode cX3_pull 21 = .ok (.iaload, 1) := by decide +kernel
theorem dX3_pull_22 : decode cX3_pull 22 = .ok (.aload_n 0, 1) := by decide +kernel
theorem dX3_pull_23 : decode cX3_pull 23 = .ok (.getfield 18, 3) := by decide +kernel
theorem dX3_pull_26 : decode cX3_pull 26 = .ok (.iload_n 1, 1) := by decide +kernel
theorem dX3_pull_27 : decode cX3_pull 27 = .ok (.iaload, 1) := by decide +kernel
theorem dX3_pull_28 : decode cX3_pull 28 = .ok (.isub, 1) := by decide +kernel
theorem dX3_pull_29 : decode cX3_pull 29 = .ok (.invokestatic 74, 3) := by decide +kernel
theorem dX3_pull_32 : decode cX3_pull 32 = .ok (.iadd, 1) := by decide +kernel
theorem dX3_pull_33 : decode cX3_pull 33 = .ok (.istore_n 3, 1) := by decide +kernel
theorem dX3_pull_34 : decode cX3_pull 34 = .ok (.iload_n 3, 1) := by decide +kernel
theorem dX3_pull_35 : decode cX3_pull 35 = .ok (.bipush 12, 2) := by decide +kernel
theorem dX3_pull_37 : decode cX3_pull 37 = .ok (.if_icmp .lt 7, 3) := by decide +kernel
theorem dX3_pull_40 : decode cX3_pull 40 = .ok (.iconst 0, 1) := by decide +kernel
theorem dX3_pull_41 : decode cX3_pull 41 = .ok (.goto 14, 3) := by decide +kernel
theorem dX3_pull_44 : decode cX3_pull 44 = .ok (.aload_n 0, 1) := by decide +kernel
theorem dX3_pull_45 : decode cX3_pull 45 = .ok (.iload_n 1, 1) := by decide +kernel
theorem dX3_pull_46 : decode cX3_pull 46 = .ok (.iload_n 2, 1) := by decide +kernel
theorem dX3_pull_47 : decode cX3_pull 47 = .ok (.invokevirtual 80, 3) := by decide +kernel
theorem dX3_pull_50 : decode cX3_pull 50 = .ok (.bipush 12, 2) := by decide +kernel
theorem dX3_pull_52 : decode cX3_pull 52 = .ok (.iload_n 3, 1) := by decide +kernel
theorem dX3_pull_53 : decode cX3_pull 53 = .ok (.isub, 1) := by decide +kernel
theorem dX3_pull_54 : decode cX3_pull 54 = .ok (.imul, 1) := by decide +kernel
theorem dX3_pull_55 : decode cX3_pull 55 = .ok (.ireturn, 1) := by decide +kernel
theorem dX3_feltEast_0 : decode cX3_feltEast 0 = .ok (.iconst 0, 1) := by decide +kernel
theorem dX3_feltEast_1 : decode cX3_feltEast 1 = .ok (.istore_n 3, 1) := by decide +kernel
theorem dX3_feltEast_2 : decode cX3_feltEast 2 = .ok (.iconst 0, 1) := by decide +kernel
theorem dX3_feltEast_3 : decode cX3_feltEast 3 = .ok (.istore 4, 2) := by decide +kernel
theorem dX3_feltEast_5 : decode cX3_feltEast 5 = .ok (.iload 4, 2) := by decide +kernel
theorem dX3_feltEast_7 : decode cX3_feltEast 7 = .ok (.aload_n 0, 1) := by decide +kernel
theorem dX3_feltEast_8 : decode cX3_feltEast 8 = .ok (.getfield 34, 3) := by decide +kernel
theorem dX3_feltEast_11 : decode cX3_feltEast 11 = .ok (.if_icmp .ge 50, 3) := by decide +kernel
theorem dX3_feltEast_14 : decode cX3_feltEast 14 = .ok (.iload 4, 2) := by decide +kernel
theorem dX3_feltEast_16 : decode cX3_feltEast 16 = .ok (.iload_n 1, 1) := by decide +kernel
theorem dX3_feltEast_17 : decode cX3_feltEast 17 = .ok (.if_icmp .eq 38, 3) := by decide +kernel
theorem dX3_feltEast_20 : decode cX3_feltEast 20 = .ok (.iload_n 2, 1) := by decide +kernel
theorem dX3_feltEast_21 : decode cX3_feltEast 21 = .ok (.iload 4, 2) := by decide +kernel
theorem dX3_feltEast_23 : decode cX3_feltEast 23 = .ok (.ishr, 1) := by decide +kernel
theorem dX3_feltEast_24 : decode cX3_feltEast 24 = .ok (.iconst 1, 1) := by decide +kernel
theorem dX3_feltEast_25 : decode cX3_feltEast 25 = .ok (.iand, 1) := by decide +kernel
theorem dX3_feltEast_26 : decode cX3_feltEast 26 = .ok (.iconst 1, 1) := by decide +kernel
theorem dX3_feltEast_27 : decode cX3_feltEast 27 = .ok (.if_icmp .ne 28, 3) := by decide +kernel
theorem dX3_feltEast_30 : decode cX3_feltEast 30 = .ok (.iload_n 3, 1) := by decide +kernel
theorem dX3_feltEast_31 : decode cX3_feltEast 31 = .ok (.aload_n 0, 1) := by decide +kernel
theorem dX3_feltEast_32 : decode cX3_feltEast 32 = .ok (.iload_n 1, 1) := by decide +kernel
theorem dX3_feltEast_33 : decode cX3_feltEast 33 = .ok (.iload 4, 2) := by decide +kernel
theorem dX3_feltEast_35 : decode cX3_feltEast 35 = .ok (.invokevirtual 83, 3) := by decide +kernel
theorem dX3_feltEast_38 : decode cX3_feltEast 38 = .ok (.aload_n 0, 1) := by decide +kernel
theorem dX3_feltEast_39 : decode cX3_feltEast 39 = .ok (.getfield 15, 3) := by decide +kernel
theorem dX3_feltEast_42 : decode cX3_feltEast 42 = .ok (.iload 4, 2) := by decide +kernel
theorem dX3_feltEast_44 : decode cX3_feltEast 44 = .ok (.iaload, 1) := by decide +kernel
theorem dX3_feltEast_45 : decode cX3_feltEast 45 = .ok (.aload_n 0, 1) := by decide +kernel
theorem dX3_feltEast_46 : decode cX3_feltEast 46 = .ok (.getfield 15, 3) := by decide +kernel
theorem dX3_feltEast_49 : decode cX3_feltEast 49 = .ok (.iload_n 1, 1) := by decide +kernel
theorem dX3_feltEast_50 : decode cX3_feltEast 50 = .ok (.iaload, 1) := by decide +kernel
theorem dX3_feltEast_51 : decode cX3_feltEast 51 = .ok (.isub, 1) := by decide +kernel
theorem dX3_feltEast_52 : decode cX3_feltEast 52 = .ok (.imul, 1) := by decide +kernel
theorem dX3_feltEast_53 : decode cX3_feltEast 53 = .ok (.iadd, 1) := by decide +kernel
theorem dX3_feltEast_54 : decode cX3_feltEast 54 = .ok (.istore_n 3, 1) := by decide +kernel
theorem dX3_feltEast_55 : decode cX3_feltEast 55 = .ok (.iinc 4 1, 3) := by decide +kernel
theorem dX3_feltEast_58 : decode cX3_feltEast 58 = .ok (.goto (-53), 3) := by decide +kernel
theorem dX3_feltEast_61 : decode cX3_feltEast 61 = .ok (.iload_n 3, 1) := by decide +kernel
theorem dX3_feltEast_62 : decode cX3_feltEast 62 = .ok (.ireturn, 1) := by decide +kernel
theorem dX3_feltSouth_0 : decode cX3_feltSouth 0 = .ok (.iconst 0, 1) := by decide +kernel
theorem dX3_feltSouth_1 : decode cX3_feltSouth 1 = .ok (.istore_n 3, 1) := by decide +kernel
theorem dX3_feltSouth_2 : decode cX3_feltSouth 2 = .ok (.iconst 0, 1) := by decide +kernel
theorem dX3_feltSouth_3 : decode cX3_feltSouth 3 = .ok (.istore 4, 2) := by decide +kernel
theorem dX3_feltSouth_5 : decode cX3_feltSouth 5 = .ok (.iload 4, 2) := by decide +kernel
theorem dX3_feltSouth_7 : decode cX3_feltSouth 7 = .ok (.aload_n 0, 1) := by decide +kernel
theorem dX3_feltSouth_8 : decode cX3_feltSouth 8 = .ok (.getfield 34, 3) := by decide +kernel
theorem dX3_feltSouth_11 : decode cX3_feltSouth 11 = .ok (.if_icmp .ge 50, 3) := by decide +kernel
theorem dX3_feltSouth_14 : decode cX3_feltSouth 14 = .ok (.iload 4, 2) := by decide +kernel
theorem dX3_feltSouth_16 : decode cX3_feltSouth 16 = .ok (.iload_n 1, 1) := by decide +kernel
theorem dX3_feltSouth_17 : decode cX3_feltSouth 17 = .ok (.if_icmp .eq 38, 3) := by decide +kernel
theorem dX3_feltSouth_20 : decode cX3_feltSouth 20 = .ok (.iload_n 2, 1) := by decide +kernel
theorem dX3_feltSouth_21 : decode cX3_feltSouth 21 = .ok (.iload 4, 2) := by decide +kernel
theorem dX3_feltSouth_23 : decode cX3_feltSouth 23 = .ok (.ishr, 1) := by decide +kernel
theorem dX3_feltSouth_24 : decode cX3_feltSouth 24 = .ok (.iconst 1, 1) := by decide +kernel
theorem dX3_feltSouth_25 : decode cX3_feltSouth 25 = .ok (.iand, 1) := by decide +kernel
theorem dX3_feltSouth_26 : decode cX3_feltSouth 26 = .ok (.iconst 1, 1) := by decide +kernel
theorem dX3_feltSouth_27 : decode cX3_feltSouth 27 = .ok (.if_icmp .ne 28, 3) := by decide +kernel
theorem dX3_feltSouth_30 : decode cX3_feltSouth 30 = .ok (.iload_n 3, 1) := by decide +kernel
theorem dX3_feltSouth_31 : decode cX3_feltSouth 31 = .ok (.aload_n 0, 1) := by decide +kernel
theorem dX3_feltSouth_32 : decode cX3_feltSouth 32 = .ok (.iload_n 1, 1) := by decide +kernel
theorem dX3_feltSouth_33 : decode cX3_feltSouth 33 = .ok (.iload 4, 2) := by decide +kernel
theorem dX3_feltSouth_35 : decode cX3_feltSouth 35 = .ok (.invokevirtual 83, 3) := by decide +kernel
theorem dX3_feltSouth_38 : decode cX3_feltSouth 38 = .ok (.aload_n 0, 1) := by decide +kernel
theorem dX3_feltSouth_39 : decode cX3_feltSouth 39 = .ok (.getfield 18, 3) := by decide +kernel
theorem dX3_feltSouth_42 : decode cX3_feltSouth 42 = .ok (.iload 4, 2) := by decide +kernel
theorem dX3_feltSouth_44 : decode cX3_feltSouth 44 = .ok (.iaload, 1) := by decide +kernel
theorem dX3_feltSouth_45 : decode cX3_feltSouth 45 = .ok (.aload_n 0, 1) := by decide +kernel
theorem dX3_feltSouth_46 : decode cX3_feltSouth 46 = .ok (.getfield 18, 3) := by decide +kernel
theorem dX3_feltSouth_49 : decode cX3_feltSouth 49 = .ok (.iload_n 1, 1) := by decide +kernel
theorem dX3_feltSouth_50 : decode cX3_feltSouth 50 = .ok (.iaload, 1) := by decide +kernel
theorem dX3_feltSouth_51 : decode cX3_feltSouth 51 = .ok (.isub, 1) := by decide +kernel
theorem dX3_feltSouth_52 : decode cX3_feltSouth 52 = .ok (.imul, 1) := by decide +kernel
theorem dX3_feltSouth_53 : decode cX3_feltSouth 53 = .ok (.iadd, 1) := by decide +kernel
theorem dX3_feltSouth_54 : decode cX3_feltSouth 54 = .ok (.istore_n 3, 1) := by decide +kernel
theorem dX3_feltSouth_55 : decode cX3_feltSouth 55 = .ok (.iinc 4 1, 3) := by decide +kernel
theorem dX3_feltSouth_58 : decode cX3_feltSouth 58 = .ok (.goto (-53), 3) := by decide +kernel
theorem dX3_feltSouth_61 : decode cX3_feltSouth 61 = .ok (.iload_n 3, 1) := by decide +kernel
theorem dX3_feltSouth_62 : decode cX3_feltSouth 62 = .ok (.ireturn, 1) := by decide +kernel
theorem dX3_draftAmong_0 : decode cX3_draftAmong 0 = .ok (.aload_n 0, 1) := by decide +kernel
theorem dX3_draftAmong_1 : decode cX3_draftAmong 1 = .ok (.iload_n 1, 1) := by decide +kernel
theorem dX3_draftAmong_2 : decode cX3_draftAmong 2 = .ok (.iload_n 2, 1) := by decide +kernel
theorem dX3_draftAmong_3 : decode cX3_draftAmong 3 = .ok (.invokevirtual 86, 3) := by decide +kernel
theorem dX3_draftAmong_6 : decode cX3_draftAmong 6 = .ok (.aload_n 0, 1) := by decide +kernel
theorem dX3_draftAmong_7 : decode cX3_draftAmong 7 = .ok (.iload_n 1, 1) := by decide +kernel
theorem dX3_draftAmong_8 : decode cX3_draftAmong 8 = .ok (.iload_n 2, 1) := by decide +kernel
theorem dX3_draftAmong_9 : decode cX3_draftAmong 9 = .ok (.invokevirtual 89, 3) := by decide +kernel
theorem dX3_draftAmong_12 : decode cX3_draftAmong 12 = .ok (.invokestatic 92, 3) := by decide +kernel
theorem dX3_draftAmong_15 : decode cX3_draftAmong 15 = .ok (.ireturn, 1) := by decide +kernel
theorem dX3_draft_0 : decode cX3_draft 0 = .ok (.aload_n 0, 1) := by decide +kernel
theorem dX3_draft_1 : decode cX3_draft 1 = .ok (.iload_n 1, 1) := by decide +kernel
theorem dX3_draft_2 : decode cX3_draft 2 = .ok (.bipush 63, 2) := by decide +kernel
theorem dX3_draft_4 : decode cX3_draft 4 = .ok (.invokevirtual 95, 3) := by decide +kernel
theorem dX3_draft_7 : decode cX3_draft 7 = .ok (.ireturn, 1) := by decide +kernel
theorem dX3_passHour_0 : decode cX3_passHour 0 = .ok (.iconst 0, 1) := by decide +kernel
theorem dX3_passHour_1 : decode cX3_passHour 1 = .ok (.istore_n 1, 1) := by decide +kernel
theorem dX3_passHour_2 : decode cX3_passHour 2 = .ok (.iconst 0, 1) := by decide +kernel
theorem dX3_passHour_3 : decode cX3_passHour 3 = .ok (.istore_n 2, 1) := by decide +kernel
theorem dX3_passHour_4 : decode cX3_passHour 4 = .ok (.iload_n 2, 1) := by decide +kernel
theorem dX3_passHour_5 : decode cX3_passHour 5 = .ok (.aload_n 0, 1) := by decide +kernel
theorem dX3_passHour_6 : decode cX3_passHour 6 = .ok (.getfield 34, 3) := by decide +kernel
theorem dX3_passHour_9 : decode cX3_passHour 9 = .ok (.if_icmp .ge 50, 3) := by decide +kernel
theorem dX3_passHour_12 : decode cX3_passHour 12 = .ok (.aload_n 0, 1) := by decide +kernel
theorem dX3_passHour_13 : decode cX3_passHour 13 = .ok (.getfield 9, 3) := by decide +kernel
theorem dX3_passHour_16 : decode cX3_passHour 16 = .ok (.iload_n 2, 1) := by decide +kernel
theorem dX3_passHour_17 : decode cX3_passHour 17 = .ok (.iaload, 1) := by decide +kernel
theorem dX3_passHour_18 : decode cX3_passHour 18 = .ok (.aload_n 0, 1) := by decide +kernel
theorem dX3_passHour_19 : decode cX3_passHour 19 = .ok (.getfield 21, 3) := by decide +kernel
theorem dX3_passHour_22 : decode cX3_passHour 22 = .ok (.iload_n 2, 1) := by decide +kernel
theorem dX3_passHour_23 : decode cX3_passHour 23 = .ok (.iaload, 1) := by decide +kernel
theorem dX3_passHour_24 : decode cX3_passHour 24 = .ok (.aload_n 0, 1) := by decide +kernel
theorem dX3_passHour_25 : decode cX3_passHour 25 = .ok (.iload_n 2, 1) := by decide +kernel
theorem dX3_passHour_26 : decode cX3_passHour 26 = .ok (.invokevirtual 98, 3) := by decide +kernel
theorem dX3_passHour_29 : decode cX3_passHour 29 = .ok (.invokestatic 101, 3) := by decide +kernel
theorem dX3_passHour_32 : decode cX3_passHour 32 = .ok (.istore_n 3, 1) := by decide +kernel
theorem dX3_passHour_33 : decode cX3_passHour 33 = .ok (.iload_n 3, 1) := by decide +kernel
theorem dX3_passHour_34 : decode cX3_passHour 34 = .ok (.aload_n 0, 1) := by decide +kernel
theorem dX3_passHour_35 : decode cX3_passHour 35 = .ok (.getfield 21, 3) := by decide +kernel
theorem dX3_passHour_38 : decode cX3_passHour 38 = .ok (.iload_n 2, 1) := by decide +kernel
theorem dX3_passHour_39 : decode cX3_passHour 39 = .ok (.iaload, 1) := by decide +kernel
theorem dX3_passHour_40 : decode cX3_passHour 40 = .ok (.if_icmp .eq 6, 3) := by decide +kernel
theorem dX3_passHour_43 : decode cX3_passHour 43 = .ok (.iinc 1 1, 3) := by decide +kernel
theorem dX3_passHour_46 : decode cX3_passHour 46 = .ok (.aload_n 0, 1) := by decide +kernel
theorem dX3_passHour_47 : decode cX3_passHour 47 = .ok (.getfield 21, 3) := by decide +kernel
theorem dX3_passHour_50 : decode cX3_passHour 50 = .ok (.iload_n 2, 1) := by decide +kernel
theorem dX3_passHour_51 : decode cX3_passHour 51 = .ok (.iload_n 3, 1) := by decide +kernel
theorem dX3_passHour_52 : decode cX3_passHour 52 = .ok (.iastore, 1) := by decide +kernel
theorem dX3_passHour_53 : decode cX3_passHour 53 = .ok (.iinc 2 1, 3) := by decide +kernel
theorem dX3_passHour_56 : decode cX3_passHour 56 = .ok (.goto (-52), 3) := by decide +kernel
theorem dX3_passHour_59 : decode cX3_passHour 59 = .ok (.aload_n 0, 1) := by decide +kernel
theorem dX3_passHour_60 : decode cX3_passHour 60 = .ok (.dup, 1) := by decide +kernel
theorem dX3_passHour_61 : decode cX3_passHour 61 = .ok (.getfield 37, 3) := by decide +kernel
theorem dX3_passHour_64 : decode cX3_passHour 64 = .ok (.iconst 1, 1) := by decide +kernel
theorem dX3_passHour_65 : decode cX3_passHour 65 = .ok (.iadd, 1) := by decide +kernel
theorem dX3_passHour_66 : decode cX3_passHour 66 = .ok (.putfield 37, 3) := by decide +kernel
theorem dX3_passHour_69 : decode cX3_passHour 69 = .ok (.iload_n 1, 1) := by decide +kernel
theorem dX3_passHour_70 : decode cX3_passHour 70 = .ok (.ireturn, 1) := by decide +kernel
theorem dX3_actBy_0 : decode cX3_actBy 0 = .ok (.aload_n 0, 1) := by decide +kernel
theorem dX3_actBy_1 : decode cX3_actBy 1 = .ok (.getfield 34, 3) := by decide +kernel
theorem dX3_actBy_4 : decode cX3_actBy 4 = .ok (.iconst 1, 1) := by decide +kernel
theorem dX3_actBy_5 : decode cX3_actBy 5 = .ok (.if_icmp .ge 4, 3) := by decide +kernel
theorem dX3_actBy_8 : decode cX3_actBy 8 = .ok (.return_, 1) := by decide +kernel
theorem dX3_actBy_9 : decode cX3_actBy 9 = .ok (.iload_n 1, 1) := by decide +kernel
theorem dX3_actBy_10 : decode cX3_actBy 10 = .ok (.bipush 8, 2) := by decide +kernel
theorem dX3_actBy_12 : decode cX3_actBy 12 = .ok (.idiv, 1) := by decide +kernel
theorem dX3_actBy_13 : decode cX3_actBy 13 = .ok (.aload_n 0, 1) := by decide +kernel
theorem dX3_actBy_14 : decode cX3_actBy 14 = .ok (.getfield 34, 3) := by decide +kernel
theorem dX3_actBy_17 : decode cX3_actBy 17 = .ok (.irem, 1) := by decide +kernel
theorem dX3_actBy_18 : decode cX3_actBy 18 = .ok (.istore_n 2, 1) := by decide +kernel
theorem dX3_actBy_19 : decode cX3_actBy 19 = .ok (.iload_n 1, 1) := by decide +kernel
theorem dX3_actBy_20 : decode cX3_actBy 20 = .ok (.bipush 8, 2) := by decide +kernel
theorem dX3_actBy_22 : decode cX3_actBy 22 = .ok (.irem, 1) := by decide +kernel
theorem dX3_actBy_23 : decode cX3_actBy 23 = .ok (.istore_n 3, 1) := by decide +kernel
theorem dX3_actBy_24 : decode cX3_actBy 24 = .ok (.iload_n 3, 1) := by decide +kernel
theorem dX3_actBy_25 : decode cX3_actBy 25 = .ok (.iconst 4, 1) := by decide +kernel
theorem dX3_actBy_26 : decode cX3_actBy 26 = .ok (.if_icmp .ge 31, 3) := by decide +kernel
theorem dX3_actBy_29 : decode cX3_actBy 29 = .ok (.iload_n 1, 1) := by decide +kernel
theorem dX3_actBy_30 : decode cX3_actBy 30 = .ok (.bipush 64, 2) := by decide +kernel
theorem dX3_actBy_32 : decode cX3_actBy 32 = .ok (.idiv, 1) := by decide +kernel
theorem dX3_actBy_33 : decode cX3_actBy 33 = .ok (.iconst 4, 1) := by decide +kernel
theorem dX3_actBy_34 : decode cX3_actBy 34 = .ok (.irem, 1) := by decide +kernel
theorem dX3_actBy_35 : decode cX3_actBy 35 = .ok (.istore 4, 2) := by decide +kernel
theorem dX3_actBy_37 : decode cX3_actBy 37 = .ok (.aload_n 0, 1) := by decide +kernel
theorem dX3_actBy_38 : decode cX3_actBy 38 = .ok (.iload_n 2, 1) := by decide +kernel
theorem dX3_actBy_39 : decode cX3_actBy 39 = .ok (.iload 4, 2) := by decide +kernel
theorem dX3_actBy_41 : decode cX3_actBy 41 = .ok (.invokevirtual 105, 3) := by decide +kernel
theorem dX3_actBy_44 : decode cX3_actBy 44 = .ok (.ifCond .eq 10, 3) := by decide +kernel
theorem dX3_actBy_47 : decode cX3_actBy 47 = .ok (.aload_n 0, 1) := by decide +kernel
theorem dX3_actBy_48 : decode cX3_actBy 48 = .ok (.iload_n 2, 1) := by decide +kernel
theorem dX3_actBy_49 : decode cX3_actBy 49 = .ok (.iload 4, 2) := by decide +kernel
theorem dX3_actBy_51 : decode cX3_actBy 51 = .ok (.invokevirtual 108, 3) := by decide +kernel
theorem dX3_actBy_54 : decode cX3_actBy 54 = .ok (.goto 43, 3) := by decide +kernel
theorem dX3_actBy_57 : decode cX3_actBy 57 = .ok (.iload_n 3, 1) := by decide +kernel
theorem dX3_actBy_58 : decode cX3_actBy 58 = .ok (.iconst 4, 1) := by decide +kernel
theorem dX3_actBy_59 : decode cX3_actBy 59 = .ok (.if_icmp .ne 38, 3) := by decide +kernel
theorem dX3_actBy_62 : decode cX3_actBy 62 = .ok (.iload_n 1, 1) := by decide +kernel
theorem dX3_actBy_63 : decode cX3_actBy 63 = .ok (.bipush 64, 2) := by decide +kernel
theorem dX3_actBy_65 : decode cX3_actBy 65 = .ok (.idiv, 1) := by decide +kernel
theorem dX3_actBy_66 : decode cX3_actBy 66 = .ok (.aload_n 0, 1) := by decide +kernel
theorem dX3_actBy_67 : decode cX3_actBy 67 = .ok (.getfield 34, 3) := by decide +kernel
theorem dX3_actBy_70 : decode cX3_actBy 70 = .ok (.irem, 1) := by decide +kernel
theorem dX3_actBy_71 : decode cX3_actBy 71 = .ok (.istore 4, 2) := by decide +kernel
theorem dX3_actBy_73 : decode cX3_actBy 73 = .ok (.iload 4, 2) := by decide +kernel
theorem dX3_actBy_75 : decode cX3_actBy 75 = .ok (.iload_n 2, 1) := by decide +kernel
theorem dX3_actBy_76 : decode cX3_actBy 76 = .ok (.if_icmp .eq 21, 3) := by decide +kernel
theorem dX3_actBy_79 : decode cX3_actBy 79 = .ok (.aload_n 0, 1) := by decide +kernel
theorem dX3_actBy_80 : decode cX3_actBy 80 = .ok (.iload_n 2, 1) := by decide +kernel
theorem dX3_actBy_81 : decode cX3_actBy 81 = .ok (.iload 4, 2) := by decide +kernel
theorem dX3_actBy_83 : decode cX3_actBy 83 = .ok (.iload_n 1, 1) := by decide +kernel
theorem dX3_actBy_84 : decode cX3_actBy 84 = .ok (.sipush 512, 3) := by decide +kernel
theorem dX3_actBy_87 : decode cX3_actBy 87 = .ok (.idiv, 1) := by decide +kernel
theorem dX3_actBy_88 : decode cX3_actBy 88 = .ok (.bipush 41, 2) := by decide +kernel
theorem dX3_actBy_90 : decode cX3_actBy 90 = .ok (.irem, 1) := by decide +kernel
theorem dX3_actBy_91 : decode cX3_actBy 91 = .ok (.bipush 20, 2) := by decide +kernel
theorem dX3_actBy_93 : decode cX3_actBy 93 = .ok (.isub, 1) := by decide +kernel
theorem dX3_actBy_94 : decode cX3_actBy 94 = .ok (.invokevirtual 71, 3) := by decide +kernel
theorem dX3_actBy_97 : decode cX3_actBy 97 = .ok (.return_, 1) := by decide +kernel
theorem dX3_tellsToward_0 : decode cX3_tellsToward 0 = .ok (.iload_n 1, 1) := by decide +kernel
theorem dX3_tellsToward_1 : decode cX3_tellsToward 1 = .ok (.iload_n 2, 1) := by decide +kernel
theorem dX3_tellsToward_2 : decode cX3_tellsToward 2 = .ok (.if_icmp .eq 45, 3) := by decide +kernel
theorem dX3_tellsToward_5 : decode cX3_tellsToward 5 = .ok (.aload_n 0, 1) := by decide +kernel
theorem dX3_tellsToward_6 : decode cX3_tellsToward 6 = .ok (.getfield 15, 3) := by decide +kernel
theorem dX3_tellsToward_9 : decode cX3_tellsToward 9 = .ok (.iload_n 2, 1) := by decide +kernel
theorem dX3_tellsToward_10 : decode cX3_tellsToward 10 = .ok (.iaload, 1) := by decide +kernel
theorem dX3_tellsToward_11 : decode cX3_tellsToward 11 = .ok (.aload_n 0, 1) := by decide +kernel
theorem dX3_tellsToward_12 : decode cX3_tellsToward 12 = .ok (.getfield 15, 3) := by decide +kernel
theorem dX3_tellsToward_15 : decode cX3_tellsToward 15 = .ok (.iload_n 1, 1) := by decide +kernel
theorem dX3_tellsToward_16 : decode cX3_tellsToward 16 = .ok (.iaload, 1) := by decide +kernel
theorem dX3_tellsToward_17 : decode cX3_tellsToward 17 = .ok (.isub, 1) := by decide +kernel
theorem dX3_tellsToward_18 : decode cX3_tellsToward 18 = .ok (.aload_n 0, 1) := by decide +kernel
theorem dX3_tellsToward_19 : decode cX3_tellsToward 19 = .ok (.getfield 18, 3) := by decide +kernel
theorem dX3_tellsToward_22 : decode cX3_tellsToward 22 = .ok (.iload_n 2, 1) := by decide +kernel
theorem dX3_tellsToward_23 : decode cX3_tellsToward 23 = .ok (.iaload, 1) := by decide +kernel
theorem dX3_tellsToward_24 : decode cX3_tellsToward 24 = .ok (.aload_n 0, 1) := by decide +kernel
theorem dX3_tellsToward_25 : decode cX3_tellsToward 25 = .ok (.getfield 18, 3) := by decide +kernel
theorem dX3_tellsToward_28 : decode cX3_tellsToward 28 = .ok (.iload_n 1, 1) := by decide +kernel
theorem dX3_tellsToward_29 : decode cX3_tellsToward 29 = .ok (.iaload, 1) := by decide +kernel
theorem dX3_tellsToward_30 : decode cX3_tellsToward 30 = .ok (.isub, 1) := by decide +kernel
theorem dX3_tellsToward_31 : decode cX3_tellsToward 31 = .ok (.invokestatic 92, 3) := by decide +kernel
theorem dX3_tellsToward_34 : decode cX3_tellsToward 34 = .ok (.aload_n 0, 1) := by decide +kernel
theorem dX3_tellsToward_35 : decode cX3_tellsToward 35 = .ok (.getfield 21, 3) := by decide +kernel
theorem dX3_tellsToward_38 : decode cX3_tellsToward 38 = .ok (.iload_n 1, 1) := by decide +kernel
theorem dX3_tellsToward_39 : decode cX3_tellsToward 39 = .ok (.iaload, 1) := by decide +kernel
theorem dX3_tellsToward_40 : decode cX3_tellsToward 40 = .ok (.if_icmp .ne 7, 3) := by decide +kernel
theorem dX3_tellsToward_43 : decode cX3_tellsToward 43 = .ok (.iconst 1, 1) := by decide +kernel
theorem dX3_tellsToward_44 : decode cX3_tellsToward 44 = .ok (.goto 4, 3) := by decide +kernel
theorem dX3_tellsToward_47 : decode cX3_tellsToward 47 = .ok (.iconst 0, 1) := by decide +kernel
theorem dX3_tellsToward_48 : decode cX3_tellsToward 48 = .ok (.ireturn, 1) := by decide +kernel
theorem dX3_lookersAt_0 : decode cX3_lookersAt 0 = .ok (.iconst 0, 1) := by decide +kernel
theorem dX3_lookersAt_1 : decode cX3_lookersAt 1 = .ok (.istore_n 2, 1) := by decide +kernel
theorem dX3_lookersAt_2 : decode cX3_lookersAt 2 = .ok (.iconst 0, 1) := by decide +kernel
theorem dX3_lookersAt_3 : decode cX3_lookersAt 3 = .ok (.istore_n 3, 1) := by decide +kernel
theorem dX3_lookersAt_4 : decode cX3_lookersAt 4 = .ok (.iload_n 3, 1) := by decide +kernel
theorem dX3_lookersAt_5 : decode cX3_lookersAt 5 = .ok (.aload_n 0, 1) := by decide +kernel
theorem dX3_lookersAt_6 : decode cX3_lookersAt 6 = .ok (.getfield 34, 3) := by decide +kernel
theorem dX3_lookersAt_9 : decode cX3_lookersAt 9 = .ok (.if_icmp .ge 21, 3) := by decide +kernel
theorem dX3_lookersAt_12 : decode cX3_lookersAt 12 = .ok (.aload_n 0, 1) := by decide +kernel
theorem dX3_lookersAt_13 : decode cX3_lookersAt 13 = .ok (.iload_n 3, 1) := by decide +kernel
theorem dX3_lookersAt_14 : decode cX3_lookersAt 14 = .ok (.iload_n 1, 1) := by decide +kernel
theorem dX3_lookersAt_15 : decode cX3_lookersAt 15 = .ok (.invokevirtual 112, 3) := by decide +kernel
theorem dX3_lookersAt_18 : decode cX3_lookersAt 18 = .ok (.ifCond .eq 6, 3) := by decide +kernel
theorem dX3_lookersAt_21 : decode cX3_lookersAt 21 = .ok (.iinc 2 1, 3) := by decide +kernel
theorem dX3_lookersAt_24 : decode cX3_lookersAt 24 = .ok (.iinc 3 1, 3) := by decide +kernel
theorem dX3_lookersAt_27 : decode cX3_lookersAt 27 = .ok (.goto (-23), 3) := by decide +kernel
theorem dX3_lookersAt_30 : decode cX3_lookersAt 30 = .ok (.iload_n 2, 1) := by decide +kernel
theorem dX3_lookersAt_31 : decode cX3_lookersAt 31 = .ok (.ireturn, 1) := by decide +kernel
theorem dX3_sumOfVanes_0 : decode cX3_sumOfVanes 0 = .ok (.iconst 0, 1) := by decide +kernel
theorem dX3_sumOfVanes_1 : decode cX3_sumOfVanes 1 = .ok (.istore_n 1, 1) := by decide +kernel
theorem dX3_sumOfVanes_2 : decode cX3_sumOfVanes 2 = .ok (.iconst 0, 1) := by decide +kernel
theorem dX3_sumOfVanes_3 : decode cX3_sumOfVanes 3 = .ok (.istore_n 2, 1) := by decide +kernel
theorem dX3_sumOfVanes_4 : decode cX3_sumOfVanes 4 = .ok (.iload_n 2, 1) := by decide +kernel
theorem dX3_sumOfVanes_5 : decode cX3_sumOfVanes 5 = .ok (.aload_n 0, 1) := by decide +kernel
theorem dX3_sumOfVanes_6 : decode cX3_sumOfVanes 6 = .ok (.getfield 34, 3) := by decide +kernel
theorem dX3_sumOfVanes_9 : decode cX3_sumOfVanes 9 = .ok (.if_icmp .ge 18, 3) := by decide +kernel
theorem dX3_sumOfVanes_12 : decode cX3_sumOfVanes 12 = .ok (.iload_n 1, 1) := by decide +kernel
theorem dX3_sumOfVanes_13 : decode cX3_sumOfVanes 13 = .ok (.aload_n 0, 1) := by decide +kernel
theorem dX3_sumOfVanes_14 : decode cX3_sumOfVanes 14 = .ok (.getfield 21, 3) := by decide +kernel
theorem dX3_sumOfVanes_17 : decode cX3_sumOfVanes 17 = .ok (.iload_n 2, 1) := by decide +kernel
theorem dX3_sumOfVanes_18 : decode cX3_sumOfVanes 18 = .ok (.iaload, 1) := by decide +kernel
theorem dX3_sumOfVanes_19 : decode cX3_sumOfVanes 19 = .ok (.iadd, 1) := by decide +kernel
theorem dX3_sumOfVanes_20 : decode cX3_sumOfVanes 20 = .ok (.istore_n 1, 1) := by decide +kernel
theorem dX3_sumOfVanes_21 : decode cX3_sumOfVanes 21 = .ok (.iinc 2 1, 3) := by decide +kernel
theorem dX3_sumOfVanes_24 : decode cX3_sumOfVanes 24 = .ok (.goto (-20), 3) := by decide +kernel
theorem dX3_sumOfVanes_27 : decode cX3_sumOfVanes 27 = .ok (.iload_n 1, 1) := by decide +kernel
theorem dX3_sumOfVanes_28 : decode cX3_sumOfVanes 28 = .ok (.ireturn, 1) := by decide +kernel
theorem dX3_howManyFeelADraft_0 : decode cX3_howManyFeelADraft 0 = .ok (.iconst 0, 1) := by decide +kernel
theorem dX3_howManyFeelADraft_1 : decode cX3_howManyFeelADraft 1 = .ok (.istore_n 1, 1) := by decide +kernel
theorem dX3_howManyFeelADraft_2 : decode cX3_howManyFeelADraft 2 = .ok (.iconst 0, 1) := by decide +kernel
theorem dX3_howManyFeelADraft_3 : decode cX3_howManyFeelADraft 3 = .ok (.istore_n 2, 1) := by decide +kernel
theorem dX3_howManyFeelADraft_4 : decode cX3_howManyFeelADraft 4 = .ok (.iload_n 2, 1) := by decide +kernel
theorem dX3_howManyFeelADraft_5 : decode cX3_howManyFeelADraft 5 = .ok (.aload_n 0, 1) := by decide +kernel
theorem dX3_howManyFeelADraft_6 : decode cX3_howManyFeelADraft 6 = .ok (.getfield 34, 3) := by decide +kernel
theorem dX3_howManyFeelADraft_9 : decode cX3_howManyFeelADraft 9 = .ok (.if_icmp .ge 22, 3) := by decide +kernel
theorem dX3_howManyFeelADraft_12 : decode cX3_howManyFeelADraft 12 = .ok (.aload_n 0, 1) := by decide +kernel
theorem dX3_howManyFeelADraft_13 : decode cX3_howManyFeelADraft 13 = .ok (.iload_n 2, 1) := by decide +kernel
theorem dX3_howManyFeelADraft_14 : decode cX3_howManyFeelADraft 14 = .ok (.invokevirtual 98, 3) := by decide +kernel
theorem dX3_howManyFeelADraft_17 : decode cX3_howManyFeelADraft 17 = .ok (.bipush (-4), 2) := by decide +kernel
theorem dX3_howManyFeelADraft_19 : decode cX3_howManyFeelADraft 19 = .ok (.if_icmp .eq 6, 3) := by decide +kernel
theorem dX3_howManyFeelADraft_22 : decode cX3_howManyFeelADraft 22 = .ok (.iinc 1 1, 3) := by decide +kernel
theorem dX3_howManyFeelADraft_25 : decode cX3_howManyFeelADraft 25 = .ok (.iinc 2 1, 3) := by decide +kernel
theorem dX3_howManyFeelADraft_28 : decode cX3_howManyFeelADraft 28 = .ok (.goto (-24), 3) := by decide +kernel
theorem dX3_howManyFeelADraft_31 : decode cX3_howManyFeelADraft 31 = .ok (.iload_n 1, 1) := by decide +kernel
theorem dX3_howManyFeelADraft_32 : decode cX3_howManyFeelADraft 32 = .ok (.ireturn, 1) := by decide +kernel
theorem dX3_howManyLeanings_0 : decode cX3_howManyLeanings 0 = .ok (.iconst 0, 1) := by decide +kernel
theorem dX3_howManyLeanings_1 : decode cX3_howManyLeanings 1 = .ok (.istore_n 1, 1) := by decide +kernel
theorem dX3_howManyLeanings_2 : decode cX3_howManyLeanings 2 = .ok (.iconst 0, 1) := by decide +kernel
theorem dX3_howManyLeanings_3 : decode cX3_howManyLeanings 3 = .ok (.istore_n 2, 1) := by decide +kernel
theorem dX3_howManyLeanings_4 : decode cX3_howManyLeanings 4 = .ok (.iload_n 2, 1) := by decide +kernel
theorem dX3_howManyLeanings_5 : decode cX3_howManyLeanings 5 = .ok (.aload_n 0, 1) := by decide +kernel
theorem dX3_howManyLeanings_6 : decode cX3_howManyLeanings 6 = .ok (.getfield 24, 3) := by decide +kernel
theorem dX3_howManyLeanings_9 : decode cX3_howManyLeanings 9 = .ok (.arraylength, 1) := by decide +kernel
theorem dX3_howManyLeanings_10 : decode cX3_howManyLeanings 10 = .ok (.if_icmp .ge 21, 3) := by decide +kernel
theorem dX3_howManyLeanings_13 : decode cX3_howManyLeanings 13 = .ok (.aload_n 0, 1) := by decide +kernel
theorem dX3_howManyLeanings_14 : decode cX3_howManyLeanings 14 = .ok (.getfield 24, 3) := by decide +kernel
theorem dX3_howManyLeanings_17 : decode cX3_howManyLeanings 17 = .ok (.iload_n 2, 1) := by decide +kernel
theorem dX3_howManyLeanings_18 : decode cX3_howManyLeanings 18 = .ok (.iaload, 1) := by decide +kernel
theorem dX3_howManyLeanings_19 : decode cX3_howManyLeanings 19 = .ok (.ifCond .eq 6, 3) := by decide +kernel
theorem dX3_howManyLeanings_22 : decode cX3_howManyLeanings 22 = .ok (.iinc 1 1, 3) := by decide +kernel
theorem dX3_howManyLeanings_25 : decode cX3_howManyLeanings 25 = .ok (.iinc 2 1, 3) := by decide +kernel
theorem dX3_howManyLeanings_28 : decode cX3_howManyLeanings 28 = .ok (.goto (-24), 3) := by decide +kernel
theorem dX3_howManyLeanings_31 : decode cX3_howManyLeanings 31 = .ok (.iload_n 1, 1) := by decide +kernel
theorem dX3_howManyLeanings_32 : decode cX3_howManyLeanings 32 = .ok (.ireturn, 1) := by decide +kernel
theorem dX4_init_0 : decode cX4_init 0 = .ok (.aload_n 0, 1) := by decide +kernel
theorem dX4_init_1 : decode cX4_init 1 = .ok (.invokespecial 3, 3) := by decide +kernel
theorem dX4_init_4 : decode cX4_init 4 = .ok (.aload_n 0, 1) := by decide +kernel
theorem dX4_init_5 : decode cX4_init 5 = .ok (.bipush 81, 2) := by decide +kernel
theorem dX4_init_7 : decode cX4_init 7 = .ok (.newarray .int, 2) := by decide +kernel
theorem dX4_init_9 : decode cX4_init 9 = .ok (.putfield 9, 3) := by decide +kernel
theorem dX4_init_12 : decode cX4_init 12 = .ok (.aload_n 0, 1) := by decide +kernel
theorem dX4_init_13 : decode cX4_init 13 = .ok (.bipush 81, 2) := by decide +kernel
theorem dX4_init_15 : decode cX4_init 15 = .ok (.newarray .int, 2) := by decide +kernel
theorem dX4_init_17 : decode cX4_init 17 = .ok (.putfield 15, 3) := by decide +kernel
theorem dX4_init_20 : decode cX4_init 20 = .ok (.aload_n 0, 1) := by decide +kernel
theorem dX4_init_21 : decode cX4_init 21 = .ok (.bipush 81, 2) := by decide +kernel
theorem dX4_init_23 : decode cX4_init 23 = .ok (.newarray .int, 2) := by decide +kernel
theorem dX4_init_25 : decode cX4_init 25 = .ok (.putfield 18, 3) := by decide +kernel
theorem dX4_init_28 : decode cX4_init 28 = .ok (.aload_n 0, 1) := by decide +kernel
theorem dX4_init_29 : decode cX4_init 29 = .ok (.bipush 81, 2) := by decide +kernel
theorem dX4_init_31 : decode cX4_init 31 = .ok (.newarray .int, 2) := by decide +kernel
theorem dX4_init_33 : decode cX4_init 33 = .ok (.putfield 21, 3) := by decide +kernel
theorem dX4_init_36 : decode cX4_init 36 = .ok (.aload_n 0, 1) := by decide +kernel
theorem dX4_init_37 : decode cX4_init 37 = .ok (.bipush 81, 2) := by decide +kernel
theorem dX4_init_39 : decode cX4_init 39 = .ok (.newarray .int, 2) := by decide +kernel
theorem dX4_init_41 : decode cX4_init 41 = .ok (.putfield 24, 3) := by decide +kernel
theorem dX4_init_44 : decode cX4_init 44 = .ok (.aload_n 0, 1) := by decide +kernel
theorem dX4_init_45 : decode cX4_init 45 = .ok (.bipush (-4), 2) := by decide +kernel
theorem dX4_init_47 : decode cX4_init 47 = .ok (.putfield 27, 3) := by decide +kernel
theorem dX4_init_50 : decode cX4_init 50 = .ok (.return_, 1) := by decide +kernel
theorem dX4_run_0 : decode cX4_run 0 = .ok (.iconst 0, 1) := by decide +kernel
theorem dX4_run_1 : decode cX4_run 1 = .ok (.istore 4, 2) := by decide +kernel
theorem dX4_run_3 : decode cX4_run 3 = .ok (.iload 4, 2) := by decide +kernel
theorem dX4_run_5 : decode cX4_run 5 = .ok (.bipush 81, 2) := by decide +kernel
theorem dX4_run_7 : decode cX4_run 7 = .ok (.if_icmp .ge 18, 3) := by decide +kernel
theorem dX4_run_10 : decode cX4_run 10 = .ok (.aload_n 0, 1) := by decide +kernel
theorem dX4_run_11 : decode cX4_run 11 = .ok (.getfield 21, 3) := by decide +kernel
theorem dX4_run_14 : decode cX4_run 14 = .ok (.iload 4, 2) := by decide +kernel
theorem dX4_run_16 : decode cX4_run 16 = .ok (.bipush (-4), 2) := by decide +kernel
theorem dX4_run_18 : decode cX4_run 18 = .ok (.iastore, 1) := by decide +kernel
theorem dX4_run_19 : decode cX4_run 19 = .ok (.iinc 4 1, 3) := by decide +kernel
theorem dX4_run_22 : decode cX4_run 22 = .ok (.goto (-19), 3) := by decide +kernel
theorem dX4_run_25 : decode cX4_run 25 = .ok (.aload_n 0, 1) := by decide +kernel
theorem dX4_run_26 : decode cX4_run 26 = .ok (.bipush (-4), 2) := by decide +kernel
theorem dX4_run_28 : decode cX4_run 28 = .ok (.putfield 27, 3) := by decide +kernel
theorem dX4_run_31 : decode cX4_run 31 = .ok (.aload_n 0, 1) := by decide +kernel
theorem dX4_run_32 : decode cX4_run 32 = .ok (.getfield 9, 3) := by decide +kernel
theorem dX4_run_35 : decode cX4_run 35 = .ok (.iconst 0, 1) := by decide +kernel
theorem dX4_run_36 : decode cX4_run 36 = .ok (.aload_n 1, 1) := by decide +kernel
theorem dX4_run_37 : decode cX4_run 37 = .ok (.getfield 31, 3) := by decide +kernel
theorem dX4_run_40 : decode cX4_run 40 = .ok (.iload_n 2, 1) := by decide +kernel
theorem dX4_run_41 : decode cX4_run 41 = .ok (.iaload, 1) := by decide +kernel
theorem dX4_run_42 : decode cX4_run 42 = .ok (.bipush 9, 2) := by decide +kernel
theorem dX4_run_44 : decode cX4_run 44 = .ok (.imul, 1) := by decide +kernel
theorem dX4_run_45 : decode cX4_run 45 = .ok (.aload_n 1, 1) := by decide +kernel
theorem dX4_run_46 : decode cX4_run 46 = .ok (.getfield 36, 3) := by decide +kernel
theorem dX4_run_49 : decode cX4_run 49 = .ok (.iload_n 2, 1) := by decide +kernel
theorem dX4_run_50 : decode cX4_run 50 = .ok (.iaload, 1) := by decide +kernel
theorem dX4_run_51 : decode cX4_run 51 = .ok (.iadd, 1) := by decide +kernel
theorem dX4_run_52 : decode cX4_run 52 = .ok (.iastore, 1) := by decide +kernel
theorem dX4_run_53 : decode cX4_run 53 = .ok (.aload_n 0, 1) := by decide +kernel
theorem dX4_run_54 : decode cX4_run 54 = .ok (.getfield 21, 3) := by decide +kernel
theorem dX4_run_57 : decode cX4_run 57 = .ok (.aload_n 0, 1) := by decide +kernel
theorem dX4_run_58 : decode cX4_run 58 = .ok (.getfield 9, 3) := by decide +kernel
theorem dX4_run_61 : decode cX4_run 61 = .ok (.iconst 0, 1) := by decide +kernel
theorem dX4_run_62 : decode cX4_run 62 = .ok (.iaload, 1) := by decide +kernel
theorem dX4_run_63 : decode cX4_run 63 = .ok (.iconst 0, 1) := by decide +kernel
theorem dX4_run_64 : decode cX4_run 64 = .ok (.iastore, 1) := by decide +kernel
theorem dX4_run_65 : decode cX4_run 65 = .ok (.iconst 1, 1) := by decide +kernel
theorem dX4_run_66 : decode cX4_run 66 = .ok (.istore 4, 2) := by decide +kernel
theorem dX4_run_68 : decode cX4_run 68 = .ok (.iconst 0, 1) := by decide +kernel
theorem dX4_run_69 : decode cX4_run 69 = .ok (.istore 5, 2) := by decide +kernel
theorem dX4_run_71 : decode cX4_run 71 = .ok (.iload 5, 2) := by decide +kernel
theorem dX4_run_73 : decode cX4_run 73 = .ok (.iload 4, 2) := by decide +kernel
theorem dX4_run_75 : decode cX4_run 75 = .ok (.if_icmp .ge 60, 3) := by decide +kernel
theorem dX4_run_78 : decode cX4_run 78 = .ok (.iload 5, 2) := by decide +kernel
theorem dX4_run_80 : decode cX4_run 80 = .ok (.bipush 81, 2) := by decide +kernel
theorem dX4_run_82 : decode cX4_run 82 = .ok (.if_icmp .ge 53, 3) := by decide +kernel
theorem dX4_run_85 : decode cX4_run 85 = .ok (.aload_n 0, 1) := by decide +kernel
theorem dX4_run_86 : decode cX4_run 86 = .ok (.getfield 9, 3) := by decide +kernel
theorem dX4_run_89 : decode cX4_run 89 = .ok (.iload 5, 2) := by decide +kernel
theorem dX4_run_91 : decode cX4_run 91 = .ok (.iaload, 1) := by decide +kernel
theorem dX4_run_92 : decode cX4_run 92 = .ok (.istore 6, 2) := by decide +kernel
theorem dX4_run_94 : decode cX4_run 94 = .ok (.aload_n 1, 1) := by decide +kernel
theorem dX4_run_95 : decode cX4_run 95 = .ok (.iload_n 2, 1) := by decide +kernel
theorem dX4_run_96 : decode cX4_run 96 = .ok (.iload 6, 2) := by decide +kernel
theorem dX4_run_98 : decode cX4_run 98 = .ok (.invokestatic 39, 3) := by decide +kernel
theorem dX4_run_101 : decode cX4_run 101 = .ok (.aload_n 1, 1) := by decide +kernel
theorem dX4_run_102 : decode cX4_run 102 = .ok (.iload_n 2, 1) := by decide +kernel
theorem dX4_run_103 : decode cX4_run 103 = .ok (.invokevirtual 43, 3) := by decide +kernel
theorem dX4_run_106 : decode cX4_run 106 = .ok (.iload_n 3, 1) := by decide +kernel
theorem dX4_run_107 : decode cX4_run 107 = .ok (.if_icmp .ne 10, 3) := by decide +kernel
theorem dX4_run_110 : decode cX4_run 110 = .ok (.aload_n 0, 1) := by decide +kernel
theorem dX4_run_111 : decode cX4_run 111 = .ok (.iload 6, 2) := by decide +kernel
theorem dX4_run_113 : decode cX4_run 113 = .ok (.invokevirtual 47, 3) := by decide +kernel
theorem dX4_run_116 : decode cX4_run 116 = .ok (.return_, 1) := by decide +kernel
theorem dX4_run_117 : decode cX4_run 117 = .ok (.aload_n 0, 1) := by decide +kernel
theorem dX4_run_118 : decode cX4_run 118 = .ok (.aload_n 1, 1) := by decide +kernel
theorem dX4_run_119 : decode cX4_run 119 = .ok (.iload_n 2, 1) := by decide +kernel
theorem dX4_run_120 : decode cX4_run 120 = .ok (.iload 6, 2) := by decide +kernel
theorem dX4_run_122 : decode cX4_run 122 = .ok (.iload 4, 2) := by decide +kernel
theorem dX4_run_124 : decode cX4_run 124 = .ok (.invokevirtual 51, 3) := by decide +kernel
theorem dX4_run_127 : decode cX4_run 127 = .ok (.istore 4, 2) := by decide +kernel
theorem dX4_run_129 : decode cX4_run 129 = .ok (.iinc 5 1, 3) := by decide +kernel
theorem dX4_run_132 : decode cX4_run 132 = .ok (.goto (-61), 3) := by decide +kernel
theorem dX4_run_135 : decode cX4_run 135 = .ok (.return_, 1) := by decide +kernel
theorem dX4_sideAt_0 : decode cX4_sideAt 0 = .ok (.iload_n 1, 1) := by decide +kernel
theorem dX4_sideAt_1 : decode cX4_sideAt 1 = .ok (.aload_n 0, 1) := by decide +kernel
theorem dX4_sideAt_2 : decode cX4_sideAt 2 = .ok (.getfield 27, 3) := by decide +kernel
theorem dX4_sideAt_5 : decode cX4_sideAt 5 = .ok (.invokestatic 55, 3) := by decide +kernel
theorem dX4_sideAt_8 : decode cX4_sideAt 8 = .ok (.ifCond .eq 12, 3) := by decide +kernel
theorem dX4_sideAt_11 : decode cX4_sideAt 11 = .ok (.aload_n 0, 1) := by decide +kernel
theorem dX4_sideAt_12 : decode cX4_sideAt 12 = .ok (.getfield 24, 3) := by decide +kernel
theorem dX4_sideAt_15 : decode cX4_sideAt 15 = .ok (.iload_n 1, 1) := by decide +kernel
theorem dX4_sideAt_16 : decode cX4_sideAt 16 = .ok (.iaload, 1) := by decide +kernel
theorem dX4_sideAt_17 : decode cX4_sideAt 17 = .ok (.goto 5, 3) := by decide +kernel
theorem dX4_sideAt_20 : decode cX4_sideAt 20 = .ok (.bipush (-4), 2) := by decide +kernel
theorem dX4_sideAt_22 : decode cX4_sideAt 22 = .ok (.ireturn, 1) := by decide +kernel
theorem dX4_goTo_0 : decode cX4_goTo 0 = .ok (.aload_n 0, 1) := by decide +kernel
theorem dX4_goTo_1 : decode cX4_goTo 1 = .ok (.iload_n 1, 1) := by decide +kernel
theorem dX4_goTo_2 : decode cX4_goTo 2 = .ok (.iload_n 2, 1) := by decide +kernel
theorem dX4_goTo_3 : decode cX4_goTo 3 = .ok (.bipush 9, 2) := by decide +kernel
theorem dX4_goTo_5 : decode cX4_goTo 5 = .ok (.idiv, 1) := by decide +kernel
theorem dX4_goTo_6 : decode cX4_goTo 6 = .ok (.iload_n 2, 1) := by decide +kernel
theorem dX4_goTo_7 : decode cX4_goTo 7 = .ok (.bipush 9, 2) := by decide +kernel
theorem dX4_goTo_9 : decode cX4_goTo 9 = .ok (.irem, 1) := by decide +kernel
theorem dX4_goTo_10 : decode cX4_goTo 10 = .ok (.invokevirtual 59, 3) := by decide +kernel
theorem dX4_goTo_13 : decode cX4_goTo 13 = .ok (.return_, 1) := by decide +kernel
theorem dX4_findNext_0 : decode cX4_findNext 0 = .ok (.iload 4, 2) := by decide +kernel
theorem dX4_findNext_2 : decode cX4_findNext 2 = .ok (.istore 5, 2) := by decide +kernel
theorem dX4_findNext_4 : decode cX4_findNext 4 = .ok (.iconst 0, 1) := by decide +kernel
theorem dX4_findNext_5 : decode cX4_findNext 5 = .ok (.istore 6, 2) := by decide +kernel
theorem dX4_findNext_7 : decode cX4_findNext 7 = .ok (.iload 6, 2) := by decide +kernel
theorem dX4_findNext_9 : decode cX4_findNext 9 = .ok (.iconst 4, 1) := by decide +kernel
theorem dX4_findNext_10 : decode cX4_findNext 10 = .ok (.if_icmp .ge 115, 3) := by decide +kernel
theorem dX4_findNext_13 : decode cX4_findNext 13 = .ok (.aload_n 1, 1) := by decide +kernel
theorem dX4_findNext_14 : decode cX4_findNext 14 = .ok (.iload_n 2, 1) := by decide +kernel
theorem dX4_findNext_15 : decode cX4_findNext 15 = .ok (.iload 6, 2) := by decide +kernel
theorem dX4_findNext_17 : decode cX4_findNext 17 = .ok (.invokevirtual 63, 3) := by decide +kernel
theorem dX4_findNext_20 : decode cX4_findNext 20 = .ok (.ifCond .ne 6, 3) := by decide +kernel
theorem dX4_findNext_23 : decode cX4_findNext 23 = .ok (.goto 96, 3) := by decide +kernel
theorem dX4_findNext_26 : decode cX4_findNext 26 = .ok (.iload_n 3, 1) := by decide +kernel
theorem dX4_findNext_27 : decode cX4_findNext 27 = .ok (.getstatic 66, 3) := by decide +kernel
theorem dX4_findNext_30 : decode cX4_findNext 30 = .ok (.iload 6, 2) := by decide +kernel
theorem dX4_findNext_32 : decode cX4_findNext 32 = .ok (.iaload, 1) := by decide +kernel
theorem dX4_findNext_33 : decode cX4_findNext 33 = .ok (.bipush 9, 2) := by decide +kernel
theorem dX4_findNext_35 : decode cX4_findNext 35 = .ok (.imul, 1) := by decide +kernel
theorem dX4_findNext_36 : decode cX4_findNext 36 = .ok (.iadd, 1) := by decide +kernel
theorem dX4_findNext_37 : decode cX4_findNext 37 = .ok (.getstatic 69, 3) := by decide +kernel
theorem dX4_findNext_40 : decode cX4_findNext 40 = .ok (.iload 6, 2) := by decide +kernel
theorem dX4_findNext_42 : decode cX4_findNext 42 = .ok (.iaload, 1) := by decide +kernel
theorem dX4_findNext_43 : decode cX4_findNext 43 = .ok (.iadd, 1) := by decide +kernel
theorem dX4_findNext_44 : decode cX4_findNext 44 = .ok (.istore 7, 2) := by decide +kernel
theorem dX4_findNext_46 : decode cX4_findNext 46 = .ok (.iload 7, 2) := by decide +kernel
theorem dX4_findNext_48 : decode cX4_findNext 48 = .ok (.bipush 81, 2) := by decide +kernel
theorem dX4_findNext_50 : decode cX4_findNext 50 = .ok (.invokestatic 55, 3) := by decide +kernel
theorem dX4_findNext_53 : decode cX4_findNext 53 = .ok (.ifCond .eq 66, 3) := by decide +kernel
theorem dX4_findNext_56 : decode cX4_findNext 56 = .ok (.aload_n 0, 1) := by decide +kernel
theorem dX4_findNext_57 : decode cX4_findNext 57 = .ok (.getfield 21, 3) := by decide +kernel
theorem dX4_findNext_60 : decode cX4_findNext 60 = .ok (.iload 7, 2) := by decide +kernel
theorem dX4_findNext_62 : decode cX4_findNext 62 = .ok (.iaload, 1) := by decide +kernel
theorem dX4_findNext_63 : decode cX4_findNext 63 = .ok (.bipush (-4), 2) := by decide +kernel
theorem dX4_findNext_65 : decode cX4_findNext 65 = .ok (.if_icmp .ne 54, 3) := by decide +kernel
theorem dX4_findNext_68 : decode cX4_findNext 68 = .ok (.iload 5, 2) := by decide +kernel
theorem dX4_findNext_70 : decode cX4_findNext 70 = .ok (.bipush 81, 2) := by decide +kernel
theorem dX4_findNext_72 : decode cX4_findNext 72 = .ok (.if_icmp .ge 47, 3) := by decide +kernel
theorem dX4_findNext_75 : decode cX4_findNext 75 = .ok (.aload_n 0, 1) := by decide +kernel
theorem dX4_findNext_76 : decode cX4_findNext 76 = .ok (.getfield 21, 3) := by decide +kernel
theorem dX4_findNext_79 : decode cX4_findNext 79 = .ok (.iload 7, 2) := by decide +kernel
theorem dX4_findNext_81 : decode cX4_findNext 81 = .ok (.aload_n 0, 1) := by decide +kernel
theorem dX4_findNext_82 : decode cX4_findNext 82 = .ok (.getfield 21, 3) := by decide +kernel
theorem dX4_findNext_85 : decode cX4_findNext 85 = .ok (.iload_n 3, 1) := by decide +kernel
theorem dX4_findNext_86 : decode cX4_findNext 86 = .ok (.iaload, 1) := by decide +kernel
theorem dX4_findNext_87 : decode cX4_findNext 87 = .ok (.iconst 1, 1) := by decide +kernel
theorem dX4_findNext_88 : decode cX4_findNext 88 = .ok (.iadd, 1) := by decide +kernel
theorem dX4_findNext_89 : decode cX4_findNext 89 = .ok (.iastore, 1) := by decide +kernel
theorem dX4_findNext_90 : decode cX4_findNext 90 = .ok (.aload_n 0, 1) := by decide +kernel
theorem dX4_findNext_91 : decode cX4_findNext 91 = .ok (.getfield 15, 3) := by decide +kernel
theorem dX4_findNext_94 : decode cX4_findNext 94 = .ok (.iload 7, 2) := by decide +kernel
theorem dX4_findNext_96 : decode cX4_findNext 96 = .ok (.iload_n 3, 1) := by decide +kernel
theorem dX4_findNext_97 : decode cX4_findNext 97 = .ok (.iastore, 1) := by decide +kernel
theorem dX4_findNext_98 : decode cX4_findNext 98 = .ok (.aload_n 0, 1) := by decide +kernel
theorem dX4_findNext_99 : decode cX4_findNext 99 = .ok (.getfield 18, 3) := by decide +kernel
theorem dX4_findNext_102 : decode cX4_findNext 102 = .ok (.iload 7, 2) := by decide +kernel
theorem dX4_findNext_104 : decode cX4_findNext 104 = .ok (.iload 6, 2) := by decide +kernel
theorem dX4_findNext_106 : decode cX4_findNext 106 = .ok (.iastore, 1) := by decide +kernel
theorem dX4_findNext_107 : decode cX4_findNext 107 = .ok (.aload_n 0, 1) := by decide +kernel
theorem dX4_findNext_108 : decode cX4_findNext 108 = .ok (.getfield 9, 3) := by decide +kernel
theorem dX4_findNext_111 : decode cX4_findNext 111 = .ok (.iload 5, 2) := by decide +kernel
theorem dX4_findNext_113 : decode cX4_findNext 113 = .ok (.iload 7, 2) := by decide +kernel
theorem dX4_findNext_115 : decode cX4_findNext 115 = .ok (.iastore, 1) := by decide +kernel
theorem dX4_findNext_116 : decode cX4_findNext 116 = .ok (.iinc 5 1, 3) := by decide +kernel
theorem dX4_findNext_119 : decode cX4_findNext 119 = .ok (.iinc 6 1, 3) := by decide +kernel
theorem dX4_findNext_122 : decode cX4_findNext 122 = .ok (.goto (-115), 3) := by decide +kernel
theorem dX4_findNext_125 : decode cX4_findNext 125 = .ok (.iload 5, 2) := by decide +kernel
theorem dX4_findNext_127 : decode cX4_findNext 127 = .ok (.ireturn, 1) := by decide +kernel
theorem dX4_noteRow_0 : decode cX4_noteRow 0 = .ok (.aload_n 0, 1) := by decide +kernel
theorem dX4_noteRow_1 : decode cX4_noteRow 1 = .ok (.aload_n 0, 1) := by decide +kernel
theorem dX4_noteRow_2 : decode cX4_noteRow 2 = .ok (.getfield 21, 3) := by decide +kernel
theorem dX4_noteRow_5 : decode cX4_noteRow 5 = .ok (.iload_n 1, 1) := by decide +kernel
theorem dX4_noteRow_6 : decode cX4_noteRow 6 = .ok (.iaload, 1) := by decide +kernel
theorem dX4_noteRow_7 : decode cX4_noteRow 7 = .ok (.putfield 27, 3) := by decide +kernel
theorem dX4_noteRow_10 : decode cX4_noteRow 10 = .ok (.iload_n 1, 1) := by decide +kernel
theorem dX4_noteRow_11 : decode cX4_noteRow 11 = .ok (.istore_n 2, 1) := by decide +kernel
theorem dX4_noteRow_12 : decode cX4_noteRow 12 = .ok (.aload_n 0, 1) := by decide +kernel
theorem dX4_noteRow_13 : decode cX4_noteRow 13 = .ok (.getfield 27, 3) := by decide +kernel
theorem dX4_noteRow_16 : decode cX4_noteRow 16 = .ok (.iconst 1, 1) := by decide +kernel
theorem dX4_noteRow_17 : decode cX4_noteRow 17 = .ok (.isub, 1) := by decide +kernel
theorem dX4_noteRow_18 : decode cX4_noteRow 18 = .ok (.istore_n 3, 1) := by decide +kernel
theorem dX4_noteRow_19 : decode cX4_noteRow 19 = .ok (.iload_n 3, 1) := by decide +kernel
theorem dX4_noteRow_20 : decode cX4_noteRow 20 = .ok (.ifCond .lt 28, 3) := by decide +kernel
theorem dX4_noteRow_23 : decode cX4_noteRow 23 = .ok (.aload_n 0, 1) := by decide +kernel
theorem dX4_noteRow_24 : decode cX4_noteRow 24 = .ok (.getfield 24, 3) := by decide +kernel
theorem dX4_noteRow_27 : decode cX4_noteRow 27 = .ok (.iload_n 3, 1) := by decide +kernel
theorem dX4_noteRow_28 : decode cX4_noteRow 28 = .ok (.aload_n 0, 1) := by decide +kernel
theorem dX4_noteRow_29 : decode cX4_noteRow 29 = .ok (.getfield 18, 3) := by decide +kernel
theorem dX4_noteRow_32 : decode cX4_noteRow 32 = .ok (.iload_n 2, 1) := by decide +kernel
theorem dX4_noteRow_33 : decode cX4_noteRow 33 = .ok (.iaload, 1) := by decide +kernel
theorem dX4_noteRow_34 : decode cX4_noteRow 34 = .ok (.iastore, 1) := by decide +kernel
theorem dX4_noteRow_35 : decode cX4_noteRow 35 = .ok (.aload_n 0, 1) := by decide +kernel
theorem dX4_noteRow_36 : decode cX4_noteRow 36 = .ok (.getfield 15, 3) := by decide +kernel
theorem dX4_noteRow_39 : decode cX4_noteRow 39 = .ok (.iload_n 2, 1) := by decide +kernel
theorem dX4_noteRow_40 : decode cX4_noteRow 40 = .ok (.iaload, 1) := by decide +kernel
theorem dX4_noteRow_41 : decode cX4_noteRow 41 = .ok (.istore_n 2, 1) := by decide +kernel
theorem dX4_noteRow_42 : decode cX4_noteRow 42 = .ok (.iinc 3 (-1), 3) := by decide +kernel
theorem dX4_noteRow_45 : decode cX4_noteRow 45 = .ok (.goto (-26), 3) := by decide +kernel
theorem dX4_noteRow_48 : decode cX4_noteRow 48 = .ok (.return_, 1) := by decide +kernel
theorem dX5_init_0 : decode cX5_init 0 = .ok (.aload_n 0, 1) := by decide +kernel
theorem dX5_init_1 : decode cX5_init 1 = .ok (.invokespecial 3, 3) := by decide +kernel
theorem dX5_init_4 : decode cX5_init 4 = .ok (.aload_n 0, 1) := by decide +kernel
theorem dX5_init_5 : decode cX5_init 5 = .ok (.bipush 6, 2) := by decide +kernel
theorem dX5_init_7 : decode cX5_init 7 = .ok (.newarray .int, 2) := by decide +kernel
theorem dX5_init_9 : decode cX5_init 9 = .ok (.putfield 9, 3) := by decide +kernel
theorem dX5_init_12 : decode cX5_init 12 = .ok (.aload_n 0, 1) := by decide +kernel
theorem dX5_init_13 : decode cX5_init 13 = .ok (.bipush 6, 2) := by decide +kernel
theorem dX5_init_15 : decode cX5_init 15 = .ok (.newarray .int, 2) := by decide +kernel
theorem dX5_init_17 : decode cX5_init 17 = .ok (.putfield 15, 3) := by decide +kernel
theorem dX5_init_20 : decode cX5_init 20 = .ok (.aload_n 0, 1) := by decide +kernel
theorem dX5_init_21 : decode cX5_init 21 = .ok (.bipush 6, 2) := by decide +kernel
theorem dX5_init_23 : decode cX5_init 23 = .ok (.newarray .int, 2) := by decide +kernel
theorem dX5_init_25 : decode cX5_init 25 = .ok (.putfield 18, 3) := by decide +kernel
theorem dX5_init_28 : decode cX5_init 28 = .ok (.aload_n 0, 1) := by decide +kernel
theorem dX5_init_29 : decode cX5_init 29 = .ok (.iconst 0, 1) := by decide +kernel
theorem dX5_init_30 : decode cX5_init 30 = .ok (.putfield 21, 3) := by decide +kernel
theorem dX5_init_33 : decode cX5_init 33 = .ok (.return_, 1) := by decide +kernel
theorem dX5_clear_0 : decode cX5_clear 0 = .ok (.aload_n 0, 1) := by decide +kernel
theorem dX5_clear_1 : decode cX5_clear 1 = .ok (.iconst 0, 1) := by decide +kernel
theorem dX5_clear_2 : decode cX5_clear 2 = .ok (.putfield 21, 3) := by decide +kernel
theorem dX5_clear_5 : decode cX5_clear 5 = .ok (.return_, 1) := by decide +kernel
theorem dX5_add_0 : decode cX5_add 0 = .ok (.aload_n 0, 1) := by decide +kernel
theorem dX5_add_1 : decode cX5_add 1 = .ok (.getfield 21, 3) := by decide +kernel
theorem dX5_add_4 : decode cX5_add 4 = .ok (.bipush 6, 2) := by decide +kernel
theorem dX5_add_6 : decode cX5_add 6 = .ok (.if_icmp .lt 4, 3) := by decide +kernel
theorem dX5_add_9 : decode cX5_add 9 = .ok (.return_, 1) := by decide +kernel
theorem dX5_add_10 : decode cX5_add 10 = .ok (.aload_n 0, 1) := by decide +kernel
theorem dX5_add_11 : decode cX5_add 11 = .ok (.getfield 9, 3) := by decide +kernel
theorem dX5_add_14 : decode cX5_add 14 = .ok (.aload_n 0, 1) := by decide +kernel
theorem dX5_add_15 : decode cX5_add 15 = .ok (.getfield 21, 3) := by decide +kernel
theorem dX5_add_18 : decode cX5_add 18 = .ok (.iload_n 1, 1) := by decide +kernel
theorem dX5_add_19 : decode cX5_add 19 = .ok (.iastore, 1) := by decide +kernel
theorem dX5_add_20 : decode cX5_add 20 = .ok (.aload_n 0, 1) := by decide +kernel
theorem dX5_add_21 : decode cX5_add 21 = .ok (.getfield 15, 3) := by decide +kernel
theorem dX5_add_24 : decode cX5_add 24 = .ok (.aload_n 0, 1) := by decide +kernel
theorem dX5_add_25 : decode cX5_add 25 = .ok (.getfield 21, 3) := by decide +kernel
theorem dX5_add_28 : decode cX5_add 28 = .ok (.iload_n 2, 1) := by decide +kernel
theorem dX5_add_29 : decode cX5_add 29 = .ok (.iastore, 1) := by decide +kernel
theorem dX5_add_30 : decode cX5_add 30 = .ok (.aload_n 0, 1) := by decide +kernel
theorem dX5_add_31 : decode cX5_add 31 = .ok (.getfield 18, 3) := by decide +kernel
theorem dX5_add_34 : decode cX5_add 34 = .ok (.aload_n 0, 1) := by decide +kernel
theorem dX5_add_35 : decode cX5_add 35 = .ok (.getfield 21, 3) := by decide +kernel
theorem dX5_add_38 : decode cX5_add 38 = .ok (.iload_n 3, 1) := by decide +kernel
theorem dX5_add_39 : decode cX5_add 39 = .ok (.iastore, 1) := by decide +kernel
theorem dX5_add_40 : decode cX5_add 40 = .ok (.aload_n 0, 1) := by decide +kernel
theorem dX5_add_41 : decode cX5_add 41 = .ok (.dup, 1) := by decide +kernel
theorem dX5_add_42 : decode cX5_add 42 = .ok (.getfield 21, 3) := by decide +kernel
theorem dX5_add_45 : decode cX5_add 45 = .ok (.iconst 1, 1) := by decide +kernel
theorem dX5_add_46 : decode cX5_add 46 = .ok (.iadd, 1) := by decide +kernel
theorem dX5_add_47 : decode cX5_add 47 = .ok (.putfield 21, 3) := by decide +kernel
theorem dX5_add_50 : decode cX5_add 50 = .ok (.return_, 1) := by decide +kernel
theorem dX5_wouldHold_0 : decode cX5_wouldHold 0 = .ok (.iconst 0, 1) := by decide +kernel
theorem dX5_wouldHold_1 : decode cX5_wouldHold 1 = .ok (.istore 5, 2) := by decide +kernel
theorem dX5_wouldHold_3 : decode cX5_wouldHold 3 = .ok (.iload 5, 2) := by decide +kernel
theorem dX5_wouldHold_5 : decode cX5_wouldHold 5 = .ok (.aload_n 0, 1) := by decide +kernel
theorem dX5_wouldHold_6 : decode cX5_wouldHold 6 = .ok (.getfield 21, 3) := by decide +kernel
theorem dX5_wouldHold_9 : decode cX5_wouldHold 9 = .ok (.if_icmp .ge 46, 3) := by decide +kernel
theorem dX5_wouldHold_12 : decode cX5_wouldHold 12 = .ok (.aload_n 0, 1) := by decide +kernel
theorem dX5_wouldHold_13 : decode cX5_wouldHold 13 = .ok (.getfield 9, 3) := by decide +kernel
theorem dX5_wouldHold_16 : decode cX5_wouldHold 16 = .ok (.iload 5, 2) := by decide +kernel
theorem dX5_wouldHold_18 : decode cX5_wouldHold 18 = .ok (.iaload, 1) := by decide +kernel
theorem dX5_wouldHold_19 : decode cX5_wouldHold 19 = .ok (.iload_n 1, 1) := by decide +kernel
theorem dX5_wouldHold_20 : decode cX5_wouldHold 20 = .ok (.if_icmp .ne 29, 3) := by decide +kernel
theorem dX5_wouldHold_23 : decode cX5_wouldHold 23 = .ok (.iload_n 2, 1) := by decide +kernel
theorem dX5_wouldHold_24 : decode cX5_wouldHold 24 = .ok (.iload_n 3, 1) := by decide +kernel
theorem dX5_wouldHold_25 : decode cX5_wouldHold 25 = .ok (.iload 4, 2) := by decide +kernel
theorem dX5_wouldHold_27 : decode cX5_wouldHold 27 = .ok (.aload_n 0, 1) := by decide +kernel
theorem dX5_wouldHold_28 : decode cX5_wouldHold 28 = .ok (.getfield 15, 3) := by decide +kernel
theorem dX5_wouldHold_31 : decode cX5_wouldHold 31 = .ok (.iload 5, 2) := by decide +kernel
theorem dX5_wouldHold_33 : decode cX5_wouldHold 33 = .ok (.iaload, 1) := by decide +kernel
theorem dX5_wouldHold_34 : decode cX5_wouldHold 34 = .ok (.invokestatic 25, 3) := by decide +kernel
theorem dX5_wouldHold_37 : decode cX5_wouldHold 37 = .ok (.aload_n 0, 1) := by decide +kernel
theorem dX5_wouldHold_38 : decode cX5_wouldHold 38 = .ok (.getfield 18, 3) := by decide +kernel
theorem dX5_wouldHold_41 : decode cX5_wouldHold 41 = .ok (.iload 5, 2) := by decide +kernel
theorem dX5_wouldHold_43 : decode cX5_wouldHold 43 = .ok (.iaload, 1) := by decide +kernel
theorem dX5_wouldHold_44 : decode cX5_wouldHold 44 = .ok (.if_icmp .eq 5, 3) := by decide +kernel
theorem dX5_wouldHold_47 : decode cX5_wouldHold 47 = .ok (.iconst 0, 1) := by decide +kernel
theorem dX5_wouldHold_48 : decode cX5_wouldHold 48 = .ok (.ireturn, 1) := by decide +kernel
theorem dX5_wouldHold_49 : decode cX5_wouldHold 49 = .ok (.iinc 5 1, 3) := by decide +kernel
theorem dX5_wouldHold_52 : decode cX5_wouldHold 52 = .ok (.goto (-49), 3) := by decide +kernel
theorem dX5_wouldHold_55 : decode cX5_wouldHold 55 = .ok (.iconst 1, 1) := by decide +kernel
theorem dX5_wouldHold_56 : decode cX5_wouldHold 56 = .ok (.ireturn, 1) := by decide +kernel
theorem dX6_init_0 : decode cX6_init 0 = .ok (.aload_n 0, 1) := by decide +kernel
theorem dX6_init_1 : decode cX6_init 1 = .ok (.invokespecial 3, 3) := by decide +kernel
theorem dX6_init_4 : decode cX6_init 4 = .ok (.aload_n 0, 1) := by decide +kernel
theorem dX6_init_5 : decode cX6_init 5 = .ok (.sipush 200, 3) := by decide +kernel
theorem dX6_init_8 : decode cX6_init 8 = .ok (.newarray .int, 2) := by decide +kernel
theorem dX6_init_10 : decode cX6_init 10 = .ok (.putfield 9, 3) := by decide +kernel
theorem dX6_init_13 : decode cX6_init 13 = .ok (.aload_n 0, 1) := by decide +kernel
theorem dX6_init_14 : decode cX6_init 14 = .ok (.iconst 0, 1) := by decide +kernel
theorem dX6_init_15 : decode cX6_init 15 = .ok (.putfield 15, 3) := by decide +kernel
theorem dX6_init_18 : decode cX6_init 18 = .ok (.return_, 1) := by decide +kernel
theorem dX6_append_0 : decode cX6_append 0 = .ok (.aload_n 0, 1) := by decide +kernel
theorem dX6_append_1 : decode cX6_append 1 = .ok (.getfield 15, 3) := by decide +kernel
theorem dX6_append_4 : decode cX6_append 4 = .ok (.sipush 200, 3) := by decide +kernel
theorem dX6_append_7 : decode cX6_append 7 = .ok (.if_icmp .ge 23, 3) := by decide +kernel
theorem dX6_append_10 : decode cX6_append 10 = .ok (.aload_n 0, 1) := by decide +kernel
theorem dX6_append_11 : decode cX6_append 11 = .ok (.getfield 9, 3) := by decide +kernel
theorem dX6_append_14 : decode cX6_append 14 = .ok (.aload_n 0, 1) := by decide +kernel
theorem dX6_append_15 : decode cX6_append 15 = .ok (.getfield 15, 3) := by decide +kernel
theorem dX6_append_18 : decode cX6_append 18 = .ok (.iload_n 1, 1) := by decide +kernel
theorem dX6_append_19 : decode cX6_append 19 = .ok (.iastore, 1) := by decide +kernel
theorem dX6_append_20 : decode cX6_append 20 = .ok (.aload_n 0, 1) := by decide +kernel
theorem dX6_append_21 : decode cX6_append 21 = .ok (.dup, 1) := by decide +kernel
theorem dX6_append_22 : decode cX6_append 22 = .ok (.getfield 15, 3) := by decide +kernel
theorem dX6_append_25 : decode cX6_append 25 = .ok (.iconst 1, 1) := by decide +kernel
theorem dX6_append_26 : decode cX6_append 26 = .ok (.iadd, 1) := by decide +kernel
theorem dX6_append_27 : decode cX6_append 27 = .ok (.putfield 15, 3) := by decide +kernel
theorem dX6_append_30 : decode cX6_append 30 = .ok (.return_, 1) := by decide +kernel
theorem dX6_clear_0 : decode cX6_clear 0 = .ok (.aload_n 0, 1) := by decide +kernel
theorem dX6_clear_1 : decode cX6_clear 1 = .ok (.iconst 0, 1) := by decide +kernel
theorem dX6_clear_2 : decode cX6_clear 2 = .ok (.putfield 15, 3) := by decide +kernel
theorem dX6_clear_5 : decode cX6_clear 5 = .ok (.return_, 1) := by decide +kernel
theorem dX6_letterAt_0 : decode cX6_letterAt 0 = .ok (.iload_n 1, 1) := by decide +kernel
theorem dX6_letterAt_1 : decode cX6_letterAt 1 = .ok (.aload_n 0, 1) := by decide +kernel
theorem dX6_letterAt_2 : decode cX6_letterAt 2 = .ok (.getfield 15, 3) := by decide +kernel
theorem dX6_letterAt_5 : decode cX6_letterAt 5 = .ok (.invokestatic 19, 3) := by decide +kernel
theorem dX6_letterAt_8 : decode cX6_letterAt 8 = .ok (.ifCond .eq 12, 3) := by decide +kernel
theorem dX6_letterAt_11 : decode cX6_letterAt 11 = .ok (.aload_n 0, 1) := by decide +kernel
theorem dX6_letterAt_12 : decode cX6_letterAt 12 = .ok (.getfield 9, 3) := by decide +kernel
theorem dX6_letterAt_15 : decode cX6_letterAt 15 = .ok (.iload_n 1, 1) := by decide +kernel
theorem dX6_letterAt_16 : decode cX6_letterAt 16 = .ok (.iaload, 1) := by decide +kernel
theorem dX6_letterAt_17 : decode cX6_letterAt 17 = .ok (.goto 5, 3) := by decide +kernel
theorem dX6_letterAt_20 : decode cX6_letterAt 20 = .ok (.bipush (-4), 2) := by decide +kernel
theorem dX6_letterAt_22 : decode cX6_letterAt 22 = .ok (.ireturn, 1) := by decide +kernel
theorem dX6_isFigure_0 : decode cX6_isFigure 0 = .ok (.aload_n 0, 1) := by decide +kernel
theorem dX6_isFigure_1 : decode cX6_isFigure 1 = .ok (.iload_n 1, 1) := by decide +kernel
theorem dX6_isFigure_2 : decode cX6_isFigure 2 = .ok (.invokevirtual 23, 3) := by decide +kernel
theorem dX6_isFigure_5 : decode cX6_isFigure 5 = .ok (.istore_n 2, 1) := by decide +kernel
theorem dX6_isFigure_6 : decode cX6_isFigure 6 = .ok (.iload_n 2, 1) := by decide +kernel
theorem dX6_isFigure_7 : decode cX6_isFigure 7 = .ok (.bipush 48, 2) := by decide +kernel
theorem dX6_isFigure_9 : decode cX6_isFigure 9 = .ok (.if_icmp .lt 13, 3) := by decide +kernel
theorem dX6_isFigure_12 : decode cX6_isFigure 12 = .ok (.iload_n 2, 1) := by decide +kernel
theorem dX6_isFigure_13 : decode cX6_isFigure 13 = .ok (.bipush 57, 2) := by decide +kernel
theorem dX6_isFigure_15 : decode cX6_isFigure 15 = .ok (.if_icmp .gt 7, 3) := by decide +kernel
theorem dX6_isFigure_18 : decode cX6_isFigure 18 = .ok (.iconst 1, 1) := by decide +kernel
theorem dX6_isFigure_19 : decode cX6_isFigure 19 = .ok (.goto 4, 3) := by decide +kernel
theorem dX6_isFigure_22 : decode cX6_isFigure 22 = .ok (.iconst 0, 1) := by decide +kernel
theorem dX6_isFigure_23 : decode cX6_isFigure 23 = .ok (.ireturn, 1) := by decide +kernel
theorem dX7_init_0 : decode cX7_init 0 = .ok (.aload_n 0, 1) := by decide +kernel
theorem dX7_init_1 : decode cX7_init 1 = .ok (.invokespecial 3, 3) := by decide +kernel
theorem dX7_init_4 : decode cX7_init 4 = .ok (.aload_n 0, 1) := by decide +kernel
theorem dX7_init_5 : decode cX7_init 5 = .ok (.new 9, 3) := by decide +kernel
theorem dX7_init_8 : decode cX7_init 8 = .ok (.dup, 1) := by decide +kernel
theorem dX7_init_9 : decode cX7_init 9 = .ok (.invokespecial 11, 3) := by decide +kernel
theorem dX7_init_12 : decode cX7_init 12 = .ok (.putfield 12, 3) := by decide +kernel
theorem dX7_init_15 : decode cX7_init 15 = .ok (.aload_n 0, 1) := by decide +kernel
theorem dX7_init_16 : decode cX7_init 16 = .ok (.new 16, 3) := by decide +kernel
theorem dX7_init_19 : decode cX7_init 19 = .ok (.dup, 1) := by decide +kernel
theorem dX7_init_20 : decode cX7_init 20 = .ok (.invokespecial 18, 3) := by decide +kernel
theorem dX7_init_23 : decode cX7_init 23 = .ok (.putfield 19, 3) := by decide +kernel
theorem dX7_init_26 : decode cX7_init 26 = .ok (.aload_n 0, 1) := by decide +kernel
theorem dX7_init_27 : decode cX7_init 27 = .ok (.new 23, 3) := by decide +kernel
theorem dX7_init_30 : decode cX7_init 30 = .ok (.dup, 1) := by decide +kernel
theorem dX7_init_31 : decode cX7_init 31 = .ok (.invokespecial 25, 3) := by decide +kernel
theorem dX7_init_34 : decode cX7_init 34 = .ok (.putfield 26, 3) := by decide +kernel
theorem dX7_init_37 : decode cX7_init 37 = .ok (.aload_n 0, 1) := by decide +kernel
theorem dX7_init_38 : decode cX7_init 38 = .ok (.new 23, 3) := by decide +kernel
theorem dX7_init_41 : decode cX7_init 41 = .ok (.dup, 1) := by decide +kernel
theorem dX7_init_42 : decode cX7_init 42 = .ok (.invokespecial 25, 3) := by decide +kernel
theorem dX7_init_45 : decode cX7_init 45 = .ok (.putfield 30, 3) := by decide +kernel
theorem dX7_init_48 : decode cX7_init 48 = .ok (.aload_n 0, 1) := by decide +kernel
theorem dX7_init_49 : decode cX7_init 49 = .ok (.new 33, 3) := by decide +kernel
theorem dX7_init_52 : decode cX7_init 52 = .ok (.dup, 1) := by decide +kernel
theorem dX7_init_53 : decode cX7_init 53 = .ok (.invokespecial 35, 3) := by decide +kernel
theorem dX7_init_56 : decode cX7_init 56 = .ok (.putfield 36, 3) := by decide +kernel
theorem dX7_init_59 : decode cX7_init 59 = .ok (.aload_n 0, 1) := by decide +kernel
theorem dX7_init_60 : decode cX7_init 60 = .ok (.new 40, 3) := by decide +kernel
theorem dX7_init_63 : decode cX7_init 63 = .ok (.dup, 1) := by decide +kernel
theorem dX7_init_64 : decode cX7_init 64 = .ok (.invokespecial 42, 3) := by decide +kernel
theorem dX7_init_67 : decode cX7_init 67 = .ok (.putfield 43, 3) := by decide +kernel
theorem dX7_init_70 : decode cX7_init 70 = .ok (.aload_n 0, 1) := by decide +kernel
theorem dX7_init_71 : decode cX7_init 71 = .ok (.new 47, 3) := by decide +kernel
theorem dX7_init_74 : decode cX7_init 74 = .ok (.dup, 1) := by decide +kernel
theorem dX7_init_75 : decode cX7_init 75 = .ok (.invokespecial 49, 3) := by decide +kernel
theorem dX7_init_78 : decode cX7_init 78 = .ok (.putfield 50, 3) := by decide +kernel
theorem dX7_init_81 : decode cX7_init 81 = .ok (.aload_n 0, 1) := by decide +kernel
theorem dX7_init_82 : decode cX7_init 82 = .ok (.new 54, 3) := by decide +kernel
theorem dX7_init_85 : decode cX7_init 85 = .ok (.dup, 1) := by decide +kernel
theorem dX7_init_86 : decode cX7_init 86 = .ok (.invokespecial 56, 3) := by decide +kernel
theorem dX7_init_89 : decode cX7_init 89 = .ok (.putfield 57, 3) := by decide +kernel
theorem dX7_init_92 : decode cX7_init 92 = .ok (.aload_n 0, 1) := by decide +kernel
theorem dX7_init_93 : decode cX7_init 93 = .ok (.iconst 2, 1) := by decide +kernel
theorem dX7_init_94 : decode cX7_init 94 = .ok (.anewarray 23, 3) := by decide +kernel
theorem dX7_init_97 : decode cX7_init 97 = .ok (.putfield 61, 3) := by decide +kernel
theorem dX7_init_100 : decode cX7_init 100 = .ok (.iconst 0, 1) := by decide +kernel
theorem dX7_init_101 : decode cX7_init 101 = .ok (.istore_n 1, 1) := by decide +kernel
theorem dX7_init_102 : decode cX7_init 102 = .ok (.iload_n 1, 1) := by decide +kernel
theorem dX7_init_103 : decode cX7_init 103 = .ok (.iconst 2, 1) := by decide +kernel
theorem dX7_init_104 : decode cX7_init 104 = .ok (.if_icmp .ge 22, 3) := by decide +kernel
theorem dX7_init_107 : decode cX7_init 107 = .ok (.aload_n 0, 1) := by decide +kernel
theorem dX7_init_108 : decode cX7_init 108 = .ok (.getfield 61, 3) := by decide +kernel
theorem dX7_init_111 : decode cX7_init 111 = .ok (.iload_n 1, 1) := by decide +kernel
theorem dX7_init_112 : decode cX7_init 112 = .ok (.new 23, 3) := by decide +kernel
theorem dX7_init_115 : decode cX7_init 115 = .ok (.dup, 1) := by decide +kernel
theorem dX7_init_116 : decode cX7_init 116 = .ok (.invokespecial 25, 3) := by decide +kernel
theorem dX7_init_119 : decode cX7_init 119 = .ok (.aastore, 1) := by decide +kernel
theorem dX7_init_120 : decode cX7_init 120 = .ok (.iinc 1 1, 3) := by decide +kernel
theorem dX7_init_123 : decode cX7_init 123 = .ok (.goto (-21), 3) := by decide +kernel
theorem dX7_init_126 : decode cX7_init 126 = .ok (.aload_n 0, 1) := by decide +kernel
theorem dX7_init_127 : decode cX7_init 127 = .ok (.iconst 0, 1) := by decide +kernel
theorem dX7_init_128 : decode cX7_init 128 = .ok (.putfield 65, 3) := by decide +kernel
theorem dX7_init_131 : decode cX7_init 131 = .ok (.iconst 0, 1) := by decide +kernel
theorem dX7_init_132 : decode cX7_init 132 = .ok (.istore_n 1, 1) := by decide +kernel
theorem dX7_init_133 : decode cX7_init 133 = .ok (.iload_n 1, 1) := by decide +kernel
theorem dX7_init_134 : decode cX7_init 134 = .ok (.ldc 69, 2) := by decide +kernel
theorem dX7_init_136 : decode cX7_init 136 = .ok (.invokevirtual 71, 3) := by decide +kernel
theorem dX7_init_139 : decode cX7_init 139 = .ok (.if_icmp .ge 22, 3) := by decide +kernel
theorem dX7_init_142 : decode cX7_init 142 = .ok (.aload_n 0, 1) := by decide +kernel
theorem dX7_init_143 : decode cX7_init 143 = .ok (.getfield 12, 3) := by decide +kernel
theorem dX7_init_146 : decode cX7_init 146 = .ok (.ldc 69, 2) := by decide +kernel
theorem dX7_init_148 : decode cX7_init 148 = .ok (.iload_n 1, 1) := by decide +kernel
theorem dX7_init_149 : decode cX7_init 149 = .ok (.invokevirtual 77, 3) := by decide +kernel
theorem dX7_init_152 : decode cX7_init 152 = .ok (.invokevirtual 81, 3) := by decide +kernel
theorem dX7_init_155 : decode cX7_init 155 = .ok (.iinc 1 1, 3) := by decide +kernel
theorem dX7_init_158 : decode cX7_init 158 = .ok (.goto (-25), 3) := by decide +kernel
theorem dX7_init_161 : decode cX7_init 161 = .ok (.aload_n 0, 1) := by decide +kernel
theorem dX7_init_162 : decode cX7_init 162 = .ok (.getfield 19, 3) := by decide +kernel
theorem dX7_init_165 : decode cX7_init 165 = .ok (.aload_n 0, 1) := by decide +kernel
theorem dX7_init_166 : decode cX7_init 166 = .ok (.getfield 26, 3) := by decide +kernel
theorem dX7_init_169 : decode cX7_init 169 = .ok (.aload_n 0, 1) := by decide +kernel
theorem dX7_init_170 : decode cX7_init 170 = .ok (.getfield 12, 3) := by decide +kernel
theorem dX7_init_173 : decode cX7_init 173 = .ok (.invokevirtual 85, 3) := by decide +kernel
theorem dX7_init_176 : decode cX7_init 176 = .ok (.pop, 1) := by decide +kernel
theorem dX7_init_177 : decode cX7_init 177 = .ok (.aload_n 0, 1) := by decide +kernel
theorem dX7_init_178 : decode cX7_init 178 = .ok (.getfield 12, 3) := by decide +kernel
theorem dX7_init_181 : decode cX7_init 181 = .ok (.invokevirtual 89, 3) := by decide +kernel
theorem dX7_init_184 : decode cX7_init 184 = .ok (.return_, 1) := by decide +kernel
theorem dX7_write_0 : decode cX7_write 0 = .ok (.iload_n 1, 1) := by decide +kernel
theorem dX7_write_1 : decode cX7_write 1 = .ok (.bipush 32, 2) := by decide +kernel
theorem dX7_write_3 : decode cX7_write 3 = .ok (.if_icmp .lt 9, 3) := by decide +kernel
theorem dX7_write_6 : decode cX7_write 6 = .ok (.iload_n 1, 1) := by decide +kernel
theorem dX7_write_7 : decode cX7_write 7 = .ok (.bipush 126, 2) := by decide +kernel
theorem dX7_write_9 : decode cX7_write 9 = .ok (.if_icmp .le 5, 3) := by decide +kernel
theorem dX7_write_12 : decode cX7_write 12 = .ok (.iconst (-1), 1) := by decide +kernel
theorem dX7_write_13 : decode cX7_write 13 = .ok (.ireturn, 1) := by decide +kernel
end
section
theorem dX7_write_14 : decode cX7_write 14 = .ok (.aload_n 0, 1) := by decide +kernel
theorem dX7_write_15 : decode cX7_write 15 = .ok (.getfield 12, 3) := by decide +kernel
theorem dX7_write_18 : decode cX7_write 18 = .ok (.getfield 92, 3) := by decide +kernel
theorem dX7_write_21 : decode cX7_write 21 = .ok (.sipush 200, 3) := by decide +kernel
theorem dX7_write_24 : decode cX7_write 24 = .ok (.if_icmp .lt 6, 3) := by decide +kernel
theorem dX7_write_27 : decode cX7_write 27 = .ok (.bipush (-3), 2) := by decide +kernel
theorem dX7_write_29 : decode cX7_write 29 = .ok (.ireturn, 1) := by decide +kernel
theorem dX7_write_30 : decode cX7_write 30 = .ok (.aload_n 0, 1) := by decide +kernel
theorem dX7_write_31 : decode cX7_write 31 = .ok (.getfield 12, 3) := by decide +kernel
theorem dX7_write_34 : decode cX7_write 34 = .ok (.iload_n 1, 1) := by decide +kernel
theorem dX7_write_35 : decode cX7_write 35 = .ok (.invokevirtual 81, 3) := by decide +kernel
theorem dX7_write_38 : decode cX7_write 38 = .ok (.aload_n 0, 1) := by decide +kernel
theorem dX7_write_39 : decode cX7_write 39 = .ok (.getfield 12, 3) := by decide +kernel
theorem dX7_write_42 : decode cX7_write 42 = .ok (.getfield 92, 3) := by decide +kernel
theorem dX7_write_45 : decode cX7_write 45 = .ok (.ireturn, 1) := by decide +kernel
theorem dX7_wipe_0 : decode cX7_wipe 0 = .ok (.aload_n 0, 1) := by decide +kernel
theorem dX7_wipe_1 : decode cX7_wipe 1 = .ok (.getfield 12, 3) := by decide +kernel
theorem dX7_wipe_4 : decode cX7_wipe 4 = .ok (.getfield 92, 3) := by decide +kernel
theorem dX7_wipe_7 : decode cX7_wipe 7 = .ok (.istore_n 1, 1) := by decide +kernel
theorem dX7_wipe_8 : decode cX7_wipe 8 = .ok (.aload_n 0, 1) := by decide +kernel
theorem dX7_wipe_9 : decode cX7_wipe 9 = .ok (.getfield 12, 3) := by decide +kernel
theorem dX7_wipe_12 : decode cX7_wipe 12 = .ok (.invokevirtual 89, 3) := by decide +kernel
theorem dX7_wipe_15 : decode cX7_wipe 15 = .ok (.iload_n 1, 1) := by decide +kernel
theorem dX7_wipe_16 : decode cX7_wipe 16 = .ok (.ireturn, 1) := by decide +kernel
theorem dX7_fault_0 : decode cX7_fault 0 = .ok (.aload_n 0, 1) := by decide +kernel
theorem dX7_fault_1 : decode cX7_fault 1 = .ok (.getfield 19, 3) := by decide +kernel
theorem dX7_fault_4 : decode cX7_fault 4 = .ok (.aload_n 0, 1) := by decide +kernel
theorem dX7_fault_5 : decode cX7_fault 5 = .ok (.getfield 30, 3) := by decide +kernel
theorem dX7_fault_8 : decode cX7_fault 8 = .ok (.aload_n 0, 1) := by decide +kernel
theorem dX7_fault_9 : decode cX7_fault 9 = .ok (.getfield 12, 3) := by decide +kernel
theorem dX7_fault_12 : decode cX7_fault 12 = .ok (.invokevirtual 85, 3) := by decide +kernel
theorem dX7_fault_15 : decode cX7_fault 15 = .ok (.ireturn, 1) := by decide +kernel
theorem dX7_lay_0 : decode cX7_lay 0 = .ok (.aload_n 0, 1) := by decide +kernel
theorem dX7_lay_1 : decode cX7_lay 1 = .ok (.getfield 19, 3) := by decide +kernel
theorem dX7_lay_4 : decode cX7_lay 4 = .ok (.aload_n 0, 1) := by decide +kernel
theorem dX7_lay_5 : decode cX7_lay 5 = .ok (.getfield 30, 3) := by decide +kernel
theorem dX7_lay_8 : decode cX7_lay 8 = .ok (.aload_n 0, 1) := by decide +kernel
theorem dX7_lay_9 : decode cX7_lay 9 = .ok (.getfield 12, 3) := by decide +kernel
theorem dX7_lay_12 : decode cX7_lay 12 = .ok (.invokevirtual 85, 3) := by decide +kernel
theorem dX7_lay_15 : decode cX7_lay 15 = .ok (.bipush (-4), 2) := by decide +kernel
theorem dX7_lay_17 : decode cX7_lay 17 = .ok (.if_icmp .ne 14, 3) := by decide +kernel
theorem dX7_lay_20 : decode cX7_lay 20 = .ok (.aload_n 0, 1) := by decide +kernel
theorem dX7_lay_21 : decode cX7_lay 21 = .ok (.getfield 30, 3) := by decide +kernel
theorem dX7_lay_24 : decode cX7_lay 24 = .ok (.getfield 94, 3) := by decide +kernel
theorem dX7_lay_27 : decode cX7_lay 27 = .ok (.iconst 1, 1) := by decide +kernel
theorem dX7_lay_28 : decode cX7_lay 28 = .ok (.if_icmp .ge 6, 3) := by decide +kernel
theorem dX7_lay_31 : decode cX7_lay 31 = .ok (.bipush (-2), 2) := by decide +kernel
theorem dX7_lay_33 : decode cX7_lay 33 = .ok (.ireturn, 1) := by decide +kernel
theorem dX7_lay_34 : decode cX7_lay 34 = .ok (.aload_n 0, 1) := by decide +kernel
theorem dX7_lay_35 : decode cX7_lay 35 = .ok (.getfield 26, 3) := by decide +kernel
theorem dX7_lay_38 : decode cX7_lay 38 = .ok (.aload_n 0, 1) := by decide +kernel
theorem dX7_lay_39 : decode cX7_lay 39 = .ok (.getfield 30, 3) := by decide +kernel
theorem dX7_lay_42 : decode cX7_lay 42 = .ok (.invokevirtual 97, 3) := by decide +kernel
theorem dX7_lay_45 : decode cX7_lay 45 = .ok (.aload_n 0, 1) := by decide +kernel
theorem dX7_lay_46 : decode cX7_lay 46 = .ok (.getfield 36, 3) := by decide +kernel
theorem dX7_lay_49 : decode cX7_lay 49 = .ok (.invokevirtual 101, 3) := by decide +kernel
theorem dX7_lay_52 : decode cX7_lay 52 = .ok (.aload_n 0, 1) := by decide +kernel
theorem dX7_lay_53 : decode cX7_lay 53 = .ok (.getfield 43, 3) := by decide +kernel
theorem dX7_lay_56 : decode cX7_lay 56 = .ok (.invokevirtual 102, 3) := by decide +kernel
theorem dX7_lay_59 : decode cX7_lay 59 = .ok (.aload_n 0, 1) := by decide +kernel
theorem dX7_lay_60 : decode cX7_lay 60 = .ok (.iconst 0, 1) := by decide +kernel
theorem dX7_lay_61 : decode cX7_lay 61 = .ok (.putfield 65, 3) := by decide +kernel
theorem dX7_lay_64 : decode cX7_lay 64 = .ok (.aload_n 0, 1) := by decide +kernel
theorem dX7_lay_65 : decode cX7_lay 65 = .ok (.getfield 26, 3) := by decide +kernel
theorem dX7_lay_68 : decode cX7_lay 68 = .ok (.getfield 94, 3) := by decide +kernel
theorem dX7_lay_71 : decode cX7_lay 71 = .ok (.ireturn, 1) := by decide +kernel
theorem dX7_person_0 : decode cX7_person 0 = .ok (.aload_n 0, 1) := by decide +kernel
theorem dX7_person_1 : decode cX7_person 1 = .ok (.getfield 26, 3) := by decide +kernel
theorem dX7_person_4 : decode cX7_person 4 = .ok (.iload_n 1, 1) := by decide +kernel
theorem dX7_person_5 : decode cX7_person 5 = .ok (.invokevirtual 103, 3) := by decide +kernel
theorem dX7_person_8 : decode cX7_person 8 = .ok (.ifCond .ne 5, 3) := by decide +kernel
theorem dX7_person_11 : decode cX7_person 11 = .ok (.iconst (-1), 1) := by decide +kernel
theorem dX7_person_12 : decode cX7_person 12 = .ok (.ireturn, 1) := by decide +kernel
theorem dX7_person_13 : decode cX7_person 13 = .ok (.iload_n 2, 1) := by decide +kernel
theorem dX7_person_14 : decode cX7_person 14 = .ok (.tableswitch 121 0 6 #[42, 52, 62, 72, 82, 91, 106], 42) := by decide +kernel
theorem dX7_person_56 : decode cX7_person 56 = .ok (.aload_n 0, 1) := by decide +kernel
theorem dX7_person_57 : decode cX7_person 57 = .ok (.getfield 26, 3) := by decide +kernel
theorem dX7_person_60 : decode cX7_person 60 = .ok (.getfield 107, 3) := by decide +kernel
theorem dX7_person_63 : decode cX7_person 63 = .ok (.iload_n 1, 1) := by decide +kernel
theorem dX7_person_64 : decode cX7_person 64 = .ok (.iaload, 1) := by decide +kernel
theorem dX7_person_65 : decode cX7_person 65 = .ok (.ireturn, 1) := by decide +kernel
theorem dX7_person_66 : decode cX7_person 66 = .ok (.aload_n 0, 1) := by decide +kernel
theorem dX7_person_67 : decode cX7_person 67 = .ok (.getfield 26, 3) := by decide +kernel
theorem dX7_person_70 : decode cX7_person 70 = .ok (.getfield 111, 3) := by decide +kernel
theorem dX7_person_73 : decode cX7_person 73 = .ok (.iload_n 1, 1) := by decide +kernel
theorem dX7_person_74 : decode cX7_person 74 = .ok (.iaload, 1) := by decide +kernel
theorem dX7_person_75 : decode cX7_person 75 = .ok (.ireturn, 1) := by decide +kernel
theorem dX7_person_76 : decode cX7_person 76 = .ok (.aload_n 0, 1) := by decide +kernel
theorem dX7_person_77 : decode cX7_person 77 = .ok (.getfield 26, 3) := by decide +kernel
theorem dX7_person_80 : decode cX7_person 80 = .ok (.getfield 114, 3) := by decide +kernel
theorem dX7_person_83 : decode cX7_person 83 = .ok (.iload_n 1, 1) := by decide +kernel
theorem dX7_person_84 : decode cX7_person 84 = .ok (.iaload, 1) := by decide +kernel
theorem dX7_person_85 : decode cX7_person 85 = .ok (.ireturn, 1) := by decide +kernel
theorem dX7_person_86 : decode cX7_person 86 = .ok (.aload_n 0, 1) := by decide +kernel
theorem dX7_person_87 : decode cX7_person 87 = .ok (.getfield 26, 3) := by decide +kernel
theorem dX7_person_90 : decode cX7_person 90 = .ok (.getfield 117, 3) := by decide +kernel
theorem dX7_person_93 : decode cX7_person 93 = .ok (.iload_n 1, 1) := by decide +kernel
theorem dX7_person_94 : decode cX7_person 94 = .ok (.iaload, 1) := by decide +kernel
theorem dX7_person_95 : decode cX7_person 95 = .ok (.ireturn, 1) := by decide +kernel
theorem dX7_person_96 : decode cX7_person 96 = .ok (.aload_n 0, 1) := by decide +kernel
theorem dX7_person_97 : decode cX7_person 97 = .ok (.getfield 26, 3) := by decide +kernel
theorem dX7_person_100 : decode cX7_person 100 = .ok (.iload_n 1, 1) := by decide +kernel
theorem dX7_person_101 : decode cX7_person 101 = .ok (.invokevirtual 120, 3) := by decide +kernel
theorem dX7_person_104 : decode cX7_person 104 = .ok (.ireturn, 1) := by decide +kernel
theorem dX7_person_105 : decode cX7_person 105 = .ok (.aload_n 0, 1) := by decide +kernel
theorem dX7_person_106 : decode cX7_person 106 = .ok (.getfield 26, 3) := by decide +kernel
theorem dX7_person_109 : decode cX7_person 109 = .ok (.iload_n 1, 1) := by decide +kernel
theorem dX7_person_110 : decode cX7_person 110 = .ok (.bipush 63, 2) := by decide +kernel
theorem dX7_person_112 : decode cX7_person 112 = .ok (.invokevirtual 124, 3) := by decide +kernel
theorem dX7_person_115 : decode cX7_person 115 = .ok (.sipush 10000, 3) := by decide +kernel
theorem dX7_person_118 : decode cX7_person 118 = .ok (.iadd, 1) := by decide +kernel
theorem dX7_person_119 : decode cX7_person 119 = .ok (.ireturn, 1) := by decide +kernel
theorem dX7_person_120 : decode cX7_person 120 = .ok (.aload_n 0, 1) := by decide +kernel
theorem dX7_person_121 : decode cX7_person 121 = .ok (.getfield 26, 3) := by decide +kernel
theorem dX7_person_124 : decode cX7_person 124 = .ok (.iload_n 1, 1) := by decide +kernel
theorem dX7_person_125 : decode cX7_person 125 = .ok (.bipush 63, 2) := by decide +kernel
theorem dX7_person_127 : decode cX7_person 127 = .ok (.invokevirtual 128, 3) := by decide +kernel
theorem dX7_person_130 : decode cX7_person 130 = .ok (.sipush 10000, 3) := by decide +kernel
theorem dX7_person_133 : decode cX7_person 133 = .ok (.iadd, 1) := by decide +kernel
theorem dX7_person_134 : decode cX7_person 134 = .ok (.ireturn, 1) := by decide +kernel
theorem dX7_person_135 : decode cX7_person 135 = .ok (.iconst (-1), 1) := by decide +kernel
theorem dX7_person_136 : decode cX7_person 136 = .ok (.ireturn, 1) := by decide +kernel
theorem dX7_leaning_0 : decode cX7_leaning 0 = .ok (.aload_n 0, 1) := by decide +kernel
theorem dX7_leaning_1 : decode cX7_leaning 1 = .ok (.getfield 26, 3) := by decide +kernel
theorem dX7_leaning_4 : decode cX7_leaning 4 = .ok (.iload_n 1, 1) := by decide +kernel
theorem dX7_leaning_5 : decode cX7_leaning 5 = .ok (.iload_n 2, 1) := by decide +kernel
theorem dX7_leaning_6 : decode cX7_leaning 6 = .ok (.invokevirtual 131, 3) := by decide +kernel
theorem dX7_leaning_9 : decode cX7_leaning 9 = .ok (.ifCond .ne 5, 3) := by decide +kernel
theorem dX7_leaning_12 : decode cX7_leaning 12 = .ok (.iconst (-1), 1) := by decide +kernel
theorem dX7_leaning_13 : decode cX7_leaning 13 = .ok (.ireturn, 1) := by decide +kernel
theorem dX7_leaning_14 : decode cX7_leaning 14 = .ok (.aload_n 0, 1) := by decide +kernel
theorem dX7_leaning_15 : decode cX7_leaning 15 = .ok (.getfield 26, 3) := by decide +kernel
theorem dX7_leaning_18 : decode cX7_leaning 18 = .ok (.iload_n 1, 1) := by decide +kernel
theorem dX7_leaning_19 : decode cX7_leaning 19 = .ok (.iload_n 2, 1) := by decide +kernel
theorem dX7_leaning_20 : decode cX7_leaning 20 = .ok (.invokevirtual 135, 3) := by decide +kernel
theorem dX7_leaning_23 : decode cX7_leaning 23 = .ok (.bipush 20, 2) := by decide +kernel
theorem dX7_leaning_25 : decode cX7_leaning 25 = .ok (.iadd, 1) := by decide +kernel
theorem dX7_leaning_26 : decode cX7_leaning 26 = .ok (.ireturn, 1) := by decide +kernel
theorem dX7_place_0 : decode cX7_place 0 = .ok (.aload_n 0, 1) := by decide +kernel
theorem dX7_place_1 : decode cX7_place 1 = .ok (.getfield 26, 3) := by decide +kernel
theorem dX7_place_4 : decode cX7_place 4 = .ok (.iload_n 1, 1) := by decide +kernel
theorem dX7_place_5 : decode cX7_place 5 = .ok (.iload_n 2, 1) := by decide +kernel
theorem dX7_place_6 : decode cX7_place 6 = .ok (.invokevirtual 138, 3) := by decide +kernel
theorem dX7_place_9 : decode cX7_place 9 = .ok (.ifCond .ne 5, 3) := by decide +kernel
theorem dX7_place_12 : decode cX7_place 12 = .ok (.iconst (-1), 1) := by decide +kernel
theorem dX7_place_13 : decode cX7_place 13 = .ok (.ireturn, 1) := by decide +kernel
theorem dX7_place_14 : decode cX7_place 14 = .ok (.aload_n 0, 1) := by decide +kernel
theorem dX7_place_15 : decode cX7_place 15 = .ok (.getfield 26, 3) := by decide +kernel
theorem dX7_place_18 : decode cX7_place 18 = .ok (.iload_n 1, 1) := by decide +kernel
theorem dX7_place_19 : decode cX7_place 19 = .ok (.iload_n 2, 1) := by decide +kernel
theorem dX7_place_20 : decode cX7_place 20 = .ok (.invokevirtual 141, 3) := by decide +kernel
theorem dX7_place_23 : decode cX7_place 23 = .ok (.ireturn, 1) := by decide +kernel
theorem dX7_pass_0 : decode cX7_pass 0 = .ok (.iload_n 1, 1) := by decide +kernel
theorem dX7_pass_1 : decode cX7_pass 1 = .ok (.iconst 1, 1) := by decide +kernel
theorem dX7_pass_2 : decode cX7_pass 2 = .ok (.if_icmp .lt 9, 3) := by decide +kernel
theorem dX7_pass_5 : decode cX7_pass 5 = .ok (.iload_n 1, 1) := by decide +kernel
theorem dX7_pass_6 : decode cX7_pass 6 = .ok (.bipush 24, 2) := by decide +kernel
theorem dX7_pass_8 : decode cX7_pass 8 = .ok (.if_icmp .le 5, 3) := by decide +kernel
theorem dX7_pass_11 : decode cX7_pass 11 = .ok (.iconst (-1), 1) := by decide +kernel
theorem dX7_pass_12 : decode cX7_pass 12 = .ok (.ireturn, 1) := by decide +kernel
theorem dX7_pass_13 : decode cX7_pass 13 = .ok (.aload_n 0, 1) := by decide +kernel
theorem dX7_pass_14 : decode cX7_pass 14 = .ok (.getfield 36, 3) := by decide +kernel
theorem dX7_pass_17 : decode cX7_pass 17 = .ok (.aload_n 0, 1) := by decide +kernel
theorem dX7_pass_18 : decode cX7_pass 18 = .ok (.getfield 26, 3) := by decide +kernel
theorem dX7_pass_21 : decode cX7_pass 21 = .ok (.invokevirtual 144, 3) := by decide +kernel
theorem dX7_pass_24 : decode cX7_pass 24 = .ok (.iconst 0, 1) := by decide +kernel
theorem dX7_pass_25 : decode cX7_pass 25 = .ok (.istore_n 2, 1) := by decide +kernel
theorem dX7_pass_26 : decode cX7_pass 26 = .ok (.iload_n 2, 1) := by decide +kernel
theorem dX7_pass_27 : decode cX7_pass 27 = .ok (.iload_n 1, 1) := by decide +kernel
theorem dX7_pass_28 : decode cX7_pass 28 = .ok (.if_icmp .ge 17, 3) := by decide +kernel
theorem dX7_pass_31 : decode cX7_pass 31 = .ok (.aload_n 0, 1) := by decide +kernel
theorem dX7_pass_32 : decode cX7_pass 32 = .ok (.getfield 26, 3) := by decide +kernel
theorem dX7_pass_35 : decode cX7_pass 35 = .ok (.invokevirtual 147, 3) := by decide +kernel
theorem dX7_pass_38 : decode cX7_pass 38 = .ok (.pop, 1) := by decide +kernel
theorem dX7_pass_39 : decode cX7_pass 39 = .ok (.iinc 2 1, 3) := by decide +kernel
theorem dX7_pass_42 : decode cX7_pass 42 = .ok (.goto (-16), 3) := by decide +kernel
theorem dX7_pass_45 : decode cX7_pass 45 = .ok (.aload_n 0, 1) := by decide +kernel
theorem dX7_pass_46 : decode cX7_pass 46 = .ok (.getfield 26, 3) := by decide +kernel
theorem dX7_pass_49 : decode cX7_pass 49 = .ok (.getfield 150, 3) := by decide +kernel
theorem dX7_pass_52 : decode cX7_pass 52 = .ok (.ireturn, 1) := by decide +kernel
theorem dX7_walk_0 : decode cX7_walk 0 = .ok (.aload_n 0, 1) := by decide +kernel
theorem dX7_walk_1 : decode cX7_walk 1 = .ok (.getfield 26, 3) := by decide +kernel
theorem dX7_walk_4 : decode cX7_walk 4 = .ok (.iload_n 1, 1) := by decide +kernel
theorem dX7_walk_5 : decode cX7_walk 5 = .ok (.invokevirtual 103, 3) := by decide +kernel
theorem dX7_walk_8 : decode cX7_walk 8 = .ok (.ifCond .eq 11, 3) := by decide +kernel
theorem dX7_walk_11 : decode cX7_walk 11 = .ok (.iload_n 2, 1) := by decide +kernel
theorem dX7_walk_12 : decode cX7_walk 12 = .ok (.iconst 4, 1) := by decide +kernel
theorem dX7_walk_13 : decode cX7_walk 13 = .ok (.invokestatic 153, 3) := by decide +kernel
theorem dX7_walk_16 : decode cX7_walk 16 = .ok (.ifCond .ne 5, 3) := by decide +kernel
theorem dX7_walk_19 : decode cX7_walk 19 = .ok (.iconst (-1), 1) := by decide +kernel
theorem dX7_walk_20 : decode cX7_walk 20 = .ok (.ireturn, 1) := by decide +kernel
theorem dX7_walk_21 : decode cX7_walk 21 = .ok (.aload_n 0, 1) := by decide +kernel
theorem dX7_walk_22 : decode cX7_walk 22 = .ok (.getfield 26, 3) := by decide +kernel
theorem dX7_walk_25 : decode cX7_walk 25 = .ok (.iload_n 1, 1) := by decide +kernel
theorem dX7_walk_26 : decode cX7_walk 26 = .ok (.iload_n 2, 1) := by decide +kernel
theorem dX7_walk_27 : decode cX7_walk 27 = .ok (.invokevirtual 156, 3) := by decide +kernel
theorem dX7_walk_30 : decode cX7_walk 30 = .ok (.ifCond .ne 6, 3) := by decide +kernel
theorem dX7_walk_33 : decode cX7_walk 33 = .ok (.bipush (-2), 2) := by decide +kernel
theorem dX7_walk_35 : decode cX7_walk 35 = .ok (.ireturn, 1) := by decide +kernel
theorem dX7_walk_36 : decode cX7_walk 36 = .ok (.aload_n 0, 1) := by decide +kernel
theorem dX7_walk_37 : decode cX7_walk 37 = .ok (.getfield 36, 3) := by decide +kernel
theorem dX7_walk_40 : decode cX7_walk 40 = .ok (.aload_n 0, 1) := by decide +kernel
theorem dX7_walk_41 : decode cX7_walk 41 = .ok (.getfield 26, 3) := by decide +kernel
theorem dX7_walk_44 : decode cX7_walk 44 = .ok (.invokevirtual 144, 3) := by decide +kernel
theorem dX7_walk_47 : decode cX7_walk 47 = .ok (.aload_n 0, 1) := by decide +kernel
theorem dX7_walk_48 : decode cX7_walk 48 = .ok (.getfield 26, 3) := by decide +kernel
theorem dX7_walk_51 : decode cX7_walk 51 = .ok (.iload_n 1, 1) := by decide +kernel
theorem dX7_walk_52 : decode cX7_walk 52 = .ok (.iload_n 2, 1) := by decide +kernel
theorem dX7_walk_53 : decode cX7_walk 53 = .ok (.invokevirtual 159, 3) := by decide +kernel
theorem dX7_walk_56 : decode cX7_walk 56 = .ok (.aload_n 0, 1) := by decide +kernel
theorem dX7_walk_57 : decode cX7_walk 57 = .ok (.getfield 26, 3) := by decide +kernel
theorem dX7_walk_60 : decode cX7_walk 60 = .ok (.getfield 111, 3) := by decide +kernel
theorem dX7_walk_63 : decode cX7_walk 63 = .ok (.iload_n 1, 1) := by decide +kernel
theorem dX7_walk_64 : decode cX7_walk 64 = .ok (.iaload, 1) := by decide +kernel
theorem dX7_walk_65 : decode cX7_walk 65 = .ok (.aload_n 0, 1) := by decide +kernel
theorem dX7_walk_66 : decode cX7_walk 66 = .ok (.getfield 26, 3) := by decide +kernel
theorem dX7_walk_69 : decode cX7_walk 69 = .ok (.getfield 114, 3) := by decide +kernel
theorem dX7_walk_72 : decode cX7_walk 72 = .ok (.iload_n 1, 1) := by decide +kernel
theorem dX7_walk_73 : decode cX7_walk 73 = .ok (.iaload, 1) := by decide +kernel
theorem dX7_walk_74 : decode cX7_walk 74 = .ok (.invokestatic 163, 3) := by decide +kernel
theorem dX7_walk_77 : decode cX7_walk 77 = .ok (.ireturn, 1) := by decide +kernel
theorem dX7_lean_0 : decode cX7_lean 0 = .ok (.aload_n 0, 1) := by decide +kernel
theorem dX7_lean_1 : decode cX7_lean 1 = .ok (.getfield 26, 3) := by decide +kernel
theorem dX7_lean_4 : decode cX7_lean 4 = .ok (.iload_n 1, 1) := by decide +kernel
theorem dX7_lean_5 : decode cX7_lean 5 = .ok (.iload_n 2, 1) := by decide +kernel
theorem dX7_lean_6 : decode cX7_lean 6 = .ok (.invokevirtual 131, 3) := by decide +kernel
theorem dX7_lean_9 : decode cX7_lean 9 = .ok (.ifCond .eq 15, 3) := by decide +kernel
theorem dX7_lean_12 : decode cX7_lean 12 = .ok (.iload_n 3, 1) := by decide +kernel
theorem dX7_lean_13 : decode cX7_lean 13 = .ok (.bipush (-20), 2) := by decide +kernel
theorem dX7_lean_15 : decode cX7_lean 15 = .ok (.if_icmp .lt 9, 3) := by decide +kernel
theorem dX7_lean_18 : decode cX7_lean 18 = .ok (.iload_n 3, 1) := by decide +kernel
theorem dX7_lean_19 : decode cX7_lean 19 = .ok (.bipush 20, 2) := by decide +kernel
theorem dX7_lean_21 : decode cX7_lean 21 = .ok (.if_icmp .le 5, 3) := by decide +kernel
theorem dX7_lean_24 : decode cX7_lean 24 = .ok (.iconst (-1), 1) := by decide +kernel
theorem dX7_lean_25 : decode cX7_lean 25 = .ok (.ireturn, 1) := by decide +kernel
theorem dX7_lean_26 : decode cX7_lean 26 = .ok (.aload_n 0, 1) := by decide +kernel
theorem dX7_lean_27 : decode cX7_lean 27 = .ok (.getfield 36, 3) := by decide +kernel
theorem dX7_lean_30 : decode cX7_lean 30 = .ok (.aload_n 0, 1) := by decide +kernel
theorem dX7_lean_31 : decode cX7_lean 31 = .ok (.getfield 26, 3) := by decide +kernel
theorem dX7_lean_34 : decode cX7_lean 34 = .ok (.invokevirtual 144, 3) := by decide +kernel
theorem dX7_lean_37 : decode cX7_lean 37 = .ok (.aload_n 0, 1) := by decide +kernel
theorem dX7_lean_38 : decode cX7_lean 38 = .ok (.getfield 26, 3) := by decide +kernel
theorem dX7_lean_41 : decode cX7_lean 41 = .ok (.iload_n 1, 1) := by decide +kernel
theorem dX7_lean_42 : decode cX7_lean 42 = .ok (.iload_n 2, 1) := by decide +kernel
theorem dX7_lean_43 : decode cX7_lean 43 = .ok (.invokevirtual 135, 3) := by decide +kernel
theorem dX7_lean_46 : decode cX7_lean 46 = .ok (.istore 4, 2) := by decide +kernel
theorem dX7_lean_48 : decode cX7_lean 48 = .ok (.aload_n 0, 1) := by decide +kernel
theorem dX7_lean_49 : decode cX7_lean 49 = .ok (.getfield 26, 3) := by decide +kernel
theorem dX7_lean_52 : decode cX7_lean 52 = .ok (.iload_n 1, 1) := by decide +kernel
theorem dX7_lean_53 : decode cX7_lean 53 = .ok (.iload_n 2, 1) := by decide +kernel
theorem dX7_lean_54 : decode cX7_lean 54 = .ok (.iload_n 3, 1) := by decide +kernel
theorem dX7_lean_55 : decode cX7_lean 55 = .ok (.invokevirtual 166, 3) := by decide +kernel
theorem dX7_lean_58 : decode cX7_lean 58 = .ok (.iload 4, 2) := by decide +kernel
theorem dX7_lean_60 : decode cX7_lean 60 = .ok (.bipush 20, 2) := by decide +kernel
theorem dX7_lean_62 : decode cX7_lean 62 = .ok (.iadd, 1) := by decide +kernel
theorem dX7_lean_63 : decode cX7_lean 63 = .ok (.ireturn, 1) := by decide +kernel
theorem dX7_undo_0 : decode cX7_undo 0 = .ok (.aload_n 0, 1) := by decide +kernel
theorem dX7_undo_1 : decode cX7_undo 1 = .ok (.getfield 36, 3) := by decide +kernel
theorem dX7_undo_4 : decode cX7_undo 4 = .ok (.getfield 170, 3) := by decide +kernel
theorem dX7_undo_7 : decode cX7_undo 7 = .ok (.iconst 1, 1) := by decide +kernel
theorem dX7_undo_8 : decode cX7_undo 8 = .ok (.if_icmp .ge 6, 3) := by decide +kernel
theorem dX7_undo_11 : decode cX7_undo 11 = .ok (.bipush (-2), 2) := by decide +kernel
theorem dX7_undo_13 : decode cX7_undo 13 = .ok (.ireturn, 1) := by decide +kernel
theorem dX7_undo_14 : decode cX7_undo 14 = .ok (.aload_n 0, 1) := by decide +kernel
theorem dX7_undo_15 : decode cX7_undo 15 = .ok (.getfield 36, 3) := by decide +kernel
theorem dX7_undo_18 : decode cX7_undo 18 = .ok (.aload_n 0, 1) := by decide +kernel
theorem dX7_undo_19 : decode cX7_undo 19 = .ok (.getfield 26, 3) := by decide +kernel
theorem dX7_undo_22 : decode cX7_undo 22 = .ok (.invokevirtual 173, 3) := by decide +kernel
theorem dX7_undo_25 : decode cX7_undo 25 = .ok (.aload_n 0, 1) := by decide +kernel
theorem dX7_undo_26 : decode cX7_undo 26 = .ok (.getfield 36, 3) := by decide +kernel
theorem dX7_undo_29 : decode cX7_undo 29 = .ok (.getfield 170, 3) := by decide +kernel
theorem dX7_undo_32 : decode cX7_undo 32 = .ok (.ireturn, 1) := by decide +kernel
theorem dX7_toward_0 : decode cX7_toward 0 = .ok (.aload_n 0, 1) := by decide +kernel
theorem dX7_toward_1 : decode cX7_toward 1 = .ok (.getfield 26, 3) := by decide +kernel
theorem dX7_toward_4 : decode cX7_toward 4 = .ok (.iload_n 1, 1) := by decide +kernel
theorem dX7_toward_5 : decode cX7_toward 5 = .ok (.invokevirtual 103, 3) := by decide +kernel
theorem dX7_toward_8 : decode cX7_toward 8 = .ok (.ifCond .ne 5, 3) := by decide +kernel
theorem dX7_toward_11 : decode cX7_toward 11 = .ok (.iconst (-1), 1) := by decide +kernel
theorem dX7_toward_12 : decode cX7_toward 12 = .ok (.ireturn, 1) := by decide +kernel
theorem dX7_toward_13 : decode cX7_toward 13 = .ok (.iconst 0, 1) := by decide +kernel
theorem dX7_toward_14 : decode cX7_toward 14 = .ok (.istore_n 2, 1) := by decide +kernel
theorem dX7_toward_15 : decode cX7_toward 15 = .ok (.iconst 0, 1) := by decide +kernel
theorem dX7_toward_16 : decode cX7_toward 16 = .ok (.istore_n 3, 1) := by decide +kernel
theorem dX7_toward_17 : decode cX7_toward 17 = .ok (.iload_n 3, 1) := by decide +kernel
theorem dX7_toward_18 : decode cX7_toward 18 = .ok (.aload_n 0, 1) := by decide +kernel
theorem dX7_toward_19 : decode cX7_toward 19 = .ok (.getfield 26, 3) := by decide +kernel
theorem dX7_toward_22 : decode cX7_toward 22 = .ok (.getfield 94, 3) := by decide +kernel
theorem dX7_toward_25 : decode cX7_toward 25 = .ok (.if_icmp .ge 27, 3) := by decide +kernel
theorem dX7_toward_28 : decode cX7_toward 28 = .ok (.aload_n 0, 1) := by decide +kernel
theorem dX7_toward_29 : decode cX7_toward 29 = .ok (.getfield 26, 3) := by decide +kernel
theorem dX7_toward_32 : decode cX7_toward 32 = .ok (.iload_n 1, 1) := by decide +kernel
theorem dX7_toward_33 : decode cX7_toward 33 = .ok (.iload_n 3, 1) := by decide +kernel
theorem dX7_toward_34 : decode cX7_toward 34 = .ok (.invokevirtual 176, 3) := by decide +kernel
theorem dX7_toward_37 : decode cX7_toward 37 = .ok (.ifCond .eq 9, 3) := by decide +kernel
theorem dX7_toward_40 : decode cX7_toward 40 = .ok (.iload_n 2, 1) := by decide +kernel
theorem dX7_toward_41 : decode cX7_toward 41 = .ok (.iconst 1, 1) := by decide +kernel
theorem dX7_toward_42 : decode cX7_toward 42 = .ok (.iload_n 3, 1) := by decide +kernel
theorem dX7_toward_43 : decode cX7_toward 43 = .ok (.ishl, 1) := by decide +kernel
theorem dX7_toward_44 : decode cX7_toward 44 = .ok (.ior, 1) := by decide +kernel
theorem dX7_toward_45 : decode cX7_toward 45 = .ok (.istore_n 2, 1) := by decide +kernel
theorem dX7_toward_46 : decode cX7_toward 46 = .ok (.iinc 3 1, 3) := by decide +kernel
theorem dX7_toward_49 : decode cX7_toward 49 = .ok (.goto (-32), 3) := by decide +kernel
theorem dX7_toward_52 : decode cX7_toward 52 = .ok (.iload_n 2, 1) := by decide +kernel
theorem dX7_toward_53 : decode cX7_toward 53 = .ok (.ireturn, 1) := by decide +kernel
theorem dX7_looked_0 : decode cX7_looked 0 = .ok (.iload_n 1, 1) := by decide +kernel
theorem dX7_looked_1 : decode cX7_looked 1 = .ok (.iconst 2, 1) := by decide +kernel
theorem dX7_looked_2 : decode cX7_looked 2 = .ok (.invokestatic 153, 3) := by decide +kernel
theorem dX7_looked_5 : decode cX7_looked 5 = .ok (.ifCond .ne 5, 3) := by decide +kernel
theorem dX7_looked_8 : decode cX7_looked 8 = .ok (.iconst (-1), 1) := by decide +kernel
theorem dX7_looked_9 : decode cX7_looked 9 = .ok (.ireturn, 1) := by decide +kernel
theorem dX7_looked_10 : decode cX7_looked 10 = .ok (.iconst 0, 1) := by decide +kernel
theorem dX7_looked_11 : decode cX7_looked 11 = .ok (.istore_n 2, 1) := by decide +kernel
theorem dX7_looked_12 : decode cX7_looked 12 = .ok (.iconst 0, 1) := by decide +kernel
theorem dX7_looked_13 : decode cX7_looked 13 = .ok (.istore_n 3, 1) := by decide +kernel
theorem dX7_looked_14 : decode cX7_looked 14 = .ok (.iconst 0, 1) := by decide +kernel
theorem dX7_looked_15 : decode cX7_looked 15 = .ok (.istore 4, 2) := by decide +kernel
theorem dX7_looked_17 : decode cX7_looked 17 = .ok (.iload 4, 2) := by decide +kernel
theorem dX7_looked_19 : decode cX7_looked 19 = .ok (.aload_n 0, 1) := by decide +kernel
theorem dX7_looked_20 : decode cX7_looked 20 = .ok (.getfield 26, 3) := by decide +kernel
theorem dX7_looked_23 : decode cX7_looked 23 = .ok (.getfield 94, 3) := by decide +kernel
theorem dX7_looked_26 : decode cX7_looked 26 = .ok (.if_icmp .ge 32, 3) := by decide +kernel
theorem dX7_looked_29 : decode cX7_looked 29 = .ok (.aload_n 0, 1) := by decide +kernel
theorem dX7_looked_30 : decode cX7_looked 30 = .ok (.getfield 26, 3) := by decide +kernel
theorem dX7_looked_33 : decode cX7_looked 33 = .ok (.iload 4, 2) := by decide +kernel
theorem dX7_looked_35 : decode cX7_looked 35 = .ok (.invokevirtual 179, 3) := by decide +kernel
theorem dX7_looked_38 : decode cX7_looked 38 = .ok (.istore 5, 2) := by decide +kernel
theorem dX7_looked_40 : decode cX7_looked 40 = .ok (.iload 5, 2) := by decide +kernel
theorem dX7_looked_42 : decode cX7_looked 42 = .ok (.iload_n 3, 1) := by decide +kernel
theorem dX7_looked_43 : decode cX7_looked 43 = .ok (.if_icmp .le 9, 3) := by decide +kernel
theorem dX7_looked_46 : decode cX7_looked 46 = .ok (.iload 4, 2) := by decide +kernel
theorem dX7_looked_48 : decode cX7_looked 48 = .ok (.istore_n 2, 1) := by decide +kernel
theorem dX7_looked_49 : decode cX7_looked 49 = .ok (.iload 5, 2) := by decide +kernel
theorem dX7_looked_51 : decode cX7_looked 51 = .ok (.istore_n 3, 1) := by decide +kernel
theorem dX7_looked_52 : decode cX7_looked 52 = .ok (.iinc 4 1, 3) := by decide +kernel
theorem dX7_looked_55 : decode cX7_looked 55 = .ok (.goto (-38), 3) := by decide +kernel
theorem dX7_looked_58 : decode cX7_looked 58 = .ok (.iload_n 1, 1) := by decide +kernel
theorem dX7_looked_59 : decode cX7_looked 59 = .ok (.ifCond .ne 7, 3) := by decide +kernel
theorem dX7_looked_62 : decode cX7_looked 62 = .ok (.iload_n 2, 1) := by decide +kernel
theorem dX7_looked_63 : decode cX7_looked 63 = .ok (.goto 4, 3) := by decide +kernel
theorem dX7_looked_66 : decode cX7_looked 66 = .ok (.iload_n 3, 1) := by decide +kernel
theorem dX7_looked_67 : decode cX7_looked 67 = .ok (.ireturn, 1) := by decide +kernel
theorem dX7_behind_0 : decode cX7_behind 0 = .ok (.iload_n 1, 1) := by decide +kernel
theorem dX7_behind_1 : decode cX7_behind 1 = .ok (.ifCond .lt 20, 3) := by decide +kernel
theorem dX7_behind_4 : decode cX7_behind 4 = .ok (.iload_n 1, 1) := by decide +kernel
theorem dX7_behind_5 : decode cX7_behind 5 = .ok (.bipush 40, 2) := by decide +kernel
theorem dX7_behind_7 : decode cX7_behind 7 = .ok (.if_icmp .gt 14, 3) := by decide +kernel
theorem dX7_behind_10 : decode cX7_behind 10 = .ok (.aload_n 0, 1) := by decide +kernel
theorem dX7_behind_11 : decode cX7_behind 11 = .ok (.getfield 26, 3) := by decide +kernel
theorem dX7_behind_14 : decode cX7_behind 14 = .ok (.iload_n 2, 1) := by decide +kernel
theorem dX7_behind_15 : decode cX7_behind 15 = .ok (.invokevirtual 103, 3) := by decide +kernel
theorem dX7_behind_18 : decode cX7_behind 18 = .ok (.ifCond .ne 5, 3) := by decide +kernel
theorem dX7_behind_21 : decode cX7_behind 21 = .ok (.iconst (-1), 1) := by decide +kernel
theorem dX7_behind_22 : decode cX7_behind 22 = .ok (.ireturn, 1) := by decide +kernel
theorem dX7_behind_23 : decode cX7_behind 23 = .ok (.aload_n 0, 1) := by decide +kernel
theorem dX7_behind_24 : decode cX7_behind 24 = .ok (.getfield 26, 3) := by decide +kernel
theorem dX7_behind_27 : decode cX7_behind 27 = .ok (.getfield 107, 3) := by decide +kernel
theorem dX7_behind_30 : decode cX7_behind 30 = .ok (.iload_n 2, 1) := by decide +kernel
theorem dX7_behind_31 : decode cX7_behind 31 = .ok (.iaload, 1) := by decide +kernel
theorem dX7_behind_32 : decode cX7_behind 32 = .ok (.aload_n 0, 1) := by decide +kernel
theorem dX7_behind_33 : decode cX7_behind 33 = .ok (.getfield 26, 3) := by decide +kernel
theorem dX7_behind_36 : decode cX7_behind 36 = .ok (.getfield 117, 3) := by decide +kernel
theorem dX7_behind_39 : decode cX7_behind 39 = .ok (.iload_n 2, 1) := by decide +kernel
theorem dX7_behind_40 : decode cX7_behind 40 = .ok (.iaload, 1) := by decide +kernel
theorem dX7_behind_41 : decode cX7_behind 41 = .ok (.aload_n 0, 1) := by decide +kernel
theorem dX7_behind_42 : decode cX7_behind 42 = .ok (.getfield 26, 3) := by decide +kernel
theorem dX7_behind_45 : decode cX7_behind 45 = .ok (.iload_n 2, 1) := by decide +kernel
theorem dX7_behind_46 : decode cX7_behind 46 = .ok (.invokevirtual 120, 3) := by decide +kernel
theorem dX7_behind_49 : decode cX7_behind 49 = .ok (.iload_n 1, 1) := by decide +kernel
theorem dX7_behind_50 : decode cX7_behind 50 = .ok (.invokestatic 182, 3) := by decide +kernel
theorem dX7_behind_53 : decode cX7_behind 53 = .ok (.ireturn, 1) := by decide +kernel
theorem dX7_settled_0 : decode cX7_settled 0 = .ok (.aload_n 0, 1) := by decide +kernel
theorem dX7_settled_1 : decode cX7_settled 1 = .ok (.getfield 30, 3) := by decide +kernel
theorem dX7_settled_4 : decode cX7_settled 4 = .ok (.aload_n 0, 1) := by decide +kernel
theorem dX7_settled_5 : decode cX7_settled 5 = .ok (.getfield 26, 3) := by decide +kernel
theorem dX7_settled_8 : decode cX7_settled 8 = .ok (.invokevirtual 97, 3) := by decide +kernel
theorem dX7_settled_11 : decode cX7_settled 11 = .ok (.iconst 0, 1) := by decide +kernel
theorem dX7_settled_12 : decode cX7_settled 12 = .ok (.istore_n 1, 1) := by decide +kernel
theorem dX7_settled_13 : decode cX7_settled 13 = .ok (.iload_n 1, 1) := by decide +kernel
theorem dX7_settled_14 : decode cX7_settled 14 = .ok (.bipush 20, 2) := by decide +kernel
theorem dX7_settled_16 : decode cX7_settled 16 = .ok (.if_icmp .gt 21, 3) := by decide +kernel
theorem dX7_settled_19 : decode cX7_settled 19 = .ok (.aload_n 0, 1) := by decide +kernel
theorem dX7_settled_20 : decode cX7_settled 20 = .ok (.getfield 30, 3) := by decide +kernel
theorem dX7_settled_23 : decode cX7_settled 23 = .ok (.invokevirtual 147, 3) := by decide +kernel
theorem dX7_settled_26 : decode cX7_settled 26 = .ok (.ifCond .ne 5, 3) := by decide +kernel
theorem dX7_settled_29 : decode cX7_settled 29 = .ok (.iload_n 1, 1) := by decide +kernel
theorem dX7_settled_30 : decode cX7_settled 30 = .ok (.ireturn, 1) := by decide +kernel
theorem dX7_settled_31 : decode cX7_settled 31 = .ok (.iinc 1 1, 3) := by decide +kernel
theorem dX7_settled_34 : decode cX7_settled 34 = .ok (.goto (-21), 3) := by decide +kernel
theorem dX7_settled_37 : decode cX7_settled 37 = .ok (.bipush (-4), 2) := by decide +kernel
theorem dX7_settled_39 : decode cX7_settled 39 = .ok (.ireturn, 1) := by decide +kernel
theorem dX7_steps_0 : decode cX7_steps 0 = .ok (.aload_n 0, 1) := by decide +kernel
theorem dX7_steps_1 : decode cX7_steps 1 = .ok (.getfield 26, 3) := by decide +kernel
theorem dX7_steps_4 : decode cX7_steps 4 = .ok (.iload_n 1, 1) := by decide +kernel
theorem dX7_steps_5 : decode cX7_steps 5 = .ok (.invokevirtual 103, 3) := by decide +kernel
theorem dX7_steps_8 : decode cX7_steps 8 = .ok (.ifCond .eq 17, 3) := by decide +kernel
theorem dX7_steps_11 : decode cX7_steps 11 = .ok (.iload_n 2, 1) := by decide +kernel
theorem dX7_steps_12 : decode cX7_steps 12 = .ok (.bipush 8, 2) := by decide +kernel
theorem dX7_steps_14 : decode cX7_steps 14 = .ok (.invokestatic 153, 3) := by decide +kernel
theorem dX7_steps_17 : decode cX7_steps 17 = .ok (.ifCond .eq 8, 3) := by decide +kernel
theorem dX7_steps_20 : decode cX7_steps 20 = .ok (.iload_n 3, 1) := by decide +kernel
theorem dX7_steps_21 : decode cX7_steps 21 = .ok (.iconst (-1), 1) := by decide +kernel
theorem dX7_steps_22 : decode cX7_steps 22 = .ok (.if_icmp .ge 5, 3) := by decide +kernel
theorem dX7_steps_25 : decode cX7_steps 25 = .ok (.iconst (-1), 1) := by decide +kernel
theorem dX7_steps_26 : decode cX7_steps 26 = .ok (.ireturn, 1) := by decide +kernel
theorem dX7_steps_27 : decode cX7_steps 27 = .ok (.aload_n 0, 1) := by decide +kernel
theorem dX7_steps_28 : decode cX7_steps 28 = .ok (.getfield 30, 3) := by decide +kernel
theorem dX7_steps_31 : decode cX7_steps 31 = .ok (.aload_n 0, 1) := by decide +kernel
theorem dX7_steps_32 : decode cX7_steps 32 = .ok (.getfield 26, 3) := by decide +kernel
theorem dX7_steps_35 : decode cX7_steps 35 = .ok (.invokevirtual 97, 3) := by decide +kernel
theorem dX7_steps_38 : decode cX7_steps 38 = .ok (.aload_n 0, 1) := by decide +kernel
theorem dX7_steps_39 : decode cX7_steps 39 = .ok (.getfield 50, 3) := by decide +kernel
theorem dX7_steps_42 : decode cX7_steps 42 = .ok (.aload_n 0, 1) := by decide +kernel
theorem dX7_steps_43 : decode cX7_steps 43 = .ok (.getfield 30, 3) := by decide +kernel
theorem dX7_steps_46 : decode cX7_steps 46 = .ok (.iload_n 1, 1) := by decide +kernel
theorem dX7_steps_47 : decode cX7_steps 47 = .ok (.iload_n 2, 1) := by decide +kernel
theorem dX7_steps_48 : decode cX7_steps 48 = .ok (.invokevirtual 186, 3) := by decide +kernel
theorem dX7_steps_51 : decode cX7_steps 51 = .ok (.iload_n 3, 1) := by decide +kernel
theorem dX7_steps_52 : decode cX7_steps 52 = .ok (.iconst (-1), 1) := by decide +kernel
theorem dX7_steps_53 : decode cX7_steps 53 = .ok (.if_icmp .ne 13, 3) := by decide +kernel
theorem dX7_steps_56 : decode cX7_steps 56 = .ok (.aload_n 0, 1) := by decide +kernel
theorem dX7_steps_57 : decode cX7_steps 57 = .ok (.getfield 50, 3) := by decide +kernel
theorem dX7_steps_60 : decode cX7_steps 60 = .ok (.getfield 190, 3) := by decide +kernel
theorem dX7_steps_63 : decode cX7_steps 63 = .ok (.goto 11, 3) := by decide +kernel
theorem dX7_steps_66 : decode cX7_steps 66 = .ok (.aload_n 0, 1) := by decide +kernel
theorem dX7_steps_67 : decode cX7_steps 67 = .ok (.getfield 50, 3) := by decide +kernel
theorem dX7_steps_70 : decode cX7_steps 70 = .ok (.iload_n 3, 1) := by decide +kernel
theorem dX7_steps_71 : decode cX7_steps 71 = .ok (.invokevirtual 191, 3) := by decide +kernel
theorem dX7_steps_74 : decode cX7_steps 74 = .ok (.ireturn, 1) := by decide +kernel
theorem dX7_stand_0 : decode cX7_stand 0 = .ok (.aload_n 0, 1) := by decide +kernel
theorem dX7_stand_1 : decode cX7_stand 1 = .ok (.getfield 26, 3) := by decide +kernel
theorem dX7_stand_4 : decode cX7_stand 4 = .ok (.iload_n 1, 1) := by decide +kernel
theorem dX7_stand_5 : decode cX7_stand 5 = .ok (.iload_n 2, 1) := by decide +kernel
theorem dX7_stand_6 : decode cX7_stand 6 = .ok (.invokevirtual 131, 3) := by decide +kernel
theorem dX7_stand_9 : decode cX7_stand 9 = .ok (.ifCond .eq 21, 3) := by decide +kernel
theorem dX7_stand_12 : decode cX7_stand 12 = .ok (.iload_n 3, 1) := by decide +kernel
theorem dX7_stand_13 : decode cX7_stand 13 = .ok (.bipush 8, 2) := by decide +kernel
theorem dX7_stand_15 : decode cX7_stand 15 = .ok (.invokestatic 153, 3) := by decide +kernel
theorem dX7_stand_18 : decode cX7_stand 18 = .ok (.ifCond .eq 12, 3) := by decide +kernel
theorem dX7_stand_21 : decode cX7_stand 21 = .ok (.iload 4, 2) := by decide +kernel
theorem dX7_stand_23 : decode cX7_stand 23 = .ok (.iconst 2, 1) := by decide +kernel
theorem dX7_stand_24 : decode cX7_stand 24 = .ok (.invokestatic 153, 3) := by decide +kernel
theorem dX7_stand_27 : decode cX7_stand 27 = .ok (.ifCond .ne 5, 3) := by decide +kernel
theorem dX7_stand_30 : decode cX7_stand 30 = .ok (.iconst (-1), 1) := by decide +kernel
theorem dX7_stand_31 : decode cX7_stand 31 = .ok (.ireturn, 1) := by decide +kernel
theorem dX7_stand_32 : decode cX7_stand 32 = .ok (.iconst 0, 1) := by decide +kernel
theorem dX7_stand_33 : decode cX7_stand 33 = .ok (.istore 5, 2) := by decide +kernel
theorem dX7_stand_35 : decode cX7_stand 35 = .ok (.bipush (-4), 2) := by decide +kernel
theorem dX7_stand_37 : decode cX7_stand 37 = .ok (.istore 6, 2) := by decide +kernel
theorem dX7_stand_39 : decode cX7_stand 39 = .ok (.aload_n 0, 1) := by decide +kernel
theorem dX7_stand_40 : decode cX7_stand 40 = .ok (.getfield 30, 3) := by decide +kernel
theorem dX7_stand_43 : decode cX7_stand 43 = .ok (.aload_n 0, 1) := by decide +kernel
theorem dX7_stand_44 : decode cX7_stand 44 = .ok (.getfield 26, 3) := by decide +kernel
theorem dX7_stand_47 : decode cX7_stand 47 = .ok (.invokevirtual 97, 3) := by decide +kernel
theorem dX7_stand_50 : decode cX7_stand 50 = .ok (.iconst 0, 1) := by decide +kernel
theorem dX7_stand_51 : decode cX7_stand 51 = .ok (.istore 7, 2) := by decide +kernel
theorem dX7_stand_53 : decode cX7_stand 53 = .ok (.iload 7, 2) := by decide +kernel
theorem dX7_stand_55 : decode cX7_stand 55 = .ok (.aload_n 0, 1) := by decide +kernel
theorem dX7_stand_56 : decode cX7_stand 56 = .ok (.getfield 26, 3) := by decide +kernel
theorem dX7_stand_59 : decode cX7_stand 59 = .ok (.getfield 194, 3) := by decide +kernel
theorem dX7_stand_62 : decode cX7_stand 62 = .ok (.if_icmp .ge 94, 3) := by decide +kernel
theorem dX7_stand_65 : decode cX7_stand 65 = .ok (.iconst 0, 1) := by decide +kernel
theorem dX7_stand_66 : decode cX7_stand 66 = .ok (.istore 8, 2) := by decide +kernel
theorem dX7_stand_68 : decode cX7_stand 68 = .ok (.iload 8, 2) := by decide +kernel
theorem dX7_stand_70 : decode cX7_stand 70 = .ok (.aload_n 0, 1) := by decide +kernel
theorem dX7_stand_71 : decode cX7_stand 71 = .ok (.getfield 26, 3) := by decide +kernel
theorem dX7_stand_74 : decode cX7_stand 74 = .ok (.getfield 197, 3) := by decide +kernel
theorem dX7_stand_77 : decode cX7_stand 77 = .ok (.if_icmp .ge 73, 3) := by decide +kernel
theorem dX7_stand_80 : decode cX7_stand 80 = .ok (.aload_n 0, 1) := by decide +kernel
theorem dX7_stand_81 : decode cX7_stand 81 = .ok (.getfield 26, 3) := by decide +kernel
theorem dX7_stand_84 : decode cX7_stand 84 = .ok (.iload_n 1, 1) := by decide +kernel
theorem dX7_stand_85 : decode cX7_stand 85 = .ok (.iload 7, 2) := by decide +kernel
theorem dX7_stand_87 : decode cX7_stand 87 = .ok (.iload 8, 2) := by decide +kernel
theorem dX7_stand_89 : decode cX7_stand 89 = .ok (.invokevirtual 200, 3) := by decide +kernel
theorem dX7_stand_92 : decode cX7_stand 92 = .ok (.ifCond .ne 6, 3) := by decide +kernel
theorem dX7_stand_95 : decode cX7_stand 95 = .ok (.goto 49, 3) := by decide +kernel
theorem dX7_stand_98 : decode cX7_stand 98 = .ok (.aload_n 0, 1) := by decide +kernel
theorem dX7_stand_99 : decode cX7_stand 99 = .ok (.getfield 30, 3) := by decide +kernel
theorem dX7_stand_102 : decode cX7_stand 102 = .ok (.iload_n 1, 1) := by decide +kernel
theorem dX7_stand_103 : decode cX7_stand 103 = .ok (.iload 7, 2) := by decide +kernel
theorem dX7_stand_105 : decode cX7_stand 105 = .ok (.iload 8, 2) := by decide +kernel
theorem dX7_stand_107 : decode cX7_stand 107 = .ok (.invokevirtual 204, 3) := by decide +kernel
theorem dX7_stand_110 : decode cX7_stand 110 = .ok (.aload_n 0, 1) := by decide +kernel
theorem dX7_stand_111 : decode cX7_stand 111 = .ok (.getfield 30, 3) := by decide +kernel
theorem dX7_stand_114 : decode cX7_stand 114 = .ok (.iload_n 2, 1) := by decide +kernel
theorem dX7_stand_115 : decode cX7_stand 115 = .ok (.invokevirtual 120, 3) := by decide +kernel
theorem dX7_stand_118 : decode cX7_stand 118 = .ok (.iload_n 3, 1) := by decide +kernel
theorem dX7_stand_119 : decode cX7_stand 119 = .ok (.if_icmp .ne 25, 3) := by decide +kernel
theorem dX7_stand_122 : decode cX7_stand 122 = .ok (.iload 5, 2) := by decide +kernel
theorem dX7_stand_124 : decode cX7_stand 124 = .ok (.ifCond .ne 13, 3) := by decide +kernel
theorem dX7_stand_127 : decode cX7_stand 127 = .ok (.iload 7, 2) := by decide +kernel
theorem dX7_stand_129 : decode cX7_stand 129 = .ok (.iload 8, 2) := by decide +kernel
theorem dX7_stand_131 : decode cX7_stand 131 = .ok (.invokestatic 163, 3) := by decide +kernel
theorem dX7_stand_134 : decode cX7_stand 134 = .ok (.goto 5, 3) := by decide +kernel
theorem dX7_stand_137 : decode cX7_stand 137 = .ok (.iload 6, 2) := by decide +kernel
theorem dX7_stand_139 : decode cX7_stand 139 = .ok (.istore 6, 2) := by decide +kernel
theorem dX7_stand_141 : decode cX7_stand 141 = .ok (.iinc 5 1, 3) := by decide +kernel
theorem dX7_stand_144 : decode cX7_stand 144 = .ok (.iinc 8 1, 3) := by decide +kernel
theorem dX7_stand_147 : decode cX7_stand 147 = .ok (.goto (-79), 3) := by decide +kernel
theorem dX7_stand_150 : decode cX7_stand 150 = .ok (.iinc 7 1, 3) := by decide +kernel
theorem dX7_stand_153 : decode cX7_stand 153 = .ok (.goto (-100), 3) := by decide +kernel
theorem dX7_stand_156 : decode cX7_stand 156 = .ok (.iload 4, 2) := by decide +kernel
theorem dX7_stand_158 : decode cX7_stand 158 = .ok (.ifCond .ne 8, 3) := by decide +kernel
theorem dX7_stand_161 : decode cX7_stand 161 = .ok (.iload 5, 2) := by decide +kernel
theorem dX7_stand_163 : decode cX7_stand 163 = .ok (.goto 5, 3) := by decide +kernel
theorem dX7_stand_166 : decode cX7_stand 166 = .ok (.iload 6, 2) := by decide +kernel
theorem dX7_stand_168 : decode cX7_stand 168 = .ok (.ireturn, 1) := by decide +kernel
theorem dX7_marry_0 : decode cX7_marry 0 = .ok (.iload_n 1, 1) := by decide +kernel
theorem dX7_marry_1 : decode cX7_marry 1 = .ok (.iconst (-1), 1) := by decide +kernel
theorem dX7_marry_2 : decode cX7_marry 2 = .ok (.if_icmp .eq 16, 3) := by decide +kernel
theorem dX7_marry_5 : decode cX7_marry 5 = .ok (.aload_n 0, 1) := by decide +kernel
theorem dX7_marry_6 : decode cX7_marry 6 = .ok (.getfield 26, 3) := by decide +kernel
theorem dX7_marry_9 : decode cX7_marry 9 = .ok (.iload_n 1, 1) := by decide +kernel
theorem dX7_marry_10 : decode cX7_marry 10 = .ok (.invokevirtual 103, 3) := by decide +kernel
theorem dX7_marry_13 : decode cX7_marry 13 = .ok (.ifCond .ne 5, 3) := by decide +kernel
theorem dX7_marry_16 : decode cX7_marry 16 = .ok (.iconst (-1), 1) := by decide +kernel
theorem dX7_marry_17 : decode cX7_marry 17 = .ok (.ireturn, 1) := by decide +kernel
theorem dX7_marry_18 : decode cX7_marry 18 = .ok (.aload_n 0, 1) := by decide +kernel
theorem dX7_marry_19 : decode cX7_marry 19 = .ok (.getfield 57, 3) := by decide +kernel
theorem dX7_marry_22 : decode cX7_marry 22 = .ok (.aload_n 0, 1) := by decide +kernel
theorem dX7_marry_23 : decode cX7_marry 23 = .ok (.getfield 26, 3) := by decide +kernel
theorem dX7_marry_26 : decode cX7_marry 26 = .ok (.invokevirtual 207, 3) := by decide +kernel
theorem dX7_marry_29 : decode cX7_marry 29 = .ok (.ifCond .ne 6, 3) := by decide +kernel
theorem dX7_marry_32 : decode cX7_marry 32 = .ok (.bipush (-4), 2) := by decide +kernel
theorem dX7_marry_34 : decode cX7_marry 34 = .ok (.ireturn, 1) := by decide +kernel
theorem dX7_marry_35 : decode cX7_marry 35 = .ok (.iload_n 1, 1) := by decide +kernel
theorem dX7_marry_36 : decode cX7_marry 36 = .ok (.iconst (-1), 1) := by decide +kernel
theorem dX7_marry_37 : decode cX7_marry 37 = .ok (.if_icmp .ne 17, 3) := by decide +kernel
theorem dX7_marry_40 : decode cX7_marry 40 = .ok (.aload_n 0, 1) := by decide +kernel
theorem dX7_marry_41 : decode cX7_marry 41 = .ok (.getfield 57, 3) := by decide +kernel
theorem dX7_marry_44 : decode cX7_marry 44 = .ok (.aload_n 0, 1) := by decide +kernel
theorem dX7_marry_45 : decode cX7_marry 45 = .ok (.getfield 26, 3) := by decide +kernel
theorem dX7_marry_48 : decode cX7_marry 48 = .ok (.invokevirtual 211, 3) := by decide +kernel
theorem dX7_marry_51 : decode cX7_marry 51 = .ok (.goto 12, 3) := by decide +kernel
theorem dX7_marry_54 : decode cX7_marry 54 = .ok (.aload_n 0, 1) := by decide +kernel
theorem dX7_marry_55 : decode cX7_marry 55 = .ok (.getfield 57, 3) := by decide +kernel
theorem dX7_marry_58 : decode cX7_marry 58 = .ok (.getfield 215, 3) := by decide +kernel
theorem dX7_marry_61 : decode cX7_marry 61 = .ok (.iload_n 1, 1) := by decide +kernel
theorem dX7_marry_62 : decode cX7_marry 62 = .ok (.iaload, 1) := by decide +kernel
theorem dX7_marry_63 : decode cX7_marry 63 = .ok (.ireturn, 1) := by decide +kernel
theorem dX7_see_0 : decode cX7_see 0 = .ok (.aload_n 0, 1) := by decide +kernel
theorem dX7_see_1 : decode cX7_see 1 = .ok (.getfield 26, 3) := by decide +kernel
theorem dX7_see_4 : decode cX7_see 4 = .ok (.iload_n 1, 1) := by decide +kernel
theorem dX7_see_5 : decode cX7_see 5 = .ok (.invokevirtual 103, 3) := by decide +kernel
theorem dX7_see_8 : decode cX7_see 8 = .ok (.ifCond .eq 22, 3) := by decide +kernel
theorem dX7_see_11 : decode cX7_see 11 = .ok (.iload_n 2, 1) := by decide +kernel
theorem dX7_see_12 : decode cX7_see 12 = .ok (.ifCond .lt 18, 3) := by decide +kernel
theorem dX7_see_15 : decode cX7_see 15 = .ok (.iload_n 2, 1) := by decide +kernel
theorem dX7_see_16 : decode cX7_see 16 = .ok (.bipush 20, 2) := by decide +kernel
theorem dX7_see_18 : decode cX7_see 18 = .ok (.if_icmp .gt 12, 3) := by decide +kernel
theorem dX7_see_21 : decode cX7_see 21 = .ok (.iload_n 3, 1) := by decide +kernel
theorem dX7_see_22 : decode cX7_see 22 = .ok (.bipush 8, 2) := by decide +kernel
theorem dX7_see_24 : decode cX7_see 24 = .ok (.invokestatic 153, 3) := by decide +kernel
theorem dX7_see_27 : decode cX7_see 27 = .ok (.ifCond .ne 5, 3) := by decide +kernel
theorem dX7_see_30 : decode cX7_see 30 = .ok (.iconst (-1), 1) := by decide +kernel
theorem dX7_see_31 : decode cX7_see 31 = .ok (.ireturn, 1) := by decide +kernel
theorem dX7_see_32 : decode cX7_see 32 = .ok (.aload_n 0, 1) := by decide +kernel
theorem dX7_see_33 : decode cX7_see 33 = .ok (.getfield 43, 3) := by decide +kernel
theorem dX7_see_36 : decode cX7_see 36 = .ok (.getfield 218, 3) := by decide +kernel
theorem dX7_see_39 : decode cX7_see 39 = .ok (.bipush 6, 2) := by decide +kernel
theorem dX7_see_41 : decode cX7_see 41 = .ok (.if_icmp .lt 6, 3) := by decide +kernel
theorem dX7_see_44 : decode cX7_see 44 = .ok (.bipush (-3), 2) := by decide +kernel
theorem dX7_see_46 : decode cX7_see 46 = .ok (.ireturn, 1) := by decide +kernel
theorem dX7_see_47 : decode cX7_see 47 = .ok (.aload_n 0, 1) := by decide +kernel
theorem dX7_see_48 : decode cX7_see 48 = .ok (.getfield 43, 3) := by decide +kernel
theorem dX7_see_51 : decode cX7_see 51 = .ok (.iload_n 1, 1) := by decide +kernel
theorem dX7_see_52 : decode cX7_see 52 = .ok (.iload_n 2, 1) := by decide +kernel
theorem dX7_see_53 : decode cX7_see 53 = .ok (.iload_n 3, 1) := by decide +kernel
theorem dX7_see_54 : decode cX7_see 54 = .ok (.invokevirtual 219, 3) := by decide +kernel
theorem dX7_see_57 : decode cX7_see 57 = .ok (.aload_n 0, 1) := by decide +kernel
theorem dX7_see_58 : decode cX7_see 58 = .ok (.getfield 43, 3) := by decide +kernel
theorem dX7_see_61 : decode cX7_see 61 = .ok (.getfield 218, 3) := by decide +kernel
theorem dX7_see_64 : decode cX7_see 64 = .ok (.ireturn, 1) := by decide +kernel
theorem dX7_forget_0 : decode cX7_forget 0 = .ok (.aload_n 0, 1) := by decide +kernel
theorem dX7_forget_1 : decode cX7_forget 1 = .ok (.getfield 43, 3) := by decide +kernel
theorem dX7_forget_4 : decode cX7_forget 4 = .ok (.getfield 218, 3) := by decide +kernel
theorem dX7_forget_7 : decode cX7_forget 7 = .ok (.istore_n 1, 1) := by decide +kernel
theorem dX7_forget_8 : decode cX7_forget 8 = .ok (.aload_n 0, 1) := by decide +kernel
theorem dX7_forget_9 : decode cX7_forget 9 = .ok (.getfield 43, 3) := by decide +kernel
theorem dX7_forget_12 : decode cX7_forget 12 = .ok (.invokevirtual 102, 3) := by decide +kernel
theorem dX7_forget_15 : decode cX7_forget 15 = .ok (.iload_n 1, 1) := by decide +kernel
theorem dX7_forget_16 : decode cX7_forget 16 = .ok (.ireturn, 1) := by decide +kernel
theorem dX7_kinds_0 : decode cX7_kinds 0 = .ok (.aload_n 0, 1) := by decide +kernel
theorem dX7_kinds_1 : decode cX7_kinds 1 = .ok (.getfield 26, 3) := by decide +kernel
theorem dX7_kinds_4 : decode cX7_kinds 4 = .ok (.iload_n 1, 1) := by decide +kernel
theorem dX7_kinds_5 : decode cX7_kinds 5 = .ok (.invokevirtual 103, 3) := by decide +kernel
theorem dX7_kinds_8 : decode cX7_kinds 8 = .ok (.ifCond .ne 5, 3) := by decide +kernel
theorem dX7_kinds_11 : decode cX7_kinds 11 = .ok (.iconst (-1), 1) := by decide +kernel
theorem dX7_kinds_12 : decode cX7_kinds 12 = .ok (.ireturn, 1) := by decide +kernel
theorem dX7_kinds_13 : decode cX7_kinds 13 = .ok (.iconst 0, 1) := by decide +kernel
theorem dX7_kinds_14 : decode cX7_kinds 14 = .ok (.istore_n 2, 1) := by decide +kernel
theorem dX7_kinds_15 : decode cX7_kinds 15 = .ok (.aload_n 0, 1) := by decide +kernel
theorem dX7_kinds_16 : decode cX7_kinds 16 = .ok (.getfield 26, 3) := by decide +kernel
theorem dX7_kinds_19 : decode cX7_kinds 19 = .ok (.iload_n 1, 1) := by decide +kernel
theorem dX7_kinds_20 : decode cX7_kinds 20 = .ok (.invokevirtual 120, 3) := by decide +kernel
theorem dX7_kinds_23 : decode cX7_kinds 23 = .ok (.istore_n 3, 1) := by decide +kernel
theorem dX7_kinds_24 : decode cX7_kinds 24 = .ok (.iconst 0, 1) := by decide +kernel
theorem dX7_kinds_25 : decode cX7_kinds 25 = .ok (.istore 4, 2) := by decide +kernel
theorem dX7_kinds_27 : decode cX7_kinds 27 = .ok (.iload 4, 2) := by decide +kernel
theorem dX7_kinds_29 : decode cX7_kinds 29 = .ok (.iconst 4, 1) := by decide +kernel
theorem dX7_kinds_30 : decode cX7_kinds 30 = .ok (.if_icmp .ge 39, 3) := by decide +kernel
theorem dX7_kinds_33 : decode cX7_kinds 33 = .ok (.aload_n 0, 1) := by decide +kernel
theorem dX7_kinds_34 : decode cX7_kinds 34 = .ok (.getfield 43, 3) := by decide +kernel
theorem dX7_kinds_37 : decode cX7_kinds 37 = .ok (.iload_n 1, 1) := by decide +kernel
theorem dX7_kinds_38 : decode cX7_kinds 38 = .ok (.iload 4, 2) := by decide +kernel
theorem dX7_kinds_40 : decode cX7_kinds 40 = .ok (.aload_n 0, 1) := by decide +kernel
theorem dX7_kinds_41 : decode cX7_kinds 41 = .ok (.getfield 26, 3) := by decide +kernel
theorem dX7_kinds_44 : decode cX7_kinds 44 = .ok (.getfield 117, 3) := by decide +kernel
theorem dX7_kinds_47 : decode cX7_kinds 47 = .ok (.iload_n 1, 1) := by decide +kernel
theorem dX7_kinds_48 : decode cX7_kinds 48 = .ok (.iaload, 1) := by decide +kernel
theorem dX7_kinds_49 : decode cX7_kinds 49 = .ok (.iload_n 3, 1) := by decide +kernel
theorem dX7_kinds_50 : decode cX7_kinds 50 = .ok (.invokevirtual 222, 3) := by decide +kernel
theorem dX7_kinds_53 : decode cX7_kinds 53 = .ok (.ifCond .eq 10, 3) := by decide +kernel
theorem dX7_kinds_56 : decode cX7_kinds 56 = .ok (.iload_n 2, 1) := by decide +kernel
theorem dX7_kinds_57 : decode cX7_kinds 57 = .ok (.iconst 1, 1) := by decide +kernel
theorem dX7_kinds_58 : decode cX7_kinds 58 = .ok (.iload 4, 2) := by decide +kernel
theorem dX7_kinds_60 : decode cX7_kinds 60 = .ok (.ishl, 1) := by decide +kernel
theorem dX7_kinds_61 : decode cX7_kinds 61 = .ok (.ior, 1) := by decide +kernel
theorem dX7_kinds_62 : decode cX7_kinds 62 = .ok (.istore_n 2, 1) := by decide +kernel
theorem dX7_kinds_63 : decode cX7_kinds 63 = .ok (.iinc 4 1, 3) := by decide +kernel
theorem dX7_kinds_66 : decode cX7_kinds 66 = .ok (.goto (-39), 3) := by decide +kernel
theorem dX7_kinds_69 : decode cX7_kinds 69 = .ok (.iload_n 2, 1) := by decide +kernel
theorem dX7_kinds_70 : decode cX7_kinds 70 = .ok (.ireturn, 1) := by decide +kernel
theorem dX7_loves_0 : decode cX7_loves 0 = .ok (.aload_n 0, 1) := by decide +kernel
theorem dX7_loves_1 : decode cX7_loves 1 = .ok (.getfield 26, 3) := by decide +kernel
theorem dX7_loves_4 : decode cX7_loves 4 = .ok (.iload_n 1, 1) := by decide +kernel
theorem dX7_loves_5 : decode cX7_loves 5 = .ok (.invokevirtual 103, 3) := by decide +kernel
theorem dX7_loves_8 : decode cX7_loves 8 = .ok (.ifCond .eq 12, 3) := by decide +kernel
theorem dX7_loves_11 : decode cX7_loves 11 = .ok (.iload_n 2, 1) := by decide +kernel
theorem dX7_loves_12 : decode cX7_loves 12 = .ok (.bipush 8, 2) := by decide +kernel
theorem dX7_loves_14 : decode cX7_loves 14 = .ok (.invokestatic 153, 3) := by decide +kernel
theorem dX7_loves_17 : decode cX7_loves 17 = .ok (.ifCond .ne 5, 3) := by decide +kernel
theorem dX7_loves_20 : decode cX7_loves 20 = .ok (.iconst (-1), 1) := by decide +kernel
theorem dX7_loves_21 : decode cX7_loves 21 = .ok (.ireturn, 1) := by decide +kernel
theorem dX7_loves_22 : decode cX7_loves 22 = .ok (.iconst 0, 1) := by decide +kernel
theorem dX7_loves_23 : decode cX7_loves 23 = .ok (.istore_n 3, 1) := by decide +kernel
theorem dX7_loves_24 : decode cX7_loves 24 = .ok (.aload_n 0, 1) := by decide +kernel
theorem dX7_loves_25 : decode cX7_loves 25 = .ok (.getfield 30, 3) := by decide +kernel
theorem dX7_loves_28 : decode cX7_loves 28 = .ok (.aload_n 0, 1) := by decide +kernel
theorem dX7_loves_29 : decode cX7_loves 29 = .ok (.getfield 26, 3) := by decide +kernel
theorem dX7_loves_32 : decode cX7_loves 32 = .ok (.invokevirtual 97, 3) := by decide +kernel
theorem dX7_loves_35 : decode cX7_loves 35 = .ok (.iconst 0, 1) := by decide +kernel
theorem dX7_loves_36 : decode cX7_loves 36 = .ok (.istore 4, 2) := by decide +kernel
theorem dX7_loves_38 : decode cX7_loves 38 = .ok (.iload 4, 2) := by decide +kernel
theorem dX7_loves_40 : decode cX7_loves 40 = .ok (.aload_n 0, 1) := by decide +kernel
theorem dX7_loves_41 : decode cX7_loves 41 = .ok (.getfield 26, 3) := by decide +kernel
theorem dX7_loves_44 : decode cX7_loves 44 = .ok (.getfield 94, 3) := by decide +kernel
theorem dX7_loves_47 : decode cX7_loves 47 = .ok (.if_icmp .ge 47, 3) := by decide +kernel
theorem dX7_loves_50 : decode cX7_loves 50 = .ok (.iload 4, 2) := by decide +kernel
theorem dX7_loves_52 : decode cX7_loves 52 = .ok (.iload_n 1, 1) := by decide +kernel
theorem dX7_loves_53 : decode cX7_loves 53 = .ok (.if_icmp .ne 6, 3) := by decide +kernel
theorem dX7_loves_56 : decode cX7_loves 56 = .ok (.goto 32, 3) := by decide +kernel
theorem dX7_loves_59 : decode cX7_loves 59 = .ok (.aload_n 0, 1) := by decide +kernel
theorem dX7_loves_60 : decode cX7_loves 60 = .ok (.getfield 30, 3) := by decide +kernel
theorem dX7_loves_63 : decode cX7_loves 63 = .ok (.iload_n 1, 1) := by decide +kernel
theorem dX7_loves_64 : decode cX7_loves 64 = .ok (.iload 4, 2) := by decide +kernel
theorem dX7_loves_66 : decode cX7_loves 66 = .ok (.invokevirtual 226, 3) := by decide +kernel
theorem dX7_loves_69 : decode cX7_loves 69 = .ok (.aload_n 0, 1) := by decide +kernel
theorem dX7_loves_70 : decode cX7_loves 70 = .ok (.getfield 30, 3) := by decide +kernel
theorem dX7_loves_73 : decode cX7_loves 73 = .ok (.iload_n 1, 1) := by decide +kernel
theorem dX7_loves_74 : decode cX7_loves 74 = .ok (.invokevirtual 120, 3) := by decide +kernel
theorem dX7_loves_77 : decode cX7_loves 77 = .ok (.iload_n 2, 1) := by decide +kernel
theorem dX7_loves_78 : decode cX7_loves 78 = .ok (.if_icmp .ne 10, 3) := by decide +kernel
theorem dX7_loves_81 : decode cX7_loves 81 = .ok (.iload_n 3, 1) := by decide +kernel
theorem dX7_loves_82 : decode cX7_loves 82 = .ok (.iconst 1, 1) := by decide +kernel
theorem dX7_loves_83 : decode cX7_loves 83 = .ok (.iload 4, 2) := by decide +kernel
theorem dX7_loves_85 : decode cX7_loves 85 = .ok (.ishl, 1) := by decide +kernel
theorem dX7_loves_86 : decode cX7_loves 86 = .ok (.ior, 1) := by decide +kernel
theorem dX7_loves_87 : decode cX7_loves 87 = .ok (.istore_n 3, 1) := by decide +kernel
theorem dX7_loves_88 : decode cX7_loves 88 = .ok (.iinc 4 1, 3) := by decide +kernel
theorem dX7_loves_91 : decode cX7_loves 91 = .ok (.goto (-53), 3) := by decide +kernel
theorem dX7_loves_94 : decode cX7_loves 94 = .ok (.iload_n 3, 1) := by decide +kernel
theorem dX7_loves_95 : decode cX7_loves 95 = .ok (.ireturn, 1) := by decide +kernel
theorem dX7_away_0 : decode cX7_away 0 = .ok (.aload_n 0, 1) := by decide +kernel
theorem dX7_away_1 : decode cX7_away 1 = .ok (.getfield 26, 3) := by decide +kernel
theorem dX7_away_4 : decode cX7_away 4 = .ok (.iload_n 1, 1) := by decide +kernel
theorem dX7_away_5 : decode cX7_away 5 = .ok (.invokevirtual 103, 3) := by decide +kernel
theorem dX7_away_8 : decode cX7_away 8 = .ok (.ifCond .eq 31, 3) := by decide +kernel
theorem dX7_away_11 : decode cX7_away 11 = .ok (.iload_n 2, 1) := by decide +kernel
theorem dX7_away_12 : decode cX7_away 12 = .ok (.bipush 8, 2) := by decide +kernel
theorem dX7_away_14 : decode cX7_away 14 = .ok (.invokestatic 153, 3) := by decide +kernel
theorem dX7_away_17 : decode cX7_away 17 = .ok (.ifCond .eq 22, 3) := by decide +kernel
theorem dX7_away_20 : decode cX7_away 20 = .ok (.iload_n 3, 1) := by decide +kernel
theorem dX7_away_21 : decode cX7_away 21 = .ok (.ifCond .lt 18, 3) := by decide +kernel
theorem dX7_away_24 : decode cX7_away 24 = .ok (.iload_n 3, 1) := by decide +kernel
theorem dX7_away_25 : decode cX7_away 25 = .ok (.bipush 10, 2) := by decide +kernel
theorem dX7_away_27 : decode cX7_away 27 = .ok (.if_icmp .gt 12, 3) := by decide +kernel
theorem dX7_away_30 : decode cX7_away 30 = .ok (.iload 4, 2) := by decide +kernel
theorem dX7_away_32 : decode cX7_away 32 = .ok (.iconst 2, 1) := by decide +kernel
theorem dX7_away_33 : decode cX7_away 33 = .ok (.invokestatic 153, 3) := by decide +kernel
theorem dX7_away_36 : decode cX7_away 36 = .ok (.ifCond .ne 5, 3) := by decide +kernel
theorem dX7_away_39 : decode cX7_away 39 = .ok (.iconst (-1), 1) := by decide +kernel
theorem dX7_away_40 : decode cX7_away 40 = .ok (.ireturn, 1) := by decide +kernel
theorem dX7_away_41 : decode cX7_away 41 = .ok (.iconst 0, 1) := by decide +kernel
theorem dX7_away_42 : decode cX7_away 42 = .ok (.istore 5, 2) := by decide +kernel
theorem dX7_away_44 : decode cX7_away 44 = .ok (.iconst 0, 1) := by decide +kernel
theorem dX7_away_45 : decode cX7_away 45 = .ok (.istore 6, 2) := by decide +kernel
theorem dX7_away_47 : decode cX7_away 47 = .ok (.iconst 0, 1) := by decide +kernel
theorem dX7_away_48 : decode cX7_away 48 = .ok (.istore 7, 2) := by decide +kernel
theorem dX7_away_50 : decode cX7_away 50 = .ok (.iload 7, 2) := by decide +kernel
theorem dX7_away_52 : decode cX7_away 52 = .ok (.iconst 1, 1) := by decide +kernel
theorem dX7_away_53 : decode cX7_away 53 = .ok (.aload_n 0, 1) := by decide +kernel
theorem dX7_away_54 : decode cX7_away 54 = .ok (.getfield 26, 3) := by decide +kernel
theorem dX7_away_57 : decode cX7_away 57 = .ok (.getfield 94, 3) := by decide +kernel
theorem dX7_away_60 : decode cX7_away 60 = .ok (.ishl, 1) := by decide +kernel
theorem dX7_away_61 : decode cX7_away 61 = .ok (.if_icmp .ge 59, 3) := by decide +kernel
theorem dX7_away_64 : decode cX7_away 64 = .ok (.iload 7, 2) := by decide +kernel
theorem dX7_away_66 : decode cX7_away 66 = .ok (.iload_n 1, 1) := by decide +kernel
theorem dX7_away_67 : decode cX7_away 67 = .ok (.ishr, 1) := by decide +kernel
theorem dX7_away_68 : decode cX7_away 68 = .ok (.iconst 1, 1) := by decide +kernel
theorem dX7_away_69 : decode cX7_away 69 = .ok (.iand, 1) := by decide +kernel
theorem dX7_away_70 : decode cX7_away 70 = .ok (.ifCond .ne 6, 3) := by decide +kernel
theorem dX7_away_73 : decode cX7_away 73 = .ok (.goto 41, 3) := by decide +kernel
theorem dX7_away_76 : decode cX7_away 76 = .ok (.aload_n 0, 1) := by decide +kernel
theorem dX7_away_77 : decode cX7_away 77 = .ok (.iload 7, 2) := by decide +kernel
theorem dX7_away_79 : decode cX7_away 79 = .ok (.iload_n 1, 1) := by decide +kernel
theorem dX7_away_80 : decode cX7_away 80 = .ok (.iload_n 3, 1) := by decide +kernel
theorem dX7_away_81 : decode cX7_away 81 = .ok (.invokevirtual 229, 3) := by decide +kernel
theorem dX7_away_84 : decode cX7_away 84 = .ok (.istore 8, 2) := by decide +kernel
theorem dX7_away_86 : decode cX7_away 86 = .ok (.iload 6, 2) := by decide +kernel
theorem dX7_away_88 : decode cX7_away 88 = .ok (.iload 8, 2) := by decide +kernel
theorem dX7_away_90 : decode cX7_away 90 = .ok (.iadd, 1) := by decide +kernel
theorem dX7_away_91 : decode cX7_away 91 = .ok (.istore 6, 2) := by decide +kernel
theorem dX7_away_93 : decode cX7_away 93 = .ok (.aload_n 0, 1) := by decide +kernel
theorem dX7_away_94 : decode cX7_away 94 = .ok (.getfield 26, 3) := by decide +kernel
theorem dX7_away_97 : decode cX7_away 97 = .ok (.iload_n 1, 1) := by decide +kernel
theorem dX7_away_98 : decode cX7_away 98 = .ok (.iload 7, 2) := by decide +kernel
theorem dX7_away_100 : decode cX7_away 100 = .ok (.invokevirtual 233, 3) := by decide +kernel
theorem dX7_away_103 : decode cX7_away 103 = .ok (.iload_n 2, 1) := by decide +kernel
theorem dX7_away_104 : decode cX7_away 104 = .ok (.if_icmp .ne 10, 3) := by decide +kernel
theorem dX7_away_107 : decode cX7_away 107 = .ok (.iload 5, 2) := by decide +kernel
theorem dX7_away_109 : decode cX7_away 109 = .ok (.iload 8, 2) := by decide +kernel
theorem dX7_away_111 : decode cX7_away 111 = .ok (.iadd, 1) := by decide +kernel
theorem dX7_away_112 : decode cX7_away 112 = .ok (.istore 5, 2) := by decide +kernel
theorem dX7_away_114 : decode cX7_away 114 = .ok (.iinc 7 1, 3) := by decide +kernel
theorem dX7_away_117 : decode cX7_away 117 = .ok (.goto (-67), 3) := by decide +kernel
theorem dX7_away_120 : decode cX7_away 120 = .ok (.iload 5, 2) := by decide +kernel
theorem dX7_away_122 : decode cX7_away 122 = .ok (.iload 6, 2) := by decide +kernel
theorem dX7_away_124 : decode cX7_away 124 = .ok (.invokestatic 236, 3) := by decide +kernel
theorem dX7_away_127 : decode cX7_away 127 = .ok (.istore 7, 2) := by decide +kernel
theorem dX7_away_129 : decode cX7_away 129 = .ok (.iload 7, 2) := by decide +kernel
theorem dX7_away_131 : decode cX7_away 131 = .ok (.iconst 1, 1) := by decide +kernel
theorem dX7_away_132 : decode cX7_away 132 = .ok (.if_icmp .ge 6, 3) := by decide +kernel
theorem dX7_away_135 : decode cX7_away 135 = .ok (.bipush (-4), 2) := by decide +kernel
theorem dX7_away_137 : decode cX7_away 137 = .ok (.ireturn, 1) := by decide +kernel
theorem dX7_away_138 : decode cX7_away 138 = .ok (.iload 4, 2) := by decide +kernel
theorem dX7_away_140 : decode cX7_away 140 = .ok (.ifCond .ne 8, 3) := by decide +kernel
theorem dX7_away_143 : decode cX7_away 143 = .ok (.iload 5, 2) := by decide +kernel
theorem dX7_away_145 : decode cX7_away 145 = .ok (.goto 5, 3) := by decide +kernel
theorem dX7_away_148 : decode cX7_away 148 = .ok (.iload 6, 2) := by decide +kernel
theorem dX7_away_150 : decode cX7_away 150 = .ok (.iload 7, 2) := by decide +kernel
theorem dX7_away_152 : decode cX7_away 152 = .ok (.idiv, 1) := by decide +kernel
theorem dX7_away_153 : decode cX7_away 153 = .ok (.ireturn, 1) := by decide +kernel
theorem dX7_evening_0 : decode cX7_evening 0 = .ok (.iload_n 1, 1) := by decide +kernel
theorem dX7_evening_1 : decode cX7_evening 1 = .ok (.ifCond .lt 29, 3) := by decide +kernel
theorem dX7_evening_4 : decode cX7_evening 4 = .ok (.iload_n 1, 1) := by decide +kernel
theorem dX7_evening_5 : decode cX7_evening 5 = .ok (.sipush 9999, 3) := by decide +kernel
theorem dX7_evening_8 : decode cX7_evening 8 = .ok (.if_icmp .gt 22, 3) := by decide +kernel
theorem dX7_evening_11 : decode cX7_evening 11 = .ok (.iload_n 2, 1) := by decide +kernel
theorem dX7_evening_12 : decode cX7_evening 12 = .ok (.iconst 1, 1) := by decide +kernel
theorem dX7_evening_13 : decode cX7_evening 13 = .ok (.if_icmp .lt 17, 3) := by decide +kernel
theorem dX7_evening_16 : decode cX7_evening 16 = .ok (.iload_n 2, 1) := by decide +kernel
theorem dX7_evening_17 : decode cX7_evening 17 = .ok (.bipush 60, 2) := by decide +kernel
theorem dX7_evening_19 : decode cX7_evening 19 = .ok (.if_icmp .gt 11, 3) := by decide +kernel
theorem dX7_evening_22 : decode cX7_evening 22 = .ok (.iload_n 3, 1) := by decide +kernel
theorem dX7_evening_23 : decode cX7_evening 23 = .ok (.iconst 2, 1) := by decide +kernel
theorem dX7_evening_24 : decode cX7_evening 24 = .ok (.invokestatic 153, 3) := by decide +kernel
theorem dX7_evening_27 : decode cX7_evening 27 = .ok (.ifCond .ne 5, 3) := by decide +kernel
theorem dX7_evening_30 : decode cX7_evening 30 = .ok (.iconst (-1), 1) := by decide +kernel
theorem dX7_evening_31 : decode cX7_evening 31 = .ok (.ireturn, 1) := by decide +kernel
theorem dX7_evening_32 : decode cX7_evening 32 = .ok (.aload_n 0, 1) := by decide +kernel
theorem dX7_evening_33 : decode cX7_evening 33 = .ok (.getfield 30, 3) := by decide +kernel
theorem dX7_evening_36 : decode cX7_evening 36 = .ok (.aload_n 0, 1) := by decide +kernel
theorem dX7_evening_37 : decode cX7_evening 37 = .ok (.getfield 26, 3) := by decide +kernel
theorem dX7_evening_40 : decode cX7_evening 40 = .ok (.invokevirtual 97, 3) := by decide +kernel
theorem dX7_evening_43 : decode cX7_evening 43 = .ok (.iconst 0, 1) := by decide +kernel
theorem dX7_evening_44 : decode cX7_evening 44 = .ok (.istore 4, 2) := by decide +kernel
theorem dX7_evening_46 : decode cX7_evening 46 = .ok (.iconst 0, 1) := by decide +kernel
theorem dX7_evening_47 : decode cX7_evening 47 = .ok (.istore 5, 2) := by decide +kernel
theorem dX7_evening_49 : decode cX7_evening 49 = .ok (.iload 5, 2) := by decide +kernel
theorem dX7_evening_51 : decode cX7_evening 51 = .ok (.iload_n 2, 1) := by decide +kernel
theorem dX7_evening_52 : decode cX7_evening 52 = .ok (.if_icmp .ge 34, 3) := by decide +kernel
theorem dX7_evening_55 : decode cX7_evening 55 = .ok (.aload_n 0, 1) := by decide +kernel
theorem dX7_evening_56 : decode cX7_evening 56 = .ok (.getfield 30, 3) := by decide +kernel
theorem dX7_evening_59 : decode cX7_evening 59 = .ok (.iload_n 1, 1) := by decide +kernel
theorem dX7_evening_60 : decode cX7_evening 60 = .ok (.iload 5, 2) := by decide +kernel
theorem dX7_evening_62 : decode cX7_evening 62 = .ok (.invokestatic 239, 3) := by decide +kernel
theorem dX7_evening_65 : decode cX7_evening 65 = .ok (.invokevirtual 242, 3) := by decide +kernel
theorem dX7_evening_68 : decode cX7_evening 68 = .ok (.iload 4, 2) := by decide +kernel
theorem dX7_evening_70 : decode cX7_evening 70 = .ok (.aload_n 0, 1) := by decide +kernel
theorem dX7_evening_71 : decode cX7_evening 71 = .ok (.getfield 30, 3) := by decide +kernel
theorem dX7_evening_74 : decode cX7_evening 74 = .ok (.invokevirtual 147, 3) := by decide +kernel
theorem dX7_evening_77 : decode cX7_evening 77 = .ok (.iadd, 1) := by decide +kernel
theorem dX7_evening_78 : decode cX7_evening 78 = .ok (.istore 4, 2) := by decide +kernel
theorem dX7_evening_80 : decode cX7_evening 80 = .ok (.iinc 5 1, 3) := by decide +kernel
theorem dX7_evening_83 : decode cX7_evening 83 = .ok (.goto (-34), 3) := by decide +kernel
theorem dX7_evening_86 : decode cX7_evening 86 = .ok (.iload_n 3, 1) := by decide +kernel
theorem dX7_evening_87 : decode cX7_evening 87 = .ok (.ifCond .ne 13, 3) := by decide +kernel
theorem dX7_evening_90 : decode cX7_evening 90 = .ok (.aload_n 0, 1) := by decide +kernel
theorem dX7_evening_91 : decode cX7_evening 91 = .ok (.getfield 30, 3) := by decide +kernel
theorem dX7_evening_94 : decode cX7_evening 94 = .ok (.invokevirtual 245, 3) := by decide +kernel
theorem dX7_evening_97 : decode cX7_evening 97 = .ok (.goto 5, 3) := by decide +kernel
theorem dX7_evening_100 : decode cX7_evening 100 = .ok (.iload 4, 2) := by decide +kernel
theorem dX7_evening_102 : decode cX7_evening 102 = .ok (.ireturn, 1) := by decide +kernel
theorem dX7_keep_0 : decode cX7_keep 0 = .ok (.aload_n 0, 1) := by decide +kernel
theorem dX7_keep_1 : decode cX7_keep 1 = .ok (.getfield 65, 3) := by decide +kernel
theorem dX7_keep_4 : decode cX7_keep 4 = .ok (.iconst 2, 1) := by decide +kernel
theorem dX7_keep_5 : decode cX7_keep 5 = .ok (.if_icmp .lt 6, 3) := by decide +kernel
theorem dX7_keep_8 : decode cX7_keep 8 = .ok (.bipush (-3), 2) := by decide +kernel
theorem dX7_keep_10 : decode cX7_keep 10 = .ok (.ireturn, 1) := by decide +kernel
theorem dX7_keep_11 : decode cX7_keep 11 = .ok (.aload_n 0, 1) := by decide +kernel
theorem dX7_keep_12 : decode cX7_keep 12 = .ok (.getfield 61, 3) := by decide +kernel
theorem dX7_keep_15 : decode cX7_keep 15 = .ok (.aload_n 0, 1) := by decide +kernel
theorem dX7_keep_16 : decode cX7_keep 16 = .ok (.getfield 65, 3) := by decide +kernel
theorem dX7_keep_19 : decode cX7_keep 19 = .ok (.aaload, 1) := by decide +kernel
theorem dX7_keep_20 : decode cX7_keep 20 = .ok (.aload_n 0, 1) := by decide +kernel
theorem dX7_keep_21 : decode cX7_keep 21 = .ok (.getfield 26, 3) := by decide +kernel
theorem dX7_keep_24 : decode cX7_keep 24 = .ok (.invokevirtual 97, 3) := by decide +kernel
theorem dX7_keep_27 : decode cX7_keep 27 = .ok (.aload_n 0, 1) := by decide +kernel
theorem dX7_keep_28 : decode cX7_keep 28 = .ok (.dup, 1) := by decide +kernel
theorem dX7_keep_29 : decode cX7_keep 29 = .ok (.getfield 65, 3) := by decide +kernel
theorem dX7_keep_32 : decode cX7_keep 32 = .ok (.iconst 1, 1) := by decide +kernel
theorem dX7_keep_33 : decode cX7_keep 33 = .ok (.iadd, 1) := by decide +kernel
theorem dX7_keep_34 : decode cX7_keep 34 = .ok (.putfield 65, 3) := by decide +kernel
theorem dX7_keep_37 : decode cX7_keep 37 = .ok (.aload_n 0, 1) := by decide +kernel
theorem dX7_keep_38 : decode cX7_keep 38 = .ok (.getfield 65, 3) := by decide +kernel
theorem dX7_keep_41 : decode cX7_keep 41 = .ok (.ireturn, 1) := by decide +kernel
theorem dX7_back_0 : decode cX7_back 0 = .ok (.aload_n 0, 1) := by decide +kernel
theorem dX7_back_1 : decode cX7_back 1 = .ok (.getfield 65, 3) := by decide +kernel
theorem dX7_back_4 : decode cX7_back 4 = .ok (.iconst 1, 1) := by decide +kernel
theorem dX7_back_5 : decode cX7_back 5 = .ok (.if_icmp .ge 6, 3) := by decide +kernel
theorem dX7_back_8 : decode cX7_back 8 = .ok (.bipush (-2), 2) := by decide +kernel
theorem dX7_back_10 : decode cX7_back 10 = .ok (.ireturn, 1) := by decide +kernel
theorem dX7_back_11 : decode cX7_back 11 = .ok (.aload_n 0, 1) := by decide +kernel
theorem dX7_back_12 : decode cX7_back 12 = .ok (.dup, 1) := by decide +kernel
theorem dX7_back_13 : decode cX7_back 13 = .ok (.getfield 65, 3) := by decide +kernel
theorem dX7_back_16 : decode cX7_back 16 = .ok (.iconst 1, 1) := by decide +kernel
theorem dX7_back_17 : decode cX7_back 17 = .ok (.isub, 1) := by decide +kernel
theorem dX7_back_18 : decode cX7_back 18 = .ok (.putfield 65, 3) := by decide +kernel
theorem dX7_back_21 : decode cX7_back 21 = .ok (.aload_n 0, 1) := by decide +kernel
theorem dX7_back_22 : decode cX7_back 22 = .ok (.getfield 26, 3) := by decide +kernel
theorem dX7_back_25 : decode cX7_back 25 = .ok (.aload_n 0, 1) := by decide +kernel
theorem dX7_back_26 : decode cX7_back 26 = .ok (.getfield 61, 3) := by decide +kernel
theorem dX7_back_29 : decode cX7_back 29 = .ok (.aload_n 0, 1) := by decide +kernel
theorem dX7_back_30 : decode cX7_back 30 = .ok (.getfield 65, 3) := by decide +kernel
theorem dX7_back_33 : decode cX7_back 33 = .ok (.aaload, 1) := by decide +kernel
theorem dX7_back_34 : decode cX7_back 34 = .ok (.invokevirtual 97, 3) := by decide +kernel
theorem dX7_back_37 : decode cX7_back 37 = .ok (.aload_n 0, 1) := by decide +kernel
theorem dX7_back_38 : decode cX7_back 38 = .ok (.getfield 36, 3) := by decide +kernel
theorem dX7_back_41 : decode cX7_back 41 = .ok (.invokevirtual 101, 3) := by decide +kernel
theorem dX7_back_44 : decode cX7_back 44 = .ok (.aload_n 0, 1) := by decide +kernel
theorem dX7_back_45 : decode cX7_back 45 = .ok (.getfield 65, 3) := by decide +kernel
theorem dX7_back_48 : decode cX7_back 48 = .ok (.ireturn, 1) := by decide +kernel
theorem dX7_count_0 : decode cX7_count 0 = .ok (.iload_n 1, 1) := by decide +kernel
theorem dX7_count_1 : decode cX7_count 1 = .ok (.tableswitch 132 0 9 #[55, 63, 71, 79, 87, 95, 103, 111, 119, 124], 55) := by decide +kernel
theorem dX7_count_56 : decode cX7_count 56 = .ok (.aload_n 0, 1) := by decide +kernel
theorem dX7_count_57 : decode cX7_count 57 = .ok (.getfield 26, 3) := by decide +kernel
theorem dX7_count_60 : decode cX7_count 60 = .ok (.getfield 194, 3) := by decide +kernel
theorem dX7_count_63 : decode cX7_count 63 = .ok (.ireturn, 1) := by decide +kernel
theorem dX7_count_64 : decode cX7_count 64 = .ok (.aload_n 0, 1) := by decide +kernel
theorem dX7_count_65 : decode cX7_count 65 = .ok (.getfield 26, 3) := by decide +kernel
theorem dX7_count_68 : decode cX7_count 68 = .ok (.getfield 197, 3) := by decide +kernel
theorem dX7_count_71 : decode cX7_count 71 = .ok (.ireturn, 1) := by decide +kernel
theorem dX7_count_72 : decode cX7_count 72 = .ok (.aload_n 0, 1) := by decide +kernel
theorem dX7_count_73 : decode cX7_count 73 = .ok (.getfield 26, 3) := by decide +kernel
theorem dX7_count_76 : decode cX7_count 76 = .ok (.getfield 94, 3) := by decide +kernel
theorem dX7_count_79 : decode cX7_count 79 = .ok (.ireturn, 1) := by decide +kernel
theorem dX7_count_80 : decode cX7_count 80 = .ok (.aload_n 0, 1) := by decide +kernel
theorem dX7_count_81 : decode cX7_count 81 = .ok (.getfield 26, 3) := by decide +kernel
theorem dX7_count_84 : decode cX7_count 84 = .ok (.getfield 150, 3) := by decide +kernel
theorem dX7_count_87 : decode cX7_count 87 = .ok (.ireturn, 1) := by decide +kernel
theorem dX7_count_88 : decode cX7_count 88 = .ok (.aload_n 0, 1) := by decide +kernel
theorem dX7_count_89 : decode cX7_count 89 = .ok (.getfield 26, 3) := by decide +kernel
theorem dX7_count_92 : decode cX7_count 92 = .ok (.invokevirtual 248, 3) := by decide +kernel
theorem dX7_count_95 : decode cX7_count 95 = .ok (.ireturn, 1) := by decide +kernel
theorem dX7_count_96 : decode cX7_count 96 = .ok (.aload_n 0, 1) := by decide +kernel
theorem dX7_count_97 : decode cX7_count 97 = .ok (.getfield 26, 3) := by decide +kernel
theorem dX7_count_100 : decode cX7_count 100 = .ok (.invokevirtual 251, 3) := by decide +kernel
theorem dX7_count_103 : decode cX7_count 103 = .ok (.ireturn, 1) := by decide +kernel
theorem dX7_count_104 : decode cX7_count 104 = .ok (.aload_n 0, 1) := by decide +kernel
theorem dX7_count_105 : decode cX7_count 105 = .ok (.getfield 43, 3) := by decide +kernel
theorem dX7_count_108 : decode cX7_count 108 = .ok (.getfield 218, 3) := by decide +kernel
theorem dX7_count_111 : decode cX7_count 111 = .ok (.ireturn, 1) := by decide +kernel
theorem dX7_count_112 : decode cX7_count 112 = .ok (.aload_n 0, 1) := by decide +kernel
theorem dX7_count_113 : decode cX7_count 113 = .ok (.getfield 36, 3) := by decide +kernel
theorem dX7_count_116 : decode cX7_count 116 = .ok (.getfield 170, 3) := by decide +kernel
theorem dX7_count_119 : decode cX7_count 119 = .ok (.ireturn, 1) := by decide +kernel
theorem dX7_count_120 : decode cX7_count 120 = .ok (.aload_n 0, 1) := by decide +kernel
theorem dX7_count_121 : decode cX7_count 121 = .ok (.getfield 65, 3) := by decide +kernel
theorem dX7_count_124 : decode cX7_count 124 = .ok (.ireturn, 1) := by decide +kernel
theorem dX7_count_125 : decode cX7_count 125 = .ok (.aload_n 0, 1) := by decide +kernel
theorem dX7_count_126 : decode cX7_count 126 = .ok (.getfield 12, 3) := by decide +kernel
theorem dX7_count_129 : decode cX7_count 129 = .ok (.getfield 92, 3) := by decide +kernel
theorem dX7_count_132 : decode cX7_count 132 = .ok (.ireturn, 1) := by decide +kernel
theorem dX7_count_133 : decode cX7_count 133 = .ok (.iconst (-1), 1) := by decide +kernel
theorem dX7_count_134 : decode cX7_count 134 = .ok (.ireturn, 1) := by decide +kernel
theorem dX7_isBelow_0 : decode cX7_isBelow 0 = .ok (.iload_n 0, 1) := by decide +kernel
theorem dX7_isBelow_1 : decode cX7_isBelow 1 = .ok (.ifCond .lt 12, 3) := by decide +kernel
theorem dX7_isBelow_4 : decode cX7_isBelow 4 = .ok (.iload_n 0, 1) := by decide +kernel
theorem dX7_isBelow_5 : decode cX7_isBelow 5 = .ok (.iload_n 1, 1) := by decide +kernel
theorem dX7_isBelow_6 : decode cX7_isBelow 6 = .ok (.if_icmp .ge 7, 3) := by decide +kernel
theorem dX7_isBelow_9 : decode cX7_isBelow 9 = .ok (.iconst 1, 1) := by decide +kernel
theorem dX7_isBelow_10 : decode cX7_isBelow 10 = .ok (.goto 4, 3) := by decide +kernel
theorem dX7_isBelow_13 : decode cX7_isBelow 13 = .ok (.iconst 0, 1) := by decide +kernel
theorem dX7_isBelow_14 : decode cX7_isBelow 14 = .ok (.ireturn, 1) := by decide +kernel
theorem dX7_placeNumber_0 : decode cX7_placeNumber 0 = .ok (.bipush 10, 2) := by decide +kernel
theorem dX7_placeNumber_2 : decode cX7_placeNumber 2 = .ok (.iload_n 0, 1) := by decide +kernel
theorem dX7_placeNumber_3 : decode cX7_placeNumber 3 = .ok (.imul, 1) := by decide +kernel
theorem dX7_placeNumber_4 : decode cX7_placeNumber 4 = .ok (.iload_n 1, 1) := by decide +kernel
theorem dX7_placeNumber_5 : decode cX7_placeNumber 5 = .ok (.iadd, 1) := by decide +kernel
theorem dX7_placeNumber_6 : decode cX7_placeNumber 6 = .ok (.ireturn, 1) := by decide +kernel
theorem dX7_weightOf_0 : decode cX7_weightOf 0 = .ok (.iconst 1, 1) := by decide +kernel
theorem dX7_weightOf_1 : decode cX7_weightOf 1 = .ok (.istore 4, 2) := by decide +kernel
theorem dX7_weightOf_3 : decode cX7_weightOf 3 = .ok (.iconst 0, 1) := by decide +kernel
theorem dX7_weightOf_4 : decode cX7_weightOf 4 = .ok (.istore 5, 2) := by decide +kernel
theorem dX7_weightOf_6 : decode cX7_weightOf 6 = .ok (.iload 5, 2) := by decide +kernel
theorem dX7_weightOf_8 : decode cX7_weightOf 8 = .ok (.aload_n 0, 1) := by decide +kernel
theorem dX7_weightOf_9 : decode cX7_weightOf 9 = .ok (.getfield 26, 3) := by decide +kernel
theorem dX7_weightOf_12 : decode cX7_weightOf 12 = .ok (.getfield 94, 3) := by decide +kernel
theorem dX7_weightOf_15 : decode cX7_weightOf 15 = .ok (.if_icmp .ge 38, 3) := by decide +kernel
theorem dX7_weightOf_18 : decode cX7_weightOf 18 = .ok (.iload 5, 2) := by decide +kernel
theorem dX7_weightOf_20 : decode cX7_weightOf 20 = .ok (.iload_n 2, 1) := by decide +kernel
theorem dX7_weightOf_21 : decode cX7_weightOf 21 = .ok (.if_icmp .eq 26, 3) := by decide +kernel
theorem dX7_weightOf_24 : decode cX7_weightOf 24 = .ok (.iload 4, 2) := by decide +kernel
theorem dX7_weightOf_26 : decode cX7_weightOf 26 = .ok (.iload_n 1, 1) := by decide +kernel
theorem dX7_weightOf_27 : decode cX7_weightOf 27 = .ok (.iload 5, 2) := by decide +kernel
theorem dX7_weightOf_29 : decode cX7_weightOf 29 = .ok (.ishr, 1) := by decide +kernel
theorem dX7_weightOf_30 : decode cX7_weightOf 30 = .ok (.iconst 1, 1) := by decide +kernel
theorem dX7_weightOf_31 : decode cX7_weightOf 31 = .ok (.iand, 1) := by decide +kernel
theorem dX7_weightOf_32 : decode cX7_weightOf 32 = .ok (.iconst 1, 1) := by decide +kernel
theorem dX7_weightOf_33 : decode cX7_weightOf 33 = .ok (.if_icmp .ne 10, 3) := by decide +kernel
theorem dX7_weightOf_36 : decode cX7_weightOf 36 = .ok (.bipush 10, 2) := by decide +kernel
theorem dX7_weightOf_38 : decode cX7_weightOf 38 = .ok (.iload_n 3, 1) := by decide +kernel
theorem dX7_weightOf_39 : decode cX7_weightOf 39 = .ok (.isub, 1) := by decide +kernel
theorem dX7_weightOf_40 : decode cX7_weightOf 40 = .ok (.goto 4, 3) := by decide +kernel
theorem dX7_weightOf_43 : decode cX7_weightOf 43 = .ok (.iload_n 3, 1) := by decide +kernel
theorem dX7_weightOf_44 : decode cX7_weightOf 44 = .ok (.imul, 1) := by decide +kernel
theorem dX7_weightOf_45 : decode cX7_weightOf 45 = .ok (.istore 4, 2) := by decide +kernel
theorem dX7_weightOf_47 : decode cX7_weightOf 47 = .ok (.iinc 5 1, 3) := by decide +kernel
theorem dX7_weightOf_50 : decode cX7_weightOf 50 = .ok (.goto (-44), 3) := by decide +kernel
theorem dX7_weightOf_53 : decode cX7_weightOf 53 = .ok (.iload 4, 2) := by decide +kernel
theorem dX7_weightOf_55 : decode cX7_weightOf 55 = .ok (.ireturn, 1) := by decide +kernel
theorem dX7_greatestShared_0 : decode cX7_greatestShared 0 = .ok (.iload_n 0, 1) := by decide +kernel
theorem dX7_greatestShared_1 : decode cX7_greatestShared 1 = .ok (.istore_n 2, 1) := by decide +kernel
theorem dX7_greatestShared_2 : decode cX7_greatestShared 2 = .ok (.iload_n 1, 1) := by decide +kernel
theorem dX7_greatestShared_3 : decode cX7_greatestShared 3 = .ok (.istore_n 3, 1) := by decide +kernel
theorem dX7_greatestShared_4 : decode cX7_greatestShared 4 = .ok (.iconst 0, 1) := by decide +kernel
theorem dX7_greatestShared_5 : decode cX7_greatestShared 5 = .ok (.istore 4, 2) := by decide +kernel
theorem dX7_greatestShared_7 : decode cX7_greatestShared 7 = .ok (.iload 4, 2) := by decide +kernel
theorem dX7_greatestShared_9 : decode cX7_greatestShared 9 = .ok (.bipush 64, 2) := by decide +kernel
theorem dX7_greatestShared_11 : decode cX7_greatestShared 11 = .ok (.if_icmp .ge 23, 3) := by decide +kernel
theorem dX7_greatestShared_14 : decode cX7_greatestShared 14 = .ok (.iload_n 3, 1) := by decide +kernel
theorem dX7_greatestShared_15 : decode cX7_greatestShared 15 = .ok (.ifCond .eq 19, 3) := by decide +kernel
theorem dX7_greatestShared_18 : decode cX7_greatestShared 18 = .ok (.iload_n 2, 1) := by decide +kernel
theorem dX7_greatestShared_19 : decode cX7_greatestShared 19 = .ok (.iload_n 3, 1) := by decide +kernel
theorem dX7_greatestShared_20 : decode cX7_greatestShared 20 = .ok (.irem, 1) := by decide +kernel
theorem dX7_greatestShared_21 : decode cX7_greatestShared 21 = .ok (.istore 5, 2) := by decide +kernel
theorem dX7_greatestShared_23 : decode cX7_greatestShared 23 = .ok (.iload_n 3, 1) := by decide +kernel
theorem dX7_greatestShared_24 : decode cX7_greatestShared 24 = .ok (.istore_n 2, 1) := by decide +kernel
theorem dX7_greatestShared_25 : decode cX7_greatestShared 25 = .ok (.iload 5, 2) := by decide +kernel
theorem dX7_greatestShared_27 : decode cX7_greatestShared 27 = .ok (.istore_n 3, 1) := by decide +kernel
theorem dX7_greatestShared_28 : decode cX7_greatestShared 28 = .ok (.iinc 4 1, 3) := by decide +kernel
theorem dX7_greatestShared_31 : decode cX7_greatestShared 31 = .ok (.goto (-24), 3) := by decide +kernel
theorem dX7_greatestShared_34 : decode cX7_greatestShared 34 = .ok (.iload_n 2, 1) := by decide +kernel
theorem dX7_greatestShared_35 : decode cX7_greatestShared 35 = .ok (.ireturn, 1) := by decide +kernel
theorem dX7_drawFor_0 : decode cX7_drawFor 0 = .ok (.ldc2_w 254, 3) := by decide +kernel
theorem dX7_drawFor_3 : decode cX7_drawFor 3 = .ok (.iload_n 0, 1) := by decide +kernel
theorem dX7_drawFor_4 : decode cX7_drawFor 4 = .ok (.i2l, 1) := by decide +kernel
theorem dX7_drawFor_5 : decode cX7_drawFor 5 = .ok (.lmul, 1) := by decide +kernel
theorem dX7_drawFor_6 : decode cX7_drawFor 6 = .ok (.ldc2_w 256, 3) := by decide +kernel
theorem dX7_drawFor_9 : decode cX7_drawFor 9 = .ok (.iload_n 1, 1) := by decide +kernel
theorem dX7_drawFor_10 : decode cX7_drawFor 10 = .ok (.i2l, 1) := by decide +kernel
theorem dX7_drawFor_11 : decode cX7_drawFor 11 = .ok (.lmul, 1) := by decide +kernel
theorem dX7_drawFor_12 : decode cX7_drawFor 12 = .ok (.ladd, 1) := by decide +kernel
theorem dX7_drawFor_13 : decode cX7_drawFor 13 = .ok (.lconst 1, 1) := by decide +kernel
theorem dX7_drawFor_14 : decode cX7_drawFor 14 = .ok (.ladd, 1) := by decide +kernel
theorem dX7_drawFor_15 : decode cX7_drawFor 15 = .ok (.lstore_n 2, 1) := by decide +kernel
theorem dX7_drawFor_16 : decode cX7_drawFor 16 = .ok (.lload_n 2, 1) := by decide +kernel
theorem dX7_drawFor_17 : decode cX7_drawFor 17 = .ok (.lload_n 2, 1) := by decide +kernel
theorem dX7_drawFor_18 : decode cX7_drawFor 18 = .ok (.lmul, 1) := by decide +kernel
theorem dX7_drawFor_19 : decode cX7_drawFor 19 = .ok (.ldc2_w 258, 3) := by decide +kernel
theorem dX7_drawFor_22 : decode cX7_drawFor 22 = .ok (.lrem, 1) := by decide +kernel
theorem dX7_drawFor_23 : decode cX7_drawFor 23 = .ok (.l2i, 1) := by decide +kernel
theorem dX7_drawFor_24 : decode cX7_drawFor 24 = .ok (.ireturn, 1) := by decide +kernel
theorem dX7_wayBy_0 : decode cX7_wayBy 0 = .ok (.iload_n 0, 1) := by decide +kernel
theorem dX7_wayBy_1 : decode cX7_wayBy 1 = .ok (.invokestatic 260, 3) := by decide +kernel
theorem dX7_wayBy_4 : decode cX7_wayBy 4 = .ok (.istore_n 2, 1) := by decide +kernel
theorem dX7_wayBy_5 : decode cX7_wayBy 5 = .ok (.iload_n 1, 1) := by decide +kernel
theorem dX7_wayBy_6 : decode cX7_wayBy 6 = .ok (.invokestatic 260, 3) := by decide +kernel
theorem dX7_wayBy_9 : decode cX7_wayBy 9 = .ok (.istore_n 3, 1) := by decide +kernel
theorem dX7_wayBy_10 : decode cX7_wayBy 10 = .ok (.iload_n 2, 1) := by decide +kernel
theorem dX7_wayBy_11 : decode cX7_wayBy 11 = .ok (.ifCond .ne 10, 3) := by decide +kernel
theorem dX7_wayBy_14 : decode cX7_wayBy 14 = .ok (.iload_n 3, 1) := by decide +kernel
theorem dX7_wayBy_15 : decode cX7_wayBy 15 = .ok (.ifCond .ne 6, 3) := by decide +kernel
theorem dX7_wayBy_18 : decode cX7_wayBy 18 = .ok (.bipush (-4), 2) := by decide +kernel
theorem dX7_wayBy_20 : decode cX7_wayBy 20 = .ok (.ireturn, 1) := by decide +kernel
theorem dX7_wayBy_21 : decode cX7_wayBy 21 = .ok (.iload_n 2, 1) := by decide +kernel
theorem dX7_wayBy_22 : decode cX7_wayBy 22 = .ok (.iconst 2, 1) := by decide +kernel
theorem dX7_wayBy_23 : decode cX7_wayBy 23 = .ok (.iload_n 3, 1) := by decide +kernel
theorem dX7_wayBy_24 : decode cX7_wayBy 24 = .ok (.imul, 1) := by decide +kernel
theorem dX7_wayBy_25 : decode cX7_wayBy 25 = .ok (.if_icmp .le 14, 3) := by decide +kernel
theorem dX7_wayBy_28 : decode cX7_wayBy 28 = .ok (.iload_n 0, 1) := by decide +kernel
theorem dX7_wayBy_29 : decode cX7_wayBy 29 = .ok (.ifCond .le 7, 3) := by decide +kernel
theorem dX7_wayBy_32 : decode cX7_wayBy 32 = .ok (.iconst 2, 1) := by decide +kernel
theorem dX7_wayBy_33 : decode cX7_wayBy 33 = .ok (.goto 5, 3) := by decide +kernel
theorem dX7_wayBy_36 : decode cX7_wayBy 36 = .ok (.bipush 6, 2) := by decide +kernel
theorem dX7_wayBy_38 : decode cX7_wayBy 38 = .ok (.ireturn, 1) := by decide +kernel
theorem dX7_wayBy_39 : decode cX7_wayBy 39 = .ok (.iload_n 3, 1) := by decide +kernel
theorem dX7_wayBy_40 : decode cX7_wayBy 40 = .ok (.iconst 2, 1) := by decide +kernel
theorem dX7_wayBy_41 : decode cX7_wayBy 41 = .ok (.iload_n 2, 1) := by decide +kernel
theorem dX7_wayBy_42 : decode cX7_wayBy 42 = .ok (.imul, 1) := by decide +kernel
theorem dX7_wayBy_43 : decode cX7_wayBy 43 = .ok (.if_icmp .le 13, 3) := by decide +kernel
theorem dX7_wayBy_46 : decode cX7_wayBy 46 = .ok (.iload_n 1, 1) := by decide +kernel
theorem dX7_wayBy_47 : decode cX7_wayBy 47 = .ok (.ifCond .le 7, 3) := by decide +kernel
theorem dX7_wayBy_50 : decode cX7_wayBy 50 = .ok (.iconst 4, 1) := by decide +kernel
theorem dX7_wayBy_51 : decode cX7_wayBy 51 = .ok (.goto 4, 3) := by decide +kernel
theorem dX7_wayBy_54 : decode cX7_wayBy 54 = .ok (.iconst 0, 1) := by decide +kernel
theorem dX7_wayBy_55 : decode cX7_wayBy 55 = .ok (.ireturn, 1) := by decide +kernel
theorem dX7_wayBy_56 : decode cX7_wayBy 56 = .ok (.iload_n 0, 1) := by decide +kernel
theorem dX7_wayBy_57 : decode cX7_wayBy 57 = .ok (.ifCond .le 13, 3) := by decide +kernel
theorem dX7_wayBy_60 : decode cX7_wayBy 60 = .ok (.iload_n 1, 1) := by decide +kernel
theorem dX7_wayBy_61 : decode cX7_wayBy 61 = .ok (.ifCond .le 7, 3) := by decide +kernel
theorem dX7_wayBy_64 : decode cX7_wayBy 64 = .ok (.iconst 3, 1) := by decide +kernel
theorem dX7_wayBy_65 : decode cX7_wayBy 65 = .ok (.goto 4, 3) := by decide +kernel
theorem dX7_wayBy_68 : decode cX7_wayBy 68 = .ok (.iconst 1, 1) := by decide +kernel
theorem dX7_wayBy_69 : decode cX7_wayBy 69 = .ok (.ireturn, 1) := by decide +kernel
theorem dX7_wayBy_70 : decode cX7_wayBy 70 = .ok (.iload_n 1, 1) := by decide +kernel
theorem dX7_wayBy_71 : decode cX7_wayBy 71 = .ok (.ifCond .le 7, 3) := by decide +kernel
theorem dX7_wayBy_74 : decode cX7_wayBy 74 = .ok (.iconst 5, 1) := by decide +kernel
theorem dX7_wayBy_75 : decode cX7_wayBy 75 = .ok (.goto 5, 3) := by decide +kernel
theorem dX7_wayBy_78 : decode cX7_wayBy 78 = .ok (.bipush 7, 2) := by decide +kernel
theorem dX7_wayBy_80 : decode cX7_wayBy 80 = .ok (.ireturn, 1) := by decide +kernel
theorem dX7_toldNext_0 : decode cX7_toldNext 0 = .ok (.iload_n 0, 1) := by decide +kernel
theorem dX7_toldNext_1 : decode cX7_toldNext 1 = .ok (.iconst 2, 1) := by decide +kernel
theorem dX7_toldNext_2 : decode cX7_toldNext 2 = .ok (.if_icmp .ne 10, 3) := by decide +kernel
theorem dX7_toldNext_5 : decode cX7_toldNext 5 = .ok (.iload_n 1, 1) := by decide +kernel
theorem dX7_toldNext_6 : decode cX7_toldNext 6 = .ok (.iconst 1, 1) := by decide +kernel
theorem dX7_toldNext_7 : decode cX7_toldNext 7 = .ok (.iadd, 1) := by decide +kernel
theorem dX7_toldNext_8 : decode cX7_toldNext 8 = .ok (.bipush 8, 2) := by decide +kernel
theorem dX7_toldNext_10 : decode cX7_toldNext 10 = .ok (.irem, 1) := by decide +kernel
theorem dX7_toldNext_11 : decode cX7_toldNext 11 = .ok (.ireturn, 1) := by decide +kernel
theorem dX7_toldNext_12 : decode cX7_toldNext 12 = .ok (.iload_n 2, 1) := by decide +kernel
theorem dX7_toldNext_13 : decode cX7_toldNext 13 = .ok (.bipush (-4), 2) := by decide +kernel
theorem dX7_toldNext_15 : decode cX7_toldNext 15 = .ok (.if_icmp .ne 5, 3) := by decide +kernel
theorem dX7_toldNext_18 : decode cX7_toldNext 18 = .ok (.iload_n 1, 1) := by decide +kernel
theorem dX7_toldNext_19 : decode cX7_toldNext 19 = .ok (.ireturn, 1) := by decide +kernel
theorem dX7_toldNext_20 : decode cX7_toldNext 20 = .ok (.iload_n 0, 1) := by decide +kernel
theorem dX7_toldNext_21 : decode cX7_toldNext 21 = .ok (.tableswitch 46 0 3 #[31, 33, 46, 39], 31) := by decide +kernel
theorem dX7_toldNext_52 : decode cX7_toldNext 52 = .ok (.iload_n 2, 1) := by decide +kernel
theorem dX7_toldNext_53 : decode cX7_toldNext 53 = .ok (.ireturn, 1) := by decide +kernel
theorem dX7_toldNext_54 : decode cX7_toldNext 54 = .ok (.iload_n 1, 1) := by decide +kernel
theorem dX7_toldNext_55 : decode cX7_toldNext 55 = .ok (.iload_n 2, 1) := by decide +kernel
theorem dX7_toldNext_56 : decode cX7_toldNext 56 = .ok (.invokestatic 265, 3) := by decide +kernel
theorem dX7_toldNext_59 : decode cX7_toldNext 59 = .ok (.ireturn, 1) := by decide +kernel
theorem dX7_toldNext_60 : decode cX7_toldNext 60 = .ok (.iload_n 2, 1) := by decide +kernel
theorem dX7_toldNext_61 : decode cX7_toldNext 61 = .ok (.iconst 4, 1) := by decide +kernel
theorem dX7_toldNext_62 : decode cX7_toldNext 62 = .ok (.iadd, 1) := by decide +kernel
theorem dX7_toldNext_63 : decode cX7_toldNext 63 = .ok (.bipush 8, 2) := by decide +kernel
theorem dX7_toldNext_65 : decode cX7_toldNext 65 = .ok (.irem, 1) := by decide +kernel
theorem dX7_toldNext_66 : decode cX7_toldNext 66 = .ok (.ireturn, 1) := by decide +kernel
theorem dX7_toldNext_67 : decode cX7_toldNext 67 = .ok (.iload_n 1, 1) := by decide +kernel
theorem dX7_toldNext_68 : decode cX7_toldNext 68 = .ok (.ireturn, 1) := by decide +kernel
theorem dX7_toldBehind_0 : decode cX7_toldBehind 0 = .ok (.iload_n 1, 1) := by decide +kernel
theorem dX7_toldBehind_1 : decode cX7_toldBehind 1 = .ok (.istore 4, 2) := by decide +kernel
theorem dX7_toldBehind_3 : decode cX7_toldBehind 3 = .ok (.iconst 0, 1) := by decide +kernel
theorem dX7_toldBehind_4 : decode cX7_toldBehind 4 = .ok (.istore 5, 2) := by decide +kernel
theorem dX7_toldBehind_6 : decode cX7_toldBehind 6 = .ok (.iload 5, 2) := by decide +kernel
theorem dX7_toldBehind_8 : decode cX7_toldBehind 8 = .ok (.iload_n 3, 1) := by decide +kernel
theorem dX7_toldBehind_9 : decode cX7_toldBehind 9 = .ok (.if_icmp .ge 18, 3) := by decide +kernel
theorem dX7_toldBehind_12 : decode cX7_toldBehind 12 = .ok (.iload_n 0, 1) := by decide +kernel
theorem dX7_toldBehind_13 : decode cX7_toldBehind 13 = .ok (.iload 4, 2) := by decide +kernel
theorem dX7_toldBehind_15 : decode cX7_toldBehind 15 = .ok (.iload_n 2, 1) := by decide +kernel
theorem dX7_toldBehind_16 : decode cX7_toldBehind 16 = .ok (.invokestatic 268, 3) := by decide +kernel
theorem dX7_toldBehind_19 : decode cX7_toldBehind 19 = .ok (.istore 4, 2) := by decide +kernel
theorem dX7_toldBehind_21 : decode cX7_toldBehind 21 = .ok (.iinc 5 1, 3) := by decide +kernel
theorem dX7_toldBehind_24 : decode cX7_toldBehind 24 = .ok (.goto (-18), 3) := by decide +kernel
theorem dX7_toldBehind_27 : decode cX7_toldBehind 27 = .ok (.iload 4, 2) := by decide +kernel
theorem dX7_toldBehind_29 : decode cX7_toldBehind 29 = .ok (.ireturn, 1) := by decide +kernel
theorem dX7_turnedOneToward_0 : decode cX7_turnedOneToward 0 = .ok (.iload_n 1, 1) := by decide +kernel
theorem dX7_turnedOneToward_1 : decode cX7_turnedOneToward 1 = .ok (.iload_n 0, 1) := by decide +kernel
theorem dX7_turnedOneToward_2 : decode cX7_turnedOneToward 2 = .ok (.isub, 1) := by decide +kernel
theorem dX7_turnedOneToward_3 : decode cX7_turnedOneToward 3 = .ok (.bipush 8, 2) := by decide +kernel
theorem dX7_turnedOneToward_5 : decode cX7_turnedOneToward 5 = .ok (.iadd, 1) := by decide +kernel
theorem dX7_turnedOneToward_6 : decode cX7_turnedOneToward 6 = .ok (.bipush 8, 2) := by decide +kernel
theorem dX7_turnedOneToward_8 : decode cX7_turnedOneToward 8 = .ok (.irem, 1) := by decide +kernel
theorem dX7_turnedOneToward_9 : decode cX7_turnedOneToward 9 = .ok (.istore_n 2, 1) := by decide +kernel
theorem dX7_turnedOneToward_10 : decode cX7_turnedOneToward 10 = .ok (.iload_n 2, 1) := by decide +kernel
theorem dX7_turnedOneToward_11 : decode cX7_turnedOneToward 11 = .ok (.ifCond .ne 5, 3) := by decide +kernel
theorem dX7_turnedOneToward_14 : decode cX7_turnedOneToward 14 = .ok (.iload_n 0, 1) := by decide +kernel
theorem dX7_turnedOneToward_15 : decode cX7_turnedOneToward 15 = .ok (.ireturn, 1) := by decide +kernel
theorem dX7_turnedOneToward_16 : decode cX7_turnedOneToward 16 = .ok (.iload_n 2, 1) := by decide +kernel
theorem dX7_turnedOneToward_17 : decode cX7_turnedOneToward 17 = .ok (.iconst 4, 1) := by decide +kernel
theorem dX7_turnedOneToward_18 : decode cX7_turnedOneToward 18 = .ok (.if_icmp .gt 12, 3) := by decide +kernel
theorem dX7_turnedOneToward_21 : decode cX7_turnedOneToward 21 = .ok (.iload_n 0, 1) := by decide +kernel
theorem dX7_turnedOneToward_22 : decode cX7_turnedOneToward 22 = .ok (.iconst 1, 1) := by decide +kernel
theorem dX7_turnedOneToward_23 : decode cX7_turnedOneToward 23 = .ok (.iadd, 1) := by decide +kernel
theorem dX7_turnedOneToward_24 : decode cX7_turnedOneToward 24 = .ok (.bipush 8, 2) := by decide +kernel
theorem dX7_turnedOneToward_26 : decode cX7_turnedOneToward 26 = .ok (.irem, 1) := by decide +kernel
theorem dX7_turnedOneToward_27 : decode cX7_turnedOneToward 27 = .ok (.goto 12, 3) := by decide +kernel
theorem dX7_turnedOneToward_30 : decode cX7_turnedOneToward 30 = .ok (.iload_n 0, 1) := by decide +kernel
theorem dX7_turnedOneToward_31 : decode cX7_turnedOneToward 31 = .ok (.bipush 8, 2) := by decide +kernel
theorem dX7_turnedOneToward_33 : decode cX7_turnedOneToward 33 = .ok (.iadd, 1) := by decide +kernel
theorem dX7_turnedOneToward_34 : decode cX7_turnedOneToward 34 = .ok (.iconst 1, 1) := by decide +kernel
theorem dX7_turnedOneToward_35 : decode cX7_turnedOneToward 35 = .ok (.isub, 1) := by decide +kernel
theorem dX7_turnedOneToward_36 : decode cX7_turnedOneToward 36 = .ok (.bipush 8, 2) := by decide +kernel
theorem dX7_turnedOneToward_38 : decode cX7_turnedOneToward 38 = .ok (.irem, 1) := by decide +kernel
theorem dX7_turnedOneToward_39 : decode cX7_turnedOneToward 39 = .ok (.ireturn, 1) := by decide +kernel
theorem dX8_init_0 : decode cX8_init 0 = .ok (.aload_n 0, 1) := by decide +kernel
theorem dX8_init_1 : decode cX8_init 1 = .ok (.invokespecial 1, 3) := by decide +kernel
theorem dX8_init_4 : decode cX8_init 4 = .ok (.aload_n 0, 1) := by decide +kernel
theorem dX8_init_5 : decode cX8_init 5 = .ok (.sipush 200, 3) := by decide +kernel
theorem dX8_init_8 : decode cX8_init 8 = .ok (.newarray .int, 2) := by decide +kernel
theorem dX8_init_10 : decode cX8_init 10 = .ok (.putfield 7, 3) := by decide +kernel
theorem dX8_init_13 : decode cX8_init 13 = .ok (.aload_n 0, 1) := by decide +kernel
theorem dX8_init_14 : decode cX8_init 14 = .ok (.bipush 9, 2) := by decide +kernel
theorem dX8_init_16 : decode cX8_init 16 = .ok (.newarray .int, 2) := by decide +kernel
theorem dX8_init_18 : decode cX8_init 18 = .ok (.putfield 13, 3) := by decide +kernel
theorem dX8_init_21 : decode cX8_init 21 = .ok (.aload_n 0, 1) := by decide +kernel
theorem dX8_init_22 : decode cX8_init 22 = .ok (.bipush 9, 2) := by decide +kernel
theorem dX8_init_24 : decode cX8_init 24 = .ok (.newarray .int, 2) := by decide +kernel
theorem dX8_init_26 : decode cX8_init 26 = .ok (.putfield 16, 3) := by decide +kernel
theorem dX8_init_29 : decode cX8_init 29 = .ok (.aload_n 0, 1) := by decide +kernel
theorem dX8_init_30 : decode cX8_init 30 = .ok (.bipush 55, 2) := by decide +kernel
theorem dX8_init_32 : decode cX8_init 32 = .ok (.newarray .int, 2) := by decide +kernel
theorem dX8_init_34 : decode cX8_init 34 = .ok (.putfield 19, 3) := by decide +kernel
theorem dX8_init_37 : decode cX8_init 37 = .ok (.aload_n 0, 1) := by decide +kernel
theorem dX8_init_38 : decode cX8_init 38 = .ok (.bipush 55, 2) := by decide +kernel
theorem dX8_init_40 : decode cX8_init 40 = .ok (.newarray .int, 2) := by decide +kernel
theorem dX8_init_42 : decode cX8_init 42 = .ok (.putfield 22, 3) := by decide +kernel
theorem dX8_init_45 : decode cX8_init 45 = .ok (.aload_n 0, 1) := by decide +kernel
theorem dX8_init_46 : decode cX8_init 46 = .ok (.sipush 440, 3) := by decide +kernel
theorem dX8_init_49 : decode cX8_init 49 = .ok (.newarray .int, 2) := by decide +kernel
theorem dX8_init_51 : decode cX8_init 51 = .ok (.putfield 25, 3) := by decide +kernel
theorem dX8_init_54 : decode cX8_init 54 = .ok (.aload_n 0, 1) := by decide +kernel
theorem dX8_init_55 : decode cX8_init 55 = .ok (.bipush 110, 2) := by decide +kernel
theorem dX8_init_57 : decode cX8_init 57 = .ok (.newarray .int, 2) := by decide +kernel
theorem dX8_init_59 : decode cX8_init 59 = .ok (.putfield 28, 3) := by decide +kernel
theorem dX8_init_62 : decode cX8_init 62 = .ok (.aload_n 0, 1) := by decide +kernel
theorem dX8_init_63 : decode cX8_init 63 = .ok (.bipush 18, 2) := by decide +kernel
theorem dX8_init_65 : decode cX8_init 65 = .ok (.newarray .int, 2) := by decide +kernel
theorem dX8_init_67 : decode cX8_init 67 = .ok (.putfield 31, 3) := by decide +kernel
theorem dX8_init_70 : decode cX8_init 70 = .ok (.aload_n 0, 1) := by decide +kernel
theorem dX8_init_71 : decode cX8_init 71 = .ok (.bipush 55, 2) := by decide +kernel
theorem dX8_init_73 : decode cX8_init 73 = .ok (.newarray .int, 2) := by decide +kernel
theorem dX8_init_75 : decode cX8_init 75 = .ok (.putfield 34, 3) := by decide +kernel
theorem dX8_init_78 : decode cX8_init 78 = .ok (.aload_n 0, 1) := by decide +kernel
theorem dX8_init_79 : decode cX8_init 79 = .ok (.bipush 81, 2) := by decide +kernel
theorem dX8_init_81 : decode cX8_init 81 = .ok (.newarray .int, 2) := by decide +kernel
theorem dX8_init_83 : decode cX8_init 83 = .ok (.putfield 37, 3) := by decide +kernel
theorem dX8_init_86 : decode cX8_init 86 = .ok (.aload_n 0, 1) := by decide +kernel
theorem dX8_init_87 : decode cX8_init 87 = .ok (.bipush 6, 2) := by decide +kernel
theorem dX8_init_89 : decode cX8_init 89 = .ok (.newarray .int, 2) := by decide +kernel
theorem dX8_init_91 : decode cX8_init 91 = .ok (.putfield 40, 3) := by decide +kernel
theorem dX8_init_94 : decode cX8_init 94 = .ok (.aload_n 0, 1) := by decide +kernel
theorem dX8_init_95 : decode cX8_init 95 = .ok (.invokevirtual 43, 3) := by decide +kernel
theorem dX8_init_98 : decode cX8_init 98 = .ok (.aload_n 0, 1) := by decide +kernel
theorem dX8_init_99 : decode cX8_init 99 = .ok (.getfield 16, 3) := by decide +kernel
theorem dX8_init_102 : decode cX8_init 102 = .ok (.iconst 0, 1) := by decide +kernel
theorem dX8_init_103 : decode cX8_init 103 = .ok (.bipush 7, 2) := by decide +kernel
theorem dX8_init_105 : decode cX8_init 105 = .ok (.iastore, 1) := by decide +kernel
theorem dX8_init_106 : decode cX8_init 106 = .ok (.aload_n 0, 1) := by decide +kernel
theorem dX8_init_107 : decode cX8_init 107 = .ok (.iconst 0, 1) := by decide +kernel
theorem dX8_init_108 : decode cX8_init 108 = .ok (.iconst 0, 1) := by decide +kernel
theorem dX8_init_109 : decode cX8_init 109 = .ok (.iconst 0, 1) := by decide +kernel
theorem dX8_init_110 : decode cX8_init 110 = .ok (.invokevirtual 46, 3) := by decide +kernel
theorem dX8_init_113 : decode cX8_init 113 = .ok (.aload_n 0, 1) := by decide +kernel
theorem dX8_init_114 : decode cX8_init 114 = .ok (.iconst 1, 1) := by decide +kernel
theorem dX8_init_115 : decode cX8_init 115 = .ok (.bipush 6, 2) := by decide +kernel
theorem dX8_init_117 : decode cX8_init 117 = .ok (.iconst 5, 1) := by decide +kernel
theorem dX8_init_118 : decode cX8_init 118 = .ok (.invokevirtual 46, 3) := by decide +kernel
theorem dX8_init_121 : decode cX8_init 121 = .ok (.aload_n 0, 1) := by decide +kernel
theorem dX8_init_122 : decode cX8_init 122 = .ok (.iconst 2, 1) := by decide +kernel
theorem dX8_init_123 : decode cX8_init 123 = .ok (.iconst 3, 1) := by decide +kernel
theorem dX8_init_124 : decode cX8_init 124 = .ok (.iconst 2, 1) := by decide +kernel
theorem dX8_init_125 : decode cX8_init 125 = .ok (.invokevirtual 46, 3) := by decide +kernel
theorem dX8_init_128 : decode cX8_init 128 = .ok (.aload_n 0, 1) := by decide +kernel
theorem dX8_init_129 : decode cX8_init 129 = .ok (.iconst 3, 1) := by decide +kernel
theorem dX8_init_130 : decode cX8_init 130 = .ok (.iconst 5, 1) := by decide +kernel
theorem dX8_init_131 : decode cX8_init 131 = .ok (.iconst 1, 1) := by decide +kernel
theorem dX8_init_132 : decode cX8_init 132 = .ok (.invokevirtual 46, 3) := by decide +kernel
theorem dX8_init_135 : decode cX8_init 135 = .ok (.aload_n 0, 1) := by decide +kernel
theorem dX8_init_136 : decode cX8_init 136 = .ok (.iconst 0, 1) := by decide +kernel
theorem dX8_init_137 : decode cX8_init 137 = .ok (.iconst 1, 1) := by decide +kernel
theorem dX8_init_138 : decode cX8_init 138 = .ok (.iconst 4, 1) := by decide +kernel
theorem dX8_init_139 : decode cX8_init 139 = .ok (.invokevirtual 46, 3) := by decide +kernel
theorem dX8_init_142 : decode cX8_init 142 = .ok (.aload_n 0, 1) := by decide +kernel
theorem dX8_init_143 : decode cX8_init 143 = .ok (.iconst 0, 1) := by decide +kernel
theorem dX8_init_144 : decode cX8_init 144 = .ok (.iconst 4, 1) := by decide +kernel
theorem dX8_init_145 : decode cX8_init 145 = .ok (.iconst 4, 1) := by decide +kernel
theorem dX8_init_146 : decode cX8_init 146 = .ok (.invokevirtual 46, 3) := by decide +kernel
theorem dX8_init_149 : decode cX8_init 149 = .ok (.aload_n 0, 1) := by decide +kernel
theorem dX8_init_150 : decode cX8_init 150 = .ok (.getfield 19, 3) := by decide +kernel
theorem dX8_init_153 : decode cX8_init 153 = .ok (.bipush 20, 2) := by decide +kernel
theorem dX8_init_155 : decode cX8_init 155 = .ok (.iconst 5, 1) := by decide +kernel
theorem dX8_init_156 : decode cX8_init 156 = .ok (.iastore, 1) := by decide +kernel
theorem dX8_init_157 : decode cX8_init 157 = .ok (.aload_n 0, 1) := by decide +kernel
theorem dX8_init_158 : decode cX8_init 158 = .ok (.getfield 19, 3) := by decide +kernel
theorem dX8_init_161 : decode cX8_init 161 = .ok (.bipush 21, 2) := by decide +kernel
theorem dX8_init_163 : decode cX8_init 163 = .ok (.bipush (-2), 2) := by decide +kernel
theorem dX8_init_165 : decode cX8_init 165 = .ok (.iastore, 1) := by decide +kernel
theorem dX8_init_166 : decode cX8_init 166 = .ok (.aload_n 0, 1) := by decide +kernel
theorem dX8_init_167 : decode cX8_init 167 = .ok (.getfield 19, 3) := by decide +kernel
theorem dX8_init_170 : decode cX8_init 170 = .ok (.bipush 25, 2) := by decide +kernel
theorem dX8_init_172 : decode cX8_init 172 = .ok (.bipush 9, 2) := by decide +kernel
theorem dX8_init_174 : decode cX8_init 174 = .ok (.iastore, 1) := by decide +kernel
theorem dX8_init_175 : decode cX8_init 175 = .ok (.aload_n 0, 1) := by decide +kernel
theorem dX8_init_176 : decode cX8_init 176 = .ok (.getfield 19, 3) := by decide +kernel
theorem dX8_init_179 : decode cX8_init 179 = .ok (.bipush 29, 2) := by decide +kernel
theorem dX8_init_181 : decode cX8_init 181 = .ok (.iconst 3, 1) := by decide +kernel
theorem dX8_init_182 : decode cX8_init 182 = .ok (.iastore, 1) := by decide +kernel
theorem dX8_init_183 : decode cX8_init 183 = .ok (.aload_n 0, 1) := by decide +kernel
theorem dX8_init_184 : decode cX8_init 184 = .ok (.getfield 19, 3) := by decide +kernel
theorem dX8_init_187 : decode cX8_init 187 = .ok (.bipush 34, 2) := by decide +kernel
theorem dX8_init_189 : decode cX8_init 189 = .ok (.bipush 7, 2) := by decide +kernel
theorem dX8_init_191 : decode cX8_init 191 = .ok (.iastore, 1) := by decide +kernel
theorem dX8_init_192 : decode cX8_init 192 = .ok (.aload_n 0, 1) := by decide +kernel
theorem dX8_init_193 : decode cX8_init 193 = .ok (.getfield 19, 3) := by decide +kernel
theorem dX8_init_196 : decode cX8_init 196 = .ok (.bipush 39, 2) := by decide +kernel
theorem dX8_init_198 : decode cX8_init 198 = .ok (.iconst 4, 1) := by decide +kernel
theorem dX8_init_199 : decode cX8_init 199 = .ok (.iastore, 1) := by decide +kernel
theorem dX8_init_200 : decode cX8_init 200 = .ok (.aload_n 0, 1) := by decide +kernel
theorem dX8_init_201 : decode cX8_init 201 = .ok (.getfield 19, 3) := by decide +kernel
theorem dX8_init_204 : decode cX8_init 204 = .ok (.bipush 42, 2) := by decide +kernel
theorem dX8_init_206 : decode cX8_init 206 = .ok (.bipush (-6), 2) := by decide +kernel
theorem dX8_init_208 : decode cX8_init 208 = .ok (.iastore, 1) := by decide +kernel
theorem dX8_init_209 : decode cX8_init 209 = .ok (.aload_n 0, 1) := by decide +kernel
theorem dX8_init_210 : decode cX8_init 210 = .ok (.getfield 19, 3) := by decide +kernel
theorem dX8_init_213 : decode cX8_init 213 = .ok (.bipush 48, 2) := by decide +kernel
theorem dX8_init_215 : decode cX8_init 215 = .ok (.bipush 8, 2) := by decide +kernel
theorem dX8_init_217 : decode cX8_init 217 = .ok (.iastore, 1) := by decide +kernel
theorem dX8_init_218 : decode cX8_init 218 = .ok (.aload_n 0, 1) := by decide +kernel
theorem dX8_init_219 : decode cX8_init 219 = .ok (.getfield 19, 3) := by decide +kernel
theorem dX8_init_222 : decode cX8_init 222 = .ok (.bipush 53, 2) := by decide +kernel
theorem dX8_init_224 : decode cX8_init 224 = .ok (.iconst 2, 1) := by decide +kernel
theorem dX8_init_225 : decode cX8_init 225 = .ok (.iastore, 1) := by decide +kernel
theorem dX8_init_226 : decode cX8_init 226 = .ok (.aload_n 0, 1) := by decide +kernel
theorem dX8_init_227 : decode cX8_init 227 = .ok (.getfield 19, 3) := by decide +kernel
theorem dX8_init_230 : decode cX8_init 230 = .ok (.bipush 49, 2) := by decide +kernel
theorem dX8_init_232 : decode cX8_init 232 = .ok (.bipush 9, 2) := by decide +kernel
theorem dX8_init_234 : decode cX8_init 234 = .ok (.iastore, 1) := by decide +kernel
theorem dX8_init_235 : decode cX8_init 235 = .ok (.aload_n 0, 1) := by decide +kernel
theorem dX8_init_236 : decode cX8_init 236 = .ok (.invokevirtual 50, 3) := by decide +kernel
theorem dX8_init_239 : decode cX8_init 239 = .ok (.return_, 1) := by decide +kernel
theorem dX8_in_0 : decode cX8_in 0 = .ok (.iload_n 0, 1) := by decide +kernel
theorem dX8_in_1 : decode cX8_in 1 = .ok (.iload_n 1, 1) := by decide +kernel
theorem dX8_in_2 : decode cX8_in 2 = .ok (.if_icmp .lt 12, 3) := by decide +kernel
theorem dX8_in_5 : decode cX8_in 5 = .ok (.iload_n 0, 1) := by decide +kernel
theorem dX8_in_6 : decode cX8_in 6 = .ok (.iload_n 2, 1) := by decide +kernel
theorem dX8_in_7 : decode cX8_in 7 = .ok (.if_icmp .gt 7, 3) := by decide +kernel
theorem dX8_in_10 : decode cX8_in 10 = .ok (.iconst 1, 1) := by decide +kernel
theorem dX8_in_11 : decode cX8_in 11 = .ok (.goto 4, 3) := by decide +kernel
theorem dX8_in_14 : decode cX8_in 14 = .ok (.iconst 0, 1) := by decide +kernel
theorem dX8_in_15 : decode cX8_in 15 = .ok (.ireturn, 1) := by decide +kernel
theorem dX8_abs_0 : decode cX8_abs 0 = .ok (.iload_n 0, 1) := by decide +kernel
theorem dX8_abs_1 : decode cX8_abs 1 = .ok (.ifCond .ge 8, 3) := by decide +kernel
theorem dX8_abs_4 : decode cX8_abs 4 = .ok (.iload_n 0, 1) := by decide +kernel
theorem dX8_abs_5 : decode cX8_abs 5 = .ok (.ineg, 1) := by decide +kernel
theorem dX8_abs_6 : decode cX8_abs 6 = .ok (.goto 4, 3) := by decide +kernel
theorem dX8_abs_9 : decode cX8_abs 9 = .ok (.iload_n 0, 1) := by decide +kernel
theorem dX8_abs_10 : decode cX8_abs 10 = .ok (.ireturn, 1) := by decide +kernel
theorem dX8_isOne_0 : decode cX8_isOne 0 = .ok (.iload_n 1, 1) := by decide +kernel
theorem dX8_isOne_1 : decode cX8_isOne 1 = .ok (.iconst 0, 1) := by decide +kernel
theorem dX8_isOne_2 : decode cX8_isOne 2 = .ok (.aload_n 0, 1) := by decide +kernel
theorem dX8_isOne_3 : decode cX8_isOne 3 = .ok (.getfield 13, 3) := by decide +kernel
theorem dX8_isOne_6 : decode cX8_isOne 6 = .ok (.iconst 2, 1) := by decide +kernel
theorem dX8_isOne_7 : decode cX8_isOne 7 = .ok (.iaload, 1) := by decide +kernel
theorem dX8_isOne_8 : decode cX8_isOne 8 = .ok (.iconst 1, 1) := by decide +kernel
theorem dX8_isOne_9 : decode cX8_isOne 9 = .ok (.isub, 1) := by decide +kernel
theorem dX8_isOne_10 : decode cX8_isOne 10 = .ok (.invokestatic 53, 3) := by decide +kernel
theorem dX8_isOne_13 : decode cX8_isOne 13 = .ok (.ireturn, 1) := by decide +kernel
theorem dX8_write_0 : decode cX8_write 0 = .ok (.iload_n 1, 1) := by decide +kernel
theorem dX8_write_1 : decode cX8_write 1 = .ok (.bipush 32, 2) := by decide +kernel
theorem dX8_write_3 : decode cX8_write 3 = .ok (.bipush 126, 2) := by decide +kernel
theorem dX8_write_5 : decode cX8_write 5 = .ok (.invokestatic 53, 3) := by decide +kernel
theorem dX8_write_8 : decode cX8_write 8 = .ok (.ifCond .ne 5, 3) := by decide +kernel
theorem dX8_write_11 : decode cX8_write 11 = .ok (.iconst (-1), 1) := by decide +kernel
theorem dX8_write_12 : decode cX8_write 12 = .ok (.ireturn, 1) := by decide +kernel
theorem dX8_write_13 : decode cX8_write 13 = .ok (.aload_n 0, 1) := by decide +kernel
theorem dX8_write_14 : decode cX8_write 14 = .ok (.getfield 57, 3) := by decide +kernel
theorem dX8_write_17 : decode cX8_write 17 = .ok (.sipush 200, 3) := by decide +kernel
theorem dX8_write_20 : decode cX8_write 20 = .ok (.if_icmp .ne 6, 3) := by decide +kernel
theorem dX8_write_23 : decode cX8_write 23 = .ok (.bipush (-3), 2) := by decide +kernel
theorem dX8_write_25 : decode cX8_write 25 = .ok (.ireturn, 1) := by decide +kernel
theorem dX8_write_26 : decode cX8_write 26 = .ok (.aload_n 0, 1) := by decide +kernel
theorem dX8_write_27 : decode cX8_write 27 = .ok (.getfield 7, 3) := by decide +kernel
theorem dX8_write_30 : decode cX8_write 30 = .ok (.aload_n 0, 1) := by decide +kernel
theorem dX8_write_31 : decode cX8_write 31 = .ok (.getfield 57, 3) := by decide +kernel
theorem dX8_write_34 : decode cX8_write 34 = .ok (.iload_n 1, 1) := by decide +kernel
theorem dX8_write_35 : decode cX8_write 35 = .ok (.iastore, 1) := by decide +kernel
theorem dX8_write_36 : decode cX8_write 36 = .ok (.aload_n 0, 1) := by decide +kernel
theorem dX8_write_37 : decode cX8_write 37 = .ok (.dup, 1) := by decide +kernel
theorem dX8_write_38 : decode cX8_write 38 = .ok (.getfield 57, 3) := by decide +kernel
theorem dX8_write_41 : decode cX8_write 41 = .ok (.iconst 1, 1) := by decide +kernel
theorem dX8_write_42 : decode cX8_write 42 = .ok (.iadd, 1) := by decide +kernel
theorem dX8_write_43 : decode cX8_write 43 = .ok (.putfield 57, 3) := by decide +kernel
theorem dX8_write_46 : decode cX8_write 46 = .ok (.aload_n 0, 1) := by decide +kernel
theorem dX8_write_47 : decode cX8_write 47 = .ok (.getfield 57, 3) := by decide +kernel
theorem dX8_write_50 : decode cX8_write 50 = .ok (.ireturn, 1) := by decide +kernel
theorem dX8_wipe_0 : decode cX8_wipe 0 = .ok (.aload_n 0, 1) := by decide +kernel
theorem dX8_wipe_1 : decode cX8_wipe 1 = .ok (.getfield 57, 3) := by decide +kernel
theorem dX8_wipe_4 : decode cX8_wipe 4 = .ok (.istore_n 1, 1) := by decide +kernel
theorem dX8_wipe_5 : decode cX8_wipe 5 = .ok (.aload_n 0, 1) := by decide +kernel
theorem dX8_wipe_6 : decode cX8_wipe 6 = .ok (.iconst 0, 1) := by decide +kernel
theorem dX8_wipe_7 : decode cX8_wipe 7 = .ok (.putfield 57, 3) := by decide +kernel
theorem dX8_wipe_10 : decode cX8_wipe 10 = .ok (.iload_n 1, 1) := by decide +kernel
theorem dX8_wipe_11 : decode cX8_wipe 11 = .ok (.ireturn, 1) := by decide +kernel
theorem dX8_letterAt_0 : decode cX8_letterAt 0 = .ok (.iload_n 1, 1) := by decide +kernel
theorem dX8_letterAt_1 : decode cX8_letterAt 1 = .ok (.aload_n 0, 1) := by decide +kernel
theorem dX8_letterAt_2 : decode cX8_letterAt 2 = .ok (.getfield 57, 3) := by decide +kernel
theorem dX8_letterAt_5 : decode cX8_letterAt 5 = .ok (.if_icmp .ge 12, 3) := by decide +kernel
theorem dX8_letterAt_8 : decode cX8_letterAt 8 = .ok (.aload_n 0, 1) := by decide +kernel
theorem dX8_letterAt_9 : decode cX8_letterAt 9 = .ok (.getfield 7, 3) := by decide +kernel
theorem dX8_letterAt_12 : decode cX8_letterAt 12 = .ok (.iload_n 1, 1) := by decide +kernel
theorem dX8_letterAt_13 : decode cX8_letterAt 13 = .ok (.iaload, 1) := by decide +kernel
theorem dX8_letterAt_14 : decode cX8_letterAt 14 = .ok (.goto 4, 3) := by decide +kernel
theorem dX8_letterAt_17 : decode cX8_letterAt 17 = .ok (.iconst (-1), 1) := by decide +kernel
theorem dX8_letterAt_18 : decode cX8_letterAt 18 = .ok (.ireturn, 1) := by decide +kernel
theorem dX8_isFigure_0 : decode cX8_isFigure 0 = .ok (.iload_n 0, 1) := by decide +kernel
theorem dX8_isFigure_1 : decode cX8_isFigure 1 = .ok (.bipush 48, 2) := by decide +kernel
theorem dX8_isFigure_3 : decode cX8_isFigure 3 = .ok (.bipush 57, 2) := by decide +kernel
theorem dX8_isFigure_5 : decode cX8_isFigure 5 = .ok (.invokestatic 53, 3) := by decide +kernel
theorem dX8_isFigure_8 : decode cX8_isFigure 8 = .ok (.ireturn, 1) := by decide +kernel
theorem dX8_number_0 : decode cX8_number 0 = .ok (.aload_n 0, 1) := by decide +kernel
theorem dX8_number_1 : decode cX8_number 1 = .ok (.aload_n 0, 1) := by decide +kernel
theorem dX8_number_2 : decode cX8_number 2 = .ok (.getfield 61, 3) := by decide +kernel
theorem dX8_number_5 : decode cX8_number 5 = .ok (.invokevirtual 64, 3) := by decide +kernel
theorem dX8_number_8 : decode cX8_number 8 = .ok (.invokestatic 68, 3) := by decide +kernel
theorem dX8_number_11 : decode cX8_number 11 = .ok (.ifCond .ne 5, 3) := by decide +kernel
theorem dX8_number_14 : decode cX8_number 14 = .ok (.iconst (-1), 1) := by decide +kernel
theorem dX8_number_15 : decode cX8_number 15 = .ok (.ireturn, 1) := by decide +kernel
theorem dX8_number_16 : decode cX8_number 16 = .ok (.aload_n 0, 1) := by decide +kernel
theorem dX8_number_17 : decode cX8_number 17 = .ok (.aload_n 0, 1) := by decide +kernel
theorem dX8_number_18 : decode cX8_number 18 = .ok (.getfield 61, 3) := by decide +kernel
theorem dX8_number_21 : decode cX8_number 21 = .ok (.invokevirtual 64, 3) := by decide +kernel
theorem dX8_number_24 : decode cX8_number 24 = .ok (.bipush 48, 2) := by decide +kernel
theorem dX8_number_26 : decode cX8_number 26 = .ok (.isub, 1) := by decide +kernel
theorem dX8_number_27 : decode cX8_number 27 = .ok (.istore 4, 2) := by decide +kernel
theorem dX8_number_29 : decode cX8_number 29 = .ok (.aload_n 0, 1) := by decide +kernel
theorem dX8_number_30 : decode cX8_number 30 = .ok (.dup, 1) := by decide +kernel
theorem dX8_number_31 : decode cX8_number 31 = .ok (.getfield 61, 3) := by decide +kernel
theorem dX8_number_34 : decode cX8_number 34 = .ok (.iconst 1, 1) := by decide +kernel
theorem dX8_number_35 : decode cX8_number 35 = .ok (.iadd, 1) := by decide +kernel
theorem dX8_number_36 : decode cX8_number 36 = .ok (.putfield 61, 3) := by decide +kernel
theorem dX8_number_39 : decode cX8_number 39 = .ok (.aload_n 0, 1) := by decide +kernel
theorem dX8_number_40 : decode cX8_number 40 = .ok (.aload_n 0, 1) := by decide +kernel
theorem dX8_number_41 : decode cX8_number 41 = .ok (.getfield 61, 3) := by decide +kernel
theorem dX8_number_44 : decode cX8_number 44 = .ok (.invokevirtual 64, 3) := by decide +kernel
theorem dX8_number_47 : decode cX8_number 47 = .ok (.invokestatic 68, 3) := by decide +kernel
theorem dX8_number_50 : decode cX8_number 50 = .ok (.ifCond .eq 32, 3) := by decide +kernel
theorem dX8_number_53 : decode cX8_number 53 = .ok (.bipush 10, 2) := by decide +kernel
theorem dX8_number_55 : decode cX8_number 55 = .ok (.iload 4, 2) := by decide +kernel
theorem dX8_number_57 : decode cX8_number 57 = .ok (.imul, 1) := by decide +kernel
theorem dX8_number_58 : decode cX8_number 58 = .ok (.aload_n 0, 1) := by decide +kernel
theorem dX8_number_59 : decode cX8_number 59 = .ok (.aload_n 0, 1) := by decide +kernel
theorem dX8_number_60 : decode cX8_number 60 = .ok (.getfield 61, 3) := by decide +kernel
theorem dX8_number_63 : decode cX8_number 63 = .ok (.invokevirtual 64, 3) := by decide +kernel
theorem dX8_number_66 : decode cX8_number 66 = .ok (.iadd, 1) := by decide +kernel
theorem dX8_number_67 : decode cX8_number 67 = .ok (.bipush 48, 2) := by decide +kernel
theorem dX8_number_69 : decode cX8_number 69 = .ok (.isub, 1) := by decide +kernel
theorem dX8_number_70 : decode cX8_number 70 = .ok (.istore 4, 2) := by decide +kernel
theorem dX8_number_72 : decode cX8_number 72 = .ok (.aload_n 0, 1) := by decide +kernel
theorem dX8_number_73 : decode cX8_number 73 = .ok (.dup, 1) := by decide +kernel
theorem dX8_number_74 : decode cX8_number 74 = .ok (.getfield 61, 3) := by decide +kernel
theorem dX8_number_77 : decode cX8_number 77 = .ok (.iconst 1, 1) := by decide +kernel
theorem dX8_number_78 : decode cX8_number 78 = .ok (.iadd, 1) := by decide +kernel
theorem dX8_number_79 : decode cX8_number 79 = .ok (.putfield 61, 3) := by decide +kernel
theorem dX8_number_82 : decode cX8_number 82 = .ok (.iload 4, 2) := by decide +kernel
theorem dX8_number_84 : decode cX8_number 84 = .ok (.iload_n 1, 1) := by decide +kernel
theorem dX8_number_85 : decode cX8_number 85 = .ok (.iload_n 2, 1) := by decide +kernel
theorem dX8_number_86 : decode cX8_number 86 = .ok (.invokestatic 53, 3) := by decide +kernel
theorem dX8_number_89 : decode cX8_number 89 = .ok (.ifCond .eq 19, 3) := by decide +kernel
theorem dX8_number_92 : decode cX8_number 92 = .ok (.aload_n 0, 1) := by decide +kernel
theorem dX8_number_93 : decode cX8_number 93 = .ok (.aload_n 0, 1) := by decide +kernel
theorem dX8_number_94 : decode cX8_number 94 = .ok (.getfield 61, 3) := by decide +kernel
theorem dX8_number_97 : decode cX8_number 97 = .ok (.invokevirtual 64, 3) := by decide +kernel
theorem dX8_number_100 : decode cX8_number 100 = .ok (.iload_n 3, 1) := by decide +kernel
theorem dX8_number_101 : decode cX8_number 101 = .ok (.if_icmp .ne 7, 3) := by decide +kernel
theorem dX8_number_104 : decode cX8_number 104 = .ok (.iconst 1, 1) := by decide +kernel
theorem dX8_number_105 : decode cX8_number 105 = .ok (.goto 4, 3) := by decide +kernel
theorem dX8_number_108 : decode cX8_number 108 = .ok (.iconst 0, 1) := by decide +kernel
theorem dX8_number_109 : decode cX8_number 109 = .ok (.istore 5, 2) := by decide +kernel
theorem dX8_number_111 : decode cX8_number 111 = .ok (.aload_n 0, 1) := by decide +kernel
theorem dX8_number_112 : decode cX8_number 112 = .ok (.dup, 1) := by decide +kernel
theorem dX8_number_113 : decode cX8_number 113 = .ok (.getfield 61, 3) := by decide +kernel
theorem dX8_number_116 : decode cX8_number 116 = .ok (.iconst 1, 1) := by decide +kernel
theorem dX8_number_117 : decode cX8_number 117 = .ok (.iadd, 1) := by decide +kernel
theorem dX8_number_118 : decode cX8_number 118 = .ok (.putfield 61, 3) := by decide +kernel
theorem dX8_number_121 : decode cX8_number 121 = .ok (.iload 5, 2) := by decide +kernel
theorem dX8_number_123 : decode cX8_number 123 = .ok (.ifCond .eq 8, 3) := by decide +kernel
theorem dX8_number_126 : decode cX8_number 126 = .ok (.iload 4, 2) := by decide +kernel
theorem dX8_number_128 : decode cX8_number 128 = .ok (.goto 4, 3) := by decide +kernel
theorem dX8_number_131 : decode cX8_number 131 = .ok (.iconst (-1), 1) := by decide +kernel
theorem dX8_number_132 : decode cX8_number 132 = .ok (.ireturn, 1) := by decide +kernel
theorem dX8_begins_0 : decode cX8_begins 0 = .ok (.iconst 0, 1) := by decide +kernel
theorem dX8_begins_1 : decode cX8_begins 1 = .ok (.istore_n 1, 1) := by decide +kernel
theorem dX8_begins_2 : decode cX8_begins 2 = .ok (.iload_n 1, 1) := by decide +kernel
theorem dX8_begins_3 : decode cX8_begins 3 = .ok (.bipush 9, 2) := by decide +kernel
theorem dX8_begins_5 : decode cX8_begins 5 = .ok (.if_icmp .ge 16, 3) := by decide +kernel
theorem dX8_begins_8 : decode cX8_begins 8 = .ok (.aload_n 0, 1) := by decide +kernel
theorem dX8_begins_9 : decode cX8_begins 9 = .ok (.getfield 16, 3) := by decide +kernel
theorem dX8_begins_12 : decode cX8_begins 12 = .ok (.iload_n 1, 1) := by decide +kernel
theorem dX8_begins_13 : decode cX8_begins 13 = .ok (.iconst 0, 1) := by decide +kernel
theorem dX8_begins_14 : decode cX8_begins 14 = .ok (.iastore, 1) := by decide +kernel
theorem dX8_begins_15 : decode cX8_begins 15 = .ok (.iinc 1 1, 3) := by decide +kernel
theorem dX8_begins_18 : decode cX8_begins 18 = .ok (.goto (-16), 3) := by decide +kernel
theorem dX8_begins_21 : decode cX8_begins 21 = .ok (.iconst 0, 1) := by decide +kernel
theorem dX8_begins_22 : decode cX8_begins 22 = .ok (.istore_n 1, 1) := by decide +kernel
theorem dX8_begins_23 : decode cX8_begins 23 = .ok (.iload_n 1, 1) := by decide +kernel
theorem dX8_begins_24 : decode cX8_begins 24 = .ok (.bipush 55, 2) := by decide +kernel
theorem dX8_begins_26 : decode cX8_begins 26 = .ok (.if_icmp .ge 16, 3) := by decide +kernel
theorem dX8_begins_29 : decode cX8_begins 29 = .ok (.aload_n 0, 1) := by decide +kernel
theorem dX8_begins_30 : decode cX8_begins 30 = .ok (.getfield 19, 3) := by decide +kernel
theorem dX8_begins_33 : decode cX8_begins 33 = .ok (.iload_n 1, 1) := by decide +kernel
theorem dX8_begins_34 : decode cX8_begins 34 = .ok (.iconst 0, 1) := by decide +kernel
theorem dX8_begins_35 : decode cX8_begins 35 = .ok (.iastore, 1) := by decide +kernel
theorem dX8_begins_36 : decode cX8_begins 36 = .ok (.iinc 1 1, 3) := by decide +kernel
theorem dX8_begins_39 : decode cX8_begins 39 = .ok (.goto (-16), 3) := by decide +kernel
theorem dX8_begins_42 : decode cX8_begins 42 = .ok (.aload_n 0, 1) := by decide +kernel
theorem dX8_begins_43 : decode cX8_begins 43 = .ok (.getfield 16, 3) := by decide +kernel
theorem dX8_begins_46 : decode cX8_begins 46 = .ok (.iconst 0, 1) := by decide +kernel
theorem dX8_begins_47 : decode cX8_begins 47 = .ok (.bipush 6, 2) := by decide +kernel
theorem dX8_begins_49 : decode cX8_begins 49 = .ok (.iastore, 1) := by decide +kernel
theorem dX8_begins_50 : decode cX8_begins 50 = .ok (.aload_n 0, 1) := by decide +kernel
theorem dX8_begins_51 : decode cX8_begins 51 = .ok (.getfield 16, 3) := by decide +kernel
theorem dX8_begins_54 : decode cX8_begins 54 = .ok (.iconst 1, 1) := by decide +kernel
theorem dX8_begins_55 : decode cX8_begins 55 = .ok (.bipush 6, 2) := by decide +kernel
theorem dX8_begins_57 : decode cX8_begins 57 = .ok (.iastore, 1) := by decide +kernel
theorem dX8_begins_58 : decode cX8_begins 58 = .ok (.return_, 1) := by decide +kernel
theorem dX8_stands_0 : decode cX8_stands 0 = .ok (.aload_n 0, 1) := by decide +kernel
theorem dX8_stands_1 : decode cX8_stands 1 = .ok (.getfield 16, 3) := by decide +kernel
theorem dX8_stands_4 : decode cX8_stands 4 = .ok (.iconst 2, 1) := by decide +kernel
theorem dX8_stands_5 : decode cX8_stands 5 = .ok (.iaload, 1) := by decide +kernel
theorem dX8_stands_6 : decode cX8_stands 6 = .ok (.istore 4, 2) := by decide +kernel
theorem dX8_stands_8 : decode cX8_stands 8 = .ok (.aload_n 0, 1) := by decide +kernel
theorem dX8_stands_9 : decode cX8_stands 9 = .ok (.getfield 16, 3) := by decide +kernel
theorem dX8_stands_12 : decode cX8_stands 12 = .ok (.iconst 3, 1) := by decide +kernel
theorem dX8_stands_13 : decode cX8_stands 13 = .ok (.iload 4, 2) := by decide +kernel
theorem dX8_stands_15 : decode cX8_stands 15 = .ok (.iadd, 1) := by decide +kernel
theorem dX8_stands_16 : decode cX8_stands 16 = .ok (.iload_n 1, 1) := by decide +kernel
theorem dX8_stands_17 : decode cX8_stands 17 = .ok (.iastore, 1) := by decide +kernel
theorem dX8_stands_18 : decode cX8_stands 18 = .ok (.aload_n 0, 1) := by decide +kernel
theorem dX8_stands_19 : decode cX8_stands 19 = .ok (.getfield 19, 3) := by decide +kernel
theorem dX8_stands_22 : decode cX8_stands 22 = .ok (.bipush 7, 2) := by decide +kernel
theorem dX8_stands_24 : decode cX8_stands 24 = .ok (.iload 4, 2) := by decide +kernel
theorem dX8_stands_26 : decode cX8_stands 26 = .ok (.iadd, 1) := by decide +kernel
theorem dX8_stands_27 : decode cX8_stands 27 = .ok (.iload_n 2, 1) := by decide +kernel
theorem dX8_stands_28 : decode cX8_stands 28 = .ok (.iastore, 1) := by decide +kernel
theorem dX8_stands_29 : decode cX8_stands 29 = .ok (.aload_n 0, 1) := by decide +kernel
theorem dX8_stands_30 : decode cX8_stands 30 = .ok (.getfield 19, 3) := by decide +kernel
theorem dX8_stands_33 : decode cX8_stands 33 = .ok (.bipush 13, 2) := by decide +kernel
theorem dX8_stands_35 : decode cX8_stands 35 = .ok (.iload 4, 2) := by decide +kernel
theorem dX8_stands_37 : decode cX8_stands 37 = .ok (.iadd, 1) := by decide +kernel
theorem dX8_stands_38 : decode cX8_stands 38 = .ok (.iload_n 3, 1) := by decide +kernel
theorem dX8_stands_39 : decode cX8_stands 39 = .ok (.iastore, 1) := by decide +kernel
theorem dX8_stands_40 : decode cX8_stands 40 = .ok (.aload_n 0, 1) := by decide +kernel
theorem dX8_stands_41 : decode cX8_stands 41 = .ok (.getfield 16, 3) := by decide +kernel
theorem dX8_stands_44 : decode cX8_stands 44 = .ok (.iconst 2, 1) := by decide +kernel
theorem dX8_stands_45 : decode cX8_stands 45 = .ok (.dup2, 1) := by decide +kernel
theorem dX8_stands_46 : decode cX8_stands 46 = .ok (.iaload, 1) := by decide +kernel
theorem dX8_stands_47 : decode cX8_stands 47 = .ok (.iconst 1, 1) := by decide +kernel
theorem dX8_stands_48 : decode cX8_stands 48 = .ok (.iadd, 1) := by decide +kernel
theorem dX8_stands_49 : decode cX8_stands 49 = .ok (.iastore, 1) := by decide +kernel
theorem dX8_stands_50 : decode cX8_stands 50 = .ok (.return_, 1) := by decide +kernel
theorem dX8_readsRoom_0 : decode cX8_readsRoom 0 = .ok (.aload_n 0, 1) := by decide +kernel
theorem dX8_readsRoom_1 : decode cX8_readsRoom 1 = .ok (.iconst 1, 1) := by decide +kernel
theorem dX8_readsRoom_2 : decode cX8_readsRoom 2 = .ok (.bipush 9, 2) := by decide +kernel
theorem dX8_readsRoom_4 : decode cX8_readsRoom 4 = .ok (.bipush 44, 2) := by decide +kernel
theorem dX8_readsRoom_6 : decode cX8_readsRoom 6 = .ok (.invokevirtual 72, 3) := by decide +kernel
theorem dX8_readsRoom_9 : decode cX8_readsRoom 9 = .ok (.istore_n 1, 1) := by decide +kernel
theorem dX8_readsRoom_10 : decode cX8_readsRoom 10 = .ok (.iload_n 1, 1) := by decide +kernel
theorem dX8_readsRoom_11 : decode cX8_readsRoom 11 = .ok (.ifCond .ge 7, 3) := by decide +kernel
theorem dX8_readsRoom_14 : decode cX8_readsRoom 14 = .ok (.iconst (-1), 1) := by decide +kernel
theorem dX8_readsRoom_15 : decode cX8_readsRoom 15 = .ok (.goto 12, 3) := by decide +kernel
theorem dX8_readsRoom_18 : decode cX8_readsRoom 18 = .ok (.aload_n 0, 1) := by decide +kernel
theorem dX8_readsRoom_19 : decode cX8_readsRoom 19 = .ok (.iconst 1, 1) := by decide +kernel
theorem dX8_readsRoom_20 : decode cX8_readsRoom 20 = .ok (.bipush 9, 2) := by decide +kernel
theorem dX8_readsRoom_22 : decode cX8_readsRoom 22 = .ok (.bipush 59, 2) := by decide +kernel
theorem dX8_readsRoom_24 : decode cX8_readsRoom 24 = .ok (.invokevirtual 72, 3) := by decide +kernel
theorem dX8_readsRoom_27 : decode cX8_readsRoom 27 = .ok (.istore_n 2, 1) := by decide +kernel
theorem dX8_readsRoom_28 : decode cX8_readsRoom 28 = .ok (.iload_n 2, 1) := by decide +kernel
theorem dX8_readsRoom_29 : decode cX8_readsRoom 29 = .ok (.ifCond .ge 5, 3) := by decide +kernel
theorem dX8_readsRoom_32 : decode cX8_readsRoom 32 = .ok (.iconst 0, 1) := by decide +kernel
theorem dX8_readsRoom_33 : decode cX8_readsRoom 33 = .ok (.ireturn, 1) := by decide +kernel
theorem dX8_readsRoom_34 : decode cX8_readsRoom 34 = .ok (.aload_n 0, 1) := by decide +kernel
theorem dX8_readsRoom_35 : decode cX8_readsRoom 35 = .ok (.getfield 16, 3) := by decide +kernel
theorem dX8_readsRoom_38 : decode cX8_readsRoom 38 = .ok (.iconst 0, 1) := by decide +kernel
theorem dX8_readsRoom_39 : decode cX8_readsRoom 39 = .ok (.iload_n 1, 1) := by decide +kernel
theorem dX8_readsRoom_40 : decode cX8_readsRoom 40 = .ok (.iastore, 1) := by decide +kernel
theorem dX8_readsRoom_41 : decode cX8_readsRoom 41 = .ok (.aload_n 0, 1) := by decide +kernel
theorem dX8_readsRoom_42 : decode cX8_readsRoom 42 = .ok (.getfield 16, 3) := by decide +kernel
theorem dX8_readsRoom_45 : decode cX8_readsRoom 45 = .ok (.iconst 1, 1) := by decide +kernel
theorem dX8_readsRoom_46 : decode cX8_readsRoom 46 = .ok (.iload_n 2, 1) := by decide +kernel
theorem dX8_readsRoom_47 : decode cX8_readsRoom 47 = .ok (.iastore, 1) := by decide +kernel
theorem dX8_readsRoom_48 : decode cX8_readsRoom 48 = .ok (.iconst 1, 1) := by decide +kernel
theorem dX8_readsRoom_49 : decode cX8_readsRoom 49 = .ok (.ireturn, 1) := by decide +kernel
theorem dX8_readsPerson_0 : decode cX8_readsPerson 0 = .ok (.aload_n 0, 1) := by decide +kernel
theorem dX8_readsPerson_1 : decode cX8_readsPerson 1 = .ok (.iconst 0, 1) := by decide +kernel
theorem dX8_readsPerson_2 : decode cX8_readsPerson 2 = .ok (.iconst 3, 1) := by decide +kernel
theorem dX8_readsPerson_3 : decode cX8_readsPerson 3 = .ok (.bipush 44, 2) := by decide +kernel
theorem dX8_readsPerson_5 : decode cX8_readsPerson 5 = .ok (.invokevirtual 72, 3) := by decide +kernel
theorem dX8_readsPerson_8 : decode cX8_readsPerson 8 = .ok (.istore_n 1, 1) := by decide +kernel
theorem dX8_readsPerson_9 : decode cX8_readsPerson 9 = .ok (.iload_n 1, 1) := by decide +kernel
theorem dX8_readsPerson_10 : decode cX8_readsPerson 10 = .ok (.ifCond .ge 7, 3) := by decide +kernel
theorem dX8_readsPerson_13 : decode cX8_readsPerson 13 = .ok (.iconst (-1), 1) := by decide +kernel
theorem dX8_readsPerson_14 : decode cX8_readsPerson 14 = .ok (.goto 18, 3) := by decide +kernel
theorem dX8_readsPerson_17 : decode cX8_readsPerson 17 = .ok (.aload_n 0, 1) := by decide +kernel
theorem dX8_readsPerson_18 : decode cX8_readsPerson 18 = .ok (.iconst 0, 1) := by decide +kernel
theorem dX8_readsPerson_19 : decode cX8_readsPerson 19 = .ok (.aload_n 0, 1) := by decide +kernel
theorem dX8_readsPerson_20 : decode cX8_readsPerson 20 = .ok (.getfield 16, 3) := by decide +kernel
theorem dX8_readsPerson_23 : decode cX8_readsPerson 23 = .ok (.iconst 0, 1) := by decide +kernel
theorem dX8_readsPerson_24 : decode cX8_readsPerson 24 = .ok (.iaload, 1) := by decide +kernel
theorem dX8_readsPerson_25 : decode cX8_readsPerson 25 = .ok (.iconst 1, 1) := by decide +kernel
theorem dX8_readsPerson_26 : decode cX8_readsPerson 26 = .ok (.isub, 1) := by decide +kernel
theorem dX8_readsPerson_27 : decode cX8_readsPerson 27 = .ok (.bipush 44, 2) := by decide +kernel
theorem dX8_readsPerson_29 : decode cX8_readsPerson 29 = .ok (.invokevirtual 72, 3) := by decide +kernel
theorem dX8_readsPerson_32 : decode cX8_readsPerson 32 = .ok (.istore_n 2, 1) := by decide +kernel
theorem dX8_readsPerson_33 : decode cX8_readsPerson 33 = .ok (.iload_n 2, 1) := by decide +kernel
theorem dX8_readsPerson_34 : decode cX8_readsPerson 34 = .ok (.ifCond .ge 7, 3) := by decide +kernel
theorem dX8_readsPerson_37 : decode cX8_readsPerson 37 = .ok (.iconst (-1), 1) := by decide +kernel
theorem dX8_readsPerson_38 : decode cX8_readsPerson 38 = .ok (.goto 18, 3) := by decide +kernel
theorem dX8_readsPerson_41 : decode cX8_readsPerson 41 = .ok (.aload_n 0, 1) := by decide +kernel
theorem dX8_readsPerson_42 : decode cX8_readsPerson 42 = .ok (.iconst 0, 1) := by decide +kernel
theorem dX8_readsPerson_43 : decode cX8_readsPerson 43 = .ok (.aload_n 0, 1) := by decide +kernel
theorem dX8_readsPerson_44 : decode cX8_readsPerson 44 = .ok (.getfield 16, 3) := by decide +kernel
theorem dX8_readsPerson_47 : decode cX8_readsPerson 47 = .ok (.iconst 1, 1) := by decide +kernel
theorem dX8_readsPerson_48 : decode cX8_readsPerson 48 = .ok (.iaload, 1) := by decide +kernel
theorem dX8_readsPerson_49 : decode cX8_readsPerson 49 = .ok (.iconst 1, 1) := by decide +kernel
theorem dX8_readsPerson_50 : decode cX8_readsPerson 50 = .ok (.isub, 1) := by decide +kernel
theorem dX8_readsPerson_51 : decode cX8_readsPerson 51 = .ok (.bipush 59, 2) := by decide +kernel
theorem dX8_readsPerson_53 : decode cX8_readsPerson 53 = .ok (.invokevirtual 72, 3) := by decide +kernel
theorem dX8_readsPerson_56 : decode cX8_readsPerson 56 = .ok (.istore_n 3, 1) := by decide +kernel
theorem dX8_readsPerson_57 : decode cX8_readsPerson 57 = .ok (.iload_n 3, 1) := by decide +kernel
theorem dX8_readsPerson_58 : decode cX8_readsPerson 58 = .ok (.ifCond .lt 18, 3) := by decide +kernel
theorem dX8_readsPerson_61 : decode cX8_readsPerson 61 = .ok (.aload_n 0, 1) := by decide +kernel
theorem dX8_readsPerson_62 : decode cX8_readsPerson 62 = .ok (.getfield 16, 3) := by decide +kernel
theorem dX8_readsPerson_65 : decode cX8_readsPerson 65 = .ok (.iconst 2, 1) := by decide +kernel
theorem dX8_readsPerson_66 : decode cX8_readsPerson 66 = .ok (.iaload, 1) := by decide +kernel
theorem dX8_readsPerson_67 : decode cX8_readsPerson 67 = .ok (.bipush 6, 2) := by decide +kernel
theorem dX8_readsPerson_69 : decode cX8_readsPerson 69 = .ok (.if_icmp .ge 7, 3) := by decide +kernel
theorem dX8_readsPerson_72 : decode cX8_readsPerson 72 = .ok (.iconst 1, 1) := by decide +kernel
theorem dX8_readsPerson_73 : decode cX8_readsPerson 73 = .ok (.goto 4, 3) := by decide +kernel
theorem dX8_readsPerson_76 : decode cX8_readsPerson 76 = .ok (.iconst 0, 1) := by decide +kernel
theorem dX8_readsPerson_77 : decode cX8_readsPerson 77 = .ok (.istore 4, 2) := by decide +kernel
theorem dX8_readsPerson_79 : decode cX8_readsPerson 79 = .ok (.iconst 0, 1) := by decide +kernel
theorem dX8_readsPerson_80 : decode cX8_readsPerson 80 = .ok (.istore 5, 2) := by decide +kernel
theorem dX8_readsPerson_82 : decode cX8_readsPerson 82 = .ok (.iload 5, 2) := by decide +kernel
theorem dX8_readsPerson_84 : decode cX8_readsPerson 84 = .ok (.aload_n 0, 1) := by decide +kernel
theorem dX8_readsPerson_85 : decode cX8_readsPerson 85 = .ok (.getfield 16, 3) := by decide +kernel
theorem dX8_readsPerson_88 : decode cX8_readsPerson 88 = .ok (.iconst 2, 1) := by decide +kernel
theorem dX8_readsPerson_89 : decode cX8_readsPerson 89 = .ok (.iaload, 1) := by decide +kernel
theorem dX8_readsPerson_90 : decode cX8_readsPerson 90 = .ok (.if_icmp .ge 49, 3) := by decide +kernel
theorem dX8_readsPerson_93 : decode cX8_readsPerson 93 = .ok (.iload 4, 2) := by decide +kernel
theorem dX8_readsPerson_95 : decode cX8_readsPerson 95 = .ok (.ifCond .eq 35, 3) := by decide +kernel
theorem dX8_readsPerson_98 : decode cX8_readsPerson 98 = .ok (.aload_n 0, 1) := by decide +kernel
theorem dX8_readsPerson_99 : decode cX8_readsPerson 99 = .ok (.getfield 19, 3) := by decide +kernel
theorem dX8_readsPerson_102 : decode cX8_readsPerson 102 = .ok (.bipush 7, 2) := by decide +kernel
theorem dX8_readsPerson_104 : decode cX8_readsPerson 104 = .ok (.iload 5, 2) := by decide +kernel
theorem dX8_readsPerson_106 : decode cX8_readsPerson 106 = .ok (.iadd, 1) := by decide +kernel
theorem dX8_readsPerson_107 : decode cX8_readsPerson 107 = .ok (.iaload, 1) := by decide +kernel
theorem dX8_readsPerson_108 : decode cX8_readsPerson 108 = .ok (.iload_n 2, 1) := by decide +kernel
theorem dX8_readsPerson_109 : decode cX8_readsPerson 109 = .ok (.if_icmp .ne 17, 3) := by decide +kernel
theorem dX8_readsPerson_112 : decode cX8_readsPerson 112 = .ok (.aload_n 0, 1) := by decide +kernel
theorem dX8_readsPerson_113 : decode cX8_readsPerson 113 = .ok (.getfield 19, 3) := by decide +kernel
theorem dX8_readsPerson_116 : decode cX8_readsPerson 116 = .ok (.bipush 13, 2) := by decide +kernel
theorem dX8_readsPerson_118 : decode cX8_readsPerson 118 = .ok (.iload 5, 2) := by decide +kernel
theorem dX8_readsPerson_120 : decode cX8_readsPerson 120 = .ok (.iadd, 1) := by decide +kernel
theorem dX8_readsPerson_121 : decode cX8_readsPerson 121 = .ok (.iaload, 1) := by decide +kernel
theorem dX8_readsPerson_122 : decode cX8_readsPerson 122 = .ok (.iload_n 3, 1) := by decide +kernel
theorem dX8_readsPerson_123 : decode cX8_readsPerson 123 = .ok (.if_icmp .eq 7, 3) := by decide +kernel
theorem dX8_readsPerson_126 : decode cX8_readsPerson 126 = .ok (.iconst 1, 1) := by decide +kernel
theorem dX8_readsPerson_127 : decode cX8_readsPerson 127 = .ok (.goto 4, 3) := by decide +kernel
theorem dX8_readsPerson_130 : decode cX8_readsPerson 130 = .ok (.iconst 0, 1) := by decide +kernel
theorem dX8_readsPerson_131 : decode cX8_readsPerson 131 = .ok (.istore 4, 2) := by decide +kernel
theorem dX8_readsPerson_133 : decode cX8_readsPerson 133 = .ok (.iinc 5 1, 3) := by decide +kernel
theorem dX8_readsPerson_136 : decode cX8_readsPerson 136 = .ok (.goto (-54), 3) := by decide +kernel
theorem dX8_readsPerson_139 : decode cX8_readsPerson 139 = .ok (.iload 4, 2) := by decide +kernel
theorem dX8_readsPerson_141 : decode cX8_readsPerson 141 = .ok (.ifCond .eq 10, 3) := by decide +kernel
theorem dX8_readsPerson_144 : decode cX8_readsPerson 144 = .ok (.aload_n 0, 1) := by decide +kernel
theorem dX8_readsPerson_145 : decode cX8_readsPerson 145 = .ok (.iload_n 1, 1) := by decide +kernel
theorem dX8_readsPerson_146 : decode cX8_readsPerson 146 = .ok (.iload_n 2, 1) := by decide +kernel
theorem dX8_readsPerson_147 : decode cX8_readsPerson 147 = .ok (.iload_n 3, 1) := by decide +kernel
theorem dX8_readsPerson_148 : decode cX8_readsPerson 148 = .ok (.invokevirtual 46, 3) := by decide +kernel
theorem dX8_readsPerson_151 : decode cX8_readsPerson 151 = .ok (.iload 4, 2) := by decide +kernel
theorem dX8_readsPerson_153 : decode cX8_readsPerson 153 = .ok (.ireturn, 1) := by decide +kernel
theorem dX8_readsLeaning_0 : decode cX8_readsLeaning 0 = .ok (.aload_n 0, 1) := by decide +kernel
theorem dX8_readsLeaning_1 : decode cX8_readsLeaning 1 = .ok (.iconst 0, 1) := by decide +kernel
theorem dX8_readsLeaning_2 : decode cX8_readsLeaning 2 = .ok (.aload_n 0, 1) := by decide +kernel
theorem dX8_readsLeaning_3 : decode cX8_readsLeaning 3 = .ok (.getfield 16, 3) := by decide +kernel
theorem dX8_readsLeaning_6 : decode cX8_readsLeaning 6 = .ok (.iconst 2, 1) := by decide +kernel
theorem dX8_readsLeaning_7 : decode cX8_readsLeaning 7 = .ok (.iaload, 1) := by decide +kernel
theorem dX8_readsLeaning_8 : decode cX8_readsLeaning 8 = .ok (.iconst 1, 1) := by decide +kernel
theorem dX8_readsLeaning_9 : decode cX8_readsLeaning 9 = .ok (.isub, 1) := by decide +kernel
theorem dX8_readsLeaning_10 : decode cX8_readsLeaning 10 = .ok (.bipush 44, 2) := by decide +kernel
theorem dX8_readsLeaning_12 : decode cX8_readsLeaning 12 = .ok (.invokevirtual 72, 3) := by decide +kernel
theorem dX8_readsLeaning_15 : decode cX8_readsLeaning 15 = .ok (.istore_n 1, 1) := by decide +kernel
theorem dX8_readsLeaning_16 : decode cX8_readsLeaning 16 = .ok (.iload_n 1, 1) := by decide +kernel
theorem dX8_readsLeaning_17 : decode cX8_readsLeaning 17 = .ok (.ifCond .ge 7, 3) := by decide +kernel
theorem dX8_readsLeaning_20 : decode cX8_readsLeaning 20 = .ok (.iconst (-1), 1) := by decide +kernel
theorem dX8_readsLeaning_21 : decode cX8_readsLeaning 21 = .ok (.goto 18, 3) := by decide +kernel
theorem dX8_readsLeaning_24 : decode cX8_readsLeaning 24 = .ok (.aload_n 0, 1) := by decide +kernel
theorem dX8_readsLeaning_25 : decode cX8_readsLeaning 25 = .ok (.iconst 0, 1) := by decide +kernel
theorem dX8_readsLeaning_26 : decode cX8_readsLeaning 26 = .ok (.aload_n 0, 1) := by decide +kernel
theorem dX8_readsLeaning_27 : decode cX8_readsLeaning 27 = .ok (.getfield 16, 3) := by decide +kernel
theorem dX8_readsLeaning_30 : decode cX8_readsLeaning 30 = .ok (.iconst 2, 1) := by decide +kernel
theorem dX8_readsLeaning_31 : decode cX8_readsLeaning 31 = .ok (.iaload, 1) := by decide +kernel
theorem dX8_readsLeaning_32 : decode cX8_readsLeaning 32 = .ok (.iconst 1, 1) := by decide +kernel
theorem dX8_readsLeaning_33 : decode cX8_readsLeaning 33 = .ok (.isub, 1) := by decide +kernel
theorem dX8_readsLeaning_34 : decode cX8_readsLeaning 34 = .ok (.bipush 44, 2) := by decide +kernel
theorem dX8_readsLeaning_36 : decode cX8_readsLeaning 36 = .ok (.invokevirtual 72, 3) := by decide +kernel
theorem dX8_readsLeaning_39 : decode cX8_readsLeaning 39 = .ok (.istore_n 2, 1) := by decide +kernel
theorem dX8_readsLeaning_40 : decode cX8_readsLeaning 40 = .ok (.iload_n 2, 1) := by decide +kernel
theorem dX8_readsLeaning_41 : decode cX8_readsLeaning 41 = .ok (.ifCond .ge 7, 3) := by decide +kernel
theorem dX8_readsLeaning_44 : decode cX8_readsLeaning 44 = .ok (.iconst (-1), 1) := by decide +kernel
theorem dX8_readsLeaning_45 : decode cX8_readsLeaning 45 = .ok (.goto 11, 3) := by decide +kernel
theorem dX8_readsLeaning_48 : decode cX8_readsLeaning 48 = .ok (.aload_n 0, 1) := by decide +kernel
theorem dX8_readsLeaning_49 : decode cX8_readsLeaning 49 = .ok (.iconst 0, 1) := by decide +kernel
theorem dX8_readsLeaning_50 : decode cX8_readsLeaning 50 = .ok (.iconst 1, 1) := by decide +kernel
theorem dX8_readsLeaning_51 : decode cX8_readsLeaning 51 = .ok (.bipush 44, 2) := by decide +kernel
theorem dX8_readsLeaning_53 : decode cX8_readsLeaning 53 = .ok (.invokevirtual 72, 3) := by decide +kernel
theorem dX8_readsLeaning_56 : decode cX8_readsLeaning 56 = .ok (.istore_n 3, 1) := by decide +kernel
theorem dX8_readsLeaning_57 : decode cX8_readsLeaning 57 = .ok (.iload_n 3, 1) := by decide +kernel
theorem dX8_readsLeaning_58 : decode cX8_readsLeaning 58 = .ok (.ifCond .ge 7, 3) := by decide +kernel
theorem dX8_readsLeaning_61 : decode cX8_readsLeaning 61 = .ok (.iconst (-1), 1) := by decide +kernel
theorem dX8_readsLeaning_62 : decode cX8_readsLeaning 62 = .ok (.goto 12, 3) := by decide +kernel
theorem dX8_readsLeaning_65 : decode cX8_readsLeaning 65 = .ok (.aload_n 0, 1) := by decide +kernel
theorem dX8_readsLeaning_66 : decode cX8_readsLeaning 66 = .ok (.iconst 0, 1) := by decide +kernel
theorem dX8_readsLeaning_67 : decode cX8_readsLeaning 67 = .ok (.bipush 20, 2) := by decide +kernel
theorem dX8_readsLeaning_69 : decode cX8_readsLeaning 69 = .ok (.bipush 59, 2) := by decide +kernel
theorem dX8_readsLeaning_71 : decode cX8_readsLeaning 71 = .ok (.invokevirtual 72, 3) := by decide +kernel
theorem dX8_readsLeaning_74 : decode cX8_readsLeaning 74 = .ok (.istore 4, 2) := by decide +kernel
theorem dX8_readsLeaning_76 : decode cX8_readsLeaning 76 = .ok (.iload 4, 2) := by decide +kernel
theorem dX8_readsLeaning_78 : decode cX8_readsLeaning 78 = .ok (.ifCond .lt 8, 3) := by decide +kernel
theorem dX8_readsLeaning_81 : decode cX8_readsLeaning 81 = .ok (.iload_n 1, 1) := by decide +kernel
theorem dX8_readsLeaning_82 : decode cX8_readsLeaning 82 = .ok (.iload_n 2, 1) := by decide +kernel
theorem dX8_readsLeaning_83 : decode cX8_readsLeaning 83 = .ok (.if_icmp .ne 5, 3) := by decide +kernel
theorem dX8_readsLeaning_86 : decode cX8_readsLeaning 86 = .ok (.iconst 0, 1) := by decide +kernel
theorem dX8_readsLeaning_87 : decode cX8_readsLeaning 87 = .ok (.ireturn, 1) := by decide +kernel
theorem dX8_readsLeaning_88 : decode cX8_readsLeaning 88 = .ok (.aload_n 0, 1) := by decide +kernel
theorem dX8_readsLeaning_89 : decode cX8_readsLeaning 89 = .ok (.getfield 19, 3) := by decide +kernel
theorem dX8_readsLeaning_92 : decode cX8_readsLeaning 92 = .ok (.bipush 19, 2) := by decide +kernel
theorem dX8_readsLeaning_94 : decode cX8_readsLeaning 94 = .ok (.bipush 6, 2) := by decide +kernel
theorem dX8_readsLeaning_96 : decode cX8_readsLeaning 96 = .ok (.iload_n 1, 1) := by decide +kernel
theorem dX8_readsLeaning_97 : decode cX8_readsLeaning 97 = .ok (.imul, 1) := by decide +kernel
theorem dX8_readsLeaning_98 : decode cX8_readsLeaning 98 = .ok (.iadd, 1) := by decide +kernel
theorem dX8_readsLeaning_99 : decode cX8_readsLeaning 99 = .ok (.iload_n 2, 1) := by decide +kernel
theorem dX8_readsLeaning_100 : decode cX8_readsLeaning 100 = .ok (.iadd, 1) := by decide +kernel
theorem dX8_readsLeaning_101 : decode cX8_readsLeaning 101 = .ok (.iload_n 3, 1) := by decide +kernel
theorem dX8_readsLeaning_102 : decode cX8_readsLeaning 102 = .ok (.iconst 1, 1) := by decide +kernel
theorem dX8_readsLeaning_103 : decode cX8_readsLeaning 103 = .ok (.if_icmp .ne 9, 3) := by decide +kernel
theorem dX8_readsLeaning_106 : decode cX8_readsLeaning 106 = .ok (.iload 4, 2) := by decide +kernel
theorem dX8_readsLeaning_108 : decode cX8_readsLeaning 108 = .ok (.ineg, 1) := by decide +kernel
theorem dX8_readsLeaning_109 : decode cX8_readsLeaning 109 = .ok (.goto 5, 3) := by decide +kernel
theorem dX8_readsLeaning_112 : decode cX8_readsLeaning 112 = .ok (.iload 4, 2) := by decide +kernel
theorem dX8_readsLeaning_114 : decode cX8_readsLeaning 114 = .ok (.iastore, 1) := by decide +kernel
theorem dX8_readsLeaning_115 : decode cX8_readsLeaning 115 = .ok (.iconst 1, 1) := by decide +kernel
theorem dX8_readsLeaning_116 : decode cX8_readsLeaning 116 = .ok (.ireturn, 1) := by decide +kernel
theorem dX8_readsAll_0 : decode cX8_readsAll 0 = .ok (.aload_n 0, 1) := by decide +kernel
theorem dX8_readsAll_1 : decode cX8_readsAll 1 = .ok (.invokevirtual 43, 3) := by decide +kernel
theorem dX8_readsAll_4 : decode cX8_readsAll 4 = .ok (.aload_n 0, 1) := by decide +kernel
theorem dX8_readsAll_5 : decode cX8_readsAll 5 = .ok (.iconst 0, 1) := by decide +kernel
theorem dX8_readsAll_6 : decode cX8_readsAll 6 = .ok (.putfield 61, 3) := by decide +kernel
theorem dX8_readsAll_9 : decode cX8_readsAll 9 = .ok (.iconst 1, 1) := by decide +kernel
theorem dX8_readsAll_10 : decode cX8_readsAll 10 = .ok (.istore_n 1, 1) := by decide +kernel
theorem dX8_readsAll_11 : decode cX8_readsAll 11 = .ok (.aload_n 0, 1) := by decide +kernel
theorem dX8_readsAll_12 : decode cX8_readsAll 12 = .ok (.getfield 61, 3) := by decide +kernel
theorem dX8_readsAll_15 : decode cX8_readsAll 15 = .ok (.aload_n 0, 1) := by decide +kernel
theorem dX8_readsAll_16 : decode cX8_readsAll 16 = .ok (.getfield 57, 3) := by decide +kernel
theorem dX8_readsAll_19 : decode cX8_readsAll 19 = .ok (.if_icmp .ge 109, 3) := by decide +kernel
theorem dX8_readsAll_22 : decode cX8_readsAll 22 = .ok (.aload_n 0, 1) := by decide +kernel
theorem dX8_readsAll_23 : decode cX8_readsAll 23 = .ok (.getfield 61, 3) := by decide +kernel
theorem dX8_readsAll_26 : decode cX8_readsAll 26 = .ok (.istore_n 2, 1) := by decide +kernel
theorem dX8_readsAll_27 : decode cX8_readsAll 27 = .ok (.aload_n 0, 1) := by decide +kernel
theorem dX8_readsAll_28 : decode cX8_readsAll 28 = .ok (.getfield 7, 3) := by decide +kernel
theorem dX8_readsAll_31 : decode cX8_readsAll 31 = .ok (.iload_n 2, 1) := by decide +kernel
theorem dX8_readsAll_32 : decode cX8_readsAll 32 = .ok (.iaload, 1) := by decide +kernel
theorem dX8_readsAll_33 : decode cX8_readsAll 33 = .ok (.istore_n 3, 1) := by decide +kernel
theorem dX8_readsAll_34 : decode cX8_readsAll 34 = .ok (.aload_n 0, 1) := by decide +kernel
theorem dX8_readsAll_35 : decode cX8_readsAll 35 = .ok (.dup, 1) := by decide +kernel
theorem dX8_readsAll_36 : decode cX8_readsAll 36 = .ok (.getfield 61, 3) := by decide +kernel
theorem dX8_readsAll_39 : decode cX8_readsAll 39 = .ok (.iconst 1, 1) := by decide +kernel
theorem dX8_readsAll_40 : decode cX8_readsAll 40 = .ok (.iadd, 1) := by decide +kernel
theorem dX8_readsAll_41 : decode cX8_readsAll 41 = .ok (.putfield 61, 3) := by decide +kernel
theorem dX8_readsAll_44 : decode cX8_readsAll 44 = .ok (.iload_n 3, 1) := by decide +kernel
theorem dX8_readsAll_45 : decode cX8_readsAll 45 = .ok (.bipush 114, 2) := by decide +kernel
theorem dX8_readsAll_47 : decode cX8_readsAll 47 = .ok (.if_icmp .ne 22, 3) := by decide +kernel
theorem dX8_readsAll_50 : decode cX8_readsAll 50 = .ok (.iload_n 1, 1) := by decide +kernel
theorem dX8_readsAll_51 : decode cX8_readsAll 51 = .ok (.ifCond .eq 14, 3) := by decide +kernel
theorem dX8_readsAll_54 : decode cX8_readsAll 54 = .ok (.aload_n 0, 1) := by decide +kernel
theorem dX8_readsAll_55 : decode cX8_readsAll 55 = .ok (.invokevirtual 76, 3) := by decide +kernel
theorem dX8_readsAll_58 : decode cX8_readsAll 58 = .ok (.ifCond .eq 7, 3) := by decide +kernel
theorem dX8_readsAll_61 : decode cX8_readsAll 61 = .ok (.iconst 1, 1) := by decide +kernel
theorem dX8_readsAll_62 : decode cX8_readsAll 62 = .ok (.goto 38, 3) := by decide +kernel
theorem dX8_readsAll_65 : decode cX8_readsAll 65 = .ok (.iconst 0, 1) := by decide +kernel
theorem dX8_readsAll_66 : decode cX8_readsAll 66 = .ok (.goto 34, 3) := by decide +kernel
theorem dX8_readsAll_69 : decode cX8_readsAll 69 = .ok (.iload_n 3, 1) := by decide +kernel
theorem dX8_readsAll_70 : decode cX8_readsAll 70 = .ok (.bipush 112, 2) := by decide +kernel
theorem dX8_readsAll_72 : decode cX8_readsAll 72 = .ok (.if_icmp .ne 10, 3) := by decide +kernel
theorem dX8_readsAll_75 : decode cX8_readsAll 75 = .ok (.aload_n 0, 1) := by decide +kernel
theorem dX8_readsAll_76 : decode cX8_readsAll 76 = .ok (.invokevirtual 80, 3) := by decide +kernel
theorem dX8_readsAll_79 : decode cX8_readsAll 79 = .ok (.goto 21, 3) := by decide +kernel
theorem dX8_readsAll_82 : decode cX8_readsAll 82 = .ok (.iload_n 3, 1) := by decide +kernel
end
section
theorem dX8_readsAll_83 : decode cX8_readsAll 83 = .ok (.bipush 108, 2) := by decide +kernel
theorem dX8_readsAll_85 : decode cX8_readsAll 85 = .ok (.if_icmp .ne 14, 3) := by decide +kernel
theorem dX8_readsAll_88 : decode cX8_readsAll 88 = .ok (.aload_n 0, 1) := by decide +kernel
theorem dX8_readsAll_89 : decode cX8_readsAll 89 = .ok (.invokevirtual 83, 3) := by decide +kernel
theorem dX8_readsAll_92 : decode cX8_readsAll 92 = .ok (.ifCond .eq 7, 3) := by decide +kernel
theorem dX8_readsAll_95 : decode cX8_readsAll 95 = .ok (.iconst 1, 1) := by decide +kernel
theorem dX8_readsAll_96 : decode cX8_readsAll 96 = .ok (.goto 4, 3) := by decide +kernel
theorem dX8_readsAll_99 : decode cX8_readsAll 99 = .ok (.iconst 0, 1) := by decide +kernel
theorem dX8_readsAll_100 : decode cX8_readsAll 100 = .ok (.istore 4, 2) := by decide +kernel
theorem dX8_readsAll_102 : decode cX8_readsAll 102 = .ok (.iload_n 1, 1) := by decide +kernel
theorem dX8_readsAll_103 : decode cX8_readsAll 103 = .ok (.ifCond .eq 13, 3) := by decide +kernel
theorem dX8_readsAll_106 : decode cX8_readsAll 106 = .ok (.iload_n 3, 1) := by decide +kernel
theorem dX8_readsAll_107 : decode cX8_readsAll 107 = .ok (.bipush 114, 2) := by decide +kernel
theorem dX8_readsAll_109 : decode cX8_readsAll 109 = .ok (.if_icmp .ne 7, 3) := by decide +kernel
theorem dX8_readsAll_112 : decode cX8_readsAll 112 = .ok (.iconst 1, 1) := by decide +kernel
theorem dX8_readsAll_113 : decode cX8_readsAll 113 = .ok (.goto 4, 3) := by decide +kernel
theorem dX8_readsAll_116 : decode cX8_readsAll 116 = .ok (.iconst 0, 1) := by decide +kernel
theorem dX8_readsAll_117 : decode cX8_readsAll 117 = .ok (.istore_n 1, 1) := by decide +kernel
theorem dX8_readsAll_118 : decode cX8_readsAll 118 = .ok (.iload 4, 2) := by decide +kernel
theorem dX8_readsAll_120 : decode cX8_readsAll 120 = .ok (.ifCond .ne 5, 3) := by decide +kernel
theorem dX8_readsAll_123 : decode cX8_readsAll 123 = .ok (.iload_n 2, 1) := by decide +kernel
theorem dX8_readsAll_124 : decode cX8_readsAll 124 = .ok (.ireturn, 1) := by decide +kernel
theorem dX8_readsAll_125 : decode cX8_readsAll 125 = .ok (.goto (-114), 3) := by decide +kernel
theorem dX8_readsAll_128 : decode cX8_readsAll 128 = .ok (.bipush (-4), 2) := by decide +kernel
theorem dX8_readsAll_130 : decode cX8_readsAll 130 = .ok (.ireturn, 1) := by decide +kernel
theorem dX8_fault_0 : decode cX8_fault 0 = .ok (.aload_n 0, 1) := by decide +kernel
theorem dX8_fault_1 : decode cX8_fault 1 = .ok (.invokevirtual 86, 3) := by decide +kernel
theorem dX8_fault_4 : decode cX8_fault 4 = .ok (.ireturn, 1) := by decide +kernel
theorem dX8_lays_0 : decode cX8_lays 0 = .ok (.iconst 0, 1) := by decide +kernel
theorem dX8_lays_1 : decode cX8_lays 1 = .ok (.istore_n 1, 1) := by decide +kernel
theorem dX8_lays_2 : decode cX8_lays 2 = .ok (.iload_n 1, 1) := by decide +kernel
theorem dX8_lays_3 : decode cX8_lays 3 = .ok (.bipush 9, 2) := by decide +kernel
theorem dX8_lays_5 : decode cX8_lays 5 = .ok (.if_icmp .ge 21, 3) := by decide +kernel
theorem dX8_lays_8 : decode cX8_lays 8 = .ok (.aload_n 0, 1) := by decide +kernel
theorem dX8_lays_9 : decode cX8_lays 9 = .ok (.getfield 13, 3) := by decide +kernel
theorem dX8_lays_12 : decode cX8_lays 12 = .ok (.iload_n 1, 1) := by decide +kernel
theorem dX8_lays_13 : decode cX8_lays 13 = .ok (.aload_n 0, 1) := by decide +kernel
theorem dX8_lays_14 : decode cX8_lays 14 = .ok (.getfield 16, 3) := by decide +kernel
theorem dX8_lays_17 : decode cX8_lays 17 = .ok (.iload_n 1, 1) := by decide +kernel
theorem dX8_lays_18 : decode cX8_lays 18 = .ok (.iaload, 1) := by decide +kernel
theorem dX8_lays_19 : decode cX8_lays 19 = .ok (.iastore, 1) := by decide +kernel
theorem dX8_lays_20 : decode cX8_lays 20 = .ok (.iinc 1 1, 3) := by decide +kernel
theorem dX8_lays_23 : decode cX8_lays 23 = .ok (.goto (-21), 3) := by decide +kernel
theorem dX8_lays_26 : decode cX8_lays 26 = .ok (.iconst 0, 1) := by decide +kernel
theorem dX8_lays_27 : decode cX8_lays 27 = .ok (.istore_n 1, 1) := by decide +kernel
theorem dX8_lays_28 : decode cX8_lays 28 = .ok (.iload_n 1, 1) := by decide +kernel
theorem dX8_lays_29 : decode cX8_lays 29 = .ok (.bipush 55, 2) := by decide +kernel
theorem dX8_lays_31 : decode cX8_lays 31 = .ok (.if_icmp .ge 21, 3) := by decide +kernel
theorem dX8_lays_34 : decode cX8_lays 34 = .ok (.aload_n 0, 1) := by decide +kernel
theorem dX8_lays_35 : decode cX8_lays 35 = .ok (.getfield 22, 3) := by decide +kernel
theorem dX8_lays_38 : decode cX8_lays 38 = .ok (.iload_n 1, 1) := by decide +kernel
theorem dX8_lays_39 : decode cX8_lays 39 = .ok (.aload_n 0, 1) := by decide +kernel
theorem dX8_lays_40 : decode cX8_lays 40 = .ok (.getfield 19, 3) := by decide +kernel
theorem dX8_lays_43 : decode cX8_lays 43 = .ok (.iload_n 1, 1) := by decide +kernel
theorem dX8_lays_44 : decode cX8_lays 44 = .ok (.iaload, 1) := by decide +kernel
theorem dX8_lays_45 : decode cX8_lays 45 = .ok (.iastore, 1) := by decide +kernel
theorem dX8_lays_46 : decode cX8_lays 46 = .ok (.iinc 1 1, 3) := by decide +kernel
theorem dX8_lays_49 : decode cX8_lays 49 = .ok (.goto (-21), 3) := by decide +kernel
theorem dX8_lays_52 : decode cX8_lays 52 = .ok (.aload_n 0, 1) := by decide +kernel
theorem dX8_lays_53 : decode cX8_lays 53 = .ok (.iconst 0, 1) := by decide +kernel
theorem dX8_lays_54 : decode cX8_lays 54 = .ok (.putfield 90, 3) := by decide +kernel
theorem dX8_lays_57 : decode cX8_lays 57 = .ok (.aload_n 0, 1) := by decide +kernel
theorem dX8_lays_58 : decode cX8_lays 58 = .ok (.iconst 0, 1) := by decide +kernel
theorem dX8_lays_59 : decode cX8_lays 59 = .ok (.putfield 93, 3) := by decide +kernel
theorem dX8_lays_62 : decode cX8_lays 62 = .ok (.aload_n 0, 1) := by decide +kernel
theorem dX8_lays_63 : decode cX8_lays 63 = .ok (.iconst 0, 1) := by decide +kernel
theorem dX8_lays_64 : decode cX8_lays 64 = .ok (.putfield 96, 3) := by decide +kernel
theorem dX8_lays_67 : decode cX8_lays 67 = .ok (.return_, 1) := by decide +kernel
theorem dX8_lay_0 : decode cX8_lay 0 = .ok (.aload_n 0, 1) := by decide +kernel
theorem dX8_lay_1 : decode cX8_lay 1 = .ok (.invokevirtual 86, 3) := by decide +kernel
theorem dX8_lay_4 : decode cX8_lay 4 = .ok (.bipush (-4), 2) := by decide +kernel
theorem dX8_lay_6 : decode cX8_lay 6 = .ok (.if_icmp .ne 12, 3) := by decide +kernel
theorem dX8_lay_9 : decode cX8_lay 9 = .ok (.aload_n 0, 1) := by decide +kernel
theorem dX8_lay_10 : decode cX8_lay 10 = .ok (.getfield 16, 3) := by decide +kernel
theorem dX8_lay_13 : decode cX8_lay 13 = .ok (.iconst 2, 1) := by decide +kernel
theorem dX8_lay_14 : decode cX8_lay 14 = .ok (.iaload, 1) := by decide +kernel
theorem dX8_lay_15 : decode cX8_lay 15 = .ok (.ifCond .ne 6, 3) := by decide +kernel
theorem dX8_lay_18 : decode cX8_lay 18 = .ok (.bipush (-2), 2) := by decide +kernel
theorem dX8_lay_20 : decode cX8_lay 20 = .ok (.ireturn, 1) := by decide +kernel
theorem dX8_lay_21 : decode cX8_lay 21 = .ok (.aload_n 0, 1) := by decide +kernel
theorem dX8_lay_22 : decode cX8_lay 22 = .ok (.invokevirtual 50, 3) := by decide +kernel
theorem dX8_lay_25 : decode cX8_lay 25 = .ok (.aload_n 0, 1) := by decide +kernel
theorem dX8_lay_26 : decode cX8_lay 26 = .ok (.getfield 13, 3) := by decide +kernel
theorem dX8_lay_29 : decode cX8_lay 29 = .ok (.iconst 2, 1) := by decide +kernel
theorem dX8_lay_30 : decode cX8_lay 30 = .ok (.iaload, 1) := by decide +kernel
theorem dX8_lay_31 : decode cX8_lay 31 = .ok (.ireturn, 1) := by decide +kernel
theorem dX8_way_0 : decode cX8_way 0 = .ok (.iload_n 0, 1) := by decide +kernel
theorem dX8_way_1 : decode cX8_way 1 = .ok (.ifCond .ne 10, 3) := by decide +kernel
theorem dX8_way_4 : decode cX8_way 4 = .ok (.iload_n 1, 1) := by decide +kernel
theorem dX8_way_5 : decode cX8_way 5 = .ok (.ifCond .ne 6, 3) := by decide +kernel
theorem dX8_way_8 : decode cX8_way 8 = .ok (.bipush (-4), 2) := by decide +kernel
theorem dX8_way_10 : decode cX8_way 10 = .ok (.ireturn, 1) := by decide +kernel
theorem dX8_way_11 : decode cX8_way 11 = .ok (.iload_n 0, 1) := by decide +kernel
theorem dX8_way_12 : decode cX8_way 12 = .ok (.invokestatic 99, 3) := by decide +kernel
theorem dX8_way_15 : decode cX8_way 15 = .ok (.iconst 2, 1) := by decide +kernel
theorem dX8_way_16 : decode cX8_way 16 = .ok (.iload_n 1, 1) := by decide +kernel
theorem dX8_way_17 : decode cX8_way 17 = .ok (.invokestatic 99, 3) := by decide +kernel
theorem dX8_way_20 : decode cX8_way 20 = .ok (.imul, 1) := by decide +kernel
theorem dX8_way_21 : decode cX8_way 21 = .ok (.if_icmp .le 14, 3) := by decide +kernel
theorem dX8_way_24 : decode cX8_way 24 = .ok (.iload_n 0, 1) := by decide +kernel
theorem dX8_way_25 : decode cX8_way 25 = .ok (.ifCond .le 7, 3) := by decide +kernel
theorem dX8_way_28 : decode cX8_way 28 = .ok (.iconst 2, 1) := by decide +kernel
theorem dX8_way_29 : decode cX8_way 29 = .ok (.goto 5, 3) := by decide +kernel
theorem dX8_way_32 : decode cX8_way 32 = .ok (.bipush 6, 2) := by decide +kernel
theorem dX8_way_34 : decode cX8_way 34 = .ok (.ireturn, 1) := by decide +kernel
theorem dX8_way_35 : decode cX8_way 35 = .ok (.iload_n 1, 1) := by decide +kernel
theorem dX8_way_36 : decode cX8_way 36 = .ok (.invokestatic 99, 3) := by decide +kernel
theorem dX8_way_39 : decode cX8_way 39 = .ok (.iconst 2, 1) := by decide +kernel
theorem dX8_way_40 : decode cX8_way 40 = .ok (.iload_n 0, 1) := by decide +kernel
theorem dX8_way_41 : decode cX8_way 41 = .ok (.invokestatic 99, 3) := by decide +kernel
theorem dX8_way_44 : decode cX8_way 44 = .ok (.imul, 1) := by decide +kernel
theorem dX8_way_45 : decode cX8_way 45 = .ok (.if_icmp .le 13, 3) := by decide +kernel
theorem dX8_way_48 : decode cX8_way 48 = .ok (.iload_n 1, 1) := by decide +kernel
theorem dX8_way_49 : decode cX8_way 49 = .ok (.ifCond .le 7, 3) := by decide +kernel
theorem dX8_way_52 : decode cX8_way 52 = .ok (.iconst 4, 1) := by decide +kernel
theorem dX8_way_53 : decode cX8_way 53 = .ok (.goto 4, 3) := by decide +kernel
theorem dX8_way_56 : decode cX8_way 56 = .ok (.iconst 0, 1) := by decide +kernel
theorem dX8_way_57 : decode cX8_way 57 = .ok (.ireturn, 1) := by decide +kernel
theorem dX8_way_58 : decode cX8_way 58 = .ok (.iload_n 0, 1) := by decide +kernel
theorem dX8_way_59 : decode cX8_way 59 = .ok (.ifCond .le 15, 3) := by decide +kernel
theorem dX8_way_62 : decode cX8_way 62 = .ok (.iload_n 1, 1) := by decide +kernel
theorem dX8_way_63 : decode cX8_way 63 = .ok (.ifCond .le 7, 3) := by decide +kernel
theorem dX8_way_66 : decode cX8_way 66 = .ok (.iconst 3, 1) := by decide +kernel
theorem dX8_way_67 : decode cX8_way 67 = .ok (.goto 17, 3) := by decide +kernel
theorem dX8_way_70 : decode cX8_way 70 = .ok (.iconst 1, 1) := by decide +kernel
theorem dX8_way_71 : decode cX8_way 71 = .ok (.goto 13, 3) := by decide +kernel
theorem dX8_way_74 : decode cX8_way 74 = .ok (.iload_n 1, 1) := by decide +kernel
theorem dX8_way_75 : decode cX8_way 75 = .ok (.ifCond .le 7, 3) := by decide +kernel
theorem dX8_way_78 : decode cX8_way 78 = .ok (.iconst 5, 1) := by decide +kernel
theorem dX8_way_79 : decode cX8_way 79 = .ok (.goto 5, 3) := by decide +kernel
theorem dX8_way_82 : decode cX8_way 82 = .ok (.bipush 7, 2) := by decide +kernel
theorem dX8_way_84 : decode cX8_way 84 = .ok (.ireturn, 1) := by decide +kernel
theorem dX8_feels_0 : decode cX8_feels 0 = .ok (.iconst 0, 1) := by decide +kernel
theorem dX8_feels_1 : decode cX8_feels 1 = .ok (.istore 4, 2) := by decide +kernel
theorem dX8_feels_3 : decode cX8_feels 3 = .ok (.iconst 0, 1) := by decide +kernel
theorem dX8_feels_4 : decode cX8_feels 4 = .ok (.istore 5, 2) := by decide +kernel
theorem dX8_feels_6 : decode cX8_feels 6 = .ok (.iload 5, 2) := by decide +kernel
theorem dX8_feels_8 : decode cX8_feels 8 = .ok (.aload_n 0, 1) := by decide +kernel
theorem dX8_feels_9 : decode cX8_feels 9 = .ok (.getfield 13, 3) := by decide +kernel
theorem dX8_feels_12 : decode cX8_feels 12 = .ok (.iconst 2, 1) := by decide +kernel
theorem dX8_feels_13 : decode cX8_feels 13 = .ok (.iaload, 1) := by decide +kernel
theorem dX8_feels_14 : decode cX8_feels 14 = .ok (.if_icmp .ge 136, 3) := by decide +kernel
theorem dX8_feels_17 : decode cX8_feels 17 = .ok (.aload_n 0, 1) := by decide +kernel
theorem dX8_feels_18 : decode cX8_feels 18 = .ok (.getfield 22, 3) := by decide +kernel
theorem dX8_feels_21 : decode cX8_feels 21 = .ok (.bipush 7, 2) := by decide +kernel
theorem dX8_feels_23 : decode cX8_feels 23 = .ok (.iload 5, 2) := by decide +kernel
theorem dX8_feels_25 : decode cX8_feels 25 = .ok (.iadd, 1) := by decide +kernel
theorem dX8_feels_26 : decode cX8_feels 26 = .ok (.iaload, 1) := by decide +kernel
theorem dX8_feels_27 : decode cX8_feels 27 = .ok (.aload_n 0, 1) := by decide +kernel
theorem dX8_feels_28 : decode cX8_feels 28 = .ok (.getfield 22, 3) := by decide +kernel
theorem dX8_feels_31 : decode cX8_feels 31 = .ok (.bipush 7, 2) := by decide +kernel
theorem dX8_feels_33 : decode cX8_feels 33 = .ok (.iload_n 1, 1) := by decide +kernel
theorem dX8_feels_34 : decode cX8_feels 34 = .ok (.iadd, 1) := by decide +kernel
theorem dX8_feels_35 : decode cX8_feels 35 = .ok (.iaload, 1) := by decide +kernel
theorem dX8_feels_36 : decode cX8_feels 36 = .ok (.isub, 1) := by decide +kernel
theorem dX8_feels_37 : decode cX8_feels 37 = .ok (.istore 6, 2) := by decide +kernel
theorem dX8_feels_39 : decode cX8_feels 39 = .ok (.aload_n 0, 1) := by decide +kernel
theorem dX8_feels_40 : decode cX8_feels 40 = .ok (.getfield 22, 3) := by decide +kernel
theorem dX8_feels_43 : decode cX8_feels 43 = .ok (.bipush 13, 2) := by decide +kernel
theorem dX8_feels_45 : decode cX8_feels 45 = .ok (.iload 5, 2) := by decide +kernel
theorem dX8_feels_47 : decode cX8_feels 47 = .ok (.iadd, 1) := by decide +kernel
theorem dX8_feels_48 : decode cX8_feels 48 = .ok (.iaload, 1) := by decide +kernel
theorem dX8_feels_49 : decode cX8_feels 49 = .ok (.aload_n 0, 1) := by decide +kernel
theorem dX8_feels_50 : decode cX8_feels 50 = .ok (.getfield 22, 3) := by decide +kernel
theorem dX8_feels_53 : decode cX8_feels 53 = .ok (.bipush 13, 2) := by decide +kernel
theorem dX8_feels_55 : decode cX8_feels 55 = .ok (.iload_n 1, 1) := by decide +kernel
theorem dX8_feels_56 : decode cX8_feels 56 = .ok (.iadd, 1) := by decide +kernel
theorem dX8_feels_57 : decode cX8_feels 57 = .ok (.iaload, 1) := by decide +kernel
theorem dX8_feels_58 : decode cX8_feels 58 = .ok (.isub, 1) := by decide +kernel
theorem dX8_feels_59 : decode cX8_feels 59 = .ok (.istore 7, 2) := by decide +kernel
theorem dX8_feels_61 : decode cX8_feels 61 = .ok (.bipush 12, 2) := by decide +kernel
theorem dX8_feels_63 : decode cX8_feels 63 = .ok (.iload 6, 2) := by decide +kernel
theorem dX8_feels_65 : decode cX8_feels 65 = .ok (.invokestatic 99, 3) := by decide +kernel
theorem dX8_feels_68 : decode cX8_feels 68 = .ok (.isub, 1) := by decide +kernel
theorem dX8_feels_69 : decode cX8_feels 69 = .ok (.iload 7, 2) := by decide +kernel
theorem dX8_feels_71 : decode cX8_feels 71 = .ok (.invokestatic 99, 3) := by decide +kernel
theorem dX8_feels_74 : decode cX8_feels 74 = .ok (.isub, 1) := by decide +kernel
theorem dX8_feels_75 : decode cX8_feels 75 = .ok (.istore 8, 2) := by decide +kernel
theorem dX8_feels_77 : decode cX8_feels 77 = .ok (.aload_n 0, 1) := by decide +kernel
theorem dX8_feels_78 : decode cX8_feels 78 = .ok (.getfield 22, 3) := by decide +kernel
theorem dX8_feels_81 : decode cX8_feels 81 = .ok (.bipush 19, 2) := by decide +kernel
theorem dX8_feels_83 : decode cX8_feels 83 = .ok (.bipush 6, 2) := by decide +kernel
theorem dX8_feels_85 : decode cX8_feels 85 = .ok (.iload_n 1, 1) := by decide +kernel
theorem dX8_feels_86 : decode cX8_feels 86 = .ok (.imul, 1) := by decide +kernel
theorem dX8_feels_87 : decode cX8_feels 87 = .ok (.iadd, 1) := by decide +kernel
theorem dX8_feels_88 : decode cX8_feels 88 = .ok (.iload 5, 2) := by decide +kernel
theorem dX8_feels_90 : decode cX8_feels 90 = .ok (.iadd, 1) := by decide +kernel
theorem dX8_feels_91 : decode cX8_feels 91 = .ok (.iaload, 1) := by decide +kernel
theorem dX8_feels_92 : decode cX8_feels 92 = .ok (.iload 8, 2) := by decide +kernel
theorem dX8_feels_94 : decode cX8_feels 94 = .ok (.ifCond .ge 7, 3) := by decide +kernel
theorem dX8_feels_97 : decode cX8_feels 97 = .ok (.iconst 0, 1) := by decide +kernel
theorem dX8_feels_98 : decode cX8_feels 98 = .ok (.goto 5, 3) := by decide +kernel
theorem dX8_feels_101 : decode cX8_feels 101 = .ok (.iload 8, 2) := by decide +kernel
theorem dX8_feels_103 : decode cX8_feels 103 = .ok (.imul, 1) := by decide +kernel
theorem dX8_feels_104 : decode cX8_feels 104 = .ok (.istore 9, 2) := by decide +kernel
theorem dX8_feels_106 : decode cX8_feels 106 = .ok (.iload 4, 2) := by decide +kernel
theorem dX8_feels_108 : decode cX8_feels 108 = .ok (.iload_n 2, 1) := by decide +kernel
theorem dX8_feels_109 : decode cX8_feels 109 = .ok (.iload 5, 2) := by decide +kernel
theorem dX8_feels_111 : decode cX8_feels 111 = .ok (.ishr, 1) := by decide +kernel
theorem dX8_feels_112 : decode cX8_feels 112 = .ok (.iconst 1, 1) := by decide +kernel
theorem dX8_feels_113 : decode cX8_feels 113 = .ok (.iand, 1) := by decide +kernel
theorem dX8_feels_114 : decode cX8_feels 114 = .ok (.ifCond .eq 9, 3) := by decide +kernel
theorem dX8_feels_117 : decode cX8_feels 117 = .ok (.iload 5, 2) := by decide +kernel
theorem dX8_feels_119 : decode cX8_feels 119 = .ok (.iload_n 1, 1) := by decide +kernel
theorem dX8_feels_120 : decode cX8_feels 120 = .ok (.if_icmp .ne 7, 3) := by decide +kernel
theorem dX8_feels_123 : decode cX8_feels 123 = .ok (.iconst 0, 1) := by decide +kernel
theorem dX8_feels_124 : decode cX8_feels 124 = .ok (.goto 17, 3) := by decide +kernel
theorem dX8_feels_127 : decode cX8_feels 127 = .ok (.iload 9, 2) := by decide +kernel
theorem dX8_feels_129 : decode cX8_feels 129 = .ok (.iload_n 3, 1) := by decide +kernel
theorem dX8_feels_130 : decode cX8_feels 130 = .ok (.ifCond .eq 8, 3) := by decide +kernel
theorem dX8_feels_133 : decode cX8_feels 133 = .ok (.iload 6, 2) := by decide +kernel
theorem dX8_feels_135 : decode cX8_feels 135 = .ok (.goto 5, 3) := by decide +kernel
theorem dX8_feels_138 : decode cX8_feels 138 = .ok (.iload 7, 2) := by decide +kernel
theorem dX8_feels_140 : decode cX8_feels 140 = .ok (.imul, 1) := by decide +kernel
theorem dX8_feels_141 : decode cX8_feels 141 = .ok (.iadd, 1) := by decide +kernel
theorem dX8_feels_142 : decode cX8_feels 142 = .ok (.istore 4, 2) := by decide +kernel
theorem dX8_feels_144 : decode cX8_feels 144 = .ok (.iinc 5 1, 3) := by decide +kernel
theorem dX8_feels_147 : decode cX8_feels 147 = .ok (.goto (-141), 3) := by decide +kernel
theorem dX8_feels_150 : decode cX8_feels 150 = .ok (.iload 4, 2) := by decide +kernel
theorem dX8_feels_152 : decode cX8_feels 152 = .ok (.ireturn, 1) := by decide +kernel
theorem dX8_all_0 : decode cX8_all 0 = .ok (.bipush 63, 2) := by decide +kernel
theorem dX8_all_2 : decode cX8_all 2 = .ok (.ireturn, 1) := by decide +kernel
theorem dX8_draftBy_0 : decode cX8_draftBy 0 = .ok (.aload_n 0, 1) := by decide +kernel
theorem dX8_draftBy_1 : decode cX8_draftBy 1 = .ok (.iload_n 1, 1) := by decide +kernel
theorem dX8_draftBy_2 : decode cX8_draftBy 2 = .ok (.iload_n 2, 1) := by decide +kernel
theorem dX8_draftBy_3 : decode cX8_draftBy 3 = .ok (.iconst 1, 1) := by decide +kernel
theorem dX8_draftBy_4 : decode cX8_draftBy 4 = .ok (.invokevirtual 102, 3) := by decide +kernel
theorem dX8_draftBy_7 : decode cX8_draftBy 7 = .ok (.aload_n 0, 1) := by decide +kernel
theorem dX8_draftBy_8 : decode cX8_draftBy 8 = .ok (.iload_n 1, 1) := by decide +kernel
theorem dX8_draftBy_9 : decode cX8_draftBy 9 = .ok (.iload_n 2, 1) := by decide +kernel
theorem dX8_draftBy_10 : decode cX8_draftBy 10 = .ok (.iconst 0, 1) := by decide +kernel
theorem dX8_draftBy_11 : decode cX8_draftBy 11 = .ok (.invokevirtual 102, 3) := by decide +kernel
theorem dX8_draftBy_14 : decode cX8_draftBy 14 = .ok (.invokestatic 106, 3) := by decide +kernel
theorem dX8_draftBy_17 : decode cX8_draftBy 17 = .ok (.ireturn, 1) := by decide +kernel
theorem dX8_draftOf_0 : decode cX8_draftOf 0 = .ok (.aload_n 0, 1) := by decide +kernel
theorem dX8_draftOf_1 : decode cX8_draftOf 1 = .ok (.iload_n 1, 1) := by decide +kernel
theorem dX8_draftOf_2 : decode cX8_draftOf 2 = .ok (.invokestatic 110, 3) := by decide +kernel
theorem dX8_draftOf_5 : decode cX8_draftOf 5 = .ok (.invokevirtual 113, 3) := by decide +kernel
theorem dX8_draftOf_8 : decode cX8_draftOf 8 = .ok (.ireturn, 1) := by decide +kernel
theorem dX8_person_0 : decode cX8_person 0 = .ok (.aload_n 0, 1) := by decide +kernel
theorem dX8_person_1 : decode cX8_person 1 = .ok (.iload_n 1, 1) := by decide +kernel
theorem dX8_person_2 : decode cX8_person 2 = .ok (.invokevirtual 116, 3) := by decide +kernel
theorem dX8_person_5 : decode cX8_person 5 = .ok (.ifCond .ne 5, 3) := by decide +kernel
theorem dX8_person_8 : decode cX8_person 8 = .ok (.iconst (-1), 1) := by decide +kernel
theorem dX8_person_9 : decode cX8_person 9 = .ok (.ireturn, 1) := by decide +kernel
theorem dX8_person_10 : decode cX8_person 10 = .ok (.iload_n 2, 1) := by decide +kernel
theorem dX8_person_11 : decode cX8_person 11 = .ok (.tableswitch 113 0 6 #[41, 50, 60, 70, 79, 85, 99], 41) := by decide +kernel
theorem dX8_person_52 : decode cX8_person 52 = .ok (.aload_n 0, 1) := by decide +kernel
theorem dX8_person_53 : decode cX8_person 53 = .ok (.getfield 13, 3) := by decide +kernel
theorem dX8_person_56 : decode cX8_person 56 = .ok (.iconst 3, 1) := by decide +kernel
theorem dX8_person_57 : decode cX8_person 57 = .ok (.iload_n 1, 1) := by decide +kernel
theorem dX8_person_58 : decode cX8_person 58 = .ok (.iadd, 1) := by decide +kernel
theorem dX8_person_59 : decode cX8_person 59 = .ok (.iaload, 1) := by decide +kernel
theorem dX8_person_60 : decode cX8_person 60 = .ok (.ireturn, 1) := by decide +kernel
theorem dX8_person_61 : decode cX8_person 61 = .ok (.aload_n 0, 1) := by decide +kernel
theorem dX8_person_62 : decode cX8_person 62 = .ok (.getfield 22, 3) := by decide +kernel
theorem dX8_person_65 : decode cX8_person 65 = .ok (.bipush 7, 2) := by decide +kernel
theorem dX8_person_67 : decode cX8_person 67 = .ok (.iload_n 1, 1) := by decide +kernel
theorem dX8_person_68 : decode cX8_person 68 = .ok (.iadd, 1) := by decide +kernel
theorem dX8_person_69 : decode cX8_person 69 = .ok (.iaload, 1) := by decide +kernel
theorem dX8_person_70 : decode cX8_person 70 = .ok (.ireturn, 1) := by decide +kernel
theorem dX8_person_71 : decode cX8_person 71 = .ok (.aload_n 0, 1) := by decide +kernel
theorem dX8_person_72 : decode cX8_person 72 = .ok (.getfield 22, 3) := by decide +kernel
theorem dX8_person_75 : decode cX8_person 75 = .ok (.bipush 13, 2) := by decide +kernel
theorem dX8_person_77 : decode cX8_person 77 = .ok (.iload_n 1, 1) := by decide +kernel
theorem dX8_person_78 : decode cX8_person 78 = .ok (.iadd, 1) := by decide +kernel
theorem dX8_person_79 : decode cX8_person 79 = .ok (.iaload, 1) := by decide +kernel
theorem dX8_person_80 : decode cX8_person 80 = .ok (.ireturn, 1) := by decide +kernel
theorem dX8_person_81 : decode cX8_person 81 = .ok (.aload_n 0, 1) := by decide +kernel
theorem dX8_person_82 : decode cX8_person 82 = .ok (.getfield 22, 3) := by decide +kernel
theorem dX8_person_85 : decode cX8_person 85 = .ok (.iconst 1, 1) := by decide +kernel
theorem dX8_person_86 : decode cX8_person 86 = .ok (.iload_n 1, 1) := by decide +kernel
theorem dX8_person_87 : decode cX8_person 87 = .ok (.iadd, 1) := by decide +kernel
theorem dX8_person_88 : decode cX8_person 88 = .ok (.iaload, 1) := by decide +kernel
theorem dX8_person_89 : decode cX8_person 89 = .ok (.ireturn, 1) := by decide +kernel
theorem dX8_person_90 : decode cX8_person 90 = .ok (.aload_n 0, 1) := by decide +kernel
theorem dX8_person_91 : decode cX8_person 91 = .ok (.iload_n 1, 1) := by decide +kernel
theorem dX8_person_92 : decode cX8_person 92 = .ok (.invokevirtual 119, 3) := by decide +kernel
theorem dX8_person_95 : decode cX8_person 95 = .ok (.ireturn, 1) := by decide +kernel
theorem dX8_person_96 : decode cX8_person 96 = .ok (.aload_n 0, 1) := by decide +kernel
theorem dX8_person_97 : decode cX8_person 97 = .ok (.iload_n 1, 1) := by decide +kernel
theorem dX8_person_98 : decode cX8_person 98 = .ok (.invokestatic 110, 3) := by decide +kernel
theorem dX8_person_101 : decode cX8_person 101 = .ok (.iconst 1, 1) := by decide +kernel
theorem dX8_person_102 : decode cX8_person 102 = .ok (.invokevirtual 102, 3) := by decide +kernel
theorem dX8_person_105 : decode cX8_person 105 = .ok (.sipush 10000, 3) := by decide +kernel
theorem dX8_person_108 : decode cX8_person 108 = .ok (.iadd, 1) := by decide +kernel
theorem dX8_person_109 : decode cX8_person 109 = .ok (.ireturn, 1) := by decide +kernel
theorem dX8_person_110 : decode cX8_person 110 = .ok (.aload_n 0, 1) := by decide +kernel
theorem dX8_person_111 : decode cX8_person 111 = .ok (.iload_n 1, 1) := by decide +kernel
theorem dX8_person_112 : decode cX8_person 112 = .ok (.invokestatic 110, 3) := by decide +kernel
theorem dX8_person_115 : decode cX8_person 115 = .ok (.iconst 0, 1) := by decide +kernel
theorem dX8_person_116 : decode cX8_person 116 = .ok (.invokevirtual 102, 3) := by decide +kernel
theorem dX8_person_119 : decode cX8_person 119 = .ok (.sipush 10000, 3) := by decide +kernel
theorem dX8_person_122 : decode cX8_person 122 = .ok (.iadd, 1) := by decide +kernel
theorem dX8_person_123 : decode cX8_person 123 = .ok (.ireturn, 1) := by decide +kernel
theorem dX8_person_124 : decode cX8_person 124 = .ok (.iconst (-1), 1) := by decide +kernel
theorem dX8_person_125 : decode cX8_person 125 = .ok (.ireturn, 1) := by decide +kernel
theorem dX8_leaning_0 : decode cX8_leaning 0 = .ok (.aload_n 0, 1) := by decide +kernel
theorem dX8_leaning_1 : decode cX8_leaning 1 = .ok (.iload_n 1, 1) := by decide +kernel
theorem dX8_leaning_2 : decode cX8_leaning 2 = .ok (.invokevirtual 116, 3) := by decide +kernel
theorem dX8_leaning_5 : decode cX8_leaning 5 = .ok (.ifCond .eq 36, 3) := by decide +kernel
theorem dX8_leaning_8 : decode cX8_leaning 8 = .ok (.aload_n 0, 1) := by decide +kernel
theorem dX8_leaning_9 : decode cX8_leaning 9 = .ok (.iload_n 2, 1) := by decide +kernel
theorem dX8_leaning_10 : decode cX8_leaning 10 = .ok (.invokevirtual 116, 3) := by decide +kernel
theorem dX8_leaning_13 : decode cX8_leaning 13 = .ok (.ifCond .eq 28, 3) := by decide +kernel
theorem dX8_leaning_16 : decode cX8_leaning 16 = .ok (.iload_n 1, 1) := by decide +kernel
theorem dX8_leaning_17 : decode cX8_leaning 17 = .ok (.iload_n 2, 1) := by decide +kernel
theorem dX8_leaning_18 : decode cX8_leaning 18 = .ok (.if_icmp .eq 23, 3) := by decide +kernel
theorem dX8_leaning_21 : decode cX8_leaning 21 = .ok (.aload_n 0, 1) := by decide +kernel
theorem dX8_leaning_22 : decode cX8_leaning 22 = .ok (.getfield 22, 3) := by decide +kernel
theorem dX8_leaning_25 : decode cX8_leaning 25 = .ok (.bipush 19, 2) := by decide +kernel
theorem dX8_leaning_27 : decode cX8_leaning 27 = .ok (.bipush 6, 2) := by decide +kernel
theorem dX8_leaning_29 : decode cX8_leaning 29 = .ok (.iload_n 1, 1) := by decide +kernel
theorem dX8_leaning_30 : decode cX8_leaning 30 = .ok (.imul, 1) := by decide +kernel
theorem dX8_leaning_31 : decode cX8_leaning 31 = .ok (.iadd, 1) := by decide +kernel
theorem dX8_leaning_32 : decode cX8_leaning 32 = .ok (.iload_n 2, 1) := by decide +kernel
theorem dX8_leaning_33 : decode cX8_leaning 33 = .ok (.iadd, 1) := by decide +kernel
theorem dX8_leaning_34 : decode cX8_leaning 34 = .ok (.iaload, 1) := by decide +kernel
theorem dX8_leaning_35 : decode cX8_leaning 35 = .ok (.bipush 20, 2) := by decide +kernel
theorem dX8_leaning_37 : decode cX8_leaning 37 = .ok (.iadd, 1) := by decide +kernel
theorem dX8_leaning_38 : decode cX8_leaning 38 = .ok (.goto 4, 3) := by decide +kernel
theorem dX8_leaning_41 : decode cX8_leaning 41 = .ok (.iconst (-1), 1) := by decide +kernel
theorem dX8_leaning_42 : decode cX8_leaning 42 = .ok (.ireturn, 1) := by decide +kernel
theorem dX8_isPlace_0 : decode cX8_isPlace 0 = .ok (.iload_n 1, 1) := by decide +kernel
theorem dX8_isPlace_1 : decode cX8_isPlace 1 = .ok (.iconst 0, 1) := by decide +kernel
theorem dX8_isPlace_2 : decode cX8_isPlace 2 = .ok (.aload_n 0, 1) := by decide +kernel
theorem dX8_isPlace_3 : decode cX8_isPlace 3 = .ok (.getfield 13, 3) := by decide +kernel
theorem dX8_isPlace_6 : decode cX8_isPlace 6 = .ok (.iconst 0, 1) := by decide +kernel
theorem dX8_isPlace_7 : decode cX8_isPlace 7 = .ok (.iaload, 1) := by decide +kernel
theorem dX8_isPlace_8 : decode cX8_isPlace 8 = .ok (.iconst 1, 1) := by decide +kernel
theorem dX8_isPlace_9 : decode cX8_isPlace 9 = .ok (.isub, 1) := by decide +kernel
theorem dX8_isPlace_10 : decode cX8_isPlace 10 = .ok (.invokestatic 53, 3) := by decide +kernel
theorem dX8_isPlace_13 : decode cX8_isPlace 13 = .ok (.ifCond .eq 23, 3) := by decide +kernel
theorem dX8_isPlace_16 : decode cX8_isPlace 16 = .ok (.iload_n 2, 1) := by decide +kernel
theorem dX8_isPlace_17 : decode cX8_isPlace 17 = .ok (.iconst 0, 1) := by decide +kernel
theorem dX8_isPlace_18 : decode cX8_isPlace 18 = .ok (.aload_n 0, 1) := by decide +kernel
theorem dX8_isPlace_19 : decode cX8_isPlace 19 = .ok (.getfield 13, 3) := by decide +kernel
theorem dX8_isPlace_22 : decode cX8_isPlace 22 = .ok (.iconst 1, 1) := by decide +kernel
theorem dX8_isPlace_23 : decode cX8_isPlace 23 = .ok (.iaload, 1) := by decide +kernel
theorem dX8_isPlace_24 : decode cX8_isPlace 24 = .ok (.iconst 1, 1) := by decide +kernel
theorem dX8_isPlace_25 : decode cX8_isPlace 25 = .ok (.isub, 1) := by decide +kernel
theorem dX8_isPlace_26 : decode cX8_isPlace 26 = .ok (.invokestatic 53, 3) := by decide +kernel
theorem dX8_isPlace_29 : decode cX8_isPlace 29 = .ok (.ifCond .eq 7, 3) := by decide +kernel
theorem dX8_isPlace_32 : decode cX8_isPlace 32 = .ok (.iconst 1, 1) := by decide +kernel
theorem dX8_isPlace_33 : decode cX8_isPlace 33 = .ok (.goto 4, 3) := by decide +kernel
theorem dX8_isPlace_36 : decode cX8_isPlace 36 = .ok (.iconst 0, 1) := by decide +kernel
theorem dX8_isPlace_37 : decode cX8_isPlace 37 = .ok (.ireturn, 1) := by decide +kernel
theorem dX8_whoAt_0 : decode cX8_whoAt 0 = .ok (.bipush (-4), 2) := by decide +kernel
theorem dX8_whoAt_2 : decode cX8_whoAt 2 = .ok (.istore_n 3, 1) := by decide +kernel
theorem dX8_whoAt_3 : decode cX8_whoAt 3 = .ok (.iconst 0, 1) := by decide +kernel
theorem dX8_whoAt_4 : decode cX8_whoAt 4 = .ok (.istore 4, 2) := by decide +kernel
theorem dX8_whoAt_6 : decode cX8_whoAt 6 = .ok (.iload 4, 2) := by decide +kernel
theorem dX8_whoAt_8 : decode cX8_whoAt 8 = .ok (.aload_n 0, 1) := by decide +kernel
theorem dX8_whoAt_9 : decode cX8_whoAt 9 = .ok (.getfield 13, 3) := by decide +kernel
theorem dX8_whoAt_12 : decode cX8_whoAt 12 = .ok (.iconst 2, 1) := by decide +kernel
theorem dX8_whoAt_13 : decode cX8_whoAt 13 = .ok (.iaload, 1) := by decide +kernel
theorem dX8_whoAt_14 : decode cX8_whoAt 14 = .ok (.if_icmp .ge 44, 3) := by decide +kernel
theorem dX8_whoAt_17 : decode cX8_whoAt 17 = .ok (.aload_n 0, 1) := by decide +kernel
theorem dX8_whoAt_18 : decode cX8_whoAt 18 = .ok (.getfield 22, 3) := by decide +kernel
theorem dX8_whoAt_21 : decode cX8_whoAt 21 = .ok (.bipush 7, 2) := by decide +kernel
theorem dX8_whoAt_23 : decode cX8_whoAt 23 = .ok (.iload 4, 2) := by decide +kernel
theorem dX8_whoAt_25 : decode cX8_whoAt 25 = .ok (.iadd, 1) := by decide +kernel
theorem dX8_whoAt_26 : decode cX8_whoAt 26 = .ok (.iaload, 1) := by decide +kernel
theorem dX8_whoAt_27 : decode cX8_whoAt 27 = .ok (.iload_n 1, 1) := by decide +kernel
theorem dX8_whoAt_28 : decode cX8_whoAt 28 = .ok (.if_icmp .ne 22, 3) := by decide +kernel
theorem dX8_whoAt_31 : decode cX8_whoAt 31 = .ok (.aload_n 0, 1) := by decide +kernel
theorem dX8_whoAt_32 : decode cX8_whoAt 32 = .ok (.getfield 22, 3) := by decide +kernel
theorem dX8_whoAt_35 : decode cX8_whoAt 35 = .ok (.bipush 13, 2) := by decide +kernel
theorem dX8_whoAt_37 : decode cX8_whoAt 37 = .ok (.iload 4, 2) := by decide +kernel
theorem dX8_whoAt_39 : decode cX8_whoAt 39 = .ok (.iadd, 1) := by decide +kernel
theorem dX8_whoAt_40 : decode cX8_whoAt 40 = .ok (.iaload, 1) := by decide +kernel
theorem dX8_whoAt_41 : decode cX8_whoAt 41 = .ok (.iload_n 2, 1) := by decide +kernel
theorem dX8_whoAt_42 : decode cX8_whoAt 42 = .ok (.if_icmp .ne 8, 3) := by decide +kernel
theorem dX8_whoAt_45 : decode cX8_whoAt 45 = .ok (.iload 4, 2) := by decide +kernel
theorem dX8_whoAt_47 : decode cX8_whoAt 47 = .ok (.goto 4, 3) := by decide +kernel
theorem dX8_whoAt_50 : decode cX8_whoAt 50 = .ok (.iload_n 3, 1) := by decide +kernel
theorem dX8_whoAt_51 : decode cX8_whoAt 51 = .ok (.istore_n 3, 1) := by decide +kernel
theorem dX8_whoAt_52 : decode cX8_whoAt 52 = .ok (.iinc 4 1, 3) := by decide +kernel
theorem dX8_whoAt_55 : decode cX8_whoAt 55 = .ok (.goto (-49), 3) := by decide +kernel
theorem dX8_whoAt_58 : decode cX8_whoAt 58 = .ok (.iload_n 3, 1) := by decide +kernel
theorem dX8_whoAt_59 : decode cX8_whoAt 59 = .ok (.ireturn, 1) := by decide +kernel
theorem dX8_place_0 : decode cX8_place 0 = .ok (.aload_n 0, 1) := by decide +kernel
theorem dX8_place_1 : decode cX8_place 1 = .ok (.iload_n 1, 1) := by decide +kernel
theorem dX8_place_2 : decode cX8_place 2 = .ok (.iload_n 2, 1) := by decide +kernel
theorem dX8_place_3 : decode cX8_place 3 = .ok (.invokevirtual 122, 3) := by decide +kernel
theorem dX8_place_6 : decode cX8_place 6 = .ok (.ifCond .eq 12, 3) := by decide +kernel
theorem dX8_place_9 : decode cX8_place 9 = .ok (.aload_n 0, 1) := by decide +kernel
theorem dX8_place_10 : decode cX8_place 10 = .ok (.iload_n 1, 1) := by decide +kernel
theorem dX8_place_11 : decode cX8_place 11 = .ok (.iload_n 2, 1) := by decide +kernel
theorem dX8_place_12 : decode cX8_place 12 = .ok (.invokevirtual 126, 3) := by decide +kernel
theorem dX8_place_15 : decode cX8_place 15 = .ok (.goto 4, 3) := by decide +kernel
theorem dX8_place_18 : decode cX8_place 18 = .ok (.iconst (-1), 1) := by decide +kernel
theorem dX8_place_19 : decode cX8_place 19 = .ok (.ireturn, 1) := by decide +kernel
theorem dX8_keeps_0 : decode cX8_keeps 0 = .ok (.aload_n 0, 1) := by decide +kernel
theorem dX8_keeps_1 : decode cX8_keeps 1 = .ok (.getfield 90, 3) := by decide +kernel
theorem dX8_keeps_4 : decode cX8_keeps 4 = .ok (.bipush 8, 2) := by decide +kernel
theorem dX8_keeps_6 : decode cX8_keeps 6 = .ok (.if_icmp .ne 43, 3) := by decide +kernel
theorem dX8_keeps_9 : decode cX8_keeps 9 = .ok (.iconst 0, 1) := by decide +kernel
theorem dX8_keeps_10 : decode cX8_keeps 10 = .ok (.istore_n 1, 1) := by decide +kernel
theorem dX8_keeps_11 : decode cX8_keeps 11 = .ok (.iload_n 1, 1) := by decide +kernel
theorem dX8_keeps_12 : decode cX8_keeps 12 = .ok (.sipush 385, 3) := by decide +kernel
theorem dX8_keeps_15 : decode cX8_keeps 15 = .ok (.if_icmp .ge 24, 3) := by decide +kernel
theorem dX8_keeps_18 : decode cX8_keeps 18 = .ok (.aload_n 0, 1) := by decide +kernel
theorem dX8_keeps_19 : decode cX8_keeps 19 = .ok (.getfield 25, 3) := by decide +kernel
theorem dX8_keeps_22 : decode cX8_keeps 22 = .ok (.iload_n 1, 1) := by decide +kernel
theorem dX8_keeps_23 : decode cX8_keeps 23 = .ok (.aload_n 0, 1) := by decide +kernel
theorem dX8_keeps_24 : decode cX8_keeps 24 = .ok (.getfield 25, 3) := by decide +kernel
theorem dX8_keeps_27 : decode cX8_keeps 27 = .ok (.iload_n 1, 1) := by decide +kernel
theorem dX8_keeps_28 : decode cX8_keeps 28 = .ok (.bipush 55, 2) := by decide +kernel
theorem dX8_keeps_30 : decode cX8_keeps 30 = .ok (.iadd, 1) := by decide +kernel
theorem dX8_keeps_31 : decode cX8_keeps 31 = .ok (.iaload, 1) := by decide +kernel
theorem dX8_keeps_32 : decode cX8_keeps 32 = .ok (.iastore, 1) := by decide +kernel
theorem dX8_keeps_33 : decode cX8_keeps 33 = .ok (.iinc 1 1, 3) := by decide +kernel
theorem dX8_keeps_36 : decode cX8_keeps 36 = .ok (.goto (-25), 3) := by decide +kernel
theorem dX8_keeps_39 : decode cX8_keeps 39 = .ok (.aload_n 0, 1) := by decide +kernel
theorem dX8_keeps_40 : decode cX8_keeps 40 = .ok (.dup, 1) := by decide +kernel
theorem dX8_keeps_41 : decode cX8_keeps 41 = .ok (.getfield 90, 3) := by decide +kernel
theorem dX8_keeps_44 : decode cX8_keeps 44 = .ok (.iconst 1, 1) := by decide +kernel
theorem dX8_keeps_45 : decode cX8_keeps 45 = .ok (.isub, 1) := by decide +kernel
theorem dX8_keeps_46 : decode cX8_keeps 46 = .ok (.putfield 90, 3) := by decide +kernel
theorem dX8_keeps_49 : decode cX8_keeps 49 = .ok (.iconst 0, 1) := by decide +kernel
theorem dX8_keeps_50 : decode cX8_keeps 50 = .ok (.istore_n 1, 1) := by decide +kernel
theorem dX8_keeps_51 : decode cX8_keeps 51 = .ok (.iload_n 1, 1) := by decide +kernel
theorem dX8_keeps_52 : decode cX8_keeps 52 = .ok (.bipush 55, 2) := by decide +kernel
theorem dX8_keeps_54 : decode cX8_keeps 54 = .ok (.if_icmp .ge 29, 3) := by decide +kernel
theorem dX8_keeps_57 : decode cX8_keeps 57 = .ok (.aload_n 0, 1) := by decide +kernel
theorem dX8_keeps_58 : decode cX8_keeps 58 = .ok (.getfield 25, 3) := by decide +kernel
theorem dX8_keeps_61 : decode cX8_keeps 61 = .ok (.bipush 55, 2) := by decide +kernel
theorem dX8_keeps_63 : decode cX8_keeps 63 = .ok (.aload_n 0, 1) := by decide +kernel
theorem dX8_keeps_64 : decode cX8_keeps 64 = .ok (.getfield 90, 3) := by decide +kernel
theorem dX8_keeps_67 : decode cX8_keeps 67 = .ok (.imul, 1) := by decide +kernel
theorem dX8_keeps_68 : decode cX8_keeps 68 = .ok (.iload_n 1, 1) := by decide +kernel
theorem dX8_keeps_69 : decode cX8_keeps 69 = .ok (.iadd, 1) := by decide +kernel
theorem dX8_keeps_70 : decode cX8_keeps 70 = .ok (.aload_n 0, 1) := by decide +kernel
theorem dX8_keeps_71 : decode cX8_keeps 71 = .ok (.getfield 22, 3) := by decide +kernel
theorem dX8_keeps_74 : decode cX8_keeps 74 = .ok (.iload_n 1, 1) := by decide +kernel
theorem dX8_keeps_75 : decode cX8_keeps 75 = .ok (.iaload, 1) := by decide +kernel
theorem dX8_keeps_76 : decode cX8_keeps 76 = .ok (.iastore, 1) := by decide +kernel
theorem dX8_keeps_77 : decode cX8_keeps 77 = .ok (.iinc 1 1, 3) := by decide +kernel
theorem dX8_keeps_80 : decode cX8_keeps 80 = .ok (.goto (-29), 3) := by decide +kernel
theorem dX8_keeps_83 : decode cX8_keeps 83 = .ok (.aload_n 0, 1) := by decide +kernel
theorem dX8_keeps_84 : decode cX8_keeps 84 = .ok (.dup, 1) := by decide +kernel
theorem dX8_keeps_85 : decode cX8_keeps 85 = .ok (.getfield 90, 3) := by decide +kernel
theorem dX8_keeps_88 : decode cX8_keeps 88 = .ok (.iconst 1, 1) := by decide +kernel
theorem dX8_keeps_89 : decode cX8_keeps 89 = .ok (.iadd, 1) := by decide +kernel
theorem dX8_keeps_90 : decode cX8_keeps 90 = .ok (.putfield 90, 3) := by decide +kernel
theorem dX8_keeps_93 : decode cX8_keeps 93 = .ok (.return_, 1) := by decide +kernel
theorem dX8_next_0 : decode cX8_next 0 = .ok (.aload_n 0, 1) := by decide +kernel
theorem dX8_next_1 : decode cX8_next 1 = .ok (.getfield 22, 3) := by decide +kernel
theorem dX8_next_4 : decode cX8_next 4 = .ok (.iconst 1, 1) := by decide +kernel
theorem dX8_next_5 : decode cX8_next 5 = .ok (.iload_n 1, 1) := by decide +kernel
theorem dX8_next_6 : decode cX8_next 6 = .ok (.iadd, 1) := by decide +kernel
theorem dX8_next_7 : decode cX8_next 7 = .ok (.iaload, 1) := by decide +kernel
theorem dX8_next_8 : decode cX8_next 8 = .ok (.istore_n 3, 1) := by decide +kernel
theorem dX8_next_9 : decode cX8_next 9 = .ok (.aload_n 0, 1) := by decide +kernel
theorem dX8_next_10 : decode cX8_next 10 = .ok (.getfield 13, 3) := by decide +kernel
theorem dX8_next_13 : decode cX8_next 13 = .ok (.iconst 3, 1) := by decide +kernel
theorem dX8_next_14 : decode cX8_next 14 = .ok (.iload_n 1, 1) := by decide +kernel
theorem dX8_next_15 : decode cX8_next 15 = .ok (.iadd, 1) := by decide +kernel
theorem dX8_next_16 : decode cX8_next 16 = .ok (.iaload, 1) := by decide +kernel
theorem dX8_next_17 : decode cX8_next 17 = .ok (.iconst 2, 1) := by decide +kernel
theorem dX8_next_18 : decode cX8_next 18 = .ok (.if_icmp .ne 10, 3) := by decide +kernel
theorem dX8_next_21 : decode cX8_next 21 = .ok (.iload_n 3, 1) := by decide +kernel
theorem dX8_next_22 : decode cX8_next 22 = .ok (.iconst 1, 1) := by decide +kernel
theorem dX8_next_23 : decode cX8_next 23 = .ok (.iadd, 1) := by decide +kernel
theorem dX8_next_24 : decode cX8_next 24 = .ok (.bipush 8, 2) := by decide +kernel
theorem dX8_next_26 : decode cX8_next 26 = .ok (.irem, 1) := by decide +kernel
theorem dX8_next_27 : decode cX8_next 27 = .ok (.ireturn, 1) := by decide +kernel
theorem dX8_next_28 : decode cX8_next 28 = .ok (.iload_n 2, 1) := by decide +kernel
theorem dX8_next_29 : decode cX8_next 29 = .ok (.bipush (-4), 2) := by decide +kernel
theorem dX8_next_31 : decode cX8_next 31 = .ok (.if_icmp .ne 5, 3) := by decide +kernel
theorem dX8_next_34 : decode cX8_next 34 = .ok (.iload_n 3, 1) := by decide +kernel
theorem dX8_next_35 : decode cX8_next 35 = .ok (.ireturn, 1) := by decide +kernel
theorem dX8_next_36 : decode cX8_next 36 = .ok (.iload_n 2, 1) := by decide +kernel
theorem dX8_next_37 : decode cX8_next 37 = .ok (.bipush 8, 2) := by decide +kernel
theorem dX8_next_39 : decode cX8_next 39 = .ok (.iadd, 1) := by decide +kernel
theorem dX8_next_40 : decode cX8_next 40 = .ok (.iload_n 3, 1) := by decide +kernel
theorem dX8_next_41 : decode cX8_next 41 = .ok (.isub, 1) := by decide +kernel
theorem dX8_next_42 : decode cX8_next 42 = .ok (.bipush 8, 2) := by decide +kernel
theorem dX8_next_44 : decode cX8_next 44 = .ok (.irem, 1) := by decide +kernel
theorem dX8_next_45 : decode cX8_next 45 = .ok (.istore 4, 2) := by decide +kernel
theorem dX8_next_47 : decode cX8_next 47 = .ok (.aload_n 0, 1) := by decide +kernel
theorem dX8_next_48 : decode cX8_next 48 = .ok (.getfield 13, 3) := by decide +kernel
theorem dX8_next_51 : decode cX8_next 51 = .ok (.iconst 3, 1) := by decide +kernel
theorem dX8_next_52 : decode cX8_next 52 = .ok (.iload_n 1, 1) := by decide +kernel
theorem dX8_next_53 : decode cX8_next 53 = .ok (.iadd, 1) := by decide +kernel
theorem dX8_next_54 : decode cX8_next 54 = .ok (.iaload, 1) := by decide +kernel
theorem dX8_next_55 : decode cX8_next 55 = .ok (.lookupswitch 59 #[(0, 25), (1, 27)], 25) := by decide +kernel
theorem dX8_next_80 : decode cX8_next 80 = .ok (.iload_n 2, 1) := by decide +kernel
theorem dX8_next_81 : decode cX8_next 81 = .ok (.ireturn, 1) := by decide +kernel
theorem dX8_next_82 : decode cX8_next 82 = .ok (.iload 4, 2) := by decide +kernel
theorem dX8_next_84 : decode cX8_next 84 = .ok (.ifCond .ne 7, 3) := by decide +kernel
theorem dX8_next_87 : decode cX8_next 87 = .ok (.iload_n 3, 1) := by decide +kernel
theorem dX8_next_88 : decode cX8_next 88 = .ok (.goto 25, 3) := by decide +kernel
theorem dX8_next_91 : decode cX8_next 91 = .ok (.iload 4, 2) := by decide +kernel
theorem dX8_next_93 : decode cX8_next 93 = .ok (.iconst 4, 1) := by decide +kernel
theorem dX8_next_94 : decode cX8_next 94 = .ok (.if_icmp .gt 12, 3) := by decide +kernel
theorem dX8_next_97 : decode cX8_next 97 = .ok (.iload_n 3, 1) := by decide +kernel
theorem dX8_next_98 : decode cX8_next 98 = .ok (.iconst 1, 1) := by decide +kernel
theorem dX8_next_99 : decode cX8_next 99 = .ok (.iadd, 1) := by decide +kernel
theorem dX8_next_100 : decode cX8_next 100 = .ok (.bipush 8, 2) := by decide +kernel
theorem dX8_next_102 : decode cX8_next 102 = .ok (.irem, 1) := by decide +kernel
theorem dX8_next_103 : decode cX8_next 103 = .ok (.goto 10, 3) := by decide +kernel
theorem dX8_next_106 : decode cX8_next 106 = .ok (.iload_n 3, 1) := by decide +kernel
theorem dX8_next_107 : decode cX8_next 107 = .ok (.bipush 7, 2) := by decide +kernel
theorem dX8_next_109 : decode cX8_next 109 = .ok (.iadd, 1) := by decide +kernel
theorem dX8_next_110 : decode cX8_next 110 = .ok (.bipush 8, 2) := by decide +kernel
theorem dX8_next_112 : decode cX8_next 112 = .ok (.irem, 1) := by decide +kernel
theorem dX8_next_113 : decode cX8_next 113 = .ok (.ireturn, 1) := by decide +kernel
theorem dX8_next_114 : decode cX8_next 114 = .ok (.iload_n 2, 1) := by decide +kernel
theorem dX8_next_115 : decode cX8_next 115 = .ok (.iconst 4, 1) := by decide +kernel
theorem dX8_next_116 : decode cX8_next 116 = .ok (.iadd, 1) := by decide +kernel
theorem dX8_next_117 : decode cX8_next 117 = .ok (.bipush 8, 2) := by decide +kernel
theorem dX8_next_119 : decode cX8_next 119 = .ok (.irem, 1) := by decide +kernel
theorem dX8_next_120 : decode cX8_next 120 = .ok (.ireturn, 1) := by decide +kernel
theorem dX8_passes_0 : decode cX8_passes 0 = .ok (.iconst 0, 1) := by decide +kernel
theorem dX8_passes_1 : decode cX8_passes 1 = .ok (.istore_n 1, 1) := by decide +kernel
theorem dX8_passes_2 : decode cX8_passes 2 = .ok (.iconst 0, 1) := by decide +kernel
theorem dX8_passes_3 : decode cX8_passes 3 = .ok (.istore_n 2, 1) := by decide +kernel
theorem dX8_passes_4 : decode cX8_passes 4 = .ok (.iload_n 2, 1) := by decide +kernel
theorem dX8_passes_5 : decode cX8_passes 5 = .ok (.aload_n 0, 1) := by decide +kernel
theorem dX8_passes_6 : decode cX8_passes 6 = .ok (.getfield 13, 3) := by decide +kernel
theorem dX8_passes_9 : decode cX8_passes 9 = .ok (.iconst 2, 1) := by decide +kernel
theorem dX8_passes_10 : decode cX8_passes 10 = .ok (.iaload, 1) := by decide +kernel
theorem dX8_passes_11 : decode cX8_passes 11 = .ok (.if_icmp .ge 49, 3) := by decide +kernel
theorem dX8_passes_14 : decode cX8_passes 14 = .ok (.aload_n 0, 1) := by decide +kernel
theorem dX8_passes_15 : decode cX8_passes 15 = .ok (.iload_n 2, 1) := by decide +kernel
theorem dX8_passes_16 : decode cX8_passes 16 = .ok (.aload_n 0, 1) := by decide +kernel
theorem dX8_passes_17 : decode cX8_passes 17 = .ok (.iload_n 2, 1) := by decide +kernel
theorem dX8_passes_18 : decode cX8_passes 18 = .ok (.invokevirtual 119, 3) := by decide +kernel
theorem dX8_passes_21 : decode cX8_passes 21 = .ok (.invokevirtual 129, 3) := by decide +kernel
theorem dX8_passes_24 : decode cX8_passes 24 = .ok (.istore_n 3, 1) := by decide +kernel
theorem dX8_passes_25 : decode cX8_passes 25 = .ok (.iload_n 1, 1) := by decide +kernel
theorem dX8_passes_26 : decode cX8_passes 26 = .ok (.iload_n 3, 1) := by decide +kernel
theorem dX8_passes_27 : decode cX8_passes 27 = .ok (.aload_n 0, 1) := by decide +kernel
theorem dX8_passes_28 : decode cX8_passes 28 = .ok (.getfield 22, 3) := by decide +kernel
theorem dX8_passes_31 : decode cX8_passes 31 = .ok (.iconst 1, 1) := by decide +kernel
theorem dX8_passes_32 : decode cX8_passes 32 = .ok (.iload_n 2, 1) := by decide +kernel
theorem dX8_passes_33 : decode cX8_passes 33 = .ok (.iadd, 1) := by decide +kernel
theorem dX8_passes_34 : decode cX8_passes 34 = .ok (.iaload, 1) := by decide +kernel
theorem dX8_passes_35 : decode cX8_passes 35 = .ok (.if_icmp .ne 7, 3) := by decide +kernel
theorem dX8_passes_38 : decode cX8_passes 38 = .ok (.iconst 0, 1) := by decide +kernel
theorem dX8_passes_39 : decode cX8_passes 39 = .ok (.goto 4, 3) := by decide +kernel
theorem dX8_passes_42 : decode cX8_passes 42 = .ok (.iconst 1, 1) := by decide +kernel
theorem dX8_passes_43 : decode cX8_passes 43 = .ok (.iadd, 1) := by decide +kernel
theorem dX8_passes_44 : decode cX8_passes 44 = .ok (.istore_n 1, 1) := by decide +kernel
theorem dX8_passes_45 : decode cX8_passes 45 = .ok (.aload_n 0, 1) := by decide +kernel
theorem dX8_passes_46 : decode cX8_passes 46 = .ok (.getfield 22, 3) := by decide +kernel
theorem dX8_passes_49 : decode cX8_passes 49 = .ok (.iconst 1, 1) := by decide +kernel
theorem dX8_passes_50 : decode cX8_passes 50 = .ok (.iload_n 2, 1) := by decide +kernel
theorem dX8_passes_51 : decode cX8_passes 51 = .ok (.iadd, 1) := by decide +kernel
theorem dX8_passes_52 : decode cX8_passes 52 = .ok (.iload_n 3, 1) := by decide +kernel
theorem dX8_passes_53 : decode cX8_passes 53 = .ok (.iastore, 1) := by decide +kernel
theorem dX8_passes_54 : decode cX8_passes 54 = .ok (.iinc 2 1, 3) := by decide +kernel
theorem dX8_passes_57 : decode cX8_passes 57 = .ok (.goto (-53), 3) := by decide +kernel
theorem dX8_passes_60 : decode cX8_passes 60 = .ok (.aload_n 0, 1) := by decide +kernel
theorem dX8_passes_61 : decode cX8_passes 61 = .ok (.getfield 22, 3) := by decide +kernel
theorem dX8_passes_64 : decode cX8_passes 64 = .ok (.iconst 0, 1) := by decide +kernel
theorem dX8_passes_65 : decode cX8_passes 65 = .ok (.dup2, 1) := by decide +kernel
theorem dX8_passes_66 : decode cX8_passes 66 = .ok (.iaload, 1) := by decide +kernel
theorem dX8_passes_67 : decode cX8_passes 67 = .ok (.iconst 1, 1) := by decide +kernel
theorem dX8_passes_68 : decode cX8_passes 68 = .ok (.iadd, 1) := by decide +kernel
theorem dX8_passes_69 : decode cX8_passes 69 = .ok (.iastore, 1) := by decide +kernel
theorem dX8_passes_70 : decode cX8_passes 70 = .ok (.iload_n 1, 1) := by decide +kernel
theorem dX8_passes_71 : decode cX8_passes 71 = .ok (.ireturn, 1) := by decide +kernel
theorem dX8_pass_0 : decode cX8_pass 0 = .ok (.iload_n 1, 1) := by decide +kernel
theorem dX8_pass_1 : decode cX8_pass 1 = .ok (.iconst 1, 1) := by decide +kernel
theorem dX8_pass_2 : decode cX8_pass 2 = .ok (.bipush 24, 2) := by decide +kernel
theorem dX8_pass_4 : decode cX8_pass 4 = .ok (.invokestatic 53, 3) := by decide +kernel
theorem dX8_pass_7 : decode cX8_pass 7 = .ok (.ifCond .ne 5, 3) := by decide +kernel
theorem dX8_pass_10 : decode cX8_pass 10 = .ok (.iconst (-1), 1) := by decide +kernel
theorem dX8_pass_11 : decode cX8_pass 11 = .ok (.ireturn, 1) := by decide +kernel
theorem dX8_pass_12 : decode cX8_pass 12 = .ok (.aload_n 0, 1) := by decide +kernel
theorem dX8_pass_13 : decode cX8_pass 13 = .ok (.invokevirtual 132, 3) := by decide +kernel
theorem dX8_pass_16 : decode cX8_pass 16 = .ok (.iconst 0, 1) := by decide +kernel
theorem dX8_pass_17 : decode cX8_pass 17 = .ok (.istore_n 2, 1) := by decide +kernel
theorem dX8_pass_18 : decode cX8_pass 18 = .ok (.iload_n 2, 1) := by decide +kernel
theorem dX8_pass_19 : decode cX8_pass 19 = .ok (.iload_n 1, 1) := by decide +kernel
theorem dX8_pass_20 : decode cX8_pass 20 = .ok (.if_icmp .ge 14, 3) := by decide +kernel
theorem dX8_pass_23 : decode cX8_pass 23 = .ok (.aload_n 0, 1) := by decide +kernel
theorem dX8_pass_24 : decode cX8_pass 24 = .ok (.invokevirtual 135, 3) := by decide +kernel
theorem dX8_pass_27 : decode cX8_pass 27 = .ok (.pop, 1) := by decide +kernel
theorem dX8_pass_28 : decode cX8_pass 28 = .ok (.iinc 2 1, 3) := by decide +kernel
theorem dX8_pass_31 : decode cX8_pass 31 = .ok (.goto (-13), 3) := by decide +kernel
theorem dX8_pass_34 : decode cX8_pass 34 = .ok (.aload_n 0, 1) := by decide +kernel
theorem dX8_pass_35 : decode cX8_pass 35 = .ok (.getfield 22, 3) := by decide +kernel
theorem dX8_pass_38 : decode cX8_pass 38 = .ok (.iconst 0, 1) := by decide +kernel
theorem dX8_pass_39 : decode cX8_pass 39 = .ok (.iaload, 1) := by decide +kernel
theorem dX8_pass_40 : decode cX8_pass 40 = .ok (.ireturn, 1) := by decide +kernel
theorem dX8_eastBy_0 : decode cX8_eastBy 0 = .ok (.iload_n 0, 1) := by decide +kernel
theorem dX8_eastBy_1 : decode cX8_eastBy 1 = .ok (.iconst 1, 1) := by decide +kernel
theorem dX8_eastBy_2 : decode cX8_eastBy 2 = .ok (.if_icmp .ne 7, 3) := by decide +kernel
theorem dX8_eastBy_5 : decode cX8_eastBy 5 = .ok (.iconst 1, 1) := by decide +kernel
theorem dX8_eastBy_6 : decode cX8_eastBy 6 = .ok (.goto 13, 3) := by decide +kernel
theorem dX8_eastBy_9 : decode cX8_eastBy 9 = .ok (.iload_n 0, 1) := by decide +kernel
theorem dX8_eastBy_10 : decode cX8_eastBy 10 = .ok (.iconst 3, 1) := by decide +kernel
theorem dX8_eastBy_11 : decode cX8_eastBy 11 = .ok (.if_icmp .ne 7, 3) := by decide +kernel
theorem dX8_eastBy_14 : decode cX8_eastBy 14 = .ok (.iconst (-1), 1) := by decide +kernel
theorem dX8_eastBy_15 : decode cX8_eastBy 15 = .ok (.goto 4, 3) := by decide +kernel
theorem dX8_eastBy_18 : decode cX8_eastBy 18 = .ok (.iconst 0, 1) := by decide +kernel
theorem dX8_eastBy_19 : decode cX8_eastBy 19 = .ok (.ireturn, 1) := by decide +kernel
theorem dX8_southBy_0 : decode cX8_southBy 0 = .ok (.iload_n 0, 1) := by decide +kernel
theorem dX8_southBy_1 : decode cX8_southBy 1 = .ok (.ifCond .ne 7, 3) := by decide +kernel
theorem dX8_southBy_4 : decode cX8_southBy 4 = .ok (.iconst (-1), 1) := by decide +kernel
theorem dX8_southBy_5 : decode cX8_southBy 5 = .ok (.goto 13, 3) := by decide +kernel
theorem dX8_southBy_8 : decode cX8_southBy 8 = .ok (.iload_n 0, 1) := by decide +kernel
theorem dX8_southBy_9 : decode cX8_southBy 9 = .ok (.iconst 2, 1) := by decide +kernel
theorem dX8_southBy_10 : decode cX8_southBy 10 = .ok (.if_icmp .ne 7, 3) := by decide +kernel
theorem dX8_southBy_13 : decode cX8_southBy 13 = .ok (.iconst 1, 1) := by decide +kernel
theorem dX8_southBy_14 : decode cX8_southBy 14 = .ok (.goto 4, 3) := by decide +kernel
theorem dX8_southBy_17 : decode cX8_southBy 17 = .ok (.iconst 0, 1) := by decide +kernel
theorem dX8_southBy_18 : decode cX8_southBy 18 = .ok (.ireturn, 1) := by decide +kernel
theorem dX8_mayWalk_0 : decode cX8_mayWalk 0 = .ok (.aload_n 0, 1) := by decide +kernel
theorem dX8_mayWalk_1 : decode cX8_mayWalk 1 = .ok (.getfield 22, 3) := by decide +kernel
theorem dX8_mayWalk_4 : decode cX8_mayWalk 4 = .ok (.bipush 7, 2) := by decide +kernel
theorem dX8_mayWalk_6 : decode cX8_mayWalk 6 = .ok (.iload_n 1, 1) := by decide +kernel
theorem dX8_mayWalk_7 : decode cX8_mayWalk 7 = .ok (.iadd, 1) := by decide +kernel
theorem dX8_mayWalk_8 : decode cX8_mayWalk 8 = .ok (.iaload, 1) := by decide +kernel
theorem dX8_mayWalk_9 : decode cX8_mayWalk 9 = .ok (.iload_n 2, 1) := by decide +kernel
theorem dX8_mayWalk_10 : decode cX8_mayWalk 10 = .ok (.invokestatic 138, 3) := by decide +kernel
theorem dX8_mayWalk_13 : decode cX8_mayWalk 13 = .ok (.iadd, 1) := by decide +kernel
theorem dX8_mayWalk_14 : decode cX8_mayWalk 14 = .ok (.istore_n 3, 1) := by decide +kernel
theorem dX8_mayWalk_15 : decode cX8_mayWalk 15 = .ok (.aload_n 0, 1) := by decide +kernel
theorem dX8_mayWalk_16 : decode cX8_mayWalk 16 = .ok (.getfield 22, 3) := by decide +kernel
theorem dX8_mayWalk_19 : decode cX8_mayWalk 19 = .ok (.bipush 13, 2) := by decide +kernel
theorem dX8_mayWalk_21 : decode cX8_mayWalk 21 = .ok (.iload_n 1, 1) := by decide +kernel
theorem dX8_mayWalk_22 : decode cX8_mayWalk 22 = .ok (.iadd, 1) := by decide +kernel
theorem dX8_mayWalk_23 : decode cX8_mayWalk 23 = .ok (.iaload, 1) := by decide +kernel
theorem dX8_mayWalk_24 : decode cX8_mayWalk 24 = .ok (.iload_n 2, 1) := by decide +kernel
theorem dX8_mayWalk_25 : decode cX8_mayWalk 25 = .ok (.invokestatic 141, 3) := by decide +kernel
theorem dX8_mayWalk_28 : decode cX8_mayWalk 28 = .ok (.iadd, 1) := by decide +kernel
theorem dX8_mayWalk_29 : decode cX8_mayWalk 29 = .ok (.istore 4, 2) := by decide +kernel
theorem dX8_mayWalk_31 : decode cX8_mayWalk 31 = .ok (.aload_n 0, 1) := by decide +kernel
theorem dX8_mayWalk_32 : decode cX8_mayWalk 32 = .ok (.iload_n 3, 1) := by decide +kernel
theorem dX8_mayWalk_33 : decode cX8_mayWalk 33 = .ok (.iload 4, 2) := by decide +kernel
theorem dX8_mayWalk_35 : decode cX8_mayWalk 35 = .ok (.invokevirtual 122, 3) := by decide +kernel
theorem dX8_mayWalk_38 : decode cX8_mayWalk 38 = .ok (.ifCond .eq 19, 3) := by decide +kernel
theorem dX8_mayWalk_41 : decode cX8_mayWalk 41 = .ok (.aload_n 0, 1) := by decide +kernel
theorem dX8_mayWalk_42 : decode cX8_mayWalk 42 = .ok (.iload_n 3, 1) := by decide +kernel
theorem dX8_mayWalk_43 : decode cX8_mayWalk 43 = .ok (.iload 4, 2) := by decide +kernel
theorem dX8_mayWalk_45 : decode cX8_mayWalk 45 = .ok (.invokevirtual 126, 3) := by decide +kernel
theorem dX8_mayWalk_48 : decode cX8_mayWalk 48 = .ok (.bipush (-4), 2) := by decide +kernel
theorem dX8_mayWalk_50 : decode cX8_mayWalk 50 = .ok (.if_icmp .ne 7, 3) := by decide +kernel
theorem dX8_mayWalk_53 : decode cX8_mayWalk 53 = .ok (.iconst 1, 1) := by decide +kernel
theorem dX8_mayWalk_54 : decode cX8_mayWalk 54 = .ok (.goto 4, 3) := by decide +kernel
theorem dX8_mayWalk_57 : decode cX8_mayWalk 57 = .ok (.iconst 0, 1) := by decide +kernel
theorem dX8_mayWalk_58 : decode cX8_mayWalk 58 = .ok (.ireturn, 1) := by decide +kernel
theorem dX8_goes_0 : decode cX8_goes 0 = .ok (.aload_n 0, 1) := by decide +kernel
theorem dX8_goes_1 : decode cX8_goes 1 = .ok (.getfield 22, 3) := by decide +kernel
theorem dX8_goes_4 : decode cX8_goes 4 = .ok (.bipush 7, 2) := by decide +kernel
theorem dX8_goes_6 : decode cX8_goes 6 = .ok (.iload_n 1, 1) := by decide +kernel
theorem dX8_goes_7 : decode cX8_goes 7 = .ok (.iadd, 1) := by decide +kernel
theorem dX8_goes_8 : decode cX8_goes 8 = .ok (.dup2, 1) := by decide +kernel
theorem dX8_goes_9 : decode cX8_goes 9 = .ok (.iaload, 1) := by decide +kernel
theorem dX8_goes_10 : decode cX8_goes 10 = .ok (.iload_n 2, 1) := by decide +kernel
theorem dX8_goes_11 : decode cX8_goes 11 = .ok (.invokestatic 138, 3) := by decide +kernel
theorem dX8_goes_14 : decode cX8_goes 14 = .ok (.iadd, 1) := by decide +kernel
theorem dX8_goes_15 : decode cX8_goes 15 = .ok (.iastore, 1) := by decide +kernel
theorem dX8_goes_16 : decode cX8_goes 16 = .ok (.aload_n 0, 1) := by decide +kernel
theorem dX8_goes_17 : decode cX8_goes 17 = .ok (.getfield 22, 3) := by decide +kernel
theorem dX8_goes_20 : decode cX8_goes 20 = .ok (.bipush 13, 2) := by decide +kernel
theorem dX8_goes_22 : decode cX8_goes 22 = .ok (.iload_n 1, 1) := by decide +kernel
theorem dX8_goes_23 : decode cX8_goes 23 = .ok (.iadd, 1) := by decide +kernel
theorem dX8_goes_24 : decode cX8_goes 24 = .ok (.dup2, 1) := by decide +kernel
theorem dX8_goes_25 : decode cX8_goes 25 = .ok (.iaload, 1) := by decide +kernel
theorem dX8_goes_26 : decode cX8_goes 26 = .ok (.iload_n 2, 1) := by decide +kernel
theorem dX8_goes_27 : decode cX8_goes 27 = .ok (.invokestatic 141, 3) := by decide +kernel
theorem dX8_goes_30 : decode cX8_goes 30 = .ok (.iadd, 1) := by decide +kernel
theorem dX8_goes_31 : decode cX8_goes 31 = .ok (.iastore, 1) := by decide +kernel
theorem dX8_goes_32 : decode cX8_goes 32 = .ok (.return_, 1) := by decide +kernel
theorem dX8_walk_0 : decode cX8_walk 0 = .ok (.aload_n 0, 1) := by decide +kernel
theorem dX8_walk_1 : decode cX8_walk 1 = .ok (.iload_n 1, 1) := by decide +kernel
theorem dX8_walk_2 : decode cX8_walk 2 = .ok (.invokevirtual 116, 3) := by decide +kernel
theorem dX8_walk_5 : decode cX8_walk 5 = .ok (.ifCond .eq 12, 3) := by decide +kernel
theorem dX8_walk_8 : decode cX8_walk 8 = .ok (.iload_n 2, 1) := by decide +kernel
theorem dX8_walk_9 : decode cX8_walk 9 = .ok (.iconst 0, 1) := by decide +kernel
theorem dX8_walk_10 : decode cX8_walk 10 = .ok (.iconst 3, 1) := by decide +kernel
theorem dX8_walk_11 : decode cX8_walk 11 = .ok (.invokestatic 53, 3) := by decide +kernel
theorem dX8_walk_14 : decode cX8_walk 14 = .ok (.ifCond .ne 5, 3) := by decide +kernel
theorem dX8_walk_17 : decode cX8_walk 17 = .ok (.iconst (-1), 1) := by decide +kernel
theorem dX8_walk_18 : decode cX8_walk 18 = .ok (.ireturn, 1) := by decide +kernel
theorem dX8_walk_19 : decode cX8_walk 19 = .ok (.aload_n 0, 1) := by decide +kernel
theorem dX8_walk_20 : decode cX8_walk 20 = .ok (.iload_n 1, 1) := by decide +kernel
theorem dX8_walk_21 : decode cX8_walk 21 = .ok (.iload_n 2, 1) := by decide +kernel
theorem dX8_walk_22 : decode cX8_walk 22 = .ok (.invokevirtual 144, 3) := by decide +kernel
theorem dX8_walk_25 : decode cX8_walk 25 = .ok (.ifCond .ne 6, 3) := by decide +kernel
theorem dX8_walk_28 : decode cX8_walk 28 = .ok (.bipush (-2), 2) := by decide +kernel
theorem dX8_walk_30 : decode cX8_walk 30 = .ok (.ireturn, 1) := by decide +kernel
theorem dX8_walk_31 : decode cX8_walk 31 = .ok (.aload_n 0, 1) := by decide +kernel
theorem dX8_walk_32 : decode cX8_walk 32 = .ok (.invokevirtual 132, 3) := by decide +kernel
theorem dX8_walk_35 : decode cX8_walk 35 = .ok (.aload_n 0, 1) := by decide +kernel
theorem dX8_walk_36 : decode cX8_walk 36 = .ok (.iload_n 1, 1) := by decide +kernel
theorem dX8_walk_37 : decode cX8_walk 37 = .ok (.iload_n 2, 1) := by decide +kernel
theorem dX8_walk_38 : decode cX8_walk 38 = .ok (.invokevirtual 147, 3) := by decide +kernel
theorem dX8_walk_41 : decode cX8_walk 41 = .ok (.bipush 10, 2) := by decide +kernel
theorem dX8_walk_43 : decode cX8_walk 43 = .ok (.aload_n 0, 1) := by decide +kernel
theorem dX8_walk_44 : decode cX8_walk 44 = .ok (.getfield 22, 3) := by decide +kernel
theorem dX8_walk_47 : decode cX8_walk 47 = .ok (.bipush 7, 2) := by decide +kernel
theorem dX8_walk_49 : decode cX8_walk 49 = .ok (.iload_n 1, 1) := by decide +kernel
theorem dX8_walk_50 : decode cX8_walk 50 = .ok (.iadd, 1) := by decide +kernel
theorem dX8_walk_51 : decode cX8_walk 51 = .ok (.iaload, 1) := by decide +kernel
theorem dX8_walk_52 : decode cX8_walk 52 = .ok (.imul, 1) := by decide +kernel
theorem dX8_walk_53 : decode cX8_walk 53 = .ok (.aload_n 0, 1) := by decide +kernel
theorem dX8_walk_54 : decode cX8_walk 54 = .ok (.getfield 22, 3) := by decide +kernel
theorem dX8_walk_57 : decode cX8_walk 57 = .ok (.bipush 13, 2) := by decide +kernel
theorem dX8_walk_59 : decode cX8_walk 59 = .ok (.iload_n 1, 1) := by decide +kernel
theorem dX8_walk_60 : decode cX8_walk 60 = .ok (.iadd, 1) := by decide +kernel
theorem dX8_walk_61 : decode cX8_walk 61 = .ok (.iaload, 1) := by decide +kernel
theorem dX8_walk_62 : decode cX8_walk 62 = .ok (.iadd, 1) := by decide +kernel
theorem dX8_walk_63 : decode cX8_walk 63 = .ok (.ireturn, 1) := by decide +kernel
theorem dX8_lean_0 : decode cX8_lean 0 = .ok (.aload_n 0, 1) := by decide +kernel
theorem dX8_lean_1 : decode cX8_lean 1 = .ok (.iload_n 1, 1) := by decide +kernel
theorem dX8_lean_2 : decode cX8_lean 2 = .ok (.invokevirtual 116, 3) := by decide +kernel
theorem dX8_lean_5 : decode cX8_lean 5 = .ok (.ifCond .eq 27, 3) := by decide +kernel
theorem dX8_lean_8 : decode cX8_lean 8 = .ok (.aload_n 0, 1) := by decide +kernel
theorem dX8_lean_9 : decode cX8_lean 9 = .ok (.iload_n 2, 1) := by decide +kernel
theorem dX8_lean_10 : decode cX8_lean 10 = .ok (.invokevirtual 116, 3) := by decide +kernel
theorem dX8_lean_13 : decode cX8_lean 13 = .ok (.ifCond .eq 19, 3) := by decide +kernel
theorem dX8_lean_16 : decode cX8_lean 16 = .ok (.iload_n 1, 1) := by decide +kernel
theorem dX8_lean_17 : decode cX8_lean 17 = .ok (.iload_n 2, 1) := by decide +kernel
theorem dX8_lean_18 : decode cX8_lean 18 = .ok (.if_icmp .eq 14, 3) := by decide +kernel
theorem dX8_lean_21 : decode cX8_lean 21 = .ok (.iload_n 3, 1) := by decide +kernel
theorem dX8_lean_22 : decode cX8_lean 22 = .ok (.bipush (-20), 2) := by decide +kernel
theorem dX8_lean_24 : decode cX8_lean 24 = .ok (.bipush 20, 2) := by decide +kernel
theorem dX8_lean_26 : decode cX8_lean 26 = .ok (.invokestatic 53, 3) := by decide +kernel
theorem dX8_lean_29 : decode cX8_lean 29 = .ok (.ifCond .ne 5, 3) := by decide +kernel
theorem dX8_lean_32 : decode cX8_lean 32 = .ok (.iconst (-1), 1) := by decide +kernel
theorem dX8_lean_33 : decode cX8_lean 33 = .ok (.ireturn, 1) := by decide +kernel
theorem dX8_lean_34 : decode cX8_lean 34 = .ok (.aload_n 0, 1) := by decide +kernel
theorem dX8_lean_35 : decode cX8_lean 35 = .ok (.invokevirtual 132, 3) := by decide +kernel
theorem dX8_lean_38 : decode cX8_lean 38 = .ok (.aload_n 0, 1) := by decide +kernel
theorem dX8_lean_39 : decode cX8_lean 39 = .ok (.getfield 22, 3) := by decide +kernel
theorem dX8_lean_42 : decode cX8_lean 42 = .ok (.bipush 19, 2) := by decide +kernel
theorem dX8_lean_44 : decode cX8_lean 44 = .ok (.bipush 6, 2) := by decide +kernel
theorem dX8_lean_46 : decode cX8_lean 46 = .ok (.iload_n 1, 1) := by decide +kernel
theorem dX8_lean_47 : decode cX8_lean 47 = .ok (.imul, 1) := by decide +kernel
theorem dX8_lean_48 : decode cX8_lean 48 = .ok (.iadd, 1) := by decide +kernel
theorem dX8_lean_49 : decode cX8_lean 49 = .ok (.iload_n 2, 1) := by decide +kernel
theorem dX8_lean_50 : decode cX8_lean 50 = .ok (.iadd, 1) := by decide +kernel
theorem dX8_lean_51 : decode cX8_lean 51 = .ok (.iaload, 1) := by decide +kernel
theorem dX8_lean_52 : decode cX8_lean 52 = .ok (.istore 4, 2) := by decide +kernel
theorem dX8_lean_54 : decode cX8_lean 54 = .ok (.aload_n 0, 1) := by decide +kernel
theorem dX8_lean_55 : decode cX8_lean 55 = .ok (.getfield 22, 3) := by decide +kernel
theorem dX8_lean_58 : decode cX8_lean 58 = .ok (.bipush 19, 2) := by decide +kernel
theorem dX8_lean_60 : decode cX8_lean 60 = .ok (.bipush 6, 2) := by decide +kernel
theorem dX8_lean_62 : decode cX8_lean 62 = .ok (.iload_n 1, 1) := by decide +kernel
theorem dX8_lean_63 : decode cX8_lean 63 = .ok (.imul, 1) := by decide +kernel
theorem dX8_lean_64 : decode cX8_lean 64 = .ok (.iadd, 1) := by decide +kernel
theorem dX8_lean_65 : decode cX8_lean 65 = .ok (.iload_n 2, 1) := by decide +kernel
theorem dX8_lean_66 : decode cX8_lean 66 = .ok (.iadd, 1) := by decide +kernel
theorem dX8_lean_67 : decode cX8_lean 67 = .ok (.iload_n 3, 1) := by decide +kernel
theorem dX8_lean_68 : decode cX8_lean 68 = .ok (.iastore, 1) := by decide +kernel
theorem dX8_lean_69 : decode cX8_lean 69 = .ok (.iload 4, 2) := by decide +kernel
theorem dX8_lean_71 : decode cX8_lean 71 = .ok (.bipush 20, 2) := by decide +kernel
theorem dX8_lean_73 : decode cX8_lean 73 = .ok (.iadd, 1) := by decide +kernel
theorem dX8_lean_74 : decode cX8_lean 74 = .ok (.ireturn, 1) := by decide +kernel
theorem dX8_undo_0 : decode cX8_undo 0 = .ok (.aload_n 0, 1) := by decide +kernel
theorem dX8_undo_1 : decode cX8_undo 1 = .ok (.getfield 90, 3) := by decide +kernel
theorem dX8_undo_4 : decode cX8_undo 4 = .ok (.ifCond .ne 6, 3) := by decide +kernel
theorem dX8_undo_7 : decode cX8_undo 7 = .ok (.bipush (-2), 2) := by decide +kernel
theorem dX8_undo_9 : decode cX8_undo 9 = .ok (.ireturn, 1) := by decide +kernel
theorem dX8_undo_10 : decode cX8_undo 10 = .ok (.aload_n 0, 1) := by decide +kernel
theorem dX8_undo_11 : decode cX8_undo 11 = .ok (.dup, 1) := by decide +kernel
theorem dX8_undo_12 : decode cX8_undo 12 = .ok (.getfield 90, 3) := by decide +kernel
theorem dX8_undo_15 : decode cX8_undo 15 = .ok (.iconst 1, 1) := by decide +kernel
theorem dX8_undo_16 : decode cX8_undo 16 = .ok (.isub, 1) := by decide +kernel
theorem dX8_undo_17 : decode cX8_undo 17 = .ok (.putfield 90, 3) := by decide +kernel
theorem dX8_undo_20 : decode cX8_undo 20 = .ok (.iconst 0, 1) := by decide +kernel
theorem dX8_undo_21 : decode cX8_undo 21 = .ok (.istore_n 1, 1) := by decide +kernel
theorem dX8_undo_22 : decode cX8_undo 22 = .ok (.iload_n 1, 1) := by decide +kernel
theorem dX8_undo_23 : decode cX8_undo 23 = .ok (.bipush 55, 2) := by decide +kernel
theorem dX8_undo_25 : decode cX8_undo 25 = .ok (.if_icmp .ge 29, 3) := by decide +kernel
theorem dX8_undo_28 : decode cX8_undo 28 = .ok (.aload_n 0, 1) := by decide +kernel
theorem dX8_undo_29 : decode cX8_undo 29 = .ok (.getfield 22, 3) := by decide +kernel
theorem dX8_undo_32 : decode cX8_undo 32 = .ok (.iload_n 1, 1) := by decide +kernel
theorem dX8_undo_33 : decode cX8_undo 33 = .ok (.aload_n 0, 1) := by decide +kernel
theorem dX8_undo_34 : decode cX8_undo 34 = .ok (.getfield 25, 3) := by decide +kernel
theorem dX8_undo_37 : decode cX8_undo 37 = .ok (.bipush 55, 2) := by decide +kernel
theorem dX8_undo_39 : decode cX8_undo 39 = .ok (.aload_n 0, 1) := by decide +kernel
theorem dX8_undo_40 : decode cX8_undo 40 = .ok (.getfield 90, 3) := by decide +kernel
theorem dX8_undo_43 : decode cX8_undo 43 = .ok (.imul, 1) := by decide +kernel
theorem dX8_undo_44 : decode cX8_undo 44 = .ok (.iload_n 1, 1) := by decide +kernel
theorem dX8_undo_45 : decode cX8_undo 45 = .ok (.iadd, 1) := by decide +kernel
theorem dX8_undo_46 : decode cX8_undo 46 = .ok (.iaload, 1) := by decide +kernel
theorem dX8_undo_47 : decode cX8_undo 47 = .ok (.iastore, 1) := by decide +kernel
theorem dX8_undo_48 : decode cX8_undo 48 = .ok (.iinc 1 1, 3) := by decide +kernel
theorem dX8_undo_51 : decode cX8_undo 51 = .ok (.goto (-29), 3) := by decide +kernel
theorem dX8_undo_54 : decode cX8_undo 54 = .ok (.aload_n 0, 1) := by decide +kernel
theorem dX8_undo_55 : decode cX8_undo 55 = .ok (.getfield 90, 3) := by decide +kernel
theorem dX8_undo_58 : decode cX8_undo 58 = .ok (.ireturn, 1) := by decide +kernel
theorem dX8_towardOf_0 : decode cX8_towardOf 0 = .ok (.iconst 0, 1) := by decide +kernel
theorem dX8_towardOf_1 : decode cX8_towardOf 1 = .ok (.istore_n 2, 1) := by decide +kernel
theorem dX8_towardOf_2 : decode cX8_towardOf 2 = .ok (.iconst 0, 1) := by decide +kernel
theorem dX8_towardOf_3 : decode cX8_towardOf 3 = .ok (.istore_n 3, 1) := by decide +kernel
theorem dX8_towardOf_4 : decode cX8_towardOf 4 = .ok (.iload_n 3, 1) := by decide +kernel
theorem dX8_towardOf_5 : decode cX8_towardOf 5 = .ok (.aload_n 0, 1) := by decide +kernel
theorem dX8_towardOf_6 : decode cX8_towardOf 6 = .ok (.getfield 13, 3) := by decide +kernel
theorem dX8_towardOf_9 : decode cX8_towardOf 9 = .ok (.iconst 2, 1) := by decide +kernel
theorem dX8_towardOf_10 : decode cX8_towardOf 10 = .ok (.iaload, 1) := by decide +kernel
theorem dX8_towardOf_11 : decode cX8_towardOf 11 = .ok (.if_icmp .ge 88, 3) := by decide +kernel
theorem dX8_towardOf_14 : decode cX8_towardOf 14 = .ok (.iload_n 3, 1) := by decide +kernel
theorem dX8_towardOf_15 : decode cX8_towardOf 15 = .ok (.iload_n 1, 1) := by decide +kernel
theorem dX8_towardOf_16 : decode cX8_towardOf 16 = .ok (.if_icmp .eq 59, 3) := by decide +kernel
theorem dX8_towardOf_19 : decode cX8_towardOf 19 = .ok (.aload_n 0, 1) := by decide +kernel
theorem dX8_towardOf_20 : decode cX8_towardOf 20 = .ok (.getfield 22, 3) := by decide +kernel
theorem dX8_towardOf_23 : decode cX8_towardOf 23 = .ok (.bipush 7, 2) := by decide +kernel
theorem dX8_towardOf_25 : decode cX8_towardOf 25 = .ok (.iload_n 3, 1) := by decide +kernel
theorem dX8_towardOf_26 : decode cX8_towardOf 26 = .ok (.iadd, 1) := by decide +kernel
theorem dX8_towardOf_27 : decode cX8_towardOf 27 = .ok (.iaload, 1) := by decide +kernel
theorem dX8_towardOf_28 : decode cX8_towardOf 28 = .ok (.aload_n 0, 1) := by decide +kernel
theorem dX8_towardOf_29 : decode cX8_towardOf 29 = .ok (.getfield 22, 3) := by decide +kernel
theorem dX8_towardOf_32 : decode cX8_towardOf 32 = .ok (.bipush 7, 2) := by decide +kernel
theorem dX8_towardOf_34 : decode cX8_towardOf 34 = .ok (.iload_n 1, 1) := by decide +kernel
theorem dX8_towardOf_35 : decode cX8_towardOf 35 = .ok (.iadd, 1) := by decide +kernel
theorem dX8_towardOf_36 : decode cX8_towardOf 36 = .ok (.iaload, 1) := by decide +kernel
theorem dX8_towardOf_37 : decode cX8_towardOf 37 = .ok (.isub, 1) := by decide +kernel
theorem dX8_towardOf_38 : decode cX8_towardOf 38 = .ok (.aload_n 0, 1) := by decide +kernel
theorem dX8_towardOf_39 : decode cX8_towardOf 39 = .ok (.getfield 22, 3) := by decide +kernel
theorem dX8_towardOf_42 : decode cX8_towardOf 42 = .ok (.bipush 13, 2) := by decide +kernel
theorem dX8_towardOf_44 : decode cX8_towardOf 44 = .ok (.iload_n 3, 1) := by decide +kernel
theorem dX8_towardOf_45 : decode cX8_towardOf 45 = .ok (.iadd, 1) := by decide +kernel
theorem dX8_towardOf_46 : decode cX8_towardOf 46 = .ok (.iaload, 1) := by decide +kernel
theorem dX8_towardOf_47 : decode cX8_towardOf 47 = .ok (.aload_n 0, 1) := by decide +kernel
theorem dX8_towardOf_48 : decode cX8_towardOf 48 = .ok (.getfield 22, 3) := by decide +kernel
theorem dX8_towardOf_51 : decode cX8_towardOf 51 = .ok (.bipush 13, 2) := by decide +kernel
theorem dX8_towardOf_53 : decode cX8_towardOf 53 = .ok (.iload_n 1, 1) := by decide +kernel
theorem dX8_towardOf_54 : decode cX8_towardOf 54 = .ok (.iadd, 1) := by decide +kernel
theorem dX8_towardOf_55 : decode cX8_towardOf 55 = .ok (.iaload, 1) := by decide +kernel
theorem dX8_towardOf_56 : decode cX8_towardOf 56 = .ok (.isub, 1) := by decide +kernel
theorem dX8_towardOf_57 : decode cX8_towardOf 57 = .ok (.invokestatic 106, 3) := by decide +kernel
theorem dX8_towardOf_60 : decode cX8_towardOf 60 = .ok (.aload_n 0, 1) := by decide +kernel
theorem dX8_towardOf_61 : decode cX8_towardOf 61 = .ok (.getfield 22, 3) := by decide +kernel
theorem dX8_towardOf_64 : decode cX8_towardOf 64 = .ok (.iconst 1, 1) := by decide +kernel
theorem dX8_towardOf_65 : decode cX8_towardOf 65 = .ok (.iload_n 1, 1) := by decide +kernel
theorem dX8_towardOf_66 : decode cX8_towardOf 66 = .ok (.iadd, 1) := by decide +kernel
theorem dX8_towardOf_67 : decode cX8_towardOf 67 = .ok (.iaload, 1) := by decide +kernel
theorem dX8_towardOf_68 : decode cX8_towardOf 68 = .ok (.if_icmp .ne 7, 3) := by decide +kernel
theorem dX8_towardOf_71 : decode cX8_towardOf 71 = .ok (.iconst 1, 1) := by decide +kernel
theorem dX8_towardOf_72 : decode cX8_towardOf 72 = .ok (.goto 4, 3) := by decide +kernel
theorem dX8_towardOf_75 : decode cX8_towardOf 75 = .ok (.iconst 0, 1) := by decide +kernel
theorem dX8_towardOf_76 : decode cX8_towardOf 76 = .ok (.istore 4, 2) := by decide +kernel
theorem dX8_towardOf_78 : decode cX8_towardOf 78 = .ok (.iload_n 2, 1) := by decide +kernel
theorem dX8_towardOf_79 : decode cX8_towardOf 79 = .ok (.iload 4, 2) := by decide +kernel
theorem dX8_towardOf_81 : decode cX8_towardOf 81 = .ok (.ifCond .eq 9, 3) := by decide +kernel
theorem dX8_towardOf_84 : decode cX8_towardOf 84 = .ok (.iconst 1, 1) := by decide +kernel
theorem dX8_towardOf_85 : decode cX8_towardOf 85 = .ok (.iload_n 3, 1) := by decide +kernel
theorem dX8_towardOf_86 : decode cX8_towardOf 86 = .ok (.ishl, 1) := by decide +kernel
theorem dX8_towardOf_87 : decode cX8_towardOf 87 = .ok (.goto 4, 3) := by decide +kernel
theorem dX8_towardOf_90 : decode cX8_towardOf 90 = .ok (.iconst 0, 1) := by decide +kernel
theorem dX8_towardOf_91 : decode cX8_towardOf 91 = .ok (.ior, 1) := by decide +kernel
theorem dX8_towardOf_92 : decode cX8_towardOf 92 = .ok (.istore_n 2, 1) := by decide +kernel
theorem dX8_towardOf_93 : decode cX8_towardOf 93 = .ok (.iinc 3 1, 3) := by decide +kernel
theorem dX8_towardOf_96 : decode cX8_towardOf 96 = .ok (.goto (-92), 3) := by decide +kernel
theorem dX8_towardOf_99 : decode cX8_towardOf 99 = .ok (.iload_n 2, 1) := by decide +kernel
theorem dX8_towardOf_100 : decode cX8_towardOf 100 = .ok (.ireturn, 1) := by decide +kernel
theorem dX8_toward_0 : decode cX8_toward 0 = .ok (.aload_n 0, 1) := by decide +kernel
theorem dX8_toward_1 : decode cX8_toward 1 = .ok (.iload_n 1, 1) := by decide +kernel
theorem dX8_toward_2 : decode cX8_toward 2 = .ok (.invokevirtual 116, 3) := by decide +kernel
theorem dX8_toward_5 : decode cX8_toward 5 = .ok (.ifCond .eq 11, 3) := by decide +kernel
theorem dX8_toward_8 : decode cX8_toward 8 = .ok (.aload_n 0, 1) := by decide +kernel
theorem dX8_toward_9 : decode cX8_toward 9 = .ok (.iload_n 1, 1) := by decide +kernel
theorem dX8_toward_10 : decode cX8_toward 10 = .ok (.invokevirtual 151, 3) := by decide +kernel
theorem dX8_toward_13 : decode cX8_toward 13 = .ok (.goto 4, 3) := by decide +kernel
theorem dX8_toward_16 : decode cX8_toward 16 = .ok (.iconst (-1), 1) := by decide +kernel
theorem dX8_toward_17 : decode cX8_toward 17 = .ok (.ireturn, 1) := by decide +kernel
theorem dX8_looked_0 : decode cX8_looked 0 = .ok (.iload_n 1, 1) := by decide +kernel
theorem dX8_looked_1 : decode cX8_looked 1 = .ok (.iconst 0, 1) := by decide +kernel
theorem dX8_looked_2 : decode cX8_looked 2 = .ok (.iconst 1, 1) := by decide +kernel
theorem dX8_looked_3 : decode cX8_looked 3 = .ok (.invokestatic 53, 3) := by decide +kernel
theorem dX8_looked_6 : decode cX8_looked 6 = .ok (.ifCond .ne 5, 3) := by decide +kernel
theorem dX8_looked_9 : decode cX8_looked 9 = .ok (.iconst (-1), 1) := by decide +kernel
theorem dX8_looked_10 : decode cX8_looked 10 = .ok (.ireturn, 1) := by decide +kernel
theorem dX8_looked_11 : decode cX8_looked 11 = .ok (.bipush (-4), 2) := by decide +kernel
theorem dX8_looked_13 : decode cX8_looked 13 = .ok (.istore_n 2, 1) := by decide +kernel
theorem dX8_looked_14 : decode cX8_looked 14 = .ok (.iconst (-1), 1) := by decide +kernel
theorem dX8_looked_15 : decode cX8_looked 15 = .ok (.istore_n 3, 1) := by decide +kernel
theorem dX8_looked_16 : decode cX8_looked 16 = .ok (.iconst 0, 1) := by decide +kernel
theorem dX8_looked_17 : decode cX8_looked 17 = .ok (.istore 4, 2) := by decide +kernel
theorem dX8_looked_19 : decode cX8_looked 19 = .ok (.iload 4, 2) := by decide +kernel
theorem dX8_looked_21 : decode cX8_looked 21 = .ok (.aload_n 0, 1) := by decide +kernel
theorem dX8_looked_22 : decode cX8_looked 22 = .ok (.getfield 13, 3) := by decide +kernel
theorem dX8_looked_25 : decode cX8_looked 25 = .ok (.iconst 2, 1) := by decide +kernel
theorem dX8_looked_26 : decode cX8_looked 26 = .ok (.iaload, 1) := by decide +kernel
theorem dX8_looked_27 : decode cX8_looked 27 = .ok (.if_icmp .ge 74, 3) := by decide +kernel
theorem dX8_looked_30 : decode cX8_looked 30 = .ok (.iconst 0, 1) := by decide +kernel
theorem dX8_looked_31 : decode cX8_looked 31 = .ok (.istore 5, 2) := by decide +kernel
theorem dX8_looked_33 : decode cX8_looked 33 = .ok (.iconst 0, 1) := by decide +kernel
theorem dX8_looked_34 : decode cX8_looked 34 = .ok (.istore 6, 2) := by decide +kernel
theorem dX8_looked_36 : decode cX8_looked 36 = .ok (.iload 6, 2) := by decide +kernel
theorem dX8_looked_38 : decode cX8_looked 38 = .ok (.aload_n 0, 1) := by decide +kernel
theorem dX8_looked_39 : decode cX8_looked 39 = .ok (.getfield 13, 3) := by decide +kernel
theorem dX8_looked_42 : decode cX8_looked 42 = .ok (.iconst 2, 1) := by decide +kernel
theorem dX8_looked_43 : decode cX8_looked 43 = .ok (.iaload, 1) := by decide +kernel
theorem dX8_looked_44 : decode cX8_looked 44 = .ok (.if_icmp .ge 25, 3) := by decide +kernel
theorem dX8_looked_47 : decode cX8_looked 47 = .ok (.iload 5, 2) := by decide +kernel
theorem dX8_looked_49 : decode cX8_looked 49 = .ok (.aload_n 0, 1) := by decide +kernel
theorem dX8_looked_50 : decode cX8_looked 50 = .ok (.iload 6, 2) := by decide +kernel
theorem dX8_looked_52 : decode cX8_looked 52 = .ok (.invokevirtual 151, 3) := by decide +kernel
theorem dX8_looked_55 : decode cX8_looked 55 = .ok (.iload 4, 2) := by decide +kernel
theorem dX8_looked_57 : decode cX8_looked 57 = .ok (.ishr, 1) := by decide +kernel
theorem dX8_looked_58 : decode cX8_looked 58 = .ok (.iconst 1, 1) := by decide +kernel
theorem dX8_looked_59 : decode cX8_looked 59 = .ok (.iand, 1) := by decide +kernel
theorem dX8_looked_60 : decode cX8_looked 60 = .ok (.iadd, 1) := by decide +kernel
theorem dX8_looked_61 : decode cX8_looked 61 = .ok (.istore 5, 2) := by decide +kernel
theorem dX8_looked_63 : decode cX8_looked 63 = .ok (.iinc 6 1, 3) := by decide +kernel
theorem dX8_looked_66 : decode cX8_looked 66 = .ok (.goto (-30), 3) := by decide +kernel
theorem dX8_looked_69 : decode cX8_looked 69 = .ok (.iload 5, 2) := by decide +kernel
theorem dX8_looked_71 : decode cX8_looked 71 = .ok (.iload_n 3, 1) := by decide +kernel
theorem dX8_looked_72 : decode cX8_looked 72 = .ok (.if_icmp .le 8, 3) := by decide +kernel
theorem dX8_looked_75 : decode cX8_looked 75 = .ok (.iload 4, 2) := by decide +kernel
theorem dX8_looked_77 : decode cX8_looked 77 = .ok (.goto 4, 3) := by decide +kernel
theorem dX8_looked_80 : decode cX8_looked 80 = .ok (.iload_n 2, 1) := by decide +kernel
theorem dX8_looked_81 : decode cX8_looked 81 = .ok (.istore_n 2, 1) := by decide +kernel
theorem dX8_looked_82 : decode cX8_looked 82 = .ok (.iload 5, 2) := by decide +kernel
theorem dX8_looked_84 : decode cX8_looked 84 = .ok (.iload_n 3, 1) := by decide +kernel
theorem dX8_looked_85 : decode cX8_looked 85 = .ok (.if_icmp .le 8, 3) := by decide +kernel
theorem dX8_looked_88 : decode cX8_looked 88 = .ok (.iload 5, 2) := by decide +kernel
theorem dX8_looked_90 : decode cX8_looked 90 = .ok (.goto 4, 3) := by decide +kernel
theorem dX8_looked_93 : decode cX8_looked 93 = .ok (.iload_n 3, 1) := by decide +kernel
theorem dX8_looked_94 : decode cX8_looked 94 = .ok (.istore_n 3, 1) := by decide +kernel
theorem dX8_looked_95 : decode cX8_looked 95 = .ok (.iinc 4 1, 3) := by decide +kernel
theorem dX8_looked_98 : decode cX8_looked 98 = .ok (.goto (-79), 3) := by decide +kernel
theorem dX8_looked_101 : decode cX8_looked 101 = .ok (.iload_n 1, 1) := by decide +kernel
theorem dX8_looked_102 : decode cX8_looked 102 = .ok (.ifCond .ne 7, 3) := by decide +kernel
theorem dX8_looked_105 : decode cX8_looked 105 = .ok (.iload_n 2, 1) := by decide +kernel
theorem dX8_looked_106 : decode cX8_looked 106 = .ok (.goto 4, 3) := by decide +kernel
theorem dX8_looked_109 : decode cX8_looked 109 = .ok (.iload_n 3, 1) := by decide +kernel
theorem dX8_looked_110 : decode cX8_looked 110 = .ok (.ireturn, 1) := by decide +kernel
theorem dX8_holds_0 : decode cX8_holds 0 = .ok (.iconst 0, 1) := by decide +kernel
theorem dX8_holds_1 : decode cX8_holds 1 = .ok (.istore_n 1, 1) := by decide +kernel
theorem dX8_holds_2 : decode cX8_holds 2 = .ok (.iload_n 1, 1) := by decide +kernel
theorem dX8_holds_3 : decode cX8_holds 3 = .ok (.bipush 55, 2) := by decide +kernel
theorem dX8_holds_5 : decode cX8_holds 5 = .ok (.if_icmp .ge 21, 3) := by decide +kernel
theorem dX8_holds_8 : decode cX8_holds 8 = .ok (.aload_n 0, 1) := by decide +kernel
theorem dX8_holds_9 : decode cX8_holds 9 = .ok (.getfield 34, 3) := by decide +kernel
theorem dX8_holds_12 : decode cX8_holds 12 = .ok (.iload_n 1, 1) := by decide +kernel
theorem dX8_holds_13 : decode cX8_holds 13 = .ok (.aload_n 0, 1) := by decide +kernel
theorem dX8_holds_14 : decode cX8_holds 14 = .ok (.getfield 22, 3) := by decide +kernel
theorem dX8_holds_17 : decode cX8_holds 17 = .ok (.iload_n 1, 1) := by decide +kernel
theorem dX8_holds_18 : decode cX8_holds 18 = .ok (.iaload, 1) := by decide +kernel
theorem dX8_holds_19 : decode cX8_holds 19 = .ok (.iastore, 1) := by decide +kernel
theorem dX8_holds_20 : decode cX8_holds 20 = .ok (.iinc 1 1, 3) := by decide +kernel
theorem dX8_holds_23 : decode cX8_holds 23 = .ok (.goto (-21), 3) := by decide +kernel
theorem dX8_holds_26 : decode cX8_holds 26 = .ok (.return_, 1) := by decide +kernel
theorem dX8_lets_0 : decode cX8_lets 0 = .ok (.iconst 0, 1) := by decide +kernel
theorem dX8_lets_1 : decode cX8_lets 1 = .ok (.istore_n 1, 1) := by decide +kernel
theorem dX8_lets_2 : decode cX8_lets 2 = .ok (.iload_n 1, 1) := by decide +kernel
theorem dX8_lets_3 : decode cX8_lets 3 = .ok (.bipush 55, 2) := by decide +kernel
theorem dX8_lets_5 : decode cX8_lets 5 = .ok (.if_icmp .ge 21, 3) := by decide +kernel
theorem dX8_lets_8 : decode cX8_lets 8 = .ok (.aload_n 0, 1) := by decide +kernel
theorem dX8_lets_9 : decode cX8_lets 9 = .ok (.getfield 22, 3) := by decide +kernel
theorem dX8_lets_12 : decode cX8_lets 12 = .ok (.iload_n 1, 1) := by decide +kernel
theorem dX8_lets_13 : decode cX8_lets 13 = .ok (.aload_n 0, 1) := by decide +kernel
theorem dX8_lets_14 : decode cX8_lets 14 = .ok (.getfield 34, 3) := by decide +kernel
theorem dX8_lets_17 : decode cX8_lets 17 = .ok (.iload_n 1, 1) := by decide +kernel
theorem dX8_lets_18 : decode cX8_lets 18 = .ok (.iaload, 1) := by decide +kernel
theorem dX8_lets_19 : decode cX8_lets 19 = .ok (.iastore, 1) := by decide +kernel
theorem dX8_lets_20 : decode cX8_lets 20 = .ok (.iinc 1 1, 3) := by decide +kernel
theorem dX8_lets_23 : decode cX8_lets 23 = .ok (.goto (-21), 3) := by decide +kernel
theorem dX8_lets_26 : decode cX8_lets 26 = .ok (.return_, 1) := by decide +kernel
theorem dX8_behindOf_0 : decode cX8_behindOf 0 = .ok (.aload_n 0, 1) := by decide +kernel
theorem dX8_behindOf_1 : decode cX8_behindOf 1 = .ok (.invokevirtual 154, 3) := by decide +kernel
theorem dX8_behindOf_4 : decode cX8_behindOf 4 = .ok (.iconst 0, 1) := by decide +kernel
theorem dX8_behindOf_5 : decode cX8_behindOf 5 = .ok (.istore_n 3, 1) := by decide +kernel
theorem dX8_behindOf_6 : decode cX8_behindOf 6 = .ok (.iload_n 3, 1) := by decide +kernel
theorem dX8_behindOf_7 : decode cX8_behindOf 7 = .ok (.iload_n 1, 1) := by decide +kernel
theorem dX8_behindOf_8 : decode cX8_behindOf 8 = .ok (.if_icmp .ge 14, 3) := by decide +kernel
theorem dX8_behindOf_11 : decode cX8_behindOf 11 = .ok (.aload_n 0, 1) := by decide +kernel
theorem dX8_behindOf_12 : decode cX8_behindOf 12 = .ok (.invokevirtual 135, 3) := by decide +kernel
theorem dX8_behindOf_15 : decode cX8_behindOf 15 = .ok (.pop, 1) := by decide +kernel
theorem dX8_behindOf_16 : decode cX8_behindOf 16 = .ok (.iinc 3 1, 3) := by decide +kernel
theorem dX8_behindOf_19 : decode cX8_behindOf 19 = .ok (.goto (-13), 3) := by decide +kernel
theorem dX8_behindOf_22 : decode cX8_behindOf 22 = .ok (.aload_n 0, 1) := by decide +kernel
theorem dX8_behindOf_23 : decode cX8_behindOf 23 = .ok (.getfield 22, 3) := by decide +kernel
theorem dX8_behindOf_26 : decode cX8_behindOf 26 = .ok (.iconst 1, 1) := by decide +kernel
theorem dX8_behindOf_27 : decode cX8_behindOf 27 = .ok (.iload_n 2, 1) := by decide +kernel
theorem dX8_behindOf_28 : decode cX8_behindOf 28 = .ok (.iadd, 1) := by decide +kernel
theorem dX8_behindOf_29 : decode cX8_behindOf 29 = .ok (.iaload, 1) := by decide +kernel
theorem dX8_behindOf_30 : decode cX8_behindOf 30 = .ok (.istore_n 3, 1) := by decide +kernel
theorem dX8_behindOf_31 : decode cX8_behindOf 31 = .ok (.aload_n 0, 1) := by decide +kernel
theorem dX8_behindOf_32 : decode cX8_behindOf 32 = .ok (.invokevirtual 157, 3) := by decide +kernel
theorem dX8_behindOf_35 : decode cX8_behindOf 35 = .ok (.iload_n 3, 1) := by decide +kernel
theorem dX8_behindOf_36 : decode cX8_behindOf 36 = .ok (.ireturn, 1) := by decide +kernel
theorem dX8_behind_0 : decode cX8_behind 0 = .ok (.iload_n 1, 1) := by decide +kernel
theorem dX8_behind_1 : decode cX8_behind 1 = .ok (.iconst 0, 1) := by decide +kernel
theorem dX8_behind_2 : decode cX8_behind 2 = .ok (.bipush 40, 2) := by decide +kernel
theorem dX8_behind_4 : decode cX8_behind 4 = .ok (.invokestatic 53, 3) := by decide +kernel
theorem dX8_behind_7 : decode cX8_behind 7 = .ok (.ifCond .eq 20, 3) := by decide +kernel
theorem dX8_behind_10 : decode cX8_behind 10 = .ok (.aload_n 0, 1) := by decide +kernel
theorem dX8_behind_11 : decode cX8_behind 11 = .ok (.iload_n 2, 1) := by decide +kernel
theorem dX8_behind_12 : decode cX8_behind 12 = .ok (.invokevirtual 116, 3) := by decide +kernel
theorem dX8_behind_15 : decode cX8_behind 15 = .ok (.ifCond .eq 12, 3) := by decide +kernel
theorem dX8_behind_18 : decode cX8_behind 18 = .ok (.aload_n 0, 1) := by decide +kernel
theorem dX8_behind_19 : decode cX8_behind 19 = .ok (.iload_n 1, 1) := by decide +kernel
theorem dX8_behind_20 : decode cX8_behind 20 = .ok (.iload_n 2, 1) := by decide +kernel
theorem dX8_behind_21 : decode cX8_behind 21 = .ok (.invokevirtual 160, 3) := by decide +kernel
theorem dX8_behind_24 : decode cX8_behind 24 = .ok (.goto 4, 3) := by decide +kernel
theorem dX8_behind_27 : decode cX8_behind 27 = .ok (.iconst (-1), 1) := by decide +kernel
theorem dX8_behind_28 : decode cX8_behind 28 = .ok (.ireturn, 1) := by decide +kernel
theorem dX8_settled_0 : decode cX8_settled 0 = .ok (.aload_n 0, 1) := by decide +kernel
theorem dX8_settled_1 : decode cX8_settled 1 = .ok (.invokevirtual 154, 3) := by decide +kernel
theorem dX8_settled_4 : decode cX8_settled 4 = .ok (.iconst 0, 1) := by decide +kernel
theorem dX8_settled_5 : decode cX8_settled 5 = .ok (.istore_n 1, 1) := by decide +kernel
theorem dX8_settled_6 : decode cX8_settled 6 = .ok (.iload_n 1, 1) := by decide +kernel
theorem dX8_settled_7 : decode cX8_settled 7 = .ok (.bipush 20, 2) := by decide +kernel
theorem dX8_settled_9 : decode cX8_settled 9 = .ok (.if_icmp .gt 16, 3) := by decide +kernel
theorem dX8_settled_12 : decode cX8_settled 12 = .ok (.aload_n 0, 1) := by decide +kernel
theorem dX8_settled_13 : decode cX8_settled 13 = .ok (.invokevirtual 135, 3) := by decide +kernel
theorem dX8_settled_16 : decode cX8_settled 16 = .ok (.ifCond .le 9, 3) := by decide +kernel
theorem dX8_settled_19 : decode cX8_settled 19 = .ok (.iinc 1 1, 3) := by decide +kernel
theorem dX8_settled_22 : decode cX8_settled 22 = .ok (.goto (-16), 3) := by decide +kernel
theorem dX8_settled_25 : decode cX8_settled 25 = .ok (.aload_n 0, 1) := by decide +kernel
theorem dX8_settled_26 : decode cX8_settled 26 = .ok (.invokevirtual 157, 3) := by decide +kernel
theorem dX8_settled_29 : decode cX8_settled 29 = .ok (.iload_n 1, 1) := by decide +kernel
theorem dX8_settled_30 : decode cX8_settled 30 = .ok (.bipush 20, 2) := by decide +kernel
theorem dX8_settled_32 : decode cX8_settled 32 = .ok (.if_icmp .le 8, 3) := by decide +kernel
theorem dX8_settled_35 : decode cX8_settled 35 = .ok (.bipush (-4), 2) := by decide +kernel
theorem dX8_settled_37 : decode cX8_settled 37 = .ok (.goto 4, 3) := by decide +kernel
theorem dX8_settled_40 : decode cX8_settled 40 = .ok (.iload_n 1, 1) := by decide +kernel
theorem dX8_settled_41 : decode cX8_settled 41 = .ok (.ireturn, 1) := by decide +kernel
theorem dX8_puts_0 : decode cX8_puts 0 = .ok (.aload_n 0, 1) := by decide +kernel
theorem dX8_puts_1 : decode cX8_puts 1 = .ok (.getfield 22, 3) := by decide +kernel
theorem dX8_puts_4 : decode cX8_puts 4 = .ok (.bipush 7, 2) := by decide +kernel
theorem dX8_puts_6 : decode cX8_puts 6 = .ok (.iload_n 1, 1) := by decide +kernel
theorem dX8_puts_7 : decode cX8_puts 7 = .ok (.iadd, 1) := by decide +kernel
theorem dX8_puts_8 : decode cX8_puts 8 = .ok (.iload_n 2, 1) := by decide +kernel
theorem dX8_puts_9 : decode cX8_puts 9 = .ok (.bipush 9, 2) := by decide +kernel
theorem dX8_puts_11 : decode cX8_puts 11 = .ok (.idiv, 1) := by decide +kernel
theorem dX8_puts_12 : decode cX8_puts 12 = .ok (.iastore, 1) := by decide +kernel
theorem dX8_puts_13 : decode cX8_puts 13 = .ok (.aload_n 0, 1) := by decide +kernel
theorem dX8_puts_14 : decode cX8_puts 14 = .ok (.getfield 22, 3) := by decide +kernel
theorem dX8_puts_17 : decode cX8_puts 17 = .ok (.bipush 13, 2) := by decide +kernel
theorem dX8_puts_19 : decode cX8_puts 19 = .ok (.iload_n 1, 1) := by decide +kernel
theorem dX8_puts_20 : decode cX8_puts 20 = .ok (.iadd, 1) := by decide +kernel
theorem dX8_puts_21 : decode cX8_puts 21 = .ok (.iload_n 2, 1) := by decide +kernel
theorem dX8_puts_22 : decode cX8_puts 22 = .ok (.bipush 9, 2) := by decide +kernel
theorem dX8_puts_24 : decode cX8_puts 24 = .ok (.irem, 1) := by decide +kernel
theorem dX8_puts_25 : decode cX8_puts 25 = .ok (.iastore, 1) := by decide +kernel
theorem dX8_puts_26 : decode cX8_puts 26 = .ok (.return_, 1) := by decide +kernel
theorem dX8_measures_0 : decode cX8_measures 0 = .ok (.aload_n 0, 1) := by decide +kernel
theorem dX8_measures_1 : decode cX8_measures 1 = .ok (.invokevirtual 154, 3) := by decide +kernel
theorem dX8_measures_4 : decode cX8_measures 4 = .ok (.iconst 0, 1) := by decide +kernel
theorem dX8_measures_5 : decode cX8_measures 5 = .ok (.istore_n 3, 1) := by decide +kernel
theorem dX8_measures_6 : decode cX8_measures 6 = .ok (.iload_n 3, 1) := by decide +kernel
theorem dX8_measures_7 : decode cX8_measures 7 = .ok (.bipush 81, 2) := by decide +kernel
theorem dX8_measures_9 : decode cX8_measures 9 = .ok (.if_icmp .ge 82, 3) := by decide +kernel
theorem dX8_measures_12 : decode cX8_measures 12 = .ok (.aload_n 0, 1) := by decide +kernel
theorem dX8_measures_13 : decode cX8_measures 13 = .ok (.iload_n 3, 1) := by decide +kernel
theorem dX8_measures_14 : decode cX8_measures 14 = .ok (.bipush 9, 2) := by decide +kernel
theorem dX8_measures_16 : decode cX8_measures 16 = .ok (.idiv, 1) := by decide +kernel
theorem dX8_measures_17 : decode cX8_measures 17 = .ok (.iload_n 3, 1) := by decide +kernel
theorem dX8_measures_18 : decode cX8_measures 18 = .ok (.bipush 9, 2) := by decide +kernel
theorem dX8_measures_20 : decode cX8_measures 20 = .ok (.irem, 1) := by decide +kernel
theorem dX8_measures_21 : decode cX8_measures 21 = .ok (.invokevirtual 122, 3) := by decide +kernel
theorem dX8_measures_24 : decode cX8_measures 24 = .ok (.ifCond .eq 40, 3) := by decide +kernel
theorem dX8_measures_27 : decode cX8_measures 27 = .ok (.aload_n 0, 1) := by decide +kernel
theorem dX8_measures_28 : decode cX8_measures 28 = .ok (.iload_n 3, 1) := by decide +kernel
theorem dX8_measures_29 : decode cX8_measures 29 = .ok (.bipush 9, 2) := by decide +kernel
theorem dX8_measures_31 : decode cX8_measures 31 = .ok (.idiv, 1) := by decide +kernel
theorem dX8_measures_32 : decode cX8_measures 32 = .ok (.iload_n 3, 1) := by decide +kernel
theorem dX8_measures_33 : decode cX8_measures 33 = .ok (.bipush 9, 2) := by decide +kernel
theorem dX8_measures_35 : decode cX8_measures 35 = .ok (.irem, 1) := by decide +kernel
theorem dX8_measures_36 : decode cX8_measures 36 = .ok (.invokevirtual 126, 3) := by decide +kernel
theorem dX8_measures_39 : decode cX8_measures 39 = .ok (.bipush (-4), 2) := by decide +kernel
theorem dX8_measures_41 : decode cX8_measures 41 = .ok (.if_icmp .eq 19, 3) := by decide +kernel
theorem dX8_measures_44 : decode cX8_measures 44 = .ok (.aload_n 0, 1) := by decide +kernel
theorem dX8_measures_45 : decode cX8_measures 45 = .ok (.iload_n 3, 1) := by decide +kernel
theorem dX8_measures_46 : decode cX8_measures 46 = .ok (.bipush 9, 2) := by decide +kernel
theorem dX8_measures_48 : decode cX8_measures 48 = .ok (.idiv, 1) := by decide +kernel
theorem dX8_measures_49 : decode cX8_measures 49 = .ok (.iload_n 3, 1) := by decide +kernel
theorem dX8_measures_50 : decode cX8_measures 50 = .ok (.bipush 9, 2) := by decide +kernel
theorem dX8_measures_52 : decode cX8_measures 52 = .ok (.irem, 1) := by decide +kernel
theorem dX8_measures_53 : decode cX8_measures 53 = .ok (.invokevirtual 126, 3) := by decide +kernel
theorem dX8_measures_56 : decode cX8_measures 56 = .ok (.iload_n 1, 1) := by decide +kernel
theorem dX8_measures_57 : decode cX8_measures 57 = .ok (.if_icmp .ne 7, 3) := by decide +kernel
theorem dX8_measures_60 : decode cX8_measures 60 = .ok (.iconst 1, 1) := by decide +kernel
theorem dX8_measures_61 : decode cX8_measures 61 = .ok (.goto 4, 3) := by decide +kernel
theorem dX8_measures_64 : decode cX8_measures 64 = .ok (.iconst 0, 1) := by decide +kernel
theorem dX8_measures_65 : decode cX8_measures 65 = .ok (.istore 4, 2) := by decide +kernel
theorem dX8_measures_67 : decode cX8_measures 67 = .ok (.aload_n 0, 1) := by decide +kernel
theorem dX8_measures_68 : decode cX8_measures 68 = .ok (.getfield 37, 3) := by decide +kernel
theorem dX8_measures_71 : decode cX8_measures 71 = .ok (.iload_n 3, 1) := by decide +kernel
theorem dX8_measures_72 : decode cX8_measures 72 = .ok (.iload 4, 2) := by decide +kernel
theorem dX8_measures_74 : decode cX8_measures 74 = .ok (.ifCond .eq 9, 3) := by decide +kernel
theorem dX8_measures_77 : decode cX8_measures 77 = .ok (.sipush 999, 3) := by decide +kernel
theorem dX8_measures_80 : decode cX8_measures 80 = .ok (.goto 4, 3) := by decide +kernel
theorem dX8_measures_83 : decode cX8_measures 83 = .ok (.iconst (-1), 1) := by decide +kernel
theorem dX8_measures_84 : decode cX8_measures 84 = .ok (.iastore, 1) := by decide +kernel
theorem dX8_measures_85 : decode cX8_measures 85 = .ok (.iinc 3 1, 3) := by decide +kernel
theorem dX8_measures_88 : decode cX8_measures 88 = .ok (.goto (-82), 3) := by decide +kernel
theorem dX8_measures_91 : decode cX8_measures 91 = .ok (.iconst 0, 1) := by decide +kernel
theorem dX8_measures_92 : decode cX8_measures 92 = .ok (.istore_n 3, 1) := by decide +kernel
theorem dX8_measures_93 : decode cX8_measures 93 = .ok (.iload_n 3, 1) := by decide +kernel
theorem dX8_measures_94 : decode cX8_measures 94 = .ok (.bipush 81, 2) := by decide +kernel
theorem dX8_measures_96 : decode cX8_measures 96 = .ok (.if_icmp .ge 46, 3) := by decide +kernel
theorem dX8_measures_99 : decode cX8_measures 99 = .ok (.aload_n 0, 1) := by decide +kernel
theorem dX8_measures_100 : decode cX8_measures 100 = .ok (.getfield 37, 3) := by decide +kernel
theorem dX8_measures_103 : decode cX8_measures 103 = .ok (.iload_n 3, 1) := by decide +kernel
theorem dX8_measures_104 : decode cX8_measures 104 = .ok (.iaload, 1) := by decide +kernel
theorem dX8_measures_105 : decode cX8_measures 105 = .ok (.ifCond .lt 31, 3) := by decide +kernel
theorem dX8_measures_108 : decode cX8_measures 108 = .ok (.aload_n 0, 1) := by decide +kernel
theorem dX8_measures_109 : decode cX8_measures 109 = .ok (.iload_n 1, 1) := by decide +kernel
theorem dX8_measures_110 : decode cX8_measures 110 = .ok (.iload_n 3, 1) := by decide +kernel
theorem dX8_measures_111 : decode cX8_measures 111 = .ok (.invokevirtual 163, 3) := by decide +kernel
theorem dX8_measures_114 : decode cX8_measures 114 = .ok (.aload_n 0, 1) := by decide +kernel
theorem dX8_measures_115 : decode cX8_measures 115 = .ok (.getfield 37, 3) := by decide +kernel
theorem dX8_measures_118 : decode cX8_measures 118 = .ok (.iload_n 3, 1) := by decide +kernel
theorem dX8_measures_119 : decode cX8_measures 119 = .ok (.aload_n 0, 1) := by decide +kernel
theorem dX8_measures_120 : decode cX8_measures 120 = .ok (.iload_n 1, 1) := by decide +kernel
theorem dX8_measures_121 : decode cX8_measures 121 = .ok (.invokevirtual 119, 3) := by decide +kernel
theorem dX8_measures_124 : decode cX8_measures 124 = .ok (.iload_n 2, 1) := by decide +kernel
theorem dX8_measures_125 : decode cX8_measures 125 = .ok (.if_icmp .ne 7, 3) := by decide +kernel
theorem dX8_measures_128 : decode cX8_measures 128 = .ok (.iconst 0, 1) := by decide +kernel
theorem dX8_measures_129 : decode cX8_measures 129 = .ok (.goto 6, 3) := by decide +kernel
theorem dX8_measures_132 : decode cX8_measures 132 = .ok (.sipush 999, 3) := by decide +kernel
theorem dX8_measures_135 : decode cX8_measures 135 = .ok (.iastore, 1) := by decide +kernel
theorem dX8_measures_136 : decode cX8_measures 136 = .ok (.iinc 3 1, 3) := by decide +kernel
theorem dX8_measures_139 : decode cX8_measures 139 = .ok (.goto (-46), 3) := by decide +kernel
theorem dX8_measures_142 : decode cX8_measures 142 = .ok (.iconst 1, 1) := by decide +kernel
theorem dX8_measures_143 : decode cX8_measures 143 = .ok (.istore_n 3, 1) := by decide +kernel
theorem dX8_measures_144 : decode cX8_measures 144 = .ok (.iload_n 3, 1) := by decide +kernel
theorem dX8_measures_145 : decode cX8_measures 145 = .ok (.ifCond .eq 101, 3) := by decide +kernel
theorem dX8_measures_148 : decode cX8_measures 148 = .ok (.iconst 0, 1) := by decide +kernel
theorem dX8_measures_149 : decode cX8_measures 149 = .ok (.istore_n 3, 1) := by decide +kernel
theorem dX8_measures_150 : decode cX8_measures 150 = .ok (.iconst 0, 1) := by decide +kernel
theorem dX8_measures_151 : decode cX8_measures 151 = .ok (.istore 4, 2) := by decide +kernel
theorem dX8_measures_153 : decode cX8_measures 153 = .ok (.iload 4, 2) := by decide +kernel
theorem dX8_measures_155 : decode cX8_measures 155 = .ok (.bipush 81, 2) := by decide +kernel
theorem dX8_measures_157 : decode cX8_measures 157 = .ok (.if_icmp .ge 86, 3) := by decide +kernel
theorem dX8_measures_160 : decode cX8_measures 160 = .ok (.iconst 0, 1) := by decide +kernel
theorem dX8_measures_161 : decode cX8_measures 161 = .ok (.istore 5, 2) := by decide +kernel
theorem dX8_measures_163 : decode cX8_measures 163 = .ok (.iload 5, 2) := by decide +kernel
theorem dX8_measures_165 : decode cX8_measures 165 = .ok (.iconst 4, 1) := by decide +kernel
theorem dX8_measures_166 : decode cX8_measures 166 = .ok (.if_icmp .ge 71, 3) := by decide +kernel
theorem dX8_measures_169 : decode cX8_measures 169 = .ok (.aload_n 0, 1) := by decide +kernel
theorem dX8_measures_170 : decode cX8_measures 170 = .ok (.getfield 37, 3) := by decide +kernel
theorem dX8_measures_173 : decode cX8_measures 173 = .ok (.iload 4, 2) := by decide +kernel
theorem dX8_measures_175 : decode cX8_measures 175 = .ok (.iaload, 1) := by decide +kernel
theorem dX8_measures_176 : decode cX8_measures 176 = .ok (.ifCond .lt 61, 3) := by decide +kernel
theorem dX8_measures_179 : decode cX8_measures 179 = .ok (.aload_n 0, 1) := by decide +kernel
theorem dX8_measures_180 : decode cX8_measures 180 = .ok (.iload 4, 2) := by decide +kernel
theorem dX8_measures_182 : decode cX8_measures 182 = .ok (.iload 5, 2) := by decide +kernel
theorem dX8_measures_184 : decode cX8_measures 184 = .ok (.invokevirtual 166, 3) := by decide +kernel
theorem dX8_measures_187 : decode cX8_measures 187 = .ok (.istore 6, 2) := by decide +kernel
theorem dX8_measures_189 : decode cX8_measures 189 = .ok (.iload 6, 2) := by decide +kernel
theorem dX8_measures_191 : decode cX8_measures 191 = .ok (.ifCond .lt 40, 3) := by decide +kernel
theorem dX8_measures_194 : decode cX8_measures 194 = .ok (.aload_n 0, 1) := by decide +kernel
theorem dX8_measures_195 : decode cX8_measures 195 = .ok (.getfield 37, 3) := by decide +kernel
theorem dX8_measures_198 : decode cX8_measures 198 = .ok (.iload 6, 2) := by decide +kernel
theorem dX8_measures_200 : decode cX8_measures 200 = .ok (.iaload, 1) := by decide +kernel
theorem dX8_measures_201 : decode cX8_measures 201 = .ok (.iconst 1, 1) := by decide +kernel
theorem dX8_measures_202 : decode cX8_measures 202 = .ok (.iadd, 1) := by decide +kernel
theorem dX8_measures_203 : decode cX8_measures 203 = .ok (.aload_n 0, 1) := by decide +kernel
theorem dX8_measures_204 : decode cX8_measures 204 = .ok (.getfield 37, 3) := by decide +kernel
theorem dX8_measures_207 : decode cX8_measures 207 = .ok (.iload 4, 2) := by decide +kernel
theorem dX8_measures_209 : decode cX8_measures 209 = .ok (.iaload, 1) := by decide +kernel
theorem dX8_measures_210 : decode cX8_measures 210 = .ok (.if_icmp .ge 21, 3) := by decide +kernel
theorem dX8_measures_213 : decode cX8_measures 213 = .ok (.aload_n 0, 1) := by decide +kernel
theorem dX8_measures_214 : decode cX8_measures 214 = .ok (.getfield 37, 3) := by decide +kernel
theorem dX8_measures_217 : decode cX8_measures 217 = .ok (.iload 4, 2) := by decide +kernel
theorem dX8_measures_219 : decode cX8_measures 219 = .ok (.aload_n 0, 1) := by decide +kernel
theorem dX8_measures_220 : decode cX8_measures 220 = .ok (.getfield 37, 3) := by decide +kernel
theorem dX8_measures_223 : decode cX8_measures 223 = .ok (.iload 6, 2) := by decide +kernel
theorem dX8_measures_225 : decode cX8_measures 225 = .ok (.iaload, 1) := by decide +kernel
theorem dX8_measures_226 : decode cX8_measures 226 = .ok (.iconst 1, 1) := by decide +kernel
theorem dX8_measures_227 : decode cX8_measures 227 = .ok (.iadd, 1) := by decide +kernel
theorem dX8_measures_228 : decode cX8_measures 228 = .ok (.iastore, 1) := by decide +kernel
theorem dX8_measures_229 : decode cX8_measures 229 = .ok (.iconst 1, 1) := by decide +kernel
theorem dX8_measures_230 : decode cX8_measures 230 = .ok (.istore_n 3, 1) := by decide +kernel
theorem dX8_measures_231 : decode cX8_measures 231 = .ok (.iinc 5 1, 3) := by decide +kernel
theorem dX8_measures_234 : decode cX8_measures 234 = .ok (.goto (-71), 3) := by decide +kernel
theorem dX8_measures_237 : decode cX8_measures 237 = .ok (.iinc 4 1, 3) := by decide +kernel
theorem dX8_measures_240 : decode cX8_measures 240 = .ok (.goto (-87), 3) := by decide +kernel
theorem dX8_measures_243 : decode cX8_measures 243 = .ok (.goto (-99), 3) := by decide +kernel
theorem dX8_measures_246 : decode cX8_measures 246 = .ok (.aload_n 0, 1) := by decide +kernel
theorem dX8_measures_247 : decode cX8_measures 247 = .ok (.invokevirtual 157, 3) := by decide +kernel
theorem dX8_measures_250 : decode cX8_measures 250 = .ok (.return_, 1) := by decide +kernel
theorem dX8_beside_0 : decode cX8_beside 0 = .ok (.iload_n 1, 1) := by decide +kernel
theorem dX8_beside_1 : decode cX8_beside 1 = .ok (.bipush 9, 2) := by decide +kernel
theorem dX8_beside_3 : decode cX8_beside 3 = .ok (.idiv, 1) := by decide +kernel
theorem dX8_beside_4 : decode cX8_beside 4 = .ok (.iload_n 2, 1) := by decide +kernel
theorem dX8_beside_5 : decode cX8_beside 5 = .ok (.invokestatic 138, 3) := by decide +kernel
theorem dX8_beside_8 : decode cX8_beside 8 = .ok (.iadd, 1) := by decide +kernel
theorem dX8_beside_9 : decode cX8_beside 9 = .ok (.istore_n 3, 1) := by decide +kernel
theorem dX8_beside_10 : decode cX8_beside 10 = .ok (.iload_n 1, 1) := by decide +kernel
theorem dX8_beside_11 : decode cX8_beside 11 = .ok (.bipush 9, 2) := by decide +kernel
theorem dX8_beside_13 : decode cX8_beside 13 = .ok (.irem, 1) := by decide +kernel
theorem dX8_beside_14 : decode cX8_beside 14 = .ok (.iload_n 2, 1) := by decide +kernel
theorem dX8_beside_15 : decode cX8_beside 15 = .ok (.invokestatic 141, 3) := by decide +kernel
theorem dX8_beside_18 : decode cX8_beside 18 = .ok (.iadd, 1) := by decide +kernel
theorem dX8_beside_19 : decode cX8_beside 19 = .ok (.istore 4, 2) := by decide +kernel
theorem dX8_beside_21 : decode cX8_beside 21 = .ok (.iload_n 3, 1) := by decide +kernel
theorem dX8_beside_22 : decode cX8_beside 22 = .ok (.iconst 0, 1) := by decide +kernel
theorem dX8_beside_23 : decode cX8_beside 23 = .ok (.bipush 8, 2) := by decide +kernel
theorem dX8_beside_25 : decode cX8_beside 25 = .ok (.invokestatic 53, 3) := by decide +kernel
theorem dX8_beside_28 : decode cX8_beside 28 = .ok (.ifCond .eq 39, 3) := by decide +kernel
theorem dX8_beside_31 : decode cX8_beside 31 = .ok (.iload 4, 2) := by decide +kernel
theorem dX8_beside_33 : decode cX8_beside 33 = .ok (.iconst 0, 1) := by decide +kernel
theorem dX8_beside_34 : decode cX8_beside 34 = .ok (.bipush 8, 2) := by decide +kernel
theorem dX8_beside_36 : decode cX8_beside 36 = .ok (.invokestatic 53, 3) := by decide +kernel
theorem dX8_beside_39 : decode cX8_beside 39 = .ok (.ifCond .eq 28, 3) := by decide +kernel
theorem dX8_beside_42 : decode cX8_beside 42 = .ok (.aload_n 0, 1) := by decide +kernel
theorem dX8_beside_43 : decode cX8_beside 43 = .ok (.getfield 37, 3) := by decide +kernel
theorem dX8_beside_46 : decode cX8_beside 46 = .ok (.bipush 9, 2) := by decide +kernel
theorem dX8_beside_48 : decode cX8_beside 48 = .ok (.iload_n 3, 1) := by decide +kernel
theorem dX8_beside_49 : decode cX8_beside 49 = .ok (.imul, 1) := by decide +kernel
theorem dX8_beside_50 : decode cX8_beside 50 = .ok (.iload 4, 2) := by decide +kernel
theorem dX8_beside_52 : decode cX8_beside 52 = .ok (.iadd, 1) := by decide +kernel
theorem dX8_beside_53 : decode cX8_beside 53 = .ok (.iaload, 1) := by decide +kernel
theorem dX8_beside_54 : decode cX8_beside 54 = .ok (.ifCond .lt 13, 3) := by decide +kernel
theorem dX8_beside_57 : decode cX8_beside 57 = .ok (.bipush 9, 2) := by decide +kernel
theorem dX8_beside_59 : decode cX8_beside 59 = .ok (.iload_n 3, 1) := by decide +kernel
theorem dX8_beside_60 : decode cX8_beside 60 = .ok (.imul, 1) := by decide +kernel
theorem dX8_beside_61 : decode cX8_beside 61 = .ok (.iload 4, 2) := by decide +kernel
theorem dX8_beside_63 : decode cX8_beside 63 = .ok (.iadd, 1) := by decide +kernel
theorem dX8_beside_64 : decode cX8_beside 64 = .ok (.goto 5, 3) := by decide +kernel
theorem dX8_beside_67 : decode cX8_beside 67 = .ok (.bipush (-4), 2) := by decide +kernel
theorem dX8_beside_69 : decode cX8_beside 69 = .ok (.ireturn, 1) := by decide +kernel
theorem dX8_steps_0 : decode cX8_steps 0 = .ok (.aload_n 0, 1) := by decide +kernel
theorem dX8_steps_1 : decode cX8_steps 1 = .ok (.iload_n 1, 1) := by decide +kernel
theorem dX8_steps_2 : decode cX8_steps 2 = .ok (.invokevirtual 116, 3) := by decide +kernel
theorem dX8_steps_5 : decode cX8_steps 5 = .ok (.ifCond .eq 18, 3) := by decide +kernel
theorem dX8_steps_8 : decode cX8_steps 8 = .ok (.iload_n 2, 1) := by decide +kernel
theorem dX8_steps_9 : decode cX8_steps 9 = .ok (.iconst 0, 1) := by decide +kernel
theorem dX8_steps_10 : decode cX8_steps 10 = .ok (.bipush 7, 2) := by decide +kernel
theorem dX8_steps_12 : decode cX8_steps 12 = .ok (.invokestatic 53, 3) := by decide +kernel
theorem dX8_steps_15 : decode cX8_steps 15 = .ok (.ifCond .eq 8, 3) := by decide +kernel
theorem dX8_steps_18 : decode cX8_steps 18 = .ok (.iload_n 3, 1) := by decide +kernel
theorem dX8_steps_19 : decode cX8_steps 19 = .ok (.iconst (-1), 1) := by decide +kernel
theorem dX8_steps_20 : decode cX8_steps 20 = .ok (.if_icmp .ge 5, 3) := by decide +kernel
theorem dX8_steps_23 : decode cX8_steps 23 = .ok (.iconst (-1), 1) := by decide +kernel
theorem dX8_steps_24 : decode cX8_steps 24 = .ok (.ireturn, 1) := by decide +kernel
theorem dX8_steps_25 : decode cX8_steps 25 = .ok (.aload_n 0, 1) := by decide +kernel
theorem dX8_steps_26 : decode cX8_steps 26 = .ok (.iload_n 1, 1) := by decide +kernel
theorem dX8_steps_27 : decode cX8_steps 27 = .ok (.iload_n 2, 1) := by decide +kernel
theorem dX8_steps_28 : decode cX8_steps 28 = .ok (.invokevirtual 169, 3) := by decide +kernel
theorem dX8_steps_31 : decode cX8_steps 31 = .ok (.bipush 9, 2) := by decide +kernel
theorem dX8_steps_33 : decode cX8_steps 33 = .ok (.aload_n 0, 1) := by decide +kernel
theorem dX8_steps_34 : decode cX8_steps 34 = .ok (.getfield 22, 3) := by decide +kernel
theorem dX8_steps_37 : decode cX8_steps 37 = .ok (.bipush 7, 2) := by decide +kernel
theorem dX8_steps_39 : decode cX8_steps 39 = .ok (.iload_n 1, 1) := by decide +kernel
theorem dX8_steps_40 : decode cX8_steps 40 = .ok (.iadd, 1) := by decide +kernel
theorem dX8_steps_41 : decode cX8_steps 41 = .ok (.iaload, 1) := by decide +kernel
theorem dX8_steps_42 : decode cX8_steps 42 = .ok (.imul, 1) := by decide +kernel
theorem dX8_steps_43 : decode cX8_steps 43 = .ok (.aload_n 0, 1) := by decide +kernel
theorem dX8_steps_44 : decode cX8_steps 44 = .ok (.getfield 22, 3) := by decide +kernel
theorem dX8_steps_47 : decode cX8_steps 47 = .ok (.bipush 13, 2) := by decide +kernel
theorem dX8_steps_49 : decode cX8_steps 49 = .ok (.iload_n 1, 1) := by decide +kernel
theorem dX8_steps_50 : decode cX8_steps 50 = .ok (.iadd, 1) := by decide +kernel
theorem dX8_steps_51 : decode cX8_steps 51 = .ok (.iaload, 1) := by decide +kernel
theorem dX8_steps_52 : decode cX8_steps 52 = .ok (.iadd, 1) := by decide +kernel
theorem dX8_steps_53 : decode cX8_steps 53 = .ok (.istore 4, 2) := by decide +kernel
theorem dX8_steps_55 : decode cX8_steps 55 = .ok (.aload_n 0, 1) := by decide +kernel
theorem dX8_steps_56 : decode cX8_steps 56 = .ok (.getfield 37, 3) := by decide +kernel
theorem dX8_steps_59 : decode cX8_steps 59 = .ok (.iload 4, 2) := by decide +kernel
theorem dX8_steps_61 : decode cX8_steps 61 = .ok (.iaload, 1) := by decide +kernel
theorem dX8_steps_62 : decode cX8_steps 62 = .ok (.sipush 999, 3) := by decide +kernel
theorem dX8_steps_65 : decode cX8_steps 65 = .ok (.if_icmp .ne 6, 3) := by decide +kernel
theorem dX8_steps_68 : decode cX8_steps 68 = .ok (.bipush (-4), 2) := by decide +kernel
theorem dX8_steps_70 : decode cX8_steps 70 = .ok (.ireturn, 1) := by decide +kernel
theorem dX8_steps_71 : decode cX8_steps 71 = .ok (.iload_n 3, 1) := by decide +kernel
theorem dX8_steps_72 : decode cX8_steps 72 = .ok (.iconst (-1), 1) := by decide +kernel
theorem dX8_steps_73 : decode cX8_steps 73 = .ok (.if_icmp .eq 14, 3) := by decide +kernel
theorem dX8_steps_76 : decode cX8_steps 76 = .ok (.iload_n 3, 1) := by decide +kernel
theorem dX8_steps_77 : decode cX8_steps 77 = .ok (.aload_n 0, 1) := by decide +kernel
theorem dX8_steps_78 : decode cX8_steps 78 = .ok (.getfield 37, 3) := by decide +kernel
theorem dX8_steps_81 : decode cX8_steps 81 = .ok (.iload 4, 2) := by decide +kernel
theorem dX8_steps_83 : decode cX8_steps 83 = .ok (.iaload, 1) := by decide +kernel
theorem dX8_steps_84 : decode cX8_steps 84 = .ok (.if_icmp .lt 21, 3) := by decide +kernel
theorem dX8_steps_87 : decode cX8_steps 87 = .ok (.iload_n 3, 1) := by decide +kernel
theorem dX8_steps_88 : decode cX8_steps 88 = .ok (.iconst (-1), 1) := by decide +kernel
theorem dX8_steps_89 : decode cX8_steps 89 = .ok (.if_icmp .ne 13, 3) := by decide +kernel
theorem dX8_steps_92 : decode cX8_steps 92 = .ok (.aload_n 0, 1) := by decide +kernel
theorem dX8_steps_93 : decode cX8_steps 93 = .ok (.getfield 37, 3) := by decide +kernel
theorem dX8_steps_96 : decode cX8_steps 96 = .ok (.iload 4, 2) := by decide +kernel
theorem dX8_steps_98 : decode cX8_steps 98 = .ok (.iaload, 1) := by decide +kernel
theorem dX8_steps_99 : decode cX8_steps 99 = .ok (.goto 5, 3) := by decide +kernel
theorem dX8_steps_102 : decode cX8_steps 102 = .ok (.bipush (-4), 2) := by decide +kernel
theorem dX8_steps_104 : decode cX8_steps 104 = .ok (.ireturn, 1) := by decide +kernel
theorem dX8_steps_105 : decode cX8_steps 105 = .ok (.iconst 0, 1) := by decide +kernel
theorem dX8_steps_106 : decode cX8_steps 106 = .ok (.istore 5, 2) := by decide +kernel
theorem dX8_steps_108 : decode cX8_steps 108 = .ok (.iconst 0, 1) := by decide +kernel
theorem dX8_steps_109 : decode cX8_steps 109 = .ok (.istore 6, 2) := by decide +kernel
theorem dX8_steps_111 : decode cX8_steps 111 = .ok (.iload 6, 2) := by decide +kernel
theorem dX8_steps_113 : decode cX8_steps 113 = .ok (.iload_n 3, 1) := by decide +kernel
theorem dX8_steps_114 : decode cX8_steps 114 = .ok (.if_icmp .gt 64, 3) := by decide +kernel
theorem dX8_steps_117 : decode cX8_steps 117 = .ok (.iconst 0, 1) := by decide +kernel
theorem dX8_steps_118 : decode cX8_steps 118 = .ok (.istore 5, 2) := by decide +kernel
theorem dX8_steps_120 : decode cX8_steps 120 = .ok (.aload_n 0, 1) := by decide +kernel
theorem dX8_steps_121 : decode cX8_steps 121 = .ok (.iload 4, 2) := by decide +kernel
theorem dX8_steps_123 : decode cX8_steps 123 = .ok (.iload 5, 2) := by decide +kernel
theorem dX8_steps_125 : decode cX8_steps 125 = .ok (.invokevirtual 166, 3) := by decide +kernel
theorem dX8_steps_128 : decode cX8_steps 128 = .ok (.ifCond .lt 28, 3) := by decide +kernel
theorem dX8_steps_131 : decode cX8_steps 131 = .ok (.aload_n 0, 1) := by decide +kernel
theorem dX8_steps_132 : decode cX8_steps 132 = .ok (.getfield 37, 3) := by decide +kernel
theorem dX8_steps_135 : decode cX8_steps 135 = .ok (.aload_n 0, 1) := by decide +kernel
theorem dX8_steps_136 : decode cX8_steps 136 = .ok (.iload 4, 2) := by decide +kernel
theorem dX8_steps_138 : decode cX8_steps 138 = .ok (.iload 5, 2) := by decide +kernel
theorem dX8_steps_140 : decode cX8_steps 140 = .ok (.invokevirtual 166, 3) := by decide +kernel
theorem dX8_steps_143 : decode cX8_steps 143 = .ok (.iaload, 1) := by decide +kernel
theorem dX8_steps_144 : decode cX8_steps 144 = .ok (.aload_n 0, 1) := by decide +kernel
theorem dX8_steps_145 : decode cX8_steps 145 = .ok (.getfield 37, 3) := by decide +kernel
theorem dX8_steps_148 : decode cX8_steps 148 = .ok (.iload 4, 2) := by decide +kernel
theorem dX8_steps_150 : decode cX8_steps 150 = .ok (.iaload, 1) := by decide +kernel
theorem dX8_steps_151 : decode cX8_steps 151 = .ok (.iconst 1, 1) := by decide +kernel
theorem dX8_steps_152 : decode cX8_steps 152 = .ok (.isub, 1) := by decide +kernel
theorem dX8_steps_153 : decode cX8_steps 153 = .ok (.if_icmp .eq 9, 3) := by decide +kernel
theorem dX8_steps_156 : decode cX8_steps 156 = .ok (.iinc 5 1, 3) := by decide +kernel
theorem dX8_steps_159 : decode cX8_steps 159 = .ok (.goto (-39), 3) := by decide +kernel
theorem dX8_steps_162 : decode cX8_steps 162 = .ok (.aload_n 0, 1) := by decide +kernel
theorem dX8_steps_163 : decode cX8_steps 163 = .ok (.iload 4, 2) := by decide +kernel
theorem dX8_steps_165 : decode cX8_steps 165 = .ok (.iload 5, 2) := by decide +kernel
theorem dX8_steps_167 : decode cX8_steps 167 = .ok (.invokevirtual 166, 3) := by decide +kernel
theorem dX8_steps_170 : decode cX8_steps 170 = .ok (.istore 4, 2) := by decide +kernel
theorem dX8_steps_172 : decode cX8_steps 172 = .ok (.iinc 6 1, 3) := by decide +kernel
theorem dX8_steps_175 : decode cX8_steps 175 = .ok (.goto (-64), 3) := by decide +kernel
theorem dX8_steps_178 : decode cX8_steps 178 = .ok (.iload 5, 2) := by decide +kernel
theorem dX8_steps_180 : decode cX8_steps 180 = .ok (.ireturn, 1) := by decide +kernel
theorem dX8_stand_0 : decode cX8_stand 0 = .ok (.aload_n 0, 1) := by decide +kernel
theorem dX8_stand_1 : decode cX8_stand 1 = .ok (.iload_n 1, 1) := by decide +kernel
theorem dX8_stand_2 : decode cX8_stand 2 = .ok (.invokevirtual 116, 3) := by decide +kernel
theorem dX8_stand_5 : decode cX8_stand 5 = .ok (.ifCond .eq 36, 3) := by decide +kernel
theorem dX8_stand_8 : decode cX8_stand 8 = .ok (.aload_n 0, 1) := by decide +kernel
theorem dX8_stand_9 : decode cX8_stand 9 = .ok (.iload_n 2, 1) := by decide +kernel
theorem dX8_stand_10 : decode cX8_stand 10 = .ok (.invokevirtual 116, 3) := by decide +kernel
theorem dX8_stand_13 : decode cX8_stand 13 = .ok (.ifCond .eq 28, 3) := by decide +kernel
theorem dX8_stand_16 : decode cX8_stand 16 = .ok (.iload_n 1, 1) := by decide +kernel
theorem dX8_stand_17 : decode cX8_stand 17 = .ok (.iload_n 2, 1) := by decide +kernel
theorem dX8_stand_18 : decode cX8_stand 18 = .ok (.if_icmp .eq 23, 3) := by decide +kernel
theorem dX8_stand_21 : decode cX8_stand 21 = .ok (.iload_n 3, 1) := by decide +kernel
theorem dX8_stand_22 : decode cX8_stand 22 = .ok (.iconst 0, 1) := by decide +kernel
theorem dX8_stand_23 : decode cX8_stand 23 = .ok (.bipush 7, 2) := by decide +kernel
theorem dX8_stand_25 : decode cX8_stand 25 = .ok (.invokestatic 53, 3) := by decide +kernel
theorem dX8_stand_28 : decode cX8_stand 28 = .ok (.ifCond .eq 13, 3) := by decide +kernel
theorem dX8_stand_31 : decode cX8_stand 31 = .ok (.iload 4, 2) := by decide +kernel
theorem dX8_stand_33 : decode cX8_stand 33 = .ok (.iconst 0, 1) := by decide +kernel
theorem dX8_stand_34 : decode cX8_stand 34 = .ok (.iconst 1, 1) := by decide +kernel
theorem dX8_stand_35 : decode cX8_stand 35 = .ok (.invokestatic 53, 3) := by decide +kernel
theorem dX8_stand_38 : decode cX8_stand 38 = .ok (.ifCond .ne 5, 3) := by decide +kernel
theorem dX8_stand_41 : decode cX8_stand 41 = .ok (.iconst (-1), 1) := by decide +kernel
theorem dX8_stand_42 : decode cX8_stand 42 = .ok (.ireturn, 1) := by decide +kernel
theorem dX8_stand_43 : decode cX8_stand 43 = .ok (.aload_n 0, 1) := by decide +kernel
theorem dX8_stand_44 : decode cX8_stand 44 = .ok (.invokevirtual 154, 3) := by decide +kernel
theorem dX8_stand_47 : decode cX8_stand 47 = .ok (.iconst 0, 1) := by decide +kernel
theorem dX8_stand_48 : decode cX8_stand 48 = .ok (.istore 5, 2) := by decide +kernel
theorem dX8_stand_50 : decode cX8_stand 50 = .ok (.bipush (-4), 2) := by decide +kernel
theorem dX8_stand_52 : decode cX8_stand 52 = .ok (.istore 6, 2) := by decide +kernel
theorem dX8_stand_54 : decode cX8_stand 54 = .ok (.iconst 0, 1) := by decide +kernel
theorem dX8_stand_55 : decode cX8_stand 55 = .ok (.istore 7, 2) := by decide +kernel
theorem dX8_stand_57 : decode cX8_stand 57 = .ok (.iload 7, 2) := by decide +kernel
theorem dX8_stand_59 : decode cX8_stand 59 = .ok (.aload_n 0, 1) := by decide +kernel
theorem dX8_stand_60 : decode cX8_stand 60 = .ok (.getfield 13, 3) := by decide +kernel
theorem dX8_stand_63 : decode cX8_stand 63 = .ok (.iconst 0, 1) := by decide +kernel
theorem dX8_stand_64 : decode cX8_stand 64 = .ok (.iaload, 1) := by decide +kernel
theorem dX8_stand_65 : decode cX8_stand 65 = .ok (.if_icmp .ge 133, 3) := by decide +kernel
theorem dX8_stand_68 : decode cX8_stand 68 = .ok (.iconst 0, 1) := by decide +kernel
theorem dX8_stand_69 : decode cX8_stand 69 = .ok (.istore 8, 2) := by decide +kernel
theorem dX8_stand_71 : decode cX8_stand 71 = .ok (.iload 8, 2) := by decide +kernel
theorem dX8_stand_73 : decode cX8_stand 73 = .ok (.aload_n 0, 1) := by decide +kernel
theorem dX8_stand_74 : decode cX8_stand 74 = .ok (.getfield 13, 3) := by decide +kernel
theorem dX8_stand_77 : decode cX8_stand 77 = .ok (.iconst 1, 1) := by decide +kernel
theorem dX8_stand_78 : decode cX8_stand 78 = .ok (.iaload, 1) := by decide +kernel
theorem dX8_stand_79 : decode cX8_stand 79 = .ok (.if_icmp .ge 113, 3) := by decide +kernel
theorem dX8_stand_82 : decode cX8_stand 82 = .ok (.aload_n 0, 1) := by decide +kernel
theorem dX8_stand_83 : decode cX8_stand 83 = .ok (.iload 7, 2) := by decide +kernel
theorem dX8_stand_85 : decode cX8_stand 85 = .ok (.iload 8, 2) := by decide +kernel
theorem dX8_stand_87 : decode cX8_stand 87 = .ok (.invokevirtual 126, 3) := by decide +kernel
theorem dX8_stand_90 : decode cX8_stand 90 = .ok (.bipush (-4), 2) := by decide +kernel
theorem dX8_stand_92 : decode cX8_stand 92 = .ok (.if_icmp .eq 31, 3) := by decide +kernel
theorem dX8_stand_95 : decode cX8_stand 95 = .ok (.iload 7, 2) := by decide +kernel
theorem dX8_stand_97 : decode cX8_stand 97 = .ok (.aload_n 0, 1) := by decide +kernel
theorem dX8_stand_98 : decode cX8_stand 98 = .ok (.getfield 34, 3) := by decide +kernel
theorem dX8_stand_101 : decode cX8_stand 101 = .ok (.bipush 7, 2) := by decide +kernel
theorem dX8_stand_103 : decode cX8_stand 103 = .ok (.iload_n 1, 1) := by decide +kernel
theorem dX8_stand_104 : decode cX8_stand 104 = .ok (.iadd, 1) := by decide +kernel
theorem dX8_stand_105 : decode cX8_stand 105 = .ok (.iaload, 1) := by decide +kernel
theorem dX8_stand_106 : decode cX8_stand 106 = .ok (.if_icmp .ne 21, 3) := by decide +kernel
theorem dX8_stand_109 : decode cX8_stand 109 = .ok (.iload 8, 2) := by decide +kernel
theorem dX8_stand_111 : decode cX8_stand 111 = .ok (.aload_n 0, 1) := by decide +kernel
theorem dX8_stand_112 : decode cX8_stand 112 = .ok (.getfield 34, 3) := by decide +kernel
theorem dX8_stand_115 : decode cX8_stand 115 = .ok (.bipush 13, 2) := by decide +kernel
theorem dX8_stand_117 : decode cX8_stand 117 = .ok (.iload_n 1, 1) := by decide +kernel
theorem dX8_stand_118 : decode cX8_stand 118 = .ok (.iadd, 1) := by decide +kernel
theorem dX8_stand_119 : decode cX8_stand 119 = .ok (.iaload, 1) := by decide +kernel
theorem dX8_stand_120 : decode cX8_stand 120 = .ok (.if_icmp .ne 7, 3) := by decide +kernel
theorem dX8_stand_123 : decode cX8_stand 123 = .ok (.iconst 1, 1) := by decide +kernel
theorem dX8_stand_124 : decode cX8_stand 124 = .ok (.goto 4, 3) := by decide +kernel
theorem dX8_stand_127 : decode cX8_stand 127 = .ok (.iconst 0, 1) := by decide +kernel
theorem dX8_stand_128 : decode cX8_stand 128 = .ok (.istore 9, 2) := by decide +kernel
theorem dX8_stand_130 : decode cX8_stand 130 = .ok (.aload_n 0, 1) := by decide +kernel
theorem dX8_stand_131 : decode cX8_stand 131 = .ok (.iload_n 1, 1) := by decide +kernel
theorem dX8_stand_132 : decode cX8_stand 132 = .ok (.bipush 9, 2) := by decide +kernel
theorem dX8_stand_134 : decode cX8_stand 134 = .ok (.iload 7, 2) := by decide +kernel
theorem dX8_stand_136 : decode cX8_stand 136 = .ok (.imul, 1) := by decide +kernel
theorem dX8_stand_137 : decode cX8_stand 137 = .ok (.iload 8, 2) := by decide +kernel
theorem dX8_stand_139 : decode cX8_stand 139 = .ok (.iadd, 1) := by decide +kernel
theorem dX8_stand_140 : decode cX8_stand 140 = .ok (.invokevirtual 163, 3) := by decide +kernel
theorem dX8_stand_143 : decode cX8_stand 143 = .ok (.iload 9, 2) := by decide +kernel
theorem dX8_stand_145 : decode cX8_stand 145 = .ok (.ifCond .eq 37, 3) := by decide +kernel
theorem dX8_stand_148 : decode cX8_stand 148 = .ok (.aload_n 0, 1) := by decide +kernel
theorem dX8_stand_149 : decode cX8_stand 149 = .ok (.iload_n 2, 1) := by decide +kernel
theorem dX8_stand_150 : decode cX8_stand 150 = .ok (.invokevirtual 119, 3) := by decide +kernel
theorem dX8_stand_153 : decode cX8_stand 153 = .ok (.iload_n 3, 1) := by decide +kernel
theorem dX8_stand_154 : decode cX8_stand 154 = .ok (.if_icmp .ne 28, 3) := by decide +kernel
theorem dX8_stand_157 : decode cX8_stand 157 = .ok (.iinc 5 1, 3) := by decide +kernel
theorem dX8_stand_160 : decode cX8_stand 160 = .ok (.iload 6, 2) := by decide +kernel
theorem dX8_stand_162 : decode cX8_stand 162 = .ok (.bipush (-4), 2) := by decide +kernel
theorem dX8_stand_164 : decode cX8_stand 164 = .ok (.if_icmp .ne 14, 3) := by decide +kernel
theorem dX8_stand_167 : decode cX8_stand 167 = .ok (.bipush 10, 2) := by decide +kernel
theorem dX8_stand_169 : decode cX8_stand 169 = .ok (.iload 7, 2) := by decide +kernel
theorem dX8_stand_171 : decode cX8_stand 171 = .ok (.imul, 1) := by decide +kernel
theorem dX8_stand_172 : decode cX8_stand 172 = .ok (.iload 8, 2) := by decide +kernel
theorem dX8_stand_174 : decode cX8_stand 174 = .ok (.iadd, 1) := by decide +kernel
theorem dX8_stand_175 : decode cX8_stand 175 = .ok (.goto 5, 3) := by decide +kernel
theorem dX8_stand_178 : decode cX8_stand 178 = .ok (.iload 6, 2) := by decide +kernel
theorem dX8_stand_180 : decode cX8_stand 180 = .ok (.istore 6, 2) := by decide +kernel
theorem dX8_stand_182 : decode cX8_stand 182 = .ok (.aload_n 0, 1) := by decide +kernel
theorem dX8_stand_183 : decode cX8_stand 183 = .ok (.invokevirtual 157, 3) := by decide +kernel
theorem dX8_stand_186 : decode cX8_stand 186 = .ok (.iinc 8 1, 3) := by decide +kernel
theorem dX8_stand_189 : decode cX8_stand 189 = .ok (.goto (-118), 3) := by decide +kernel
theorem dX8_stand_192 : decode cX8_stand 192 = .ok (.iinc 7 1, 3) := by decide +kernel
theorem dX8_stand_195 : decode cX8_stand 195 = .ok (.goto (-138), 3) := by decide +kernel
theorem dX8_stand_198 : decode cX8_stand 198 = .ok (.iload 4, 2) := by decide +kernel
theorem dX8_stand_200 : decode cX8_stand 200 = .ok (.ifCond .ne 8, 3) := by decide +kernel
theorem dX8_stand_203 : decode cX8_stand 203 = .ok (.iload 5, 2) := by decide +kernel
theorem dX8_stand_205 : decode cX8_stand 205 = .ok (.goto 5, 3) := by decide +kernel
theorem dX8_stand_208 : decode cX8_stand 208 = .ok (.iload 6, 2) := by decide +kernel
theorem dX8_stand_210 : decode cX8_stand 210 = .ok (.ireturn, 1) := by decide +kernel
theorem dX8_leans_0 : decode cX8_leans 0 = .ok (.iload_n 2, 1) := by decide +kernel
theorem dX8_leans_1 : decode cX8_leans 1 = .ok (.aload_n 0, 1) := by decide +kernel
theorem dX8_leans_2 : decode cX8_leans 2 = .ok (.getfield 13, 3) := by decide +kernel
theorem dX8_leans_5 : decode cX8_leans 5 = .ok (.iconst 2, 1) := by decide +kernel
theorem dX8_leans_6 : decode cX8_leans 6 = .ok (.iaload, 1) := by decide +kernel
theorem dX8_leans_7 : decode cX8_leans 7 = .ok (.if_icmp .ne 7, 3) := by decide +kernel
theorem dX8_leans_10 : decode cX8_leans 10 = .ok (.iconst 0, 1) := by decide +kernel
theorem dX8_leans_11 : decode cX8_leans 11 = .ok (.goto 17, 3) := by decide +kernel
theorem dX8_leans_14 : decode cX8_leans 14 = .ok (.aload_n 0, 1) := by decide +kernel
theorem dX8_leans_15 : decode cX8_leans 15 = .ok (.getfield 22, 3) := by decide +kernel
theorem dX8_leans_18 : decode cX8_leans 18 = .ok (.bipush 19, 2) := by decide +kernel
theorem dX8_leans_20 : decode cX8_leans 20 = .ok (.bipush 6, 2) := by decide +kernel
theorem dX8_leans_22 : decode cX8_leans 22 = .ok (.iload_n 1, 1) := by decide +kernel
theorem dX8_leans_23 : decode cX8_leans 23 = .ok (.imul, 1) := by decide +kernel
theorem dX8_leans_24 : decode cX8_leans 24 = .ok (.iadd, 1) := by decide +kernel
theorem dX8_leans_25 : decode cX8_leans 25 = .ok (.iload_n 2, 1) := by decide +kernel
theorem dX8_leans_26 : decode cX8_leans 26 = .ok (.iadd, 1) := by decide +kernel
theorem dX8_leans_27 : decode cX8_leans 27 = .ok (.iaload, 1) := by decide +kernel
theorem dX8_leans_28 : decode cX8_leans 28 = .ok (.ireturn, 1) := by decide +kernel
theorem dX8_isMarried_0 : decode cX8_isMarried 0 = .ok (.iconst 1, 1) := by decide +kernel
theorem dX8_isMarried_1 : decode cX8_isMarried 1 = .ok (.istore_n 1, 1) := by decide +kernel
theorem dX8_isMarried_2 : decode cX8_isMarried 2 = .ok (.iconst 0, 1) := by decide +kernel
theorem dX8_isMarried_3 : decode cX8_isMarried 3 = .ok (.istore_n 2, 1) := by decide +kernel
theorem dX8_isMarried_4 : decode cX8_isMarried 4 = .ok (.iload_n 2, 1) := by decide +kernel
theorem dX8_isMarried_5 : decode cX8_isMarried 5 = .ok (.aload_n 0, 1) := by decide +kernel
theorem dX8_isMarried_6 : decode cX8_isMarried 6 = .ok (.getfield 13, 3) := by decide +kernel
theorem dX8_isMarried_9 : decode cX8_isMarried 9 = .ok (.iconst 2, 1) := by decide +kernel
theorem dX8_isMarried_10 : decode cX8_isMarried 10 = .ok (.iaload, 1) := by decide +kernel
theorem dX8_isMarried_11 : decode cX8_isMarried 11 = .ok (.if_icmp .ge 60, 3) := by decide +kernel
theorem dX8_isMarried_14 : decode cX8_isMarried 14 = .ok (.aload_n 0, 1) := by decide +kernel
theorem dX8_isMarried_15 : decode cX8_isMarried 15 = .ok (.getfield 40, 3) := by decide +kernel
theorem dX8_isMarried_18 : decode cX8_isMarried 18 = .ok (.iload_n 2, 1) := by decide +kernel
theorem dX8_isMarried_19 : decode cX8_isMarried 19 = .ok (.iaload, 1) := by decide +kernel
theorem dX8_isMarried_20 : decode cX8_isMarried 20 = .ok (.istore_n 3, 1) := by decide +kernel
theorem dX8_isMarried_21 : decode cX8_isMarried 21 = .ok (.iload_n 1, 1) := by decide +kernel
theorem dX8_isMarried_22 : decode cX8_isMarried 22 = .ok (.ifCond .eq 41, 3) := by decide +kernel
theorem dX8_isMarried_25 : decode cX8_isMarried 25 = .ok (.iload_n 3, 1) := by decide +kernel
theorem dX8_isMarried_26 : decode cX8_isMarried 26 = .ok (.aload_n 0, 1) := by decide +kernel
theorem dX8_isMarried_27 : decode cX8_isMarried 27 = .ok (.getfield 13, 3) := by decide +kernel
theorem dX8_isMarried_30 : decode cX8_isMarried 30 = .ok (.iconst 2, 1) := by decide +kernel
theorem dX8_isMarried_31 : decode cX8_isMarried 31 = .ok (.iaload, 1) := by decide +kernel
theorem dX8_isMarried_32 : decode cX8_isMarried 32 = .ok (.if_icmp .eq 27, 3) := by decide +kernel
theorem dX8_isMarried_35 : decode cX8_isMarried 35 = .ok (.iload_n 3, 1) := by decide +kernel
theorem dX8_isMarried_36 : decode cX8_isMarried 36 = .ok (.iload_n 2, 1) := by decide +kernel
theorem dX8_isMarried_37 : decode cX8_isMarried 37 = .ok (.if_icmp .eq 26, 3) := by decide +kernel
theorem dX8_isMarried_40 : decode cX8_isMarried 40 = .ok (.aload_n 0, 1) := by decide +kernel
theorem dX8_isMarried_41 : decode cX8_isMarried 41 = .ok (.getfield 40, 3) := by decide +kernel
theorem dX8_isMarried_44 : decode cX8_isMarried 44 = .ok (.iload_n 3, 1) := by decide +kernel
theorem dX8_isMarried_45 : decode cX8_isMarried 45 = .ok (.iaload, 1) := by decide +kernel
theorem dX8_isMarried_46 : decode cX8_isMarried 46 = .ok (.iload_n 2, 1) := by decide +kernel
theorem dX8_isMarried_47 : decode cX8_isMarried 47 = .ok (.if_icmp .ne 16, 3) := by decide +kernel
theorem dX8_isMarried_50 : decode cX8_isMarried 50 = .ok (.aload_n 0, 1) := by decide +kernel
theorem dX8_isMarried_51 : decode cX8_isMarried 51 = .ok (.iload_n 2, 1) := by decide +kernel
theorem dX8_isMarried_52 : decode cX8_isMarried 52 = .ok (.iload_n 3, 1) := by decide +kernel
theorem dX8_isMarried_53 : decode cX8_isMarried 53 = .ok (.invokevirtual 172, 3) := by decide +kernel
theorem dX8_isMarried_56 : decode cX8_isMarried 56 = .ok (.ifCond .le 7, 3) := by decide +kernel
theorem dX8_isMarried_59 : decode cX8_isMarried 59 = .ok (.iconst 1, 1) := by decide +kernel
theorem dX8_isMarried_60 : decode cX8_isMarried 60 = .ok (.goto 4, 3) := by decide +kernel
theorem dX8_isMarried_63 : decode cX8_isMarried 63 = .ok (.iconst 0, 1) := by decide +kernel
theorem dX8_isMarried_64 : decode cX8_isMarried 64 = .ok (.istore_n 1, 1) := by decide +kernel
theorem dX8_isMarried_65 : decode cX8_isMarried 65 = .ok (.iinc 2 1, 3) := by decide +kernel
theorem dX8_isMarried_68 : decode cX8_isMarried 68 = .ok (.goto (-64), 3) := by decide +kernel
theorem dX8_isMarried_71 : decode cX8_isMarried 71 = .ok (.iconst 0, 1) := by decide +kernel
theorem dX8_isMarried_72 : decode cX8_isMarried 72 = .ok (.istore_n 2, 1) := by decide +kernel
theorem dX8_isMarried_73 : decode cX8_isMarried 73 = .ok (.iload_n 2, 1) := by decide +kernel
theorem dX8_isMarried_74 : decode cX8_isMarried 74 = .ok (.aload_n 0, 1) := by decide +kernel
theorem dX8_isMarried_75 : decode cX8_isMarried 75 = .ok (.getfield 13, 3) := by decide +kernel
theorem dX8_isMarried_78 : decode cX8_isMarried 78 = .ok (.iconst 2, 1) := by decide +kernel
theorem dX8_isMarried_79 : decode cX8_isMarried 79 = .ok (.iaload, 1) := by decide +kernel
theorem dX8_isMarried_80 : decode cX8_isMarried 80 = .ok (.if_icmp .ge 108, 3) := by decide +kernel
theorem dX8_isMarried_83 : decode cX8_isMarried 83 = .ok (.iload_n 1, 1) := by decide +kernel
theorem dX8_isMarried_84 : decode cX8_isMarried 84 = .ok (.ifCond .eq 104, 3) := by decide +kernel
theorem dX8_isMarried_87 : decode cX8_isMarried 87 = .ok (.iconst 0, 1) := by decide +kernel
theorem dX8_isMarried_88 : decode cX8_isMarried 88 = .ok (.istore_n 3, 1) := by decide +kernel
theorem dX8_isMarried_89 : decode cX8_isMarried 89 = .ok (.iload_n 3, 1) := by decide +kernel
theorem dX8_isMarried_90 : decode cX8_isMarried 90 = .ok (.aload_n 0, 1) := by decide +kernel
theorem dX8_isMarried_91 : decode cX8_isMarried 91 = .ok (.getfield 13, 3) := by decide +kernel
theorem dX8_isMarried_94 : decode cX8_isMarried 94 = .ok (.iconst 2, 1) := by decide +kernel
theorem dX8_isMarried_95 : decode cX8_isMarried 95 = .ok (.iaload, 1) := by decide +kernel
theorem dX8_isMarried_96 : decode cX8_isMarried 96 = .ok (.if_icmp .ge 86, 3) := by decide +kernel
theorem dX8_isMarried_99 : decode cX8_isMarried 99 = .ok (.iload_n 2, 1) := by decide +kernel
theorem dX8_isMarried_100 : decode cX8_isMarried 100 = .ok (.iload_n 3, 1) := by decide +kernel
theorem dX8_isMarried_101 : decode cX8_isMarried 101 = .ok (.if_icmp .eq 57, 3) := by decide +kernel
theorem dX8_isMarried_104 : decode cX8_isMarried 104 = .ok (.aload_n 0, 1) := by decide +kernel
theorem dX8_isMarried_105 : decode cX8_isMarried 105 = .ok (.getfield 40, 3) := by decide +kernel
theorem dX8_isMarried_108 : decode cX8_isMarried 108 = .ok (.iload_n 2, 1) := by decide +kernel
theorem dX8_isMarried_109 : decode cX8_isMarried 109 = .ok (.iaload, 1) := by decide +kernel
theorem dX8_isMarried_110 : decode cX8_isMarried 110 = .ok (.iload_n 3, 1) := by decide +kernel
theorem dX8_isMarried_111 : decode cX8_isMarried 111 = .ok (.if_icmp .eq 47, 3) := by decide +kernel
theorem dX8_isMarried_114 : decode cX8_isMarried 114 = .ok (.aload_n 0, 1) := by decide +kernel
theorem dX8_isMarried_115 : decode cX8_isMarried 115 = .ok (.iload_n 2, 1) := by decide +kernel
theorem dX8_isMarried_116 : decode cX8_isMarried 116 = .ok (.iload_n 3, 1) := by decide +kernel
theorem dX8_isMarried_117 : decode cX8_isMarried 117 = .ok (.invokevirtual 172, 3) := by decide +kernel
theorem dX8_isMarried_120 : decode cX8_isMarried 120 = .ok (.aload_n 0, 1) := by decide +kernel
theorem dX8_isMarried_121 : decode cX8_isMarried 121 = .ok (.iload_n 2, 1) := by decide +kernel
theorem dX8_isMarried_122 : decode cX8_isMarried 122 = .ok (.aload_n 0, 1) := by decide +kernel
theorem dX8_isMarried_123 : decode cX8_isMarried 123 = .ok (.getfield 40, 3) := by decide +kernel
theorem dX8_isMarried_126 : decode cX8_isMarried 126 = .ok (.iload_n 2, 1) := by decide +kernel
theorem dX8_isMarried_127 : decode cX8_isMarried 127 = .ok (.iaload, 1) := by decide +kernel
theorem dX8_isMarried_128 : decode cX8_isMarried 128 = .ok (.invokevirtual 172, 3) := by decide +kernel
theorem dX8_isMarried_131 : decode cX8_isMarried 131 = .ok (.if_icmp .le 27, 3) := by decide +kernel
theorem dX8_isMarried_134 : decode cX8_isMarried 134 = .ok (.aload_n 0, 1) := by decide +kernel
theorem dX8_isMarried_135 : decode cX8_isMarried 135 = .ok (.iload_n 3, 1) := by decide +kernel
theorem dX8_isMarried_136 : decode cX8_isMarried 136 = .ok (.iload_n 2, 1) := by decide +kernel
theorem dX8_isMarried_137 : decode cX8_isMarried 137 = .ok (.invokevirtual 172, 3) := by decide +kernel
theorem dX8_isMarried_140 : decode cX8_isMarried 140 = .ok (.aload_n 0, 1) := by decide +kernel
theorem dX8_isMarried_141 : decode cX8_isMarried 141 = .ok (.iload_n 3, 1) := by decide +kernel
theorem dX8_isMarried_142 : decode cX8_isMarried 142 = .ok (.aload_n 0, 1) := by decide +kernel
theorem dX8_isMarried_143 : decode cX8_isMarried 143 = .ok (.getfield 40, 3) := by decide +kernel
theorem dX8_isMarried_146 : decode cX8_isMarried 146 = .ok (.iload_n 3, 1) := by decide +kernel
theorem dX8_isMarried_147 : decode cX8_isMarried 147 = .ok (.iaload, 1) := by decide +kernel
theorem dX8_isMarried_148 : decode cX8_isMarried 148 = .ok (.invokevirtual 172, 3) := by decide +kernel
theorem dX8_isMarried_151 : decode cX8_isMarried 151 = .ok (.if_icmp .le 7, 3) := by decide +kernel
theorem dX8_isMarried_154 : decode cX8_isMarried 154 = .ok (.iconst 1, 1) := by decide +kernel
theorem dX8_isMarried_155 : decode cX8_isMarried 155 = .ok (.goto 4, 3) := by decide +kernel
theorem dX8_isMarried_158 : decode cX8_isMarried 158 = .ok (.iconst 0, 1) := by decide +kernel
theorem dX8_isMarried_159 : decode cX8_isMarried 159 = .ok (.istore 4, 2) := by decide +kernel
theorem dX8_isMarried_161 : decode cX8_isMarried 161 = .ok (.iload_n 1, 1) := by decide +kernel
theorem dX8_isMarried_162 : decode cX8_isMarried 162 = .ok (.ifCond .eq 12, 3) := by decide +kernel
theorem dX8_isMarried_165 : decode cX8_isMarried 165 = .ok (.iload 4, 2) := by decide +kernel
theorem dX8_isMarried_167 : decode cX8_isMarried 167 = .ok (.ifCond .ne 7, 3) := by decide +kernel
theorem dX8_isMarried_170 : decode cX8_isMarried 170 = .ok (.iconst 1, 1) := by decide +kernel
theorem dX8_isMarried_171 : decode cX8_isMarried 171 = .ok (.goto 4, 3) := by decide +kernel
theorem dX8_isMarried_174 : decode cX8_isMarried 174 = .ok (.iconst 0, 1) := by decide +kernel
theorem dX8_isMarried_175 : decode cX8_isMarried 175 = .ok (.istore_n 1, 1) := by decide +kernel
theorem dX8_isMarried_176 : decode cX8_isMarried 176 = .ok (.iinc 3 1, 3) := by decide +kernel
theorem dX8_isMarried_179 : decode cX8_isMarried 179 = .ok (.goto (-90), 3) := by decide +kernel
theorem dX8_isMarried_182 : decode cX8_isMarried 182 = .ok (.iinc 2 1, 3) := by decide +kernel
theorem dX8_isMarried_185 : decode cX8_isMarried 185 = .ok (.goto (-112), 3) := by decide +kernel
theorem dX8_isMarried_188 : decode cX8_isMarried 188 = .ok (.iload_n 1, 1) := by decide +kernel
theorem dX8_isMarried_189 : decode cX8_isMarried 189 = .ok (.ireturn, 1) := by decide +kernel
theorem dX8_marries_0 : decode cX8_marries 0 = .ok (.aload_n 0, 1) := by decide +kernel
theorem dX8_marries_1 : decode cX8_marries 1 = .ok (.getfield 13, 3) := by decide +kernel
theorem dX8_marries_4 : decode cX8_marries 4 = .ok (.iconst 2, 1) := by decide +kernel
theorem dX8_marries_5 : decode cX8_marries 5 = .ok (.iaload, 1) := by decide +kernel
theorem dX8_marries_6 : decode cX8_marries 6 = .ok (.istore_n 1, 1) := by decide +kernel
theorem dX8_marries_7 : decode cX8_marries 7 = .ok (.iconst 0, 1) := by decide +kernel
theorem dX8_marries_8 : decode cX8_marries 8 = .ok (.istore_n 2, 1) := by decide +kernel
theorem dX8_marries_9 : decode cX8_marries 9 = .ok (.aload_n 0, 1) := by decide +kernel
theorem dX8_marries_10 : decode cX8_marries 10 = .ok (.getfield 40, 3) := by decide +kernel
theorem dX8_marries_13 : decode cX8_marries 13 = .ok (.iconst 0, 1) := by decide +kernel
theorem dX8_marries_14 : decode cX8_marries 14 = .ok (.iconst (-1), 1) := by decide +kernel
theorem dX8_marries_15 : decode cX8_marries 15 = .ok (.iastore, 1) := by decide +kernel
theorem dX8_marries_16 : decode cX8_marries 16 = .ok (.iload_n 2, 1) := by decide +kernel
theorem dX8_marries_17 : decode cX8_marries 17 = .ok (.ifCond .lt 185, 3) := by decide +kernel
theorem dX8_marries_20 : decode cX8_marries 20 = .ok (.aload_n 0, 1) := by decide +kernel
theorem dX8_marries_21 : decode cX8_marries 21 = .ok (.getfield 40, 3) := by decide +kernel
theorem dX8_marries_24 : decode cX8_marries 24 = .ok (.iload_n 2, 1) := by decide +kernel
theorem dX8_marries_25 : decode cX8_marries 25 = .ok (.dup2, 1) := by decide +kernel
theorem dX8_marries_26 : decode cX8_marries 26 = .ok (.iaload, 1) := by decide +kernel
theorem dX8_marries_27 : decode cX8_marries 27 = .ok (.iconst 1, 1) := by decide +kernel
theorem dX8_marries_28 : decode cX8_marries 28 = .ok (.iadd, 1) := by decide +kernel
theorem dX8_marries_29 : decode cX8_marries 29 = .ok (.iastore, 1) := by decide +kernel
theorem dX8_marries_30 : decode cX8_marries 30 = .ok (.aload_n 0, 1) := by decide +kernel
theorem dX8_marries_31 : decode cX8_marries 31 = .ok (.getfield 40, 3) := by decide +kernel
theorem dX8_marries_34 : decode cX8_marries 34 = .ok (.iload_n 2, 1) := by decide +kernel
theorem dX8_marries_35 : decode cX8_marries 35 = .ok (.iaload, 1) := by decide +kernel
theorem dX8_marries_36 : decode cX8_marries 36 = .ok (.iload_n 1, 1) := by decide +kernel
theorem dX8_marries_37 : decode cX8_marries 37 = .ok (.if_icmp .le 9, 3) := by decide +kernel
theorem dX8_marries_40 : decode cX8_marries 40 = .ok (.iinc 2 (-1), 3) := by decide +kernel
theorem dX8_marries_43 : decode cX8_marries 43 = .ok (.goto (-27), 3) := by decide +kernel
theorem dX8_marries_46 : decode cX8_marries 46 = .ok (.aload_n 0, 1) := by decide +kernel
theorem dX8_marries_47 : decode cX8_marries 47 = .ok (.getfield 40, 3) := by decide +kernel
theorem dX8_marries_50 : decode cX8_marries 50 = .ok (.iload_n 2, 1) := by decide +kernel
theorem dX8_marries_51 : decode cX8_marries 51 = .ok (.iaload, 1) := by decide +kernel
theorem dX8_marries_52 : decode cX8_marries 52 = .ok (.istore_n 3, 1) := by decide +kernel
theorem dX8_marries_53 : decode cX8_marries 53 = .ok (.iload_n 3, 1) := by decide +kernel
theorem dX8_marries_54 : decode cX8_marries 54 = .ok (.iload_n 1, 1) := by decide +kernel
theorem dX8_marries_55 : decode cX8_marries 55 = .ok (.if_icmp .eq 41, 3) := by decide +kernel
theorem dX8_marries_58 : decode cX8_marries 58 = .ok (.iload_n 3, 1) := by decide +kernel
theorem dX8_marries_59 : decode cX8_marries 59 = .ok (.iload_n 2, 1) := by decide +kernel
theorem dX8_marries_60 : decode cX8_marries 60 = .ok (.if_icmp .eq 40, 3) := by decide +kernel
theorem dX8_marries_63 : decode cX8_marries 63 = .ok (.aload_n 0, 1) := by decide +kernel
theorem dX8_marries_64 : decode cX8_marries 64 = .ok (.iload_n 2, 1) := by decide +kernel
theorem dX8_marries_65 : decode cX8_marries 65 = .ok (.iload_n 3, 1) := by decide +kernel
theorem dX8_marries_66 : decode cX8_marries 66 = .ok (.invokevirtual 172, 3) := by decide +kernel
theorem dX8_marries_69 : decode cX8_marries 69 = .ok (.ifCond .le 31, 3) := by decide +kernel
theorem dX8_marries_72 : decode cX8_marries 72 = .ok (.aload_n 0, 1) := by decide +kernel
theorem dX8_marries_73 : decode cX8_marries 73 = .ok (.iload_n 3, 1) := by decide +kernel
theorem dX8_marries_74 : decode cX8_marries 74 = .ok (.iload_n 2, 1) := by decide +kernel
theorem dX8_marries_75 : decode cX8_marries 75 = .ok (.invokevirtual 172, 3) := by decide +kernel
theorem dX8_marries_78 : decode cX8_marries 78 = .ok (.ifCond .le 22, 3) := by decide +kernel
theorem dX8_marries_81 : decode cX8_marries 81 = .ok (.iload_n 3, 1) := by decide +kernel
theorem dX8_marries_82 : decode cX8_marries 82 = .ok (.iload_n 2, 1) := by decide +kernel
theorem dX8_marries_83 : decode cX8_marries 83 = .ok (.if_icmp .gt 13, 3) := by decide +kernel
theorem dX8_marries_86 : decode cX8_marries 86 = .ok (.aload_n 0, 1) := by decide +kernel
theorem dX8_marries_87 : decode cX8_marries 87 = .ok (.getfield 40, 3) := by decide +kernel
theorem dX8_marries_90 : decode cX8_marries 90 = .ok (.iload_n 3, 1) := by decide +kernel
theorem dX8_marries_91 : decode cX8_marries 91 = .ok (.iaload, 1) := by decide +kernel
theorem dX8_marries_92 : decode cX8_marries 92 = .ok (.iload_n 2, 1) := by decide +kernel
theorem dX8_marries_93 : decode cX8_marries 93 = .ok (.if_icmp .ne 7, 3) := by decide +kernel
theorem dX8_marries_96 : decode cX8_marries 96 = .ok (.iconst 1, 1) := by decide +kernel
theorem dX8_marries_97 : decode cX8_marries 97 = .ok (.goto 4, 3) := by decide +kernel
theorem dX8_marries_100 : decode cX8_marries 100 = .ok (.iconst 0, 1) := by decide +kernel
theorem dX8_marries_101 : decode cX8_marries 101 = .ok (.istore 4, 2) := by decide +kernel
theorem dX8_marries_103 : decode cX8_marries 103 = .ok (.iconst 0, 1) := by decide +kernel
theorem dX8_marries_104 : decode cX8_marries 104 = .ok (.istore 5, 2) := by decide +kernel
theorem dX8_marries_106 : decode cX8_marries 106 = .ok (.iload 5, 2) := by decide +kernel
theorem dX8_marries_108 : decode cX8_marries 108 = .ok (.iload_n 2, 1) := by decide +kernel
theorem dX8_marries_109 : decode cX8_marries 109 = .ok (.if_icmp .ge 54, 3) := by decide +kernel
theorem dX8_marries_112 : decode cX8_marries 112 = .ok (.iload 4, 2) := by decide +kernel
theorem dX8_marries_114 : decode cX8_marries 114 = .ok (.ifCond .eq 40, 3) := by decide +kernel
theorem dX8_marries_117 : decode cX8_marries 117 = .ok (.aload_n 0, 1) := by decide +kernel
theorem dX8_marries_118 : decode cX8_marries 118 = .ok (.getfield 40, 3) := by decide +kernel
theorem dX8_marries_121 : decode cX8_marries 121 = .ok (.iload 5, 2) := by decide +kernel
theorem dX8_marries_123 : decode cX8_marries 123 = .ok (.iaload, 1) := by decide +kernel
theorem dX8_marries_124 : decode cX8_marries 124 = .ok (.iload_n 2, 1) := by decide +kernel
theorem dX8_marries_125 : decode cX8_marries 125 = .ok (.if_icmp .ne 9, 3) := by decide +kernel
theorem dX8_marries_128 : decode cX8_marries 128 = .ok (.iload_n 3, 1) := by decide +kernel
theorem dX8_marries_129 : decode cX8_marries 129 = .ok (.iload 5, 2) := by decide +kernel
theorem dX8_marries_131 : decode cX8_marries 131 = .ok (.if_icmp .ne 23, 3) := by decide +kernel
theorem dX8_marries_134 : decode cX8_marries 134 = .ok (.aload_n 0, 1) := by decide +kernel
theorem dX8_marries_135 : decode cX8_marries 135 = .ok (.getfield 40, 3) := by decide +kernel
theorem dX8_marries_138 : decode cX8_marries 138 = .ok (.iload 5, 2) := by decide +kernel
theorem dX8_marries_140 : decode cX8_marries 140 = .ok (.iaload, 1) := by decide +kernel
theorem dX8_marries_141 : decode cX8_marries 141 = .ok (.iload_n 3, 1) := by decide +kernel
theorem dX8_marries_142 : decode cX8_marries 142 = .ok (.if_icmp .ne 8, 3) := by decide +kernel
theorem dX8_marries_145 : decode cX8_marries 145 = .ok (.iload_n 3, 1) := by decide +kernel
theorem dX8_marries_146 : decode cX8_marries 146 = .ok (.iload_n 1, 1) := by decide +kernel
theorem dX8_marries_147 : decode cX8_marries 147 = .ok (.if_icmp .ne 7, 3) := by decide +kernel
theorem dX8_marries_150 : decode cX8_marries 150 = .ok (.iconst 1, 1) := by decide +kernel
theorem dX8_marries_151 : decode cX8_marries 151 = .ok (.goto 4, 3) := by decide +kernel
theorem dX8_marries_154 : decode cX8_marries 154 = .ok (.iconst 0, 1) := by decide +kernel
theorem dX8_marries_155 : decode cX8_marries 155 = .ok (.istore 4, 2) := by decide +kernel
theorem dX8_marries_157 : decode cX8_marries 157 = .ok (.iinc 5 1, 3) := by decide +kernel
theorem dX8_marries_160 : decode cX8_marries 160 = .ok (.goto (-54), 3) := by decide +kernel
theorem dX8_marries_163 : decode cX8_marries 163 = .ok (.iload 4, 2) := by decide +kernel
theorem dX8_marries_165 : decode cX8_marries 165 = .ok (.ifCond .eq 19, 3) := by decide +kernel
theorem dX8_marries_168 : decode cX8_marries 168 = .ok (.iload_n 2, 1) := by decide +kernel
theorem dX8_marries_169 : decode cX8_marries 169 = .ok (.iload_n 1, 1) := by decide +kernel
theorem dX8_marries_170 : decode cX8_marries 170 = .ok (.iconst 1, 1) := by decide +kernel
theorem dX8_marries_171 : decode cX8_marries 171 = .ok (.isub, 1) := by decide +kernel
theorem dX8_marries_172 : decode cX8_marries 172 = .ok (.if_icmp .ne 12, 3) := by decide +kernel
theorem dX8_marries_175 : decode cX8_marries 175 = .ok (.aload_n 0, 1) := by decide +kernel
theorem dX8_marries_176 : decode cX8_marries 176 = .ok (.invokevirtual 175, 3) := by decide +kernel
theorem dX8_marries_179 : decode cX8_marries 179 = .ok (.ifCond .eq 20, 3) := by decide +kernel
theorem dX8_marries_182 : decode cX8_marries 182 = .ok (.iconst 1, 1) := by decide +kernel
theorem dX8_marries_183 : decode cX8_marries 183 = .ok (.ireturn, 1) := by decide +kernel
theorem dX8_marries_184 : decode cX8_marries 184 = .ok (.iload 4, 2) := by decide +kernel
theorem dX8_marries_186 : decode cX8_marries 186 = .ok (.ifCond .eq 13, 3) := by decide +kernel
theorem dX8_marries_189 : decode cX8_marries 189 = .ok (.iinc 2 1, 3) := by decide +kernel
theorem dX8_marries_192 : decode cX8_marries 192 = .ok (.aload_n 0, 1) := by decide +kernel
theorem dX8_marries_193 : decode cX8_marries 193 = .ok (.getfield 40, 3) := by decide +kernel
theorem dX8_marries_196 : decode cX8_marries 196 = .ok (.iload_n 2, 1) := by decide +kernel
theorem dX8_marries_197 : decode cX8_marries 197 = .ok (.iconst (-1), 1) := by decide +kernel
theorem dX8_marries_198 : decode cX8_marries 198 = .ok (.iastore, 1) := by decide +kernel
theorem dX8_marries_199 : decode cX8_marries 199 = .ok (.goto (-183), 3) := by decide +kernel
theorem dX8_marries_202 : decode cX8_marries 202 = .ok (.iconst 0, 1) := by decide +kernel
theorem dX8_marries_203 : decode cX8_marries 203 = .ok (.ireturn, 1) := by decide +kernel
theorem dX8_marry_0 : decode cX8_marry 0 = .ok (.iload_n 1, 1) := by decide +kernel
theorem dX8_marry_1 : decode cX8_marry 1 = .ok (.iconst (-1), 1) := by decide +kernel
theorem dX8_marry_2 : decode cX8_marry 2 = .ok (.if_icmp .eq 13, 3) := by decide +kernel
theorem dX8_marry_5 : decode cX8_marry 5 = .ok (.aload_n 0, 1) := by decide +kernel
theorem dX8_marry_6 : decode cX8_marry 6 = .ok (.iload_n 1, 1) := by decide +kernel
theorem dX8_marry_7 : decode cX8_marry 7 = .ok (.invokevirtual 116, 3) := by decide +kernel
theorem dX8_marry_10 : decode cX8_marry 10 = .ok (.ifCond .ne 5, 3) := by decide +kernel
theorem dX8_marry_13 : decode cX8_marry 13 = .ok (.iconst (-1), 1) := by decide +kernel
theorem dX8_marry_14 : decode cX8_marry 14 = .ok (.ireturn, 1) := by decide +kernel
theorem dX8_marry_15 : decode cX8_marry 15 = .ok (.aload_n 0, 1) := by decide +kernel
theorem dX8_marry_16 : decode cX8_marry 16 = .ok (.invokevirtual 178, 3) := by decide +kernel
theorem dX8_marry_19 : decode cX8_marry 19 = .ok (.ifCond .ne 6, 3) := by decide +kernel
theorem dX8_marry_22 : decode cX8_marry 22 = .ok (.bipush (-4), 2) := by decide +kernel
theorem dX8_marry_24 : decode cX8_marry 24 = .ok (.ireturn, 1) := by decide +kernel
theorem dX8_marry_25 : decode cX8_marry 25 = .ok (.iconst 0, 1) := by decide +kernel
theorem dX8_marry_26 : decode cX8_marry 26 = .ok (.istore_n 2, 1) := by decide +kernel
theorem dX8_marry_27 : decode cX8_marry 27 = .ok (.iconst 0, 1) := by decide +kernel
theorem dX8_marry_28 : decode cX8_marry 28 = .ok (.istore_n 3, 1) := by decide +kernel
theorem dX8_marry_29 : decode cX8_marry 29 = .ok (.iload_n 3, 1) := by decide +kernel
theorem dX8_marry_30 : decode cX8_marry 30 = .ok (.aload_n 0, 1) := by decide +kernel
theorem dX8_marry_31 : decode cX8_marry 31 = .ok (.getfield 13, 3) := by decide +kernel
theorem dX8_marry_34 : decode cX8_marry 34 = .ok (.iconst 2, 1) := by decide +kernel
theorem dX8_marry_35 : decode cX8_marry 35 = .ok (.iaload, 1) := by decide +kernel
end
section
theorem dX8_marry_36 : decode cX8_marry 36 = .ok (.if_icmp .ge 32, 3) := by decide +kernel
theorem dX8_marry_39 : decode cX8_marry 39 = .ok (.iload_n 2, 1) := by decide +kernel
theorem dX8_marry_40 : decode cX8_marry 40 = .ok (.aload_n 0, 1) := by decide +kernel
theorem dX8_marry_41 : decode cX8_marry 41 = .ok (.getfield 40, 3) := by decide +kernel
theorem dX8_marry_44 : decode cX8_marry 44 = .ok (.iload_n 3, 1) := by decide +kernel
theorem dX8_marry_45 : decode cX8_marry 45 = .ok (.iaload, 1) := by decide +kernel
theorem dX8_marry_46 : decode cX8_marry 46 = .ok (.aload_n 0, 1) := by decide +kernel
theorem dX8_marry_47 : decode cX8_marry 47 = .ok (.getfield 13, 3) := by decide +kernel
theorem dX8_marry_50 : decode cX8_marry 50 = .ok (.iconst 2, 1) := by decide +kernel
theorem dX8_marry_51 : decode cX8_marry 51 = .ok (.iaload, 1) := by decide +kernel
theorem dX8_marry_52 : decode cX8_marry 52 = .ok (.if_icmp .ne 7, 3) := by decide +kernel
theorem dX8_marry_55 : decode cX8_marry 55 = .ok (.iconst 0, 1) := by decide +kernel
theorem dX8_marry_56 : decode cX8_marry 56 = .ok (.goto 4, 3) := by decide +kernel
theorem dX8_marry_59 : decode cX8_marry 59 = .ok (.iconst 1, 1) := by decide +kernel
theorem dX8_marry_60 : decode cX8_marry 60 = .ok (.iadd, 1) := by decide +kernel
theorem dX8_marry_61 : decode cX8_marry 61 = .ok (.istore_n 2, 1) := by decide +kernel
theorem dX8_marry_62 : decode cX8_marry 62 = .ok (.iinc 3 1, 3) := by decide +kernel
theorem dX8_marry_65 : decode cX8_marry 65 = .ok (.goto (-36), 3) := by decide +kernel
theorem dX8_marry_68 : decode cX8_marry 68 = .ok (.iload_n 1, 1) := by decide +kernel
theorem dX8_marry_69 : decode cX8_marry 69 = .ok (.iconst (-1), 1) := by decide +kernel
theorem dX8_marry_70 : decode cX8_marry 70 = .ok (.if_icmp .ne 7, 3) := by decide +kernel
theorem dX8_marry_73 : decode cX8_marry 73 = .ok (.iload_n 2, 1) := by decide +kernel
theorem dX8_marry_74 : decode cX8_marry 74 = .ok (.goto 29, 3) := by decide +kernel
theorem dX8_marry_77 : decode cX8_marry 77 = .ok (.aload_n 0, 1) := by decide +kernel
theorem dX8_marry_78 : decode cX8_marry 78 = .ok (.getfield 40, 3) := by decide +kernel
theorem dX8_marry_81 : decode cX8_marry 81 = .ok (.iload_n 1, 1) := by decide +kernel
theorem dX8_marry_82 : decode cX8_marry 82 = .ok (.iaload, 1) := by decide +kernel
theorem dX8_marry_83 : decode cX8_marry 83 = .ok (.aload_n 0, 1) := by decide +kernel
theorem dX8_marry_84 : decode cX8_marry 84 = .ok (.getfield 13, 3) := by decide +kernel
theorem dX8_marry_87 : decode cX8_marry 87 = .ok (.iconst 2, 1) := by decide +kernel
theorem dX8_marry_88 : decode cX8_marry 88 = .ok (.iaload, 1) := by decide +kernel
theorem dX8_marry_89 : decode cX8_marry 89 = .ok (.if_icmp .ne 8, 3) := by decide +kernel
theorem dX8_marry_92 : decode cX8_marry 92 = .ok (.bipush (-4), 2) := by decide +kernel
theorem dX8_marry_94 : decode cX8_marry 94 = .ok (.goto 9, 3) := by decide +kernel
theorem dX8_marry_97 : decode cX8_marry 97 = .ok (.aload_n 0, 1) := by decide +kernel
theorem dX8_marry_98 : decode cX8_marry 98 = .ok (.getfield 40, 3) := by decide +kernel
theorem dX8_marry_101 : decode cX8_marry 101 = .ok (.iload_n 1, 1) := by decide +kernel
theorem dX8_marry_102 : decode cX8_marry 102 = .ok (.iaload, 1) := by decide +kernel
theorem dX8_marry_103 : decode cX8_marry 103 = .ok (.ireturn, 1) := by decide +kernel
theorem dX8_see_0 : decode cX8_see 0 = .ok (.aload_n 0, 1) := by decide +kernel
theorem dX8_see_1 : decode cX8_see 1 = .ok (.iload_n 1, 1) := by decide +kernel
theorem dX8_see_2 : decode cX8_see 2 = .ok (.invokevirtual 116, 3) := by decide +kernel
theorem dX8_see_5 : decode cX8_see 5 = .ok (.ifCond .eq 23, 3) := by decide +kernel
theorem dX8_see_8 : decode cX8_see 8 = .ok (.iload_n 2, 1) := by decide +kernel
theorem dX8_see_9 : decode cX8_see 9 = .ok (.iconst 0, 1) := by decide +kernel
theorem dX8_see_10 : decode cX8_see 10 = .ok (.bipush 20, 2) := by decide +kernel
theorem dX8_see_12 : decode cX8_see 12 = .ok (.invokestatic 53, 3) := by decide +kernel
theorem dX8_see_15 : decode cX8_see 15 = .ok (.ifCond .eq 13, 3) := by decide +kernel
theorem dX8_see_18 : decode cX8_see 18 = .ok (.iload_n 3, 1) := by decide +kernel
theorem dX8_see_19 : decode cX8_see 19 = .ok (.iconst 0, 1) := by decide +kernel
theorem dX8_see_20 : decode cX8_see 20 = .ok (.bipush 7, 2) := by decide +kernel
theorem dX8_see_22 : decode cX8_see 22 = .ok (.invokestatic 53, 3) := by decide +kernel
theorem dX8_see_25 : decode cX8_see 25 = .ok (.ifCond .ne 5, 3) := by decide +kernel
theorem dX8_see_28 : decode cX8_see 28 = .ok (.iconst (-1), 1) := by decide +kernel
theorem dX8_see_29 : decode cX8_see 29 = .ok (.ireturn, 1) := by decide +kernel
theorem dX8_see_30 : decode cX8_see 30 = .ok (.aload_n 0, 1) := by decide +kernel
theorem dX8_see_31 : decode cX8_see 31 = .ok (.getfield 96, 3) := by decide +kernel
theorem dX8_see_34 : decode cX8_see 34 = .ok (.bipush 6, 2) := by decide +kernel
theorem dX8_see_36 : decode cX8_see 36 = .ok (.if_icmp .ne 6, 3) := by decide +kernel
theorem dX8_see_39 : decode cX8_see 39 = .ok (.bipush (-3), 2) := by decide +kernel
theorem dX8_see_41 : decode cX8_see 41 = .ok (.ireturn, 1) := by decide +kernel
theorem dX8_see_42 : decode cX8_see 42 = .ok (.aload_n 0, 1) := by decide +kernel
theorem dX8_see_43 : decode cX8_see 43 = .ok (.getfield 31, 3) := by decide +kernel
theorem dX8_see_46 : decode cX8_see 46 = .ok (.iconst 3, 1) := by decide +kernel
theorem dX8_see_47 : decode cX8_see 47 = .ok (.aload_n 0, 1) := by decide +kernel
theorem dX8_see_48 : decode cX8_see 48 = .ok (.getfield 96, 3) := by decide +kernel
theorem dX8_see_51 : decode cX8_see 51 = .ok (.imul, 1) := by decide +kernel
theorem dX8_see_52 : decode cX8_see 52 = .ok (.iload_n 1, 1) := by decide +kernel
theorem dX8_see_53 : decode cX8_see 53 = .ok (.iastore, 1) := by decide +kernel
theorem dX8_see_54 : decode cX8_see 54 = .ok (.aload_n 0, 1) := by decide +kernel
theorem dX8_see_55 : decode cX8_see 55 = .ok (.getfield 31, 3) := by decide +kernel
theorem dX8_see_58 : decode cX8_see 58 = .ok (.iconst 3, 1) := by decide +kernel
theorem dX8_see_59 : decode cX8_see 59 = .ok (.aload_n 0, 1) := by decide +kernel
theorem dX8_see_60 : decode cX8_see 60 = .ok (.getfield 96, 3) := by decide +kernel
theorem dX8_see_63 : decode cX8_see 63 = .ok (.imul, 1) := by decide +kernel
theorem dX8_see_64 : decode cX8_see 64 = .ok (.iconst 1, 1) := by decide +kernel
theorem dX8_see_65 : decode cX8_see 65 = .ok (.iadd, 1) := by decide +kernel
theorem dX8_see_66 : decode cX8_see 66 = .ok (.iload_n 2, 1) := by decide +kernel
theorem dX8_see_67 : decode cX8_see 67 = .ok (.iastore, 1) := by decide +kernel
theorem dX8_see_68 : decode cX8_see 68 = .ok (.aload_n 0, 1) := by decide +kernel
theorem dX8_see_69 : decode cX8_see 69 = .ok (.getfield 31, 3) := by decide +kernel
theorem dX8_see_72 : decode cX8_see 72 = .ok (.iconst 3, 1) := by decide +kernel
theorem dX8_see_73 : decode cX8_see 73 = .ok (.aload_n 0, 1) := by decide +kernel
theorem dX8_see_74 : decode cX8_see 74 = .ok (.getfield 96, 3) := by decide +kernel
theorem dX8_see_77 : decode cX8_see 77 = .ok (.imul, 1) := by decide +kernel
theorem dX8_see_78 : decode cX8_see 78 = .ok (.iconst 2, 1) := by decide +kernel
theorem dX8_see_79 : decode cX8_see 79 = .ok (.iadd, 1) := by decide +kernel
theorem dX8_see_80 : decode cX8_see 80 = .ok (.iload_n 3, 1) := by decide +kernel
theorem dX8_see_81 : decode cX8_see 81 = .ok (.iastore, 1) := by decide +kernel
theorem dX8_see_82 : decode cX8_see 82 = .ok (.aload_n 0, 1) := by decide +kernel
theorem dX8_see_83 : decode cX8_see 83 = .ok (.dup, 1) := by decide +kernel
theorem dX8_see_84 : decode cX8_see 84 = .ok (.getfield 96, 3) := by decide +kernel
theorem dX8_see_87 : decode cX8_see 87 = .ok (.iconst 1, 1) := by decide +kernel
theorem dX8_see_88 : decode cX8_see 88 = .ok (.iadd, 1) := by decide +kernel
theorem dX8_see_89 : decode cX8_see 89 = .ok (.putfield 96, 3) := by decide +kernel
theorem dX8_see_92 : decode cX8_see 92 = .ok (.aload_n 0, 1) := by decide +kernel
theorem dX8_see_93 : decode cX8_see 93 = .ok (.getfield 96, 3) := by decide +kernel
theorem dX8_see_96 : decode cX8_see 96 = .ok (.ireturn, 1) := by decide +kernel
theorem dX8_forget_0 : decode cX8_forget 0 = .ok (.aload_n 0, 1) := by decide +kernel
theorem dX8_forget_1 : decode cX8_forget 1 = .ok (.getfield 96, 3) := by decide +kernel
theorem dX8_forget_4 : decode cX8_forget 4 = .ok (.istore_n 1, 1) := by decide +kernel
theorem dX8_forget_5 : decode cX8_forget 5 = .ok (.aload_n 0, 1) := by decide +kernel
theorem dX8_forget_6 : decode cX8_forget 6 = .ok (.iconst 0, 1) := by decide +kernel
theorem dX8_forget_7 : decode cX8_forget 7 = .ok (.putfield 96, 3) := by decide +kernel
theorem dX8_forget_10 : decode cX8_forget 10 = .ok (.iload_n 1, 1) := by decide +kernel
theorem dX8_forget_11 : decode cX8_forget 11 = .ok (.ireturn, 1) := by decide +kernel
theorem dX8_kinds_0 : decode cX8_kinds 0 = .ok (.aload_n 0, 1) := by decide +kernel
theorem dX8_kinds_1 : decode cX8_kinds 1 = .ok (.iload_n 1, 1) := by decide +kernel
theorem dX8_kinds_2 : decode cX8_kinds 2 = .ok (.invokevirtual 116, 3) := by decide +kernel
theorem dX8_kinds_5 : decode cX8_kinds 5 = .ok (.ifCond .ne 5, 3) := by decide +kernel
theorem dX8_kinds_8 : decode cX8_kinds 8 = .ok (.iconst (-1), 1) := by decide +kernel
theorem dX8_kinds_9 : decode cX8_kinds 9 = .ok (.ireturn, 1) := by decide +kernel
theorem dX8_kinds_10 : decode cX8_kinds 10 = .ok (.aload_n 0, 1) := by decide +kernel
theorem dX8_kinds_11 : decode cX8_kinds 11 = .ok (.getfield 13, 3) := by decide +kernel
theorem dX8_kinds_14 : decode cX8_kinds 14 = .ok (.iconst 3, 1) := by decide +kernel
theorem dX8_kinds_15 : decode cX8_kinds 15 = .ok (.iload_n 1, 1) := by decide +kernel
theorem dX8_kinds_16 : decode cX8_kinds 16 = .ok (.iadd, 1) := by decide +kernel
theorem dX8_kinds_17 : decode cX8_kinds 17 = .ok (.iaload, 1) := by decide +kernel
theorem dX8_kinds_18 : decode cX8_kinds 18 = .ok (.istore_n 2, 1) := by decide +kernel
theorem dX8_kinds_19 : decode cX8_kinds 19 = .ok (.iconst 0, 1) := by decide +kernel
theorem dX8_kinds_20 : decode cX8_kinds 20 = .ok (.istore_n 3, 1) := by decide +kernel
theorem dX8_kinds_21 : decode cX8_kinds 21 = .ok (.iconst 0, 1) := by decide +kernel
theorem dX8_kinds_22 : decode cX8_kinds 22 = .ok (.istore 4, 2) := by decide +kernel
theorem dX8_kinds_24 : decode cX8_kinds 24 = .ok (.iload 4, 2) := by decide +kernel
theorem dX8_kinds_26 : decode cX8_kinds 26 = .ok (.iconst 3, 1) := by decide +kernel
theorem dX8_kinds_27 : decode cX8_kinds 27 = .ok (.if_icmp .gt 111, 3) := by decide +kernel
theorem dX8_kinds_30 : decode cX8_kinds 30 = .ok (.aload_n 0, 1) := by decide +kernel
theorem dX8_kinds_31 : decode cX8_kinds 31 = .ok (.getfield 13, 3) := by decide +kernel
theorem dX8_kinds_34 : decode cX8_kinds 34 = .ok (.iconst 3, 1) := by decide +kernel
theorem dX8_kinds_35 : decode cX8_kinds 35 = .ok (.iload_n 1, 1) := by decide +kernel
theorem dX8_kinds_36 : decode cX8_kinds 36 = .ok (.iadd, 1) := by decide +kernel
theorem dX8_kinds_37 : decode cX8_kinds 37 = .ok (.iload 4, 2) := by decide +kernel
theorem dX8_kinds_39 : decode cX8_kinds 39 = .ok (.iastore, 1) := by decide +kernel
theorem dX8_kinds_40 : decode cX8_kinds 40 = .ok (.iconst 1, 1) := by decide +kernel
theorem dX8_kinds_41 : decode cX8_kinds 41 = .ok (.istore 5, 2) := by decide +kernel
theorem dX8_kinds_43 : decode cX8_kinds 43 = .ok (.iconst 0, 1) := by decide +kernel
theorem dX8_kinds_44 : decode cX8_kinds 44 = .ok (.istore 6, 2) := by decide +kernel
theorem dX8_kinds_46 : decode cX8_kinds 46 = .ok (.iload 6, 2) := by decide +kernel
theorem dX8_kinds_48 : decode cX8_kinds 48 = .ok (.aload_n 0, 1) := by decide +kernel
theorem dX8_kinds_49 : decode cX8_kinds 49 = .ok (.getfield 96, 3) := by decide +kernel
theorem dX8_kinds_52 : decode cX8_kinds 52 = .ok (.if_icmp .ge 64, 3) := by decide +kernel
theorem dX8_kinds_55 : decode cX8_kinds 55 = .ok (.iload 5, 2) := by decide +kernel
theorem dX8_kinds_57 : decode cX8_kinds 57 = .ok (.ifCond .eq 50, 3) := by decide +kernel
theorem dX8_kinds_60 : decode cX8_kinds 60 = .ok (.aload_n 0, 1) := by decide +kernel
theorem dX8_kinds_61 : decode cX8_kinds 61 = .ok (.getfield 31, 3) := by decide +kernel
theorem dX8_kinds_64 : decode cX8_kinds 64 = .ok (.iconst 3, 1) := by decide +kernel
theorem dX8_kinds_65 : decode cX8_kinds 65 = .ok (.iload 6, 2) := by decide +kernel
theorem dX8_kinds_67 : decode cX8_kinds 67 = .ok (.imul, 1) := by decide +kernel
theorem dX8_kinds_68 : decode cX8_kinds 68 = .ok (.iaload, 1) := by decide +kernel
theorem dX8_kinds_69 : decode cX8_kinds 69 = .ok (.iload_n 1, 1) := by decide +kernel
theorem dX8_kinds_70 : decode cX8_kinds 70 = .ok (.if_icmp .ne 33, 3) := by decide +kernel
theorem dX8_kinds_73 : decode cX8_kinds 73 = .ok (.aload_n 0, 1) := by decide +kernel
theorem dX8_kinds_74 : decode cX8_kinds 74 = .ok (.aload_n 0, 1) := by decide +kernel
theorem dX8_kinds_75 : decode cX8_kinds 75 = .ok (.getfield 31, 3) := by decide +kernel
theorem dX8_kinds_78 : decode cX8_kinds 78 = .ok (.iconst 3, 1) := by decide +kernel
theorem dX8_kinds_79 : decode cX8_kinds 79 = .ok (.iload 6, 2) := by decide +kernel
theorem dX8_kinds_81 : decode cX8_kinds 81 = .ok (.imul, 1) := by decide +kernel
theorem dX8_kinds_82 : decode cX8_kinds 82 = .ok (.iconst 1, 1) := by decide +kernel
theorem dX8_kinds_83 : decode cX8_kinds 83 = .ok (.iadd, 1) := by decide +kernel
theorem dX8_kinds_84 : decode cX8_kinds 84 = .ok (.iaload, 1) := by decide +kernel
theorem dX8_kinds_85 : decode cX8_kinds 85 = .ok (.iload_n 1, 1) := by decide +kernel
theorem dX8_kinds_86 : decode cX8_kinds 86 = .ok (.invokevirtual 160, 3) := by decide +kernel
theorem dX8_kinds_89 : decode cX8_kinds 89 = .ok (.aload_n 0, 1) := by decide +kernel
theorem dX8_kinds_90 : decode cX8_kinds 90 = .ok (.getfield 31, 3) := by decide +kernel
theorem dX8_kinds_93 : decode cX8_kinds 93 = .ok (.iconst 3, 1) := by decide +kernel
theorem dX8_kinds_94 : decode cX8_kinds 94 = .ok (.iload 6, 2) := by decide +kernel
theorem dX8_kinds_96 : decode cX8_kinds 96 = .ok (.imul, 1) := by decide +kernel
theorem dX8_kinds_97 : decode cX8_kinds 97 = .ok (.iconst 2, 1) := by decide +kernel
theorem dX8_kinds_98 : decode cX8_kinds 98 = .ok (.iadd, 1) := by decide +kernel
theorem dX8_kinds_99 : decode cX8_kinds 99 = .ok (.iaload, 1) := by decide +kernel
theorem dX8_kinds_100 : decode cX8_kinds 100 = .ok (.if_icmp .ne 7, 3) := by decide +kernel
theorem dX8_kinds_103 : decode cX8_kinds 103 = .ok (.iconst 1, 1) := by decide +kernel
theorem dX8_kinds_104 : decode cX8_kinds 104 = .ok (.goto 4, 3) := by decide +kernel
theorem dX8_kinds_107 : decode cX8_kinds 107 = .ok (.iconst 0, 1) := by decide +kernel
theorem dX8_kinds_108 : decode cX8_kinds 108 = .ok (.istore 5, 2) := by decide +kernel
theorem dX8_kinds_110 : decode cX8_kinds 110 = .ok (.iinc 6 1, 3) := by decide +kernel
theorem dX8_kinds_113 : decode cX8_kinds 113 = .ok (.goto (-67), 3) := by decide +kernel
theorem dX8_kinds_116 : decode cX8_kinds 116 = .ok (.iload_n 3, 1) := by decide +kernel
theorem dX8_kinds_117 : decode cX8_kinds 117 = .ok (.iload 5, 2) := by decide +kernel
theorem dX8_kinds_119 : decode cX8_kinds 119 = .ok (.ifCond .eq 10, 3) := by decide +kernel
theorem dX8_kinds_122 : decode cX8_kinds 122 = .ok (.iconst 1, 1) := by decide +kernel
theorem dX8_kinds_123 : decode cX8_kinds 123 = .ok (.iload 4, 2) := by decide +kernel
theorem dX8_kinds_125 : decode cX8_kinds 125 = .ok (.ishl, 1) := by decide +kernel
theorem dX8_kinds_126 : decode cX8_kinds 126 = .ok (.goto 4, 3) := by decide +kernel
theorem dX8_kinds_129 : decode cX8_kinds 129 = .ok (.iconst 0, 1) := by decide +kernel
theorem dX8_kinds_130 : decode cX8_kinds 130 = .ok (.ior, 1) := by decide +kernel
theorem dX8_kinds_131 : decode cX8_kinds 131 = .ok (.istore_n 3, 1) := by decide +kernel
theorem dX8_kinds_132 : decode cX8_kinds 132 = .ok (.iinc 4 1, 3) := by decide +kernel
theorem dX8_kinds_135 : decode cX8_kinds 135 = .ok (.goto (-111), 3) := by decide +kernel
theorem dX8_kinds_138 : decode cX8_kinds 138 = .ok (.aload_n 0, 1) := by decide +kernel
theorem dX8_kinds_139 : decode cX8_kinds 139 = .ok (.getfield 13, 3) := by decide +kernel
theorem dX8_kinds_142 : decode cX8_kinds 142 = .ok (.iconst 3, 1) := by decide +kernel
theorem dX8_kinds_143 : decode cX8_kinds 143 = .ok (.iload_n 1, 1) := by decide +kernel
theorem dX8_kinds_144 : decode cX8_kinds 144 = .ok (.iadd, 1) := by decide +kernel
theorem dX8_kinds_145 : decode cX8_kinds 145 = .ok (.iload_n 2, 1) := by decide +kernel
theorem dX8_kinds_146 : decode cX8_kinds 146 = .ok (.iastore, 1) := by decide +kernel
theorem dX8_kinds_147 : decode cX8_kinds 147 = .ok (.iload_n 3, 1) := by decide +kernel
theorem dX8_kinds_148 : decode cX8_kinds 148 = .ok (.ireturn, 1) := by decide +kernel
theorem dX8_loves_0 : decode cX8_loves 0 = .ok (.aload_n 0, 1) := by decide +kernel
theorem dX8_loves_1 : decode cX8_loves 1 = .ok (.iload_n 1, 1) := by decide +kernel
theorem dX8_loves_2 : decode cX8_loves 2 = .ok (.invokevirtual 116, 3) := by decide +kernel
theorem dX8_loves_5 : decode cX8_loves 5 = .ok (.ifCond .eq 13, 3) := by decide +kernel
theorem dX8_loves_8 : decode cX8_loves 8 = .ok (.iload_n 2, 1) := by decide +kernel
theorem dX8_loves_9 : decode cX8_loves 9 = .ok (.iconst 0, 1) := by decide +kernel
theorem dX8_loves_10 : decode cX8_loves 10 = .ok (.bipush 7, 2) := by decide +kernel
theorem dX8_loves_12 : decode cX8_loves 12 = .ok (.invokestatic 53, 3) := by decide +kernel
theorem dX8_loves_15 : decode cX8_loves 15 = .ok (.ifCond .ne 5, 3) := by decide +kernel
theorem dX8_loves_18 : decode cX8_loves 18 = .ok (.iconst (-1), 1) := by decide +kernel
theorem dX8_loves_19 : decode cX8_loves 19 = .ok (.ireturn, 1) := by decide +kernel
theorem dX8_loves_20 : decode cX8_loves 20 = .ok (.iconst 0, 1) := by decide +kernel
theorem dX8_loves_21 : decode cX8_loves 21 = .ok (.istore_n 3, 1) := by decide +kernel
theorem dX8_loves_22 : decode cX8_loves 22 = .ok (.iconst 0, 1) := by decide +kernel
theorem dX8_loves_23 : decode cX8_loves 23 = .ok (.istore 4, 2) := by decide +kernel
theorem dX8_loves_25 : decode cX8_loves 25 = .ok (.iload 4, 2) := by decide +kernel
theorem dX8_loves_27 : decode cX8_loves 27 = .ok (.aload_n 0, 1) := by decide +kernel
theorem dX8_loves_28 : decode cX8_loves 28 = .ok (.getfield 13, 3) := by decide +kernel
theorem dX8_loves_31 : decode cX8_loves 31 = .ok (.iconst 2, 1) := by decide +kernel
theorem dX8_loves_32 : decode cX8_loves 32 = .ok (.iaload, 1) := by decide +kernel
theorem dX8_loves_33 : decode cX8_loves 33 = .ok (.if_icmp .ge 97, 3) := by decide +kernel
theorem dX8_loves_36 : decode cX8_loves 36 = .ok (.aload_n 0, 1) := by decide +kernel
theorem dX8_loves_37 : decode cX8_loves 37 = .ok (.getfield 22, 3) := by decide +kernel
theorem dX8_loves_40 : decode cX8_loves 40 = .ok (.bipush 7, 2) := by decide +kernel
theorem dX8_loves_42 : decode cX8_loves 42 = .ok (.iload 4, 2) := by decide +kernel
theorem dX8_loves_44 : decode cX8_loves 44 = .ok (.iadd, 1) := by decide +kernel
theorem dX8_loves_45 : decode cX8_loves 45 = .ok (.iaload, 1) := by decide +kernel
theorem dX8_loves_46 : decode cX8_loves 46 = .ok (.aload_n 0, 1) := by decide +kernel
theorem dX8_loves_47 : decode cX8_loves 47 = .ok (.getfield 22, 3) := by decide +kernel
theorem dX8_loves_50 : decode cX8_loves 50 = .ok (.bipush 7, 2) := by decide +kernel
theorem dX8_loves_52 : decode cX8_loves 52 = .ok (.iload_n 1, 1) := by decide +kernel
theorem dX8_loves_53 : decode cX8_loves 53 = .ok (.iadd, 1) := by decide +kernel
theorem dX8_loves_54 : decode cX8_loves 54 = .ok (.iaload, 1) := by decide +kernel
theorem dX8_loves_55 : decode cX8_loves 55 = .ok (.isub, 1) := by decide +kernel
theorem dX8_loves_56 : decode cX8_loves 56 = .ok (.istore 5, 2) := by decide +kernel
theorem dX8_loves_58 : decode cX8_loves 58 = .ok (.aload_n 0, 1) := by decide +kernel
theorem dX8_loves_59 : decode cX8_loves 59 = .ok (.getfield 22, 3) := by decide +kernel
theorem dX8_loves_62 : decode cX8_loves 62 = .ok (.bipush 13, 2) := by decide +kernel
theorem dX8_loves_64 : decode cX8_loves 64 = .ok (.iload 4, 2) := by decide +kernel
theorem dX8_loves_66 : decode cX8_loves 66 = .ok (.iadd, 1) := by decide +kernel
theorem dX8_loves_67 : decode cX8_loves 67 = .ok (.iaload, 1) := by decide +kernel
theorem dX8_loves_68 : decode cX8_loves 68 = .ok (.aload_n 0, 1) := by decide +kernel
theorem dX8_loves_69 : decode cX8_loves 69 = .ok (.getfield 22, 3) := by decide +kernel
theorem dX8_loves_72 : decode cX8_loves 72 = .ok (.bipush 13, 2) := by decide +kernel
theorem dX8_loves_74 : decode cX8_loves 74 = .ok (.iload_n 1, 1) := by decide +kernel
theorem dX8_loves_75 : decode cX8_loves 75 = .ok (.iadd, 1) := by decide +kernel
theorem dX8_loves_76 : decode cX8_loves 76 = .ok (.iaload, 1) := by decide +kernel
theorem dX8_loves_77 : decode cX8_loves 77 = .ok (.isub, 1) := by decide +kernel
theorem dX8_loves_78 : decode cX8_loves 78 = .ok (.istore 6, 2) := by decide +kernel
theorem dX8_loves_80 : decode cX8_loves 80 = .ok (.iload_n 3, 1) := by decide +kernel
theorem dX8_loves_81 : decode cX8_loves 81 = .ok (.iload 4, 2) := by decide +kernel
theorem dX8_loves_83 : decode cX8_loves 83 = .ok (.iload_n 1, 1) := by decide +kernel
theorem dX8_loves_84 : decode cX8_loves 84 = .ok (.if_icmp .eq 37, 3) := by decide +kernel
theorem dX8_loves_87 : decode cX8_loves 87 = .ok (.iload 5, 2) := by decide +kernel
theorem dX8_loves_89 : decode cX8_loves 89 = .ok (.invokestatic 99, 3) := by decide +kernel
theorem dX8_loves_92 : decode cX8_loves 92 = .ok (.iload 6, 2) := by decide +kernel
theorem dX8_loves_94 : decode cX8_loves 94 = .ok (.invokestatic 99, 3) := by decide +kernel
theorem dX8_loves_97 : decode cX8_loves 97 = .ok (.iadd, 1) := by decide +kernel
theorem dX8_loves_98 : decode cX8_loves 98 = .ok (.bipush 12, 2) := by decide +kernel
theorem dX8_loves_100 : decode cX8_loves 100 = .ok (.if_icmp .ge 21, 3) := by decide +kernel
theorem dX8_loves_103 : decode cX8_loves 103 = .ok (.iload 5, 2) := by decide +kernel
theorem dX8_loves_105 : decode cX8_loves 105 = .ok (.iload 6, 2) := by decide +kernel
theorem dX8_loves_107 : decode cX8_loves 107 = .ok (.invokestatic 106, 3) := by decide +kernel
theorem dX8_loves_110 : decode cX8_loves 110 = .ok (.iload_n 2, 1) := by decide +kernel
theorem dX8_loves_111 : decode cX8_loves 111 = .ok (.if_icmp .ne 10, 3) := by decide +kernel
theorem dX8_loves_114 : decode cX8_loves 114 = .ok (.iconst 1, 1) := by decide +kernel
theorem dX8_loves_115 : decode cX8_loves 115 = .ok (.iload 4, 2) := by decide +kernel
theorem dX8_loves_117 : decode cX8_loves 117 = .ok (.ishl, 1) := by decide +kernel
theorem dX8_loves_118 : decode cX8_loves 118 = .ok (.goto 4, 3) := by decide +kernel
theorem dX8_loves_121 : decode cX8_loves 121 = .ok (.iconst 0, 1) := by decide +kernel
theorem dX8_loves_122 : decode cX8_loves 122 = .ok (.ior, 1) := by decide +kernel
theorem dX8_loves_123 : decode cX8_loves 123 = .ok (.istore_n 3, 1) := by decide +kernel
theorem dX8_loves_124 : decode cX8_loves 124 = .ok (.iinc 4 1, 3) := by decide +kernel
theorem dX8_loves_127 : decode cX8_loves 127 = .ok (.goto (-102), 3) := by decide +kernel
theorem dX8_loves_130 : decode cX8_loves 130 = .ok (.iload_n 3, 1) := by decide +kernel
theorem dX8_loves_131 : decode cX8_loves 131 = .ok (.ireturn, 1) := by decide +kernel
theorem dX8_away_0 : decode cX8_away 0 = .ok (.aload_n 0, 1) := by decide +kernel
theorem dX8_away_1 : decode cX8_away 1 = .ok (.iload_n 1, 1) := by decide +kernel
theorem dX8_away_2 : decode cX8_away 2 = .ok (.invokevirtual 116, 3) := by decide +kernel
theorem dX8_away_5 : decode cX8_away 5 = .ok (.ifCond .eq 33, 3) := by decide +kernel
theorem dX8_away_8 : decode cX8_away 8 = .ok (.iload_n 2, 1) := by decide +kernel
theorem dX8_away_9 : decode cX8_away 9 = .ok (.iconst 0, 1) := by decide +kernel
theorem dX8_away_10 : decode cX8_away 10 = .ok (.bipush 7, 2) := by decide +kernel
theorem dX8_away_12 : decode cX8_away 12 = .ok (.invokestatic 53, 3) := by decide +kernel
theorem dX8_away_15 : decode cX8_away 15 = .ok (.ifCond .eq 23, 3) := by decide +kernel
theorem dX8_away_18 : decode cX8_away 18 = .ok (.iload_n 3, 1) := by decide +kernel
theorem dX8_away_19 : decode cX8_away 19 = .ok (.iconst 0, 1) := by decide +kernel
theorem dX8_away_20 : decode cX8_away 20 = .ok (.bipush 10, 2) := by decide +kernel
theorem dX8_away_22 : decode cX8_away 22 = .ok (.invokestatic 53, 3) := by decide +kernel
theorem dX8_away_25 : decode cX8_away 25 = .ok (.ifCond .eq 13, 3) := by decide +kernel
theorem dX8_away_28 : decode cX8_away 28 = .ok (.iload 4, 2) := by decide +kernel
theorem dX8_away_30 : decode cX8_away 30 = .ok (.iconst 0, 1) := by decide +kernel
theorem dX8_away_31 : decode cX8_away 31 = .ok (.iconst 1, 1) := by decide +kernel
theorem dX8_away_32 : decode cX8_away 32 = .ok (.invokestatic 53, 3) := by decide +kernel
theorem dX8_away_35 : decode cX8_away 35 = .ok (.ifCond .ne 5, 3) := by decide +kernel
theorem dX8_away_38 : decode cX8_away 38 = .ok (.iconst (-1), 1) := by decide +kernel
theorem dX8_away_39 : decode cX8_away 39 = .ok (.ireturn, 1) := by decide +kernel
theorem dX8_away_40 : decode cX8_away 40 = .ok (.iconst 0, 1) := by decide +kernel
theorem dX8_away_41 : decode cX8_away 41 = .ok (.istore 5, 2) := by decide +kernel
theorem dX8_away_43 : decode cX8_away 43 = .ok (.iconst 1, 1) := by decide +kernel
theorem dX8_away_44 : decode cX8_away 44 = .ok (.istore 6, 2) := by decide +kernel
theorem dX8_away_46 : decode cX8_away 46 = .ok (.iconst 1, 1) := by decide +kernel
theorem dX8_away_47 : decode cX8_away 47 = .ok (.istore 7, 2) := by decide +kernel
theorem dX8_away_49 : decode cX8_away 49 = .ok (.iload 7, 2) := by decide +kernel
theorem dX8_away_51 : decode cX8_away 51 = .ok (.aload_n 0, 1) := by decide +kernel
theorem dX8_away_52 : decode cX8_away 52 = .ok (.getfield 13, 3) := by decide +kernel
theorem dX8_away_55 : decode cX8_away 55 = .ok (.iconst 2, 1) := by decide +kernel
theorem dX8_away_56 : decode cX8_away 56 = .ok (.iaload, 1) := by decide +kernel
theorem dX8_away_57 : decode cX8_away 57 = .ok (.if_icmp .ge 16, 3) := by decide +kernel
theorem dX8_away_60 : decode cX8_away 60 = .ok (.iload 6, 2) := by decide +kernel
theorem dX8_away_62 : decode cX8_away 62 = .ok (.bipush 10, 2) := by decide +kernel
theorem dX8_away_64 : decode cX8_away 64 = .ok (.imul, 1) := by decide +kernel
theorem dX8_away_65 : decode cX8_away 65 = .ok (.istore 6, 2) := by decide +kernel
theorem dX8_away_67 : decode cX8_away 67 = .ok (.iinc 7 1, 3) := by decide +kernel
theorem dX8_away_70 : decode cX8_away 70 = .ok (.goto (-21), 3) := by decide +kernel
theorem dX8_away_73 : decode cX8_away 73 = .ok (.iconst 0, 1) := by decide +kernel
theorem dX8_away_74 : decode cX8_away 74 = .ok (.istore 7, 2) := by decide +kernel
theorem dX8_away_76 : decode cX8_away 76 = .ok (.iload 7, 2) := by decide +kernel
theorem dX8_away_78 : decode cX8_away 78 = .ok (.iconst 1, 1) := by decide +kernel
theorem dX8_away_79 : decode cX8_away 79 = .ok (.aload_n 0, 1) := by decide +kernel
theorem dX8_away_80 : decode cX8_away 80 = .ok (.getfield 13, 3) := by decide +kernel
theorem dX8_away_83 : decode cX8_away 83 = .ok (.iconst 2, 1) := by decide +kernel
theorem dX8_away_84 : decode cX8_away 84 = .ok (.iaload, 1) := by decide +kernel
theorem dX8_away_85 : decode cX8_away 85 = .ok (.ishl, 1) := by decide +kernel
theorem dX8_away_86 : decode cX8_away 86 = .ok (.if_icmp .ge 97, 3) := by decide +kernel
theorem dX8_away_89 : decode cX8_away 89 = .ok (.iconst 1, 1) := by decide +kernel
theorem dX8_away_90 : decode cX8_away 90 = .ok (.istore 8, 2) := by decide +kernel
theorem dX8_away_92 : decode cX8_away 92 = .ok (.iconst 0, 1) := by decide +kernel
theorem dX8_away_93 : decode cX8_away 93 = .ok (.istore 9, 2) := by decide +kernel
theorem dX8_away_95 : decode cX8_away 95 = .ok (.iload 9, 2) := by decide +kernel
theorem dX8_away_97 : decode cX8_away 97 = .ok (.aload_n 0, 1) := by decide +kernel
theorem dX8_away_98 : decode cX8_away 98 = .ok (.getfield 13, 3) := by decide +kernel
theorem dX8_away_101 : decode cX8_away 101 = .ok (.iconst 2, 1) := by decide +kernel
theorem dX8_away_102 : decode cX8_away 102 = .ok (.iaload, 1) := by decide +kernel
theorem dX8_away_103 : decode cX8_away 103 = .ok (.if_icmp .ge 43, 3) := by decide +kernel
theorem dX8_away_106 : decode cX8_away 106 = .ok (.iload 8, 2) := by decide +kernel
theorem dX8_away_108 : decode cX8_away 108 = .ok (.iload 9, 2) := by decide +kernel
theorem dX8_away_110 : decode cX8_away 110 = .ok (.iload_n 1, 1) := by decide +kernel
theorem dX8_away_111 : decode cX8_away 111 = .ok (.if_icmp .ne 7, 3) := by decide +kernel
theorem dX8_away_114 : decode cX8_away 114 = .ok (.iconst 1, 1) := by decide +kernel
theorem dX8_away_115 : decode cX8_away 115 = .ok (.goto 22, 3) := by decide +kernel
theorem dX8_away_118 : decode cX8_away 118 = .ok (.iload 7, 2) := by decide +kernel
theorem dX8_away_120 : decode cX8_away 120 = .ok (.iload 9, 2) := by decide +kernel
theorem dX8_away_122 : decode cX8_away 122 = .ok (.ishr, 1) := by decide +kernel
theorem dX8_away_123 : decode cX8_away 123 = .ok (.iconst 1, 1) := by decide +kernel
theorem dX8_away_124 : decode cX8_away 124 = .ok (.iand, 1) := by decide +kernel
theorem dX8_away_125 : decode cX8_away 125 = .ok (.iconst 1, 1) := by decide +kernel
theorem dX8_away_126 : decode cX8_away 126 = .ok (.if_icmp .ne 10, 3) := by decide +kernel
theorem dX8_away_129 : decode cX8_away 129 = .ok (.bipush 10, 2) := by decide +kernel
theorem dX8_away_131 : decode cX8_away 131 = .ok (.iload_n 3, 1) := by decide +kernel
theorem dX8_away_132 : decode cX8_away 132 = .ok (.isub, 1) := by decide +kernel
theorem dX8_away_133 : decode cX8_away 133 = .ok (.goto 4, 3) := by decide +kernel
theorem dX8_away_136 : decode cX8_away 136 = .ok (.iload_n 3, 1) := by decide +kernel
theorem dX8_away_137 : decode cX8_away 137 = .ok (.imul, 1) := by decide +kernel
theorem dX8_away_138 : decode cX8_away 138 = .ok (.istore 8, 2) := by decide +kernel
theorem dX8_away_140 : decode cX8_away 140 = .ok (.iinc 9 1, 3) := by decide +kernel
theorem dX8_away_143 : decode cX8_away 143 = .ok (.goto (-48), 3) := by decide +kernel
theorem dX8_away_146 : decode cX8_away 146 = .ok (.iload 5, 2) := by decide +kernel
theorem dX8_away_148 : decode cX8_away 148 = .ok (.iload 7, 2) := by decide +kernel
theorem dX8_away_150 : decode cX8_away 150 = .ok (.iload_n 1, 1) := by decide +kernel
theorem dX8_away_151 : decode cX8_away 151 = .ok (.ishr, 1) := by decide +kernel
theorem dX8_away_152 : decode cX8_away 152 = .ok (.iconst 1, 1) := by decide +kernel
theorem dX8_away_153 : decode cX8_away 153 = .ok (.iand, 1) := by decide +kernel
theorem dX8_away_154 : decode cX8_away 154 = .ok (.ifCond .ne 19, 3) := by decide +kernel
theorem dX8_away_157 : decode cX8_away 157 = .ok (.aload_n 0, 1) := by decide +kernel
theorem dX8_away_158 : decode cX8_away 158 = .ok (.iload_n 1, 1) := by decide +kernel
theorem dX8_away_159 : decode cX8_away 159 = .ok (.iload 7, 2) := by decide +kernel
theorem dX8_away_161 : decode cX8_away 161 = .ok (.invokevirtual 113, 3) := by decide +kernel
theorem dX8_away_164 : decode cX8_away 164 = .ok (.iload_n 2, 1) := by decide +kernel
theorem dX8_away_165 : decode cX8_away 165 = .ok (.if_icmp .ne 8, 3) := by decide +kernel
theorem dX8_away_168 : decode cX8_away 168 = .ok (.iload 8, 2) := by decide +kernel
theorem dX8_away_170 : decode cX8_away 170 = .ok (.goto 4, 3) := by decide +kernel
theorem dX8_away_173 : decode cX8_away 173 = .ok (.iconst 0, 1) := by decide +kernel
theorem dX8_away_174 : decode cX8_away 174 = .ok (.iadd, 1) := by decide +kernel
theorem dX8_away_175 : decode cX8_away 175 = .ok (.istore 5, 2) := by decide +kernel
theorem dX8_away_177 : decode cX8_away 177 = .ok (.iinc 7 1, 3) := by decide +kernel
theorem dX8_away_180 : decode cX8_away 180 = .ok (.goto (-104), 3) := by decide +kernel
theorem dX8_away_183 : decode cX8_away 183 = .ok (.iload 5, 2) := by decide +kernel
theorem dX8_away_185 : decode cX8_away 185 = .ok (.istore 7, 2) := by decide +kernel
theorem dX8_away_187 : decode cX8_away 187 = .ok (.iload 6, 2) := by decide +kernel
theorem dX8_away_189 : decode cX8_away 189 = .ok (.istore 8, 2) := by decide +kernel
theorem dX8_away_191 : decode cX8_away 191 = .ok (.iload 8, 2) := by decide +kernel
theorem dX8_away_193 : decode cX8_away 193 = .ok (.ifCond .le 21, 3) := by decide +kernel
theorem dX8_away_196 : decode cX8_away 196 = .ok (.iload 7, 2) := by decide +kernel
theorem dX8_away_198 : decode cX8_away 198 = .ok (.iload 8, 2) := by decide +kernel
theorem dX8_away_200 : decode cX8_away 200 = .ok (.irem, 1) := by decide +kernel
theorem dX8_away_201 : decode cX8_away 201 = .ok (.istore 9, 2) := by decide +kernel
theorem dX8_away_203 : decode cX8_away 203 = .ok (.iload 8, 2) := by decide +kernel
theorem dX8_away_205 : decode cX8_away 205 = .ok (.istore 7, 2) := by decide +kernel
theorem dX8_away_207 : decode cX8_away 207 = .ok (.iload 9, 2) := by decide +kernel
theorem dX8_away_209 : decode cX8_away 209 = .ok (.istore 8, 2) := by decide +kernel
theorem dX8_away_211 : decode cX8_away 211 = .ok (.goto (-20), 3) := by decide +kernel
theorem dX8_away_214 : decode cX8_away 214 = .ok (.iload 4, 2) := by decide +kernel
theorem dX8_away_216 : decode cX8_away 216 = .ok (.ifCond .ne 11, 3) := by decide +kernel
theorem dX8_away_219 : decode cX8_away 219 = .ok (.iload 5, 2) := by decide +kernel
theorem dX8_away_221 : decode cX8_away 221 = .ok (.iload 7, 2) := by decide +kernel
theorem dX8_away_223 : decode cX8_away 223 = .ok (.idiv, 1) := by decide +kernel
theorem dX8_away_224 : decode cX8_away 224 = .ok (.goto 8, 3) := by decide +kernel
theorem dX8_away_227 : decode cX8_away 227 = .ok (.iload 6, 2) := by decide +kernel
theorem dX8_away_229 : decode cX8_away 229 = .ok (.iload 7, 2) := by decide +kernel
theorem dX8_away_231 : decode cX8_away 231 = .ok (.idiv, 1) := by decide +kernel
theorem dX8_away_232 : decode cX8_away 232 = .ok (.ireturn, 1) := by decide +kernel
theorem dX8_turn_0 : decode cX8_turn 0 = .ok (.iload_n 1, 1) := by decide +kernel
theorem dX8_turn_1 : decode cX8_turn 1 = .ok (.bipush 8, 2) := by decide +kernel
theorem dX8_turn_3 : decode cX8_turn 3 = .ok (.irem, 1) := by decide +kernel
theorem dX8_turn_4 : decode cX8_turn 4 = .ok (.istore_n 2, 1) := by decide +kernel
theorem dX8_turn_5 : decode cX8_turn 5 = .ok (.iload_n 1, 1) := by decide +kernel
theorem dX8_turn_6 : decode cX8_turn 6 = .ok (.bipush 8, 2) := by decide +kernel
theorem dX8_turn_8 : decode cX8_turn 8 = .ok (.idiv, 1) := by decide +kernel
theorem dX8_turn_9 : decode cX8_turn 9 = .ok (.aload_n 0, 1) := by decide +kernel
theorem dX8_turn_10 : decode cX8_turn 10 = .ok (.getfield 13, 3) := by decide +kernel
theorem dX8_turn_13 : decode cX8_turn 13 = .ok (.iconst 2, 1) := by decide +kernel
theorem dX8_turn_14 : decode cX8_turn 14 = .ok (.iaload, 1) := by decide +kernel
theorem dX8_turn_15 : decode cX8_turn 15 = .ok (.irem, 1) := by decide +kernel
theorem dX8_turn_16 : decode cX8_turn 16 = .ok (.istore_n 3, 1) := by decide +kernel
theorem dX8_turn_17 : decode cX8_turn 17 = .ok (.iload_n 1, 1) := by decide +kernel
theorem dX8_turn_18 : decode cX8_turn 18 = .ok (.bipush 64, 2) := by decide +kernel
theorem dX8_turn_20 : decode cX8_turn 20 = .ok (.idiv, 1) := by decide +kernel
theorem dX8_turn_21 : decode cX8_turn 21 = .ok (.aload_n 0, 1) := by decide +kernel
theorem dX8_turn_22 : decode cX8_turn 22 = .ok (.getfield 13, 3) := by decide +kernel
theorem dX8_turn_25 : decode cX8_turn 25 = .ok (.iconst 2, 1) := by decide +kernel
theorem dX8_turn_26 : decode cX8_turn 26 = .ok (.iaload, 1) := by decide +kernel
theorem dX8_turn_27 : decode cX8_turn 27 = .ok (.irem, 1) := by decide +kernel
theorem dX8_turn_28 : decode cX8_turn 28 = .ok (.istore 4, 2) := by decide +kernel
theorem dX8_turn_30 : decode cX8_turn 30 = .ok (.iload_n 1, 1) := by decide +kernel
theorem dX8_turn_31 : decode cX8_turn 31 = .ok (.bipush 64, 2) := by decide +kernel
theorem dX8_turn_33 : decode cX8_turn 33 = .ok (.idiv, 1) := by decide +kernel
theorem dX8_turn_34 : decode cX8_turn 34 = .ok (.iconst 4, 1) := by decide +kernel
theorem dX8_turn_35 : decode cX8_turn 35 = .ok (.irem, 1) := by decide +kernel
theorem dX8_turn_36 : decode cX8_turn 36 = .ok (.istore 5, 2) := by decide +kernel
theorem dX8_turn_38 : decode cX8_turn 38 = .ok (.iload_n 2, 1) := by decide +kernel
theorem dX8_turn_39 : decode cX8_turn 39 = .ok (.iconst 4, 1) := by decide +kernel
theorem dX8_turn_40 : decode cX8_turn 40 = .ok (.if_icmp .ge 20, 3) := by decide +kernel
theorem dX8_turn_43 : decode cX8_turn 43 = .ok (.aload_n 0, 1) := by decide +kernel
theorem dX8_turn_44 : decode cX8_turn 44 = .ok (.iload_n 3, 1) := by decide +kernel
theorem dX8_turn_45 : decode cX8_turn 45 = .ok (.iload 5, 2) := by decide +kernel
theorem dX8_turn_47 : decode cX8_turn 47 = .ok (.invokevirtual 144, 3) := by decide +kernel
theorem dX8_turn_50 : decode cX8_turn 50 = .ok (.ifCond .eq 10, 3) := by decide +kernel
theorem dX8_turn_53 : decode cX8_turn 53 = .ok (.aload_n 0, 1) := by decide +kernel
theorem dX8_turn_54 : decode cX8_turn 54 = .ok (.iload_n 3, 1) := by decide +kernel
theorem dX8_turn_55 : decode cX8_turn 55 = .ok (.iload 5, 2) := by decide +kernel
theorem dX8_turn_57 : decode cX8_turn 57 = .ok (.invokevirtual 147, 3) := by decide +kernel
theorem dX8_turn_60 : decode cX8_turn 60 = .ok (.iload_n 2, 1) := by decide +kernel
theorem dX8_turn_61 : decode cX8_turn 61 = .ok (.iconst 4, 1) := by decide +kernel
theorem dX8_turn_62 : decode cX8_turn 62 = .ok (.if_icmp .ne 35, 3) := by decide +kernel
theorem dX8_turn_65 : decode cX8_turn 65 = .ok (.iload 4, 2) := by decide +kernel
theorem dX8_turn_67 : decode cX8_turn 67 = .ok (.iload_n 3, 1) := by decide +kernel
theorem dX8_turn_68 : decode cX8_turn 68 = .ok (.if_icmp .eq 29, 3) := by decide +kernel
theorem dX8_turn_71 : decode cX8_turn 71 = .ok (.aload_n 0, 1) := by decide +kernel
theorem dX8_turn_72 : decode cX8_turn 72 = .ok (.getfield 22, 3) := by decide +kernel
theorem dX8_turn_75 : decode cX8_turn 75 = .ok (.bipush 19, 2) := by decide +kernel
theorem dX8_turn_77 : decode cX8_turn 77 = .ok (.bipush 6, 2) := by decide +kernel
theorem dX8_turn_79 : decode cX8_turn 79 = .ok (.iload_n 3, 1) := by decide +kernel
theorem dX8_turn_80 : decode cX8_turn 80 = .ok (.imul, 1) := by decide +kernel
theorem dX8_turn_81 : decode cX8_turn 81 = .ok (.iadd, 1) := by decide +kernel
theorem dX8_turn_82 : decode cX8_turn 82 = .ok (.iload 4, 2) := by decide +kernel
theorem dX8_turn_84 : decode cX8_turn 84 = .ok (.iadd, 1) := by decide +kernel
theorem dX8_turn_85 : decode cX8_turn 85 = .ok (.iload_n 1, 1) := by decide +kernel
theorem dX8_turn_86 : decode cX8_turn 86 = .ok (.sipush 512, 3) := by decide +kernel
theorem dX8_turn_89 : decode cX8_turn 89 = .ok (.idiv, 1) := by decide +kernel
theorem dX8_turn_90 : decode cX8_turn 90 = .ok (.bipush 41, 2) := by decide +kernel
theorem dX8_turn_92 : decode cX8_turn 92 = .ok (.irem, 1) := by decide +kernel
theorem dX8_turn_93 : decode cX8_turn 93 = .ok (.bipush 20, 2) := by decide +kernel
theorem dX8_turn_95 : decode cX8_turn 95 = .ok (.isub, 1) := by decide +kernel
theorem dX8_turn_96 : decode cX8_turn 96 = .ok (.iastore, 1) := by decide +kernel
theorem dX8_turn_97 : decode cX8_turn 97 = .ok (.return_, 1) := by decide +kernel
theorem dX8_evening_0 : decode cX8_evening 0 = .ok (.iload_n 1, 1) := by decide +kernel
theorem dX8_evening_1 : decode cX8_evening 1 = .ok (.iconst 0, 1) := by decide +kernel
theorem dX8_evening_2 : decode cX8_evening 2 = .ok (.sipush 9999, 3) := by decide +kernel
theorem dX8_evening_5 : decode cX8_evening 5 = .ok (.invokestatic 53, 3) := by decide +kernel
theorem dX8_evening_8 : decode cX8_evening 8 = .ok (.ifCond .eq 22, 3) := by decide +kernel
theorem dX8_evening_11 : decode cX8_evening 11 = .ok (.iload_n 2, 1) := by decide +kernel
theorem dX8_evening_12 : decode cX8_evening 12 = .ok (.iconst 1, 1) := by decide +kernel
theorem dX8_evening_13 : decode cX8_evening 13 = .ok (.bipush 60, 2) := by decide +kernel
theorem dX8_evening_15 : decode cX8_evening 15 = .ok (.invokestatic 53, 3) := by decide +kernel
theorem dX8_evening_18 : decode cX8_evening 18 = .ok (.ifCond .eq 12, 3) := by decide +kernel
theorem dX8_evening_21 : decode cX8_evening 21 = .ok (.iload_n 3, 1) := by decide +kernel
theorem dX8_evening_22 : decode cX8_evening 22 = .ok (.iconst 0, 1) := by decide +kernel
theorem dX8_evening_23 : decode cX8_evening 23 = .ok (.iconst 1, 1) := by decide +kernel
theorem dX8_evening_24 : decode cX8_evening 24 = .ok (.invokestatic 53, 3) := by decide +kernel
theorem dX8_evening_27 : decode cX8_evening 27 = .ok (.ifCond .ne 5, 3) := by decide +kernel
theorem dX8_evening_30 : decode cX8_evening 30 = .ok (.iconst (-1), 1) := by decide +kernel
theorem dX8_evening_31 : decode cX8_evening 31 = .ok (.ireturn, 1) := by decide +kernel
theorem dX8_evening_32 : decode cX8_evening 32 = .ok (.aload_n 0, 1) := by decide +kernel
theorem dX8_evening_33 : decode cX8_evening 33 = .ok (.invokevirtual 154, 3) := by decide +kernel
theorem dX8_evening_36 : decode cX8_evening 36 = .ok (.iconst 0, 1) := by decide +kernel
theorem dX8_evening_37 : decode cX8_evening 37 = .ok (.istore 4, 2) := by decide +kernel
theorem dX8_evening_39 : decode cX8_evening 39 = .ok (.iconst 0, 1) := by decide +kernel
theorem dX8_evening_40 : decode cX8_evening 40 = .ok (.istore 5, 2) := by decide +kernel
theorem dX8_evening_42 : decode cX8_evening 42 = .ok (.iload 5, 2) := by decide +kernel
theorem dX8_evening_44 : decode cX8_evening 44 = .ok (.iload_n 2, 1) := by decide +kernel
theorem dX8_evening_45 : decode cX8_evening 45 = .ok (.if_icmp .ge 50, 3) := by decide +kernel
theorem dX8_evening_48 : decode cX8_evening 48 = .ok (.ldc2_w 181, 3) := by decide +kernel
theorem dX8_evening_51 : decode cX8_evening 51 = .ok (.iload_n 1, 1) := by decide +kernel
theorem dX8_evening_52 : decode cX8_evening 52 = .ok (.i2l, 1) := by decide +kernel
theorem dX8_evening_53 : decode cX8_evening 53 = .ok (.lmul, 1) := by decide +kernel
theorem dX8_evening_54 : decode cX8_evening 54 = .ok (.ldc2_w 183, 3) := by decide +kernel
theorem dX8_evening_57 : decode cX8_evening 57 = .ok (.iload 5, 2) := by decide +kernel
theorem dX8_evening_59 : decode cX8_evening 59 = .ok (.i2l, 1) := by decide +kernel
theorem dX8_evening_60 : decode cX8_evening 60 = .ok (.lmul, 1) := by decide +kernel
theorem dX8_evening_61 : decode cX8_evening 61 = .ok (.ladd, 1) := by decide +kernel
theorem dX8_evening_62 : decode cX8_evening 62 = .ok (.lconst 1, 1) := by decide +kernel
theorem dX8_evening_63 : decode cX8_evening 63 = .ok (.ladd, 1) := by decide +kernel
theorem dX8_evening_64 : decode cX8_evening 64 = .ok (.lstore 6, 2) := by decide +kernel
theorem dX8_evening_66 : decode cX8_evening 66 = .ok (.aload_n 0, 1) := by decide +kernel
theorem dX8_evening_67 : decode cX8_evening 67 = .ok (.lload 6, 2) := by decide +kernel
theorem dX8_evening_69 : decode cX8_evening 69 = .ok (.lload 6, 2) := by decide +kernel
theorem dX8_evening_71 : decode cX8_evening 71 = .ok (.lmul, 1) := by decide +kernel
theorem dX8_evening_72 : decode cX8_evening 72 = .ok (.ldc2_w 185, 3) := by decide +kernel
theorem dX8_evening_75 : decode cX8_evening 75 = .ok (.lrem, 1) := by decide +kernel
theorem dX8_evening_76 : decode cX8_evening 76 = .ok (.l2i, 1) := by decide +kernel
theorem dX8_evening_77 : decode cX8_evening 77 = .ok (.invokevirtual 187, 3) := by decide +kernel
theorem dX8_evening_80 : decode cX8_evening 80 = .ok (.iload 4, 2) := by decide +kernel
theorem dX8_evening_82 : decode cX8_evening 82 = .ok (.aload_n 0, 1) := by decide +kernel
theorem dX8_evening_83 : decode cX8_evening 83 = .ok (.invokevirtual 135, 3) := by decide +kernel
theorem dX8_evening_86 : decode cX8_evening 86 = .ok (.iadd, 1) := by decide +kernel
theorem dX8_evening_87 : decode cX8_evening 87 = .ok (.istore 4, 2) := by decide +kernel
theorem dX8_evening_89 : decode cX8_evening 89 = .ok (.iinc 5 1, 3) := by decide +kernel
theorem dX8_evening_92 : decode cX8_evening 92 = .ok (.goto (-50), 3) := by decide +kernel
theorem dX8_evening_95 : decode cX8_evening 95 = .ok (.iconst 0, 1) := by decide +kernel
theorem dX8_evening_96 : decode cX8_evening 96 = .ok (.istore 5, 2) := by decide +kernel
theorem dX8_evening_98 : decode cX8_evening 98 = .ok (.iconst 0, 1) := by decide +kernel
theorem dX8_evening_99 : decode cX8_evening 99 = .ok (.istore 6, 2) := by decide +kernel
theorem dX8_evening_101 : decode cX8_evening 101 = .ok (.iload 6, 2) := by decide +kernel
theorem dX8_evening_103 : decode cX8_evening 103 = .ok (.aload_n 0, 1) := by decide +kernel
theorem dX8_evening_104 : decode cX8_evening 104 = .ok (.getfield 13, 3) := by decide +kernel
theorem dX8_evening_107 : decode cX8_evening 107 = .ok (.iconst 2, 1) := by decide +kernel
theorem dX8_evening_108 : decode cX8_evening 108 = .ok (.iaload, 1) := by decide +kernel
theorem dX8_evening_109 : decode cX8_evening 109 = .ok (.if_icmp .ge 23, 3) := by decide +kernel
theorem dX8_evening_112 : decode cX8_evening 112 = .ok (.iload 5, 2) := by decide +kernel
theorem dX8_evening_114 : decode cX8_evening 114 = .ok (.aload_n 0, 1) := by decide +kernel
theorem dX8_evening_115 : decode cX8_evening 115 = .ok (.getfield 22, 3) := by decide +kernel
theorem dX8_evening_118 : decode cX8_evening 118 = .ok (.iconst 1, 1) := by decide +kernel
theorem dX8_evening_119 : decode cX8_evening 119 = .ok (.iload 6, 2) := by decide +kernel
theorem dX8_evening_121 : decode cX8_evening 121 = .ok (.iadd, 1) := by decide +kernel
theorem dX8_evening_122 : decode cX8_evening 122 = .ok (.iaload, 1) := by decide +kernel
theorem dX8_evening_123 : decode cX8_evening 123 = .ok (.iadd, 1) := by decide +kernel
theorem dX8_evening_124 : decode cX8_evening 124 = .ok (.istore 5, 2) := by decide +kernel
theorem dX8_evening_126 : decode cX8_evening 126 = .ok (.iinc 6 1, 3) := by decide +kernel
theorem dX8_evening_129 : decode cX8_evening 129 = .ok (.goto (-28), 3) := by decide +kernel
theorem dX8_evening_132 : decode cX8_evening 132 = .ok (.aload_n 0, 1) := by decide +kernel
theorem dX8_evening_133 : decode cX8_evening 133 = .ok (.invokevirtual 157, 3) := by decide +kernel
theorem dX8_evening_136 : decode cX8_evening 136 = .ok (.iload_n 3, 1) := by decide +kernel
theorem dX8_evening_137 : decode cX8_evening 137 = .ok (.ifCond .ne 8, 3) := by decide +kernel
theorem dX8_evening_140 : decode cX8_evening 140 = .ok (.iload 5, 2) := by decide +kernel
theorem dX8_evening_142 : decode cX8_evening 142 = .ok (.goto 5, 3) := by decide +kernel
theorem dX8_evening_145 : decode cX8_evening 145 = .ok (.iload 4, 2) := by decide +kernel
theorem dX8_evening_147 : decode cX8_evening 147 = .ok (.ireturn, 1) := by decide +kernel
theorem dX8_keep_0 : decode cX8_keep 0 = .ok (.aload_n 0, 1) := by decide +kernel
theorem dX8_keep_1 : decode cX8_keep 1 = .ok (.getfield 93, 3) := by decide +kernel
theorem dX8_keep_4 : decode cX8_keep 4 = .ok (.iconst 2, 1) := by decide +kernel
theorem dX8_keep_5 : decode cX8_keep 5 = .ok (.if_icmp .ne 6, 3) := by decide +kernel
theorem dX8_keep_8 : decode cX8_keep 8 = .ok (.bipush (-3), 2) := by decide +kernel
theorem dX8_keep_10 : decode cX8_keep 10 = .ok (.ireturn, 1) := by decide +kernel
theorem dX8_keep_11 : decode cX8_keep 11 = .ok (.iconst 0, 1) := by decide +kernel
theorem dX8_keep_12 : decode cX8_keep 12 = .ok (.istore_n 1, 1) := by decide +kernel
theorem dX8_keep_13 : decode cX8_keep 13 = .ok (.iload_n 1, 1) := by decide +kernel
theorem dX8_keep_14 : decode cX8_keep 14 = .ok (.bipush 55, 2) := by decide +kernel
theorem dX8_keep_16 : decode cX8_keep 16 = .ok (.if_icmp .ge 29, 3) := by decide +kernel
theorem dX8_keep_19 : decode cX8_keep 19 = .ok (.aload_n 0, 1) := by decide +kernel
theorem dX8_keep_20 : decode cX8_keep 20 = .ok (.getfield 28, 3) := by decide +kernel
theorem dX8_keep_23 : decode cX8_keep 23 = .ok (.bipush 55, 2) := by decide +kernel
theorem dX8_keep_25 : decode cX8_keep 25 = .ok (.aload_n 0, 1) := by decide +kernel
theorem dX8_keep_26 : decode cX8_keep 26 = .ok (.getfield 93, 3) := by decide +kernel
theorem dX8_keep_29 : decode cX8_keep 29 = .ok (.imul, 1) := by decide +kernel
theorem dX8_keep_30 : decode cX8_keep 30 = .ok (.iload_n 1, 1) := by decide +kernel
theorem dX8_keep_31 : decode cX8_keep 31 = .ok (.iadd, 1) := by decide +kernel
theorem dX8_keep_32 : decode cX8_keep 32 = .ok (.aload_n 0, 1) := by decide +kernel
theorem dX8_keep_33 : decode cX8_keep 33 = .ok (.getfield 22, 3) := by decide +kernel
theorem dX8_keep_36 : decode cX8_keep 36 = .ok (.iload_n 1, 1) := by decide +kernel
theorem dX8_keep_37 : decode cX8_keep 37 = .ok (.iaload, 1) := by decide +kernel
theorem dX8_keep_38 : decode cX8_keep 38 = .ok (.iastore, 1) := by decide +kernel
theorem dX8_keep_39 : decode cX8_keep 39 = .ok (.iinc 1 1, 3) := by decide +kernel
theorem dX8_keep_42 : decode cX8_keep 42 = .ok (.goto (-29), 3) := by decide +kernel
theorem dX8_keep_45 : decode cX8_keep 45 = .ok (.aload_n 0, 1) := by decide +kernel
theorem dX8_keep_46 : decode cX8_keep 46 = .ok (.dup, 1) := by decide +kernel
theorem dX8_keep_47 : decode cX8_keep 47 = .ok (.getfield 93, 3) := by decide +kernel
theorem dX8_keep_50 : decode cX8_keep 50 = .ok (.iconst 1, 1) := by decide +kernel
theorem dX8_keep_51 : decode cX8_keep 51 = .ok (.iadd, 1) := by decide +kernel
theorem dX8_keep_52 : decode cX8_keep 52 = .ok (.putfield 93, 3) := by decide +kernel
theorem dX8_keep_55 : decode cX8_keep 55 = .ok (.aload_n 0, 1) := by decide +kernel
theorem dX8_keep_56 : decode cX8_keep 56 = .ok (.getfield 93, 3) := by decide +kernel
theorem dX8_keep_59 : decode cX8_keep 59 = .ok (.ireturn, 1) := by decide +kernel
theorem dX8_back_0 : decode cX8_back 0 = .ok (.aload_n 0, 1) := by decide +kernel
theorem dX8_back_1 : decode cX8_back 1 = .ok (.getfield 93, 3) := by decide +kernel
theorem dX8_back_4 : decode cX8_back 4 = .ok (.ifCond .ne 6, 3) := by decide +kernel
theorem dX8_back_7 : decode cX8_back 7 = .ok (.bipush (-2), 2) := by decide +kernel
theorem dX8_back_9 : decode cX8_back 9 = .ok (.ireturn, 1) := by decide +kernel
theorem dX8_back_10 : decode cX8_back 10 = .ok (.aload_n 0, 1) := by decide +kernel
theorem dX8_back_11 : decode cX8_back 11 = .ok (.dup, 1) := by decide +kernel
theorem dX8_back_12 : decode cX8_back 12 = .ok (.getfield 93, 3) := by decide +kernel
theorem dX8_back_15 : decode cX8_back 15 = .ok (.iconst 1, 1) := by decide +kernel
theorem dX8_back_16 : decode cX8_back 16 = .ok (.isub, 1) := by decide +kernel
theorem dX8_back_17 : decode cX8_back 17 = .ok (.putfield 93, 3) := by decide +kernel
theorem dX8_back_20 : decode cX8_back 20 = .ok (.iconst 0, 1) := by decide +kernel
theorem dX8_back_21 : decode cX8_back 21 = .ok (.istore_n 1, 1) := by decide +kernel
theorem dX8_back_22 : decode cX8_back 22 = .ok (.iload_n 1, 1) := by decide +kernel
theorem dX8_back_23 : decode cX8_back 23 = .ok (.bipush 55, 2) := by decide +kernel
theorem dX8_back_25 : decode cX8_back 25 = .ok (.if_icmp .ge 29, 3) := by decide +kernel
theorem dX8_back_28 : decode cX8_back 28 = .ok (.aload_n 0, 1) := by decide +kernel
theorem dX8_back_29 : decode cX8_back 29 = .ok (.getfield 22, 3) := by decide +kernel
theorem dX8_back_32 : decode cX8_back 32 = .ok (.iload_n 1, 1) := by decide +kernel
theorem dX8_back_33 : decode cX8_back 33 = .ok (.aload_n 0, 1) := by decide +kernel
theorem dX8_back_34 : decode cX8_back 34 = .ok (.getfield 28, 3) := by decide +kernel
theorem dX8_back_37 : decode cX8_back 37 = .ok (.bipush 55, 2) := by decide +kernel
theorem dX8_back_39 : decode cX8_back 39 = .ok (.aload_n 0, 1) := by decide +kernel
theorem dX8_back_40 : decode cX8_back 40 = .ok (.getfield 93, 3) := by decide +kernel
theorem dX8_back_43 : decode cX8_back 43 = .ok (.imul, 1) := by decide +kernel
theorem dX8_back_44 : decode cX8_back 44 = .ok (.iload_n 1, 1) := by decide +kernel
theorem dX8_back_45 : decode cX8_back 45 = .ok (.iadd, 1) := by decide +kernel
theorem dX8_back_46 : decode cX8_back 46 = .ok (.iaload, 1) := by decide +kernel
theorem dX8_back_47 : decode cX8_back 47 = .ok (.iastore, 1) := by decide +kernel
theorem dX8_back_48 : decode cX8_back 48 = .ok (.iinc 1 1, 3) := by decide +kernel
theorem dX8_back_51 : decode cX8_back 51 = .ok (.goto (-29), 3) := by decide +kernel
theorem dX8_back_54 : decode cX8_back 54 = .ok (.aload_n 0, 1) := by decide +kernel
theorem dX8_back_55 : decode cX8_back 55 = .ok (.iconst 0, 1) := by decide +kernel
theorem dX8_back_56 : decode cX8_back 56 = .ok (.putfield 90, 3) := by decide +kernel
theorem dX8_back_59 : decode cX8_back 59 = .ok (.aload_n 0, 1) := by decide +kernel
theorem dX8_back_60 : decode cX8_back 60 = .ok (.getfield 93, 3) := by decide +kernel
theorem dX8_back_63 : decode cX8_back 63 = .ok (.ireturn, 1) := by decide +kernel
theorem dX8_count_0 : decode cX8_count 0 = .ok (.iconst 0, 1) := by decide +kernel
theorem dX8_count_1 : decode cX8_count 1 = .ok (.istore_n 2, 1) := by decide +kernel
theorem dX8_count_2 : decode cX8_count 2 = .ok (.iconst 0, 1) := by decide +kernel
theorem dX8_count_3 : decode cX8_count 3 = .ok (.istore_n 3, 1) := by decide +kernel
theorem dX8_count_4 : decode cX8_count 4 = .ok (.iconst 0, 1) := by decide +kernel
theorem dX8_count_5 : decode cX8_count 5 = .ok (.istore 4, 2) := by decide +kernel
theorem dX8_count_7 : decode cX8_count 7 = .ok (.iload 4, 2) := by decide +kernel
theorem dX8_count_9 : decode cX8_count 9 = .ok (.aload_n 0, 1) := by decide +kernel
theorem dX8_count_10 : decode cX8_count 10 = .ok (.getfield 13, 3) := by decide +kernel
theorem dX8_count_13 : decode cX8_count 13 = .ok (.iconst 2, 1) := by decide +kernel
theorem dX8_count_14 : decode cX8_count 14 = .ok (.iaload, 1) := by decide +kernel
theorem dX8_count_15 : decode cX8_count 15 = .ok (.if_icmp .ge 75, 3) := by decide +kernel
theorem dX8_count_18 : decode cX8_count 18 = .ok (.iload_n 2, 1) := by decide +kernel
theorem dX8_count_19 : decode cX8_count 19 = .ok (.aload_n 0, 1) := by decide +kernel
theorem dX8_count_20 : decode cX8_count 20 = .ok (.iload 4, 2) := by decide +kernel
theorem dX8_count_22 : decode cX8_count 22 = .ok (.invokevirtual 119, 3) := by decide +kernel
theorem dX8_count_25 : decode cX8_count 25 = .ok (.bipush (-4), 2) := by decide +kernel
theorem dX8_count_27 : decode cX8_count 27 = .ok (.if_icmp .ne 7, 3) := by decide +kernel
theorem dX8_count_30 : decode cX8_count 30 = .ok (.iconst 0, 1) := by decide +kernel
theorem dX8_count_31 : decode cX8_count 31 = .ok (.goto 4, 3) := by decide +kernel
theorem dX8_count_34 : decode cX8_count 34 = .ok (.iconst 1, 1) := by decide +kernel
theorem dX8_count_35 : decode cX8_count 35 = .ok (.iadd, 1) := by decide +kernel
theorem dX8_count_36 : decode cX8_count 36 = .ok (.istore_n 2, 1) := by decide +kernel
theorem dX8_count_37 : decode cX8_count 37 = .ok (.iconst 0, 1) := by decide +kernel
theorem dX8_count_38 : decode cX8_count 38 = .ok (.istore 5, 2) := by decide +kernel
theorem dX8_count_40 : decode cX8_count 40 = .ok (.iload 5, 2) := by decide +kernel
theorem dX8_count_42 : decode cX8_count 42 = .ok (.aload_n 0, 1) := by decide +kernel
theorem dX8_count_43 : decode cX8_count 43 = .ok (.getfield 13, 3) := by decide +kernel
theorem dX8_count_46 : decode cX8_count 46 = .ok (.iconst 2, 1) := by decide +kernel
theorem dX8_count_47 : decode cX8_count 47 = .ok (.iaload, 1) := by decide +kernel
theorem dX8_count_48 : decode cX8_count 48 = .ok (.if_icmp .ge 36, 3) := by decide +kernel
theorem dX8_count_51 : decode cX8_count 51 = .ok (.iload_n 3, 1) := by decide +kernel
theorem dX8_count_52 : decode cX8_count 52 = .ok (.aload_n 0, 1) := by decide +kernel
theorem dX8_count_53 : decode cX8_count 53 = .ok (.getfield 22, 3) := by decide +kernel
theorem dX8_count_56 : decode cX8_count 56 = .ok (.bipush 19, 2) := by decide +kernel
theorem dX8_count_58 : decode cX8_count 58 = .ok (.bipush 6, 2) := by decide +kernel
theorem dX8_count_60 : decode cX8_count 60 = .ok (.iload 4, 2) := by decide +kernel
theorem dX8_count_62 : decode cX8_count 62 = .ok (.imul, 1) := by decide +kernel
theorem dX8_count_63 : decode cX8_count 63 = .ok (.iadd, 1) := by decide +kernel
theorem dX8_count_64 : decode cX8_count 64 = .ok (.iload 5, 2) := by decide +kernel
theorem dX8_count_66 : decode cX8_count 66 = .ok (.iadd, 1) := by decide +kernel
theorem dX8_count_67 : decode cX8_count 67 = .ok (.iaload, 1) := by decide +kernel
theorem dX8_count_68 : decode cX8_count 68 = .ok (.ifCond .ne 7, 3) := by decide +kernel
theorem dX8_count_71 : decode cX8_count 71 = .ok (.iconst 0, 1) := by decide +kernel
theorem dX8_count_72 : decode cX8_count 72 = .ok (.goto 4, 3) := by decide +kernel
theorem dX8_count_75 : decode cX8_count 75 = .ok (.iconst 1, 1) := by decide +kernel
theorem dX8_count_76 : decode cX8_count 76 = .ok (.iadd, 1) := by decide +kernel
theorem dX8_count_77 : decode cX8_count 77 = .ok (.istore_n 3, 1) := by decide +kernel
theorem dX8_count_78 : decode cX8_count 78 = .ok (.iinc 5 1, 3) := by decide +kernel
theorem dX8_count_81 : decode cX8_count 81 = .ok (.goto (-41), 3) := by decide +kernel
theorem dX8_count_84 : decode cX8_count 84 = .ok (.iinc 4 1, 3) := by decide +kernel
theorem dX8_count_87 : decode cX8_count 87 = .ok (.goto (-80), 3) := by decide +kernel
theorem dX8_count_90 : decode cX8_count 90 = .ok (.iload_n 1, 1) := by decide +kernel
theorem dX8_count_91 : decode cX8_count 91 = .ok (.tableswitch 105 0 9 #[53, 60, 67, 74, 81, 83, 85, 90, 95, 100], 53) := by decide +kernel
theorem dX8_count_144 : decode cX8_count 144 = .ok (.aload_n 0, 1) := by decide +kernel
theorem dX8_count_145 : decode cX8_count 145 = .ok (.getfield 13, 3) := by decide +kernel
theorem dX8_count_148 : decode cX8_count 148 = .ok (.iconst 0, 1) := by decide +kernel
theorem dX8_count_149 : decode cX8_count 149 = .ok (.iaload, 1) := by decide +kernel
theorem dX8_count_150 : decode cX8_count 150 = .ok (.ireturn, 1) := by decide +kernel
theorem dX8_count_151 : decode cX8_count 151 = .ok (.aload_n 0, 1) := by decide +kernel
theorem dX8_count_152 : decode cX8_count 152 = .ok (.getfield 13, 3) := by decide +kernel
theorem dX8_count_155 : decode cX8_count 155 = .ok (.iconst 1, 1) := by decide +kernel
theorem dX8_count_156 : decode cX8_count 156 = .ok (.iaload, 1) := by decide +kernel
theorem dX8_count_157 : decode cX8_count 157 = .ok (.ireturn, 1) := by decide +kernel
theorem dX8_count_158 : decode cX8_count 158 = .ok (.aload_n 0, 1) := by decide +kernel
theorem dX8_count_159 : decode cX8_count 159 = .ok (.getfield 13, 3) := by decide +kernel
theorem dX8_count_162 : decode cX8_count 162 = .ok (.iconst 2, 1) := by decide +kernel
theorem dX8_count_163 : decode cX8_count 163 = .ok (.iaload, 1) := by decide +kernel
theorem dX8_count_164 : decode cX8_count 164 = .ok (.ireturn, 1) := by decide +kernel
theorem dX8_count_165 : decode cX8_count 165 = .ok (.aload_n 0, 1) := by decide +kernel
theorem dX8_count_166 : decode cX8_count 166 = .ok (.getfield 22, 3) := by decide +kernel
theorem dX8_count_169 : decode cX8_count 169 = .ok (.iconst 0, 1) := by decide +kernel
theorem dX8_count_170 : decode cX8_count 170 = .ok (.iaload, 1) := by decide +kernel
theorem dX8_count_171 : decode cX8_count 171 = .ok (.ireturn, 1) := by decide +kernel
theorem dX8_count_172 : decode cX8_count 172 = .ok (.iload_n 2, 1) := by decide +kernel
theorem dX8_count_173 : decode cX8_count 173 = .ok (.ireturn, 1) := by decide +kernel
theorem dX8_count_174 : decode cX8_count 174 = .ok (.iload_n 3, 1) := by decide +kernel
theorem dX8_count_175 : decode cX8_count 175 = .ok (.ireturn, 1) := by decide +kernel
theorem dX8_count_176 : decode cX8_count 176 = .ok (.aload_n 0, 1) := by decide +kernel
theorem dX8_count_177 : decode cX8_count 177 = .ok (.getfield 96, 3) := by decide +kernel
theorem dX8_count_180 : decode cX8_count 180 = .ok (.ireturn, 1) := by decide +kernel
theorem dX8_count_181 : decode cX8_count 181 = .ok (.aload_n 0, 1) := by decide +kernel
theorem dX8_count_182 : decode cX8_count 182 = .ok (.getfield 90, 3) := by decide +kernel
theorem dX8_count_185 : decode cX8_count 185 = .ok (.ireturn, 1) := by decide +kernel
theorem dX8_count_186 : decode cX8_count 186 = .ok (.aload_n 0, 1) := by decide +kernel
theorem dX8_count_187 : decode cX8_count 187 = .ok (.getfield 93, 3) := by decide +kernel
theorem dX8_count_190 : decode cX8_count 190 = .ok (.ireturn, 1) := by decide +kernel
theorem dX8_count_191 : decode cX8_count 191 = .ok (.aload_n 0, 1) := by decide +kernel
theorem dX8_count_192 : decode cX8_count 192 = .ok (.getfield 57, 3) := by decide +kernel
theorem dX8_count_195 : decode cX8_count 195 = .ok (.ireturn, 1) := by decide +kernel
theorem dX8_count_196 : decode cX8_count 196 = .ok (.iconst (-1), 1) := by decide +kernel
theorem dX8_count_197 : decode cX8_count 197 = .ok (.ireturn, 1) := by decide +kernel
theorem dL_law_0 : decode cL_law 0 = .ok (.new 7, 3) := by decide +kernel
theorem dL_law_3 : decode cL_law 3 = .ok (.dup, 1) := by decide +kernel
theorem dL_law_4 : decode cL_law 4 = .ok (.invokespecial 9, 3) := by decide +kernel
theorem dL_law_7 : decode cL_law 7 = .ok (.astore_n 1, 1) := by decide +kernel
theorem dL_law_8 : decode cL_law 8 = .ok (.new 10, 3) := by decide +kernel
theorem dL_law_11 : decode cL_law 11 = .ok (.dup, 1) := by decide +kernel
theorem dL_law_12 : decode cL_law 12 = .ok (.invokespecial 12, 3) := by decide +kernel
theorem dL_law_15 : decode cL_law 15 = .ok (.astore_n 2, 1) := by decide +kernel
theorem dL_law_16 : decode cL_law 16 = .ok (.iconst 0, 1) := by decide +kernel
theorem dL_law_17 : decode cL_law 17 = .ok (.istore_n 3, 1) := by decide +kernel
theorem dL_law_18 : decode cL_law 18 = .ok (.iload_n 3, 1) := by decide +kernel
theorem dL_law_19 : decode cL_law 19 = .ok (.aload_n 0, 1) := by decide +kernel
theorem dL_law_20 : decode cL_law 20 = .ok (.arraylength, 1) := by decide +kernel
theorem dL_law_21 : decode cL_law 21 = .ok (.iconst 5, 1) := by decide +kernel
theorem dL_law_22 : decode cL_law 22 = .ok (.isub, 1) := by decide +kernel
theorem dL_law_23 : decode cL_law 23 = .ok (.if_icmp .gt 880, 3) := by decide +kernel
theorem dL_law_26 : decode cL_law 26 = .ok (.aload_n 0, 1) := by decide +kernel
theorem dL_law_27 : decode cL_law 27 = .ok (.iload_n 3, 1) := by decide +kernel
theorem dL_law_28 : decode cL_law 28 = .ok (.iaload, 1) := by decide +kernel
theorem dL_law_29 : decode cL_law 29 = .ok (.bipush 31, 2) := by decide +kernel
theorem dL_law_31 : decode cL_law 31 = .ok (.iand, 1) := by decide +kernel
theorem dL_law_32 : decode cL_law 32 = .ok (.tableswitch 865 0 26 #[124, 147, 160, 173, 186, 219, 252, 285, 308, 341, 384, 397, 420, 443, 476, 489, 532, 585, 608, 651, 664, 687, 720, 773, 816, 829, 842], 124) := by decide +kernel
theorem dL_law_156 : decode cL_law 156 = .ok (.aload_n 1, 1) := by decide +kernel
theorem dL_law_157 : decode cL_law 157 = .ok (.aload_n 0, 1) := by decide +kernel
theorem dL_law_158 : decode cL_law 158 = .ok (.iload_n 3, 1) := by decide +kernel
theorem dL_law_159 : decode cL_law 159 = .ok (.iconst 1, 1) := by decide +kernel
theorem dL_law_160 : decode cL_law 160 = .ok (.iadd, 1) := by decide +kernel
theorem dL_law_161 : decode cL_law 161 = .ok (.iaload, 1) := by decide +kernel
theorem dL_law_162 : decode cL_law 162 = .ok (.invokevirtual 13, 3) := by decide +kernel
theorem dL_law_165 : decode cL_law 165 = .ok (.aload_n 2, 1) := by decide +kernel
theorem dL_law_166 : decode cL_law 166 = .ok (.aload_n 0, 1) := by decide +kernel
theorem dL_law_167 : decode cL_law 167 = .ok (.iload_n 3, 1) := by decide +kernel
theorem dL_law_168 : decode cL_law 168 = .ok (.iconst 1, 1) := by decide +kernel
theorem dL_law_169 : decode cL_law 169 = .ok (.iadd, 1) := by decide +kernel
theorem dL_law_170 : decode cL_law 170 = .ok (.iaload, 1) := by decide +kernel
theorem dL_law_171 : decode cL_law 171 = .ok (.invokevirtual 17, 3) := by decide +kernel
theorem dL_law_174 : decode cL_law 174 = .ok (.if_icmp .eq 723, 3) := by decide +kernel
theorem dL_law_177 : decode cL_law 177 = .ok (.iconst 0, 1) := by decide +kernel
theorem dL_law_178 : decode cL_law 178 = .ok (.ireturn, 1) := by decide +kernel
theorem dL_law_179 : decode cL_law 179 = .ok (.aload_n 1, 1) := by decide +kernel
theorem dL_law_180 : decode cL_law 180 = .ok (.invokevirtual 18, 3) := by decide +kernel
theorem dL_law_183 : decode cL_law 183 = .ok (.aload_n 2, 1) := by decide +kernel
theorem dL_law_184 : decode cL_law 184 = .ok (.invokevirtual 22, 3) := by decide +kernel
theorem dL_law_187 : decode cL_law 187 = .ok (.if_icmp .eq 710, 3) := by decide +kernel
theorem dL_law_190 : decode cL_law 190 = .ok (.iconst 0, 1) := by decide +kernel
theorem dL_law_191 : decode cL_law 191 = .ok (.ireturn, 1) := by decide +kernel
theorem dL_law_192 : decode cL_law 192 = .ok (.aload_n 1, 1) := by decide +kernel
theorem dL_law_193 : decode cL_law 193 = .ok (.invokevirtual 23, 3) := by decide +kernel
theorem dL_law_196 : decode cL_law 196 = .ok (.aload_n 2, 1) := by decide +kernel
theorem dL_law_197 : decode cL_law 197 = .ok (.invokevirtual 26, 3) := by decide +kernel
theorem dL_law_200 : decode cL_law 200 = .ok (.if_icmp .eq 697, 3) := by decide +kernel
theorem dL_law_203 : decode cL_law 203 = .ok (.iconst 0, 1) := by decide +kernel
theorem dL_law_204 : decode cL_law 204 = .ok (.ireturn, 1) := by decide +kernel
theorem dL_law_205 : decode cL_law 205 = .ok (.aload_n 1, 1) := by decide +kernel
theorem dL_law_206 : decode cL_law 206 = .ok (.invokevirtual 27, 3) := by decide +kernel
theorem dL_law_209 : decode cL_law 209 = .ok (.aload_n 2, 1) := by decide +kernel
theorem dL_law_210 : decode cL_law 210 = .ok (.invokevirtual 30, 3) := by decide +kernel
theorem dL_law_213 : decode cL_law 213 = .ok (.if_icmp .eq 684, 3) := by decide +kernel
theorem dL_law_216 : decode cL_law 216 = .ok (.iconst 0, 1) := by decide +kernel
theorem dL_law_217 : decode cL_law 217 = .ok (.ireturn, 1) := by decide +kernel
theorem dL_law_218 : decode cL_law 218 = .ok (.aload_n 1, 1) := by decide +kernel
theorem dL_law_219 : decode cL_law 219 = .ok (.aload_n 0, 1) := by decide +kernel
theorem dL_law_220 : decode cL_law 220 = .ok (.iload_n 3, 1) := by decide +kernel
theorem dL_law_221 : decode cL_law 221 = .ok (.iconst 1, 1) := by decide +kernel
theorem dL_law_222 : decode cL_law 222 = .ok (.iadd, 1) := by decide +kernel
theorem dL_law_223 : decode cL_law 223 = .ok (.iaload, 1) := by decide +kernel
theorem dL_law_224 : decode cL_law 224 = .ok (.aload_n 0, 1) := by decide +kernel
theorem dL_law_225 : decode cL_law 225 = .ok (.iload_n 3, 1) := by decide +kernel
theorem dL_law_226 : decode cL_law 226 = .ok (.iconst 2, 1) := by decide +kernel
theorem dL_law_227 : decode cL_law 227 = .ok (.iadd, 1) := by decide +kernel
theorem dL_law_228 : decode cL_law 228 = .ok (.iaload, 1) := by decide +kernel
theorem dL_law_229 : decode cL_law 229 = .ok (.invokevirtual 31, 3) := by decide +kernel
theorem dL_law_232 : decode cL_law 232 = .ok (.aload_n 2, 1) := by decide +kernel
theorem dL_law_233 : decode cL_law 233 = .ok (.aload_n 0, 1) := by decide +kernel
theorem dL_law_234 : decode cL_law 234 = .ok (.iload_n 3, 1) := by decide +kernel
theorem dL_law_235 : decode cL_law 235 = .ok (.iconst 1, 1) := by decide +kernel
theorem dL_law_236 : decode cL_law 236 = .ok (.iadd, 1) := by decide +kernel
theorem dL_law_237 : decode cL_law 237 = .ok (.iaload, 1) := by decide +kernel
theorem dL_law_238 : decode cL_law 238 = .ok (.aload_n 0, 1) := by decide +kernel
theorem dL_law_239 : decode cL_law 239 = .ok (.iload_n 3, 1) := by decide +kernel
theorem dL_law_240 : decode cL_law 240 = .ok (.iconst 2, 1) := by decide +kernel
theorem dL_law_241 : decode cL_law 241 = .ok (.iadd, 1) := by decide +kernel
theorem dL_law_242 : decode cL_law 242 = .ok (.iaload, 1) := by decide +kernel
theorem dL_law_243 : decode cL_law 243 = .ok (.invokevirtual 35, 3) := by decide +kernel
theorem dL_law_246 : decode cL_law 246 = .ok (.if_icmp .eq 651, 3) := by decide +kernel
theorem dL_law_249 : decode cL_law 249 = .ok (.iconst 0, 1) := by decide +kernel
theorem dL_law_250 : decode cL_law 250 = .ok (.ireturn, 1) := by decide +kernel
theorem dL_law_251 : decode cL_law 251 = .ok (.aload_n 1, 1) := by decide +kernel
theorem dL_law_252 : decode cL_law 252 = .ok (.aload_n 0, 1) := by decide +kernel
theorem dL_law_253 : decode cL_law 253 = .ok (.iload_n 3, 1) := by decide +kernel
theorem dL_law_254 : decode cL_law 254 = .ok (.iconst 1, 1) := by decide +kernel
theorem dL_law_255 : decode cL_law 255 = .ok (.iadd, 1) := by decide +kernel
theorem dL_law_256 : decode cL_law 256 = .ok (.iaload, 1) := by decide +kernel
theorem dL_law_257 : decode cL_law 257 = .ok (.aload_n 0, 1) := by decide +kernel
theorem dL_law_258 : decode cL_law 258 = .ok (.iload_n 3, 1) := by decide +kernel
theorem dL_law_259 : decode cL_law 259 = .ok (.iconst 2, 1) := by decide +kernel
theorem dL_law_260 : decode cL_law 260 = .ok (.iadd, 1) := by decide +kernel
theorem dL_law_261 : decode cL_law 261 = .ok (.iaload, 1) := by decide +kernel
theorem dL_law_262 : decode cL_law 262 = .ok (.invokevirtual 36, 3) := by decide +kernel
theorem dL_law_265 : decode cL_law 265 = .ok (.aload_n 2, 1) := by decide +kernel
theorem dL_law_266 : decode cL_law 266 = .ok (.aload_n 0, 1) := by decide +kernel
theorem dL_law_267 : decode cL_law 267 = .ok (.iload_n 3, 1) := by decide +kernel
theorem dL_law_268 : decode cL_law 268 = .ok (.iconst 1, 1) := by decide +kernel
theorem dL_law_269 : decode cL_law 269 = .ok (.iadd, 1) := by decide +kernel
theorem dL_law_270 : decode cL_law 270 = .ok (.iaload, 1) := by decide +kernel
theorem dL_law_271 : decode cL_law 271 = .ok (.aload_n 0, 1) := by decide +kernel
theorem dL_law_272 : decode cL_law 272 = .ok (.iload_n 3, 1) := by decide +kernel
theorem dL_law_273 : decode cL_law 273 = .ok (.iconst 2, 1) := by decide +kernel
theorem dL_law_274 : decode cL_law 274 = .ok (.iadd, 1) := by decide +kernel
theorem dL_law_275 : decode cL_law 275 = .ok (.iaload, 1) := by decide +kernel
theorem dL_law_276 : decode cL_law 276 = .ok (.invokevirtual 39, 3) := by decide +kernel
theorem dL_law_279 : decode cL_law 279 = .ok (.if_icmp .eq 618, 3) := by decide +kernel
theorem dL_law_282 : decode cL_law 282 = .ok (.iconst 0, 1) := by decide +kernel
theorem dL_law_283 : decode cL_law 283 = .ok (.ireturn, 1) := by decide +kernel
theorem dL_law_284 : decode cL_law 284 = .ok (.aload_n 1, 1) := by decide +kernel
theorem dL_law_285 : decode cL_law 285 = .ok (.aload_n 0, 1) := by decide +kernel
theorem dL_law_286 : decode cL_law 286 = .ok (.iload_n 3, 1) := by decide +kernel
theorem dL_law_287 : decode cL_law 287 = .ok (.iconst 1, 1) := by decide +kernel
theorem dL_law_288 : decode cL_law 288 = .ok (.iadd, 1) := by decide +kernel
theorem dL_law_289 : decode cL_law 289 = .ok (.iaload, 1) := by decide +kernel
theorem dL_law_290 : decode cL_law 290 = .ok (.aload_n 0, 1) := by decide +kernel
theorem dL_law_291 : decode cL_law 291 = .ok (.iload_n 3, 1) := by decide +kernel
theorem dL_law_292 : decode cL_law 292 = .ok (.iconst 2, 1) := by decide +kernel
theorem dL_law_293 : decode cL_law 293 = .ok (.iadd, 1) := by decide +kernel
theorem dL_law_294 : decode cL_law 294 = .ok (.iaload, 1) := by decide +kernel
theorem dL_law_295 : decode cL_law 295 = .ok (.invokevirtual 40, 3) := by decide +kernel
theorem dL_law_298 : decode cL_law 298 = .ok (.aload_n 2, 1) := by decide +kernel
theorem dL_law_299 : decode cL_law 299 = .ok (.aload_n 0, 1) := by decide +kernel
theorem dL_law_300 : decode cL_law 300 = .ok (.iload_n 3, 1) := by decide +kernel
theorem dL_law_301 : decode cL_law 301 = .ok (.iconst 1, 1) := by decide +kernel
theorem dL_law_302 : decode cL_law 302 = .ok (.iadd, 1) := by decide +kernel
theorem dL_law_303 : decode cL_law 303 = .ok (.iaload, 1) := by decide +kernel
theorem dL_law_304 : decode cL_law 304 = .ok (.aload_n 0, 1) := by decide +kernel
theorem dL_law_305 : decode cL_law 305 = .ok (.iload_n 3, 1) := by decide +kernel
theorem dL_law_306 : decode cL_law 306 = .ok (.iconst 2, 1) := by decide +kernel
theorem dL_law_307 : decode cL_law 307 = .ok (.iadd, 1) := by decide +kernel
theorem dL_law_308 : decode cL_law 308 = .ok (.iaload, 1) := by decide +kernel
theorem dL_law_309 : decode cL_law 309 = .ok (.invokevirtual 43, 3) := by decide +kernel
theorem dL_law_312 : decode cL_law 312 = .ok (.if_icmp .eq 585, 3) := by decide +kernel
theorem dL_law_315 : decode cL_law 315 = .ok (.iconst 0, 1) := by decide +kernel
theorem dL_law_316 : decode cL_law 316 = .ok (.ireturn, 1) := by decide +kernel
theorem dL_law_317 : decode cL_law 317 = .ok (.aload_n 1, 1) := by decide +kernel
theorem dL_law_318 : decode cL_law 318 = .ok (.aload_n 0, 1) := by decide +kernel
theorem dL_law_319 : decode cL_law 319 = .ok (.iload_n 3, 1) := by decide +kernel
theorem dL_law_320 : decode cL_law 320 = .ok (.iconst 1, 1) := by decide +kernel
theorem dL_law_321 : decode cL_law 321 = .ok (.iadd, 1) := by decide +kernel
theorem dL_law_322 : decode cL_law 322 = .ok (.iaload, 1) := by decide +kernel
theorem dL_law_323 : decode cL_law 323 = .ok (.invokevirtual 44, 3) := by decide +kernel
theorem dL_law_326 : decode cL_law 326 = .ok (.aload_n 2, 1) := by decide +kernel
theorem dL_law_327 : decode cL_law 327 = .ok (.aload_n 0, 1) := by decide +kernel
theorem dL_law_328 : decode cL_law 328 = .ok (.iload_n 3, 1) := by decide +kernel
theorem dL_law_329 : decode cL_law 329 = .ok (.iconst 1, 1) := by decide +kernel
theorem dL_law_330 : decode cL_law 330 = .ok (.iadd, 1) := by decide +kernel
theorem dL_law_331 : decode cL_law 331 = .ok (.iaload, 1) := by decide +kernel
theorem dL_law_332 : decode cL_law 332 = .ok (.invokevirtual 47, 3) := by decide +kernel
theorem dL_law_335 : decode cL_law 335 = .ok (.if_icmp .eq 562, 3) := by decide +kernel
theorem dL_law_338 : decode cL_law 338 = .ok (.iconst 0, 1) := by decide +kernel
theorem dL_law_339 : decode cL_law 339 = .ok (.ireturn, 1) := by decide +kernel
theorem dL_law_340 : decode cL_law 340 = .ok (.aload_n 1, 1) := by decide +kernel
theorem dL_law_341 : decode cL_law 341 = .ok (.aload_n 0, 1) := by decide +kernel
theorem dL_law_342 : decode cL_law 342 = .ok (.iload_n 3, 1) := by decide +kernel
theorem dL_law_343 : decode cL_law 343 = .ok (.iconst 1, 1) := by decide +kernel
theorem dL_law_344 : decode cL_law 344 = .ok (.iadd, 1) := by decide +kernel
theorem dL_law_345 : decode cL_law 345 = .ok (.iaload, 1) := by decide +kernel
theorem dL_law_346 : decode cL_law 346 = .ok (.aload_n 0, 1) := by decide +kernel
theorem dL_law_347 : decode cL_law 347 = .ok (.iload_n 3, 1) := by decide +kernel
theorem dL_law_348 : decode cL_law 348 = .ok (.iconst 2, 1) := by decide +kernel
theorem dL_law_349 : decode cL_law 349 = .ok (.iadd, 1) := by decide +kernel
theorem dL_law_350 : decode cL_law 350 = .ok (.iaload, 1) := by decide +kernel
theorem dL_law_351 : decode cL_law 351 = .ok (.invokevirtual 48, 3) := by decide +kernel
theorem dL_law_354 : decode cL_law 354 = .ok (.aload_n 2, 1) := by decide +kernel
theorem dL_law_355 : decode cL_law 355 = .ok (.aload_n 0, 1) := by decide +kernel
theorem dL_law_356 : decode cL_law 356 = .ok (.iload_n 3, 1) := by decide +kernel
theorem dL_law_357 : decode cL_law 357 = .ok (.iconst 1, 1) := by decide +kernel
theorem dL_law_358 : decode cL_law 358 = .ok (.iadd, 1) := by decide +kernel
theorem dL_law_359 : decode cL_law 359 = .ok (.iaload, 1) := by decide +kernel
theorem dL_law_360 : decode cL_law 360 = .ok (.aload_n 0, 1) := by decide +kernel
theorem dL_law_361 : decode cL_law 361 = .ok (.iload_n 3, 1) := by decide +kernel
theorem dL_law_362 : decode cL_law 362 = .ok (.iconst 2, 1) := by decide +kernel
theorem dL_law_363 : decode cL_law 363 = .ok (.iadd, 1) := by decide +kernel
theorem dL_law_364 : decode cL_law 364 = .ok (.iaload, 1) := by decide +kernel
theorem dL_law_365 : decode cL_law 365 = .ok (.invokevirtual 51, 3) := by decide +kernel
theorem dL_law_368 : decode cL_law 368 = .ok (.if_icmp .eq 529, 3) := by decide +kernel
theorem dL_law_371 : decode cL_law 371 = .ok (.iconst 0, 1) := by decide +kernel
theorem dL_law_372 : decode cL_law 372 = .ok (.ireturn, 1) := by decide +kernel
theorem dL_law_373 : decode cL_law 373 = .ok (.aload_n 1, 1) := by decide +kernel
theorem dL_law_374 : decode cL_law 374 = .ok (.aload_n 0, 1) := by decide +kernel
theorem dL_law_375 : decode cL_law 375 = .ok (.iload_n 3, 1) := by decide +kernel
theorem dL_law_376 : decode cL_law 376 = .ok (.iconst 1, 1) := by decide +kernel
theorem dL_law_377 : decode cL_law 377 = .ok (.iadd, 1) := by decide +kernel
theorem dL_law_378 : decode cL_law 378 = .ok (.iaload, 1) := by decide +kernel
theorem dL_law_379 : decode cL_law 379 = .ok (.aload_n 0, 1) := by decide +kernel
theorem dL_law_380 : decode cL_law 380 = .ok (.iload_n 3, 1) := by decide +kernel
theorem dL_law_381 : decode cL_law 381 = .ok (.iconst 2, 1) := by decide +kernel
theorem dL_law_382 : decode cL_law 382 = .ok (.iadd, 1) := by decide +kernel
theorem dL_law_383 : decode cL_law 383 = .ok (.iaload, 1) := by decide +kernel
theorem dL_law_384 : decode cL_law 384 = .ok (.aload_n 0, 1) := by decide +kernel
theorem dL_law_385 : decode cL_law 385 = .ok (.iload_n 3, 1) := by decide +kernel
theorem dL_law_386 : decode cL_law 386 = .ok (.iconst 3, 1) := by decide +kernel
theorem dL_law_387 : decode cL_law 387 = .ok (.iadd, 1) := by decide +kernel
theorem dL_law_388 : decode cL_law 388 = .ok (.iaload, 1) := by decide +kernel
theorem dL_law_389 : decode cL_law 389 = .ok (.invokevirtual 52, 3) := by decide +kernel
theorem dL_law_392 : decode cL_law 392 = .ok (.aload_n 2, 1) := by decide +kernel
theorem dL_law_393 : decode cL_law 393 = .ok (.aload_n 0, 1) := by decide +kernel
theorem dL_law_394 : decode cL_law 394 = .ok (.iload_n 3, 1) := by decide +kernel
theorem dL_law_395 : decode cL_law 395 = .ok (.iconst 1, 1) := by decide +kernel
theorem dL_law_396 : decode cL_law 396 = .ok (.iadd, 1) := by decide +kernel
theorem dL_law_397 : decode cL_law 397 = .ok (.iaload, 1) := by decide +kernel
theorem dL_law_398 : decode cL_law 398 = .ok (.aload_n 0, 1) := by decide +kernel
theorem dL_law_399 : decode cL_law 399 = .ok (.iload_n 3, 1) := by decide +kernel
theorem dL_law_400 : decode cL_law 400 = .ok (.iconst 2, 1) := by decide +kernel
theorem dL_law_401 : decode cL_law 401 = .ok (.iadd, 1) := by decide +kernel
theorem dL_law_402 : decode cL_law 402 = .ok (.iaload, 1) := by decide +kernel
theorem dL_law_403 : decode cL_law 403 = .ok (.aload_n 0, 1) := by decide +kernel
theorem dL_law_404 : decode cL_law 404 = .ok (.iload_n 3, 1) := by decide +kernel
theorem dL_law_405 : decode cL_law 405 = .ok (.iconst 3, 1) := by decide +kernel
theorem dL_law_406 : decode cL_law 406 = .ok (.iadd, 1) := by decide +kernel
theorem dL_law_407 : decode cL_law 407 = .ok (.iaload, 1) := by decide +kernel
theorem dL_law_408 : decode cL_law 408 = .ok (.invokevirtual 56, 3) := by decide +kernel
theorem dL_law_411 : decode cL_law 411 = .ok (.if_icmp .eq 486, 3) := by decide +kernel
theorem dL_law_414 : decode cL_law 414 = .ok (.iconst 0, 1) := by decide +kernel
theorem dL_law_415 : decode cL_law 415 = .ok (.ireturn, 1) := by decide +kernel
theorem dL_law_416 : decode cL_law 416 = .ok (.aload_n 1, 1) := by decide +kernel
theorem dL_law_417 : decode cL_law 417 = .ok (.invokevirtual 57, 3) := by decide +kernel
theorem dL_law_420 : decode cL_law 420 = .ok (.aload_n 2, 1) := by decide +kernel
theorem dL_law_421 : decode cL_law 421 = .ok (.invokevirtual 60, 3) := by decide +kernel
theorem dL_law_424 : decode cL_law 424 = .ok (.if_icmp .eq 473, 3) := by decide +kernel
theorem dL_law_427 : decode cL_law 427 = .ok (.iconst 0, 1) := by decide +kernel
theorem dL_law_428 : decode cL_law 428 = .ok (.ireturn, 1) := by decide +kernel
theorem dL_law_429 : decode cL_law 429 = .ok (.aload_n 1, 1) := by decide +kernel
theorem dL_law_430 : decode cL_law 430 = .ok (.aload_n 0, 1) := by decide +kernel
theorem dL_law_431 : decode cL_law 431 = .ok (.iload_n 3, 1) := by decide +kernel
theorem dL_law_432 : decode cL_law 432 = .ok (.iconst 1, 1) := by decide +kernel
theorem dL_law_433 : decode cL_law 433 = .ok (.iadd, 1) := by decide +kernel
theorem dL_law_434 : decode cL_law 434 = .ok (.iaload, 1) := by decide +kernel
theorem dL_law_435 : decode cL_law 435 = .ok (.invokevirtual 61, 3) := by decide +kernel
theorem dL_law_438 : decode cL_law 438 = .ok (.aload_n 2, 1) := by decide +kernel
theorem dL_law_439 : decode cL_law 439 = .ok (.aload_n 0, 1) := by decide +kernel
theorem dL_law_440 : decode cL_law 440 = .ok (.iload_n 3, 1) := by decide +kernel
theorem dL_law_441 : decode cL_law 441 = .ok (.iconst 1, 1) := by decide +kernel
theorem dL_law_442 : decode cL_law 442 = .ok (.iadd, 1) := by decide +kernel
theorem dL_law_443 : decode cL_law 443 = .ok (.iaload, 1) := by decide +kernel
theorem dL_law_444 : decode cL_law 444 = .ok (.invokevirtual 64, 3) := by decide +kernel
theorem dL_law_447 : decode cL_law 447 = .ok (.if_icmp .eq 450, 3) := by decide +kernel
theorem dL_law_450 : decode cL_law 450 = .ok (.iconst 0, 1) := by decide +kernel
theorem dL_law_451 : decode cL_law 451 = .ok (.ireturn, 1) := by decide +kernel
theorem dL_law_452 : decode cL_law 452 = .ok (.aload_n 1, 1) := by decide +kernel
theorem dL_law_453 : decode cL_law 453 = .ok (.aload_n 0, 1) := by decide +kernel
theorem dL_law_454 : decode cL_law 454 = .ok (.iload_n 3, 1) := by decide +kernel
theorem dL_law_455 : decode cL_law 455 = .ok (.iconst 1, 1) := by decide +kernel
theorem dL_law_456 : decode cL_law 456 = .ok (.iadd, 1) := by decide +kernel
theorem dL_law_457 : decode cL_law 457 = .ok (.iaload, 1) := by decide +kernel
theorem dL_law_458 : decode cL_law 458 = .ok (.invokevirtual 65, 3) := by decide +kernel
theorem dL_law_461 : decode cL_law 461 = .ok (.aload_n 2, 1) := by decide +kernel
theorem dL_law_462 : decode cL_law 462 = .ok (.aload_n 0, 1) := by decide +kernel
theorem dL_law_463 : decode cL_law 463 = .ok (.iload_n 3, 1) := by decide +kernel
theorem dL_law_464 : decode cL_law 464 = .ok (.iconst 1, 1) := by decide +kernel
theorem dL_law_465 : decode cL_law 465 = .ok (.iadd, 1) := by decide +kernel
theorem dL_law_466 : decode cL_law 466 = .ok (.iaload, 1) := by decide +kernel
theorem dL_law_467 : decode cL_law 467 = .ok (.invokevirtual 68, 3) := by decide +kernel
theorem dL_law_470 : decode cL_law 470 = .ok (.if_icmp .eq 427, 3) := by decide +kernel
theorem dL_law_473 : decode cL_law 473 = .ok (.iconst 0, 1) := by decide +kernel
theorem dL_law_474 : decode cL_law 474 = .ok (.ireturn, 1) := by decide +kernel
theorem dL_law_475 : decode cL_law 475 = .ok (.aload_n 1, 1) := by decide +kernel
theorem dL_law_476 : decode cL_law 476 = .ok (.aload_n 0, 1) := by decide +kernel
theorem dL_law_477 : decode cL_law 477 = .ok (.iload_n 3, 1) := by decide +kernel
theorem dL_law_478 : decode cL_law 478 = .ok (.iconst 1, 1) := by decide +kernel
theorem dL_law_479 : decode cL_law 479 = .ok (.iadd, 1) := by decide +kernel
theorem dL_law_480 : decode cL_law 480 = .ok (.iaload, 1) := by decide +kernel
theorem dL_law_481 : decode cL_law 481 = .ok (.aload_n 0, 1) := by decide +kernel
theorem dL_law_482 : decode cL_law 482 = .ok (.iload_n 3, 1) := by decide +kernel
theorem dL_law_483 : decode cL_law 483 = .ok (.iconst 2, 1) := by decide +kernel
theorem dL_law_484 : decode cL_law 484 = .ok (.iadd, 1) := by decide +kernel
theorem dL_law_485 : decode cL_law 485 = .ok (.iaload, 1) := by decide +kernel
theorem dL_law_486 : decode cL_law 486 = .ok (.invokevirtual 69, 3) := by decide +kernel
theorem dL_law_489 : decode cL_law 489 = .ok (.aload_n 2, 1) := by decide +kernel
theorem dL_law_490 : decode cL_law 490 = .ok (.aload_n 0, 1) := by decide +kernel
theorem dL_law_491 : decode cL_law 491 = .ok (.iload_n 3, 1) := by decide +kernel
theorem dL_law_492 : decode cL_law 492 = .ok (.iconst 1, 1) := by decide +kernel
theorem dL_law_493 : decode cL_law 493 = .ok (.iadd, 1) := by decide +kernel
theorem dL_law_494 : decode cL_law 494 = .ok (.iaload, 1) := by decide +kernel
theorem dL_law_495 : decode cL_law 495 = .ok (.aload_n 0, 1) := by decide +kernel
theorem dL_law_496 : decode cL_law 496 = .ok (.iload_n 3, 1) := by decide +kernel
theorem dL_law_497 : decode cL_law 497 = .ok (.iconst 2, 1) := by decide +kernel
theorem dL_law_498 : decode cL_law 498 = .ok (.iadd, 1) := by decide +kernel
theorem dL_law_499 : decode cL_law 499 = .ok (.iaload, 1) := by decide +kernel
theorem dL_law_500 : decode cL_law 500 = .ok (.invokevirtual 72, 3) := by decide +kernel
theorem dL_law_503 : decode cL_law 503 = .ok (.if_icmp .eq 394, 3) := by decide +kernel
theorem dL_law_506 : decode cL_law 506 = .ok (.iconst 0, 1) := by decide +kernel
theorem dL_law_507 : decode cL_law 507 = .ok (.ireturn, 1) := by decide +kernel
theorem dL_law_508 : decode cL_law 508 = .ok (.aload_n 1, 1) := by decide +kernel
theorem dL_law_509 : decode cL_law 509 = .ok (.invokevirtual 73, 3) := by decide +kernel
theorem dL_law_512 : decode cL_law 512 = .ok (.aload_n 2, 1) := by decide +kernel
theorem dL_law_513 : decode cL_law 513 = .ok (.invokevirtual 76, 3) := by decide +kernel
theorem dL_law_516 : decode cL_law 516 = .ok (.if_icmp .eq 381, 3) := by decide +kernel
theorem dL_law_519 : decode cL_law 519 = .ok (.iconst 0, 1) := by decide +kernel
theorem dL_law_520 : decode cL_law 520 = .ok (.ireturn, 1) := by decide +kernel
theorem dL_law_521 : decode cL_law 521 = .ok (.aload_n 1, 1) := by decide +kernel
theorem dL_law_522 : decode cL_law 522 = .ok (.aload_n 0, 1) := by decide +kernel
theorem dL_law_523 : decode cL_law 523 = .ok (.iload_n 3, 1) := by decide +kernel
theorem dL_law_524 : decode cL_law 524 = .ok (.iconst 1, 1) := by decide +kernel
theorem dL_law_525 : decode cL_law 525 = .ok (.iadd, 1) := by decide +kernel
theorem dL_law_526 : decode cL_law 526 = .ok (.iaload, 1) := by decide +kernel
theorem dL_law_527 : decode cL_law 527 = .ok (.aload_n 0, 1) := by decide +kernel
theorem dL_law_528 : decode cL_law 528 = .ok (.iload_n 3, 1) := by decide +kernel
theorem dL_law_529 : decode cL_law 529 = .ok (.iconst 2, 1) := by decide +kernel
theorem dL_law_530 : decode cL_law 530 = .ok (.iadd, 1) := by decide +kernel
theorem dL_law_531 : decode cL_law 531 = .ok (.iaload, 1) := by decide +kernel
theorem dL_law_532 : decode cL_law 532 = .ok (.aload_n 0, 1) := by decide +kernel
theorem dL_law_533 : decode cL_law 533 = .ok (.iload_n 3, 1) := by decide +kernel
theorem dL_law_534 : decode cL_law 534 = .ok (.iconst 3, 1) := by decide +kernel
theorem dL_law_535 : decode cL_law 535 = .ok (.iadd, 1) := by decide +kernel
theorem dL_law_536 : decode cL_law 536 = .ok (.iaload, 1) := by decide +kernel
theorem dL_law_537 : decode cL_law 537 = .ok (.invokevirtual 77, 3) := by decide +kernel
theorem dL_law_540 : decode cL_law 540 = .ok (.aload_n 2, 1) := by decide +kernel
theorem dL_law_541 : decode cL_law 541 = .ok (.aload_n 0, 1) := by decide +kernel
theorem dL_law_542 : decode cL_law 542 = .ok (.iload_n 3, 1) := by decide +kernel
theorem dL_law_543 : decode cL_law 543 = .ok (.iconst 1, 1) := by decide +kernel
theorem dL_law_544 : decode cL_law 544 = .ok (.iadd, 1) := by decide +kernel
theorem dL_law_545 : decode cL_law 545 = .ok (.iaload, 1) := by decide +kernel
theorem dL_law_546 : decode cL_law 546 = .ok (.aload_n 0, 1) := by decide +kernel
theorem dL_law_547 : decode cL_law 547 = .ok (.iload_n 3, 1) := by decide +kernel
theorem dL_law_548 : decode cL_law 548 = .ok (.iconst 2, 1) := by decide +kernel
theorem dL_law_549 : decode cL_law 549 = .ok (.iadd, 1) := by decide +kernel
theorem dL_law_550 : decode cL_law 550 = .ok (.iaload, 1) := by decide +kernel
theorem dL_law_551 : decode cL_law 551 = .ok (.aload_n 0, 1) := by decide +kernel
theorem dL_law_552 : decode cL_law 552 = .ok (.iload_n 3, 1) := by decide +kernel
theorem dL_law_553 : decode cL_law 553 = .ok (.iconst 3, 1) := by decide +kernel
theorem dL_law_554 : decode cL_law 554 = .ok (.iadd, 1) := by decide +kernel
theorem dL_law_555 : decode cL_law 555 = .ok (.iaload, 1) := by decide +kernel
theorem dL_law_556 : decode cL_law 556 = .ok (.invokevirtual 80, 3) := by decide +kernel
theorem dL_law_559 : decode cL_law 559 = .ok (.if_icmp .eq 338, 3) := by decide +kernel
theorem dL_law_562 : decode cL_law 562 = .ok (.iconst 0, 1) := by decide +kernel
theorem dL_law_563 : decode cL_law 563 = .ok (.ireturn, 1) := by decide +kernel
theorem dL_law_564 : decode cL_law 564 = .ok (.aload_n 1, 1) := by decide +kernel
theorem dL_law_565 : decode cL_law 565 = .ok (.aload_n 0, 1) := by decide +kernel
theorem dL_law_566 : decode cL_law 566 = .ok (.iload_n 3, 1) := by decide +kernel
theorem dL_law_567 : decode cL_law 567 = .ok (.iconst 1, 1) := by decide +kernel
theorem dL_law_568 : decode cL_law 568 = .ok (.iadd, 1) := by decide +kernel
theorem dL_law_569 : decode cL_law 569 = .ok (.iaload, 1) := by decide +kernel
theorem dL_law_570 : decode cL_law 570 = .ok (.aload_n 0, 1) := by decide +kernel
theorem dL_law_571 : decode cL_law 571 = .ok (.iload_n 3, 1) := by decide +kernel
theorem dL_law_572 : decode cL_law 572 = .ok (.iconst 2, 1) := by decide +kernel
theorem dL_law_573 : decode cL_law 573 = .ok (.iadd, 1) := by decide +kernel
theorem dL_law_574 : decode cL_law 574 = .ok (.iaload, 1) := by decide +kernel
theorem dL_law_575 : decode cL_law 575 = .ok (.aload_n 0, 1) := by decide +kernel
theorem dL_law_576 : decode cL_law 576 = .ok (.iload_n 3, 1) := by decide +kernel
theorem dL_law_577 : decode cL_law 577 = .ok (.iconst 3, 1) := by decide +kernel
theorem dL_law_578 : decode cL_law 578 = .ok (.iadd, 1) := by decide +kernel
theorem dL_law_579 : decode cL_law 579 = .ok (.iaload, 1) := by decide +kernel
theorem dL_law_580 : decode cL_law 580 = .ok (.aload_n 0, 1) := by decide +kernel
theorem dL_law_581 : decode cL_law 581 = .ok (.iload_n 3, 1) := by decide +kernel
theorem dL_law_582 : decode cL_law 582 = .ok (.iconst 4, 1) := by decide +kernel
theorem dL_law_583 : decode cL_law 583 = .ok (.iadd, 1) := by decide +kernel
theorem dL_law_584 : decode cL_law 584 = .ok (.iaload, 1) := by decide +kernel
theorem dL_law_585 : decode cL_law 585 = .ok (.invokevirtual 81, 3) := by decide +kernel
theorem dL_law_588 : decode cL_law 588 = .ok (.aload_n 2, 1) := by decide +kernel
theorem dL_law_589 : decode cL_law 589 = .ok (.aload_n 0, 1) := by decide +kernel
theorem dL_law_590 : decode cL_law 590 = .ok (.iload_n 3, 1) := by decide +kernel
theorem dL_law_591 : decode cL_law 591 = .ok (.iconst 1, 1) := by decide +kernel
theorem dL_law_592 : decode cL_law 592 = .ok (.iadd, 1) := by decide +kernel
theorem dL_law_593 : decode cL_law 593 = .ok (.iaload, 1) := by decide +kernel
theorem dL_law_594 : decode cL_law 594 = .ok (.aload_n 0, 1) := by decide +kernel
theorem dL_law_595 : decode cL_law 595 = .ok (.iload_n 3, 1) := by decide +kernel
theorem dL_law_596 : decode cL_law 596 = .ok (.iconst 2, 1) := by decide +kernel
theorem dL_law_597 : decode cL_law 597 = .ok (.iadd, 1) := by decide +kernel
theorem dL_law_598 : decode cL_law 598 = .ok (.iaload, 1) := by decide +kernel
theorem dL_law_599 : decode cL_law 599 = .ok (.aload_n 0, 1) := by decide +kernel
theorem dL_law_600 : decode cL_law 600 = .ok (.iload_n 3, 1) := by decide +kernel
theorem dL_law_601 : decode cL_law 601 = .ok (.iconst 3, 1) := by decide +kernel
theorem dL_law_602 : decode cL_law 602 = .ok (.iadd, 1) := by decide +kernel
theorem dL_law_603 : decode cL_law 603 = .ok (.iaload, 1) := by decide +kernel
theorem dL_law_604 : decode cL_law 604 = .ok (.aload_n 0, 1) := by decide +kernel
theorem dL_law_605 : decode cL_law 605 = .ok (.iload_n 3, 1) := by decide +kernel
theorem dL_law_606 : decode cL_law 606 = .ok (.iconst 4, 1) := by decide +kernel
theorem dL_law_607 : decode cL_law 607 = .ok (.iadd, 1) := by decide +kernel
theorem dL_law_608 : decode cL_law 608 = .ok (.iaload, 1) := by decide +kernel
theorem dL_law_609 : decode cL_law 609 = .ok (.invokevirtual 85, 3) := by decide +kernel
theorem dL_law_612 : decode cL_law 612 = .ok (.if_icmp .eq 285, 3) := by decide +kernel
theorem dL_law_615 : decode cL_law 615 = .ok (.iconst 0, 1) := by decide +kernel
theorem dL_law_616 : decode cL_law 616 = .ok (.ireturn, 1) := by decide +kernel
theorem dL_law_617 : decode cL_law 617 = .ok (.aload_n 1, 1) := by decide +kernel
theorem dL_law_618 : decode cL_law 618 = .ok (.aload_n 0, 1) := by decide +kernel
theorem dL_law_619 : decode cL_law 619 = .ok (.iload_n 3, 1) := by decide +kernel
theorem dL_law_620 : decode cL_law 620 = .ok (.iconst 1, 1) := by decide +kernel
theorem dL_law_621 : decode cL_law 621 = .ok (.iadd, 1) := by decide +kernel
theorem dL_law_622 : decode cL_law 622 = .ok (.iaload, 1) := by decide +kernel
theorem dL_law_623 : decode cL_law 623 = .ok (.invokevirtual 86, 3) := by decide +kernel
theorem dL_law_626 : decode cL_law 626 = .ok (.aload_n 2, 1) := by decide +kernel
theorem dL_law_627 : decode cL_law 627 = .ok (.aload_n 0, 1) := by decide +kernel
theorem dL_law_628 : decode cL_law 628 = .ok (.iload_n 3, 1) := by decide +kernel
theorem dL_law_629 : decode cL_law 629 = .ok (.iconst 1, 1) := by decide +kernel
theorem dL_law_630 : decode cL_law 630 = .ok (.iadd, 1) := by decide +kernel
theorem dL_law_631 : decode cL_law 631 = .ok (.iaload, 1) := by decide +kernel
theorem dL_law_632 : decode cL_law 632 = .ok (.invokevirtual 89, 3) := by decide +kernel
theorem dL_law_635 : decode cL_law 635 = .ok (.if_icmp .eq 262, 3) := by decide +kernel
theorem dL_law_638 : decode cL_law 638 = .ok (.iconst 0, 1) := by decide +kernel
theorem dL_law_639 : decode cL_law 639 = .ok (.ireturn, 1) := by decide +kernel
theorem dL_law_640 : decode cL_law 640 = .ok (.aload_n 1, 1) := by decide +kernel
theorem dL_law_641 : decode cL_law 641 = .ok (.aload_n 0, 1) := by decide +kernel
theorem dL_law_642 : decode cL_law 642 = .ok (.iload_n 3, 1) := by decide +kernel
theorem dL_law_643 : decode cL_law 643 = .ok (.iconst 1, 1) := by decide +kernel
theorem dL_law_644 : decode cL_law 644 = .ok (.iadd, 1) := by decide +kernel
theorem dL_law_645 : decode cL_law 645 = .ok (.iaload, 1) := by decide +kernel
theorem dL_law_646 : decode cL_law 646 = .ok (.aload_n 0, 1) := by decide +kernel
theorem dL_law_647 : decode cL_law 647 = .ok (.iload_n 3, 1) := by decide +kernel
theorem dL_law_648 : decode cL_law 648 = .ok (.iconst 2, 1) := by decide +kernel
theorem dL_law_649 : decode cL_law 649 = .ok (.iadd, 1) := by decide +kernel
theorem dL_law_650 : decode cL_law 650 = .ok (.iaload, 1) := by decide +kernel
theorem dL_law_651 : decode cL_law 651 = .ok (.aload_n 0, 1) := by decide +kernel
theorem dL_law_652 : decode cL_law 652 = .ok (.iload_n 3, 1) := by decide +kernel
theorem dL_law_653 : decode cL_law 653 = .ok (.iconst 3, 1) := by decide +kernel
theorem dL_law_654 : decode cL_law 654 = .ok (.iadd, 1) := by decide +kernel
theorem dL_law_655 : decode cL_law 655 = .ok (.iaload, 1) := by decide +kernel
theorem dL_law_656 : decode cL_law 656 = .ok (.invokevirtual 90, 3) := by decide +kernel
theorem dL_law_659 : decode cL_law 659 = .ok (.aload_n 2, 1) := by decide +kernel
theorem dL_law_660 : decode cL_law 660 = .ok (.aload_n 0, 1) := by decide +kernel
theorem dL_law_661 : decode cL_law 661 = .ok (.iload_n 3, 1) := by decide +kernel
theorem dL_law_662 : decode cL_law 662 = .ok (.iconst 1, 1) := by decide +kernel
theorem dL_law_663 : decode cL_law 663 = .ok (.iadd, 1) := by decide +kernel
theorem dL_law_664 : decode cL_law 664 = .ok (.iaload, 1) := by decide +kernel
theorem dL_law_665 : decode cL_law 665 = .ok (.aload_n 0, 1) := by decide +kernel
theorem dL_law_666 : decode cL_law 666 = .ok (.iload_n 3, 1) := by decide +kernel
theorem dL_law_667 : decode cL_law 667 = .ok (.iconst 2, 1) := by decide +kernel
theorem dL_law_668 : decode cL_law 668 = .ok (.iadd, 1) := by decide +kernel
theorem dL_law_669 : decode cL_law 669 = .ok (.iaload, 1) := by decide +kernel
theorem dL_law_670 : decode cL_law 670 = .ok (.aload_n 0, 1) := by decide +kernel
theorem dL_law_671 : decode cL_law 671 = .ok (.iload_n 3, 1) := by decide +kernel
theorem dL_law_672 : decode cL_law 672 = .ok (.iconst 3, 1) := by decide +kernel
theorem dL_law_673 : decode cL_law 673 = .ok (.iadd, 1) := by decide +kernel
theorem dL_law_674 : decode cL_law 674 = .ok (.iaload, 1) := by decide +kernel
theorem dL_law_675 : decode cL_law 675 = .ok (.invokevirtual 93, 3) := by decide +kernel
theorem dL_law_678 : decode cL_law 678 = .ok (.if_icmp .eq 219, 3) := by decide +kernel
theorem dL_law_681 : decode cL_law 681 = .ok (.iconst 0, 1) := by decide +kernel
theorem dL_law_682 : decode cL_law 682 = .ok (.ireturn, 1) := by decide +kernel
theorem dL_law_683 : decode cL_law 683 = .ok (.aload_n 1, 1) := by decide +kernel
theorem dL_law_684 : decode cL_law 684 = .ok (.invokevirtual 94, 3) := by decide +kernel
theorem dL_law_687 : decode cL_law 687 = .ok (.aload_n 2, 1) := by decide +kernel
theorem dL_law_688 : decode cL_law 688 = .ok (.invokevirtual 97, 3) := by decide +kernel
theorem dL_law_691 : decode cL_law 691 = .ok (.if_icmp .eq 206, 3) := by decide +kernel
theorem dL_law_694 : decode cL_law 694 = .ok (.iconst 0, 1) := by decide +kernel
theorem dL_law_695 : decode cL_law 695 = .ok (.ireturn, 1) := by decide +kernel
theorem dL_law_696 : decode cL_law 696 = .ok (.aload_n 1, 1) := by decide +kernel
theorem dL_law_697 : decode cL_law 697 = .ok (.aload_n 0, 1) := by decide +kernel
theorem dL_law_698 : decode cL_law 698 = .ok (.iload_n 3, 1) := by decide +kernel
theorem dL_law_699 : decode cL_law 699 = .ok (.iconst 1, 1) := by decide +kernel
theorem dL_law_700 : decode cL_law 700 = .ok (.iadd, 1) := by decide +kernel
theorem dL_law_701 : decode cL_law 701 = .ok (.iaload, 1) := by decide +kernel
theorem dL_law_702 : decode cL_law 702 = .ok (.invokevirtual 98, 3) := by decide +kernel
theorem dL_law_705 : decode cL_law 705 = .ok (.aload_n 2, 1) := by decide +kernel
theorem dL_law_706 : decode cL_law 706 = .ok (.aload_n 0, 1) := by decide +kernel
theorem dL_law_707 : decode cL_law 707 = .ok (.iload_n 3, 1) := by decide +kernel
theorem dL_law_708 : decode cL_law 708 = .ok (.iconst 1, 1) := by decide +kernel
theorem dL_law_709 : decode cL_law 709 = .ok (.iadd, 1) := by decide +kernel
theorem dL_law_710 : decode cL_law 710 = .ok (.iaload, 1) := by decide +kernel
theorem dL_law_711 : decode cL_law 711 = .ok (.invokevirtual 101, 3) := by decide +kernel
theorem dL_law_714 : decode cL_law 714 = .ok (.if_icmp .eq 183, 3) := by decide +kernel
theorem dL_law_717 : decode cL_law 717 = .ok (.iconst 0, 1) := by decide +kernel
theorem dL_law_718 : decode cL_law 718 = .ok (.ireturn, 1) := by decide +kernel
theorem dL_law_719 : decode cL_law 719 = .ok (.aload_n 1, 1) := by decide +kernel
theorem dL_law_720 : decode cL_law 720 = .ok (.aload_n 0, 1) := by decide +kernel
theorem dL_law_721 : decode cL_law 721 = .ok (.iload_n 3, 1) := by decide +kernel
theorem dL_law_722 : decode cL_law 722 = .ok (.iconst 1, 1) := by decide +kernel
theorem dL_law_723 : decode cL_law 723 = .ok (.iadd, 1) := by decide +kernel
theorem dL_law_724 : decode cL_law 724 = .ok (.iaload, 1) := by decide +kernel
theorem dL_law_725 : decode cL_law 725 = .ok (.aload_n 0, 1) := by decide +kernel
theorem dL_law_726 : decode cL_law 726 = .ok (.iload_n 3, 1) := by decide +kernel
theorem dL_law_727 : decode cL_law 727 = .ok (.iconst 2, 1) := by decide +kernel
theorem dL_law_728 : decode cL_law 728 = .ok (.iadd, 1) := by decide +kernel
theorem dL_law_729 : decode cL_law 729 = .ok (.iaload, 1) := by decide +kernel
theorem dL_law_730 : decode cL_law 730 = .ok (.invokevirtual 102, 3) := by decide +kernel
theorem dL_law_733 : decode cL_law 733 = .ok (.aload_n 2, 1) := by decide +kernel
theorem dL_law_734 : decode cL_law 734 = .ok (.aload_n 0, 1) := by decide +kernel
theorem dL_law_735 : decode cL_law 735 = .ok (.iload_n 3, 1) := by decide +kernel
theorem dL_law_736 : decode cL_law 736 = .ok (.iconst 1, 1) := by decide +kernel
theorem dL_law_737 : decode cL_law 737 = .ok (.iadd, 1) := by decide +kernel
theorem dL_law_738 : decode cL_law 738 = .ok (.iaload, 1) := by decide +kernel
theorem dL_law_739 : decode cL_law 739 = .ok (.aload_n 0, 1) := by decide +kernel
theorem dL_law_740 : decode cL_law 740 = .ok (.iload_n 3, 1) := by decide +kernel
theorem dL_law_741 : decode cL_law 741 = .ok (.iconst 2, 1) := by decide +kernel
theorem dL_law_742 : decode cL_law 742 = .ok (.iadd, 1) := by decide +kernel
theorem dL_law_743 : decode cL_law 743 = .ok (.iaload, 1) := by decide +kernel
theorem dL_law_744 : decode cL_law 744 = .ok (.invokevirtual 105, 3) := by decide +kernel
theorem dL_law_747 : decode cL_law 747 = .ok (.if_icmp .eq 150, 3) := by decide +kernel
theorem dL_law_750 : decode cL_law 750 = .ok (.iconst 0, 1) := by decide +kernel
theorem dL_law_751 : decode cL_law 751 = .ok (.ireturn, 1) := by decide +kernel
theorem dL_law_752 : decode cL_law 752 = .ok (.aload_n 1, 1) := by decide +kernel
theorem dL_law_753 : decode cL_law 753 = .ok (.aload_n 0, 1) := by decide +kernel
theorem dL_law_754 : decode cL_law 754 = .ok (.iload_n 3, 1) := by decide +kernel
theorem dL_law_755 : decode cL_law 755 = .ok (.iconst 1, 1) := by decide +kernel
theorem dL_law_756 : decode cL_law 756 = .ok (.iadd, 1) := by decide +kernel
theorem dL_law_757 : decode cL_law 757 = .ok (.iaload, 1) := by decide +kernel
theorem dL_law_758 : decode cL_law 758 = .ok (.aload_n 0, 1) := by decide +kernel
theorem dL_law_759 : decode cL_law 759 = .ok (.iload_n 3, 1) := by decide +kernel
theorem dL_law_760 : decode cL_law 760 = .ok (.iconst 2, 1) := by decide +kernel
theorem dL_law_761 : decode cL_law 761 = .ok (.iadd, 1) := by decide +kernel
theorem dL_law_762 : decode cL_law 762 = .ok (.iaload, 1) := by decide +kernel
theorem dL_law_763 : decode cL_law 763 = .ok (.aload_n 0, 1) := by decide +kernel
theorem dL_law_764 : decode cL_law 764 = .ok (.iload_n 3, 1) := by decide +kernel
theorem dL_law_765 : decode cL_law 765 = .ok (.iconst 3, 1) := by decide +kernel
theorem dL_law_766 : decode cL_law 766 = .ok (.iadd, 1) := by decide +kernel
theorem dL_law_767 : decode cL_law 767 = .ok (.iaload, 1) := by decide +kernel
theorem dL_law_768 : decode cL_law 768 = .ok (.aload_n 0, 1) := by decide +kernel
theorem dL_law_769 : decode cL_law 769 = .ok (.iload_n 3, 1) := by decide +kernel
theorem dL_law_770 : decode cL_law 770 = .ok (.iconst 4, 1) := by decide +kernel
theorem dL_law_771 : decode cL_law 771 = .ok (.iadd, 1) := by decide +kernel
theorem dL_law_772 : decode cL_law 772 = .ok (.iaload, 1) := by decide +kernel
theorem dL_law_773 : decode cL_law 773 = .ok (.invokevirtual 106, 3) := by decide +kernel
theorem dL_law_776 : decode cL_law 776 = .ok (.aload_n 2, 1) := by decide +kernel
theorem dL_law_777 : decode cL_law 777 = .ok (.aload_n 0, 1) := by decide +kernel
theorem dL_law_778 : decode cL_law 778 = .ok (.iload_n 3, 1) := by decide +kernel
theorem dL_law_779 : decode cL_law 779 = .ok (.iconst 1, 1) := by decide +kernel
theorem dL_law_780 : decode cL_law 780 = .ok (.iadd, 1) := by decide +kernel
theorem dL_law_781 : decode cL_law 781 = .ok (.iaload, 1) := by decide +kernel
theorem dL_law_782 : decode cL_law 782 = .ok (.aload_n 0, 1) := by decide +kernel
theorem dL_law_783 : decode cL_law 783 = .ok (.iload_n 3, 1) := by decide +kernel
theorem dL_law_784 : decode cL_law 784 = .ok (.iconst 2, 1) := by decide +kernel
theorem dL_law_785 : decode cL_law 785 = .ok (.iadd, 1) := by decide +kernel
theorem dL_law_786 : decode cL_law 786 = .ok (.iaload, 1) := by decide +kernel
theorem dL_law_787 : decode cL_law 787 = .ok (.aload_n 0, 1) := by decide +kernel
theorem dL_law_788 : decode cL_law 788 = .ok (.iload_n 3, 1) := by decide +kernel
theorem dL_law_789 : decode cL_law 789 = .ok (.iconst 3, 1) := by decide +kernel
theorem dL_law_790 : decode cL_law 790 = .ok (.iadd, 1) := by decide +kernel
theorem dL_law_791 : decode cL_law 791 = .ok (.iaload, 1) := by decide +kernel
theorem dL_law_792 : decode cL_law 792 = .ok (.aload_n 0, 1) := by decide +kernel
theorem dL_law_793 : decode cL_law 793 = .ok (.iload_n 3, 1) := by decide +kernel
theorem dL_law_794 : decode cL_law 794 = .ok (.iconst 4, 1) := by decide +kernel
theorem dL_law_795 : decode cL_law 795 = .ok (.iadd, 1) := by decide +kernel
theorem dL_law_796 : decode cL_law 796 = .ok (.iaload, 1) := by decide +kernel
theorem dL_law_797 : decode cL_law 797 = .ok (.invokevirtual 109, 3) := by decide +kernel
theorem dL_law_800 : decode cL_law 800 = .ok (.if_icmp .eq 97, 3) := by decide +kernel
theorem dL_law_803 : decode cL_law 803 = .ok (.iconst 0, 1) := by decide +kernel
theorem dL_law_804 : decode cL_law 804 = .ok (.ireturn, 1) := by decide +kernel
theorem dL_law_805 : decode cL_law 805 = .ok (.aload_n 1, 1) := by decide +kernel
theorem dL_law_806 : decode cL_law 806 = .ok (.aload_n 0, 1) := by decide +kernel
theorem dL_law_807 : decode cL_law 807 = .ok (.iload_n 3, 1) := by decide +kernel
theorem dL_law_808 : decode cL_law 808 = .ok (.iconst 1, 1) := by decide +kernel
theorem dL_law_809 : decode cL_law 809 = .ok (.iadd, 1) := by decide +kernel
theorem dL_law_810 : decode cL_law 810 = .ok (.iaload, 1) := by decide +kernel
theorem dL_law_811 : decode cL_law 811 = .ok (.aload_n 0, 1) := by decide +kernel
theorem dL_law_812 : decode cL_law 812 = .ok (.iload_n 3, 1) := by decide +kernel
theorem dL_law_813 : decode cL_law 813 = .ok (.iconst 2, 1) := by decide +kernel
theorem dL_law_814 : decode cL_law 814 = .ok (.iadd, 1) := by decide +kernel
theorem dL_law_815 : decode cL_law 815 = .ok (.iaload, 1) := by decide +kernel
theorem dL_law_816 : decode cL_law 816 = .ok (.aload_n 0, 1) := by decide +kernel
theorem dL_law_817 : decode cL_law 817 = .ok (.iload_n 3, 1) := by decide +kernel
theorem dL_law_818 : decode cL_law 818 = .ok (.iconst 3, 1) := by decide +kernel
theorem dL_law_819 : decode cL_law 819 = .ok (.iadd, 1) := by decide +kernel
theorem dL_law_820 : decode cL_law 820 = .ok (.iaload, 1) := by decide +kernel
theorem dL_law_821 : decode cL_law 821 = .ok (.invokevirtual 110, 3) := by decide +kernel
theorem dL_law_824 : decode cL_law 824 = .ok (.aload_n 2, 1) := by decide +kernel
theorem dL_law_825 : decode cL_law 825 = .ok (.aload_n 0, 1) := by decide +kernel
theorem dL_law_826 : decode cL_law 826 = .ok (.iload_n 3, 1) := by decide +kernel
theorem dL_law_827 : decode cL_law 827 = .ok (.iconst 1, 1) := by decide +kernel
theorem dL_law_828 : decode cL_law 828 = .ok (.iadd, 1) := by decide +kernel
theorem dL_law_829 : decode cL_law 829 = .ok (.iaload, 1) := by decide +kernel
theorem dL_law_830 : decode cL_law 830 = .ok (.aload_n 0, 1) := by decide +kernel
theorem dL_law_831 : decode cL_law 831 = .ok (.iload_n 3, 1) := by decide +kernel
theorem dL_law_832 : decode cL_law 832 = .ok (.iconst 2, 1) := by decide +kernel
theorem dL_law_833 : decode cL_law 833 = .ok (.iadd, 1) := by decide +kernel
theorem dL_law_834 : decode cL_law 834 = .ok (.iaload, 1) := by decide +kernel
theorem dL_law_835 : decode cL_law 835 = .ok (.aload_n 0, 1) := by decide +kernel
theorem dL_law_836 : decode cL_law 836 = .ok (.iload_n 3, 1) := by decide +kernel
theorem dL_law_837 : decode cL_law 837 = .ok (.iconst 3, 1) := by decide +kernel
theorem dL_law_838 : decode cL_law 838 = .ok (.iadd, 1) := by decide +kernel
theorem dL_law_839 : decode cL_law 839 = .ok (.iaload, 1) := by decide +kernel
theorem dL_law_840 : decode cL_law 840 = .ok (.invokevirtual 113, 3) := by decide +kernel
theorem dL_law_843 : decode cL_law 843 = .ok (.if_icmp .eq 54, 3) := by decide +kernel
theorem dL_law_846 : decode cL_law 846 = .ok (.iconst 0, 1) := by decide +kernel
theorem dL_law_847 : decode cL_law 847 = .ok (.ireturn, 1) := by decide +kernel
theorem dL_law_848 : decode cL_law 848 = .ok (.aload_n 1, 1) := by decide +kernel
theorem dL_law_849 : decode cL_law 849 = .ok (.invokevirtual 114, 3) := by decide +kernel
theorem dL_law_852 : decode cL_law 852 = .ok (.aload_n 2, 1) := by decide +kernel
theorem dL_law_853 : decode cL_law 853 = .ok (.invokevirtual 117, 3) := by decide +kernel
theorem dL_law_856 : decode cL_law 856 = .ok (.if_icmp .eq 41, 3) := by decide +kernel
theorem dL_law_859 : decode cL_law 859 = .ok (.iconst 0, 1) := by decide +kernel
theorem dL_law_860 : decode cL_law 860 = .ok (.ireturn, 1) := by decide +kernel
theorem dL_law_861 : decode cL_law 861 = .ok (.aload_n 1, 1) := by decide +kernel
theorem dL_law_862 : decode cL_law 862 = .ok (.invokevirtual 118, 3) := by decide +kernel
theorem dL_law_865 : decode cL_law 865 = .ok (.aload_n 2, 1) := by decide +kernel
theorem dL_law_866 : decode cL_law 866 = .ok (.invokevirtual 121, 3) := by decide +kernel
theorem dL_law_869 : decode cL_law 869 = .ok (.if_icmp .eq 28, 3) := by decide +kernel
theorem dL_law_872 : decode cL_law 872 = .ok (.iconst 0, 1) := by decide +kernel
theorem dL_law_873 : decode cL_law 873 = .ok (.ireturn, 1) := by decide +kernel
theorem dL_law_874 : decode cL_law 874 = .ok (.aload_n 1, 1) := by decide +kernel
theorem dL_law_875 : decode cL_law 875 = .ok (.aload_n 0, 1) := by decide +kernel
theorem dL_law_876 : decode cL_law 876 = .ok (.iload_n 3, 1) := by decide +kernel
theorem dL_law_877 : decode cL_law 877 = .ok (.iconst 1, 1) := by decide +kernel
theorem dL_law_878 : decode cL_law 878 = .ok (.iadd, 1) := by decide +kernel
theorem dL_law_879 : decode cL_law 879 = .ok (.iaload, 1) := by decide +kernel
theorem dL_law_880 : decode cL_law 880 = .ok (.invokevirtual 122, 3) := by decide +kernel
theorem dL_law_883 : decode cL_law 883 = .ok (.aload_n 2, 1) := by decide +kernel
theorem dL_law_884 : decode cL_law 884 = .ok (.aload_n 0, 1) := by decide +kernel
theorem dL_law_885 : decode cL_law 885 = .ok (.iload_n 3, 1) := by decide +kernel
theorem dL_law_886 : decode cL_law 886 = .ok (.iconst 1, 1) := by decide +kernel
theorem dL_law_887 : decode cL_law 887 = .ok (.iadd, 1) := by decide +kernel
theorem dL_law_888 : decode cL_law 888 = .ok (.iaload, 1) := by decide +kernel
theorem dL_law_889 : decode cL_law 889 = .ok (.invokevirtual 125, 3) := by decide +kernel
theorem dL_law_892 : decode cL_law 892 = .ok (.if_icmp .eq 5, 3) := by decide +kernel
theorem dL_law_895 : decode cL_law 895 = .ok (.iconst 0, 1) := by decide +kernel
theorem dL_law_896 : decode cL_law 896 = .ok (.ireturn, 1) := by decide +kernel
theorem dL_law_897 : decode cL_law 897 = .ok (.iinc 3 5, 3) := by decide +kernel
theorem dL_law_900 : decode cL_law 900 = .ok (.goto (-882), 3) := by decide +kernel
theorem dL_law_903 : decode cL_law 903 = .ok (.iconst 1, 1) := by decide +kernel
theorem dL_law_904 : decode cL_law 904 = .ok (.ireturn, 1) := by decide +kernel
end
section
/-- the words that may be carried along, and those of nest mates -/
def vtS : List Cond := lw_tbl.filter goodWord
theorem vtS_good : ∀ w ∈ vtS, goodWord w = true := fun _ h => (List.mem_filter.mp h).2
def vnst : Cond → Bool
  | .fieldLinkNest _ _ _ _ _ _ => true
  | .methodLinkNest _ _ _ _ => true
  | _ => false
def vNS : List Cond := lw_tbl.filter vnst
theorem vnm {w : Cond} (i : Nat) (h : lw_tbl[i]? = some w) (hg : vnst w = true) : w ∈ vNS := List.mem_filter.mpr ⟨List.mem_of_getElem? h, hg⟩
theorem vtm {w : Cond} (i : Nat) (h : lw_tbl[i]? = some w) (hg : goodWord w = true) : w ∈ vtS := List.mem_filter.mpr ⟨List.mem_of_getElem? h, hg⟩
theorem k9_X0 : ∀ w ∈ u_ws RX0 TX0 1, w ∈ vtS := by
  intro w hw
  have h1 : (u_ws RX0 TX0 1).all (fun w => decide (w ∈ ([212] : List Nat).filterMap (fun i => lw_tbl[i]?)) && goodWord w) = true := by decide +kernel
  have h2 := List.all_eq_true.mp h1 w hw
  simp only [Bool.and_eq_true, decide_eq_true_eq] at h2
  obtain ⟨i, -, hi⟩ := List.mem_filterMap.mp h2.1
  exact vtm i hi h2.2
theorem k9_X1 : ∀ w ∈ u_ws RX1 TX1 3, w ∈ vtS := by
  intro w hw
  have h1 : (u_ws RX1 TX1 3).all (fun w => decide (w ∈ ([151, 153, 155] : List Nat).filterMap (fun i => lw_tbl[i]?)) && goodWord w) = true := by decide +kernel
  have h2 := List.all_eq_true.mp h1 w hw
  simp only [Bool.and_eq_true, decide_eq_true_eq] at h2
  obtain ⟨i, -, hi⟩ := List.mem_filterMap.mp h2.1
  exact vtm i hi h2.2
theorem k9_X2 : ∀ w ∈ u_ws RX2 TX2 1, w ∈ vtS := by
  intro w hw
  have h1 : (u_ws RX2 TX2 1).all (fun w => decide (w ∈ ([87] : List Nat).filterMap (fun i => lw_tbl[i]?)) && goodWord w) = true := by decide +kernel
  have h2 := List.all_eq_true.mp h1 w hw
  simp only [Bool.and_eq_true, decide_eq_true_eq] at h2
  obtain ⟨i, -, hi⟩ := List.mem_filterMap.mp h2.1
  exact vtm i hi h2.2
theorem k9_X3 : ∀ w ∈ u_ws RX3 TX3 9, w ∈ vtS := by
  intro w hw
  have h1 : (u_ws RX3 TX3 9).all (fun w => decide (w ∈ ([119, 121, 123, 125, 127, 129, 131, 133, 135] : List Nat).filterMap (fun i => lw_tbl[i]?)) && goodWord w) = true := by decide +kernel
  have h2 := List.all_eq_true.mp h1 w hw
  simp only [Bool.and_eq_true, decide_eq_true_eq] at h2
  obtain ⟨i, -, hi⟩ := List.mem_filterMap.mp h2.1
  exact vtm i hi h2.2
theorem k9_X4 : ∀ w ∈ u_ws RX4 TX4 6, w ∈ vtS := by
  intro w hw
  have h1 : (u_ws RX4 TX4 6).all (fun w => decide (w ∈ ([191, 193, 195, 197, 199, 201] : List Nat).filterMap (fun i => lw_tbl[i]?)) && goodWord w) = true := by decide +kernel
  have h2 := List.all_eq_true.mp h1 w hw
  simp only [Bool.and_eq_true, decide_eq_true_eq] at h2
  obtain ⟨i, -, hi⟩ := List.mem_filterMap.mp h2.1
  exact vtm i hi h2.2
theorem k9_X5 : ∀ w ∈ u_ws RX5 TX5 4, w ∈ vtS := by
  intro w hw
  have h1 : (u_ws RX5 TX5 4).all (fun w => decide (w ∈ ([169, 171, 173, 175] : List Nat).filterMap (fun i => lw_tbl[i]?)) && goodWord w) = true := by decide +kernel
  have h2 := List.all_eq_true.mp h1 w hw
  simp only [Bool.and_eq_true, decide_eq_true_eq] at h2
  obtain ⟨i, -, hi⟩ := List.mem_filterMap.mp h2.1
  exact vtm i hi h2.2
theorem k9_X6 : ∀ w ∈ u_ws RX6 TX6 2, w ∈ vtS := by
  intro w hw
  have h1 : (u_ws RX6 TX6 2).all (fun w => decide (w ∈ ([74, 76] : List Nat).filterMap (fun i => lw_tbl[i]?)) && goodWord w) = true := by decide +kernel
  have h2 := List.all_eq_true.mp h1 w hw
  simp only [Bool.and_eq_true, decide_eq_true_eq] at h2
  obtain ⟨i, -, hi⟩ := List.mem_filterMap.mp h2.1
  exact vtm i hi h2.2
theorem k9_X7 : ∀ w ∈ u_ws RX7 TX7 10, w ∈ vtS := by
  intro w hw
  have h1 : (u_ws RX7 TX7 10).all (fun w => decide (w ∈ ([350, 352, 354, 356, 358, 360, 362, 364, 366, 368] : List Nat).filterMap (fun i => lw_tbl[i]?)) && goodWord w) = true := by decide +kernel
  have h2 := List.all_eq_true.mp h1 w hw
  simp only [Bool.and_eq_true, decide_eq_true_eq] at h2
  obtain ⟨i, -, hi⟩ := List.mem_filterMap.mp h2.1
  exact vtm i hi h2.2
theorem k9_X8 : ∀ w ∈ u_ws RX8 TX8 16, w ∈ vtS := by
  intro w hw
  have h1 : (u_ws RX8 TX8 16).all (fun w => decide (w ∈ ([720, 722, 724, 726, 728, 730, 732, 734, 736, 738, 740, 742, 744, 746, 748, 750] : List Nat).filterMap (fun i => lw_tbl[i]?)) && goodWord w) = true := by decide +kernel
  have h2 := List.all_eq_true.mp h1 w hw
  simp only [Bool.and_eq_true, decide_eq_true_eq] at h2
  obtain ⟨i, -, hi⟩ := List.mem_filterMap.mp h2.1
  exact vtm i hi h2.2
theorem w9_209 : Cond.methodLink RX0 3 ⟨"java/lang/Object", "<init>", "()V"⟩ ∈ vtS := vtm 209 (by decide +kernel) (by decide +kernel)
theorem w9_210 : Cond.fieldLink RX0 9 RX0 "mate" "[I" ∈ vtS := vtm 210 (by decide +kernel) (by decide +kernel)
theorem w9_592 : Cond.code yX0_pairFrom cX0_pairFrom 4 (some .boolean) ∈ vtS := vtm 592 (by decide +kernel) (by decide +kernel)
theorem w9_48 : Cond.initialized RX0 ∈ vtS := vtm 48 (by decide +kernel) (by decide +kernel)
theorem w9_590 : Cond.methodLink RX0 15 yX0_pairFrom ∈ vtS := vtm 590 (by decide +kernel) (by decide +kernel)
theorem w9_591 : Cond.static yX0_pairFrom ∈ vtS := vtm 591 (by decide +kernel) (by decide +kernel)
theorem w9_114 : Cond.fieldLink RX0 19 RX3 "people" "I" ∈ vtS := vtm 114 (by decide +kernel) (by decide +kernel)
theorem w9_595 : Cond.code yX0_nobodyWouldLeave cX0_nobodyWouldLeave 4 (some .boolean) ∈ vtS := vtm 595 (by decide +kernel) (by decide +kernel)
theorem w9_593 : Cond.methodLink RX0 25 yX0_nobodyWouldLeave ∈ vtS := vtm 593 (by decide +kernel) (by decide +kernel)
theorem w9_594 : Cond.static yX0_nobodyWouldLeave ∈ vtS := vtm 594 (by decide +kernel) (by decide +kernel)
theorem w9_430 : Cond.code yX3_leaningOf cX3_leaningOf 3 (some .int) ∈ vtS := vtm 430 (by decide +kernel) (by decide +kernel)
theorem w9_44 : Cond.initialized RX3 ∈ vtS := vtm 44 (by decide +kernel) (by decide +kernel)
theorem w9_599 : Cond.methodLink RX0 29 yX3_leaningOf ∈ vtS := vtm 599 (by decide +kernel) (by decide +kernel)
theorem w9_428 : Cond.instanceMethod yX3_leaningOf ∈ vtS := vtm 428 (by decide +kernel) (by decide +kernel)
theorem w9_429 : Cond.selects RX3 yX3_leaningOf yX3_leaningOf ∈ vtS := vtm 429 (by decide +kernel) (by decide +kernel)
theorem w9_598 : Cond.code yX0_wouldRather cX0_wouldRather 5 (some .boolean) ∈ vtS := vtm 598 (by decide +kernel) (by decide +kernel)
theorem w9_596 : Cond.methodLink RX0 33 yX0_wouldRather ∈ vtS := vtm 596 (by decide +kernel) (by decide +kernel)
theorem w9_597 : Cond.static yX0_wouldRather ∈ vtS := vtm 597 (by decide +kernel) (by decide +kernel)
theorem w9_143 : Cond.methodLink RX1 3 ⟨"java/lang/Object", "<init>", "()V"⟩ ∈ vtS := vtm 143 (by decide +kernel) (by decide +kernel)
theorem w9_144 : Cond.classLink RX1 9 "HeartVanes$Room" ∈ vtS := vtm 144 (by decide +kernel) (by decide +kernel)
theorem w9_147 : Cond.fieldLink RX1 11 RX1 "earlier" "[LHeartVanes$Room;" ∈ vtS := vtm 147 (by decide +kernel) (by decide +kernel)
theorem w9_148 : Cond.fieldLink RX1 17 RX1 "next" "I" ∈ vtS := vtm 148 (by decide +kernel) (by decide +kernel)
theorem w9_149 : Cond.fieldLink RX1 21 RX1 "size" "I" ∈ vtS := vtm 149 (by decide +kernel) (by decide +kernel)
theorem w9_94 : Cond.code yX3_init cX3_init 1 none ∈ vtS := vtm 94 (by decide +kernel) (by decide +kernel)
theorem w9_146 : Cond.methodLinkNest RX1 24 yX3_init "HeartVanes" ∈ vNS := vnm 146 (by decide +kernel) (by decide +kernel)
theorem w9_93 : Cond.instanceMethod yX3_init ∈ vtS := vtm 93 (by decide +kernel) (by decide +kernel)
theorem w9_391 : Cond.code yX3_copyFrom cX3_copyFrom 2 none ∈ vtS := vtm 391 (by decide +kernel) (by decide +kernel)
theorem w9_461 : Cond.methodLink RX1 25 yX3_copyFrom ∈ vtS := vtm 461 (by decide +kernel) (by decide +kernel)
theorem w9_389 : Cond.instanceMethod yX3_copyFrom ∈ vtS := vtm 389 (by decide +kernel) (by decide +kernel)
theorem w9_390 : Cond.selects RX3 yX3_copyFrom yX3_copyFrom ∈ vtS := vtm 390 (by decide +kernel) (by decide +kernel)
theorem w9_462 : Cond.methodLink RX1 29 ⟨"java/lang/Math", "min", "(II)I"⟩ ∈ vtS := vtm 462 (by decide +kernel) (by decide +kernel)
theorem w9_85 : Cond.methodLink RX2 3 ⟨"java/lang/Object", "<init>", "()V"⟩ ∈ vtS := vtm 85 (by decide +kernel) (by decide +kernel)
theorem w9_86 : Cond.fieldLink RX2 11 RX2 "number" "[I" ∈ vtS := vtm 86 (by decide +kernel) (by decide +kernel)
theorem w9_275 : Cond.code yX3_clear cX3_clear 2 none ∈ vtS := vtm 275 (by decide +kernel) (by decide +kernel)
theorem w9_272 : Cond.methodLink RX2 15 yX3_clear ∈ vtS := vtm 272 (by decide +kernel) (by decide +kernel)
theorem w9_273 : Cond.instanceMethod yX3_clear ∈ vtS := vtm 273 (by decide +kernel) (by decide +kernel)
theorem w9_274 : Cond.selects RX3 yX3_clear yX3_clear ∈ vtS := vtm 274 (by decide +kernel) (by decide +kernel)
theorem w9_73 : Cond.fieldLink RX2 20 RX6 "length" "I" ∈ vtS := vtm 73 (by decide +kernel) (by decide +kernel)
theorem w9_279 : Cond.code yX6_letterAt cX6_letterAt 2 (some .int) ∈ vtS := vtm 279 (by decide +kernel) (by decide +kernel)
theorem w9_42 : Cond.initialized RX6 ∈ vtS := vtm 42 (by decide +kernel) (by decide +kernel)
theorem w9_276 : Cond.methodLink RX2 26 yX6_letterAt ∈ vtS := vtm 276 (by decide +kernel) (by decide +kernel)
theorem w9_277 : Cond.instanceMethod yX6_letterAt ∈ vtS := vtm 277 (by decide +kernel) (by decide +kernel)
theorem w9_278 : Cond.selects RX6 yX6_letterAt yX6_letterAt ∈ vtS := vtm 278 (by decide +kernel) (by decide +kernel)
theorem w9_285 : Cond.code yX2_numbersOf cX2_numbersOf 1 (some .int) ∈ vtS := vtm 285 (by decide +kernel) (by decide +kernel)
theorem w9_43 : Cond.initialized RX2 ∈ vtS := vtm 43 (by decide +kernel) (by decide +kernel)
theorem w9_283 : Cond.methodLink RX2 30 yX2_numbersOf ∈ vtS := vtm 283 (by decide +kernel) (by decide +kernel)
theorem w9_284 : Cond.static yX2_numbersOf ∈ vtS := vtm 284 (by decide +kernel) (by decide +kernel)
theorem w9_289 : Cond.code yX2_readNumbers cX2_readNumbers 7 (some .int) ∈ vtS := vtm 289 (by decide +kernel) (by decide +kernel)
theorem w9_286 : Cond.methodLink RX2 33 yX2_readNumbers ∈ vtS := vtm 286 (by decide +kernel) (by decide +kernel)
theorem w9_288 : Cond.instanceMethod yX2_readNumbers ∈ vtS := vtm 288 (by decide +kernel) (by decide +kernel)
theorem s9_0 : Cond.selects RX2 yX2_readNumbers yX2_readNumbers ∈ vtS := vtm 0 (by decide +kernel) (by decide +kernel)
theorem w9_298 : Cond.code yX2_take cX2_take 3 (some .boolean) ∈ vtS := vtm 298 (by decide +kernel) (by decide +kernel)
theorem w9_295 : Cond.methodLink RX2 37 yX2_take ∈ vtS := vtm 295 (by decide +kernel) (by decide +kernel)
theorem w9_297 : Cond.instanceMethod yX2_take ∈ vtS := vtm 297 (by decide +kernel) (by decide +kernel)
theorem s9_1 : Cond.selects RX2 yX2_take yX2_take ∈ vtS := vtm 1 (by decide +kernel) (by decide +kernel)
theorem w9_293 : Cond.code yX6_isFigure cX6_isFigure 3 (some .boolean) ∈ vtS := vtm 293 (by decide +kernel) (by decide +kernel)
theorem w9_290 : Cond.methodLink RX2 41 yX6_isFigure ∈ vtS := vtm 290 (by decide +kernel) (by decide +kernel)
theorem w9_291 : Cond.instanceMethod yX6_isFigure ∈ vtS := vtm 291 (by decide +kernel) (by decide +kernel)
theorem w9_292 : Cond.selects RX6 yX6_isFigure yX6_isFigure ∈ vtS := vtm 292 (by decide +kernel) (by decide +kernel)
theorem w9_302 : Cond.code yX2_takeWalls cX2_takeWalls 2 (some .boolean) ∈ vtS := vtm 302 (by decide +kernel) (by decide +kernel)
theorem w9_299 : Cond.methodLink RX2 45 yX2_takeWalls ∈ vtS := vtm 299 (by decide +kernel) (by decide +kernel)
theorem w9_301 : Cond.instanceMethod yX2_takeWalls ∈ vtS := vtm 301 (by decide +kernel) (by decide +kernel)
theorem s9_2 : Cond.selects RX2 yX2_takeWalls yX2_takeWalls ∈ vtS := vtm 2 (by decide +kernel) (by decide +kernel)
theorem w9_306 : Cond.code yX2_takePerson cX2_takePerson 2 (some .boolean) ∈ vtS := vtm 306 (by decide +kernel) (by decide +kernel)
theorem w9_303 : Cond.methodLink RX2 49 yX2_takePerson ∈ vtS := vtm 303 (by decide +kernel) (by decide +kernel)
theorem w9_305 : Cond.instanceMethod yX2_takePerson ∈ vtS := vtm 305 (by decide +kernel) (by decide +kernel)
theorem s9_3 : Cond.selects RX2 yX2_takePerson yX2_takePerson ∈ vtS := vtm 3 (by decide +kernel) (by decide +kernel)
theorem w9_323 : Cond.code yX2_takeLeaning cX2_takeLeaning 2 (some .boolean) ∈ vtS := vtm 323 (by decide +kernel) (by decide +kernel)
theorem w9_320 : Cond.methodLink RX2 52 yX2_takeLeaning ∈ vtS := vtm 320 (by decide +kernel) (by decide +kernel)
theorem w9_322 : Cond.instanceMethod yX2_takeLeaning ∈ vtS := vtm 322 (by decide +kernel) (by decide +kernel)
theorem s9_4 : Cond.selects RX2 yX2_takeLeaning yX2_takeLeaning ∈ vtS := vtm 4 (by decide +kernel) (by decide +kernel)
theorem w9_108 : Cond.fieldLink RX2 55 RX3 "width" "I" ∈ vtS := vtm 108 (by decide +kernel) (by decide +kernel)
theorem w9_111 : Cond.fieldLink RX2 58 RX3 "depth" "I" ∈ vtS := vtm 111 (by decide +kernel) (by decide +kernel)
theorem w9_116 : Cond.fieldLink RX2 61 RX3 "people" "I" ∈ vtS := vtm 116 (by decide +kernel) (by decide +kernel)
theorem w9_310 : Cond.code yX3_reaches cX3_reaches 3 (some .boolean) ∈ vtS := vtm 310 (by decide +kernel) (by decide +kernel)
theorem w9_307 : Cond.methodLink RX2 64 yX3_reaches ∈ vtS := vtm 307 (by decide +kernel) (by decide +kernel)
theorem w9_308 : Cond.instanceMethod yX3_reaches ∈ vtS := vtm 308 (by decide +kernel) (by decide +kernel)
theorem w9_309 : Cond.selects RX3 yX3_reaches yX3_reaches ∈ vtS := vtm 309 (by decide +kernel) (by decide +kernel)
theorem w9_315 : Cond.code yX3_whoIsAt cX3_whoIsAt 4 (some .int) ∈ vtS := vtm 315 (by decide +kernel) (by decide +kernel)
theorem w9_312 : Cond.methodLink RX2 68 yX3_whoIsAt ∈ vtS := vtm 312 (by decide +kernel) (by decide +kernel)
theorem w9_313 : Cond.instanceMethod yX3_whoIsAt ∈ vtS := vtm 313 (by decide +kernel) (by decide +kernel)
theorem w9_314 : Cond.selects RX3 yX3_whoIsAt yX3_whoIsAt ∈ vtS := vtm 314 (by decide +kernel) (by decide +kernel)
theorem w9_319 : Cond.code yX3_add cX3_add 4 none ∈ vtS := vtm 319 (by decide +kernel) (by decide +kernel)
theorem w9_316 : Cond.methodLink RX2 72 yX3_add ∈ vtS := vtm 316 (by decide +kernel) (by decide +kernel)
theorem w9_317 : Cond.instanceMethod yX3_add ∈ vtS := vtm 317 (by decide +kernel) (by decide +kernel)
theorem w9_318 : Cond.selects RX3 yX3_add yX3_add ∈ vtS := vtm 318 (by decide +kernel) (by decide +kernel)
theorem w9_327 : Cond.code yX3_hasTwo cX3_hasTwo 3 (some .boolean) ∈ vtS := vtm 327 (by decide +kernel) (by decide +kernel)
theorem w9_324 : Cond.methodLink RX2 76 yX3_hasTwo ∈ vtS := vtm 324 (by decide +kernel) (by decide +kernel)
theorem w9_325 : Cond.instanceMethod yX3_hasTwo ∈ vtS := vtm 325 (by decide +kernel) (by decide +kernel)
theorem w9_326 : Cond.selects RX3 yX3_hasTwo yX3_hasTwo ∈ vtS := vtm 326 (by decide +kernel) (by decide +kernel)
theorem w9_335 : Cond.code yX3_setLeaning cX3_setLeaning 4 none ∈ vtS := vtm 335 (by decide +kernel) (by decide +kernel)
theorem w9_332 : Cond.methodLink RX2 79 yX3_setLeaning ∈ vtS := vtm 332 (by decide +kernel) (by decide +kernel)
theorem w9_333 : Cond.instanceMethod yX3_setLeaning ∈ vtS := vtm 333 (by decide +kernel) (by decide +kernel)
theorem w9_334 : Cond.selects RX3 yX3_setLeaning yX3_setLeaning ∈ vtS := vtm 334 (by decide +kernel) (by decide +kernel)
theorem w9_95 : Cond.methodLink RX3 3 ⟨"java/lang/Object", "<init>", "()V"⟩ ∈ vtS := vtm 95 (by decide +kernel) (by decide +kernel)
theorem w9_96 : Cond.fieldLink RX3 9 RX3 "kind" "[I" ∈ vtS := vtm 96 (by decide +kernel) (by decide +kernel)
theorem w9_98 : Cond.fieldLink RX3 15 RX3 "x" "[I" ∈ vtS := vtm 98 (by decide +kernel) (by decide +kernel)
theorem w9_101 : Cond.fieldLink RX3 18 RX3 "y" "[I" ∈ vtS := vtm 101 (by decide +kernel) (by decide +kernel)
theorem w9_104 : Cond.fieldLink RX3 21 RX3 "vane" "[I" ∈ vtS := vtm 104 (by decide +kernel) (by decide +kernel)
theorem w9_106 : Cond.fieldLink RX3 24 RX3 "leanings" "[I" ∈ vtS := vtm 106 (by decide +kernel) (by decide +kernel)
theorem w9_107 : Cond.fieldLink RX3 27 RX3 "width" "I" ∈ vtS := vtm 107 (by decide +kernel) (by decide +kernel)
theorem w9_110 : Cond.fieldLink RX3 31 RX3 "depth" "I" ∈ vtS := vtm 110 (by decide +kernel) (by decide +kernel)
theorem w9_113 : Cond.fieldLink RX3 34 RX3 "people" "I" ∈ vtS := vtm 113 (by decide +kernel) (by decide +kernel)
theorem w9_117 : Cond.fieldLink RX3 37 RX3 "hours" "I" ∈ vtS := vtm 117 (by decide +kernel) (by decide +kernel)
theorem w9_392 : Cond.methodLink RX3 40 ⟨"java/lang/System", "arraycopy", "(Ljava/lang/Object;ILjava/lang/Object;II)V"⟩ ∈ vtS := vtm 392 (by decide +kernel) (by decide +kernel)
theorem w9_282 : Cond.code yX7_isBelow cX7_isBelow 2 (some .boolean) ∈ vtS := vtm 282 (by decide +kernel) (by decide +kernel)
theorem w9_41 : Cond.initialized RX7 ∈ vtS := vtm 41 (by decide +kernel) (by decide +kernel)
theorem w9_311 : Cond.methodLinkNest RX3 46 yX7_isBelow "HeartVanes" ∈ vNS := vnm 311 (by decide +kernel) (by decide +kernel)
theorem w9_281 : Cond.static yX7_isBelow ∈ vtS := vtm 281 (by decide +kernel) (by decide +kernel)
theorem w9_331 : Cond.code yX3_has cX3_has 2 (some .boolean) ∈ vtS := vtm 331 (by decide +kernel) (by decide +kernel)
theorem w9_328 : Cond.methodLink RX3 50 yX3_has ∈ vtS := vtm 328 (by decide +kernel) (by decide +kernel)
theorem w9_329 : Cond.instanceMethod yX3_has ∈ vtS := vtm 329 (by decide +kernel) (by decide +kernel)
theorem w9_330 : Cond.selects RX3 yX3_has yX3_has ∈ vtS := vtm 330 (by decide +kernel) (by decide +kernel)
theorem w9_490 : Cond.methodLink RX3 54 yX3_whoIsAt ∈ vtS := vtm 490 (by decide +kernel) (by decide +kernel)
theorem w9_485 : Cond.fieldLinkNest RX3 58 "HeartVanes" "EAST_BY_SIDE" "[I" "HeartVanes" ∈ vNS := vnm 485 (by decide +kernel) (by decide +kernel)
theorem w9_487 : Cond.fieldLinkNest RX3 61 "HeartVanes" "SOUTH_BY_SIDE" "[I" "HeartVanes" ∈ vNS := vnm 487 (by decide +kernel) (by decide +kernel)
theorem w9_489 : Cond.methodLink RX3 64 yX3_reaches ∈ vtS := vtm 489 (by decide +kernel) (by decide +kernel)
theorem w9_498 : Cond.code yX3_put cX3_put 4 none ∈ vtS := vtm 498 (by decide +kernel) (by decide +kernel)
theorem w9_495 : Cond.methodLink RX3 67 yX3_put ∈ vtS := vtm 495 (by decide +kernel) (by decide +kernel)
theorem w9_496 : Cond.instanceMethod yX3_put ∈ vtS := vtm 496 (by decide +kernel) (by decide +kernel)
theorem w9_497 : Cond.selects RX3 yX3_put yX3_put ∈ vtS := vtm 497 (by decide +kernel) (by decide +kernel)
theorem w9_633 : Cond.methodLink RX3 71 yX3_setLeaning ∈ vtS := vtm 633 (by decide +kernel) (by decide +kernel)
theorem w9_424 : Cond.methodLink RX3 74 ⟨"java/lang/Math", "abs", "(I)I"⟩ ∈ vtS := vtm 424 (by decide +kernel) (by decide +kernel)
theorem w9_427 : Cond.methodLink RX3 80 yX3_leaningOf ∈ vtS := vtm 427 (by decide +kernel) (by decide +kernel)
theorem w9_423 : Cond.code yX3_pull cX3_pull 4 (some .int) ∈ vtS := vtm 423 (by decide +kernel) (by decide +kernel)
theorem w9_420 : Cond.methodLink RX3 83 yX3_pull ∈ vtS := vtm 420 (by decide +kernel) (by decide +kernel)
theorem w9_422 : Cond.instanceMethod yX3_pull ∈ vtS := vtm 422 (by decide +kernel) (by decide +kernel)
theorem s9_5 : Cond.selects RX3 yX3_pull yX3_pull ∈ vtS := vtm 5 (by decide +kernel) (by decide +kernel)
theorem w9_419 : Cond.code yX3_feltEast cX3_feltEast 5 (some .int) ∈ vtS := vtm 419 (by decide +kernel) (by decide +kernel)
theorem w9_416 : Cond.methodLink RX3 86 yX3_feltEast ∈ vtS := vtm 416 (by decide +kernel) (by decide +kernel)
theorem w9_417 : Cond.instanceMethod yX3_feltEast ∈ vtS := vtm 417 (by decide +kernel) (by decide +kernel)
theorem w9_418 : Cond.selects RX3 yX3_feltEast yX3_feltEast ∈ vtS := vtm 418 (by decide +kernel) (by decide +kernel)
theorem w9_434 : Cond.code yX3_feltSouth cX3_feltSouth 5 (some .int) ∈ vtS := vtm 434 (by decide +kernel) (by decide +kernel)
theorem w9_431 : Cond.methodLink RX3 89 yX3_feltSouth ∈ vtS := vtm 431 (by decide +kernel) (by decide +kernel)
theorem w9_432 : Cond.instanceMethod yX3_feltSouth ∈ vtS := vtm 432 (by decide +kernel) (by decide +kernel)
theorem w9_433 : Cond.selects RX3 yX3_feltSouth yX3_feltSouth ∈ vtS := vtm 433 (by decide +kernel) (by decide +kernel)
theorem w9_437 : Cond.code yX7_wayBy cX7_wayBy 4 (some .int) ∈ vtS := vtm 437 (by decide +kernel) (by decide +kernel)
theorem w9_435 : Cond.methodLinkNest RX3 92 yX7_wayBy "HeartVanes" ∈ vNS := vnm 435 (by decide +kernel) (by decide +kernel)
theorem w9_436 : Cond.static yX7_wayBy ∈ vtS := vtm 436 (by decide +kernel) (by decide +kernel)
theorem w9_415 : Cond.code yX3_draftAmong cX3_draftAmong 3 (some .int) ∈ vtS := vtm 415 (by decide +kernel) (by decide +kernel)
theorem w9_412 : Cond.methodLink RX3 95 yX3_draftAmong ∈ vtS := vtm 412 (by decide +kernel) (by decide +kernel)
theorem w9_413 : Cond.instanceMethod yX3_draftAmong ∈ vtS := vtm 413 (by decide +kernel) (by decide +kernel)
theorem w9_414 : Cond.selects RX3 yX3_draftAmong yX3_draftAmong ∈ vtS := vtm 414 (by decide +kernel) (by decide +kernel)
theorem w9_411 : Cond.code yX3_draft cX3_draft 2 (some .int) ∈ vtS := vtm 411 (by decide +kernel) (by decide +kernel)
theorem w9_469 : Cond.methodLink RX3 98 yX3_draft ∈ vtS := vtm 469 (by decide +kernel) (by decide +kernel)
theorem w9_409 : Cond.instanceMethod yX3_draft ∈ vtS := vtm 409 (by decide +kernel) (by decide +kernel)
theorem w9_410 : Cond.selects RX3 yX3_draft yX3_draft ∈ vtS := vtm 410 (by decide +kernel) (by decide +kernel)
theorem w9_472 : Cond.code yX7_toldNext cX7_toldNext 3 (some .int) ∈ vtS := vtm 472 (by decide +kernel) (by decide +kernel)
theorem w9_470 : Cond.methodLinkNest RX3 101 yX7_toldNext "HeartVanes" ∈ vNS := vnm 470 (by decide +kernel) (by decide +kernel)
theorem w9_471 : Cond.static yX7_toldNext ∈ vtS := vtm 471 (by decide +kernel) (by decide +kernel)
theorem w9_484 : Cond.code yX3_canStep cX3_canStep 5 (some .boolean) ∈ vtS := vtm 484 (by decide +kernel) (by decide +kernel)
theorem w9_660 : Cond.methodLink RX3 105 yX3_canStep ∈ vtS := vtm 660 (by decide +kernel) (by decide +kernel)
theorem w9_482 : Cond.instanceMethod yX3_canStep ∈ vtS := vtm 482 (by decide +kernel) (by decide +kernel)
theorem w9_483 : Cond.selects RX3 yX3_canStep yX3_canStep ∈ vtS := vtm 483 (by decide +kernel) (by decide +kernel)
theorem w9_494 : Cond.code yX3_step cX3_step 3 none ∈ vtS := vtm 494 (by decide +kernel) (by decide +kernel)
theorem w9_661 : Cond.methodLink RX3 108 yX3_step ∈ vtS := vtm 661 (by decide +kernel) (by decide +kernel)
theorem w9_492 : Cond.instanceMethod yX3_step ∈ vtS := vtm 492 (by decide +kernel) (by decide +kernel)
theorem w9_493 : Cond.selects RX3 yX3_step yX3_step ∈ vtS := vtm 493 (by decide +kernel) (by decide +kernel)
theorem w9_522 : Cond.code yX3_tellsToward cX3_tellsToward 3 (some .boolean) ∈ vtS := vtm 522 (by decide +kernel) (by decide +kernel)
theorem w9_531 : Cond.methodLink RX3 112 yX3_tellsToward ∈ vtS := vtm 531 (by decide +kernel) (by decide +kernel)
theorem w9_520 : Cond.instanceMethod yX3_tellsToward ∈ vtS := vtm 520 (by decide +kernel) (by decide +kernel)
theorem w9_521 : Cond.selects RX3 yX3_tellsToward yX3_tellsToward ∈ vtS := vtm 521 (by decide +kernel) (by decide +kernel)
theorem w9_183 : Cond.methodLink RX4 3 ⟨"java/lang/Object", "<init>", "()V"⟩ ∈ vtS := vtm 183 (by decide +kernel) (by decide +kernel)
theorem w9_184 : Cond.fieldLink RX4 9 RX4 "found" "[I" ∈ vtS := vtm 184 (by decide +kernel) (by decide +kernel)
theorem w9_185 : Cond.fieldLink RX4 15 RX4 "cameFrom" "[I" ∈ vtS := vtm 185 (by decide +kernel) (by decide +kernel)
theorem w9_186 : Cond.fieldLink RX4 18 RX4 "bySide" "[I" ∈ vtS := vtm 186 (by decide +kernel) (by decide +kernel)
theorem w9_187 : Cond.fieldLink RX4 21 RX4 "distance" "[I" ∈ vtS := vtm 187 (by decide +kernel) (by decide +kernel)
theorem w9_188 : Cond.fieldLink RX4 24 RX4 "row" "[I" ∈ vtS := vtm 188 (by decide +kernel) (by decide +kernel)
theorem w9_189 : Cond.fieldLink RX4 27 RX4 "length" "I" ∈ vtS := vtm 189 (by decide +kernel) (by decide +kernel)
theorem w9_99 : Cond.fieldLink RX4 31 RX3 "x" "[I" ∈ vtS := vtm 99 (by decide +kernel) (by decide +kernel)
theorem w9_102 : Cond.fieldLink RX4 36 RX3 "y" "[I" ∈ vtS := vtm 102 (by decide +kernel) (by decide +kernel)
theorem w9_554 : Cond.code yX4_goTo cX4_goTo 3 none ∈ vtS := vtm 554 (by decide +kernel) (by decide +kernel)
theorem w9_47 : Cond.initialized RX4 ∈ vtS := vtm 47 (by decide +kernel) (by decide +kernel)
theorem w9_552 : Cond.methodLink RX4 39 yX4_goTo ∈ vtS := vtm 552 (by decide +kernel) (by decide +kernel)
theorem w9_553 : Cond.static yX4_goTo ∈ vtS := vtm 553 (by decide +kernel) (by decide +kernel)
theorem w9_556 : Cond.methodLink RX4 43 yX3_draft ∈ vtS := vtm 556 (by decide +kernel) (by decide +kernel)
theorem w9_560 : Cond.code yX4_noteRow cX4_noteRow 4 none ∈ vtS := vtm 560 (by decide +kernel) (by decide +kernel)
theorem w9_557 : Cond.methodLink RX4 47 yX4_noteRow ∈ vtS := vtm 557 (by decide +kernel) (by decide +kernel)
theorem w9_559 : Cond.instanceMethod yX4_noteRow ∈ vtS := vtm 559 (by decide +kernel) (by decide +kernel)
theorem s9_6 : Cond.selects RX4 yX4_noteRow yX4_noteRow ∈ vtS := vtm 6 (by decide +kernel) (by decide +kernel)
theorem w9_564 : Cond.code yX4_findNext cX4_findNext 8 (some .int) ∈ vtS := vtm 564 (by decide +kernel) (by decide +kernel)
theorem w9_561 : Cond.methodLink RX4 51 yX4_findNext ∈ vtS := vtm 561 (by decide +kernel) (by decide +kernel)
theorem w9_563 : Cond.instanceMethod yX4_findNext ∈ vtS := vtm 563 (by decide +kernel) (by decide +kernel)
theorem s9_7 : Cond.selects RX4 yX4_findNext yX4_findNext ∈ vtS := vtm 7 (by decide +kernel) (by decide +kernel)
theorem w9_568 : Cond.methodLinkNest RX4 55 yX7_isBelow "HeartVanes" ∈ vNS := vnm 568 (by decide +kernel) (by decide +kernel)
theorem w9_555 : Cond.methodLink RX4 59 yX3_put ∈ vtS := vtm 555 (by decide +kernel) (by decide +kernel)
theorem w9_565 : Cond.methodLink RX4 63 yX3_canStep ∈ vtS := vtm 565 (by decide +kernel) (by decide +kernel)
theorem w9_566 : Cond.fieldLinkNest RX4 66 "HeartVanes" "EAST_BY_SIDE" "[I" "HeartVanes" ∈ vNS := vnm 566 (by decide +kernel) (by decide +kernel)
theorem w9_567 : Cond.fieldLinkNest RX4 69 "HeartVanes" "SOUTH_BY_SIDE" "[I" "HeartVanes" ∈ vNS := vnm 567 (by decide +kernel) (by decide +kernel)
theorem w9_163 : Cond.methodLink RX5 3 ⟨"java/lang/Object", "<init>", "()V"⟩ ∈ vtS := vtm 163 (by decide +kernel) (by decide +kernel)
theorem w9_164 : Cond.fieldLink RX5 9 RX5 "who" "[I" ∈ vtS := vtm 164 (by decide +kernel) (by decide +kernel)
theorem w9_165 : Cond.fieldLink RX5 15 RX5 "hoursBehind" "[I" ∈ vtS := vtm 165 (by decide +kernel) (by decide +kernel)
theorem w9_166 : Cond.fieldLink RX5 18 RX5 "way" "[I" ∈ vtS := vtm 166 (by decide +kernel) (by decide +kernel)
theorem w9_167 : Cond.fieldLink RX5 21 RX5 "size" "I" ∈ vtS := vtm 167 (by decide +kernel) (by decide +kernel)
theorem w9_538 : Cond.code yX7_toldBehind cX7_toldBehind 6 (some .int) ∈ vtS := vtm 538 (by decide +kernel) (by decide +kernel)
theorem w9_624 : Cond.methodLinkNest RX5 25 yX7_toldBehind "HeartVanes" ∈ vNS := vnm 624 (by decide +kernel) (by decide +kernel)
theorem w9_537 : Cond.static yX7_toldBehind ∈ vtS := vtm 537 (by decide +kernel) (by decide +kernel)
theorem w9_69 : Cond.methodLink RX6 3 ⟨"java/lang/Object", "<init>", "()V"⟩ ∈ vtS := vtm 69 (by decide +kernel) (by decide +kernel)
theorem w9_70 : Cond.fieldLink RX6 9 RX6 "letters" "[I" ∈ vtS := vtm 70 (by decide +kernel) (by decide +kernel)
theorem w9_71 : Cond.fieldLink RX6 15 RX6 "length" "I" ∈ vtS := vtm 71 (by decide +kernel) (by decide +kernel)
theorem w9_280 : Cond.methodLinkNest RX6 19 yX7_isBelow "HeartVanes" ∈ vNS := vnm 280 (by decide +kernel) (by decide +kernel)
theorem w9_294 : Cond.methodLink RX6 23 yX6_letterAt ∈ vtS := vtm 294 (by decide +kernel) (by decide +kernel)
theorem w9_61 : Cond.methodLink RX7 3 ⟨"java/lang/Object", "<init>", "()V"⟩ ∈ vtS := vtm 61 (by decide +kernel) (by decide +kernel)
theorem w9_64 : Cond.classLink RX7 9 "HeartVanes$Text" ∈ vtS := vtm 64 (by decide +kernel) (by decide +kernel)
theorem w9_68 : Cond.code yX6_init cX6_init 1 none ∈ vtS := vtm 68 (by decide +kernel) (by decide +kernel)
theorem w9_66 : Cond.methodLinkNest RX7 11 yX6_init "HeartVanes" ∈ vNS := vnm 66 (by decide +kernel) (by decide +kernel)
theorem w9_67 : Cond.instanceMethod yX6_init ∈ vtS := vtm 67 (by decide +kernel) (by decide +kernel)
theorem w9_340 : Cond.fieldLink RX7 12 RX7 "text" "LHeartVanes$Text;" ∈ vtS := vtm 340 (by decide +kernel) (by decide +kernel)
theorem w9_80 : Cond.classLink RX7 16 "HeartVanes$Reader" ∈ vtS := vtm 80 (by decide +kernel) (by decide +kernel)
theorem w9_84 : Cond.code yX2_init cX2_init 1 none ∈ vtS := vtm 84 (by decide +kernel) (by decide +kernel)
theorem w9_82 : Cond.methodLinkNest RX7 18 yX2_init "HeartVanes" ∈ vNS := vnm 82 (by decide +kernel) (by decide +kernel)
theorem w9_83 : Cond.instanceMethod yX2_init ∈ vtS := vtm 83 (by decide +kernel) (by decide +kernel)
theorem w9_341 : Cond.fieldLink RX7 19 RX7 "reader" "LHeartVanes$Reader;" ∈ vtS := vtm 341 (by decide +kernel) (by decide +kernel)
theorem w9_90 : Cond.classLink RX7 23 "HeartVanes$Room" ∈ vtS := vtm 90 (by decide +kernel) (by decide +kernel)
theorem w9_92 : Cond.methodLinkNest RX7 25 yX3_init "HeartVanes" ∈ vNS := vnm 92 (by decide +kernel) (by decide +kernel)
theorem w9_342 : Cond.fieldLink RX7 26 RX7 "room" "LHeartVanes$Room;" ∈ vtS := vtm 342 (by decide +kernel) (by decide +kernel)
theorem w9_343 : Cond.fieldLink RX7 30 RX7 "trial" "LHeartVanes$Room;" ∈ vtS := vtm 343 (by decide +kernel) (by decide +kernel)
theorem w9_138 : Cond.classLink RX7 33 "HeartVanes$Past" ∈ vtS := vtm 138 (by decide +kernel) (by decide +kernel)
theorem w9_142 : Cond.code yX1_init cX1_init 2 none ∈ vtS := vtm 142 (by decide +kernel) (by decide +kernel)
theorem w9_45 : Cond.initialized RX1 ∈ vtS := vtm 45 (by decide +kernel) (by decide +kernel)
theorem w9_140 : Cond.methodLink RX7 35 yX1_init ∈ vtS := vtm 140 (by decide +kernel) (by decide +kernel)
theorem w9_141 : Cond.instanceMethod yX1_init ∈ vtS := vtm 141 (by decide +kernel) (by decide +kernel)
theorem w9_344 : Cond.fieldLink RX7 36 RX7 "past" "LHeartVanes$Past;" ∈ vtS := vtm 344 (by decide +kernel) (by decide +kernel)
theorem w9_158 : Cond.classLink RX7 40 "HeartVanes$Sights" ∈ vtS := vtm 158 (by decide +kernel) (by decide +kernel)
theorem w9_162 : Cond.code yX5_init cX5_init 1 none ∈ vtS := vtm 162 (by decide +kernel) (by decide +kernel)
theorem w9_46 : Cond.initialized RX5 ∈ vtS := vtm 46 (by decide +kernel) (by decide +kernel)
theorem w9_160 : Cond.methodLinkNest RX7 42 yX5_init "HeartVanes" ∈ vNS := vnm 160 (by decide +kernel) (by decide +kernel)
theorem w9_161 : Cond.instanceMethod yX5_init ∈ vtS := vtm 161 (by decide +kernel) (by decide +kernel)
theorem w9_345 : Cond.fieldLink RX7 43 RX7 "sights" "LHeartVanes$Sights;" ∈ vtS := vtm 345 (by decide +kernel) (by decide +kernel)
theorem w9_178 : Cond.classLink RX7 47 "HeartVanes$Search" ∈ vtS := vtm 178 (by decide +kernel) (by decide +kernel)
theorem w9_182 : Cond.code yX4_init cX4_init 1 none ∈ vtS := vtm 182 (by decide +kernel) (by decide +kernel)
theorem w9_180 : Cond.methodLinkNest RX7 49 yX4_init "HeartVanes" ∈ vNS := vnm 180 (by decide +kernel) (by decide +kernel)
theorem w9_181 : Cond.instanceMethod yX4_init ∈ vtS := vtm 181 (by decide +kernel) (by decide +kernel)
theorem w9_346 : Cond.fieldLink RX7 50 RX7 "search" "LHeartVanes$Search;" ∈ vtS := vtm 346 (by decide +kernel) (by decide +kernel)
theorem w9_204 : Cond.classLink RX7 54 "HeartVanes$Couples" ∈ vtS := vtm 204 (by decide +kernel) (by decide +kernel)
theorem w9_208 : Cond.code yX0_init cX0_init 1 none ∈ vtS := vtm 208 (by decide +kernel) (by decide +kernel)
theorem w9_206 : Cond.methodLinkNest RX7 56 yX0_init "HeartVanes" ∈ vNS := vnm 206 (by decide +kernel) (by decide +kernel)
theorem w9_207 : Cond.instanceMethod yX0_init ∈ vtS := vtm 207 (by decide +kernel) (by decide +kernel)
theorem w9_347 : Cond.fieldLink RX7 57 RX7 "couples" "LHeartVanes$Couples;" ∈ vtS := vtm 347 (by decide +kernel) (by decide +kernel)
theorem w9_348 : Cond.fieldLink RX7 61 RX7 "kept" "[LHeartVanes$Room;" ∈ vtS := vtm 348 (by decide +kernel) (by decide +kernel)
theorem w9_349 : Cond.fieldLink RX7 65 RX7 "keptCount" "I" ∈ vtS := vtm 349 (by decide +kernel) (by decide +kernel)
theorem w9_216 : Cond.methodLink RX7 71 ⟨"java/lang/String", "length", "()I"⟩ ∈ vtS := vtm 216 (by decide +kernel) (by decide +kernel)
theorem w9_226 : Cond.methodLink RX7 77 ⟨"java/lang/String", "charAt", "(I)C"⟩ ∈ vtS := vtm 226 (by decide +kernel) (by decide +kernel)
theorem w9_267 : Cond.code yX6_append cX6_append 2 none ∈ vtS := vtm 267 (by decide +kernel) (by decide +kernel)
theorem w9_264 : Cond.methodLink RX7 81 yX6_append ∈ vtS := vtm 264 (by decide +kernel) (by decide +kernel)
theorem w9_265 : Cond.instanceMethod yX6_append ∈ vtS := vtm 265 (by decide +kernel) (by decide +kernel)
theorem w9_266 : Cond.selects RX6 yX6_append yX6_append ∈ vtS := vtm 266 (by decide +kernel) (by decide +kernel)
theorem w9_271 : Cond.code yX2_readInto cX2_readInto 8 (some .int) ∈ vtS := vtm 271 (by decide +kernel) (by decide +kernel)
theorem w9_268 : Cond.methodLink RX7 85 yX2_readInto ∈ vtS := vtm 268 (by decide +kernel) (by decide +kernel)
theorem w9_269 : Cond.instanceMethod yX2_readInto ∈ vtS := vtm 269 (by decide +kernel) (by decide +kernel)
theorem w9_270 : Cond.selects RX2 yX2_readInto yX2_readInto ∈ vtS := vtm 270 (by decide +kernel) (by decide +kernel)
theorem w9_339 : Cond.code yX6_clear cX6_clear 1 none ∈ vtS := vtm 339 (by decide +kernel) (by decide +kernel)
theorem w9_336 : Cond.methodLink RX7 89 yX6_clear ∈ vtS := vtm 336 (by decide +kernel) (by decide +kernel)
theorem w9_337 : Cond.instanceMethod yX6_clear ∈ vtS := vtm 337 (by decide +kernel) (by decide +kernel)
theorem w9_338 : Cond.selects RX6 yX6_clear yX6_clear ∈ vtS := vtm 338 (by decide +kernel) (by decide +kernel)
theorem w9_72 : Cond.fieldLink RX7 92 RX6 "length" "I" ∈ vtS := vtm 72 (by decide +kernel) (by decide +kernel)
theorem w9_115 : Cond.fieldLink RX7 94 RX3 "people" "I" ∈ vtS := vtm 115 (by decide +kernel) (by decide +kernel)
theorem w9_388 : Cond.methodLink RX7 97 yX3_copyFrom ∈ vtS := vtm 388 (by decide +kernel) (by decide +kernel)
theorem w9_398 : Cond.code yX1_clear cX1_clear 1 none ∈ vtS := vtm 398 (by decide +kernel) (by decide +kernel)
theorem w9_395 : Cond.methodLink RX7 101 yX1_clear ∈ vtS := vtm 395 (by decide +kernel) (by decide +kernel)
theorem w9_396 : Cond.instanceMethod yX1_clear ∈ vtS := vtm 396 (by decide +kernel) (by decide +kernel)
theorem w9_397 : Cond.selects RX1 yX1_clear yX1_clear ∈ vtS := vtm 397 (by decide +kernel) (by decide +kernel)
theorem w9_402 : Cond.code yX5_clear cX5_clear 1 none ∈ vtS := vtm 402 (by decide +kernel) (by decide +kernel)
theorem w9_399 : Cond.methodLink RX7 102 yX5_clear ∈ vtS := vtm 399 (by decide +kernel) (by decide +kernel)
theorem w9_400 : Cond.instanceMethod yX5_clear ∈ vtS := vtm 400 (by decide +kernel) (by decide +kernel)
theorem w9_401 : Cond.selects RX5 yX5_clear yX5_clear ∈ vtS := vtm 401 (by decide +kernel) (by decide +kernel)
theorem w9_407 : Cond.methodLink RX7 103 yX3_has ∈ vtS := vtm 407 (by decide +kernel) (by decide +kernel)
theorem w9_97 : Cond.fieldLink RX7 107 RX3 "kind" "[I" ∈ vtS := vtm 97 (by decide +kernel) (by decide +kernel)
theorem w9_100 : Cond.fieldLink RX7 111 RX3 "x" "[I" ∈ vtS := vtm 100 (by decide +kernel) (by decide +kernel)
theorem w9_103 : Cond.fieldLink RX7 114 RX3 "y" "[I" ∈ vtS := vtm 103 (by decide +kernel) (by decide +kernel)
theorem w9_105 : Cond.fieldLink RX7 117 RX3 "vane" "[I" ∈ vtS := vtm 105 (by decide +kernel) (by decide +kernel)
theorem w9_408 : Cond.methodLink RX7 120 yX3_draft ∈ vtS := vtm 408 (by decide +kernel) (by decide +kernel)
theorem w9_439 : Cond.methodLink RX7 124 yX3_feltEast ∈ vtS := vtm 439 (by decide +kernel) (by decide +kernel)
theorem w9_440 : Cond.methodLink RX7 128 yX3_feltSouth ∈ vtS := vtm 440 (by decide +kernel) (by decide +kernel)
theorem w9_445 : Cond.methodLink RX7 131 yX3_hasTwo ∈ vtS := vtm 445 (by decide +kernel) (by decide +kernel)
theorem w9_446 : Cond.methodLink RX7 135 yX3_leaningOf ∈ vtS := vtm 446 (by decide +kernel) (by decide +kernel)
theorem w9_451 : Cond.methodLink RX7 138 yX3_reaches ∈ vtS := vtm 451 (by decide +kernel) (by decide +kernel)
theorem w9_452 : Cond.methodLink RX7 141 yX3_whoIsAt ∈ vtS := vtm 452 (by decide +kernel) (by decide +kernel)
theorem w9_460 : Cond.code yX1_remember cX1_remember 2 none ∈ vtS := vtm 460 (by decide +kernel) (by decide +kernel)
theorem w9_457 : Cond.methodLink RX7 144 yX1_remember ∈ vtS := vtm 457 (by decide +kernel) (by decide +kernel)
theorem w9_458 : Cond.instanceMethod yX1_remember ∈ vtS := vtm 458 (by decide +kernel) (by decide +kernel)
theorem w9_459 : Cond.selects RX1 yX1_remember yX1_remember ∈ vtS := vtm 459 (by decide +kernel) (by decide +kernel)
theorem w9_468 : Cond.code yX3_passHour cX3_passHour 4 (some .int) ∈ vtS := vtm 468 (by decide +kernel) (by decide +kernel)
theorem w9_465 : Cond.methodLink RX7 147 yX3_passHour ∈ vtS := vtm 465 (by decide +kernel) (by decide +kernel)
theorem w9_466 : Cond.instanceMethod yX3_passHour ∈ vtS := vtm 466 (by decide +kernel) (by decide +kernel)
theorem w9_467 : Cond.selects RX3 yX3_passHour yX3_passHour ∈ vtS := vtm 467 (by decide +kernel) (by decide +kernel)
theorem w9_118 : Cond.fieldLink RX7 150 RX3 "hours" "I" ∈ vtS := vtm 118 (by decide +kernel) (by decide +kernel)
theorem w9_480 : Cond.methodLink RX7 153 yX7_isBelow ∈ vtS := vtm 480 (by decide +kernel) (by decide +kernel)
theorem w9_481 : Cond.methodLink RX7 156 yX3_canStep ∈ vtS := vtm 481 (by decide +kernel) (by decide +kernel)
theorem w9_491 : Cond.methodLink RX7 159 yX3_step ∈ vtS := vtm 491 (by decide +kernel) (by decide +kernel)
theorem w9_501 : Cond.code yX7_placeNumber cX7_placeNumber 2 (some .int) ∈ vtS := vtm 501 (by decide +kernel) (by decide +kernel)
theorem w9_499 : Cond.methodLink RX7 163 yX7_placeNumber ∈ vtS := vtm 499 (by decide +kernel) (by decide +kernel)
theorem w9_500 : Cond.static yX7_placeNumber ∈ vtS := vtm 500 (by decide +kernel) (by decide +kernel)
theorem w9_506 : Cond.methodLink RX7 166 yX3_setLeaning ∈ vtS := vtm 506 (by decide +kernel) (by decide +kernel)
theorem w9_150 : Cond.fieldLink RX7 170 RX1 "size" "I" ∈ vtS := vtm 150 (by decide +kernel) (by decide +kernel)
theorem w9_514 : Cond.code yX1_restoreLatest cX1_restoreLatest 2 none ∈ vtS := vtm 514 (by decide +kernel) (by decide +kernel)
theorem w9_511 : Cond.methodLink RX7 173 yX1_restoreLatest ∈ vtS := vtm 511 (by decide +kernel) (by decide +kernel)
theorem w9_512 : Cond.instanceMethod yX1_restoreLatest ∈ vtS := vtm 512 (by decide +kernel) (by decide +kernel)
theorem w9_513 : Cond.selects RX1 yX1_restoreLatest yX1_restoreLatest ∈ vtS := vtm 513 (by decide +kernel) (by decide +kernel)
theorem w9_519 : Cond.methodLink RX7 176 yX3_tellsToward ∈ vtS := vtm 519 (by decide +kernel) (by decide +kernel)
theorem w9_530 : Cond.code yX3_lookersAt cX3_lookersAt 4 (some .int) ∈ vtS := vtm 530 (by decide +kernel) (by decide +kernel)
theorem w9_527 : Cond.methodLink RX7 179 yX3_lookersAt ∈ vtS := vtm 527 (by decide +kernel) (by decide +kernel)
theorem w9_528 : Cond.instanceMethod yX3_lookersAt ∈ vtS := vtm 528 (by decide +kernel) (by decide +kernel)
theorem w9_529 : Cond.selects RX3 yX3_lookersAt yX3_lookersAt ∈ vtS := vtm 529 (by decide +kernel) (by decide +kernel)
theorem w9_536 : Cond.methodLink RX7 182 yX7_toldBehind ∈ vtS := vtm 536 (by decide +kernel) (by decide +kernel)
theorem w9_551 : Cond.code yX4_run cX4_run 7 none ∈ vtS := vtm 551 (by decide +kernel) (by decide +kernel)
theorem w9_548 : Cond.methodLink RX7 186 yX4_run ∈ vtS := vtm 548 (by decide +kernel) (by decide +kernel)
theorem w9_549 : Cond.instanceMethod yX4_run ∈ vtS := vtm 549 (by decide +kernel) (by decide +kernel)
theorem w9_550 : Cond.selects RX4 yX4_run yX4_run ∈ vtS := vtm 550 (by decide +kernel) (by decide +kernel)
theorem w9_190 : Cond.fieldLink RX7 190 RX4 "length" "I" ∈ vtS := vtm 190 (by decide +kernel) (by decide +kernel)
theorem w9_572 : Cond.code yX4_sideAt cX4_sideAt 2 (some .int) ∈ vtS := vtm 572 (by decide +kernel) (by decide +kernel)
theorem w9_569 : Cond.methodLink RX7 191 yX4_sideAt ∈ vtS := vtm 569 (by decide +kernel) (by decide +kernel)
theorem w9_570 : Cond.instanceMethod yX4_sideAt ∈ vtS := vtm 570 (by decide +kernel) (by decide +kernel)
theorem w9_571 : Cond.selects RX4 yX4_sideAt yX4_sideAt ∈ vtS := vtm 571 (by decide +kernel) (by decide +kernel)
theorem w9_109 : Cond.fieldLink RX7 194 RX3 "width" "I" ∈ vtS := vtm 109 (by decide +kernel) (by decide +kernel)
theorem w9_112 : Cond.fieldLink RX7 197 RX3 "depth" "I" ∈ vtS := vtm 112 (by decide +kernel) (by decide +kernel)
theorem w9_580 : Cond.code yX3_isFreeFor cX3_isFreeFor 5 (some .boolean) ∈ vtS := vtm 580 (by decide +kernel) (by decide +kernel)
theorem w9_577 : Cond.methodLink RX7 200 yX3_isFreeFor ∈ vtS := vtm 577 (by decide +kernel) (by decide +kernel)
theorem w9_578 : Cond.instanceMethod yX3_isFreeFor ∈ vtS := vtm 578 (by decide +kernel) (by decide +kernel)
theorem w9_579 : Cond.selects RX3 yX3_isFreeFor yX3_isFreeFor ∈ vtS := vtm 579 (by decide +kernel) (by decide +kernel)
theorem w9_581 : Cond.methodLink RX7 204 yX3_put ∈ vtS := vtm 581 (by decide +kernel) (by decide +kernel)
theorem w9_589 : Cond.code yX0_find cX0_find 3 (some .boolean) ∈ vtS := vtm 589 (by decide +kernel) (by decide +kernel)
theorem w9_586 : Cond.methodLink RX7 207 yX0_find ∈ vtS := vtm 586 (by decide +kernel) (by decide +kernel)
theorem w9_587 : Cond.instanceMethod yX0_find ∈ vtS := vtm 587 (by decide +kernel) (by decide +kernel)
theorem w9_588 : Cond.selects RX0 yX0_find yX0_find ∈ vtS := vtm 588 (by decide +kernel) (by decide +kernel)
theorem w9_603 : Cond.code yX0_together cX0_together 4 (some .int) ∈ vtS := vtm 603 (by decide +kernel) (by decide +kernel)
theorem w9_600 : Cond.methodLink RX7 211 yX0_together ∈ vtS := vtm 600 (by decide +kernel) (by decide +kernel)
theorem w9_601 : Cond.instanceMethod yX0_together ∈ vtS := vtm 601 (by decide +kernel) (by decide +kernel)
theorem w9_602 : Cond.selects RX0 yX0_together yX0_together ∈ vtS := vtm 602 (by decide +kernel) (by decide +kernel)
theorem w9_211 : Cond.fieldLink RX7 215 RX0 "mate" "[I" ∈ vtS := vtm 211 (by decide +kernel) (by decide +kernel)
theorem w9_168 : Cond.fieldLink RX7 218 RX5 "size" "I" ∈ vtS := vtm 168 (by decide +kernel) (by decide +kernel)
theorem w9_611 : Cond.code yX5_add cX5_add 4 none ∈ vtS := vtm 611 (by decide +kernel) (by decide +kernel)
theorem w9_608 : Cond.methodLink RX7 219 yX5_add ∈ vtS := vtm 608 (by decide +kernel) (by decide +kernel)
theorem w9_609 : Cond.instanceMethod yX5_add ∈ vtS := vtm 609 (by decide +kernel) (by decide +kernel)
theorem w9_610 : Cond.selects RX5 yX5_add yX5_add ∈ vtS := vtm 610 (by decide +kernel) (by decide +kernel)
theorem w9_623 : Cond.code yX5_wouldHold cX5_wouldHold 6 (some .boolean) ∈ vtS := vtm 623 (by decide +kernel) (by decide +kernel)
theorem w9_620 : Cond.methodLink RX7 222 yX5_wouldHold ∈ vtS := vtm 620 (by decide +kernel) (by decide +kernel)
theorem w9_621 : Cond.instanceMethod yX5_wouldHold ∈ vtS := vtm 621 (by decide +kernel) (by decide +kernel)
theorem w9_622 : Cond.selects RX5 yX5_wouldHold yX5_wouldHold ∈ vtS := vtm 622 (by decide +kernel) (by decide +kernel)
theorem w9_632 : Cond.code yX3_leanTowardAlone cX3_leanTowardAlone 4 none ∈ vtS := vtm 632 (by decide +kernel) (by decide +kernel)
theorem w9_629 : Cond.methodLink RX7 226 yX3_leanTowardAlone ∈ vtS := vtm 629 (by decide +kernel) (by decide +kernel)
theorem w9_630 : Cond.instanceMethod yX3_leanTowardAlone ∈ vtS := vtm 630 (by decide +kernel) (by decide +kernel)
theorem w9_631 : Cond.selects RX3 yX3_leanTowardAlone yX3_leanTowardAlone ∈ vtS := vtm 631 (by decide +kernel) (by decide +kernel)
theorem w9_641 : Cond.code yX7_weightOf cX7_weightOf 6 (some .int) ∈ vtS := vtm 641 (by decide +kernel) (by decide +kernel)
theorem w9_638 : Cond.methodLink RX7 229 yX7_weightOf ∈ vtS := vtm 638 (by decide +kernel) (by decide +kernel)
theorem w9_640 : Cond.instanceMethod yX7_weightOf ∈ vtS := vtm 640 (by decide +kernel) (by decide +kernel)
theorem s9_8 : Cond.selects RX7 yX7_weightOf yX7_weightOf ∈ vtS := vtm 8 (by decide +kernel) (by decide +kernel)
theorem w9_642 : Cond.methodLink RX7 233 yX3_draftAmong ∈ vtS := vtm 642 (by decide +kernel) (by decide +kernel)
theorem w9_645 : Cond.code yX7_greatestShared cX7_greatestShared 6 (some .int) ∈ vtS := vtm 645 (by decide +kernel) (by decide +kernel)
theorem w9_643 : Cond.methodLink RX7 236 yX7_greatestShared ∈ vtS := vtm 643 (by decide +kernel) (by decide +kernel)
theorem w9_644 : Cond.static yX7_greatestShared ∈ vtS := vtm 644 (by decide +kernel) (by decide +kernel)
theorem w9_652 : Cond.code yX7_drawFor cX7_drawFor 4 (some .int) ∈ vtS := vtm 652 (by decide +kernel) (by decide +kernel)
theorem w9_650 : Cond.methodLink RX7 239 yX7_drawFor ∈ vtS := vtm 650 (by decide +kernel) (by decide +kernel)
theorem w9_651 : Cond.static yX7_drawFor ∈ vtS := vtm 651 (by decide +kernel) (by decide +kernel)
theorem w9_659 : Cond.code yX3_actBy cX3_actBy 5 none ∈ vtS := vtm 659 (by decide +kernel) (by decide +kernel)
theorem w9_656 : Cond.methodLink RX7 242 yX3_actBy ∈ vtS := vtm 656 (by decide +kernel) (by decide +kernel)
theorem w9_657 : Cond.instanceMethod yX3_actBy ∈ vtS := vtm 657 (by decide +kernel) (by decide +kernel)
theorem w9_658 : Cond.selects RX3 yX3_actBy yX3_actBy ∈ vtS := vtm 658 (by decide +kernel) (by decide +kernel)
theorem w9_665 : Cond.code yX3_sumOfVanes cX3_sumOfVanes 3 (some .int) ∈ vtS := vtm 665 (by decide +kernel) (by decide +kernel)
theorem w9_662 : Cond.methodLink RX7 245 yX3_sumOfVanes ∈ vtS := vtm 662 (by decide +kernel) (by decide +kernel)
theorem w9_663 : Cond.instanceMethod yX3_sumOfVanes ∈ vtS := vtm 663 (by decide +kernel) (by decide +kernel)
theorem w9_664 : Cond.selects RX3 yX3_sumOfVanes yX3_sumOfVanes ∈ vtS := vtm 664 (by decide +kernel) (by decide +kernel)
theorem w9_681 : Cond.code yX3_howManyFeelADraft cX3_howManyFeelADraft 3 (some .int) ∈ vtS := vtm 681 (by decide +kernel) (by decide +kernel)
theorem w9_678 : Cond.methodLink RX7 248 yX3_howManyFeelADraft ∈ vtS := vtm 678 (by decide +kernel) (by decide +kernel)
theorem w9_679 : Cond.instanceMethod yX3_howManyFeelADraft ∈ vtS := vtm 679 (by decide +kernel) (by decide +kernel)
theorem w9_680 : Cond.selects RX3 yX3_howManyFeelADraft yX3_howManyFeelADraft ∈ vtS := vtm 680 (by decide +kernel) (by decide +kernel)
theorem w9_685 : Cond.code yX3_howManyLeanings cX3_howManyLeanings 3 (some .int) ∈ vtS := vtm 685 (by decide +kernel) (by decide +kernel)
theorem w9_682 : Cond.methodLink RX7 251 yX3_howManyLeanings ∈ vtS := vtm 682 (by decide +kernel) (by decide +kernel)
theorem w9_683 : Cond.instanceMethod yX3_howManyLeanings ∈ vtS := vtm 683 (by decide +kernel) (by decide +kernel)
theorem w9_684 : Cond.selects RX3 yX3_howManyLeanings yX3_howManyLeanings ∈ vtS := vtm 684 (by decide +kernel) (by decide +kernel)
theorem w9_438 : Cond.methodLink RX7 260 ⟨"java/lang/Math", "abs", "(I)I"⟩ ∈ vtS := vtm 438 (by decide +kernel) (by decide +kernel)
theorem w9_475 : Cond.code yX7_turnedOneToward cX7_turnedOneToward 3 (some .int) ∈ vtS := vtm 475 (by decide +kernel) (by decide +kernel)
theorem w9_473 : Cond.methodLink RX7 265 yX7_turnedOneToward ∈ vtS := vtm 473 (by decide +kernel) (by decide +kernel)
theorem w9_474 : Cond.static yX7_turnedOneToward ∈ vtS := vtm 474 (by decide +kernel) (by decide +kernel)
theorem w9_539 : Cond.methodLink RX7 268 yX7_toldNext ∈ vtS := vtm 539 (by decide +kernel) (by decide +kernel)
theorem w9_691 : Cond.methodLink RX8 1 ⟨"java/lang/Object", "<init>", "()V"⟩ ∈ vtS := vtm 691 (by decide +kernel) (by decide +kernel)
theorem w9_704 : Cond.fieldLink RX8 7 RX8 "text" "[I" ∈ vtS := vtm 704 (by decide +kernel) (by decide +kernel)
theorem w9_706 : Cond.fieldLink RX8 13 RX8 "told" "[I" ∈ vtS := vtm 706 (by decide +kernel) (by decide +kernel)
theorem w9_707 : Cond.fieldLink RX8 16 RX8 "draft" "[I" ∈ vtS := vtm 707 (by decide +kernel) (by decide +kernel)
theorem w9_708 : Cond.fieldLink RX8 19 RX8 "begun" "[I" ∈ vtS := vtm 708 (by decide +kernel) (by decide +kernel)
theorem w9_709 : Cond.fieldLink RX8 22 RX8 "s" "[I" ∈ vtS := vtm 709 (by decide +kernel) (by decide +kernel)
theorem w9_710 : Cond.fieldLink RX8 25 RX8 "past" "[I" ∈ vtS := vtm 710 (by decide +kernel) (by decide +kernel)
theorem w9_712 : Cond.fieldLink RX8 28 RX8 "images" "[I" ∈ vtS := vtm 712 (by decide +kernel) (by decide +kernel)
theorem w9_714 : Cond.fieldLink RX8 31 RX8 "notes" "[I" ∈ vtS := vtm 714 (by decide +kernel) (by decide +kernel)
theorem w9_717 : Cond.fieldLink RX8 34 RX8 "aside" "[I" ∈ vtS := vtm 717 (by decide +kernel) (by decide +kernel)
theorem w9_718 : Cond.fieldLink RX8 37 RX8 "far" "[I" ∈ vtS := vtm 718 (by decide +kernel) (by decide +kernel)
theorem w9_719 : Cond.fieldLink RX8 40 RX8 "mate" "[I" ∈ vtS := vtm 719 (by decide +kernel) (by decide +kernel)
theorem w9_695 : Cond.code yX8_begins cX8_begins 2 none ∈ vtS := vtm 695 (by decide +kernel) (by decide +kernel)
theorem w9_53 : Cond.initialized RX8 ∈ vtS := vtm 53 (by decide +kernel) (by decide +kernel)
theorem w9_692 : Cond.methodLink RX8 43 yX8_begins ∈ vtS := vtm 692 (by decide +kernel) (by decide +kernel)
theorem w9_694 : Cond.instanceMethod yX8_begins ∈ vtS := vtm 694 (by decide +kernel) (by decide +kernel)
theorem s9_9 : Cond.selects RX8 yX8_begins yX8_begins ∈ vtS := vtm 9 (by decide +kernel) (by decide +kernel)
theorem w9_699 : Cond.code yX8_stands cX8_stands 5 none ∈ vtS := vtm 699 (by decide +kernel) (by decide +kernel)
theorem w9_696 : Cond.methodLink RX8 46 yX8_stands ∈ vtS := vtm 696 (by decide +kernel) (by decide +kernel)
theorem w9_698 : Cond.instanceMethod yX8_stands ∈ vtS := vtm 698 (by decide +kernel) (by decide +kernel)
theorem s9_10 : Cond.selects RX8 yX8_stands yX8_stands ∈ vtS := vtm 10 (by decide +kernel) (by decide +kernel)
theorem w9_703 : Cond.code yX8_lays cX8_lays 2 none ∈ vtS := vtm 703 (by decide +kernel) (by decide +kernel)
theorem w9_700 : Cond.methodLink RX8 50 yX8_lays ∈ vtS := vtm 700 (by decide +kernel) (by decide +kernel)
theorem w9_702 : Cond.instanceMethod yX8_lays ∈ vtS := vtm 702 (by decide +kernel) (by decide +kernel)
theorem s9_11 : Cond.selects RX8 yX8_lays yX8_lays ∈ vtS := vtm 11 (by decide +kernel) (by decide +kernel)
theorem w9_759 : Cond.code yX8_in cX8_in 3 (some .boolean) ∈ vtS := vtm 759 (by decide +kernel) (by decide +kernel)
theorem w9_757 : Cond.methodLink RX8 53 yX8_in ∈ vtS := vtm 757 (by decide +kernel) (by decide +kernel)
theorem w9_758 : Cond.static yX8_in ∈ vtS := vtm 758 (by decide +kernel) (by decide +kernel)
theorem w9_705 : Cond.fieldLink RX8 57 RX8 "typed" "I" ∈ vtS := vtm 705 (by decide +kernel) (by decide +kernel)
theorem w9_716 : Cond.fieldLink RX8 61 RX8 "at" "I" ∈ vtS := vtm 716 (by decide +kernel) (by decide +kernel)
theorem w9_783 : Cond.code yX8_letterAt cX8_letterAt 2 (some .int) ∈ vtS := vtm 783 (by decide +kernel) (by decide +kernel)
theorem w9_780 : Cond.methodLink RX8 64 yX8_letterAt ∈ vtS := vtm 780 (by decide +kernel) (by decide +kernel)
theorem w9_782 : Cond.instanceMethod yX8_letterAt ∈ vtS := vtm 782 (by decide +kernel) (by decide +kernel)
theorem s9_15 : Cond.selects RX8 yX8_letterAt yX8_letterAt ∈ vtS := vtm 15 (by decide +kernel) (by decide +kernel)
theorem w9_786 : Cond.code yX8_isFigure cX8_isFigure 1 (some .boolean) ∈ vtS := vtm 786 (by decide +kernel) (by decide +kernel)
theorem w9_784 : Cond.methodLink RX8 68 yX8_isFigure ∈ vtS := vtm 784 (by decide +kernel) (by decide +kernel)
theorem w9_785 : Cond.static yX8_isFigure ∈ vtS := vtm 785 (by decide +kernel) (by decide +kernel)
theorem w9_779 : Cond.code yX8_number cX8_number 6 (some .int) ∈ vtS := vtm 779 (by decide +kernel) (by decide +kernel)
theorem w9_776 : Cond.methodLink RX8 72 yX8_number ∈ vtS := vtm 776 (by decide +kernel) (by decide +kernel)
theorem w9_778 : Cond.instanceMethod yX8_number ∈ vtS := vtm 778 (by decide +kernel) (by decide +kernel)
theorem s9_14 : Cond.selects RX8 yX8_number yX8_number ∈ vtS := vtm 14 (by decide +kernel) (by decide +kernel)
theorem w9_775 : Cond.code yX8_readsRoom cX8_readsRoom 3 (some .boolean) ∈ vtS := vtm 775 (by decide +kernel) (by decide +kernel)
theorem w9_772 : Cond.methodLink RX8 76 yX8_readsRoom ∈ vtS := vtm 772 (by decide +kernel) (by decide +kernel)
theorem w9_774 : Cond.instanceMethod yX8_readsRoom ∈ vtS := vtm 774 (by decide +kernel) (by decide +kernel)
theorem s9_13 : Cond.selects RX8 yX8_readsRoom yX8_readsRoom ∈ vtS := vtm 13 (by decide +kernel) (by decide +kernel)
theorem w9_790 : Cond.code yX8_readsPerson cX8_readsPerson 6 (some .boolean) ∈ vtS := vtm 790 (by decide +kernel) (by decide +kernel)
theorem w9_787 : Cond.methodLink RX8 80 yX8_readsPerson ∈ vtS := vtm 787 (by decide +kernel) (by decide +kernel)
theorem w9_789 : Cond.instanceMethod yX8_readsPerson ∈ vtS := vtm 789 (by decide +kernel) (by decide +kernel)
theorem s9_16 : Cond.selects RX8 yX8_readsPerson yX8_readsPerson ∈ vtS := vtm 16 (by decide +kernel) (by decide +kernel)
theorem w9_794 : Cond.code yX8_readsLeaning cX8_readsLeaning 5 (some .boolean) ∈ vtS := vtm 794 (by decide +kernel) (by decide +kernel)
theorem w9_791 : Cond.methodLink RX8 83 yX8_readsLeaning ∈ vtS := vtm 791 (by decide +kernel) (by decide +kernel)
theorem w9_793 : Cond.instanceMethod yX8_readsLeaning ∈ vtS := vtm 793 (by decide +kernel) (by decide +kernel)
theorem s9_17 : Cond.selects RX8 yX8_readsLeaning yX8_readsLeaning ∈ vtS := vtm 17 (by decide +kernel) (by decide +kernel)
theorem w9_771 : Cond.code yX8_readsAll cX8_readsAll 5 (some .int) ∈ vtS := vtm 771 (by decide +kernel) (by decide +kernel)
theorem w9_768 : Cond.methodLink RX8 86 yX8_readsAll ∈ vtS := vtm 768 (by decide +kernel) (by decide +kernel)
theorem w9_770 : Cond.instanceMethod yX8_readsAll ∈ vtS := vtm 770 (by decide +kernel) (by decide +kernel)
theorem s9_12 : Cond.selects RX8 yX8_readsAll yX8_readsAll ∈ vtS := vtm 12 (by decide +kernel) (by decide +kernel)
theorem w9_711 : Cond.fieldLink RX8 90 RX8 "known" "I" ∈ vtS := vtm 711 (by decide +kernel) (by decide +kernel)
theorem w9_713 : Cond.fieldLink RX8 93 RX8 "kept" "I" ∈ vtS := vtm 713 (by decide +kernel) (by decide +kernel)
theorem w9_715 : Cond.fieldLink RX8 96 RX8 "noted" "I" ∈ vtS := vtm 715 (by decide +kernel) (by decide +kernel)
theorem w9_824 : Cond.code yX8_abs cX8_abs 1 (some .int) ∈ vtS := vtm 824 (by decide +kernel) (by decide +kernel)
theorem w9_822 : Cond.methodLink RX8 99 yX8_abs ∈ vtS := vtm 822 (by decide +kernel) (by decide +kernel)
theorem w9_823 : Cond.static yX8_abs ∈ vtS := vtm 823 (by decide +kernel) (by decide +kernel)
theorem w9_821 : Cond.code yX8_feels cX8_feels 10 (some .int) ∈ vtS := vtm 821 (by decide +kernel) (by decide +kernel)
theorem w9_818 : Cond.methodLink RX8 102 yX8_feels ∈ vtS := vtm 818 (by decide +kernel) (by decide +kernel)
theorem w9_820 : Cond.instanceMethod yX8_feels ∈ vtS := vtm 820 (by decide +kernel) (by decide +kernel)
theorem s9_21 : Cond.selects RX8 yX8_feels yX8_feels ∈ vtS := vtm 21 (by decide +kernel) (by decide +kernel)
theorem w9_827 : Cond.code yX8_way cX8_way 2 (some .int) ∈ vtS := vtm 827 (by decide +kernel) (by decide +kernel)
theorem w9_825 : Cond.methodLink RX8 106 yX8_way ∈ vtS := vtm 825 (by decide +kernel) (by decide +kernel)
theorem w9_826 : Cond.static yX8_way ∈ vtS := vtm 826 (by decide +kernel) (by decide +kernel)
theorem w9_813 : Cond.code yX8_all cX8_all 0 (some .int) ∈ vtS := vtm 813 (by decide +kernel) (by decide +kernel)
theorem w9_811 : Cond.methodLink RX8 110 yX8_all ∈ vtS := vtm 811 (by decide +kernel) (by decide +kernel)
theorem w9_812 : Cond.static yX8_all ∈ vtS := vtm 812 (by decide +kernel) (by decide +kernel)
theorem w9_817 : Cond.code yX8_draftBy cX8_draftBy 3 (some .int) ∈ vtS := vtm 817 (by decide +kernel) (by decide +kernel)
theorem w9_814 : Cond.methodLink RX8 113 yX8_draftBy ∈ vtS := vtm 814 (by decide +kernel) (by decide +kernel)
theorem w9_816 : Cond.instanceMethod yX8_draftBy ∈ vtS := vtm 816 (by decide +kernel) (by decide +kernel)
theorem s9_20 : Cond.selects RX8 yX8_draftBy yX8_draftBy ∈ vtS := vtm 20 (by decide +kernel) (by decide +kernel)
theorem w9_806 : Cond.code yX8_isOne cX8_isOne 2 (some .boolean) ∈ vtS := vtm 806 (by decide +kernel) (by decide +kernel)
theorem w9_803 : Cond.methodLink RX8 116 yX8_isOne ∈ vtS := vtm 803 (by decide +kernel) (by decide +kernel)
theorem w9_805 : Cond.instanceMethod yX8_isOne ∈ vtS := vtm 805 (by decide +kernel) (by decide +kernel)
theorem s9_18 : Cond.selects RX8 yX8_isOne yX8_isOne ∈ vtS := vtm 18 (by decide +kernel) (by decide +kernel)
theorem w9_810 : Cond.code yX8_draftOf cX8_draftOf 2 (some .int) ∈ vtS := vtm 810 (by decide +kernel) (by decide +kernel)
theorem w9_807 : Cond.methodLink RX8 119 yX8_draftOf ∈ vtS := vtm 807 (by decide +kernel) (by decide +kernel)
theorem w9_809 : Cond.instanceMethod yX8_draftOf ∈ vtS := vtm 809 (by decide +kernel) (by decide +kernel)
theorem s9_19 : Cond.selects RX8 yX8_draftOf yX8_draftOf ∈ vtS := vtm 19 (by decide +kernel) (by decide +kernel)
theorem w9_839 : Cond.code yX8_isPlace cX8_isPlace 3 (some .boolean) ∈ vtS := vtm 839 (by decide +kernel) (by decide +kernel)
theorem w9_836 : Cond.methodLink RX8 122 yX8_isPlace ∈ vtS := vtm 836 (by decide +kernel) (by decide +kernel)
theorem w9_838 : Cond.instanceMethod yX8_isPlace ∈ vtS := vtm 838 (by decide +kernel) (by decide +kernel)
theorem s9_22 : Cond.selects RX8 yX8_isPlace yX8_isPlace ∈ vtS := vtm 22 (by decide +kernel) (by decide +kernel)
theorem w9_843 : Cond.code yX8_whoAt cX8_whoAt 5 (some .int) ∈ vtS := vtm 843 (by decide +kernel) (by decide +kernel)
theorem w9_840 : Cond.methodLink RX8 126 yX8_whoAt ∈ vtS := vtm 840 (by decide +kernel) (by decide +kernel)
theorem w9_842 : Cond.instanceMethod yX8_whoAt ∈ vtS := vtm 842 (by decide +kernel) (by decide +kernel)
theorem s9_23 : Cond.selects RX8 yX8_whoAt yX8_whoAt ∈ vtS := vtm 23 (by decide +kernel) (by decide +kernel)
theorem w9_859 : Cond.code yX8_next cX8_next 5 (some .int) ∈ vtS := vtm 859 (by decide +kernel) (by decide +kernel)
theorem w9_856 : Cond.methodLink RX8 129 yX8_next ∈ vtS := vtm 856 (by decide +kernel) (by decide +kernel)
theorem w9_858 : Cond.instanceMethod yX8_next ∈ vtS := vtm 858 (by decide +kernel) (by decide +kernel)
theorem s9_26 : Cond.selects RX8 yX8_next yX8_next ∈ vtS := vtm 26 (by decide +kernel) (by decide +kernel)
theorem w9_851 : Cond.code yX8_keeps cX8_keeps 2 none ∈ vtS := vtm 851 (by decide +kernel) (by decide +kernel)
theorem w9_848 : Cond.methodLink RX8 132 yX8_keeps ∈ vtS := vtm 848 (by decide +kernel) (by decide +kernel)
theorem w9_850 : Cond.instanceMethod yX8_keeps ∈ vtS := vtm 850 (by decide +kernel) (by decide +kernel)
theorem s9_24 : Cond.selects RX8 yX8_keeps yX8_keeps ∈ vtS := vtm 24 (by decide +kernel) (by decide +kernel)
theorem w9_855 : Cond.code yX8_passes cX8_passes 4 (some .int) ∈ vtS := vtm 855 (by decide +kernel) (by decide +kernel)
theorem w9_852 : Cond.methodLink RX8 135 yX8_passes ∈ vtS := vtm 852 (by decide +kernel) (by decide +kernel)
theorem w9_854 : Cond.instanceMethod yX8_passes ∈ vtS := vtm 854 (by decide +kernel) (by decide +kernel)
theorem s9_25 : Cond.selects RX8 yX8_passes yX8_passes ∈ vtS := vtm 25 (by decide +kernel) (by decide +kernel)
theorem w9_870 : Cond.code yX8_eastBy cX8_eastBy 1 (some .int) ∈ vtS := vtm 870 (by decide +kernel) (by decide +kernel)
theorem w9_868 : Cond.methodLink RX8 138 yX8_eastBy ∈ vtS := vtm 868 (by decide +kernel) (by decide +kernel)
theorem w9_869 : Cond.static yX8_eastBy ∈ vtS := vtm 869 (by decide +kernel) (by decide +kernel)
theorem w9_873 : Cond.code yX8_southBy cX8_southBy 1 (some .int) ∈ vtS := vtm 873 (by decide +kernel) (by decide +kernel)
theorem w9_871 : Cond.methodLink RX8 141 yX8_southBy ∈ vtS := vtm 871 (by decide +kernel) (by decide +kernel)
theorem w9_872 : Cond.static yX8_southBy ∈ vtS := vtm 872 (by decide +kernel) (by decide +kernel)
theorem w9_867 : Cond.code yX8_mayWalk cX8_mayWalk 5 (some .boolean) ∈ vtS := vtm 867 (by decide +kernel) (by decide +kernel)
theorem w9_864 : Cond.methodLink RX8 144 yX8_mayWalk ∈ vtS := vtm 864 (by decide +kernel) (by decide +kernel)
theorem w9_866 : Cond.instanceMethod yX8_mayWalk ∈ vtS := vtm 866 (by decide +kernel) (by decide +kernel)
theorem s9_27 : Cond.selects RX8 yX8_mayWalk yX8_mayWalk ∈ vtS := vtm 27 (by decide +kernel) (by decide +kernel)
theorem w9_877 : Cond.code yX8_goes cX8_goes 3 none ∈ vtS := vtm 877 (by decide +kernel) (by decide +kernel)
theorem w9_874 : Cond.methodLink RX8 147 yX8_goes ∈ vtS := vtm 874 (by decide +kernel) (by decide +kernel)
theorem w9_876 : Cond.instanceMethod yX8_goes ∈ vtS := vtm 876 (by decide +kernel) (by decide +kernel)
theorem s9_28 : Cond.selects RX8 yX8_goes yX8_goes ∈ vtS := vtm 28 (by decide +kernel) (by decide +kernel)
theorem w9_893 : Cond.code yX8_towardOf cX8_towardOf 5 (some .int) ∈ vtS := vtm 893 (by decide +kernel) (by decide +kernel)
theorem w9_890 : Cond.methodLink RX8 151 yX8_towardOf ∈ vtS := vtm 890 (by decide +kernel) (by decide +kernel)
theorem w9_892 : Cond.instanceMethod yX8_towardOf ∈ vtS := vtm 892 (by decide +kernel) (by decide +kernel)
theorem s9_29 : Cond.selects RX8 yX8_towardOf yX8_towardOf ∈ vtS := vtm 29 (by decide +kernel) (by decide +kernel)
theorem w9_909 : Cond.code yX8_holds cX8_holds 2 none ∈ vtS := vtm 909 (by decide +kernel) (by decide +kernel)
theorem w9_906 : Cond.methodLink RX8 154 yX8_holds ∈ vtS := vtm 906 (by decide +kernel) (by decide +kernel)
theorem w9_908 : Cond.instanceMethod yX8_holds ∈ vtS := vtm 908 (by decide +kernel) (by decide +kernel)
theorem s9_31 : Cond.selects RX8 yX8_holds yX8_holds ∈ vtS := vtm 31 (by decide +kernel) (by decide +kernel)
theorem w9_913 : Cond.code yX8_lets cX8_lets 2 none ∈ vtS := vtm 913 (by decide +kernel) (by decide +kernel)
theorem w9_910 : Cond.methodLink RX8 157 yX8_lets ∈ vtS := vtm 910 (by decide +kernel) (by decide +kernel)
theorem w9_912 : Cond.instanceMethod yX8_lets ∈ vtS := vtm 912 (by decide +kernel) (by decide +kernel)
theorem s9_32 : Cond.selects RX8 yX8_lets yX8_lets ∈ vtS := vtm 32 (by decide +kernel) (by decide +kernel)
theorem w9_905 : Cond.code yX8_behindOf cX8_behindOf 4 (some .int) ∈ vtS := vtm 905 (by decide +kernel) (by decide +kernel)
theorem w9_902 : Cond.methodLink RX8 160 yX8_behindOf ∈ vtS := vtm 902 (by decide +kernel) (by decide +kernel)
theorem w9_904 : Cond.instanceMethod yX8_behindOf ∈ vtS := vtm 904 (by decide +kernel) (by decide +kernel)
theorem s9_30 : Cond.selects RX8 yX8_behindOf yX8_behindOf ∈ vtS := vtm 30 (by decide +kernel) (by decide +kernel)
theorem w9_929 : Cond.code yX8_puts cX8_puts 3 none ∈ vtS := vtm 929 (by decide +kernel) (by decide +kernel)
theorem w9_926 : Cond.methodLink RX8 163 yX8_puts ∈ vtS := vtm 926 (by decide +kernel) (by decide +kernel)
theorem w9_928 : Cond.instanceMethod yX8_puts ∈ vtS := vtm 928 (by decide +kernel) (by decide +kernel)
theorem s9_34 : Cond.selects RX8 yX8_puts yX8_puts ∈ vtS := vtm 34 (by decide +kernel) (by decide +kernel)
theorem w9_933 : Cond.code yX8_beside cX8_beside 5 (some .int) ∈ vtS := vtm 933 (by decide +kernel) (by decide +kernel)
theorem w9_930 : Cond.methodLink RX8 166 yX8_beside ∈ vtS := vtm 930 (by decide +kernel) (by decide +kernel)
theorem w9_932 : Cond.instanceMethod yX8_beside ∈ vtS := vtm 932 (by decide +kernel) (by decide +kernel)
theorem s9_35 : Cond.selects RX8 yX8_beside yX8_beside ∈ vtS := vtm 35 (by decide +kernel) (by decide +kernel)
theorem w9_925 : Cond.code yX8_measures cX8_measures 7 none ∈ vtS := vtm 925 (by decide +kernel) (by decide +kernel)
theorem w9_922 : Cond.methodLink RX8 169 yX8_measures ∈ vtS := vtm 922 (by decide +kernel) (by decide +kernel)
theorem w9_924 : Cond.instanceMethod yX8_measures ∈ vtS := vtm 924 (by decide +kernel) (by decide +kernel)
theorem s9_33 : Cond.selects RX8 yX8_measures yX8_measures ∈ vtS := vtm 33 (by decide +kernel) (by decide +kernel)
theorem w9_949 : Cond.code yX8_leans cX8_leans 3 (some .int) ∈ vtS := vtm 949 (by decide +kernel) (by decide +kernel)
theorem w9_946 : Cond.methodLink RX8 172 yX8_leans ∈ vtS := vtm 946 (by decide +kernel) (by decide +kernel)
theorem w9_948 : Cond.instanceMethod yX8_leans ∈ vtS := vtm 948 (by decide +kernel) (by decide +kernel)
theorem s9_37 : Cond.selects RX8 yX8_leans yX8_leans ∈ vtS := vtm 37 (by decide +kernel) (by decide +kernel)
theorem w9_953 : Cond.code yX8_isMarried cX8_isMarried 5 (some .boolean) ∈ vtS := vtm 953 (by decide +kernel) (by decide +kernel)
theorem w9_950 : Cond.methodLink RX8 175 yX8_isMarried ∈ vtS := vtm 950 (by decide +kernel) (by decide +kernel)
theorem w9_952 : Cond.instanceMethod yX8_isMarried ∈ vtS := vtm 952 (by decide +kernel) (by decide +kernel)
theorem s9_38 : Cond.selects RX8 yX8_isMarried yX8_isMarried ∈ vtS := vtm 38 (by decide +kernel) (by decide +kernel)
theorem w9_945 : Cond.code yX8_marries cX8_marries 6 (some .boolean) ∈ vtS := vtm 945 (by decide +kernel) (by decide +kernel)
theorem w9_942 : Cond.methodLink RX8 178 yX8_marries ∈ vtS := vtm 942 (by decide +kernel) (by decide +kernel)
theorem w9_944 : Cond.instanceMethod yX8_marries ∈ vtS := vtm 944 (by decide +kernel) (by decide +kernel)
theorem s9_36 : Cond.selects RX8 yX8_marries yX8_marries ∈ vtS := vtm 36 (by decide +kernel) (by decide +kernel)
theorem w9_984 : Cond.code yX8_turn cX8_turn 6 none ∈ vtS := vtm 984 (by decide +kernel) (by decide +kernel)
theorem w9_981 : Cond.methodLink RX8 187 yX8_turn ∈ vtS := vtm 981 (by decide +kernel) (by decide +kernel)
theorem w9_983 : Cond.instanceMethod yX8_turn ∈ vtS := vtm 983 (by decide +kernel) (by decide +kernel)
theorem s9_39 : Cond.selects RX8 yX8_turn yX8_turn ∈ vtS := vtm 39 (by decide +kernel) (by decide +kernel)
theorem w9_56 : Cond.classLink RL 7 "HeartVanes" ∈ vtS := vtm 56 (by decide +kernel) (by decide +kernel)
theorem w9_60 : Cond.code yX7_init cX7_init 2 none ∈ vtS := vtm 60 (by decide +kernel) (by decide +kernel)
theorem w9_58 : Cond.methodLink RL 9 yX7_init ∈ vtS := vtm 58 (by decide +kernel) (by decide +kernel)
theorem w9_59 : Cond.instanceMethod yX7_init ∈ vtS := vtm 59 (by decide +kernel) (by decide +kernel)
theorem w9_686 : Cond.classLink RL 10 "HeartVanesModel" ∈ vtS := vtm 686 (by decide +kernel) (by decide +kernel)
theorem w9_690 : Cond.code yX8_init cX8_init 1 none ∈ vtS := vtm 690 (by decide +kernel) (by decide +kernel)
theorem w9_688 : Cond.methodLink RL 12 yX8_init ∈ vtS := vtm 688 (by decide +kernel) (by decide +kernel)
theorem w9_689 : Cond.instanceMethod yX8_init ∈ vtS := vtm 689 (by decide +kernel) (by decide +kernel)
theorem w9_375 : Cond.code yX7_write cX7_write 2 (some .int) ∈ vtS := vtm 375 (by decide +kernel) (by decide +kernel)
theorem w9_372 : Cond.methodLink RL 13 yX7_write ∈ vtS := vtm 372 (by decide +kernel) (by decide +kernel)
theorem w9_373 : Cond.instanceMethod yX7_write ∈ vtS := vtm 373 (by decide +kernel) (by decide +kernel)
theorem w9_374 : Cond.selects RX7 yX7_write yX7_write ∈ vtS := vtm 374 (by decide +kernel) (by decide +kernel)
theorem w9_756 : Cond.code yX8_write cX8_write 2 (some .int) ∈ vtS := vtm 756 (by decide +kernel) (by decide +kernel)
theorem w9_753 : Cond.methodLink RL 17 yX8_write ∈ vtS := vtm 753 (by decide +kernel) (by decide +kernel)
theorem w9_754 : Cond.instanceMethod yX8_write ∈ vtS := vtm 754 (by decide +kernel) (by decide +kernel)
theorem w9_755 : Cond.selects RX8 yX8_write yX8_write ∈ vtS := vtm 755 (by decide +kernel) (by decide +kernel)
theorem w9_379 : Cond.code yX7_wipe cX7_wipe 2 (some .int) ∈ vtS := vtm 379 (by decide +kernel) (by decide +kernel)
theorem w9_376 : Cond.methodLink RL 18 yX7_wipe ∈ vtS := vtm 376 (by decide +kernel) (by decide +kernel)
theorem w9_377 : Cond.instanceMethod yX7_wipe ∈ vtS := vtm 377 (by decide +kernel) (by decide +kernel)
theorem w9_378 : Cond.selects RX7 yX7_wipe yX7_wipe ∈ vtS := vtm 378 (by decide +kernel) (by decide +kernel)
theorem w9_763 : Cond.code yX8_wipe cX8_wipe 2 (some .int) ∈ vtS := vtm 763 (by decide +kernel) (by decide +kernel)
theorem w9_760 : Cond.methodLink RL 22 yX8_wipe ∈ vtS := vtm 760 (by decide +kernel) (by decide +kernel)
theorem w9_761 : Cond.instanceMethod yX8_wipe ∈ vtS := vtm 761 (by decide +kernel) (by decide +kernel)
theorem w9_762 : Cond.selects RX8 yX8_wipe yX8_wipe ∈ vtS := vtm 762 (by decide +kernel) (by decide +kernel)
theorem w9_383 : Cond.code yX7_fault cX7_fault 1 (some .int) ∈ vtS := vtm 383 (by decide +kernel) (by decide +kernel)
theorem w9_380 : Cond.methodLink RL 23 yX7_fault ∈ vtS := vtm 380 (by decide +kernel) (by decide +kernel)
theorem w9_381 : Cond.instanceMethod yX7_fault ∈ vtS := vtm 381 (by decide +kernel) (by decide +kernel)
theorem w9_382 : Cond.selects RX7 yX7_fault yX7_fault ∈ vtS := vtm 382 (by decide +kernel) (by decide +kernel)
theorem w9_767 : Cond.code yX8_fault cX8_fault 1 (some .int) ∈ vtS := vtm 767 (by decide +kernel) (by decide +kernel)
theorem w9_764 : Cond.methodLink RL 26 yX8_fault ∈ vtS := vtm 764 (by decide +kernel) (by decide +kernel)
theorem w9_765 : Cond.instanceMethod yX8_fault ∈ vtS := vtm 765 (by decide +kernel) (by decide +kernel)
theorem w9_766 : Cond.selects RX8 yX8_fault yX8_fault ∈ vtS := vtm 766 (by decide +kernel) (by decide +kernel)
theorem w9_387 : Cond.code yX7_lay cX7_lay 1 (some .int) ∈ vtS := vtm 387 (by decide +kernel) (by decide +kernel)
theorem w9_384 : Cond.methodLink RL 27 yX7_lay ∈ vtS := vtm 384 (by decide +kernel) (by decide +kernel)
theorem w9_385 : Cond.instanceMethod yX7_lay ∈ vtS := vtm 385 (by decide +kernel) (by decide +kernel)
theorem w9_386 : Cond.selects RX7 yX7_lay yX7_lay ∈ vtS := vtm 386 (by decide +kernel) (by decide +kernel)
theorem w9_798 : Cond.code yX8_lay cX8_lay 1 (some .int) ∈ vtS := vtm 798 (by decide +kernel) (by decide +kernel)
theorem w9_795 : Cond.methodLink RL 30 yX8_lay ∈ vtS := vtm 795 (by decide +kernel) (by decide +kernel)
theorem w9_796 : Cond.instanceMethod yX8_lay ∈ vtS := vtm 796 (by decide +kernel) (by decide +kernel)
theorem w9_797 : Cond.selects RX8 yX8_lay yX8_lay ∈ vtS := vtm 797 (by decide +kernel) (by decide +kernel)
theorem w9_406 : Cond.code yX7_person cX7_person 3 (some .int) ∈ vtS := vtm 406 (by decide +kernel) (by decide +kernel)
theorem w9_403 : Cond.methodLink RL 31 yX7_person ∈ vtS := vtm 403 (by decide +kernel) (by decide +kernel)
theorem w9_404 : Cond.instanceMethod yX7_person ∈ vtS := vtm 404 (by decide +kernel) (by decide +kernel)
theorem w9_405 : Cond.selects RX7 yX7_person yX7_person ∈ vtS := vtm 405 (by decide +kernel) (by decide +kernel)
theorem w9_802 : Cond.code yX8_person cX8_person 3 (some .int) ∈ vtS := vtm 802 (by decide +kernel) (by decide +kernel)
theorem w9_799 : Cond.methodLink RL 35 yX8_person ∈ vtS := vtm 799 (by decide +kernel) (by decide +kernel)
theorem w9_800 : Cond.instanceMethod yX8_person ∈ vtS := vtm 800 (by decide +kernel) (by decide +kernel)
theorem w9_801 : Cond.selects RX8 yX8_person yX8_person ∈ vtS := vtm 801 (by decide +kernel) (by decide +kernel)
theorem w9_444 : Cond.code yX7_leaning cX7_leaning 3 (some .int) ∈ vtS := vtm 444 (by decide +kernel) (by decide +kernel)
theorem w9_441 : Cond.methodLink RL 36 yX7_leaning ∈ vtS := vtm 441 (by decide +kernel) (by decide +kernel)
theorem w9_442 : Cond.instanceMethod yX7_leaning ∈ vtS := vtm 442 (by decide +kernel) (by decide +kernel)
theorem w9_443 : Cond.selects RX7 yX7_leaning yX7_leaning ∈ vtS := vtm 443 (by decide +kernel) (by decide +kernel)
theorem w9_831 : Cond.code yX8_leaning cX8_leaning 3 (some .int) ∈ vtS := vtm 831 (by decide +kernel) (by decide +kernel)
theorem w9_828 : Cond.methodLink RL 39 yX8_leaning ∈ vtS := vtm 828 (by decide +kernel) (by decide +kernel)
theorem w9_829 : Cond.instanceMethod yX8_leaning ∈ vtS := vtm 829 (by decide +kernel) (by decide +kernel)
theorem w9_830 : Cond.selects RX8 yX8_leaning yX8_leaning ∈ vtS := vtm 830 (by decide +kernel) (by decide +kernel)
theorem w9_450 : Cond.code yX7_place cX7_place 3 (some .int) ∈ vtS := vtm 450 (by decide +kernel) (by decide +kernel)
theorem w9_447 : Cond.methodLink RL 40 yX7_place ∈ vtS := vtm 447 (by decide +kernel) (by decide +kernel)
theorem w9_448 : Cond.instanceMethod yX7_place ∈ vtS := vtm 448 (by decide +kernel) (by decide +kernel)
theorem w9_449 : Cond.selects RX7 yX7_place yX7_place ∈ vtS := vtm 449 (by decide +kernel) (by decide +kernel)
theorem w9_835 : Cond.code yX8_place cX8_place 3 (some .int) ∈ vtS := vtm 835 (by decide +kernel) (by decide +kernel)
theorem w9_832 : Cond.methodLink RL 43 yX8_place ∈ vtS := vtm 832 (by decide +kernel) (by decide +kernel)
theorem w9_833 : Cond.instanceMethod yX8_place ∈ vtS := vtm 833 (by decide +kernel) (by decide +kernel)
theorem w9_834 : Cond.selects RX8 yX8_place yX8_place ∈ vtS := vtm 834 (by decide +kernel) (by decide +kernel)
theorem w9_456 : Cond.code yX7_pass cX7_pass 3 (some .int) ∈ vtS := vtm 456 (by decide +kernel) (by decide +kernel)
theorem w9_453 : Cond.methodLink RL 44 yX7_pass ∈ vtS := vtm 453 (by decide +kernel) (by decide +kernel)
theorem w9_454 : Cond.instanceMethod yX7_pass ∈ vtS := vtm 454 (by decide +kernel) (by decide +kernel)
theorem w9_455 : Cond.selects RX7 yX7_pass yX7_pass ∈ vtS := vtm 455 (by decide +kernel) (by decide +kernel)
theorem w9_847 : Cond.code yX8_pass cX8_pass 3 (some .int) ∈ vtS := vtm 847 (by decide +kernel) (by decide +kernel)
theorem w9_844 : Cond.methodLink RL 47 yX8_pass ∈ vtS := vtm 844 (by decide +kernel) (by decide +kernel)
theorem w9_845 : Cond.instanceMethod yX8_pass ∈ vtS := vtm 845 (by decide +kernel) (by decide +kernel)
theorem w9_846 : Cond.selects RX8 yX8_pass yX8_pass ∈ vtS := vtm 846 (by decide +kernel) (by decide +kernel)
theorem w9_479 : Cond.code yX7_walk cX7_walk 3 (some .int) ∈ vtS := vtm 479 (by decide +kernel) (by decide +kernel)
theorem w9_476 : Cond.methodLink RL 48 yX7_walk ∈ vtS := vtm 476 (by decide +kernel) (by decide +kernel)
theorem w9_477 : Cond.instanceMethod yX7_walk ∈ vtS := vtm 477 (by decide +kernel) (by decide +kernel)
theorem w9_478 : Cond.selects RX7 yX7_walk yX7_walk ∈ vtS := vtm 478 (by decide +kernel) (by decide +kernel)
theorem w9_863 : Cond.code yX8_walk cX8_walk 3 (some .int) ∈ vtS := vtm 863 (by decide +kernel) (by decide +kernel)
theorem w9_860 : Cond.methodLink RL 51 yX8_walk ∈ vtS := vtm 860 (by decide +kernel) (by decide +kernel)
theorem w9_861 : Cond.instanceMethod yX8_walk ∈ vtS := vtm 861 (by decide +kernel) (by decide +kernel)
theorem w9_862 : Cond.selects RX8 yX8_walk yX8_walk ∈ vtS := vtm 862 (by decide +kernel) (by decide +kernel)
theorem w9_505 : Cond.code yX7_lean cX7_lean 5 (some .int) ∈ vtS := vtm 505 (by decide +kernel) (by decide +kernel)
theorem w9_502 : Cond.methodLink RL 52 yX7_lean ∈ vtS := vtm 502 (by decide +kernel) (by decide +kernel)
theorem w9_503 : Cond.instanceMethod yX7_lean ∈ vtS := vtm 503 (by decide +kernel) (by decide +kernel)
theorem w9_504 : Cond.selects RX7 yX7_lean yX7_lean ∈ vtS := vtm 504 (by decide +kernel) (by decide +kernel)
theorem w9_881 : Cond.code yX8_lean cX8_lean 5 (some .int) ∈ vtS := vtm 881 (by decide +kernel) (by decide +kernel)
theorem w9_878 : Cond.methodLink RL 56 yX8_lean ∈ vtS := vtm 878 (by decide +kernel) (by decide +kernel)
theorem w9_879 : Cond.instanceMethod yX8_lean ∈ vtS := vtm 879 (by decide +kernel) (by decide +kernel)
theorem w9_880 : Cond.selects RX8 yX8_lean yX8_lean ∈ vtS := vtm 880 (by decide +kernel) (by decide +kernel)
theorem w9_510 : Cond.code yX7_undo cX7_undo 1 (some .int) ∈ vtS := vtm 510 (by decide +kernel) (by decide +kernel)
theorem w9_507 : Cond.methodLink RL 57 yX7_undo ∈ vtS := vtm 507 (by decide +kernel) (by decide +kernel)
theorem w9_508 : Cond.instanceMethod yX7_undo ∈ vtS := vtm 508 (by decide +kernel) (by decide +kernel)
theorem w9_509 : Cond.selects RX7 yX7_undo yX7_undo ∈ vtS := vtm 509 (by decide +kernel) (by decide +kernel)
theorem w9_885 : Cond.code yX8_undo cX8_undo 2 (some .int) ∈ vtS := vtm 885 (by decide +kernel) (by decide +kernel)
theorem w9_882 : Cond.methodLink RL 60 yX8_undo ∈ vtS := vtm 882 (by decide +kernel) (by decide +kernel)
theorem w9_883 : Cond.instanceMethod yX8_undo ∈ vtS := vtm 883 (by decide +kernel) (by decide +kernel)
theorem w9_884 : Cond.selects RX8 yX8_undo yX8_undo ∈ vtS := vtm 884 (by decide +kernel) (by decide +kernel)
theorem w9_518 : Cond.code yX7_toward cX7_toward 4 (some .int) ∈ vtS := vtm 518 (by decide +kernel) (by decide +kernel)
theorem w9_515 : Cond.methodLink RL 61 yX7_toward ∈ vtS := vtm 515 (by decide +kernel) (by decide +kernel)
theorem w9_516 : Cond.instanceMethod yX7_toward ∈ vtS := vtm 516 (by decide +kernel) (by decide +kernel)
theorem w9_517 : Cond.selects RX7 yX7_toward yX7_toward ∈ vtS := vtm 517 (by decide +kernel) (by decide +kernel)
theorem w9_889 : Cond.code yX8_toward cX8_toward 2 (some .int) ∈ vtS := vtm 889 (by decide +kernel) (by decide +kernel)
theorem w9_886 : Cond.methodLink RL 64 yX8_toward ∈ vtS := vtm 886 (by decide +kernel) (by decide +kernel)
theorem w9_887 : Cond.instanceMethod yX8_toward ∈ vtS := vtm 887 (by decide +kernel) (by decide +kernel)
theorem w9_888 : Cond.selects RX8 yX8_toward yX8_toward ∈ vtS := vtm 888 (by decide +kernel) (by decide +kernel)
theorem w9_526 : Cond.code yX7_looked cX7_looked 6 (some .int) ∈ vtS := vtm 526 (by decide +kernel) (by decide +kernel)
theorem w9_523 : Cond.methodLink RL 65 yX7_looked ∈ vtS := vtm 523 (by decide +kernel) (by decide +kernel)
theorem w9_524 : Cond.instanceMethod yX7_looked ∈ vtS := vtm 524 (by decide +kernel) (by decide +kernel)
theorem w9_525 : Cond.selects RX7 yX7_looked yX7_looked ∈ vtS := vtm 525 (by decide +kernel) (by decide +kernel)
theorem w9_897 : Cond.code yX8_looked cX8_looked 7 (some .int) ∈ vtS := vtm 897 (by decide +kernel) (by decide +kernel)
theorem w9_894 : Cond.methodLink RL 68 yX8_looked ∈ vtS := vtm 894 (by decide +kernel) (by decide +kernel)
theorem w9_895 : Cond.instanceMethod yX8_looked ∈ vtS := vtm 895 (by decide +kernel) (by decide +kernel)
theorem w9_896 : Cond.selects RX8 yX8_looked yX8_looked ∈ vtS := vtm 896 (by decide +kernel) (by decide +kernel)
theorem w9_535 : Cond.code yX7_behind cX7_behind 3 (some .int) ∈ vtS := vtm 535 (by decide +kernel) (by decide +kernel)
theorem w9_532 : Cond.methodLink RL 69 yX7_behind ∈ vtS := vtm 532 (by decide +kernel) (by decide +kernel)
theorem w9_533 : Cond.instanceMethod yX7_behind ∈ vtS := vtm 533 (by decide +kernel) (by decide +kernel)
theorem w9_534 : Cond.selects RX7 yX7_behind yX7_behind ∈ vtS := vtm 534 (by decide +kernel) (by decide +kernel)
theorem w9_901 : Cond.code yX8_behind cX8_behind 3 (some .int) ∈ vtS := vtm 901 (by decide +kernel) (by decide +kernel)
theorem w9_898 : Cond.methodLink RL 72 yX8_behind ∈ vtS := vtm 898 (by decide +kernel) (by decide +kernel)
theorem w9_899 : Cond.instanceMethod yX8_behind ∈ vtS := vtm 899 (by decide +kernel) (by decide +kernel)
theorem w9_900 : Cond.selects RX8 yX8_behind yX8_behind ∈ vtS := vtm 900 (by decide +kernel) (by decide +kernel)
theorem w9_543 : Cond.code yX7_settled cX7_settled 2 (some .int) ∈ vtS := vtm 543 (by decide +kernel) (by decide +kernel)
theorem w9_540 : Cond.methodLink RL 73 yX7_settled ∈ vtS := vtm 540 (by decide +kernel) (by decide +kernel)
theorem w9_541 : Cond.instanceMethod yX7_settled ∈ vtS := vtm 541 (by decide +kernel) (by decide +kernel)
theorem w9_542 : Cond.selects RX7 yX7_settled yX7_settled ∈ vtS := vtm 542 (by decide +kernel) (by decide +kernel)
theorem w9_917 : Cond.code yX8_settled cX8_settled 2 (some .int) ∈ vtS := vtm 917 (by decide +kernel) (by decide +kernel)
theorem w9_914 : Cond.methodLink RL 76 yX8_settled ∈ vtS := vtm 914 (by decide +kernel) (by decide +kernel)
theorem w9_915 : Cond.instanceMethod yX8_settled ∈ vtS := vtm 915 (by decide +kernel) (by decide +kernel)
theorem w9_916 : Cond.selects RX8 yX8_settled yX8_settled ∈ vtS := vtm 916 (by decide +kernel) (by decide +kernel)
theorem w9_547 : Cond.code yX7_steps cX7_steps 4 (some .int) ∈ vtS := vtm 547 (by decide +kernel) (by decide +kernel)
theorem w9_544 : Cond.methodLink RL 77 yX7_steps ∈ vtS := vtm 544 (by decide +kernel) (by decide +kernel)
theorem w9_545 : Cond.instanceMethod yX7_steps ∈ vtS := vtm 545 (by decide +kernel) (by decide +kernel)
theorem w9_546 : Cond.selects RX7 yX7_steps yX7_steps ∈ vtS := vtm 546 (by decide +kernel) (by decide +kernel)
theorem w9_921 : Cond.code yX8_steps cX8_steps 7 (some .int) ∈ vtS := vtm 921 (by decide +kernel) (by decide +kernel)
theorem w9_918 : Cond.methodLink RL 80 yX8_steps ∈ vtS := vtm 918 (by decide +kernel) (by decide +kernel)
theorem w9_919 : Cond.instanceMethod yX8_steps ∈ vtS := vtm 919 (by decide +kernel) (by decide +kernel)
theorem w9_920 : Cond.selects RX8 yX8_steps yX8_steps ∈ vtS := vtm 920 (by decide +kernel) (by decide +kernel)
theorem w9_576 : Cond.code yX7_stand cX7_stand 9 (some .int) ∈ vtS := vtm 576 (by decide +kernel) (by decide +kernel)
theorem w9_573 : Cond.methodLink RL 81 yX7_stand ∈ vtS := vtm 573 (by decide +kernel) (by decide +kernel)
theorem w9_574 : Cond.instanceMethod yX7_stand ∈ vtS := vtm 574 (by decide +kernel) (by decide +kernel)
theorem w9_575 : Cond.selects RX7 yX7_stand yX7_stand ∈ vtS := vtm 575 (by decide +kernel) (by decide +kernel)
theorem w9_937 : Cond.code yX8_stand cX8_stand 10 (some .int) ∈ vtS := vtm 937 (by decide +kernel) (by decide +kernel)
theorem w9_934 : Cond.methodLink RL 85 yX8_stand ∈ vtS := vtm 934 (by decide +kernel) (by decide +kernel)
theorem w9_935 : Cond.instanceMethod yX8_stand ∈ vtS := vtm 935 (by decide +kernel) (by decide +kernel)
theorem w9_936 : Cond.selects RX8 yX8_stand yX8_stand ∈ vtS := vtm 936 (by decide +kernel) (by decide +kernel)
theorem w9_585 : Cond.code yX7_marry cX7_marry 2 (some .int) ∈ vtS := vtm 585 (by decide +kernel) (by decide +kernel)
theorem w9_582 : Cond.methodLink RL 86 yX7_marry ∈ vtS := vtm 582 (by decide +kernel) (by decide +kernel)
theorem w9_583 : Cond.instanceMethod yX7_marry ∈ vtS := vtm 583 (by decide +kernel) (by decide +kernel)
theorem w9_584 : Cond.selects RX7 yX7_marry yX7_marry ∈ vtS := vtm 584 (by decide +kernel) (by decide +kernel)
theorem w9_941 : Cond.code yX8_marry cX8_marry 4 (some .int) ∈ vtS := vtm 941 (by decide +kernel) (by decide +kernel)
theorem w9_938 : Cond.methodLink RL 89 yX8_marry ∈ vtS := vtm 938 (by decide +kernel) (by decide +kernel)
theorem w9_939 : Cond.instanceMethod yX8_marry ∈ vtS := vtm 939 (by decide +kernel) (by decide +kernel)
theorem w9_940 : Cond.selects RX8 yX8_marry yX8_marry ∈ vtS := vtm 940 (by decide +kernel) (by decide +kernel)
theorem w9_607 : Cond.code yX7_see cX7_see 4 (some .int) ∈ vtS := vtm 607 (by decide +kernel) (by decide +kernel)
theorem w9_604 : Cond.methodLink RL 90 yX7_see ∈ vtS := vtm 604 (by decide +kernel) (by decide +kernel)
theorem w9_605 : Cond.instanceMethod yX7_see ∈ vtS := vtm 605 (by decide +kernel) (by decide +kernel)
theorem w9_606 : Cond.selects RX7 yX7_see yX7_see ∈ vtS := vtm 606 (by decide +kernel) (by decide +kernel)
theorem w9_957 : Cond.code yX8_see cX8_see 4 (some .int) ∈ vtS := vtm 957 (by decide +kernel) (by decide +kernel)
theorem w9_954 : Cond.methodLink RL 93 yX8_see ∈ vtS := vtm 954 (by decide +kernel) (by decide +kernel)
theorem w9_955 : Cond.instanceMethod yX8_see ∈ vtS := vtm 955 (by decide +kernel) (by decide +kernel)
theorem w9_956 : Cond.selects RX8 yX8_see yX8_see ∈ vtS := vtm 956 (by decide +kernel) (by decide +kernel)
theorem w9_615 : Cond.code yX7_forget cX7_forget 2 (some .int) ∈ vtS := vtm 615 (by decide +kernel) (by decide +kernel)
theorem w9_612 : Cond.methodLink RL 94 yX7_forget ∈ vtS := vtm 612 (by decide +kernel) (by decide +kernel)
theorem w9_613 : Cond.instanceMethod yX7_forget ∈ vtS := vtm 613 (by decide +kernel) (by decide +kernel)
theorem w9_614 : Cond.selects RX7 yX7_forget yX7_forget ∈ vtS := vtm 614 (by decide +kernel) (by decide +kernel)
theorem w9_961 : Cond.code yX8_forget cX8_forget 2 (some .int) ∈ vtS := vtm 961 (by decide +kernel) (by decide +kernel)
theorem w9_958 : Cond.methodLink RL 97 yX8_forget ∈ vtS := vtm 958 (by decide +kernel) (by decide +kernel)
theorem w9_959 : Cond.instanceMethod yX8_forget ∈ vtS := vtm 959 (by decide +kernel) (by decide +kernel)
theorem w9_960 : Cond.selects RX8 yX8_forget yX8_forget ∈ vtS := vtm 960 (by decide +kernel) (by decide +kernel)
theorem w9_619 : Cond.code yX7_kinds cX7_kinds 5 (some .int) ∈ vtS := vtm 619 (by decide +kernel) (by decide +kernel)
theorem w9_616 : Cond.methodLink RL 98 yX7_kinds ∈ vtS := vtm 616 (by decide +kernel) (by decide +kernel)
theorem w9_617 : Cond.instanceMethod yX7_kinds ∈ vtS := vtm 617 (by decide +kernel) (by decide +kernel)
theorem w9_618 : Cond.selects RX7 yX7_kinds yX7_kinds ∈ vtS := vtm 618 (by decide +kernel) (by decide +kernel)
theorem w9_965 : Cond.code yX8_kinds cX8_kinds 7 (some .int) ∈ vtS := vtm 965 (by decide +kernel) (by decide +kernel)
theorem w9_962 : Cond.methodLink RL 101 yX8_kinds ∈ vtS := vtm 962 (by decide +kernel) (by decide +kernel)
theorem w9_963 : Cond.instanceMethod yX8_kinds ∈ vtS := vtm 963 (by decide +kernel) (by decide +kernel)
theorem w9_964 : Cond.selects RX8 yX8_kinds yX8_kinds ∈ vtS := vtm 964 (by decide +kernel) (by decide +kernel)
theorem w9_628 : Cond.code yX7_loves cX7_loves 5 (some .int) ∈ vtS := vtm 628 (by decide +kernel) (by decide +kernel)
theorem w9_625 : Cond.methodLink RL 102 yX7_loves ∈ vtS := vtm 625 (by decide +kernel) (by decide +kernel)
theorem w9_626 : Cond.instanceMethod yX7_loves ∈ vtS := vtm 626 (by decide +kernel) (by decide +kernel)
theorem w9_627 : Cond.selects RX7 yX7_loves yX7_loves ∈ vtS := vtm 627 (by decide +kernel) (by decide +kernel)
theorem w9_969 : Cond.code yX8_loves cX8_loves 7 (some .int) ∈ vtS := vtm 969 (by decide +kernel) (by decide +kernel)
theorem w9_966 : Cond.methodLink RL 105 yX8_loves ∈ vtS := vtm 966 (by decide +kernel) (by decide +kernel)
theorem w9_967 : Cond.instanceMethod yX8_loves ∈ vtS := vtm 967 (by decide +kernel) (by decide +kernel)
theorem w9_968 : Cond.selects RX8 yX8_loves yX8_loves ∈ vtS := vtm 968 (by decide +kernel) (by decide +kernel)
theorem w9_637 : Cond.code yX7_away cX7_away 9 (some .int) ∈ vtS := vtm 637 (by decide +kernel) (by decide +kernel)
theorem w9_634 : Cond.methodLink RL 106 yX7_away ∈ vtS := vtm 634 (by decide +kernel) (by decide +kernel)
theorem w9_635 : Cond.instanceMethod yX7_away ∈ vtS := vtm 635 (by decide +kernel) (by decide +kernel)
theorem w9_636 : Cond.selects RX7 yX7_away yX7_away ∈ vtS := vtm 636 (by decide +kernel) (by decide +kernel)
theorem w9_973 : Cond.code yX8_away cX8_away 10 (some .int) ∈ vtS := vtm 973 (by decide +kernel) (by decide +kernel)
theorem w9_970 : Cond.methodLink RL 109 yX8_away ∈ vtS := vtm 970 (by decide +kernel) (by decide +kernel)
theorem w9_971 : Cond.instanceMethod yX8_away ∈ vtS := vtm 971 (by decide +kernel) (by decide +kernel)
theorem w9_972 : Cond.selects RX8 yX8_away yX8_away ∈ vtS := vtm 972 (by decide +kernel) (by decide +kernel)
theorem w9_649 : Cond.code yX7_evening cX7_evening 6 (some .int) ∈ vtS := vtm 649 (by decide +kernel) (by decide +kernel)
theorem w9_646 : Cond.methodLink RL 110 yX7_evening ∈ vtS := vtm 646 (by decide +kernel) (by decide +kernel)
theorem w9_647 : Cond.instanceMethod yX7_evening ∈ vtS := vtm 647 (by decide +kernel) (by decide +kernel)
theorem w9_648 : Cond.selects RX7 yX7_evening yX7_evening ∈ vtS := vtm 648 (by decide +kernel) (by decide +kernel)
theorem w9_977 : Cond.code yX8_evening cX8_evening 8 (some .int) ∈ vtS := vtm 977 (by decide +kernel) (by decide +kernel)
theorem w9_974 : Cond.methodLink RL 113 yX8_evening ∈ vtS := vtm 974 (by decide +kernel) (by decide +kernel)
theorem w9_975 : Cond.instanceMethod yX8_evening ∈ vtS := vtm 975 (by decide +kernel) (by decide +kernel)
theorem w9_976 : Cond.selects RX8 yX8_evening yX8_evening ∈ vtS := vtm 976 (by decide +kernel) (by decide +kernel)
theorem w9_669 : Cond.code yX7_keep cX7_keep 1 (some .int) ∈ vtS := vtm 669 (by decide +kernel) (by decide +kernel)
theorem w9_666 : Cond.methodLink RL 114 yX7_keep ∈ vtS := vtm 666 (by decide +kernel) (by decide +kernel)
theorem w9_667 : Cond.instanceMethod yX7_keep ∈ vtS := vtm 667 (by decide +kernel) (by decide +kernel)
theorem w9_668 : Cond.selects RX7 yX7_keep yX7_keep ∈ vtS := vtm 668 (by decide +kernel) (by decide +kernel)
theorem w9_988 : Cond.code yX8_keep cX8_keep 2 (some .int) ∈ vtS := vtm 988 (by decide +kernel) (by decide +kernel)
theorem w9_985 : Cond.methodLink RL 117 yX8_keep ∈ vtS := vtm 985 (by decide +kernel) (by decide +kernel)
theorem w9_986 : Cond.instanceMethod yX8_keep ∈ vtS := vtm 986 (by decide +kernel) (by decide +kernel)
theorem w9_987 : Cond.selects RX8 yX8_keep yX8_keep ∈ vtS := vtm 987 (by decide +kernel) (by decide +kernel)
theorem w9_673 : Cond.code yX7_back cX7_back 1 (some .int) ∈ vtS := vtm 673 (by decide +kernel) (by decide +kernel)
theorem w9_670 : Cond.methodLink RL 118 yX7_back ∈ vtS := vtm 670 (by decide +kernel) (by decide +kernel)
theorem w9_671 : Cond.instanceMethod yX7_back ∈ vtS := vtm 671 (by decide +kernel) (by decide +kernel)
theorem w9_672 : Cond.selects RX7 yX7_back yX7_back ∈ vtS := vtm 672 (by decide +kernel) (by decide +kernel)
theorem w9_992 : Cond.code yX8_back cX8_back 2 (some .int) ∈ vtS := vtm 992 (by decide +kernel) (by decide +kernel)
theorem w9_989 : Cond.methodLink RL 121 yX8_back ∈ vtS := vtm 989 (by decide +kernel) (by decide +kernel)
theorem w9_990 : Cond.instanceMethod yX8_back ∈ vtS := vtm 990 (by decide +kernel) (by decide +kernel)
theorem w9_991 : Cond.selects RX8 yX8_back yX8_back ∈ vtS := vtm 991 (by decide +kernel) (by decide +kernel)
theorem w9_677 : Cond.code yX7_count cX7_count 2 (some .int) ∈ vtS := vtm 677 (by decide +kernel) (by decide +kernel)
theorem w9_674 : Cond.methodLink RL 122 yX7_count ∈ vtS := vtm 674 (by decide +kernel) (by decide +kernel)
theorem w9_675 : Cond.instanceMethod yX7_count ∈ vtS := vtm 675 (by decide +kernel) (by decide +kernel)
theorem w9_676 : Cond.selects RX7 yX7_count yX7_count ∈ vtS := vtm 676 (by decide +kernel) (by decide +kernel)
theorem w9_996 : Cond.code yX8_count cX8_count 6 (some .int) ∈ vtS := vtm 996 (by decide +kernel) (by decide +kernel)
theorem w9_993 : Cond.methodLink RL 125 yX8_count ∈ vtS := vtm 993 (by decide +kernel) (by decide +kernel)
theorem w9_994 : Cond.instanceMethod yX8_count ∈ vtS := vtm 994 (by decide +kernel) (by decide +kernel)
theorem w9_995 : Cond.selects RX8 yX8_count yX8_count ∈ vtS := vtm 995 (by decide +kernel) (by decide +kernel)
theorem w9_57 : Cond.instantiable RX7 10 ∈ vtS := vtm 57 (by decide +kernel) (by decide +kernel)
theorem w9_205 : Cond.instantiable RX0 1 ∈ vtS := vtm 205 (by decide +kernel) (by decide +kernel)
theorem w9_139 : Cond.instantiable RX1 3 ∈ vtS := vtm 139 (by decide +kernel) (by decide +kernel)
theorem w9_81 : Cond.instantiable RX2 1 ∈ vtS := vtm 81 (by decide +kernel) (by decide +kernel)
theorem w9_91 : Cond.instantiable RX3 9 ∈ vtS := vtm 91 (by decide +kernel) (by decide +kernel)
theorem w9_179 : Cond.instantiable RX4 6 ∈ vtS := vtm 179 (by decide +kernel) (by decide +kernel)
theorem w9_159 : Cond.instantiable RX5 4 ∈ vtS := vtm 159 (by decide +kernel) (by decide +kernel)
theorem w9_65 : Cond.instantiable RX6 2 ∈ vtS := vtm 65 (by decide +kernel) (by decide +kernel)
theorem w9_687 : Cond.instantiable RX8 16 ∈ vtS := vtm 687 (by decide +kernel) (by decide +kernel)
theorem w9_79 : Cond.arrayClass .int ∈ vtS := vtm 79 (by decide +kernel) (by decide +kernel)
theorem w9_425 : Cond.static Lib.Math.abs.name ∈ vtS := vtm 425 (by decide +kernel) (by decide +kernel)
theorem w9_426 : Cond.code Lib.Math.abs.name Lib.Math.abs.code 1 (some .int) ∈ vtS := vtm 426 (by decide +kernel) (by decide +kernel)
theorem w9_55 : Cond.initialized "java/lang/Math" ∈ vtS := vtm 55 (by decide +kernel) (by decide +kernel)
theorem w9_463 : Cond.static Lib.Math.min.name ∈ vtS := vtm 463 (by decide +kernel) (by decide +kernel)
theorem w9_464 : Cond.code Lib.Math.min.name Lib.Math.min.code 2 (some .int) ∈ vtS := vtm 464 (by decide +kernel) (by decide +kernel)
theorem w9_394 : Cond.native arraycopyName ∈ vtS := vtm 394 (by decide +kernel) (by decide +kernel)
theorem w9_393 : Cond.static arraycopyName ∈ vtS := vtm 393 (by decide +kernel) (by decide +kernel)
theorem w9_54 : Cond.initialized "java/lang/System" ∈ vtS := vtm 54 (by decide +kernel) (by decide +kernel)
theorem w9_62 : Cond.instanceMethod Lib.objectInit ∈ vtS := vtm 62 (by decide +kernel) (by decide +kernel)
theorem w9_63 : Cond.code Lib.objectInit ⟨#[0xb1]⟩ 1 none ∈ vtS := vtm 63 (by decide +kernel) (by decide +kernel)
theorem lX7_254 : Cond.constantLong RX7 254 7919 ∈ vtS := vtm 653 (by decide +kernel) (by decide +kernel)
theorem lX7_256 : Cond.constantLong RX7 256 6151 ∈ vtS := vtm 654 (by decide +kernel) (by decide +kernel)
theorem lX7_258 : Cond.constantLong RX7 258 65521 ∈ vtS := vtm 655 (by decide +kernel) (by decide +kernel)
theorem lX8_181 : Cond.constantLong RX8 181 7919 ∈ vtS := vtm 978 (by decide +kernel) (by decide +kernel)
theorem lX8_183 : Cond.constantLong RX8 183 6151 ∈ vtS := vtm 979 (by decide +kernel) (by decide +kernel)
theorem lX8_185 : Cond.constantLong RX8 185 65521 ∈ vtS := vtm 980 (by decide +kernel) (by decide +kernel)
end
section
/-! THE V LAYER: a judgement over the kit's W in which a heap is a list of cells (a reference is a place in it), locals and stack are lists, and a method's contract says what comes back and which heap. -/
abbrev VC : Type := List Int32 ⊕ (List (Option Nat) ⊕ (Nat × List Value))
abbrev VAd : Type := Nat → Nat × ClassId
abbrev VHp : Type := List VC
def mv (ad : VAd) : Value → Value
  | .ref k => .ref (ad k).1
  | v => v
def vcell (ad : VAd) (k : Nat) : VC → va_E
  | .inl xs => .inl ((ad k).2, xs.length, .inl (fun j => xs.getD j 0))
  | .inr (.inl rs) => .inl ((ad k).2, rs.length, .inr (.inr (.inr (.inr (fun j => (rs.getD j none).map (fun q => (ad q).1))))))
  | .inr (.inr o) => .inr (o.1, o.2.map (mv ad))
def vws (ad : VAd) (h : VHp) : va_W := h.mapIdx (fun k c => ((ad k).1, vcell ad k c))
theorem vws_get {ad : VAd} {h : VHp} {k : Nat} {c : VC} (hk : h[k]? = some c) : (vws ad h)[k]? = some ((ad k).1, vcell ad k c) := by
  simp [vws, List.getElem?_mapIdx, hk]
theorem vws_set {ad : VAd} {h : VHp} {k : Nat} {c : VC} : vws ad (h.set k c) = (vws ad h).set k ((ad k).1, vcell ad k c) := by
  apply List.ext_getElem?
  intro j
  simp only [vws, List.getElem?_mapIdx, List.getElem?_set, List.length_mapIdx]
  by_cases hj : k = j
  · subst hj
    by_cases hl : k < h.length <;> simp [hl]
  · simp [hj]
theorem vws_length (ad : VAd) (h : VHp) : (vws ad h).length = h.length := by simp [vws]
def vagree (z : Bool) (n : Nat) (ad ad' : VAd) : Prop := ∀ k, (z = true → k < n ∨ 1000000 ≤ k) → ad' k = ad k
theorem vagree.eq {n : Nat} {ad ad' : VAd} (h : vagree false n ad ad') : ad' = ad := funext fun k => h k (fun x => by cases x)
theorem vagree.rf {z : Bool} {n : Nat} {ad : VAd} : vagree z n ad ad := fun _ _ => rfl
theorem vagree.tr {z : Bool} {n n' : Nat} {a b c : VAd} (h1 : vagree z n a b) (h2 : vagree z n' b c) (h : n ≤ n') : vagree z n a c := fun k hk => by
  rw [h2 k (fun e => (hk e).elim (fun q => Or.inl (by omega)) Or.inr), h1 k hk]
def vtys (ad : VAd) (h : VHp) (tys : List (ClassId × FieldType)) : Prop := ∀ k, (∀ xs, h[k]? = some (.inl xs) → ((ad k).2, FieldType.int) ∈ tys) ∧ (∀ rs, h[k]? = some (.inr (.inl rs)) → ((ad k).2, FieldType.object "HeartVanes$Room") ∈ tys)
/-- the launch, the classes' numbers and places, the script -/
abbrev VG : Type := Launch × va_G × List Int32
def vea (k : Nat) : Int32 := match k with
  | 1 => 1
  | 3 => -1
  | _ => 0
def vso (k : Nat) : Int32 := match k with
  | 0 => -1
  | 2 => 1
  | _ => 0
def vtx : String := "r7,6;p0,0,0;p1,6,5;p2,3,2;p3,5,1;p0,1,4;p0,4,4;l0,1,0,5;l0,2,1,2;l1,0,0,9;l1,4,0,3;l2,3,0,7;l3,2,0,4;l3,5,1,6;l4,5,0,8;l5,4,0,2;l5,0,0,9;"
def vtb : List Int32 := [114,55,44,54,59,112,48,44,48,44,48,59,112,49,44,54,44,53,59,112,50,44,51,44,50,59,112,51,44,53,44,49,59,112,48,44,49,44,52,59,112,48,44,52,44,52,59,108,48,44,49,44,48,44,53,59,108,48,44,50,44,49,44,50,59,108,49,44,48,44,48,44,57,59,108,49,44,52,44,48,44,51,59,108,50,44,51,44,48,44,55,59,108,51,44,50,44,48,44,52,59,108,51,44,53,44,49,44,54,59,108,52,44,53,44,48,44,56,59,108,53,44,52,44,48,44,50,59,108,53,44,48,44,48,44,57,59]
/-- what nobody writes: the script (1000000), two rows of steps (1000001, 1000002), the first text (1000003) and its bytes (1000004), String's COMPACT_STRINGS -/
def VRO (g : VG) (ad : VAd) (A : Nat → Prop) (U : State) : Prop :=
  va_T .int (ad 1000000).1 g.2.2.length (fun j => .int (g.2.2.getD j 0)) A U U.heap ∧
  va_Z "HeartVanes" "EAST_BY_SIDE" "[I" (.ref (ad 1000001).1) A U U.heap ∧ va_T .int (ad 1000001).1 4 (fun j => .int (vea j)) A U U.heap ∧
  va_Z "HeartVanes" "SOUTH_BY_SIDE" "[I" (.ref (ad 1000002).1) A U U.heap ∧ va_T .int (ad 1000002).1 4 (fun j => .int (vso j)) A U U.heap ∧
  vk_R "HeartVanes" 69 vtx (ad 1000003).1 U ∧ va_O "java/lang/String" (ad 1000003).1 A U U.heap ∧
  va_OF "java/lang/String" "value" "[B" (.ref (ad 1000004).1) (ad 1000003).1 A U U.heap ∧ va_OF "java/lang/String" "coder" "B" (.int 0) (ad 1000003).1 A U U.heap ∧
  va_T .byte (ad 1000004).1 vtb.length (fun j => .int (vtb.getD j 0)) A U U.heap ∧ va_Z "java/lang/String" "COMPACT_STRINGS" "Z" (.int 1) A U U.heap ∧ va_AO "HeartVanes$Room" U ∧ ∀ w ∈ vNS, va_Nw w U
/-- the world: the classes, the cells, apart -/
def VWd (g : VG) (ad : VAd) (h : VHp) (U : State) (H : Heap) (A : Nat → Prop) : Prop :=
  (∃ tys, va_K g.2.1 vwCl tys U ∧ vtys ad h tys) ∧ va_P g.2.1 vwCl (vws ad h) H ∧ va_D A (vws ad h)
theorem VWd.moved {g : VG} {ad : VAd} {h : VHp} {U U' : State} {H : Heap} {A : Nat → Prop} (hvm : U.vm.Alike U'.vm) (w : VWd g ad h U H A) : VWd g ad h U' H A := by
  obtain ⟨⟨tys, h1, h2⟩, h3, h4⟩ := w
  exact ⟨⟨tys, h1.moved hvm, h2⟩, h3, h4⟩
/-- method: name, code, locals, what it returns -/
abbrev VM : Type := MethodName × ByteArray × Nat × Option FieldType
abbrev VPost : Type := Option Value → VHp → Prop
abbrev VK : Type := VG × VM × Nat × Bool × Nat × VPost
def VLR (ad : VAd) (nL : Nat) (ls : List (Option Value)) (lsr : Array Slot) : Prop := ls.length = nL ∧ lsr.size = nL ∧ lv_wf lsr ∧ ∀ (i : Nat) (v : Value), ls[i]? = some (some v) → lsr[i]? = some (.val (mv ad v))
def VCx (M : VM) (p : Program) (s : State) (m : MethodId) (args : Array Value) (meth : Method) (c : Code) : Prop :=
  p.tables.exec = Jvm.exec ∧ c.code = M.2.1 ∧ c.maxLocals = M.2.2.1 ∧ s.vm.findClass M.1.cls = some m.cls ∧ (∀ w ∈ vtS, w.before args s = true) ∧ meth.sig.returnType = M.2.2.2 ∧ meth.locks = false ∧ meth.name = M.1.name
def VRi (M : VM) (pc : Nat) (v : Option Value) : Prop :=
  (∃ x : Int32, v = some (.int x) ∧ decode M.2.1 pc = .ok (.ireturn, 1) ∧ ∃ ty, M.2.2.2 = some ty ∧ narrow ty (.int x) = .int x) ∨ (v = none ∧ decode M.2.1 pc = .ok (.return_, 1) ∧ M.2.2.2 = none)
def VRet (k : VK) (p : Program) (e : Env) (R : Room) (s : State) (m : MethodId) (args : Array Value) (below : List Frame) (meth : Method) (c : Code) (Q : State → Prop) (A : Nat → Prop) (ad0 : VAd) : Prop :=
  ∀ (ad : VAd) (h : VHp) (H : Heap) (locs : List Loc) (cells slots : Nat) (lsr : Array Slot) (pc : Nat) (v : Option Value),
    vagree k.2.2.2.1 k.2.2.2.2.1 ad0 ad → VWd k.1 ad h s H A → va_S A s.heap H locs → cells ≤ R.cells → slots ≤ R.slots → k.2.2.2.2.2 v h → k.2.2.2.2.1 ≤ h.length → VRi k.2.1 pc v →
    W p k.1.1 e R s m args below meth c H locs cells slots Q (F0 m pc lsr (v.toList.map (mv ad)))
def VFx (k : VK) (p : Program) (e : Env) (R : Room) (s : State) (m : MethodId) (args : Array Value) (below : List Frame) (meth : Method) (c : Code) (Q : State → Prop) (A : Nat → Prop) (ad0 : VAd) : Prop :=
  VCx k.2.1 p s m args meth c ∧ k.2.2.1 ≤ R.frames ∧ 80 * k.2.2.1 ≤ R.locals ∧ (∀ q, s.heap.size ≤ q → A q) ∧ VRet k p e R s m args below meth c Q A ad0
def VRl (k : VK) (b : Nat × Nat) (ls : List (Option Value)) (h : VHp) (R : Room) (s : State) (A : Nat → Prop) (ad0 ad : VAd) (H : Heap) (locs : List Loc) (cells slots : Nat) (lsr : Array Slot) : Prop :=
  vagree k.2.2.2.1 k.2.2.2.2.1 ad0 ad ∧ VRO k.1 ad A s ∧ VWd k.1 ad h s H A ∧ va_S A s.heap H locs ∧ VLR ad k.2.1.2.2.1 ls lsr ∧ cells + b.1 ≤ R.cells ∧ slots + b.2 ≤ R.slots ∧ k.2.2.2.2.1 ≤ h.length
/-- the machine, at pc of a method, with these locals, this stack and this heap, comes to the method's end as the contract says -/
def V (k : VK) (b : Nat × Nat) (pc : Nat) (ls : List (Option Value)) (st : List Value) (h : VHp) : Prop :=
  ∀ (p : Program) (e : Env) (R : Room) (s : State) (m : MethodId) (args : Array Value) (below : List Frame) (meth : Method) (c : Code) (Q : State → Prop) (A : Nat → Prop) (ad0 : VAd),
    VFx k p e R s m args below meth c Q A ad0 → ∀ (ad : VAd) (H : Heap) (locs : List Loc) (cells slots : Nat) (lsr : Array Slot), VRl k b ls h R s A ad0 ad H locs cells slots lsr →
    W p k.1.1 e R s m args below meth c H locs cells slots Q (F0 m pc lsr (st.map (mv ad)))
/-- a method's contract at these arguments and this heap: depth d, cells and slots that it may make -/
def vroom (d : Nat) (b : Nat × Nat) : Room := { frames := d, cells := b.1, slots := b.2, locals := 80 * d }
def VQ (g : VG) (z : Bool) (n : Nat) (Post : VPost) (ad : VAd) (A : Nat → Prop) : Array Value → State → Outcome → State → Prop := fun _ st oc t =>
  ∃ (v : Option Value) (h' : VHp) (ad' : VAd), vagree z n ad ad' ∧ n ≤ h'.length ∧ oc = .returned (v.map (mv ad')) ∧ Post v h' ∧ VWd g ad' h' t t.heap A ∧ va_F A st t
def VE (g : VG) (M : VM) (d : Nat) (z : Bool) (b : Nat × Nat) (args : List Value) (h : VHp) (Post : VPost) : Prop :=
  ∀ (ad : VAd) (sz : Nat), Met g.1 M.1 (Cond.code M.1 M.2.1 M.2.2.1 M.2.2.2 :: vtS) (vroom d b)
    (va_Pc (args.map (mv ad)) (fun U => U.heap.size = sz ∧ VRO g ad (va_A (vws ad h) sz) U ∧ VWd g ad h U U.heap (fun _ => True)))
    (VQ g z h.length Post ad (va_A (vws ad h) sz)) b.1 b.2 (va_A (vws ad h) sz)
/-- the locals at a method's entry -/
def vent (args : List Value) (nL : Nat) : List (Option Value) := args.map some ++ List.replicate (nL - args.length) none
theorem mv_cat (ad : VAd) (v : Value) : (mv ad v).category = v.category := by cases v <;> rfl
theorem vent_LR {ad : VAd} {args : List Value} {nL : Nat} (hc : args.all (fun v => v.category == 1) = true) (hn : args.length ≤ nL) :
    VLR ad nL (vent args nL) ((lg_sl (args.map (mv ad)) ++ List.replicate (nL - (lg_sl (args.map (mv ad))).length) Slot.unset).toArray) := by
  have key : ∀ (as : List Value), as.all (fun v => v.category == 1) = true → lg_sl as = as.map Slot.val := by
    intro as
    induction as with
    | nil => intro _; rfl
    | cons a l ih =>
      intro ha
      simp only [List.all_cons, Bool.and_eq_true, beq_iff_eq] at ha
      have e := ih ha.2
      simp only [lg_sl, List.flatMap_cons, List.map_cons] at e ⊢
      rw [e]
      simp [ha.1]
  have hc' : (args.map (mv ad)).all (fun v => v.category == 1) = true := by
    rw [List.all_map]
    rw [List.all_eq_true] at hc ⊢
    intro v hv
    simpa [mv_cat] using hc v hv
  have e1 := key _ hc'
  have hlen : (lg_sl (args.map (mv ad))).length = args.length := by rw [e1]; simp
  have hl := lv_entry (args.map (mv ad)) (n := nL) (by rw [hlen]; exact hn)
  refine ⟨by simp [vent]; omega, hl.1, hl.2.1, fun i v hi => ?_⟩
  have hi' : i < args.length := by
    rcases Nat.lt_or_ge i args.length with q | q
    · exact q
    · rw [vent, List.getElem?_append_right (by simpa using q)] at hi
      have := List.eq_of_mem_replicate (List.mem_of_getElem? hi)
      cases this
  rw [vent, List.getElem?_append_left (by simpa using hi')] at hi
  rw [List.getElem?_toArray, List.getElem?_append_left (by rw [hlen]; exact hi'), e1]
  simp only [List.getElem?_map] at hi ⊢
  cases hv : args[i]? with
  | none => rw [hv] at hi; cases hi
  | some w =>
    rw [hv] at hi
    simp only [Option.map_some, Option.some.injEq] at hi
    subst hi
    rfl
theorem va_O.kept9 {E : String} {t : Nat} {A : Nat → Prop} {U : State} {H H1 : Heap} (h : va_O E t A U H) (hq : ∀ a : Nat, a < H.size → ¬ A a → H1[a]? = H[a]?) : va_O E t A U H1 := by
  obtain ⟨cell, h1, h2, h3, h4⟩ := h
  exact ⟨cell, by rw [hq t (Array.getElem?_eq_some_iff.mp h1).1 h4]; exact h1, h2, h3, h4⟩
end
section
section VRules
variable {k : VK} {b : Nat × Nat} {pc : Nat} {ls : List (Option Value)} {st : List Value} {h : VHp}
theorem vlr_at {ad : VAd} {nL : Nat} {lsr : Array Slot} (r : VLR ad nL ls lsr) {i : Nat} {v : Value} (hi : ls[i]? = some (some v)) : lsr[i]? = some (.val (mv ad v)) := r.2.2.2 i v hi

theorem V.iconst {n : Int} {v : Int32} (hd : decode k.2.1.2.1 pc = .ok (.iconst n, 1)) (hv : Int32.ofInt n = v) (kk : V k b (pc + 1) ls (.int v :: st) h) : V k b pc ls (st) h :=
  fun p e R s m args below meth c Q A ad0 F ad H locs cells slots lsr r => lv_iconst F.1.1 F.1.2.1 hd hv (kk p e R s m args below meth c Q A ad0 F ad H locs cells slots lsr r)

theorem V.bipush {n : Int} {v : Int32} (hd : decode k.2.1.2.1 pc = .ok (.bipush n, 2)) (hv : (Int8.ofInt n).toInt32 = v) (kk : V k b (pc + 2) ls (.int v :: st) h) : V k b pc ls (st) h :=
  fun p e R s m args below meth c Q A ad0 F ad H locs cells slots lsr r => lv_bipush F.1.1 F.1.2.1 hd hv (kk p e R s m args below meth c Q A ad0 F ad H locs cells slots lsr r)

theorem V.sipush {n : Int} {v : Int32} (hd : decode k.2.1.2.1 pc = .ok (.sipush n, 3)) (hv : (Int16.ofInt n).toInt32 = v) (kk : V k b (pc + 3) ls (.int v :: st) h) : V k b pc ls (st) h :=
  fun p e R s m args below meth c Q A ad0 F ad H locs cells slots lsr r => lv_sipush F.1.1 F.1.2.1 hd hv (kk p e R s m args below meth c Q A ad0 F ad H locs cells slots lsr r)

theorem V.lconst {n : Fin 2} {v : Int64} (hd : decode k.2.1.2.1 pc = .ok (.lconst n, 1)) (hv : Int64.ofNat (n : Nat) = v) (kk : V k b (pc + 1) ls (.long v :: st) h) : V k b pc ls (st) h :=
  fun p e R s m args below meth c Q A ad0 F ad H locs cells slots lsr r => lv_lconst F.1.1 F.1.2.1 hd hv (kk p e R s m args below meth c Q A ad0 F ad H locs cells slots lsr r)

theorem V.iload_n {f : Fin 4} {x : Int32} (hd : decode k.2.1.2.1 pc = .ok (.iload_n f, 1)) (hl : ls[(f : Nat)]? = some (some (.int x))) (kk : V k b (pc + 1) ls (.int x :: st) h) : V k b pc ls (st) h :=
  fun p e R s m args below meth c Q A ad0 F ad H locs cells slots lsr r => lv_iload_n F.1.1 F.1.2.1 hd rfl (vlr_at r.2.2.2.2.1 hl) (kk p e R s m args below meth c Q A ad0 F ad H locs cells slots lsr r)

theorem V.iload {i : Nat} {x : Int32} (hd : decode k.2.1.2.1 pc = .ok (.iload i, 2)) (hl : ls[i]? = some (some (.int x))) (kk : V k b (pc + 2) ls (.int x :: st) h) : V k b pc ls (st) h :=
  fun p e R s m args below meth c Q A ad0 F ad H locs cells slots lsr r => lv_iload F.1.1 F.1.2.1 hd (vlr_at r.2.2.2.2.1 hl) (kk p e R s m args below meth c Q A ad0 F ad H locs cells slots lsr r)

theorem V.aload_n {f : Fin 4} {x : Nat} (hd : decode k.2.1.2.1 pc = .ok (.aload_n f, 1)) (hl : ls[(f : Nat)]? = some (some (.ref x))) (kk : V k b (pc + 1) ls (.ref x :: st) h) : V k b pc ls (st) h :=
  fun p e R s m args below meth c Q A ad0 F ad H locs cells slots lsr r => lv_aload_n F.1.1 F.1.2.1 hd rfl (vlr_at r.2.2.2.2.1 hl) (kk p e R s m args below meth c Q A ad0 F ad H locs cells slots lsr r)

theorem V.aload {i : Nat} {x : Nat} (hd : decode k.2.1.2.1 pc = .ok (.aload i, 2)) (hl : ls[i]? = some (some (.ref x))) (kk : V k b (pc + 2) ls (.ref x :: st) h) : V k b pc ls (st) h :=
  fun p e R s m args below meth c Q A ad0 F ad H locs cells slots lsr r => lv_aload F.1.1 F.1.2.1 hd (vlr_at r.2.2.2.2.1 hl) (kk p e R s m args below meth c Q A ad0 F ad H locs cells slots lsr r)

theorem V.lload_n {f : Fin 4} {x : Int64} (hd : decode k.2.1.2.1 pc = .ok (.lload_n f, 1)) (hl : ls[(f : Nat)]? = some (some (.long x))) (kk : V k b (pc + 1) ls (.long x :: st) h) : V k b pc ls (st) h :=
  fun p e R s m args below meth c Q A ad0 F ad H locs cells slots lsr r => lv_lload_n F.1.1 F.1.2.1 hd rfl (vlr_at r.2.2.2.2.1 hl) (kk p e R s m args below meth c Q A ad0 F ad H locs cells slots lsr r)

theorem V.lload {i : Nat} {x : Int64} (hd : decode k.2.1.2.1 pc = .ok (.lload i, 2)) (hl : ls[i]? = some (some (.long x))) (kk : V k b (pc + 2) ls (.long x :: st) h) : V k b pc ls (st) h :=
  fun p e R s m args below meth c Q A ad0 F ad H locs cells slots lsr r => lv_lload F.1.1 F.1.2.1 hd (vlr_at r.2.2.2.2.1 hl) (kk p e R s m args below meth c Q A ad0 F ad H locs cells slots lsr r)

theorem V.iadd {x y : Int32} (hd : decode k.2.1.2.1 pc = .ok (.iadd, 1))  (kk : V k b (pc + 1) ls (.int (x + y) :: st) h) : V k b pc ls (.int y :: .int x :: st) h :=
  fun p e R s m args below meth c Q A ad0 F ad H locs cells slots lsr r => lv_iadd F.1.1 F.1.2.1 hd (kk p e R s m args below meth c Q A ad0 F ad H locs cells slots lsr r)

theorem V.isub {x y : Int32} (hd : decode k.2.1.2.1 pc = .ok (.isub, 1))  (kk : V k b (pc + 1) ls (.int (x - y) :: st) h) : V k b pc ls (.int y :: .int x :: st) h :=
  fun p e R s m args below meth c Q A ad0 F ad H locs cells slots lsr r => lv_isub F.1.1 F.1.2.1 hd (kk p e R s m args below meth c Q A ad0 F ad H locs cells slots lsr r)

theorem V.imul {x y : Int32} (hd : decode k.2.1.2.1 pc = .ok (.imul, 1))  (kk : V k b (pc + 1) ls (.int (x * y) :: st) h) : V k b pc ls (.int y :: .int x :: st) h :=
  fun p e R s m args below meth c Q A ad0 F ad H locs cells slots lsr r => lv_imul F.1.1 F.1.2.1 hd (kk p e R s m args below meth c Q A ad0 F ad H locs cells slots lsr r)

theorem V.iand {x y : Int32} (hd : decode k.2.1.2.1 pc = .ok (.iand, 1))  (kk : V k b (pc + 1) ls (.int (x &&& y) :: st) h) : V k b pc ls (.int y :: .int x :: st) h :=
  fun p e R s m args below meth c Q A ad0 F ad H locs cells slots lsr r => lv_iand F.1.1 F.1.2.1 hd (kk p e R s m args below meth c Q A ad0 F ad H locs cells slots lsr r)

theorem V.ior {x y : Int32} (hd : decode k.2.1.2.1 pc = .ok (.ior, 1))  (kk : V k b (pc + 1) ls (.int (x ||| y) :: st) h) : V k b pc ls (.int y :: .int x :: st) h :=
  fun p e R s m args below meth c Q A ad0 F ad H locs cells slots lsr r => lv_ior F.1.1 F.1.2.1 hd (kk p e R s m args below meth c Q A ad0 F ad H locs cells slots lsr r)

theorem V.ishl {x y : Int32} (hd : decode k.2.1.2.1 pc = .ok (.ishl, 1))  (kk : V k b (pc + 1) ls (.int (x <<< (y &&& 31)) :: st) h) : V k b pc ls (.int y :: .int x :: st) h :=
  fun p e R s m args below meth c Q A ad0 F ad H locs cells slots lsr r => lv_ishl F.1.1 F.1.2.1 hd (kk p e R s m args below meth c Q A ad0 F ad H locs cells slots lsr r)

theorem V.ishr {x y : Int32} (hd : decode k.2.1.2.1 pc = .ok (.ishr, 1))  (kk : V k b (pc + 1) ls (.int (x >>> (y &&& 31)) :: st) h) : V k b pc ls (.int y :: .int x :: st) h :=
  fun p e R s m args below meth c Q A ad0 F ad H locs cells slots lsr r => lv_ishr F.1.1 F.1.2.1 hd (kk p e R s m args below meth c Q A ad0 F ad H locs cells slots lsr r)

theorem V.idiv {x y : Int32} (hd : decode k.2.1.2.1 pc = .ok (.idiv, 1)) (hy : ¬ y = 0) (kk : V k b (pc + 1) ls (.int (x / y) :: st) h) : V k b pc ls (.int y :: .int x :: st) h :=
  fun p e R s m args below meth c Q A ad0 F ad H locs cells slots lsr r => lv_idiv F.1.1 F.1.2.1 hd hy (kk p e R s m args below meth c Q A ad0 F ad H locs cells slots lsr r)

theorem V.irem {x y : Int32} (hd : decode k.2.1.2.1 pc = .ok (.irem, 1)) (hy : ¬ y = 0) (kk : V k b (pc + 1) ls (.int (x - x / y * y) :: st) h) : V k b pc ls (.int y :: .int x :: st) h :=
  fun p e R s m args below meth c Q A ad0 F ad H locs cells slots lsr r => lv_irem F.1.1 F.1.2.1 hd hy (kk p e R s m args below meth c Q A ad0 F ad H locs cells slots lsr r)

theorem V.ladd {x y : Int64} (hd : decode k.2.1.2.1 pc = .ok (.ladd, 1))  (kk : V k b (pc + 1) ls (.long (x + y) :: st) h) : V k b pc ls (.long y :: .long x :: st) h :=
  fun p e R s m args below meth c Q A ad0 F ad H locs cells slots lsr r => lv_ladd F.1.1 F.1.2.1 hd (kk p e R s m args below meth c Q A ad0 F ad H locs cells slots lsr r)

theorem V.lmul {x y : Int64} (hd : decode k.2.1.2.1 pc = .ok (.lmul, 1))  (kk : V k b (pc + 1) ls (.long (x * y) :: st) h) : V k b pc ls (.long y :: .long x :: st) h :=
  fun p e R s m args below meth c Q A ad0 F ad H locs cells slots lsr r => lv_lmul F.1.1 F.1.2.1 hd (kk p e R s m args below meth c Q A ad0 F ad H locs cells slots lsr r)

theorem V.lrem {x y : Int64} (hd : decode k.2.1.2.1 pc = .ok (.lrem, 1)) (hy : ¬ y = 0) (kk : V k b (pc + 1) ls (.long (x - x / y * y) :: st) h) : V k b pc ls (.long y :: .long x :: st) h :=
  fun p e R s m args below meth c Q A ad0 F ad H locs cells slots lsr r => lv_lrem F.1.1 F.1.2.1 hd hy (kk p e R s m args below meth c Q A ad0 F ad H locs cells slots lsr r)

theorem V.ineg {x : Int32} (hd : decode k.2.1.2.1 pc = .ok (.ineg, 1))  (kk : V k b (pc + 1) ls (.int (-x) :: st) h) : V k b pc ls (.int x :: st) h :=
  fun p e R s m args below meth c Q A ad0 F ad H locs cells slots lsr r => lv_ineg F.1.1 F.1.2.1 hd (kk p e R s m args below meth c Q A ad0 F ad H locs cells slots lsr r)

theorem V.i2l {x : Int32} (hd : decode k.2.1.2.1 pc = .ok (.i2l, 1))  (kk : V k b (pc + 1) ls (.long x.toInt64 :: st) h) : V k b pc ls (.int x :: st) h :=
  fun p e R s m args below meth c Q A ad0 F ad H locs cells slots lsr r => lv_i2l F.1.1 F.1.2.1 hd rfl (kk p e R s m args below meth c Q A ad0 F ad H locs cells slots lsr r)

theorem V.l2i {x : Int64} (hd : decode k.2.1.2.1 pc = .ok (.l2i, 1))  (kk : V k b (pc + 1) ls (.int x.toInt32 :: st) h) : V k b pc ls (.long x :: st) h :=
  fun p e R s m args below meth c Q A ad0 F ad H locs cells slots lsr r => lv_l2i F.1.1 F.1.2.1 hd rfl (kk p e R s m args below meth c Q A ad0 F ad H locs cells slots lsr r)

theorem V.i2c {x : Int32} (hd : decode k.2.1.2.1 pc = .ok (.i2c, 1))  (kk : V k b (pc + 1) ls (.int (x.toUInt32 % 65536).toInt32 :: st) h) : V k b pc ls (.int x :: st) h :=
  fun p e R s m args below meth c Q A ad0 F ad H locs cells slots lsr r => lv_i2c F.1.1 F.1.2.1 hd rfl (kk p e R s m args below meth c Q A ad0 F ad H locs cells slots lsr r)

theorem V.dup {v : Value} (hd : decode k.2.1.2.1 pc = .ok (.dup, 1)) (hc : v.category = 1) (kk : V k b (pc + 1) ls (v :: v :: st) h) : V k b pc ls (v :: st) h :=
  fun p e R s m args below meth c Q A ad0 F ad H locs cells slots lsr r => lv_dup F.1.1 F.1.2.1 hd (by rw [mv_cat]; exact hc) (kk p e R s m args below meth c Q A ad0 F ad H locs cells slots lsr r)

theorem V.pop {v : Value} (hd : decode k.2.1.2.1 pc = .ok (.pop, 1)) (hc : v.category = 1) (kk : V k b (pc + 1) ls (st) h) : V k b pc ls (v :: st) h :=
  fun p e R s m args below meth c Q A ad0 F ad H locs cells slots lsr r => lv_pop F.1.1 F.1.2.1 hd (by rw [mv_cat]; exact hc) (kk p e R s m args below meth c Q A ad0 F ad H locs cells slots lsr r)

theorem V.dup2 {v w : Value} (hd : decode k.2.1.2.1 pc = .ok (.dup2, 1)) (hc : v.category = 1) (hc2 : w.category = 1) (kk : V k b (pc + 1) ls (v :: w :: v :: w :: st) h) : V k b pc ls (v :: w :: st) h :=
  fun p e R s m args below meth c Q A ad0 F ad H locs cells slots lsr r => lv_dup2_11 F.1.1 F.1.2.1 hd (by rw [mv_cat]; exact hc) (by rw [mv_cat]; exact hc2) (kk p e R s m args below meth c Q A ad0 F ad H locs cells slots lsr r)

theorem V.ldc2 {idx : Nat} {v : Int64} (hd : decode k.2.1.2.1 pc = .ok (.ldc2_w idx, 3)) (hw : Cond.constantLong k.2.1.1.cls idx v ∈ vtS) (kk : V k b (pc + 3) ls (.long v :: st) h) : V k b pc ls (st) h :=
  fun p e R s m args below meth c Q A ad0 F ad H locs cells slots lsr r => lv_ldc2 F.1.1 F.1.2.1 F.1.2.2.2.1 (F.1.2.2.2.2.1 _ hw) hd (kk p e R s m args below meth c Q A ad0 F ad H locs cells slots lsr r)

theorem V.icmp_eq {x y : Int32} {off : Int} (tgt : Nat) (hd : decode k.2.1.2.1 pc = .ok (.if_icmp .eq off, 3)) (ht : (pc : Int) + off = (tgt : Int)) (kt : x = y → V k b tgt ls st h) (kf : ¬ (x = y) → V k b (pc + 3) ls st h) : V k b pc ls (.int y :: .int x :: st) h :=
  fun p e R s m args below meth c Q A ad0 F ad H locs cells slots lsr r => lv_icmp_eq F.1.1 F.1.2.1 hd ht (fun hc => (kt hc) p e R s m args below meth c Q A ad0 F ad H locs cells slots lsr r) (fun hc => (kf hc) p e R s m args below meth c Q A ad0 F ad H locs cells slots lsr r)

theorem V.icmp_ne {x y : Int32} {off : Int} (tgt : Nat) (hd : decode k.2.1.2.1 pc = .ok (.if_icmp .ne off, 3)) (ht : (pc : Int) + off = (tgt : Int)) (kt : ¬ x = y → V k b tgt ls st h) (kf : x = y → V k b (pc + 3) ls st h) : V k b pc ls (.int y :: .int x :: st) h :=
  fun p e R s m args below meth c Q A ad0 F ad H locs cells slots lsr r => lv_icmp_ne F.1.1 F.1.2.1 hd ht (fun hc => (kt hc) p e R s m args below meth c Q A ad0 F ad H locs cells slots lsr r) (fun hc => (kf hc) p e R s m args below meth c Q A ad0 F ad H locs cells slots lsr r)

theorem V.icmp_lt {x y : Int32} {off : Int} (tgt : Nat) (hd : decode k.2.1.2.1 pc = .ok (.if_icmp .lt off, 3)) (ht : (pc : Int) + off = (tgt : Int)) (kt : x < y → V k b tgt ls st h) (kf : ¬ (x < y) → V k b (pc + 3) ls st h) : V k b pc ls (.int y :: .int x :: st) h :=
  fun p e R s m args below meth c Q A ad0 F ad H locs cells slots lsr r => lv_icmp_lt F.1.1 F.1.2.1 hd ht (fun hc => (kt hc) p e R s m args below meth c Q A ad0 F ad H locs cells slots lsr r) (fun hc => (kf hc) p e R s m args below meth c Q A ad0 F ad H locs cells slots lsr r)

theorem V.icmp_ge {x y : Int32} {off : Int} (tgt : Nat) (hd : decode k.2.1.2.1 pc = .ok (.if_icmp .ge off, 3)) (ht : (pc : Int) + off = (tgt : Int)) (kt : y ≤ x → V k b tgt ls st h) (kf : ¬ (y ≤ x) → V k b (pc + 3) ls st h) : V k b pc ls (.int y :: .int x :: st) h :=
  fun p e R s m args below meth c Q A ad0 F ad H locs cells slots lsr r => lv_icmp_ge F.1.1 F.1.2.1 hd ht (fun hc => (kt hc) p e R s m args below meth c Q A ad0 F ad H locs cells slots lsr r) (fun hc => (kf hc) p e R s m args below meth c Q A ad0 F ad H locs cells slots lsr r)

theorem V.icmp_gt {x y : Int32} {off : Int} (tgt : Nat) (hd : decode k.2.1.2.1 pc = .ok (.if_icmp .gt off, 3)) (ht : (pc : Int) + off = (tgt : Int)) (kt : y < x → V k b tgt ls st h) (kf : ¬ (y < x) → V k b (pc + 3) ls st h) : V k b pc ls (.int y :: .int x :: st) h :=
  fun p e R s m args below meth c Q A ad0 F ad H locs cells slots lsr r => lv_icmp_gt F.1.1 F.1.2.1 hd ht (fun hc => (kt hc) p e R s m args below meth c Q A ad0 F ad H locs cells slots lsr r) (fun hc => (kf hc) p e R s m args below meth c Q A ad0 F ad H locs cells slots lsr r)

theorem V.icmp_le {x y : Int32} {off : Int} (tgt : Nat) (hd : decode k.2.1.2.1 pc = .ok (.if_icmp .le off, 3)) (ht : (pc : Int) + off = (tgt : Int)) (kt : x ≤ y → V k b tgt ls st h) (kf : ¬ (x ≤ y) → V k b (pc + 3) ls st h) : V k b pc ls (.int y :: .int x :: st) h :=
  fun p e R s m args below meth c Q A ad0 F ad H locs cells slots lsr r => lv_icmp_le F.1.1 F.1.2.1 hd ht (fun hc => (kt hc) p e R s m args below meth c Q A ad0 F ad H locs cells slots lsr r) (fun hc => (kf hc) p e R s m args below meth c Q A ad0 F ad H locs cells slots lsr r)

theorem V.if_eq {x : Int32} {off : Int} (tgt : Nat) (hd : decode k.2.1.2.1 pc = .ok (.ifCond .eq off, 3)) (ht : (pc : Int) + off = (tgt : Int)) (kt : x = 0 → V k b tgt ls st h) (kf : ¬ (x = 0) → V k b (pc + 3) ls st h) : V k b pc ls (.int x :: st) h :=
  fun p e R s m args below meth c Q A ad0 F ad H locs cells slots lsr r => lv_if_eq F.1.1 F.1.2.1 hd ht (fun hc => (kt hc) p e R s m args below meth c Q A ad0 F ad H locs cells slots lsr r) (fun hc => (kf hc) p e R s m args below meth c Q A ad0 F ad H locs cells slots lsr r)

theorem V.if_ne {x : Int32} {off : Int} (tgt : Nat) (hd : decode k.2.1.2.1 pc = .ok (.ifCond .ne off, 3)) (ht : (pc : Int) + off = (tgt : Int)) (kt : ¬ x = 0 → V k b tgt ls st h) (kf : x = 0 → V k b (pc + 3) ls st h) : V k b pc ls (.int x :: st) h :=
  fun p e R s m args below meth c Q A ad0 F ad H locs cells slots lsr r => lv_if_ne F.1.1 F.1.2.1 hd ht (fun hc => (kt hc) p e R s m args below meth c Q A ad0 F ad H locs cells slots lsr r) (fun hc => (kf hc) p e R s m args below meth c Q A ad0 F ad H locs cells slots lsr r)

theorem V.if_lt {x : Int32} {off : Int} (tgt : Nat) (hd : decode k.2.1.2.1 pc = .ok (.ifCond .lt off, 3)) (ht : (pc : Int) + off = (tgt : Int)) (kt : x < 0 → V k b tgt ls st h) (kf : ¬ (x < 0) → V k b (pc + 3) ls st h) : V k b pc ls (.int x :: st) h :=
  fun p e R s m args below meth c Q A ad0 F ad H locs cells slots lsr r => lv_if_lt F.1.1 F.1.2.1 hd ht (fun hc => (kt hc) p e R s m args below meth c Q A ad0 F ad H locs cells slots lsr r) (fun hc => (kf hc) p e R s m args below meth c Q A ad0 F ad H locs cells slots lsr r)

theorem V.if_ge {x : Int32} {off : Int} (tgt : Nat) (hd : decode k.2.1.2.1 pc = .ok (.ifCond .ge off, 3)) (ht : (pc : Int) + off = (tgt : Int)) (kt : 0 ≤ x → V k b tgt ls st h) (kf : ¬ (0 ≤ x) → V k b (pc + 3) ls st h) : V k b pc ls (.int x :: st) h :=
  fun p e R s m args below meth c Q A ad0 F ad H locs cells slots lsr r => lv_if_ge F.1.1 F.1.2.1 hd ht (fun hc => (kt hc) p e R s m args below meth c Q A ad0 F ad H locs cells slots lsr r) (fun hc => (kf hc) p e R s m args below meth c Q A ad0 F ad H locs cells slots lsr r)

theorem V.if_gt {x : Int32} {off : Int} (tgt : Nat) (hd : decode k.2.1.2.1 pc = .ok (.ifCond .gt off, 3)) (ht : (pc : Int) + off = (tgt : Int)) (kt : 0 < x → V k b tgt ls st h) (kf : ¬ (0 < x) → V k b (pc + 3) ls st h) : V k b pc ls (.int x :: st) h :=
  fun p e R s m args below meth c Q A ad0 F ad H locs cells slots lsr r => lv_if_gt F.1.1 F.1.2.1 hd ht (fun hc => (kt hc) p e R s m args below meth c Q A ad0 F ad H locs cells slots lsr r) (fun hc => (kf hc) p e R s m args below meth c Q A ad0 F ad H locs cells slots lsr r)

theorem V.if_le {x : Int32} {off : Int} (tgt : Nat) (hd : decode k.2.1.2.1 pc = .ok (.ifCond .le off, 3)) (ht : (pc : Int) + off = (tgt : Int)) (kt : x ≤ 0 → V k b tgt ls st h) (kf : ¬ (x ≤ 0) → V k b (pc + 3) ls st h) : V k b pc ls (.int x :: st) h :=
  fun p e R s m args below meth c Q A ad0 F ad H locs cells slots lsr r => lv_if_le F.1.1 F.1.2.1 hd ht (fun hc => (kt hc) p e R s m args below meth c Q A ad0 F ad H locs cells slots lsr r) (fun hc => (kf hc) p e R s m args below meth c Q A ad0 F ad H locs cells slots lsr r)

theorem V.goto {off : Int} (tgt : Nat) (hd : decode k.2.1.2.1 pc = .ok (.goto off, 3)) (ht : (pc : Int) + off = (tgt : Int)) (kk : V k b tgt ls st h) : V k b pc ls st h :=
  fun p e R s m args below meth c Q A ad0 F ad H locs cells slots lsr r => lv_goto F.1.1 F.1.2.1 hd ht (kk p e R s m args below meth c Q A ad0 F ad H locs cells slots lsr r)

theorem V.tabIn {dflt lo hi : Int} {offs : Array Int} {len : Nat} {x : Int32} {off : Int} (tgt : Nat) (hd : decode k.2.1.2.1 pc = .ok (.tableswitch dflt lo hi offs, len)) (h1 : ¬ x.toInt < lo) (h2 : ¬ hi < x.toInt) (ho : offs[(x.toInt - lo).toNat]? = some off) (ht : (pc : Int) + off = (tgt : Int)) (kk : V k b tgt ls st h) : V k b pc ls (.int x :: st) h :=
  fun p e R s m args below meth c Q A ad0 F ad H locs cells slots lsr r => lv_tableIn F.1.1 F.1.2.1 hd h1 h2 ho ht (kk p e R s m args below meth c Q A ad0 F ad H locs cells slots lsr r)

theorem V.tabOut {dflt lo hi : Int} {offs : Array Int} {len : Nat} {x : Int32} (tgt : Nat) (hd : decode k.2.1.2.1 pc = .ok (.tableswitch dflt lo hi offs, len)) (h1 : x.toInt < lo ∨ hi < x.toInt) (ht : (pc : Int) + dflt = (tgt : Int)) (kk : V k b tgt ls st h) : V k b pc ls (.int x :: st) h :=
  fun p e R s m args below meth c Q A ad0 F ad H locs cells slots lsr r => lv_tableOut F.1.1 F.1.2.1 hd h1 ht (kk p e R s m args below meth c Q A ad0 F ad H locs cells slots lsr r)

theorem V.lookup {dflt : Int} {ps : Array (Int × Int)} {len : Nat} {x : Int32} {off : Int} (tgt : Nat) (hd : decode k.2.1.2.1 pc = .ok (.lookupswitch dflt ps, len)) (hp : (ps.toList.zip (ps.toList.drop 1)).all (fun (a, next) => a.1 < next.1) = true) (ho : Op.lookupswitch.offset ps.toList dflt x.toInt = off) (ht : (pc : Int) + off = (tgt : Int)) (kk : V k b tgt ls st h) : V k b pc ls (.int x :: st) h :=
  fun p e R s m args below meth c Q A ad0 F ad H locs cells slots lsr r => lv_lookup F.1.1 F.1.2.1 hd hp ho ht (kk p e R s m args below meth c Q A ad0 F ad H locs cells slots lsr r)

/-- the locals as the kit lists them -/
def vlv (ad : VAd) (ls : List (Option Value)) : List (Nat × Value) := (List.range ls.length).filterMap (fun i => match ls[i]? with
  | some (some v) => some (i, mv ad v)
  | _ => none)
theorem vlv_mem {ad : VAd} {ls : List (Option Value)} {i : Nat} {v : Value} (hi : ls[i]? = some (some v)) : (i, mv ad v) ∈ vlv ad ls := by
  refine List.mem_filterMap.mpr ⟨i, List.mem_range.mpr (List.getElem?_eq_some_iff.mp hi).1, ?_⟩
  rw [hi]
theorem vlv_has {ad : VAd} {nL : Nat} {ls : List (Option Value)} {lsr : Array Slot} (r : VLR ad nL ls lsr) : lv_has lsr nL (vlv ad ls) := by
  refine ⟨r.2.1, r.2.2.1, fun q hq => ?_⟩
  obtain ⟨i, -, hi⟩ := List.mem_filterMap.mp hq
  split at hi
  next v hv => cases hi; exact r.2.2.2 i v hv
  next => cases hi
/-- no long ends at the place -/
def vlk (ls : List (Option Value)) (i : Nat) : Bool := match i with
  | 0 => true
  | j + 1 => match ls[j]? with
    | some (some v) => v.category == 1
    | _ => true
theorem vlr_set {ad : VAd} {nL : Nat} {ls : List (Option Value)} {lsr lsr' : Array Slot} {i : Nat} {v : Value} (r : VLR ad nL ls lsr) (hk : vlk ls i = true)
    (h : lv_has lsr' nL ((i, mv ad v) :: (vlv ad ls).filter (fun q => !(q.1 == i) && !(q.1 + 1 == i && q.2.category == 2)))) : VLR ad nL (ls.set i (some v)) lsr' := by
  refine ⟨by rw [List.length_set]; exact r.1, h.1, h.2.1, fun j w hj => ?_⟩
  by_cases e : i = j
  · subst e
    rw [List.getElem?_set] at hj
    simp only [if_true] at hj
    split at hj
    next => cases hj; exact h.2.2 _ List.mem_cons_self
    next => cases hj
  · rw [List.getElem?_set_ne e] at hj
    refine h.2.2 (j, mv ad w) (List.mem_cons_of_mem _ (List.mem_filter.mpr ⟨vlv_mem hj, ?_⟩))
    have e1 : (j == i) = false := by simpa using fun q => e q.symm
    simp only [e1, Bool.not_false, Bool.true_and, mv_cat]
    by_cases e2 : j + 1 = i
    · subst e2
      simp only [vlk, hj, beq_iff_eq] at hk
      simp [hk]
    · simp [e2]
theorem vlr_setL {ad : VAd} {nL : Nat} {ls : List (Option Value)} {lsr lsr' : Array Slot} {i : Nat} {x : Int64} (r : VLR ad nL ls lsr) (hk : vlk ls i = true)
    (h : lv_has lsr' nL ((i, .long x) :: (vlv ad ls).filter (fun q => !(q.1 == i) && (!(q.1 == i + 1) && !(q.1 + 1 == i && q.2.category == 2))))) : VLR ad nL ((ls.set i (some (.long x))).set (i + 1) none) lsr' := by
  refine ⟨by rw [List.length_set, List.length_set]; exact r.1, h.1, h.2.1, fun j w hj => ?_⟩
  by_cases e0 : i + 1 = j
  · subst e0
    rw [List.getElem?_set] at hj
    simp only [if_true] at hj
    split at hj <;> cases hj
  · rw [List.getElem?_set_ne e0] at hj
    by_cases e : i = j
    · subst e
      rw [List.getElem?_set] at hj
      simp only [if_true] at hj
      split at hj
      next => cases hj; exact h.2.2 _ List.mem_cons_self
      next => cases hj
    · rw [List.getElem?_set_ne e] at hj
      refine h.2.2 (j, mv ad w) (List.mem_cons_of_mem _ (List.mem_filter.mpr ⟨vlv_mem hj, ?_⟩))
      have e1 : (j == i) = false := by simpa using fun q => e q.symm
      have e3 : (j == i + 1) = false := by simpa using fun q => e0 q.symm
      simp only [e1, e3, Bool.not_false, Bool.true_and, mv_cat]
      by_cases e2 : j + 1 = i
      · subst e2
        simp only [vlk, hj, beq_iff_eq] at hk
        simp [hk]
      · simp [e2]
theorem VRl.loc {k : VK} {b : Nat × Nat} {ls ls' : List (Option Value)} {h : VHp} {R : Room} {s : State} {A : Nat → Prop} {ad0 ad : VAd} {H : Heap} {locs : List Loc} {cells slots : Nat} {lsr lsr' : Array Slot} (r : VRl k b ls h R s A ad0 ad H locs cells slots lsr) (hl : VLR ad k.2.1.2.2.1 ls' lsr') : VRl k b ls' h R s A ad0 ad H locs cells slots lsr' :=
  ⟨r.1, r.2.1, r.2.2.1, r.2.2.2.1, hl, r.2.2.2.2.2⟩

theorem V.istore_n {f : Fin 4} {i : Nat} {x : Int32} (hd : decode k.2.1.2.1 pc = .ok (.istore_n f, 1)) (hi : (f : Nat) = i) (hn : Nat.blt i k.2.1.2.2.1 = true) (hk : vlk ls i = true) (kk : V k b (pc + 1) (ls.set i (some (.int x))) st h) : V k b pc ls (.int x :: st) h :=
  fun p e R s m args below meth c Q A ad0 F ad H locs cells slots lsr r => lv_istore_n F.1.1 F.1.2.1 hd hi (vlv_has r.2.2.2.2.1) (Nat.le_of_ble_eq_true hn) rfl (fun lsr' hl' => kk p e R s m args below meth c Q A ad0 F ad H locs cells slots lsr' (r.loc (vlr_set r.2.2.2.2.1 hk hl')))

theorem V.istore {i : Nat} {x : Int32} (hd : decode k.2.1.2.1 pc = .ok (.istore i, 2)) (hn : Nat.blt i k.2.1.2.2.1 = true) (hk : vlk ls i = true) (kk : V k b (pc + 2) (ls.set i (some (.int x))) st h) : V k b pc ls (.int x :: st) h :=
  fun p e R s m args below meth c Q A ad0 F ad H locs cells slots lsr r => lv_istore F.1.1 F.1.2.1 hd (vlv_has r.2.2.2.2.1) (Nat.le_of_ble_eq_true hn) rfl (fun lsr' hl' => kk p e R s m args below meth c Q A ad0 F ad H locs cells slots lsr' (r.loc (vlr_set r.2.2.2.2.1 hk hl')))

theorem V.astore_n {f : Fin 4} {i : Nat} {x : Nat} (hd : decode k.2.1.2.1 pc = .ok (.astore_n f, 1)) (hi : (f : Nat) = i) (hn : Nat.blt i k.2.1.2.2.1 = true) (hk : vlk ls i = true) (kk : V k b (pc + 1) (ls.set i (some (.ref x))) st h) : V k b pc ls (.ref x :: st) h :=
  fun p e R s m args below meth c Q A ad0 F ad H locs cells slots lsr r => lv_astore_n F.1.1 F.1.2.1 hd hi (vlv_has r.2.2.2.2.1) (Nat.le_of_ble_eq_true hn) rfl (fun lsr' hl' => kk p e R s m args below meth c Q A ad0 F ad H locs cells slots lsr' (r.loc (vlr_set r.2.2.2.2.1 hk hl')))

theorem V.lstore_n {f : Fin 4} {i : Nat} {x : Int64} (hd : decode k.2.1.2.1 pc = .ok (.lstore_n f, 1)) (hi : (f : Nat) = i) (hn : Nat.blt (i + 1) k.2.1.2.2.1 = true) (hk : vlk ls i = true) (kk : V k b (pc + 1) ((ls.set i (some (.long x))).set (i + 1) none) st h) : V k b pc ls (.long x :: st) h :=
  fun p e R s m args below meth c Q A ad0 F ad H locs cells slots lsr r => lv_lstore_n F.1.1 F.1.2.1 hd hi (vlv_has r.2.2.2.2.1) (Nat.le_of_ble_eq_true hn) rfl (fun lsr' hl' => kk p e R s m args below meth c Q A ad0 F ad H locs cells slots lsr' (r.loc (vlr_setL r.2.2.2.2.1 hk hl')))

theorem V.lstore {i : Nat} {x : Int64} (hd : decode k.2.1.2.1 pc = .ok (.lstore i, 2)) (hn : Nat.blt (i + 1) k.2.1.2.2.1 = true) (hk : vlk ls i = true) (kk : V k b (pc + 2) ((ls.set i (some (.long x))).set (i + 1) none) st h) : V k b pc ls (.long x :: st) h :=
  fun p e R s m args below meth c Q A ad0 F ad H locs cells slots lsr r => lv_lstore F.1.1 F.1.2.1 hd (vlv_has r.2.2.2.2.1) (Nat.le_of_ble_eq_true hn) rfl (fun lsr' hl' => kk p e R s m args below meth c Q A ad0 F ad H locs cells slots lsr' (r.loc (vlr_setL r.2.2.2.2.1 hk hl')))

theorem V.iinc {i : Nat} {n : Int} {x v : Int32} (hd : decode k.2.1.2.1 pc = .ok (.iinc i n, 3)) (hl : ls[i]? = some (some (.int x))) (hv : x + Int32.ofInt n = v) (hn : Nat.blt i k.2.1.2.2.1 = true) (hk : vlk ls i = true) (kk : V k b (pc + 3) (ls.set i (some (.int v))) st h) : V k b pc ls st h := by
  intro p e R s m args below meth c Q A ad0 F ad H locs cells slots lsr r
  obtain ⟨j, hj⟩ := List.getElem?_of_mem (vlv_mem (ad := ad) hl)
  exact lv_iinc F.1.1 F.1.2.1 hd (vlv_has r.2.2.2.2.1) hj hv (Nat.le_of_ble_eq_true hn) rfl (fun lsr' hl' => kk p e R s m args below meth c Q A ad0 F ad H locs cells slots lsr' (r.loc (vlr_set r.2.2.2.2.1 hk hl')))

end VRules
end
section
/-! fields, arrays, calls, returns -/
def vkd : VC → Nat
  | .inl _ => 0
  | .inr (.inl _) => 1
  | .inr (.inr _) => 2
theorem vtys.set {ad : VAd} {h : VHp} {tys : List (ClassId × FieldType)} {a : Nat} {c0 c : VC} (t : vtys ad h tys) (ha : h[a]? = some c0) (hk : vkd c0 = vkd c) : vtys ad (h.set a c) tys := by
  have hl : a < h.length := (List.getElem?_eq_some_iff.mp ha).1
  intro j
  by_cases e : a = j
  · subst e
    rw [List.getElem?_set_self hl]
    refine ⟨fun xs q => ?_, fun rs q => ?_⟩
    · cases q
      match c0, hk with
      | .inl ys, _ => exact (t a).1 ys ha
    · cases q
      match c0, hk with
      | .inr (.inl ys), _ => exact (t a).2 ys ha
  · rw [List.getElem?_set_ne e]
    exact t j
theorem VWd.ofset {g : VG} {ad : VAd} {h : VHp} {U : State} {H H1 : Heap} {A : Nat → Prop} {a : Nat} {c0 c : VC} (w : VWd g ad h U H A) (ha : h[a]? = some c0) (hk : vkd c0 = vkd c) (hP : va_P g.2.1 vwCl ((vws ad h).set a ((ad a).1, vcell ad a c)) H1) (hD : va_D A ((vws ad h).set a ((ad a).1, vcell ad a c))) : VWd g ad (h.set a c) U H1 A := by
  obtain ⟨⟨tys, t1, t2⟩, -, -⟩ := w
  exact ⟨⟨tys, t1, t2.set ha hk⟩, by rw [vws_set]; exact hP, by rw [vws_set]; exact hD⟩
/-- a field: entry idx of class own's pool is field kf of class ci -/
def vfl (own : String) (idx ci kf : Nat) (fin : Bool) (ty : FieldType) : Prop := ∃ (C : String) (T : u_T) (N : Nat) (ty0 : Nat → FieldType), vwCl[ci]? = some (C, T, N) ∧ kf < N ∧ (∀ w ∈ u_ws C T N, w ∈ vtS) ∧ (∀ j, j < N → parseFieldDescriptor (T j).2.2.1 = some (ty0 j)) ∧ (∀ a, a < N → ∀ b, b < N → a ≠ b → (T a).2.1 ≠ (T b).2.1) ∧ (Cond.fieldLink own idx (T kf).1 (T kf).2.1 (T kf).2.2.1 ∈ vtS ∨ ∃ host, Cond.fieldLinkNest own idx (T kf).1 (T kf).2.1 (T kf).2.2.1 host ∈ vNS) ∧ (T kf).2.2.2 = fin ∧ parseFieldDescriptor (T kf).2.2.1 = some ty ∧ ((T kf).1 = own ∨ fin = false)
theorem nI_in2 {j n : Nat} (h : j < n) (hj : j < 2147483648) : vp_in (nI j) n := by
  intro q
  rcases q with q | q
  · exact nI_pos hj q
  · rw [nI_clamp hj] at q; omega
theorem VRO.nest {g : VG} {ad : VAd} {A : Nat → Prop} {U : State} (r : VRO g ad A U) : ∀ w ∈ vNS, va_Nw w U := r.2.2.2.2.2.2.2.2.2.2.2.2
section VHeap
variable {k : VK} {b : Nat × Nat} {pc : Nat} {ls : List (Option Value)} {st : List Value} {h : VHp}
theorem V.get {idx ci kf a : Nat} {fin : Bool} {ty : FieldType} {fs : List Value} {v : Value} (hf : vfl k.2.1.1.cls idx ci kf fin ty) (hd : decode k.2.1.2.1 pc = .ok (.getfield idx, 3)) (ha : h[a]? = some (.inr (.inr (ci, fs)))) (hv : fs[kf]? = some v) (kk : V k b (pc + 3) ls (v :: st) h) : V k b pc ls (.ref a :: st) h := by
  intro p e R s m args below meth c Q A ad0 F ad H locs cells slots lsr r
  obtain ⟨C, T, N, ty0, hc, hk, hw, -, -, hl, -⟩ := hf
  obtain ⟨⟨tys, t1, t2⟩, hP, hD⟩ := r.2.2.1
  have he := vws_get (ad := ad) ha
  have hv' : (fs.map (mv ad))[kf]? = some (mv ad v) := by rw [List.getElem?_map, hv]; rfl
  rcases hl with hl | ⟨host, hl⟩
  · exact va_get (D := k.1.2.1) (cl := vwCl) F.1.1 F.1.2.1 F.1.2.2.2.2.1 hw F.1.2.2.2.1 t1 hP a he hc kf hk (F.1.2.2.2.2.1 _ hl) (fun _ q => q) hv' hd (kk p e R s m args below meth c Q A ad0 F ad H locs cells slots lsr r)
  · exact va_getN (D := k.1.2.1) (cl := vwCl) F.1.1 F.1.2.1 F.1.2.2.2.2.1 hw F.1.2.2.2.1 t1 hP a he hc kf hk (va_Nw.use rfl (r.2.1.nest _ hl)) (fun _ q => q) hv' hd (kk p e R s m args below meth c Q A ad0 F ad H locs cells slots lsr r)
theorem V.puti {idx ci kf a : Nat} {fs : List Value} {x : Int32} (hf : vfl k.2.1.1.cls idx ci kf false .int) (hd : decode k.2.1.2.1 pc = .ok (.putfield idx, 3)) (ha : h[a]? = some (.inr (.inr (ci, fs)))) (hl : kf < fs.length) (kk : V k b (pc + 3) ls st (h.set a (.inr (.inr (ci, fs.set kf (.int x)))))) : V k b pc ls (.int x :: .ref a :: st) h := by
  intro p e R s m args below meth c Q A ad0 F ad H locs cells slots lsr r
  obtain ⟨C, T, N, ty0, hc, hk, hw, hty, hnm, hlk, hfin, hty1, -⟩ := hf
  have hW := r.2.2.1
  obtain ⟨⟨tys, t1, t2⟩, hP, hD⟩ := r.2.2.1
  have he := vws_get (ad := ad) ha
  have fin : ∀ (H1 : Heap) (locs1 : List Loc), va_P k.1.2.1 vwCl ((vws ad h).set a ((ad a).1, .inr (ci, (fs.map (mv ad)).set kf (.int x)))) H1 → va_D A ((vws ad h).set a ((ad a).1, .inr (ci, (fs.map (mv ad)).set kf (.int x)))) → va_S A s.heap H1 locs1 → W p k.1.1 e R s m args below meth c H1 locs1 cells slots Q (F0 m (pc + 3) lsr (st.map (mv ad))) := by
    intro H1 locs1 hP1 hD1 hS1
    have em : (fs.map (mv ad)).set kf (Value.int x) = (fs.set kf (.int x)).map (mv ad) := by rw [List.map_set]; rfl
    rw [em] at hP1 hD1
    exact kk p e R s m args below meth c Q A ad0 F ad H1 locs1 cells slots lsr ⟨r.1, r.2.1, hW.ofset ha rfl hP1 hD1, hS1, r.2.2.2.2.1, r.2.2.2.2.2.1, r.2.2.2.2.2.2.1, by rw [List.length_set]; exact r.2.2.2.2.2.2.2⟩
  rcases hlk with hl2 | ⟨host, hl2⟩
  · exact va_put (D := k.1.2.1) (cl := vwCl) F.1.1 F.1.2.1 F.1.2.2.2.2.1 hw ty0 hty hnm F.1.2.2.2.1 t1 hP hD r.2.2.2.1 a he hc kf hk (F.1.2.2.2.2.1 _ hl2) (fun _ q => q) hfin hty1 rfl rfl (by rw [List.length_map]; exact hl) hd fin
  · exact va_putN (D := k.1.2.1) (cl := vwCl) F.1.1 F.1.2.1 F.1.2.2.2.2.1 hw ty0 hty hnm F.1.2.2.2.1 t1 hP hD r.2.2.2.1 a he hc kf hk (va_Nw.use rfl (r.2.1.nest _ hl2)) (fun _ q => q) hfin hty1 rfl rfl (by rw [List.length_map]; exact hl) hd fin
/-- a final field, in the constructor -/
theorem V.putF {idx ci kf a : Nat} {ty : FieldType} {fs : List Value} {x : Nat} (hf : vfl k.2.1.1.cls idx ci kf true ty) (hl2 : ∀ (C : String) (T : u_T) (N : Nat), vwCl[ci]? = some (C, T, N) → Cond.fieldLink k.2.1.1.cls idx (T kf).1 (T kf).2.1 (T kf).2.2.1 ∈ vtS) (hn : ∀ q : Nat, narrow ty (.ref q) = .ref q ∧ fits ty (.ref q) = true) (hi : k.2.1.1.name = "<init>") (hd : decode k.2.1.2.1 pc = .ok (.putfield idx, 3)) (ha : h[a]? = some (.inr (.inr (ci, fs)))) (hl : kf < fs.length) (kk : V k b (pc + 3) ls st (h.set a (.inr (.inr (ci, fs.set kf (.ref x)))))) : V k b pc ls (.ref x :: .ref a :: st) h := by
  intro p e R s m args below meth c Q A ad0 F ad H locs cells slots lsr r
  obtain ⟨C, T, N, ty0, hc, hk, hw, hty, hnm, hlk, hfin, hty1, hdc⟩ := hf
  have hdc : (T kf).1 = k.2.1.1.cls := hdc.elim id (fun q => by cases q)
  have hW := r.2.2.1
  obtain ⟨⟨tys, t1, t2⟩, hP, hD⟩ := r.2.2.1
  have he := vws_get (ad := ad) ha
  have fin : ∀ (H1 : Heap) (locs1 : List Loc), va_P k.1.2.1 vwCl ((vws ad h).set a ((ad a).1, .inr (ci, (fs.map (mv ad)).set kf (.ref (ad x).1)))) H1 → va_D A ((vws ad h).set a ((ad a).1, .inr (ci, (fs.map (mv ad)).set kf (.ref (ad x).1)))) → va_S A s.heap H1 locs1 → W p k.1.1 e R s m args below meth c H1 locs1 cells slots Q (F0 m (pc + 3) lsr (st.map (mv ad))) := by
    intro H1 locs1 hP1 hD1 hS1
    have em : (fs.map (mv ad)).set kf (Value.ref (ad x).1) = (fs.set kf (.ref x)).map (mv ad) := by rw [List.map_set]; rfl
    rw [em] at hP1 hD1
    exact kk p e R s m args below meth c Q A ad0 F ad H1 locs1 cells slots lsr ⟨r.1, r.2.1, hW.ofset ha rfl hP1 hD1, hS1, r.2.2.2.2.1, r.2.2.2.2.2.1, r.2.2.2.2.2.2.1, by rw [List.length_set]; exact r.2.2.2.2.2.2.2⟩
  exact va_putF (D := k.1.2.1) (cl := vwCl) F.1.1 F.1.2.1 F.1.2.2.2.2.1 hw ty0 hty hnm F.1.2.2.2.1 t1 hP hD r.2.2.2.1 a he hc kf hk (F.1.2.2.2.2.1 _ (hl2 C T N hc)) (fun _ q => q) hfin (F.1.2.2.2.2.2.2.2.trans hi) hdc hty1 (hn _).1 (hn _).2 (by rw [List.length_map]; exact hl) hd fin
/-- an int array's element -/
theorem V.iald {a j : Nat} {i v : Int32} {xs : List Int32} (hd : decode k.2.1.2.1 pc = .ok (.iaload, 1)) (ha : h[a]? = some (.inl xs)) (hi : i = nI j) (hj : j < 2147483648) (hv : xs[j]? = some v) (kk : V k b (pc + 1) ls (.int v :: st) h) : V k b pc ls (.int i :: .ref a :: st) h := by
  intro p e R s m args below meth c Q A ad0 F ad H locs cells slots lsr r
  obtain ⟨⟨tys, t1, t2⟩, hP, hD⟩ := r.2.2.1
  have he := vws_get (ad := ad) ha
  obtain ⟨t0, ht0⟩ := List.getElem?_of_mem ((t2 a).1 xs ha)
  have hjl : j < xs.length := (List.getElem?_eq_some_iff.mp hv).1
  have hcl : i.toNatClampNeg = j := by rw [hi]; exact nI_clamp hj
  have hin : vp_in i xs.length := by rw [hi]; exact nI_in2 hjl hj
  refine va_iald (D := k.1.2.1) (cl := vwCl) F.1.1 F.1.2.1 t1 hP a t0 he ht0 hin hd ?_
  have e1 : xs.getD i.toNatClampNeg 0 = v := by rw [hcl, List.getD_eq_getElem?_getD, hv]; rfl
  show W p k.1.1 e R s m args below meth c H locs cells slots Q (F0 m (pc + 1) lsr (.int (xs.getD i.toNatClampNeg 0) :: st.map (mv ad)))
  rw [e1]
  exact kk p e R s m args below meth c Q A ad0 F ad H locs cells slots lsr r
theorem V.iast {a j : Nat} {i x : Int32} {xs : List Int32} (hd : decode k.2.1.2.1 pc = .ok (.iastore, 1)) (ha : h[a]? = some (.inl xs)) (hi : i = nI j) (hj : j < 2147483648) (hl : j < xs.length) (kk : V k b (pc + 1) ls st (h.set a (.inl (xs.set j x)))) : V k b pc ls (.int x :: .int i :: .ref a :: st) h := by
  intro p e R s m args below meth c Q A ad0 F ad H locs cells slots lsr r
  have hW := r.2.2.1
  obtain ⟨⟨tys, t1, t2⟩, hP, hD⟩ := r.2.2.1
  have he := vws_get (ad := ad) ha
  obtain ⟨t0, ht0⟩ := List.getElem?_of_mem ((t2 a).1 xs ha)
  have hcl : i.toNatClampNeg = j := by rw [hi]; exact nI_clamp hj
  have hin : vp_in i xs.length := by rw [hi]; exact nI_in2 hl hj
  refine va_iast (D := k.1.2.1) (cl := vwCl) F.1.1 F.1.2.1 t1 hP hD r.2.2.2.1 a t0 he ht0 hin hd (fun H1 locs1 hP1 hD1 hS1 => ?_)
  have em : (upd (fun j => xs.getD j 0) i.toNatClampNeg x) = (fun q => (xs.set j x).getD q 0) := by
    funext q
    simp only [upd, hcl, List.getD_eq_getElem?_getD, List.getElem?_set]
    by_cases e1 : q = j
    · subst e1; simp [hl]
    · simp [e1, Ne.symm e1]
  have ec : (Sum.inl ((ad a).2, xs.length, .inl (upd (fun j => xs.getD j 0) i.toNatClampNeg x)) : va_E) = vcell ad a (.inl (xs.set j x)) := by rw [em]; simp [vcell]
  rw [ec] at hP1 hD1
  exact kk p e R s m args below meth c Q A ad0 F ad H1 locs1 cells slots lsr ⟨r.1, r.2.1, hW.ofset ha rfl hP1 hD1, hS1, r.2.2.2.2.1, r.2.2.2.2.2.1, r.2.2.2.2.2.2.1, by rw [List.length_set]; exact r.2.2.2.2.2.2.2⟩
theorem V.alen {a : Nat} {xs : List Int32} {v : Int32} (hd : decode k.2.1.2.1 pc = .ok (.arraylength, 1)) (ha : h[a]? = some (.inl xs)) (hv : nI xs.length = v) (kk : V k b (pc + 1) ls (.int v :: st) h) : V k b pc ls (.ref a :: st) h := by
  intro p e R s m args below meth c Q A ad0 F ad H locs cells slots lsr r
  obtain ⟨⟨tys, t1, t2⟩, hP, hD⟩ := r.2.2.1
  have he := vws_get (ad := ad) ha
  obtain ⟨t0, ht0⟩ := List.getElem?_of_mem ((t2 a).1 xs ha)
  exact va_alen (D := k.1.2.1) (cl := vwCl) F.1.1 F.1.2.1 t1 hP a t0 he ht0 hv hd (kk p e R s m args below meth c Q A ad0 F ad H locs cells slots lsr r)
theorem V.aald {a j q : Nat} {i : Int32} {rs : List (Option Nat)} (hd : decode k.2.1.2.1 pc = .ok (.aaload, 1)) (ha : h[a]? = some (.inr (.inl rs))) (hi : i = nI j) (hj : j < 2147483648) (hv : rs[j]? = some (some q)) (kk : V k b (pc + 1) ls (.ref q :: st) h) : V k b pc ls (.int i :: .ref a :: st) h := by
  intro p e R s m args below meth c Q A ad0 F ad H locs cells slots lsr r
  obtain ⟨⟨tys, t1, t2⟩, hP, hD⟩ := r.2.2.1
  have he := vws_get (ad := ad) ha
  obtain ⟨t0, ht0⟩ := List.getElem?_of_mem ((t2 a).2 rs ha)
  have hjl : j < rs.length := (List.getElem?_eq_some_iff.mp hv).1
  have hcl : i.toNatClampNeg = j := by rw [hi]; exact nI_clamp hj
  have hin : vp_in i rs.length := by rw [hi]; exact nI_in2 hjl hj
  refine va_aldq (D := k.1.2.1) (cl := vwCl) F.1.1 F.1.2.1 t1 hP a t0 he ht0 hin hd ?_
  have e1 : rs.getD i.toNatClampNeg none = some q := by rw [hcl, List.getD_eq_getElem?_getD, hv]; rfl
  rw [e1]
  exact kk p e R s m args below meth c Q A ad0 F ad H locs cells slots lsr r
theorem V.aast {a j q ci : Nat} {i : Int32} {rs : List (Option Nat)} {fs : List Value} (hd : decode k.2.1.2.1 pc = .ok (.aastore, 1)) (ha : h[a]? = some (.inr (.inl rs))) (hq : h[q]? = some (.inr (.inr (3, fs)))) (hi : i = nI j) (hj : j < 2147483648) (hl : j < rs.length) (kk : V k b (pc + 1) ls st (h.set a (.inr (.inl (rs.set j (some q)))))) : V k b pc ls (.ref q :: .int i :: .ref a :: st) h := by
  intro p e R s m args below meth c Q A ad0 F ad H locs cells slots lsr r
  have hW := r.2.2.1
  obtain ⟨⟨tys, t1, t2⟩, hP, hD⟩ := r.2.2.1
  have he := vws_get (ad := ad) ha
  have he2 := vws_get (ad := ad) hq
  obtain ⟨t0, ht0⟩ := List.getElem?_of_mem ((t2 a).2 rs ha)
  have hcl : i.toNatClampNeg = j := by rw [hi]; exact nI_clamp hj
  have hin : vp_in i rs.length := by rw [hi]; exact nI_in2 hl hj
  refine va_astq (D := k.1.2.1) (cl := vwCl) (r := (RX3, TX3, 9)) F.1.1 F.1.2.1 t1 hP hD r.2.2.2.1 a t0 q 3 he ht0 he2 rfl hin hd (fun H1 locs1 hP1 hD1 hS1 => ?_)
  have em : (va_up (fun j => (rs.getD j none).map (fun q => (ad q).1)) i.toNatClampNeg (some (ad q).1)) = (fun y => ((rs.set j (some q)).getD y none).map (fun q => (ad q).1)) := by
    funext y
    simp only [va_up, hcl, List.getD_eq_getElem?_getD, List.getElem?_set]
    by_cases e1 : y = j
    · subst e1; simp [hl]
    · simp [e1, Ne.symm e1]
  have ec : (Sum.inl ((ad a).2, rs.length, .inr (.inr (.inr (.inr (va_up (fun j => (rs.getD j none).map (fun q => (ad q).1)) i.toNatClampNeg (some (ad q).1)))))) : va_E) = vcell ad a (.inr (.inl (rs.set j (some q)))) := by rw [em]; simp [vcell]
  rw [ec] at hP1 hD1
  exact kk p e R s m args below meth c Q A ad0 F ad H1 locs1 cells slots lsr ⟨r.1, r.2.1, hW.ofset ha rfl hP1 hD1, hS1, r.2.2.2.2.1, r.2.2.2.2.2.1, r.2.2.2.2.2.2.1, by rw [List.length_set]; exact r.2.2.2.2.2.2.2⟩
/-- the end -/
theorem V.iret {x : Int32} (hd : decode k.2.1.2.1 pc = .ok (.ireturn, 1)) (ht : k.2.1.2.2.2 = some .int) (hp : k.2.2.2.2.2 (some (.int x)) h) : V k b pc ls [.int x] h :=
  fun p e R s m args below meth c Q A ad0 F ad H locs cells slots lsr r => F.2.2.2.2 ad h H locs cells slots lsr pc (some (.int x)) r.1 r.2.2.1 r.2.2.2.1 (Nat.le_trans (Nat.le_add_right _ _) r.2.2.2.2.2.1) (Nat.le_trans (Nat.le_add_right _ _) r.2.2.2.2.2.2.1) hp r.2.2.2.2.2.2.2 (Or.inl ⟨x, rfl, hd, .int, ht, rfl⟩)
theorem V.zret {x : Int32} (hd : decode k.2.1.2.1 pc = .ok (.ireturn, 1)) (ht : k.2.1.2.2.2 = some .boolean) (hx : x = 0 ∨ x = 1) (hp : k.2.2.2.2.2 (some (.int x)) h) : V k b pc ls [.int x] h :=
  fun p e R s m args below meth c Q A ad0 F ad H locs cells slots lsr r => F.2.2.2.2 ad h H locs cells slots lsr pc (some (.int x)) r.1 r.2.2.1 r.2.2.2.1 (Nat.le_trans (Nat.le_add_right _ _) r.2.2.2.2.2.1) (Nat.le_trans (Nat.le_add_right _ _) r.2.2.2.2.2.2.1) hp r.2.2.2.2.2.2.2 (Or.inl ⟨x, rfl, hd, .boolean, ht, by rcases hx with rfl | rfl <;> decide⟩)
theorem V.vret (hd : decode k.2.1.2.1 pc = .ok (.return_, 1)) (ht : k.2.1.2.2.2 = none) (hp : k.2.2.2.2.2 none h) : V k b pc ls [] h :=
  fun p e R s m args below meth c Q A ad0 F ad H locs cells slots lsr r => F.2.2.2.2 ad h H locs cells slots lsr pc none r.1 r.2.2.1 r.2.2.2.1 (Nat.le_trans (Nat.le_add_right _ _) r.2.2.2.2.2.1) (Nat.le_trans (Nat.le_add_right _ _) r.2.2.2.2.2.2.1) hp r.2.2.2.2.2.2.2 (Or.inr ⟨rfl, hd, ht⟩)
end VHeap
end
section
/-! calls, contracts -/
theorem vN_tab {w : Cond} (h : w ∈ vNS) : w.onTables = true := by
  have := (List.mem_filter.mp h).2
  cases w <;> first | rfl | cases this
theorem vNw_warm {w : Cond} (h : w ∈ vNS) {s U : State} (hW : s.WarmedH U.vm) (hZ : va_Nw w s) : va_Nw w U := by
  have := (List.mem_filter.mp h).2
  cases w <;> first | exact va_Nw.warmF hW hZ | exact va_Nw.warmM hW hZ | cases this
theorem VRO.go {g : VG} {ad : VAd} {A B : Nat → Prop} {s U : State} {H : Heap} {locs : List Loc} (r : VRO g ad A s) (hS : va_S A s.heap H locs) (hU : U.heap = H) (hW : s.WarmedH U.vm) (hAB : ∀ q, B q → A q) : VRO g ad B U := by
  subst hU
  obtain ⟨h1, h2, h3, h4, h5, h6, h7, h8, h9, h10, h11, h12, h13⟩ := r
  have hq : ∀ a : Nat, a < s.heap.size → ¬ A a → U.heap[a]? = s.heap[a]? := hS.2.1
  have hv := hW.alike
  exact ⟨((h1.moved hv).kept hq).narrow hAB, ((h2.moved hv).kept hq).narrow hAB, ((h3.moved hv).kept hq).narrow hAB, ((h4.moved hv).kept hq).narrow hAB, ((h5.moved hv).kept hq).narrow hAB, h6.warm hW, ((h7.moved hv).kept hq).narrow hAB, ((h8.moved hv).kept hq).narrow hAB, ((h9.moved hv).kept hq).narrow hAB, ((h10.moved hv).kept hq).narrow hAB, ((h11.moved hv).kept hq).narrow hAB, h12.moved hv, fun w hw => vNw_warm hw hW (h13 w hw)⟩
theorem VRO.same {g : VG} {ad : VAd} {A : Nat → Prop} {U U' : State} (r : VRO g ad A U) (hh : U'.heap = U.heap) (hv : U'.vm = U.vm) : VRO g ad A U' := by
  obtain ⟨h1, h2, h3, h4, h5, h6, h7, h8, h9, h10, h11, h12, h13⟩ := r
  have ha : U.vm.Alike U'.vm := by rw [hv]; exact Vm.Alike.refl _
  exact ⟨by rw [hh]; exact h1.moved ha, by rw [hh]; exact h2.moved ha, by rw [hh]; exact h3.moved ha, by rw [hh]; exact h4.moved ha, by rw [hh]; exact h5.moved ha, h6.same hv, by rw [hh]; exact h7.moved ha, by rw [hh]; exact h8.moved ha, by rw [hh]; exact h9.moved ha, by rw [hh]; exact h10.moved ha, by rw [hh]; exact h11.moved ha, h12.moved ha, fun w hw => va_Nw.same (vN_tab hw) hv.symm (h13 w hw)⟩
theorem vblind {g : VG} {ad : VAd} {h : VHp} {A : Nat → Prop} {sz : Nat} {as : List Value} : FrameBlind (va_Pc as (fun U => U.heap.size = sz ∧ VRO g ad A U ∧ VWd g ad h U U.heap (fun _ => True))) := by
  intro a U fr mk q
  obtain ⟨q0, q1, q2, q3⟩ := q
  exact ⟨q0, q1, q2.same rfl rfl, VWd.moved (U := U) (U' := U.calling fr mk a) (Vm.Alike.refl U.vm) q3⟩
theorem vfree {g : VG} {ad : VAd} {h : VHp} {A : Nat → Prop} {s : State} {H : Heap} {locs : List Loc} (w : VWd g ad h s H A) (hS : va_S A s.heap H locs) (hA : ∀ q, s.heap.size ≤ q → A q) : ∀ q, va_A (vws ad h) H.size q → A q := by
  intro q hq
  rcases hq with ⟨k, e, hk⟩ | hq
  · exact w.2.2.2 k (q, e) hk
  · exact hA q (Nat.le_trans hS.1 hq)
/-- behind a call -/
theorem vafter {g : VG} {p : Program} {e : Env} {R : Room} {s : State} {m : MethodId} {args : Array Value} {below : List Frame} {meth : Method} {c : Code} {H : Heap} {locs : List Loc} {cells slots mc ms pc : Nat} {Q : State → Prop} {lsr : Array Slot} {st0 rest : List Value} {z : Bool} {n : Nat} {Post : VPost} {ad : VAd} {h : VHp} {A : Nat → Prop} {a : Array Value}
    (hr : va_Run p g.1 e R s m args below meth c H locs cells slots mc ms (F0 m pc lsr st0) rest (VQ g z n Post ad (va_A (vws ad h) H.size) a) (va_A (vws ad h) H.size)) (w : VWd g ad h s H A) (hS : va_S A s.heap H locs) (hA : ∀ q, s.heap.size ≤ q → A q)
    (kk : ∀ (v : Option Value) (h' : VHp) (ad' : VAd) (H1 : Heap) (locs1 : List Loc), vagree z n ad ad' → n ≤ h'.length → Post v h' → VWd g ad' h' s H1 A → va_S A s.heap H1 locs1 → W p g.1 e R s m args below meth c H1 locs1 (cells + mc) (slots + ms) Q (F0 m (pc + 3) lsr ((v.map (mv ad')).toList ++ rest))) :
    W p g.1 e R s m args below meth c H locs cells slots Q (F0 m pc lsr st0) := by
  intro T hT X
  obtain ⟨v, st₀, t, T', L, h0, X', hL, e1, e2, ⟨v', h', ad', ha, hn, hv, hp, hw, hz, hk⟩, st⟩ := hr T hT X
  have hF := vfree w hS hA
  cases hv
  rw [h0] at hz hk
  have hal : t.vm.Alike s.vm := by rw [← e2]; exact X'.warmed.alike.symm
  have hw' : VWd g ad' h' s t.heap A := by
    obtain ⟨w1, w2, w3⟩ := hw.moved hal
    exact ⟨w1, w2, w3.weaken (fun _ q _ hq => hF q.1 hq)⟩
  obtain ⟨t2, a1, b1⟩ := kk v' h' ad' t.heap (locs ++ L) ha hn hp hw'
    ⟨Nat.le_trans hS.1 hz, fun q h1 h2 => by rw [hk q (Nat.lt_of_lt_of_le h1 hS.1) (fun z => h2 (hF q z))]; exact hS.2.1 q h1 h2, fun q hq => by
      rcases List.mem_append.mp hq with h | h
      · exact hS.2.2 q h
      · exact hF _ (hL q h)⟩ T' e1 X'
  exact ⟨t2, st t2 a1, b1⟩
theorem VE.of {g : VG} {M : VM} {d : Nat} {z : Bool} {b : Nat × Nat} {args : List Value} {h : VHp} {Post : VPost} (hy : plainName M.1.cls = true) (hc : args.all (fun v => v.category == 1) = true) (hn : args.length ≤ M.2.2.1)
    (hV : V (g, M, d, z, h.length, Post) b 0 (vent args M.2.2.1) [] h) : VE g M d z b args h Post := by
  intro ad sz
  refine Met.ofW (cc := M.2.1) (maxL := M.2.2.1) (ret := M.2.2.2) hy rfl ?_
  intro p e s m args' below meth c s₁ B hml hv
  obtain ⟨rfl, hsz, hro, hw⟩ := hv
  have hts := atoms_spec (ws := Cond.code M.1 M.2.1 M.2.2.1 M.2.2.2 :: vtS) B.pre
  have hown : s.vm.findClass M.1.cls = some m.cls := findClass_of_methodNamed B.named
  have hnm : meth.name = M.1.name := (name_of_methodNamed B.named B.method).1
  have hlocks := B.notSynchronized
  subst hsz
  rw [lg_entry_eq]
  have hA : ∀ q : Nat, s.heap.size ≤ q → va_A (vws ad h) s.heap.size q := fun q hq => Or.inr hq
  refine hV p e (headSpec (Cond.code M.1 M.2.1 M.2.2.1 M.2.2.2 :: vtS) (vroom d b)).room s m _ below meth c _ (va_A (vws ad h) s.heap.size) ad ⟨⟨B.exec, B.bytes, hml, hown, fun w hw => hts w (List.mem_cons_of_mem _ hw), B.returns, hlocks, hnm⟩, Nat.le_refl _, Nat.le_refl _, hA, ?_⟩ ad s.heap [] 0 0 _ ⟨vagree.rf, hro, ⟨hw.1, hw.2.1, hw.2.2.self⟩, va_S.rf, vent_LR hc hn, Nat.le_of_eq (Nat.zero_add _), Nat.le_of_eq (Nat.zero_add _), Nat.le_refl _⟩
  intro ad' h' H' locs' cells' slots' lsr' pc' v hag hw' hS' hce hsl hp hlen hri
  refine W.widen (k := b.1) (n := b.2) hce hsl ?_
  rcases hri with ⟨x, rfl, hd, ty, hty, hnr⟩ | ⟨rfl, hd, hty⟩
  · exact W.zret (ty := ty) B.exec B.bytes (B.returns.trans hty) hnr (fun t ht hWm => ⟨some (.int x), h', ad', hag, hlen, rfl, hp, by rw [ht]; exact hw'.moved hWm.alike, hS'.F ht⟩) hS'.2.2 hd
  · exact W.vret B.exec B.bytes (B.returns.trans hty) (fun t ht hWm => ⟨none, h', ad', hag, hlen, rfl, hp, by rw [ht]; exact hw'.moved hWm.alike, hS'.F ht⟩) hS'.2.2 hd
/-- what is known of a method that is called: its code is among the words -/
def vcM (M : VM) (n : Nat) : Prop := Cond.code M.1 M.2.1 M.2.2.1 M.2.2.2 ∈ vtS ∧ Cond.initialized M.1.cls ∈ vtS ∧ M.2.2.1 ≤ 60 ∧ (M.1.cls ≠ "java/lang/invoke/MethodHandle" ∧ M.1.cls ≠ "java/lang/invoke/VarHandle" ∧ (parseMethodDescriptor M.1.desc).map (fun d => d.parameters.length) = some n)
theorem vgood {w : Cond} (h : w ∈ vtS) : w ∈ vtS ∧ ((w.onTables && w.keeps) = true ∨ ∃ ty, w = .arrayClass ty) := ⟨h, good_of_word (vtS_good w h)⟩
theorem vgoodM {M : VM} {n : Nat} (h : vcM M n) : GoodIn vtS (Cond.code M.1 M.2.1 M.2.2.1 M.2.2.2 :: vtS) := fun w hw => by
  rcases List.mem_cons.mp hw with rfl | hw
  · exact vgood h.1
  · exact vgood hw
def vcV (own : String) (idx : Nat) (M : VM) (n : Nat) : Prop := vcM M n ∧ Cond.methodLink own idx M.1 ∈ vtS ∧ Cond.instanceMethod M.1 ∈ vtS ∧ Cond.selects M.1.cls M.1 M.1 ∈ vtS
def vcS (own : String) (idx : Nat) (M : VM) (n : Nat) : Prop := vcM M n ∧ (Cond.methodLink own idx M.1 ∈ vtS ∨ ∃ host, Cond.methodLinkNest own idx M.1 host ∈ vNS) ∧ Cond.static M.1 ∈ vtS
def vcI (own : String) (idx : Nat) (M : VM) (n : Nat) : Prop := vcM M n ∧ (Cond.methodLink own idx M.1 ∈ vtS ∨ ∃ host, Cond.methodLinkNest own idx M.1 host ∈ vNS) ∧ Cond.instanceMethod M.1 ∈ vtS ∧ M.1.name = "<init>" ∧ M.2.2.2 = none
theorem vcat {ad : VAd} {rest : List Value} (h : (rest.map fun v => v.category).sum ≤ 8) : ((rest.map (mv ad)).map fun v => v.category).sum ≤ 8 := by
  rw [List.map_map]
  have : ((fun v => Value.category v) ∘ mv ad) = fun v => v.category := funext fun v => mv_cat ad v
  rw [this]; exact h
section VCalls
variable {k : VK} {b : Nat × Nat} {pc : Nat} {ls : List (Option Value)} {st : List Value} {h : VHp}
/-- an instance method's call, one that makes nothing -/
theorem V.callV {idx n ci d a : Nat} {M : VM} {As rest fs : List Value} {Post : VPost} (hc : vcV k.2.1.1.cls idx M n) (hE : VE k.1 M d false (0, 0) (.ref a :: As) h Post) (hd : decode k.2.1.2.1 pc = .ok (.invokevirtual idx, 3)) (hdp : d + 1 ≤ k.2.2.1) (hcl : (vwCl[ci]?).map (fun q => q.1) = some M.1.cls) (ha : h[a]? = some (.inr (.inr (ci, fs)))) (hst : st = As.reverse ++ .ref a :: rest) (hn : As.length = n) (hsz : (rest.map fun v => v.category).sum ≤ 8)
    (kk : ∀ v h', Post v h' → V k b (pc + 3) ls (v.toList ++ rest) h') : V k b pc ls st h := by
  intro p e R s m args below meth c Q A ad0 F ad H locs cells slots lsr r
  obtain ⟨hM, hl1, hl2, hl3⟩ := hc
  have hts := F.1.2.2.2.2.1
  have hW := r.2.2.1
  have hF := vfree hW r.2.2.2.1 F.2.2.2.1
  obtain ⟨⟨tys, t1, t2⟩, hP, hD⟩ := r.2.2.1
  have he := vws_get (ad := ad) ha
  have hcw : CallW R s args k.2.1.1.cls M.1.cls idx M.1 M.2.1 M.2.2.1 M.2.2.2 (Cond.code M.1 M.2.1 M.2.2.1 M.2.2.2 :: vtS) (vroom d (0, 0)) 0 0 n := by
    refine cwV n hts (fun w hw => ?_) rfl rfl rfl ⟨rfl, hM.2.2.2⟩ ⟨Nat.le_trans hdp F.2.1, ?_⟩
    · rcases List.mem_append.mp hw with hw | hw
      · simp only [List.mem_cons, List.not_mem_nil, or_false] at hw
        rcases hw with rfl | rfl | rfl | rfl
        · exact vgood hl1
        · exact vgood hl2
        · exact vgood hl3
        · exact vgood hM.2.1
      · exact vgoodM hM w hw
    · have h1 := F.2.2.1
      have h2 := hM.2.2.1
      show 8 + (M.2.2.1 + 11) + 80 * d ≤ R.locals
      omega
  have hcls : ∃ q, vwCl[ci]? = some q ∧ q.1 = M.1.cls := by
    cases hq : vwCl[ci]? with
    | none => rw [hq] at hcl; cases hcl
    | some q => rw [hq] at hcl; exact ⟨q, rfl, Option.some.inj hcl⟩
  obtain ⟨q, hq1, hq2⟩ := hcls
  have hrecv := va_recv (D := k.1.2.1) t1 hP (ci := ci) (q0 := a) hq1 he
  rw [hq2] at hrecv
  have hrun := va_runV (p := p) (e := e) (below := below) (meth := meth) (locs := locs) (cells := cells) (slots := slots) (g := F0 m pc lsr (st.map (mv ad))) (As := As.map (mv ad)) (rest := rest.map (mv ad)) (b := (ad a).1) (H := H) ⟨F.1.1, F.1.2.1, F.1.2.2.1, F.1.2.2.2.1, hts⟩ (hE ad H.size) hcw ⟨vblind, hrecv, fun U hU hWm => ⟨rfl, by rw [hU], VRO.go r.2.1 r.2.2.2.1 hU hWm hF, by rw [hU]; exact VWd.moved hWm.alike ⟨⟨tys, t1, t2⟩, hP, hD.weaken (fun _ _ _ _ => trivial)⟩⟩⟩ rfl (by rw [List.length_map]; exact hn) r.2.2.2.2.1.2.1 (by rw [hst]; simp [mv, List.map_reverse]) (lv_room (vcat hsz)) hd ⟨Nat.le_trans (Nat.le_add_right _ _) r.2.2.2.2.2.1, Nat.le_trans (Nat.le_add_right _ _) r.2.2.2.2.2.2.1⟩
  refine vafter hrun hW r.2.2.2.1 F.2.2.2.1 (fun v h' ad' H1 locs1 hag hlen hp hw' hS' => ?_)
  obtain rfl := hag.eq
  have e1 : (v.map (mv ad')).toList ++ rest.map (mv ad') = (v.toList ++ rest).map (mv ad') := by cases v <;> simp
  rw [e1]
  exact kk v h' hp p e R s m args below meth c Q A ad0 F ad' H1 locs1 cells slots lsr ⟨r.1, r.2.1, hw', hS', r.2.2.2.2.1, r.2.2.2.2.2.1, r.2.2.2.2.2.2.1, Nat.le_trans r.2.2.2.2.2.2.2 hlen⟩
/-- a static method's call, one that makes nothing -/
theorem V.callS {idx n d : Nat} {M : VM} {As rest : List Value} {Post : VPost} (hc : vcS k.2.1.1.cls idx M n) (hE : VE k.1 M d false (0, 0) As h Post) (hd : decode k.2.1.2.1 pc = .ok (.invokestatic idx, 3)) (hdp : d + 1 ≤ k.2.2.1) (hst : st = As.reverse ++ rest) (hn : As.length = n) (hsz : (rest.map fun v => v.category).sum ≤ 8)
    (kk : ∀ v h', Post v h' → V k b (pc + 3) ls (v.toList ++ rest) h') : V k b pc ls st h := by
  intro p e R s m args below meth c Q A ad0 F ad H locs cells slots lsr r
  obtain ⟨hM, hl1, hl2⟩ := hc
  have hts := F.1.2.2.2.2.1
  have hW := r.2.2.1
  have hF := vfree hW r.2.2.2.1 F.2.2.2.1
  obtain ⟨⟨tys, t1, t2⟩, hP, hD⟩ := r.2.2.1
  have hroom : (vroom d (0, 0)).frames + 1 ≤ R.frames ∧ 8 + (M.2.2.1 + 11) + (vroom d (0, 0)).locals ≤ R.locals := by
    refine ⟨Nat.le_trans hdp F.2.1, ?_⟩
    have h1 := F.2.2.1
    have h2 := hM.2.2.1
    show 8 + (M.2.2.1 + 11) + 80 * d ≤ R.locals
    omega
  have hpre : PreS s H (va_Pc (As.map (mv ad)) (fun U => U.heap.size = H.size ∧ VRO k.1 ad (va_A (vws ad h) H.size) U ∧ VWd k.1 ad h U U.heap (fun _ => True))) (As.map (mv ad)) := ⟨vblind, fun U hU hWm => ⟨rfl, by rw [hU], VRO.go r.2.1 r.2.2.2.1 hU hWm hF, by rw [hU]; exact VWd.moved hWm.alike ⟨⟨tys, t1, t2⟩, hP, hD.weaken (fun _ _ _ _ => trivial)⟩⟩⟩
  have hstk : (F0 m pc lsr (st.map (mv ad))).stack = (As.map (mv ad)).reverse ++ rest.map (mv ad) := by rw [hst]; simp [List.map_reverse]
  have hrun : va_Run p k.1.1 e R s m args below meth c H locs cells slots 0 0 (F0 m pc lsr (st.map (mv ad))) (rest.map (mv ad)) (VQ k.1 false h.length Post ad (va_A (vws ad h) H.size) (As.map (mv ad)).toArray) (va_A (vws ad h) H.size) := by
    rcases hl1 with hl1 | ⟨host, hl1⟩
    · refine va_runS (own := k.2.1.1.cls) (Ts := vtS) (bytes := M.2.1) (maxL := M.2.2.1) (ret := M.2.2.2) (n := n) ⟨F.1.1, F.1.2.1, F.1.2.2.1, F.1.2.2.2.1, hts⟩ (hE ad H.size) ⟨callB_of n hts (vgoodM hM) rfl rfl rfl (hts _ hM.2.1) (hts _ hl1) hM.2.2.2 hroom, hts _ hl2⟩ hpre rfl (by rw [List.length_map]; exact hn) r.2.2.2.2.1.2.1 hstk (lv_room (vcat hsz)) hd ⟨Nat.le_trans (Nat.le_add_right _ _) r.2.2.2.2.2.1, Nat.le_trans (Nat.le_add_right _ _) r.2.2.2.2.2.2.1⟩
    · refine va_runSN (own := k.2.1.1.cls) (host := host) (Ts := vtS) (bytes := M.2.1) (maxL := M.2.2.1) (ret := M.2.2.2) (n := n) ⟨F.1.1, F.1.2.1, F.1.2.2.1, F.1.2.2.2.1, hts⟩ (hE ad H.size) ⟨va_cnB n hts (vgoodM hM) rfl rfl rfl (r.2.1.nest _ hl1) (hts _ hM.2.1) hM.2.2.2 hroom, hts _ hl2, trivial⟩ hpre rfl (by rw [List.length_map]; exact hn) r.2.2.2.2.1.2.1 hstk (lv_room (vcat hsz)) hd ⟨Nat.le_trans (Nat.le_add_right _ _) r.2.2.2.2.2.1, Nat.le_trans (Nat.le_add_right _ _) r.2.2.2.2.2.2.1⟩
  refine vafter hrun hW r.2.2.2.1 F.2.2.2.1 (fun v h' ad' H1 locs1 hag hlen hp hw' hS' => ?_)
  obtain rfl := hag.eq
  have e1 : (v.map (mv ad')).toList ++ rest.map (mv ad') = (v.toList ++ rest).map (mv ad') := by cases v <;> simp
  rw [e1]
  exact kk v h' hp p e R s m args below meth c Q A ad0 F ad' H1 locs1 cells slots lsr ⟨r.1, r.2.1, hw', hS', r.2.2.2.2.1, r.2.2.2.2.2.1, r.2.2.2.2.2.2.1, Nat.le_trans r.2.2.2.2.2.2.2 hlen⟩
end VCalls
end
section
/-! the JDK's small ones, statics, making things -/
section VJdk
variable {k : VK} {b : Nat × Nat} {pc : Nat} {ls : List (Option Value)} {st : List Value} {h : VHp}
theorem vrm {R : Room} {d x : Nat} (h1 : 1 ≤ d) (h2 : 80 * d ≤ R.locals) (h3 : x ≤ 80) : x ≤ R.locals := by omega
theorem V.mabs {idx : Nat} {x : Int32} (hw : Cond.methodLink k.2.1.1.cls idx Lib.Math.abs.name ∈ vtS ∧ Cond.static Lib.Math.abs.name ∈ vtS ∧ Cond.initialized "java/lang/Math" ∈ vtS ∧ Cond.code Lib.Math.abs.name Lib.Math.abs.code 1 (some .int) ∈ vtS) (hd : decode k.2.1.2.1 pc = .ok (.invokestatic idx, 3)) (hdp : 1 ≤ k.2.2.1) (hsz : (st.map fun v => v.category).sum ≤ 8) (kk : V k b (pc + 3) ls (.int (if 0 ≤ x then x else 0 - x) :: st) h) : V k b pc ls (.int x :: st) h := by
  intro p e R s m args below meth c Q A ad0 F ad H locs cells slots lsr r
  have hts := F.1.2.2.2.2.1
  exact va_mabs F.1.1 F.1.2.1 (F.1.2.2.1.trans r.2.2.2.2.1.2.1.symm) F.1.2.2.2.1 (hts _ hw.1) (hts _ hw.2.1) (hts _ hw.2.2.1) (hts _ hw.2.2.2) (Nat.le_trans hdp F.2.1) (vrm hdp F.2.2.1 (by have := vcat (ad := ad) hsz; omega)) (Nat.le_trans (Nat.le_add_right _ _) r.2.2.2.2.2.1) (Nat.le_trans (Nat.le_add_right _ _) r.2.2.2.2.2.2.1) hd (kk p e R s m args below meth c Q A ad0 F ad H locs cells slots lsr r)
theorem V.mmin {idx : Nat} {x y : Int32} (hw : Cond.methodLink k.2.1.1.cls idx Lib.Math.min.name ∈ vtS ∧ Cond.static Lib.Math.min.name ∈ vtS ∧ Cond.initialized "java/lang/Math" ∈ vtS ∧ Cond.code Lib.Math.min.name Lib.Math.min.code 2 (some .int) ∈ vtS) (hd : decode k.2.1.2.1 pc = .ok (.invokestatic idx, 3)) (hdp : 1 ≤ k.2.2.1) (hsz : (st.map fun v => v.category).sum ≤ 8) (kk : V k b (pc + 3) ls (.int (if y < x then y else x) :: st) h) : V k b pc ls (.int y :: .int x :: st) h := by
  intro p e R s m args below meth c Q A ad0 F ad H locs cells slots lsr r
  have hts := F.1.2.2.2.2.1
  exact va_mmin F.1.1 F.1.2.1 (F.1.2.2.1.trans r.2.2.2.2.1.2.1.symm) F.1.2.2.2.1 (hts _ hw.1) (hts _ hw.2.1) (hts _ hw.2.2.1) (hts _ hw.2.2.2) (Nat.le_trans hdp F.2.1) (vrm hdp F.2.2.1 (by have := vcat (ad := ad) hsz; omega)) (Nat.le_trans (Nat.le_add_right _ _) r.2.2.2.2.2.1) (Nat.le_trans (Nat.le_add_right _ _) r.2.2.2.2.2.2.1) hd (kk p e R s m args below meth c Q A ad0 F ad H locs cells slots lsr r)
theorem vnfw : nativeFrameWords "java/lang/System" "arraycopy" 5 + 11 ≤ 60 := by decide +kernel
/-- arraycopy of whole int arrays of one length -/
theorem V.copy {idx n a0 a1 : Nat} {xs ys : List Int32} {i : Int32} (hw : Cond.methodLink k.2.1.1.cls idx arraycopyName ∈ vtS ∧ Cond.native arraycopyName ∈ vtS ∧ Cond.static arraycopyName ∈ vtS ∧ Cond.initialized "java/lang/System" ∈ vtS) (hd : decode k.2.1.2.1 pc = .ok (.invokestatic idx, 3)) (hdp : 1 ≤ k.2.2.1) (hsz : (st.map fun v => v.category).sum ≤ 8) (h0 : h[a0]? = some (.inl xs)) (h1 : h[a1]? = some (.inl ys)) (l0 : xs.length = n) (l1 : ys.length = n) (hi : i = nI n) (hn : n < 2147483648) (kk : V k b (pc + 3) ls st (h.set a1 (.inl xs))) : V k b pc ls (.int i :: .int 0 :: .ref a1 :: .int 0 :: .ref a0 :: st) h := by
  intro p e R s m args below meth c Q A ad0 F ad H locs cells slots lsr r
  have hts := F.1.2.2.2.2.1
  have hW := r.2.2.1
  obtain ⟨⟨tys, t1, t2⟩, hP, hD⟩ := r.2.2.1
  obtain ⟨t0, ht0⟩ := List.getElem?_of_mem ((t2 a0).1 xs h0)
  obtain ⟨t9, ht9⟩ := List.getElem?_of_mem ((t2 a1).1 ys h1)
  have hcl : i.toNatClampNeg = n := by rw [hi]; exact nI_clamp hn
  have hz : (0 : Int32).toNatClampNeg = 0 := by decide
  refine va_copyi (D := k.1.2.1) (cl := vwCl) (ty := .int) F.1.1 F.1.2.1 (F.1.2.2.1.trans r.2.2.2.2.1.2.1.symm) F.1.2.2.2.1 (hts _ hw.1) (hts _ hw.2.1) (hts _ hw.2.2.1) (hts _ hw.2.2.2) t1 hP hD r.2.2.2.1 a0 a1 t0 t9 (vws_get (ad := ad) h0) (vws_get (ad := ad) h1) ht0 ht9 rfl (by decide) (by decide) (by rw [hi]; exact nI_pos hn) (by rw [hcl, hz]; omega) (by rw [hcl, hz]; omega) (fun _ _ => rfl) (Nat.le_trans hdp F.2.1) (vrm hdp F.2.2.1 (by have := vcat (ad := ad) hsz; have := vnfw; omega)) hd (fun H1 locs1 hP1 hD1 hS1 => ?_)
  have em : (va_cpy (fun j => xs.getD j 0) (fun j => ys.getD j 0) (0 : Int32).toNatClampNeg (0 : Int32).toNatClampNeg i.toNatClampNeg) = fun q => xs.getD q 0 := by
    funext q
    rw [hcl, hz]
    simp only [va_cpy]
    split
    next hq => simp
    next hq =>
      have : n ≤ q := by omega
      rw [List.getD_eq_getElem?_getD, List.getD_eq_getElem?_getD, List.getElem?_eq_none (by omega), List.getElem?_eq_none (by omega)]
  have ec : (Sum.inl ((ad a1).2, ys.length, .inl (va_cpy (fun j => xs.getD j 0) (fun j => ys.getD j 0) (0 : Int32).toNatClampNeg (0 : Int32).toNatClampNeg i.toNatClampNeg)) : va_E) = vcell ad a1 (.inl xs) := by rw [em, l1, ← l0]; rfl
  rw [ec] at hP1 hD1
  exact kk p e R s m args below meth c Q A ad0 F ad H1 locs1 cells slots lsr ⟨r.1, r.2.1, hW.ofset h1 rfl hP1 hD1, hS1, r.2.2.2.2.1, r.2.2.2.2.2.1, r.2.2.2.2.2.2.1, by rw [List.length_set]; exact r.2.2.2.2.2.2.2⟩
/-- the two rows of steps -/
theorem V.gets1 {idx : Nat} (hw : Cond.fieldLink k.2.1.1.cls idx "HeartVanes" "EAST_BY_SIDE" "[I" ∈ vtS ∨ ∃ host, Cond.fieldLinkNest k.2.1.1.cls idx "HeartVanes" "EAST_BY_SIDE" "[I" host ∈ vNS) (hd : decode k.2.1.2.1 pc = .ok (.getstatic idx, 3)) (kk : V k b (pc + 3) ls (.ref 1000001 :: st) h) : V k b pc ls st h := by
  intro p e R s m args below meth c Q A ad0 F ad H locs cells slots lsr r
  have hts := F.1.2.2.2.2.1
  obtain ⟨-, z1, -⟩ := r.2.1
  rcases hw with hw | ⟨host, hw⟩
  · exact va_gets F.1.1 F.1.2.1 z1 r.2.2.2.1 F.1.2.2.2.1 (hts _ hw) (fun _ q => q) hd (kk p e R s m args below meth c Q A ad0 F ad H locs cells slots lsr r)
  · exact va_getsN F.1.1 F.1.2.1 z1 r.2.2.2.1 F.1.2.2.2.1 (va_Nw.use rfl (r.2.1.nest _ hw)) (fun _ q => q) hd (kk p e R s m args below meth c Q A ad0 F ad H locs cells slots lsr r)
theorem V.gets2 {idx : Nat} (hw : Cond.fieldLink k.2.1.1.cls idx "HeartVanes" "SOUTH_BY_SIDE" "[I" ∈ vtS ∨ ∃ host, Cond.fieldLinkNest k.2.1.1.cls idx "HeartVanes" "SOUTH_BY_SIDE" "[I" host ∈ vNS) (hd : decode k.2.1.2.1 pc = .ok (.getstatic idx, 3)) (kk : V k b (pc + 3) ls (.ref 1000002 :: st) h) : V k b pc ls st h := by
  intro p e R s m args below meth c Q A ad0 F ad H locs cells slots lsr r
  have hts := F.1.2.2.2.2.1
  obtain ⟨-, -, -, z1, -⟩ := r.2.1
  rcases hw with hw | ⟨host, hw⟩
  · exact va_gets F.1.1 F.1.2.1 z1 r.2.2.2.1 F.1.2.2.2.1 (hts _ hw) (fun _ q => q) hd (kk p e R s m args below meth c Q A ad0 F ad H locs cells slots lsr r)
  · exact va_getsN F.1.1 F.1.2.1 z1 r.2.2.2.1 F.1.2.2.2.1 (va_Nw.use rfl (r.2.1.nest _ hw)) (fun _ q => q) hd (kk p e R s m args below meth c Q A ad0 F ad H locs cells slots lsr r)
theorem V.ald1 {i : Int32} {j : Nat} (hd : decode k.2.1.2.1 pc = .ok (.iaload, 1)) (hi : i = nI j) (hj : j < 4) (kk : V k b (pc + 1) ls (.int (vea j) :: st) h) : V k b pc ls (.int i :: .ref 1000001 :: st) h := by
  intro p e R s m args below meth c Q A ad0 F ad H locs cells slots lsr r
  obtain ⟨-, -, t1, -⟩ := r.2.1
  exact va_ti (v := .int (vea j)) F.1.1 F.1.2.1 t1 r.2.2.2.1 (by rw [hi]; exact nI_in2 hj (by omega)) (by rw [hi, nI_clamp (by omega)]) hd (kk p e R s m args below meth c Q A ad0 F ad H locs cells slots lsr r)
theorem V.ald2 {i : Int32} {j : Nat} (hd : decode k.2.1.2.1 pc = .ok (.iaload, 1)) (hi : i = nI j) (hj : j < 4) (kk : V k b (pc + 1) ls (.int (vso j) :: st) h) : V k b pc ls (.int i :: .ref 1000002 :: st) h := by
  intro p e R s m args below meth c Q A ad0 F ad H locs cells slots lsr r
  obtain ⟨-, -, -, -, t1, -⟩ := r.2.1
  exact va_ti (v := .int (vso j)) F.1.1 F.1.2.1 t1 r.2.2.2.1 (by rw [hi]; exact nI_in2 hj (by omega)) (by rw [hi, nI_clamp (by omega)]) hd (kk p e R s m args below meth c Q A ad0 F ad H locs cells slots lsr r)
/-- the script -/
theorem V.ald0 {i : Int32} {j : Nat} (hd : decode k.2.1.2.1 pc = .ok (.iaload, 1)) (hi : i = nI j) (hj : j < k.1.2.2.length) (hb : j < 2147483648) (kk : V k b (pc + 1) ls (.int (k.1.2.2.getD j 0) :: st) h) : V k b pc ls (.int i :: .ref 1000000 :: st) h := by
  intro p e R s m args below meth c Q A ad0 F ad H locs cells slots lsr r
  obtain ⟨t1, -⟩ := r.2.1
  exact va_ti (v := .int (k.1.2.2.getD j 0)) F.1.1 F.1.2.1 t1 r.2.2.2.1 (by rw [hi]; exact nI_in2 hj hb) (by rw [hi, nI_clamp hb]) hd (kk p e R s m args below meth c Q A ad0 F ad H locs cells slots lsr r)
theorem V.alen0 {v : Int32} (hd : decode k.2.1.2.1 pc = .ok (.arraylength, 1)) (hv : nI k.1.2.2.length = v) (kk : V k b (pc + 1) ls (.int v :: st) h) : V k b pc ls (.ref 1000000 :: st) h := by
  intro p e R s m args below meth c Q A ad0 F ad H locs cells slots lsr r
  obtain ⟨t1, -⟩ := r.2.1
  exact va_tlen F.1.1 F.1.2.1 t1 r.2.2.2.1 hv hd (kk p e R s m args below meth c Q A ad0 F ad H locs cells slots lsr r)
theorem V.objInit {idx a : Nat} (hw : Cond.methodLink k.2.1.1.cls idx Lib.objectInit ∈ vtS ∧ Cond.instanceMethod Lib.objectInit ∈ vtS ∧ Cond.code Lib.objectInit ⟨#[0xb1]⟩ 1 none ∈ vtS) (hd : decode k.2.1.2.1 pc = .ok (.invokespecial idx, 3)) (hdp : 1 ≤ k.2.2.1) (hsz : (st.map fun v => v.category).sum ≤ 8) (kk : V k b (pc + 3) ls st h) : V k b pc ls (.ref a :: st) h := by
  intro p e R s m args below meth c Q A ad0 F ad H locs cells slots lsr r
  have hts := F.1.2.2.2.2.1
  exact W.objInit F.1.1 F.1.2.1 F.1.2.2.2.1 (hts _ hw.1) (hts _ hw.2.1) (hts _ hw.2.2) (g := F0 m pc lsr (.ref (ad a).1 :: st.map (mv ad))) rfl (r.2.2.2.2.1.2.1.trans F.1.2.2.1.symm) rfl hd (Nat.le_trans hdp F.2.1) (vrm hdp F.2.2.1 (by show 2 * 0 + _ + 12 ≤ 80; have := vcat (ad := ad) hsz; omega)) (kk p e R s m args below meth c Q A ad0 F ad H locs cells slots lsr r)
end VJdk
/-! making -/
def vokv (n : Nat) : Value → Prop
  | .ref q => q < n ∨ 1000000 ≤ q
  | _ => True
def vokc (n : Nat) : VC → Prop
  | .inl _ => True
  | .inr (.inl rs) => ∀ q, some q ∈ rs → q < n
  | .inr (.inr o) => ∀ v ∈ o.2, vokv n v
def vwf (n : Nat) (h : VHp) : Prop := ∀ c ∈ h, vokc n c
theorem vokv.mono {n n' : Nat} {v : Value} (h : vokv n v) (hn : n ≤ n') : vokv n' v := by
  cases v with
  | ref q => exact (show q < n ∨ 1000000 ≤ q from h).elim (fun x => Or.inl (Nat.lt_of_lt_of_le x hn)) Or.inr
  | _ => trivial
theorem vokc.mono {n n' : Nat} {c : VC} (h : vokc n c) (hn : n ≤ n') : vokc n' c := by
  match c, h with
  | .inl _, _ => trivial
  | .inr (.inl rs), h => exact fun q hq => Nat.lt_of_lt_of_le (h q hq) hn
  | .inr (.inr o), h => exact fun v hv => (h v hv).mono hn
theorem vwf.mono {n n' : Nat} {h : VHp} (w : vwf n h) (hn : n ≤ n') : vwf n' h := fun c hc => (w c hc).mono hn
theorem vwf.app {n : Nat} {h : VHp} {c : VC} (w : vwf n h) (hc : vokc n c) : vwf n (h ++ [c]) := fun x hx => (List.mem_append.mp hx).elim (w x) (fun q => by rw [List.mem_singleton.mp q]; exact hc)
theorem vwf.set {n a : Nat} {h : VHp} {c : VC} (w : vwf n h) (hc : vokc n c) : vwf n (h.set a c) := fun x hx => (List.mem_or_eq_of_mem_set hx).elim (w x) (fun q => by rw [q]; exact hc)
theorem mv_ext {n : Nat} {ad ad' : VAd} {v : Value} (ha : vagree true n ad ad') (h : vokv n v) : mv ad' v = mv ad v := by
  cases v with
  | ref q => simp only [mv]; rw [ha q (fun _ => h)]
  | _ => rfl
theorem vcell_ext {n k : Nat} {ad ad' : VAd} {c : VC} (ha : vagree true n ad ad') (h : vokc n c) (hk : k < n) : vcell ad' k c = vcell ad k c := by
  have ek : ad' k = ad k := ha k (fun _ => Or.inl hk)
  match c, h with
  | .inl xs, _ => simp only [vcell, ek]
  | .inr (.inl rs), h =>
    simp only [vcell, ek]
    have : (fun j => Option.map (fun q => (ad' q).1) (rs.getD j none)) = (fun j => Option.map (fun q => (ad q).1) (rs.getD j none)) := by
      funext j
      cases hj : rs.getD j none with
      | none => rfl
      | some q =>
        have : some q ∈ rs := by
          rw [List.getD_eq_getElem?_getD] at hj
          cases hx : rs[j]? with
          | none => rw [hx] at hj; cases hj
          | some y => rw [hx] at hj; simp only [Option.getD_some] at hj; subst hj; exact List.mem_of_getElem? hx
        simp only [Option.map_some]
        rw [ha q (fun _ => Or.inl (h q this))]
    rw [this]
  | .inr (.inr o), h =>
    simp only [vcell]
    have : o.2.map (mv ad') = o.2.map (mv ad) := List.map_congr_left (fun v hv => mv_ext ha (h v hv))
    rw [this]
theorem vws_ext {n : Nat} {ad ad' : VAd} {h : VHp} (ha : vagree true n ad ad') (w : vwf n h) (hl : h.length ≤ n) : vws ad' h = vws ad h := by
  apply List.ext_getElem?
  intro j
  simp only [vws, List.getElem?_mapIdx]
  cases hj : h[j]? with
  | none => rfl
  | some c =>
    have hjl := (List.getElem?_eq_some_iff.mp hj).1
    simp only [Option.map_some]
    rw [vcell_ext ha (w c (List.mem_of_getElem? hj)) (by omega), ha j (fun _ => Or.inl (by omega))]
theorem vws_app (ad : VAd) (h : VHp) (c : VC) : vws ad (h ++ [c]) = vws ad h ++ [((ad h.length).1, vcell ad h.length c)] := by
  simp [vws, List.mapIdx_append]
def vadd (ad : VAd) (n : Nat) (q : Nat × ClassId) : VAd := fun j => if j = n then q else ad j
theorem vadd_agree {ad : VAd} {n : Nat} {q : Nat × ClassId} (hn : n < 1000000) : vagree true n ad (vadd ad n q) := fun k hk => by
  have : k ≠ n := by rcases hk rfl with h | h <;> omega
  simp [vadd, this]
theorem vadd_self {ad : VAd} {n : Nat} {q : Nat × ClassId} : vadd ad n q n = q := by simp [vadd]
theorem VRO.agree {g : VG} {ad ad' : VAd} {A : Nat → Prop} {s : State} {n : Nat} (r : VRO g ad A s) (ha : vagree true n ad ad') : VRO g ad' A s := by
  have e : ∀ j, 1000000 ≤ j → ad' j = ad j := fun j hj => ha j (fun _ => Or.inr hj)
  unfold VRO
  rw [e 1000000 (by omega), e 1000001 (by omega), e 1000002 (by omega), e 1000003 (by omega), e 1000004 (by omega)]
  exact r
theorem VLR.agree {ad ad' : VAd} {nL n : Nat} {ls : List (Option Value)} {lsr : Array Slot} (r : VLR ad nL ls lsr) (ha : vagree true n ad ad') (h : ∀ v, some v ∈ ls → vokv n v) : VLR ad' nL ls lsr :=
  ⟨r.1, r.2.1, r.2.2.1, fun i v hi => by rw [mv_ext ha (h v (List.mem_of_getElem? hi))]; exact r.2.2.2 i v hi⟩
theorem vmap_ext {n : Nat} {ad ad' : VAd} {st : List Value} (ha : vagree true n ad ad') (h : ∀ v ∈ st, vokv n v) : st.map (mv ad') = st.map (mv ad) := List.map_congr_left (fun v hv => mv_ext ha (h v hv))
/-- locals and stack hold no reference to what isn't there -/
def vlok (n : Nat) (ls : List (Option Value)) (st : List Value) : Prop := (∀ v, some v ∈ ls → vokv n v) ∧ ∀ v ∈ st, vokv n v
theorem vtys.add {ad : VAd} {h : VHp} {tys : List (ClassId × FieldType)} {n : Nat} {q : Nat × ClassId} {c : VC} {ty : List (ClassId × FieldType)} (t : vtys ad h tys) (hn : n = h.length) (hi : ∀ xs, c = .inl xs → (q.2, FieldType.int) ∈ tys ++ ty) (hr : ∀ rs, c = .inr (.inl rs) → (q.2, FieldType.object "HeartVanes$Room") ∈ tys ++ ty) : vtys (vadd ad n q) (h ++ [c]) (tys ++ ty) := by
  intro j
  by_cases hj : j < h.length
  · have e : vadd ad n q j = ad j := by simp [vadd]; intro x; omega
    rw [List.getElem?_append_left hj, e]
    exact ⟨fun xs hx => List.mem_append_left _ ((t j).1 xs hx), fun xs hx => List.mem_append_left _ ((t j).2 xs hx)⟩
  · rw [List.getElem?_append_right (by omega)]
    by_cases hj2 : j = h.length
    · subst hj2; subst hn
      rw [Nat.sub_self, vadd_self]
      exact ⟨fun xs hx => hi xs (by simpa using hx), fun rs hx => hr rs (by simpa using hx)⟩
    · have : ([c] : VHp)[j - h.length]? = none := List.getElem?_eq_none (by simp; omega)
      rw [this]
      exact ⟨fun _ hx => (by cases hx), fun _ hx => (by cases hx)⟩
section VNew
variable {k : VK} {b : Nat × Nat} {pc : Nat} {ls : List (Option Value)} {st : List Value} {h : VHp}
/-- a new object of class ci -/
theorem V.new {idx ci N : Nat} {C : String} {T : u_T} {ty : Nat → FieldType} {fs : List Value} (hc : vwCl[ci]? = some (C, T, N)) (hw : (∀ w ∈ u_ws C T N, w ∈ vtS) ∧ Cond.classLink k.2.1.1.cls idx C ∈ vtS ∧ Cond.instantiable C N ∈ vtS ∧ Cond.initialized C ∈ vtS) (hty : ∀ j, j < N → parseFieldDescriptor (T j).2.2.1 = some (ty j)) (hfs : ∀ j, j < N → defaultValue (ty j) = vp_V fs j) (hfr : ∀ ad : VAd, fs.map (mv ad) = fs) (hz : k.2.2.2.1 = true) (hwf : vwf h.length h) (hlo : vlok h.length ls st) (hlen : h.length < 1000000) (hd : decode k.2.1.2.1 pc = .ok (.new idx, 3))
    (kk : V k b (pc + 3) ls (.ref h.length :: st) (h ++ [.inr (.inr (ci, fs))])) : V k (b.1 + 1, b.2 + N) pc ls st h := by
  intro p e R s m args below meth c Q A ad0 F ad H locs cells slots lsr r
  have hts := F.1.2.2.2.2.1
  obtain ⟨⟨tys, t1, t2⟩, hP, hD⟩ := r.2.2.1
  have hb1 : cells + (b.1 + 1) ≤ R.cells := r.2.2.2.2.2.1
  have hb2 : slots + (b.2 + N) ≤ R.slots := r.2.2.2.2.2.2.1
  refine va_new (D := k.1.2.1) (cl := vwCl) (ci := ci) (fs := fs) F.1.1 F.1.2.1 hts hw.1 ty hty F.1.2.2.2.1 (hts _ hw.2.1) (hts _ hw.2.2.1) (hts _ hw.2.2.2) t1 hP hD r.2.2.2.1 F.2.2.2.1 hc hfs (by omega) (by omega) hd (fun q H1 hP1 hD1 hS1 => ?_)
  have ha := vadd_agree (ad := ad) (q := (q, (ad h.length).2)) hlen
  have ew : vws (vadd ad h.length (q, (ad h.length).2)) (h ++ [.inr (.inr (ci, fs))]) = vws ad h ++ [(q, .inr (ci, fs))] := by
    rw [vws_app, vws_ext ha hwf (Nat.le_refl _), vadd_self]
    simp only [vcell]
    rw [hfr]
  have es : (.ref q :: st.map (mv ad)) = (Value.ref h.length :: st).map (mv (vadd ad h.length (q, (ad h.length).2))) := by
    rw [List.map_cons, vmap_ext ha hlo.2]
    simp only [mv, vadd_self]
  rw [es]
  refine kk p e R s m args below meth c Q A ad0 F _ H1 locs (cells + 1) (slots + N) lsr ⟨?_, r.2.1.agree ha, ⟨⟨tys, t1, ?_⟩, by rw [ew]; exact hP1, by rw [ew]; exact hD1⟩, hS1, r.2.2.2.2.1.agree ha hlo.1, by omega, by omega, by rw [List.length_append]; exact Nat.le_trans r.2.2.2.2.2.2.2 (Nat.le_add_right _ _)⟩
  · have h1 := r.1
    rw [hz] at h1 ⊢
    exact h1.tr ha r.2.2.2.2.2.2.2
  · have := vtys.add (q := (q, (ad h.length).2)) (c := .inr (.inr (ci, fs))) (ty := []) t2 rfl (fun _ hx => (by cases hx)) (fun _ hx => (by cases hx))
    rwa [List.append_nil] at this
/-- a new int array -/
theorem V.newI {N : Nat} {n : Int32} (hw : Cond.arrayClass .int ∈ vtS) (hn : n = nI N) (hN : N < 100000) (hz : k.2.2.2.1 = true) (hwf : vwf h.length h) (hlo : vlok h.length ls st) (hlen : h.length < 1000000) (hd : decode k.2.1.2.1 pc = .ok (.newarray .int, 2))
    (kk : V k b (pc + 2) ls (.ref h.length :: st) (h ++ [.inl (List.replicate N 0)])) : V k (b.1 + 1, b.2 + N) pc ls (.int n :: st) h := by
  intro p e R s m args below meth c Q A ad0 F ad H locs cells slots lsr r
  have hts := F.1.2.2.2.2.1
  obtain ⟨⟨tys, t1, t2⟩, hP, hD⟩ := r.2.2.1
  have hb1 : cells + (b.1 + 1) ≤ R.cells := r.2.2.2.2.2.1
  have hb2 : slots + (b.2 + N) ≤ R.slots := r.2.2.2.2.2.2.1
  have ez : ∀ j, (List.replicate N (0 : Int32)).getD j 0 = 0 := by
    intro j
    rw [List.getD_eq_getElem?_getD, List.getElem?_replicate]
    split <;> rfl
  refine va_newa (D := k.1.2.1) (cl := vwCl) (atype := .int) (ty := .int) (a0 := ((List.replicate N (0 : Int32)).length, .inl (fun j => (List.replicate N (0 : Int32)).getD j 0))) F.1.1 F.1.2.1 (hts _ hw) rfl t1 hP hD r.2.2.2.1 F.2.2.2.1 (N' := N) ?_ (by rw [hn]; exact nI_pos (by omega)) (by rw [hn]; exact nI_clamp (by omega)) (by show N * 4 ≤ 536870912; omega) (by omega) (by omega) hd (fun q cA H1 hK1 hP1 hD1 hS1 => ?_)
  · intro cA
    simp only [ez, List.length_replicate]
    rfl
  have ha := vadd_agree (ad := ad) (q := (q, cA)) hlen
  have ew : vws (vadd ad h.length (q, cA)) (h ++ [.inl (List.replicate N 0)]) = vws ad h ++ [(q, .inl (cA, ((List.replicate N (0 : Int32)).length, .inl (fun j => (List.replicate N (0 : Int32)).getD j 0))))] := by
    rw [vws_app, vws_ext ha hwf (Nat.le_refl _), vadd_self]
    simp only [vcell, vadd_self]
  have es : (.ref q :: st.map (mv ad)) = (Value.ref h.length :: st).map (mv (vadd ad h.length (q, cA))) := by
    rw [List.map_cons, vmap_ext ha hlo.2]
    simp only [mv, vadd_self]
  rw [es]
  refine kk p e R s m args below meth c Q A ad0 F _ H1 locs (cells + 1) (slots + N) lsr ⟨?_, r.2.1.agree ha, ⟨⟨_, hK1, ?_⟩, by rw [ew]; exact hP1, by rw [ew]; exact hD1⟩, hS1, r.2.2.2.2.1.agree ha hlo.1, by omega, by omega, by rw [List.length_append]; exact Nat.le_trans r.2.2.2.2.2.2.2 (Nat.le_add_right _ _)⟩
  · have h1 := r.1
    rw [hz] at h1 ⊢
    exact h1.tr ha r.2.2.2.2.2.2.2
  · exact vtys.add t2 rfl (fun _ _ => List.mem_append_right _ (List.mem_singleton.mpr rfl)) (fun _ hx => (by cases hx))
/-- a new row of rooms -/
theorem V.newR {idx N : Nat} {n : Int32} (hw : Cond.classLink k.2.1.1.cls idx "HeartVanes$Room" ∈ vtS) (hn : n = nI N) (hN : N < 100000) (hz : k.2.2.2.1 = true) (hwf : vwf h.length h) (hlo : vlok h.length ls st) (hlen : h.length < 1000000) (hd : decode k.2.1.2.1 pc = .ok (.anewarray idx, 3))
    (kk : V k b (pc + 3) ls (.ref h.length :: st) (h ++ [.inr (.inl (List.replicate N none))])) : V k (b.1 + 1, b.2 + N) pc ls (.int n :: st) h := by
  intro p e R s m args below meth c Q A ad0 F ad H locs cells slots lsr r
  have hts := F.1.2.2.2.2.1
  obtain ⟨⟨tys, t1, t2⟩, hP, hD⟩ := r.2.2.1
  have hb1 : cells + (b.1 + 1) ≤ R.cells := r.2.2.2.2.2.1
  have hb2 : slots + (b.2 + N) ≤ R.slots := r.2.2.2.2.2.2.1
  have hao : va_AO "HeartVanes$Room" s := by
    obtain ⟨-, -, -, -, -, -, -, -, -, -, -, z, -⟩ := r.2.1
    exact z
  have ez : ∀ j, (List.replicate N (none : Option Nat)).getD j none = none := by
    intro j
    rw [List.getD_eq_getElem?_getD, List.getElem?_replicate]
    split <;> rfl
  refine va_newq (D := k.1.2.1) (cl := vwCl) F.1.1 F.1.2.1 F.1.2.2.2.1 (hts _ hw) hao t1 hP hD r.2.2.2.1 F.2.2.2.1 (N' := N) (by rw [hn]; exact nI_pos (by omega)) (by rw [hn]; exact nI_clamp (by omega)) (by omega) (by omega) (by omega) hd (fun q cA H1 hK1 hP1 hD1 hS1 => ?_)
  have ha := vadd_agree (ad := ad) (q := (q, cA)) hlen
  have ew : vws (vadd ad h.length (q, cA)) (h ++ [.inr (.inl (List.replicate N none))]) = vws ad h ++ [(q, .inl (cA, N, .inr (.inr (.inr (.inr (fun _ => none))))))] := by
    rw [vws_app, vws_ext ha hwf (Nat.le_refl _), vadd_self]
    simp only [vcell, vadd_self, ez, List.length_replicate, Option.map_none]
  have es : (.ref q :: st.map (mv ad)) = (Value.ref h.length :: st).map (mv (vadd ad h.length (q, cA))) := by
    rw [List.map_cons, vmap_ext ha hlo.2]
    simp only [mv, vadd_self]
  rw [es]
  refine kk p e R s m args below meth c Q A ad0 F _ H1 locs (cells + 1) (slots + N) lsr ⟨?_, r.2.1.agree ha, ⟨⟨_, hK1, ?_⟩, by rw [ew]; exact hP1, by rw [ew]; exact hD1⟩, hS1, r.2.2.2.2.1.agree ha hlo.1, by omega, by omega, by rw [List.length_append]; exact Nat.le_trans r.2.2.2.2.2.2.2 (Nat.le_add_right _ _)⟩
  · have h1 := r.1
    rw [hz] at h1 ⊢
    exact h1.tr ha r.2.2.2.2.2.2.2
  · exact vtys.add t2 rfl (fun _ hx => (by cases hx)) (fun _ _ => List.mem_append_right _ (List.mem_singleton.mpr rfl))
/-- a constructor's call -/
theorem V.callI {idx n d a : Nat} {z : Bool} {b1 : Nat × Nat} {M : VM} {As rest : List Value} {Post : VPost} (hc : vcI k.2.1.1.cls idx M n) (hE : VE k.1 M d z b1 (.ref a :: As) h Post) (hd : decode k.2.1.2.1 pc = .ok (.invokespecial idx, 3)) (hdp : d + 1 ≤ k.2.2.1) (hst : st = As.reverse ++ .ref a :: rest) (hn : As.length = n) (hsz : (rest.map fun v => v.category).sum ≤ 8) (hz : k.2.2.2.1 = true) (hlo : vlok h.length ls rest)
    (kk : ∀ v h', Post v h' → V k b (pc + 3) ls (v.toList ++ rest) h') (hv : ∀ v h', Post v h' → v = none) : V k (b.1 + b1.1, b.2 + b1.2) pc ls st h := by
  intro p e R s m args below meth c Q A ad0 F ad H locs cells slots lsr r
  obtain ⟨hM, hl1, hl2, hnm, hret⟩ := hc
  have hts := F.1.2.2.2.2.1
  have hW := r.2.2.1
  have hF := vfree hW r.2.2.2.1 F.2.2.2.1
  obtain ⟨⟨tys, t1, t2⟩, hP, hD⟩ := r.2.2.1
  have hb1 : cells + (b.1 + b1.1) ≤ R.cells := r.2.2.2.2.2.1
  have hb2 : slots + (b.2 + b1.2) ≤ R.slots := r.2.2.2.2.2.2.1
  have hroom : (vroom d b1).frames + 1 ≤ R.frames ∧ 8 + (M.2.2.1 + 11) + (vroom d b1).locals ≤ R.locals := by
    refine ⟨Nat.le_trans hdp F.2.1, ?_⟩
    have h1 := F.2.2.1
    have h2 := hM.2.2.1
    show 8 + (M.2.2.1 + 11) + 80 * d ≤ R.locals
    omega
  have hpre : PreS s H (va_Pc ((Value.ref a :: As).map (mv ad)) (fun U => U.heap.size = H.size ∧ VRO k.1 ad (va_A (vws ad h) H.size) U ∧ VWd k.1 ad h U U.heap (fun _ => True))) (.ref (ad a).1 :: As.map (mv ad)) := ⟨vblind, fun U hU hWm => ⟨rfl, by rw [hU], VRO.go r.2.1 r.2.2.2.1 hU hWm hF, by rw [hU]; exact VWd.moved hWm.alike ⟨⟨tys, t1, t2⟩, hP, hD.weaken (fun _ _ _ _ => trivial)⟩⟩⟩
  have hstk : (F0 m pc lsr (st.map (mv ad))).stack = (As.map (mv ad)).reverse ++ .ref (ad a).1 :: rest.map (mv ad) := by rw [hst]; simp [mv, List.map_reverse]
  have hgood := vgoodM hM
  rw [hret] at hgood
  have hM' := hE ad H.size
  rw [hret] at hM'
  have hrun : va_Run p k.1.1 e R s m args below meth c H locs cells slots b1.1 b1.2 (F0 m pc lsr (st.map (mv ad))) (rest.map (mv ad)) (VQ k.1 z h.length Post ad (va_A (vws ad h) H.size) (Value.ref (ad a).1 :: As.map (mv ad)).toArray) (va_A (vws ad h) H.size) := by
    rcases hl1 with hl1 | ⟨host, hl1⟩
    · exact va_runI (own := k.2.1.1.cls) (Ts := vtS) (bytes := M.2.1) (maxL := M.2.2.1) (n := n) ⟨F.1.1, F.1.2.1, F.1.2.2.1, F.1.2.2.2.1, hts⟩ hM' ⟨callB_of n hts hgood rfl rfl rfl (hts _ hM.2.1) (hts _ hl1) hM.2.2.2 hroom, hnm, hts _ hl2⟩ hpre rfl (by rw [List.length_map]; exact hn) r.2.2.2.2.1.2.1 hstk (lv_room (vcat hsz)) hd ⟨by omega, by omega⟩
    · exact va_runIN (own := k.2.1.1.cls) (host := host) (Ts := vtS) (bytes := M.2.1) (maxL := M.2.2.1) (n := n) ⟨F.1.1, F.1.2.1, F.1.2.2.1, F.1.2.2.2.1, hts⟩ hM' ⟨va_cnB n hts hgood rfl rfl rfl (r.2.1.nest _ hl1) (hts _ hM.2.1) hM.2.2.2 hroom, hnm, hts _ hl2⟩ hpre rfl (by rw [List.length_map]; exact hn) r.2.2.2.2.1.2.1 hstk (lv_room (vcat hsz)) hd ⟨by omega, by omega⟩
  refine vafter hrun hW r.2.2.2.1 F.2.2.2.1 (fun v h' ad' H1 locs1 hag hlen hp hw' hS' => ?_)
  obtain rfl := hv v h' hp
  have hag : vagree true h.length ad ad' := fun j hj => hag j (fun _ => hj rfl)
  have e1 : ((none : Option Value).map (mv ad')).toList ++ rest.map (mv ad) = ((none : Option Value).toList ++ rest).map (mv ad') := by
    simp only [Option.map_none, Option.toList_none, List.nil_append]
    exact (vmap_ext hag hlo.2).symm
  rw [e1]
  refine kk none h' hp p e R s m args below meth c Q A ad0 F ad' H1 locs1 _ _ lsr ⟨?_, r.2.1.agree hag, hw', hS', r.2.2.2.2.1.agree hag hlo.1, by omega, by omega, Nat.le_trans r.2.2.2.2.2.2.2 hlen⟩
  have h1 := r.1
  rw [hz] at h1 ⊢
  exact h1.tr hag r.2.2.2.2.2.2.2
end VNew
end
section
/-- a final field of another class, only read -/
def vfg (own : String) (idx ci kf : Nat) : Prop := ∃ (C : String) (T : u_T) (N : Nat), vwCl[ci]? = some (C, T, N) ∧ kf < N ∧ (∀ w ∈ u_ws C T N, w ∈ vtS) ∧ (Cond.fieldLink own idx (T kf).1 (T kf).2.1 (T kf).2.2.1 ∈ vtS ∨ ∃ host, Cond.fieldLinkNest own idx (T kf).1 (T kf).2.1 (T kf).2.2.1 host ∈ vNS)
theorem V.getr {k : VK} {b : Nat × Nat} {pc : Nat} {ls : List (Option Value)} {st : List Value} {h : VHp} {idx ci kf a : Nat} {fs : List Value} {v : Value} (hf : vfg k.2.1.1.cls idx ci kf) (hd : decode k.2.1.2.1 pc = .ok (.getfield idx, 3)) (ha : h[a]? = some (.inr (.inr (ci, fs)))) (hv : fs[kf]? = some v) (kk : V k b (pc + 3) ls (v :: st) h) : V k b pc ls (.ref a :: st) h := by
  intro p e R s m args below meth c Q A ad0 F ad H locs cells slots lsr r
  obtain ⟨C, T, N, hc, hk, hw, hl⟩ := hf
  obtain ⟨⟨tys, t1, t2⟩, hP, hD⟩ := r.2.2.1
  have he := vws_get (ad := ad) ha
  have hv' : (fs.map (mv ad))[kf]? = some (mv ad v) := by rw [List.getElem?_map, hv]; rfl
  rcases hl with hl | ⟨host, hl⟩
  · exact va_get (D := k.1.2.1) (cl := vwCl) F.1.1 F.1.2.1 F.1.2.2.2.2.1 hw F.1.2.2.2.1 t1 hP a he hc kf hk (F.1.2.2.2.2.1 _ hl) (fun _ q => q) hv' hd (kk p e R s m args below meth c Q A ad0 F ad H locs cells slots lsr r)
  · exact va_getN (D := k.1.2.1) (cl := vwCl) F.1.1 F.1.2.1 F.1.2.2.2.2.1 hw F.1.2.2.2.1 t1 hP a he hc kf hk (va_Nw.use rfl (r.2.1.nest _ hl)) (fun _ q => q) hv' hd (kk p e R s m args below meth c Q A ad0 F ad H locs cells slots lsr r)
abbrev mX0_init : VM := (yX0_init, cX0_init, 1, none)
abbrev mX0_find : VM := (yX0_find, cX0_find, 3, (some .boolean))
abbrev mX0_together : VM := (yX0_together, cX0_together, 4, (some .int))
abbrev mX0_pairFrom : VM := (yX0_pairFrom, cX0_pairFrom, 4, (some .boolean))
abbrev mX0_nobodyWouldLeave : VM := (yX0_nobodyWouldLeave, cX0_nobodyWouldLeave, 4, (some .boolean))
abbrev mX0_wouldRather : VM := (yX0_wouldRather, cX0_wouldRather, 5, (some .boolean))
abbrev mX1_init : VM := (yX1_init, cX1_init, 2, none)
abbrev mX1_clear : VM := (yX1_clear, cX1_clear, 1, none)
abbrev mX1_remember : VM := (yX1_remember, cX1_remember, 2, none)
abbrev mX1_restoreLatest : VM := (yX1_restoreLatest, cX1_restoreLatest, 2, none)
abbrev mX2_init : VM := (yX2_init, cX2_init, 1, none)
abbrev mX2_readInto : VM := (yX2_readInto, cX2_readInto, 8, (some .int))
abbrev mX2_numbersOf : VM := (yX2_numbersOf, cX2_numbersOf, 1, (some .int))
abbrev mX2_readNumbers : VM := (yX2_readNumbers, cX2_readNumbers, 7, (some .int))
abbrev mX2_take : VM := (yX2_take, cX2_take, 3, (some .boolean))
abbrev mX2_takeWalls : VM := (yX2_takeWalls, cX2_takeWalls, 2, (some .boolean))
abbrev mX2_takePerson : VM := (yX2_takePerson, cX2_takePerson, 2, (some .boolean))
abbrev mX2_takeLeaning : VM := (yX2_takeLeaning, cX2_takeLeaning, 2, (some .boolean))
abbrev mX3_init : VM := (yX3_init, cX3_init, 1, none)
abbrev mX3_clear : VM := (yX3_clear, cX3_clear, 2, none)
abbrev mX3_copyFrom : VM := (yX3_copyFrom, cX3_copyFrom, 2, none)
abbrev mX3_has : VM := (yX3_has, cX3_has, 2, (some .boolean))
abbrev mX3_hasTwo : VM := (yX3_hasTwo, cX3_hasTwo, 3, (some .boolean))
abbrev mX3_reaches : VM := (yX3_reaches, cX3_reaches, 3, (some .boolean))
abbrev mX3_whoIsAt : VM := (yX3_whoIsAt, cX3_whoIsAt, 4, (some .int))
abbrev mX3_isFreeFor : VM := (yX3_isFreeFor, cX3_isFreeFor, 5, (some .boolean))
abbrev mX3_add : VM := (yX3_add, cX3_add, 4, none)
abbrev mX3_put : VM := (yX3_put, cX3_put, 4, none)
abbrev mX3_canStep : VM := (yX3_canStep, cX3_canStep, 5, (some .boolean))
abbrev mX3_step : VM := (yX3_step, cX3_step, 3, none)
abbrev mX3_leaningOf : VM := (yX3_leaningOf, cX3_leaningOf, 3, (some .int))
abbrev mX3_setLeaning : VM := (yX3_setLeaning, cX3_setLeaning, 4, none)
abbrev mX3_leanTowardAlone : VM := (yX3_leanTowardAlone, cX3_leanTowardAlone, 4, none)
abbrev mX3_pull : VM := (yX3_pull, cX3_pull, 4, (some .int))
abbrev mX3_feltEast : VM := (yX3_feltEast, cX3_feltEast, 5, (some .int))
abbrev mX3_feltSouth : VM := (yX3_feltSouth, cX3_feltSouth, 5, (some .int))
abbrev mX3_draftAmong : VM := (yX3_draftAmong, cX3_draftAmong, 3, (some .int))
abbrev mX3_draft : VM := (yX3_draft, cX3_draft, 2, (some .int))
abbrev mX3_passHour : VM := (yX3_passHour, cX3_passHour, 4, (some .int))
abbrev mX3_actBy : VM := (yX3_actBy, cX3_actBy, 5, none)
abbrev mX3_tellsToward : VM := (yX3_tellsToward, cX3_tellsToward, 3, (some .boolean))
abbrev mX3_lookersAt : VM := (yX3_lookersAt, cX3_lookersAt, 4, (some .int))
abbrev mX3_sumOfVanes : VM := (yX3_sumOfVanes, cX3_sumOfVanes, 3, (some .int))
abbrev mX3_howManyFeelADraft : VM := (yX3_howManyFeelADraft, cX3_howManyFeelADraft, 3, (some .int))
abbrev mX3_howManyLeanings : VM := (yX3_howManyLeanings, cX3_howManyLeanings, 3, (some .int))
abbrev mX4_init : VM := (yX4_init, cX4_init, 1, none)
abbrev mX4_run : VM := (yX4_run, cX4_run, 7, none)
abbrev mX4_sideAt : VM := (yX4_sideAt, cX4_sideAt, 2, (some .int))
abbrev mX4_goTo : VM := (yX4_goTo, cX4_goTo, 3, none)
abbrev mX4_findNext : VM := (yX4_findNext, cX4_findNext, 8, (some .int))
abbrev mX4_noteRow : VM := (yX4_noteRow, cX4_noteRow, 4, none)
abbrev mX5_init : VM := (yX5_init, cX5_init, 1, none)
abbrev mX5_clear : VM := (yX5_clear, cX5_clear, 1, none)
abbrev mX5_add : VM := (yX5_add, cX5_add, 4, none)
abbrev mX5_wouldHold : VM := (yX5_wouldHold, cX5_wouldHold, 6, (some .boolean))
abbrev mX6_init : VM := (yX6_init, cX6_init, 1, none)
abbrev mX6_append : VM := (yX6_append, cX6_append, 2, none)
abbrev mX6_clear : VM := (yX6_clear, cX6_clear, 1, none)
abbrev mX6_letterAt : VM := (yX6_letterAt, cX6_letterAt, 2, (some .int))
abbrev mX6_isFigure : VM := (yX6_isFigure, cX6_isFigure, 3, (some .boolean))
abbrev mX7_init : VM := (yX7_init, cX7_init, 2, none)
abbrev mX7_write : VM := (yX7_write, cX7_write, 2, (some .int))
abbrev mX7_wipe : VM := (yX7_wipe, cX7_wipe, 2, (some .int))
abbrev mX7_fault : VM := (yX7_fault, cX7_fault, 1, (some .int))
abbrev mX7_lay : VM := (yX7_lay, cX7_lay, 1, (some .int))
abbrev mX7_person : VM := (yX7_person, cX7_person, 3, (some .int))
abbrev mX7_leaning : VM := (yX7_leaning, cX7_leaning, 3, (some .int))
abbrev mX7_place : VM := (yX7_place, cX7_place, 3, (some .int))
abbrev mX7_pass : VM := (yX7_pass, cX7_pass, 3, (some .int))
abbrev mX7_walk : VM := (yX7_walk, cX7_walk, 3, (some .int))
abbrev mX7_lean : VM := (yX7_lean, cX7_lean, 5, (some .int))
abbrev mX7_undo : VM := (yX7_undo, cX7_undo, 1, (some .int))
abbrev mX7_toward : VM := (yX7_toward, cX7_toward, 4, (some .int))
abbrev mX7_looked : VM := (yX7_looked, cX7_looked, 6, (some .int))
abbrev mX7_behind : VM := (yX7_behind, cX7_behind, 3, (some .int))
abbrev mX7_settled : VM := (yX7_settled, cX7_settled, 2, (some .int))
abbrev mX7_steps : VM := (yX7_steps, cX7_steps, 4, (some .int))
abbrev mX7_stand : VM := (yX7_stand, cX7_stand, 9, (some .int))
abbrev mX7_marry : VM := (yX7_marry, cX7_marry, 2, (some .int))
abbrev mX7_see : VM := (yX7_see, cX7_see, 4, (some .int))
abbrev mX7_forget : VM := (yX7_forget, cX7_forget, 2, (some .int))
abbrev mX7_kinds : VM := (yX7_kinds, cX7_kinds, 5, (some .int))
abbrev mX7_loves : VM := (yX7_loves, cX7_loves, 5, (some .int))
abbrev mX7_away : VM := (yX7_away, cX7_away, 9, (some .int))
abbrev mX7_evening : VM := (yX7_evening, cX7_evening, 6, (some .int))
abbrev mX7_keep : VM := (yX7_keep, cX7_keep, 1, (some .int))
abbrev mX7_back : VM := (yX7_back, cX7_back, 1, (some .int))
abbrev mX7_count : VM := (yX7_count, cX7_count, 2, (some .int))
abbrev mX7_isBelow : VM := (yX7_isBelow, cX7_isBelow, 2, (some .boolean))
abbrev mX7_placeNumber : VM := (yX7_placeNumber, cX7_placeNumber, 2, (some .int))
abbrev mX7_weightOf : VM := (yX7_weightOf, cX7_weightOf, 6, (some .int))
abbrev mX7_greatestShared : VM := (yX7_greatestShared, cX7_greatestShared, 6, (some .int))
abbrev mX7_drawFor : VM := (yX7_drawFor, cX7_drawFor, 4, (some .int))
abbrev mX7_wayBy : VM := (yX7_wayBy, cX7_wayBy, 4, (some .int))
abbrev mX7_toldNext : VM := (yX7_toldNext, cX7_toldNext, 3, (some .int))
abbrev mX7_toldBehind : VM := (yX7_toldBehind, cX7_toldBehind, 6, (some .int))
abbrev mX7_turnedOneToward : VM := (yX7_turnedOneToward, cX7_turnedOneToward, 3, (some .int))
abbrev mX8_init : VM := (yX8_init, cX8_init, 1, none)
abbrev mX8_in : VM := (yX8_in, cX8_in, 3, (some .boolean))
abbrev mX8_abs : VM := (yX8_abs, cX8_abs, 1, (some .int))
abbrev mX8_isOne : VM := (yX8_isOne, cX8_isOne, 2, (some .boolean))
abbrev mX8_write : VM := (yX8_write, cX8_write, 2, (some .int))
abbrev mX8_wipe : VM := (yX8_wipe, cX8_wipe, 2, (some .int))
abbrev mX8_letterAt : VM := (yX8_letterAt, cX8_letterAt, 2, (some .int))
abbrev mX8_isFigure : VM := (yX8_isFigure, cX8_isFigure, 1, (some .boolean))
abbrev mX8_number : VM := (yX8_number, cX8_number, 6, (some .int))
abbrev mX8_begins : VM := (yX8_begins, cX8_begins, 2, none)
abbrev mX8_stands : VM := (yX8_stands, cX8_stands, 5, none)
abbrev mX8_readsRoom : VM := (yX8_readsRoom, cX8_readsRoom, 3, (some .boolean))
abbrev mX8_readsPerson : VM := (yX8_readsPerson, cX8_readsPerson, 6, (some .boolean))
abbrev mX8_readsLeaning : VM := (yX8_readsLeaning, cX8_readsLeaning, 5, (some .boolean))
abbrev mX8_readsAll : VM := (yX8_readsAll, cX8_readsAll, 5, (some .int))
abbrev mX8_fault : VM := (yX8_fault, cX8_fault, 1, (some .int))
abbrev mX8_lays : VM := (yX8_lays, cX8_lays, 2, none)
abbrev mX8_lay : VM := (yX8_lay, cX8_lay, 1, (some .int))
abbrev mX8_way : VM := (yX8_way, cX8_way, 2, (some .int))
abbrev mX8_feels : VM := (yX8_feels, cX8_feels, 10, (some .int))
abbrev mX8_all : VM := (yX8_all, cX8_all, 0, (some .int))
abbrev mX8_draftBy : VM := (yX8_draftBy, cX8_draftBy, 3, (some .int))
abbrev mX8_draftOf : VM := (yX8_draftOf, cX8_draftOf, 2, (some .int))
abbrev mX8_person : VM := (yX8_person, cX8_person, 3, (some .int))
abbrev mX8_leaning : VM := (yX8_leaning, cX8_leaning, 3, (some .int))
abbrev mX8_isPlace : VM := (yX8_isPlace, cX8_isPlace, 3, (some .boolean))
abbrev mX8_whoAt : VM := (yX8_whoAt, cX8_whoAt, 5, (some .int))
abbrev mX8_place : VM := (yX8_place, cX8_place, 3, (some .int))
abbrev mX8_keeps : VM := (yX8_keeps, cX8_keeps, 2, none)
abbrev mX8_next : VM := (yX8_next, cX8_next, 5, (some .int))
abbrev mX8_passes : VM := (yX8_passes, cX8_passes, 4, (some .int))
abbrev mX8_pass : VM := (yX8_pass, cX8_pass, 3, (some .int))
abbrev mX8_eastBy : VM := (yX8_eastBy, cX8_eastBy, 1, (some .int))
abbrev mX8_southBy : VM := (yX8_southBy, cX8_southBy, 1, (some .int))
abbrev mX8_mayWalk : VM := (yX8_mayWalk, cX8_mayWalk, 5, (some .boolean))
abbrev mX8_goes : VM := (yX8_goes, cX8_goes, 3, none)
abbrev mX8_walk : VM := (yX8_walk, cX8_walk, 3, (some .int))
abbrev mX8_lean : VM := (yX8_lean, cX8_lean, 5, (some .int))
abbrev mX8_undo : VM := (yX8_undo, cX8_undo, 2, (some .int))
abbrev mX8_towardOf : VM := (yX8_towardOf, cX8_towardOf, 5, (some .int))
abbrev mX8_toward : VM := (yX8_toward, cX8_toward, 2, (some .int))
abbrev mX8_looked : VM := (yX8_looked, cX8_looked, 7, (some .int))
abbrev mX8_holds : VM := (yX8_holds, cX8_holds, 2, none)
abbrev mX8_lets : VM := (yX8_lets, cX8_lets, 2, none)
abbrev mX8_behindOf : VM := (yX8_behindOf, cX8_behindOf, 4, (some .int))
abbrev mX8_behind : VM := (yX8_behind, cX8_behind, 3, (some .int))
abbrev mX8_settled : VM := (yX8_settled, cX8_settled, 2, (some .int))
abbrev mX8_puts : VM := (yX8_puts, cX8_puts, 3, none)
abbrev mX8_measures : VM := (yX8_measures, cX8_measures, 7, none)
abbrev mX8_beside : VM := (yX8_beside, cX8_beside, 5, (some .int))
abbrev mX8_steps : VM := (yX8_steps, cX8_steps, 7, (some .int))
abbrev mX8_stand : VM := (yX8_stand, cX8_stand, 10, (some .int))
abbrev mX8_leans : VM := (yX8_leans, cX8_leans, 3, (some .int))
abbrev mX8_isMarried : VM := (yX8_isMarried, cX8_isMarried, 5, (some .boolean))
abbrev mX8_marries : VM := (yX8_marries, cX8_marries, 6, (some .boolean))
abbrev mX8_marry : VM := (yX8_marry, cX8_marry, 4, (some .int))
abbrev mX8_see : VM := (yX8_see, cX8_see, 4, (some .int))
abbrev mX8_forget : VM := (yX8_forget, cX8_forget, 2, (some .int))
abbrev mX8_kinds : VM := (yX8_kinds, cX8_kinds, 7, (some .int))
abbrev mX8_loves : VM := (yX8_loves, cX8_loves, 7, (some .int))
abbrev mX8_away : VM := (yX8_away, cX8_away, 10, (some .int))
abbrev mX8_turn : VM := (yX8_turn, cX8_turn, 6, none)
abbrev mX8_evening : VM := (yX8_evening, cX8_evening, 8, (some .int))
abbrev mX8_keep : VM := (yX8_keep, cX8_keep, 2, (some .int))
abbrev mX8_back : VM := (yX8_back, cX8_back, 2, (some .int))
abbrev mX8_count : VM := (yX8_count, cX8_count, 6, (some .int))
abbrev mL_law : VM := (yL_law, cL_law, 4, some .boolean)
theorem fX0_9 : vfl RX0 9 0 0 true (.array .int) := ⟨RX0, TX0, 1, tyX0, rfl, by decide, k9_X0, tyX0_ok, nmX0, Or.inl w9_210, rfl, by decide +kernel, Or.inl rfl⟩
theorem vcM_X0_pairFrom : vcM mX0_pairFrom 3 := ⟨w9_592, w9_48, by decide, by decide +kernel⟩
theorem cX0_15 : vcS RX0 15 mX0_pairFrom 3 := ⟨vcM_X0_pairFrom, Or.inl w9_590, w9_591⟩
theorem fX0_19 : vfl RX0 19 3 7 false .int := ⟨RX3, TX3, 9, tyX3, rfl, by decide, k9_X3, tyX3_ok, nmX3, Or.inl w9_114, rfl, by decide +kernel, Or.inr rfl⟩
theorem vcM_X0_nobodyWouldLeave : vcM mX0_nobodyWouldLeave 2 := ⟨w9_595, w9_48, by decide, by decide +kernel⟩
theorem cX0_25 : vcS RX0 25 mX0_nobodyWouldLeave 2 := ⟨vcM_X0_nobodyWouldLeave, Or.inl w9_593, w9_594⟩
theorem vcM_X3_leaningOf : vcM mX3_leaningOf 2 := ⟨w9_430, w9_44, by decide, by decide +kernel⟩
theorem cX0_29 : vcV RX0 29 mX3_leaningOf 2 := ⟨vcM_X3_leaningOf, w9_599, w9_428, w9_429⟩
theorem vcM_X0_wouldRather : vcM mX0_wouldRather 4 := ⟨w9_598, w9_48, by decide, by decide +kernel⟩
theorem cX0_33 : vcS RX0 33 mX0_wouldRather 4 := ⟨vcM_X0_wouldRather, Or.inl w9_596, w9_597⟩
theorem fX1_11 : vfl RX1 11 1 0 true (.array (.object "HeartVanes$Room")) := ⟨RX1, TX1, 3, tyX1, rfl, by decide, k9_X1, tyX1_ok, nmX1, Or.inl w9_147, rfl, by decide +kernel, Or.inl rfl⟩
theorem fX1_17 : vfl RX1 17 1 1 false .int := ⟨RX1, TX1, 3, tyX1, rfl, by decide, k9_X1, tyX1_ok, nmX1, Or.inl w9_148, rfl, by decide +kernel, Or.inl rfl⟩
theorem fX1_21 : vfl RX1 21 1 2 false .int := ⟨RX1, TX1, 3, tyX1, rfl, by decide, k9_X1, tyX1_ok, nmX1, Or.inl w9_149, rfl, by decide +kernel, Or.inl rfl⟩
theorem vcM_X3_init : vcM mX3_init 0 := ⟨w9_94, w9_44, by decide, by decide +kernel⟩
theorem cX1_24 : vcI RX1 24 mX3_init 0 := ⟨vcM_X3_init, Or.inr ⟨"HeartVanes", w9_146⟩, w9_93, rfl, rfl⟩
theorem vcM_X3_copyFrom : vcM mX3_copyFrom 1 := ⟨w9_391, w9_44, by decide, by decide +kernel⟩
theorem cX1_25 : vcV RX1 25 mX3_copyFrom 1 := ⟨vcM_X3_copyFrom, w9_461, w9_389, w9_390⟩
theorem fX2_11 : vfl RX2 11 2 0 true (.array .int) := ⟨RX2, TX2, 1, tyX2, rfl, by decide, k9_X2, tyX2_ok, nmX2, Or.inl w9_86, rfl, by decide +kernel, Or.inl rfl⟩
theorem vcM_X3_clear : vcM mX3_clear 0 := ⟨w9_275, w9_44, by decide, by decide +kernel⟩
theorem cX2_15 : vcV RX2 15 mX3_clear 0 := ⟨vcM_X3_clear, w9_272, w9_273, w9_274⟩
theorem fX2_20 : vfl RX2 20 6 1 false .int := ⟨RX6, TX6, 2, tyX6, rfl, by decide, k9_X6, tyX6_ok, nmX6, Or.inl w9_73, rfl, by decide +kernel, Or.inr rfl⟩
theorem vcM_X6_letterAt : vcM mX6_letterAt 1 := ⟨w9_279, w9_42, by decide, by decide +kernel⟩
theorem cX2_26 : vcV RX2 26 mX6_letterAt 1 := ⟨vcM_X6_letterAt, w9_276, w9_277, w9_278⟩
theorem vcM_X2_numbersOf : vcM mX2_numbersOf 1 := ⟨w9_285, w9_43, by decide, by decide +kernel⟩
theorem cX2_30 : vcS RX2 30 mX2_numbersOf 1 := ⟨vcM_X2_numbersOf, Or.inl w9_283, w9_284⟩
theorem vcM_X2_readNumbers : vcM mX2_readNumbers 3 := ⟨w9_289, w9_43, by decide, by decide +kernel⟩
theorem cX2_33 : vcV RX2 33 mX2_readNumbers 3 := ⟨vcM_X2_readNumbers, w9_286, w9_288, s9_0⟩
theorem vcM_X2_take : vcM mX2_take 2 := ⟨w9_298, w9_43, by decide, by decide +kernel⟩
theorem cX2_37 : vcV RX2 37 mX2_take 2 := ⟨vcM_X2_take, w9_295, w9_297, s9_1⟩
theorem vcM_X6_isFigure : vcM mX6_isFigure 1 := ⟨w9_293, w9_42, by decide, by decide +kernel⟩
theorem cX2_41 : vcV RX2 41 mX6_isFigure 1 := ⟨vcM_X6_isFigure, w9_290, w9_291, w9_292⟩
theorem vcM_X2_takeWalls : vcM mX2_takeWalls 1 := ⟨w9_302, w9_43, by decide, by decide +kernel⟩
theorem cX2_45 : vcV RX2 45 mX2_takeWalls 1 := ⟨vcM_X2_takeWalls, w9_299, w9_301, s9_2⟩
theorem vcM_X2_takePerson : vcM mX2_takePerson 1 := ⟨w9_306, w9_43, by decide, by decide +kernel⟩
theorem cX2_49 : vcV RX2 49 mX2_takePerson 1 := ⟨vcM_X2_takePerson, w9_303, w9_305, s9_3⟩
theorem vcM_X2_takeLeaning : vcM mX2_takeLeaning 1 := ⟨w9_323, w9_43, by decide, by decide +kernel⟩
theorem cX2_52 : vcV RX2 52 mX2_takeLeaning 1 := ⟨vcM_X2_takeLeaning, w9_320, w9_322, s9_4⟩
theorem fX2_55 : vfl RX2 55 3 5 false .int := ⟨RX3, TX3, 9, tyX3, rfl, by decide, k9_X3, tyX3_ok, nmX3, Or.inl w9_108, rfl, by decide +kernel, Or.inr rfl⟩
theorem fX2_58 : vfl RX2 58 3 6 false .int := ⟨RX3, TX3, 9, tyX3, rfl, by decide, k9_X3, tyX3_ok, nmX3, Or.inl w9_111, rfl, by decide +kernel, Or.inr rfl⟩
theorem fX2_61 : vfl RX2 61 3 7 false .int := ⟨RX3, TX3, 9, tyX3, rfl, by decide, k9_X3, tyX3_ok, nmX3, Or.inl w9_116, rfl, by decide +kernel, Or.inr rfl⟩
theorem vcM_X3_reaches : vcM mX3_reaches 2 := ⟨w9_310, w9_44, by decide, by decide +kernel⟩
theorem cX2_64 : vcV RX2 64 mX3_reaches 2 := ⟨vcM_X3_reaches, w9_307, w9_308, w9_309⟩
theorem vcM_X3_whoIsAt : vcM mX3_whoIsAt 2 := ⟨w9_315, w9_44, by decide, by decide +kernel⟩
theorem cX2_68 : vcV RX2 68 mX3_whoIsAt 2 := ⟨vcM_X3_whoIsAt, w9_312, w9_313, w9_314⟩
theorem vcM_X3_add : vcM mX3_add 3 := ⟨w9_319, w9_44, by decide, by decide +kernel⟩
theorem cX2_72 : vcV RX2 72 mX3_add 3 := ⟨vcM_X3_add, w9_316, w9_317, w9_318⟩
theorem vcM_X3_hasTwo : vcM mX3_hasTwo 2 := ⟨w9_327, w9_44, by decide, by decide +kernel⟩
theorem cX2_76 : vcV RX2 76 mX3_hasTwo 2 := ⟨vcM_X3_hasTwo, w9_324, w9_325, w9_326⟩
theorem vcM_X3_setLeaning : vcM mX3_setLeaning 3 := ⟨w9_335, w9_44, by decide, by decide +kernel⟩
theorem cX2_79 : vcV RX2 79 mX3_setLeaning 3 := ⟨vcM_X3_setLeaning, w9_332, w9_333, w9_334⟩
theorem fX3_9 : vfl RX3 9 3 0 true (.array .int) := ⟨RX3, TX3, 9, tyX3, rfl, by decide, k9_X3, tyX3_ok, nmX3, Or.inl w9_96, rfl, by decide +kernel, Or.inl rfl⟩
theorem fX3_15 : vfl RX3 15 3 1 true (.array .int) := ⟨RX3, TX3, 9, tyX3, rfl, by decide, k9_X3, tyX3_ok, nmX3, Or.inl w9_98, rfl, by decide +kernel, Or.inl rfl⟩
theorem fX3_18 : vfl RX3 18 3 2 true (.array .int) := ⟨RX3, TX3, 9, tyX3, rfl, by decide, k9_X3, tyX3_ok, nmX3, Or.inl w9_101, rfl, by decide +kernel, Or.inl rfl⟩
theorem fX3_21 : vfl RX3 21 3 3 true (.array .int) := ⟨RX3, TX3, 9, tyX3, rfl, by decide, k9_X3, tyX3_ok, nmX3, Or.inl w9_104, rfl, by decide +kernel, Or.inl rfl⟩
theorem fX3_24 : vfl RX3 24 3 4 true (.array .int) := ⟨RX3, TX3, 9, tyX3, rfl, by decide, k9_X3, tyX3_ok, nmX3, Or.inl w9_106, rfl, by decide +kernel, Or.inl rfl⟩
theorem fX3_27 : vfl RX3 27 3 5 false .int := ⟨RX3, TX3, 9, tyX3, rfl, by decide, k9_X3, tyX3_ok, nmX3, Or.inl w9_107, rfl, by decide +kernel, Or.inl rfl⟩
theorem fX3_31 : vfl RX3 31 3 6 false .int := ⟨RX3, TX3, 9, tyX3, rfl, by decide, k9_X3, tyX3_ok, nmX3, Or.inl w9_110, rfl, by decide +kernel, Or.inl rfl⟩
theorem fX3_34 : vfl RX3 34 3 7 false .int := ⟨RX3, TX3, 9, tyX3, rfl, by decide, k9_X3, tyX3_ok, nmX3, Or.inl w9_113, rfl, by decide +kernel, Or.inl rfl⟩
theorem fX3_37 : vfl RX3 37 3 8 false .int := ⟨RX3, TX3, 9, tyX3, rfl, by decide, k9_X3, tyX3_ok, nmX3, Or.inl w9_117, rfl, by decide +kernel, Or.inl rfl⟩
theorem vcM_X7_isBelow : vcM mX7_isBelow 2 := ⟨w9_282, w9_41, by decide, by decide +kernel⟩
theorem cX3_46 : vcS RX3 46 mX7_isBelow 2 := ⟨vcM_X7_isBelow, Or.inr ⟨"HeartVanes", w9_311⟩, w9_281⟩
theorem vcM_X3_has : vcM mX3_has 1 := ⟨w9_331, w9_44, by decide, by decide +kernel⟩
theorem cX3_50 : vcV RX3 50 mX3_has 1 := ⟨vcM_X3_has, w9_328, w9_329, w9_330⟩
theorem cX3_54 : vcV RX3 54 mX3_whoIsAt 2 := ⟨vcM_X3_whoIsAt, w9_490, w9_313, w9_314⟩
theorem cX3_64 : vcV RX3 64 mX3_reaches 2 := ⟨vcM_X3_reaches, w9_489, w9_308, w9_309⟩
theorem vcM_X3_put : vcM mX3_put 3 := ⟨w9_498, w9_44, by decide, by decide +kernel⟩
theorem cX3_67 : vcV RX3 67 mX3_put 3 := ⟨vcM_X3_put, w9_495, w9_496, w9_497⟩
theorem cX3_71 : vcV RX3 71 mX3_setLeaning 3 := ⟨vcM_X3_setLeaning, w9_633, w9_333, w9_334⟩
theorem cX3_80 : vcV RX3 80 mX3_leaningOf 2 := ⟨vcM_X3_leaningOf, w9_427, w9_428, w9_429⟩
theorem vcM_X3_pull : vcM mX3_pull 2 := ⟨w9_423, w9_44, by decide, by decide +kernel⟩
theorem cX3_83 : vcV RX3 83 mX3_pull 2 := ⟨vcM_X3_pull, w9_420, w9_422, s9_5⟩
theorem vcM_X3_feltEast : vcM mX3_feltEast 2 := ⟨w9_419, w9_44, by decide, by decide +kernel⟩
theorem cX3_86 : vcV RX3 86 mX3_feltEast 2 := ⟨vcM_X3_feltEast, w9_416, w9_417, w9_418⟩
theorem vcM_X3_feltSouth : vcM mX3_feltSouth 2 := ⟨w9_434, w9_44, by decide, by decide +kernel⟩
theorem cX3_89 : vcV RX3 89 mX3_feltSouth 2 := ⟨vcM_X3_feltSouth, w9_431, w9_432, w9_433⟩
theorem vcM_X7_wayBy : vcM mX7_wayBy 2 := ⟨w9_437, w9_41, by decide, by decide +kernel⟩
theorem cX3_92 : vcS RX3 92 mX7_wayBy 2 := ⟨vcM_X7_wayBy, Or.inr ⟨"HeartVanes", w9_435⟩, w9_436⟩
theorem vcM_X3_draftAmong : vcM mX3_draftAmong 2 := ⟨w9_415, w9_44, by decide, by decide +kernel⟩
theorem cX3_95 : vcV RX3 95 mX3_draftAmong 2 := ⟨vcM_X3_draftAmong, w9_412, w9_413, w9_414⟩
theorem vcM_X3_draft : vcM mX3_draft 1 := ⟨w9_411, w9_44, by decide, by decide +kernel⟩
theorem cX3_98 : vcV RX3 98 mX3_draft 1 := ⟨vcM_X3_draft, w9_469, w9_409, w9_410⟩
theorem vcM_X7_toldNext : vcM mX7_toldNext 3 := ⟨w9_472, w9_41, by decide, by decide +kernel⟩
theorem cX3_101 : vcS RX3 101 mX7_toldNext 3 := ⟨vcM_X7_toldNext, Or.inr ⟨"HeartVanes", w9_470⟩, w9_471⟩
theorem vcM_X3_canStep : vcM mX3_canStep 2 := ⟨w9_484, w9_44, by decide, by decide +kernel⟩
theorem cX3_105 : vcV RX3 105 mX3_canStep 2 := ⟨vcM_X3_canStep, w9_660, w9_482, w9_483⟩
theorem vcM_X3_step : vcM mX3_step 2 := ⟨w9_494, w9_44, by decide, by decide +kernel⟩
theorem cX3_108 : vcV RX3 108 mX3_step 2 := ⟨vcM_X3_step, w9_661, w9_492, w9_493⟩
theorem vcM_X3_tellsToward : vcM mX3_tellsToward 2 := ⟨w9_522, w9_44, by decide, by decide +kernel⟩
theorem cX3_112 : vcV RX3 112 mX3_tellsToward 2 := ⟨vcM_X3_tellsToward, w9_531, w9_520, w9_521⟩
theorem fX4_9 : vfl RX4 9 4 0 true (.array .int) := ⟨RX4, TX4, 6, tyX4, rfl, by decide, k9_X4, tyX4_ok, nmX4, Or.inl w9_184, rfl, by decide +kernel, Or.inl rfl⟩
theorem fX4_15 : vfl RX4 15 4 1 true (.array .int) := ⟨RX4, TX4, 6, tyX4, rfl, by decide, k9_X4, tyX4_ok, nmX4, Or.inl w9_185, rfl, by decide +kernel, Or.inl rfl⟩
theorem fX4_18 : vfl RX4 18 4 2 true (.array .int) := ⟨RX4, TX4, 6, tyX4, rfl, by decide, k9_X4, tyX4_ok, nmX4, Or.inl w9_186, rfl, by decide +kernel, Or.inl rfl⟩
theorem fX4_21 : vfl RX4 21 4 3 true (.array .int) := ⟨RX4, TX4, 6, tyX4, rfl, by decide, k9_X4, tyX4_ok, nmX4, Or.inl w9_187, rfl, by decide +kernel, Or.inl rfl⟩
theorem fX4_24 : vfl RX4 24 4 4 true (.array .int) := ⟨RX4, TX4, 6, tyX4, rfl, by decide, k9_X4, tyX4_ok, nmX4, Or.inl w9_188, rfl, by decide +kernel, Or.inl rfl⟩
theorem fX4_27 : vfl RX4 27 4 5 false .int := ⟨RX4, TX4, 6, tyX4, rfl, by decide, k9_X4, tyX4_ok, nmX4, Or.inl w9_189, rfl, by decide +kernel, Or.inl rfl⟩
theorem fX4_31 : vfg RX4 31 3 1 := ⟨RX3, TX3, 9, rfl, by decide, k9_X3, Or.inl w9_99⟩
theorem fX4_36 : vfg RX4 36 3 2 := ⟨RX3, TX3, 9, rfl, by decide, k9_X3, Or.inl w9_102⟩
theorem vcM_X4_goTo : vcM mX4_goTo 3 := ⟨w9_554, w9_47, by decide, by decide +kernel⟩
theorem cX4_39 : vcS RX4 39 mX4_goTo 3 := ⟨vcM_X4_goTo, Or.inl w9_552, w9_553⟩
theorem cX4_43 : vcV RX4 43 mX3_draft 1 := ⟨vcM_X3_draft, w9_556, w9_409, w9_410⟩
theorem vcM_X4_noteRow : vcM mX4_noteRow 1 := ⟨w9_560, w9_47, by decide, by decide +kernel⟩
theorem cX4_47 : vcV RX4 47 mX4_noteRow 1 := ⟨vcM_X4_noteRow, w9_557, w9_559, s9_6⟩
theorem vcM_X4_findNext : vcM mX4_findNext 4 := ⟨w9_564, w9_47, by decide, by decide +kernel⟩
theorem cX4_51 : vcV RX4 51 mX4_findNext 4 := ⟨vcM_X4_findNext, w9_561, w9_563, s9_7⟩
theorem cX4_55 : vcS RX4 55 mX7_isBelow 2 := ⟨vcM_X7_isBelow, Or.inr ⟨"HeartVanes", w9_568⟩, w9_281⟩
theorem cX4_59 : vcV RX4 59 mX3_put 3 := ⟨vcM_X3_put, w9_555, w9_496, w9_497⟩
theorem cX4_63 : vcV RX4 63 mX3_canStep 2 := ⟨vcM_X3_canStep, w9_565, w9_482, w9_483⟩
theorem fX5_9 : vfl RX5 9 5 0 true (.array .int) := ⟨RX5, TX5, 4, tyX5, rfl, by decide, k9_X5, tyX5_ok, nmX5, Or.inl w9_164, rfl, by decide +kernel, Or.inl rfl⟩
theorem fX5_15 : vfl RX5 15 5 1 true (.array .int) := ⟨RX5, TX5, 4, tyX5, rfl, by decide, k9_X5, tyX5_ok, nmX5, Or.inl w9_165, rfl, by decide +kernel, Or.inl rfl⟩
theorem fX5_18 : vfl RX5 18 5 2 true (.array .int) := ⟨RX5, TX5, 4, tyX5, rfl, by decide, k9_X5, tyX5_ok, nmX5, Or.inl w9_166, rfl, by decide +kernel, Or.inl rfl⟩
theorem fX5_21 : vfl RX5 21 5 3 false .int := ⟨RX5, TX5, 4, tyX5, rfl, by decide, k9_X5, tyX5_ok, nmX5, Or.inl w9_167, rfl, by decide +kernel, Or.inl rfl⟩
theorem vcM_X7_toldBehind : vcM mX7_toldBehind 4 := ⟨w9_538, w9_41, by decide, by decide +kernel⟩
theorem cX5_25 : vcS RX5 25 mX7_toldBehind 4 := ⟨vcM_X7_toldBehind, Or.inr ⟨"HeartVanes", w9_624⟩, w9_537⟩
theorem fX6_9 : vfl RX6 9 6 0 true (.array .int) := ⟨RX6, TX6, 2, tyX6, rfl, by decide, k9_X6, tyX6_ok, nmX6, Or.inl w9_70, rfl, by decide +kernel, Or.inl rfl⟩
theorem fX6_15 : vfl RX6 15 6 1 false .int := ⟨RX6, TX6, 2, tyX6, rfl, by decide, k9_X6, tyX6_ok, nmX6, Or.inl w9_71, rfl, by decide +kernel, Or.inl rfl⟩
theorem cX6_19 : vcS RX6 19 mX7_isBelow 2 := ⟨vcM_X7_isBelow, Or.inr ⟨"HeartVanes", w9_280⟩, w9_281⟩
theorem cX6_23 : vcV RX6 23 mX6_letterAt 1 := ⟨vcM_X6_letterAt, w9_294, w9_277, w9_278⟩
theorem vcM_X6_init : vcM mX6_init 0 := ⟨w9_68, w9_42, by decide, by decide +kernel⟩
theorem cX7_11 : vcI RX7 11 mX6_init 0 := ⟨vcM_X6_init, Or.inr ⟨"HeartVanes", w9_66⟩, w9_67, rfl, rfl⟩
theorem fX7_12 : vfl RX7 12 7 0 true (.object "HeartVanes$Text") := ⟨RX7, TX7, 10, tyX7, rfl, by decide, k9_X7, tyX7_ok, nmX7, Or.inl w9_340, rfl, by decide +kernel, Or.inl rfl⟩
theorem vcM_X2_init : vcM mX2_init 0 := ⟨w9_84, w9_43, by decide, by decide +kernel⟩
theorem cX7_18 : vcI RX7 18 mX2_init 0 := ⟨vcM_X2_init, Or.inr ⟨"HeartVanes", w9_82⟩, w9_83, rfl, rfl⟩
theorem fX7_19 : vfl RX7 19 7 1 true (.object "HeartVanes$Reader") := ⟨RX7, TX7, 10, tyX7, rfl, by decide, k9_X7, tyX7_ok, nmX7, Or.inl w9_341, rfl, by decide +kernel, Or.inl rfl⟩
theorem cX7_25 : vcI RX7 25 mX3_init 0 := ⟨vcM_X3_init, Or.inr ⟨"HeartVanes", w9_92⟩, w9_93, rfl, rfl⟩
theorem fX7_26 : vfl RX7 26 7 2 true (.object "HeartVanes$Room") := ⟨RX7, TX7, 10, tyX7, rfl, by decide, k9_X7, tyX7_ok, nmX7, Or.inl w9_342, rfl, by decide +kernel, Or.inl rfl⟩
theorem fX7_30 : vfl RX7 30 7 3 true (.object "HeartVanes$Room") := ⟨RX7, TX7, 10, tyX7, rfl, by decide, k9_X7, tyX7_ok, nmX7, Or.inl w9_343, rfl, by decide +kernel, Or.inl rfl⟩
theorem vcM_X1_init : vcM mX1_init 0 := ⟨w9_142, w9_45, by decide, by decide +kernel⟩
theorem cX7_35 : vcI RX7 35 mX1_init 0 := ⟨vcM_X1_init, Or.inl w9_140, w9_141, rfl, rfl⟩
theorem fX7_36 : vfl RX7 36 7 4 true (.object "HeartVanes$Past") := ⟨RX7, TX7, 10, tyX7, rfl, by decide, k9_X7, tyX7_ok, nmX7, Or.inl w9_344, rfl, by decide +kernel, Or.inl rfl⟩
theorem vcM_X5_init : vcM mX5_init 0 := ⟨w9_162, w9_46, by decide, by decide +kernel⟩
theorem cX7_42 : vcI RX7 42 mX5_init 0 := ⟨vcM_X5_init, Or.inr ⟨"HeartVanes", w9_160⟩, w9_161, rfl, rfl⟩
theorem fX7_43 : vfl RX7 43 7 5 true (.object "HeartVanes$Sights") := ⟨RX7, TX7, 10, tyX7, rfl, by decide, k9_X7, tyX7_ok, nmX7, Or.inl w9_345, rfl, by decide +kernel, Or.inl rfl⟩
theorem vcM_X4_init : vcM mX4_init 0 := ⟨w9_182, w9_47, by decide, by decide +kernel⟩
theorem cX7_49 : vcI RX7 49 mX4_init 0 := ⟨vcM_X4_init, Or.inr ⟨"HeartVanes", w9_180⟩, w9_181, rfl, rfl⟩
theorem fX7_50 : vfl RX7 50 7 6 true (.object "HeartVanes$Search") := ⟨RX7, TX7, 10, tyX7, rfl, by decide, k9_X7, tyX7_ok, nmX7, Or.inl w9_346, rfl, by decide +kernel, Or.inl rfl⟩
theorem vcM_X0_init : vcM mX0_init 0 := ⟨w9_208, w9_48, by decide, by decide +kernel⟩
theorem cX7_56 : vcI RX7 56 mX0_init 0 := ⟨vcM_X0_init, Or.inr ⟨"HeartVanes", w9_206⟩, w9_207, rfl, rfl⟩
theorem fX7_57 : vfl RX7 57 7 7 true (.object "HeartVanes$Couples") := ⟨RX7, TX7, 10, tyX7, rfl, by decide, k9_X7, tyX7_ok, nmX7, Or.inl w9_347, rfl, by decide +kernel, Or.inl rfl⟩
theorem fX7_61 : vfl RX7 61 7 8 true (.array (.object "HeartVanes$Room")) := ⟨RX7, TX7, 10, tyX7, rfl, by decide, k9_X7, tyX7_ok, nmX7, Or.inl w9_348, rfl, by decide +kernel, Or.inl rfl⟩
theorem fX7_65 : vfl RX7 65 7 9 false .int := ⟨RX7, TX7, 10, tyX7, rfl, by decide, k9_X7, tyX7_ok, nmX7, Or.inl w9_349, rfl, by decide +kernel, Or.inl rfl⟩
theorem vcM_X6_append : vcM mX6_append 1 := ⟨w9_267, w9_42, by decide, by decide +kernel⟩
theorem cX7_81 : vcV RX7 81 mX6_append 1 := ⟨vcM_X6_append, w9_264, w9_265, w9_266⟩
theorem vcM_X2_readInto : vcM mX2_readInto 2 := ⟨w9_271, w9_43, by decide, by decide +kernel⟩
theorem cX7_85 : vcV RX7 85 mX2_readInto 2 := ⟨vcM_X2_readInto, w9_268, w9_269, w9_270⟩
theorem vcM_X6_clear : vcM mX6_clear 0 := ⟨w9_339, w9_42, by decide, by decide +kernel⟩
theorem cX7_89 : vcV RX7 89 mX6_clear 0 := ⟨vcM_X6_clear, w9_336, w9_337, w9_338⟩
theorem fX7_92 : vfl RX7 92 6 1 false .int := ⟨RX6, TX6, 2, tyX6, rfl, by decide, k9_X6, tyX6_ok, nmX6, Or.inl w9_72, rfl, by decide +kernel, Or.inr rfl⟩
theorem fX7_94 : vfl RX7 94 3 7 false .int := ⟨RX3, TX3, 9, tyX3, rfl, by decide, k9_X3, tyX3_ok, nmX3, Or.inl w9_115, rfl, by decide +kernel, Or.inr rfl⟩
theorem cX7_97 : vcV RX7 97 mX3_copyFrom 1 := ⟨vcM_X3_copyFrom, w9_388, w9_389, w9_390⟩
theorem vcM_X1_clear : vcM mX1_clear 0 := ⟨w9_398, w9_45, by decide, by decide +kernel⟩
theorem cX7_101 : vcV RX7 101 mX1_clear 0 := ⟨vcM_X1_clear, w9_395, w9_396, w9_397⟩
theorem vcM_X5_clear : vcM mX5_clear 0 := ⟨w9_402, w9_46, by decide, by decide +kernel⟩
theorem cX7_102 : vcV RX7 102 mX5_clear 0 := ⟨vcM_X5_clear, w9_399, w9_400, w9_401⟩
theorem cX7_103 : vcV RX7 103 mX3_has 1 := ⟨vcM_X3_has, w9_407, w9_329, w9_330⟩
theorem fX7_107 : vfg RX7 107 3 0 := ⟨RX3, TX3, 9, rfl, by decide, k9_X3, Or.inl w9_97⟩
theorem fX7_111 : vfg RX7 111 3 1 := ⟨RX3, TX3, 9, rfl, by decide, k9_X3, Or.inl w9_100⟩
theorem fX7_114 : vfg RX7 114 3 2 := ⟨RX3, TX3, 9, rfl, by decide, k9_X3, Or.inl w9_103⟩
theorem fX7_117 : vfg RX7 117 3 3 := ⟨RX3, TX3, 9, rfl, by decide, k9_X3, Or.inl w9_105⟩
theorem cX7_120 : vcV RX7 120 mX3_draft 1 := ⟨vcM_X3_draft, w9_408, w9_409, w9_410⟩
theorem cX7_124 : vcV RX7 124 mX3_feltEast 2 := ⟨vcM_X3_feltEast, w9_439, w9_417, w9_418⟩
theorem cX7_128 : vcV RX7 128 mX3_feltSouth 2 := ⟨vcM_X3_feltSouth, w9_440, w9_432, w9_433⟩
theorem cX7_131 : vcV RX7 131 mX3_hasTwo 2 := ⟨vcM_X3_hasTwo, w9_445, w9_325, w9_326⟩
theorem cX7_135 : vcV RX7 135 mX3_leaningOf 2 := ⟨vcM_X3_leaningOf, w9_446, w9_428, w9_429⟩
theorem cX7_138 : vcV RX7 138 mX3_reaches 2 := ⟨vcM_X3_reaches, w9_451, w9_308, w9_309⟩
theorem cX7_141 : vcV RX7 141 mX3_whoIsAt 2 := ⟨vcM_X3_whoIsAt, w9_452, w9_313, w9_314⟩
theorem vcM_X1_remember : vcM mX1_remember 1 := ⟨w9_460, w9_45, by decide, by decide +kernel⟩
theorem cX7_144 : vcV RX7 144 mX1_remember 1 := ⟨vcM_X1_remember, w9_457, w9_458, w9_459⟩
theorem vcM_X3_passHour : vcM mX3_passHour 0 := ⟨w9_468, w9_44, by decide, by decide +kernel⟩
theorem cX7_147 : vcV RX7 147 mX3_passHour 0 := ⟨vcM_X3_passHour, w9_465, w9_466, w9_467⟩
theorem fX7_150 : vfl RX7 150 3 8 false .int := ⟨RX3, TX3, 9, tyX3, rfl, by decide, k9_X3, tyX3_ok, nmX3, Or.inl w9_118, rfl, by decide +kernel, Or.inr rfl⟩
theorem cX7_153 : vcS RX7 153 mX7_isBelow 2 := ⟨vcM_X7_isBelow, Or.inl w9_480, w9_281⟩
theorem cX7_156 : vcV RX7 156 mX3_canStep 2 := ⟨vcM_X3_canStep, w9_481, w9_482, w9_483⟩
theorem cX7_159 : vcV RX7 159 mX3_step 2 := ⟨vcM_X3_step, w9_491, w9_492, w9_493⟩
theorem vcM_X7_placeNumber : vcM mX7_placeNumber 2 := ⟨w9_501, w9_41, by decide, by decide +kernel⟩
theorem cX7_163 : vcS RX7 163 mX7_placeNumber 2 := ⟨vcM_X7_placeNumber, Or.inl w9_499, w9_500⟩
theorem cX7_166 : vcV RX7 166 mX3_setLeaning 3 := ⟨vcM_X3_setLeaning, w9_506, w9_333, w9_334⟩
theorem fX7_170 : vfl RX7 170 1 2 false .int := ⟨RX1, TX1, 3, tyX1, rfl, by decide, k9_X1, tyX1_ok, nmX1, Or.inl w9_150, rfl, by decide +kernel, Or.inr rfl⟩
theorem vcM_X1_restoreLatest : vcM mX1_restoreLatest 1 := ⟨w9_514, w9_45, by decide, by decide +kernel⟩
theorem cX7_173 : vcV RX7 173 mX1_restoreLatest 1 := ⟨vcM_X1_restoreLatest, w9_511, w9_512, w9_513⟩
theorem cX7_176 : vcV RX7 176 mX3_tellsToward 2 := ⟨vcM_X3_tellsToward, w9_519, w9_520, w9_521⟩
theorem vcM_X3_lookersAt : vcM mX3_lookersAt 1 := ⟨w9_530, w9_44, by decide, by decide +kernel⟩
theorem cX7_179 : vcV RX7 179 mX3_lookersAt 1 := ⟨vcM_X3_lookersAt, w9_527, w9_528, w9_529⟩
theorem cX7_182 : vcS RX7 182 mX7_toldBehind 4 := ⟨vcM_X7_toldBehind, Or.inl w9_536, w9_537⟩
theorem vcM_X4_run : vcM mX4_run 3 := ⟨w9_551, w9_47, by decide, by decide +kernel⟩
theorem cX7_186 : vcV RX7 186 mX4_run 3 := ⟨vcM_X4_run, w9_548, w9_549, w9_550⟩
theorem fX7_190 : vfl RX7 190 4 5 false .int := ⟨RX4, TX4, 6, tyX4, rfl, by decide, k9_X4, tyX4_ok, nmX4, Or.inl w9_190, rfl, by decide +kernel, Or.inr rfl⟩
theorem vcM_X4_sideAt : vcM mX4_sideAt 1 := ⟨w9_572, w9_47, by decide, by decide +kernel⟩
theorem cX7_191 : vcV RX7 191 mX4_sideAt 1 := ⟨vcM_X4_sideAt, w9_569, w9_570, w9_571⟩
theorem fX7_194 : vfl RX7 194 3 5 false .int := ⟨RX3, TX3, 9, tyX3, rfl, by decide, k9_X3, tyX3_ok, nmX3, Or.inl w9_109, rfl, by decide +kernel, Or.inr rfl⟩
theorem fX7_197 : vfl RX7 197 3 6 false .int := ⟨RX3, TX3, 9, tyX3, rfl, by decide, k9_X3, tyX3_ok, nmX3, Or.inl w9_112, rfl, by decide +kernel, Or.inr rfl⟩
theorem vcM_X3_isFreeFor : vcM mX3_isFreeFor 3 := ⟨w9_580, w9_44, by decide, by decide +kernel⟩
theorem cX7_200 : vcV RX7 200 mX3_isFreeFor 3 := ⟨vcM_X3_isFreeFor, w9_577, w9_578, w9_579⟩
theorem cX7_204 : vcV RX7 204 mX3_put 3 := ⟨vcM_X3_put, w9_581, w9_496, w9_497⟩
theorem vcM_X0_find : vcM mX0_find 1 := ⟨w9_589, w9_48, by decide, by decide +kernel⟩
theorem cX7_207 : vcV RX7 207 mX0_find 1 := ⟨vcM_X0_find, w9_586, w9_587, w9_588⟩
theorem vcM_X0_together : vcM mX0_together 1 := ⟨w9_603, w9_48, by decide, by decide +kernel⟩
theorem cX7_211 : vcV RX7 211 mX0_together 1 := ⟨vcM_X0_together, w9_600, w9_601, w9_602⟩
theorem fX7_215 : vfg RX7 215 0 0 := ⟨RX0, TX0, 1, rfl, by decide, k9_X0, Or.inl w9_211⟩
theorem fX7_218 : vfl RX7 218 5 3 false .int := ⟨RX5, TX5, 4, tyX5, rfl, by decide, k9_X5, tyX5_ok, nmX5, Or.inl w9_168, rfl, by decide +kernel, Or.inr rfl⟩
theorem vcM_X5_add : vcM mX5_add 3 := ⟨w9_611, w9_46, by decide, by decide +kernel⟩
theorem cX7_219 : vcV RX7 219 mX5_add 3 := ⟨vcM_X5_add, w9_608, w9_609, w9_610⟩
theorem vcM_X5_wouldHold : vcM mX5_wouldHold 4 := ⟨w9_623, w9_46, by decide, by decide +kernel⟩
theorem cX7_222 : vcV RX7 222 mX5_wouldHold 4 := ⟨vcM_X5_wouldHold, w9_620, w9_621, w9_622⟩
theorem vcM_X3_leanTowardAlone : vcM mX3_leanTowardAlone 2 := ⟨w9_632, w9_44, by decide, by decide +kernel⟩
theorem cX7_226 : vcV RX7 226 mX3_leanTowardAlone 2 := ⟨vcM_X3_leanTowardAlone, w9_629, w9_630, w9_631⟩
theorem vcM_X7_weightOf : vcM mX7_weightOf 3 := ⟨w9_641, w9_41, by decide, by decide +kernel⟩
theorem cX7_229 : vcV RX7 229 mX7_weightOf 3 := ⟨vcM_X7_weightOf, w9_638, w9_640, s9_8⟩
theorem cX7_233 : vcV RX7 233 mX3_draftAmong 2 := ⟨vcM_X3_draftAmong, w9_642, w9_413, w9_414⟩
theorem vcM_X7_greatestShared : vcM mX7_greatestShared 2 := ⟨w9_645, w9_41, by decide, by decide +kernel⟩
theorem cX7_236 : vcS RX7 236 mX7_greatestShared 2 := ⟨vcM_X7_greatestShared, Or.inl w9_643, w9_644⟩
theorem vcM_X7_drawFor : vcM mX7_drawFor 2 := ⟨w9_652, w9_41, by decide, by decide +kernel⟩
theorem cX7_239 : vcS RX7 239 mX7_drawFor 2 := ⟨vcM_X7_drawFor, Or.inl w9_650, w9_651⟩
theorem vcM_X3_actBy : vcM mX3_actBy 1 := ⟨w9_659, w9_44, by decide, by decide +kernel⟩
theorem cX7_242 : vcV RX7 242 mX3_actBy 1 := ⟨vcM_X3_actBy, w9_656, w9_657, w9_658⟩
theorem vcM_X3_sumOfVanes : vcM mX3_sumOfVanes 0 := ⟨w9_665, w9_44, by decide, by decide +kernel⟩
theorem cX7_245 : vcV RX7 245 mX3_sumOfVanes 0 := ⟨vcM_X3_sumOfVanes, w9_662, w9_663, w9_664⟩
theorem vcM_X3_howManyFeelADraft : vcM mX3_howManyFeelADraft 0 := ⟨w9_681, w9_44, by decide, by decide +kernel⟩
theorem cX7_248 : vcV RX7 248 mX3_howManyFeelADraft 0 := ⟨vcM_X3_howManyFeelADraft, w9_678, w9_679, w9_680⟩
theorem vcM_X3_howManyLeanings : vcM mX3_howManyLeanings 0 := ⟨w9_685, w9_44, by decide, by decide +kernel⟩
theorem cX7_251 : vcV RX7 251 mX3_howManyLeanings 0 := ⟨vcM_X3_howManyLeanings, w9_682, w9_683, w9_684⟩
theorem vcM_X7_turnedOneToward : vcM mX7_turnedOneToward 2 := ⟨w9_475, w9_41, by decide, by decide +kernel⟩
theorem cX7_265 : vcS RX7 265 mX7_turnedOneToward 2 := ⟨vcM_X7_turnedOneToward, Or.inl w9_473, w9_474⟩
theorem cX7_268 : vcS RX7 268 mX7_toldNext 3 := ⟨vcM_X7_toldNext, Or.inl w9_539, w9_471⟩
theorem fX8_7 : vfl RX8 7 8 0 true (.array .int) := ⟨RX8, TX8, 16, tyX8, rfl, by decide, k9_X8, tyX8_ok, nmX8, Or.inl w9_704, rfl, by decide +kernel, Or.inl rfl⟩
theorem fX8_13 : vfl RX8 13 8 2 true (.array .int) := ⟨RX8, TX8, 16, tyX8, rfl, by decide, k9_X8, tyX8_ok, nmX8, Or.inl w9_706, rfl, by decide +kernel, Or.inl rfl⟩
theorem fX8_16 : vfl RX8 16 8 3 true (.array .int) := ⟨RX8, TX8, 16, tyX8, rfl, by decide, k9_X8, tyX8_ok, nmX8, Or.inl w9_707, rfl, by decide +kernel, Or.inl rfl⟩
theorem fX8_19 : vfl RX8 19 8 4 true (.array .int) := ⟨RX8, TX8, 16, tyX8, rfl, by decide, k9_X8, tyX8_ok, nmX8, Or.inl w9_708, rfl, by decide +kernel, Or.inl rfl⟩
theorem fX8_22 : vfl RX8 22 8 5 true (.array .int) := ⟨RX8, TX8, 16, tyX8, rfl, by decide, k9_X8, tyX8_ok, nmX8, Or.inl w9_709, rfl, by decide +kernel, Or.inl rfl⟩
theorem fX8_25 : vfl RX8 25 8 6 true (.array .int) := ⟨RX8, TX8, 16, tyX8, rfl, by decide, k9_X8, tyX8_ok, nmX8, Or.inl w9_710, rfl, by decide +kernel, Or.inl rfl⟩
theorem fX8_28 : vfl RX8 28 8 8 true (.array .int) := ⟨RX8, TX8, 16, tyX8, rfl, by decide, k9_X8, tyX8_ok, nmX8, Or.inl w9_712, rfl, by decide +kernel, Or.inl rfl⟩
theorem fX8_31 : vfl RX8 31 8 10 true (.array .int) := ⟨RX8, TX8, 16, tyX8, rfl, by decide, k9_X8, tyX8_ok, nmX8, Or.inl w9_714, rfl, by decide +kernel, Or.inl rfl⟩
theorem fX8_34 : vfl RX8 34 8 13 true (.array .int) := ⟨RX8, TX8, 16, tyX8, rfl, by decide, k9_X8, tyX8_ok, nmX8, Or.inl w9_717, rfl, by decide +kernel, Or.inl rfl⟩
theorem fX8_37 : vfl RX8 37 8 14 true (.array .int) := ⟨RX8, TX8, 16, tyX8, rfl, by decide, k9_X8, tyX8_ok, nmX8, Or.inl w9_718, rfl, by decide +kernel, Or.inl rfl⟩
theorem fX8_40 : vfl RX8 40 8 15 true (.array .int) := ⟨RX8, TX8, 16, tyX8, rfl, by decide, k9_X8, tyX8_ok, nmX8, Or.inl w9_719, rfl, by decide +kernel, Or.inl rfl⟩
theorem vcM_X8_begins : vcM mX8_begins 0 := ⟨w9_695, w9_53, by decide, by decide +kernel⟩
theorem cX8_43 : vcV RX8 43 mX8_begins 0 := ⟨vcM_X8_begins, w9_692, w9_694, s9_9⟩
theorem vcM_X8_stands : vcM mX8_stands 3 := ⟨w9_699, w9_53, by decide, by decide +kernel⟩
theorem cX8_46 : vcV RX8 46 mX8_stands 3 := ⟨vcM_X8_stands, w9_696, w9_698, s9_10⟩
theorem vcM_X8_lays : vcM mX8_lays 0 := ⟨w9_703, w9_53, by decide, by decide +kernel⟩
theorem cX8_50 : vcV RX8 50 mX8_lays 0 := ⟨vcM_X8_lays, w9_700, w9_702, s9_11⟩
theorem vcM_X8_in : vcM mX8_in 3 := ⟨w9_759, w9_53, by decide, by decide +kernel⟩
theorem cX8_53 : vcS RX8 53 mX8_in 3 := ⟨vcM_X8_in, Or.inl w9_757, w9_758⟩
theorem fX8_57 : vfl RX8 57 8 1 false .int := ⟨RX8, TX8, 16, tyX8, rfl, by decide, k9_X8, tyX8_ok, nmX8, Or.inl w9_705, rfl, by decide +kernel, Or.inl rfl⟩
theorem fX8_61 : vfl RX8 61 8 12 false .int := ⟨RX8, TX8, 16, tyX8, rfl, by decide, k9_X8, tyX8_ok, nmX8, Or.inl w9_716, rfl, by decide +kernel, Or.inl rfl⟩
theorem vcM_X8_letterAt : vcM mX8_letterAt 1 := ⟨w9_783, w9_53, by decide, by decide +kernel⟩
theorem cX8_64 : vcV RX8 64 mX8_letterAt 1 := ⟨vcM_X8_letterAt, w9_780, w9_782, s9_15⟩
theorem vcM_X8_isFigure : vcM mX8_isFigure 1 := ⟨w9_786, w9_53, by decide, by decide +kernel⟩
theorem cX8_68 : vcS RX8 68 mX8_isFigure 1 := ⟨vcM_X8_isFigure, Or.inl w9_784, w9_785⟩
theorem vcM_X8_number : vcM mX8_number 3 := ⟨w9_779, w9_53, by decide, by decide +kernel⟩
theorem cX8_72 : vcV RX8 72 mX8_number 3 := ⟨vcM_X8_number, w9_776, w9_778, s9_14⟩
theorem vcM_X8_readsRoom : vcM mX8_readsRoom 0 := ⟨w9_775, w9_53, by decide, by decide +kernel⟩
theorem cX8_76 : vcV RX8 76 mX8_readsRoom 0 := ⟨vcM_X8_readsRoom, w9_772, w9_774, s9_13⟩
theorem vcM_X8_readsPerson : vcM mX8_readsPerson 0 := ⟨w9_790, w9_53, by decide, by decide +kernel⟩
theorem cX8_80 : vcV RX8 80 mX8_readsPerson 0 := ⟨vcM_X8_readsPerson, w9_787, w9_789, s9_16⟩
theorem vcM_X8_readsLeaning : vcM mX8_readsLeaning 0 := ⟨w9_794, w9_53, by decide, by decide +kernel⟩
theorem cX8_83 : vcV RX8 83 mX8_readsLeaning 0 := ⟨vcM_X8_readsLeaning, w9_791, w9_793, s9_17⟩
theorem vcM_X8_readsAll : vcM mX8_readsAll 0 := ⟨w9_771, w9_53, by decide, by decide +kernel⟩
theorem cX8_86 : vcV RX8 86 mX8_readsAll 0 := ⟨vcM_X8_readsAll, w9_768, w9_770, s9_12⟩
theorem fX8_90 : vfl RX8 90 8 7 false .int := ⟨RX8, TX8, 16, tyX8, rfl, by decide, k9_X8, tyX8_ok, nmX8, Or.inl w9_711, rfl, by decide +kernel, Or.inl rfl⟩
theorem fX8_93 : vfl RX8 93 8 9 false .int := ⟨RX8, TX8, 16, tyX8, rfl, by decide, k9_X8, tyX8_ok, nmX8, Or.inl w9_713, rfl, by decide +kernel, Or.inl rfl⟩
theorem fX8_96 : vfl RX8 96 8 11 false .int := ⟨RX8, TX8, 16, tyX8, rfl, by decide, k9_X8, tyX8_ok, nmX8, Or.inl w9_715, rfl, by decide +kernel, Or.inl rfl⟩
theorem vcM_X8_abs : vcM mX8_abs 1 := ⟨w9_824, w9_53, by decide, by decide +kernel⟩
theorem cX8_99 : vcS RX8 99 mX8_abs 1 := ⟨vcM_X8_abs, Or.inl w9_822, w9_823⟩
theorem vcM_X8_feels : vcM mX8_feels 3 := ⟨w9_821, w9_53, by decide, by decide +kernel⟩
theorem cX8_102 : vcV RX8 102 mX8_feels 3 := ⟨vcM_X8_feels, w9_818, w9_820, s9_21⟩
theorem vcM_X8_way : vcM mX8_way 2 := ⟨w9_827, w9_53, by decide, by decide +kernel⟩
theorem cX8_106 : vcS RX8 106 mX8_way 2 := ⟨vcM_X8_way, Or.inl w9_825, w9_826⟩
theorem vcM_X8_all : vcM mX8_all 0 := ⟨w9_813, w9_53, by decide, by decide +kernel⟩
theorem cX8_110 : vcS RX8 110 mX8_all 0 := ⟨vcM_X8_all, Or.inl w9_811, w9_812⟩
theorem vcM_X8_draftBy : vcM mX8_draftBy 2 := ⟨w9_817, w9_53, by decide, by decide +kernel⟩
theorem cX8_113 : vcV RX8 113 mX8_draftBy 2 := ⟨vcM_X8_draftBy, w9_814, w9_816, s9_20⟩
theorem vcM_X8_isOne : vcM mX8_isOne 1 := ⟨w9_806, w9_53, by decide, by decide +kernel⟩
theorem cX8_116 : vcV RX8 116 mX8_isOne 1 := ⟨vcM_X8_isOne, w9_803, w9_805, s9_18⟩
theorem vcM_X8_draftOf : vcM mX8_draftOf 1 := ⟨w9_810, w9_53, by decide, by decide +kernel⟩
theorem cX8_119 : vcV RX8 119 mX8_draftOf 1 := ⟨vcM_X8_draftOf, w9_807, w9_809, s9_19⟩
theorem vcM_X8_isPlace : vcM mX8_isPlace 2 := ⟨w9_839, w9_53, by decide, by decide +kernel⟩
theorem cX8_122 : vcV RX8 122 mX8_isPlace 2 := ⟨vcM_X8_isPlace, w9_836, w9_838, s9_22⟩
theorem vcM_X8_whoAt : vcM mX8_whoAt 2 := ⟨w9_843, w9_53, by decide, by decide +kernel⟩
theorem cX8_126 : vcV RX8 126 mX8_whoAt 2 := ⟨vcM_X8_whoAt, w9_840, w9_842, s9_23⟩
theorem vcM_X8_next : vcM mX8_next 2 := ⟨w9_859, w9_53, by decide, by decide +kernel⟩
theorem cX8_129 : vcV RX8 129 mX8_next 2 := ⟨vcM_X8_next, w9_856, w9_858, s9_26⟩
theorem vcM_X8_keeps : vcM mX8_keeps 0 := ⟨w9_851, w9_53, by decide, by decide +kernel⟩
theorem cX8_132 : vcV RX8 132 mX8_keeps 0 := ⟨vcM_X8_keeps, w9_848, w9_850, s9_24⟩
theorem vcM_X8_passes : vcM mX8_passes 0 := ⟨w9_855, w9_53, by decide, by decide +kernel⟩
theorem cX8_135 : vcV RX8 135 mX8_passes 0 := ⟨vcM_X8_passes, w9_852, w9_854, s9_25⟩
theorem vcM_X8_eastBy : vcM mX8_eastBy 1 := ⟨w9_870, w9_53, by decide, by decide +kernel⟩
theorem cX8_138 : vcS RX8 138 mX8_eastBy 1 := ⟨vcM_X8_eastBy, Or.inl w9_868, w9_869⟩
theorem vcM_X8_southBy : vcM mX8_southBy 1 := ⟨w9_873, w9_53, by decide, by decide +kernel⟩
theorem cX8_141 : vcS RX8 141 mX8_southBy 1 := ⟨vcM_X8_southBy, Or.inl w9_871, w9_872⟩
theorem vcM_X8_mayWalk : vcM mX8_mayWalk 2 := ⟨w9_867, w9_53, by decide, by decide +kernel⟩
theorem cX8_144 : vcV RX8 144 mX8_mayWalk 2 := ⟨vcM_X8_mayWalk, w9_864, w9_866, s9_27⟩
theorem vcM_X8_goes : vcM mX8_goes 2 := ⟨w9_877, w9_53, by decide, by decide +kernel⟩
theorem cX8_147 : vcV RX8 147 mX8_goes 2 := ⟨vcM_X8_goes, w9_874, w9_876, s9_28⟩
theorem vcM_X8_towardOf : vcM mX8_towardOf 1 := ⟨w9_893, w9_53, by decide, by decide +kernel⟩
theorem cX8_151 : vcV RX8 151 mX8_towardOf 1 := ⟨vcM_X8_towardOf, w9_890, w9_892, s9_29⟩
theorem vcM_X8_holds : vcM mX8_holds 0 := ⟨w9_909, w9_53, by decide, by decide +kernel⟩
theorem cX8_154 : vcV RX8 154 mX8_holds 0 := ⟨vcM_X8_holds, w9_906, w9_908, s9_31⟩
theorem vcM_X8_lets : vcM mX8_lets 0 := ⟨w9_913, w9_53, by decide, by decide +kernel⟩
theorem cX8_157 : vcV RX8 157 mX8_lets 0 := ⟨vcM_X8_lets, w9_910, w9_912, s9_32⟩
theorem vcM_X8_behindOf : vcM mX8_behindOf 2 := ⟨w9_905, w9_53, by decide, by decide +kernel⟩
theorem cX8_160 : vcV RX8 160 mX8_behindOf 2 := ⟨vcM_X8_behindOf, w9_902, w9_904, s9_30⟩
theorem vcM_X8_puts : vcM mX8_puts 2 := ⟨w9_929, w9_53, by decide, by decide +kernel⟩
theorem cX8_163 : vcV RX8 163 mX8_puts 2 := ⟨vcM_X8_puts, w9_926, w9_928, s9_34⟩
theorem vcM_X8_beside : vcM mX8_beside 2 := ⟨w9_933, w9_53, by decide, by decide +kernel⟩
theorem cX8_166 : vcV RX8 166 mX8_beside 2 := ⟨vcM_X8_beside, w9_930, w9_932, s9_35⟩
theorem vcM_X8_measures : vcM mX8_measures 2 := ⟨w9_925, w9_53, by decide, by decide +kernel⟩
theorem cX8_169 : vcV RX8 169 mX8_measures 2 := ⟨vcM_X8_measures, w9_922, w9_924, s9_33⟩
theorem vcM_X8_leans : vcM mX8_leans 2 := ⟨w9_949, w9_53, by decide, by decide +kernel⟩
theorem cX8_172 : vcV RX8 172 mX8_leans 2 := ⟨vcM_X8_leans, w9_946, w9_948, s9_37⟩
theorem vcM_X8_isMarried : vcM mX8_isMarried 0 := ⟨w9_953, w9_53, by decide, by decide +kernel⟩
theorem cX8_175 : vcV RX8 175 mX8_isMarried 0 := ⟨vcM_X8_isMarried, w9_950, w9_952, s9_38⟩
theorem vcM_X8_marries : vcM mX8_marries 0 := ⟨w9_945, w9_53, by decide, by decide +kernel⟩
theorem cX8_178 : vcV RX8 178 mX8_marries 0 := ⟨vcM_X8_marries, w9_942, w9_944, s9_36⟩
theorem vcM_X8_turn : vcM mX8_turn 1 := ⟨w9_984, w9_53, by decide, by decide +kernel⟩
theorem cX8_187 : vcV RX8 187 mX8_turn 1 := ⟨vcM_X8_turn, w9_981, w9_983, s9_39⟩
theorem vcM_X7_init : vcM mX7_init 0 := ⟨w9_60, w9_41, by decide, by decide +kernel⟩
theorem cL_9 : vcI RL 9 mX7_init 0 := ⟨vcM_X7_init, Or.inl w9_58, w9_59, rfl, rfl⟩
theorem vcM_X8_init : vcM mX8_init 0 := ⟨w9_690, w9_53, by decide, by decide +kernel⟩
theorem cL_12 : vcI RL 12 mX8_init 0 := ⟨vcM_X8_init, Or.inl w9_688, w9_689, rfl, rfl⟩
theorem vcM_X7_write : vcM mX7_write 1 := ⟨w9_375, w9_41, by decide, by decide +kernel⟩
theorem cL_13 : vcV RL 13 mX7_write 1 := ⟨vcM_X7_write, w9_372, w9_373, w9_374⟩
theorem vcM_X8_write : vcM mX8_write 1 := ⟨w9_756, w9_53, by decide, by decide +kernel⟩
theorem cL_17 : vcV RL 17 mX8_write 1 := ⟨vcM_X8_write, w9_753, w9_754, w9_755⟩
theorem vcM_X7_wipe : vcM mX7_wipe 0 := ⟨w9_379, w9_41, by decide, by decide +kernel⟩
theorem cL_18 : vcV RL 18 mX7_wipe 0 := ⟨vcM_X7_wipe, w9_376, w9_377, w9_378⟩
theorem vcM_X8_wipe : vcM mX8_wipe 0 := ⟨w9_763, w9_53, by decide, by decide +kernel⟩
theorem cL_22 : vcV RL 22 mX8_wipe 0 := ⟨vcM_X8_wipe, w9_760, w9_761, w9_762⟩
theorem vcM_X7_fault : vcM mX7_fault 0 := ⟨w9_383, w9_41, by decide, by decide +kernel⟩
theorem cL_23 : vcV RL 23 mX7_fault 0 := ⟨vcM_X7_fault, w9_380, w9_381, w9_382⟩
theorem vcM_X8_fault : vcM mX8_fault 0 := ⟨w9_767, w9_53, by decide, by decide +kernel⟩
theorem cL_26 : vcV RL 26 mX8_fault 0 := ⟨vcM_X8_fault, w9_764, w9_765, w9_766⟩
theorem vcM_X7_lay : vcM mX7_lay 0 := ⟨w9_387, w9_41, by decide, by decide +kernel⟩
theorem cL_27 : vcV RL 27 mX7_lay 0 := ⟨vcM_X7_lay, w9_384, w9_385, w9_386⟩
theorem vcM_X8_lay : vcM mX8_lay 0 := ⟨w9_798, w9_53, by decide, by decide +kernel⟩
theorem cL_30 : vcV RL 30 mX8_lay 0 := ⟨vcM_X8_lay, w9_795, w9_796, w9_797⟩
theorem vcM_X7_person : vcM mX7_person 2 := ⟨w9_406, w9_41, by decide, by decide +kernel⟩
theorem cL_31 : vcV RL 31 mX7_person 2 := ⟨vcM_X7_person, w9_403, w9_404, w9_405⟩
theorem vcM_X8_person : vcM mX8_person 2 := ⟨w9_802, w9_53, by decide, by decide +kernel⟩
theorem cL_35 : vcV RL 35 mX8_person 2 := ⟨vcM_X8_person, w9_799, w9_800, w9_801⟩
theorem vcM_X7_leaning : vcM mX7_leaning 2 := ⟨w9_444, w9_41, by decide, by decide +kernel⟩
theorem cL_36 : vcV RL 36 mX7_leaning 2 := ⟨vcM_X7_leaning, w9_441, w9_442, w9_443⟩
theorem vcM_X8_leaning : vcM mX8_leaning 2 := ⟨w9_831, w9_53, by decide, by decide +kernel⟩
theorem cL_39 : vcV RL 39 mX8_leaning 2 := ⟨vcM_X8_leaning, w9_828, w9_829, w9_830⟩
theorem vcM_X7_place : vcM mX7_place 2 := ⟨w9_450, w9_41, by decide, by decide +kernel⟩
theorem cL_40 : vcV RL 40 mX7_place 2 := ⟨vcM_X7_place, w9_447, w9_448, w9_449⟩
theorem vcM_X8_place : vcM mX8_place 2 := ⟨w9_835, w9_53, by decide, by decide +kernel⟩
theorem cL_43 : vcV RL 43 mX8_place 2 := ⟨vcM_X8_place, w9_832, w9_833, w9_834⟩
theorem vcM_X7_pass : vcM mX7_pass 1 := ⟨w9_456, w9_41, by decide, by decide +kernel⟩
theorem cL_44 : vcV RL 44 mX7_pass 1 := ⟨vcM_X7_pass, w9_453, w9_454, w9_455⟩
theorem vcM_X8_pass : vcM mX8_pass 1 := ⟨w9_847, w9_53, by decide, by decide +kernel⟩
theorem cL_47 : vcV RL 47 mX8_pass 1 := ⟨vcM_X8_pass, w9_844, w9_845, w9_846⟩
theorem vcM_X7_walk : vcM mX7_walk 2 := ⟨w9_479, w9_41, by decide, by decide +kernel⟩
theorem cL_48 : vcV RL 48 mX7_walk 2 := ⟨vcM_X7_walk, w9_476, w9_477, w9_478⟩
theorem vcM_X8_walk : vcM mX8_walk 2 := ⟨w9_863, w9_53, by decide, by decide +kernel⟩
theorem cL_51 : vcV RL 51 mX8_walk 2 := ⟨vcM_X8_walk, w9_860, w9_861, w9_862⟩
theorem vcM_X7_lean : vcM mX7_lean 3 := ⟨w9_505, w9_41, by decide, by decide +kernel⟩
theorem cL_52 : vcV RL 52 mX7_lean 3 := ⟨vcM_X7_lean, w9_502, w9_503, w9_504⟩
theorem vcM_X8_lean : vcM mX8_lean 3 := ⟨w9_881, w9_53, by decide, by decide +kernel⟩
theorem cL_56 : vcV RL 56 mX8_lean 3 := ⟨vcM_X8_lean, w9_878, w9_879, w9_880⟩
theorem vcM_X7_undo : vcM mX7_undo 0 := ⟨w9_510, w9_41, by decide, by decide +kernel⟩
theorem cL_57 : vcV RL 57 mX7_undo 0 := ⟨vcM_X7_undo, w9_507, w9_508, w9_509⟩
theorem vcM_X8_undo : vcM mX8_undo 0 := ⟨w9_885, w9_53, by decide, by decide +kernel⟩
theorem cL_60 : vcV RL 60 mX8_undo 0 := ⟨vcM_X8_undo, w9_882, w9_883, w9_884⟩
theorem vcM_X7_toward : vcM mX7_toward 1 := ⟨w9_518, w9_41, by decide, by decide +kernel⟩
theorem cL_61 : vcV RL 61 mX7_toward 1 := ⟨vcM_X7_toward, w9_515, w9_516, w9_517⟩
theorem vcM_X8_toward : vcM mX8_toward 1 := ⟨w9_889, w9_53, by decide, by decide +kernel⟩
theorem cL_64 : vcV RL 64 mX8_toward 1 := ⟨vcM_X8_toward, w9_886, w9_887, w9_888⟩
theorem vcM_X7_looked : vcM mX7_looked 1 := ⟨w9_526, w9_41, by decide, by decide +kernel⟩
theorem cL_65 : vcV RL 65 mX7_looked 1 := ⟨vcM_X7_looked, w9_523, w9_524, w9_525⟩
theorem vcM_X8_looked : vcM mX8_looked 1 := ⟨w9_897, w9_53, by decide, by decide +kernel⟩
theorem cL_68 : vcV RL 68 mX8_looked 1 := ⟨vcM_X8_looked, w9_894, w9_895, w9_896⟩
theorem vcM_X7_behind : vcM mX7_behind 2 := ⟨w9_535, w9_41, by decide, by decide +kernel⟩
theorem cL_69 : vcV RL 69 mX7_behind 2 := ⟨vcM_X7_behind, w9_532, w9_533, w9_534⟩
theorem vcM_X8_behind : vcM mX8_behind 2 := ⟨w9_901, w9_53, by decide, by decide +kernel⟩
theorem cL_72 : vcV RL 72 mX8_behind 2 := ⟨vcM_X8_behind, w9_898, w9_899, w9_900⟩
theorem vcM_X7_settled : vcM mX7_settled 0 := ⟨w9_543, w9_41, by decide, by decide +kernel⟩
theorem cL_73 : vcV RL 73 mX7_settled 0 := ⟨vcM_X7_settled, w9_540, w9_541, w9_542⟩
theorem vcM_X8_settled : vcM mX8_settled 0 := ⟨w9_917, w9_53, by decide, by decide +kernel⟩
theorem cL_76 : vcV RL 76 mX8_settled 0 := ⟨vcM_X8_settled, w9_914, w9_915, w9_916⟩
theorem vcM_X7_steps : vcM mX7_steps 3 := ⟨w9_547, w9_41, by decide, by decide +kernel⟩
theorem cL_77 : vcV RL 77 mX7_steps 3 := ⟨vcM_X7_steps, w9_544, w9_545, w9_546⟩
theorem vcM_X8_steps : vcM mX8_steps 3 := ⟨w9_921, w9_53, by decide, by decide +kernel⟩
theorem cL_80 : vcV RL 80 mX8_steps 3 := ⟨vcM_X8_steps, w9_918, w9_919, w9_920⟩
theorem vcM_X7_stand : vcM mX7_stand 4 := ⟨w9_576, w9_41, by decide, by decide +kernel⟩
theorem cL_81 : vcV RL 81 mX7_stand 4 := ⟨vcM_X7_stand, w9_573, w9_574, w9_575⟩
theorem vcM_X8_stand : vcM mX8_stand 4 := ⟨w9_937, w9_53, by decide, by decide +kernel⟩
theorem cL_85 : vcV RL 85 mX8_stand 4 := ⟨vcM_X8_stand, w9_934, w9_935, w9_936⟩
theorem vcM_X7_marry : vcM mX7_marry 1 := ⟨w9_585, w9_41, by decide, by decide +kernel⟩
theorem cL_86 : vcV RL 86 mX7_marry 1 := ⟨vcM_X7_marry, w9_582, w9_583, w9_584⟩
theorem vcM_X8_marry : vcM mX8_marry 1 := ⟨w9_941, w9_53, by decide, by decide +kernel⟩
theorem cL_89 : vcV RL 89 mX8_marry 1 := ⟨vcM_X8_marry, w9_938, w9_939, w9_940⟩
theorem vcM_X7_see : vcM mX7_see 3 := ⟨w9_607, w9_41, by decide, by decide +kernel⟩
theorem cL_90 : vcV RL 90 mX7_see 3 := ⟨vcM_X7_see, w9_604, w9_605, w9_606⟩
theorem vcM_X8_see : vcM mX8_see 3 := ⟨w9_957, w9_53, by decide, by decide +kernel⟩
theorem cL_93 : vcV RL 93 mX8_see 3 := ⟨vcM_X8_see, w9_954, w9_955, w9_956⟩
theorem vcM_X7_forget : vcM mX7_forget 0 := ⟨w9_615, w9_41, by decide, by decide +kernel⟩
theorem cL_94 : vcV RL 94 mX7_forget 0 := ⟨vcM_X7_forget, w9_612, w9_613, w9_614⟩
theorem vcM_X8_forget : vcM mX8_forget 0 := ⟨w9_961, w9_53, by decide, by decide +kernel⟩
theorem cL_97 : vcV RL 97 mX8_forget 0 := ⟨vcM_X8_forget, w9_958, w9_959, w9_960⟩
theorem vcM_X7_kinds : vcM mX7_kinds 1 := ⟨w9_619, w9_41, by decide, by decide +kernel⟩
theorem cL_98 : vcV RL 98 mX7_kinds 1 := ⟨vcM_X7_kinds, w9_616, w9_617, w9_618⟩
theorem vcM_X8_kinds : vcM mX8_kinds 1 := ⟨w9_965, w9_53, by decide, by decide +kernel⟩
theorem cL_101 : vcV RL 101 mX8_kinds 1 := ⟨vcM_X8_kinds, w9_962, w9_963, w9_964⟩
theorem vcM_X7_loves : vcM mX7_loves 2 := ⟨w9_628, w9_41, by decide, by decide +kernel⟩
theorem cL_102 : vcV RL 102 mX7_loves 2 := ⟨vcM_X7_loves, w9_625, w9_626, w9_627⟩
theorem vcM_X8_loves : vcM mX8_loves 2 := ⟨w9_969, w9_53, by decide, by decide +kernel⟩
theorem cL_105 : vcV RL 105 mX8_loves 2 := ⟨vcM_X8_loves, w9_966, w9_967, w9_968⟩
theorem vcM_X7_away : vcM mX7_away 4 := ⟨w9_637, w9_41, by decide, by decide +kernel⟩
theorem cL_106 : vcV RL 106 mX7_away 4 := ⟨vcM_X7_away, w9_634, w9_635, w9_636⟩
theorem vcM_X8_away : vcM mX8_away 4 := ⟨w9_973, w9_53, by decide, by decide +kernel⟩
theorem cL_109 : vcV RL 109 mX8_away 4 := ⟨vcM_X8_away, w9_970, w9_971, w9_972⟩
theorem vcM_X7_evening : vcM mX7_evening 3 := ⟨w9_649, w9_41, by decide, by decide +kernel⟩
theorem cL_110 : vcV RL 110 mX7_evening 3 := ⟨vcM_X7_evening, w9_646, w9_647, w9_648⟩
theorem vcM_X8_evening : vcM mX8_evening 3 := ⟨w9_977, w9_53, by decide, by decide +kernel⟩
theorem cL_113 : vcV RL 113 mX8_evening 3 := ⟨vcM_X8_evening, w9_974, w9_975, w9_976⟩
theorem vcM_X7_keep : vcM mX7_keep 0 := ⟨w9_669, w9_41, by decide, by decide +kernel⟩
theorem cL_114 : vcV RL 114 mX7_keep 0 := ⟨vcM_X7_keep, w9_666, w9_667, w9_668⟩
theorem vcM_X8_keep : vcM mX8_keep 0 := ⟨w9_988, w9_53, by decide, by decide +kernel⟩
theorem cL_117 : vcV RL 117 mX8_keep 0 := ⟨vcM_X8_keep, w9_985, w9_986, w9_987⟩
theorem vcM_X7_back : vcM mX7_back 0 := ⟨w9_673, w9_41, by decide, by decide +kernel⟩
theorem cL_118 : vcV RL 118 mX7_back 0 := ⟨vcM_X7_back, w9_670, w9_671, w9_672⟩
theorem vcM_X8_back : vcM mX8_back 0 := ⟨w9_992, w9_53, by decide, by decide +kernel⟩
theorem cL_121 : vcV RL 121 mX8_back 0 := ⟨vcM_X8_back, w9_989, w9_990, w9_991⟩
theorem vcM_X7_count : vcM mX7_count 1 := ⟨w9_677, w9_41, by decide, by decide +kernel⟩
theorem cL_122 : vcV RL 122 mX7_count 1 := ⟨vcM_X7_count, w9_674, w9_675, w9_676⟩
theorem vcM_X8_count : vcM mX8_count 1 := ⟨w9_996, w9_53, by decide, by decide +kernel⟩
theorem cL_125 : vcV RL 125 mX8_count 1 := ⟨vcM_X8_count, w9_993, w9_994, w9_995⟩
theorem jX3_74 : Cond.methodLink RX3 74 Lib.Math.abs.name ∈ vtS ∧ Cond.static Lib.Math.abs.name ∈ vtS ∧ Cond.initialized "java/lang/Math" ∈ vtS ∧ Cond.code Lib.Math.abs.name Lib.Math.abs.code 1 (some .int) ∈ vtS := ⟨w9_424, w9_425, w9_55, w9_426⟩
theorem jX7_260 : Cond.methodLink RX7 260 Lib.Math.abs.name ∈ vtS ∧ Cond.static Lib.Math.abs.name ∈ vtS ∧ Cond.initialized "java/lang/Math" ∈ vtS ∧ Cond.code Lib.Math.abs.name Lib.Math.abs.code 1 (some .int) ∈ vtS := ⟨w9_438, w9_425, w9_55, w9_426⟩
theorem jX1_29 : Cond.methodLink RX1 29 Lib.Math.min.name ∈ vtS ∧ Cond.static Lib.Math.min.name ∈ vtS ∧ Cond.initialized "java/lang/Math" ∈ vtS ∧ Cond.code Lib.Math.min.name Lib.Math.min.code 2 (some .int) ∈ vtS := ⟨w9_462, w9_463, w9_55, w9_464⟩
theorem jX3_40 : Cond.methodLink RX3 40 arraycopyName ∈ vtS ∧ Cond.native arraycopyName ∈ vtS ∧ Cond.static arraycopyName ∈ vtS ∧ Cond.initialized "java/lang/System" ∈ vtS := ⟨w9_392, w9_394, w9_393, w9_54⟩
theorem jX0_3 : Cond.methodLink RX0 3 Lib.objectInit ∈ vtS ∧ Cond.instanceMethod Lib.objectInit ∈ vtS ∧ Cond.code Lib.objectInit ⟨#[0xb1]⟩ 1 none ∈ vtS := ⟨w9_209, w9_62, w9_63⟩
theorem jX1_3 : Cond.methodLink RX1 3 Lib.objectInit ∈ vtS ∧ Cond.instanceMethod Lib.objectInit ∈ vtS ∧ Cond.code Lib.objectInit ⟨#[0xb1]⟩ 1 none ∈ vtS := ⟨w9_143, w9_62, w9_63⟩
theorem jX2_3 : Cond.methodLink RX2 3 Lib.objectInit ∈ vtS ∧ Cond.instanceMethod Lib.objectInit ∈ vtS ∧ Cond.code Lib.objectInit ⟨#[0xb1]⟩ 1 none ∈ vtS := ⟨w9_85, w9_62, w9_63⟩
theorem jX3_3 : Cond.methodLink RX3 3 Lib.objectInit ∈ vtS ∧ Cond.instanceMethod Lib.objectInit ∈ vtS ∧ Cond.code Lib.objectInit ⟨#[0xb1]⟩ 1 none ∈ vtS := ⟨w9_95, w9_62, w9_63⟩
theorem jX4_3 : Cond.methodLink RX4 3 Lib.objectInit ∈ vtS ∧ Cond.instanceMethod Lib.objectInit ∈ vtS ∧ Cond.code Lib.objectInit ⟨#[0xb1]⟩ 1 none ∈ vtS := ⟨w9_183, w9_62, w9_63⟩
theorem jX5_3 : Cond.methodLink RX5 3 Lib.objectInit ∈ vtS ∧ Cond.instanceMethod Lib.objectInit ∈ vtS ∧ Cond.code Lib.objectInit ⟨#[0xb1]⟩ 1 none ∈ vtS := ⟨w9_163, w9_62, w9_63⟩
theorem jX6_3 : Cond.methodLink RX6 3 Lib.objectInit ∈ vtS ∧ Cond.instanceMethod Lib.objectInit ∈ vtS ∧ Cond.code Lib.objectInit ⟨#[0xb1]⟩ 1 none ∈ vtS := ⟨w9_69, w9_62, w9_63⟩
theorem jX7_3 : Cond.methodLink RX7 3 Lib.objectInit ∈ vtS ∧ Cond.instanceMethod Lib.objectInit ∈ vtS ∧ Cond.code Lib.objectInit ⟨#[0xb1]⟩ 1 none ∈ vtS := ⟨w9_61, w9_62, w9_63⟩
theorem jX8_1 : Cond.methodLink RX8 1 Lib.objectInit ∈ vtS ∧ Cond.instanceMethod Lib.objectInit ∈ vtS ∧ Cond.code Lib.objectInit ⟨#[0xb1]⟩ 1 none ∈ vtS := ⟨w9_691, w9_62, w9_63⟩
end
section
/-! numbers: nI a of a natural number, iI z of a whole number; rules that keep to them -/
def iI (z : Int) : Int32 := Int32.ofInt z
theorem iI_nat (a : Nat) : iI (a : Int) = nI a := by simp [iI, nI, Int32.ofInt, Int32.ofNat]
theorem iI_add (a b : Int) : iI a + iI b = iI (a + b) := (Int32.ofInt_add a b).symm
theorem iI_sub (a b : Int) : iI a - iI b = iI (a - b) := (Int32.ofInt_sub a b).symm
theorem iI_mul (a b : Int) : iI a * iI b = iI (a * b) := (Int32.ofInt_mul a b).symm
theorem iI_neg (a : Int) : -iI a = iI (-a) := (Int32.ofInt_neg a).symm
theorem iI_toInt {z : Int} (h1 : -2147483648 ≤ z) (h2 : z < 2147483648) : (iI z).toInt = z := Int32.toInt_ofInt_of_le (by simpa using h1) (by simpa using h2)
theorem iI_lt {a b : Int} (a1 : -2147483648 ≤ a) (a2 : a < 2147483648) (b1 : -2147483648 ≤ b) (b2 : b < 2147483648) : iI a < iI b ↔ a < b := by
  rw [Int32.lt_iff_toInt_lt, iI_toInt a1 a2, iI_toInt b1 b2]
theorem iI_le {a b : Int} (a1 : -2147483648 ≤ a) (a2 : a < 2147483648) (b1 : -2147483648 ≤ b) (b2 : b < 2147483648) : iI a ≤ iI b ↔ a ≤ b := by
  rw [Int32.le_iff_toInt_le, iI_toInt a1 a2, iI_toInt b1 b2]
theorem iI_eq {a b : Int} (a1 : -2147483648 ≤ a) (a2 : a < 2147483648) (b1 : -2147483648 ≤ b) (b2 : b < 2147483648) : iI a = iI b ↔ a = b := by
  refine ⟨fun h => ?_, fun h => by rw [h]⟩
  have := congrArg Int32.toInt h
  rwa [iI_toInt a1 a2, iI_toInt b1 b2] at this
theorem iI_0 : iI 0 = 0 := by decide
theorem nI_and31 : ∀ b, b < 32 → nI b &&& 31 = nI b := by decide +kernel
theorem nI_smod : ∀ b, b < 32 → ((nI b).toBitVec.smod 32).toNat = b := by decide +kernel
theorem nI_shr {a b : Nat} (ha : a < 2147483648) (hb : b < 32) : nI a >>> (nI b &&& 31) = nI (a / 2 ^ b) := by
  rw [nI_and31 b hb]; exact pk_shrN ha _ b (nI_smod b hb)
theorem nI_shl {a b : Nat} (ha : a * 2 ^ b < 4294967296) (hb : b < 32) : nI a <<< (nI b &&& 31) = nI (a * 2 ^ b) := by
  rw [nI_and31 b hb]; exact pk_shlN _ b (nI_smod b hb) ha
theorem nI_and1 {a : Nat} (ha : a < 4294967296) : nI a &&& nI 1 = nI (a % 2) := pk_andN ha (m := nI 1) 1 (by decide)
theorem nI_or {a b : Nat} : nI a ||| nI b = nI (a ||| b) := by
  apply Int32.toBitVec_inj.mp
  rw [Int32.toBitVec_or]
  show BitVec.ofNat 32 a ||| BitVec.ofNat 32 b = BitVec.ofNat 32 (a ||| b)
  apply BitVec.eq_of_toNat_eq
  simp [BitVec.toNat_or, Nat.or_mod_two_pow]
theorem nI_dec {x : Nat} (h : 1 ≤ x) : nI x + Int32.ofInt (-1) = nI (x - 1) := by
  rw [show Int32.ofInt (-1) = iI (-1) from rfl, ← iI_nat, iI_add, ← iI_nat]
  congr 1; omega
theorem iI_abs {z : Int} (h : -2147483648 < z ∧ z < 2147483648) : (if 0 ≤ iI z then iI z else 0 - iI z) = iI (z.natAbs : Int) := by
  have e := iI_le (a := 0) (b := z) (by omega) (by omega) (by omega) (by omega)
  rw [iI_0] at e
  split
  next q => have := e.mp q; congr 1; omega
  next q => have := (not_congr e).mp q; rw [← iI_0, iI_sub]; congr 1; omega
theorem nI_min {x y : Nat} (hx : x < 2147483648) (hy : y < 2147483648) : (if nI y < nI x then nI y else nI x) = nI (min x y) := by
  have e := nI_ltI hy hx
  split
  next q => have := e.mp q; congr 1; omega
  next q => have := (not_congr e).mp q; congr 1; omega
/-- a truth as an int -/
def vB (P : Prop) [Decidable P] : Int32 := if P then 1 else 0
theorem vB_t {P : Prop} [Decidable P] (h : P) : vB P = 1 := if_pos h
theorem vB_f {P : Prop} [Decidable P] (h : ¬ P) : vB P = 0 := if_neg h
theorem vB_01 {P : Prop} [Decidable P] : vB P = 0 ∨ vB P = 1 := by unfold vB; split <;> simp
theorem vB_congr {P Q : Prop} [Decidable P] [Decidable Q] (h : P ↔ Q) : vB P = vB Q := by
  by_cases hp : P
  · rw [vB_t hp, vB_t (h.mp hp)]
  · rw [vB_f hp, vB_f (fun q => hp (h.mpr q))]
theorem nI_1' : nI 1 = 1 := by decide
/-- what a method that only looks gives -/
def VP (x : Int32) (h : VHp) : VPost := fun v h' => v = some (.int x) ∧ h' = h
section VNat
variable {k : VK} {b : Nat × Nat} {pc : Nat} {ls : List (Option Value)} {st : List Value} {h : VHp}
theorem V.eqst {st' : List Value} (e : st = st') (kk : V k b pc ls st' h) : V k b pc ls st h := e ▸ kk
theorem V.toZ1 {a : Nat} (kk : V k b pc ls (.int (iI (a : Int)) :: st) h) : V k b pc ls (.int (nI a) :: st) h := by rwa [iI_nat] at kk
theorem V.toZ2 {a : Nat} {v : Value} (kk : V k b pc ls (v :: .int (iI (a : Int)) :: st) h) : V k b pc ls (v :: .int (nI a) :: st) h := by rwa [iI_nat] at kk
theorem V.re {x y : Int32} (e : x = y) (kk : V k b pc ls (.int y :: st) h) : V k b pc ls (.int x :: st) h := e ▸ kk
theorem V.re2 {x y : Int32} {v : Value} (e : x = y) (kk : V k b pc ls (v :: .int y :: st) h) : V k b pc ls (v :: .int x :: st) h := e ▸ kk
theorem V.iaddN {x y : Nat} (hd : decode k.2.1.2.1 pc = .ok (.iadd, 1)) (kk : V k b (pc + 1) ls (.int (nI (x + y)) :: st) h) : V k b pc ls (.int (nI y) :: .int (nI x) :: st) h := V.iadd hd (by rw [nI_add]; exact kk)
theorem V.imulN {x y : Nat} (hd : decode k.2.1.2.1 pc = .ok (.imul, 1)) (kk : V k b (pc + 1) ls (.int (nI (x * y)) :: st) h) : V k b pc ls (.int (nI y) :: .int (nI x) :: st) h := V.imul hd (by rw [pk_mul]; exact kk)
theorem V.isubN {x y : Nat} (hd : decode k.2.1.2.1 pc = .ok (.isub, 1)) (hle : y ≤ x) (kk : V k b (pc + 1) ls (.int (nI (x - y)) :: st) h) : V k b pc ls (.int (nI y) :: .int (nI x) :: st) h := V.isub hd (by rw [pk_sub hle]; exact kk)
theorem V.idivN {x y : Nat} (hd : decode k.2.1.2.1 pc = .ok (.idiv, 1)) (hx : x < 2147483648) (hy0 : 0 < y) (hy : y < 2147483648) (kk : V k b (pc + 1) ls (.int (nI (x / y)) :: st) h) : V k b pc ls (.int (nI y) :: .int (nI x) :: st) h := V.idiv hd (nI_ne0 hy0 hy) (by rw [pk_div hx hy0 hy]; exact kk)
theorem V.iremN {x y : Nat} (hd : decode k.2.1.2.1 pc = .ok (.irem, 1)) (hx : x < 2147483648) (hy0 : 0 < y) (hy : y < 2147483648) (kk : V k b (pc + 1) ls (.int (nI (x % y)) :: st) h) : V k b pc ls (.int (nI y) :: .int (nI x) :: st) h := V.irem hd (nI_ne0 hy0 hy) (by rw [pk_rem hx hy0 hy]; exact kk)
theorem V.ishrN {x y : Nat} (hd : decode k.2.1.2.1 pc = .ok (.ishr, 1)) (hx : x < 2147483648) (hy : y < 32) (kk : V k b (pc + 1) ls (.int (nI (x / 2 ^ y)) :: st) h) : V k b pc ls (.int (nI y) :: .int (nI x) :: st) h := V.ishr hd (by rw [nI_shr hx hy]; exact kk)
theorem V.ishlN {x y : Nat} (hd : decode k.2.1.2.1 pc = .ok (.ishl, 1)) (hx : x * 2 ^ y < 4294967296) (hy : y < 32) (kk : V k b (pc + 1) ls (.int (nI (x * 2 ^ y)) :: st) h) : V k b pc ls (.int (nI y) :: .int (nI x) :: st) h := V.ishl hd (by rw [nI_shl hx hy]; exact kk)
theorem V.iand1N {x : Nat} (hd : decode k.2.1.2.1 pc = .ok (.iand, 1)) (hx : x < 4294967296) (kk : V k b (pc + 1) ls (.int (nI (x % 2)) :: st) h) : V k b pc ls (.int (nI 1) :: .int (nI x) :: st) h := V.iand hd (by rw [nI_and1 hx]; exact kk)
theorem V.iorN {x y : Nat} (hd : decode k.2.1.2.1 pc = .ok (.ior, 1)) (kk : V k b (pc + 1) ls (.int (nI (x ||| y)) :: st) h) : V k b pc ls (.int (nI y) :: .int (nI x) :: st) h := V.ior hd (by rw [nI_or]; exact kk)
theorem V.iincN {i : Nat} {n : Nat} {x : Nat} (hd : decode k.2.1.2.1 pc = .ok (.iinc i (n : Int), 3)) (hl : ls[i]? = some (some (.int (nI x)))) (hn : Nat.blt i k.2.1.2.2.1 = true) (hk : vlk ls i = true) (kk : V k b (pc + 3) (ls.set i (some (.int (nI (x + n))))) st h) : V k b pc ls st h := V.iinc hd hl (by rw [show Int32.ofInt (n : Int) = nI n from iI_nat n, nI_add]) hn hk kk
theorem V.iaddZ {x y : Int} (hd : decode k.2.1.2.1 pc = .ok (.iadd, 1)) (kk : V k b (pc + 1) ls (.int (iI (x + y)) :: st) h) : V k b pc ls (.int (iI y) :: .int (iI x) :: st) h := V.iadd hd (by rw [iI_add]; exact kk)
theorem V.isubZ {x y : Int} (hd : decode k.2.1.2.1 pc = .ok (.isub, 1)) (kk : V k b (pc + 1) ls (.int (iI (x - y)) :: st) h) : V k b pc ls (.int (iI y) :: .int (iI x) :: st) h := V.isub hd (by rw [iI_sub]; exact kk)
theorem V.imulZ {x y : Int} (hd : decode k.2.1.2.1 pc = .ok (.imul, 1)) (kk : V k b (pc + 1) ls (.int (iI (x * y)) :: st) h) : V k b pc ls (.int (iI y) :: .int (iI x) :: st) h := V.imul hd (by rw [iI_mul]; exact kk)
theorem V.inegZ {x : Int} (hd : decode k.2.1.2.1 pc = .ok (.ineg, 1)) (kk : V k b (pc + 1) ls (.int (iI (-x)) :: st) h) : V k b pc ls (.int (iI x) :: st) h := V.ineg hd (by rw [iI_neg]; exact kk)
theorem V.icmp_eqN {x y : Nat} {off : Int} (tgt : Nat) (hd : decode k.2.1.2.1 pc = .ok (.if_icmp .eq off, 3)) (ht : (pc : Int) + off = (tgt : Int)) (hx : x < 2147483648) (hy : y < 2147483648) (kt : x = y → V k b tgt ls st h) (kf : x ≠ y → V k b (pc + 3) ls st h) : V k b pc ls (.int (nI y) :: .int (nI x) :: st) h :=
  V.icmp_eq tgt hd ht (fun hc => kt ((nI_eq hx hy).mp hc)) (fun hc => kf (fun q => hc ((nI_eq hx hy).mpr q)))
theorem V.if_eqN {x : Nat} {off : Int} (tgt : Nat) (hd : decode k.2.1.2.1 pc = .ok (.ifCond .eq off, 3)) (ht : (pc : Int) + off = (tgt : Int)) (hx : x < 2147483648) (kt : x = 0 → V k b tgt ls st h) (kf : x ≠ 0 → V k b (pc + 3) ls st h) : V k b pc ls (.int (nI x) :: st) h := by
  have e := nI_eq hx (b := 0) (by omega)
  rw [nI_0] at e
  exact V.if_eq tgt hd ht (fun hc => kt (e.mp hc)) (fun hc => kf (fun q => hc (e.mpr q)))
theorem V.icmp_neN {x y : Nat} {off : Int} (tgt : Nat) (hd : decode k.2.1.2.1 pc = .ok (.if_icmp .ne off, 3)) (ht : (pc : Int) + off = (tgt : Int)) (hx : x < 2147483648) (hy : y < 2147483648) (kt : x ≠ y → V k b tgt ls st h) (kf : x = y → V k b (pc + 3) ls st h) : V k b pc ls (.int (nI y) :: .int (nI x) :: st) h :=
  V.icmp_ne tgt hd ht (fun hc => kt (fun q => hc ((nI_eq hx hy).mpr q))) (fun hc => kf ((nI_eq hx hy).mp hc))
theorem V.if_neN {x : Nat} {off : Int} (tgt : Nat) (hd : decode k.2.1.2.1 pc = .ok (.ifCond .ne off, 3)) (ht : (pc : Int) + off = (tgt : Int)) (hx : x < 2147483648) (kt : x ≠ 0 → V k b tgt ls st h) (kf : x = 0 → V k b (pc + 3) ls st h) : V k b pc ls (.int (nI x) :: st) h := by
  have e := nI_eq hx (b := 0) (by omega)
  rw [nI_0] at e
  exact V.if_ne tgt hd ht (fun hc => kt (fun q => hc (e.mpr q))) (fun hc => kf (e.mp hc))
theorem V.icmp_ltN {x y : Nat} {off : Int} (tgt : Nat) (hd : decode k.2.1.2.1 pc = .ok (.if_icmp .lt off, 3)) (ht : (pc : Int) + off = (tgt : Int)) (hx : x < 2147483648) (hy : y < 2147483648) (kt : x < y → V k b tgt ls st h) (kf : y ≤ x → V k b (pc + 3) ls st h) : V k b pc ls (.int (nI y) :: .int (nI x) :: st) h :=
  V.icmp_lt tgt hd ht (fun hc => kt ((nI_ltI hx hy).mp hc)) (fun hc => kf (by have q := (not_congr (nI_ltI hx hy)).mp hc; omega))
theorem V.if_ltN {x : Nat} {off : Int} (tgt : Nat) (hd : decode k.2.1.2.1 pc = .ok (.ifCond .lt off, 3)) (ht : (pc : Int) + off = (tgt : Int)) (hx : x < 2147483648) (kt : x < 0 → V k b tgt ls st h) (kf : 0 ≤ x → V k b (pc + 3) ls st h) : V k b pc ls (.int (nI x) :: st) h := by
  have e := nI_ltI hx (b := 0) (by omega)
  rw [nI_0] at e
  exact V.if_lt tgt hd ht (fun hc => kt (e.mp hc)) (fun hc => kf (by have q := (not_congr e).mp hc; omega))
theorem V.icmp_geN {x y : Nat} {off : Int} (tgt : Nat) (hd : decode k.2.1.2.1 pc = .ok (.if_icmp .ge off, 3)) (ht : (pc : Int) + off = (tgt : Int)) (hx : x < 2147483648) (hy : y < 2147483648) (kt : y ≤ x → V k b tgt ls st h) (kf : x < y → V k b (pc + 3) ls st h) : V k b pc ls (.int (nI y) :: .int (nI x) :: st) h :=
  V.icmp_ge tgt hd ht (fun hc => kt ((nI_leI hy hx).mp hc)) (fun hc => kf (by have q := (not_congr (nI_leI hy hx)).mp hc; omega))
theorem V.if_geN {x : Nat} {off : Int} (tgt : Nat) (hd : decode k.2.1.2.1 pc = .ok (.ifCond .ge off, 3)) (ht : (pc : Int) + off = (tgt : Int)) (hx : x < 2147483648) (kt : 0 ≤ x → V k b tgt ls st h) (kf : x < 0 → V k b (pc + 3) ls st h) : V k b pc ls (.int (nI x) :: st) h := by
  have e := nI_leI (a := 0) (by omega) hx
  rw [nI_0] at e
  exact V.if_ge tgt hd ht (fun hc => kt (e.mp hc)) (fun hc => kf (by have q := (not_congr e).mp hc; omega))
theorem V.icmp_gtN {x y : Nat} {off : Int} (tgt : Nat) (hd : decode k.2.1.2.1 pc = .ok (.if_icmp .gt off, 3)) (ht : (pc : Int) + off = (tgt : Int)) (hx : x < 2147483648) (hy : y < 2147483648) (kt : y < x → V k b tgt ls st h) (kf : x ≤ y → V k b (pc + 3) ls st h) : V k b pc ls (.int (nI y) :: .int (nI x) :: st) h :=
  V.icmp_gt tgt hd ht (fun hc => kt ((nI_ltI hy hx).mp hc)) (fun hc => kf (by have q := (not_congr (nI_ltI hy hx)).mp hc; omega))
theorem V.if_gtN {x : Nat} {off : Int} (tgt : Nat) (hd : decode k.2.1.2.1 pc = .ok (.ifCond .gt off, 3)) (ht : (pc : Int) + off = (tgt : Int)) (hx : x < 2147483648) (kt : 0 < x → V k b tgt ls st h) (kf : x ≤ 0 → V k b (pc + 3) ls st h) : V k b pc ls (.int (nI x) :: st) h := by
  have e := nI_ltI (a := 0) (by omega) hx
  rw [nI_0] at e
  exact V.if_gt tgt hd ht (fun hc => kt (e.mp hc)) (fun hc => kf (by have q := (not_congr e).mp hc; omega))
theorem V.icmp_leN {x y : Nat} {off : Int} (tgt : Nat) (hd : decode k.2.1.2.1 pc = .ok (.if_icmp .le off, 3)) (ht : (pc : Int) + off = (tgt : Int)) (hx : x < 2147483648) (hy : y < 2147483648) (kt : x ≤ y → V k b tgt ls st h) (kf : y < x → V k b (pc + 3) ls st h) : V k b pc ls (.int (nI y) :: .int (nI x) :: st) h :=
  V.icmp_le tgt hd ht (fun hc => kt ((nI_leI hx hy).mp hc)) (fun hc => kf (by have q := (not_congr (nI_leI hx hy)).mp hc; omega))
theorem V.if_leN {x : Nat} {off : Int} (tgt : Nat) (hd : decode k.2.1.2.1 pc = .ok (.ifCond .le off, 3)) (ht : (pc : Int) + off = (tgt : Int)) (hx : x < 2147483648) (kt : x ≤ 0 → V k b tgt ls st h) (kf : 0 < x → V k b (pc + 3) ls st h) : V k b pc ls (.int (nI x) :: st) h := by
  have e := nI_leI hx (b := 0) (by omega)
  rw [nI_0] at e
  exact V.if_le tgt hd ht (fun hc => kt (e.mp hc)) (fun hc => kf (by have q := (not_congr e).mp hc; omega))
theorem V.icmp_eqZ {x y : Int} {off : Int} (tgt : Nat) (hd : decode k.2.1.2.1 pc = .ok (.if_icmp .eq off, 3)) (ht : (pc : Int) + off = (tgt : Int)) (hx : -2147483648 ≤ x ∧ x < 2147483648) (hy : -2147483648 ≤ y ∧ y < 2147483648) (kt : x = y → V k b tgt ls st h) (kf : x ≠ y → V k b (pc + 3) ls st h) : V k b pc ls (.int (iI y) :: .int (iI x) :: st) h :=
  V.icmp_eq tgt hd ht (fun hc => kt ((iI_eq hx.1 hx.2 hy.1 hy.2).mp hc)) (fun hc => kf (fun q => hc ((iI_eq hx.1 hx.2 hy.1 hy.2).mpr q)))
theorem V.if_eqZ {x : Int} {off : Int} (tgt : Nat) (hd : decode k.2.1.2.1 pc = .ok (.ifCond .eq off, 3)) (ht : (pc : Int) + off = (tgt : Int)) (hx : -2147483648 ≤ x ∧ x < 2147483648) (kt : x = 0 → V k b tgt ls st h) (kf : x ≠ 0 → V k b (pc + 3) ls st h) : V k b pc ls (.int (iI x) :: st) h := by
  have e := iI_eq hx.1 hx.2 (b := 0) (by omega) (by omega)
  rw [iI_0] at e
  exact V.if_eq tgt hd ht (fun hc => kt (e.mp hc)) (fun hc => kf (fun q => hc (e.mpr q)))
theorem V.icmp_neZ {x y : Int} {off : Int} (tgt : Nat) (hd : decode k.2.1.2.1 pc = .ok (.if_icmp .ne off, 3)) (ht : (pc : Int) + off = (tgt : Int)) (hx : -2147483648 ≤ x ∧ x < 2147483648) (hy : -2147483648 ≤ y ∧ y < 2147483648) (kt : x ≠ y → V k b tgt ls st h) (kf : x = y → V k b (pc + 3) ls st h) : V k b pc ls (.int (iI y) :: .int (iI x) :: st) h :=
  V.icmp_ne tgt hd ht (fun hc => kt (fun q => hc ((iI_eq hx.1 hx.2 hy.1 hy.2).mpr q))) (fun hc => kf ((iI_eq hx.1 hx.2 hy.1 hy.2).mp hc))
theorem V.if_neZ {x : Int} {off : Int} (tgt : Nat) (hd : decode k.2.1.2.1 pc = .ok (.ifCond .ne off, 3)) (ht : (pc : Int) + off = (tgt : Int)) (hx : -2147483648 ≤ x ∧ x < 2147483648) (kt : x ≠ 0 → V k b tgt ls st h) (kf : x = 0 → V k b (pc + 3) ls st h) : V k b pc ls (.int (iI x) :: st) h := by
  have e := iI_eq hx.1 hx.2 (b := 0) (by omega) (by omega)
  rw [iI_0] at e
  exact V.if_ne tgt hd ht (fun hc => kt (fun q => hc (e.mpr q))) (fun hc => kf (e.mp hc))
theorem V.icmp_ltZ {x y : Int} {off : Int} (tgt : Nat) (hd : decode k.2.1.2.1 pc = .ok (.if_icmp .lt off, 3)) (ht : (pc : Int) + off = (tgt : Int)) (hx : -2147483648 ≤ x ∧ x < 2147483648) (hy : -2147483648 ≤ y ∧ y < 2147483648) (kt : x < y → V k b tgt ls st h) (kf : y ≤ x → V k b (pc + 3) ls st h) : V k b pc ls (.int (iI y) :: .int (iI x) :: st) h :=
  V.icmp_lt tgt hd ht (fun hc => kt ((iI_lt hx.1 hx.2 hy.1 hy.2).mp hc)) (fun hc => kf (by have q := (not_congr (iI_lt hx.1 hx.2 hy.1 hy.2)).mp hc; omega))
theorem V.if_ltZ {x : Int} {off : Int} (tgt : Nat) (hd : decode k.2.1.2.1 pc = .ok (.ifCond .lt off, 3)) (ht : (pc : Int) + off = (tgt : Int)) (hx : -2147483648 ≤ x ∧ x < 2147483648) (kt : x < 0 → V k b tgt ls st h) (kf : 0 ≤ x → V k b (pc + 3) ls st h) : V k b pc ls (.int (iI x) :: st) h := by
  have e := iI_lt hx.1 hx.2 (b := 0) (by omega) (by omega)
  rw [iI_0] at e
  exact V.if_lt tgt hd ht (fun hc => kt (e.mp hc)) (fun hc => kf (by have q := (not_congr e).mp hc; omega))
theorem V.icmp_geZ {x y : Int} {off : Int} (tgt : Nat) (hd : decode k.2.1.2.1 pc = .ok (.if_icmp .ge off, 3)) (ht : (pc : Int) + off = (tgt : Int)) (hx : -2147483648 ≤ x ∧ x < 2147483648) (hy : -2147483648 ≤ y ∧ y < 2147483648) (kt : y ≤ x → V k b tgt ls st h) (kf : x < y → V k b (pc + 3) ls st h) : V k b pc ls (.int (iI y) :: .int (iI x) :: st) h :=
  V.icmp_ge tgt hd ht (fun hc => kt ((iI_le hy.1 hy.2 hx.1 hx.2).mp hc)) (fun hc => kf (by have q := (not_congr (iI_le hy.1 hy.2 hx.1 hx.2)).mp hc; omega))
theorem V.if_geZ {x : Int} {off : Int} (tgt : Nat) (hd : decode k.2.1.2.1 pc = .ok (.ifCond .ge off, 3)) (ht : (pc : Int) + off = (tgt : Int)) (hx : -2147483648 ≤ x ∧ x < 2147483648) (kt : 0 ≤ x → V k b tgt ls st h) (kf : x < 0 → V k b (pc + 3) ls st h) : V k b pc ls (.int (iI x) :: st) h := by
  have e := iI_le (a := 0) (by omega) (by omega) hx.1 hx.2
  rw [iI_0] at e
  exact V.if_ge tgt hd ht (fun hc => kt (e.mp hc)) (fun hc => kf (by have q := (not_congr e).mp hc; omega))
theorem V.icmp_gtZ {x y : Int} {off : Int} (tgt : Nat) (hd : decode k.2.1.2.1 pc = .ok (.if_icmp .gt off, 3)) (ht : (pc : Int) + off = (tgt : Int)) (hx : -2147483648 ≤ x ∧ x < 2147483648) (hy : -2147483648 ≤ y ∧ y < 2147483648) (kt : y < x → V k b tgt ls st h) (kf : x ≤ y → V k b (pc + 3) ls st h) : V k b pc ls (.int (iI y) :: .int (iI x) :: st) h :=
  V.icmp_gt tgt hd ht (fun hc => kt ((iI_lt hy.1 hy.2 hx.1 hx.2).mp hc)) (fun hc => kf (by have q := (not_congr (iI_lt hy.1 hy.2 hx.1 hx.2)).mp hc; omega))
theorem V.if_gtZ {x : Int} {off : Int} (tgt : Nat) (hd : decode k.2.1.2.1 pc = .ok (.ifCond .gt off, 3)) (ht : (pc : Int) + off = (tgt : Int)) (hx : -2147483648 ≤ x ∧ x < 2147483648) (kt : 0 < x → V k b tgt ls st h) (kf : x ≤ 0 → V k b (pc + 3) ls st h) : V k b pc ls (.int (iI x) :: st) h := by
  have e := iI_lt (a := 0) (by omega) (by omega) hx.1 hx.2
  rw [iI_0] at e
  exact V.if_gt tgt hd ht (fun hc => kt (e.mp hc)) (fun hc => kf (by have q := (not_congr e).mp hc; omega))
theorem V.icmp_leZ {x y : Int} {off : Int} (tgt : Nat) (hd : decode k.2.1.2.1 pc = .ok (.if_icmp .le off, 3)) (ht : (pc : Int) + off = (tgt : Int)) (hx : -2147483648 ≤ x ∧ x < 2147483648) (hy : -2147483648 ≤ y ∧ y < 2147483648) (kt : x ≤ y → V k b tgt ls st h) (kf : y < x → V k b (pc + 3) ls st h) : V k b pc ls (.int (iI y) :: .int (iI x) :: st) h :=
  V.icmp_le tgt hd ht (fun hc => kt ((iI_le hx.1 hx.2 hy.1 hy.2).mp hc)) (fun hc => kf (by have q := (not_congr (iI_le hx.1 hx.2 hy.1 hy.2)).mp hc; omega))
theorem V.if_leZ {x : Int} {off : Int} (tgt : Nat) (hd : decode k.2.1.2.1 pc = .ok (.ifCond .le off, 3)) (ht : (pc : Int) + off = (tgt : Int)) (hx : -2147483648 ≤ x ∧ x < 2147483648) (kt : x ≤ 0 → V k b tgt ls st h) (kf : 0 < x → V k b (pc + 3) ls st h) : V k b pc ls (.int (iI x) :: st) h := by
  have e := iI_le hx.1 hx.2 (b := 0) (by omega) (by omega)
  rw [iI_0] at e
  exact V.if_le tgt hd ht (fun hc => kt (e.mp hc)) (fun hc => kf (by have q := (not_congr e).mp hc; omega))
theorem V.if_eqB {P : Prop} [Decidable P] {off : Int} (tgt : Nat) (hd : decode k.2.1.2.1 pc = .ok (.ifCond .eq off, 3)) (ht : (pc : Int) + off = (tgt : Int)) (kt : ¬ P → V k b tgt ls st h) (kf : P → V k b (pc + 3) ls st h) : V k b pc ls (.int (vB P) :: st) h :=
  V.if_eq tgt hd ht (fun hc => kt (fun q => by rw [vB_t q] at hc; revert hc; decide)) (fun hc => kf (Decidable.by_contra (fun q => hc (vB_f q))))
theorem V.if_neB {P : Prop} [Decidable P] {off : Int} (tgt : Nat) (hd : decode k.2.1.2.1 pc = .ok (.ifCond .ne off, 3)) (ht : (pc : Int) + off = (tgt : Int)) (kt : P → V k b tgt ls st h) (kf : ¬ P → V k b (pc + 3) ls st h) : V k b pc ls (.int (vB P) :: st) h :=
  V.if_ne tgt hd ht (fun hc => kt (Decidable.by_contra (fun q => hc (vB_f q)))) (fun hc => kf (fun q => by rw [vB_t q] at hc; revert hc; decide))
theorem V.callVp {idx n ci d a : Nat} {M : VM} {As rest fs : List Value} {x : Int32} (hc : vcV k.2.1.1.cls idx M n) (hE : VE k.1 M d false (0, 0) (.ref a :: As) h (VP x h)) (hd : decode k.2.1.2.1 pc = .ok (.invokevirtual idx, 3)) (hdp : d + 1 ≤ k.2.2.1) (hcl : (vwCl[ci]?).map (fun q => q.1) = some M.1.cls) (ha : h[a]? = some (.inr (.inr (ci, fs)))) (hst : st = As.reverse ++ .ref a :: rest) (hn : As.length = n) (hsz : (rest.map fun v => v.category).sum ≤ 8)
    (kk : V k b (pc + 3) ls (.int x :: rest) h) : V k b pc ls st h :=
  V.callV hc hE hd hdp hcl ha hst hn hsz (fun v h' hp => by obtain ⟨rfl, rfl⟩ := hp; exact kk)
theorem V.callSp {idx n d : Nat} {M : VM} {As rest : List Value} {x : Int32} (hc : vcS k.2.1.1.cls idx M n) (hE : VE k.1 M d false (0, 0) As h (VP x h)) (hd : decode k.2.1.2.1 pc = .ok (.invokestatic idx, 3)) (hdp : d + 1 ≤ k.2.2.1) (hst : st = As.reverse ++ rest) (hn : As.length = n) (hsz : (rest.map fun v => v.category).sum ≤ 8)
    (kk : V k b (pc + 3) ls (.int x :: rest) h) : V k b pc ls st h :=
  V.callS hc hE hd hdp hst hn hsz (fun v h' hp => by obtain ⟨rfl, rfl⟩ := hp; exact kk)
end VNat
/-- a loop that counts up to n -/
theorem vloop {P : Nat → Prop} (n : Nat) (h : ∀ i, (∀ j, i < j → j ≤ n → P j) → i ≤ n → P i) : ∀ i, i ≤ n → P i := by
  have key : ∀ m i, n - i ≤ m → i ≤ n → P i := by
    intro m
    induction m with
    | zero => intro i h1 h2; exact h i (fun j a b => absurd a (by omega)) h2
    | succ m ih => intro i h1 h2; exact h i (fun j a b => ih j (by omega) b) h2
  intro i hi
  exact key (n - i) i (Nat.le_refl _) hi
end
section
/-! WHAT A ROOM IS: wide, deep, how many, hours; kinds, vanes, X, Y, leanings -/
abbrev Rm : Type := Nat × Nat × Nat × Nat × (Nat → Nat) × (Nat → Nat) × (Nat → Nat) × (Nat → Nat) × (Nat → Nat → Int)
abbrev rW (S : Rm) : Nat := S.1
abbrev rH (S : Rm) : Nat := S.2.1
abbrev rN (S : Rm) : Nat := S.2.2.1
abbrev rT (S : Rm) : Nat := S.2.2.2.1
abbrev rK (S : Rm) : Nat → Nat := S.2.2.2.2.1
abbrev rV (S : Rm) : Nat → Nat := S.2.2.2.2.2.1
abbrev rX (S : Rm) : Nat → Nat := S.2.2.2.2.2.2.1
abbrev rY (S : Rm) : Nat → Nat := S.2.2.2.2.2.2.2.1
abbrev rL (S : Rm) : Nat → Nat → Int := S.2.2.2.2.2.2.2.2
/-- bounds -/
def RmB (S : Rm) : Prop := rN S ≤ 6 ∧ (1 ≤ rW S ∧ rW S ≤ 9) ∧ (1 ≤ rH S ∧ rH S ≤ 9) ∧ (∀ i, i < rN S → rK S i < 4 ∧ rV S i < 8 ∧ rX S i < rW S ∧ rY S i < rH S) ∧ ∀ i j, -20 ≤ rL S i j ∧ rL S i j ≤ 20
/-- no two at one place -/
def RmD (S : Rm) : Prop := ∀ i j, i < rN S → j < rN S → rX S i = rX S j → rY S i = rY S j → i = j
/-- leanings among those who are there alone -/
def RmZ (S : Rm) : Prop := ∀ i j, ¬ (i < rN S ∧ j < rN S) → rL S i j = 0
def RmOk (S : Rm) : Prop := RmB S ∧ RmD S ∧ RmZ S
def eO (o : Option Nat) : Int32 := match o with
  | none => iI (-4)
  | some i => nI i
/-- who is at a place: the first -/
def whoF (S : Rm) (x y : Nat) : Nat → Option Nat
  | 0 => none
  | k + 1 => match whoF S x y k with
    | some i => some i
    | none => if rX S k = x ∧ rY S k = y then some k else none
theorem whoF_lt {S : Rm} {x y : Nat} : ∀ {n i : Nat}, whoF S x y n = some i → i < n ∧ rX S i = x ∧ rY S i = y
  | 0, i, h => by cases h
  | n + 1, i, h => by
    unfold whoF at h
    split at h
    next j hj =>
      cases h
      have := whoF_lt hj
      exact ⟨by omega, this.2⟩
    next hj =>
      split at h
      next hc => cases h; exact ⟨by omega, hc⟩
      next => cases h
theorem whoF_none {S : Rm} {x y : Nat} : ∀ {n : Nat}, whoF S x y n = none → ∀ i, i < n → ¬ (rX S i = x ∧ rY S i = y)
  | 0, _, i, hi => by omega
  | n + 1, h, i, hi => by
    unfold whoF at h
    split at h
    next => cases h
    next hj =>
      split at h
      next => cases h
      next hc =>
        rcases Nat.lt_or_ge i n with q | q
        · exact whoF_none hj i q
        · have : i = n := by omega
          subst this; exact hc
theorem whoF_some {S : Rm} {x y i : Nat} (h0 : whoF S x y i = none) (hm : rX S i = x ∧ rY S i = y) : ∀ n, i < n → whoF S x y n = some i
  | 0, h => by omega
  | n + 1, h => by
    unfold whoF
    rcases Nat.lt_or_ge i n with q | q
    · rw [whoF_some h0 hm n q]
    · have : i = n := by omega
      subst this
      rw [h0]; simp [hm]
theorem whoF_eq {S : Rm} {x y i n : Nat} (hd : ∀ a b, a < n → b < n → rX S a = rX S b → rY S a = rY S b → a = b) (hi : i < n) (hm : rX S i = x ∧ rY S i = y) : whoF S x y n = some i := by
  cases hw : whoF S x y n with
  | none => exact absurd hm (whoF_none hw i hi)
  | some j =>
    have := whoF_lt hw
    rw [hd j i this.1 hi (by omega) (by omega)]
/-- how strongly p feels q -/
def pullF (S : Rm) (p q : Nat) : Int := rL S p q * ((12 - (((rX S q : Int) - rX S p).natAbs + ((rY S q : Int) - rY S p).natAbs) : Nat) : Int)
def feltE (S : Rm) (p m : Nat) : Nat → Int
  | 0 => 0
  | q + 1 => feltE S p m q + if q ≠ p ∧ m / 2 ^ q % 2 = 1 then pullF S p q * ((rX S q : Int) - rX S p) else 0
def feltS (S : Rm) (p m : Nat) : Nat → Int
  | 0 => 0
  | q + 1 => feltS S p m q + if q ≠ p ∧ m / 2 ^ q % 2 = 1 then pullF S p q * ((rY S q : Int) - rY S p) else 0
def wayF (e s : Int) : Option Nat :=
  if e = 0 ∧ s = 0 then none
  else if 2 * s.natAbs < e.natAbs then some (if 0 < e then 2 else 6)
  else if 2 * e.natAbs < s.natAbs then some (if 0 < s then 4 else 0)
  else if 0 < e then some (if 0 < s then 3 else 1) else some (if 0 < s then 5 else 7)
theorem wayF_lt {e s : Int} {w : Nat} (h : wayF e s = some w) : w < 8 := by
  unfold wayF at h
  repeat' split at h
  all_goals first | (cases h; done) | (cases h; omega)
def draftM (S : Rm) (p m : Nat) : Option Nat := wayF (feltE S p m (rN S)) (feltS S p m (rN S))
def draftF (S : Rm) (p : Nat) : Option Nat := draftM S p 63
theorem draftF_lt {S : Rm} {p w : Nat} (h : draftF S p = some w) : w < 8 := wayF_lt h
theorem mul_bd {a b A C : Int} (h1 : -A ≤ a) (h2 : a ≤ A) (h3 : -C ≤ b) (h4 : b ≤ C) : -(A * C) ≤ a * b ∧ a * b ≤ A * C := by
  have e1 : a.natAbs ≤ A.natAbs := by omega
  have e2 : b.natAbs ≤ C.natAbs := by omega
  have e3 : (a * b).natAbs ≤ (A * C).natAbs := by rw [Int.natAbs_mul, Int.natAbs_mul]; exact Nat.mul_le_mul e1 e2
  have hA : 0 ≤ A := by omega
  have hC : 0 ≤ C := by omega
  have hp := Int.mul_nonneg hA hC
  omega
theorem pull_bd {S : Rm} (hB : RmB S) (p q : Nat) : -240 ≤ pullF S p q ∧ pullF S p q ≤ 240 := by
  have h := hB.2.2.2.2 p q
  unfold pullF
  have := mul_bd (A := 20) (C := 12) h.1 h.2 (b := (((12 - (((rX S q : Int) - rX S p).natAbs + ((rY S q : Int) - rY S p).natAbs) : Nat)) : Int)) (by omega) (by omega)
  omega
theorem felt_bd {S : Rm} (hB : RmB S) {p m : Nat} (hp : p < rN S) : ∀ n, n ≤ rN S → (-(1920 * (n : Int)) ≤ feltE S p m n ∧ feltE S p m n ≤ 1920 * n) ∧ (-(1920 * (n : Int)) ≤ feltS S p m n ∧ feltS S p m n ≤ 1920 * n)
  | 0, _ => by simp [feltE, feltS]
  | n + 1, hn => by
    have ih := felt_bd hB (p := p) (m := m) hp n (by omega)
    have hq := pull_bd hB p n
    have b1 := hB.2.2.2.1 n (by omega)
    have b2 := hB.2.2.2.1 p hp
    have bw := hB.2.1
    have bh := hB.2.2.1
    have e1 := mul_bd (A := 240) (C := 8) hq.1 hq.2 (b := (rX S n : Int) - rX S p) (by omega) (by omega)
    have e2 := mul_bd (A := 240) (C := 8) hq.1 hq.2 (b := (rY S n : Int) - rY S p) (by omega) (by omega)
    simp only [feltE, feltS]
    push_cast
    constructor
    · split <;> omega
    · split <;> omega
theorem iI_toN {z : Int} {n : Nat} (h : z = (n : Int)) : iI z = nI n := by rw [h, iI_nat]
def turnF (told w : Nat) : Nat := if (w + 8 - told) % 8 = 0 then told else if (w + 8 - told) % 8 ≤ 4 then (told + 1) % 8 else (told + 7) % 8
/-- what a vane tells behind the next hour -/
def nextF (kd told : Nat) (d : Option Nat) : Nat := if kd = 2 then (told + 1) % 8 else match d with
  | none => told
  | some w => if kd = 0 then w else if kd = 1 then turnF told w else (w + 4) % 8
theorem nextF_lt {kd told : Nat} {d : Option Nat} (ht : told < 8) (hd : ∀ w, d = some w → w < 8) : nextF kd told d < 8 := by
  unfold nextF turnF
  split
  · omega
  · split
    · exact ht
    · next w => have := hd w rfl; repeat' split
                all_goals omega
def itF (kd : Nat) (d : Option Nat) (told : Nat) : Nat → Nat
  | 0 => told
  | n + 1 => nextF kd (itF kd d told n) d
theorem itF_lt {kd told : Nat} {d : Option Nat} (ht : told < 8) (hd : ∀ w, d = some w → w < 8) : ∀ n, itF kd d told n < 8
  | 0 => ht
  | n + 1 => nextF_lt (itF_lt ht hd n) hd
/-- one hour -/
def vaneF (S : Rm) (p : Nat) : Nat := nextF (rK S p) (rV S p) (draftF S p)
def cntP (P : Nat → Prop) [DecidablePred P] : Nat → Nat
  | 0 => 0
  | n + 1 => cntP P n + if P n then 1 else 0
theorem cntP_pos {P : Nat → Prop} [DecidablePred P] {n : Nat} (h : P n) : cntP P (n + 1) = cntP P n + 1 := by simp only [cntP]; rw [if_pos h]
theorem cntP_neg {P : Nat → Prop} [DecidablePred P] {n : Nat} (h : ¬ P n) : cntP P (n + 1) = cntP P n := by simp only [cntP]; rw [if_neg h]; rfl
theorem cntP_le {P : Nat → Prop} [DecidablePred P] : ∀ n, cntP P n ≤ n
  | 0 => Nat.le_refl _
  | n + 1 => by have := cntP_le (P := P) n; simp only [cntP]; split <;> omega
def rSetV (S : Rm) (V : Nat → Nat) (t : Nat) : Rm := (rW S, rH S, rN S, t, rK S, V, rX S, rY S, rL S)
def hourF (S : Rm) : Rm := rSetV S (vaneF S) (rT S + 1)
def turnsF (S : Rm) : Nat := cntP (fun p => vaneF S p ≠ rV S p) (rN S)
def up1 (f : Nat → Nat) (i x : Nat) : Nat → Nat := fun j => if j = i then x else f j
def rPut (S : Rm) (p x y : Nat) : Rm := (rW S, rH S, rN S, rT S, rK S, rV S, up1 (rX S) p x, up1 (rY S) p y, rL S)
def rLean (S : Rm) (a b : Nat) (l : Int) : Rm := (rW S, rH S, rN S, rT S, rK S, rV S, rX S, rY S, fun i j => if i = a ∧ j = b then l else rL S i j)
/-- a room's cells: the room at r, its rows behind it -/
def RoomAt (h : VHp) (r : Nat) (S : Rm) : Prop := ∃ kd xs ys vs ll : List Int32,
  h[r]? = some (.inr (.inr (3, [.ref (r + 1), .ref (r + 2), .ref (r + 3), .ref (r + 4), .ref (r + 5), .int (nI (rW S)), .int (nI (rH S)), .int (nI (rN S)), .int (nI (rT S))]))) ∧
  h[r + 1]? = some (.inl kd) ∧ h[r + 2]? = some (.inl xs) ∧ h[r + 3]? = some (.inl ys) ∧ h[r + 4]? = some (.inl vs) ∧ h[r + 5]? = some (.inl ll) ∧
  kd.length = 6 ∧ xs.length = 6 ∧ ys.length = 6 ∧ vs.length = 6 ∧ ll.length = 36 ∧
  (∀ i, i < rN S → kd[i]? = some (nI (rK S i))) ∧ (∀ i, i < rN S → xs[i]? = some (nI (rX S i))) ∧ (∀ i, i < rN S → ys[i]? = some (nI (rY S i))) ∧ (∀ i, i < rN S → vs[i]? = some (nI (rV S i))) ∧
  (∀ i j, i < 6 → j < 6 → ll[6 * i + j]? = some (iI (rL S i j)))
/-- the heap is as before but for the cells from lo on and below hi -/
def VFr (lo hi : Nat) (h h' : VHp) : Prop := h'.length = h.length ∧ ∀ q, q < lo ∨ hi ≤ q → h'[q]? = h[q]?
theorem VFr.rf {lo hi : Nat} {h : VHp} : VFr lo hi h h := ⟨rfl, fun _ _ => rfl⟩
theorem VFr.tr {lo hi : Nat} {a b c : VHp} (h1 : VFr lo hi a b) (h2 : VFr lo hi b c) : VFr lo hi a c := ⟨h2.1.trans h1.1, fun q hq => (h2.2 q hq).trans (h1.2 q hq)⟩
theorem VFr.wide {lo hi lo' hi' : Nat} {a b : VHp} (h : VFr lo hi a b) (h1 : lo' ≤ lo) (h2 : hi ≤ hi') : VFr lo' hi' a b := ⟨h.1, fun q hq => h.2 q (by omega)⟩
theorem VFr.set {lo hi a : Nat} {h : VHp} {c : VC} (h1 : lo ≤ a) (h2 : a < hi) : VFr lo hi h (h.set a c) := ⟨List.length_set .., fun q hq => List.getElem?_set_ne (by omega)⟩
theorem RoomAt.keep {h h' : VHp} {r lo hi : Nat} {S : Rm} (w : RoomAt h r S) (f : VFr lo hi h h') (hd : r + 6 ≤ lo ∨ hi ≤ r) : RoomAt h' r S := by
  obtain ⟨kd, xs, ys, vs, ll, h0, h1, h2, h3, h4, h5, rest⟩ := w
  exact ⟨kd, xs, ys, vs, ll, by rw [f.2 _ (by omega)]; exact h0, by rw [f.2 _ (by omega)]; exact h1, by rw [f.2 _ (by omega)]; exact h2, by rw [f.2 _ (by omega)]; exact h3, by rw [f.2 _ (by omega)]; exact h4, by rw [f.2 _ (by omega)]; exact h5, rest⟩
theorem pull_eq {S : Rm} {p q : Nat} (h : ((((rX S q : Int) - rX S p).natAbs : Nat) : Int) + ((((rY S q : Int) - rY S p).natAbs : Nat) : Int) < 12) : pullF S p q = rL S p q * (((12 : Nat) : Int) - (((((rX S q : Int) - rX S p).natAbs : Nat) : Int) + ((((rY S q : Int) - rY S p).natAbs : Nat) : Int))) := by
  unfold pullF
  congr 1
  omega
theorem pull_zero {S : Rm} {p q : Nat} (h : 12 ≤ ((((rX S q : Int) - rX S p).natAbs : Nat) : Int) + ((((rY S q : Int) - rY S p).natAbs : Nat) : Int)) : pullF S p q = 0 := by
  unfold pullF
  rw [show (12 - (((rX S q : Int) - rX S p).natAbs + ((rY S q : Int) - rY S p).natAbs) : Nat) = 0 by omega]
  simp
def sumV (S : Rm) : Nat → Nat
  | 0 => 0
  | n + 1 => sumV S n + rV S n
theorem sumV_le {S : Rm} (hB : RmB S) : ∀ n, n ≤ rN S → sumV S n ≤ 8 * n
  | 0, _ => Nat.le_refl _
  | n + 1, h => by have := sumV_le hB n (by omega); have := hB.2.2.2.1 n (by omega); simp only [sumV]; omega
def drawF (z k : Nat) : Nat := (7919 * z + 6151 * k + 1) * (7919 * z + 6151 * k + 1) % 65521
theorem drawF_lt (z k : Nat) : drawF z k < 65521 := Nat.mod_lt _ (by omega)
theorem draw_eq {z k : Nat} (hz : z ≤ 9999) (hk : k ≤ 60) : ((7919 * (nI z).toInt64 + 6151 * (nI k).toInt64 + 1) * (7919 * (nI z).toInt64 + 6151 * (nI k).toInt64 + 1) - (7919 * (nI z).toInt64 + 6151 * (nI k).toInt64 + 1) * (7919 * (nI z).toInt64 + 6151 * (nI k).toInt64 + 1) / 65521 * 65521).toInt32 = nI (drawF z k) := by
  have hX : (7919 * (nI z).toInt64 + 6151 * (nI k).toInt64 + 1 : Int64) = lN (7919 * z + 6151 * k + 1) := by
    rw [nI_l (by omega), nI_l (by omega), show (7919 : Int64) = lN 7919 from rfl, show (6151 : Int64) = lN 6151 from rfl, lN_mul, lN_mul, lN_add, lN_1]
  rw [hX, lN_mul, show (65521 : Int64) = lN 65521 from rfl]
  have h1 : 7919 * z + 6151 * k + 1 ≤ 80000000 := by omega
  have h2 := Nat.mul_le_mul h1 h1
  rw [pk_lRem (by omega) (by omega) (by omega), lN_i]
  rfl
end
section
set_option maxHeartbeats 1000000 in
theorem e_isBelow (g : VG) (h : VHp) (a b : Int) (ha : -2147483648 ≤ a ∧ a < 2147483648) (hb : -2147483648 ≤ b ∧ b < 2147483648) : VE g mX7_isBelow 0 false (0, 0) [.int (iI a), .int (iI b)] h (VP (vB (0 ≤ a ∧ a < b)) h) := by
  refine VE.of (by decide) rfl (Nat.le_of_ble_eq_true rfl) ?_
  show V _ _ 0 [some (.int (iI a)), some (.int (iI b))] [] h
  refine V.iload_n dX7_isBelow_0 rfl ?_
  refine V.if_ltZ 13 dX7_isBelow_1 (by decide) (by omega) (fun hc1 => ?_) (fun hc1 => ?_)
  · skip
    refine V.iconst (v := nI 0) dX7_isBelow_13 (by decide) ?_
    exact V.zret dX7_isBelow_14 rfl (by first | exact vB_01 | decide) ⟨by first | (exfalso; omega) | (first | (rw [vB_t (by omega)]; rfl) | (rw [vB_f (by omega)]; rfl)), rfl⟩
  · skip
    refine V.iload_n dX7_isBelow_4 rfl ?_
    refine V.iload_n dX7_isBelow_5 rfl ?_
    refine V.icmp_geZ 13 dX7_isBelow_6 (by decide) (by omega) (by omega) (fun hc2 => ?_) (fun hc2 => ?_)
    · skip
      refine V.iconst (v := nI 0) dX7_isBelow_13 (by decide) ?_
      exact V.zret dX7_isBelow_14 rfl (by first | exact vB_01 | decide) ⟨by first | (exfalso; omega) | (first | (rw [vB_t (by omega)]; rfl) | (rw [vB_f (by omega)]; rfl)), rfl⟩
    · skip
      refine V.iconst (v := nI 1) dX7_isBelow_9 (by decide) ?_
      refine V.goto 14 dX7_isBelow_10 (by decide) ?_
      exact V.zret dX7_isBelow_14 rfl (by first | exact vB_01 | decide) ⟨by first | (exfalso; omega) | (first | (rw [vB_t (by omega)]; rfl) | (rw [vB_f (by omega)]; rfl)), rfl⟩

set_option maxHeartbeats 1000000 in
theorem e_placeNumber (g : VG) (h : VHp) (x y : Nat) : VE g mX7_placeNumber 0 false (0, 0) [.int (nI x), .int (nI y)] h (VP (nI (10 * x + y)) h) := by
  refine VE.of (by decide) rfl (Nat.le_of_ble_eq_true rfl) ?_
  show V _ _ 0 [some (.int (nI x)), some (.int (nI y))] [] h
  refine V.bipush (v := nI 10) dX7_placeNumber_0 (by decide) ?_
  refine V.iload_n dX7_placeNumber_2 rfl ?_
  refine V.imulN dX7_placeNumber_3 ?_
  refine V.iload_n dX7_placeNumber_4 rfl ?_
  refine V.iaddN dX7_placeNumber_5 ?_
  exact V.iret dX7_placeNumber_6 rfl ⟨by first | (exfalso; omega) | (rfl), rfl⟩

set_option maxHeartbeats 1000000 in
theorem e_wayBy (g : VG) (h : VHp) (e s : Int) (he : -500000000 < e ∧ e < 500000000) (hs : -500000000 < s ∧ s < 500000000) : VE g mX7_wayBy 1 false (0, 0) [.int (iI e), .int (iI s)] h (VP (eO (wayF e s)) h) := by
  refine VE.of (by decide) rfl (Nat.le_of_ble_eq_true rfl) ?_
  show V _ _ 0 [some (.int (iI e)), some (.int (iI s)), none, none] [] h
  refine V.iload_n dX7_wayBy_0 rfl ?_
  refine V.mabs jX7_260 dX7_wayBy_1 (Nat.le_of_ble_eq_true rfl) (Nat.le_of_ble_eq_true rfl) ?_
  refine V.re (iI_abs (by omega)) ?_
  refine V.istore_n (i := 2) dX7_wayBy_4 rfl rfl rfl ?_
  dsimp only [List.set]
  refine V.iload_n dX7_wayBy_5 rfl ?_
  refine V.mabs jX7_260 dX7_wayBy_6 (Nat.le_of_ble_eq_true rfl) (Nat.le_of_ble_eq_true rfl) ?_
  refine V.re (iI_abs (by omega)) ?_
  refine V.istore_n (i := 3) dX7_wayBy_9 rfl rfl rfl ?_
  dsimp only [List.set]
  refine V.iload_n dX7_wayBy_10 rfl ?_
  refine V.if_neZ 21 dX7_wayBy_11 (by decide) (by omega) (fun hc1 => ?_) (fun hc1 => ?_)
  · skip
    refine V.iload_n dX7_wayBy_21 rfl ?_
    refine V.iconst (v := nI 2) dX7_wayBy_22 (by decide) ?_
    refine V.iload_n dX7_wayBy_23 rfl ?_
    refine V.toZ2 ?_
    refine V.imulZ dX7_wayBy_24 ?_
    refine V.icmp_leZ 39 dX7_wayBy_25 (by decide) (by omega) (by omega) (fun hc2 => ?_) (fun hc2 => ?_)
    · skip
      refine V.iload_n dX7_wayBy_39 rfl ?_
      refine V.iconst (v := nI 2) dX7_wayBy_40 (by decide) ?_
      refine V.iload_n dX7_wayBy_41 rfl ?_
      refine V.toZ2 ?_
      refine V.imulZ dX7_wayBy_42 ?_
      refine V.icmp_leZ 56 dX7_wayBy_43 (by decide) (by omega) (by omega) (fun hc3 => ?_) (fun hc3 => ?_)
      · skip
        refine V.iload_n dX7_wayBy_56 rfl ?_
        refine V.if_leZ 70 dX7_wayBy_57 (by decide) (by omega) (fun hc4 => ?_) (fun hc4 => ?_)
        · skip
          refine V.iload_n dX7_wayBy_70 rfl ?_
          refine V.if_leZ 78 dX7_wayBy_71 (by decide) (by omega) (fun hc5 => ?_) (fun hc5 => ?_)
          · skip
            refine V.bipush (v := nI 7) dX7_wayBy_78 (by decide) ?_
            exact V.iret dX7_wayBy_80 rfl ⟨by first | (exfalso; omega) | ((try simp only [wayF]); (repeat rw [if_neg (by omega)]); (repeat first | rw [if_pos (by omega)] | rw [if_neg (by omega)]); rfl), rfl⟩
          · skip
            refine V.iconst (v := nI 5) dX7_wayBy_74 (by decide) ?_
            refine V.goto 80 dX7_wayBy_75 (by decide) ?_
            exact V.iret dX7_wayBy_80 rfl ⟨by first | (exfalso; omega) | ((try simp only [wayF]); (repeat rw [if_neg (by omega)]); (repeat first | rw [if_pos (by omega)] | rw [if_neg (by omega)]); rfl), rfl⟩
        · skip
          refine V.iload_n dX7_wayBy_60 rfl ?_
          refine V.if_leZ 68 dX7_wayBy_61 (by decide) (by omega) (fun hc6 => ?_) (fun hc6 => ?_)
          · skip
            refine V.iconst (v := nI 1) dX7_wayBy_68 (by decide) ?_
            exact V.iret dX7_wayBy_69 rfl ⟨by first | (exfalso; omega) | ((try simp only [wayF]); (repeat rw [if_neg (by omega)]); (repeat first | rw [if_pos (by omega)] | rw [if_neg (by omega)]); rfl), rfl⟩
          · skip
            refine V.iconst (v := nI 3) dX7_wayBy_64 (by decide) ?_
            refine V.goto 69 dX7_wayBy_65 (by decide) ?_
            exact V.iret dX7_wayBy_69 rfl ⟨by first | (exfalso; omega) | ((try simp only [wayF]); (repeat rw [if_neg (by omega)]); (repeat first | rw [if_pos (by omega)] | rw [if_neg (by omega)]); rfl), rfl⟩
      · skip
        refine V.iload_n dX7_wayBy_46 rfl ?_
        refine V.if_leZ 54 dX7_wayBy_47 (by decide) (by omega) (fun hc7 => ?_) (fun hc7 => ?_)
        · skip
          refine V.iconst (v := nI 0) dX7_wayBy_54 (by decide) ?_
          exact V.iret dX7_wayBy_55 rfl ⟨by first | (exfalso; omega) | ((try simp only [wayF]); (repeat rw [if_neg (by omega)]); (repeat first | rw [if_pos (by omega)] | rw [if_neg (by omega)]); rfl), rfl⟩
        · skip
          refine V.iconst (v := nI 4) dX7_wayBy_50 (by decide) ?_
          refine V.goto 55 dX7_wayBy_51 (by decide) ?_
          exact V.iret dX7_wayBy_55 rfl ⟨by first | (exfalso; omega) | ((try simp only [wayF]); (repeat rw [if_neg (by omega)]); (repeat first | rw [if_pos (by omega)] | rw [if_neg (by omega)]); rfl), rfl⟩
    · skip
      refine V.iload_n dX7_wayBy_28 rfl ?_
      refine V.if_leZ 36 dX7_wayBy_29 (by decide) (by omega) (fun hc8 => ?_) (fun hc8 => ?_)
      · skip
        refine V.bipush (v := nI 6) dX7_wayBy_36 (by decide) ?_
        exact V.iret dX7_wayBy_38 rfl ⟨by first | (exfalso; omega) | ((try simp only [wayF]); (repeat rw [if_neg (by omega)]); (repeat first | rw [if_pos (by omega)] | rw [if_neg (by omega)]); rfl), rfl⟩
      · skip
        refine V.iconst (v := nI 2) dX7_wayBy_32 (by decide) ?_
        refine V.goto 38 dX7_wayBy_33 (by decide) ?_
        exact V.iret dX7_wayBy_38 rfl ⟨by first | (exfalso; omega) | ((try simp only [wayF]); (repeat rw [if_neg (by omega)]); (repeat first | rw [if_pos (by omega)] | rw [if_neg (by omega)]); rfl), rfl⟩
  · skip
    refine V.iload_n dX7_wayBy_14 rfl ?_
    refine V.if_neZ 21 dX7_wayBy_15 (by decide) (by omega) (fun hc9 => ?_) (fun hc9 => ?_)
    · skip
      refine V.iload_n dX7_wayBy_21 rfl ?_
      refine V.iconst (v := nI 2) dX7_wayBy_22 (by decide) ?_
      refine V.iload_n dX7_wayBy_23 rfl ?_
      refine V.toZ2 ?_
      refine V.imulZ dX7_wayBy_24 ?_
      refine V.icmp_leZ 39 dX7_wayBy_25 (by decide) (by omega) (by omega) (fun hc10 => ?_) (fun hc10 => ?_)
      · skip
        refine V.iload_n dX7_wayBy_39 rfl ?_
        refine V.iconst (v := nI 2) dX7_wayBy_40 (by decide) ?_
        refine V.iload_n dX7_wayBy_41 rfl ?_
        refine V.toZ2 ?_
        refine V.imulZ dX7_wayBy_42 ?_
        refine V.icmp_leZ 56 dX7_wayBy_43 (by decide) (by omega) (by omega) (fun hc11 => ?_) (fun hc11 => ?_)
        · skip
          refine V.iload_n dX7_wayBy_56 rfl ?_
          refine V.if_leZ 70 dX7_wayBy_57 (by decide) (by omega) (fun hc12 => ?_) (fun hc12 => ?_)
          · skip
            refine V.iload_n dX7_wayBy_70 rfl ?_
            refine V.if_leZ 78 dX7_wayBy_71 (by decide) (by omega) (fun hc13 => ?_) (fun hc13 => ?_)
            · skip
              refine V.bipush (v := nI 7) dX7_wayBy_78 (by decide) ?_
              exact V.iret dX7_wayBy_80 rfl ⟨by first | (exfalso; omega) | ((try simp only [wayF]); (repeat rw [if_neg (by omega)]); (repeat first | rw [if_pos (by omega)] | rw [if_neg (by omega)]); rfl), rfl⟩
            · skip
              refine V.iconst (v := nI 5) dX7_wayBy_74 (by decide) ?_
              refine V.goto 80 dX7_wayBy_75 (by decide) ?_
              exact V.iret dX7_wayBy_80 rfl ⟨by first | (exfalso; omega) | ((try simp only [wayF]); (repeat rw [if_neg (by omega)]); (repeat first | rw [if_pos (by omega)] | rw [if_neg (by omega)]); rfl), rfl⟩
          · skip
            refine V.iload_n dX7_wayBy_60 rfl ?_
            refine V.if_leZ 68 dX7_wayBy_61 (by decide) (by omega) (fun hc14 => ?_) (fun hc14 => ?_)
            · skip
              refine V.iconst (v := nI 1) dX7_wayBy_68 (by decide) ?_
              exact V.iret dX7_wayBy_69 rfl ⟨by first | (exfalso; omega) | ((try simp only [wayF]); (repeat rw [if_neg (by omega)]); (repeat first | rw [if_pos (by omega)] | rw [if_neg (by omega)]); rfl), rfl⟩
            · skip
              refine V.iconst (v := nI 3) dX7_wayBy_64 (by decide) ?_
              refine V.goto 69 dX7_wayBy_65 (by decide) ?_
              exact V.iret dX7_wayBy_69 rfl ⟨by first | (exfalso; omega) | ((try simp only [wayF]); (repeat rw [if_neg (by omega)]); (repeat first | rw [if_pos (by omega)] | rw [if_neg (by omega)]); rfl), rfl⟩
        · skip
          refine V.iload_n dX7_wayBy_46 rfl ?_
          refine V.if_leZ 54 dX7_wayBy_47 (by decide) (by omega) (fun hc15 => ?_) (fun hc15 => ?_)
          · skip
            refine V.iconst (v := nI 0) dX7_wayBy_54 (by decide) ?_
            exact V.iret dX7_wayBy_55 rfl ⟨by first | (exfalso; omega) | ((try simp only [wayF]); (repeat rw [if_neg (by omega)]); (repeat first | rw [if_pos (by omega)] | rw [if_neg (by omega)]); rfl), rfl⟩
          · skip
            refine V.iconst (v := nI 4) dX7_wayBy_50 (by decide) ?_
            refine V.goto 55 dX7_wayBy_51 (by decide) ?_
            exact V.iret dX7_wayBy_55 rfl ⟨by first | (exfalso; omega) | ((try simp only [wayF]); (repeat rw [if_neg (by omega)]); (repeat first | rw [if_pos (by omega)] | rw [if_neg (by omega)]); rfl), rfl⟩
      · skip
        refine V.iload_n dX7_wayBy_28 rfl ?_
        refine V.if_leZ 36 dX7_wayBy_29 (by decide) (by omega) (fun hc16 => ?_) (fun hc16 => ?_)
        · skip
          refine V.bipush (v := nI 6) dX7_wayBy_36 (by decide) ?_
          exact V.iret dX7_wayBy_38 rfl ⟨by first | (exfalso; omega) | ((try simp only [wayF]); (repeat rw [if_neg (by omega)]); (repeat first | rw [if_pos (by omega)] | rw [if_neg (by omega)]); rfl), rfl⟩
        · skip
          refine V.iconst (v := nI 2) dX7_wayBy_32 (by decide) ?_
          refine V.goto 38 dX7_wayBy_33 (by decide) ?_
          exact V.iret dX7_wayBy_38 rfl ⟨by first | (exfalso; omega) | ((try simp only [wayF]); (repeat rw [if_neg (by omega)]); (repeat first | rw [if_pos (by omega)] | rw [if_neg (by omega)]); rfl), rfl⟩
    · skip
      refine V.bipush (v := iI (-4)) dX7_wayBy_18 (by decide) ?_
      exact V.iret dX7_wayBy_20 rfl ⟨by first | (exfalso; omega) | ((try simp only [wayF]); (repeat rw [if_neg (by omega)]); (repeat first | rw [if_pos (by omega)] | rw [if_neg (by omega)]); rfl), rfl⟩

set_option maxHeartbeats 1000000 in
theorem e_turned (g : VG) (h : VHp) (told w : Nat) (ht : told < 8) (hw : w < 8) : VE g mX7_turnedOneToward 0 false (0, 0) [.int (nI told), .int (nI w)] h (VP (nI (turnF told w)) h) := by
  refine VE.of (by decide) rfl (Nat.le_of_ble_eq_true rfl) ?_
  show V _ _ 0 [some (.int (nI told)), some (.int (nI w)), none] [] h
  refine V.iload_n dX7_turnedOneToward_0 rfl ?_
  refine V.iload_n dX7_turnedOneToward_1 rfl ?_
  refine V.toZ1 ?_
  refine V.toZ2 ?_
  refine V.isubZ dX7_turnedOneToward_2 ?_
  refine V.bipush (v := nI 8) dX7_turnedOneToward_3 (by decide) ?_
  refine V.toZ1 ?_
  refine V.iaddZ dX7_turnedOneToward_5 ?_
  refine V.re (iI_toN (n := w + 8 - told) (by omega)) ?_
  refine V.bipush (v := nI 8) dX7_turnedOneToward_6 (by decide) ?_
  refine V.iremN dX7_turnedOneToward_8 (by omega) (by omega) (by omega) ?_
  refine V.istore_n (i := 2) dX7_turnedOneToward_9 rfl rfl rfl ?_
  dsimp only [List.set]
  refine V.iload_n dX7_turnedOneToward_10 rfl ?_
  refine V.if_neN 16 dX7_turnedOneToward_11 (by decide) (by omega) (fun hc1 => ?_) (fun hc1 => ?_)
  · skip
    refine V.iload_n dX7_turnedOneToward_16 rfl ?_
    refine V.iconst (v := nI 4) dX7_turnedOneToward_17 (by decide) ?_
    refine V.icmp_gtN 30 dX7_turnedOneToward_18 (by decide) (by omega) (by omega) (fun hc2 => ?_) (fun hc2 => ?_)
    · skip
      refine V.iload_n dX7_turnedOneToward_30 rfl ?_
      refine V.bipush (v := nI 8) dX7_turnedOneToward_31 (by decide) ?_
      refine V.iaddN dX7_turnedOneToward_33 ?_
      refine V.iconst (v := nI 1) dX7_turnedOneToward_34 (by decide) ?_
      refine V.isubN dX7_turnedOneToward_35 (by omega) ?_
      refine V.bipush (v := nI 8) dX7_turnedOneToward_36 (by decide) ?_
      refine V.iremN dX7_turnedOneToward_38 (by omega) (by omega) (by omega) ?_
      refine V.re (show nI ((told + 8 - 1) % 8) = nI ((told + 7) % 8) from rfl) ?_
      exact V.iret dX7_turnedOneToward_39 rfl ⟨by first | (exfalso; omega) | (simp only [turnF]; (repeat first | rw [if_pos (by omega)] | rw [if_neg (by omega)]); try rfl), rfl⟩
    · skip
      refine V.iload_n dX7_turnedOneToward_21 rfl ?_
      refine V.iconst (v := nI 1) dX7_turnedOneToward_22 (by decide) ?_
      refine V.iaddN dX7_turnedOneToward_23 ?_
      refine V.bipush (v := nI 8) dX7_turnedOneToward_24 (by decide) ?_
      refine V.iremN dX7_turnedOneToward_26 (by omega) (by omega) (by omega) ?_
      refine V.goto 39 dX7_turnedOneToward_27 (by decide) ?_
      exact V.iret dX7_turnedOneToward_39 rfl ⟨by first | (exfalso; omega) | (simp only [turnF]; (repeat first | rw [if_pos (by omega)] | rw [if_neg (by omega)]); try rfl), rfl⟩
  · skip
    refine V.iload_n dX7_turnedOneToward_14 rfl ?_
    exact V.iret dX7_turnedOneToward_15 rfl ⟨by first | (exfalso; omega) | (simp only [turnF]; (repeat first | rw [if_pos (by omega)] | rw [if_neg (by omega)]); try rfl), rfl⟩

set_option maxHeartbeats 1000000 in
theorem e_toldNext (g : VG) (h : VHp) (kd told : Nat) (d : Option Nat) (hk : kd < 4) (ht : told < 8) (hd : ∀ w, d = some w → w < 8) : VE g mX7_toldNext 1 false (0, 0) [.int (nI kd), .int (nI told), .int (eO d)] h (VP (nI (nextF kd told d)) h) := by
  cases d with
  | none =>
    refine VE.of (by decide) rfl (Nat.le_of_ble_eq_true rfl) ?_
    show V _ _ 0 [some (.int (nI kd)), some (.int (nI told)), some (.int (iI (-4)))] [] h
    refine V.iload_n dX7_toldNext_0 rfl ?_
    refine V.iconst (v := nI 2) dX7_toldNext_1 (by decide) ?_
    refine V.icmp_neN 12 dX7_toldNext_2 (by decide) (by omega) (by omega) (fun hc1 => ?_) (fun hc1 => ?_)
    · skip
      refine V.iload_n dX7_toldNext_12 rfl ?_
      refine V.bipush (v := iI (-4)) dX7_toldNext_13 (by decide) ?_
      refine V.icmp_neZ 20 dX7_toldNext_15 (by decide) (by omega) (by omega) (fun hc2 => ?_) (fun hc2 => ?_)
      · exact absurd rfl hc2
      · skip
        refine V.iload_n dX7_toldNext_18 rfl ?_
        exact V.iret dX7_toldNext_19 rfl ⟨by first | (exfalso; omega) | (simp only [nextF]; (repeat first | rw [if_pos (by omega)] | rw [if_neg (by omega)]); try rfl), rfl⟩
    · skip
      refine V.iload_n dX7_toldNext_5 rfl ?_
      refine V.iconst (v := nI 1) dX7_toldNext_6 (by decide) ?_
      refine V.iaddN dX7_toldNext_7 ?_
      refine V.bipush (v := nI 8) dX7_toldNext_8 (by decide) ?_
      refine V.iremN dX7_toldNext_10 (by omega) (by omega) (by omega) ?_
      exact V.iret dX7_toldNext_11 rfl ⟨by first | (exfalso; omega) | (simp only [nextF]; (repeat first | rw [if_pos (by omega)] | rw [if_neg (by omega)]); try rfl), rfl⟩
  | some w =>
    have hw : w < 8 := hd w rfl
    refine VE.of (by decide) rfl (Nat.le_of_ble_eq_true rfl) ?_
    show V _ _ 0 [some (.int (nI kd)), some (.int (nI told)), some (.int (nI w))] [] h
    refine V.iload_n dX7_toldNext_0 rfl ?_
    refine V.iconst (v := nI 2) dX7_toldNext_1 (by decide) ?_
    refine V.icmp_neN 12 dX7_toldNext_2 (by decide) (by omega) (by omega) (fun hc1 => ?_) (fun hc1 => ?_)
    · skip
      refine V.iload_n dX7_toldNext_12 rfl ?_
      refine V.bipush (v := iI (-4)) dX7_toldNext_13 (by decide) ?_
      refine V.toZ2 ?_
      refine V.icmp_neZ 20 dX7_toldNext_15 (by decide) (by omega) (by omega) (fun hc2 => ?_) (fun hc2 => ?_)
      · skip
        refine V.iload_n dX7_toldNext_20 rfl ?_
        rcases (show kd = 0 ∨ kd = 1 ∨ kd = 2 ∨ kd = 3 by omega) with hq | hq | hq | hq
        · skip
          subst hq
          refine V.tabIn (off := 31) 52 dX7_toldNext_21 (by decide) (by decide) (by decide) (by decide) ?_
          refine V.iload_n dX7_toldNext_52 rfl ?_
          exact V.iret dX7_toldNext_53 rfl ⟨by first | (exfalso; omega) | (simp only [nextF]; (repeat first | rw [if_pos (by omega)] | rw [if_neg (by omega)]); try rfl), rfl⟩
        · skip
          subst hq
          refine V.tabIn (off := 33) 54 dX7_toldNext_21 (by decide) (by decide) (by decide) (by decide) ?_
          refine V.iload_n dX7_toldNext_54 rfl ?_
          refine V.iload_n dX7_toldNext_55 rfl ?_
          refine V.callSp cX7_265 (e_turned g h told w ht hw) dX7_toldNext_56 (Nat.le_of_ble_eq_true rfl) rfl rfl (Nat.le_of_ble_eq_true rfl) ?_
          exact V.iret dX7_toldNext_59 rfl ⟨by first | (exfalso; omega) | (simp only [nextF]; (repeat first | rw [if_pos (by omega)] | rw [if_neg (by omega)]); try rfl), rfl⟩
        · skip
          subst hq
          refine V.tabIn (off := 46) 67 dX7_toldNext_21 (by decide) (by decide) (by decide) (by decide) ?_
          refine V.iload_n dX7_toldNext_67 rfl ?_
          exact V.iret dX7_toldNext_68 rfl ⟨by first | (exfalso; omega) | (simp only [nextF]; (repeat first | rw [if_pos (by omega)] | rw [if_neg (by omega)]); try rfl), rfl⟩
        · skip
          subst hq
          refine V.tabIn (off := 39) 60 dX7_toldNext_21 (by decide) (by decide) (by decide) (by decide) ?_
          refine V.iload_n dX7_toldNext_60 rfl ?_
          refine V.iconst (v := nI 4) dX7_toldNext_61 (by decide) ?_
          refine V.iaddN dX7_toldNext_62 ?_
          refine V.bipush (v := nI 8) dX7_toldNext_63 (by decide) ?_
          refine V.iremN dX7_toldNext_65 (by omega) (by omega) (by omega) ?_
          exact V.iret dX7_toldNext_66 rfl ⟨by first | (exfalso; omega) | (simp only [nextF]; (repeat first | rw [if_pos (by omega)] | rw [if_neg (by omega)]); try rfl), rfl⟩
      · exact absurd hc2 (by omega)
    · skip
      refine V.iload_n dX7_toldNext_5 rfl ?_
      refine V.iconst (v := nI 1) dX7_toldNext_6 (by decide) ?_
      refine V.iaddN dX7_toldNext_7 ?_
      refine V.bipush (v := nI 8) dX7_toldNext_8 (by decide) ?_
      refine V.iremN dX7_toldNext_10 (by omega) (by omega) (by omega) ?_
      exact V.iret dX7_toldNext_11 rfl ⟨by first | (exfalso; omega) | (simp only [nextF]; (repeat first | rw [if_pos (by omega)] | rw [if_neg (by omega)]); try rfl), rfl⟩

set_option maxHeartbeats 1000000 in
theorem e_toldBehind (g : VG) (h : VHp) (kd told : Nat) (d : Option Nat) (n : Nat) (hk : kd < 4) (ht : told < 8) (hd : ∀ w, d = some w → w < 8) (hn : n < 1000) : VE g mX7_toldBehind 2 false (0, 0) [.int (nI kd), .int (nI told), .int (eO d), .int (nI n)] h (VP (nI (itF kd d told n)) h) := by
  refine VE.of (by decide) rfl (Nat.le_of_ble_eq_true rfl) ?_
  have L : ∀ i, i ≤ n → V (g, mX7_toldBehind, 2, false, h.length, VP (nI (itF kd d told n)) h) (0, 0) 6 [some (.int (nI kd)), some (.int (nI told)), some (.int (eO d)), some (.int (nI n)), some (.int (nI (itF kd d told i))), some (.int (nI i))] [] h := by
    refine vloop (n) (fun i ih hi => ?_)
    refine V.iload dX7_toldBehind_6 rfl ?_
    refine V.iload_n dX7_toldBehind_8 rfl ?_
    refine V.icmp_geN 27 dX7_toldBehind_9 (by decide) (by omega) (by omega) (fun hc1 => ?_) (fun hc1 => ?_)
    · skip
      refine V.iload dX7_toldBehind_27 rfl ?_
      exact V.iret dX7_toldBehind_29 rfl ⟨by first | (exfalso; omega) | (obtain rfl : i = n := (by omega); rfl), rfl⟩
    · skip
      refine V.iload_n dX7_toldBehind_12 rfl ?_
      refine V.iload dX7_toldBehind_13 rfl ?_
      refine V.iload_n dX7_toldBehind_15 rfl ?_
      refine V.callSp cX7_268 (e_toldNext g h kd (itF kd d told i) d hk (itF_lt ht hd i) hd) dX7_toldBehind_16 (Nat.le_of_ble_eq_true rfl) rfl rfl (Nat.le_of_ble_eq_true rfl) ?_
      refine V.istore dX7_toldBehind_19 rfl rfl ?_
      dsimp only [List.set]
      refine V.iincN (n := 1) dX7_toldBehind_21 rfl rfl rfl ?_
      dsimp only [List.set]
      refine V.goto 6 dX7_toldBehind_24 (by decide) ?_
      exact ih (i + 1) (by omega) (by omega)
  show V _ _ 0 [some (.int (nI kd)), some (.int (nI told)), some (.int (eO d)), some (.int (nI n)), none, none] [] h
  refine V.iload_n dX7_toldBehind_0 rfl ?_
  refine V.istore dX7_toldBehind_1 rfl rfl ?_
  dsimp only [List.set]
  refine V.iconst (v := nI 0) dX7_toldBehind_3 (by decide) ?_
  refine V.istore dX7_toldBehind_4 rfl rfl ?_
  dsimp only [List.set]
  exact L 0 (by omega)

set_option maxHeartbeats 1000000 in
theorem e_leaningOf (g : VG) (h : VHp) (r : Nat) (S : Rm) (hR : RoomAt h r S) (hB : RmB S) (a b : Nat) (ha : a < 6) (hb : b < 6) : VE g mX3_leaningOf 0 false (0, 0) [.ref r, .int (nI a), .int (nI b)] h (VP (iI (rL S a b)) h) := by
  obtain ⟨kd, xs, ys, vs, ll, ho, hk, hx, hy, hv, hl, lk, lx, ly, lv, lL, ek, ex, ey, ev, eL⟩ := hR
  obtain ⟨bn, bW, bH, bP, bL⟩ := id hB
  refine VE.of (by decide) rfl (Nat.le_of_ble_eq_true rfl) ?_
  show V _ _ 0 [some (.ref r), some (.int (nI a)), some (.int (nI b))] [] h
  refine V.aload_n dX3_leaningOf_0 rfl ?_
  refine V.get fX3_24 dX3_leaningOf_1 ho rfl ?_
  refine V.bipush (v := nI 6) dX3_leaningOf_4 (by decide) ?_
  refine V.iload_n dX3_leaningOf_6 rfl ?_
  refine V.imulN dX3_leaningOf_7 ?_
  refine V.iload_n dX3_leaningOf_8 rfl ?_
  refine V.iaddN dX3_leaningOf_9 ?_
  refine V.iald dX3_leaningOf_10 hl rfl (by omega) (eL _ _ (by omega) (by omega)) ?_
  exact V.iret dX3_leaningOf_11 rfl ⟨by first | (exfalso; omega) | (rfl), rfl⟩

set_option maxHeartbeats 1000000 in
theorem e_whoIsAt (g : VG) (h : VHp) (r : Nat) (S : Rm) (hR : RoomAt h r S) (hB : RmB S) (x y : Nat) (hx0 : x < 100) (hy0 : y < 100) : VE g mX3_whoIsAt 0 false (0, 0) [.ref r, .int (nI x), .int (nI y)] h (VP (eO (whoF S x y (rN S))) h) := by
  obtain ⟨kd, xs, ys, vs, ll, ho, hk, hx, hy, hv, hl, lk, lx, ly, lv, lL, ek, ex, ey, ev, eL⟩ := hR
  obtain ⟨bn, bW, bH, bP, bL⟩ := id hB
  refine VE.of (by decide) rfl (Nat.le_of_ble_eq_true rfl) ?_
  have L : ∀ i, i ≤ rN S → whoF S x y i = none → V (g, mX3_whoIsAt, 0, false, h.length, VP (eO (whoF S x y (rN S))) h) (0, 0) 2 [some (.ref r), some (.int (nI x)), some (.int (nI y)), some (.int (nI i))] [] h := by
    refine vloop (rN S) (fun i ih hi => ?_)
    intro hw
    refine V.iload_n dX3_whoIsAt_2 rfl ?_
    refine V.aload_n dX3_whoIsAt_3 rfl ?_
    refine V.get fX3_34 dX3_whoIsAt_4 ho rfl ?_
    refine V.icmp_geN 38 dX3_whoIsAt_7 (by decide) (by omega) (by omega) (fun hc1 => ?_) (fun hc1 => ?_)
    · skip
      refine V.bipush (v := iI (-4)) dX3_whoIsAt_38 (by decide) ?_
      exact V.iret dX3_whoIsAt_40 rfl ⟨by obtain rfl : i = rN S := (by omega); rw [hw]; rfl, rfl⟩
    · skip
      have bi := bP i hc1
      refine V.aload_n dX3_whoIsAt_10 rfl ?_
      refine V.get fX3_15 dX3_whoIsAt_11 ho rfl ?_
      refine V.iload_n dX3_whoIsAt_14 rfl ?_
      refine V.iald dX3_whoIsAt_15 hx rfl (by omega) (ex _ (by omega)) ?_
      refine V.iload_n dX3_whoIsAt_16 rfl ?_
      refine V.icmp_neN 32 dX3_whoIsAt_17 (by decide) (by omega) (by omega) (fun hc2 => ?_) (fun hc2 => ?_)
      · skip
        refine V.iincN (n := 1) dX3_whoIsAt_32 rfl rfl rfl ?_
        dsimp only [List.set]
        refine V.goto 2 dX3_whoIsAt_35 (by decide) ?_
        exact ih (i + 1) (by omega) (by omega) (by simp only [whoF, hw]; rw [if_neg (by omega)])
      · skip
        refine V.aload_n dX3_whoIsAt_20 rfl ?_
        refine V.get fX3_18 dX3_whoIsAt_21 ho rfl ?_
        refine V.iload_n dX3_whoIsAt_24 rfl ?_
        refine V.iald dX3_whoIsAt_25 hy rfl (by omega) (ey _ (by omega)) ?_
        refine V.iload_n dX3_whoIsAt_26 rfl ?_
        refine V.icmp_neN 32 dX3_whoIsAt_27 (by decide) (by omega) (by omega) (fun hc3 => ?_) (fun hc3 => ?_)
        · skip
          refine V.iincN (n := 1) dX3_whoIsAt_32 rfl rfl rfl ?_
          dsimp only [List.set]
          refine V.goto 2 dX3_whoIsAt_35 (by decide) ?_
          exact ih (i + 1) (by omega) (by omega) (by simp only [whoF, hw]; rw [if_neg (by omega)])
        · skip
          refine V.iload_n dX3_whoIsAt_30 rfl ?_
          exact V.iret dX3_whoIsAt_31 rfl ⟨by rw [whoF_some hw (by omega) _ (by omega)]; rfl, rfl⟩
  show V _ _ 0 [some (.ref r), some (.int (nI x)), some (.int (nI y)), none] [] h
  refine V.iconst (v := nI 0) dX3_whoIsAt_0 (by decide) ?_
  refine V.istore_n (i := 3) dX3_whoIsAt_1 rfl rfl rfl ?_
  dsimp only [List.set]
  exact L 0 (by omega) rfl

set_option maxHeartbeats 1000000 in
theorem e_pull (g : VG) (h : VHp) (r : Nat) (S : Rm) (hR : RoomAt h r S) (hB : RmB S) (p q : Nat) (hp : p < rN S) (hq : q < rN S) : VE g mX3_pull 1 false (0, 0) [.ref r, .int (nI p), .int (nI q)] h (VP (iI (pullF S p q)) h) := by
  obtain ⟨kd, xs, ys, vs, ll, ho, hk, hx, hy, hv, hl, lk, lx, ly, lv, lL, ek, ex, ey, ev, eL⟩ := id hR
  obtain ⟨bn, bW, bH, bP, bL⟩ := id hB
  have bp := bP p hp
  have bq := bP q hq
  refine VE.of (by decide) rfl (Nat.le_of_ble_eq_true rfl) ?_
  show V _ _ 0 [some (.ref r), some (.int (nI p)), some (.int (nI q)), none] [] h
  refine V.aload_n dX3_pull_0 rfl ?_
  refine V.get fX3_15 dX3_pull_1 ho rfl ?_
  refine V.iload_n dX3_pull_4 rfl ?_
  refine V.iald dX3_pull_5 hx rfl (by omega) (ex _ (by omega)) ?_
  refine V.aload_n dX3_pull_6 rfl ?_
  refine V.get fX3_15 dX3_pull_7 ho rfl ?_
  refine V.iload_n dX3_pull_10 rfl ?_
  refine V.iald dX3_pull_11 hx rfl (by omega) (ex _ (by omega)) ?_
  refine V.toZ1 ?_
  refine V.toZ2 ?_
  refine V.isubZ dX3_pull_12 ?_
  refine V.mabs jX3_74 dX3_pull_13 (Nat.le_of_ble_eq_true rfl) (Nat.le_of_ble_eq_true rfl) ?_
  refine V.re (iI_abs (by omega)) ?_
  refine V.aload_n dX3_pull_16 rfl ?_
  refine V.get fX3_18 dX3_pull_17 ho rfl ?_
  refine V.iload_n dX3_pull_20 rfl ?_
  refine V.iald dX3_pull_21 hy rfl (by omega) (ey _ (by omega)) ?_
  refine V.aload_n dX3_pull_22 rfl ?_
  refine V.get fX3_18 dX3_pull_23 ho rfl ?_
  refine V.iload_n dX3_pull_26 rfl ?_
  refine V.iald dX3_pull_27 hy rfl (by omega) (ey _ (by omega)) ?_
  refine V.toZ1 ?_
  refine V.toZ2 ?_
  refine V.isubZ dX3_pull_28 ?_
  refine V.mabs jX3_74 dX3_pull_29 (Nat.le_of_ble_eq_true rfl) (Nat.le_of_ble_eq_true rfl) ?_
  refine V.re (iI_abs (by omega)) ?_
  refine V.iaddZ dX3_pull_32 ?_
  refine V.istore_n (i := 3) dX3_pull_33 rfl rfl rfl ?_
  dsimp only [List.set]
  refine V.iload_n dX3_pull_34 rfl ?_
  refine V.bipush (v := nI 12) dX3_pull_35 (by decide) ?_
  refine V.toZ1 ?_
  refine V.icmp_ltZ 44 dX3_pull_37 (by decide) (by omega) (by omega) (fun hc1 => ?_) (fun hc1 => ?_)
  · skip
    refine V.aload_n dX3_pull_44 rfl ?_
    refine V.iload_n dX3_pull_45 rfl ?_
    refine V.iload_n dX3_pull_46 rfl ?_
    refine V.callVp (ci := 3) cX3_80 (e_leaningOf g h r S hR hB p q (by omega) (by omega)) dX3_pull_47 (Nat.le_of_ble_eq_true rfl) rfl ho rfl rfl (Nat.le_of_ble_eq_true rfl) ?_
    refine V.bipush (v := nI 12) dX3_pull_50 (by decide) ?_
    refine V.iload_n dX3_pull_52 rfl ?_
    refine V.toZ2 ?_
    refine V.isubZ dX3_pull_53 ?_
    refine V.imulZ dX3_pull_54 ?_
    exact V.iret dX3_pull_55 rfl ⟨by first | (exfalso; omega) | (first | (rw [pull_eq (S := S) (p := p) (q := q) (by omega)]; try rfl) | (rw [pull_zero (S := S) (p := p) (q := q) (by omega)]; exact congrArg _ (congrArg _ (iI_nat 0).symm))), rfl⟩
  · skip
    refine V.iconst (v := nI 0) dX3_pull_40 (by decide) ?_
    refine V.goto 55 dX3_pull_41 (by decide) ?_
    exact V.iret dX3_pull_55 rfl ⟨by first | (exfalso; omega) | (first | (rw [pull_eq (S := S) (p := p) (q := q) (by omega)]; try rfl) | (rw [pull_zero (S := S) (p := p) (q := q) (by omega)]; exact congrArg _ (congrArg _ (iI_nat 0).symm))), rfl⟩

set_option maxHeartbeats 1000000 in
theorem e_feltEast (g : VG) (h : VHp) (r : Nat) (S : Rm) (hR : RoomAt h r S) (hB : RmB S) (p m : Nat) (hp : p < rN S) (hm : m < 64) : VE g mX3_feltEast 2 false (0, 0) [.ref r, .int (nI p), .int (nI m)] h (VP (iI (feltE S p m (rN S))) h) := by
  obtain ⟨kd, xs, ys, vs, ll, ho, hk, hx, hy, hv, hl, lk, lx, ly, lv, lL, ek, ex, ey, ev, eL⟩ := id hR
  obtain ⟨bn, bW, bH, bP, bL⟩ := id hB
  have bp := bP p hp
  refine VE.of (by decide) rfl (Nat.le_of_ble_eq_true rfl) ?_
  have L : ∀ q, q ≤ rN S → V (g, mX3_feltEast, 2, false, h.length, VP (iI (feltE S p m (rN S))) h) (0, 0) 5 [some (.ref r), some (.int (nI p)), some (.int (nI m)), some (.int (iI (feltE S p m q))), some (.int (nI q))] [] h := by
    refine vloop (rN S) (fun q ih hi => ?_)
    refine V.iload dX3_feltEast_5 rfl ?_
    refine V.aload_n dX3_feltEast_7 rfl ?_
    refine V.get fX3_34 dX3_feltEast_8 ho rfl ?_
    refine V.icmp_geN 61 dX3_feltEast_11 (by decide) (by omega) (by omega) (fun hc1 => ?_) (fun hc1 => ?_)
    · skip
      refine V.iload_n dX3_feltEast_61 rfl ?_
      exact V.iret dX3_feltEast_62 rfl ⟨by first | (exfalso; omega) | (obtain rfl : q = rN S := (by omega); rfl), rfl⟩
    · skip
      have bq := bP q hc1
      refine V.iload dX3_feltEast_14 rfl ?_
      refine V.iload_n dX3_feltEast_16 rfl ?_
      refine V.icmp_eqN 55 dX3_feltEast_17 (by decide) (by omega) (by omega) (fun hc2 => ?_) (fun hc2 => ?_)
      · skip
        refine V.iincN (n := 1) dX3_feltEast_55 rfl rfl rfl ?_
        dsimp only [List.set]
        refine V.goto 5 dX3_feltEast_58 (by decide) ?_
        have z := ih (q + 1) (by omega) (by omega)
        simp only [feltE] at z
        first | (rw [if_pos (by omega)] at z; exact z) | (rw [if_neg (by omega), Int.add_zero] at z; exact z)
      · skip
        refine V.iload_n dX3_feltEast_20 rfl ?_
        refine V.iload dX3_feltEast_21 rfl ?_
        refine V.ishrN dX3_feltEast_23 (by omega) (by omega) ?_
        refine V.iconst (v := nI 1) dX3_feltEast_24 (by decide) ?_
        refine V.iand1N dX3_feltEast_25 (Nat.lt_of_le_of_lt (Nat.div_le_self _ _) (by omega)) ?_
        refine V.iconst (v := nI 1) dX3_feltEast_26 (by decide) ?_
        refine V.icmp_neN 55 dX3_feltEast_27 (by decide) (by omega) (by omega) (fun hc3 => ?_) (fun hc3 => ?_)
        · skip
          refine V.iincN (n := 1) dX3_feltEast_55 rfl rfl rfl ?_
          dsimp only [List.set]
          refine V.goto 5 dX3_feltEast_58 (by decide) ?_
          have z := ih (q + 1) (by omega) (by omega)
          simp only [feltE] at z
          first | (rw [if_pos (by omega)] at z; exact z) | (rw [if_neg (by omega), Int.add_zero] at z; exact z)
        · skip
          refine V.iload_n dX3_feltEast_30 rfl ?_
          refine V.aload_n dX3_feltEast_31 rfl ?_
          refine V.iload_n dX3_feltEast_32 rfl ?_
          refine V.iload dX3_feltEast_33 rfl ?_
          refine V.callVp (ci := 3) cX3_83 (e_pull g h r S hR hB p q hp (by omega)) dX3_feltEast_35 (Nat.le_of_ble_eq_true rfl) rfl ho rfl rfl (Nat.le_of_ble_eq_true rfl) ?_
          refine V.aload_n dX3_feltEast_38 rfl ?_
          refine V.get fX3_15 dX3_feltEast_39 ho rfl ?_
          refine V.iload dX3_feltEast_42 rfl ?_
          refine V.iald dX3_feltEast_44 hx rfl (by omega) (ex _ (by omega)) ?_
          refine V.aload_n dX3_feltEast_45 rfl ?_
          refine V.get fX3_15 dX3_feltEast_46 ho rfl ?_
          refine V.iload_n dX3_feltEast_49 rfl ?_
          refine V.iald dX3_feltEast_50 hx rfl (by omega) (ex _ (by omega)) ?_
          refine V.toZ1 ?_
          refine V.toZ2 ?_
          refine V.isubZ dX3_feltEast_51 ?_
          refine V.imulZ dX3_feltEast_52 ?_
          refine V.iaddZ dX3_feltEast_53 ?_
          refine V.istore_n (i := 3) dX3_feltEast_54 rfl rfl rfl ?_
          dsimp only [List.set]
          refine V.iincN (n := 1) dX3_feltEast_55 rfl rfl rfl ?_
          dsimp only [List.set]
          refine V.goto 5 dX3_feltEast_58 (by decide) ?_
          have z := ih (q + 1) (by omega) (by omega)
          simp only [feltE] at z
          first | (rw [if_pos (by omega)] at z; exact z) | (rw [if_neg (by omega), Int.add_zero] at z; exact z)
  show V _ _ 0 [some (.ref r), some (.int (nI p)), some (.int (nI m)), none, none] [] h
  refine V.iconst (v := nI 0) dX3_feltEast_0 (by decide) ?_
  refine V.istore_n (i := 3) dX3_feltEast_1 rfl rfl rfl ?_
  dsimp only [List.set]
  refine V.iconst (v := nI 0) dX3_feltEast_2 (by decide) ?_
  refine V.istore dX3_feltEast_3 rfl rfl ?_
  dsimp only [List.set]
  exact L 0 (by omega)

set_option maxHeartbeats 1000000 in
theorem e_feltSouth (g : VG) (h : VHp) (r : Nat) (S : Rm) (hR : RoomAt h r S) (hB : RmB S) (p m : Nat) (hp : p < rN S) (hm : m < 64) : VE g mX3_feltSouth 2 false (0, 0) [.ref r, .int (nI p), .int (nI m)] h (VP (iI (feltS S p m (rN S))) h) := by
  obtain ⟨kd, xs, ys, vs, ll, ho, hk, hx, hy, hv, hl, lk, lx, ly, lv, lL, ek, ex, ey, ev, eL⟩ := id hR
  obtain ⟨bn, bW, bH, bP, bL⟩ := id hB
  have bp := bP p hp
  refine VE.of (by decide) rfl (Nat.le_of_ble_eq_true rfl) ?_
  have L : ∀ q, q ≤ rN S → V (g, mX3_feltSouth, 2, false, h.length, VP (iI (feltS S p m (rN S))) h) (0, 0) 5 [some (.ref r), some (.int (nI p)), some (.int (nI m)), some (.int (iI (feltS S p m q))), some (.int (nI q))] [] h := by
    refine vloop (rN S) (fun q ih hi => ?_)
    refine V.iload dX3_feltSouth_5 rfl ?_
    refine V.aload_n dX3_feltSouth_7 rfl ?_
    refine V.get fX3_34 dX3_feltSouth_8 ho rfl ?_
    refine V.icmp_geN 61 dX3_feltSouth_11 (by decide) (by omega) (by omega) (fun hc1 => ?_) (fun hc1 => ?_)
    · skip
      refine V.iload_n dX3_feltSouth_61 rfl ?_
      exact V.iret dX3_feltSouth_62 rfl ⟨by first | (exfalso; omega) | (obtain rfl : q = rN S := (by omega); rfl), rfl⟩
    · skip
      have bq := bP q hc1
      refine V.iload dX3_feltSouth_14 rfl ?_
      refine V.iload_n dX3_feltSouth_16 rfl ?_
      refine V.icmp_eqN 55 dX3_feltSouth_17 (by decide) (by omega) (by omega) (fun hc2 => ?_) (fun hc2 => ?_)
      · skip
        refine V.iincN (n := 1) dX3_feltSouth_55 rfl rfl rfl ?_
        dsimp only [List.set]
        refine V.goto 5 dX3_feltSouth_58 (by decide) ?_
        have z := ih (q + 1) (by omega) (by omega)
        simp only [feltS] at z
        first | (rw [if_pos (by omega)] at z; exact z) | (rw [if_neg (by omega), Int.add_zero] at z; exact z)
      · skip
        refine V.iload_n dX3_feltSouth_20 rfl ?_
        refine V.iload dX3_feltSouth_21 rfl ?_
        refine V.ishrN dX3_feltSouth_23 (by omega) (by omega) ?_
        refine V.iconst (v := nI 1) dX3_feltSouth_24 (by decide) ?_
        refine V.iand1N dX3_feltSouth_25 (Nat.lt_of_le_of_lt (Nat.div_le_self _ _) (by omega)) ?_
        refine V.iconst (v := nI 1) dX3_feltSouth_26 (by decide) ?_
        refine V.icmp_neN 55 dX3_feltSouth_27 (by decide) (by omega) (by omega) (fun hc3 => ?_) (fun hc3 => ?_)
        · skip
          refine V.iincN (n := 1) dX3_feltSouth_55 rfl rfl rfl ?_
          dsimp only [List.set]
          refine V.goto 5 dX3_feltSouth_58 (by decide) ?_
          have z := ih (q + 1) (by omega) (by omega)
          simp only [feltS] at z
          first | (rw [if_pos (by omega)] at z; exact z) | (rw [if_neg (by omega), Int.add_zero] at z; exact z)
        · skip
          refine V.iload_n dX3_feltSouth_30 rfl ?_
          refine V.aload_n dX3_feltSouth_31 rfl ?_
          refine V.iload_n dX3_feltSouth_32 rfl ?_
          refine V.iload dX3_feltSouth_33 rfl ?_
          refine V.callVp (ci := 3) cX3_83 (e_pull g h r S hR hB p q hp (by omega)) dX3_feltSouth_35 (Nat.le_of_ble_eq_true rfl) rfl ho rfl rfl (Nat.le_of_ble_eq_true rfl) ?_
          refine V.aload_n dX3_feltSouth_38 rfl ?_
          refine V.get fX3_18 dX3_feltSouth_39 ho rfl ?_
          refine V.iload dX3_feltSouth_42 rfl ?_
          refine V.iald dX3_feltSouth_44 hy rfl (by omega) (ey _ (by omega)) ?_
          refine V.aload_n dX3_feltSouth_45 rfl ?_
          refine V.get fX3_18 dX3_feltSouth_46 ho rfl ?_
          refine V.iload_n dX3_feltSouth_49 rfl ?_
          refine V.iald dX3_feltSouth_50 hy rfl (by omega) (ey _ (by omega)) ?_
          refine V.toZ1 ?_
          refine V.toZ2 ?_
          refine V.isubZ dX3_feltSouth_51 ?_
          refine V.imulZ dX3_feltSouth_52 ?_
          refine V.iaddZ dX3_feltSouth_53 ?_
          refine V.istore_n (i := 3) dX3_feltSouth_54 rfl rfl rfl ?_
          dsimp only [List.set]
          refine V.iincN (n := 1) dX3_feltSouth_55 rfl rfl rfl ?_
          dsimp only [List.set]
          refine V.goto 5 dX3_feltSouth_58 (by decide) ?_
          have z := ih (q + 1) (by omega) (by omega)
          simp only [feltS] at z
          first | (rw [if_pos (by omega)] at z; exact z) | (rw [if_neg (by omega), Int.add_zero] at z; exact z)
  show V _ _ 0 [some (.ref r), some (.int (nI p)), some (.int (nI m)), none, none] [] h
  refine V.iconst (v := nI 0) dX3_feltSouth_0 (by decide) ?_
  refine V.istore_n (i := 3) dX3_feltSouth_1 rfl rfl rfl ?_
  dsimp only [List.set]
  refine V.iconst (v := nI 0) dX3_feltSouth_2 (by decide) ?_
  refine V.istore dX3_feltSouth_3 rfl rfl ?_
  dsimp only [List.set]
  exact L 0 (by omega)

set_option maxHeartbeats 1000000 in
theorem e_draftAmong (g : VG) (h : VHp) (r : Nat) (S : Rm) (hR : RoomAt h r S) (hB : RmB S) (p m : Nat) (hp : p < rN S) (hm : m < 64) : VE g mX3_draftAmong 3 false (0, 0) [.ref r, .int (nI p), .int (nI m)] h (VP (eO (draftM S p m)) h) := by
  obtain ⟨kd, xs, ys, vs, ll, ho, hk, hx, hy, hv, hl, lk, lx, ly, lv, lL, ek, ex, ey, ev, eL⟩ := id hR
  obtain ⟨bn, bW, bH, bP, bL⟩ := id hB
  have bf := felt_bd hB (m := m) hp (rN S) (Nat.le_refl _)
  refine VE.of (by decide) rfl (Nat.le_of_ble_eq_true rfl) ?_
  show V _ _ 0 [some (.ref r), some (.int (nI p)), some (.int (nI m))] [] h
  refine V.aload_n dX3_draftAmong_0 rfl ?_
  refine V.iload_n dX3_draftAmong_1 rfl ?_
  refine V.iload_n dX3_draftAmong_2 rfl ?_
  refine V.callVp (ci := 3) cX3_86 (e_feltEast g h r S hR hB p m hp hm) dX3_draftAmong_3 (Nat.le_of_ble_eq_true rfl) rfl ho rfl rfl (Nat.le_of_ble_eq_true rfl) ?_
  refine V.aload_n dX3_draftAmong_6 rfl ?_
  refine V.iload_n dX3_draftAmong_7 rfl ?_
  refine V.iload_n dX3_draftAmong_8 rfl ?_
  refine V.callVp (ci := 3) cX3_89 (e_feltSouth g h r S hR hB p m hp hm) dX3_draftAmong_9 (Nat.le_of_ble_eq_true rfl) rfl ho rfl rfl (Nat.le_of_ble_eq_true rfl) ?_
  refine V.callSp cX3_92 (e_wayBy g h _ _ (by omega) (by omega)) dX3_draftAmong_12 (Nat.le_of_ble_eq_true rfl) rfl rfl (Nat.le_of_ble_eq_true rfl) ?_
  exact V.iret dX3_draftAmong_15 rfl ⟨by first | (exfalso; omega) | (rfl), rfl⟩

set_option maxHeartbeats 1000000 in
theorem e_draft (g : VG) (h : VHp) (r : Nat) (S : Rm) (hR : RoomAt h r S) (hB : RmB S) (p : Nat) (hp : p < rN S) : VE g mX3_draft 4 false (0, 0) [.ref r, .int (nI p)] h (VP (eO (draftF S p)) h) := by
  obtain ⟨kd, xs, ys, vs, ll, ho, hk, hx, hy, hv, hl, lk, lx, ly, lv, lL, ek, ex, ey, ev, eL⟩ := id hR
  obtain ⟨bn, bW, bH, bP, bL⟩ := id hB
  refine VE.of (by decide) rfl (Nat.le_of_ble_eq_true rfl) ?_
  show V _ _ 0 [some (.ref r), some (.int (nI p))] [] h
  refine V.aload_n dX3_draft_0 rfl ?_
  refine V.iload_n dX3_draft_1 rfl ?_
  refine V.bipush (v := nI 63) dX3_draft_2 (by decide) ?_
  refine V.callVp (ci := 3) cX3_95 (e_draftAmong g h r S hR hB p 63 hp (by omega)) dX3_draft_4 (Nat.le_of_ble_eq_true rfl) rfl ho rfl rfl (Nat.le_of_ble_eq_true rfl) ?_
  exact V.iret dX3_draft_7 rfl ⟨by first | (exfalso; omega) | (rfl), rfl⟩
end
section
/-! a room's cells, raw -/
def dxF (j : Nat) : Int := if j = 1 then 1 else if j = 3 then -1 else 0
def dyF (j : Nat) : Int := if j = 0 then -1 else if j = 2 then 1 else 0
theorem vea_d : ∀ j, j < 4 → vea j = iI (dxF j) := by decide +kernel
theorem vso_d : ∀ j, j < 4 → vso j = iI (dyF j) := by decide +kernel
theorem dx_bd (j : Nat) : -1 ≤ dxF j ∧ dxF j ≤ 1 := by unfold dxF; split <;> (try split) <;> omega
theorem dy_bd (j : Nat) : -1 ≤ dyF j ∧ dyF j ≤ 1 := by unfold dyF; split <;> (try split) <;> omega
def sxF (S : Rm) (p side : Nat) : Int := (rX S p : Int) + dxF side
def syF (S : Rm) (p side : Nat) : Int := (rY S p : Int) + dyF side
abbrev inF (S : Rm) (x y : Int) : Prop := (0 ≤ x ∧ x < (rW S : Nat)) ∧ (0 ≤ y ∧ y < (rH S : Nat))
abbrev canF (S : Rm) (p side : Nat) : Prop := inF S (sxF S p side) (syF S p side) ∧ whoF S (sxF S p side).toNat (syF S p side).toNat (rN S) = none
def rStep (S : Rm) (p side : Nat) : Rm := rPut S p (sxF S p side).toNat (syF S p side).toNat
def RawAt (h : VHp) (r W H n t : Nat) (kd xs ys vs ll : List Int32) : Prop :=
  h[r]? = some (.inr (.inr (3, [.ref (r + 1), .ref (r + 2), .ref (r + 3), .ref (r + 4), .ref (r + 5), .int (nI W), .int (nI H), .int (nI n), .int (nI t)]))) ∧
  h[r + 1]? = some (.inl kd) ∧ h[r + 2]? = some (.inl xs) ∧ h[r + 3]? = some (.inl ys) ∧ h[r + 4]? = some (.inl vs) ∧ h[r + 5]? = some (.inl ll) ∧
  kd.length = 6 ∧ xs.length = 6 ∧ ys.length = 6 ∧ vs.length = 6 ∧ ll.length = 36
def RowsOf (S : Rm) (kd xs ys vs ll : List Int32) : Prop := (∀ i, i < rN S → kd[i]? = some (nI (rK S i))) ∧ (∀ i, i < rN S → xs[i]? = some (nI (rX S i))) ∧ (∀ i, i < rN S → ys[i]? = some (nI (rY S i))) ∧ (∀ i, i < rN S → vs[i]? = some (nI (rV S i))) ∧ (∀ i j, i < 6 → j < 6 → ll[6 * i + j]? = some (iI (rL S i j)))
theorem RoomAt.raw {h : VHp} {r : Nat} {S : Rm} (w : RoomAt h r S) : ∃ kd xs ys vs ll, RawAt h r (rW S) (rH S) (rN S) (rT S) kd xs ys vs ll ∧ RowsOf S kd xs ys vs ll := by
  obtain ⟨kd, xs, ys, vs, ll, h0, h1, h2, h3, h4, h5, l1, l2, l3, l4, l5, rest⟩ := w
  exact ⟨kd, xs, ys, vs, ll, ⟨h0, h1, h2, h3, h4, h5, l1, l2, l3, l4, l5⟩, rest⟩
theorem RawAt.room {h : VHp} {r W H n t : Nat} {kd xs ys vs ll : List Int32} {S : Rm} (w : RawAt h r W H n t kd xs ys vs ll) (q : RowsOf S kd xs ys vs ll) (e1 : W = rW S) (e2 : H = rH S) (e3 : n = rN S) (e4 : t = rT S) : RoomAt h r S := by
  subst e1; subst e2; subst e3; subst e4
  obtain ⟨h0, h1, h2, h3, h4, h5, l1, l2, l3, l4, l5⟩ := w
  exact ⟨kd, xs, ys, vs, ll, h0, h1, h2, h3, h4, h5, l1, l2, l3, l4, l5, q⟩
theorem vset_ne {h : VHp} {a k : Nat} {c : VC} {v : Option VC} (hk : h[k]? = v) (hne : a ≠ k) : (h.set a c)[k]? = v := by rw [List.getElem?_set_ne hne]; exact hk
theorem vset_eq {h : VHp} {a : Nat} {c c0 : VC} (hk : h[a]? = some c0) : (h.set a c)[a]? = some c := by rw [List.getElem?_set_self (List.getElem?_eq_some_iff.mp hk).1]
section Raw
variable {h : VHp} {r W H n t : Nat} {kd xs ys vs ll : List Int32} (w : RawAt h r W H n t kd xs ys vs ll)
theorem RawAt.keep (w : RawAt h r W H n t kd xs ys vs ll) {h' : VHp} {lo hi : Nat} (f : VFr lo hi h h') (hd : r + 6 ≤ lo ∨ hi ≤ r) : RawAt h' r W H n t kd xs ys vs ll := by
  obtain ⟨h0, h1, h2, h3, h4, h5, rest⟩ := w
  exact ⟨by rw [f.2 _ (by omega)]; exact h0, by rw [f.2 _ (by omega)]; exact h1, by rw [f.2 _ (by omega)]; exact h2, by rw [f.2 _ (by omega)]; exact h3, by rw [f.2 _ (by omega)]; exact h4, by rw [f.2 _ (by omega)]; exact h5, rest⟩
theorem RawAt.w0 (w : RawAt h r W H n t kd xs ys vs ll) (W' H' n' t' : Nat) : RawAt (h.set r (.inr (.inr (3, [.ref (r + 1), .ref (r + 2), .ref (r + 3), .ref (r + 4), .ref (r + 5), .int (nI W'), .int (nI H'), .int (nI n'), .int (nI t')])))) r W' H' n' t' kd xs ys vs ll := by
  obtain ⟨h0, h1, h2, h3, h4, h5, rest⟩ := w
  exact ⟨vset_eq h0, vset_ne h1 (by omega), vset_ne h2 (by omega), vset_ne h3 (by omega), vset_ne h4 (by omega), vset_ne h5 (by omega), rest⟩
theorem RawAt.w1 (w : RawAt h r W H n t kd xs ys vs ll) (z : List Int32) (hz : z.length = 6) : RawAt (h.set (r + 1) (.inl z)) r W H n t z xs ys vs ll := by
  obtain ⟨h0, h1, h2, h3, h4, h5, l1, l2, l3, l4, l5⟩ := w
  exact ⟨vset_ne h0 (by omega), vset_eq h1, vset_ne h2 (by omega), vset_ne h3 (by omega), vset_ne h4 (by omega), vset_ne h5 (by omega), hz, l2, l3, l4, l5⟩
theorem RawAt.w2 (w : RawAt h r W H n t kd xs ys vs ll) (z : List Int32) (hz : z.length = 6) : RawAt (h.set (r + 2) (.inl z)) r W H n t kd z ys vs ll := by
  obtain ⟨h0, h1, h2, h3, h4, h5, l1, l2, l3, l4, l5⟩ := w
  exact ⟨vset_ne h0 (by omega), vset_ne h1 (by omega), vset_eq h2, vset_ne h3 (by omega), vset_ne h4 (by omega), vset_ne h5 (by omega), l1, hz, l3, l4, l5⟩
theorem RawAt.w3 (w : RawAt h r W H n t kd xs ys vs ll) (z : List Int32) (hz : z.length = 6) : RawAt (h.set (r + 3) (.inl z)) r W H n t kd xs z vs ll := by
  obtain ⟨h0, h1, h2, h3, h4, h5, l1, l2, l3, l4, l5⟩ := w
  exact ⟨vset_ne h0 (by omega), vset_ne h1 (by omega), vset_ne h2 (by omega), vset_eq h3, vset_ne h4 (by omega), vset_ne h5 (by omega), l1, l2, hz, l4, l5⟩
theorem RawAt.w4 (w : RawAt h r W H n t kd xs ys vs ll) (z : List Int32) (hz : z.length = 6) : RawAt (h.set (r + 4) (.inl z)) r W H n t kd xs ys z ll := by
  obtain ⟨h0, h1, h2, h3, h4, h5, l1, l2, l3, l4, l5⟩ := w
  exact ⟨vset_ne h0 (by omega), vset_ne h1 (by omega), vset_ne h2 (by omega), vset_ne h3 (by omega), vset_eq h4, vset_ne h5 (by omega), l1, l2, l3, hz, l5⟩
theorem RawAt.w5 (w : RawAt h r W H n t kd xs ys vs ll) (z : List Int32) (hz : z.length = 36) : RawAt (h.set (r + 5) (.inl z)) r W H n t kd xs ys vs z := by
  obtain ⟨h0, h1, h2, h3, h4, h5, l1, l2, l3, l4, l5⟩ := w
  exact ⟨vset_ne h0 (by omega), vset_ne h1 (by omega), vset_ne h2 (by omega), vset_ne h3 (by omega), vset_ne h4 (by omega), vset_eq h5, l1, l2, l3, l4, hz⟩
end Raw
theorem row_set {xs : List Int32} {n p x : Nat} {f : Nat → Nat} (h : ∀ i, i < n → xs[i]? = some (nI (f i))) (hp : p < xs.length) : ∀ i, i < n → (xs.set p (nI x))[i]? = some (nI (up1 f p x i)) := by
  intro i hi
  unfold up1
  by_cases e : i = p
  · subst e; rw [List.getElem?_set_self hp]; simp
  · rw [List.getElem?_set_ne (Ne.symm e), h i hi]; simp [e]
theorem row_grow {xs : List Int32} {n x : Nat} {f : Nat → Nat} (h : ∀ i, i < n → xs[i]? = some (nI (f i))) (hp : n < xs.length) : ∀ i, i < n + 1 → (xs.set n (nI x))[i]? = some (nI (up1 f n x i)) := by
  intro i hi
  unfold up1
  by_cases e : i = n
  · subst e; rw [List.getElem?_set_self hp]; simp
  · rw [List.getElem?_set_ne (Ne.symm e), h i (by omega)]; simp [e]
theorem lean_set {ll : List Int32} {a b : Nat} {l : Int} {L : Nat → Nat → Int} (h : ∀ i j, i < 6 → j < 6 → ll[6 * i + j]? = some (iI (L i j))) (hl : ll.length = 36) (ha : a < 6) (hb : b < 6) : ∀ i j, i < 6 → j < 6 → (ll.set (6 * a + b) (iI l))[6 * i + j]? = some (iI (if i = a ∧ j = b then l else L i j)) := by
  intro i j hi hj
  by_cases e : i = a ∧ j = b
  · obtain ⟨rfl, rfl⟩ := e
    rw [List.getElem?_set_self (by omega)]; simp
  · rw [List.getElem?_set_ne (by omega), h i j hi hj]; simp [e]
theorem felt_congr {S S' : Rm} (h1 : rX S = rX S') (h2 : rY S = rY S') (h3 : rL S = rL S') (p m : Nat) : ∀ n, feltE S p m n = feltE S' p m n ∧ feltS S p m n = feltS S' p m n
  | 0 => ⟨rfl, rfl⟩
  | n + 1 => by
    have ih := felt_congr h1 h2 h3 p m n
    simp only [feltE, feltS, pullF, h1, h2, h3, ih.1, ih.2]
    exact ⟨trivial, trivial⟩
theorem draft_congr {S S' : Rm} (h1 : rX S = rX S') (h2 : rY S = rY S') (h3 : rL S = rL S') (h4 : rN S = rN S') (p m : Nat) : draftM S p m = draftM S' p m := by
  unfold draftM
  rw [(felt_congr h1 h2 h3 p m _).1, (felt_congr h1 h2 h3 p m _).2, h4]
/-- the vanes while an hour goes by -/
def mixV (S : Rm) (p : Nat) : Nat → Nat := fun i => if i < p then vaneF S i else rV S i
theorem vaneF_lt {S : Rm} (hB : RmB S) {p : Nat} (hp : p < rN S) : vaneF S p < 8 := nextF_lt (hB.2.2.2.1 p hp).2.1 (fun _ h => draftF_lt h)
theorem hour_B {S : Rm} (hB : RmB S) : RmB (hourF S) := by
  obtain ⟨b1, b2, b3, b4, b5⟩ := id hB
  exact ⟨b1, b2, b3, fun i hi => ⟨(b4 i hi).1, vaneF_lt hB hi, (b4 i hi).2.2⟩, b5⟩
theorem put_B {S : Rm} (hB : RmB S) {p x y : Nat} (hx : x < rW S) (hy : y < rH S) : RmB (rPut S p x y) := by
  obtain ⟨b1, b2, b3, b4, b5⟩ := id hB
  refine ⟨b1, b2, b3, fun i hi => ⟨(b4 i hi).1, (b4 i hi).2.1, ?_, ?_⟩, b5⟩
  · show up1 (rX S) p x i < rW S
    unfold up1; split
    · exact hx
    · exact (b4 i hi).2.2.1
  · show up1 (rY S) p y i < rH S
    unfold up1; split
    · exact hy
    · exact (b4 i hi).2.2.2
theorem lean_B {S : Rm} (hB : RmB S) {a b : Nat} {l : Int} (h1 : -20 ≤ l) (h2 : l ≤ 20) : RmB (rLean S a b l) := by
  obtain ⟨b1, b2, b3, b4, b5⟩ := id hB
  refine ⟨b1, b2, b3, b4, fun i j => ?_⟩
  show -20 ≤ (if i = a ∧ j = b then l else rL S i j) ∧ (if i = a ∧ j = b then l else rL S i j) ≤ 20
  split
  · exact ⟨h1, h2⟩
  · exact b5 i j
def VRm (r : Nat) (S' : Rm) (h : VHp) (x : Option Value) : VPost := fun v h' => v = x ∧ RoomAt h' r S' ∧ VFr r (r + 6) h h'
theorem eO_none {o : Option Nat} (hlt : ∀ i, o = some i → i < 1000) : eO o = iI (-4) ↔ o = none := by
  cases o with
  | none => exact ⟨fun _ => rfl, fun _ => rfl⟩
  | some i =>
    refine ⟨fun h => ?_, fun h => by cases h⟩
    have := hlt i rfl
    rw [show eO (some i) = iI (i : Int) from (iI_nat i).symm] at h
    have := (iI_eq (by omega) (by omega) (by omega) (by omega)).mp h
    omega
theorem eO_some {o : Option Nat} (hlt : ∀ i, o = some i → i < 1000) {p : Nat} (hp : p < 1000) : eO o = nI p ↔ o = some p := by
  cases o with
  | none =>
    refine ⟨fun h => ?_, fun h => by cases h⟩
    rw [show eO none = iI (-4) from rfl, ← iI_nat] at h
    have := (iI_eq (by omega) (by omega) (by omega) (by omega)).mp h
    omega
  | some i =>
    have := hlt i rfl
    rw [show eO (some i) = nI i from rfl, nI_eq (by omega) (by omega)]
    exact ⟨fun h => by rw [h], fun h => by cases h; rfl⟩
abbrev tellF (S : Rm) (p q : Nat) : Prop := p ≠ q ∧ wayF ((rX S q : Int) - rX S p) ((rY S q : Int) - rY S p) = some (rV S p)
theorem lean_all {ll : List Int32} {L : Nat → Nat → Int} (h : ∀ i j, i < 6 → j < 6 → ll[6 * i + j]? = some (iI (L i j))) : ∀ i, i < 36 → ll[i]? = some (iI (L (i / 6) (i % 6))) := by
  intro i hi
  have := h (i / 6) (i % 6) (by omega) (by omega)
  rwa [show 6 * (i / 6) + i % 6 = i by omega] at this
abbrev actL (S : Rm) (d : Nat) : Int := ((d / 512 % 41 : Nat) : Int) - ((20 : Nat) : Int)
/-- what is done ahead of an hour of an evening -/
def actF (S : Rm) (d : Nat) : Rm :=
  if d % 8 < 4 then (if canF S (d / 8 % rN S) (d / 64 % 4) then rStep S (d / 8 % rN S) (d / 64 % 4) else S)
  else if d % 8 = 4 ∧ d / 64 % rN S ≠ d / 8 % rN S then rLean S (d / 8 % rN S) (d / 64 % rN S) (actL S d) else S
def rAlone (S : Rm) (p q n : Nat) : Rm := (rW S, rH S, rN S, rT S, rK S, rV S, rX S, rY S, fun i j => if i = p ∧ j < n then (if j = q then 1 else 0) else rL S i j)
theorem alone_B {S : Rm} (hB : RmB S) {p q n : Nat} : RmB (rAlone S p q n) := by
  obtain ⟨b1, b2, b3, b4, b5⟩ := id hB
  refine ⟨b1, b2, b3, b4, fun i j => ?_⟩
  show -20 ≤ (if i = p ∧ j < n then (if j = q then 1 else 0) else rL S i j) ∧ (if i = p ∧ j < n then (if j = q then (1 : Int) else 0) else rL S i j) ≤ 20
  have := b5 i j
  split
  · split <;> omega
  · exact this
theorem alone_step {S : Rm} {p q n : Nat} {l : Int} (hl : l = if n = q then 1 else 0) : rLean (rAlone S p q n) p n l = rAlone S p q (n + 1) := by
  unfold rLean rAlone
  congr
  funext i j
  show (if i = p ∧ j = n then l else if i = p ∧ j < n then (if j = q then 1 else 0) else rL S i j) = (if i = p ∧ j < n + 1 then (if j = q then 1 else 0) else rL S i j)
  by_cases h1 : i = p
  · by_cases h2 : j = n
    · subst h2; simp [h1, hl]
    · have : (j < n + 1) ↔ (j < n) := by omega
      simp [h1, h2, this]
  · simp [h1]
theorem alone_zero {S : Rm} {p q : Nat} : rAlone S p q 0 = S := by
  unfold rAlone
  simp
def rAdd (S : Rm) (k x y : Nat) : Rm := (rW S, rH S, rN S + 1, rT S, up1 (rK S) (rN S) k, up1 (rV S) (rN S) 0, up1 (rX S) (rN S) x, up1 (rY S) (rN S) y, rL S)
def rClear : Rm := (6, 6, 0, 0, fun _ => 0, fun _ => 0, fun _ => 0, fun _ => 0, fun _ _ => 0)
theorem mix_zero {S : Rm} : rSetV S (mixV S 0) (rT S) = S := by
  unfold rSetV
  have : mixV S 0 = rV S := by funext i; simp [mixV]
  rw [this]
theorem mix_B {S : Rm} (hB : RmB S) (p : Nat) : RmB (rSetV S (mixV S p) (rT S)) := by
  obtain ⟨b1, b2, b3, b4, b5⟩ := id hB
  refine ⟨b1, b2, b3, fun i hi => ⟨(b4 i hi).1, ?_, (b4 i hi).2.2⟩, b5⟩
  show mixV S p i < 8
  unfold mixV
  split
  · exact vaneF_lt hB hi
  · exact (b4 i hi).2.1
theorem mix_row {S : Rm} {p n : Nat} {vs : List Int32} (h : ∀ i, i < n → vs[i]? = some (nI (mixV S p i))) (hp : p < vs.length) : ∀ i, i < n → (vs.set p (nI (vaneF S p)))[i]? = some (nI (mixV S (p + 1) i)) := by
  intro i hi
  by_cases e : i = p
  · subst e
    rw [List.getElem?_set_self hp]
    unfold mixV
    rw [if_pos (by omega)]
  · rw [List.getElem?_set_ne (Ne.symm e), h i hi]
    unfold mixV
    by_cases h2 : i < p
    · rw [if_pos h2, if_pos (by omega)]
    · rw [if_neg h2, if_neg (by omega)]
theorem mix_end {S : Rm} {vs : List Int32} (h : ∀ i, i < rN S → vs[i]? = some (nI (mixV S (rN S) i))) : ∀ i, i < rN S → vs[i]? = some (nI (vaneF S i)) := by
  intro i hi
  rw [h i hi]
  unfold mixV
  rw [if_pos hi]
theorem draft_setV {S : Rm} {V : Nat → Nat} {t p : Nat} : draftF (rSetV S V t) p = draftF S p := draft_congr (S := rSetV S V t) (S' := S) rfl rfl rfl rfl p 63
end
section
set_option maxHeartbeats 1000000 in
theorem e_has (g : VG) (h : VHp) (r : Nat) (S : Rm) (hR : RoomAt h r S) (hB : RmB S) (p : Int) (hp : -2147483648 ≤ p ∧ p < 2147483648) : VE g mX3_has 1 false (0, 0) [.ref r, .int (iI p)] h (VP (vB (0 ≤ p ∧ p < ((rN S : Nat) : Int))) h) := by
  obtain ⟨kd, xs, ys, vs, ll, ho, hk, hx, hy, hv, hl, lk, lx, ly, lv, lL, ek, ex, ey, ev, eL⟩ := id hR
  obtain ⟨bn, bW, bH, bP, bL⟩ := id hB
  refine VE.of (by decide) rfl (Nat.le_of_ble_eq_true rfl) ?_
  show V _ _ 0 [some (.ref r), some (.int (iI p))] [] h
  refine V.iload_n dX3_has_0 rfl ?_
  refine V.aload_n dX3_has_1 rfl ?_
  refine V.get fX3_34 dX3_has_2 ho rfl ?_
  refine V.toZ1 ?_
  refine V.callSp cX3_46 (e_isBelow g h _ _ (by omega) (by omega)) dX3_has_5 (Nat.le_of_ble_eq_true rfl) rfl rfl (Nat.le_of_ble_eq_true rfl) ?_
  exact V.zret dX3_has_8 rfl (by first | exact vB_01 | decide) ⟨by first | (exfalso; omega) | (rfl), rfl⟩

set_option maxHeartbeats 1000000 in
theorem e_hasTwo (g : VG) (h : VHp) (r : Nat) (S : Rm) (hR : RoomAt h r S) (hB : RmB S) (a b : Int) (ha : -2147483648 ≤ a ∧ a < 2147483648) (hb : -2147483648 ≤ b ∧ b < 2147483648) : VE g mX3_hasTwo 2 false (0, 0) [.ref r, .int (iI a), .int (iI b)] h (VP (vB ((0 ≤ a ∧ a < ((rN S : Nat) : Int)) ∧ (0 ≤ b ∧ b < ((rN S : Nat) : Int)) ∧ a ≠ b)) h) := by
  obtain ⟨kd, xs, ys, vs, ll, ho, hk, hx, hy, hv, hl, lk, lx, ly, lv, lL, ek, ex, ey, ev, eL⟩ := id hR
  obtain ⟨bn, bW, bH, bP, bL⟩ := id hB
  refine VE.of (by decide) rfl (Nat.le_of_ble_eq_true rfl) ?_
  show V _ _ 0 [some (.ref r), some (.int (iI a)), some (.int (iI b))] [] h
  refine V.aload_n dX3_hasTwo_0 rfl ?_
  refine V.iload_n dX3_hasTwo_1 rfl ?_
  refine V.callVp (ci := 3) cX3_50 (e_has g h r S hR hB a (by omega)) dX3_hasTwo_2 (Nat.le_of_ble_eq_true rfl) rfl ho rfl rfl (Nat.le_of_ble_eq_true rfl) ?_
  refine V.if_eqB 25 dX3_hasTwo_5 (by decide) (fun hc1 => ?_) (fun hc1 => ?_)
  · skip
    refine V.iconst (v := nI 0) dX3_hasTwo_25 (by decide) ?_
    exact V.zret dX3_hasTwo_26 rfl (by first | exact vB_01 | decide) ⟨by first | (exfalso; omega) | (first | (rw [vB_t (by omega)]; rfl) | (rw [vB_f (by omega)]; rfl)), rfl⟩
  · skip
    refine V.aload_n dX3_hasTwo_8 rfl ?_
    refine V.iload_n dX3_hasTwo_9 rfl ?_
    refine V.callVp (ci := 3) cX3_50 (e_has g h r S hR hB b (by omega)) dX3_hasTwo_10 (Nat.le_of_ble_eq_true rfl) rfl ho rfl rfl (Nat.le_of_ble_eq_true rfl) ?_
    refine V.if_eqB 25 dX3_hasTwo_13 (by decide) (fun hc2 => ?_) (fun hc2 => ?_)
    · skip
      refine V.iconst (v := nI 0) dX3_hasTwo_25 (by decide) ?_
      exact V.zret dX3_hasTwo_26 rfl (by first | exact vB_01 | decide) ⟨by first | (exfalso; omega) | (first | (rw [vB_t (by omega)]; rfl) | (rw [vB_f (by omega)]; rfl)), rfl⟩
    · skip
      refine V.iload_n dX3_hasTwo_16 rfl ?_
      refine V.iload_n dX3_hasTwo_17 rfl ?_
      refine V.icmp_eqZ 25 dX3_hasTwo_18 (by decide) (by omega) (by omega) (fun hc3 => ?_) (fun hc3 => ?_)
      · skip
        refine V.iconst (v := nI 0) dX3_hasTwo_25 (by decide) ?_
        exact V.zret dX3_hasTwo_26 rfl (by first | exact vB_01 | decide) ⟨by first | (exfalso; omega) | (first | (rw [vB_t (by omega)]; rfl) | (rw [vB_f (by omega)]; rfl)), rfl⟩
      · skip
        refine V.iconst (v := nI 1) dX3_hasTwo_21 (by decide) ?_
        refine V.goto 26 dX3_hasTwo_22 (by decide) ?_
        exact V.zret dX3_hasTwo_26 rfl (by first | exact vB_01 | decide) ⟨by first | (exfalso; omega) | (first | (rw [vB_t (by omega)]; rfl) | (rw [vB_f (by omega)]; rfl)), rfl⟩

set_option maxHeartbeats 1000000 in
theorem e_reaches (g : VG) (h : VHp) (r : Nat) (S : Rm) (hR : RoomAt h r S) (hB : RmB S) (x y : Int) (hx0 : -2147483648 ≤ x ∧ x < 2147483648) (hy0 : -2147483648 ≤ y ∧ y < 2147483648) : VE g mX3_reaches 1 false (0, 0) [.ref r, .int (iI x), .int (iI y)] h (VP (vB (inF S x y)) h) := by
  obtain ⟨kd, xs, ys, vs, ll, ho, hk, hx, hy, hv, hl, lk, lx, ly, lv, lL, ek, ex, ey, ev, eL⟩ := id hR
  obtain ⟨bn, bW, bH, bP, bL⟩ := id hB
  refine VE.of (by decide) rfl (Nat.le_of_ble_eq_true rfl) ?_
  show V _ _ 0 [some (.ref r), some (.int (iI x)), some (.int (iI y))] [] h
  refine V.iload_n dX3_reaches_0 rfl ?_
  refine V.aload_n dX3_reaches_1 rfl ?_
  refine V.get fX3_27 dX3_reaches_2 ho rfl ?_
  refine V.toZ1 ?_
  refine V.callSp cX3_46 (e_isBelow g h _ _ (by omega) (by omega)) dX3_reaches_5 (Nat.le_of_ble_eq_true rfl) rfl rfl (Nat.le_of_ble_eq_true rfl) ?_
  refine V.if_eqB 26 dX3_reaches_8 (by decide) (fun hc1 => ?_) (fun hc1 => ?_)
  · skip
    refine V.iconst (v := nI 0) dX3_reaches_26 (by decide) ?_
    exact V.zret dX3_reaches_27 rfl (by first | exact vB_01 | decide) ⟨by first | (exfalso; omega) | (first | (rw [vB_t (by omega)]; rfl) | (rw [vB_f (by omega)]; rfl)), rfl⟩
  · skip
    refine V.iload_n dX3_reaches_11 rfl ?_
    refine V.aload_n dX3_reaches_12 rfl ?_
    refine V.get fX3_31 dX3_reaches_13 ho rfl ?_
    refine V.toZ1 ?_
    refine V.callSp cX3_46 (e_isBelow g h _ _ (by omega) (by omega)) dX3_reaches_16 (Nat.le_of_ble_eq_true rfl) rfl rfl (Nat.le_of_ble_eq_true rfl) ?_
    refine V.if_eqB 26 dX3_reaches_19 (by decide) (fun hc2 => ?_) (fun hc2 => ?_)
    · skip
      refine V.iconst (v := nI 0) dX3_reaches_26 (by decide) ?_
      exact V.zret dX3_reaches_27 rfl (by first | exact vB_01 | decide) ⟨by first | (exfalso; omega) | (first | (rw [vB_t (by omega)]; rfl) | (rw [vB_f (by omega)]; rfl)), rfl⟩
    · skip
      refine V.iconst (v := nI 1) dX3_reaches_22 (by decide) ?_
      refine V.goto 27 dX3_reaches_23 (by decide) ?_
      exact V.zret dX3_reaches_27 rfl (by first | exact vB_01 | decide) ⟨by first | (exfalso; omega) | (first | (rw [vB_t (by omega)]; rfl) | (rw [vB_f (by omega)]; rfl)), rfl⟩

set_option maxHeartbeats 1000000 in
theorem e_isFreeFor (g : VG) (h : VHp) (r : Nat) (S : Rm) (hR : RoomAt h r S) (hB : RmB S) (p x y : Nat) (hp : p < rN S) (hx0 : x < 100) (hy0 : y < 100) : VE g mX3_isFreeFor 1 false (0, 0) [.ref r, .int (nI p), .int (nI x), .int (nI y)] h (VP (vB (whoF S x y (rN S) = none ∨ whoF S x y (rN S) = some p)) h) := by
  obtain ⟨kd, xs, ys, vs, ll, ho, hk, hx, hy, hv, hl, lk, lx, ly, lv, lL, ek, ex, ey, ev, eL⟩ := id hR
  obtain ⟨bn, bW, bH, bP, bL⟩ := id hB
  have hlt : ∀ i, whoF S x y (rN S) = some i → i < 1000 := fun i q => by have := (whoF_lt q).1; omega
  refine VE.of (by decide) rfl (Nat.le_of_ble_eq_true rfl) ?_
  show V _ _ 0 [some (.ref r), some (.int (nI p)), some (.int (nI x)), some (.int (nI y)), none] [] h
  refine V.aload_n dX3_isFreeFor_0 rfl ?_
  refine V.iload_n dX3_isFreeFor_1 rfl ?_
  refine V.iload_n dX3_isFreeFor_2 rfl ?_
  refine V.callVp (ci := 3) cX3_54 (e_whoIsAt g h r S hR hB x y (by omega) (by omega)) dX3_isFreeFor_3 (Nat.le_of_ble_eq_true rfl) rfl ho rfl rfl (Nat.le_of_ble_eq_true rfl) ?_
  refine V.istore dX3_isFreeFor_6 rfl rfl ?_
  dsimp only [List.set]
  refine V.iload dX3_isFreeFor_8 rfl ?_
  refine V.bipush (v := iI (-4)) dX3_isFreeFor_10 (by decide) ?_
  refine V.icmp_eq 21 dX3_isFreeFor_12 (by decide) (fun hc1 => ?_) (fun hc1 => ?_)
  · skip
    refine V.iconst (v := nI 1) dX3_isFreeFor_21 (by decide) ?_
    refine V.goto 26 dX3_isFreeFor_22 (by decide) ?_
    exact V.zret dX3_isFreeFor_26 rfl (by first | exact vB_01 | decide) ⟨by first | (exfalso; omega) | (first | (rw [vB_t (by first | exact Or.inl ((eO_none hlt).mp (by assumption)) | exact Or.inr ((eO_some hlt (by omega)).mp (by assumption)))]; rfl) | (rw [vB_f (fun q => q.elim (fun q => (by assumption : ¬ eO (whoF S x y (rN S)) = iI (-4)) ((eO_none hlt).mpr q)) (fun q => (by assumption : ¬ eO (whoF S x y (rN S)) = nI p) ((eO_some hlt (by omega)).mpr q)))]; rfl)), rfl⟩
  · skip
    refine V.iload dX3_isFreeFor_15 rfl ?_
    refine V.iload_n dX3_isFreeFor_17 rfl ?_
    refine V.icmp_ne 25 dX3_isFreeFor_18 (by decide) (fun hc2 => ?_) (fun hc2 => ?_)
    · skip
      refine V.iconst (v := nI 0) dX3_isFreeFor_25 (by decide) ?_
      exact V.zret dX3_isFreeFor_26 rfl (by first | exact vB_01 | decide) ⟨by first | (exfalso; omega) | (first | (rw [vB_t (by first | exact Or.inl ((eO_none hlt).mp (by assumption)) | exact Or.inr ((eO_some hlt (by omega)).mp (by assumption)))]; rfl) | (rw [vB_f (fun q => q.elim (fun q => (by assumption : ¬ eO (whoF S x y (rN S)) = iI (-4)) ((eO_none hlt).mpr q)) (fun q => (by assumption : ¬ eO (whoF S x y (rN S)) = nI p) ((eO_some hlt (by omega)).mpr q)))]; rfl)), rfl⟩
    · skip
      refine V.iconst (v := nI 1) dX3_isFreeFor_21 (by decide) ?_
      refine V.goto 26 dX3_isFreeFor_22 (by decide) ?_
      exact V.zret dX3_isFreeFor_26 rfl (by first | exact vB_01 | decide) ⟨by first | (exfalso; omega) | (first | (rw [vB_t (by first | exact Or.inl ((eO_none hlt).mp (by assumption)) | exact Or.inr ((eO_some hlt (by omega)).mp (by assumption)))]; rfl) | (rw [vB_f (fun q => q.elim (fun q => (by assumption : ¬ eO (whoF S x y (rN S)) = iI (-4)) ((eO_none hlt).mpr q)) (fun q => (by assumption : ¬ eO (whoF S x y (rN S)) = nI p) ((eO_some hlt (by omega)).mpr q)))]; rfl)), rfl⟩

set_option maxHeartbeats 1000000 in
theorem e_canStep (g : VG) (h : VHp) (r : Nat) (S : Rm) (hR : RoomAt h r S) (hB : RmB S) (p side : Nat) (hp : p < rN S) (hs : side < 4) : VE g mX3_canStep 2 false (0, 0) [.ref r, .int (nI p), .int (nI side)] h (VP (vB (canF S p side)) h) := by
  obtain ⟨kd, xs, ys, vs, ll, ho, hk, hx, hy, hv, hl, lk, lx, ly, lv, lL, ek, ex, ey, ev, eL⟩ := id hR
  obtain ⟨bn, bW, bH, bP, bL⟩ := id hB
  have es : sxF S p side = (rX S p : Int) + dxF side := rfl
  have et : syF S p side = (rY S p : Int) + dyF side := rfl
  have b1 := dx_bd side
  have b2 := dy_bd side
  have bp := bP p hp
  have hlt : ∀ i, whoF S (sxF S p side).toNat (syF S p side).toNat (rN S) = some i → i < 1000 := fun i q => by have := (whoF_lt q).1; omega
  refine VE.of (by decide) rfl (Nat.le_of_ble_eq_true rfl) ?_
  show V _ _ 0 [some (.ref r), some (.int (nI p)), some (.int (nI side)), none, none] [] h
  refine V.aload_n dX3_canStep_0 rfl ?_
  refine V.get fX3_15 dX3_canStep_1 ho rfl ?_
  refine V.iload_n dX3_canStep_4 rfl ?_
  refine V.iald dX3_canStep_5 hx rfl (by omega) (ex _ (by omega)) ?_
  refine V.gets1 (Or.inr ⟨"HeartVanes", w9_485⟩) dX3_canStep_6 ?_
  refine V.iload_n dX3_canStep_9 rfl ?_
  refine V.ald1 dX3_canStep_10 rfl (by omega) ?_
  refine V.re (vea_d _ (by omega)) ?_
  refine V.toZ2 ?_
  refine V.iaddZ dX3_canStep_11 ?_
  refine V.re (y := iI (sxF S p side)) rfl ?_
  refine V.istore_n (i := 3) dX3_canStep_12 rfl rfl rfl ?_
  dsimp only [List.set]
  refine V.aload_n dX3_canStep_13 rfl ?_
  refine V.get fX3_18 dX3_canStep_14 ho rfl ?_
  refine V.iload_n dX3_canStep_17 rfl ?_
  refine V.iald dX3_canStep_18 hy rfl (by omega) (ey _ (by omega)) ?_
  refine V.gets2 (Or.inr ⟨"HeartVanes", w9_487⟩) dX3_canStep_19 ?_
  refine V.iload_n dX3_canStep_22 rfl ?_
  refine V.ald2 dX3_canStep_23 rfl (by omega) ?_
  refine V.re (vso_d _ (by omega)) ?_
  refine V.toZ2 ?_
  refine V.iaddZ dX3_canStep_24 ?_
  refine V.re (y := iI (syF S p side)) rfl ?_
  refine V.istore dX3_canStep_25 rfl rfl ?_
  dsimp only [List.set]
  refine V.aload_n dX3_canStep_27 rfl ?_
  refine V.iload_n dX3_canStep_28 rfl ?_
  refine V.iload dX3_canStep_29 rfl ?_
  refine V.callVp (ci := 3) cX3_64 (e_reaches g h r S hR hB (sxF S p side) (syF S p side) (by omega) (by omega)) dX3_canStep_31 (Nat.le_of_ble_eq_true rfl) rfl ho rfl rfl (Nat.le_of_ble_eq_true rfl) ?_
  refine V.if_eqB 53 dX3_canStep_34 (by decide) (fun hc1 => ?_) (fun hc1 => ?_)
  · skip
    refine V.iconst (v := nI 0) dX3_canStep_53 (by decide) ?_
    exact V.zret dX3_canStep_54 rfl (by first | exact vB_01 | decide) ⟨by first | (exfalso; omega) | (first | (rw [vB_t ⟨by assumption, (eO_none hlt).mp (by assumption)⟩]; rfl) | (rw [vB_f (fun q => absurd q.1 (by assumption))]; rfl) | (rw [vB_f (fun q => absurd ((eO_none hlt).mpr q.2) (by assumption))]; rfl)), rfl⟩
  · skip
    refine V.aload_n dX3_canStep_37 rfl ?_
    refine V.iload_n dX3_canStep_38 rfl ?_
    refine V.iload dX3_canStep_39 rfl ?_
    refine V.re (iI_toN (n := (syF S p side).toNat) (by omega)) ?_
    refine V.re2 (iI_toN (n := (sxF S p side).toNat) (by omega)) ?_
    refine V.callVp (ci := 3) cX3_54 (e_whoIsAt g h r S hR hB (sxF S p side).toNat (syF S p side).toNat (by omega) (by omega)) dX3_canStep_41 (Nat.le_of_ble_eq_true rfl) rfl ho rfl rfl (Nat.le_of_ble_eq_true rfl) ?_
    refine V.bipush (v := iI (-4)) dX3_canStep_44 (by decide) ?_
    refine V.icmp_ne 53 dX3_canStep_46 (by decide) (fun hc2 => ?_) (fun hc2 => ?_)
    · skip
      refine V.iconst (v := nI 0) dX3_canStep_53 (by decide) ?_
      exact V.zret dX3_canStep_54 rfl (by first | exact vB_01 | decide) ⟨by first | (exfalso; omega) | (first | (rw [vB_t ⟨by assumption, (eO_none hlt).mp (by assumption)⟩]; rfl) | (rw [vB_f (fun q => absurd q.1 (by assumption))]; rfl) | (rw [vB_f (fun q => absurd ((eO_none hlt).mpr q.2) (by assumption))]; rfl)), rfl⟩
    · skip
      refine V.iconst (v := nI 1) dX3_canStep_49 (by decide) ?_
      refine V.goto 54 dX3_canStep_50 (by decide) ?_
      exact V.zret dX3_canStep_54 rfl (by first | exact vB_01 | decide) ⟨by first | (exfalso; omega) | (first | (rw [vB_t ⟨by assumption, (eO_none hlt).mp (by assumption)⟩]; rfl) | (rw [vB_f (fun q => absurd q.1 (by assumption))]; rfl) | (rw [vB_f (fun q => absurd ((eO_none hlt).mpr q.2) (by assumption))]; rfl)), rfl⟩

set_option maxHeartbeats 1000000 in
theorem e_put (g : VG) (h : VHp) (r : Nat) (S : Rm) (hR : RoomAt h r S) (hB : RmB S) (p x y : Nat) (hp : p < rN S) : VE g mX3_put 0 false (0, 0) [.ref r, .int (nI p), .int (nI x), .int (nI y)] h (VRm r (rPut S p x y) h none) := by
  obtain ⟨kd, xs, ys, vs, ll, hw, ek, ex, ey, ev, eL⟩ := hR.raw
  obtain ⟨ho, hk, hx, hy, hv, hl, lk, lx, ly, lv, lL⟩ := id hw
  obtain ⟨bn, bW, bH, bP, bL⟩ := id hB
  have hf : VFr r (r + 6) h h := VFr.rf
  have lxo := lx
  have lyo := ly
  refine VE.of (by decide) rfl (Nat.le_of_ble_eq_true rfl) ?_
  show V _ _ 0 [some (.ref r), some (.int (nI p)), some (.int (nI x)), some (.int (nI y))] [] h
  refine V.aload_n dX3_put_0 rfl ?_
  refine V.get fX3_15 dX3_put_1 ho rfl ?_
  refine V.iload_n dX3_put_4 rfl ?_
  refine V.iload_n dX3_put_5 rfl ?_
  refine V.iast dX3_put_6 hx rfl (by omega) (by rw [lx]; omega) ?_
  have hw := RawAt.w2 hw (xs.set p (nI x)) (by rw [List.length_set]; exact lx)
  have hf := hf.tr (VFr.set (lo := r) (hi := r + 6) (a := r + 2) (c := .inl (xs.set p (nI x))) (by omega) (by omega))
  generalize h.set (r + 2) (Sum.inl (xs.set p (nI x))) = h at hw hf ⊢
  obtain ⟨ho, hk, hx, hy, hv, hl, lk, lx, ly, lv, lL⟩ := id hw
  refine V.aload_n dX3_put_7 rfl ?_
  refine V.get fX3_18 dX3_put_8 ho rfl ?_
  refine V.iload_n dX3_put_11 rfl ?_
  refine V.iload_n dX3_put_12 rfl ?_
  refine V.iast dX3_put_13 hy rfl (by omega) (by rw [ly]; omega) ?_
  have hw := RawAt.w3 hw (ys.set p (nI y)) (by rw [List.length_set]; exact ly)
  have hf := hf.tr (VFr.set (lo := r) (hi := r + 6) (a := r + 3) (c := .inl (ys.set p (nI y))) (by omega) (by omega))
  generalize h.set (r + 3) (Sum.inl (ys.set p (nI y))) = h at hw hf ⊢
  obtain ⟨ho, hk, hx, hy, hv, hl, lk, lx, ly, lv, lL⟩ := id hw
  exact V.vret dX3_put_14 rfl ⟨rfl, hw.room (S := rPut S p x y) ⟨ek, row_set ex (by rw [lxo]; omega), row_set ey (by rw [lyo]; omega), ev, eL⟩ rfl rfl rfl rfl, hf⟩

set_option maxHeartbeats 1000000 in
theorem e_step (g : VG) (h : VHp) (r : Nat) (S : Rm) (hR : RoomAt h r S) (hB : RmB S) (p side : Nat) (hp : p < rN S) (hs : side < 4) (hc : inF S (sxF S p side) (syF S p side)) : VE g mX3_step 1 false (0, 0) [.ref r, .int (nI p), .int (nI side)] h (VRm r (rStep S p side) h none) := by
  obtain ⟨kd, xs, ys, vs, ll, ho, hk, hx, hy, hv, hl, lk, lx, ly, lv, lL, ek, ex, ey, ev, eL⟩ := id hR
  obtain ⟨bn, bW, bH, bP, bL⟩ := id hB
  have es : sxF S p side = (rX S p : Int) + dxF side := rfl
  have et : syF S p side = (rY S p : Int) + dyF side := rfl
  have b1 := dx_bd side
  have b2 := dy_bd side
  have bp := bP p hp
  refine VE.of (by decide) rfl (Nat.le_of_ble_eq_true rfl) ?_
  show V _ _ 0 [some (.ref r), some (.int (nI p)), some (.int (nI side))] [] h
  refine V.aload_n dX3_step_0 rfl ?_
  refine V.iload_n dX3_step_1 rfl ?_
  refine V.aload_n dX3_step_2 rfl ?_
  refine V.get fX3_15 dX3_step_3 ho rfl ?_
  refine V.iload_n dX3_step_6 rfl ?_
  refine V.iald dX3_step_7 hx rfl (by omega) (ex _ (by omega)) ?_
  refine V.gets1 (Or.inr ⟨"HeartVanes", w9_485⟩) dX3_step_8 ?_
  refine V.iload_n dX3_step_11 rfl ?_
  refine V.ald1 dX3_step_12 rfl (by omega) ?_
  refine V.re (vea_d _ (by omega)) ?_
  refine V.toZ2 ?_
  refine V.iaddZ dX3_step_13 ?_
  refine V.re (y := iI (sxF S p side)) rfl ?_
  refine V.aload_n dX3_step_14 rfl ?_
  refine V.get fX3_18 dX3_step_15 ho rfl ?_
  refine V.iload_n dX3_step_18 rfl ?_
  refine V.iald dX3_step_19 hy rfl (by omega) (ey _ (by omega)) ?_
  refine V.gets2 (Or.inr ⟨"HeartVanes", w9_487⟩) dX3_step_20 ?_
  refine V.iload_n dX3_step_23 rfl ?_
  refine V.ald2 dX3_step_24 rfl (by omega) ?_
  refine V.re (vso_d _ (by omega)) ?_
  refine V.toZ2 ?_
  refine V.iaddZ dX3_step_25 ?_
  refine V.re (y := iI (syF S p side)) rfl ?_
  refine V.re (iI_toN (n := (syF S p side).toNat) (by omega)) ?_
  refine V.re2 (iI_toN (n := (sxF S p side).toNat) (by omega)) ?_
  refine V.callV (ci := 3) cX3_67 (e_put g h r S hR hB p (sxF S p side).toNat (syF S p side).toNat hp) dX3_step_26 (Nat.le_of_ble_eq_true rfl) rfl ho rfl rfl (Nat.le_of_ble_eq_true rfl) (fun v_ h_ hp_ => ?_)
  obtain ⟨rfl, hR1, hf1⟩ := hp_
  dsimp only [Option.toList, List.nil_append]
  exact V.vret dX3_step_29 rfl ⟨rfl, hR1, hf1⟩

set_option maxHeartbeats 1000000 in
theorem e_setLeaning (g : VG) (h : VHp) (r : Nat) (S : Rm) (hR : RoomAt h r S) (hB : RmB S) (a b : Nat) (l : Int) (ha : a < 6) (hb : b < 6) : VE g mX3_setLeaning 0 false (0, 0) [.ref r, .int (nI a), .int (nI b), .int (iI l)] h (VRm r (rLean S a b l) h none) := by
  obtain ⟨kd, xs, ys, vs, ll, hw, ek, ex, ey, ev, eL⟩ := hR.raw
  obtain ⟨ho, hk, hx, hy, hv, hl, lk, lx, ly, lv, lL⟩ := id hw
  obtain ⟨bn, bW, bH, bP, bL⟩ := id hB
  have hf : VFr r (r + 6) h h := VFr.rf
  have lLo := lL
  refine VE.of (by decide) rfl (Nat.le_of_ble_eq_true rfl) ?_
  show V _ _ 0 [some (.ref r), some (.int (nI a)), some (.int (nI b)), some (.int (iI l))] [] h
  refine V.aload_n dX3_setLeaning_0 rfl ?_
  refine V.get fX3_24 dX3_setLeaning_1 ho rfl ?_
  refine V.bipush (v := nI 6) dX3_setLeaning_4 (by decide) ?_
  refine V.iload_n dX3_setLeaning_6 rfl ?_
  refine V.imulN dX3_setLeaning_7 ?_
  refine V.iload_n dX3_setLeaning_8 rfl ?_
  refine V.iaddN dX3_setLeaning_9 ?_
  refine V.iload_n dX3_setLeaning_10 rfl ?_
  refine V.iast dX3_setLeaning_11 hl rfl (by omega) (by rw [lL]; omega) ?_
  have hw := RawAt.w5 hw (ll.set (6 * a + b) (iI l)) (by rw [List.length_set]; exact lL)
  have hf := hf.tr (VFr.set (lo := r) (hi := r + 6) (a := r + 5) (c := .inl (ll.set (6 * a + b) (iI l))) (by omega) (by omega))
  generalize h.set (r + 5) (Sum.inl (ll.set (6 * a + b) (iI l))) = h at hw hf ⊢
  obtain ⟨ho, hk, hx, hy, hv, hl, lk, lx, ly, lv, lL⟩ := id hw
  exact V.vret dX3_setLeaning_12 rfl ⟨rfl, hw.room (S := rLean S a b l) ⟨ek, ex, ey, ev, lean_set eL lLo ha hb⟩ rfl rfl rfl rfl, hf⟩

set_option maxHeartbeats 1000000 in
theorem e_tellsToward (g : VG) (h : VHp) (r : Nat) (S : Rm) (hR : RoomAt h r S) (hB : RmB S) (p q : Nat) (hp : p < rN S) (hq : q < rN S) : VE g mX3_tellsToward 2 false (0, 0) [.ref r, .int (nI p), .int (nI q)] h (VP (vB (tellF S p q)) h) := by
  obtain ⟨kd, xs, ys, vs, ll, ho, hk, hx, hy, hv, hl, lk, lx, ly, lv, lL, ek, ex, ey, ev, eL⟩ := id hR
  obtain ⟨bn, bW, bH, bP, bL⟩ := id hB
  have bp := bP p hp
  have bq := bP q hq
  have hlt : ∀ i, wayF ((rX S q : Int) - rX S p) ((rY S q : Int) - rY S p) = some i → i < 1000 := fun i z => by have := wayF_lt z; omega
  refine VE.of (by decide) rfl (Nat.le_of_ble_eq_true rfl) ?_
  show V _ _ 0 [some (.ref r), some (.int (nI p)), some (.int (nI q))] [] h
  refine V.iload_n dX3_tellsToward_0 rfl ?_
  refine V.iload_n dX3_tellsToward_1 rfl ?_
  refine V.icmp_eqN 47 dX3_tellsToward_2 (by decide) (by omega) (by omega) (fun hc1 => ?_) (fun hc1 => ?_)
  · skip
    refine V.iconst (v := nI 0) dX3_tellsToward_47 (by decide) ?_
    exact V.zret dX3_tellsToward_48 rfl (by first | exact vB_01 | decide) ⟨by first | (exfalso; omega) | (first | (rw [vB_t ⟨by omega, (eO_some hlt (by omega)).mp (by assumption)⟩]; rfl) | (rw [vB_f (fun z => z.1 (by omega))]; rfl) | (rw [vB_f (fun z => absurd ((eO_some hlt (by omega)).mpr z.2) (by assumption))]; rfl)), rfl⟩
  · skip
    refine V.aload_n dX3_tellsToward_5 rfl ?_
    refine V.get fX3_15 dX3_tellsToward_6 ho rfl ?_
    refine V.iload_n dX3_tellsToward_9 rfl ?_
    refine V.iald dX3_tellsToward_10 hx rfl (by omega) (ex _ (by omega)) ?_
    refine V.aload_n dX3_tellsToward_11 rfl ?_
    refine V.get fX3_15 dX3_tellsToward_12 ho rfl ?_
    refine V.iload_n dX3_tellsToward_15 rfl ?_
    refine V.iald dX3_tellsToward_16 hx rfl (by omega) (ex _ (by omega)) ?_
    refine V.toZ1 ?_
    refine V.toZ2 ?_
    refine V.isubZ dX3_tellsToward_17 ?_
    refine V.aload_n dX3_tellsToward_18 rfl ?_
    refine V.get fX3_18 dX3_tellsToward_19 ho rfl ?_
    refine V.iload_n dX3_tellsToward_22 rfl ?_
    refine V.iald dX3_tellsToward_23 hy rfl (by omega) (ey _ (by omega)) ?_
    refine V.aload_n dX3_tellsToward_24 rfl ?_
    refine V.get fX3_18 dX3_tellsToward_25 ho rfl ?_
    refine V.iload_n dX3_tellsToward_28 rfl ?_
    refine V.iald dX3_tellsToward_29 hy rfl (by omega) (ey _ (by omega)) ?_
    refine V.toZ1 ?_
    refine V.toZ2 ?_
    refine V.isubZ dX3_tellsToward_30 ?_
    refine V.callSp cX3_92 (e_wayBy g h _ _ (by omega) (by omega)) dX3_tellsToward_31 (Nat.le_of_ble_eq_true rfl) rfl rfl (Nat.le_of_ble_eq_true rfl) ?_
    refine V.aload_n dX3_tellsToward_34 rfl ?_
    refine V.get fX3_21 dX3_tellsToward_35 ho rfl ?_
    refine V.iload_n dX3_tellsToward_38 rfl ?_
    refine V.iald dX3_tellsToward_39 hv rfl (by omega) (ev _ (by omega)) ?_
    refine V.icmp_ne 47 dX3_tellsToward_40 (by decide) (fun hc2 => ?_) (fun hc2 => ?_)
    · skip
      refine V.iconst (v := nI 0) dX3_tellsToward_47 (by decide) ?_
      exact V.zret dX3_tellsToward_48 rfl (by first | exact vB_01 | decide) ⟨by first | (exfalso; omega) | (first | (rw [vB_t ⟨by omega, (eO_some hlt (by omega)).mp (by assumption)⟩]; rfl) | (rw [vB_f (fun z => z.1 (by omega))]; rfl) | (rw [vB_f (fun z => absurd ((eO_some hlt (by omega)).mpr z.2) (by assumption))]; rfl)), rfl⟩
    · skip
      refine V.iconst (v := nI 1) dX3_tellsToward_43 (by decide) ?_
      refine V.goto 48 dX3_tellsToward_44 (by decide) ?_
      exact V.zret dX3_tellsToward_48 rfl (by first | exact vB_01 | decide) ⟨by first | (exfalso; omega) | (first | (rw [vB_t ⟨by omega, (eO_some hlt (by omega)).mp (by assumption)⟩]; rfl) | (rw [vB_f (fun z => z.1 (by omega))]; rfl) | (rw [vB_f (fun z => absurd ((eO_some hlt (by omega)).mpr z.2) (by assumption))]; rfl)), rfl⟩
end
section
set_option maxHeartbeats 1000000 in
theorem e_lookersAt (g : VG) (h : VHp) (r : Nat) (S : Rm) (hR : RoomAt h r S) (hB : RmB S) (q : Nat) (hq : q < rN S) : VE g mX3_lookersAt 3 false (0, 0) [.ref r, .int (nI q)] h (VP (nI (cntP (fun i => tellF S i q) (rN S))) h) := by
  obtain ⟨kd, xs, ys, vs, ll, ho, hk, hx, hy, hv, hl, lk, lx, ly, lv, lL, ek, ex, ey, ev, eL⟩ := id hR
  obtain ⟨bn, bW, bH, bP, bL⟩ := id hB
  refine VE.of (by decide) rfl (Nat.le_of_ble_eq_true rfl) ?_
  have L : ∀ i, i ≤ rN S → V (g, mX3_lookersAt, 3, false, h.length, VP (nI (cntP (fun i => tellF S i q) (rN S))) h) (0, 0) 4 [some (.ref r), some (.int (nI q)), some (.int (nI (cntP (fun i => tellF S i q) i))), some (.int (nI i))] [] h := by
    refine vloop (rN S) (fun i ih hi => ?_)
    refine V.iload_n dX3_lookersAt_4 rfl ?_
    refine V.aload_n dX3_lookersAt_5 rfl ?_
    refine V.get fX3_34 dX3_lookersAt_6 ho rfl ?_
    refine V.icmp_geN 30 dX3_lookersAt_9 (by decide) (by omega) (by omega) (fun hc1 => ?_) (fun hc1 => ?_)
    · skip
      refine V.iload_n dX3_lookersAt_30 rfl ?_
      exact V.iret dX3_lookersAt_31 rfl ⟨by first | (exfalso; omega) | (obtain rfl : i = rN S := (by omega); rfl), rfl⟩
    · skip
      refine V.aload_n dX3_lookersAt_12 rfl ?_
      refine V.iload_n dX3_lookersAt_13 rfl ?_
      refine V.iload_n dX3_lookersAt_14 rfl ?_
      refine V.callVp (ci := 3) cX3_112 (e_tellsToward g h r S hR hB i q (by omega) hq) dX3_lookersAt_15 (Nat.le_of_ble_eq_true rfl) rfl ho rfl rfl (Nat.le_of_ble_eq_true rfl) ?_
      refine V.if_eqB 24 dX3_lookersAt_18 (by decide) (fun hc2 => ?_) (fun hc2 => ?_)
      · skip
        refine V.iincN (n := 1) dX3_lookersAt_24 rfl rfl rfl ?_
        dsimp only [List.set]
        refine V.goto 4 dX3_lookersAt_27 (by decide) ?_
        have z := ih (i + 1) (by omega) (by omega)
        first | (rw [cntP_pos (P := fun i => tellF S i q) (n := i) (by first | assumption | omega)] at z; exact z) | (rw [cntP_neg (P := fun i => tellF S i q) (n := i) (by first | assumption | omega)] at z; exact z)
      · skip
        refine V.iincN (n := 1) dX3_lookersAt_21 rfl rfl rfl ?_
        dsimp only [List.set]
        refine V.iincN (n := 1) dX3_lookersAt_24 rfl rfl rfl ?_
        dsimp only [List.set]
        refine V.goto 4 dX3_lookersAt_27 (by decide) ?_
        have z := ih (i + 1) (by omega) (by omega)
        first | (rw [cntP_pos (P := fun i => tellF S i q) (n := i) (by first | assumption | omega)] at z; exact z) | (rw [cntP_neg (P := fun i => tellF S i q) (n := i) (by first | assumption | omega)] at z; exact z)
  show V _ _ 0 [some (.ref r), some (.int (nI q)), none, none] [] h
  refine V.iconst (v := nI 0) dX3_lookersAt_0 (by decide) ?_
  refine V.istore_n (i := 2) dX3_lookersAt_1 rfl rfl rfl ?_
  dsimp only [List.set]
  refine V.iconst (v := nI 0) dX3_lookersAt_2 (by decide) ?_
  refine V.istore_n (i := 3) dX3_lookersAt_3 rfl rfl rfl ?_
  dsimp only [List.set]
  exact L 0 (by omega)

set_option maxHeartbeats 1000000 in
theorem e_howManyFeelADraft (g : VG) (h : VHp) (r : Nat) (S : Rm) (hR : RoomAt h r S) (hB : RmB S)  : VE g mX3_howManyFeelADraft 5 false (0, 0) [.ref r] h (VP (nI (cntP (fun i => draftF S i ≠ none) (rN S))) h) := by
  obtain ⟨kd, xs, ys, vs, ll, ho, hk, hx, hy, hv, hl, lk, lx, ly, lv, lL, ek, ex, ey, ev, eL⟩ := id hR
  obtain ⟨bn, bW, bH, bP, bL⟩ := id hB
  have hdl : ∀ i w, draftF S i = some w → w < 1000 := fun i w z => by have := draftF_lt z; omega
  refine VE.of (by decide) rfl (Nat.le_of_ble_eq_true rfl) ?_
  have L : ∀ i, i ≤ rN S → V (g, mX3_howManyFeelADraft, 5, false, h.length, VP (nI (cntP (fun i => draftF S i ≠ none) (rN S))) h) (0, 0) 4 [some (.ref r), some (.int (nI (cntP (fun i => draftF S i ≠ none) i))), some (.int (nI i))] [] h := by
    refine vloop (rN S) (fun i ih hi => ?_)
    refine V.iload_n dX3_howManyFeelADraft_4 rfl ?_
    refine V.aload_n dX3_howManyFeelADraft_5 rfl ?_
    refine V.get fX3_34 dX3_howManyFeelADraft_6 ho rfl ?_
    refine V.icmp_geN 31 dX3_howManyFeelADraft_9 (by decide) (by omega) (by omega) (fun hc1 => ?_) (fun hc1 => ?_)
    · skip
      refine V.iload_n dX3_howManyFeelADraft_31 rfl ?_
      exact V.iret dX3_howManyFeelADraft_32 rfl ⟨by first | (exfalso; omega) | (obtain rfl : i = rN S := (by omega); rfl), rfl⟩
    · skip
      refine V.aload_n dX3_howManyFeelADraft_12 rfl ?_
      refine V.iload_n dX3_howManyFeelADraft_13 rfl ?_
      refine V.callVp (ci := 3) cX3_98 (e_draft g h r S hR hB i (by omega)) dX3_howManyFeelADraft_14 (Nat.le_of_ble_eq_true rfl) rfl ho rfl rfl (Nat.le_of_ble_eq_true rfl) ?_
      refine V.bipush (v := iI (-4)) dX3_howManyFeelADraft_17 (by decide) ?_
      refine V.icmp_eq 25 dX3_howManyFeelADraft_19 (by decide) (fun hc2 => ?_) (fun hc2 => ?_)
      · skip
        replace hc2 : ¬ (draftF S i ≠ none) := fun z => z ((eO_none (hdl i)).mp hc2)
        refine V.iincN (n := 1) dX3_howManyFeelADraft_25 rfl rfl rfl ?_
        dsimp only [List.set]
        refine V.goto 4 dX3_howManyFeelADraft_28 (by decide) ?_
        have z := ih (i + 1) (by omega) (by omega)
        first | (rw [cntP_pos (P := fun i => draftF S i ≠ none) (n := i) (by first | assumption | omega)] at z; exact z) | (rw [cntP_neg (P := fun i => draftF S i ≠ none) (n := i) (by first | assumption | omega)] at z; exact z)
      · skip
        replace hc2 : draftF S i ≠ none := fun z => hc2 ((eO_none (hdl i)).mpr z)
        refine V.iincN (n := 1) dX3_howManyFeelADraft_22 rfl rfl rfl ?_
        dsimp only [List.set]
        refine V.iincN (n := 1) dX3_howManyFeelADraft_25 rfl rfl rfl ?_
        dsimp only [List.set]
        refine V.goto 4 dX3_howManyFeelADraft_28 (by decide) ?_
        have z := ih (i + 1) (by omega) (by omega)
        first | (rw [cntP_pos (P := fun i => draftF S i ≠ none) (n := i) (by first | assumption | omega)] at z; exact z) | (rw [cntP_neg (P := fun i => draftF S i ≠ none) (n := i) (by first | assumption | omega)] at z; exact z)
  show V _ _ 0 [some (.ref r), none, none] [] h
  refine V.iconst (v := nI 0) dX3_howManyFeelADraft_0 (by decide) ?_
  refine V.istore_n (i := 1) dX3_howManyFeelADraft_1 rfl rfl rfl ?_
  dsimp only [List.set]
  refine V.iconst (v := nI 0) dX3_howManyFeelADraft_2 (by decide) ?_
  refine V.istore_n (i := 2) dX3_howManyFeelADraft_3 rfl rfl rfl ?_
  dsimp only [List.set]
  exact L 0 (by omega)

set_option maxHeartbeats 1000000 in
theorem e_howManyLeanings (g : VG) (h : VHp) (r : Nat) (S : Rm) (hR : RoomAt h r S) (hB : RmB S)  : VE g mX3_howManyLeanings 0 false (0, 0) [.ref r] h (VP (nI (cntP (fun i => rL S (i / 6) (i % 6) ≠ 0) (36))) h) := by
  obtain ⟨kd, xs, ys, vs, ll, ho, hk, hx, hy, hv, hl, lk, lx, ly, lv, lL, ek, ex, ey, ev, eL⟩ := id hR
  obtain ⟨bn, bW, bH, bP, bL⟩ := id hB
  refine VE.of (by decide) rfl (Nat.le_of_ble_eq_true rfl) ?_
  have L : ∀ i, i ≤ 36 → V (g, mX3_howManyLeanings, 0, false, h.length, VP (nI (cntP (fun i => rL S (i / 6) (i % 6) ≠ 0) (36))) h) (0, 0) 4 [some (.ref r), some (.int (nI (cntP (fun i => rL S (i / 6) (i % 6) ≠ 0) i))), some (.int (nI i))] [] h := by
    refine vloop (36) (fun i ih hi => ?_)
    refine V.iload_n dX3_howManyLeanings_4 rfl ?_
    refine V.aload_n dX3_howManyLeanings_5 rfl ?_
    refine V.get fX3_24 dX3_howManyLeanings_6 ho rfl ?_
    refine V.alen (v := nI 36) dX3_howManyLeanings_9 hl (by rw [lL]) ?_
    refine V.icmp_geN 31 dX3_howManyLeanings_10 (by decide) (by omega) (by omega) (fun hc1 => ?_) (fun hc1 => ?_)
    · skip
      refine V.iload_n dX3_howManyLeanings_31 rfl ?_
      exact V.iret dX3_howManyLeanings_32 rfl ⟨by first | (exfalso; omega) | (obtain rfl : i = 36 := (by omega); rfl), rfl⟩
    · skip
      have bl := bL (i / 6) (i % 6)
      refine V.aload_n dX3_howManyLeanings_13 rfl ?_
      refine V.get fX3_24 dX3_howManyLeanings_14 ho rfl ?_
      refine V.iload_n dX3_howManyLeanings_17 rfl ?_
      refine V.iald dX3_howManyLeanings_18 hl rfl (by omega) (lean_all eL _ (by omega)) ?_
      refine V.if_eqZ 25 dX3_howManyLeanings_19 (by decide) (by omega) (fun hc2 => ?_) (fun hc2 => ?_)
      · skip
        refine V.iincN (n := 1) dX3_howManyLeanings_25 rfl rfl rfl ?_
        dsimp only [List.set]
        refine V.goto 4 dX3_howManyLeanings_28 (by decide) ?_
        have z := ih (i + 1) (by omega) (by omega)
        first | (rw [cntP_pos (P := fun i => rL S (i / 6) (i % 6) ≠ 0) (n := i) (by first | assumption | omega)] at z; exact z) | (rw [cntP_neg (P := fun i => rL S (i / 6) (i % 6) ≠ 0) (n := i) (by first | assumption | omega)] at z; exact z)
      · skip
        refine V.iincN (n := 1) dX3_howManyLeanings_22 rfl rfl rfl ?_
        dsimp only [List.set]
        refine V.iincN (n := 1) dX3_howManyLeanings_25 rfl rfl rfl ?_
        dsimp only [List.set]
        refine V.goto 4 dX3_howManyLeanings_28 (by decide) ?_
        have z := ih (i + 1) (by omega) (by omega)
        first | (rw [cntP_pos (P := fun i => rL S (i / 6) (i % 6) ≠ 0) (n := i) (by first | assumption | omega)] at z; exact z) | (rw [cntP_neg (P := fun i => rL S (i / 6) (i % 6) ≠ 0) (n := i) (by first | assumption | omega)] at z; exact z)
  show V _ _ 0 [some (.ref r), none, none] [] h
  refine V.iconst (v := nI 0) dX3_howManyLeanings_0 (by decide) ?_
  refine V.istore_n (i := 1) dX3_howManyLeanings_1 rfl rfl rfl ?_
  dsimp only [List.set]
  refine V.iconst (v := nI 0) dX3_howManyLeanings_2 (by decide) ?_
  refine V.istore_n (i := 2) dX3_howManyLeanings_3 rfl rfl rfl ?_
  dsimp only [List.set]
  exact L 0 (by omega)

set_option maxHeartbeats 1000000 in
theorem e_sumOfVanes (g : VG) (h : VHp) (r : Nat) (S : Rm) (hR : RoomAt h r S) (hB : RmB S) : VE g mX3_sumOfVanes 0 false (0, 0) [.ref r] h (VP (nI (sumV S (rN S))) h) := by
  obtain ⟨kd, xs, ys, vs, ll, ho, hk, hx, hy, hv, hl, lk, lx, ly, lv, lL, ek, ex, ey, ev, eL⟩ := id hR
  obtain ⟨bn, bW, bH, bP, bL⟩ := id hB
  refine VE.of (by decide) rfl (Nat.le_of_ble_eq_true rfl) ?_
  have L : ∀ i, i ≤ rN S → V (g, mX3_sumOfVanes, 0, false, h.length, VP (nI (sumV S (rN S))) h) (0, 0) 4 [some (.ref r), some (.int (nI (sumV S i))), some (.int (nI i))] [] h := by
    refine vloop (rN S) (fun i ih hi => ?_)
    refine V.iload_n dX3_sumOfVanes_4 rfl ?_
    refine V.aload_n dX3_sumOfVanes_5 rfl ?_
    refine V.get fX3_34 dX3_sumOfVanes_6 ho rfl ?_
    refine V.icmp_geN 27 dX3_sumOfVanes_9 (by decide) (by omega) (by omega) (fun hc1 => ?_) (fun hc1 => ?_)
    · skip
      refine V.iload_n dX3_sumOfVanes_27 rfl ?_
      exact V.iret dX3_sumOfVanes_28 rfl ⟨by first | (exfalso; omega) | (obtain rfl : i = rN S := (by omega); rfl), rfl⟩
    · skip
      refine V.iload_n dX3_sumOfVanes_12 rfl ?_
      refine V.aload_n dX3_sumOfVanes_13 rfl ?_
      refine V.get fX3_21 dX3_sumOfVanes_14 ho rfl ?_
      refine V.iload_n dX3_sumOfVanes_17 rfl ?_
      refine V.iald dX3_sumOfVanes_18 hv rfl (by omega) (ev _ (by omega)) ?_
      refine V.iaddN dX3_sumOfVanes_19 ?_
      refine V.istore_n (i := 1) dX3_sumOfVanes_20 rfl rfl rfl ?_
      dsimp only [List.set]
      refine V.iincN (n := 1) dX3_sumOfVanes_21 rfl rfl rfl ?_
      dsimp only [List.set]
      refine V.goto 4 dX3_sumOfVanes_24 (by decide) ?_
      exact ih (i + 1) (by omega) (by omega)
  show V _ _ 0 [some (.ref r), none, none] [] h
  refine V.iconst (v := nI 0) dX3_sumOfVanes_0 (by decide) ?_
  refine V.istore_n (i := 1) dX3_sumOfVanes_1 rfl rfl rfl ?_
  dsimp only [List.set]
  refine V.iconst (v := nI 0) dX3_sumOfVanes_2 (by decide) ?_
  refine V.istore_n (i := 2) dX3_sumOfVanes_3 rfl rfl rfl ?_
  dsimp only [List.set]
  exact L 0 (by omega)

set_option maxHeartbeats 1000000 in
theorem e_drawFor (g : VG) (h : VHp) (z k : Nat) (hz : z ≤ 9999) (hk : k ≤ 60) : VE g mX7_drawFor 0 false (0, 0) [.int (nI z), .int (nI k)] h (VP (nI (drawF z k)) h) := by
  refine VE.of (by decide) rfl (Nat.le_of_ble_eq_true rfl) ?_
  show V _ _ 0 [some (.int (nI z)), some (.int (nI k)), none, none] [] h
  refine V.ldc2 (v := 7919) dX7_drawFor_0 lX7_254 ?_
  refine V.iload_n dX7_drawFor_3 rfl ?_
  refine V.i2l dX7_drawFor_4 ?_
  refine V.lmul dX7_drawFor_5 ?_
  refine V.ldc2 (v := 6151) dX7_drawFor_6 lX7_256 ?_
  refine V.iload_n dX7_drawFor_9 rfl ?_
  refine V.i2l dX7_drawFor_10 ?_
  refine V.lmul dX7_drawFor_11 ?_
  refine V.ladd dX7_drawFor_12 ?_
  refine V.lconst (v := 1) dX7_drawFor_13 (by decide) ?_
  refine V.ladd dX7_drawFor_14 ?_
  refine V.lstore_n (i := 2) dX7_drawFor_15 rfl rfl rfl ?_
  dsimp only [List.set]
  refine V.lload_n dX7_drawFor_16 rfl ?_
  refine V.lload_n dX7_drawFor_17 rfl ?_
  refine V.lmul dX7_drawFor_18 ?_
  refine V.ldc2 (v := 65521) dX7_drawFor_19 lX7_258 ?_
  refine V.lrem dX7_drawFor_22 (by decide) ?_
  refine V.l2i dX7_drawFor_23 ?_
  exact V.iret dX7_drawFor_24 rfl ⟨congrArg _ (congrArg _ (draw_eq hz hk)), rfl⟩

set_option maxHeartbeats 1000000 in
theorem e_passHour (g : VG) (h : VHp) (r : Nat) (S : Rm) (hR : RoomAt h r S) (hB : RmB S) : VE g mX3_passHour 5 false (0, 0) [.ref r] h (VRm r (hourF S) h (some (.int (nI (turnsF S))))) := by
  refine VE.of (by decide) rfl (Nat.le_of_ble_eq_true rfl) ?_
  have L : ∀ p, p ≤ rN S → ∀ (v3 : Option Value) (h1 : VHp), vlk [some (.ref r), some (.int (nI (cntP (fun p => vaneF S p ≠ rV S p) p))), some (.int (nI p)), v3] 3 = true → RoomAt h1 r (rSetV S (mixV S p) (rT S)) → VFr r (r + 6) h h1 → V (g, mX3_passHour, 5, false, h.length, VRm r (hourF S) h (some (.int (nI (turnsF S))))) (0, 0) 4 [some (.ref r), some (.int (nI (cntP (fun p => vaneF S p ≠ rV S p) p))), some (.int (nI p)), v3] [] h1 := by
    refine vloop (rN S) (fun p ih hi => ?_)
    intro v3 h1 hv3 hR1 hf
    obtain ⟨kd, xs, ys, vs, ll, hw, ek, ex, ey, ev, eL⟩ := hR1.raw
    have hw : RawAt h1 r (rW S) (rH S) (rN S) (rT S) kd xs ys vs ll := hw
    have ek : ∀ i, i < rN S → kd[i]? = some (nI (rK S i)) := ek
    have ex : ∀ i, i < rN S → xs[i]? = some (nI (rX S i)) := ex
    have ey : ∀ i, i < rN S → ys[i]? = some (nI (rY S i)) := ey
    have ev : ∀ i, i < rN S → vs[i]? = some (nI (mixV S p i)) := ev
    obtain ⟨ho, hk, hx, hy, hv, hl, lk, lx, ly, lv, lL⟩ := id hw
    obtain ⟨bn, bW, bH, bP, bL⟩ := id hB
    refine V.iload_n dX3_passHour_4 rfl ?_
    refine V.aload_n dX3_passHour_5 rfl ?_
    refine V.get fX3_34 dX3_passHour_6 ho rfl ?_
    refine V.icmp_geN 59 dX3_passHour_9 (by decide) (by omega) (by omega) (fun hc1 => ?_) (fun hc1 => ?_)
    · skip
      refine V.aload_n dX3_passHour_59 rfl ?_
      refine V.dup dX3_passHour_60 rfl ?_
      refine V.get fX3_37 dX3_passHour_61 ho rfl ?_
      refine V.iconst (v := nI 1) dX3_passHour_64 (by decide) ?_
      refine V.iaddN dX3_passHour_65 ?_
      refine V.puti fX3_37 dX3_passHour_66 ho (Nat.le_of_ble_eq_true rfl) ?_
      dsimp only [List.set]
      refine V.iload_n dX3_passHour_69 rfl ?_
      have hw2 := RawAt.w0 hw (rW S) (rH S) (rN S) (rT S + 1)
      have hf2 := hf.tr (VFr.set (lo := r) (hi := r + 6) (a := r) (c := .inr (.inr (3, [.ref (r + 1), .ref (r + 2), .ref (r + 3), .ref (r + 4), .ref (r + 5), .int (nI (rW S)), .int (nI (rH S)), .int (nI (rN S)), .int (nI (rT S + 1))]))) (by omega) (by omega))
      obtain rfl : p = rN S := (by omega)
      exact V.iret dX3_passHour_70 rfl ⟨rfl, hw2.room (S := hourF S) ⟨ek, ex, ey, mix_end ev, eL⟩ rfl rfl rfl rfl, hf2⟩
    · skip
      have bp := bP p hc1
      have bv := vaneF_lt hB hc1
      have hBT : RmB (rSetV S (mixV S p) (rT S)) := mix_B hB p
      refine V.aload_n dX3_passHour_12 rfl ?_
      refine V.get fX3_9 dX3_passHour_13 ho rfl ?_
      refine V.iload_n dX3_passHour_16 rfl ?_
      refine V.iald dX3_passHour_17 hk rfl (by omega) (ek _ (by omega)) ?_
      refine V.aload_n dX3_passHour_18 rfl ?_
      refine V.get fX3_21 dX3_passHour_19 ho rfl ?_
      refine V.iload_n dX3_passHour_22 rfl ?_
      refine V.iald dX3_passHour_23 hv rfl (by omega) (ev _ (by omega)) ?_
      refine V.re (y := nI (rV S p)) (congrArg nI (if_neg (Nat.lt_irrefl p))) ?_
      refine V.aload_n dX3_passHour_24 rfl ?_
      refine V.iload_n dX3_passHour_25 rfl ?_
      refine V.callVp (ci := 3) cX3_98 (e_draft g h1 r (rSetV S (mixV S p) (rT S)) hR1 hBT p (by show _ < rN S; omega)) dX3_passHour_26 (Nat.le_of_ble_eq_true rfl) rfl ho rfl rfl (Nat.le_of_ble_eq_true rfl) ?_
      refine V.re (y := eO (draftF S p)) (congrArg eO draft_setV) ?_
      refine V.callSp cX3_101 (e_toldNext g h1 (rK S p) (rV S p) (draftF S p) (by omega) (by omega) (fun _ z => draftF_lt z)) dX3_passHour_29 (Nat.le_of_ble_eq_true rfl) rfl rfl (Nat.le_of_ble_eq_true rfl) ?_
      refine V.re (y := nI (vaneF S p)) rfl ?_
      refine V.istore_n (i := 3) dX3_passHour_32 rfl rfl rfl ?_
      dsimp only [List.set]
      refine V.iload_n dX3_passHour_33 rfl ?_
      refine V.aload_n dX3_passHour_34 rfl ?_
      refine V.get fX3_21 dX3_passHour_35 ho rfl ?_
      refine V.iload_n dX3_passHour_38 rfl ?_
      refine V.iald dX3_passHour_39 hv rfl (by omega) (ev _ (by omega)) ?_
      refine V.re (y := nI (rV S p)) (congrArg nI (if_neg (Nat.lt_irrefl p))) ?_
      refine V.icmp_eqN 46 dX3_passHour_40 (by decide) (by omega) (by omega) (fun hc2 => ?_) (fun hc2 => ?_)
      · skip
        refine V.aload_n dX3_passHour_46 rfl ?_
        refine V.get fX3_21 dX3_passHour_47 ho rfl ?_
        refine V.iload_n dX3_passHour_50 rfl ?_
        refine V.iload_n dX3_passHour_51 rfl ?_
        refine V.iast dX3_passHour_52 hv rfl (by omega) (by rw [lv]; omega) ?_
        have hw := RawAt.w4 hw (vs.set p (nI (vaneF S p))) (by rw [List.length_set]; exact lv)
        have hf := hf.tr (VFr.set (lo := r) (hi := r + 6) (a := r + 4) (c := .inl (vs.set p (nI (vaneF S p)))) (by omega) (by omega))
        have hR2 : RoomAt _ r (rSetV S (mixV S (p + 1)) (rT S)) := hw.room ⟨ek, ex, ey, mix_row ev (by rw [lv]; omega), eL⟩ rfl rfl rfl rfl
        refine V.iincN (n := 1) dX3_passHour_53 rfl rfl rfl ?_
        dsimp only [List.set]
        refine V.goto 4 dX3_passHour_56 (by decide) ?_
        have z := fun u => ih (p + 1) (by omega) (by omega) (some (.int (nI (vaneF S p)))) _ u hR2 hf
        first | (rw [cntP_pos (P := fun p => vaneF S p ≠ rV S p) (n := p) (by omega)] at z; exact z rfl) | (rw [cntP_neg (P := fun p => vaneF S p ≠ rV S p) (n := p) (by omega)] at z; exact z rfl)
      · skip
        refine V.iincN (n := 1) dX3_passHour_43 rfl rfl rfl ?_
        dsimp only [List.set]
        refine V.aload_n dX3_passHour_46 rfl ?_
        refine V.get fX3_21 dX3_passHour_47 ho rfl ?_
        refine V.iload_n dX3_passHour_50 rfl ?_
        refine V.iload_n dX3_passHour_51 rfl ?_
        refine V.iast dX3_passHour_52 hv rfl (by omega) (by rw [lv]; omega) ?_
        have hw := RawAt.w4 hw (vs.set p (nI (vaneF S p))) (by rw [List.length_set]; exact lv)
        have hf := hf.tr (VFr.set (lo := r) (hi := r + 6) (a := r + 4) (c := .inl (vs.set p (nI (vaneF S p)))) (by omega) (by omega))
        have hR2 : RoomAt _ r (rSetV S (mixV S (p + 1)) (rT S)) := hw.room ⟨ek, ex, ey, mix_row ev (by rw [lv]; omega), eL⟩ rfl rfl rfl rfl
        refine V.iincN (n := 1) dX3_passHour_53 rfl rfl rfl ?_
        dsimp only [List.set]
        refine V.goto 4 dX3_passHour_56 (by decide) ?_
        have z := fun u => ih (p + 1) (by omega) (by omega) (some (.int (nI (vaneF S p)))) _ u hR2 hf
        first | (rw [cntP_pos (P := fun p => vaneF S p ≠ rV S p) (n := p) (by omega)] at z; exact z rfl) | (rw [cntP_neg (P := fun p => vaneF S p ≠ rV S p) (n := p) (by omega)] at z; exact z rfl)
  show V _ _ 0 [some (.ref r), none, none, none] [] h
  refine V.iconst (v := nI 0) dX3_passHour_0 (by decide) ?_
  refine V.istore_n (i := 1) dX3_passHour_1 rfl rfl rfl ?_
  dsimp only [List.set]
  refine V.iconst (v := nI 0) dX3_passHour_2 (by decide) ?_
  refine V.istore_n (i := 2) dX3_passHour_3 rfl rfl rfl ?_
  dsimp only [List.set]
  exact L 0 (by omega) none h rfl (by rw [mix_zero]; exact hR) VFr.rf
end
