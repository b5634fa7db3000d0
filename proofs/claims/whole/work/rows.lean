section
-- ===== PART A: goes FIRST, ahead of the names: the tables' words, and 'selects' of the private methods out of them =====
/-- a private method of a class that the tables say can be made, by its rows of tables_1 -/
def lw_okq (q : MethodName × Nat) : Prop := (q.1.cls ≠ "java/lang/invoke/MethodHandle" ∧ q.1.cls ≠ "java/lang/invoke/VarHandle") ∧ Cond.instantiable q.1.cls q.2 ∈ tables_1 ∧ Cond.privateMethod q.1 ∈ tables_1 ∧ Cond.instanceMethod q.1 ∈ tables_1
theorem lw_p0 : lw_okq (⟨"LeavingVote", "layFirstText", "()V"⟩, 9) := ⟨⟨by decide +kernel, by decide +kernel⟩, List.mem_of_getElem? (i := 17) (by decide +kernel), List.mem_of_getElem? (i := 148) (by decide +kernel), List.mem_of_getElem? (i := 149) (by decide +kernel)⟩
theorem lw_p1 : lw_okq (⟨"LeavingVote$Island", "empty", "()V"⟩, 10) := ⟨⟨by decide +kernel, by decide +kernel⟩, List.mem_of_getElem? (i := 56) (by decide +kernel), List.mem_of_getElem? (i := 209) (by decide +kernel), List.mem_of_getElem? (i := 210) (by decide +kernel)⟩
theorem lw_p2 : lw_okq (⟨"LeavingVote$Island", "putIslander", "(III)V"⟩, 10) := ⟨⟨by decide +kernel, by decide +kernel⟩, List.mem_of_getElem? (i := 56) (by decide +kernel), List.mem_of_getElem? (i := 213) (by decide +kernel), List.mem_of_getElem? (i := 214) (by decide +kernel)⟩
theorem lw_p3 : lw_okq (⟨"LeavingVote$Island", "putBoat", "(II)V"⟩, 10) := ⟨⟨by decide +kernel, by decide +kernel⟩, List.mem_of_getElem? (i := 56) (by decide +kernel), List.mem_of_getElem? (i := 217) (by decide +kernel), List.mem_of_getElem? (i := 218) (by decide +kernel)⟩
theorem lw_p4 : lw_okq (⟨"LeavingVote$Island", "take", "(LLeavingVote$Item;)Z"⟩, 10) := ⟨⟨by decide +kernel, by decide +kernel⟩, List.mem_of_getElem? (i := 56) (by decide +kernel), List.mem_of_getElem? (i := 254) (by decide +kernel), List.mem_of_getElem? (i := 255) (by decide +kernel)⟩
theorem lw_p5 : lw_okq (⟨"LeavingVote$Island", "takeIslander", "(LLeavingVote$Item;)Z"⟩, 10) := ⟨⟨by decide +kernel, by decide +kernel⟩, List.mem_of_getElem? (i := 56) (by decide +kernel), List.mem_of_getElem? (i := 266) (by decide +kernel), List.mem_of_getElem? (i := 267) (by decide +kernel)⟩
theorem lw_p6 : lw_okq (⟨"LeavingVote$Island", "takeBoat", "(I)Z"⟩, 10) := ⟨⟨by decide +kernel, by decide +kernel⟩, List.mem_of_getElem? (i := 56) (by decide +kernel), List.mem_of_getElem? (i := 280) (by decide +kernel), List.mem_of_getElem? (i := 281) (by decide +kernel)⟩
theorem lw_p7 : lw_okq (⟨"LeavingVote", "isIslander", "(I)Z"⟩, 9) := ⟨⟨by decide +kernel, by decide +kernel⟩, List.mem_of_getElem? (i := 17) (by decide +kernel), List.mem_of_getElem? (i := 384) (by decide +kernel), List.mem_of_getElem? (i := 385) (by decide +kernel)⟩
theorem lw_p8 : lw_okq (⟨"LeavingVote", "isBoat", "(I)Z"⟩, 9) := ⟨⟨by decide +kernel, by decide +kernel⟩, List.mem_of_getElem? (i := 17) (by decide +kernel), List.mem_of_getElem? (i := 398) (by decide +kernel), List.mem_of_getElem? (i := 399) (by decide +kernel)⟩
theorem lw_p9 : lw_okq (⟨"LeavingVote", "leavers", "(JI)I"⟩, 9) := ⟨⟨by decide +kernel, by decide +kernel⟩, List.mem_of_getElem? (i := 17) (by decide +kernel), List.mem_of_getElem? (i := 456) (by decide +kernel), List.mem_of_getElem? (i := 457) (by decide +kernel)⟩
theorem lw_p10 : lw_okq (⟨"LeavingVote", "change", "(J)V"⟩, 9) := ⟨⟨by decide +kernel, by decide +kernel⟩, List.mem_of_getElem? (i := 17) (by decide +kernel), List.mem_of_getElem? (i := 527) (by decide +kernel), List.mem_of_getElem? (i := 528) (by decide +kernel)⟩
theorem lw_p11 : lw_okq (⟨"LeavingVote$Pile", "dropOldest", "()V"⟩, 2) := ⟨⟨by decide +kernel, by decide +kernel⟩, List.mem_of_getElem? (i := 115) (by decide +kernel), List.mem_of_getElem? (i := 535) (by decide +kernel), List.mem_of_getElem? (i := 536) (by decide +kernel)⟩
theorem lw_p12 : lw_okq (⟨"LeavingVote", "seatsIn", "(I)I"⟩, 9) := ⟨⟨by decide +kernel, by decide +kernel⟩, List.mem_of_getElem? (i := 17) (by decide +kernel), List.mem_of_getElem? (i := 585) (by decide +kernel), List.mem_of_getElem? (i := 586) (by decide +kernel)⟩
theorem lw_p13 : lw_okq (⟨"LeavingVote", "agrees", "(J)Z"⟩, 9) := ⟨⟨by decide +kernel, by decide +kernel⟩, List.mem_of_getElem? (i := 17) (by decide +kernel), List.mem_of_getElem? (i := 625) (by decide +kernel), List.mem_of_getElem? (i := 626) (by decide +kernel)⟩
theorem lw_p14 : lw_okq (⟨"LeavingVote", "weight", "(II)I"⟩, 9) := ⟨⟨by decide +kernel, by decide +kernel⟩, List.mem_of_getElem? (i := 17) (by decide +kernel), List.mem_of_getElem? (i := 641) (by decide +kernel), List.mem_of_getElem? (i := 642) (by decide +kernel)⟩
theorem lw_p15 : lw_okq (⟨"LeavingVoteModel", "noIsland", "(I)V"⟩, 23) := ⟨⟨by decide +kernel, by decide +kernel⟩, List.mem_of_getElem? (i := 689) (by decide +kernel), List.mem_of_getElem? (i := 695) (by decide +kernel), List.mem_of_getElem? (i := 696) (by decide +kernel)⟩
def lw_privs_1 : List (MethodName × Nat) := [(⟨"LeavingVote", "layFirstText", "()V"⟩, 9), (⟨"LeavingVote$Island", "empty", "()V"⟩, 10), (⟨"LeavingVote$Island", "putIslander", "(III)V"⟩, 10), (⟨"LeavingVote$Island", "putBoat", "(II)V"⟩, 10), (⟨"LeavingVote$Island", "take", "(LLeavingVote$Item;)Z"⟩, 10), (⟨"LeavingVote$Island", "takeIslander", "(LLeavingVote$Item;)Z"⟩, 10), (⟨"LeavingVote$Island", "takeBoat", "(I)Z"⟩, 10), (⟨"LeavingVote", "isIslander", "(I)Z"⟩, 9), (⟨"LeavingVote", "isBoat", "(I)Z"⟩, 9), (⟨"LeavingVote", "leavers", "(JI)I"⟩, 9), (⟨"LeavingVote", "change", "(J)V"⟩, 9), (⟨"LeavingVote$Pile", "dropOldest", "()V"⟩, 2), (⟨"LeavingVote", "seatsIn", "(I)I"⟩, 9), (⟨"LeavingVote", "agrees", "(J)Z"⟩, 9), (⟨"LeavingVote", "weight", "(II)I"⟩, 9), (⟨"LeavingVoteModel", "noIsland", "(I)V"⟩, 23)]
theorem lw_r1 : ∀ q ∈ lw_privs_1, lw_okq q := List.forall_mem_cons.mpr ⟨lw_p0, List.forall_mem_cons.mpr ⟨lw_p1, List.forall_mem_cons.mpr ⟨lw_p2, List.forall_mem_cons.mpr ⟨lw_p3, List.forall_mem_cons.mpr ⟨lw_p4, List.forall_mem_cons.mpr ⟨lw_p5, List.forall_mem_cons.mpr ⟨lw_p6, List.forall_mem_cons.mpr ⟨lw_p7, List.forall_mem_cons.mpr ⟨lw_p8, List.forall_mem_cons.mpr ⟨lw_p9, List.forall_mem_cons.mpr ⟨lw_p10, List.forall_mem_cons.mpr ⟨lw_p11, List.forall_mem_cons.mpr ⟨lw_p12, List.forall_mem_cons.mpr ⟨lw_p13, List.forall_mem_cons.mpr ⟨lw_p14, List.forall_mem_cons.mpr ⟨lw_p15, fun _ h => absurd h List.not_mem_nil⟩⟩⟩⟩⟩⟩⟩⟩⟩⟩⟩⟩⟩⟩⟩⟩
theorem lw_p16 : lw_okq (⟨"LeavingVoteModel", "addIslander", "(IIIII)V"⟩, 23) := ⟨⟨by decide +kernel, by decide +kernel⟩, List.mem_of_getElem? (i := 689) (by decide +kernel), List.mem_of_getElem? (i := 699) (by decide +kernel), List.mem_of_getElem? (i := 700) (by decide +kernel)⟩
theorem lw_p17 : lw_okq (⟨"LeavingVoteModel", "begin", "()V"⟩, 23) := ⟨⟨by decide +kernel, by decide +kernel⟩, List.mem_of_getElem? (i := 689) (by decide +kernel), List.mem_of_getElem? (i := 703) (by decide +kernel), List.mem_of_getElem? (i := 704) (by decide +kernel)⟩
theorem lw_p18 : lw_okq (⟨"LeavingVoteModel", "readAll", "()I"⟩, 23) := ⟨⟨by decide +kernel, by decide +kernel⟩, List.mem_of_getElem? (i := 689) (by decide +kernel), List.mem_of_getElem? (i := 794) (by decide +kernel), List.mem_of_getElem? (i := 795) (by decide +kernel)⟩
theorem lw_p19 : lw_okq (⟨"LeavingVoteModel", "item", "()Z"⟩, 23) := ⟨⟨by decide +kernel, by decide +kernel⟩, List.mem_of_getElem? (i := 689) (by decide +kernel), List.mem_of_getElem? (i := 798) (by decide +kernel), List.mem_of_getElem? (i := 799) (by decide +kernel)⟩
theorem lw_p20 : lw_okq (⟨"LeavingVoteModel", "letterAt", "(I)I"⟩, 23) := ⟨⟨by decide +kernel, by decide +kernel⟩, List.mem_of_getElem? (i := 689) (by decide +kernel), List.mem_of_getElem? (i := 802) (by decide +kernel), List.mem_of_getElem? (i := 803) (by decide +kernel)⟩
theorem lw_p21 : lw_okq (⟨"LeavingVoteModel", "islanderItem", "()Z"⟩, 23) := ⟨⟨by decide +kernel, by decide +kernel⟩, List.mem_of_getElem? (i := 689) (by decide +kernel), List.mem_of_getElem? (i := 806) (by decide +kernel), List.mem_of_getElem? (i := 807) (by decide +kernel)⟩
theorem lw_p22 : lw_okq (⟨"LeavingVoteModel", "figures", "(I)Z"⟩, 23) := ⟨⟨by decide +kernel, by decide +kernel⟩, List.mem_of_getElem? (i := 689) (by decide +kernel), List.mem_of_getElem? (i := 810) (by decide +kernel), List.mem_of_getElem? (i := 811) (by decide +kernel)⟩
theorem lw_p23 : lw_okq (⟨"LeavingVoteModel", "lawItem", "(III)Z"⟩, 23) := ⟨⟨by decide +kernel, by decide +kernel⟩, List.mem_of_getElem? (i := 689) (by decide +kernel), List.mem_of_getElem? (i := 818) (by decide +kernel), List.mem_of_getElem? (i := 819) (by decide +kernel)⟩
theorem lw_p24 : lw_okq (⟨"LeavingVoteModel", "isIslander", "(I)Z"⟩, 23) := ⟨⟨by decide +kernel, by decide +kernel⟩, List.mem_of_getElem? (i := 689) (by decide +kernel), List.mem_of_getElem? (i := 830) (by decide +kernel), List.mem_of_getElem? (i := 831) (by decide +kernel)⟩
theorem lw_p25 : lw_okq (⟨"LeavingVoteModel", "isBoat", "(I)Z"⟩, 23) := ⟨⟨by decide +kernel, by decide +kernel⟩, List.mem_of_getElem? (i := 689) (by decide +kernel), List.mem_of_getElem? (i := 839) (by decide +kernel), List.mem_of_getElem? (i := 840) (by decide +kernel)⟩
theorem lw_p26 : lw_okq (⟨"LeavingVoteModel", "wanting", "(II)I"⟩, 23) := ⟨⟨by decide +kernel, by decide +kernel⟩, List.mem_of_getElem? (i := 689) (by decide +kernel), List.mem_of_getElem? (i := 850) (by decide +kernel), List.mem_of_getElem? (i := 851) (by decide +kernel)⟩
theorem lw_p27 : lw_okq (⟨"LeavingVoteModel", "doesWant", "(III)Z"⟩, 23) := ⟨⟨by decide +kernel, by decide +kernel⟩, List.mem_of_getElem? (i := 689) (by decide +kernel), List.mem_of_getElem? (i := 854) (by decide +kernel), List.mem_of_getElem? (i := 855) (by decide +kernel)⟩
theorem lw_p28 : lw_okq (⟨"LeavingVoteModel", "leaving", "(I)I"⟩, 23) := ⟨⟨by decide +kernel, by decide +kernel⟩, List.mem_of_getElem? (i := 689) (by decide +kernel), List.mem_of_getElem? (i := 865) (by decide +kernel), List.mem_of_getElem? (i := 866) (by decide +kernel)⟩
theorem lw_p29 : lw_okq (⟨"LeavingVoteModel", "seated", "(II)I"⟩, 23) := ⟨⟨by decide +kernel, by decide +kernel⟩, List.mem_of_getElem? (i := 689) (by decide +kernel), List.mem_of_getElem? (i := 869) (by decide +kernel), List.mem_of_getElem? (i := 870) (by decide +kernel)⟩
theorem lw_p30 : lw_okq (⟨"LeavingVoteModel", "doesFall", "(I)Z"⟩, 23) := ⟨⟨by decide +kernel, by decide +kernel⟩, List.mem_of_getElem? (i := 689) (by decide +kernel), List.mem_of_getElem? (i := 884) (by decide +kernel), List.mem_of_getElem? (i := 885) (by decide +kernel)⟩
theorem lw_p31 : lw_okq (⟨"LeavingVoteModel", "isFall", "(I)Z"⟩, 23) := ⟨⟨by decide +kernel, by decide +kernel⟩, List.mem_of_getElem? (i := 689) (by decide +kernel), List.mem_of_getElem? (i := 891) (by decide +kernel), List.mem_of_getElem? (i := 892) (by decide +kernel)⟩
def lw_privs_2 : List (MethodName × Nat) := [(⟨"LeavingVoteModel", "addIslander", "(IIIII)V"⟩, 23), (⟨"LeavingVoteModel", "begin", "()V"⟩, 23), (⟨"LeavingVoteModel", "readAll", "()I"⟩, 23), (⟨"LeavingVoteModel", "item", "()Z"⟩, 23), (⟨"LeavingVoteModel", "letterAt", "(I)I"⟩, 23), (⟨"LeavingVoteModel", "islanderItem", "()Z"⟩, 23), (⟨"LeavingVoteModel", "figures", "(I)Z"⟩, 23), (⟨"LeavingVoteModel", "lawItem", "(III)Z"⟩, 23), (⟨"LeavingVoteModel", "isIslander", "(I)Z"⟩, 23), (⟨"LeavingVoteModel", "isBoat", "(I)Z"⟩, 23), (⟨"LeavingVoteModel", "wanting", "(II)I"⟩, 23), (⟨"LeavingVoteModel", "doesWant", "(III)Z"⟩, 23), (⟨"LeavingVoteModel", "leaving", "(I)I"⟩, 23), (⟨"LeavingVoteModel", "seated", "(II)I"⟩, 23), (⟨"LeavingVoteModel", "doesFall", "(I)Z"⟩, 23), (⟨"LeavingVoteModel", "isFall", "(I)Z"⟩, 23)]
theorem lw_r2 : ∀ q ∈ lw_privs_2, lw_okq q := List.forall_mem_cons.mpr ⟨lw_p16, List.forall_mem_cons.mpr ⟨lw_p17, List.forall_mem_cons.mpr ⟨lw_p18, List.forall_mem_cons.mpr ⟨lw_p19, List.forall_mem_cons.mpr ⟨lw_p20, List.forall_mem_cons.mpr ⟨lw_p21, List.forall_mem_cons.mpr ⟨lw_p22, List.forall_mem_cons.mpr ⟨lw_p23, List.forall_mem_cons.mpr ⟨lw_p24, List.forall_mem_cons.mpr ⟨lw_p25, List.forall_mem_cons.mpr ⟨lw_p26, List.forall_mem_cons.mpr ⟨lw_p27, List.forall_mem_cons.mpr ⟨lw_p28, List.forall_mem_cons.mpr ⟨lw_p29, List.forall_mem_cons.mpr ⟨lw_p30, List.forall_mem_cons.mpr ⟨lw_p31, fun _ h => absurd h List.not_mem_nil⟩⟩⟩⟩⟩⟩⟩⟩⟩⟩⟩⟩⟩⟩⟩⟩
theorem lw_p32 : lw_okq (⟨"LeavingVoteModel", "cowsWithout", "(I)I"⟩, 23) := ⟨⟨by decide +kernel, by decide +kernel⟩, List.mem_of_getElem? (i := 689) (by decide +kernel), List.mem_of_getElem? (i := 899) (by decide +kernel), List.mem_of_getElem? (i := 900) (by decide +kernel)⟩
theorem lw_p33 : lw_okq (⟨"LeavingVoteModel", "change", "(II)I"⟩, 23) := ⟨⟨by decide +kernel, by decide +kernel⟩, List.mem_of_getElem? (i := 689) (by decide +kernel), List.mem_of_getElem? (i := 907) (by decide +kernel), List.mem_of_getElem? (i := 908) (by decide +kernel)⟩
theorem lw_p34 : lw_okq (⟨"LeavingVoteModel", "note", "()V"⟩, 23) := ⟨⟨by decide +kernel, by decide +kernel⟩, List.mem_of_getElem? (i := 689) (by decide +kernel), List.mem_of_getElem? (i := 911) (by decide +kernel), List.mem_of_getElem? (i := 912) (by decide +kernel)⟩
theorem lw_p35 : lw_okq (⟨"LeavingVoteModel", "fallsBut", "(II)Z"⟩, 23) := ⟨⟨by decide +kernel, by decide +kernel⟩, List.mem_of_getElem? (i := 689) (by decide +kernel), List.mem_of_getElem? (i := 935) (by decide +kernel), List.mem_of_getElem? (i := 936) (by decide +kernel)⟩
theorem lw_p36 : lw_okq (⟨"LeavingVoteModel", "heldMany", "()I"⟩, 23) := ⟨⟨by decide +kernel, by decide +kernel⟩, List.mem_of_getElem? (i := 689) (by decide +kernel), List.mem_of_getElem? (i := 1003) (by decide +kernel), List.mem_of_getElem? (i := 1004) (by decide +kernel)⟩
def lw_privs_3 : List (MethodName × Nat) := [(⟨"LeavingVoteModel", "cowsWithout", "(I)I"⟩, 23), (⟨"LeavingVoteModel", "change", "(II)I"⟩, 23), (⟨"LeavingVoteModel", "note", "()V"⟩, 23), (⟨"LeavingVoteModel", "fallsBut", "(II)Z"⟩, 23), (⟨"LeavingVoteModel", "heldMany", "()I"⟩, 23)]
theorem lw_r3 : ∀ q ∈ lw_privs_3, lw_okq q := List.forall_mem_cons.mpr ⟨lw_p32, List.forall_mem_cons.mpr ⟨lw_p33, List.forall_mem_cons.mpr ⟨lw_p34, List.forall_mem_cons.mpr ⟨lw_p35, List.forall_mem_cons.mpr ⟨lw_p36, fun _ h => absurd h List.not_mem_nil⟩⟩⟩⟩⟩
def lw_privs : List (MethodName × Nat) := lw_privs_1 ++ (lw_privs_2 ++ (lw_privs_3))
def lw_tbl : List Cond := k2_sels lw_privs ++ tables_1
theorem lw_privs_ok : ∀ q ∈ lw_privs, lw_okq q := by
  show ∀ q ∈ lw_privs_1 ++ (lw_privs_2 ++ (lw_privs_3)), lw_okq q
  exact List.forall_mem_append.mpr ⟨lw_r1, List.forall_mem_append.mpr ⟨lw_r2, lw_r3⟩⟩
end
section
/-! The tables: the classes whose objects the worlds hold, the methods, their code decoded with what it links (a program wrote this out of the Statement) -/
abbrev sm_I : Type := Instr × Nat × Nat × Nat
abbrev sm_M : Type := MethodName × ByteArray × Nat × Option FieldType × Nat × Nat × Nat × (Nat × Nat × Nat × Nat)
def lw_tblG : List Cond := lw_tbl.filter goodWord
theorem lw_inG {w : Cond} (h : w ∈ lw_tbl) (hg : goodWord w = true) : w ∈ lw_tblG := List.mem_filter.mpr ⟨h, hg⟩
theorem lw_goodG {w : Cond} (h : w ∈ lw_tblG) : w ∈ lw_tbl ∧ goodWord w = true := List.mem_filter.mp h
abbrev sm_FD : Type := String × String × Bool × FieldType × Nat
def sm_fl : List (String × List sm_FD) := [("LeavingVote", [("script", "LLeavingVote$Script;", true, .object "LeavingVote$Script", 357), ("item", "LLeavingVote$Item;", true, .object "LeavingVote$Item", 359), ("draft", "LLeavingVote$Island;", true, .object "LeavingVote$Island", 361), ("laid", "LLeavingVote$Island;", true, .object "LeavingVote$Island", 363), ("night", "LLeavingVote$Night;", true, .object "LeavingVote$Night", 365), ("past", "LLeavingVote$Pile;", true, .object "LeavingVote$Pile", 367), ("shelf", "LLeavingVote$Pile;", true, .object "LeavingVote$Pile", 369), ("sightings", "LLeavingVote$Sightings;", true, .object "LeavingVote$Sightings", 371), ("standing", "J", false, .long, 373)]),
  ("LeavingVote$Island", [("kinds", "[I", true, .array .int, 108), ("cows", "[I", true, .array .int, 110), ("seats", "[I", true, .array .int, 112), ("islanders", "I", false, .int, 114), ("boats", "I", false, .int, 116), ("bedsAshore", "I", false, .int, 118), ("cowsToMilk", "I", false, .int, 120), ("tenths", "I", false, .int, 122), ("seasickTenths", "I", false, .int, 124), ("firstStanding", "J", false, .long, 126)]),
  ("LeavingVote$Item", [("numbers", "[I", true, .array .int, 84), ("letter", "I", false, .int, 86), ("behind", "I", false, .int, 88)]),
  ("LeavingVote$Night", [("guides", "[I", true, .array .int, 140), ("never", "I", false, .int, 142), ("seats", "I", false, .int, 144), ("beds", "I", false, .int, 146), ("nobody", "Z", false, .boolean, 148)]),
  ("LeavingVote$Pile", [("standings", "[J", true, .array .long, 162), ("height", "I", false, .int, 164)]),
  ("LeavingVote$Script", [("letters", "[C", true, .array .char, 69), ("length", "I", false, .int, 71)]),
  ("LeavingVote$Sightings", [("questions", "[I", true, .array .int, 177), ("numbers", "[I", true, .array .int, 179), ("size", "I", false, .int, 181)]),
  ("LeavingVoteModel", [("length", "I", false, .int, 766), ("text", "[I", true, .array .int, 768), ("islanders", "[I", true, .array .int, 770), ("kinds", "[I", true, .array .int, 772), ("leanings", "[I", true, .array .int, 774), ("minds", "[I", true, .array .int, 776), ("cows", "[I", true, .array .int, 778), ("boats", "[I", true, .array .int, 780), ("seats", "[I", true, .array .int, 782), ("laws", "[I", true, .array .int, 784), ("now", "[I", true, .array .int, 786), ("before", "[I", true, .array .int, 788), ("undoMany", "I", false, .int, 790), ("kept", "[I", true, .array .int, 792), ("keptMany", "I", false, .int, 794), ("seenMany", "I", false, .int, 796), ("seenOn", "[I", true, .array .int, 798), ("seenMany1", "[I", true, .array .int, 800), ("spot", "I", false, .int, 802), ("told", "[I", true, .array .int, 804), ("boatOf", "[I", true, .array .int, 806), ("left", "[I", true, .array .int, 808), ("wereHeld", "[I", true, .array .int, 810)])]
def sm_cn (ci : Nat) : String := (sm_fl.getD ci ("", [])).1
def sm_nf (ci : Nat) : Nat := (sm_fl.getD ci ("", [])).2.length
def sm_fd (ci k : Nat) : sm_FD := (sm_fl.getD ci ("", [])).2.getD k ("", "", false, .int, 0)
def sm_T (ci : Nat) : u_T := fun k => (sm_cn ci, (sm_fd ci k).1, (sm_fd ci k).2.1, (sm_fd ci k).2.2.1)
def sm_ty (ci k : Nat) : FieldType := (sm_fd ci k).2.2.2.1
def sm_cl : List vw_C := [(sm_cn 0, sm_T 0, sm_nf 0), (sm_cn 1, sm_T 1, sm_nf 1), (sm_cn 2, sm_T 2, sm_nf 2), (sm_cn 3, sm_T 3, sm_nf 3), (sm_cn 4, sm_T 4, sm_nf 4), (sm_cn 5, sm_T 5, sm_nf 5), (sm_cn 6, sm_T 6, sm_nf 6), (sm_cn 7, sm_T 7, sm_nf 7)]
def sm_inst : List (Nat × Nat) := [(54, 38), (93, 41), (76, 40), (130, 42), (152, 43), (62, 39), (169, 45), (726, 51)]
/-- LeavingVote.<init>()V -/
def sm_c0 : List (Option sm_I) := [some (.aload_n 0, 0, 0, 0), some (.invokespecial 1, 9999, 0, 58), none, none, some (.aload_n 0, 0, 0, 0), some (.new 7, 5, 0, 61), none, none, some (.dup, 0, 0, 0), some (.invokespecial 9, 1, 1, 63), none, none, some (.putfield 10, 0, 0, 348), none, none, some (.aload_n 0, 0, 0, 0), some (.new 16, 2, 0, 75), none, none, some (.dup, 0, 0, 0), some (.invokespecial 18, 2, 1, 77), none, none, some (.putfield 19, 0, 1, 349), none, none, some (.aload_n 0, 0, 0, 0), some (.new 23, 1, 0, 92), none, none, some (.dup, 0, 0, 0), some (.invokespecial 25, 3, 1, 94), none, none, some (.putfield 26, 0, 2, 350), none, none, some (.aload_n 0, 0, 0, 0), some (.new 23, 1, 0, 92), none, none, some (.dup, 0, 0, 0), some (.invokespecial 25, 3, 1, 94), none, none, some (.putfield 30, 0, 3, 351), none, none, some (.aload_n 0, 0, 0, 0), some (.new 33, 3, 0, 129), none, none, some (.dup, 0, 0, 0), some (.invokespecial 35, 4, 1, 131), none, none, some (.putfield 36, 0, 4, 352), none, none, some (.aload_n 0, 0, 0, 0), some (.new 40, 4, 0, 151), none, none, some (.dup, 0, 0, 0), some (.bipush 8, 0, 0, 0), none, some (.invokespecial 42, 5, 2, 153), none, none, some (.putfield 45, 0, 5, 353), none, none, some (.aload_n 0, 0, 0, 0), some (.new 40, 4, 0, 151), none, none, some (.dup, 0, 0, 0), some (.iconst 2, 0, 0, 0), some (.invokespecial 42, 5, 2, 153), none, none, some (.putfield 49, 0, 6, 354), none, none, some (.aload_n 0, 0, 0, 0), some (.new 52, 6, 0, 168), none, none, some (.dup, 0, 0, 0), some (.invokespecial 54, 6, 1, 170), none, none, some (.putfield 55, 0, 7, 355), none, none, some (.aload_n 0, 0, 0, 0), some (.invokevirtual 59, 7, 1, 184), none, none, some (.return_, 0, 0, 0)]
/-- LeavingVote$Script.<init>()V -/
def sm_c1 : List (Option sm_I) := [some (.aload_n 0, 0, 0, 0), some (.invokespecial 3, 9999, 0, 66), none, none, some (.aload_n 0, 0, 0, 0), some (.sipush 200, 0, 0, 0), none, none, some (.newarray .char, 1, 0, 74), none, some (.putfield 9, 5, 0, 67), none, none, some (.return_, 0, 0, 0)]
/-- LeavingVote$Item.<init>()V -/
def sm_c2 : List (Option sm_I) := [some (.aload_n 0, 0, 0, 0), some (.invokespecial 3, 9999, 0, 80), none, none, some (.aload_n 0, 0, 0, 0), some (.iconst 4, 0, 0, 0), some (.newarray .int, 0, 0, 91), none, some (.putfield 9, 2, 0, 81), none, none, some (.return_, 0, 0, 0)]
/-- LeavingVote$Island.<init>()V -/
def sm_c3 : List (Option sm_I) := [some (.aload_n 0, 0, 0, 0), some (.invokespecial 3, 9999, 0, 97), none, none, some (.aload_n 0, 0, 0, 0), some (.bipush 8, 0, 0, 0), none, some (.newarray .int, 0, 0, 91), none, some (.putfield 9, 1, 0, 98), none, none, some (.aload_n 0, 0, 0, 0), some (.bipush 8, 0, 0, 0), none, some (.newarray .int, 0, 0, 91), none, some (.putfield 15, 1, 1, 99), none, none, some (.aload_n 0, 0, 0, 0), some (.iconst 5, 0, 0, 0), some (.newarray .int, 0, 0, 91), none, some (.putfield 18, 1, 2, 100), none, none, some (.return_, 0, 0, 0)]
/-- LeavingVote$Night.<init>()V -/
def sm_c4 : List (Option sm_I) := [some (.aload_n 0, 0, 0, 0), some (.invokespecial 3, 9999, 0, 134), none, none, some (.aload_n 0, 0, 0, 0), some (.bipush 8, 0, 0, 0), none, some (.newarray .int, 0, 0, 91), none, some (.putfield 9, 3, 0, 135), none, none, some (.return_, 0, 0, 0)]
/-- LeavingVote$Pile.<init>(I)V -/
def sm_c5 : List (Option sm_I) := [some (.aload_n 0, 0, 0, 0), some (.invokespecial 1, 9999, 0, 156), none, none, some (.aload_n 0, 0, 0, 0), some (.iload_n 1, 0, 0, 0), some (.iconst 0, 0, 0, 0), some (.invokestatic 7, 9997, 0, 157), none, none, some (.newarray .long, 2, 0, 167), none, some (.putfield 13, 4, 0, 160), none, none, some (.return_, 0, 0, 0)]
/-- LeavingVote$Sightings.<init>()V -/
def sm_c6 : List (Option sm_I) := [some (.aload_n 0, 0, 0, 0), some (.invokespecial 3, 9999, 0, 173), none, none, some (.aload_n 0, 0, 0, 0), some (.bipush 8, 0, 0, 0), none, some (.newarray .int, 0, 0, 91), none, some (.putfield 9, 6, 0, 174), none, none, some (.aload_n 0, 0, 0, 0), some (.bipush 8, 0, 0, 0), none, some (.newarray .int, 0, 0, 91), none, some (.putfield 15, 6, 1, 175), none, none, some (.return_, 0, 0, 0)]
/-- LeavingVote.layFirstText()V -/
def sm_c7 : List (Option sm_I) := [some (.iconst 0, 0, 0, 0), some (.istore_n 1, 0, 0, 0), some (.iload_n 1, 0, 0, 0), some (.ldc_w 258, 0, 0, 0), none, none, some (.invokevirtual 260, 8, 1, 189), none, none, some (.if_icmp .ge 24, 33, 0, 0), none, none, some (.aload_n 0, 0, 0, 0), some (.getfield 10, 0, 0, 348), none, none, some (.ldc_w 258, 0, 0, 0), none, none, some (.iload_n 1, 0, 0, 0), some (.invokevirtual 263, 10, 2, 199), none, none, some (.invokevirtual 62, 15, 2, 237), none, none, some (.pop, 0, 0, 0), some (.iinc 1 1, 0, 0, 0), none, none, some (.goto (-28), 2, 0, 0), none, none, some (.aload_n 0, 0, 0, 0), some (.getfield 26, 0, 2, 350), none, none, some (.aload_n 0, 0, 0, 0), some (.getfield 10, 0, 0, 348), none, none, some (.aload_n 0, 0, 0, 0), some (.getfield 19, 0, 1, 349), none, none, some (.invokevirtual 73, 16, 3, 241), none, none, some (.pop, 0, 0, 0), some (.aload_n 0, 0, 0, 0), some (.getfield 30, 0, 3, 351), none, none, some (.aload_n 0, 0, 0, 0), some (.getfield 26, 0, 2, 350), none, none, some (.invokevirtual 81, 38, 2, 324), none, none, some (.aload_n 0, 0, 0, 0), some (.aload_n 0, 0, 0, 0), some (.getfield 30, 0, 3, 351), none, none, some (.invokevirtual 85, 42, 1, 340), none, none, some (.putfield 89, 0, 8, 356), none, none, some (.aload_n 0, 0, 0, 0), some (.getfield 10, 0, 0, 348), none, none, some (.invokevirtual 70, 43, 1, 344), none, none, some (.return_, 0, 0, 0)]
/-- java/lang/String.length()I -/
def sm_c8 : List (Option sm_I) := [some (.aload_n 0, 0, 0, 0), some (.getfield 9, 100, 1, 1043), none, none, some (.arraylength, 0, 0, 0), some (.aload_n 0, 0, 0, 0), some (.invokevirtual 335, 9, 1, 193), none, none, some (.ishr, 0, 0, 0), some (.ireturn, 0, 0, 0)]
/-- java/lang/String.coder()B -/
def sm_c9 : List (Option sm_I) := [some (.getstatic 38, 0, 0, 197), none, none, some (.ifCond .eq 10, 13, 0, 0), none, none, some (.aload_n 0, 0, 0, 0), some (.getfield 15, 100, 0, 1044), none, none, some (.goto 4, 14, 0, 0), none, none, some (.iconst 1, 0, 0, 0), some (.ireturn, 0, 0, 0)]
/-- java/lang/String.charAt(I)C -/
def sm_c10 : List (Option sm_I) := [some (.aload_n 0, 0, 0, 0), some (.invokevirtual 492, 11, 1, 203), none, none, some (.ifCond .eq 12, 16, 0, 0), none, none, some (.aload_n 0, 0, 0, 0), some (.getfield 9, 100, 1, 1043), none, none, some (.iload_n 1, 0, 0, 0), some (.invokestatic 495, 12, 2, 207), none, none, some (.ireturn, 0, 0, 0), some (.aload_n 0, 0, 0, 0), some (.getfield 9, 100, 1, 1043), none, none, some (.iload_n 1, 0, 0, 0), some (.invokestatic 498, 9998, 0, 218), none, none, some (.ireturn, 0, 0, 0)]
/-- java/lang/String.isLatin1()Z -/
def sm_c11 : List (Option sm_I) := [some (.getstatic 38, 0, 0, 197), none, none, some (.ifCond .eq 14, 17, 0, 0), none, none, some (.aload_n 0, 0, 0, 0), some (.getfield 15, 100, 0, 1044), none, none, some (.ifCond .ne 7, 17, 0, 0), none, none, some (.iconst 1, 0, 0, 0), some (.goto 4, 18, 0, 0), none, none, some (.iconst 0, 0, 0, 0), some (.ireturn, 0, 0, 0)]
/-- java/lang/StringLatin1.charAt([BI)C -/
def sm_c12 : List (Option sm_I) := [some (.iload_n 1, 0, 0, 0), some (.aload_n 0, 0, 0, 0), some (.arraylength, 0, 0, 0), some (.invokestatic 9, 13, 2, 210), none, none, some (.aload_n 0, 0, 0, 0), some (.iload_n 1, 0, 0, 0), some (.baload, 0, 0, 0), some (.sipush 255, 0, 0, 0), none, none, some (.iand, 0, 0, 0), some (.i2c, 0, 0, 0), some (.ireturn, 0, 0, 0)]
/-- java/lang/String.checkIndex(II)V -/
def sm_c13 : List (Option sm_I) := [some (.iload_n 0, 0, 0, 0), some (.iload_n 1, 0, 0, 0), some (.getstatic 1053, 1, 0, 213), none, none, some (.invokestatic 1059, 14, 3, 215), none, none, some (.pop, 0, 0, 0), some (.return_, 0, 0, 0)]
/-- jdk/internal/util/Preconditions.checkIndex(IILjava/util/function/BiFunction;)I -/
def sm_c14 : List (Option sm_I) := [some (.iload_n 0, 0, 0, 0), some (.ifCond .lt 8, 9, 0, 0), none, none, some (.iload_n 0, 0, 0, 0), some (.iload_n 1, 0, 0, 0), some (.if_icmp .lt 10, 16, 0, 0), none, none, some (.aload_n 2, 0, 0, 0), some (.iload_n 0, 0, 0, 0), some (.iload_n 1, 0, 0, 0), some (.invokestatic 95, 9998, 0, 0), none, none, some (.athrow, 0, 0, 0), some (.iload_n 0, 0, 0, 0), some (.ireturn, 0, 0, 0)]
/-- LeavingVote$Script.append(I)Z -/
def sm_c15 : List (Option sm_I) := [some (.aload_n 0, 0, 0, 0), some (.getfield 15, 5, 1, 68), none, none, some (.ifCond .lt 15, 19, 0, 0), none, none, some (.aload_n 0, 0, 0, 0), some (.getfield 15, 5, 1, 68), none, none, some (.aload_n 0, 0, 0, 0), some (.getfield 9, 5, 0, 67), none, none, some (.arraylength, 0, 0, 0), some (.if_icmp .lt 5, 21, 0, 0), none, none, some (.iconst 0, 0, 0, 0), some (.ireturn, 0, 0, 0), some (.aload_n 0, 0, 0, 0), some (.getfield 9, 5, 0, 67), none, none, some (.aload_n 0, 0, 0, 0), some (.getfield 15, 5, 1, 68), none, none, some (.iload_n 1, 0, 0, 0), some (.i2c, 0, 0, 0), some (.castore, 0, 0, 0), some (.aload_n 0, 0, 0, 0), some (.dup, 0, 0, 0), some (.getfield 15, 5, 1, 68), none, none, some (.iconst 1, 0, 0, 0), some (.iadd, 0, 0, 0), some (.putfield 15, 5, 1, 68), none, none, some (.iconst 1, 0, 0, 0), some (.ireturn, 0, 0, 0)]
/-- LeavingVote$Island.read(LLeavingVote$Script;LLeavingVote$Item;)I -/
def sm_c16 : List (Option sm_I) := [some (.aload_n 0, 0, 0, 0), some (.invokevirtual 21, 17, 1, 245), none, none, some (.iconst 0, 0, 0, 0), some (.istore_n 3, 0, 0, 0), some (.iconst 0, 0, 0, 0), some (.istore 4, 0, 0, 0), none, some (.iload 4, 0, 0, 0), none, some (.sipush 200, 0, 0, 0), none, none, some (.if_icmp .ge 41, 55, 0, 0), none, none, some (.iload_n 3, 0, 0, 0), some (.aload_n 1, 0, 0, 0), some (.invokevirtual 24, 20, 1, 257), none, none, some (.if_icmp .ge 33, 55, 0, 0), none, none, some (.aload_n 2, 0, 0, 0), some (.aload_n 1, 0, 0, 0), some (.iload_n 3, 0, 0, 0), some (.invokevirtual 30, 21, 3, 261), none, none, some (.ifCond .eq 11, 42, 0, 0), none, none, some (.aload_n 0, 0, 0, 0), some (.aload_n 2, 0, 0, 0), some (.invokevirtual 36, 29, 2, 290), none, none, some (.ifCond .ne 5, 44, 0, 0), none, none, some (.iload_n 3, 0, 0, 0), some (.ireturn, 0, 0, 0), some (.aload_n 2, 0, 0, 0), some (.invokevirtual 40, 37, 1, 320), none, none, some (.istore_n 3, 0, 0, 0), some (.iinc 4 1, 0, 0, 0), none, none, some (.goto (-43), 9, 0, 0), none, none, some (.bipush (-4), 0, 0, 0), none, some (.ireturn, 0, 0, 0)]
/-- LeavingVote$Island.empty()V -/
def sm_c17 : List (Option sm_I) := [some (.iconst 0, 0, 0, 0), some (.istore_n 1, 0, 0, 0), some (.iload_n 1, 0, 0, 0), some (.bipush 8, 0, 0, 0), none, some (.if_icmp .ge 16, 21, 0, 0), none, none, some (.aload_n 0, 0, 0, 0), some (.iload_n 1, 0, 0, 0), some (.iconst 0, 0, 0, 0), some (.iconst 0, 0, 0, 0), some (.invokevirtual 64, 18, 4, 249), none, none, some (.iinc 1 1, 0, 0, 0), none, none, some (.goto (-16), 2, 0, 0), none, none, some (.iconst 0, 0, 0, 0), some (.istore_n 1, 0, 0, 0), some (.iload_n 1, 0, 0, 0), some (.iconst 5, 0, 0, 0), some (.if_icmp .ge 15, 40, 0, 0), none, none, some (.aload_n 0, 0, 0, 0), some (.iload_n 1, 0, 0, 0), some (.iconst 0, 0, 0, 0), some (.invokevirtual 71, 19, 3, 253), none, none, some (.iinc 1 1, 0, 0, 0), none, none, some (.goto (-14), 23, 0, 0), none, none, some (.aload_n 0, 0, 0, 0), some (.iconst 0, 0, 0, 0), some (.putfield 43, 1, 3, 101), none, none, some (.aload_n 0, 0, 0, 0), some (.iconst 0, 0, 0, 0), some (.putfield 75, 1, 4, 102), none, none, some (.aload_n 0, 0, 0, 0), some (.iconst 4, 0, 0, 0), some (.putfield 78, 1, 5, 103), none, none, some (.aload_n 0, 0, 0, 0), some (.iconst 0, 0, 0, 0), some (.putfield 81, 1, 6, 104), none, none, some (.aload_n 0, 0, 0, 0), some (.iconst 5, 0, 0, 0), some (.putfield 84, 1, 7, 105), none, none, some (.aload_n 0, 0, 0, 0), some (.iconst 3, 0, 0, 0), some (.putfield 87, 1, 8, 106), none, none, some (.aload_n 0, 0, 0, 0), some (.lconst 0, 0, 0, 0), some (.putfield 47, 1, 9, 107), none, none, some (.return_, 0, 0, 0)]
/-- LeavingVote$Island.putIslander(III)V -/
def sm_c18 : List (Option sm_I) := [some (.iload_n 1, 0, 0, 0), some (.ifCond .lt 35, 36, 0, 0), none, none, some (.iload_n 1, 0, 0, 0), some (.aload_n 0, 0, 0, 0), some (.getfield 9, 1, 0, 98), none, none, some (.arraylength, 0, 0, 0), some (.if_icmp .ge 26, 36, 0, 0), none, none, some (.iload_n 1, 0, 0, 0), some (.aload_n 0, 0, 0, 0), some (.getfield 15, 1, 1, 99), none, none, some (.arraylength, 0, 0, 0), some (.if_icmp .ge 17, 36, 0, 0), none, none, some (.aload_n 0, 0, 0, 0), some (.getfield 9, 1, 0, 98), none, none, some (.iload_n 1, 0, 0, 0), some (.iload_n 2, 0, 0, 0), some (.iastore, 0, 0, 0), some (.aload_n 0, 0, 0, 0), some (.getfield 15, 1, 1, 99), none, none, some (.iload_n 1, 0, 0, 0), some (.iload_n 3, 0, 0, 0), some (.iastore, 0, 0, 0), some (.return_, 0, 0, 0)]
/-- LeavingVote$Island.putBoat(II)V -/
def sm_c19 : List (Option sm_I) := [some (.iload_n 1, 0, 0, 0), some (.ifCond .lt 19, 20, 0, 0), none, none, some (.iload_n 1, 0, 0, 0), some (.aload_n 0, 0, 0, 0), some (.getfield 18, 1, 2, 100), none, none, some (.arraylength, 0, 0, 0), some (.if_icmp .ge 10, 20, 0, 0), none, none, some (.aload_n 0, 0, 0, 0), some (.getfield 18, 1, 2, 100), none, none, some (.iload_n 1, 0, 0, 0), some (.iload_n 2, 0, 0, 0), some (.iastore, 0, 0, 0), some (.return_, 0, 0, 0)]
/-- LeavingVote$Script.length()I -/
def sm_c20 : List (Option sm_I) := [some (.aload_n 0, 0, 0, 0), some (.getfield 15, 5, 1, 68), none, none, some (.ireturn, 0, 0, 0)]
/-- LeavingVote$Item.readFrom(LLeavingVote$Script;I)Z -/
def sm_c21 : List (Option sm_I) := [some (.aload_n 0, 0, 0, 0), some (.aload_n 1, 0, 0, 0), some (.iload_n 2, 0, 0, 0), some (.invokevirtual 15, 22, 2, 265), none, none, some (.putfield 21, 2, 1, 82), none, none, some (.aload_n 0, 0, 0, 0), some (.getfield 21, 2, 1, 82), none, none, some (.invokestatic 25, 23, 1, 269), none, none, some (.istore_n 3, 0, 0, 0), some (.iload_n 2, 0, 0, 0), some (.iconst 1, 0, 0, 0), some (.iadd, 0, 0, 0), some (.istore 4, 0, 0, 0), none, some (.iconst 0, 0, 0, 0), some (.istore 5, 0, 0, 0), none, some (.iload 5, 0, 0, 0), none, some (.iload_n 3, 0, 0, 0), some (.if_icmp .ge 115, 143, 0, 0), none, none, some (.iload 5, 0, 0, 0), none, some (.aload_n 0, 0, 0, 0), some (.getfield 9, 2, 0, 81), none, none, some (.arraylength, 0, 0, 0), some (.if_icmp .ge 105, 143, 0, 0), none, none, some (.aload_n 1, 0, 0, 0), some (.iload 4, 0, 0, 0), none, some (.invokevirtual 28, 24, 2, 272), none, none, some (.istore 6, 0, 0, 0), none, some (.aload_n 1, 0, 0, 0), some (.iload 4, 0, 0, 0), none, some (.iload 6, 0, 0, 0), none, some (.invokevirtual 31, 26, 3, 280), none, none, some (.istore 7, 0, 0, 0), none, some (.iload 6, 0, 0, 0), none, some (.ifCond .eq 29, 90, 0, 0), none, none, some (.iload 7, 0, 0, 0), none, some (.aload_n 0, 0, 0, 0), some (.getfield 21, 2, 1, 82), none, none, some (.invokestatic 35, 27, 1, 284), none, none, some (.if_icmp .lt 17, 90, 0, 0), none, none, some (.iload 7, 0, 0, 0), none, some (.aload_n 0, 0, 0, 0), some (.getfield 21, 2, 1, 82), none, none, some (.iload 5, 0, 0, 0), none, some (.invokestatic 38, 28, 2, 287), none, none, some (.if_icmp .le 5, 92, 0, 0), none, none, some (.iconst 0, 0, 0, 0), some (.ireturn, 0, 0, 0), some (.iload 4, 0, 0, 0), none, some (.iload 6, 0, 0, 0), none, some (.iadd, 0, 0, 0), some (.istore 4, 0, 0, 0), none, some (.aload_n 1, 0, 0, 0), some (.iload 4, 0, 0, 0), none, some (.invokevirtual 15, 22, 2, 265), none, none, some (.iload 5, 0, 0, 0), none, some (.iconst 1, 0, 0, 0), some (.iadd, 0, 0, 0), some (.iload_n 3, 0, 0, 0), some (.if_icmp .ge 8, 118, 0, 0), none, none, some (.bipush 44, 0, 0, 0), none, some (.goto 5, 120, 0, 0), none, none, some (.bipush 59, 0, 0, 0), none, some (.if_icmp .eq 5, 125, 0, 0), none, none, some (.iconst 0, 0, 0, 0), some (.ireturn, 0, 0, 0), some (.iinc 4 1, 0, 0, 0), none, none, some (.aload_n 0, 0, 0, 0), some (.getfield 9, 2, 0, 81), none, none, some (.iload 5, 0, 0, 0), none, some (.iload 7, 0, 0, 0), none, some (.iastore, 0, 0, 0), some (.iinc 5 1, 0, 0, 0), none, none, some (.goto (-115), 25, 0, 0), none, none, some (.aload_n 0, 0, 0, 0), some (.iload 4, 0, 0, 0), none, some (.putfield 41, 2, 2, 83), none, none, some (.iload_n 3, 0, 0, 0), some (.ifCond .le 7, 157, 0, 0), none, none, some (.iconst 1, 0, 0, 0), some (.goto 4, 158, 0, 0), none, none, some (.iconst 0, 0, 0, 0), some (.ireturn, 0, 0, 0)]
/-- LeavingVote$Script.letterAt(I)I -/
def sm_c22 : List (Option sm_I) := [some (.iload_n 1, 0, 0, 0), some (.ifCond .lt 29, 30, 0, 0), none, none, some (.iload_n 1, 0, 0, 0), some (.aload_n 0, 0, 0, 0), some (.getfield 15, 5, 1, 68), none, none, some (.if_icmp .ge 21, 30, 0, 0), none, none, some (.iload_n 1, 0, 0, 0), some (.aload_n 0, 0, 0, 0), some (.getfield 9, 5, 0, 67), none, none, some (.arraylength, 0, 0, 0), some (.if_icmp .ge 12, 30, 0, 0), none, none, some (.aload_n 0, 0, 0, 0), some (.getfield 9, 5, 0, 67), none, none, some (.iload_n 1, 0, 0, 0), some (.caload, 0, 0, 0), some (.goto 4, 31, 0, 0), none, none, some (.iconst 0, 0, 0, 0), some (.ireturn, 0, 0, 0)]
/-- LeavingVote$Item.numbersOf(I)I -/
def sm_c23 : List (Option sm_I) := [some (.iload_n 0, 0, 0, 0), some (.tableswitch 91 98 115 #[89, 91, 89, 91, 91, 91, 89, 87, 91, 91, 91, 89, 91, 91, 91, 91, 91, 89], 0, 0, 0), none, none, none, none, none, none, none, none, none, none, none, none, none, none, none, none, none, none, none, none, none, none, none, none, none, none, none, none, none, none, none, none, none, none, none, none, none, none, none, none, none, none, none, none, none, none, none, none, none, none, none, none, none, none, none, none, none, none, none, none, none, none, none, none, none, none, none, none, none, none, none, none, none, none, none, none, none, none, none, none, none, none, none, none, none, none, some (.iconst 4, 0, 0, 0), some (.ireturn, 0, 0, 0), some (.iconst 1, 0, 0, 0), some (.ireturn, 0, 0, 0), some (.iconst 0, 0, 0, 0), some (.ireturn, 0, 0, 0)]
/-- LeavingVote$Script.figuresAt(I)I -/
def sm_c24 : List (Option sm_I) := [some (.aload_n 0, 0, 0, 0), some (.iload_n 1, 0, 0, 0), some (.invokevirtual 19, 22, 2, 276), none, none, some (.invokestatic 23, 25, 1, 277), none, none, some (.ifCond .ne 5, 13, 0, 0), none, none, some (.iconst 0, 0, 0, 0), some (.ireturn, 0, 0, 0), some (.aload_n 0, 0, 0, 0), some (.iload_n 1, 0, 0, 0), some (.iconst 1, 0, 0, 0), some (.iadd, 0, 0, 0), some (.invokevirtual 19, 22, 2, 276), none, none, some (.invokestatic 23, 25, 1, 277), none, none, some (.ifCond .eq 7, 30, 0, 0), none, none, some (.iconst 2, 0, 0, 0), some (.goto 4, 31, 0, 0), none, none, some (.iconst 1, 0, 0, 0), some (.ireturn, 0, 0, 0)]
/-- LeavingVote$Script.isFigure(I)Z -/
def sm_c25 : List (Option sm_I) := [some (.iload_n 0, 0, 0, 0), some (.bipush 48, 0, 0, 0), none, some (.if_icmp .lt 13, 16, 0, 0), none, none, some (.iload_n 0, 0, 0, 0), some (.bipush 57, 0, 0, 0), none, some (.if_icmp .gt 7, 16, 0, 0), none, none, some (.iconst 1, 0, 0, 0), some (.goto 4, 17, 0, 0), none, none, some (.iconst 0, 0, 0, 0), some (.ireturn, 0, 0, 0)]
/-- LeavingVote$Script.numberAt(II)I -/
def sm_c26 : List (Option sm_I) := [some (.aload_n 0, 0, 0, 0), some (.iload_n 1, 0, 0, 0), some (.invokevirtual 19, 22, 2, 276), none, none, some (.bipush 48, 0, 0, 0), none, some (.isub, 0, 0, 0), some (.istore_n 3, 0, 0, 0), some (.iload_n 2, 0, 0, 0), some (.iconst 2, 0, 0, 0), some (.if_icmp .ne 21, 32, 0, 0), none, none, some (.bipush 10, 0, 0, 0), none, some (.iload_n 3, 0, 0, 0), some (.imul, 0, 0, 0), some (.aload_n 0, 0, 0, 0), some (.iload_n 1, 0, 0, 0), some (.iconst 1, 0, 0, 0), some (.iadd, 0, 0, 0), some (.invokevirtual 19, 22, 2, 276), none, none, some (.iadd, 0, 0, 0), some (.bipush 48, 0, 0, 0), none, some (.isub, 0, 0, 0), some (.goto 4, 33, 0, 0), none, none, some (.iload_n 3, 0, 0, 0), some (.ireturn, 0, 0, 0)]
/-- LeavingVote$Item.least(I)I -/
def sm_c27 : List (Option sm_I) := [some (.iload_n 0, 0, 0, 0), some (.bipush 98, 0, 0, 0), none, some (.if_icmp .eq 9, 12, 0, 0), none, none, some (.iload_n 0, 0, 0, 0), some (.bipush 104, 0, 0, 0), none, some (.if_icmp .ne 7, 16, 0, 0), none, none, some (.iconst 1, 0, 0, 0), some (.goto 4, 17, 0, 0), none, none, some (.iconst 0, 0, 0, 0), some (.ireturn, 0, 0, 0)]
/-- LeavingVote$Item.most(II)I -/
def sm_c28 : List (Option sm_I) := [some (.iload_n 0, 0, 0, 0), some (.tableswitch 97 98 109 #[85, 97, 88, 97, 97, 97, 94, 63, 97, 97, 97, 91], 0, 0, 0), none, none, none, none, none, none, none, none, none, none, none, none, none, none, none, none, none, none, none, none, none, none, none, none, none, none, none, none, none, none, none, none, none, none, none, none, none, none, none, none, none, none, none, none, none, none, none, none, none, none, none, none, none, none, none, none, none, none, none, none, none, none, some (.iload_n 1, 0, 0, 0), some (.iconst 2, 0, 0, 0), some (.if_icmp .ge 7, 73, 0, 0), none, none, some (.iconst 3, 0, 0, 0), some (.goto 15, 85, 0, 0), none, none, some (.iload_n 1, 0, 0, 0), some (.iconst 2, 0, 0, 0), some (.if_icmp .ne 8, 83, 0, 0), none, none, some (.bipush 7, 0, 0, 0), none, some (.goto 5, 85, 0, 0), none, none, some (.bipush 9, 0, 0, 0), none, some (.ireturn, 0, 0, 0), some (.bipush 8, 0, 0, 0), none, some (.ireturn, 0, 0, 0), some (.bipush 9, 0, 0, 0), none, some (.ireturn, 0, 0, 0), some (.bipush 40, 0, 0, 0), none, some (.ireturn, 0, 0, 0), some (.bipush 9, 0, 0, 0), none, some (.ireturn, 0, 0, 0), some (.bipush 10, 0, 0, 0), none, some (.ireturn, 0, 0, 0)]
/-- LeavingVote$Island.take(LLeavingVote$Item;)Z -/
def sm_c29 : List (Option sm_I) := [some (.aload_n 1, 0, 0, 0), some (.iconst 0, 0, 0, 0), some (.invokevirtual 101, 30, 2, 294), none, none, some (.istore_n 2, 0, 0, 0), some (.aload_n 1, 0, 0, 0), some (.invokevirtual 104, 31, 1, 298), none, none, some (.tableswitch 126 98 115 #[92, 126, 98, 126, 126, 126, 112, 86, 126, 126, 126, 105, 126, 126, 126, 126, 126, 119], 0, 0, 0), none, none, none, none, none, none, none, none, none, none, none, none, none, none, none, none, none, none, none, none, none, none, none, none, none, none, none, none, none, none, none, none, none, none, none, none, none, none, none, none, none, none, none, none, none, none, none, none, none, none, none, none, none, none, none, none, none, none, none, none, none, none, none, none, none, none, none, none, none, none, none, none, none, none, none, none, none, none, none, none, none, none, none, none, none, some (.aload_n 0, 0, 0, 0), some (.aload_n 1, 0, 0, 0), some (.invokevirtual 107, 32, 2, 302), none, none, some (.ireturn, 0, 0, 0), some (.aload_n 0, 0, 0, 0), some (.iload_n 2, 0, 0, 0), some (.invokevirtual 110, 36, 2, 316), none, none, some (.ireturn, 0, 0, 0), some (.aload_n 0, 0, 0, 0), some (.iload_n 2, 0, 0, 0), some (.putfield 78, 1, 5, 103), none, none, some (.iconst 1, 0, 0, 0), some (.ireturn, 0, 0, 0), some (.aload_n 0, 0, 0, 0), some (.iload_n 2, 0, 0, 0), some (.putfield 81, 1, 6, 104), none, none, some (.iconst 1, 0, 0, 0), some (.ireturn, 0, 0, 0), some (.aload_n 0, 0, 0, 0), some (.iload_n 2, 0, 0, 0), some (.putfield 84, 1, 7, 105), none, none, some (.iconst 1, 0, 0, 0), some (.ireturn, 0, 0, 0), some (.aload_n 0, 0, 0, 0), some (.iload_n 2, 0, 0, 0), some (.putfield 87, 1, 8, 106), none, none, some (.iconst 1, 0, 0, 0), some (.ireturn, 0, 0, 0), some (.iconst 0, 0, 0, 0), some (.ireturn, 0, 0, 0)]
/-- LeavingVote$Item.number(I)I -/
def sm_c30 : List (Option sm_I) := [some (.iload_n 1, 0, 0, 0), some (.ifCond .lt 21, 22, 0, 0), none, none, some (.iload_n 1, 0, 0, 0), some (.aload_n 0, 0, 0, 0), some (.getfield 9, 2, 0, 81), none, none, some (.arraylength, 0, 0, 0), some (.if_icmp .ge 12, 22, 0, 0), none, none, some (.aload_n 0, 0, 0, 0), some (.getfield 9, 2, 0, 81), none, none, some (.iload_n 1, 0, 0, 0), some (.iaload, 0, 0, 0), some (.goto 4, 23, 0, 0), none, none, some (.iconst 0, 0, 0, 0), some (.ireturn, 0, 0, 0)]
/-- LeavingVote$Item.letter()I -/
def sm_c31 : List (Option sm_I) := [some (.aload_n 0, 0, 0, 0), some (.getfield 21, 2, 1, 82), none, none, some (.ireturn, 0, 0, 0)]
/-- LeavingVote$Island.takeIslander(LLeavingVote$Item;)Z -/
def sm_c32 : List (Option sm_I) := [some (.aload_n 0, 0, 0, 0), some (.getfield 43, 1, 3, 101), none, none, some (.bipush 8, 0, 0, 0), none, some (.if_icmp .lt 5, 11, 0, 0), none, none, some (.iconst 0, 0, 0, 0), some (.ireturn, 0, 0, 0), some (.aload_n 0, 0, 0, 0), some (.aload_n 0, 0, 0, 0), some (.getfield 43, 1, 3, 101), none, none, some (.aload_n 1, 0, 0, 0), some (.iconst 0, 0, 0, 0), some (.invokevirtual 101, 30, 2, 294), none, none, some (.aload_n 1, 0, 0, 0), some (.iconst 3, 0, 0, 0), some (.invokevirtual 101, 30, 2, 294), none, none, some (.invokevirtual 64, 18, 4, 249), none, none, some (.aload_n 0, 0, 0, 0), some (.aload_n 0, 0, 0, 0), some (.getfield 47, 1, 9, 107), none, none, some (.aload_n 0, 0, 0, 0), some (.getfield 43, 1, 3, 101), none, none, some (.aload_n 1, 0, 0, 0), some (.iconst 1, 0, 0, 0), some (.invokevirtual 101, 30, 2, 294), none, none, some (.invokestatic 114, 33, 3, 306), none, none, some (.putfield 47, 1, 9, 107), none, none, some (.aload_n 0, 0, 0, 0), some (.aload_n 0, 0, 0, 0), some (.getfield 47, 1, 9, 107), none, none, some (.aload_n 0, 0, 0, 0), some (.getfield 43, 1, 3, 101), none, none, some (.aload_n 1, 0, 0, 0), some (.iconst 2, 0, 0, 0), some (.invokevirtual 101, 30, 2, 294), none, none, some (.invokestatic 118, 35, 3, 313), none, none, some (.putfield 47, 1, 9, 107), none, none, some (.aload_n 0, 0, 0, 0), some (.dup, 0, 0, 0), some (.getfield 43, 1, 3, 101), none, none, some (.iconst 1, 0, 0, 0), some (.iadd, 0, 0, 0), some (.putfield 43, 1, 3, 101), none, none, some (.iconst 1, 0, 0, 0), some (.ireturn, 0, 0, 0)]
/-- LeavingVote$Standing.withLeaning(JII)J -/
def sm_c33 : List (Option sm_I) := [some (.lload_n 0, 0, 0, 0), some (.iload_n 2, 0, 0, 0), some (.iconst 1, 0, 0, 0), some (.iload_n 3, 0, 0, 0), some (.iconst 1, 0, 0, 0), some (.iand, 0, 0, 0), some (.invokestatic 15, 34, 4, 309), none, none, some (.lstore 4, 0, 0, 0), none, some (.lload 4, 0, 0, 0), none, some (.bipush 8, 0, 0, 0), none, some (.iload_n 2, 0, 0, 0), some (.iadd, 0, 0, 0), some (.iconst 1, 0, 0, 0), some (.iload_n 3, 0, 0, 0), some (.iconst 1, 0, 0, 0), some (.iushr, 0, 0, 0), some (.invokestatic 15, 34, 4, 309), none, none, some (.lreturn, 0, 0, 0)]
/-- LeavingVote$Standing.with(JIII)J -/
def sm_c34 : List (Option sm_I) := [some (.lconst 1, 0, 0, 0), some (.iload_n 3, 0, 0, 0), some (.lshl, 0, 0, 0), some (.lconst 1, 0, 0, 0), some (.lsub, 0, 0, 0), some (.lstore 5, 0, 0, 0), none, some (.lload_n 0, 0, 0, 0), some (.lload 5, 0, 0, 0), none, some (.iload_n 2, 0, 0, 0), some (.lshl, 0, 0, 0), some (.ldc2_w 23, 1, 1, 312), none, none, some (.lxor, 0, 0, 0), some (.land, 0, 0, 0), some (.iload 4, 0, 0, 0), none, some (.i2l, 0, 0, 0), some (.lload 5, 0, 0, 0), none, some (.land, 0, 0, 0), some (.iload_n 2, 0, 0, 0), some (.lshl, 0, 0, 0), some (.lor, 0, 0, 0), some (.lreturn, 0, 0, 0)]
/-- LeavingVote$Standing.withMinded(JII)J -/
def sm_c35 : List (Option sm_I) := [some (.lload_n 0, 0, 0, 0), some (.bipush 16, 0, 0, 0), none, some (.iconst 3, 0, 0, 0), some (.iload_n 2, 0, 0, 0), some (.imul, 0, 0, 0), some (.iadd, 0, 0, 0), some (.iconst 3, 0, 0, 0), some (.iload_n 3, 0, 0, 0), some (.invokestatic 15, 34, 4, 309), none, none, some (.lreturn, 0, 0, 0)]
/-- LeavingVote$Island.takeBoat(I)Z -/
def sm_c36 : List (Option sm_I) := [some (.aload_n 0, 0, 0, 0), some (.getfield 75, 1, 4, 102), none, none, some (.iconst 5, 0, 0, 0), some (.if_icmp .lt 5, 10, 0, 0), none, none, some (.iconst 0, 0, 0, 0), some (.ireturn, 0, 0, 0), some (.aload_n 0, 0, 0, 0), some (.aload_n 0, 0, 0, 0), some (.getfield 75, 1, 4, 102), none, none, some (.iload_n 1, 0, 0, 0), some (.invokevirtual 71, 19, 3, 253), none, none, some (.aload_n 0, 0, 0, 0), some (.dup, 0, 0, 0), some (.getfield 75, 1, 4, 102), none, none, some (.iconst 1, 0, 0, 0), some (.iadd, 0, 0, 0), some (.putfield 75, 1, 4, 102), none, none, some (.iconst 1, 0, 0, 0), some (.ireturn, 0, 0, 0)]
/-- LeavingVote$Item.behind()I -/
def sm_c37 : List (Option sm_I) := [some (.aload_n 0, 0, 0, 0), some (.getfield 41, 2, 2, 83), none, none, some (.ireturn, 0, 0, 0)]
/-- LeavingVote$Island.copyFrom(LLeavingVote$Island;)V -/
def sm_c38 : List (Option sm_I) := [some (.iconst 0, 0, 0, 0), some (.istore_n 2, 0, 0, 0), some (.iload_n 2, 0, 0, 0), some (.bipush 8, 0, 0, 0), none, some (.if_icmp .ge 26, 31, 0, 0), none, none, some (.aload_n 0, 0, 0, 0), some (.iload_n 2, 0, 0, 0), some (.aload_n 1, 0, 0, 0), some (.iload_n 2, 0, 0, 0), some (.invokevirtual 57, 39, 2, 328), none, none, some (.aload_n 1, 0, 0, 0), some (.iconst 1, 0, 0, 0), some (.iload_n 2, 0, 0, 0), some (.ishl, 0, 0, 0), some (.invokevirtual 61, 40, 2, 332), none, none, some (.invokevirtual 64, 18, 4, 249), none, none, some (.iinc 2 1, 0, 0, 0), none, none, some (.goto (-26), 2, 0, 0), none, none, some (.iconst 0, 0, 0, 0), some (.istore_n 2, 0, 0, 0), some (.iload_n 2, 0, 0, 0), some (.iconst 5, 0, 0, 0), some (.if_icmp .ge 21, 56, 0, 0), none, none, some (.aload_n 0, 0, 0, 0), some (.iload_n 2, 0, 0, 0), some (.aload_n 1, 0, 0, 0), some (.iconst 1, 0, 0, 0), some (.iload_n 2, 0, 0, 0), some (.ishl, 0, 0, 0), some (.invokevirtual 68, 41, 2, 336), none, none, some (.invokevirtual 71, 19, 3, 253), none, none, some (.iinc 2 1, 0, 0, 0), none, none, some (.goto (-20), 33, 0, 0), none, none, some (.aload_n 0, 0, 0, 0), some (.aload_n 1, 0, 0, 0), some (.getfield 43, 1, 3, 101), none, none, some (.putfield 43, 1, 3, 101), none, none, some (.aload_n 0, 0, 0, 0), some (.aload_n 1, 0, 0, 0), some (.getfield 75, 1, 4, 102), none, none, some (.putfield 75, 1, 4, 102), none, none, some (.aload_n 0, 0, 0, 0), some (.aload_n 1, 0, 0, 0), some (.getfield 78, 1, 5, 103), none, none, some (.putfield 78, 1, 5, 103), none, none, some (.aload_n 0, 0, 0, 0), some (.aload_n 1, 0, 0, 0), some (.getfield 81, 1, 6, 104), none, none, some (.putfield 81, 1, 6, 104), none, none, some (.aload_n 0, 0, 0, 0), some (.aload_n 1, 0, 0, 0), some (.getfield 84, 1, 7, 105), none, none, some (.putfield 84, 1, 7, 105), none, none, some (.aload_n 0, 0, 0, 0), some (.aload_n 1, 0, 0, 0), some (.getfield 87, 1, 8, 106), none, none, some (.putfield 87, 1, 8, 106), none, none, some (.aload_n 0, 0, 0, 0), some (.aload_n 1, 0, 0, 0), some (.getfield 47, 1, 9, 107), none, none, some (.putfield 47, 1, 9, 107), none, none, some (.return_, 0, 0, 0)]
/-- LeavingVote$Island.kind(I)I -/
def sm_c39 : List (Option sm_I) := [some (.iload_n 1, 0, 0, 0), some (.ifCond .lt 21, 22, 0, 0), none, none, some (.iload_n 1, 0, 0, 0), some (.aload_n 0, 0, 0, 0), some (.getfield 9, 1, 0, 98), none, none, some (.arraylength, 0, 0, 0), some (.if_icmp .ge 12, 22, 0, 0), none, none, some (.aload_n 0, 0, 0, 0), some (.getfield 9, 1, 0, 98), none, none, some (.iload_n 1, 0, 0, 0), some (.iaload, 0, 0, 0), some (.goto 4, 23, 0, 0), none, none, some (.iconst 0, 0, 0, 0), some (.ireturn, 0, 0, 0)]
/-- LeavingVote$Island.cowsOf(I)I -/
def sm_c40 : List (Option sm_I) := [some (.iconst 0, 0, 0, 0), some (.istore_n 2, 0, 0, 0), some (.iconst 0, 0, 0, 0), some (.istore_n 3, 0, 0, 0), some (.iload_n 3, 0, 0, 0), some (.aload_n 0, 0, 0, 0), some (.getfield 15, 1, 1, 99), none, none, some (.arraylength, 0, 0, 0), some (.if_icmp .ge 27, 37, 0, 0), none, none, some (.iload_n 1, 0, 0, 0), some (.iload_n 3, 0, 0, 0), some (.iushr, 0, 0, 0), some (.iconst 1, 0, 0, 0), some (.iand, 0, 0, 0), some (.iconst 1, 0, 0, 0), some (.if_icmp .ne 12, 31, 0, 0), none, none, some (.iload_n 2, 0, 0, 0), some (.aload_n 0, 0, 0, 0), some (.getfield 15, 1, 1, 99), none, none, some (.iload_n 3, 0, 0, 0), some (.iaload, 0, 0, 0), some (.iadd, 0, 0, 0), some (.istore_n 2, 0, 0, 0), some (.iinc 3 1, 0, 0, 0), none, none, some (.goto (-30), 4, 0, 0), none, none, some (.iload_n 2, 0, 0, 0), some (.ireturn, 0, 0, 0)]
/-- LeavingVote$Island.seatsOf(I)I -/
def sm_c41 : List (Option sm_I) := [some (.iconst 0, 0, 0, 0), some (.istore_n 2, 0, 0, 0), some (.iconst 0, 0, 0, 0), some (.istore_n 3, 0, 0, 0), some (.iload_n 3, 0, 0, 0), some (.aload_n 0, 0, 0, 0), some (.getfield 18, 1, 2, 100), none, none, some (.arraylength, 0, 0, 0), some (.if_icmp .ge 27, 37, 0, 0), none, none, some (.iload_n 1, 0, 0, 0), some (.iload_n 3, 0, 0, 0), some (.iushr, 0, 0, 0), some (.iconst 1, 0, 0, 0), some (.iand, 0, 0, 0), some (.iconst 1, 0, 0, 0), some (.if_icmp .ne 12, 31, 0, 0), none, none, some (.iload_n 2, 0, 0, 0), some (.aload_n 0, 0, 0, 0), some (.getfield 18, 1, 2, 100), none, none, some (.iload_n 3, 0, 0, 0), some (.iaload, 0, 0, 0), some (.iadd, 0, 0, 0), some (.istore_n 2, 0, 0, 0), some (.iinc 3 1, 0, 0, 0), none, none, some (.goto (-30), 4, 0, 0), none, none, some (.iload_n 2, 0, 0, 0), some (.ireturn, 0, 0, 0)]
/-- LeavingVote$Island.firstStanding()J -/
def sm_c42 : List (Option sm_I) := [some (.aload_n 0, 0, 0, 0), some (.getfield 47, 1, 9, 107), none, none, some (.lreturn, 0, 0, 0)]
/-- LeavingVote$Script.clear()V -/
def sm_c43 : List (Option sm_I) := [some (.aload_n 0, 0, 0, 0), some (.iconst 0, 0, 0, 0), some (.putfield 15, 5, 1, 68), none, none, some (.return_, 0, 0, 0)]
/-- LeavingVote.write(I)I -/
def sm_c44 : List (Option sm_I) := [some (.iload_n 1, 0, 0, 0), some (.bipush 32, 0, 0, 0), none, some (.if_icmp .lt 9, 12, 0, 0), none, none, some (.iload_n 1, 0, 0, 0), some (.bipush 126, 0, 0, 0), none, some (.if_icmp .le 5, 14, 0, 0), none, none, some (.iconst (-1), 0, 0, 0), some (.ireturn, 0, 0, 0), some (.aload_n 0, 0, 0, 0), some (.getfield 10, 0, 0, 348), none, none, some (.iload_n 1, 0, 0, 0), some (.invokevirtual 62, 15, 2, 237), none, none, some (.ifCond .eq 13, 35, 0, 0), none, none, some (.aload_n 0, 0, 0, 0), some (.getfield 10, 0, 0, 348), none, none, some (.invokevirtual 66, 20, 1, 381), none, none, some (.goto 5, 37, 0, 0), none, none, some (.bipush (-3), 0, 0, 0), none, some (.ireturn, 0, 0, 0)]
/-- LeavingVote.wipe()I -/
def sm_c45 : List (Option sm_I) := [some (.aload_n 0, 0, 0, 0), some (.getfield 10, 0, 0, 348), none, none, some (.invokevirtual 66, 20, 1, 381), none, none, some (.istore_n 1, 0, 0, 0), some (.aload_n 0, 0, 0, 0), some (.getfield 10, 0, 0, 348), none, none, some (.invokevirtual 70, 43, 1, 344), none, none, some (.iload_n 1, 0, 0, 0), some (.ireturn, 0, 0, 0)]
/-- LeavingVote.fault()I -/
def sm_c46 : List (Option sm_I) := [some (.aload_n 0, 0, 0, 0), some (.getfield 26, 0, 2, 350), none, none, some (.aload_n 0, 0, 0, 0), some (.getfield 10, 0, 0, 348), none, none, some (.aload_n 0, 0, 0, 0), some (.getfield 19, 0, 1, 349), none, none, some (.invokevirtual 73, 16, 3, 241), none, none, some (.ireturn, 0, 0, 0)]
/-- LeavingVote.lay()I -/
def sm_c47 : List (Option sm_I) := [some (.aload_n 0, 0, 0, 0), some (.getfield 26, 0, 2, 350), none, none, some (.aload_n 0, 0, 0, 0), some (.getfield 10, 0, 0, 348), none, none, some (.aload_n 0, 0, 0, 0), some (.getfield 19, 0, 1, 349), none, none, some (.invokevirtual 73, 16, 3, 241), none, none, some (.bipush (-4), 0, 0, 0), none, some (.if_icmp .ne 13, 30, 0, 0), none, none, some (.aload_n 0, 0, 0, 0), some (.getfield 26, 0, 2, 350), none, none, some (.invokevirtual 77, 48, 1, 394), none, none, some (.ifCond .ne 6, 33, 0, 0), none, none, some (.bipush (-2), 0, 0, 0), none, some (.ireturn, 0, 0, 0), some (.aload_n 0, 0, 0, 0), some (.getfield 30, 0, 3, 351), none, none, some (.aload_n 0, 0, 0, 0), some (.getfield 26, 0, 2, 350), none, none, some (.invokevirtual 81, 38, 2, 324), none, none, some (.aload_n 0, 0, 0, 0), some (.aload_n 0, 0, 0, 0), some (.getfield 30, 0, 3, 351), none, none, some (.invokevirtual 85, 42, 1, 340), none, none, some (.putfield 89, 0, 8, 356), none, none, some (.aload_n 0, 0, 0, 0), some (.getfield 45, 0, 5, 353), none, none, some (.invokevirtual 93, 51, 1, 404), none, none, some (.aload_n 0, 0, 0, 0), some (.getfield 49, 0, 6, 354), none, none, some (.invokevirtual 93, 51, 1, 404), none, none, some (.aload_n 0, 0, 0, 0), some (.getfield 55, 0, 7, 355), none, none, some (.invokevirtual 94, 52, 1, 408), none, none, some (.aload_n 0, 0, 0, 0), some (.getfield 30, 0, 3, 351), none, none, some (.invokevirtual 95, 53, 1, 412), none, none, some (.ireturn, 0, 0, 0)]
/-- LeavingVote$Island.canBeLaid()Z -/
def sm_c48 : List (Option sm_I) := [some (.iconst 0, 0, 0, 0), some (.istore_n 1, 0, 0, 0), some (.iload_n 1, 0, 0, 0), some (.aload_n 0, 0, 0, 0), some (.getfield 43, 1, 3, 101), none, none, some (.if_icmp .ge 26, 33, 0, 0), none, none, some (.aload_n 0, 0, 0, 0), some (.getfield 47, 1, 9, 107), none, none, some (.iload_n 1, 0, 0, 0), some (.invokestatic 51, 49, 2, 398), none, none, some (.aload_n 0, 0, 0, 0), some (.getfield 43, 1, 3, 101), none, none, some (.if_icmp .lt 5, 27, 0, 0), none, none, some (.iconst 0, 0, 0, 0), some (.ireturn, 0, 0, 0), some (.iinc 1 1, 0, 0, 0), none, none, some (.goto (-28), 2, 0, 0), none, none, some (.aload_n 0, 0, 0, 0), some (.getfield 43, 1, 3, 101), none, none, some (.ifCond .le 7, 44, 0, 0), none, none, some (.iconst 1, 0, 0, 0), some (.goto 4, 45, 0, 0), none, none, some (.iconst 0, 0, 0, 0), some (.ireturn, 0, 0, 0)]
/-- LeavingVote$Standing.minded(JI)I -/
def sm_c49 : List (Option sm_I) := [some (.lload_n 0, 0, 0, 0), some (.bipush 16, 0, 0, 0), none, some (.iconst 3, 0, 0, 0), some (.iload_n 2, 0, 0, 0), some (.imul, 0, 0, 0), some (.iadd, 0, 0, 0), some (.iconst 3, 0, 0, 0), some (.invokestatic 9, 50, 3, 401), none, none, some (.ireturn, 0, 0, 0)]
/-- LeavingVote$Standing.part(JII)I -/
def sm_c50 : List (Option sm_I) := [some (.lload_n 0, 0, 0, 0), some (.iload_n 2, 0, 0, 0), some (.lushr, 0, 0, 0), some (.l2i, 0, 0, 0), some (.iconst 1, 0, 0, 0), some (.iload_n 3, 0, 0, 0), some (.ishl, 0, 0, 0), some (.iconst 1, 0, 0, 0), some (.isub, 0, 0, 0), some (.iand, 0, 0, 0), some (.ireturn, 0, 0, 0)]
/-- LeavingVote$Pile.clear()V -/
def sm_c51 : List (Option sm_I) := [some (.aload_n 0, 0, 0, 0), some (.iconst 0, 0, 0, 0), some (.putfield 19, 4, 1, 161), none, none, some (.return_, 0, 0, 0)]
/-- LeavingVote$Sightings.clear()V -/
def sm_c52 : List (Option sm_I) := [some (.aload_n 0, 0, 0, 0), some (.iconst 0, 0, 0, 0), some (.putfield 18, 6, 2, 176), none, none, some (.return_, 0, 0, 0)]
/-- LeavingVote$Island.islanders()I -/
def sm_c53 : List (Option sm_I) := [some (.aload_n 0, 0, 0, 0), some (.getfield 43, 1, 3, 101), none, none, some (.ireturn, 0, 0, 0)]
/-- LeavingVote.islander(II)I -/
def sm_c54 : List (Option sm_I) := [some (.aload_n 0, 0, 0, 0), some (.iload_n 1, 0, 0, 0), some (.invokevirtual 98, 55, 2, 420), none, none, some (.ifCond .ne 5, 10, 0, 0), none, none, some (.iconst (-1), 0, 0, 0), some (.ireturn, 0, 0, 0), some (.iload_n 2, 0, 0, 0), some (.tableswitch 67 0 3 #[29, 38, 47, 56], 0, 0, 0), none, none, none, none, none, none, none, none, none, none, none, none, none, none, none, none, none, none, none, none, none, none, none, none, none, none, none, none, some (.aload_n 0, 0, 0, 0), some (.getfield 30, 0, 3, 351), none, none, some (.iload_n 1, 0, 0, 0), some (.invokevirtual 101, 39, 2, 424), none, none, some (.ireturn, 0, 0, 0), some (.aload_n 0, 0, 0, 0), some (.getfield 89, 0, 8, 356), none, none, some (.iload_n 1, 0, 0, 0), some (.invokestatic 105, 56, 2, 425), none, none, some (.ireturn, 0, 0, 0), some (.aload_n 0, 0, 0, 0), some (.getfield 89, 0, 8, 356), none, none, some (.iload_n 1, 0, 0, 0), some (.invokestatic 111, 49, 2, 428), none, none, some (.ireturn, 0, 0, 0), some (.aload_n 0, 0, 0, 0), some (.getfield 30, 0, 3, 351), none, none, some (.iconst 1, 0, 0, 0), some (.iload_n 1, 0, 0, 0), some (.ishl, 0, 0, 0), some (.invokevirtual 114, 40, 2, 429), none, none, some (.ireturn, 0, 0, 0), some (.iconst (-1), 0, 0, 0), some (.ireturn, 0, 0, 0)]
/-- LeavingVote.isIslander(I)Z -/
def sm_c55 : List (Option sm_I) := [some (.iload_n 1, 0, 0, 0), some (.ifCond .lt 18, 19, 0, 0), none, none, some (.iload_n 1, 0, 0, 0), some (.aload_n 0, 0, 0, 0), some (.getfield 30, 0, 3, 351), none, none, some (.invokevirtual 95, 53, 1, 412), none, none, some (.if_icmp .ge 7, 19, 0, 0), none, none, some (.iconst 1, 0, 0, 0), some (.goto 4, 20, 0, 0), none, none, some (.iconst 0, 0, 0, 0), some (.ireturn, 0, 0, 0)]
/-- LeavingVote$Standing.leaning(JI)I -/
def sm_c56 : List (Option sm_I) := [some (.lload_n 0, 0, 0, 0), some (.iload_n 2, 0, 0, 0), some (.iconst 1, 0, 0, 0), some (.invokestatic 9, 50, 3, 401), none, none, some (.iconst 2, 0, 0, 0), some (.lload_n 0, 0, 0, 0), some (.bipush 8, 0, 0, 0), none, some (.iload_n 2, 0, 0, 0), some (.iadd, 0, 0, 0), some (.iconst 1, 0, 0, 0), some (.invokestatic 9, 50, 3, 401), none, none, some (.imul, 0, 0, 0), some (.iadd, 0, 0, 0), some (.ireturn, 0, 0, 0)]
/-- LeavingVote.boat(II)I -/
def sm_c57 : List (Option sm_I) := [some (.aload_n 0, 0, 0, 0), some (.iload_n 1, 0, 0, 0), some (.invokevirtual 117, 58, 2, 434), none, none, some (.ifCond .ne 5, 10, 0, 0), none, none, some (.iconst (-1), 0, 0, 0), some (.ireturn, 0, 0, 0), some (.iload_n 2, 0, 0, 0), some (.lookupswitch 48 #[(0, 25), (1, 36)], 0, 0, 0), none, none, none, none, none, none, none, none, none, none, none, none, none, none, none, none, none, none, none, none, none, none, none, none, some (.aload_n 0, 0, 0, 0), some (.getfield 30, 0, 3, 351), none, none, some (.iconst 1, 0, 0, 0), some (.iload_n 1, 0, 0, 0), some (.ishl, 0, 0, 0), some (.invokevirtual 120, 41, 2, 442), none, none, some (.ireturn, 0, 0, 0), some (.aload_n 0, 0, 0, 0), some (.getfield 89, 0, 8, 356), none, none, some (.invokestatic 123, 60, 1, 443), none, none, some (.iload_n 1, 0, 0, 0), some (.iushr, 0, 0, 0), some (.iconst 1, 0, 0, 0), some (.iand, 0, 0, 0), some (.ireturn, 0, 0, 0), some (.iconst (-1), 0, 0, 0), some (.ireturn, 0, 0, 0)]
/-- LeavingVote.isBoat(I)Z -/
def sm_c58 : List (Option sm_I) := [some (.iload_n 1, 0, 0, 0), some (.ifCond .lt 18, 19, 0, 0), none, none, some (.iload_n 1, 0, 0, 0), some (.aload_n 0, 0, 0, 0), some (.getfield 30, 0, 3, 351), none, none, some (.invokevirtual 224, 59, 1, 438), none, none, some (.if_icmp .ge 7, 19, 0, 0), none, none, some (.iconst 1, 0, 0, 0), some (.goto 4, 20, 0, 0), none, none, some (.iconst 0, 0, 0, 0), some (.ireturn, 0, 0, 0)]
/-- LeavingVote$Island.boats()I -/
def sm_c59 : List (Option sm_I) := [some (.aload_n 0, 0, 0, 0), some (.getfield 75, 1, 4, 102), none, none, some (.ireturn, 0, 0, 0)]
/-- LeavingVote$Standing.held(J)I -/
def sm_c60 : List (Option sm_I) := [some (.lload_n 0, 0, 0, 0), some (.bipush 40, 0, 0, 0), none, some (.iconst 5, 0, 0, 0), some (.invokestatic 9, 50, 3, 401), none, none, some (.ireturn, 0, 0, 0)]
/-- LeavingVote.wants(I)I -/
def sm_c61 : List (Option sm_I) := [some (.iload_n 1, 0, 0, 0), some (.invokestatic 127, 62, 1, 450), none, none, some (.ifCond .ne 5, 9, 0, 0), none, none, some (.iconst (-1), 0, 0, 0), some (.ireturn, 0, 0, 0), some (.aload_n 0, 0, 0, 0), some (.getfield 36, 0, 4, 352), none, none, some (.aload_n 0, 0, 0, 0), some (.getfield 30, 0, 3, 351), none, none, some (.aload_n 0, 0, 0, 0), some (.getfield 89, 0, 8, 356), none, none, some (.invokevirtual 130, 63, 3, 453), none, none, some (.aload_n 0, 0, 0, 0), some (.getfield 36, 0, 4, 352), none, none, some (.aload_n 0, 0, 0, 0), some (.getfield 89, 0, 8, 356), none, none, some (.iload_n 1, 0, 0, 0), some (.invokestatic 134, 70, 2, 481), none, none, some (.iconst 0, 0, 0, 0), some (.invokevirtual 137, 71, 3, 484), none, none, some (.ireturn, 0, 0, 0)]
/-- LeavingVote.isQuestion(I)Z -/
def sm_c62 : List (Option sm_I) := [some (.iload_n 0, 0, 0, 0), some (.ifCond .lt 12, 13, 0, 0), none, none, some (.iload_n 0, 0, 0, 0), some (.iconst 2, 0, 0, 0), some (.if_icmp .ge 7, 13, 0, 0), none, none, some (.iconst 1, 0, 0, 0), some (.goto 4, 14, 0, 0), none, none, some (.iconst 0, 0, 0, 0), some (.ireturn, 0, 0, 0)]
/-- LeavingVote$Night.set(LLeavingVote$Island;J)V -/
def sm_c63 : List (Option sm_I) := [some (.lload_n 2, 0, 0, 0), some (.invokestatic 15, 64, 1, 457), none, none, some (.istore 4, 0, 0, 0), none, some (.iconst 0, 0, 0, 0), some (.istore 5, 0, 0, 0), none, some (.iload 5, 0, 0, 0), none, some (.aload_n 0, 0, 0, 0), some (.getfield 9, 3, 0, 135), none, none, some (.arraylength, 0, 0, 0), some (.if_icmp .ge 33, 49, 0, 0), none, none, some (.aload_n 0, 0, 0, 0), some (.getfield 9, 3, 0, 135), none, none, some (.iload 5, 0, 0, 0), none, some (.iload 4, 0, 0, 0), none, some (.ifCond .eq 8, 35, 0, 0), none, none, some (.iload 5, 0, 0, 0), none, some (.goto 10, 42, 0, 0), none, none, some (.aload_n 1, 0, 0, 0), some (.lload_n 2, 0, 0, 0), some (.iload 5, 0, 0, 0), none, some (.invokestatic 21, 65, 3, 460), none, none, some (.iastore, 0, 0, 0), some (.iinc 5 1, 0, 0, 0), none, none, some (.goto (-37), 9, 0, 0), none, none, some (.aload_n 0, 0, 0, 0), some (.iload 4, 0, 0, 0), none, some (.ifCond .eq 7, 59, 0, 0), none, none, some (.iconst 0, 0, 0, 0), some (.goto 8, 64, 0, 0), none, none, some (.aload_n 1, 0, 0, 0), some (.iconst 3, 0, 0, 0), some (.invokevirtual 25, 67, 2, 468), none, none, some (.putfield 31, 3, 1, 136), none, none, some (.aload_n 0, 0, 0, 0), some (.iload 4, 0, 0, 0), none, some (.ifCond .eq 8, 78, 0, 0), none, none, some (.bipush 8, 0, 0, 0), none, some (.goto 16, 91, 0, 0), none, none, some (.aload_n 1, 0, 0, 0), some (.bipush 31, 0, 0, 0), none, some (.lload_n 2, 0, 0, 0), some (.invokestatic 35, 60, 1, 472), none, none, some (.iconst (-1), 0, 0, 0), some (.ixor, 0, 0, 0), some (.iand, 0, 0, 0), some (.invokevirtual 39, 41, 2, 473), none, none, some (.putfield 42, 3, 2, 137), none, none, some (.aload_n 0, 0, 0, 0), some (.aload_n 1, 0, 0, 0), some (.invokevirtual 45, 68, 1, 474), none, none, some (.putfield 49, 3, 3, 138), none, none, some (.aload_n 0, 0, 0, 0), some (.lload_n 2, 0, 0, 0), some (.invokestatic 52, 69, 1, 478), none, none, some (.ifCond .eq 12, 119, 0, 0), none, none, some (.iload 4, 0, 0, 0), none, some (.ifCond .ne 7, 119, 0, 0), none, none, some (.iconst 1, 0, 0, 0), some (.goto 4, 120, 0, 0), none, none, some (.iconst 0, 0, 0, 0), some (.putfield 55, 3, 4, 139), none, none, some (.return_, 0, 0, 0)]
/-- LeavingVote$Standing.ice(J)Z -/
def sm_c64 : List (Option sm_I) := [some (.lload_n 0, 0, 0, 0), some (.bipush 46, 0, 0, 0), none, some (.iconst 1, 0, 0, 0), some (.invokestatic 9, 50, 3, 401), none, none, some (.iconst 1, 0, 0, 0), some (.if_icmp .ne 7, 15, 0, 0), none, none, some (.iconst 1, 0, 0, 0), some (.goto 4, 16, 0, 0), none, none, some (.iconst 0, 0, 0, 0), some (.ireturn, 0, 0, 0)]
/-- LeavingVote$Night.guideOf(LLeavingVote$Island;JI)I -/
def sm_c65 : List (Option sm_I) := [some (.iload_n 3, 0, 0, 0), some (.istore 4, 0, 0, 0), none, some (.iconst 0, 0, 0, 0), some (.istore 5, 0, 0, 0), none, some (.iload 5, 0, 0, 0), none, some (.bipush 8, 0, 0, 0), none, some (.if_icmp .ge 40, 50, 0, 0), none, none, some (.aload_n 0, 0, 0, 0), some (.iload 4, 0, 0, 0), none, some (.invokevirtual 74, 39, 2, 463), none, none, some (.iconst 2, 0, 0, 0), some (.if_icmp .ne 13, 33, 0, 0), none, none, some (.aload_n 0, 0, 0, 0), some (.lload_n 1, 0, 0, 0), some (.iload 4, 0, 0, 0), none, some (.invokestatic 77, 66, 3, 464), none, none, some (.ifCond .eq 6, 36, 0, 0), none, none, some (.iload 4, 0, 0, 0), none, some (.ireturn, 0, 0, 0), some (.lload_n 1, 0, 0, 0), some (.iload 4, 0, 0, 0), none, some (.invokestatic 81, 49, 2, 467), none, none, some (.istore 4, 0, 0, 0), none, some (.iinc 5 1, 0, 0, 0), none, none, some (.goto (-41), 6, 0, 0), none, none, some (.iload 4, 0, 0, 0), none, some (.ireturn, 0, 0, 0)]
/-- LeavingVote$Night.comesRound(LLeavingVote$Island;JI)Z -/
def sm_c66 : List (Option sm_I) := [some (.iload_n 3, 0, 0, 0), some (.istore 4, 0, 0, 0), none, some (.iconst 0, 0, 0, 0), some (.istore 5, 0, 0, 0), none, some (.iload 5, 0, 0, 0), none, some (.bipush 8, 0, 0, 0), none, some (.if_icmp .ge 37, 47, 0, 0), none, none, some (.lload_n 1, 0, 0, 0), some (.iload 4, 0, 0, 0), none, some (.invokestatic 81, 49, 2, 467), none, none, some (.istore 4, 0, 0, 0), none, some (.iload 4, 0, 0, 0), none, some (.iload_n 3, 0, 0, 0), some (.if_icmp .ne 5, 29, 0, 0), none, none, some (.iconst 1, 0, 0, 0), some (.ireturn, 0, 0, 0), some (.aload_n 0, 0, 0, 0), some (.iload 4, 0, 0, 0), none, some (.invokevirtual 74, 39, 2, 463), none, none, some (.iconst 2, 0, 0, 0), some (.if_icmp .eq 5, 41, 0, 0), none, none, some (.iconst 0, 0, 0, 0), some (.ireturn, 0, 0, 0), some (.iinc 5 1, 0, 0, 0), none, none, some (.goto (-38), 6, 0, 0), none, none, some (.iconst 0, 0, 0, 0), some (.ireturn, 0, 0, 0)]
/-- LeavingVote$Island.ofKind(I)I -/
def sm_c67 : List (Option sm_I) := [some (.iconst 0, 0, 0, 0), some (.istore_n 2, 0, 0, 0), some (.iconst 0, 0, 0, 0), some (.istore_n 3, 0, 0, 0), some (.iload_n 3, 0, 0, 0), some (.aload_n 0, 0, 0, 0), some (.getfield 43, 1, 3, 101), none, none, some (.if_icmp .ge 24, 33, 0, 0), none, none, some (.aload_n 0, 0, 0, 0), some (.iload_n 3, 0, 0, 0), some (.invokevirtual 57, 39, 2, 328), none, none, some (.iload_n 1, 0, 0, 0), some (.if_icmp .ne 9, 27, 0, 0), none, none, some (.iload_n 2, 0, 0, 0), some (.iconst 1, 0, 0, 0), some (.iload_n 3, 0, 0, 0), some (.ishl, 0, 0, 0), some (.ior, 0, 0, 0), some (.istore_n 2, 0, 0, 0), some (.iinc 3 1, 0, 0, 0), none, none, some (.goto (-26), 4, 0, 0), none, none, some (.iload_n 2, 0, 0, 0), some (.ireturn, 0, 0, 0)]
/-- LeavingVote$Island.bedsAshore()I -/
def sm_c68 : List (Option sm_I) := [some (.aload_n 0, 0, 0, 0), some (.getfield 78, 1, 5, 103), none, none, some (.ireturn, 0, 0, 0)]
/-- LeavingVote$Standing.storm(J)Z -/
def sm_c69 : List (Option sm_I) := [some (.lload_n 0, 0, 0, 0), some (.bipush 45, 0, 0, 0), none, some (.iconst 1, 0, 0, 0), some (.invokestatic 9, 50, 3, 401), none, none, some (.iconst 1, 0, 0, 0), some (.if_icmp .ne 7, 15, 0, 0), none, none, some (.iconst 1, 0, 0, 0), some (.goto 4, 16, 0, 0), none, none, some (.iconst 0, 0, 0, 0), some (.ireturn, 0, 0, 0)]
/-- LeavingVote$Standing.against(JI)I -/
def sm_c70 : List (Option sm_I) := [some (.lload_n 0, 0, 0, 0), some (.bipush 8, 0, 0, 0), none, some (.iload_n 2, 0, 0, 0), some (.imul, 0, 0, 0), some (.bipush 8, 0, 0, 0), none, some (.invokestatic 9, 50, 3, 401), none, none, some (.ireturn, 0, 0, 0)]
/-- LeavingVote$Night.wanting(II)I -/
def sm_c71 : List (Option sm_I) := [some (.aload_n 0, 0, 0, 0), some (.getfield 55, 3, 4, 139), none, none, some (.ifCond .eq 7, 11, 0, 0), none, none, some (.iconst 0, 0, 0, 0), some (.goto 15, 23, 0, 0), none, none, some (.iload_n 1, 0, 0, 0), some (.aload_n 0, 0, 0, 0), some (.getfield 31, 3, 1, 136), none, none, some (.iconst (-1), 0, 0, 0), some (.ixor, 0, 0, 0), some (.iand, 0, 0, 0), some (.iload_n 2, 0, 0, 0), some (.iconst (-1), 0, 0, 0), some (.ixor, 0, 0, 0), some (.iand, 0, 0, 0), some (.istore_n 3, 0, 0, 0), some (.iconst 0, 0, 0, 0), some (.istore 4, 0, 0, 0), none, some (.iconst 0, 0, 0, 0), some (.istore 5, 0, 0, 0), none, some (.iload 5, 0, 0, 0), none, some (.aload_n 0, 0, 0, 0), some (.getfield 9, 3, 0, 135), none, none, some (.arraylength, 0, 0, 0), some (.if_icmp .ge 28, 65, 0, 0), none, none, some (.iload 4, 0, 0, 0), none, some (.iload_n 3, 0, 0, 0), some (.aload_n 0, 0, 0, 0), some (.getfield 9, 3, 0, 135), none, none, some (.iload 5, 0, 0, 0), none, some (.iaload, 0, 0, 0), some (.iushr, 0, 0, 0), some (.iconst 1, 0, 0, 0), some (.iand, 0, 0, 0), some (.iload 5, 0, 0, 0), none, some (.ishl, 0, 0, 0), some (.ior, 0, 0, 0), some (.istore 4, 0, 0, 0), none, some (.iinc 5 1, 0, 0, 0), none, none, some (.goto (-32), 30, 0, 0), none, none, some (.iload 4, 0, 0, 0), none, some (.ireturn, 0, 0, 0)]
/-- LeavingVote.leave(I)I -/
def sm_c72 : List (Option sm_I) := [some (.iload_n 1, 0, 0, 0), some (.invokestatic 127, 62, 1, 450), none, none, some (.ifCond .eq 15, 19, 0, 0), none, none, some (.aload_n 0, 0, 0, 0), some (.aload_n 0, 0, 0, 0), some (.getfield 89, 0, 8, 356), none, none, some (.iload_n 1, 0, 0, 0), some (.invokevirtual 141, 73, 3, 492), none, none, some (.goto 4, 20, 0, 0), none, none, some (.iconst (-1), 0, 0, 0), some (.ireturn, 0, 0, 0)]
/-- LeavingVote.leavers(JI)I -/
def sm_c73 : List (Option sm_I) := [some (.aload_n 0, 0, 0, 0), some (.getfield 36, 0, 4, 352), none, none, some (.aload_n 0, 0, 0, 0), some (.getfield 30, 0, 3, 351), none, none, some (.lload_n 1, 0, 0, 0), some (.invokevirtual 130, 63, 3, 453), none, none, some (.aload_n 0, 0, 0, 0), some (.getfield 36, 0, 4, 352), none, none, some (.lload_n 1, 0, 0, 0), some (.iload_n 3, 0, 0, 0), some (.invokestatic 134, 70, 2, 481), none, none, some (.iconst 0, 0, 0, 0), some (.invokevirtual 201, 74, 3, 496), none, none, some (.ireturn, 0, 0, 0)]
/-- LeavingVote$Night.leaving(II)I -/
def sm_c74 : List (Option sm_I) := [some (.aload_n 0, 0, 0, 0), some (.aload_n 0, 0, 0, 0), some (.iload_n 1, 0, 0, 0), some (.iload_n 2, 0, 0, 0), some (.invokevirtual 59, 71, 3, 500), none, none, some (.aload_n 0, 0, 0, 0), some (.getfield 49, 3, 3, 138), none, none, some (.invokevirtual 63, 75, 3, 501), none, none, some (.ireturn, 0, 0, 0)]
/-- LeavingVote$Night.leavingOf(II)I -/
def sm_c75 : List (Option sm_I) := [some (.iload_n 1, 0, 0, 0), some (.aload_n 0, 0, 0, 0), some (.getfield 42, 3, 2, 137), none, none, some (.iload_n 2, 0, 0, 0), some (.invokestatic 66, 9996, 0, 505), none, none, some (.invokestatic 71, 76, 2, 5000), none, none, some (.ireturn, 0, 0, 0)]
/-- LeavingVote.lowest(II)I -/
def sm_c76 : List (Option sm_I) := [some (.iconst 0, 0, 0, 0), some (.istore_n 2, 0, 0, 0), some (.iconst 0, 0, 0, 0), some (.istore_n 3, 0, 0, 0), some (.iconst 0, 0, 0, 0), some (.istore 4, 0, 0, 0), none, some (.iload 4, 0, 0, 0), none, some (.bipush 8, 0, 0, 0), none, some (.if_icmp .ge 34, 45, 0, 0), none, none, some (.iload_n 3, 0, 0, 0), some (.iload_n 1, 0, 0, 0), some (.if_icmp .ge 23, 39, 0, 0), none, none, some (.iload_n 0, 0, 0, 0), some (.iload 4, 0, 0, 0), none, some (.iushr, 0, 0, 0), some (.iconst 1, 0, 0, 0), some (.iand, 0, 0, 0), some (.iconst 1, 0, 0, 0), some (.if_icmp .ne 13, 39, 0, 0), none, none, some (.iload_n 2, 0, 0, 0), some (.iconst 1, 0, 0, 0), some (.iload 4, 0, 0, 0), none, some (.ishl, 0, 0, 0), some (.ior, 0, 0, 0), some (.istore_n 2, 0, 0, 0), some (.iinc 3 1, 0, 0, 0), none, none, some (.iinc 4 1, 0, 0, 0), none, none, some (.goto (-35), 7, 0, 0), none, none, some (.iload_n 2, 0, 0, 0), some (.ireturn, 0, 0, 0)]
/-- LeavingVote.by(II)I -/
def sm_c77 : List (Option sm_I) := [some (.iload_n 1, 0, 0, 0), some (.invokestatic 127, 62, 1, 450), none, none, some (.ifCond .eq 11, 15, 0, 0), none, none, some (.aload_n 0, 0, 0, 0), some (.iload_n 2, 0, 0, 0), some (.invokevirtual 98, 55, 2, 420), none, none, some (.ifCond .ne 5, 17, 0, 0), none, none, some (.iconst (-1), 0, 0, 0), some (.ireturn, 0, 0, 0), some (.aload_n 0, 0, 0, 0), some (.aload_n 0, 0, 0, 0), some (.getfield 89, 0, 8, 356), none, none, some (.iload_n 1, 0, 0, 0), some (.invokevirtual 141, 73, 3, 492), none, none, some (.istore_n 3, 0, 0, 0), some (.iload_n 3, 0, 0, 0), some (.iload_n 2, 0, 0, 0), some (.iushr, 0, 0, 0), some (.iconst 1, 0, 0, 0), some (.iand, 0, 0, 0), some (.ifCond .eq 13, 45, 0, 0), none, none, some (.aload_n 0, 0, 0, 0), some (.getfield 89, 0, 8, 356), none, none, some (.invokestatic 144, 64, 1, 515), none, none, some (.ifCond .eq 6, 48, 0, 0), none, none, some (.bipush (-4), 0, 0, 0), none, some (.ireturn, 0, 0, 0), some (.iload_n 3, 0, 0, 0), some (.iconst 1, 0, 0, 0), some (.iload_n 2, 0, 0, 0), some (.ishl, 0, 0, 0), some (.iconst 1, 0, 0, 0), some (.isub, 0, 0, 0), some (.iand, 0, 0, 0), some (.invokestatic 148, 78, 1, 516), none, none, some (.istore 4, 0, 0, 0), none, some (.aload_n 0, 0, 0, 0), some (.getfield 30, 0, 3, 351), none, none, some (.iload 4, 0, 0, 0), none, some (.aload_n 0, 0, 0, 0), some (.getfield 89, 0, 8, 356), none, none, some (.invokestatic 123, 60, 1, 443), none, none, some (.invokevirtual 153, 79, 3, 522), none, none, some (.ireturn, 0, 0, 0)]
/-- java/lang/Integer.bitCount(I)I -/
def sm_c78 : List (Option sm_I) := [some (.iload_n 0, 0, 0, 0), some (.iload_n 0, 0, 0, 0), some (.iconst 1, 0, 0, 0), some (.iushr, 0, 0, 0), some (.ldc_w 265, 1431655765, 0, 519), none, none, some (.iand, 0, 0, 0), some (.isub, 0, 0, 0), some (.istore_n 0, 0, 0, 0), some (.iload_n 0, 0, 0, 0), some (.ldc_w 266, 858993459, 0, 520), none, none, some (.iand, 0, 0, 0), some (.iload_n 0, 0, 0, 0), some (.iconst 2, 0, 0, 0), some (.iushr, 0, 0, 0), some (.ldc_w 266, 858993459, 0, 520), none, none, some (.iand, 0, 0, 0), some (.iadd, 0, 0, 0), some (.istore_n 0, 0, 0, 0), some (.iload_n 0, 0, 0, 0), some (.iload_n 0, 0, 0, 0), some (.iconst 4, 0, 0, 0), some (.iushr, 0, 0, 0), some (.iadd, 0, 0, 0), some (.ldc_w 267, 252645135, 0, 521), none, none, some (.iand, 0, 0, 0), some (.istore_n 0, 0, 0, 0), some (.iload_n 0, 0, 0, 0), some (.iload_n 0, 0, 0, 0), some (.bipush 8, 0, 0, 0), none, some (.iushr, 0, 0, 0), some (.iadd, 0, 0, 0), some (.istore_n 0, 0, 0, 0), some (.iload_n 0, 0, 0, 0), some (.iload_n 0, 0, 0, 0), some (.bipush 16, 0, 0, 0), none, some (.iushr, 0, 0, 0), some (.iadd, 0, 0, 0), some (.istore_n 0, 0, 0, 0), some (.iload_n 0, 0, 0, 0), some (.bipush 63, 0, 0, 0), none, some (.iand, 0, 0, 0), some (.ireturn, 0, 0, 0)]
/-- LeavingVote$Island.boatOfSeat(II)I -/
def sm_c79 : List (Option sm_I) := [some (.iload_n 1, 0, 0, 0), some (.istore_n 3, 0, 0, 0), some (.iconst 0, 0, 0, 0), some (.istore 4, 0, 0, 0), none, some (.iload 4, 0, 0, 0), none, some (.aload_n 0, 0, 0, 0), some (.getfield 75, 1, 4, 102), none, none, some (.if_icmp .ge 37, 48, 0, 0), none, none, some (.aload_n 0, 0, 0, 0), some (.iconst 1, 0, 0, 0), some (.iload 4, 0, 0, 0), none, some (.ishl, 0, 0, 0), some (.iload_n 2, 0, 0, 0), some (.iconst (-1), 0, 0, 0), some (.ixor, 0, 0, 0), some (.iand, 0, 0, 0), some (.invokevirtual 68, 41, 2, 336), none, none, some (.istore 5, 0, 0, 0), none, some (.iload_n 3, 0, 0, 0), some (.iload 5, 0, 0, 0), none, some (.if_icmp .ge 6, 37, 0, 0), none, none, some (.iload 4, 0, 0, 0), none, some (.ireturn, 0, 0, 0), some (.iload_n 3, 0, 0, 0), some (.iload 5, 0, 0, 0), none, some (.isub, 0, 0, 0), some (.istore_n 3, 0, 0, 0), some (.iinc 4 1, 0, 0, 0), none, none, some (.goto (-40), 5, 0, 0), none, none, some (.bipush (-4), 0, 0, 0), none, some (.ireturn, 0, 0, 0)]
/-- LeavingVote.falls(I)I -/
def sm_c80 : List (Option sm_I) := [some (.iload_n 1, 0, 0, 0), some (.invokestatic 127, 62, 1, 450), none, none, some (.ifCond .eq 25, 29, 0, 0), none, none, some (.aload_n 0, 0, 0, 0), some (.getfield 30, 0, 3, 351), none, none, some (.aload_n 0, 0, 0, 0), some (.aload_n 0, 0, 0, 0), some (.getfield 89, 0, 8, 356), none, none, some (.iload_n 1, 0, 0, 0), some (.invokevirtual 141, 73, 3, 492), none, none, some (.invokevirtual 156, 81, 2, 530), none, none, some (.invokestatic 159, 82, 1, 535), none, none, some (.goto 4, 30, 0, 0), none, none, some (.iconst (-1), 0, 0, 0), some (.ireturn, 0, 0, 0)]
/-- LeavingVote$Island.lawFalls(I)Z -/
def sm_c81 : List (Option sm_I) := [some (.bipush 10, 0, 0, 0), none, some (.iload_n 1, 0, 0, 0), some (.invokestatic 96, 78, 1, 534), none, none, some (.imul, 0, 0, 0), some (.aload_n 0, 0, 0, 0), some (.getfield 84, 1, 7, 105), none, none, some (.aload_n 0, 0, 0, 0), some (.getfield 43, 1, 3, 101), none, none, some (.imul, 0, 0, 0), some (.if_icmp .lt 7, 23, 0, 0), none, none, some (.iconst 1, 0, 0, 0), some (.goto 4, 24, 0, 0), none, none, some (.iconst 0, 0, 0, 0), some (.ireturn, 0, 0, 0)]
/-- LeavingVote.oneIf(Z)I -/
def sm_c82 : List (Option sm_I) := [some (.iload_n 0, 0, 0, 0), some (.ifCond .eq 7, 8, 0, 0), none, none, some (.iconst 1, 0, 0, 0), some (.goto 4, 9, 0, 0), none, none, some (.iconst 0, 0, 0, 0), some (.ireturn, 0, 0, 0)]
/-- LeavingVote.milked(II)I -/
def sm_c83 : List (Option sm_I) := [some (.iload_n 1, 0, 0, 0), some (.invokestatic 127, 62, 1, 450), none, none, some (.ifCond .eq 10, 14, 0, 0), none, none, some (.iload_n 2, 0, 0, 0), some (.invokestatic 163, 84, 1, 542), none, none, some (.ifCond .ne 5, 16, 0, 0), none, none, some (.iconst (-1), 0, 0, 0), some (.ireturn, 0, 0, 0), some (.aload_n 0, 0, 0, 0), some (.aload_n 0, 0, 0, 0), some (.getfield 89, 0, 8, 356), none, none, some (.iload_n 1, 0, 0, 0), some (.invokevirtual 141, 73, 3, 492), none, none, some (.istore_n 3, 0, 0, 0), some (.iload_n 2, 0, 0, 0), some (.ifCond .ne 14, 41, 0, 0), none, none, some (.aload_n 0, 0, 0, 0), some (.getfield 30, 0, 3, 351), none, none, some (.iload_n 3, 0, 0, 0), some (.invokevirtual 166, 85, 2, 545), none, none, some (.goto 14, 52, 0, 0), none, none, some (.aload_n 0, 0, 0, 0), some (.getfield 30, 0, 3, 351), none, none, some (.iload_n 3, 0, 0, 0), some (.invokevirtual 169, 87, 2, 553), none, none, some (.invokestatic 159, 82, 1, 535), none, none, some (.ireturn, 0, 0, 0)]
/-- LeavingVote.isEither(I)Z -/
def sm_c84 : List (Option sm_I) := [some (.iload_n 0, 0, 0, 0), some (.ifCond .eq 8, 9, 0, 0), none, none, some (.iload_n 0, 0, 0, 0), some (.iconst 1, 0, 0, 0), some (.if_icmp .ne 7, 13, 0, 0), none, none, some (.iconst 1, 0, 0, 0), some (.goto 4, 14, 0, 0), none, none, some (.iconst 0, 0, 0, 0), some (.ireturn, 0, 0, 0)]
/-- LeavingVote$Island.cowsWithout(I)I -/
def sm_c85 : List (Option sm_I) := [some (.aload_n 0, 0, 0, 0), some (.aload_n 0, 0, 0, 0), some (.invokevirtual 90, 86, 1, 549), none, none, some (.iload_n 1, 0, 0, 0), some (.iconst (-1), 0, 0, 0), some (.ixor, 0, 0, 0), some (.iand, 0, 0, 0), some (.invokevirtual 61, 40, 2, 332), none, none, some (.ireturn, 0, 0, 0)]
/-- LeavingVote$Island.everybody()I -/
def sm_c86 : List (Option sm_I) := [some (.iconst 1, 0, 0, 0), some (.aload_n 0, 0, 0, 0), some (.getfield 43, 1, 3, 101), none, none, some (.ishl, 0, 0, 0), some (.iconst 1, 0, 0, 0), some (.isub, 0, 0, 0), some (.ireturn, 0, 0, 0)]
/-- LeavingVote$Island.cowsMilked(I)Z -/
def sm_c87 : List (Option sm_I) := [some (.aload_n 0, 0, 0, 0), some (.iload_n 1, 0, 0, 0), some (.invokevirtual 93, 85, 2, 557), none, none, some (.aload_n 0, 0, 0, 0), some (.getfield 81, 1, 6, 104), none, none, some (.if_icmp .lt 7, 16, 0, 0), none, none, some (.iconst 1, 0, 0, 0), some (.goto 4, 17, 0, 0), none, none, some (.iconst 0, 0, 0, 0), some (.ireturn, 0, 0, 0)]
/-- LeavingVote.lean(II)I -/
def sm_c88 : List (Option sm_I) := [some (.aload_n 0, 0, 0, 0), some (.iload_n 1, 0, 0, 0), some (.invokevirtual 98, 55, 2, 420), none, none, some (.ifCond .eq 12, 17, 0, 0), none, none, some (.iload_n 2, 0, 0, 0), some (.ifCond .lt 8, 17, 0, 0), none, none, some (.iload_n 2, 0, 0, 0), some (.iconst 3, 0, 0, 0), some (.if_icmp .le 5, 19, 0, 0), none, none, some (.iconst (-1), 0, 0, 0), some (.ireturn, 0, 0, 0), some (.aload_n 0, 0, 0, 0), some (.getfield 89, 0, 8, 356), none, none, some (.iload_n 1, 0, 0, 0), some (.invokestatic 105, 56, 2, 425), none, none, some (.istore_n 3, 0, 0, 0), some (.aload_n 0, 0, 0, 0), some (.aload_n 0, 0, 0, 0), some (.getfield 89, 0, 8, 356), none, none, some (.iload_n 1, 0, 0, 0), some (.iload_n 2, 0, 0, 0), some (.invokestatic 172, 33, 3, 562), none, none, some (.invokevirtual 176, 89, 2, 563), none, none, some (.iload_n 3, 0, 0, 0), some (.ireturn, 0, 0, 0)]
/-- LeavingVote.change(J)V -/
def sm_c89 : List (Option sm_I) := [some (.aload_n 0, 0, 0, 0), some (.getfield 45, 0, 5, 353), none, none, some (.aload_n 0, 0, 0, 0), some (.getfield 89, 0, 8, 356), none, none, some (.invokevirtual 249, 90, 2, 567), none, none, some (.aload_n 0, 0, 0, 0), some (.lload_n 1, 0, 0, 0), some (.putfield 89, 0, 8, 356), none, none, some (.return_, 0, 0, 0)]
/-- LeavingVote$Pile.put(J)V -/
def sm_c90 : List (Option sm_I) := [some (.aload_n 0, 0, 0, 0), some (.getfield 19, 4, 1, 161), none, none, some (.aload_n 0, 0, 0, 0), some (.getfield 13, 4, 0, 160), none, none, some (.arraylength, 0, 0, 0), some (.if_icmp .lt 7, 16, 0, 0), none, none, some (.aload_n 0, 0, 0, 0), some (.invokevirtual 23, 91, 1, 571), none, none, some (.aload_n 0, 0, 0, 0), some (.getfield 19, 4, 1, 161), none, none, some (.ifCond .lt 35, 55, 0, 0), none, none, some (.aload_n 0, 0, 0, 0), some (.getfield 19, 4, 1, 161), none, none, some (.aload_n 0, 0, 0, 0), some (.getfield 13, 4, 0, 160), none, none, some (.arraylength, 0, 0, 0), some (.if_icmp .ge 23, 55, 0, 0), none, none, some (.aload_n 0, 0, 0, 0), some (.getfield 13, 4, 0, 160), none, none, some (.aload_n 0, 0, 0, 0), some (.getfield 19, 4, 1, 161), none, none, some (.lload_n 1, 0, 0, 0), some (.lastore, 0, 0, 0), some (.aload_n 0, 0, 0, 0), some (.dup, 0, 0, 0), some (.getfield 19, 4, 1, 161), none, none, some (.iconst 1, 0, 0, 0), some (.iadd, 0, 0, 0), some (.putfield 19, 4, 1, 161), none, none, some (.return_, 0, 0, 0)]
/-- LeavingVote$Pile.dropOldest()V -/
def sm_c91 : List (Option sm_I) := [some (.iconst 1, 0, 0, 0), some (.istore_n 1, 0, 0, 0), some (.iload_n 1, 0, 0, 0), some (.aload_n 0, 0, 0, 0), some (.getfield 13, 4, 0, 160), none, none, some (.arraylength, 0, 0, 0), some (.if_icmp .ge 23, 31, 0, 0), none, none, some (.aload_n 0, 0, 0, 0), some (.getfield 13, 4, 0, 160), none, none, some (.iload_n 1, 0, 0, 0), some (.iconst 1, 0, 0, 0), some (.isub, 0, 0, 0), some (.aload_n 0, 0, 0, 0), some (.getfield 13, 4, 0, 160), none, none, some (.iload_n 1, 0, 0, 0), some (.laload, 0, 0, 0), some (.lastore, 0, 0, 0), some (.iinc 1 1, 0, 0, 0), none, none, some (.goto (-26), 2, 0, 0), none, none, some (.aload_n 0, 0, 0, 0), some (.aload_n 0, 0, 0, 0), some (.getfield 13, 4, 0, 160), none, none, some (.arraylength, 0, 0, 0), some (.iconst 1, 0, 0, 0), some (.isub, 0, 0, 0), some (.iconst 0, 0, 0, 0), some (.invokestatic 7, 9997, 0, 157), none, none, some (.putfield 19, 4, 1, 161), none, none, some (.return_, 0, 0, 0)]
/-- LeavingVote.mind(II)I -/
def sm_c92 : List (Option sm_I) := [some (.aload_n 0, 0, 0, 0), some (.iload_n 1, 0, 0, 0), some (.invokevirtual 98, 55, 2, 420), none, none, some (.ifCond .eq 11, 16, 0, 0), none, none, some (.aload_n 0, 0, 0, 0), some (.iload_n 2, 0, 0, 0), some (.invokevirtual 98, 55, 2, 420), none, none, some (.ifCond .ne 5, 18, 0, 0), none, none, some (.iconst (-1), 0, 0, 0), some (.ireturn, 0, 0, 0), some (.aload_n 0, 0, 0, 0), some (.getfield 89, 0, 8, 356), none, none, some (.iload_n 1, 0, 0, 0), some (.invokestatic 111, 49, 2, 428), none, none, some (.istore_n 3, 0, 0, 0), some (.aload_n 0, 0, 0, 0), some (.aload_n 0, 0, 0, 0), some (.getfield 89, 0, 8, 356), none, none, some (.iload_n 1, 0, 0, 0), some (.iload_n 2, 0, 0, 0), some (.invokestatic 180, 35, 3, 579), none, none, some (.invokevirtual 176, 89, 2, 563), none, none, some (.iload_n 3, 0, 0, 0), some (.ireturn, 0, 0, 0)]
/-- LeavingVote.hold(I)I -/
def sm_c93 : List (Option sm_I) := [some (.aload_n 0, 0, 0, 0), some (.iload_n 1, 0, 0, 0), some (.invokevirtual 117, 58, 2, 434), none, none, some (.ifCond .ne 5, 10, 0, 0), none, none, some (.iconst (-1), 0, 0, 0), some (.ireturn, 0, 0, 0), some (.aload_n 0, 0, 0, 0), some (.getfield 89, 0, 8, 356), none, none, some (.invokestatic 123, 60, 1, 443), none, none, some (.iconst 1, 0, 0, 0), some (.iload_n 1, 0, 0, 0), some (.ishl, 0, 0, 0), some (.ixor, 0, 0, 0), some (.istore_n 2, 0, 0, 0), some (.aload_n 0, 0, 0, 0), some (.aload_n 0, 0, 0, 0), some (.getfield 89, 0, 8, 356), none, none, some (.iload_n 2, 0, 0, 0), some (.invokestatic 183, 94, 2, 584), none, none, some (.invokevirtual 176, 89, 2, 563), none, none, some (.iload_n 2, 0, 0, 0), some (.iload_n 1, 0, 0, 0), some (.iushr, 0, 0, 0), some (.iconst 1, 0, 0, 0), some (.iand, 0, 0, 0), some (.ireturn, 0, 0, 0)]
/-- LeavingVote$Standing.withHeld(JI)J -/
def sm_c94 : List (Option sm_I) := [some (.lload_n 0, 0, 0, 0), some (.bipush 40, 0, 0, 0), none, some (.iconst 5, 0, 0, 0), some (.iload_n 2, 0, 0, 0), some (.invokestatic 15, 34, 4, 309), none, none, some (.lreturn, 0, 0, 0)]
/-- LeavingVote.weather(I)I -/
def sm_c95 : List (Option sm_I) := [some (.iload_n 1, 0, 0, 0), some (.invokestatic 163, 84, 1, 542), none, none, some (.ifCond .ne 5, 9, 0, 0), none, none, some (.iconst (-1), 0, 0, 0), some (.ireturn, 0, 0, 0), some (.aload_n 0, 0, 0, 0), some (.getfield 89, 0, 8, 356), none, none, some (.invokestatic 187, 69, 1, 591), none, none, some (.iload_n 1, 0, 0, 0), some (.ifCond .ne 7, 24, 0, 0), none, none, some (.iconst 1, 0, 0, 0), some (.goto 4, 25, 0, 0), none, none, some (.iconst 0, 0, 0, 0), some (.if_icmp .eq 7, 32, 0, 0), none, none, some (.iconst 1, 0, 0, 0), some (.goto 4, 33, 0, 0), none, none, some (.iconst 0, 0, 0, 0), some (.istore_n 2, 0, 0, 0), some (.aload_n 0, 0, 0, 0), some (.getfield 89, 0, 8, 356), none, none, some (.invokestatic 144, 64, 1, 515), none, none, some (.iload_n 1, 0, 0, 0), some (.iconst 1, 0, 0, 0), some (.if_icmp .ne 7, 50, 0, 0), none, none, some (.iconst 1, 0, 0, 0), some (.goto 4, 51, 0, 0), none, none, some (.iconst 0, 0, 0, 0), some (.if_icmp .eq 7, 58, 0, 0), none, none, some (.iconst 1, 0, 0, 0), some (.goto 4, 59, 0, 0), none, none, some (.iconst 0, 0, 0, 0), some (.istore_n 3, 0, 0, 0), some (.aload_n 0, 0, 0, 0), some (.aload_n 0, 0, 0, 0), some (.getfield 89, 0, 8, 356), none, none, some (.iload_n 2, 0, 0, 0), some (.iload_n 3, 0, 0, 0), some (.invokestatic 190, 96, 3, 592), none, none, some (.invokevirtual 176, 89, 2, 563), none, none, some (.iload_n 1, 0, 0, 0), some (.ifCond .ne 7, 81, 0, 0), none, none, some (.iload_n 2, 0, 0, 0), some (.goto 4, 82, 0, 0), none, none, some (.iload_n 3, 0, 0, 0), some (.invokestatic 159, 82, 1, 535), none, none, some (.ireturn, 0, 0, 0)]
/-- LeavingVote$Standing.withWeather(JZZ)J -/
def sm_c96 : List (Option sm_I) := [some (.lload_n 0, 0, 0, 0), some (.bipush 45, 0, 0, 0), none, some (.iconst 1, 0, 0, 0), some (.iload_n 2, 0, 0, 0), some (.invokestatic 19, 82, 1, 5001), none, none, some (.invokestatic 15, 34, 4, 309), none, none, some (.bipush 46, 0, 0, 0), none, some (.iconst 1, 0, 0, 0), some (.iload_n 3, 0, 0, 0), some (.invokestatic 19, 82, 1, 5001), none, none, some (.invokestatic 15, 34, 4, 309), none, none, some (.lreturn, 0, 0, 0)]
/-- LeavingVote.undo()I -/
def sm_c97 : List (Option sm_I) := [some (.aload_n 0, 0, 0, 0), some (.getfield 45, 0, 5, 353), none, none, some (.invokevirtual 194, 98, 1, 600), none, none, some (.ifCond .ne 6, 13, 0, 0), none, none, some (.bipush (-2), 0, 0, 0), none, some (.ireturn, 0, 0, 0), some (.aload_n 0, 0, 0, 0), some (.aload_n 0, 0, 0, 0), some (.getfield 45, 0, 5, 353), none, none, some (.aload_n 0, 0, 0, 0), some (.getfield 89, 0, 8, 356), none, none, some (.invokevirtual 197, 99, 2, 604), none, none, some (.putfield 89, 0, 8, 356), none, none, some (.aload_n 0, 0, 0, 0), some (.getfield 45, 0, 5, 353), none, none, some (.invokevirtual 194, 98, 1, 600), none, none, some (.ireturn, 0, 0, 0)]
/-- LeavingVote$Pile.height()I -/
def sm_c98 : List (Option sm_I) := [some (.aload_n 0, 0, 0, 0), some (.getfield 19, 4, 1, 161), none, none, some (.ireturn, 0, 0, 0)]
/-- LeavingVote$Pile.take(J)J -/
def sm_c99 : List (Option sm_I) := [some (.aload_n 0, 0, 0, 0), some (.getfield 19, 4, 1, 161), none, none, some (.iconst 1, 0, 0, 0), some (.isub, 0, 0, 0), some (.istore_n 3, 0, 0, 0), some (.iload_n 3, 0, 0, 0), some (.ifCond .lt 12, 20, 0, 0), none, none, some (.iload_n 3, 0, 0, 0), some (.aload_n 0, 0, 0, 0), some (.getfield 13, 4, 0, 160), none, none, some (.arraylength, 0, 0, 0), some (.if_icmp .lt 5, 22, 0, 0), none, none, some (.lload_n 1, 0, 0, 0), some (.lreturn, 0, 0, 0), some (.aload_n 0, 0, 0, 0), some (.iload_n 3, 0, 0, 0), some (.putfield 19, 4, 1, 161), none, none, some (.aload_n 0, 0, 0, 0), some (.getfield 13, 4, 0, 160), none, none, some (.iload_n 3, 0, 0, 0), some (.laload, 0, 0, 0), some (.lreturn, 0, 0, 0)]
/-- LeavingVote.decides(I)I -/
def sm_c100 : List (Option sm_I) := [some (.iload_n 1, 0, 0, 0), some (.invokestatic 127, 62, 1, 450), none, none, some (.ifCond .ne 5, 9, 0, 0), none, none, some (.iconst (-1), 0, 0, 0), some (.ireturn, 0, 0, 0), some (.aload_n 0, 0, 0, 0), some (.getfield 30, 0, 3, 351), none, none, some (.aload_n 0, 0, 0, 0), some (.aload_n 0, 0, 0, 0), some (.getfield 89, 0, 8, 356), none, none, some (.iload_n 1, 0, 0, 0), some (.invokevirtual 141, 73, 3, 492), none, none, some (.invokevirtual 156, 81, 2, 530), none, none, some (.istore_n 2, 0, 0, 0), some (.aload_n 0, 0, 0, 0), some (.getfield 89, 0, 8, 356), none, none, some (.iload_n 1, 0, 0, 0), some (.invokestatic 134, 70, 2, 481), none, none, some (.istore_n 3, 0, 0, 0), some (.iconst 0, 0, 0, 0), some (.istore 4, 0, 0, 0), none, some (.iconst 0, 0, 0, 0), some (.istore 5, 0, 0, 0), none, some (.iload 5, 0, 0, 0), none, some (.aload_n 0, 0, 0, 0), some (.getfield 30, 0, 3, 351), none, none, some (.invokevirtual 95, 53, 1, 412), none, none, some (.if_icmp .ge 43, 93, 0, 0), none, none, some (.aload_n 0, 0, 0, 0), some (.getfield 30, 0, 3, 351), none, none, some (.aload_n 0, 0, 0, 0), some (.getfield 36, 0, 4, 352), none, none, some (.iload_n 3, 0, 0, 0), some (.iconst 1, 0, 0, 0), some (.iload 5, 0, 0, 0), none, some (.ishl, 0, 0, 0), some (.ixor, 0, 0, 0), some (.iconst 0, 0, 0, 0), some (.invokevirtual 201, 74, 3, 496), none, none, some (.invokevirtual 156, 81, 2, 530), none, none, some (.iload_n 2, 0, 0, 0), some (.if_icmp .eq 12, 87, 0, 0), none, none, some (.iload 4, 0, 0, 0), none, some (.iconst 1, 0, 0, 0), some (.iload 5, 0, 0, 0), none, some (.ishl, 0, 0, 0), some (.ior, 0, 0, 0), some (.istore 4, 0, 0, 0), none, some (.iinc 5 1, 0, 0, 0), none, none, some (.goto (-49), 41, 0, 0), none, none, some (.iload 4, 0, 0, 0), none, some (.ireturn, 0, 0, 0)]
/-- LeavingVote.win(I)I -/
def sm_c101 : List (Option sm_I) := [some (.iload_n 1, 0, 0, 0), some (.invokestatic 127, 62, 1, 450), none, none, some (.ifCond .ne 5, 9, 0, 0), none, none, some (.iconst (-1), 0, 0, 0), some (.ireturn, 0, 0, 0), some (.aload_n 0, 0, 0, 0), some (.getfield 30, 0, 3, 351), none, none, some (.aload_n 0, 0, 0, 0), some (.aload_n 0, 0, 0, 0), some (.getfield 89, 0, 8, 356), none, none, some (.iload_n 1, 0, 0, 0), some (.invokevirtual 141, 73, 3, 492), none, none, some (.invokevirtual 156, 81, 2, 530), none, none, some (.istore_n 2, 0, 0, 0), some (.aload_n 0, 0, 0, 0), some (.getfield 89, 0, 8, 356), none, none, some (.iload_n 1, 0, 0, 0), some (.invokestatic 134, 70, 2, 481), none, none, some (.istore_n 3, 0, 0, 0), some (.bipush (-4), 0, 0, 0), none, some (.istore 4, 0, 0, 0), none, some (.bipush 9, 0, 0, 0), none, some (.istore 5, 0, 0, 0), none, some (.iconst 1, 0, 0, 0), some (.istore 6, 0, 0, 0), none, some (.iload 6, 0, 0, 0), none, some (.aload_n 0, 0, 0, 0), some (.getfield 30, 0, 3, 351), none, none, some (.invokevirtual 204, 86, 1, 616), none, none, some (.if_icmp .gt 65, 120, 0, 0), none, none, some (.iload 6, 0, 0, 0), none, some (.invokestatic 148, 78, 1, 516), none, none, some (.iload 5, 0, 0, 0), none, some (.if_icmp .ge 7, 72, 0, 0), none, none, some (.iconst 1, 0, 0, 0), some (.goto 4, 73, 0, 0), none, none, some (.iconst 0, 0, 0, 0), some (.istore 7, 0, 0, 0), none, some (.iload 7, 0, 0, 0), none, some (.ifCond .eq 37, 114, 0, 0), none, none, some (.aload_n 0, 0, 0, 0), some (.getfield 30, 0, 3, 351), none, none, some (.aload_n 0, 0, 0, 0), some (.getfield 36, 0, 4, 352), none, none, some (.iload_n 3, 0, 0, 0), some (.iload 6, 0, 0, 0), none, some (.ixor, 0, 0, 0), some (.iconst 0, 0, 0, 0), some (.invokevirtual 201, 74, 3, 496), none, none, some (.invokevirtual 156, 81, 2, 530), none, none, some (.iload_n 2, 0, 0, 0), some (.if_icmp .eq 14, 114, 0, 0), none, none, some (.iload 6, 0, 0, 0), none, some (.istore 4, 0, 0, 0), none, some (.iload 6, 0, 0, 0), none, some (.invokestatic 148, 78, 1, 516), none, none, some (.istore 5, 0, 0, 0), none, some (.iinc 6 1, 0, 0, 0), none, none, some (.goto (-71), 46, 0, 0), none, none, some (.iload 4, 0, 0, 0), none, some (.ireturn, 0, 0, 0)]
/-- LeavingVote.fill()I -/
def sm_c102 : List (Option sm_I) := [some (.aload_n 0, 0, 0, 0), some (.bipush 31, 0, 0, 0), none, some (.invokevirtual 207, 103, 2, 621), none, none, some (.aload_n 0, 0, 0, 0), some (.getfield 30, 0, 3, 351), none, none, some (.invokevirtual 210, 68, 1, 625), none, none, some (.invokestatic 213, 9996, 0, 626), none, none, some (.istore_n 1, 0, 0, 0), some (.aload_n 0, 0, 0, 0), some (.getfield 89, 0, 8, 356), none, none, some (.invokestatic 144, 64, 1, 515), none, none, some (.ifCond .eq 7, 31, 0, 0), none, none, some (.iconst 0, 0, 0, 0), some (.goto 11, 39, 0, 0), none, none, some (.aload_n 0, 0, 0, 0), some (.getfield 30, 0, 3, 351), none, none, some (.iconst 3, 0, 0, 0), some (.invokevirtual 218, 67, 2, 627), none, none, some (.istore_n 2, 0, 0, 0), some (.bipush (-4), 0, 0, 0), none, some (.istore_n 3, 0, 0, 0), some (.iload_n 1, 0, 0, 0), some (.iconst 1, 0, 0, 0), some (.iadd, 0, 0, 0), some (.istore 4, 0, 0, 0), none, some (.iconst 0, 0, 0, 0), some (.istore 5, 0, 0, 0), none, some (.iload 5, 0, 0, 0), none, some (.aload_n 0, 0, 0, 0), some (.getfield 30, 0, 3, 351), none, none, some (.invokevirtual 204, 86, 1, 616), none, none, some (.if_icmp .gt 72, 132, 0, 0), none, none, some (.iload 5, 0, 0, 0), none, some (.invokestatic 148, 78, 1, 516), none, none, some (.iload 4, 0, 0, 0), none, some (.if_icmp .ge 7, 77, 0, 0), none, none, some (.iconst 1, 0, 0, 0), some (.goto 4, 78, 0, 0), none, none, some (.iconst 0, 0, 0, 0), some (.istore 6, 0, 0, 0), none, some (.iload 6, 0, 0, 0), none, some (.ifCond .eq 44, 126, 0, 0), none, none, some (.iload 5, 0, 0, 0), none, some (.iload_n 2, 0, 0, 0), some (.iand, 0, 0, 0), some (.ifCond .ne 37, 126, 0, 0), none, none, some (.aload_n 0, 0, 0, 0), some (.getfield 30, 0, 3, 351), none, none, some (.iload 5, 0, 0, 0), none, some (.invokevirtual 156, 81, 2, 530), none, none, some (.ifCond .eq 25, 126, 0, 0), none, none, some (.aload_n 0, 0, 0, 0), some (.getfield 30, 0, 3, 351), none, none, some (.iload 5, 0, 0, 0), none, some (.invokevirtual 169, 87, 2, 553), none, none, some (.ifCond .eq 13, 126, 0, 0), none, none, some (.iload 5, 0, 0, 0), none, some (.istore_n 3, 0, 0, 0), some (.iload 5, 0, 0, 0), none, some (.invokestatic 148, 78, 1, 516), none, none, some (.istore 4, 0, 0, 0), none, some (.iinc 5 1, 0, 0, 0), none, none, some (.goto (-78), 51, 0, 0), none, none, some (.iload_n 3, 0, 0, 0), some (.ireturn, 0, 0, 0)]
/-- LeavingVote.seatsIn(I)I -/
def sm_c103 : List (Option sm_I) := [some (.aload_n 0, 0, 0, 0), some (.getfield 89, 0, 8, 356), none, none, some (.invokestatic 144, 64, 1, 515), none, none, some (.ifCond .eq 8, 15, 0, 0), none, none, some (.bipush 8, 0, 0, 0), none, some (.goto 21, 33, 0, 0), none, none, some (.aload_n 0, 0, 0, 0), some (.getfield 30, 0, 3, 351), none, none, some (.iload_n 1, 0, 0, 0), some (.aload_n 0, 0, 0, 0), some (.getfield 89, 0, 8, 356), none, none, some (.invokestatic 123, 60, 1, 443), none, none, some (.iconst (-1), 0, 0, 0), some (.ixor, 0, 0, 0), some (.iand, 0, 0, 0), some (.invokevirtual 120, 41, 2, 442), none, none, some (.ireturn, 0, 0, 0)]
/-- LeavingVote.beds(I)I -/
def sm_c104 : List (Option sm_I) := [some (.iload_n 1, 0, 0, 0), some (.invokestatic 127, 62, 1, 450), none, none, some (.ifCond .ne 5, 9, 0, 0), none, none, some (.iconst (-1), 0, 0, 0), some (.ireturn, 0, 0, 0), some (.aload_n 0, 0, 0, 0), some (.getfield 36, 0, 4, 352), none, none, some (.aload_n 0, 0, 0, 0), some (.getfield 30, 0, 3, 351), none, none, some (.aload_n 0, 0, 0, 0), some (.getfield 89, 0, 8, 356), none, none, some (.invokevirtual 130, 63, 3, 453), none, none, some (.aload_n 0, 0, 0, 0), some (.getfield 36, 0, 4, 352), none, none, some (.aload_n 0, 0, 0, 0), some (.getfield 89, 0, 8, 356), none, none, some (.iload_n 1, 0, 0, 0), some (.invokestatic 134, 70, 2, 481), none, none, some (.iconst 0, 0, 0, 0), some (.invokevirtual 137, 71, 3, 484), none, none, some (.istore_n 2, 0, 0, 0), some (.iconst 0, 0, 0, 0), some (.istore_n 3, 0, 0, 0), some (.iload_n 3, 0, 0, 0), some (.bipush 9, 0, 0, 0), none, some (.if_icmp .gt 30, 76, 0, 0), none, none, some (.aload_n 0, 0, 0, 0), some (.getfield 30, 0, 3, 351), none, none, some (.aload_n 0, 0, 0, 0), some (.getfield 36, 0, 4, 352), none, none, some (.iload_n 2, 0, 0, 0), some (.iload_n 3, 0, 0, 0), some (.invokevirtual 221, 75, 3, 632), none, none, some (.invokevirtual 156, 81, 2, 530), none, none, some (.ifCond .eq 5, 70, 0, 0), none, none, some (.iload_n 3, 0, 0, 0), some (.ireturn, 0, 0, 0), some (.iinc 3 1, 0, 0, 0), none, none, some (.goto (-30), 43, 0, 0), none, none, some (.bipush (-4), 0, 0, 0), none, some (.ireturn, 0, 0, 0)]
/-- LeavingVote.help(II)I -/
def sm_c105 : List (Option sm_I) := [some (.iload_n 1, 0, 0, 0), some (.invokestatic 127, 62, 1, 450), none, none, some (.ifCond .eq 10, 14, 0, 0), none, none, some (.iload_n 2, 0, 0, 0), some (.invokestatic 163, 84, 1, 542), none, none, some (.ifCond .ne 5, 16, 0, 0), none, none, some (.iconst (-1), 0, 0, 0), some (.ireturn, 0, 0, 0), some (.aload_n 0, 0, 0, 0), some (.getfield 89, 0, 8, 356), none, none, some (.invokestatic 123, 60, 1, 443), none, none, some (.istore_n 3, 0, 0, 0), some (.bipush (-4), 0, 0, 0), none, some (.istore 4, 0, 0, 0), none, some (.bipush (-4), 0, 0, 0), none, some (.istore 5, 0, 0, 0), none, some (.iconst 0, 0, 0, 0), some (.istore 6, 0, 0, 0), none, some (.iload 6, 0, 0, 0), none, some (.aload_n 0, 0, 0, 0), some (.getfield 30, 0, 3, 351), none, none, some (.invokevirtual 224, 59, 1, 438), none, none, some (.if_icmp .ge 59, 103, 0, 0), none, none, some (.iload_n 3, 0, 0, 0), some (.iload 6, 0, 0, 0), none, some (.iushr, 0, 0, 0), some (.iconst 1, 0, 0, 0), some (.iand, 0, 0, 0), some (.ifCond .ne 6, 59, 0, 0), none, none, some (.goto 41, 97, 0, 0), none, none, some (.aload_n 0, 0, 0, 0), some (.aload_n 0, 0, 0, 0), some (.getfield 89, 0, 8, 356), none, none, some (.iload_n 3, 0, 0, 0), some (.iconst 1, 0, 0, 0), some (.iload 6, 0, 0, 0), none, some (.ishl, 0, 0, 0), some (.ixor, 0, 0, 0), some (.invokestatic 183, 94, 2, 584), none, none, some (.iload_n 1, 0, 0, 0), some (.invokevirtual 141, 73, 3, 492), none, none, some (.invokestatic 148, 78, 1, 516), none, none, some (.istore 7, 0, 0, 0), none, some (.iload 7, 0, 0, 0), none, some (.iload 5, 0, 0, 0), none, some (.if_icmp .le 11, 97, 0, 0), none, none, some (.iload 6, 0, 0, 0), none, some (.istore 4, 0, 0, 0), none, some (.iload 7, 0, 0, 0), none, some (.istore 5, 0, 0, 0), none, some (.iinc 6 1, 0, 0, 0), none, none, some (.goto (-65), 35, 0, 0), none, none, some (.iload_n 2, 0, 0, 0), some (.ifCond .ne 8, 112, 0, 0), none, none, some (.iload 4, 0, 0, 0), none, some (.goto 5, 114, 0, 0), none, none, some (.iload 5, 0, 0, 0), none, some (.ireturn, 0, 0, 0)]
/-- LeavingVote.both(I)I -/
def sm_c106 : List (Option sm_I) := [some (.iload_n 1, 0, 0, 0), some (.invokestatic 127, 62, 1, 450), none, none, some (.ifCond .ne 5, 9, 0, 0), none, none, some (.iconst (-1), 0, 0, 0), some (.ireturn, 0, 0, 0), some (.aload_n 0, 0, 0, 0), some (.getfield 36, 0, 4, 352), none, none, some (.aload_n 0, 0, 0, 0), some (.getfield 30, 0, 3, 351), none, none, some (.aload_n 0, 0, 0, 0), some (.getfield 89, 0, 8, 356), none, none, some (.invokevirtual 130, 63, 3, 453), none, none, some (.aload_n 0, 0, 0, 0), some (.getfield 36, 0, 4, 352), none, none, some (.aload_n 0, 0, 0, 0), some (.getfield 89, 0, 8, 356), none, none, some (.iconst 0, 0, 0, 0), some (.invokestatic 134, 70, 2, 481), none, none, some (.iconst 0, 0, 0, 0), some (.invokevirtual 137, 71, 3, 484), none, none, some (.istore_n 2, 0, 0, 0), some (.aload_n 0, 0, 0, 0), some (.getfield 36, 0, 4, 352), none, none, some (.aload_n 0, 0, 0, 0), some (.getfield 89, 0, 8, 356), none, none, some (.iconst 1, 0, 0, 0), some (.invokestatic 134, 70, 2, 481), none, none, some (.iconst 0, 0, 0, 0), some (.invokevirtual 137, 71, 3, 484), none, none, some (.iload_n 2, 0, 0, 0), some (.iconst (-1), 0, 0, 0), some (.ixor, 0, 0, 0), some (.iand, 0, 0, 0), some (.istore_n 3, 0, 0, 0), some (.aload_n 0, 0, 0, 0), some (.getfield 30, 0, 3, 351), none, none, some (.invokevirtual 210, 68, 1, 625), none, none, some (.istore 4, 0, 0, 0), none, some (.iload_n 2, 0, 0, 0), some (.invokestatic 148, 78, 1, 516), none, none, some (.aload_n 0, 0, 0, 0), some (.bipush 21, 0, 0, 0), none, some (.invokevirtual 207, 103, 2, 621), none, none, some (.invokestatic 213, 9996, 0, 626), none, none, some (.iload 4, 0, 0, 0), none, some (.invokestatic 213, 9996, 0, 626), none, none, some (.istore 5, 0, 0, 0), none, some (.iload_n 1, 0, 0, 0), some (.ifCond .ne 6, 98, 0, 0), none, none, some (.iload 5, 0, 0, 0), none, some (.ireturn, 0, 0, 0), some (.iload_n 3, 0, 0, 0), some (.invokestatic 148, 78, 1, 516), none, none, some (.aload_n 0, 0, 0, 0), some (.bipush 10, 0, 0, 0), none, some (.invokevirtual 207, 103, 2, 621), none, none, some (.invokestatic 213, 9996, 0, 626), none, none, some (.iload 4, 0, 0, 0), none, some (.iload 5, 0, 0, 0), none, some (.isub, 0, 0, 0), some (.invokestatic 213, 9996, 0, 626), none, none, some (.ireturn, 0, 0, 0)]
/-- LeavingVote.seen(II)I -/
def sm_c107 : List (Option sm_I) := [some (.iload_n 1, 0, 0, 0), some (.invokestatic 127, 62, 1, 450), none, none, some (.ifCond .eq 13, 17, 0, 0), none, none, some (.iload_n 2, 0, 0, 0), some (.ifCond .lt 9, 17, 0, 0), none, none, some (.iload_n 2, 0, 0, 0), some (.bipush 8, 0, 0, 0), none, some (.if_icmp .le 5, 19, 0, 0), none, none, some (.iconst (-1), 0, 0, 0), some (.ireturn, 0, 0, 0), some (.aload_n 0, 0, 0, 0), some (.getfield 55, 0, 7, 355), none, none, some (.iload_n 1, 0, 0, 0), some (.iload_n 2, 0, 0, 0), some (.invokevirtual 227, 108, 3, 645), none, none, some (.ifCond .eq 13, 41, 0, 0), none, none, some (.aload_n 0, 0, 0, 0), some (.getfield 55, 0, 7, 355), none, none, some (.invokevirtual 231, 109, 1, 649), none, none, some (.goto 5, 43, 0, 0), none, none, some (.bipush (-3), 0, 0, 0), none, some (.ireturn, 0, 0, 0)]
/-- LeavingVote$Sightings.add(II)Z -/
def sm_c108 : List (Option sm_I) := [some (.aload_n 0, 0, 0, 0), some (.getfield 18, 6, 2, 176), none, none, some (.ifCond .lt 27, 31, 0, 0), none, none, some (.aload_n 0, 0, 0, 0), some (.getfield 18, 6, 2, 176), none, none, some (.aload_n 0, 0, 0, 0), some (.getfield 9, 6, 0, 174), none, none, some (.arraylength, 0, 0, 0), some (.if_icmp .ge 15, 31, 0, 0), none, none, some (.aload_n 0, 0, 0, 0), some (.getfield 18, 6, 2, 176), none, none, some (.aload_n 0, 0, 0, 0), some (.getfield 15, 6, 1, 175), none, none, some (.arraylength, 0, 0, 0), some (.if_icmp .lt 5, 33, 0, 0), none, none, some (.iconst 0, 0, 0, 0), some (.ireturn, 0, 0, 0), some (.aload_n 0, 0, 0, 0), some (.getfield 9, 6, 0, 174), none, none, some (.aload_n 0, 0, 0, 0), some (.getfield 18, 6, 2, 176), none, none, some (.iload_n 1, 0, 0, 0), some (.iastore, 0, 0, 0), some (.aload_n 0, 0, 0, 0), some (.getfield 15, 6, 1, 175), none, none, some (.aload_n 0, 0, 0, 0), some (.getfield 18, 6, 2, 176), none, none, some (.iload_n 2, 0, 0, 0), some (.iastore, 0, 0, 0), some (.aload_n 0, 0, 0, 0), some (.dup, 0, 0, 0), some (.getfield 18, 6, 2, 176), none, none, some (.iconst 1, 0, 0, 0), some (.iadd, 0, 0, 0), some (.putfield 18, 6, 2, 176), none, none, some (.iconst 1, 0, 0, 0), some (.ireturn, 0, 0, 0)]
/-- LeavingVote$Sightings.size()I -/
def sm_c109 : List (Option sm_I) := [some (.aload_n 0, 0, 0, 0), some (.getfield 18, 6, 2, 176), none, none, some (.ireturn, 0, 0, 0)]
/-- LeavingVote.forget()I -/
def sm_c110 : List (Option sm_I) := [some (.aload_n 0, 0, 0, 0), some (.getfield 55, 0, 7, 355), none, none, some (.invokevirtual 231, 109, 1, 649), none, none, some (.istore_n 1, 0, 0, 0), some (.aload_n 0, 0, 0, 0), some (.getfield 55, 0, 7, 355), none, none, some (.invokevirtual 94, 52, 1, 408), none, none, some (.iload_n 1, 0, 0, 0), some (.ireturn, 0, 0, 0)]
/-- LeavingVote.oars(I)I -/
def sm_c111 : List (Option sm_I) := [some (.iload_n 1, 0, 0, 0), some (.invokestatic 163, 84, 1, 542), none, none, some (.ifCond .ne 5, 9, 0, 0), none, none, some (.iconst (-1), 0, 0, 0), some (.ireturn, 0, 0, 0), some (.iconst 0, 0, 0, 0), some (.istore_n 2, 0, 0, 0), some (.bipush (-4), 0, 0, 0), none, some (.istore_n 3, 0, 0, 0), some (.iconst 0, 0, 0, 0), some (.istore 4, 0, 0, 0), none, some (.iload 4, 0, 0, 0), none, some (.iconst 1, 0, 0, 0), some (.aload_n 0, 0, 0, 0), some (.getfield 30, 0, 3, 351), none, none, some (.invokevirtual 224, 59, 1, 438), none, none, some (.ishl, 0, 0, 0), some (.if_icmp .ge 38, 66, 0, 0), none, none, some (.aload_n 0, 0, 0, 0), some (.aload_n 0, 0, 0, 0), some (.getfield 89, 0, 8, 356), none, none, some (.iload 4, 0, 0, 0), none, some (.invokestatic 183, 94, 2, 584), none, none, some (.invokevirtual 234, 112, 2, 661), none, none, some (.ifCond .ne 6, 50, 0, 0), none, none, some (.goto 13, 60, 0, 0), none, none, some (.iload_n 2, 0, 0, 0), some (.ifCond .ne 6, 57, 0, 0), none, none, some (.iload 4, 0, 0, 0), none, some (.istore_n 3, 0, 0, 0), some (.iinc 2 1, 0, 0, 0), none, none, some (.iinc 4 1, 0, 0, 0), none, none, some (.goto (-46), 17, 0, 0), none, none, some (.iload_n 1, 0, 0, 0), some (.ifCond .ne 7, 74, 0, 0), none, none, some (.iload_n 2, 0, 0, 0), some (.goto 4, 75, 0, 0), none, none, some (.iload_n 3, 0, 0, 0), some (.ireturn, 0, 0, 0)]
/-- LeavingVote.agrees(J)Z -/
def sm_c112 : List (Option sm_I) := [some (.aload_n 0, 0, 0, 0), some (.getfield 36, 0, 4, 352), none, none, some (.aload_n 0, 0, 0, 0), some (.getfield 30, 0, 3, 351), none, none, some (.lload_n 1, 0, 0, 0), some (.invokevirtual 130, 63, 3, 453), none, none, some (.iconst 0, 0, 0, 0), some (.istore_n 3, 0, 0, 0), some (.iload_n 3, 0, 0, 0), some (.aload_n 0, 0, 0, 0), some (.getfield 55, 0, 7, 355), none, none, some (.invokevirtual 231, 109, 1, 649), none, none, some (.if_icmp .ge 49, 71, 0, 0), none, none, some (.aload_n 0, 0, 0, 0), some (.getfield 36, 0, 4, 352), none, none, some (.lload_n 1, 0, 0, 0), some (.aload_n 0, 0, 0, 0), some (.getfield 55, 0, 7, 355), none, none, some (.iload_n 3, 0, 0, 0), some (.invokevirtual 267, 113, 2, 665), none, none, some (.invokestatic 134, 70, 2, 481), none, none, some (.iconst 0, 0, 0, 0), some (.invokevirtual 201, 74, 3, 496), none, none, some (.istore 4, 0, 0, 0), none, some (.iload 4, 0, 0, 0), none, some (.invokestatic 148, 78, 1, 516), none, none, some (.aload_n 0, 0, 0, 0), some (.getfield 55, 0, 7, 355), none, none, some (.iload_n 3, 0, 0, 0), some (.invokevirtual 270, 114, 2, 669), none, none, some (.if_icmp .eq 5, 65, 0, 0), none, none, some (.iconst 0, 0, 0, 0), some (.ireturn, 0, 0, 0), some (.iinc 3 1, 0, 0, 0), none, none, some (.goto (-54), 14, 0, 0), none, none, some (.iconst 1, 0, 0, 0), some (.ireturn, 0, 0, 0)]
/-- LeavingVote$Sightings.question(I)I -/
def sm_c113 : List (Option sm_I) := [some (.iload_n 1, 0, 0, 0), some (.ifCond .lt 21, 22, 0, 0), none, none, some (.iload_n 1, 0, 0, 0), some (.aload_n 0, 0, 0, 0), some (.getfield 9, 6, 0, 174), none, none, some (.arraylength, 0, 0, 0), some (.if_icmp .ge 12, 22, 0, 0), none, none, some (.aload_n 0, 0, 0, 0), some (.getfield 9, 6, 0, 174), none, none, some (.iload_n 1, 0, 0, 0), some (.iaload, 0, 0, 0), some (.goto 4, 23, 0, 0), none, none, some (.iconst 0, 0, 0, 0), some (.ireturn, 0, 0, 0)]
/-- LeavingVote$Sightings.number(I)I -/
def sm_c114 : List (Option sm_I) := [some (.iload_n 1, 0, 0, 0), some (.ifCond .lt 21, 22, 0, 0), none, none, some (.iload_n 1, 0, 0, 0), some (.aload_n 0, 0, 0, 0), some (.getfield 15, 6, 1, 175), none, none, some (.arraylength, 0, 0, 0), some (.if_icmp .ge 12, 22, 0, 0), none, none, some (.aload_n 0, 0, 0, 0), some (.getfield 15, 6, 1, 175), none, none, some (.iload_n 1, 0, 0, 0), some (.iaload, 0, 0, 0), some (.goto 4, 23, 0, 0), none, none, some (.iconst 0, 0, 0, 0), some (.ireturn, 0, 0, 0)]
/-- LeavingVote.odds(II)I -/
def sm_c115 : List (Option sm_I) := [some (.iload_n 1, 0, 0, 0), some (.invokestatic 127, 62, 1, 450), none, none, some (.ifCond .eq 10, 14, 0, 0), none, none, some (.iload_n 2, 0, 0, 0), some (.invokestatic 163, 84, 1, 542), none, none, some (.ifCond .ne 5, 16, 0, 0), none, none, some (.iconst (-1), 0, 0, 0), some (.ireturn, 0, 0, 0), some (.aload_n 0, 0, 0, 0), some (.getfield 36, 0, 4, 352), none, none, some (.aload_n 0, 0, 0, 0), some (.getfield 30, 0, 3, 351), none, none, some (.aload_n 0, 0, 0, 0), some (.getfield 89, 0, 8, 356), none, none, some (.invokevirtual 130, 63, 3, 453), none, none, some (.aload_n 0, 0, 0, 0), some (.getfield 89, 0, 8, 356), none, none, some (.iload_n 1, 0, 0, 0), some (.invokestatic 134, 70, 2, 481), none, none, some (.istore_n 3, 0, 0, 0), some (.aload_n 0, 0, 0, 0), some (.getfield 36, 0, 4, 352), none, none, some (.iload_n 3, 0, 0, 0), some (.iconst 0, 0, 0, 0), some (.invokevirtual 137, 71, 3, 484), none, none, some (.aload_n 0, 0, 0, 0), some (.getfield 30, 0, 3, 351), none, none, some (.iconst 1, 0, 0, 0), some (.invokevirtual 218, 67, 2, 627), none, none, some (.iand, 0, 0, 0), some (.istore 4, 0, 0, 0), none, some (.iconst 0, 0, 0, 0), some (.istore 5, 0, 0, 0), none, some (.iconst 0, 0, 0, 0), some (.istore 6, 0, 0, 0), none, some (.iload 6, 0, 0, 0), none, some (.iload 4, 0, 0, 0), none, some (.if_icmp .gt 75, 145, 0, 0), none, none, some (.iload 6, 0, 0, 0), none, some (.iload 4, 0, 0, 0), none, some (.iconst (-1), 0, 0, 0), some (.ixor, 0, 0, 0), some (.iand, 0, 0, 0), some (.ifCond .ne 7, 87, 0, 0), none, none, some (.iconst 1, 0, 0, 0), some (.goto 4, 88, 0, 0), none, none, some (.iconst 0, 0, 0, 0), some (.istore 7, 0, 0, 0), none, some (.iload 7, 0, 0, 0), none, some (.ifCond .eq 47, 139, 0, 0), none, none, some (.aload_n 0, 0, 0, 0), some (.getfield 30, 0, 3, 351), none, none, some (.aload_n 0, 0, 0, 0), some (.getfield 36, 0, 4, 352), none, none, some (.iload_n 3, 0, 0, 0), some (.iload 6, 0, 0, 0), none, some (.invokevirtual 201, 74, 3, 496), none, none, some (.invokevirtual 156, 81, 2, 530), none, none, some (.ifCond .eq 27, 139, 0, 0), none, none, some (.iload 5, 0, 0, 0), none, some (.aload_n 0, 0, 0, 0), some (.iload 6, 0, 0, 0), none, some (.invokestatic 148, 78, 1, 516), none, none, some (.iload 4, 0, 0, 0), none, some (.iload 6, 0, 0, 0), none, some (.iconst (-1), 0, 0, 0), some (.ixor, 0, 0, 0), some (.iand, 0, 0, 0), some (.invokestatic 148, 78, 1, 516), none, none, some (.invokevirtual 237, 116, 3, 677), none, none, some (.iadd, 0, 0, 0), some (.istore 5, 0, 0, 0), none, some (.iinc 6 1, 0, 0, 0), none, none, some (.goto (-76), 66, 0, 0), none, none, some (.bipush 10, 0, 0, 0), none, some (.iload 4, 0, 0, 0), none, some (.invokestatic 148, 78, 1, 516), none, none, some (.invokestatic 240, 118, 2, 685), none, none, some (.istore 6, 0, 0, 0), none, some (.iload 5, 0, 0, 0), none, some (.iload 6, 0, 0, 0), none, some (.invokestatic 243, 119, 2, 688), none, none, some (.istore 7, 0, 0, 0), none, some (.iload 7, 0, 0, 0), none, some (.ifCond .gt 6, 174, 0, 0), none, none, some (.bipush (-4), 0, 0, 0), none, some (.ireturn, 0, 0, 0), some (.iload_n 2, 0, 0, 0), some (.ifCond .ne 11, 186, 0, 0), none, none, some (.iload 5, 0, 0, 0), none, some (.iload 7, 0, 0, 0), none, some (.idiv, 0, 0, 0), some (.goto 8, 191, 0, 0), none, none, some (.iload 6, 0, 0, 0), none, some (.iload 7, 0, 0, 0), none, some (.idiv, 0, 0, 0), some (.ireturn, 0, 0, 0)]
/-- LeavingVote.weight(II)I -/
def sm_c116 : List (Option sm_I) := [some (.aload_n 0, 0, 0, 0), some (.getfield 30, 0, 3, 351), none, none, some (.invokevirtual 273, 117, 1, 681), none, none, some (.iload_n 1, 0, 0, 0), some (.invokestatic 240, 118, 2, 685), none, none, some (.bipush 10, 0, 0, 0), none, some (.aload_n 0, 0, 0, 0), some (.getfield 30, 0, 3, 351), none, none, some (.invokevirtual 273, 117, 1, 681), none, none, some (.isub, 0, 0, 0), some (.iload_n 2, 0, 0, 0), some (.invokestatic 240, 118, 2, 685), none, none, some (.imul, 0, 0, 0), some (.ireturn, 0, 0, 0)]
/-- LeavingVote$Island.seasickTenths()I -/
def sm_c117 : List (Option sm_I) := [some (.aload_n 0, 0, 0, 0), some (.getfield 87, 1, 8, 106), none, none, some (.ireturn, 0, 0, 0)]
/-- LeavingVote.power(II)I -/
def sm_c118 : List (Option sm_I) := [some (.iconst 1, 0, 0, 0), some (.istore_n 2, 0, 0, 0), some (.iconst 0, 0, 0, 0), some (.istore_n 3, 0, 0, 0), some (.iload_n 3, 0, 0, 0), some (.iload_n 1, 0, 0, 0), some (.if_icmp .ge 19, 25, 0, 0), none, none, some (.iload_n 3, 0, 0, 0), some (.bipush 8, 0, 0, 0), none, some (.if_icmp .ge 13, 25, 0, 0), none, none, some (.iload_n 2, 0, 0, 0), some (.iload_n 0, 0, 0, 0), some (.imul, 0, 0, 0), some (.istore_n 2, 0, 0, 0), some (.iinc 3 1, 0, 0, 0), none, none, some (.goto (-18), 4, 0, 0), none, none, some (.iload_n 2, 0, 0, 0), some (.ireturn, 0, 0, 0)]
/-- LeavingVote.commonDivisor(II)I -/
def sm_c119 : List (Option sm_I) := [some (.iload_n 1, 0, 0, 0), some (.istore_n 2, 0, 0, 0), some (.iload_n 0, 0, 0, 0), some (.istore_n 3, 0, 0, 0), some (.iconst 0, 0, 0, 0), some (.istore 4, 0, 0, 0), none, some (.iload 4, 0, 0, 0), none, some (.bipush 100, 0, 0, 0), none, some (.if_icmp .ge 23, 34, 0, 0), none, none, some (.iload_n 3, 0, 0, 0), some (.ifCond .eq 19, 34, 0, 0), none, none, some (.iload_n 2, 0, 0, 0), some (.iload_n 3, 0, 0, 0), some (.irem, 0, 0, 0), some (.istore 5, 0, 0, 0), none, some (.iload_n 3, 0, 0, 0), some (.istore_n 2, 0, 0, 0), some (.iload 5, 0, 0, 0), none, some (.istore_n 3, 0, 0, 0), some (.iinc 4 1, 0, 0, 0), none, none, some (.goto (-24), 7, 0, 0), none, none, some (.iload_n 2, 0, 0, 0), some (.ireturn, 0, 0, 0)]
/-- LeavingVote.asked(I)I -/
def sm_c120 : List (Option sm_I) := [some (.iload_n 1, 0, 0, 0), some (.ifCond .lt 14, 15, 0, 0), none, none, some (.iload_n 1, 0, 0, 0), some (.aload_n 0, 0, 0, 0), some (.getfield 30, 0, 3, 351), none, none, some (.invokevirtual 204, 86, 1, 616), none, none, some (.if_icmp .le 5, 17, 0, 0), none, none, some (.iconst (-1), 0, 0, 0), some (.ireturn, 0, 0, 0), some (.iconst 0, 0, 0, 0), some (.istore_n 2, 0, 0, 0), some (.iconst 0, 0, 0, 0), some (.istore_n 3, 0, 0, 0), some (.iload_n 3, 0, 0, 0), some (.iconst 2, 0, 0, 0), some (.if_icmp .ge 28, 51, 0, 0), none, none, some (.aload_n 0, 0, 0, 0), some (.aload_n 0, 0, 0, 0), some (.getfield 89, 0, 8, 356), none, none, some (.iload_n 3, 0, 0, 0), some (.invokevirtual 141, 73, 3, 492), none, none, some (.iload_n 1, 0, 0, 0), some (.if_icmp .ne 9, 45, 0, 0), none, none, some (.iload_n 2, 0, 0, 0), some (.iconst 1, 0, 0, 0), some (.iload_n 3, 0, 0, 0), some (.ishl, 0, 0, 0), some (.ior, 0, 0, 0), some (.istore_n 2, 0, 0, 0), some (.iinc 3 1, 0, 0, 0), none, none, some (.goto (-27), 21, 0, 0), none, none, some (.iload_n 2, 0, 0, 0), some (.ireturn, 0, 0, 0)]
/-- LeavingVote.months(III)I -/
def sm_c121 : List (Option sm_I) := [some (.iload_n 1, 0, 0, 0), some (.ifCond .lt 28, 29, 0, 0), none, none, some (.iload_n 1, 0, 0, 0), some (.sipush 9999, 0, 0, 0), none, none, some (.if_icmp .gt 21, 29, 0, 0), none, none, some (.iload_n 2, 0, 0, 0), some (.iconst 1, 0, 0, 0), some (.if_icmp .lt 16, 29, 0, 0), none, none, some (.iload_n 2, 0, 0, 0), some (.bipush 60, 0, 0, 0), none, some (.if_icmp .gt 10, 29, 0, 0), none, none, some (.iload_n 3, 0, 0, 0), some (.invokestatic 163, 84, 1, 542), none, none, some (.ifCond .ne 5, 31, 0, 0), none, none, some (.iconst (-1), 0, 0, 0), some (.ireturn, 0, 0, 0), some (.iconst 0, 0, 0, 0), some (.istore 4, 0, 0, 0), none, some (.iconst 0, 0, 0, 0), some (.istore 5, 0, 0, 0), none, some (.iload 5, 0, 0, 0), none, some (.iload_n 2, 0, 0, 0), some (.if_icmp .ge 100, 140, 0, 0), none, none, some (.iload_n 1, 0, 0, 0), some (.iload 5, 0, 0, 0), none, some (.invokestatic 246, 122, 2, 699), none, none, some (.istore 6, 0, 0, 0), none, some (.aload_n 0, 0, 0, 0), some (.getfield 89, 0, 8, 356), none, none, some (.iload 6, 0, 0, 0), none, some (.iconst 4, 0, 0, 0), some (.irem, 0, 0, 0), some (.ifCond .ne 7, 66, 0, 0), none, none, some (.iconst 1, 0, 0, 0), some (.goto 4, 67, 0, 0), none, none, some (.iconst 0, 0, 0, 0), some (.iload 6, 0, 0, 0), none, some (.bipush 7, 0, 0, 0), none, some (.irem, 0, 0, 0), some (.ifCond .ne 7, 79, 0, 0), none, none, some (.iconst 1, 0, 0, 0), some (.goto 4, 80, 0, 0), none, none, some (.iconst 0, 0, 0, 0), some (.invokestatic 190, 96, 3, 592), none, none, some (.lstore 7, 0, 0, 0), none, some (.aload_n 0, 0, 0, 0), some (.lload 7, 0, 0, 0), none, some (.iload 6, 0, 0, 0), none, some (.bipush 8, 0, 0, 0), none, some (.idiv, 0, 0, 0), some (.iconst 2, 0, 0, 0), some (.irem, 0, 0, 0), some (.invokevirtual 141, 73, 3, 492), none, none, some (.istore 9, 0, 0, 0), none, some (.iload_n 3, 0, 0, 0), some (.ifCond .ne 18, 119, 0, 0), none, none, some (.aload_n 0, 0, 0, 0), some (.getfield 30, 0, 3, 351), none, none, some (.iload 9, 0, 0, 0), none, some (.invokevirtual 156, 81, 2, 530), none, none, some (.ifCond .eq 21, 134, 0, 0), none, none, some (.goto 15, 131, 0, 0), none, none, some (.aload_n 0, 0, 0, 0), some (.getfield 30, 0, 3, 351), none, none, some (.iload 9, 0, 0, 0), none, some (.invokevirtual 169, 87, 2, 553), none, none, some (.ifCond .eq 6, 134, 0, 0), none, none, some (.iinc 4 1, 0, 0, 0), none, none, some (.iinc 5 1, 0, 0, 0), none, none, some (.goto (-100), 37, 0, 0), none, none, some (.iload 4, 0, 0, 0), none, some (.ireturn, 0, 0, 0)]
/-- LeavingVote.draw(II)I -/
def sm_c122 : List (Option sm_I) := [some (.ldc2_w 276, 7919, 0, 702), none, none, some (.iload_n 0, 0, 0, 0), some (.i2l, 0, 0, 0), some (.lmul, 0, 0, 0), some (.ldc2_w 278, 6151, 0, 703), none, none, some (.iload_n 1, 0, 0, 0), some (.i2l, 0, 0, 0), some (.lmul, 0, 0, 0), some (.ladd, 0, 0, 0), some (.lconst 1, 0, 0, 0), some (.ladd, 0, 0, 0), some (.lstore_n 2, 0, 0, 0), some (.lload_n 2, 0, 0, 0), some (.lload_n 2, 0, 0, 0), some (.lmul, 0, 0, 0), some (.ldc2_w 280, 65521, 0, 704), none, none, some (.lrem, 0, 0, 0), some (.l2i, 0, 0, 0), some (.iconst 2, 0, 0, 0), some (.idiv, 0, 0, 0), some (.ireturn, 0, 0, 0)]
/-- LeavingVote.keep()I -/
def sm_c123 : List (Option sm_I) := [some (.aload_n 0, 0, 0, 0), some (.getfield 49, 0, 6, 354), none, none, some (.invokevirtual 194, 98, 1, 600), none, none, some (.iconst 2, 0, 0, 0), some (.if_icmp .lt 6, 14, 0, 0), none, none, some (.bipush (-3), 0, 0, 0), none, some (.ireturn, 0, 0, 0), some (.aload_n 0, 0, 0, 0), some (.getfield 49, 0, 6, 354), none, none, some (.aload_n 0, 0, 0, 0), some (.getfield 89, 0, 8, 356), none, none, some (.invokevirtual 249, 90, 2, 567), none, none, some (.aload_n 0, 0, 0, 0), some (.getfield 49, 0, 6, 354), none, none, some (.invokevirtual 194, 98, 1, 600), none, none, some (.ireturn, 0, 0, 0)]
/-- LeavingVote.back()I -/
def sm_c124 : List (Option sm_I) := [some (.aload_n 0, 0, 0, 0), some (.getfield 49, 0, 6, 354), none, none, some (.invokevirtual 194, 98, 1, 600), none, none, some (.ifCond .ne 6, 13, 0, 0), none, none, some (.bipush (-2), 0, 0, 0), none, some (.ireturn, 0, 0, 0), some (.aload_n 0, 0, 0, 0), some (.aload_n 0, 0, 0, 0), some (.getfield 49, 0, 6, 354), none, none, some (.aload_n 0, 0, 0, 0), some (.getfield 89, 0, 8, 356), none, none, some (.invokevirtual 197, 99, 2, 604), none, none, some (.putfield 89, 0, 8, 356), none, none, some (.aload_n 0, 0, 0, 0), some (.getfield 45, 0, 5, 353), none, none, some (.invokevirtual 93, 51, 1, 404), none, none, some (.aload_n 0, 0, 0, 0), some (.getfield 49, 0, 6, 354), none, none, some (.invokevirtual 194, 98, 1, 600), none, none, some (.ireturn, 0, 0, 0)]
/-- LeavingVote.count(I)I -/
def sm_c125 : List (Option sm_I) := [some (.iload_n 1, 0, 0, 0), some (.tableswitch 168 0 11 #[63, 71, 79, 90, 101, 112, 120, 128, 136, 144, 152, 160], 0, 0, 0), none, none, none, none, none, none, none, none, none, none, none, none, none, none, none, none, none, none, none, none, none, none, none, none, none, none, none, none, none, none, none, none, none, none, none, none, none, none, none, none, none, none, none, none, none, none, none, none, none, none, none, none, none, none, none, none, none, none, none, none, none, none, some (.aload_n 0, 0, 0, 0), some (.getfield 30, 0, 3, 351), none, none, some (.invokevirtual 95, 53, 1, 412), none, none, some (.ireturn, 0, 0, 0), some (.aload_n 0, 0, 0, 0), some (.getfield 30, 0, 3, 351), none, none, some (.invokevirtual 224, 59, 1, 438), none, none, some (.ireturn, 0, 0, 0), some (.aload_n 0, 0, 0, 0), some (.getfield 89, 0, 8, 356), none, none, some (.invokestatic 123, 60, 1, 443), none, none, some (.invokestatic 148, 78, 1, 516), none, none, some (.ireturn, 0, 0, 0), some (.aload_n 0, 0, 0, 0), some (.getfield 89, 0, 8, 356), none, none, some (.invokestatic 187, 69, 1, 591), none, none, some (.invokestatic 159, 82, 1, 535), none, none, some (.ireturn, 0, 0, 0), some (.aload_n 0, 0, 0, 0), some (.getfield 89, 0, 8, 356), none, none, some (.invokestatic 144, 64, 1, 515), none, none, some (.invokestatic 159, 82, 1, 535), none, none, some (.ireturn, 0, 0, 0), some (.aload_n 0, 0, 0, 0), some (.getfield 30, 0, 3, 351), none, none, some (.invokevirtual 210, 68, 1, 625), none, none, some (.ireturn, 0, 0, 0), some (.aload_n 0, 0, 0, 0), some (.getfield 30, 0, 3, 351), none, none, some (.invokevirtual 252, 126, 1, 717), none, none, some (.ireturn, 0, 0, 0), some (.aload_n 0, 0, 0, 0), some (.getfield 30, 0, 3, 351), none, none, some (.invokevirtual 255, 127, 1, 721), none, none, some (.ireturn, 0, 0, 0), some (.aload_n 0, 0, 0, 0), some (.getfield 55, 0, 7, 355), none, none, some (.invokevirtual 231, 109, 1, 649), none, none, some (.ireturn, 0, 0, 0), some (.aload_n 0, 0, 0, 0), some (.getfield 45, 0, 5, 353), none, none, some (.invokevirtual 194, 98, 1, 600), none, none, some (.ireturn, 0, 0, 0), some (.aload_n 0, 0, 0, 0), some (.getfield 49, 0, 6, 354), none, none, some (.invokevirtual 194, 98, 1, 600), none, none, some (.ireturn, 0, 0, 0), some (.aload_n 0, 0, 0, 0), some (.getfield 10, 0, 0, 348), none, none, some (.invokevirtual 66, 20, 1, 381), none, none, some (.ireturn, 0, 0, 0), some (.iconst (-1), 0, 0, 0), some (.ireturn, 0, 0, 0)]
/-- LeavingVote$Island.cowsToMilk()I -/
def sm_c126 : List (Option sm_I) := [some (.aload_n 0, 0, 0, 0), some (.getfield 81, 1, 6, 104), none, none, some (.ireturn, 0, 0, 0)]
/-- LeavingVote$Island.tenths()I -/
def sm_c127 : List (Option sm_I) := [some (.aload_n 0, 0, 0, 0), some (.getfield 84, 1, 7, 105), none, none, some (.ireturn, 0, 0, 0)]
/-- LeavingVoteModel.<init>()V -/
def sm_c128 : List (Option sm_I) := [some (.aload_n 0, 0, 0, 0), some (.invokespecial 1, 9999, 0, 730), none, none, some (.aload_n 0, 0, 0, 0), some (.sipush 200, 0, 0, 0), none, none, some (.newarray .int, 0, 0, 91), none, some (.putfield 7, 7, 1, 744), none, none, some (.aload_n 0, 0, 0, 0), some (.iconst 2, 0, 0, 0), some (.newarray .int, 0, 0, 91), none, some (.putfield 13, 7, 2, 745), none, none, some (.aload_n 0, 0, 0, 0), some (.bipush 16, 0, 0, 0), none, some (.newarray .int, 0, 0, 91), none, some (.putfield 16, 7, 3, 746), none, none, some (.aload_n 0, 0, 0, 0), some (.bipush 16, 0, 0, 0), none, some (.newarray .int, 0, 0, 91), none, some (.putfield 19, 7, 4, 747), none, none, some (.aload_n 0, 0, 0, 0), some (.bipush 16, 0, 0, 0), none, some (.newarray .int, 0, 0, 91), none, some (.putfield 22, 7, 5, 748), none, none, some (.aload_n 0, 0, 0, 0), some (.bipush 16, 0, 0, 0), none, some (.newarray .int, 0, 0, 91), none, some (.putfield 25, 7, 6, 749), none, none, some (.aload_n 0, 0, 0, 0), some (.iconst 2, 0, 0, 0), some (.newarray .int, 0, 0, 91), none, some (.putfield 28, 7, 7, 750), none, none, some (.aload_n 0, 0, 0, 0), some (.bipush 10, 0, 0, 0), none, some (.newarray .int, 0, 0, 91), none, some (.putfield 31, 7, 8, 751), none, none, some (.aload_n 0, 0, 0, 0), some (.bipush 8, 0, 0, 0), none, some (.newarray .int, 0, 0, 91), none, some (.putfield 34, 7, 9, 752), none, none, some (.aload_n 0, 0, 0, 0), some (.bipush 24, 0, 0, 0), none, some (.newarray .int, 0, 0, 91), none, some (.putfield 37, 7, 10, 753), none, none, some (.aload_n 0, 0, 0, 0), some (.sipush 192, 0, 0, 0), none, none, some (.newarray .int, 0, 0, 91), none, some (.putfield 40, 7, 11, 754), none, none, some (.aload_n 0, 0, 0, 0), some (.bipush 48, 0, 0, 0), none, some (.newarray .int, 0, 0, 91), none, some (.putfield 43, 7, 13, 756), none, none, some (.aload_n 0, 0, 0, 0), some (.bipush 8, 0, 0, 0), none, some (.newarray .int, 0, 0, 91), none, some (.putfield 46, 7, 16, 759), none, none, some (.aload_n 0, 0, 0, 0), some (.bipush 8, 0, 0, 0), none, some (.newarray .int, 0, 0, 91), none, some (.putfield 49, 7, 17, 760), none, none, some (.aload_n 0, 0, 0, 0), some (.iconst 4, 0, 0, 0), some (.newarray .int, 0, 0, 91), none, some (.putfield 52, 7, 19, 762), none, none, some (.aload_n 0, 0, 0, 0), some (.bipush 8, 0, 0, 0), none, some (.newarray .int, 0, 0, 91), none, some (.putfield 55, 7, 20, 763), none, none, some (.aload_n 0, 0, 0, 0), some (.iconst 5, 0, 0, 0), some (.newarray .int, 0, 0, 91), none, some (.putfield 58, 7, 21, 764), none, none, some (.aload_n 0, 0, 0, 0), some (.iconst 5, 0, 0, 0), some (.newarray .int, 0, 0, 91), none, some (.putfield 61, 7, 22, 765), none, none, some (.aload_n 0, 0, 0, 0), some (.iconst 0, 0, 0, 0), some (.invokevirtual 64, 129, 2, 731), none, none, some (.aload_n 0, 0, 0, 0), some (.iconst 0, 0, 0, 0), some (.iconst 0, 0, 0, 0), some (.iconst 1, 0, 0, 0), some (.iconst 0, 0, 0, 0), some (.iconst 2, 0, 0, 0), some (.invokevirtual 68, 130, 6, 735), none, none, some (.aload_n 0, 0, 0, 0), some (.iconst 0, 0, 0, 0), some (.iconst 0, 0, 0, 0), some (.iconst 3, 0, 0, 0), some (.iconst 0, 0, 0, 0), some (.iconst 1, 0, 0, 0), some (.invokevirtual 68, 130, 6, 735), none, none, some (.aload_n 0, 0, 0, 0), some (.iconst 0, 0, 0, 0), some (.iconst 1, 0, 0, 0), some (.iconst 1, 0, 0, 0), some (.iconst 0, 0, 0, 0), some (.iconst 0, 0, 0, 0), some (.invokevirtual 68, 130, 6, 735), none, none, some (.aload_n 0, 0, 0, 0), some (.iconst 0, 0, 0, 0), some (.iconst 2, 0, 0, 0), some (.iconst 0, 0, 0, 0), some (.iconst 1, 0, 0, 0), some (.iconst 3, 0, 0, 0), some (.invokevirtual 68, 130, 6, 735), none, none, some (.aload_n 0, 0, 0, 0), some (.iconst 0, 0, 0, 0), some (.iconst 2, 0, 0, 0), some (.iconst 2, 0, 0, 0), some (.iconst 5, 0, 0, 0), some (.iconst 1, 0, 0, 0), some (.invokevirtual 68, 130, 6, 735), none, none, some (.aload_n 0, 0, 0, 0), some (.iconst 0, 0, 0, 0), some (.iconst 2, 0, 0, 0), some (.iconst 0, 0, 0, 0), some (.iconst 4, 0, 0, 0), some (.iconst 0, 0, 0, 0), some (.invokevirtual 68, 130, 6, 735), none, none, some (.aload_n 0, 0, 0, 0), some (.iconst 0, 0, 0, 0), some (.iconst 3, 0, 0, 0), some (.iconst 3, 0, 0, 0), some (.iconst 0, 0, 0, 0), some (.iconst 4, 0, 0, 0), some (.invokevirtual 68, 130, 6, 735), none, none, some (.aload_n 0, 0, 0, 0), some (.iconst 0, 0, 0, 0), some (.iconst 0, 0, 0, 0), some (.iconst 0, 0, 0, 0), some (.iconst 0, 0, 0, 0), some (.iconst 2, 0, 0, 0), some (.invokevirtual 68, 130, 6, 735), none, none, some (.aload_n 0, 0, 0, 0), some (.getfield 28, 7, 7, 750), none, none, some (.iconst 0, 0, 0, 0), some (.iconst 2, 0, 0, 0), some (.iastore, 0, 0, 0), some (.aload_n 0, 0, 0, 0), some (.getfield 31, 7, 8, 751), none, none, some (.iconst 0, 0, 0, 0), some (.iconst 2, 0, 0, 0), some (.iastore, 0, 0, 0), some (.aload_n 0, 0, 0, 0), some (.getfield 31, 7, 8, 751), none, none, some (.iconst 1, 0, 0, 0), some (.iconst 3, 0, 0, 0), some (.iastore, 0, 0, 0), some (.aload_n 0, 0, 0, 0), some (.getfield 34, 7, 9, 752), none, none, some (.iconst 1, 0, 0, 0), some (.bipush 6, 0, 0, 0), none, some (.iastore, 0, 0, 0), some (.aload_n 0, 0, 0, 0), some (.invokevirtual 72, 131, 1, 739), none, none, some (.return_, 0, 0, 0)]
/-- LeavingVoteModel.noIsland(I)V -/
def sm_c129 : List (Option sm_I) := [some (.aload_n 0, 0, 0, 0), some (.getfield 13, 7, 2, 745), none, none, some (.iload_n 1, 0, 0, 0), some (.iconst 0, 0, 0, 0), some (.iastore, 0, 0, 0), some (.aload_n 0, 0, 0, 0), some (.getfield 28, 7, 7, 750), none, none, some (.iload_n 1, 0, 0, 0), some (.iconst 0, 0, 0, 0), some (.iastore, 0, 0, 0), some (.aload_n 0, 0, 0, 0), some (.getfield 34, 7, 9, 752), none, none, some (.iconst 4, 0, 0, 0), some (.iload_n 1, 0, 0, 0), some (.imul, 0, 0, 0), some (.iconst 4, 0, 0, 0), some (.iastore, 0, 0, 0), some (.aload_n 0, 0, 0, 0), some (.getfield 34, 7, 9, 752), none, none, some (.iconst 4, 0, 0, 0), some (.iload_n 1, 0, 0, 0), some (.imul, 0, 0, 0), some (.iconst 1, 0, 0, 0), some (.iadd, 0, 0, 0), some (.iconst 0, 0, 0, 0), some (.iastore, 0, 0, 0), some (.aload_n 0, 0, 0, 0), some (.getfield 34, 7, 9, 752), none, none, some (.iconst 4, 0, 0, 0), some (.iload_n 1, 0, 0, 0), some (.imul, 0, 0, 0), some (.iconst 2, 0, 0, 0), some (.iadd, 0, 0, 0), some (.iconst 5, 0, 0, 0), some (.iastore, 0, 0, 0), some (.aload_n 0, 0, 0, 0), some (.getfield 34, 7, 9, 752), none, none, some (.iconst 4, 0, 0, 0), some (.iload_n 1, 0, 0, 0), some (.imul, 0, 0, 0), some (.iconst 3, 0, 0, 0), some (.iadd, 0, 0, 0), some (.iconst 3, 0, 0, 0), some (.iastore, 0, 0, 0), some (.return_, 0, 0, 0)]
/-- LeavingVoteModel.addIslander(IIIII)V -/
def sm_c130 : List (Option sm_I) := [some (.bipush 8, 0, 0, 0), none, some (.iload_n 1, 0, 0, 0), some (.imul, 0, 0, 0), some (.aload_n 0, 0, 0, 0), some (.getfield 13, 7, 2, 745), none, none, some (.iload_n 1, 0, 0, 0), some (.iaload, 0, 0, 0), some (.iadd, 0, 0, 0), some (.istore 6, 0, 0, 0), none, some (.aload_n 0, 0, 0, 0), some (.getfield 16, 7, 3, 746), none, none, some (.iload 6, 0, 0, 0), none, some (.iload_n 2, 0, 0, 0), some (.iastore, 0, 0, 0), some (.aload_n 0, 0, 0, 0), some (.getfield 19, 7, 4, 747), none, none, some (.iload 6, 0, 0, 0), none, some (.iload_n 3, 0, 0, 0), some (.iastore, 0, 0, 0), some (.aload_n 0, 0, 0, 0), some (.getfield 22, 7, 5, 748), none, none, some (.iload 6, 0, 0, 0), none, some (.iload 4, 0, 0, 0), none, some (.iastore, 0, 0, 0), some (.aload_n 0, 0, 0, 0), some (.getfield 25, 7, 6, 749), none, none, some (.iload 6, 0, 0, 0), none, some (.iload 5, 0, 0, 0), none, some (.iastore, 0, 0, 0), some (.aload_n 0, 0, 0, 0), some (.getfield 13, 7, 2, 745), none, none, some (.iload_n 1, 0, 0, 0), some (.dup2, 0, 0, 0), some (.iaload, 0, 0, 0), some (.iconst 1, 0, 0, 0), some (.iadd, 0, 0, 0), some (.iastore, 0, 0, 0), some (.return_, 0, 0, 0)]
/-- LeavingVoteModel.begin()V -/
def sm_c131 : List (Option sm_I) := [some (.iconst 0, 0, 0, 0), some (.istore_n 1, 0, 0, 0), some (.iload_n 1, 0, 0, 0), some (.bipush 24, 0, 0, 0), none, some (.if_icmp .ge 49, 54, 0, 0), none, none, some (.aload_n 0, 0, 0, 0), some (.getfield 37, 7, 10, 753), none, none, some (.iload_n 1, 0, 0, 0), some (.iload_n 1, 0, 0, 0), some (.bipush 8, 0, 0, 0), none, some (.if_icmp .ge 12, 28, 0, 0), none, none, some (.aload_n 0, 0, 0, 0), some (.getfield 19, 7, 4, 747), none, none, some (.iload_n 1, 0, 0, 0), some (.iaload, 0, 0, 0), some (.goto 22, 47, 0, 0), none, none, some (.iload_n 1, 0, 0, 0), some (.bipush 16, 0, 0, 0), none, some (.if_icmp .ge 15, 46, 0, 0), none, none, some (.aload_n 0, 0, 0, 0), some (.getfield 22, 7, 5, 748), none, none, some (.iload_n 1, 0, 0, 0), some (.bipush 8, 0, 0, 0), none, some (.isub, 0, 0, 0), some (.iaload, 0, 0, 0), some (.goto 4, 47, 0, 0), none, none, some (.iconst 0, 0, 0, 0), some (.iastore, 0, 0, 0), some (.iinc 1 1, 0, 0, 0), none, none, some (.goto (-49), 2, 0, 0), none, none, some (.aload_n 0, 0, 0, 0), some (.iconst 0, 0, 0, 0), some (.putfield 121, 7, 12, 755), none, none, some (.aload_n 0, 0, 0, 0), some (.iconst 0, 0, 0, 0), some (.putfield 124, 7, 14, 757), none, none, some (.aload_n 0, 0, 0, 0), some (.iconst 0, 0, 0, 0), some (.putfield 127, 7, 15, 758), none, none, some (.return_, 0, 0, 0)]
/-- LeavingVoteModel.write(I)I -/
def sm_c132 : List (Option sm_I) := [some (.iload_n 1, 0, 0, 0), some (.i2l, 0, 0, 0), some (.ldc2_w 75, 32, 0, 817), none, none, some (.ldc2_w 77, 126, 0, 818), none, none, some (.invokestatic 79, 133, 3, 819), none, none, some (.ifCond .ne 5, 16, 0, 0), none, none, some (.iconst (-1), 0, 0, 0), some (.ireturn, 0, 0, 0), some (.aload_n 0, 0, 0, 0), some (.getfield 83, 7, 0, 743), none, none, some (.sipush 200, 0, 0, 0), none, none, some (.if_icmp .ne 6, 29, 0, 0), none, none, some (.bipush (-3), 0, 0, 0), none, some (.ireturn, 0, 0, 0), some (.aload_n 0, 0, 0, 0), some (.getfield 7, 7, 1, 744), none, none, some (.aload_n 0, 0, 0, 0), some (.getfield 83, 7, 0, 743), none, none, some (.iload_n 1, 0, 0, 0), some (.iastore, 0, 0, 0), some (.aload_n 0, 0, 0, 0), some (.dup, 0, 0, 0), some (.getfield 83, 7, 0, 743), none, none, some (.iconst 1, 0, 0, 0), some (.iadd, 0, 0, 0), some (.putfield 83, 7, 0, 743), none, none, some (.aload_n 0, 0, 0, 0), some (.getfield 83, 7, 0, 743), none, none, some (.ireturn, 0, 0, 0)]
/-- LeavingVoteModel.in(JJJ)Z -/
def sm_c133 : List (Option sm_I) := [some (.lload_n 0, 0, 0, 0), some (.lload_n 2, 0, 0, 0), some (.lcmp, 0, 0, 0), some (.ifCond .lt 14, 17, 0, 0), none, none, some (.lload_n 0, 0, 0, 0), some (.lload 4, 0, 0, 0), none, some (.lcmp, 0, 0, 0), some (.ifCond .gt 7, 17, 0, 0), none, none, some (.iconst 1, 0, 0, 0), some (.goto 4, 18, 0, 0), none, none, some (.iconst 0, 0, 0, 0), some (.ireturn, 0, 0, 0)]
/-- LeavingVoteModel.wipe()I -/
def sm_c134 : List (Option sm_I) := [some (.aload_n 0, 0, 0, 0), some (.getfield 83, 7, 0, 743), none, none, some (.istore_n 1, 0, 0, 0), some (.aload_n 0, 0, 0, 0), some (.iconst 0, 0, 0, 0), some (.putfield 83, 7, 0, 743), none, none, some (.iload_n 1, 0, 0, 0), some (.ireturn, 0, 0, 0)]
/-- LeavingVoteModel.fault()I -/
def sm_c135 : List (Option sm_I) := [some (.aload_n 0, 0, 0, 0), some (.invokevirtual 117, 136, 1, 830), none, none, some (.ireturn, 0, 0, 0)]
/-- LeavingVoteModel.readAll()I -/
def sm_c136 : List (Option sm_I) := [some (.aload_n 0, 0, 0, 0), some (.iconst 1, 0, 0, 0), some (.invokevirtual 64, 129, 2, 731), none, none, some (.aload_n 0, 0, 0, 0), some (.iconst 0, 0, 0, 0), some (.putfield 87, 7, 18, 761), none, none, some (.aload_n 0, 0, 0, 0), some (.getfield 87, 7, 18, 761), none, none, some (.aload_n 0, 0, 0, 0), some (.getfield 83, 7, 0, 743), none, none, some (.if_icmp .ge 20, 38, 0, 0), none, none, some (.aload_n 0, 0, 0, 0), some (.getfield 87, 7, 18, 761), none, none, some (.istore_n 1, 0, 0, 0), some (.aload_n 0, 0, 0, 0), some (.invokevirtual 114, 137, 1, 834), none, none, some (.ifCond .ne 5, 35, 0, 0), none, none, some (.iload_n 1, 0, 0, 0), some (.ireturn, 0, 0, 0), some (.goto (-25), 10, 0, 0), none, none, some (.bipush (-4), 0, 0, 0), none, some (.ireturn, 0, 0, 0)]
/-- LeavingVoteModel.item()Z -/
def sm_c137 : List (Option sm_I) := [some (.aload_n 0, 0, 0, 0), some (.aload_n 0, 0, 0, 0), some (.getfield 87, 7, 18, 761), none, none, some (.invokevirtual 90, 138, 2, 838), none, none, some (.istore_n 1, 0, 0, 0), some (.aload_n 0, 0, 0, 0), some (.dup, 0, 0, 0), some (.getfield 87, 7, 18, 761), none, none, some (.iconst 1, 0, 0, 0), some (.iadd, 0, 0, 0), some (.putfield 87, 7, 18, 761), none, none, some (.iload_n 1, 0, 0, 0), some (.tableswitch 197 98 115 #[93, 197, 161, 197, 197, 197, 179, 88, 197, 197, 197, 170, 197, 197, 197, 197, 197, 188], 0, 0, 0), none, none, none, none, none, none, none, none, none, none, none, none, none, none, none, none, none, none, none, none, none, none, none, none, none, none, none, none, none, none, none, none, none, none, none, none, none, none, none, none, none, none, none, none, none, none, none, none, none, none, none, none, none, none, none, none, none, none, none, none, none, none, none, none, none, none, none, none, none, none, none, none, none, none, none, none, none, none, none, none, none, none, none, none, none, none, none, some (.aload_n 0, 0, 0, 0), some (.invokevirtual 104, 139, 1, 842), none, none, some (.ireturn, 0, 0, 0), some (.aload_n 0, 0, 0, 0), some (.iconst 1, 0, 0, 0), some (.invokevirtual 100, 140, 2, 846), none, none, some (.ifCond .eq 30, 148, 0, 0), none, none, some (.aload_n 0, 0, 0, 0), some (.getfield 28, 7, 7, 750), none, none, some (.iconst 1, 0, 0, 0), some (.iaload, 0, 0, 0), some (.iconst 5, 0, 0, 0), some (.if_icmp .eq 20, 148, 0, 0), none, none, some (.aload_n 0, 0, 0, 0), some (.getfield 52, 7, 19, 762), none, none, some (.iconst 0, 0, 0, 0), some (.iaload, 0, 0, 0), some (.i2l, 0, 0, 0), some (.lconst 1, 0, 0, 0), some (.ldc2_w 108, 8, 0, 853), none, none, some (.invokestatic 79, 133, 3, 819), none, none, some (.ifCond .ne 5, 150, 0, 0), none, none, some (.iconst 0, 0, 0, 0), some (.ireturn, 0, 0, 0), some (.aload_n 0, 0, 0, 0), some (.getfield 31, 7, 8, 751), none, none, some (.iconst 5, 0, 0, 0), some (.aload_n 0, 0, 0, 0), some (.getfield 28, 7, 7, 750), none, none, some (.iconst 1, 0, 0, 0), some (.iaload, 0, 0, 0), some (.iadd, 0, 0, 0), some (.aload_n 0, 0, 0, 0), some (.getfield 52, 7, 19, 762), none, none, some (.iconst 0, 0, 0, 0), some (.iaload, 0, 0, 0), some (.iastore, 0, 0, 0), some (.aload_n 0, 0, 0, 0), some (.getfield 28, 7, 7, 750), none, none, some (.iconst 1, 0, 0, 0), some (.dup2, 0, 0, 0), some (.iaload, 0, 0, 0), some (.iconst 1, 0, 0, 0), some (.iadd, 0, 0, 0), some (.iastore, 0, 0, 0), some (.iconst 1, 0, 0, 0), some (.ireturn, 0, 0, 0), some (.aload_n 0, 0, 0, 0), some (.iconst 0, 0, 0, 0), some (.iconst 0, 0, 0, 0), some (.bipush 9, 0, 0, 0), none, some (.invokevirtual 110, 141, 4, 854), none, none, some (.ireturn, 0, 0, 0), some (.aload_n 0, 0, 0, 0), some (.iconst 1, 0, 0, 0), some (.iconst 0, 0, 0, 0), some (.bipush 40, 0, 0, 0), none, some (.invokevirtual 110, 141, 4, 854), none, none, some (.ireturn, 0, 0, 0), some (.aload_n 0, 0, 0, 0), some (.iconst 2, 0, 0, 0), some (.iconst 1, 0, 0, 0), some (.bipush 9, 0, 0, 0), none, some (.invokevirtual 110, 141, 4, 854), none, none, some (.ireturn, 0, 0, 0), some (.aload_n 0, 0, 0, 0), some (.iconst 3, 0, 0, 0), some (.iconst 0, 0, 0, 0), some (.bipush 10, 0, 0, 0), none, some (.invokevirtual 110, 141, 4, 854), none, none, some (.ireturn, 0, 0, 0), some (.iconst 0, 0, 0, 0), some (.ireturn, 0, 0, 0)]
/-- LeavingVoteModel.letterAt(I)I -/
def sm_c138 : List (Option sm_I) := [some (.iload_n 1, 0, 0, 0), some (.aload_n 0, 0, 0, 0), some (.getfield 83, 7, 0, 743), none, none, some (.if_icmp .ge 12, 17, 0, 0), none, none, some (.aload_n 0, 0, 0, 0), some (.getfield 7, 7, 1, 744), none, none, some (.iload_n 1, 0, 0, 0), some (.iaload, 0, 0, 0), some (.goto 4, 18, 0, 0), none, none, some (.iconst 0, 0, 0, 0), some (.ireturn, 0, 0, 0)]
/-- LeavingVoteModel.islanderItem()Z -/
def sm_c139 : List (Option sm_I) := [some (.aload_n 0, 0, 0, 0), some (.iconst 4, 0, 0, 0), some (.invokevirtual 100, 140, 2, 846), none, none, some (.ifCond .eq 60, 65, 0, 0), none, none, some (.aload_n 0, 0, 0, 0), some (.getfield 13, 7, 2, 745), none, none, some (.iconst 1, 0, 0, 0), some (.iaload, 0, 0, 0), some (.bipush 8, 0, 0, 0), none, some (.if_icmp .ge 49, 65, 0, 0), none, none, some (.aload_n 0, 0, 0, 0), some (.getfield 52, 7, 19, 762), none, none, some (.iconst 0, 0, 0, 0), some (.iaload, 0, 0, 0), some (.iconst 4, 0, 0, 0), some (.if_icmp .ge 39, 65, 0, 0), none, none, some (.aload_n 0, 0, 0, 0), some (.getfield 52, 7, 19, 762), none, none, some (.iconst 1, 0, 0, 0), some (.iaload, 0, 0, 0), some (.iconst 4, 0, 0, 0), some (.if_icmp .ge 29, 65, 0, 0), none, none, some (.aload_n 0, 0, 0, 0), some (.getfield 52, 7, 19, 762), none, none, some (.iconst 2, 0, 0, 0), some (.iaload, 0, 0, 0), some (.bipush 8, 0, 0, 0), none, some (.if_icmp .ge 18, 65, 0, 0), none, none, some (.aload_n 0, 0, 0, 0), some (.getfield 52, 7, 19, 762), none, none, some (.iconst 3, 0, 0, 0), some (.iaload, 0, 0, 0), some (.bipush 10, 0, 0, 0), none, some (.if_icmp .ge 7, 65, 0, 0), none, none, some (.iconst 1, 0, 0, 0), some (.goto 4, 66, 0, 0), none, none, some (.iconst 0, 0, 0, 0), some (.istore_n 1, 0, 0, 0), some (.iload_n 1, 0, 0, 0), some (.ifCond .eq 32, 100, 0, 0), none, none, some (.aload_n 0, 0, 0, 0), some (.iconst 1, 0, 0, 0), some (.aload_n 0, 0, 0, 0), some (.getfield 52, 7, 19, 762), none, none, some (.iconst 0, 0, 0, 0), some (.iaload, 0, 0, 0), some (.aload_n 0, 0, 0, 0), some (.getfield 52, 7, 19, 762), none, none, some (.iconst 1, 0, 0, 0), some (.iaload, 0, 0, 0), some (.aload_n 0, 0, 0, 0), some (.getfield 52, 7, 19, 762), none, none, some (.iconst 2, 0, 0, 0), some (.iaload, 0, 0, 0), some (.aload_n 0, 0, 0, 0), some (.getfield 52, 7, 19, 762), none, none, some (.iconst 3, 0, 0, 0), some (.iaload, 0, 0, 0), some (.invokevirtual 68, 130, 6, 735), none, none, some (.iload_n 1, 0, 0, 0), some (.ireturn, 0, 0, 0)]
/-- LeavingVoteModel.figures(I)Z -/
def sm_c140 : List (Option sm_I) := [some (.iconst 0, 0, 0, 0), some (.istore_n 2, 0, 0, 0), some (.iload_n 2, 0, 0, 0), some (.iload_n 1, 0, 0, 0), some (.if_icmp .ge 132, 136, 0, 0), none, none, some (.iconst 0, 0, 0, 0), some (.istore_n 3, 0, 0, 0), some (.iconst 0, 0, 0, 0), some (.istore 4, 0, 0, 0), none, some (.aload_n 0, 0, 0, 0), some (.aload_n 0, 0, 0, 0), some (.getfield 87, 7, 18, 761), none, none, some (.invokevirtual 90, 138, 2, 838), none, none, some (.i2l, 0, 0, 0), some (.ldc2_w 94, 48, 0, 850), none, none, some (.ldc2_w 96, 57, 0, 851), none, none, some (.invokestatic 79, 133, 3, 819), none, none, some (.ifCond .eq 43, 73, 0, 0), none, none, some (.iload_n 3, 0, 0, 0), some (.iconst 3, 0, 0, 0), some (.if_icmp .ge 38, 73, 0, 0), none, none, some (.bipush 10, 0, 0, 0), none, some (.iload 4, 0, 0, 0), none, some (.imul, 0, 0, 0), some (.aload_n 0, 0, 0, 0), some (.aload_n 0, 0, 0, 0), some (.getfield 87, 7, 18, 761), none, none, some (.invokevirtual 90, 138, 2, 838), none, none, some (.iadd, 0, 0, 0), some (.bipush 48, 0, 0, 0), none, some (.isub, 0, 0, 0), some (.istore 4, 0, 0, 0), none, some (.iinc 3 1, 0, 0, 0), none, none, some (.aload_n 0, 0, 0, 0), some (.dup, 0, 0, 0), some (.getfield 87, 7, 18, 761), none, none, some (.iconst 1, 0, 0, 0), some (.iadd, 0, 0, 0), some (.putfield 87, 7, 18, 761), none, none, some (.goto (-58), 12, 0, 0), none, none, some (.iload_n 3, 0, 0, 0), some (.i2l, 0, 0, 0), some (.lconst 1, 0, 0, 0), some (.ldc2_w 98, 2, 0, 852), none, none, some (.invokestatic 79, 133, 3, 819), none, none, some (.ifCond .eq 28, 110, 0, 0), none, none, some (.aload_n 0, 0, 0, 0), some (.aload_n 0, 0, 0, 0), some (.getfield 87, 7, 18, 761), none, none, some (.invokevirtual 90, 138, 2, 838), none, none, some (.iload_n 2, 0, 0, 0), some (.iload_n 1, 0, 0, 0), some (.iconst 1, 0, 0, 0), some (.isub, 0, 0, 0), some (.if_icmp .ge 8, 105, 0, 0), none, none, some (.bipush 44, 0, 0, 0), none, some (.goto 5, 107, 0, 0), none, none, some (.bipush 59, 0, 0, 0), none, some (.if_icmp .eq 5, 112, 0, 0), none, none, some (.iconst 0, 0, 0, 0), some (.ireturn, 0, 0, 0), some (.aload_n 0, 0, 0, 0), some (.getfield 52, 7, 19, 762), none, none, some (.iload_n 2, 0, 0, 0), some (.iload 4, 0, 0, 0), none, some (.iastore, 0, 0, 0), some (.aload_n 0, 0, 0, 0), some (.dup, 0, 0, 0), some (.getfield 87, 7, 18, 761), none, none, some (.iconst 1, 0, 0, 0), some (.iadd, 0, 0, 0), some (.putfield 87, 7, 18, 761), none, none, some (.iinc 2 1, 0, 0, 0), none, none, some (.goto (-131), 2, 0, 0), none, none, some (.iconst 1, 0, 0, 0), some (.ireturn, 0, 0, 0)]
/-- LeavingVoteModel.lawItem(III)Z -/
def sm_c141 : List (Option sm_I) := [some (.aload_n 0, 0, 0, 0), some (.iconst 1, 0, 0, 0), some (.invokevirtual 100, 140, 2, 846), none, none, some (.ifCond .eq 24, 29, 0, 0), none, none, some (.aload_n 0, 0, 0, 0), some (.getfield 52, 7, 19, 762), none, none, some (.iconst 0, 0, 0, 0), some (.iaload, 0, 0, 0), some (.i2l, 0, 0, 0), some (.iload_n 2, 0, 0, 0), some (.i2l, 0, 0, 0), some (.iload_n 3, 0, 0, 0), some (.i2l, 0, 0, 0), some (.invokestatic 79, 133, 3, 819), none, none, some (.ifCond .eq 7, 29, 0, 0), none, none, some (.iconst 1, 0, 0, 0), some (.goto 4, 30, 0, 0), none, none, some (.iconst 0, 0, 0, 0), some (.istore 4, 0, 0, 0), none, some (.aload_n 0, 0, 0, 0), some (.getfield 34, 7, 9, 752), none, none, some (.iconst 4, 0, 0, 0), some (.iload_n 1, 0, 0, 0), some (.iadd, 0, 0, 0), some (.iload 4, 0, 0, 0), none, some (.ifCond .eq 12, 53, 0, 0), none, none, some (.aload_n 0, 0, 0, 0), some (.getfield 52, 7, 19, 762), none, none, some (.iconst 0, 0, 0, 0), some (.iaload, 0, 0, 0), some (.goto 11, 61, 0, 0), none, none, some (.aload_n 0, 0, 0, 0), some (.getfield 34, 7, 9, 752), none, none, some (.iconst 4, 0, 0, 0), some (.iload_n 1, 0, 0, 0), some (.iadd, 0, 0, 0), some (.iaload, 0, 0, 0), some (.iastore, 0, 0, 0), some (.iload 4, 0, 0, 0), none, some (.ireturn, 0, 0, 0)]
/-- LeavingVoteModel.lay()I -/
def sm_c142 : List (Option sm_I) := [some (.aload_n 0, 0, 0, 0), some (.invokevirtual 117, 136, 1, 830), none, none, some (.bipush (-4), 0, 0, 0), none, some (.if_icmp .ne 16, 22, 0, 0), none, none, some (.aload_n 0, 0, 0, 0), some (.getfield 13, 7, 2, 745), none, none, some (.iconst 1, 0, 0, 0), some (.iaload, 0, 0, 0), some (.ifCond .le 7, 22, 0, 0), none, none, some (.iconst 1, 0, 0, 0), some (.goto 4, 23, 0, 0), none, none, some (.iconst 0, 0, 0, 0), some (.istore_n 1, 0, 0, 0), some (.iconst 0, 0, 0, 0), some (.istore_n 2, 0, 0, 0), some (.iload_n 2, 0, 0, 0), some (.aload_n 0, 0, 0, 0), some (.getfield 13, 7, 2, 745), none, none, some (.iconst 1, 0, 0, 0), some (.iaload, 0, 0, 0), some (.if_icmp .ge 37, 70, 0, 0), none, none, some (.iload_n 1, 0, 0, 0), some (.ifCond .eq 33, 70, 0, 0), none, none, some (.aload_n 0, 0, 0, 0), some (.getfield 22, 7, 5, 748), none, none, some (.bipush 8, 0, 0, 0), none, some (.iload_n 2, 0, 0, 0), some (.iadd, 0, 0, 0), some (.iaload, 0, 0, 0), some (.aload_n 0, 0, 0, 0), some (.getfield 13, 7, 2, 745), none, none, some (.iconst 1, 0, 0, 0), some (.iaload, 0, 0, 0), some (.if_icmp .ge 7, 62, 0, 0), none, none, some (.iconst 1, 0, 0, 0), some (.goto 4, 63, 0, 0), none, none, some (.iconst 0, 0, 0, 0), some (.istore_n 1, 0, 0, 0), some (.iinc 2 1, 0, 0, 0), none, none, some (.goto (-41), 26, 0, 0), none, none, some (.iload_n 1, 0, 0, 0), some (.ifCond .ne 6, 77, 0, 0), none, none, some (.bipush (-2), 0, 0, 0), none, some (.ireturn, 0, 0, 0), some (.aload_n 0, 0, 0, 0), some (.getfield 13, 7, 2, 745), none, none, some (.iconst 0, 0, 0, 0), some (.aload_n 0, 0, 0, 0), some (.getfield 13, 7, 2, 745), none, none, some (.iconst 1, 0, 0, 0), some (.iaload, 0, 0, 0), some (.iastore, 0, 0, 0), some (.aload_n 0, 0, 0, 0), some (.getfield 28, 7, 7, 750), none, none, some (.iconst 0, 0, 0, 0), some (.aload_n 0, 0, 0, 0), some (.getfield 28, 7, 7, 750), none, none, some (.iconst 1, 0, 0, 0), some (.iaload, 0, 0, 0), some (.iastore, 0, 0, 0), some (.iconst 0, 0, 0, 0), some (.istore_n 2, 0, 0, 0), some (.iload_n 2, 0, 0, 0), some (.bipush 8, 0, 0, 0), none, some (.if_icmp .ge 69, 175, 0, 0), none, none, some (.aload_n 0, 0, 0, 0), some (.getfield 16, 7, 3, 746), none, none, some (.iload_n 2, 0, 0, 0), some (.aload_n 0, 0, 0, 0), some (.getfield 16, 7, 3, 746), none, none, some (.bipush 8, 0, 0, 0), none, some (.iload_n 2, 0, 0, 0), some (.iadd, 0, 0, 0), some (.iaload, 0, 0, 0), some (.iastore, 0, 0, 0), some (.aload_n 0, 0, 0, 0), some (.getfield 19, 7, 4, 747), none, none, some (.iload_n 2, 0, 0, 0), some (.aload_n 0, 0, 0, 0), some (.getfield 19, 7, 4, 747), none, none, some (.bipush 8, 0, 0, 0), none, some (.iload_n 2, 0, 0, 0), some (.iadd, 0, 0, 0), some (.iaload, 0, 0, 0), some (.iastore, 0, 0, 0), some (.aload_n 0, 0, 0, 0), some (.getfield 22, 7, 5, 748), none, none, some (.iload_n 2, 0, 0, 0), some (.aload_n 0, 0, 0, 0), some (.getfield 22, 7, 5, 748), none, none, some (.bipush 8, 0, 0, 0), none, some (.iload_n 2, 0, 0, 0), some (.iadd, 0, 0, 0), some (.iaload, 0, 0, 0), some (.iastore, 0, 0, 0), some (.aload_n 0, 0, 0, 0), some (.getfield 25, 7, 6, 749), none, none, some (.iload_n 2, 0, 0, 0), some (.aload_n 0, 0, 0, 0), some (.getfield 25, 7, 6, 749), none, none, some (.bipush 8, 0, 0, 0), none, some (.iload_n 2, 0, 0, 0), some (.iadd, 0, 0, 0), some (.iaload, 0, 0, 0), some (.iastore, 0, 0, 0), some (.iinc 2 1, 0, 0, 0), none, none, some (.goto (-69), 103, 0, 0), none, none, some (.iconst 0, 0, 0, 0), some (.istore_n 2, 0, 0, 0), some (.iload_n 2, 0, 0, 0), some (.iconst 5, 0, 0, 0), some (.if_icmp .ge 23, 202, 0, 0), none, none, some (.aload_n 0, 0, 0, 0), some (.getfield 31, 7, 8, 751), none, none, some (.iload_n 2, 0, 0, 0), some (.aload_n 0, 0, 0, 0), some (.getfield 31, 7, 8, 751), none, none, some (.iconst 5, 0, 0, 0), some (.iload_n 2, 0, 0, 0), some (.iadd, 0, 0, 0), some (.iaload, 0, 0, 0), some (.iastore, 0, 0, 0), some (.iinc 2 1, 0, 0, 0), none, none, some (.goto (-22), 177, 0, 0), none, none, some (.iconst 0, 0, 0, 0), some (.istore_n 2, 0, 0, 0), some (.iload_n 2, 0, 0, 0), some (.iconst 4, 0, 0, 0), some (.if_icmp .ge 23, 229, 0, 0), none, none, some (.aload_n 0, 0, 0, 0), some (.getfield 34, 7, 9, 752), none, none, some (.iload_n 2, 0, 0, 0), some (.aload_n 0, 0, 0, 0), some (.getfield 34, 7, 9, 752), none, none, some (.iconst 4, 0, 0, 0), some (.iload_n 2, 0, 0, 0), some (.iadd, 0, 0, 0), some (.iaload, 0, 0, 0), some (.iastore, 0, 0, 0), some (.iinc 2 1, 0, 0, 0), none, none, some (.goto (-22), 204, 0, 0), none, none, some (.aload_n 0, 0, 0, 0), some (.invokevirtual 72, 131, 1, 739), none, none, some (.aload_n 0, 0, 0, 0), some (.getfield 13, 7, 2, 745), none, none, some (.iconst 0, 0, 0, 0), some (.iaload, 0, 0, 0), some (.ireturn, 0, 0, 0)]
/-- LeavingVoteModel.islander(II)I -/
def sm_c143 : List (Option sm_I) := [some (.aload_n 0, 0, 0, 0), some (.iload_n 1, 0, 0, 0), some (.invokevirtual 130, 144, 2, 866), none, none, some (.ifCond .eq 15, 20, 0, 0), none, none, some (.iload_n 2, 0, 0, 0), some (.i2l, 0, 0, 0), some (.lconst 0, 0, 0, 0), some (.ldc2_w 133, 3, 0, 870), none, none, some (.invokestatic 79, 133, 3, 819), none, none, some (.ifCond .ne 5, 22, 0, 0), none, none, some (.iconst (-1), 0, 0, 0), some (.ireturn, 0, 0, 0), some (.iload_n 2, 0, 0, 0), some (.ifCond .ne 12, 35, 0, 0), none, none, some (.aload_n 0, 0, 0, 0), some (.getfield 16, 7, 3, 746), none, none, some (.iload_n 1, 0, 0, 0), some (.iaload, 0, 0, 0), some (.goto 40, 72, 0, 0), none, none, some (.iload_n 2, 0, 0, 0), some (.iconst 1, 0, 0, 0), some (.if_icmp .ne 12, 49, 0, 0), none, none, some (.aload_n 0, 0, 0, 0), some (.getfield 37, 7, 10, 753), none, none, some (.iload_n 1, 0, 0, 0), some (.iaload, 0, 0, 0), some (.goto 26, 72, 0, 0), none, none, some (.iload_n 2, 0, 0, 0), some (.iconst 2, 0, 0, 0), some (.if_icmp .ne 15, 66, 0, 0), none, none, some (.aload_n 0, 0, 0, 0), some (.getfield 37, 7, 10, 753), none, none, some (.bipush 8, 0, 0, 0), none, some (.iload_n 1, 0, 0, 0), some (.iadd, 0, 0, 0), some (.iaload, 0, 0, 0), some (.goto 9, 72, 0, 0), none, none, some (.aload_n 0, 0, 0, 0), some (.getfield 25, 7, 6, 749), none, none, some (.iload_n 1, 0, 0, 0), some (.iaload, 0, 0, 0), some (.ireturn, 0, 0, 0)]
/-- LeavingVoteModel.isIslander(I)Z -/
def sm_c144 : List (Option sm_I) := [some (.iload_n 1, 0, 0, 0), some (.i2l, 0, 0, 0), some (.lconst 0, 0, 0, 0), some (.aload_n 0, 0, 0, 0), some (.getfield 13, 7, 2, 745), none, none, some (.iconst 0, 0, 0, 0), some (.iaload, 0, 0, 0), some (.iconst 1, 0, 0, 0), some (.isub, 0, 0, 0), some (.i2l, 0, 0, 0), some (.invokestatic 79, 133, 3, 819), none, none, some (.ireturn, 0, 0, 0)]
/-- LeavingVoteModel.boat(II)I -/
def sm_c145 : List (Option sm_I) := [some (.aload_n 0, 0, 0, 0), some (.iload_n 1, 0, 0, 0), some (.invokevirtual 135, 146, 2, 875), none, none, some (.ifCond .eq 13, 18, 0, 0), none, none, some (.iload_n 2, 0, 0, 0), some (.i2l, 0, 0, 0), some (.lconst 0, 0, 0, 0), some (.lconst 1, 0, 0, 0), some (.invokestatic 79, 133, 3, 819), none, none, some (.ifCond .ne 7, 22, 0, 0), none, none, some (.iconst (-1), 0, 0, 0), some (.goto 25, 44, 0, 0), none, none, some (.iload_n 2, 0, 0, 0), some (.ifCond .ne 12, 35, 0, 0), none, none, some (.aload_n 0, 0, 0, 0), some (.getfield 31, 7, 8, 751), none, none, some (.iload_n 1, 0, 0, 0), some (.iaload, 0, 0, 0), some (.goto 12, 44, 0, 0), none, none, some (.aload_n 0, 0, 0, 0), some (.getfield 37, 7, 10, 753), none, none, some (.bipush 16, 0, 0, 0), none, some (.iload_n 1, 0, 0, 0), some (.iadd, 0, 0, 0), some (.iaload, 0, 0, 0), some (.ireturn, 0, 0, 0)]
/-- LeavingVoteModel.isBoat(I)Z -/
def sm_c146 : List (Option sm_I) := [some (.iload_n 1, 0, 0, 0), some (.i2l, 0, 0, 0), some (.lconst 0, 0, 0, 0), some (.aload_n 0, 0, 0, 0), some (.getfield 28, 7, 7, 750), none, none, some (.iconst 0, 0, 0, 0), some (.iaload, 0, 0, 0), some (.iconst 1, 0, 0, 0), some (.isub, 0, 0, 0), some (.i2l, 0, 0, 0), some (.invokestatic 79, 133, 3, 819), none, none, some (.ireturn, 0, 0, 0)]
/-- LeavingVoteModel.wants(I)I -/
def sm_c147 : List (Option sm_I) := [some (.iload_n 1, 0, 0, 0), some (.invokestatic 164, 148, 1, 883), none, none, some (.ifCond .eq 12, 16, 0, 0), none, none, some (.aload_n 0, 0, 0, 0), some (.iload_n 1, 0, 0, 0), some (.iconst 0, 0, 0, 0), some (.invokevirtual 145, 149, 3, 886), none, none, some (.goto 4, 17, 0, 0), none, none, some (.iconst (-1), 0, 0, 0), some (.ireturn, 0, 0, 0)]
/-- LeavingVoteModel.isQuestion(I)Z -/
def sm_c148 : List (Option sm_I) := [some (.iload_n 0, 0, 0, 0), some (.i2l, 0, 0, 0), some (.lconst 0, 0, 0, 0), some (.lconst 1, 0, 0, 0), some (.invokestatic 79, 133, 3, 819), none, none, some (.ireturn, 0, 0, 0)]
/-- LeavingVoteModel.wanting(II)I -/
def sm_c149 : List (Option sm_I) := [some (.iconst 0, 0, 0, 0), some (.istore_n 3, 0, 0, 0), some (.iconst 0, 0, 0, 0), some (.istore 4, 0, 0, 0), none, some (.iload 4, 0, 0, 0), none, some (.aload_n 0, 0, 0, 0), some (.getfield 13, 7, 2, 745), none, none, some (.iconst 0, 0, 0, 0), some (.iaload, 0, 0, 0), some (.if_icmp .ge 31, 44, 0, 0), none, none, some (.iload_n 3, 0, 0, 0), some (.aload_n 0, 0, 0, 0), some (.iload_n 1, 0, 0, 0), some (.iload 4, 0, 0, 0), none, some (.iload_n 2, 0, 0, 0), some (.invokevirtual 142, 150, 4, 890), none, none, some (.ifCond .eq 10, 35, 0, 0), none, none, some (.iconst 1, 0, 0, 0), some (.iload 4, 0, 0, 0), none, some (.ishl, 0, 0, 0), some (.goto 4, 36, 0, 0), none, none, some (.iconst 0, 0, 0, 0), some (.ior, 0, 0, 0), some (.istore_n 3, 0, 0, 0), some (.iinc 4 1, 0, 0, 0), none, none, some (.goto (-36), 5, 0, 0), none, none, some (.iload_n 3, 0, 0, 0), some (.ireturn, 0, 0, 0)]
/-- LeavingVoteModel.doesWant(III)Z -/
def sm_c150 : List (Option sm_I) := [some (.aload_n 0, 0, 0, 0), some (.getfield 37, 7, 10, 753), none, none, some (.bipush 22, 0, 0, 0), none, some (.iaload, 0, 0, 0), some (.iconst 1, 0, 0, 0), some (.if_icmp .ne 7, 15, 0, 0), none, none, some (.iconst 1, 0, 0, 0), some (.goto 4, 16, 0, 0), none, none, some (.iconst 0, 0, 0, 0), some (.istore 4, 0, 0, 0), none, some (.aload_n 0, 0, 0, 0), some (.getfield 37, 7, 10, 753), none, none, some (.bipush 21, 0, 0, 0), none, some (.iaload, 0, 0, 0), some (.iconst 1, 0, 0, 0), some (.if_icmp .ne 10, 36, 0, 0), none, none, some (.iload 4, 0, 0, 0), none, some (.ifCond .ne 5, 36, 0, 0), none, none, some (.iconst 0, 0, 0, 0), some (.ireturn, 0, 0, 0), some (.iload_n 2, 0, 0, 0), some (.istore 5, 0, 0, 0), none, some (.iconst 0, 0, 0, 0), some (.istore 6, 0, 0, 0), none, some (.iload 4, 0, 0, 0), none, some (.ifCond .ne 48, 92, 0, 0), none, none, some (.aload_n 0, 0, 0, 0), some (.getfield 16, 7, 3, 746), none, none, some (.iload 5, 0, 0, 0), none, some (.iaload, 0, 0, 0), some (.iconst 2, 0, 0, 0), some (.if_icmp .ne 37, 92, 0, 0), none, none, some (.iload 6, 0, 0, 0), none, some (.iload 5, 0, 0, 0), none, some (.invokestatic 138, 151, 2, 894), none, none, some (.ifCond .ne 27, 92, 0, 0), none, none, some (.iload 6, 0, 0, 0), none, some (.iconst 1, 0, 0, 0), some (.iload 5, 0, 0, 0), none, some (.ishl, 0, 0, 0), some (.ior, 0, 0, 0), some (.istore 6, 0, 0, 0), none, some (.aload_n 0, 0, 0, 0), some (.getfield 37, 7, 10, 753), none, none, some (.bipush 8, 0, 0, 0), none, some (.iload 5, 0, 0, 0), none, some (.iadd, 0, 0, 0), some (.iaload, 0, 0, 0), some (.istore 5, 0, 0, 0), none, some (.goto (-47), 42, 0, 0), none, none, some (.iload 4, 0, 0, 0), none, some (.ifCond .ne 18, 112, 0, 0), none, none, some (.aload_n 0, 0, 0, 0), some (.getfield 16, 7, 3, 746), none, none, some (.iload 5, 0, 0, 0), none, some (.iaload, 0, 0, 0), some (.iconst 3, 0, 0, 0), some (.if_icmp .ne 7, 112, 0, 0), none, none, some (.iconst 1, 0, 0, 0), some (.goto 4, 113, 0, 0), none, none, some (.iconst 0, 0, 0, 0), some (.istore 7, 0, 0, 0), none, some (.aload_n 0, 0, 0, 0), some (.getfield 37, 7, 10, 753), none, none, some (.iload 5, 0, 0, 0), none, some (.iaload, 0, 0, 0), some (.iload_n 1, 0, 0, 0), some (.invokestatic 138, 151, 2, 894), none, none, some (.ifCond .eq 21, 147, 0, 0), none, none, some (.iload 7, 0, 0, 0), none, some (.ifCond .ne 16, 147, 0, 0), none, none, some (.iload_n 3, 0, 0, 0), some (.iload 5, 0, 0, 0), none, some (.invokestatic 138, 151, 2, 894), none, none, some (.ifCond .ne 7, 147, 0, 0), none, none, some (.iconst 1, 0, 0, 0), some (.goto 4, 148, 0, 0), none, none, some (.iconst 0, 0, 0, 0), some (.ireturn, 0, 0, 0)]
/-- LeavingVoteModel.has(II)Z -/
def sm_c151 : List (Option sm_I) := [some (.iload_n 0, 0, 0, 0), some (.iload_n 1, 0, 0, 0), some (.ishr, 0, 0, 0), some (.iconst 1, 0, 0, 0), some (.iand, 0, 0, 0), some (.iconst 1, 0, 0, 0), some (.if_icmp .ne 7, 13, 0, 0), none, none, some (.iconst 1, 0, 0, 0), some (.goto 4, 14, 0, 0), none, none, some (.iconst 0, 0, 0, 0), some (.ireturn, 0, 0, 0)]
/-- LeavingVoteModel.leave(I)I -/
def sm_c152 : List (Option sm_I) := [some (.iload_n 1, 0, 0, 0), some (.invokestatic 164, 148, 1, 883), none, none, some (.ifCond .eq 11, 15, 0, 0), none, none, some (.aload_n 0, 0, 0, 0), some (.iload_n 1, 0, 0, 0), some (.invokevirtual 155, 153, 2, 901), none, none, some (.goto 4, 16, 0, 0), none, none, some (.iconst (-1), 0, 0, 0), some (.ireturn, 0, 0, 0)]
/-- LeavingVoteModel.leaving(I)I -/
def sm_c153 : List (Option sm_I) := [some (.aload_n 0, 0, 0, 0), some (.aload_n 0, 0, 0, 0), some (.iload_n 1, 0, 0, 0), some (.iconst 0, 0, 0, 0), some (.invokevirtual 145, 149, 3, 886), none, none, some (.iconst (-1), 0, 0, 0), some (.invokevirtual 149, 154, 3, 905), none, none, some (.aload_n 0, 0, 0, 0), some (.getfield 34, 7, 9, 752), none, none, some (.iconst 0, 0, 0, 0), some (.iaload, 0, 0, 0), some (.invokestatic 152, 155, 2, 909), none, none, some (.ireturn, 0, 0, 0)]
/-- LeavingVoteModel.seated(II)I -/
def sm_c154 : List (Option sm_I) := [some (.iconst 0, 0, 0, 0), some (.istore_n 3, 0, 0, 0), some (.iconst 0, 0, 0, 0), some (.istore 4, 0, 0, 0), none, some (.iload 4, 0, 0, 0), none, some (.iconst 5, 0, 0, 0), some (.if_icmp .ge 75, 83, 0, 0), none, none, some (.iload 4, 0, 0, 0), none, some (.aload_n 0, 0, 0, 0), some (.getfield 28, 7, 7, 750), none, none, some (.iconst 0, 0, 0, 0), some (.iaload, 0, 0, 0), some (.if_icmp .ge 32, 51, 0, 0), none, none, some (.aload_n 0, 0, 0, 0), some (.getfield 37, 7, 10, 753), none, none, some (.bipush 16, 0, 0, 0), none, some (.iload 4, 0, 0, 0), none, some (.iadd, 0, 0, 0), some (.iaload, 0, 0, 0), some (.ifCond .ne 19, 51, 0, 0), none, none, some (.iload_n 2, 0, 0, 0), some (.ifCond .lt 11, 47, 0, 0), none, none, some (.iload 4, 0, 0, 0), none, some (.iconst 2, 0, 0, 0), some (.irem, 0, 0, 0), some (.iload_n 2, 0, 0, 0), some (.if_icmp .ne 7, 51, 0, 0), none, none, some (.iconst 1, 0, 0, 0), some (.goto 4, 52, 0, 0), none, none, some (.iconst 0, 0, 0, 0), some (.istore 5, 0, 0, 0), none, some (.aload_n 0, 0, 0, 0), some (.getfield 58, 7, 21, 764), none, none, some (.iload 4, 0, 0, 0), none, some (.iload 5, 0, 0, 0), none, some (.ifCond .eq 13, 75, 0, 0), none, none, some (.aload_n 0, 0, 0, 0), some (.getfield 31, 7, 8, 751), none, none, some (.iload 4, 0, 0, 0), none, some (.iaload, 0, 0, 0), some (.goto 4, 76, 0, 0), none, none, some (.iconst 0, 0, 0, 0), some (.iastore, 0, 0, 0), some (.iinc 4 1, 0, 0, 0), none, none, some (.goto (-75), 5, 0, 0), none, none, some (.iconst 0, 0, 0, 0), some (.istore 4, 0, 0, 0), none, some (.iload 4, 0, 0, 0), none, some (.bipush 8, 0, 0, 0), none, some (.if_icmp .ge 133, 223, 0, 0), none, none, some (.aload_n 0, 0, 0, 0), some (.getfield 55, 7, 20, 763), none, none, some (.iload 4, 0, 0, 0), none, some (.bipush (-4), 0, 0, 0), none, some (.iastore, 0, 0, 0), some (.iconst 0, 0, 0, 0), some (.istore 5, 0, 0, 0), none, some (.iload 5, 0, 0, 0), none, some (.iconst 5, 0, 0, 0), some (.if_icmp .ge 68, 176, 0, 0), none, none, some (.iload_n 1, 0, 0, 0), some (.iload 4, 0, 0, 0), none, some (.invokestatic 138, 151, 2, 894), none, none, some (.ifCond .eq 59, 176, 0, 0), none, none, some (.aload_n 0, 0, 0, 0), some (.getfield 55, 7, 20, 763), none, none, some (.iload 4, 0, 0, 0), none, some (.iaload, 0, 0, 0), some (.ifCond .ge 49, 176, 0, 0), none, none, some (.aload_n 0, 0, 0, 0), some (.getfield 37, 7, 10, 753), none, none, some (.bipush 22, 0, 0, 0), none, some (.iaload, 0, 0, 0), some (.ifCond .ne 39, 176, 0, 0), none, none, some (.aload_n 0, 0, 0, 0), some (.getfield 58, 7, 21, 764), none, none, some (.iload 5, 0, 0, 0), none, some (.iaload, 0, 0, 0), some (.ifCond .le 23, 170, 0, 0), none, none, some (.aload_n 0, 0, 0, 0), some (.getfield 58, 7, 21, 764), none, none, some (.iload 5, 0, 0, 0), none, some (.dup2, 0, 0, 0), some (.iaload, 0, 0, 0), some (.iconst 1, 0, 0, 0), some (.isub, 0, 0, 0), some (.iastore, 0, 0, 0), some (.aload_n 0, 0, 0, 0), some (.getfield 55, 7, 20, 763), none, none, some (.iload 4, 0, 0, 0), none, some (.iload 5, 0, 0, 0), none, some (.iastore, 0, 0, 0), some (.iinc 5 1, 0, 0, 0), none, none, some (.goto (-68), 105, 0, 0), none, none, some (.iload_n 3, 0, 0, 0), some (.iload_n 1, 0, 0, 0), some (.iload 4, 0, 0, 0), none, some (.invokestatic 138, 151, 2, 894), none, none, some (.ifCond .eq 31, 214, 0, 0), none, none, some (.aload_n 0, 0, 0, 0), some (.getfield 55, 7, 20, 763), none, none, some (.iload 4, 0, 0, 0), none, some (.iaload, 0, 0, 0), some (.ifCond .ge 14, 207, 0, 0), none, none, some (.aload_n 0, 0, 0, 0), some (.getfield 37, 7, 10, 753), none, none, some (.bipush 22, 0, 0, 0), none, some (.iaload, 0, 0, 0), some (.iconst 1, 0, 0, 0), some (.if_icmp .ne 10, 214, 0, 0), none, none, some (.iconst 1, 0, 0, 0), some (.iload 4, 0, 0, 0), none, some (.ishl, 0, 0, 0), some (.goto 4, 215, 0, 0), none, none, some (.iconst 0, 0, 0, 0), some (.ior, 0, 0, 0), some (.istore_n 3, 0, 0, 0), some (.iinc 4 1, 0, 0, 0), none, none, some (.goto (-134), 86, 0, 0), none, none, some (.iload_n 3, 0, 0, 0), some (.ireturn, 0, 0, 0)]
/-- LeavingVoteModel.bedded(II)I -/
def sm_c155 : List (Option sm_I) := [some (.iconst 0, 0, 0, 0), some (.istore_n 2, 0, 0, 0), some (.iconst 0, 0, 0, 0), some (.istore_n 3, 0, 0, 0), some (.iconst 0, 0, 0, 0), some (.istore 4, 0, 0, 0), none, some (.iload 4, 0, 0, 0), none, some (.bipush 8, 0, 0, 0), none, some (.if_icmp .ge 33, 44, 0, 0), none, none, some (.iload_n 0, 0, 0, 0), some (.iload 4, 0, 0, 0), none, some (.invokestatic 138, 151, 2, 894), none, none, some (.ifCond .eq 18, 38, 0, 0), none, none, some (.iload_n 3, 0, 0, 0), some (.iload_n 1, 0, 0, 0), some (.if_icmp .ge 13, 38, 0, 0), none, none, some (.iload_n 2, 0, 0, 0), some (.iconst 1, 0, 0, 0), some (.iload 4, 0, 0, 0), none, some (.ishl, 0, 0, 0), some (.ior, 0, 0, 0), some (.istore_n 2, 0, 0, 0), some (.iinc 3 1, 0, 0, 0), none, none, some (.iinc 4 1, 0, 0, 0), none, none, some (.goto (-34), 7, 0, 0), none, none, some (.iload_n 2, 0, 0, 0), some (.ireturn, 0, 0, 0)]
/-- LeavingVoteModel.by(II)I -/
def sm_c156 : List (Option sm_I) := [some (.iload_n 1, 0, 0, 0), some (.invokestatic 164, 148, 1, 883), none, none, some (.ifCond .eq 11, 15, 0, 0), none, none, some (.aload_n 0, 0, 0, 0), some (.iload_n 2, 0, 0, 0), some (.invokevirtual 130, 144, 2, 866), none, none, some (.ifCond .ne 5, 17, 0, 0), none, none, some (.iconst (-1), 0, 0, 0), some (.ireturn, 0, 0, 0), some (.aload_n 0, 0, 0, 0), some (.iload_n 1, 0, 0, 0), some (.invokevirtual 155, 153, 2, 901), none, none, some (.iload_n 2, 0, 0, 0), some (.invokestatic 138, 151, 2, 894), none, none, some (.ifCond .eq 12, 38, 0, 0), none, none, some (.aload_n 0, 0, 0, 0), some (.getfield 55, 7, 20, 763), none, none, some (.iload_n 2, 0, 0, 0), some (.iaload, 0, 0, 0), some (.goto 5, 40, 0, 0), none, none, some (.bipush (-4), 0, 0, 0), none, some (.ireturn, 0, 0, 0)]
/-- LeavingVoteModel.falls(I)I -/
def sm_c157 : List (Option sm_I) := [some (.iload_n 1, 0, 0, 0), some (.invokestatic 164, 148, 1, 883), none, none, some (.ifCond .ne 7, 11, 0, 0), none, none, some (.iconst (-1), 0, 0, 0), some (.goto 16, 24, 0, 0), none, none, some (.aload_n 0, 0, 0, 0), some (.iload_n 1, 0, 0, 0), some (.invokevirtual 167, 158, 2, 920), none, none, some (.ifCond .eq 7, 23, 0, 0), none, none, some (.iconst 1, 0, 0, 0), some (.goto 4, 24, 0, 0), none, none, some (.iconst 0, 0, 0, 0), some (.ireturn, 0, 0, 0)]
/-- LeavingVoteModel.doesFall(I)Z -/
def sm_c158 : List (Option sm_I) := [some (.aload_n 0, 0, 0, 0), some (.aload_n 0, 0, 0, 0), some (.iload_n 1, 0, 0, 0), some (.invokevirtual 155, 153, 2, 901), none, none, some (.invokestatic 158, 159, 1, 924), none, none, some (.invokevirtual 161, 160, 2, 927), none, none, some (.ireturn, 0, 0, 0)]
/-- LeavingVoteModel.bits(I)I -/
def sm_c159 : List (Option sm_I) := [some (.iconst 0, 0, 0, 0), some (.istore_n 1, 0, 0, 0), some (.iconst 0, 0, 0, 0), some (.istore_n 2, 0, 0, 0), some (.iload_n 2, 0, 0, 0), some (.bipush 8, 0, 0, 0), none, some (.if_icmp .ge 17, 24, 0, 0), none, none, some (.iload_n 1, 0, 0, 0), some (.iload_n 0, 0, 0, 0), some (.iload_n 2, 0, 0, 0), some (.ishr, 0, 0, 0), some (.iconst 1, 0, 0, 0), some (.iand, 0, 0, 0), some (.iadd, 0, 0, 0), some (.istore_n 1, 0, 0, 0), some (.iinc 2 1, 0, 0, 0), none, none, some (.goto (-17), 4, 0, 0), none, none, some (.iload_n 1, 0, 0, 0), some (.ireturn, 0, 0, 0)]
/-- LeavingVoteModel.isFall(I)Z -/
def sm_c160 : List (Option sm_I) := [some (.bipush 10, 0, 0, 0), none, some (.iload_n 1, 0, 0, 0), some (.imul, 0, 0, 0), some (.aload_n 0, 0, 0, 0), some (.getfield 34, 7, 9, 752), none, none, some (.iconst 2, 0, 0, 0), some (.iaload, 0, 0, 0), some (.aload_n 0, 0, 0, 0), some (.getfield 13, 7, 2, 745), none, none, some (.iconst 0, 0, 0, 0), some (.iaload, 0, 0, 0), some (.imul, 0, 0, 0), some (.if_icmp .lt 7, 24, 0, 0), none, none, some (.iconst 1, 0, 0, 0), some (.goto 4, 25, 0, 0), none, none, some (.iconst 0, 0, 0, 0), some (.ireturn, 0, 0, 0)]
/-- LeavingVoteModel.milked(II)I -/
def sm_c161 : List (Option sm_I) := [some (.iload_n 1, 0, 0, 0), some (.invokestatic 164, 148, 1, 883), none, none, some (.ifCond .eq 13, 17, 0, 0), none, none, some (.iload_n 2, 0, 0, 0), some (.i2l, 0, 0, 0), some (.lconst 0, 0, 0, 0), some (.lconst 1, 0, 0, 0), some (.invokestatic 79, 133, 3, 819), none, none, some (.ifCond .ne 5, 19, 0, 0), none, none, some (.iconst (-1), 0, 0, 0), some (.ireturn, 0, 0, 0), some (.aload_n 0, 0, 0, 0), some (.aload_n 0, 0, 0, 0), some (.iload_n 1, 0, 0, 0), some (.invokevirtual 155, 153, 2, 901), none, none, some (.invokevirtual 170, 162, 2, 935), none, none, some (.istore_n 3, 0, 0, 0), some (.iload_n 2, 0, 0, 0), some (.ifCond .ne 7, 37, 0, 0), none, none, some (.iload_n 3, 0, 0, 0), some (.goto 18, 52, 0, 0), none, none, some (.iload_n 3, 0, 0, 0), some (.aload_n 0, 0, 0, 0), some (.getfield 34, 7, 9, 752), none, none, some (.iconst 1, 0, 0, 0), some (.iaload, 0, 0, 0), some (.if_icmp .lt 7, 51, 0, 0), none, none, some (.iconst 1, 0, 0, 0), some (.goto 4, 52, 0, 0), none, none, some (.iconst 0, 0, 0, 0), some (.ireturn, 0, 0, 0)]
/-- LeavingVoteModel.cowsWithout(I)I -/
def sm_c162 : List (Option sm_I) := [some (.iconst 0, 0, 0, 0), some (.istore_n 2, 0, 0, 0), some (.iconst 0, 0, 0, 0), some (.istore_n 3, 0, 0, 0), some (.iload_n 3, 0, 0, 0), some (.aload_n 0, 0, 0, 0), some (.getfield 13, 7, 2, 745), none, none, some (.iconst 0, 0, 0, 0), some (.iaload, 0, 0, 0), some (.if_icmp .ge 30, 41, 0, 0), none, none, some (.iload_n 2, 0, 0, 0), some (.iload_n 1, 0, 0, 0), some (.iload_n 3, 0, 0, 0), some (.invokestatic 138, 151, 2, 894), none, none, some (.ifCond .eq 7, 27, 0, 0), none, none, some (.iconst 0, 0, 0, 0), some (.goto 9, 33, 0, 0), none, none, some (.aload_n 0, 0, 0, 0), some (.getfield 25, 7, 6, 749), none, none, some (.iload_n 3, 0, 0, 0), some (.iaload, 0, 0, 0), some (.iadd, 0, 0, 0), some (.istore_n 2, 0, 0, 0), some (.iinc 3 1, 0, 0, 0), none, none, some (.goto (-34), 4, 0, 0), none, none, some (.iload_n 2, 0, 0, 0), some (.ireturn, 0, 0, 0)]
/-- LeavingVoteModel.lean(II)I -/
def sm_c163 : List (Option sm_I) := [some (.aload_n 0, 0, 0, 0), some (.iload_n 1, 0, 0, 0), some (.invokevirtual 130, 144, 2, 866), none, none, some (.ifCond .eq 24, 29, 0, 0), none, none, some (.iload_n 2, 0, 0, 0), some (.i2l, 0, 0, 0), some (.lconst 0, 0, 0, 0), some (.ldc2_w 133, 3, 0, 870), none, none, some (.invokestatic 79, 133, 3, 819), none, none, some (.ifCond .eq 12, 29, 0, 0), none, none, some (.aload_n 0, 0, 0, 0), some (.iload_n 1, 0, 0, 0), some (.iload_n 2, 0, 0, 0), some (.invokevirtual 176, 164, 3, 943), none, none, some (.goto 4, 30, 0, 0), none, none, some (.iconst (-1), 0, 0, 0), some (.ireturn, 0, 0, 0)]
/-- LeavingVoteModel.change(II)I -/
def sm_c164 : List (Option sm_I) := [some (.aload_n 0, 0, 0, 0), some (.invokevirtual 173, 165, 1, 947), none, none, some (.aload_n 0, 0, 0, 0), some (.getfield 37, 7, 10, 753), none, none, some (.iload_n 1, 0, 0, 0), some (.iaload, 0, 0, 0), some (.istore_n 3, 0, 0, 0), some (.aload_n 0, 0, 0, 0), some (.getfield 37, 7, 10, 753), none, none, some (.iload_n 1, 0, 0, 0), some (.iload_n 2, 0, 0, 0), some (.iastore, 0, 0, 0), some (.iload_n 3, 0, 0, 0), some (.ireturn, 0, 0, 0)]
/-- LeavingVoteModel.note()V -/
def sm_c165 : List (Option sm_I) := [some (.aload_n 0, 0, 0, 0), some (.getfield 121, 7, 12, 755), none, none, some (.bipush 8, 0, 0, 0), none, some (.if_icmp .ne 43, 49, 0, 0), none, none, some (.iconst 0, 0, 0, 0), some (.istore_n 1, 0, 0, 0), some (.iload_n 1, 0, 0, 0), some (.sipush 168, 0, 0, 0), none, none, some (.if_icmp .ge 24, 39, 0, 0), none, none, some (.aload_n 0, 0, 0, 0), some (.getfield 40, 7, 11, 754), none, none, some (.iload_n 1, 0, 0, 0), some (.aload_n 0, 0, 0, 0), some (.getfield 40, 7, 11, 754), none, none, some (.bipush 24, 0, 0, 0), none, some (.iload_n 1, 0, 0, 0), some (.iadd, 0, 0, 0), some (.iaload, 0, 0, 0), some (.iastore, 0, 0, 0), some (.iinc 1 1, 0, 0, 0), none, none, some (.goto (-25), 11, 0, 0), none, none, some (.aload_n 0, 0, 0, 0), some (.dup, 0, 0, 0), some (.getfield 121, 7, 12, 755), none, none, some (.iconst 1, 0, 0, 0), some (.isub, 0, 0, 0), some (.putfield 121, 7, 12, 755), none, none, some (.iconst 0, 0, 0, 0), some (.istore_n 1, 0, 0, 0), some (.iload_n 1, 0, 0, 0), some (.bipush 24, 0, 0, 0), none, some (.if_icmp .ge 29, 83, 0, 0), none, none, some (.aload_n 0, 0, 0, 0), some (.getfield 40, 7, 11, 754), none, none, some (.bipush 24, 0, 0, 0), none, some (.aload_n 0, 0, 0, 0), some (.getfield 121, 7, 12, 755), none, none, some (.imul, 0, 0, 0), some (.iload_n 1, 0, 0, 0), some (.iadd, 0, 0, 0), some (.aload_n 0, 0, 0, 0), some (.getfield 37, 7, 10, 753), none, none, some (.iload_n 1, 0, 0, 0), some (.iaload, 0, 0, 0), some (.iastore, 0, 0, 0), some (.iinc 1 1, 0, 0, 0), none, none, some (.goto (-29), 51, 0, 0), none, none, some (.aload_n 0, 0, 0, 0), some (.dup, 0, 0, 0), some (.getfield 121, 7, 12, 755), none, none, some (.iconst 1, 0, 0, 0), some (.iadd, 0, 0, 0), some (.putfield 121, 7, 12, 755), none, none, some (.return_, 0, 0, 0)]
/-- LeavingVoteModel.mind(II)I -/
def sm_c166 : List (Option sm_I) := [some (.aload_n 0, 0, 0, 0), some (.iload_n 1, 0, 0, 0), some (.invokevirtual 130, 144, 2, 866), none, none, some (.ifCond .eq 23, 28, 0, 0), none, none, some (.aload_n 0, 0, 0, 0), some (.iload_n 2, 0, 0, 0), some (.invokevirtual 130, 144, 2, 866), none, none, some (.ifCond .eq 15, 28, 0, 0), none, none, some (.aload_n 0, 0, 0, 0), some (.bipush 8, 0, 0, 0), none, some (.iload_n 1, 0, 0, 0), some (.iadd, 0, 0, 0), some (.iload_n 2, 0, 0, 0), some (.invokevirtual 176, 164, 3, 943), none, none, some (.goto 4, 29, 0, 0), none, none, some (.iconst (-1), 0, 0, 0), some (.ireturn, 0, 0, 0)]
/-- LeavingVoteModel.hold(I)I -/
def sm_c167 : List (Option sm_I) := [some (.aload_n 0, 0, 0, 0), some (.iload_n 1, 0, 0, 0), some (.invokevirtual 135, 146, 2, 875), none, none, some (.ifCond .eq 27, 32, 0, 0), none, none, some (.iconst 1, 0, 0, 0), some (.aload_n 0, 0, 0, 0), some (.bipush 16, 0, 0, 0), none, some (.iload_n 1, 0, 0, 0), some (.iadd, 0, 0, 0), some (.iconst 1, 0, 0, 0), some (.aload_n 0, 0, 0, 0), some (.getfield 37, 7, 10, 753), none, none, some (.bipush 16, 0, 0, 0), none, some (.iload_n 1, 0, 0, 0), some (.iadd, 0, 0, 0), some (.iaload, 0, 0, 0), some (.isub, 0, 0, 0), some (.invokevirtual 176, 164, 3, 943), none, none, some (.isub, 0, 0, 0), some (.goto 4, 33, 0, 0), none, none, some (.iconst (-1), 0, 0, 0), some (.ireturn, 0, 0, 0)]
/-- LeavingVoteModel.weather(I)I -/
def sm_c168 : List (Option sm_I) := [some (.iload_n 1, 0, 0, 0), some (.i2l, 0, 0, 0), some (.lconst 0, 0, 0, 0), some (.lconst 1, 0, 0, 0), some (.invokestatic 79, 133, 3, 819), none, none, some (.ifCond .eq 27, 34, 0, 0), none, none, some (.iconst 1, 0, 0, 0), some (.aload_n 0, 0, 0, 0), some (.bipush 21, 0, 0, 0), none, some (.iload_n 1, 0, 0, 0), some (.iadd, 0, 0, 0), some (.iconst 1, 0, 0, 0), some (.aload_n 0, 0, 0, 0), some (.getfield 37, 7, 10, 753), none, none, some (.bipush 21, 0, 0, 0), none, some (.iload_n 1, 0, 0, 0), some (.iadd, 0, 0, 0), some (.iaload, 0, 0, 0), some (.isub, 0, 0, 0), some (.invokevirtual 176, 164, 3, 943), none, none, some (.isub, 0, 0, 0), some (.goto 4, 35, 0, 0), none, none, some (.iconst (-1), 0, 0, 0), some (.ireturn, 0, 0, 0)]
/-- LeavingVoteModel.undo()I -/
def sm_c169 : List (Option sm_I) := [some (.aload_n 0, 0, 0, 0), some (.getfield 121, 7, 12, 755), none, none, some (.ifCond .ne 6, 10, 0, 0), none, none, some (.bipush (-2), 0, 0, 0), none, some (.ireturn, 0, 0, 0), some (.aload_n 0, 0, 0, 0), some (.dup, 0, 0, 0), some (.getfield 121, 7, 12, 755), none, none, some (.iconst 1, 0, 0, 0), some (.isub, 0, 0, 0), some (.putfield 121, 7, 12, 755), none, none, some (.iconst 0, 0, 0, 0), some (.istore_n 1, 0, 0, 0), some (.iload_n 1, 0, 0, 0), some (.bipush 24, 0, 0, 0), none, some (.if_icmp .ge 29, 54, 0, 0), none, none, some (.aload_n 0, 0, 0, 0), some (.getfield 37, 7, 10, 753), none, none, some (.iload_n 1, 0, 0, 0), some (.aload_n 0, 0, 0, 0), some (.getfield 40, 7, 11, 754), none, none, some (.bipush 24, 0, 0, 0), none, some (.aload_n 0, 0, 0, 0), some (.getfield 121, 7, 12, 755), none, none, some (.imul, 0, 0, 0), some (.iload_n 1, 0, 0, 0), some (.iadd, 0, 0, 0), some (.iaload, 0, 0, 0), some (.iastore, 0, 0, 0), some (.iinc 1 1, 0, 0, 0), none, none, some (.goto (-29), 22, 0, 0), none, none, some (.aload_n 0, 0, 0, 0), some (.getfield 121, 7, 12, 755), none, none, some (.ireturn, 0, 0, 0)]
/-- LeavingVoteModel.decides(I)I -/
def sm_c170 : List (Option sm_I) := [some (.iload_n 1, 0, 0, 0), some (.invokestatic 164, 148, 1, 883), none, none, some (.ifCond .ne 5, 9, 0, 0), none, none, some (.iconst (-1), 0, 0, 0), some (.ireturn, 0, 0, 0), some (.iconst 0, 0, 0, 0), some (.istore_n 2, 0, 0, 0), some (.iconst 0, 0, 0, 0), some (.istore_n 3, 0, 0, 0), some (.iload_n 3, 0, 0, 0), some (.aload_n 0, 0, 0, 0), some (.getfield 13, 7, 2, 745), none, none, some (.iconst 0, 0, 0, 0), some (.iaload, 0, 0, 0), some (.if_icmp .ge 35, 55, 0, 0), none, none, some (.iload_n 2, 0, 0, 0), some (.aload_n 0, 0, 0, 0), some (.iload_n 1, 0, 0, 0), some (.iconst 1, 0, 0, 0), some (.iload_n 3, 0, 0, 0), some (.ishl, 0, 0, 0), some (.invokevirtual 179, 171, 3, 971), none, none, some (.aload_n 0, 0, 0, 0), some (.iload_n 1, 0, 0, 0), some (.invokevirtual 167, 158, 2, 920), none, none, some (.if_icmp .eq 9, 46, 0, 0), none, none, some (.iconst 1, 0, 0, 0), some (.iload_n 3, 0, 0, 0), some (.ishl, 0, 0, 0), some (.goto 4, 47, 0, 0), none, none, some (.iconst 0, 0, 0, 0), some (.ior, 0, 0, 0), some (.istore_n 2, 0, 0, 0), some (.iinc 3 1, 0, 0, 0), none, none, some (.goto (-39), 13, 0, 0), none, none, some (.iload_n 2, 0, 0, 0), some (.ireturn, 0, 0, 0)]
/-- LeavingVoteModel.fallsBut(II)Z -/
def sm_c171 : List (Option sm_I) := [some (.iconst 0, 0, 0, 0), some (.istore_n 3, 0, 0, 0), some (.iload_n 3, 0, 0, 0), some (.aload_n 0, 0, 0, 0), some (.getfield 13, 7, 2, 745), none, none, some (.iconst 0, 0, 0, 0), some (.iaload, 0, 0, 0), some (.if_icmp .ge 33, 42, 0, 0), none, none, some (.aload_n 0, 0, 0, 0), some (.getfield 37, 7, 10, 753), none, none, some (.iload_n 3, 0, 0, 0), some (.dup2, 0, 0, 0), some (.iaload, 0, 0, 0), some (.iload_n 2, 0, 0, 0), some (.iload_n 3, 0, 0, 0), some (.invokestatic 138, 151, 2, 894), none, none, some (.ifCond .eq 9, 33, 0, 0), none, none, some (.iconst 1, 0, 0, 0), some (.iload_n 1, 0, 0, 0), some (.ishl, 0, 0, 0), some (.goto 4, 34, 0, 0), none, none, some (.iconst 0, 0, 0, 0), some (.ixor, 0, 0, 0), some (.iastore, 0, 0, 0), some (.iinc 3 1, 0, 0, 0), none, none, some (.goto (-37), 2, 0, 0), none, none, some (.aload_n 0, 0, 0, 0), some (.iload_n 1, 0, 0, 0), some (.invokevirtual 167, 158, 2, 920), none, none, some (.istore_n 3, 0, 0, 0), some (.iconst 0, 0, 0, 0), some (.istore 4, 0, 0, 0), none, some (.iload 4, 0, 0, 0), none, some (.aload_n 0, 0, 0, 0), some (.getfield 13, 7, 2, 745), none, none, some (.iconst 0, 0, 0, 0), some (.iaload, 0, 0, 0), some (.if_icmp .ge 35, 94, 0, 0), none, none, some (.aload_n 0, 0, 0, 0), some (.getfield 37, 7, 10, 753), none, none, some (.iload 4, 0, 0, 0), none, some (.dup2, 0, 0, 0), some (.iaload, 0, 0, 0), some (.iload_n 2, 0, 0, 0), some (.iload 4, 0, 0, 0), none, some (.invokestatic 138, 151, 2, 894), none, none, some (.ifCond .eq 9, 85, 0, 0), none, none, some (.iconst 1, 0, 0, 0), some (.iload_n 1, 0, 0, 0), some (.ishl, 0, 0, 0), some (.goto 4, 86, 0, 0), none, none, some (.iconst 0, 0, 0, 0), some (.ixor, 0, 0, 0), some (.iastore, 0, 0, 0), some (.iinc 4 1, 0, 0, 0), none, none, some (.goto (-40), 51, 0, 0), none, none, some (.iload_n 3, 0, 0, 0), some (.ireturn, 0, 0, 0)]
/-- LeavingVoteModel.win(I)I -/
def sm_c172 : List (Option sm_I) := [some (.iload_n 1, 0, 0, 0), some (.invokestatic 164, 148, 1, 883), none, none, some (.ifCond .ne 5, 9, 0, 0), none, none, some (.iconst (-1), 0, 0, 0), some (.ireturn, 0, 0, 0), some (.aload_n 0, 0, 0, 0), some (.iload_n 1, 0, 0, 0), some (.invokevirtual 167, 158, 2, 920), none, none, some (.istore_n 2, 0, 0, 0), some (.bipush (-4), 0, 0, 0), none, some (.istore_n 3, 0, 0, 0), some (.iconst 1, 0, 0, 0), some (.istore 4, 0, 0, 0), none, some (.iload 4, 0, 0, 0), none, some (.iconst 1, 0, 0, 0), some (.aload_n 0, 0, 0, 0), some (.getfield 13, 7, 2, 745), none, none, some (.iconst 0, 0, 0, 0), some (.iaload, 0, 0, 0), some (.ishl, 0, 0, 0), some (.if_icmp .ge 55, 86, 0, 0), none, none, some (.iload_n 3, 0, 0, 0), some (.ifCond .lt 15, 50, 0, 0), none, none, some (.iload 4, 0, 0, 0), none, some (.invokestatic 158, 159, 1, 924), none, none, some (.iload_n 3, 0, 0, 0), some (.invokestatic 158, 159, 1, 924), none, none, some (.if_icmp .ge 7, 54, 0, 0), none, none, some (.iconst 1, 0, 0, 0), some (.goto 4, 55, 0, 0), none, none, some (.iconst 0, 0, 0, 0), some (.istore 5, 0, 0, 0), none, some (.iload 5, 0, 0, 0), none, some (.ifCond .eq 19, 78, 0, 0), none, none, some (.aload_n 0, 0, 0, 0), some (.iload_n 1, 0, 0, 0), some (.iload 4, 0, 0, 0), none, some (.invokevirtual 179, 171, 3, 971), none, none, some (.iload_n 2, 0, 0, 0), some (.if_icmp .eq 8, 78, 0, 0), none, none, some (.iload 4, 0, 0, 0), none, some (.goto 4, 79, 0, 0), none, none, some (.iload_n 3, 0, 0, 0), some (.istore_n 3, 0, 0, 0), some (.iinc 4 1, 0, 0, 0), none, none, some (.goto (-62), 21, 0, 0), none, none, some (.iload_n 3, 0, 0, 0), some (.ireturn, 0, 0, 0)]
/-- LeavingVoteModel.fill()I -/
def sm_c173 : List (Option sm_I) := [some (.aload_n 0, 0, 0, 0), some (.getfield 37, 7, 10, 753), none, none, some (.bipush 22, 0, 0, 0), none, some (.iaload, 0, 0, 0), some (.iconst 1, 0, 0, 0), some (.if_icmp .ne 7, 15, 0, 0), none, none, some (.iconst 1, 0, 0, 0), some (.goto 4, 16, 0, 0), none, none, some (.iconst 0, 0, 0, 0), some (.istore_n 1, 0, 0, 0), some (.iconst 0, 0, 0, 0), some (.istore_n 2, 0, 0, 0), some (.iconst 0, 0, 0, 0), some (.istore_n 3, 0, 0, 0), some (.iconst 0, 0, 0, 0), some (.istore 4, 0, 0, 0), none, some (.iload 4, 0, 0, 0), none, some (.aload_n 0, 0, 0, 0), some (.getfield 28, 7, 7, 750), none, none, some (.iconst 0, 0, 0, 0), some (.iaload, 0, 0, 0), some (.if_icmp .ge 36, 68, 0, 0), none, none, some (.iload_n 2, 0, 0, 0), some (.aload_n 0, 0, 0, 0), some (.getfield 37, 7, 10, 753), none, none, some (.bipush 16, 0, 0, 0), none, some (.iload 4, 0, 0, 0), none, some (.iadd, 0, 0, 0), some (.iaload, 0, 0, 0), some (.ifCond .ne 13, 59, 0, 0), none, none, some (.aload_n 0, 0, 0, 0), some (.getfield 31, 7, 8, 751), none, none, some (.iload 4, 0, 0, 0), none, some (.iaload, 0, 0, 0), some (.goto 4, 60, 0, 0), none, none, some (.iconst 0, 0, 0, 0), some (.iadd, 0, 0, 0), some (.istore_n 2, 0, 0, 0), some (.iinc 4 1, 0, 0, 0), none, none, some (.goto (-41), 24, 0, 0), none, none, some (.iconst 0, 0, 0, 0), some (.istore 4, 0, 0, 0), none, some (.iload 4, 0, 0, 0), none, some (.aload_n 0, 0, 0, 0), some (.getfield 13, 7, 2, 745), none, none, some (.iconst 0, 0, 0, 0), some (.iaload, 0, 0, 0), some (.if_icmp .ge 35, 114, 0, 0), none, none, some (.iload_n 3, 0, 0, 0), some (.aload_n 0, 0, 0, 0), some (.getfield 16, 7, 3, 746), none, none, some (.iload 4, 0, 0, 0), none, some (.iaload, 0, 0, 0), some (.iconst 3, 0, 0, 0), some (.if_icmp .ne 14, 105, 0, 0), none, none, some (.iload_n 1, 0, 0, 0), some (.ifCond .ne 10, 105, 0, 0), none, none, some (.iconst 1, 0, 0, 0), some (.iload 4, 0, 0, 0), none, some (.ishl, 0, 0, 0), some (.goto 4, 106, 0, 0), none, none, some (.iconst 0, 0, 0, 0), some (.ior, 0, 0, 0), some (.istore_n 3, 0, 0, 0), some (.iinc 4 1, 0, 0, 0), none, none, some (.goto (-40), 71, 0, 0), none, none, some (.bipush (-4), 0, 0, 0), none, some (.istore 4, 0, 0, 0), none, some (.iconst 0, 0, 0, 0), some (.istore 5, 0, 0, 0), none, some (.iload 5, 0, 0, 0), none, some (.iconst 1, 0, 0, 0), some (.aload_n 0, 0, 0, 0), some (.getfield 13, 7, 2, 745), none, none, some (.iconst 0, 0, 0, 0), some (.iaload, 0, 0, 0), some (.ishl, 0, 0, 0), some (.if_icmp .ge 104, 235, 0, 0), none, none, some (.iload 5, 0, 0, 0), none, some (.invokestatic 158, 159, 1, 924), none, none, some (.istore 6, 0, 0, 0), none, some (.iload 5, 0, 0, 0), none, some (.iload_n 3, 0, 0, 0), some (.iand, 0, 0, 0), some (.ifCond .ne 52, 197, 0, 0), none, none, some (.iload 6, 0, 0, 0), none, some (.aload_n 0, 0, 0, 0), some (.getfield 34, 7, 9, 752), none, none, some (.iconst 0, 0, 0, 0), some (.iaload, 0, 0, 0), some (.if_icmp .gt 41, 197, 0, 0), none, none, some (.iload_n 1, 0, 0, 0), some (.ifCond .ne 9, 169, 0, 0), none, none, some (.iload 6, 0, 0, 0), none, some (.iload_n 2, 0, 0, 0), some (.if_icmp .gt 31, 197, 0, 0), none, none, some (.aload_n 0, 0, 0, 0), some (.iload 6, 0, 0, 0), none, some (.invokevirtual 161, 160, 2, 927), none, none, some (.ifCond .eq 22, 197, 0, 0), none, none, some (.aload_n 0, 0, 0, 0), some (.iload 5, 0, 0, 0), none, some (.invokevirtual 170, 162, 2, 935), none, none, some (.aload_n 0, 0, 0, 0), some (.getfield 34, 7, 9, 752), none, none, some (.iconst 1, 0, 0, 0), some (.iaload, 0, 0, 0), some (.if_icmp .lt 7, 197, 0, 0), none, none, some (.iconst 1, 0, 0, 0), some (.goto 4, 198, 0, 0), none, none, some (.iconst 0, 0, 0, 0), some (.istore 7, 0, 0, 0), none, some (.iload 7, 0, 0, 0), none, some (.ifCond .eq 23, 225, 0, 0), none, none, some (.iload 4, 0, 0, 0), none, some (.ifCond .lt 13, 220, 0, 0), none, none, some (.iload 6, 0, 0, 0), none, some (.iload 4, 0, 0, 0), none, some (.invokestatic 158, 159, 1, 924), none, none, some (.if_icmp .ge 8, 225, 0, 0), none, none, some (.iload 5, 0, 0, 0), none, some (.goto 5, 227, 0, 0), none, none, some (.iload 4, 0, 0, 0), none, some (.istore 4, 0, 0, 0), none, some (.iinc 5 1, 0, 0, 0), none, none, some (.goto (-111), 121, 0, 0), none, none, some (.iload 4, 0, 0, 0), none, some (.ireturn, 0, 0, 0)]
/-- LeavingVoteModel.beds(I)I -/
def sm_c174 : List (Option sm_I) := [some (.iload_n 1, 0, 0, 0), some (.invokestatic 164, 148, 1, 883), none, none, some (.ifCond .ne 5, 9, 0, 0), none, none, some (.iconst (-1), 0, 0, 0), some (.ireturn, 0, 0, 0), some (.aload_n 0, 0, 0, 0), some (.getfield 34, 7, 9, 752), none, none, some (.iconst 0, 0, 0, 0), some (.iaload, 0, 0, 0), some (.istore_n 2, 0, 0, 0), some (.bipush (-4), 0, 0, 0), none, some (.istore_n 3, 0, 0, 0), some (.iconst 0, 0, 0, 0), some (.istore 4, 0, 0, 0), none, some (.iload 4, 0, 0, 0), none, some (.bipush 10, 0, 0, 0), none, some (.if_icmp .ge 37, 63, 0, 0), none, none, some (.iload_n 3, 0, 0, 0), some (.ifCond .ge 33, 63, 0, 0), none, none, some (.aload_n 0, 0, 0, 0), some (.getfield 34, 7, 9, 752), none, none, some (.iconst 0, 0, 0, 0), some (.iload 4, 0, 0, 0), none, some (.iastore, 0, 0, 0), some (.aload_n 0, 0, 0, 0), some (.iload_n 1, 0, 0, 0), some (.invokevirtual 167, 158, 2, 920), none, none, some (.ifCond .eq 8, 54, 0, 0), none, none, some (.iload 4, 0, 0, 0), none, some (.goto 5, 56, 0, 0), none, none, some (.bipush (-4), 0, 0, 0), none, some (.istore_n 3, 0, 0, 0), some (.iinc 4 1, 0, 0, 0), none, none, some (.goto (-38), 22, 0, 0), none, none, some (.aload_n 0, 0, 0, 0), some (.getfield 34, 7, 9, 752), none, none, some (.iconst 0, 0, 0, 0), some (.iload_n 2, 0, 0, 0), some (.iastore, 0, 0, 0), some (.iload_n 3, 0, 0, 0), some (.ireturn, 0, 0, 0)]
/-- LeavingVoteModel.help(II)I -/
def sm_c175 : List (Option sm_I) := [some (.iload_n 1, 0, 0, 0), some (.invokestatic 164, 148, 1, 883), none, none, some (.ifCond .eq 13, 17, 0, 0), none, none, some (.iload_n 2, 0, 0, 0), some (.i2l, 0, 0, 0), some (.lconst 0, 0, 0, 0), some (.lconst 1, 0, 0, 0), some (.invokestatic 79, 133, 3, 819), none, none, some (.ifCond .ne 5, 19, 0, 0), none, none, some (.iconst (-1), 0, 0, 0), some (.ireturn, 0, 0, 0), some (.bipush (-4), 0, 0, 0), none, some (.istore_n 3, 0, 0, 0), some (.bipush (-4), 0, 0, 0), none, some (.istore 4, 0, 0, 0), none, some (.iconst 0, 0, 0, 0), some (.istore 5, 0, 0, 0), none, some (.iload 5, 0, 0, 0), none, some (.aload_n 0, 0, 0, 0), some (.getfield 28, 7, 7, 750), none, none, some (.iconst 0, 0, 0, 0), some (.iaload, 0, 0, 0), some (.if_icmp .ge 85, 122, 0, 0), none, none, some (.aload_n 0, 0, 0, 0), some (.getfield 37, 7, 10, 753), none, none, some (.bipush 16, 0, 0, 0), none, some (.iload 5, 0, 0, 0), none, some (.iadd, 0, 0, 0), some (.iaload, 0, 0, 0), some (.iconst 1, 0, 0, 0), some (.if_icmp .ne 65, 116, 0, 0), none, none, some (.aload_n 0, 0, 0, 0), some (.getfield 37, 7, 10, 753), none, none, some (.bipush 16, 0, 0, 0), none, some (.iload 5, 0, 0, 0), none, some (.iadd, 0, 0, 0), some (.iconst 0, 0, 0, 0), some (.iastore, 0, 0, 0), some (.aload_n 0, 0, 0, 0), some (.iload_n 1, 0, 0, 0), some (.invokevirtual 155, 153, 2, 901), none, none, some (.invokestatic 158, 159, 1, 924), none, none, some (.istore 6, 0, 0, 0), none, some (.aload_n 0, 0, 0, 0), some (.getfield 37, 7, 10, 753), none, none, some (.bipush 16, 0, 0, 0), none, some (.iload 5, 0, 0, 0), none, some (.iadd, 0, 0, 0), some (.iconst 1, 0, 0, 0), some (.iastore, 0, 0, 0), some (.iload 6, 0, 0, 0), none, some (.iload 4, 0, 0, 0), none, some (.if_icmp .le 8, 98, 0, 0), none, none, some (.iload 5, 0, 0, 0), none, some (.goto 4, 99, 0, 0), none, none, some (.iload_n 3, 0, 0, 0), some (.istore_n 3, 0, 0, 0), some (.iload 6, 0, 0, 0), none, some (.iload 4, 0, 0, 0), none, some (.if_icmp .le 8, 112, 0, 0), none, none, some (.iload 6, 0, 0, 0), none, some (.goto 5, 114, 0, 0), none, none, some (.iload 4, 0, 0, 0), none, some (.istore 4, 0, 0, 0), none, some (.iinc 5 1, 0, 0, 0), none, none, some (.goto (-90), 29, 0, 0), none, none, some (.iload_n 2, 0, 0, 0), some (.ifCond .ne 7, 130, 0, 0), none, none, some (.iload_n 3, 0, 0, 0), some (.goto 5, 132, 0, 0), none, none, some (.iload 4, 0, 0, 0), none, some (.ireturn, 0, 0, 0)]
/-- LeavingVoteModel.both(I)I -/
def sm_c176 : List (Option sm_I) := [some (.iload_n 1, 0, 0, 0), some (.invokestatic 164, 148, 1, 883), none, none, some (.ifCond .ne 5, 9, 0, 0), none, none, some (.iconst (-1), 0, 0, 0), some (.ireturn, 0, 0, 0), some (.aload_n 0, 0, 0, 0), some (.iconst 0, 0, 0, 0), some (.iconst 0, 0, 0, 0), some (.invokevirtual 145, 149, 3, 886), none, none, some (.istore_n 2, 0, 0, 0), some (.aload_n 0, 0, 0, 0), some (.iconst 1, 0, 0, 0), some (.iconst 0, 0, 0, 0), some (.invokevirtual 145, 149, 3, 886), none, none, some (.iload_n 2, 0, 0, 0), some (.iconst (-1), 0, 0, 0), some (.ixor, 0, 0, 0), some (.iand, 0, 0, 0), some (.istore_n 3, 0, 0, 0), some (.aload_n 0, 0, 0, 0), some (.iload_n 2, 0, 0, 0), some (.iconst 0, 0, 0, 0), some (.invokevirtual 149, 154, 3, 905), none, none, some (.aload_n 0, 0, 0, 0), some (.getfield 34, 7, 9, 752), none, none, some (.iconst 0, 0, 0, 0), some (.iaload, 0, 0, 0), some (.invokestatic 152, 155, 2, 909), none, none, some (.invokestatic 158, 159, 1, 924), none, none, some (.istore 4, 0, 0, 0), none, some (.aload_n 0, 0, 0, 0), some (.iload_n 3, 0, 0, 0), some (.iconst 1, 0, 0, 0), some (.invokevirtual 149, 154, 3, 905), none, none, some (.aload_n 0, 0, 0, 0), some (.getfield 34, 7, 9, 752), none, none, some (.iconst 0, 0, 0, 0), some (.iaload, 0, 0, 0), some (.iload 4, 0, 0, 0), none, some (.isub, 0, 0, 0), some (.invokestatic 152, 155, 2, 909), none, none, some (.invokestatic 158, 159, 1, 924), none, none, some (.istore 5, 0, 0, 0), none, some (.iload_n 1, 0, 0, 0), some (.ifCond .ne 8, 79, 0, 0), none, none, some (.iload 4, 0, 0, 0), none, some (.goto 5, 81, 0, 0), none, none, some (.iload 5, 0, 0, 0), none, some (.ireturn, 0, 0, 0)]
/-- LeavingVoteModel.seen(II)I -/
def sm_c177 : List (Option sm_I) := [some (.iload_n 1, 0, 0, 0), some (.invokestatic 164, 148, 1, 883), none, none, some (.ifCond .eq 15, 19, 0, 0), none, none, some (.iload_n 2, 0, 0, 0), some (.i2l, 0, 0, 0), some (.lconst 0, 0, 0, 0), some (.ldc2_w 108, 8, 0, 853), none, none, some (.invokestatic 79, 133, 3, 819), none, none, some (.ifCond .ne 5, 21, 0, 0), none, none, some (.iconst (-1), 0, 0, 0), some (.ireturn, 0, 0, 0), some (.aload_n 0, 0, 0, 0), some (.getfield 127, 7, 15, 758), none, none, some (.bipush 8, 0, 0, 0), none, some (.if_icmp .ne 6, 33, 0, 0), none, none, some (.bipush (-3), 0, 0, 0), none, some (.ireturn, 0, 0, 0), some (.aload_n 0, 0, 0, 0), some (.getfield 46, 7, 16, 759), none, none, some (.aload_n 0, 0, 0, 0), some (.getfield 127, 7, 15, 758), none, none, some (.iload_n 1, 0, 0, 0), some (.iastore, 0, 0, 0), some (.aload_n 0, 0, 0, 0), some (.getfield 49, 7, 17, 760), none, none, some (.aload_n 0, 0, 0, 0), some (.getfield 127, 7, 15, 758), none, none, some (.iload_n 2, 0, 0, 0), some (.iastore, 0, 0, 0), some (.aload_n 0, 0, 0, 0), some (.dup, 0, 0, 0), some (.getfield 127, 7, 15, 758), none, none, some (.iconst 1, 0, 0, 0), some (.iadd, 0, 0, 0), some (.putfield 127, 7, 15, 758), none, none, some (.aload_n 0, 0, 0, 0), some (.getfield 127, 7, 15, 758), none, none, some (.ireturn, 0, 0, 0)]
/-- LeavingVoteModel.forget()I -/
def sm_c178 : List (Option sm_I) := [some (.aload_n 0, 0, 0, 0), some (.getfield 127, 7, 15, 758), none, none, some (.istore_n 1, 0, 0, 0), some (.aload_n 0, 0, 0, 0), some (.iconst 0, 0, 0, 0), some (.putfield 127, 7, 15, 758), none, none, some (.iload_n 1, 0, 0, 0), some (.ireturn, 0, 0, 0)]
/-- LeavingVoteModel.oars(I)I -/
def sm_c179 : List (Option sm_I) := [some (.iload_n 1, 0, 0, 0), some (.i2l, 0, 0, 0), some (.lconst 0, 0, 0, 0), some (.lconst 1, 0, 0, 0), some (.invokestatic 79, 133, 3, 819), none, none, some (.ifCond .ne 5, 12, 0, 0), none, none, some (.iconst (-1), 0, 0, 0), some (.ireturn, 0, 0, 0), some (.iconst 0, 0, 0, 0), some (.istore_n 2, 0, 0, 0), some (.iload_n 2, 0, 0, 0), some (.iconst 5, 0, 0, 0), some (.if_icmp .ge 24, 40, 0, 0), none, none, some (.aload_n 0, 0, 0, 0), some (.getfield 61, 7, 22, 765), none, none, some (.iload_n 2, 0, 0, 0), some (.aload_n 0, 0, 0, 0), some (.getfield 37, 7, 10, 753), none, none, some (.bipush 16, 0, 0, 0), none, some (.iload_n 2, 0, 0, 0), some (.iadd, 0, 0, 0), some (.iaload, 0, 0, 0), some (.iastore, 0, 0, 0), some (.iinc 2 1, 0, 0, 0), none, none, some (.goto (-23), 14, 0, 0), none, none, some (.iconst 0, 0, 0, 0), some (.istore_n 2, 0, 0, 0), some (.bipush (-4), 0, 0, 0), none, some (.istore_n 3, 0, 0, 0), some (.iconst 0, 0, 0, 0), some (.istore 4, 0, 0, 0), none, some (.iload 4, 0, 0, 0), none, some (.iconst 1, 0, 0, 0), some (.aload_n 0, 0, 0, 0), some (.getfield 28, 7, 7, 750), none, none, some (.iconst 0, 0, 0, 0), some (.iaload, 0, 0, 0), some (.ishl, 0, 0, 0), some (.if_icmp .ge 132, 190, 0, 0), none, none, some (.iconst 0, 0, 0, 0), some (.istore 5, 0, 0, 0), none, some (.iload 5, 0, 0, 0), none, some (.aload_n 0, 0, 0, 0), some (.getfield 28, 7, 7, 750), none, none, some (.iconst 0, 0, 0, 0), some (.iaload, 0, 0, 0), some (.if_icmp .ge 26, 98, 0, 0), none, none, some (.aload_n 0, 0, 0, 0), some (.getfield 37, 7, 10, 753), none, none, some (.bipush 16, 0, 0, 0), none, some (.iload 5, 0, 0, 0), none, some (.iadd, 0, 0, 0), some (.iload 4, 0, 0, 0), none, some (.iload 5, 0, 0, 0), none, some (.ishr, 0, 0, 0), some (.iconst 1, 0, 0, 0), some (.iand, 0, 0, 0), some (.iastore, 0, 0, 0), some (.iinc 5 1, 0, 0, 0), none, none, some (.goto (-31), 64, 0, 0), none, none, some (.iconst 1, 0, 0, 0), some (.istore 5, 0, 0, 0), none, some (.iconst 0, 0, 0, 0), some (.istore 6, 0, 0, 0), none, some (.iload 6, 0, 0, 0), none, some (.aload_n 0, 0, 0, 0), some (.getfield 127, 7, 15, 758), none, none, some (.if_icmp .ge 45, 155, 0, 0), none, none, some (.iload 5, 0, 0, 0), none, some (.ifCond .eq 31, 146, 0, 0), none, none, some (.aload_n 0, 0, 0, 0), some (.aload_n 0, 0, 0, 0), some (.getfield 46, 7, 16, 759), none, none, some (.iload 6, 0, 0, 0), none, some (.iaload, 0, 0, 0), some (.invokevirtual 155, 153, 2, 901), none, none, some (.invokestatic 158, 159, 1, 924), none, none, some (.aload_n 0, 0, 0, 0), some (.getfield 49, 7, 17, 760), none, none, some (.iload 6, 0, 0, 0), none, some (.iaload, 0, 0, 0), some (.if_icmp .ne 7, 146, 0, 0), none, none, some (.iconst 1, 0, 0, 0), some (.goto 4, 147, 0, 0), none, none, some (.iconst 0, 0, 0, 0), some (.istore 5, 0, 0, 0), none, some (.iinc 6 1, 0, 0, 0), none, none, some (.goto (-48), 104, 0, 0), none, none, some (.iload 5, 0, 0, 0), none, some (.ifCond .eq 12, 169, 0, 0), none, none, some (.iload_n 2, 0, 0, 0), some (.ifCond .ne 8, 169, 0, 0), none, none, some (.iload 4, 0, 0, 0), none, some (.goto 4, 170, 0, 0), none, none, some (.iload_n 3, 0, 0, 0), some (.istore_n 3, 0, 0, 0), some (.iload_n 2, 0, 0, 0), some (.iload 5, 0, 0, 0), none, some (.ifCond .eq 7, 181, 0, 0), none, none, some (.iconst 1, 0, 0, 0), some (.goto 4, 182, 0, 0), none, none, some (.iconst 0, 0, 0, 0), some (.iadd, 0, 0, 0), some (.istore_n 2, 0, 0, 0), some (.iinc 4 1, 0, 0, 0), none, none, some (.goto (-139), 48, 0, 0), none, none, some (.iconst 0, 0, 0, 0), some (.istore 4, 0, 0, 0), none, some (.iload 4, 0, 0, 0), none, some (.iconst 5, 0, 0, 0), some (.if_icmp .ge 26, 222, 0, 0), none, none, some (.aload_n 0, 0, 0, 0), some (.getfield 37, 7, 10, 753), none, none, some (.bipush 16, 0, 0, 0), none, some (.iload 4, 0, 0, 0), none, some (.iadd, 0, 0, 0), some (.aload_n 0, 0, 0, 0), some (.getfield 61, 7, 22, 765), none, none, some (.iload 4, 0, 0, 0), none, some (.iaload, 0, 0, 0), some (.iastore, 0, 0, 0), some (.iinc 4 1, 0, 0, 0), none, none, some (.goto (-26), 193, 0, 0), none, none, some (.iload_n 1, 0, 0, 0), some (.ifCond .ne 7, 230, 0, 0), none, none, some (.iload_n 2, 0, 0, 0), some (.goto 4, 231, 0, 0), none, none, some (.iload_n 3, 0, 0, 0), some (.ireturn, 0, 0, 0)]
/-- LeavingVoteModel.odds(II)I -/
def sm_c180 : List (Option sm_I) := [some (.iload_n 1, 0, 0, 0), some (.invokestatic 164, 148, 1, 883), none, none, some (.ifCond .eq 13, 17, 0, 0), none, none, some (.iload_n 2, 0, 0, 0), some (.i2l, 0, 0, 0), some (.lconst 0, 0, 0, 0), some (.lconst 1, 0, 0, 0), some (.invokestatic 79, 133, 3, 819), none, none, some (.ifCond .ne 5, 19, 0, 0), none, none, some (.iconst (-1), 0, 0, 0), some (.ireturn, 0, 0, 0), some (.iconst 0, 0, 0, 0), some (.istore_n 3, 0, 0, 0), some (.iconst 1, 0, 0, 0), some (.istore 4, 0, 0, 0), none, some (.iconst 0, 0, 0, 0), some (.istore 5, 0, 0, 0), none, some (.iload 5, 0, 0, 0), none, some (.aload_n 0, 0, 0, 0), some (.getfield 13, 7, 2, 745), none, none, some (.iconst 0, 0, 0, 0), some (.iaload, 0, 0, 0), some (.if_icmp .ge 45, 80, 0, 0), none, none, some (.aload_n 0, 0, 0, 0), some (.getfield 16, 7, 3, 746), none, none, some (.iload 5, 0, 0, 0), none, some (.iaload, 0, 0, 0), some (.iconst 1, 0, 0, 0), some (.if_icmp .ne 28, 74, 0, 0), none, none, some (.aload_n 0, 0, 0, 0), some (.iload_n 1, 0, 0, 0), some (.iload 5, 0, 0, 0), none, some (.iconst 0, 0, 0, 0), some (.invokevirtual 142, 150, 4, 890), none, none, some (.ifCond .eq 17, 74, 0, 0), none, none, some (.iload_n 3, 0, 0, 0), some (.iconst 1, 0, 0, 0), some (.iload 5, 0, 0, 0), none, some (.ishl, 0, 0, 0), some (.ior, 0, 0, 0), some (.istore_n 3, 0, 0, 0), some (.iload 4, 0, 0, 0), none, some (.bipush 10, 0, 0, 0), none, some (.imul, 0, 0, 0), some (.istore 4, 0, 0, 0), none, some (.iinc 5 1, 0, 0, 0), none, none, some (.goto (-50), 27, 0, 0), none, none, some (.iconst 0, 0, 0, 0), some (.istore 5, 0, 0, 0), none, some (.iconst 0, 0, 0, 0), some (.istore 6, 0, 0, 0), none, some (.iload 6, 0, 0, 0), none, some (.sipush 256, 0, 0, 0), none, none, some (.if_icmp .ge 129, 220, 0, 0), none, none, some (.iload 6, 0, 0, 0), none, some (.iload_n 3, 0, 0, 0), some (.iconst (-1), 0, 0, 0), some (.ixor, 0, 0, 0), some (.iand, 0, 0, 0), some (.ifCond .ne 114, 214, 0, 0), none, none, some (.iconst 1, 0, 0, 0), some (.istore 7, 0, 0, 0), none, some (.iconst 0, 0, 0, 0), some (.istore 8, 0, 0, 0), none, some (.iload 8, 0, 0, 0), none, some (.bipush 8, 0, 0, 0), none, some (.if_icmp .ge 55, 168, 0, 0), none, none, some (.iload 7, 0, 0, 0), none, some (.iload_n 3, 0, 0, 0), some (.iload 8, 0, 0, 0), none, some (.invokestatic 138, 151, 2, 894), none, none, some (.ifCond .ne 7, 131, 0, 0), none, none, some (.iconst 1, 0, 0, 0), some (.goto 31, 159, 0, 0), none, none, some (.iload 6, 0, 0, 0), none, some (.iload 8, 0, 0, 0), none, some (.invokestatic 138, 151, 2, 894), none, none, some (.ifCond .eq 12, 150, 0, 0), none, none, some (.aload_n 0, 0, 0, 0), some (.getfield 34, 7, 9, 752), none, none, some (.iconst 3, 0, 0, 0), some (.iaload, 0, 0, 0), some (.goto 12, 159, 0, 0), none, none, some (.bipush 10, 0, 0, 0), none, some (.aload_n 0, 0, 0, 0), some (.getfield 34, 7, 9, 752), none, none, some (.iconst 3, 0, 0, 0), some (.iaload, 0, 0, 0), some (.isub, 0, 0, 0), some (.imul, 0, 0, 0), some (.istore 7, 0, 0, 0), none, some (.iinc 8 1, 0, 0, 0), none, none, some (.goto (-56), 109, 0, 0), none, none, some (.aload_n 0, 0, 0, 0), some (.aload_n 0, 0, 0, 0), some (.iload_n 1, 0, 0, 0), some (.iload 6, 0, 0, 0), none, some (.invokevirtual 145, 149, 3, 886), none, none, some (.iconst (-1), 0, 0, 0), some (.invokevirtual 149, 154, 3, 905), none, none, some (.aload_n 0, 0, 0, 0), some (.getfield 34, 7, 9, 752), none, none, some (.iconst 0, 0, 0, 0), some (.iaload, 0, 0, 0), some (.invokestatic 152, 155, 2, 909), none, none, some (.istore 8, 0, 0, 0), none, some (.iload 5, 0, 0, 0), none, some (.aload_n 0, 0, 0, 0), some (.iload 8, 0, 0, 0), none, some (.invokestatic 158, 159, 1, 924), none, none, some (.invokevirtual 161, 160, 2, 927), none, none, some (.ifCond .eq 8, 210, 0, 0), none, none, some (.iload 7, 0, 0, 0), none, some (.goto 4, 211, 0, 0), none, none, some (.iconst 0, 0, 0, 0), some (.iadd, 0, 0, 0), some (.istore 5, 0, 0, 0), none, some (.iinc 6 1, 0, 0, 0), none, none, some (.goto (-131), 86, 0, 0), none, none, some (.iload 5, 0, 0, 0), none, some (.iload 4, 0, 0, 0), none, some (.invokestatic 182, 181, 2, 1011), none, none, some (.istore 6, 0, 0, 0), none, some (.iload_n 2, 0, 0, 0), some (.ifCond .ne 11, 241, 0, 0), none, none, some (.iload 5, 0, 0, 0), none, some (.iload 6, 0, 0, 0), none, some (.idiv, 0, 0, 0), some (.goto 8, 246, 0, 0), none, none, some (.iload 4, 0, 0, 0), none, some (.iload 6, 0, 0, 0), none, some (.idiv, 0, 0, 0), some (.ireturn, 0, 0, 0)]
/-- LeavingVoteModel.common(II)I -/
def sm_c181 : List (Option sm_I) := [some (.iload_n 0, 0, 0, 0), some (.istore_n 2, 0, 0, 0), some (.iload_n 1, 0, 0, 0), some (.istore_n 3, 0, 0, 0), some (.iload_n 3, 0, 0, 0), some (.ifCond .eq 16, 21, 0, 0), none, none, some (.iload_n 2, 0, 0, 0), some (.iload_n 3, 0, 0, 0), some (.irem, 0, 0, 0), some (.istore 4, 0, 0, 0), none, some (.iload_n 3, 0, 0, 0), some (.istore_n 2, 0, 0, 0), some (.iload 4, 0, 0, 0), none, some (.istore_n 3, 0, 0, 0), some (.goto (-14), 4, 0, 0), none, none, some (.iload_n 2, 0, 0, 0), some (.ireturn, 0, 0, 0)]
/-- LeavingVoteModel.asked(I)I -/
def sm_c182 : List (Option sm_I) := [some (.iload_n 1, 0, 0, 0), some (.i2l, 0, 0, 0), some (.lconst 0, 0, 0, 0), some (.iconst 1, 0, 0, 0), some (.aload_n 0, 0, 0, 0), some (.getfield 13, 7, 2, 745), none, none, some (.iconst 0, 0, 0, 0), some (.iaload, 0, 0, 0), some (.ishl, 0, 0, 0), some (.iconst 1, 0, 0, 0), some (.isub, 0, 0, 0), some (.i2l, 0, 0, 0), some (.invokestatic 79, 133, 3, 819), none, none, some (.ifCond .ne 5, 22, 0, 0), none, none, some (.iconst (-1), 0, 0, 0), some (.ireturn, 0, 0, 0), some (.aload_n 0, 0, 0, 0), some (.iconst 0, 0, 0, 0), some (.invokevirtual 155, 153, 2, 901), none, none, some (.iload_n 1, 0, 0, 0), some (.if_icmp .ne 7, 35, 0, 0), none, none, some (.iconst 1, 0, 0, 0), some (.goto 4, 36, 0, 0), none, none, some (.iconst 0, 0, 0, 0), some (.aload_n 0, 0, 0, 0), some (.iconst 1, 0, 0, 0), some (.invokevirtual 155, 153, 2, 901), none, none, some (.iload_n 1, 0, 0, 0), some (.if_icmp .ne 7, 49, 0, 0), none, none, some (.iconst 2, 0, 0, 0), some (.goto 4, 50, 0, 0), none, none, some (.iconst 0, 0, 0, 0), some (.iadd, 0, 0, 0), some (.ireturn, 0, 0, 0)]
/-- LeavingVoteModel.months(III)I -/
def sm_c183 : List (Option sm_I) := [some (.iload_n 1, 0, 0, 0), some (.i2l, 0, 0, 0), some (.lconst 0, 0, 0, 0), some (.ldc2_w 185, 9999, 0, 1022), none, none, some (.invokestatic 79, 133, 3, 819), none, none, some (.ifCond .eq 25, 34, 0, 0), none, none, some (.iload_n 2, 0, 0, 0), some (.i2l, 0, 0, 0), some (.lconst 1, 0, 0, 0), some (.ldc2_w 187, 60, 0, 1023), none, none, some (.invokestatic 79, 133, 3, 819), none, none, some (.ifCond .eq 13, 34, 0, 0), none, none, some (.iload_n 3, 0, 0, 0), some (.i2l, 0, 0, 0), some (.lconst 0, 0, 0, 0), some (.lconst 1, 0, 0, 0), some (.invokestatic 79, 133, 3, 819), none, none, some (.ifCond .ne 5, 36, 0, 0), none, none, some (.iconst (-1), 0, 0, 0), some (.ireturn, 0, 0, 0), some (.aload_n 0, 0, 0, 0), some (.getfield 37, 7, 10, 753), none, none, some (.bipush 21, 0, 0, 0), none, some (.iaload, 0, 0, 0), some (.istore 4, 0, 0, 0), none, some (.aload_n 0, 0, 0, 0), some (.getfield 37, 7, 10, 753), none, none, some (.bipush 22, 0, 0, 0), none, some (.iaload, 0, 0, 0), some (.istore 5, 0, 0, 0), none, some (.iconst 0, 0, 0, 0), some (.istore 6, 0, 0, 0), none, some (.iconst 0, 0, 0, 0), some (.istore 7, 0, 0, 0), none, some (.iload 7, 0, 0, 0), none, some (.iload_n 2, 0, 0, 0), some (.if_icmp .ge 146, 209, 0, 0), none, none, some (.ldc2_w 189, 7919, 0, 1024), none, none, some (.iload_n 1, 0, 0, 0), some (.i2l, 0, 0, 0), some (.lmul, 0, 0, 0), some (.ldc2_w 191, 6151, 0, 1025), none, none, some (.iload 7, 0, 0, 0), none, some (.i2l, 0, 0, 0), some (.lmul, 0, 0, 0), some (.ladd, 0, 0, 0), some (.lconst 1, 0, 0, 0), some (.ladd, 0, 0, 0), some (.lstore 8, 0, 0, 0), none, some (.lload 8, 0, 0, 0), none, some (.lload 8, 0, 0, 0), none, some (.lmul, 0, 0, 0), some (.ldc2_w 193, 65521, 0, 1026), none, none, some (.lrem, 0, 0, 0), some (.l2i, 0, 0, 0), some (.iconst 2, 0, 0, 0), some (.idiv, 0, 0, 0), some (.istore 10, 0, 0, 0), none, some (.aload_n 0, 0, 0, 0), some (.getfield 37, 7, 10, 753), none, none, some (.bipush 21, 0, 0, 0), none, some (.iload 10, 0, 0, 0), none, some (.iconst 4, 0, 0, 0), some (.irem, 0, 0, 0), some (.ifCond .ne 7, 115, 0, 0), none, none, some (.iconst 1, 0, 0, 0), some (.goto 4, 116, 0, 0), none, none, some (.iconst 0, 0, 0, 0), some (.iastore, 0, 0, 0), some (.aload_n 0, 0, 0, 0), some (.getfield 37, 7, 10, 753), none, none, some (.bipush 22, 0, 0, 0), none, some (.iload 10, 0, 0, 0), none, some (.bipush 7, 0, 0, 0), none, some (.irem, 0, 0, 0), some (.ifCond .ne 7, 135, 0, 0), none, none, some (.iconst 1, 0, 0, 0), some (.goto 4, 136, 0, 0), none, none, some (.iconst 0, 0, 0, 0), some (.iastore, 0, 0, 0), some (.aload_n 0, 0, 0, 0), some (.iload 10, 0, 0, 0), none, some (.bipush 8, 0, 0, 0), none, some (.idiv, 0, 0, 0), some (.iconst 2, 0, 0, 0), some (.irem, 0, 0, 0), some (.invokevirtual 155, 153, 2, 901), none, none, some (.istore 11, 0, 0, 0), none, some (.iload_n 3, 0, 0, 0), some (.ifCond .ne 15, 166, 0, 0), none, none, some (.aload_n 0, 0, 0, 0), some (.iload 11, 0, 0, 0), none, some (.invokestatic 158, 159, 1, 924), none, none, some (.invokevirtual 161, 160, 2, 927), none, none, some (.goto 23, 186, 0, 0), none, none, some (.aload_n 0, 0, 0, 0), some (.iload 11, 0, 0, 0), none, some (.invokevirtual 170, 162, 2, 935), none, none, some (.aload_n 0, 0, 0, 0), some (.getfield 34, 7, 9, 752), none, none, some (.iconst 1, 0, 0, 0), some (.iaload, 0, 0, 0), some (.if_icmp .lt 7, 185, 0, 0), none, none, some (.iconst 1, 0, 0, 0), some (.goto 4, 186, 0, 0), none, none, some (.iconst 0, 0, 0, 0), some (.istore 12, 0, 0, 0), none, some (.iload 6, 0, 0, 0), none, some (.iload 12, 0, 0, 0), none, some (.ifCond .eq 7, 199, 0, 0), none, none, some (.iconst 1, 0, 0, 0), some (.goto 4, 200, 0, 0), none, none, some (.iconst 0, 0, 0, 0), some (.iadd, 0, 0, 0), some (.istore 6, 0, 0, 0), none, some (.iinc 7 1, 0, 0, 0), none, none, some (.goto (-146), 60, 0, 0), none, none, some (.aload_n 0, 0, 0, 0), some (.getfield 37, 7, 10, 753), none, none, some (.bipush 21, 0, 0, 0), none, some (.iload 4, 0, 0, 0), none, some (.iastore, 0, 0, 0), some (.aload_n 0, 0, 0, 0), some (.getfield 37, 7, 10, 753), none, none, some (.bipush 22, 0, 0, 0), none, some (.iload 5, 0, 0, 0), none, some (.iastore, 0, 0, 0), some (.iload 6, 0, 0, 0), none, some (.ireturn, 0, 0, 0)]
/-- LeavingVoteModel.keep()I -/
def sm_c184 : List (Option sm_I) := [some (.aload_n 0, 0, 0, 0), some (.getfield 124, 7, 14, 757), none, none, some (.iconst 2, 0, 0, 0), some (.if_icmp .ne 6, 11, 0, 0), none, none, some (.bipush (-3), 0, 0, 0), none, some (.ireturn, 0, 0, 0), some (.iconst 0, 0, 0, 0), some (.istore_n 1, 0, 0, 0), some (.iload_n 1, 0, 0, 0), some (.bipush 24, 0, 0, 0), none, some (.if_icmp .ge 29, 45, 0, 0), none, none, some (.aload_n 0, 0, 0, 0), some (.getfield 43, 7, 13, 756), none, none, some (.bipush 24, 0, 0, 0), none, some (.aload_n 0, 0, 0, 0), some (.getfield 124, 7, 14, 757), none, none, some (.imul, 0, 0, 0), some (.iload_n 1, 0, 0, 0), some (.iadd, 0, 0, 0), some (.aload_n 0, 0, 0, 0), some (.getfield 37, 7, 10, 753), none, none, some (.iload_n 1, 0, 0, 0), some (.iaload, 0, 0, 0), some (.iastore, 0, 0, 0), some (.iinc 1 1, 0, 0, 0), none, none, some (.goto (-29), 13, 0, 0), none, none, some (.aload_n 0, 0, 0, 0), some (.dup, 0, 0, 0), some (.getfield 124, 7, 14, 757), none, none, some (.iconst 1, 0, 0, 0), some (.iadd, 0, 0, 0), some (.putfield 124, 7, 14, 757), none, none, some (.aload_n 0, 0, 0, 0), some (.getfield 124, 7, 14, 757), none, none, some (.ireturn, 0, 0, 0)]
/-- LeavingVoteModel.back()I -/
def sm_c185 : List (Option sm_I) := [some (.aload_n 0, 0, 0, 0), some (.getfield 124, 7, 14, 757), none, none, some (.ifCond .ne 6, 10, 0, 0), none, none, some (.bipush (-2), 0, 0, 0), none, some (.ireturn, 0, 0, 0), some (.aload_n 0, 0, 0, 0), some (.dup, 0, 0, 0), some (.getfield 124, 7, 14, 757), none, none, some (.iconst 1, 0, 0, 0), some (.isub, 0, 0, 0), some (.putfield 124, 7, 14, 757), none, none, some (.iconst 0, 0, 0, 0), some (.istore_n 1, 0, 0, 0), some (.iload_n 1, 0, 0, 0), some (.bipush 24, 0, 0, 0), none, some (.if_icmp .ge 29, 54, 0, 0), none, none, some (.aload_n 0, 0, 0, 0), some (.getfield 37, 7, 10, 753), none, none, some (.iload_n 1, 0, 0, 0), some (.aload_n 0, 0, 0, 0), some (.getfield 43, 7, 13, 756), none, none, some (.bipush 24, 0, 0, 0), none, some (.aload_n 0, 0, 0, 0), some (.getfield 124, 7, 14, 757), none, none, some (.imul, 0, 0, 0), some (.iload_n 1, 0, 0, 0), some (.iadd, 0, 0, 0), some (.iaload, 0, 0, 0), some (.iastore, 0, 0, 0), some (.iinc 1 1, 0, 0, 0), none, none, some (.goto (-29), 22, 0, 0), none, none, some (.aload_n 0, 0, 0, 0), some (.iconst 0, 0, 0, 0), some (.putfield 121, 7, 12, 755), none, none, some (.aload_n 0, 0, 0, 0), some (.getfield 124, 7, 14, 757), none, none, some (.ireturn, 0, 0, 0)]
/-- LeavingVoteModel.count(I)I -/
def sm_c186 : List (Option sm_I) := [some (.iload_n 1, 0, 0, 0), some (.tableswitch 139 0 11 #[63, 70, 77, 82, 90, 98, 105, 112, 119, 124, 129, 134], 0, 0, 0), none, none, none, none, none, none, none, none, none, none, none, none, none, none, none, none, none, none, none, none, none, none, none, none, none, none, none, none, none, none, none, none, none, none, none, none, none, none, none, none, none, none, none, none, none, none, none, none, none, none, none, none, none, none, none, none, none, none, none, none, none, none, some (.aload_n 0, 0, 0, 0), some (.getfield 13, 7, 2, 745), none, none, some (.iconst 0, 0, 0, 0), some (.iaload, 0, 0, 0), some (.ireturn, 0, 0, 0), some (.aload_n 0, 0, 0, 0), some (.getfield 28, 7, 7, 750), none, none, some (.iconst 0, 0, 0, 0), some (.iaload, 0, 0, 0), some (.ireturn, 0, 0, 0), some (.aload_n 0, 0, 0, 0), some (.invokevirtual 195, 187, 1, 1039), none, none, some (.ireturn, 0, 0, 0), some (.aload_n 0, 0, 0, 0), some (.getfield 37, 7, 10, 753), none, none, some (.bipush 21, 0, 0, 0), none, some (.iaload, 0, 0, 0), some (.ireturn, 0, 0, 0), some (.aload_n 0, 0, 0, 0), some (.getfield 37, 7, 10, 753), none, none, some (.bipush 22, 0, 0, 0), none, some (.iaload, 0, 0, 0), some (.ireturn, 0, 0, 0), some (.aload_n 0, 0, 0, 0), some (.getfield 34, 7, 9, 752), none, none, some (.iconst 0, 0, 0, 0), some (.iaload, 0, 0, 0), some (.ireturn, 0, 0, 0), some (.aload_n 0, 0, 0, 0), some (.getfield 34, 7, 9, 752), none, none, some (.iconst 1, 0, 0, 0), some (.iaload, 0, 0, 0), some (.ireturn, 0, 0, 0), some (.aload_n 0, 0, 0, 0), some (.getfield 34, 7, 9, 752), none, none, some (.iconst 2, 0, 0, 0), some (.iaload, 0, 0, 0), some (.ireturn, 0, 0, 0), some (.aload_n 0, 0, 0, 0), some (.getfield 127, 7, 15, 758), none, none, some (.ireturn, 0, 0, 0), some (.aload_n 0, 0, 0, 0), some (.getfield 121, 7, 12, 755), none, none, some (.ireturn, 0, 0, 0), some (.aload_n 0, 0, 0, 0), some (.getfield 124, 7, 14, 757), none, none, some (.ireturn, 0, 0, 0), some (.aload_n 0, 0, 0, 0), some (.getfield 83, 7, 0, 743), none, none, some (.ireturn, 0, 0, 0), some (.iconst (-1), 0, 0, 0), some (.ireturn, 0, 0, 0)]
/-- LeavingVoteModel.heldMany()I -/
def sm_c187 : List (Option sm_I) := [some (.iconst 0, 0, 0, 0), some (.istore_n 1, 0, 0, 0), some (.iconst 0, 0, 0, 0), some (.istore_n 2, 0, 0, 0), some (.iload_n 2, 0, 0, 0), some (.iconst 5, 0, 0, 0), some (.if_icmp .ge 21, 27, 0, 0), none, none, some (.iload_n 1, 0, 0, 0), some (.aload_n 0, 0, 0, 0), some (.getfield 37, 7, 10, 753), none, none, some (.bipush 16, 0, 0, 0), none, some (.iload_n 2, 0, 0, 0), some (.iadd, 0, 0, 0), some (.iaload, 0, 0, 0), some (.iadd, 0, 0, 0), some (.istore_n 1, 0, 0, 0), some (.iinc 2 1, 0, 0, 0), none, none, some (.goto (-20), 4, 0, 0), none, none, some (.iload_n 1, 0, 0, 0), some (.ireturn, 0, 0, 0)]
/-- LeavingVoteLaw.law([I)Z -/
def sm_c188 : List (Option sm_I) := [some (.new 7, 0, 0, 53), none, none, some (.dup, 0, 0, 0), some (.invokespecial 9, 0, 1, 55), none, none, some (.astore_n 1, 0, 0, 0), some (.new 10, 7, 0, 725), none, none, some (.dup, 0, 0, 0), some (.invokespecial 12, 128, 1, 727), none, none, some (.astore_n 2, 0, 0, 0), some (.iconst 0, 0, 0, 0), some (.istore_n 3, 0, 0, 0), some (.iload_n 3, 0, 0, 0), some (.aload_n 0, 0, 0, 0), some (.arraylength, 0, 0, 0), some (.iconst 4, 0, 0, 0), some (.isub, 0, 0, 0), some (.if_icmp .gt 898, 921, 0, 0), none, none, some (.aload_n 0, 0, 0, 0), some (.iload_n 3, 0, 0, 0), some (.iaload, 0, 0, 0), some (.bipush 31, 0, 0, 0), none, some (.iand, 0, 0, 0), some (.tableswitch 883 0 30 #[140, 163, 176, 189, 202, 235, 268, 291, 314, 347, 370, 403, 436, 469, 492, 515, 528, 551, 574, 587, 610, 643, 666, 699, 712, 735, 768, 791, 834, 847, 860], 0, 0, 0), none, none, none, none, none, none, none, none, none, none, none, none, none, none, none, none, none, none, none, none, none, none, none, none, none, none, none, none, none, none, none, none, none, none, none, none, none, none, none, none, none, none, none, none, none, none, none, none, none, none, none, none, none, none, none, none, none, none, none, none, none, none, none, none, none, none, none, none, none, none, none, none, none, none, none, none, none, none, none, none, none, none, none, none, none, none, none, none, none, none, none, none, none, none, none, none, none, none, none, none, none, none, none, none, none, none, none, none, none, none, none, none, none, none, none, none, none, none, none, none, none, none, none, none, none, none, none, none, none, none, none, none, none, none, none, none, none, none, none, some (.aload_n 1, 0, 0, 0), some (.aload_n 0, 0, 0, 0), some (.iload_n 3, 0, 0, 0), some (.iconst 1, 0, 0, 0), some (.iadd, 0, 0, 0), some (.iaload, 0, 0, 0), some (.invokevirtual 13, 44, 2, 377), none, none, some (.aload_n 2, 0, 0, 0), some (.aload_n 0, 0, 0, 0), some (.iload_n 3, 0, 0, 0), some (.iconst 1, 0, 0, 0), some (.iadd, 0, 0, 0), some (.iaload, 0, 0, 0), some (.invokevirtual 17, 132, 2, 813), none, none, some (.if_icmp .eq 725, 915, 0, 0), none, none, some (.iconst 0, 0, 0, 0), some (.ireturn, 0, 0, 0), some (.aload_n 1, 0, 0, 0), some (.invokevirtual 18, 45, 1, 382), none, none, some (.aload_n 2, 0, 0, 0), some (.invokevirtual 22, 134, 1, 822), none, none, some (.if_icmp .eq 712, 915, 0, 0), none, none, some (.iconst 0, 0, 0, 0), some (.ireturn, 0, 0, 0), some (.aload_n 1, 0, 0, 0), some (.invokevirtual 23, 46, 1, 386), none, none, some (.aload_n 2, 0, 0, 0), some (.invokevirtual 26, 135, 1, 826), none, none, some (.if_icmp .eq 699, 915, 0, 0), none, none, some (.iconst 0, 0, 0, 0), some (.ireturn, 0, 0, 0), some (.aload_n 1, 0, 0, 0), some (.invokevirtual 27, 47, 1, 390), none, none, some (.aload_n 2, 0, 0, 0), some (.invokevirtual 30, 142, 1, 858), none, none, some (.if_icmp .eq 686, 915, 0, 0), none, none, some (.iconst 0, 0, 0, 0), some (.ireturn, 0, 0, 0), some (.aload_n 1, 0, 0, 0), some (.aload_n 0, 0, 0, 0), some (.iload_n 3, 0, 0, 0), some (.iconst 1, 0, 0, 0), some (.iadd, 0, 0, 0), some (.iaload, 0, 0, 0), some (.aload_n 0, 0, 0, 0), some (.iload_n 3, 0, 0, 0), some (.iconst 2, 0, 0, 0), some (.iadd, 0, 0, 0), some (.iaload, 0, 0, 0), some (.invokevirtual 31, 54, 3, 416), none, none, some (.aload_n 2, 0, 0, 0), some (.aload_n 0, 0, 0, 0), some (.iload_n 3, 0, 0, 0), some (.iconst 1, 0, 0, 0), some (.iadd, 0, 0, 0), some (.iaload, 0, 0, 0), some (.aload_n 0, 0, 0, 0), some (.iload_n 3, 0, 0, 0), some (.iconst 2, 0, 0, 0), some (.iadd, 0, 0, 0), some (.iaload, 0, 0, 0), some (.invokevirtual 35, 143, 3, 862), none, none, some (.if_icmp .eq 653, 915, 0, 0), none, none, some (.iconst 0, 0, 0, 0), some (.ireturn, 0, 0, 0), some (.aload_n 1, 0, 0, 0), some (.aload_n 0, 0, 0, 0), some (.iload_n 3, 0, 0, 0), some (.iconst 1, 0, 0, 0), some (.iadd, 0, 0, 0), some (.iaload, 0, 0, 0), some (.aload_n 0, 0, 0, 0), some (.iload_n 3, 0, 0, 0), some (.iconst 2, 0, 0, 0), some (.iadd, 0, 0, 0), some (.iaload, 0, 0, 0), some (.invokevirtual 36, 57, 3, 430), none, none, some (.aload_n 2, 0, 0, 0), some (.aload_n 0, 0, 0, 0), some (.iload_n 3, 0, 0, 0), some (.iconst 1, 0, 0, 0), some (.iadd, 0, 0, 0), some (.iaload, 0, 0, 0), some (.aload_n 0, 0, 0, 0), some (.iload_n 3, 0, 0, 0), some (.iconst 2, 0, 0, 0), some (.iadd, 0, 0, 0), some (.iaload, 0, 0, 0), some (.invokevirtual 39, 145, 3, 871), none, none, some (.if_icmp .eq 620, 915, 0, 0), none, none, some (.iconst 0, 0, 0, 0), some (.ireturn, 0, 0, 0), some (.aload_n 1, 0, 0, 0), some (.aload_n 0, 0, 0, 0), some (.iload_n 3, 0, 0, 0), some (.iconst 1, 0, 0, 0), some (.iadd, 0, 0, 0), some (.iaload, 0, 0, 0), some (.invokevirtual 40, 61, 2, 446), none, none, some (.aload_n 2, 0, 0, 0), some (.aload_n 0, 0, 0, 0), some (.iload_n 3, 0, 0, 0), some (.iconst 1, 0, 0, 0), some (.iadd, 0, 0, 0), some (.iaload, 0, 0, 0), some (.invokevirtual 43, 147, 2, 879), none, none, some (.if_icmp .eq 597, 915, 0, 0), none, none, some (.iconst 0, 0, 0, 0), some (.ireturn, 0, 0, 0), some (.aload_n 1, 0, 0, 0), some (.aload_n 0, 0, 0, 0), some (.iload_n 3, 0, 0, 0), some (.iconst 1, 0, 0, 0), some (.iadd, 0, 0, 0), some (.iaload, 0, 0, 0), some (.invokevirtual 44, 72, 2, 488), none, none, some (.aload_n 2, 0, 0, 0), some (.aload_n 0, 0, 0, 0), some (.iload_n 3, 0, 0, 0), some (.iconst 1, 0, 0, 0), some (.iadd, 0, 0, 0), some (.iaload, 0, 0, 0), some (.invokevirtual 47, 152, 2, 897), none, none, some (.if_icmp .eq 574, 915, 0, 0), none, none, some (.iconst 0, 0, 0, 0), some (.ireturn, 0, 0, 0), some (.aload_n 1, 0, 0, 0), some (.aload_n 0, 0, 0, 0), some (.iload_n 3, 0, 0, 0), some (.iconst 1, 0, 0, 0), some (.iadd, 0, 0, 0), some (.iaload, 0, 0, 0), some (.aload_n 0, 0, 0, 0), some (.iload_n 3, 0, 0, 0), some (.iconst 2, 0, 0, 0), some (.iadd, 0, 0, 0), some (.iaload, 0, 0, 0), some (.invokevirtual 48, 77, 3, 511), none, none, some (.aload_n 2, 0, 0, 0), some (.aload_n 0, 0, 0, 0), some (.iload_n 3, 0, 0, 0), some (.iconst 1, 0, 0, 0), some (.iadd, 0, 0, 0), some (.iaload, 0, 0, 0), some (.aload_n 0, 0, 0, 0), some (.iload_n 3, 0, 0, 0), some (.iconst 2, 0, 0, 0), some (.iadd, 0, 0, 0), some (.iaload, 0, 0, 0), some (.invokevirtual 51, 156, 3, 912), none, none, some (.if_icmp .eq 541, 915, 0, 0), none, none, some (.iconst 0, 0, 0, 0), some (.ireturn, 0, 0, 0), some (.aload_n 1, 0, 0, 0), some (.aload_n 0, 0, 0, 0), some (.iload_n 3, 0, 0, 0), some (.iconst 1, 0, 0, 0), some (.iadd, 0, 0, 0), some (.iaload, 0, 0, 0), some (.invokevirtual 52, 80, 2, 526), none, none, some (.aload_n 2, 0, 0, 0), some (.aload_n 0, 0, 0, 0), some (.iload_n 3, 0, 0, 0), some (.iconst 1, 0, 0, 0), some (.iadd, 0, 0, 0), some (.iaload, 0, 0, 0), some (.invokevirtual 55, 157, 2, 916), none, none, some (.if_icmp .eq 518, 915, 0, 0), none, none, some (.iconst 0, 0, 0, 0), some (.ireturn, 0, 0, 0), some (.aload_n 1, 0, 0, 0), some (.aload_n 0, 0, 0, 0), some (.iload_n 3, 0, 0, 0), some (.iconst 1, 0, 0, 0), some (.iadd, 0, 0, 0), some (.iaload, 0, 0, 0), some (.aload_n 0, 0, 0, 0), some (.iload_n 3, 0, 0, 0), some (.iconst 2, 0, 0, 0), some (.iadd, 0, 0, 0), some (.iaload, 0, 0, 0), some (.invokevirtual 56, 83, 3, 538), none, none, some (.aload_n 2, 0, 0, 0), some (.aload_n 0, 0, 0, 0), some (.iload_n 3, 0, 0, 0), some (.iconst 1, 0, 0, 0), some (.iadd, 0, 0, 0), some (.iaload, 0, 0, 0), some (.aload_n 0, 0, 0, 0), some (.iload_n 3, 0, 0, 0), some (.iconst 2, 0, 0, 0), some (.iadd, 0, 0, 0), some (.iaload, 0, 0, 0), some (.invokevirtual 59, 161, 3, 931), none, none, some (.if_icmp .eq 485, 915, 0, 0), none, none, some (.iconst 0, 0, 0, 0), some (.ireturn, 0, 0, 0), some (.aload_n 1, 0, 0, 0), some (.aload_n 0, 0, 0, 0), some (.iload_n 3, 0, 0, 0), some (.iconst 1, 0, 0, 0), some (.iadd, 0, 0, 0), some (.iaload, 0, 0, 0), some (.aload_n 0, 0, 0, 0), some (.iload_n 3, 0, 0, 0), some (.iconst 2, 0, 0, 0), some (.iadd, 0, 0, 0), some (.iaload, 0, 0, 0), some (.invokevirtual 60, 88, 3, 558), none, none, some (.aload_n 2, 0, 0, 0), some (.aload_n 0, 0, 0, 0), some (.iload_n 3, 0, 0, 0), some (.iconst 1, 0, 0, 0), some (.iadd, 0, 0, 0), some (.iaload, 0, 0, 0), some (.aload_n 0, 0, 0, 0), some (.iload_n 3, 0, 0, 0), some (.iconst 2, 0, 0, 0), some (.iadd, 0, 0, 0), some (.iaload, 0, 0, 0), some (.invokevirtual 63, 163, 3, 939), none, none, some (.if_icmp .eq 452, 915, 0, 0), none, none, some (.iconst 0, 0, 0, 0), some (.ireturn, 0, 0, 0), some (.aload_n 1, 0, 0, 0), some (.aload_n 0, 0, 0, 0), some (.iload_n 3, 0, 0, 0), some (.iconst 1, 0, 0, 0), some (.iadd, 0, 0, 0), some (.iaload, 0, 0, 0), some (.aload_n 0, 0, 0, 0), some (.iload_n 3, 0, 0, 0), some (.iconst 2, 0, 0, 0), some (.iadd, 0, 0, 0), some (.iaload, 0, 0, 0), some (.invokevirtual 64, 92, 3, 575), none, none, some (.aload_n 2, 0, 0, 0), some (.aload_n 0, 0, 0, 0), some (.iload_n 3, 0, 0, 0), some (.iconst 1, 0, 0, 0), some (.iadd, 0, 0, 0), some (.iaload, 0, 0, 0), some (.aload_n 0, 0, 0, 0), some (.iload_n 3, 0, 0, 0), some (.iconst 2, 0, 0, 0), some (.iadd, 0, 0, 0), some (.iaload, 0, 0, 0), some (.invokevirtual 67, 166, 3, 951), none, none, some (.if_icmp .eq 419, 915, 0, 0), none, none, some (.iconst 0, 0, 0, 0), some (.ireturn, 0, 0, 0), some (.aload_n 1, 0, 0, 0), some (.aload_n 0, 0, 0, 0), some (.iload_n 3, 0, 0, 0), some (.iconst 1, 0, 0, 0), some (.iadd, 0, 0, 0), some (.iaload, 0, 0, 0), some (.invokevirtual 68, 93, 2, 580), none, none, some (.aload_n 2, 0, 0, 0), some (.aload_n 0, 0, 0, 0), some (.iload_n 3, 0, 0, 0), some (.iconst 1, 0, 0, 0), some (.iadd, 0, 0, 0), some (.iaload, 0, 0, 0), some (.invokevirtual 71, 167, 2, 955), none, none, some (.if_icmp .eq 396, 915, 0, 0), none, none, some (.iconst 0, 0, 0, 0), some (.ireturn, 0, 0, 0), some (.aload_n 1, 0, 0, 0), some (.aload_n 0, 0, 0, 0), some (.iload_n 3, 0, 0, 0), some (.iconst 1, 0, 0, 0), some (.iadd, 0, 0, 0), some (.iaload, 0, 0, 0), some (.invokevirtual 72, 95, 2, 587), none, none, some (.aload_n 2, 0, 0, 0), some (.aload_n 0, 0, 0, 0), some (.iload_n 3, 0, 0, 0), some (.iconst 1, 0, 0, 0), some (.iadd, 0, 0, 0), some (.iaload, 0, 0, 0), some (.invokevirtual 75, 168, 2, 959), none, none, some (.if_icmp .eq 373, 915, 0, 0), none, none, some (.iconst 0, 0, 0, 0), some (.ireturn, 0, 0, 0), some (.aload_n 1, 0, 0, 0), some (.invokevirtual 76, 97, 1, 596), none, none, some (.aload_n 2, 0, 0, 0), some (.invokevirtual 79, 169, 1, 963), none, none, some (.if_icmp .eq 360, 915, 0, 0), none, none, some (.iconst 0, 0, 0, 0), some (.ireturn, 0, 0, 0), some (.aload_n 1, 0, 0, 0), some (.aload_n 0, 0, 0, 0), some (.iload_n 3, 0, 0, 0), some (.iconst 1, 0, 0, 0), some (.iadd, 0, 0, 0), some (.iaload, 0, 0, 0), some (.invokevirtual 80, 100, 2, 608), none, none, some (.aload_n 2, 0, 0, 0), some (.aload_n 0, 0, 0, 0), some (.iload_n 3, 0, 0, 0), some (.iconst 1, 0, 0, 0), some (.iadd, 0, 0, 0), some (.iaload, 0, 0, 0), some (.invokevirtual 83, 170, 2, 967), none, none, some (.if_icmp .eq 337, 915, 0, 0), none, none, some (.iconst 0, 0, 0, 0), some (.ireturn, 0, 0, 0), some (.aload_n 1, 0, 0, 0), some (.aload_n 0, 0, 0, 0), some (.iload_n 3, 0, 0, 0), some (.iconst 1, 0, 0, 0), some (.iadd, 0, 0, 0), some (.iaload, 0, 0, 0), some (.invokevirtual 84, 101, 2, 612), none, none, some (.aload_n 2, 0, 0, 0), some (.aload_n 0, 0, 0, 0), some (.iload_n 3, 0, 0, 0), some (.iconst 1, 0, 0, 0), some (.iadd, 0, 0, 0), some (.iaload, 0, 0, 0), some (.invokevirtual 87, 172, 2, 975), none, none, some (.if_icmp .eq 314, 915, 0, 0), none, none, some (.iconst 0, 0, 0, 0), some (.ireturn, 0, 0, 0), some (.aload_n 1, 0, 0, 0), some (.invokevirtual 88, 102, 1, 617), none, none, some (.aload_n 2, 0, 0, 0), some (.invokevirtual 91, 173, 1, 979), none, none, some (.if_icmp .eq 301, 915, 0, 0), none, none, some (.iconst 0, 0, 0, 0), some (.ireturn, 0, 0, 0), some (.aload_n 1, 0, 0, 0), some (.aload_n 0, 0, 0, 0), some (.iload_n 3, 0, 0, 0), some (.iconst 1, 0, 0, 0), some (.iadd, 0, 0, 0), some (.iaload, 0, 0, 0), some (.invokevirtual 92, 104, 2, 628), none, none, some (.aload_n 2, 0, 0, 0), some (.aload_n 0, 0, 0, 0), some (.iload_n 3, 0, 0, 0), some (.iconst 1, 0, 0, 0), some (.iadd, 0, 0, 0), some (.iaload, 0, 0, 0), some (.invokevirtual 95, 174, 2, 983), none, none, some (.if_icmp .eq 278, 915, 0, 0), none, none, some (.iconst 0, 0, 0, 0), some (.ireturn, 0, 0, 0), some (.aload_n 1, 0, 0, 0), some (.aload_n 0, 0, 0, 0), some (.iload_n 3, 0, 0, 0), some (.iconst 1, 0, 0, 0), some (.iadd, 0, 0, 0), some (.iaload, 0, 0, 0), some (.aload_n 0, 0, 0, 0), some (.iload_n 3, 0, 0, 0), some (.iconst 2, 0, 0, 0), some (.iadd, 0, 0, 0), some (.iaload, 0, 0, 0), some (.invokevirtual 96, 105, 3, 633), none, none, some (.aload_n 2, 0, 0, 0), some (.aload_n 0, 0, 0, 0), some (.iload_n 3, 0, 0, 0), some (.iconst 1, 0, 0, 0), some (.iadd, 0, 0, 0), some (.iaload, 0, 0, 0), some (.aload_n 0, 0, 0, 0), some (.iload_n 3, 0, 0, 0), some (.iconst 2, 0, 0, 0), some (.iadd, 0, 0, 0), some (.iaload, 0, 0, 0), some (.invokevirtual 99, 175, 3, 987), none, none, some (.if_icmp .eq 245, 915, 0, 0), none, none, some (.iconst 0, 0, 0, 0), some (.ireturn, 0, 0, 0), some (.aload_n 1, 0, 0, 0), some (.aload_n 0, 0, 0, 0), some (.iload_n 3, 0, 0, 0), some (.iconst 1, 0, 0, 0), some (.iadd, 0, 0, 0), some (.iaload, 0, 0, 0), some (.invokevirtual 100, 106, 2, 637), none, none, some (.aload_n 2, 0, 0, 0), some (.aload_n 0, 0, 0, 0), some (.iload_n 3, 0, 0, 0), some (.iconst 1, 0, 0, 0), some (.iadd, 0, 0, 0), some (.iaload, 0, 0, 0), some (.invokevirtual 103, 176, 2, 991), none, none, some (.if_icmp .eq 222, 915, 0, 0), none, none, some (.iconst 0, 0, 0, 0), some (.ireturn, 0, 0, 0), some (.aload_n 1, 0, 0, 0), some (.aload_n 0, 0, 0, 0), some (.iload_n 3, 0, 0, 0), some (.iconst 1, 0, 0, 0), some (.iadd, 0, 0, 0), some (.iaload, 0, 0, 0), some (.aload_n 0, 0, 0, 0), some (.iload_n 3, 0, 0, 0), some (.iconst 2, 0, 0, 0), some (.iadd, 0, 0, 0), some (.iaload, 0, 0, 0), some (.invokevirtual 104, 107, 3, 641), none, none, some (.aload_n 2, 0, 0, 0), some (.aload_n 0, 0, 0, 0), some (.iload_n 3, 0, 0, 0), some (.iconst 1, 0, 0, 0), some (.iadd, 0, 0, 0), some (.iaload, 0, 0, 0), some (.aload_n 0, 0, 0, 0), some (.iload_n 3, 0, 0, 0), some (.iconst 2, 0, 0, 0), some (.iadd, 0, 0, 0), some (.iaload, 0, 0, 0), some (.invokevirtual 107, 177, 3, 995), none, none, some (.if_icmp .eq 189, 915, 0, 0), none, none, some (.iconst 0, 0, 0, 0), some (.ireturn, 0, 0, 0), some (.aload_n 1, 0, 0, 0), some (.invokevirtual 108, 110, 1, 653), none, none, some (.aload_n 2, 0, 0, 0), some (.invokevirtual 111, 178, 1, 999), none, none, some (.if_icmp .eq 176, 915, 0, 0), none, none, some (.iconst 0, 0, 0, 0), some (.ireturn, 0, 0, 0), some (.aload_n 1, 0, 0, 0), some (.aload_n 0, 0, 0, 0), some (.iload_n 3, 0, 0, 0), some (.iconst 1, 0, 0, 0), some (.iadd, 0, 0, 0), some (.iaload, 0, 0, 0), some (.invokevirtual 112, 111, 2, 657), none, none, some (.aload_n 2, 0, 0, 0), some (.aload_n 0, 0, 0, 0), some (.iload_n 3, 0, 0, 0), some (.iconst 1, 0, 0, 0), some (.iadd, 0, 0, 0), some (.iaload, 0, 0, 0), some (.invokevirtual 115, 179, 2, 1003), none, none, some (.if_icmp .eq 153, 915, 0, 0), none, none, some (.iconst 0, 0, 0, 0), some (.ireturn, 0, 0, 0), some (.aload_n 1, 0, 0, 0), some (.aload_n 0, 0, 0, 0), some (.iload_n 3, 0, 0, 0), some (.iconst 1, 0, 0, 0), some (.iadd, 0, 0, 0), some (.iaload, 0, 0, 0), some (.aload_n 0, 0, 0, 0), some (.iload_n 3, 0, 0, 0), some (.iconst 2, 0, 0, 0), some (.iadd, 0, 0, 0), some (.iaload, 0, 0, 0), some (.invokevirtual 116, 115, 3, 673), none, none, some (.aload_n 2, 0, 0, 0), some (.aload_n 0, 0, 0, 0), some (.iload_n 3, 0, 0, 0), some (.iconst 1, 0, 0, 0), some (.iadd, 0, 0, 0), some (.iaload, 0, 0, 0), some (.aload_n 0, 0, 0, 0), some (.iload_n 3, 0, 0, 0), some (.iconst 2, 0, 0, 0), some (.iadd, 0, 0, 0), some (.iaload, 0, 0, 0), some (.invokevirtual 119, 180, 3, 1007), none, none, some (.if_icmp .eq 120, 915, 0, 0), none, none, some (.iconst 0, 0, 0, 0), some (.ireturn, 0, 0, 0), some (.aload_n 1, 0, 0, 0), some (.aload_n 0, 0, 0, 0), some (.iload_n 3, 0, 0, 0), some (.iconst 1, 0, 0, 0), some (.iadd, 0, 0, 0), some (.iaload, 0, 0, 0), some (.invokevirtual 120, 120, 2, 691), none, none, some (.aload_n 2, 0, 0, 0), some (.aload_n 0, 0, 0, 0), some (.iload_n 3, 0, 0, 0), some (.iconst 1, 0, 0, 0), some (.iadd, 0, 0, 0), some (.iaload, 0, 0, 0), some (.invokevirtual 123, 182, 2, 1014), none, none, some (.if_icmp .eq 97, 915, 0, 0), none, none, some (.iconst 0, 0, 0, 0), some (.ireturn, 0, 0, 0), some (.aload_n 1, 0, 0, 0), some (.aload_n 0, 0, 0, 0), some (.iload_n 3, 0, 0, 0), some (.iconst 1, 0, 0, 0), some (.iadd, 0, 0, 0), some (.iaload, 0, 0, 0), some (.aload_n 0, 0, 0, 0), some (.iload_n 3, 0, 0, 0), some (.iconst 2, 0, 0, 0), some (.iadd, 0, 0, 0), some (.iaload, 0, 0, 0), some (.aload_n 0, 0, 0, 0), some (.iload_n 3, 0, 0, 0), some (.iconst 3, 0, 0, 0), some (.iadd, 0, 0, 0), some (.iaload, 0, 0, 0), some (.invokevirtual 124, 121, 4, 695), none, none, some (.aload_n 2, 0, 0, 0), some (.aload_n 0, 0, 0, 0), some (.iload_n 3, 0, 0, 0), some (.iconst 1, 0, 0, 0), some (.iadd, 0, 0, 0), some (.iaload, 0, 0, 0), some (.aload_n 0, 0, 0, 0), some (.iload_n 3, 0, 0, 0), some (.iconst 2, 0, 0, 0), some (.iadd, 0, 0, 0), some (.iaload, 0, 0, 0), some (.aload_n 0, 0, 0, 0), some (.iload_n 3, 0, 0, 0), some (.iconst 3, 0, 0, 0), some (.iadd, 0, 0, 0), some (.iaload, 0, 0, 0), some (.invokevirtual 128, 183, 4, 1018), none, none, some (.if_icmp .eq 54, 915, 0, 0), none, none, some (.iconst 0, 0, 0, 0), some (.ireturn, 0, 0, 0), some (.aload_n 1, 0, 0, 0), some (.invokevirtual 129, 123, 1, 705), none, none, some (.aload_n 2, 0, 0, 0), some (.invokevirtual 132, 184, 1, 1027), none, none, some (.if_icmp .eq 41, 915, 0, 0), none, none, some (.iconst 0, 0, 0, 0), some (.ireturn, 0, 0, 0), some (.aload_n 1, 0, 0, 0), some (.invokevirtual 133, 124, 1, 709), none, none, some (.aload_n 2, 0, 0, 0), some (.invokevirtual 136, 185, 1, 1031), none, none, some (.if_icmp .eq 28, 915, 0, 0), none, none, some (.iconst 0, 0, 0, 0), some (.ireturn, 0, 0, 0), some (.aload_n 1, 0, 0, 0), some (.aload_n 0, 0, 0, 0), some (.iload_n 3, 0, 0, 0), some (.iconst 1, 0, 0, 0), some (.iadd, 0, 0, 0), some (.iaload, 0, 0, 0), some (.invokevirtual 137, 125, 2, 713), none, none, some (.aload_n 2, 0, 0, 0), some (.aload_n 0, 0, 0, 0), some (.iload_n 3, 0, 0, 0), some (.iconst 1, 0, 0, 0), some (.iadd, 0, 0, 0), some (.iaload, 0, 0, 0), some (.invokevirtual 140, 186, 2, 1035), none, none, some (.if_icmp .eq 5, 915, 0, 0), none, none, some (.iconst 0, 0, 0, 0), some (.ireturn, 0, 0, 0), some (.iinc 3 4, 0, 0, 0), none, none, some (.goto (-900), 18, 0, 0), none, none, some (.iconst 1, 0, 0, 0), some (.ireturn, 0, 0, 0)]
def sm_cs : List (List (Option sm_I)) := [sm_c0, sm_c1, sm_c2, sm_c3, sm_c4, sm_c5, sm_c6, sm_c7, sm_c8, sm_c9, sm_c10, sm_c11, sm_c12, sm_c13, sm_c14, sm_c15, sm_c16, sm_c17, sm_c18, sm_c19, sm_c20, sm_c21, sm_c22, sm_c23, sm_c24, sm_c25, sm_c26, sm_c27, sm_c28, sm_c29, sm_c30, sm_c31, sm_c32, sm_c33, sm_c34, sm_c35, sm_c36, sm_c37, sm_c38, sm_c39, sm_c40, sm_c41, sm_c42, sm_c43, sm_c44, sm_c45, sm_c46, sm_c47, sm_c48, sm_c49, sm_c50, sm_c51, sm_c52, sm_c53, sm_c54, sm_c55, sm_c56, sm_c57, sm_c58, sm_c59, sm_c60, sm_c61, sm_c62, sm_c63, sm_c64, sm_c65, sm_c66, sm_c67, sm_c68, sm_c69, sm_c70, sm_c71, sm_c72, sm_c73, sm_c74, sm_c75, sm_c76, sm_c77, sm_c78, sm_c79, sm_c80, sm_c81, sm_c82, sm_c83, sm_c84, sm_c85, sm_c86, sm_c87, sm_c88, sm_c89, sm_c90, sm_c91, sm_c92, sm_c93, sm_c94, sm_c95, sm_c96, sm_c97, sm_c98, sm_c99, sm_c100, sm_c101, sm_c102, sm_c103, sm_c104, sm_c105, sm_c106, sm_c107, sm_c108, sm_c109, sm_c110, sm_c111, sm_c112, sm_c113, sm_c114, sm_c115, sm_c116, sm_c117, sm_c118, sm_c119, sm_c120, sm_c121, sm_c122, sm_c123, sm_c124, sm_c125, sm_c126, sm_c127, sm_c128, sm_c129, sm_c130, sm_c131, sm_c132, sm_c133, sm_c134, sm_c135, sm_c136, sm_c137, sm_c138, sm_c139, sm_c140, sm_c141, sm_c142, sm_c143, sm_c144, sm_c145, sm_c146, sm_c147, sm_c148, sm_c149, sm_c150, sm_c151, sm_c152, sm_c153, sm_c154, sm_c155, sm_c156, sm_c157, sm_c158, sm_c159, sm_c160, sm_c161, sm_c162, sm_c163, sm_c164, sm_c165, sm_c166, sm_c167, sm_c168, sm_c169, sm_c170, sm_c171, sm_c172, sm_c173, sm_c174, sm_c175, sm_c176, sm_c177, sm_c178, sm_c179, sm_c180, sm_c181, sm_c182, sm_c183, sm_c184, sm_c185, sm_c186, sm_c187, sm_c188]
def sm_ms : List sm_M := [(⟨"LeavingVote", "<init>", "()V"⟩, prog_1_method_1_code, 1, none, 2, 0, 0, (57, 56, 0, 38)),
  (⟨"LeavingVote$Script", "<init>", "()V"⟩, prog_6_method_1_code, 1, none, 2, 5, 0, (65, 64, 0, 39)),
  (⟨"LeavingVote$Item", "<init>", "()V"⟩, prog_3_method_1_code, 1, none, 2, 2, 0, (79, 78, 0, 40)),
  (⟨"LeavingVote$Island", "<init>", "()V"⟩, prog_2_method_1_code, 1, none, 2, 1, 0, (96, 95, 0, 41)),
  (⟨"LeavingVote$Night", "<init>", "()V"⟩, prog_4_method_1_code, 1, none, 2, 3, 0, (133, 132, 0, 42)),
  (⟨"LeavingVote$Pile", "<init>", "(I)V"⟩, prog_5_method_1_code, 2, none, 2, 4, 1, (155, 154, 0, 43)),
  (⟨"LeavingVote$Sightings", "<init>", "()V"⟩, prog_7_method_1_code, 1, none, 2, 6, 0, (172, 171, 0, 45)),
  (⟨"LeavingVote", "layFirstText", "()V"⟩, prog_1_method_33_code, 2, none, 1, 0, 0, (187, 186, 0, 38)),
  (⟨"java/lang/String", "length", "()I"⟩, prog_13_method_54_code, 1, some .int, 3, 0, 0, (192, 190, 191, 46)),
  (⟨"java/lang/String", "coder", "()B"⟩, prog_13_method_152_code, 1, some .byte, 3, 0, 0, (196, 194, 195, 46)),
  (⟨"java/lang/String", "charAt", "(I)C"⟩, prog_13_method_56_code, 2, some .char, 3, 0, 1, (202, 200, 201, 46)),
  (⟨"java/lang/String", "isLatin1", "()Z"⟩, prog_13_method_154_code, 1, some .boolean, 3, 0, 0, (206, 204, 205, 46)),
  (⟨"java/lang/StringLatin1", "charAt", "([BI)C"⟩, prog_14_method_2_code, 2, some .char, 0, 0, 2, (209, 208, 0, 47)),
  (⟨"java/lang/String", "checkIndex", "(II)V"⟩, prog_13_method_155_code, 2, none, 0, 0, 2, (212, 211, 0, 46)),
  (⟨"jdk/internal/util/Preconditions", "checkIndex", "(IILjava/util/function/BiFunction;)I"⟩, prog_16_method_11_code, 3, some .int, 0, 0, 3, (217, 216, 0, 48)),
  (⟨"LeavingVote$Script", "append", "(I)Z"⟩, prog_6_method_2_code, 2, some .boolean, 1, 5, 1, (240, 238, 239, 39)),
  (⟨"LeavingVote$Island", "read", "(LLeavingVote$Script;LLeavingVote$Item;)I"⟩, prog_2_method_2_code, 5, some .int, 1, 1, 2, (244, 242, 243, 41)),
  (⟨"LeavingVote$Island", "empty", "()V"⟩, prog_2_method_21_code, 2, none, 1, 1, 0, (248, 247, 1, 41)),
  (⟨"LeavingVote$Island", "putIslander", "(III)V"⟩, prog_2_method_25_code, 4, none, 1, 1, 3, (252, 251, 2, 41)),
  (⟨"LeavingVote$Island", "putBoat", "(II)V"⟩, prog_2_method_26_code, 3, none, 1, 1, 2, (256, 255, 3, 41)),
  (⟨"LeavingVote$Script", "length", "()I"⟩, prog_6_method_4_code, 1, some .int, 1, 5, 0, (260, 258, 259, 39)),
  (⟨"LeavingVote$Item", "readFrom", "(LLeavingVote$Script;I)Z"⟩, prog_3_method_2_code, 8, some .boolean, 1, 2, 2, (264, 262, 263, 40)),
  (⟨"LeavingVote$Script", "letterAt", "(I)I"⟩, prog_6_method_5_code, 2, some .int, 1, 5, 1, (268, 266, 267, 39)),
  (⟨"LeavingVote$Item", "numbersOf", "(I)I"⟩, prog_3_method_6_code, 1, some .int, 0, 2, 1, (271, 270, 0, 40)),
  (⟨"LeavingVote$Script", "figuresAt", "(I)I"⟩, prog_6_method_6_code, 2, some .int, 1, 5, 1, (275, 273, 274, 39)),
  (⟨"LeavingVote$Script", "isFigure", "(I)Z"⟩, prog_6_method_8_code, 1, some .boolean, 0, 5, 1, (279, 278, 0, 39)),
  (⟨"LeavingVote$Script", "numberAt", "(II)I"⟩, prog_6_method_7_code, 4, some .int, 1, 5, 2, (283, 281, 282, 39)),
  (⟨"LeavingVote$Item", "least", "(I)I"⟩, prog_3_method_7_code, 1, some .int, 0, 2, 1, (286, 285, 0, 40)),
  (⟨"LeavingVote$Item", "most", "(II)I"⟩, prog_3_method_8_code, 2, some .int, 0, 2, 2, (289, 288, 0, 40)),
  (⟨"LeavingVote$Island", "take", "(LLeavingVote$Item;)Z"⟩, prog_2_method_22_code, 3, some .boolean, 1, 1, 1, (293, 292, 4, 41)),
  (⟨"LeavingVote$Item", "number", "(I)I"⟩, prog_3_method_4_code, 2, some .int, 1, 2, 1, (297, 295, 296, 40)),
  (⟨"LeavingVote$Item", "letter", "()I"⟩, prog_3_method_3_code, 1, some .int, 1, 2, 0, (301, 299, 300, 40)),
  (⟨"LeavingVote$Island", "takeIslander", "(LLeavingVote$Item;)Z"⟩, prog_2_method_23_code, 2, some .boolean, 1, 1, 1, (305, 304, 5, 41)),
  (⟨"LeavingVote$Standing", "withLeaning", "(JII)J"⟩, prog_8_method_4_code, 6, some .long, 0, 0, 3, (308, 307, 0, 50)),
  (⟨"LeavingVote$Standing", "with", "(JIII)J"⟩, prog_8_method_13_code, 7, some .long, 0, 0, 4, (311, 310, 0, 50)),
  (⟨"LeavingVote$Standing", "withMinded", "(JII)J"⟩, prog_8_method_6_code, 4, some .long, 0, 0, 3, (315, 314, 0, 50)),
  (⟨"LeavingVote$Island", "takeBoat", "(I)Z"⟩, prog_2_method_24_code, 2, some .boolean, 1, 1, 1, (319, 318, 6, 41)),
  (⟨"LeavingVote$Item", "behind", "()I"⟩, prog_3_method_5_code, 1, some .int, 1, 2, 0, (323, 321, 322, 40)),
  (⟨"LeavingVote$Island", "copyFrom", "(LLeavingVote$Island;)V"⟩, prog_2_method_4_code, 3, none, 1, 1, 1, (327, 325, 326, 41)),
  (⟨"LeavingVote$Island", "kind", "(I)I"⟩, prog_2_method_13_code, 2, some .int, 1, 1, 1, (331, 329, 330, 41)),
  (⟨"LeavingVote$Island", "cowsOf", "(I)I"⟩, prog_2_method_15_code, 4, some .int, 1, 1, 1, (335, 333, 334, 41)),
  (⟨"LeavingVote$Island", "seatsOf", "(I)I"⟩, prog_2_method_19_code, 4, some .int, 1, 1, 1, (339, 337, 338, 41)),
  (⟨"LeavingVote$Island", "firstStanding", "()J"⟩, prog_2_method_11_code, 1, some .long, 1, 1, 0, (343, 341, 342, 41)),
  (⟨"LeavingVote$Script", "clear", "()V"⟩, prog_6_method_3_code, 1, none, 1, 5, 0, (347, 345, 346, 39)),
  (⟨"LeavingVote", "write", "(I)I"⟩, prog_1_method_2_code, 2, some .int, 1, 0, 1, (380, 378, 379, 38)),
  (⟨"LeavingVote", "wipe", "()I"⟩, prog_1_method_3_code, 2, some .int, 1, 0, 0, (385, 383, 384, 38)),
  (⟨"LeavingVote", "fault", "()I"⟩, prog_1_method_4_code, 1, some .int, 1, 0, 0, (389, 387, 388, 38)),
  (⟨"LeavingVote", "lay", "()I"⟩, prog_1_method_5_code, 1, some .int, 1, 0, 0, (393, 391, 392, 38)),
  (⟨"LeavingVote$Island", "canBeLaid", "()Z"⟩, prog_2_method_3_code, 2, some .boolean, 1, 1, 0, (397, 395, 396, 41)),
  (⟨"LeavingVote$Standing", "minded", "(JI)I"⟩, prog_8_method_5_code, 3, some .int, 0, 0, 2, (400, 399, 0, 50)),
  (⟨"LeavingVote$Standing", "part", "(JII)I"⟩, prog_8_method_12_code, 4, some .int, 0, 0, 3, (403, 402, 0, 50)),
  (⟨"LeavingVote$Pile", "clear", "()V"⟩, prog_5_method_3_code, 1, none, 1, 4, 0, (407, 405, 406, 43)),
  (⟨"LeavingVote$Sightings", "clear", "()V"⟩, prog_7_method_3_code, 1, none, 1, 6, 0, (411, 409, 410, 45)),
  (⟨"LeavingVote$Island", "islanders", "()I"⟩, prog_2_method_5_code, 1, some .int, 1, 1, 0, (415, 413, 414, 41)),
  (⟨"LeavingVote", "islander", "(II)I"⟩, prog_1_method_6_code, 3, some .int, 1, 0, 2, (419, 417, 418, 38)),
  (⟨"LeavingVote", "isIslander", "(I)Z"⟩, prog_1_method_34_code, 2, some .boolean, 1, 0, 1, (423, 422, 7, 38)),
  (⟨"LeavingVote$Standing", "leaning", "(JI)I"⟩, prog_8_method_3_code, 3, some .int, 0, 0, 2, (427, 426, 0, 50)),
  (⟨"LeavingVote", "boat", "(II)I"⟩, prog_1_method_7_code, 3, some .int, 1, 0, 2, (433, 431, 432, 38)),
  (⟨"LeavingVote", "isBoat", "(I)Z"⟩, prog_1_method_35_code, 2, some .boolean, 1, 0, 1, (437, 436, 8, 38)),
  (⟨"LeavingVote$Island", "boats", "()I"⟩, prog_2_method_6_code, 1, some .int, 1, 1, 0, (441, 439, 440, 41)),
  (⟨"LeavingVote$Standing", "held", "(J)I"⟩, prog_8_method_7_code, 2, some .int, 0, 0, 1, (445, 444, 0, 50)),
  (⟨"LeavingVote", "wants", "(I)I"⟩, prog_1_method_8_code, 2, some .int, 1, 0, 1, (449, 447, 448, 38)),
  (⟨"LeavingVote", "isQuestion", "(I)Z"⟩, prog_1_method_36_code, 1, some .boolean, 0, 0, 1, (452, 451, 0, 38)),
  (⟨"LeavingVote$Night", "set", "(LLeavingVote$Island;J)V"⟩, prog_4_method_2_code, 6, none, 1, 3, 2, (456, 454, 455, 42)),
  (⟨"LeavingVote$Standing", "ice", "(J)Z"⟩, prog_8_method_10_code, 2, some .boolean, 0, 0, 1, (459, 458, 0, 50)),
  (⟨"LeavingVote$Night", "guideOf", "(LLeavingVote$Island;JI)I"⟩, prog_4_method_6_code, 6, some .int, 0, 3, 3, (462, 461, 0, 42)),
  (⟨"LeavingVote$Night", "comesRound", "(LLeavingVote$Island;JI)Z"⟩, prog_4_method_7_code, 6, some .boolean, 0, 3, 3, (466, 465, 0, 42)),
  (⟨"LeavingVote$Island", "ofKind", "(I)I"⟩, prog_2_method_14_code, 4, some .int, 1, 1, 1, (471, 469, 470, 41)),
  (⟨"LeavingVote$Island", "bedsAshore", "()I"⟩, prog_2_method_7_code, 1, some .int, 1, 1, 0, (477, 475, 476, 41)),
  (⟨"LeavingVote$Standing", "storm", "(J)Z"⟩, prog_8_method_9_code, 2, some .boolean, 0, 0, 1, (480, 479, 0, 50)),
  (⟨"LeavingVote$Standing", "against", "(JI)I"⟩, prog_8_method_2_code, 3, some .int, 0, 0, 2, (483, 482, 0, 50)),
  (⟨"LeavingVote$Night", "wanting", "(II)I"⟩, prog_4_method_3_code, 6, some .int, 1, 3, 2, (487, 485, 486, 42)),
  (⟨"LeavingVote", "leave", "(I)I"⟩, prog_1_method_9_code, 2, some .int, 1, 0, 1, (491, 489, 490, 38)),
  (⟨"LeavingVote", "leavers", "(JI)I"⟩, prog_1_method_40_code, 4, some .int, 1, 0, 2, (495, 494, 9, 38)),
  (⟨"LeavingVote$Night", "leaving", "(II)I"⟩, prog_4_method_4_code, 3, some .int, 1, 3, 2, (499, 497, 498, 42)),
  (⟨"LeavingVote$Night", "leavingOf", "(II)I"⟩, prog_4_method_5_code, 3, some .int, 1, 3, 2, (504, 502, 503, 42)),
  (⟨"LeavingVote", "lowest", "(II)I"⟩, prog_1_method_47_code, 5, some .int, 0, 0, 2, (510, 509, 0, 38)),
  (⟨"LeavingVote", "by", "(II)I"⟩, prog_1_method_10_code, 5, some .int, 1, 0, 2, (514, 512, 513, 38)),
  (⟨"java/lang/Integer", "bitCount", "(I)I"⟩, prog_11_method_49_code, 1, some .int, 0, 0, 1, (518, 517, 0, 52)),
  (⟨"LeavingVote$Island", "boatOfSeat", "(II)I"⟩, prog_2_method_20_code, 6, some .int, 1, 1, 2, (525, 523, 524, 41)),
  (⟨"LeavingVote", "falls", "(I)I"⟩, prog_1_method_11_code, 2, some .int, 1, 0, 1, (529, 527, 528, 38)),
  (⟨"LeavingVote$Island", "lawFalls", "(I)Z"⟩, prog_2_method_18_code, 2, some .boolean, 1, 1, 1, (533, 531, 532, 41)),
  (⟨"LeavingVote", "oneIf", "(Z)I"⟩, prog_1_method_38_code, 1, some .int, 0, 0, 1, (537, 536, 0, 38)),
  (⟨"LeavingVote", "milked", "(II)I"⟩, prog_1_method_12_code, 4, some .int, 1, 0, 2, (541, 539, 540, 38)),
  (⟨"LeavingVote", "isEither", "(I)Z"⟩, prog_1_method_37_code, 1, some .boolean, 0, 0, 1, (544, 543, 0, 38)),
  (⟨"LeavingVote$Island", "cowsWithout", "(I)I"⟩, prog_2_method_16_code, 2, some .int, 1, 1, 1, (548, 546, 547, 41)),
  (⟨"LeavingVote$Island", "everybody", "()I"⟩, prog_2_method_12_code, 1, some .int, 1, 1, 0, (552, 550, 551, 41)),
  (⟨"LeavingVote$Island", "cowsMilked", "(I)Z"⟩, prog_2_method_17_code, 2, some .boolean, 1, 1, 1, (556, 554, 555, 41)),
  (⟨"LeavingVote", "lean", "(II)I"⟩, prog_1_method_13_code, 4, some .int, 1, 0, 2, (561, 559, 560, 38)),
  (⟨"LeavingVote", "change", "(J)V"⟩, prog_1_method_39_code, 3, none, 1, 0, 1, (566, 565, 10, 38)),
  (⟨"LeavingVote$Pile", "put", "(J)V"⟩, prog_5_method_4_code, 3, none, 1, 4, 1, (570, 568, 569, 43)),
  (⟨"LeavingVote$Pile", "dropOldest", "()V"⟩, prog_5_method_6_code, 2, none, 1, 4, 0, (574, 573, 11, 43)),
  (⟨"LeavingVote", "mind", "(II)I"⟩, prog_1_method_14_code, 4, some .int, 1, 0, 2, (578, 576, 577, 38)),
  (⟨"LeavingVote", "hold", "(I)I"⟩, prog_1_method_15_code, 3, some .int, 1, 0, 1, (583, 581, 582, 38)),
  (⟨"LeavingVote$Standing", "withHeld", "(JI)J"⟩, prog_8_method_8_code, 3, some .long, 0, 0, 2, (586, 585, 0, 50)),
  (⟨"LeavingVote", "weather", "(I)I"⟩, prog_1_method_16_code, 4, some .int, 1, 0, 1, (590, 588, 589, 38)),
  (⟨"LeavingVote$Standing", "withWeather", "(JZZ)J"⟩, prog_8_method_11_code, 4, some .long, 0, 0, 3, (594, 593, 0, 50)),
  (⟨"LeavingVote", "undo", "()I"⟩, prog_1_method_17_code, 1, some .int, 1, 0, 0, (599, 597, 598, 38)),
  (⟨"LeavingVote$Pile", "height", "()I"⟩, prog_5_method_2_code, 1, some .int, 1, 4, 0, (603, 601, 602, 43)),
  (⟨"LeavingVote$Pile", "take", "(J)J"⟩, prog_5_method_5_code, 4, some .long, 1, 4, 1, (607, 605, 606, 43)),
  (⟨"LeavingVote", "decides", "(I)I"⟩, prog_1_method_18_code, 6, some .int, 1, 0, 1, (611, 609, 610, 38)),
  (⟨"LeavingVote", "win", "(I)I"⟩, prog_1_method_19_code, 8, some .int, 1, 0, 1, (615, 613, 614, 38)),
  (⟨"LeavingVote", "fill", "()I"⟩, prog_1_method_20_code, 7, some .int, 1, 0, 0, (620, 618, 619, 38)),
  (⟨"LeavingVote", "seatsIn", "(I)I"⟩, prog_1_method_41_code, 2, some .int, 1, 0, 1, (624, 623, 12, 38)),
  (⟨"LeavingVote", "beds", "(I)I"⟩, prog_1_method_21_code, 4, some .int, 1, 0, 1, (631, 629, 630, 38)),
  (⟨"LeavingVote", "help", "(II)I"⟩, prog_1_method_22_code, 8, some .int, 1, 0, 2, (636, 634, 635, 38)),
  (⟨"LeavingVote", "both", "(I)I"⟩, prog_1_method_23_code, 6, some .int, 1, 0, 1, (640, 638, 639, 38)),
  (⟨"LeavingVote", "seen", "(II)I"⟩, prog_1_method_24_code, 3, some .int, 1, 0, 2, (644, 642, 643, 38)),
  (⟨"LeavingVote$Sightings", "add", "(II)Z"⟩, prog_7_method_2_code, 3, some .boolean, 1, 6, 2, (648, 646, 647, 45)),
  (⟨"LeavingVote$Sightings", "size", "()I"⟩, prog_7_method_4_code, 1, some .int, 1, 6, 0, (652, 650, 651, 45)),
  (⟨"LeavingVote", "forget", "()I"⟩, prog_1_method_25_code, 2, some .int, 1, 0, 0, (656, 654, 655, 38)),
  (⟨"LeavingVote", "oars", "(I)I"⟩, prog_1_method_26_code, 5, some .int, 1, 0, 1, (660, 658, 659, 38)),
  (⟨"LeavingVote", "agrees", "(J)Z"⟩, prog_1_method_42_code, 5, some .boolean, 1, 0, 1, (664, 663, 13, 38)),
  (⟨"LeavingVote$Sightings", "question", "(I)I"⟩, prog_7_method_5_code, 2, some .int, 1, 6, 1, (668, 666, 667, 45)),
  (⟨"LeavingVote$Sightings", "number", "(I)I"⟩, prog_7_method_6_code, 2, some .int, 1, 6, 1, (672, 670, 671, 45)),
  (⟨"LeavingVote", "odds", "(II)I"⟩, prog_1_method_27_code, 8, some .int, 1, 0, 2, (676, 674, 675, 38)),
  (⟨"LeavingVote", "weight", "(II)I"⟩, prog_1_method_43_code, 3, some .int, 1, 0, 2, (680, 679, 14, 38)),
  (⟨"LeavingVote$Island", "seasickTenths", "()I"⟩, prog_2_method_10_code, 1, some .int, 1, 1, 0, (684, 682, 683, 41)),
  (⟨"LeavingVote", "power", "(II)I"⟩, prog_1_method_44_code, 4, some .int, 0, 0, 2, (687, 686, 0, 38)),
  (⟨"LeavingVote", "commonDivisor", "(II)I"⟩, prog_1_method_45_code, 6, some .int, 0, 0, 2, (690, 689, 0, 38)),
  (⟨"LeavingVote", "asked", "(I)I"⟩, prog_1_method_28_code, 4, some .int, 1, 0, 1, (694, 692, 693, 38)),
  (⟨"LeavingVote", "months", "(III)I"⟩, prog_1_method_29_code, 10, some .int, 1, 0, 3, (698, 696, 697, 38)),
  (⟨"LeavingVote", "draw", "(II)I"⟩, prog_1_method_46_code, 4, some .int, 0, 0, 2, (701, 700, 0, 38)),
  (⟨"LeavingVote", "keep", "()I"⟩, prog_1_method_30_code, 1, some .int, 1, 0, 0, (708, 706, 707, 38)),
  (⟨"LeavingVote", "back", "()I"⟩, prog_1_method_31_code, 1, some .int, 1, 0, 0, (712, 710, 711, 38)),
  (⟨"LeavingVote", "count", "(I)I"⟩, prog_1_method_32_code, 2, some .int, 1, 0, 1, (716, 714, 715, 38)),
  (⟨"LeavingVote$Island", "cowsToMilk", "()I"⟩, prog_2_method_8_code, 1, some .int, 1, 1, 0, (720, 718, 719, 41)),
  (⟨"LeavingVote$Island", "tenths", "()I"⟩, prog_2_method_9_code, 1, some .int, 1, 1, 0, (724, 722, 723, 41)),
  (⟨"LeavingVoteModel", "<init>", "()V"⟩, prog_10_method_1_code, 1, none, 2, 7, 0, (729, 728, 0, 51)),
  (⟨"LeavingVoteModel", "noIsland", "(I)V"⟩, prog_10_method_5_code, 2, none, 1, 7, 1, (734, 733, 15, 51)),
  (⟨"LeavingVoteModel", "addIslander", "(IIIII)V"⟩, prog_10_method_6_code, 7, none, 1, 7, 5, (738, 737, 16, 51)),
  (⟨"LeavingVoteModel", "begin", "()V"⟩, prog_10_method_17_code, 2, none, 1, 7, 0, (742, 741, 17, 51)),
  (⟨"LeavingVoteModel", "write", "(I)I"⟩, prog_10_method_7_code, 2, some .int, 1, 7, 1, (816, 814, 815, 51)),
  (⟨"LeavingVoteModel", "in", "(JJJ)Z"⟩, prog_10_method_2_code, 6, some .boolean, 0, 7, 3, (821, 820, 0, 51)),
  (⟨"LeavingVoteModel", "wipe", "()I"⟩, prog_10_method_8_code, 2, some .int, 1, 7, 0, (825, 823, 824, 51)),
  (⟨"LeavingVoteModel", "fault", "()I"⟩, prog_10_method_15_code, 1, some .int, 1, 7, 0, (829, 827, 828, 51)),
  (⟨"LeavingVoteModel", "readAll", "()I"⟩, prog_10_method_14_code, 2, some .int, 1, 7, 0, (833, 832, 18, 51)),
  (⟨"LeavingVoteModel", "item", "()Z"⟩, prog_10_method_13_code, 2, some .boolean, 1, 7, 0, (837, 836, 19, 51)),
  (⟨"LeavingVoteModel", "letterAt", "(I)I"⟩, prog_10_method_9_code, 2, some .int, 1, 7, 1, (841, 840, 20, 51)),
  (⟨"LeavingVoteModel", "islanderItem", "()Z"⟩, prog_10_method_11_code, 2, some .boolean, 1, 7, 0, (845, 844, 21, 51)),
  (⟨"LeavingVoteModel", "figures", "(I)Z"⟩, prog_10_method_10_code, 5, some .boolean, 1, 7, 1, (849, 848, 22, 51)),
  (⟨"LeavingVoteModel", "lawItem", "(III)Z"⟩, prog_10_method_12_code, 5, some .boolean, 1, 7, 3, (857, 856, 23, 51)),
  (⟨"LeavingVoteModel", "lay", "()I"⟩, prog_10_method_16_code, 3, some .int, 1, 7, 0, (861, 859, 860, 51)),
  (⟨"LeavingVoteModel", "islander", "(II)I"⟩, prog_10_method_21_code, 3, some .int, 1, 7, 2, (865, 863, 864, 51)),
  (⟨"LeavingVoteModel", "isIslander", "(I)Z"⟩, prog_10_method_18_code, 2, some .boolean, 1, 7, 1, (869, 868, 24, 51)),
  (⟨"LeavingVoteModel", "boat", "(II)I"⟩, prog_10_method_22_code, 3, some .int, 1, 7, 2, (874, 872, 873, 51)),
  (⟨"LeavingVoteModel", "isBoat", "(I)Z"⟩, prog_10_method_19_code, 2, some .boolean, 1, 7, 1, (878, 877, 25, 51)),
  (⟨"LeavingVoteModel", "wants", "(I)I"⟩, prog_10_method_31_code, 2, some .int, 1, 7, 1, (882, 880, 881, 51)),
  (⟨"LeavingVoteModel", "isQuestion", "(I)Z"⟩, prog_10_method_20_code, 1, some .boolean, 0, 7, 1, (885, 884, 0, 51)),
  (⟨"LeavingVoteModel", "wanting", "(II)I"⟩, prog_10_method_24_code, 5, some .int, 1, 7, 2, (889, 888, 26, 51)),
  (⟨"LeavingVoteModel", "doesWant", "(III)Z"⟩, prog_10_method_23_code, 8, some .boolean, 1, 7, 3, (893, 892, 27, 51)),
  (⟨"LeavingVoteModel", "has", "(II)Z"⟩, prog_10_method_3_code, 2, some .boolean, 0, 7, 2, (896, 895, 0, 51)),
  (⟨"LeavingVoteModel", "leave", "(I)I"⟩, prog_10_method_32_code, 2, some .int, 1, 7, 1, (900, 898, 899, 51)),
  (⟨"LeavingVoteModel", "leaving", "(I)I"⟩, prog_10_method_27_code, 2, some .int, 1, 7, 1, (904, 903, 28, 51)),
  (⟨"LeavingVoteModel", "seated", "(II)I"⟩, prog_10_method_25_code, 6, some .int, 1, 7, 2, (908, 907, 29, 51)),
  (⟨"LeavingVoteModel", "bedded", "(II)I"⟩, prog_10_method_26_code, 5, some .int, 0, 7, 2, (911, 910, 0, 51)),
  (⟨"LeavingVoteModel", "by", "(II)I"⟩, prog_10_method_33_code, 3, some .int, 1, 7, 2, (915, 913, 914, 51)),
  (⟨"LeavingVoteModel", "falls", "(I)I"⟩, prog_10_method_34_code, 2, some .int, 1, 7, 1, (919, 917, 918, 51)),
  (⟨"LeavingVoteModel", "doesFall", "(I)Z"⟩, prog_10_method_29_code, 2, some .boolean, 1, 7, 1, (923, 922, 30, 51)),
  (⟨"LeavingVoteModel", "bits", "(I)I"⟩, prog_10_method_4_code, 3, some .int, 0, 7, 1, (926, 925, 0, 51)),
  (⟨"LeavingVoteModel", "isFall", "(I)Z"⟩, prog_10_method_28_code, 2, some .boolean, 1, 7, 1, (930, 929, 31, 51)),
  (⟨"LeavingVoteModel", "milked", "(II)I"⟩, prog_10_method_35_code, 4, some .int, 1, 7, 2, (934, 932, 933, 51)),
  (⟨"LeavingVoteModel", "cowsWithout", "(I)I"⟩, prog_10_method_30_code, 4, some .int, 1, 7, 1, (938, 937, 32, 51)),
  (⟨"LeavingVoteModel", "lean", "(II)I"⟩, prog_10_method_38_code, 3, some .int, 1, 7, 2, (942, 940, 941, 51)),
  (⟨"LeavingVoteModel", "change", "(II)I"⟩, prog_10_method_37_code, 4, some .int, 1, 7, 2, (946, 945, 33, 51)),
  (⟨"LeavingVoteModel", "note", "()V"⟩, prog_10_method_36_code, 2, none, 1, 7, 0, (950, 949, 34, 51)),
  (⟨"LeavingVoteModel", "mind", "(II)I"⟩, prog_10_method_39_code, 3, some .int, 1, 7, 2, (954, 952, 953, 51)),
  (⟨"LeavingVoteModel", "hold", "(I)I"⟩, prog_10_method_40_code, 2, some .int, 1, 7, 1, (958, 956, 957, 51)),
  (⟨"LeavingVoteModel", "weather", "(I)I"⟩, prog_10_method_41_code, 2, some .int, 1, 7, 1, (962, 960, 961, 51)),
  (⟨"LeavingVoteModel", "undo", "()I"⟩, prog_10_method_42_code, 2, some .int, 1, 7, 0, (966, 964, 965, 51)),
  (⟨"LeavingVoteModel", "decides", "(I)I"⟩, prog_10_method_44_code, 4, some .int, 1, 7, 1, (970, 968, 969, 51)),
  (⟨"LeavingVoteModel", "fallsBut", "(II)Z"⟩, prog_10_method_43_code, 5, some .boolean, 1, 7, 2, (974, 973, 35, 51)),
  (⟨"LeavingVoteModel", "win", "(I)I"⟩, prog_10_method_45_code, 6, some .int, 1, 7, 1, (978, 976, 977, 51)),
  (⟨"LeavingVoteModel", "fill", "()I"⟩, prog_10_method_46_code, 8, some .int, 1, 7, 0, (982, 980, 981, 51)),
  (⟨"LeavingVoteModel", "beds", "(I)I"⟩, prog_10_method_47_code, 5, some .int, 1, 7, 1, (986, 984, 985, 51)),
  (⟨"LeavingVoteModel", "help", "(II)I"⟩, prog_10_method_48_code, 7, some .int, 1, 7, 2, (990, 988, 989, 51)),
  (⟨"LeavingVoteModel", "both", "(I)I"⟩, prog_10_method_49_code, 6, some .int, 1, 7, 1, (994, 992, 993, 51)),
  (⟨"LeavingVoteModel", "seen", "(II)I"⟩, prog_10_method_50_code, 3, some .int, 1, 7, 2, (998, 996, 997, 51)),
  (⟨"LeavingVoteModel", "forget", "()I"⟩, prog_10_method_51_code, 2, some .int, 1, 7, 0, (1002, 1000, 1001, 51)),
  (⟨"LeavingVoteModel", "oars", "(I)I"⟩, prog_10_method_52_code, 7, some .int, 1, 7, 1, (1006, 1004, 1005, 51)),
  (⟨"LeavingVoteModel", "odds", "(II)I"⟩, prog_10_method_54_code, 9, some .int, 1, 7, 2, (1010, 1008, 1009, 51)),
  (⟨"LeavingVoteModel", "common", "(II)I"⟩, prog_10_method_53_code, 5, some .int, 0, 7, 2, (1013, 1012, 0, 51)),
  (⟨"LeavingVoteModel", "asked", "(I)I"⟩, prog_10_method_55_code, 2, some .int, 1, 7, 1, (1017, 1015, 1016, 51)),
  (⟨"LeavingVoteModel", "months", "(III)I"⟩, prog_10_method_56_code, 13, some .int, 1, 7, 3, (1021, 1019, 1020, 51)),
  (⟨"LeavingVoteModel", "keep", "()I"⟩, prog_10_method_57_code, 2, some .int, 1, 7, 0, (1030, 1028, 1029, 51)),
  (⟨"LeavingVoteModel", "back", "()I"⟩, prog_10_method_58_code, 2, some .int, 1, 7, 0, (1034, 1032, 1033, 51)),
  (⟨"LeavingVoteModel", "count", "(I)I"⟩, prog_10_method_60_code, 2, some .int, 1, 7, 1, (1038, 1036, 1037, 51)),
  (⟨"LeavingVoteModel", "heldMany", "()I"⟩, prog_10_method_59_code, 3, some .int, 1, 7, 0, (1042, 1041, 36, 51)),
  (⟨"LeavingVoteLaw", "law", "([I)Z"⟩, code, 4, some .boolean, 0, 0, 1, (0, 0, 0, 0))]
def sm_ic (j pc : Nat) : Option sm_I := match (sm_cs.getD j [])[pc]? with
  | some (some e) => some e
  | _ => none
def sm_m (j : Nat) : sm_M := sm_ms.getD j (⟨"", "", ""⟩, .empty, 0, none, 0, 0, 0, (0, 0, 0, 0))
def sm_y (j : Nat) : MethodName := (sm_m j).1
def sm_b (j : Nat) : ByteArray := (sm_m j).2.1
def sm_ml (j : Nat) : Nat := (sm_m j).2.2.1
def sm_rt (j : Nat) : Option FieldType := (sm_m j).2.2.2.1
def sm_kd (j : Nat) : Nat := (sm_m j).2.2.2.2.1
def sm_ci (j : Nat) : Nat := (sm_m j).2.2.2.2.2.1
def sm_na (j : Nat) : Nat := (sm_m j).2.2.2.2.2.2.1
def sm_p (j : Nat) : Nat × Nat × Nat × Nat := (sm_m j).2.2.2.2.2.2.2
abbrev sm_N : Nat := 188
abbrev sm_pmax : Nat × Nat := (158, 159)
abbrev sm_pmin : Nat × Nat := (506, 507)
end
section
/-! the tables agree with the Statement's words and bytes: decided by the kernel -/
def sm_at (p : Nat) (w : Cond) : Bool := decide (lw_tbl[p]? = some w)
theorem sm_at_in {p : Nat} {w : Cond} (h : sm_at p w = true) : w ∈ lw_tbl := List.mem_of_getElem? (of_decide_eq_true h)
def sm_sw (i : Instr) : Bool := match i with
  | .tableswitch .. | .lookupswitch .. => true
  | _ => false
def sm_len (i : Instr) : Nat := match i with
  | .bipush _ | .iload _ | .lload _ | .aload _ | .istore _ | .lstore _ | .astore _ | .ldc _ | .newarray _ => 2
  | .sipush _ | .ldc_w _ | .ldc2_w _ | .iinc _ _ | .ifCond _ _ | .if_icmp _ _ | .goto _ | .getstatic _ | .getfield _ | .putfield _ | .invokevirtual _ | .invokespecial _ | .invokestatic _ | .new _ => 3
  | _ => 1
def sm_lv64 (a b : Nat) : Int64 := if b = 1 then - Int64.ofNat a else Int64.ofNat a
def sm_okM (j : Nat) : Bool :=
  sm_at (sm_p j).1 (.code (sm_y j) (sm_b j) (sm_ml j) (sm_rt j)) && sm_at (sm_p j).2.2.2 (.initialized (sm_y j).cls) &&
  (match sm_kd j with
   | 0 => sm_at (sm_p j).2.1 (.static (sm_y j))
   | 1 => sm_at (sm_p j).2.1 (.instanceMethod (sm_y j)) && sm_at (sm_p j).2.2.1 (.selects (sm_y j).cls (sm_y j) (sm_y j)) && decide (sm_cn (sm_ci j) = (sm_y j).cls) && decide (sm_ci j < 8)
   | 2 => sm_at (sm_p j).2.1 (.instanceMethod (sm_y j)) && decide ((sm_y j).name = "<init>") && decide (sm_rt j = none)
   | _ => sm_at (sm_p j).2.1 (.instanceMethod (sm_y j)) && sm_at (sm_p j).2.2.1 (.selects (sm_y j).cls (sm_y j) (sm_y j)) && decide ((sm_y j).cls = "java/lang/String")) &&
  decide ((sm_y j).cls ≠ "java/lang/invoke/MethodHandle") && decide ((sm_y j).cls ≠ "java/lang/invoke/VarHandle") && plainName (sm_y j).cls && decide (sm_ml j ≤ 24) &&
  decide ((parseMethodDescriptor (sm_y j).desc).map (fun d => d.parameters.length) = some (sm_na j))
def sm_argc (j : Nat) : Nat := if sm_kd j = 0 then sm_na j else sm_na j + 1
def sm_okR (j : Nat) (e : sm_I) : Bool := match e.1 with
  | .getfield i => if e.2.1 = 100 then sm_at e.2.2.2 (.fieldLink (sm_y j).cls i "java/lang/String" (if e.2.2.1 = 0 then "coder" else "value") (if e.2.2.1 = 0 then "B" else "[B"))
      else decide (e.2.1 < 8) && decide (e.2.2.1 < sm_nf e.2.1) && sm_at e.2.2.2 (.fieldLink (sm_y j).cls i (sm_cn e.2.1) (sm_T e.2.1 e.2.2.1).2.1 (sm_T e.2.1 e.2.2.1).2.2.1)
  | .putfield i => decide (e.2.1 < 8) && decide (e.2.2.1 < sm_nf e.2.1) && sm_at e.2.2.2 (.fieldLink (sm_y j).cls i (sm_cn e.2.1) (sm_T e.2.1 e.2.2.1).2.1 (sm_T e.2.1 e.2.2.1).2.2.1) &&
      (!(sm_T e.2.1 e.2.2.1).2.2.2 || (decide ((sm_y j).name = "<init>") && decide (sm_cn e.2.1 = (sm_y j).cls)))
  | .getstatic i => if e.2.1 = 0 then sm_at e.2.2.2 (.fieldLink (sm_y j).cls i "java/lang/String" "COMPACT_STRINGS" "Z")
      else if e.2.1 = 1 then sm_at e.2.2.2 (.fieldLink (sm_y j).cls i "jdk/internal/util/Preconditions" "SIOOBE_FORMATTER" "Ljava/util/function/BiFunction;") else true
  | .invokevirtual i => decide (e.2.1 = 9998) || ((sm_kd e.2.1 == 1 || sm_kd e.2.1 == 3) && decide (e.2.1 < sm_N) && decide (e.2.2.1 = sm_argc e.2.1) && sm_at e.2.2.2 (.methodLink (sm_y j).cls i (sm_y e.2.1)))
  | .invokestatic i => decide (e.2.1 = 9998) || (decide (e.2.1 = 9997) && sm_at e.2.2.2 (.methodLink (sm_y j).cls i Lib.Math.max.name)) || (decide (e.2.1 = 9996) && sm_at e.2.2.2 (.methodLink (sm_y j).cls i Lib.Math.min.name)) || (sm_kd e.2.1 == 0 && decide (e.2.1 < sm_N) && decide (e.2.2.1 = sm_argc e.2.1) &&
      (if e.2.2.2 = 5000 then decide ((sm_y j).cls = "LeavingVote$Night") && decide (i = 71) && decide (sm_y e.2.1 = ⟨"LeavingVote", "lowest", "(II)I"⟩)
       else if e.2.2.2 = 5001 then decide ((sm_y j).cls = "LeavingVote$Standing") && decide (i = 19) && decide (sm_y e.2.1 = ⟨"LeavingVote", "oneIf", "(Z)I"⟩)
       else sm_at e.2.2.2 (.methodLink (sm_y j).cls i (sm_y e.2.1))))
  | .invokespecial i => decide (e.2.1 = 9998) || (if e.2.1 = 9999 then sm_at e.2.2.2 (.methodLink (sm_y j).cls i objectInit)
      else sm_kd e.2.1 == 2 && decide (e.2.1 < sm_N) && decide (e.2.2.1 = sm_argc e.2.1) && sm_at e.2.2.2 (.methodLink (sm_y j).cls i (sm_y e.2.1)))
  | .ldc_w i => decide (e.2.2.2 = 0) || sm_at e.2.2.2 (.constant (sm_y j).cls i (Int32.ofNat e.2.1))
  | .ldc i => decide ((sm_y j).cls = "LeavingVote") && decide (i = 258)
  | .ldc2_w i => sm_at e.2.2.2 (.constantLong (sm_y j).cls i (sm_lv64 e.2.1 e.2.2.1))
  | .new i => decide (e.2.1 = 9998) || (decide (e.2.1 < 8) && sm_at e.2.2.2 (.classLink (sm_y j).cls i (sm_cn e.2.1)))
  | .newarray t => (match t with
      | .int => decide (e.2.1 = 0) && sm_at e.2.2.2 (.arrayClass .int)
      | .char => decide (e.2.1 = 1) && sm_at e.2.2.2 (.arrayClass .char)
      | .long => decide (e.2.1 = 2) && sm_at e.2.2.2 (.arrayClass .long)
      | _ => false)
  | _ => true
def sm_okE (j pc : Nat) (e : sm_I) : Bool := (match decode (sm_b j) pc with
  | .ok (i, n) => decide (i = e.1) && (sm_sw i || n == sm_len i)
  | _ => false) && sm_okR j e
theorem sm_ok_max : sm_at sm_pmax.1 (.static Lib.Math.max.name) = true ∧ sm_at sm_pmax.2 (.code Lib.Math.max.name Lib.Math.max.code 2 (some .int)) = true := by decide +kernel
theorem sm_ok_min : sm_at sm_pmin.1 (.static Lib.Math.min.name) = true ∧ sm_at sm_pmin.2 (.code Lib.Math.min.name Lib.Math.min.code 2 (some .int)) = true := by decide +kernel
theorem sm_ok_math : Cond.initialized "java/lang/Math" ∈ lw_tbl := List.mem_of_getElem? (i := 44) (by decide +kernel)
theorem sm_ok_obj : Cond.instanceMethod objectInit ∈ lw_tbl ∧ Cond.code objectInit ⟨#[0xb1]⟩ 1 none ∈ lw_tbl := ⟨List.mem_of_getElem? (i := 59) (by decide +kernel), List.mem_of_getElem? (i := 60) (by decide +kernel)⟩
theorem sm_okM_0 : (List.range 8).all (fun i => sm_okM (0 + i)) = true := by decide +kernel
theorem sm_okM_1 : (List.range 8).all (fun i => sm_okM (8 + i)) = true := by decide +kernel
theorem sm_okM_2 : (List.range 8).all (fun i => sm_okM (16 + i)) = true := by decide +kernel
theorem sm_okM_3 : (List.range 8).all (fun i => sm_okM (24 + i)) = true := by decide +kernel
theorem sm_okM_4 : (List.range 8).all (fun i => sm_okM (32 + i)) = true := by decide +kernel
theorem sm_okM_5 : (List.range 8).all (fun i => sm_okM (40 + i)) = true := by decide +kernel
theorem sm_okM_6 : (List.range 8).all (fun i => sm_okM (48 + i)) = true := by decide +kernel
theorem sm_okM_7 : (List.range 8).all (fun i => sm_okM (56 + i)) = true := by decide +kernel
theorem sm_okM_8 : (List.range 8).all (fun i => sm_okM (64 + i)) = true := by decide +kernel
theorem sm_okM_9 : (List.range 8).all (fun i => sm_okM (72 + i)) = true := by decide +kernel
theorem sm_okM_10 : (List.range 8).all (fun i => sm_okM (80 + i)) = true := by decide +kernel
theorem sm_okM_11 : (List.range 8).all (fun i => sm_okM (88 + i)) = true := by decide +kernel
theorem sm_okM_12 : (List.range 8).all (fun i => sm_okM (96 + i)) = true := by decide +kernel
theorem sm_okM_13 : (List.range 8).all (fun i => sm_okM (104 + i)) = true := by decide +kernel
theorem sm_okM_14 : (List.range 8).all (fun i => sm_okM (112 + i)) = true := by decide +kernel
theorem sm_okM_15 : (List.range 8).all (fun i => sm_okM (120 + i)) = true := by decide +kernel
theorem sm_okM_16 : (List.range 8).all (fun i => sm_okM (128 + i)) = true := by decide +kernel
theorem sm_okM_17 : (List.range 8).all (fun i => sm_okM (136 + i)) = true := by decide +kernel
theorem sm_okM_18 : (List.range 8).all (fun i => sm_okM (144 + i)) = true := by decide +kernel
theorem sm_okM_19 : (List.range 8).all (fun i => sm_okM (152 + i)) = true := by decide +kernel
theorem sm_okM_20 : (List.range 8).all (fun i => sm_okM (160 + i)) = true := by decide +kernel
theorem sm_okM_21 : (List.range 8).all (fun i => sm_okM (168 + i)) = true := by decide +kernel
theorem sm_okM_22 : (List.range 8).all (fun i => sm_okM (176 + i)) = true := by decide +kernel
theorem sm_okM_23 : (List.range 4).all (fun i => sm_okM (184 + i)) = true := by decide +kernel
theorem sm_okM_all {j : Nat} (h : j < sm_N) : sm_okM j = true := by
  unfold sm_N at h
  have key : ∀ (a n : Nat), (List.range n).all (fun i => sm_okM (a + i)) = true → a ≤ j → j < a + n → sm_okM j = true := fun a n h1 h2 h3 => by
    have := List.all_eq_true.mp h1 (j - a) (List.mem_range.mpr (by omega))
    rwa [show a + (j - a) = j by omega] at this
  by_cases h0 : j < 8
  · exact key _ _ sm_okM_0 (by omega) (by omega)
  by_cases h1 : j < 16
  · exact key _ _ sm_okM_1 (by omega) (by omega)
  by_cases h2 : j < 24
  · exact key _ _ sm_okM_2 (by omega) (by omega)
  by_cases h3 : j < 32
  · exact key _ _ sm_okM_3 (by omega) (by omega)
  by_cases h4 : j < 40
  · exact key _ _ sm_okM_4 (by omega) (by omega)
  by_cases h5 : j < 48
  · exact key _ _ sm_okM_5 (by omega) (by omega)
  by_cases h6 : j < 56
  · exact key _ _ sm_okM_6 (by omega) (by omega)
  by_cases h7 : j < 64
  · exact key _ _ sm_okM_7 (by omega) (by omega)
  by_cases h8 : j < 72
  · exact key _ _ sm_okM_8 (by omega) (by omega)
  by_cases h9 : j < 80
  · exact key _ _ sm_okM_9 (by omega) (by omega)
  by_cases h10 : j < 88
  · exact key _ _ sm_okM_10 (by omega) (by omega)
  by_cases h11 : j < 96
  · exact key _ _ sm_okM_11 (by omega) (by omega)
  by_cases h12 : j < 104
  · exact key _ _ sm_okM_12 (by omega) (by omega)
  by_cases h13 : j < 112
  · exact key _ _ sm_okM_13 (by omega) (by omega)
  by_cases h14 : j < 120
  · exact key _ _ sm_okM_14 (by omega) (by omega)
  by_cases h15 : j < 128
  · exact key _ _ sm_okM_15 (by omega) (by omega)
  by_cases h16 : j < 136
  · exact key _ _ sm_okM_16 (by omega) (by omega)
  by_cases h17 : j < 144
  · exact key _ _ sm_okM_17 (by omega) (by omega)
  by_cases h18 : j < 152
  · exact key _ _ sm_okM_18 (by omega) (by omega)
  by_cases h19 : j < 160
  · exact key _ _ sm_okM_19 (by omega) (by omega)
  by_cases h20 : j < 168
  · exact key _ _ sm_okM_20 (by omega) (by omega)
  by_cases h21 : j < 176
  · exact key _ _ sm_okM_21 (by omega) (by omega)
  by_cases h22 : j < 184
  · exact key _ _ sm_okM_22 (by omega) (by omega)
  by_cases h23 : j < 188
  · exact key _ _ sm_okM_23 (by omega) (by omega)
  omega
def sm_okL (ci k : Nat) : Bool := sm_at (sm_fd ci k).2.2.2.2 (u_lay (sm_cn ci) (sm_T ci) k) && decide (parseFieldDescriptor (sm_T ci k).2.2.1 = some (sm_ty ci k)) && (List.range (sm_nf ci)).all (fun b => decide (k = b) || decide ((sm_T ci k).2.1 ≠ (sm_T ci b).2.1))
def sm_okI (ci : Nat) : Bool := sm_at (sm_inst.getD ci (0, 0)).1 (.instantiable (sm_cn ci) (sm_nf ci)) && sm_at (sm_inst.getD ci (0, 0)).2 (.initialized (sm_cn ci)) && (List.range (sm_nf ci)).all (sm_okL ci)
theorem sm_okI_all : (List.range 8).all sm_okI = true := by decide +kernel
def sm_okP (j pc : Nat) : Bool := match sm_ic j pc with
  | some e => sm_okE j pc e
  | none => true
end
section
/-! every decoded row is what the bytes say, and what it links is a word of the tables -/
def sm_okC (j : Nat) : Bool := (List.range (sm_cs.getD j []).length).all (sm_okP j)
theorem sm_okC_0 : (List.range 16).all (fun i => sm_okC (0 + i)) = true := by decide +kernel
theorem sm_okC_1 : (List.range 5).all (fun i => sm_okC (16 + i)) = true := by decide +kernel
theorem sm_okP_21_0 : (List.range 75).all (fun i => sm_okP 21 (0 + i)) = true := by decide +kernel
theorem sm_okP_21_1 : (List.range 75).all (fun i => sm_okP 21 (75 + i)) = true := by decide +kernel
theorem sm_okP_21_2 : (List.range 9).all (fun i => sm_okP 21 (150 + i)) = true := by decide +kernel
theorem sm_okC_2 : sm_okC 21 = true := by
  have hlen : (sm_cs.getD 21 []).length = 159 := by decide +kernel
  unfold sm_okC
  rw [hlen]
  refine List.all_eq_true.mpr fun pc hpc => ?_
  have hpc := List.mem_range.mp hpc
  have key : ∀ (a n : Nat), (List.range n).all (fun i => sm_okP 21 (a + i)) = true → a ≤ pc → pc < a + n → sm_okP 21 pc = true := fun a n h1 h2 h3 => by
    have := List.all_eq_true.mp h1 (pc - a) (List.mem_range.mpr (by omega))
    rwa [show a + (pc - a) = pc by omega] at this
  by_cases h0 : pc < 75
  · exact key _ _ sm_okP_21_0 (by omega) (by omega)
  by_cases h1 : pc < 150
  · exact key _ _ sm_okP_21_1 (by omega) (by omega)
  by_cases h2 : pc < 159
  · exact key _ _ sm_okP_21_2 (by omega) (by omega)
  omega
theorem sm_okC_3 : (List.range 10).all (fun i => sm_okC (22 + i)) = true := by decide +kernel
theorem sm_okC_4 : (List.range 6).all (fun i => sm_okC (32 + i)) = true := by decide +kernel
theorem sm_okC_5 : (List.range 9).all (fun i => sm_okC (38 + i)) = true := by decide +kernel
theorem sm_okC_6 : (List.range 16).all (fun i => sm_okC (47 + i)) = true := by decide +kernel
theorem sm_okC_7 : (List.range 8).all (fun i => sm_okC (63 + i)) = true := by decide +kernel
theorem sm_okC_8 : (List.range 8).all (fun i => sm_okC (71 + i)) = true := by decide +kernel
theorem sm_okC_9 : (List.range 16).all (fun i => sm_okC (79 + i)) = true := by decide +kernel
theorem sm_okC_10 : (List.range 6).all (fun i => sm_okC (95 + i)) = true := by decide +kernel
theorem sm_okC_11 : (List.range 1).all (fun i => sm_okC (101 + i)) = true := by decide +kernel
theorem sm_okC_12 : (List.range 2).all (fun i => sm_okC (102 + i)) = true := by decide +kernel
theorem sm_okC_13 : (List.range 2).all (fun i => sm_okC (104 + i)) = true := by decide +kernel
theorem sm_okC_14 : (List.range 5).all (fun i => sm_okC (106 + i)) = true := by decide +kernel
theorem sm_okC_15 : (List.range 4).all (fun i => sm_okC (111 + i)) = true := by decide +kernel
theorem sm_okP_115_0 : (List.range 62).all (fun i => sm_okP 115 (0 + i)) = true := by decide +kernel
theorem sm_okP_115_1 : (List.range 62).all (fun i => sm_okP 115 (62 + i)) = true := by decide +kernel
theorem sm_okP_115_2 : (List.range 62).all (fun i => sm_okP 115 (124 + i)) = true := by decide +kernel
theorem sm_okP_115_3 : (List.range 6).all (fun i => sm_okP 115 (186 + i)) = true := by decide +kernel
theorem sm_okC_16 : sm_okC 115 = true := by
  have hlen : (sm_cs.getD 115 []).length = 192 := by decide +kernel
  unfold sm_okC
  rw [hlen]
  refine List.all_eq_true.mpr fun pc hpc => ?_
  have hpc := List.mem_range.mp hpc
  have key : ∀ (a n : Nat), (List.range n).all (fun i => sm_okP 115 (a + i)) = true → a ≤ pc → pc < a + n → sm_okP 115 pc = true := fun a n h1 h2 h3 => by
    have := List.all_eq_true.mp h1 (pc - a) (List.mem_range.mpr (by omega))
    rwa [show a + (pc - a) = pc by omega] at this
  by_cases h0 : pc < 62
  · exact key _ _ sm_okP_115_0 (by omega) (by omega)
  by_cases h1 : pc < 124
  · exact key _ _ sm_okP_115_1 (by omega) (by omega)
  by_cases h2 : pc < 186
  · exact key _ _ sm_okP_115_2 (by omega) (by omega)
  by_cases h3 : pc < 192
  · exact key _ _ sm_okP_115_3 (by omega) (by omega)
  omega
theorem sm_okC_17 : (List.range 5).all (fun i => sm_okC (116 + i)) = true := by decide +kernel
theorem sm_okC_18 : (List.range 3).all (fun i => sm_okC (121 + i)) = true := by decide +kernel
theorem sm_okC_19 : (List.range 1).all (fun i => sm_okC (124 + i)) = true := by decide +kernel
theorem sm_okP_125_0 : (List.range 70).all (fun i => sm_okP 125 (0 + i)) = true := by decide +kernel
theorem sm_okP_125_1 : (List.range 70).all (fun i => sm_okP 125 (70 + i)) = true := by decide +kernel
theorem sm_okP_125_2 : (List.range 31).all (fun i => sm_okP 125 (140 + i)) = true := by decide +kernel
theorem sm_okC_20 : sm_okC 125 = true := by
  have hlen : (sm_cs.getD 125 []).length = 171 := by decide +kernel
  unfold sm_okC
  rw [hlen]
  refine List.all_eq_true.mpr fun pc hpc => ?_
  have hpc := List.mem_range.mp hpc
  have key : ∀ (a n : Nat), (List.range n).all (fun i => sm_okP 125 (a + i)) = true → a ≤ pc → pc < a + n → sm_okP 125 pc = true := fun a n h1 h2 h3 => by
    have := List.all_eq_true.mp h1 (pc - a) (List.mem_range.mpr (by omega))
    rwa [show a + (pc - a) = pc by omega] at this
  by_cases h0 : pc < 70
  · exact key _ _ sm_okP_125_0 (by omega) (by omega)
  by_cases h1 : pc < 140
  · exact key _ _ sm_okP_125_1 (by omega) (by omega)
  by_cases h2 : pc < 171
  · exact key _ _ sm_okP_125_2 (by omega) (by omega)
  omega
theorem sm_okC_21 : (List.range 2).all (fun i => sm_okC (126 + i)) = true := by decide +kernel
theorem sm_okP_128_0 : (List.range 46).all (fun i => sm_okP 128 (0 + i)) = true := by decide +kernel
theorem sm_okP_128_1 : (List.range 46).all (fun i => sm_okP 128 (46 + i)) = true := by decide +kernel
theorem sm_okP_128_2 : (List.range 46).all (fun i => sm_okP 128 (92 + i)) = true := by decide +kernel
theorem sm_okP_128_3 : (List.range 46).all (fun i => sm_okP 128 (138 + i)) = true := by decide +kernel
theorem sm_okP_128_4 : (List.range 46).all (fun i => sm_okP 128 (184 + i)) = true := by decide +kernel
theorem sm_okP_128_5 : (List.range 26).all (fun i => sm_okP 128 (230 + i)) = true := by decide +kernel
theorem sm_okC_22 : sm_okC 128 = true := by
  have hlen : (sm_cs.getD 128 []).length = 256 := by decide +kernel
  unfold sm_okC
  rw [hlen]
  refine List.all_eq_true.mpr fun pc hpc => ?_
  have hpc := List.mem_range.mp hpc
  have key : ∀ (a n : Nat), (List.range n).all (fun i => sm_okP 128 (a + i)) = true → a ≤ pc → pc < a + n → sm_okP 128 pc = true := fun a n h1 h2 h3 => by
    have := List.all_eq_true.mp h1 (pc - a) (List.mem_range.mpr (by omega))
    rwa [show a + (pc - a) = pc by omega] at this
  by_cases h0 : pc < 46
  · exact key _ _ sm_okP_128_0 (by omega) (by omega)
  by_cases h1 : pc < 92
  · exact key _ _ sm_okP_128_1 (by omega) (by omega)
  by_cases h2 : pc < 138
  · exact key _ _ sm_okP_128_2 (by omega) (by omega)
  by_cases h3 : pc < 184
  · exact key _ _ sm_okP_128_3 (by omega) (by omega)
  by_cases h4 : pc < 230
  · exact key _ _ sm_okP_128_4 (by omega) (by omega)
  by_cases h5 : pc < 256
  · exact key _ _ sm_okP_128_5 (by omega) (by omega)
  omega
theorem sm_okC_23 : (List.range 8).all (fun i => sm_okC (129 + i)) = true := by decide +kernel
theorem sm_okP_137_0 : (List.range 54).all (fun i => sm_okP 137 (0 + i)) = true := by decide +kernel
theorem sm_okP_137_1 : (List.range 54).all (fun i => sm_okP 137 (54 + i)) = true := by decide +kernel
theorem sm_okP_137_2 : (List.range 54).all (fun i => sm_okP 137 (108 + i)) = true := by decide +kernel
theorem sm_okP_137_3 : (List.range 54).all (fun i => sm_okP 137 (162 + i)) = true := by decide +kernel
theorem sm_okP_137_4 : (List.range 3).all (fun i => sm_okP 137 (216 + i)) = true := by decide +kernel
theorem sm_okC_24 : sm_okC 137 = true := by
  have hlen : (sm_cs.getD 137 []).length = 219 := by decide +kernel
  unfold sm_okC
  rw [hlen]
  refine List.all_eq_true.mpr fun pc hpc => ?_
  have hpc := List.mem_range.mp hpc
  have key : ∀ (a n : Nat), (List.range n).all (fun i => sm_okP 137 (a + i)) = true → a ≤ pc → pc < a + n → sm_okP 137 pc = true := fun a n h1 h2 h3 => by
    have := List.all_eq_true.mp h1 (pc - a) (List.mem_range.mpr (by omega))
    rwa [show a + (pc - a) = pc by omega] at this
  by_cases h0 : pc < 54
  · exact key _ _ sm_okP_137_0 (by omega) (by omega)
  by_cases h1 : pc < 108
  · exact key _ _ sm_okP_137_1 (by omega) (by omega)
  by_cases h2 : pc < 162
  · exact key _ _ sm_okP_137_2 (by omega) (by omega)
  by_cases h3 : pc < 216
  · exact key _ _ sm_okP_137_3 (by omega) (by omega)
  by_cases h4 : pc < 219
  · exact key _ _ sm_okP_137_4 (by omega) (by omega)
  omega
theorem sm_okC_25 : (List.range 2).all (fun i => sm_okC (138 + i)) = true := by decide +kernel
theorem sm_okC_26 : (List.range 1).all (fun i => sm_okC (140 + i)) = true := by decide +kernel
theorem sm_okC_27 : (List.range 1).all (fun i => sm_okC (141 + i)) = true := by decide +kernel
theorem sm_okP_142_0 : (List.range 50).all (fun i => sm_okP 142 (0 + i)) = true := by decide +kernel
theorem sm_okP_142_1 : (List.range 50).all (fun i => sm_okP 142 (50 + i)) = true := by decide +kernel
theorem sm_okP_142_2 : (List.range 50).all (fun i => sm_okP 142 (100 + i)) = true := by decide +kernel
theorem sm_okP_142_3 : (List.range 50).all (fun i => sm_okP 142 (150 + i)) = true := by decide +kernel
theorem sm_okP_142_4 : (List.range 40).all (fun i => sm_okP 142 (200 + i)) = true := by decide +kernel
theorem sm_okC_28 : sm_okC 142 = true := by
  have hlen : (sm_cs.getD 142 []).length = 240 := by decide +kernel
  unfold sm_okC
  rw [hlen]
  refine List.all_eq_true.mpr fun pc hpc => ?_
  have hpc := List.mem_range.mp hpc
  have key : ∀ (a n : Nat), (List.range n).all (fun i => sm_okP 142 (a + i)) = true → a ≤ pc → pc < a + n → sm_okP 142 pc = true := fun a n h1 h2 h3 => by
    have := List.all_eq_true.mp h1 (pc - a) (List.mem_range.mpr (by omega))
    rwa [show a + (pc - a) = pc by omega] at this
  by_cases h0 : pc < 50
  · exact key _ _ sm_okP_142_0 (by omega) (by omega)
  by_cases h1 : pc < 100
  · exact key _ _ sm_okP_142_1 (by omega) (by omega)
  by_cases h2 : pc < 150
  · exact key _ _ sm_okP_142_2 (by omega) (by omega)
  by_cases h3 : pc < 200
  · exact key _ _ sm_okP_142_3 (by omega) (by omega)
  by_cases h4 : pc < 240
  · exact key _ _ sm_okP_142_4 (by omega) (by omega)
  omega
theorem sm_okC_29 : (List.range 7).all (fun i => sm_okC (143 + i)) = true := by decide +kernel
theorem sm_okC_30 : (List.range 2).all (fun i => sm_okC (150 + i)) = true := by decide +kernel
theorem sm_okC_31 : (List.range 2).all (fun i => sm_okC (152 + i)) = true := by decide +kernel
theorem sm_okP_154_0 : (List.range 53).all (fun i => sm_okP 154 (0 + i)) = true := by decide +kernel
theorem sm_okP_154_1 : (List.range 53).all (fun i => sm_okP 154 (53 + i)) = true := by decide +kernel
theorem sm_okP_154_2 : (List.range 53).all (fun i => sm_okP 154 (106 + i)) = true := by decide +kernel
theorem sm_okP_154_3 : (List.range 53).all (fun i => sm_okP 154 (159 + i)) = true := by decide +kernel
theorem sm_okP_154_4 : (List.range 13).all (fun i => sm_okP 154 (212 + i)) = true := by decide +kernel
theorem sm_okC_32 : sm_okC 154 = true := by
  have hlen : (sm_cs.getD 154 []).length = 225 := by decide +kernel
  unfold sm_okC
  rw [hlen]
  refine List.all_eq_true.mpr fun pc hpc => ?_
  have hpc := List.mem_range.mp hpc
  have key : ∀ (a n : Nat), (List.range n).all (fun i => sm_okP 154 (a + i)) = true → a ≤ pc → pc < a + n → sm_okP 154 pc = true := fun a n h1 h2 h3 => by
    have := List.all_eq_true.mp h1 (pc - a) (List.mem_range.mpr (by omega))
    rwa [show a + (pc - a) = pc by omega] at this
  by_cases h0 : pc < 53
  · exact key _ _ sm_okP_154_0 (by omega) (by omega)
  by_cases h1 : pc < 106
  · exact key _ _ sm_okP_154_1 (by omega) (by omega)
  by_cases h2 : pc < 159
  · exact key _ _ sm_okP_154_2 (by omega) (by omega)
  by_cases h3 : pc < 212
  · exact key _ _ sm_okP_154_3 (by omega) (by omega)
  by_cases h4 : pc < 225
  · exact key _ _ sm_okP_154_4 (by omega) (by omega)
  omega
theorem sm_okC_33 : (List.range 10).all (fun i => sm_okC (155 + i)) = true := by decide +kernel
theorem sm_okC_34 : (List.range 6).all (fun i => sm_okC (165 + i)) = true := by decide +kernel
theorem sm_okC_35 : (List.range 2).all (fun i => sm_okC (171 + i)) = true := by decide +kernel
theorem sm_okP_173_0 : (List.range 50).all (fun i => sm_okP 173 (0 + i)) = true := by decide +kernel
theorem sm_okP_173_1 : (List.range 50).all (fun i => sm_okP 173 (50 + i)) = true := by decide +kernel
theorem sm_okP_173_2 : (List.range 50).all (fun i => sm_okP 173 (100 + i)) = true := by decide +kernel
theorem sm_okP_173_3 : (List.range 50).all (fun i => sm_okP 173 (150 + i)) = true := by decide +kernel
theorem sm_okP_173_4 : (List.range 38).all (fun i => sm_okP 173 (200 + i)) = true := by decide +kernel
theorem sm_okC_36 : sm_okC 173 = true := by
  have hlen : (sm_cs.getD 173 []).length = 238 := by decide +kernel
  unfold sm_okC
  rw [hlen]
  refine List.all_eq_true.mpr fun pc hpc => ?_
  have hpc := List.mem_range.mp hpc
  have key : ∀ (a n : Nat), (List.range n).all (fun i => sm_okP 173 (a + i)) = true → a ≤ pc → pc < a + n → sm_okP 173 pc = true := fun a n h1 h2 h3 => by
    have := List.all_eq_true.mp h1 (pc - a) (List.mem_range.mpr (by omega))
    rwa [show a + (pc - a) = pc by omega] at this
  by_cases h0 : pc < 50
  · exact key _ _ sm_okP_173_0 (by omega) (by omega)
  by_cases h1 : pc < 100
  · exact key _ _ sm_okP_173_1 (by omega) (by omega)
  by_cases h2 : pc < 150
  · exact key _ _ sm_okP_173_2 (by omega) (by omega)
  by_cases h3 : pc < 200
  · exact key _ _ sm_okP_173_3 (by omega) (by omega)
  by_cases h4 : pc < 238
  · exact key _ _ sm_okP_173_4 (by omega) (by omega)
  omega
theorem sm_okC_37 : (List.range 1).all (fun i => sm_okC (174 + i)) = true := by decide +kernel
theorem sm_okC_38 : (List.range 1).all (fun i => sm_okC (175 + i)) = true := by decide +kernel
theorem sm_okC_39 : (List.range 3).all (fun i => sm_okC (176 + i)) = true := by decide +kernel
theorem sm_okP_179_0 : (List.range 51).all (fun i => sm_okP 179 (0 + i)) = true := by decide +kernel
theorem sm_okP_179_1 : (List.range 51).all (fun i => sm_okP 179 (51 + i)) = true := by decide +kernel
theorem sm_okP_179_2 : (List.range 51).all (fun i => sm_okP 179 (102 + i)) = true := by decide +kernel
theorem sm_okP_179_3 : (List.range 51).all (fun i => sm_okP 179 (153 + i)) = true := by decide +kernel
theorem sm_okP_179_4 : (List.range 28).all (fun i => sm_okP 179 (204 + i)) = true := by decide +kernel
theorem sm_okC_40 : sm_okC 179 = true := by
  have hlen : (sm_cs.getD 179 []).length = 232 := by decide +kernel
  unfold sm_okC
  rw [hlen]
  refine List.all_eq_true.mpr fun pc hpc => ?_
  have hpc := List.mem_range.mp hpc
  have key : ∀ (a n : Nat), (List.range n).all (fun i => sm_okP 179 (a + i)) = true → a ≤ pc → pc < a + n → sm_okP 179 pc = true := fun a n h1 h2 h3 => by
    have := List.all_eq_true.mp h1 (pc - a) (List.mem_range.mpr (by omega))
    rwa [show a + (pc - a) = pc by omega] at this
  by_cases h0 : pc < 51
  · exact key _ _ sm_okP_179_0 (by omega) (by omega)
  by_cases h1 : pc < 102
  · exact key _ _ sm_okP_179_1 (by omega) (by omega)
  by_cases h2 : pc < 153
  · exact key _ _ sm_okP_179_2 (by omega) (by omega)
  by_cases h3 : pc < 204
  · exact key _ _ sm_okP_179_3 (by omega) (by omega)
  by_cases h4 : pc < 232
  · exact key _ _ sm_okP_179_4 (by omega) (by omega)
  omega
theorem sm_okP_180_0 : (List.range 48).all (fun i => sm_okP 180 (0 + i)) = true := by decide +kernel
theorem sm_okP_180_1 : (List.range 48).all (fun i => sm_okP 180 (48 + i)) = true := by decide +kernel
theorem sm_okP_180_2 : (List.range 48).all (fun i => sm_okP 180 (96 + i)) = true := by decide +kernel
theorem sm_okP_180_3 : (List.range 48).all (fun i => sm_okP 180 (144 + i)) = true := by decide +kernel
theorem sm_okP_180_4 : (List.range 48).all (fun i => sm_okP 180 (192 + i)) = true := by decide +kernel
theorem sm_okP_180_5 : (List.range 7).all (fun i => sm_okP 180 (240 + i)) = true := by decide +kernel
theorem sm_okC_41 : sm_okC 180 = true := by
  have hlen : (sm_cs.getD 180 []).length = 247 := by decide +kernel
  unfold sm_okC
  rw [hlen]
  refine List.all_eq_true.mpr fun pc hpc => ?_
  have hpc := List.mem_range.mp hpc
  have key : ∀ (a n : Nat), (List.range n).all (fun i => sm_okP 180 (a + i)) = true → a ≤ pc → pc < a + n → sm_okP 180 pc = true := fun a n h1 h2 h3 => by
    have := List.all_eq_true.mp h1 (pc - a) (List.mem_range.mpr (by omega))
    rwa [show a + (pc - a) = pc by omega] at this
  by_cases h0 : pc < 48
  · exact key _ _ sm_okP_180_0 (by omega) (by omega)
  by_cases h1 : pc < 96
  · exact key _ _ sm_okP_180_1 (by omega) (by omega)
  by_cases h2 : pc < 144
  · exact key _ _ sm_okP_180_2 (by omega) (by omega)
  by_cases h3 : pc < 192
  · exact key _ _ sm_okP_180_3 (by omega) (by omega)
  by_cases h4 : pc < 240
  · exact key _ _ sm_okP_180_4 (by omega) (by omega)
  by_cases h5 : pc < 247
  · exact key _ _ sm_okP_180_5 (by omega) (by omega)
  omega
theorem sm_okC_42 : (List.range 2).all (fun i => sm_okC (181 + i)) = true := by decide +kernel
theorem sm_okP_183_0 : (List.range 52).all (fun i => sm_okP 183 (0 + i)) = true := by decide +kernel
theorem sm_okP_183_1 : (List.range 52).all (fun i => sm_okP 183 (52 + i)) = true := by decide +kernel
theorem sm_okP_183_2 : (List.range 52).all (fun i => sm_okP 183 (104 + i)) = true := by decide +kernel
theorem sm_okP_183_3 : (List.range 52).all (fun i => sm_okP 183 (156 + i)) = true := by decide +kernel
theorem sm_okP_183_4 : (List.range 22).all (fun i => sm_okP 183 (208 + i)) = true := by decide +kernel
theorem sm_okC_43 : sm_okC 183 = true := by
  have hlen : (sm_cs.getD 183 []).length = 230 := by decide +kernel
  unfold sm_okC
  rw [hlen]
  refine List.all_eq_true.mpr fun pc hpc => ?_
  have hpc := List.mem_range.mp hpc
  have key : ∀ (a n : Nat), (List.range n).all (fun i => sm_okP 183 (a + i)) = true → a ≤ pc → pc < a + n → sm_okP 183 pc = true := fun a n h1 h2 h3 => by
    have := List.all_eq_true.mp h1 (pc - a) (List.mem_range.mpr (by omega))
    rwa [show a + (pc - a) = pc by omega] at this
  by_cases h0 : pc < 52
  · exact key _ _ sm_okP_183_0 (by omega) (by omega)
  by_cases h1 : pc < 104
  · exact key _ _ sm_okP_183_1 (by omega) (by omega)
  by_cases h2 : pc < 156
  · exact key _ _ sm_okP_183_2 (by omega) (by omega)
  by_cases h3 : pc < 208
  · exact key _ _ sm_okP_183_3 (by omega) (by omega)
  by_cases h4 : pc < 230
  · exact key _ _ sm_okP_183_4 (by omega) (by omega)
  omega
theorem sm_okC_44 : (List.range 2).all (fun i => sm_okC (184 + i)) = true := by decide +kernel
theorem sm_okC_45 : (List.range 2).all (fun i => sm_okC (186 + i)) = true := by decide +kernel
theorem sm_okP_188_0 : (List.range 20).all (fun i => sm_okP 188 (0 + i)) = true := by decide +kernel
theorem sm_okP_188_1 : (List.range 20).all (fun i => sm_okP 188 (20 + i)) = true := by decide +kernel
theorem sm_okP_188_2 : (List.range 20).all (fun i => sm_okP 188 (40 + i)) = true := by decide +kernel
theorem sm_okP_188_3 : (List.range 20).all (fun i => sm_okP 188 (60 + i)) = true := by decide +kernel
theorem sm_okP_188_4 : (List.range 20).all (fun i => sm_okP 188 (80 + i)) = true := by decide +kernel
theorem sm_okP_188_5 : (List.range 20).all (fun i => sm_okP 188 (100 + i)) = true := by decide +kernel
theorem sm_okP_188_6 : (List.range 20).all (fun i => sm_okP 188 (120 + i)) = true := by decide +kernel
theorem sm_okP_188_7 : (List.range 20).all (fun i => sm_okP 188 (140 + i)) = true := by decide +kernel
theorem sm_okP_188_8 : (List.range 20).all (fun i => sm_okP 188 (160 + i)) = true := by decide +kernel
theorem sm_okP_188_9 : (List.range 20).all (fun i => sm_okP 188 (180 + i)) = true := by decide +kernel
theorem sm_okP_188_10 : (List.range 20).all (fun i => sm_okP 188 (200 + i)) = true := by decide +kernel
theorem sm_okP_188_11 : (List.range 20).all (fun i => sm_okP 188 (220 + i)) = true := by decide +kernel
theorem sm_okP_188_12 : (List.range 20).all (fun i => sm_okP 188 (240 + i)) = true := by decide +kernel
theorem sm_okP_188_13 : (List.range 20).all (fun i => sm_okP 188 (260 + i)) = true := by decide +kernel
theorem sm_okP_188_14 : (List.range 20).all (fun i => sm_okP 188 (280 + i)) = true := by decide +kernel
theorem sm_okP_188_15 : (List.range 20).all (fun i => sm_okP 188 (300 + i)) = true := by decide +kernel
theorem sm_okP_188_16 : (List.range 20).all (fun i => sm_okP 188 (320 + i)) = true := by decide +kernel
theorem sm_okP_188_17 : (List.range 20).all (fun i => sm_okP 188 (340 + i)) = true := by decide +kernel
theorem sm_okP_188_18 : (List.range 20).all (fun i => sm_okP 188 (360 + i)) = true := by decide +kernel
theorem sm_okP_188_19 : (List.range 20).all (fun i => sm_okP 188 (380 + i)) = true := by decide +kernel
theorem sm_okP_188_20 : (List.range 20).all (fun i => sm_okP 188 (400 + i)) = true := by decide +kernel
theorem sm_okP_188_21 : (List.range 20).all (fun i => sm_okP 188 (420 + i)) = true := by decide +kernel
theorem sm_okP_188_22 : (List.range 20).all (fun i => sm_okP 188 (440 + i)) = true := by decide +kernel
theorem sm_okP_188_23 : (List.range 20).all (fun i => sm_okP 188 (460 + i)) = true := by decide +kernel
theorem sm_okP_188_24 : (List.range 20).all (fun i => sm_okP 188 (480 + i)) = true := by decide +kernel
theorem sm_okP_188_25 : (List.range 20).all (fun i => sm_okP 188 (500 + i)) = true := by decide +kernel
theorem sm_okP_188_26 : (List.range 20).all (fun i => sm_okP 188 (520 + i)) = true := by decide +kernel
theorem sm_okP_188_27 : (List.range 20).all (fun i => sm_okP 188 (540 + i)) = true := by decide +kernel
theorem sm_okP_188_28 : (List.range 20).all (fun i => sm_okP 188 (560 + i)) = true := by decide +kernel
theorem sm_okP_188_29 : (List.range 20).all (fun i => sm_okP 188 (580 + i)) = true := by decide +kernel
theorem sm_okP_188_30 : (List.range 20).all (fun i => sm_okP 188 (600 + i)) = true := by decide +kernel
theorem sm_okP_188_31 : (List.range 20).all (fun i => sm_okP 188 (620 + i)) = true := by decide +kernel
theorem sm_okP_188_32 : (List.range 20).all (fun i => sm_okP 188 (640 + i)) = true := by decide +kernel
theorem sm_okP_188_33 : (List.range 20).all (fun i => sm_okP 188 (660 + i)) = true := by decide +kernel
theorem sm_okP_188_34 : (List.range 20).all (fun i => sm_okP 188 (680 + i)) = true := by decide +kernel
theorem sm_okP_188_35 : (List.range 20).all (fun i => sm_okP 188 (700 + i)) = true := by decide +kernel
theorem sm_okP_188_36 : (List.range 20).all (fun i => sm_okP 188 (720 + i)) = true := by decide +kernel
theorem sm_okP_188_37 : (List.range 20).all (fun i => sm_okP 188 (740 + i)) = true := by decide +kernel
theorem sm_okP_188_38 : (List.range 20).all (fun i => sm_okP 188 (760 + i)) = true := by decide +kernel
theorem sm_okP_188_39 : (List.range 20).all (fun i => sm_okP 188 (780 + i)) = true := by decide +kernel
theorem sm_okP_188_40 : (List.range 20).all (fun i => sm_okP 188 (800 + i)) = true := by decide +kernel
theorem sm_okP_188_41 : (List.range 20).all (fun i => sm_okP 188 (820 + i)) = true := by decide +kernel
theorem sm_okP_188_42 : (List.range 20).all (fun i => sm_okP 188 (840 + i)) = true := by decide +kernel
theorem sm_okP_188_43 : (List.range 20).all (fun i => sm_okP 188 (860 + i)) = true := by decide +kernel
theorem sm_okP_188_44 : (List.range 20).all (fun i => sm_okP 188 (880 + i)) = true := by decide +kernel
theorem sm_okP_188_45 : (List.range 20).all (fun i => sm_okP 188 (900 + i)) = true := by decide +kernel
theorem sm_okP_188_46 : (List.range 3).all (fun i => sm_okP 188 (920 + i)) = true := by decide +kernel
theorem sm_okC_46 : sm_okC 188 = true := by
  have hlen : (sm_cs.getD 188 []).length = 923 := by decide +kernel
  unfold sm_okC
  rw [hlen]
  refine List.all_eq_true.mpr fun pc hpc => ?_
  have hpc := List.mem_range.mp hpc
  have key : ∀ (a n : Nat), (List.range n).all (fun i => sm_okP 188 (a + i)) = true → a ≤ pc → pc < a + n → sm_okP 188 pc = true := fun a n h1 h2 h3 => by
    have := List.all_eq_true.mp h1 (pc - a) (List.mem_range.mpr (by omega))
    rwa [show a + (pc - a) = pc by omega] at this
  by_cases h0 : pc < 20
  · exact key _ _ sm_okP_188_0 (by omega) (by omega)
  by_cases h1 : pc < 40
  · exact key _ _ sm_okP_188_1 (by omega) (by omega)
  by_cases h2 : pc < 60
  · exact key _ _ sm_okP_188_2 (by omega) (by omega)
  by_cases h3 : pc < 80
  · exact key _ _ sm_okP_188_3 (by omega) (by omega)
  by_cases h4 : pc < 100
  · exact key _ _ sm_okP_188_4 (by omega) (by omega)
  by_cases h5 : pc < 120
  · exact key _ _ sm_okP_188_5 (by omega) (by omega)
  by_cases h6 : pc < 140
  · exact key _ _ sm_okP_188_6 (by omega) (by omega)
  by_cases h7 : pc < 160
  · exact key _ _ sm_okP_188_7 (by omega) (by omega)
  by_cases h8 : pc < 180
  · exact key _ _ sm_okP_188_8 (by omega) (by omega)
  by_cases h9 : pc < 200
  · exact key _ _ sm_okP_188_9 (by omega) (by omega)
  by_cases h10 : pc < 220
  · exact key _ _ sm_okP_188_10 (by omega) (by omega)
  by_cases h11 : pc < 240
  · exact key _ _ sm_okP_188_11 (by omega) (by omega)
  by_cases h12 : pc < 260
  · exact key _ _ sm_okP_188_12 (by omega) (by omega)
  by_cases h13 : pc < 280
  · exact key _ _ sm_okP_188_13 (by omega) (by omega)
  by_cases h14 : pc < 300
  · exact key _ _ sm_okP_188_14 (by omega) (by omega)
  by_cases h15 : pc < 320
  · exact key _ _ sm_okP_188_15 (by omega) (by omega)
  by_cases h16 : pc < 340
  · exact key _ _ sm_okP_188_16 (by omega) (by omega)
  by_cases h17 : pc < 360
  · exact key _ _ sm_okP_188_17 (by omega) (by omega)
  by_cases h18 : pc < 380
  · exact key _ _ sm_okP_188_18 (by omega) (by omega)
  by_cases h19 : pc < 400
  · exact key _ _ sm_okP_188_19 (by omega) (by omega)
  by_cases h20 : pc < 420
  · exact key _ _ sm_okP_188_20 (by omega) (by omega)
  by_cases h21 : pc < 440
  · exact key _ _ sm_okP_188_21 (by omega) (by omega)
  by_cases h22 : pc < 460
  · exact key _ _ sm_okP_188_22 (by omega) (by omega)
  by_cases h23 : pc < 480
  · exact key _ _ sm_okP_188_23 (by omega) (by omega)
  by_cases h24 : pc < 500
  · exact key _ _ sm_okP_188_24 (by omega) (by omega)
  by_cases h25 : pc < 520
  · exact key _ _ sm_okP_188_25 (by omega) (by omega)
  by_cases h26 : pc < 540
  · exact key _ _ sm_okP_188_26 (by omega) (by omega)
  by_cases h27 : pc < 560
  · exact key _ _ sm_okP_188_27 (by omega) (by omega)
  by_cases h28 : pc < 580
  · exact key _ _ sm_okP_188_28 (by omega) (by omega)
  by_cases h29 : pc < 600
  · exact key _ _ sm_okP_188_29 (by omega) (by omega)
  by_cases h30 : pc < 620
  · exact key _ _ sm_okP_188_30 (by omega) (by omega)
  by_cases h31 : pc < 640
  · exact key _ _ sm_okP_188_31 (by omega) (by omega)
  by_cases h32 : pc < 660
  · exact key _ _ sm_okP_188_32 (by omega) (by omega)
  by_cases h33 : pc < 680
  · exact key _ _ sm_okP_188_33 (by omega) (by omega)
  by_cases h34 : pc < 700
  · exact key _ _ sm_okP_188_34 (by omega) (by omega)
  by_cases h35 : pc < 720
  · exact key _ _ sm_okP_188_35 (by omega) (by omega)
  by_cases h36 : pc < 740
  · exact key _ _ sm_okP_188_36 (by omega) (by omega)
  by_cases h37 : pc < 760
  · exact key _ _ sm_okP_188_37 (by omega) (by omega)
  by_cases h38 : pc < 780
  · exact key _ _ sm_okP_188_38 (by omega) (by omega)
  by_cases h39 : pc < 800
  · exact key _ _ sm_okP_188_39 (by omega) (by omega)
  by_cases h40 : pc < 820
  · exact key _ _ sm_okP_188_40 (by omega) (by omega)
  by_cases h41 : pc < 840
  · exact key _ _ sm_okP_188_41 (by omega) (by omega)
  by_cases h42 : pc < 860
  · exact key _ _ sm_okP_188_42 (by omega) (by omega)
  by_cases h43 : pc < 880
  · exact key _ _ sm_okP_188_43 (by omega) (by omega)
  by_cases h44 : pc < 900
  · exact key _ _ sm_okP_188_44 (by omega) (by omega)
  by_cases h45 : pc < 920
  · exact key _ _ sm_okP_188_45 (by omega) (by omega)
  by_cases h46 : pc < 923
  · exact key _ _ sm_okP_188_46 (by omega) (by omega)
  omega
theorem sm_okC_all {j : Nat} (h : j < 189) : sm_okC j = true := by
  have key : ∀ (a n : Nat), (List.range n).all (fun i => sm_okC (a + i)) = true → a ≤ j → j < a + n → sm_okC j = true := fun a n h1 h2 h3 => by
    have := List.all_eq_true.mp h1 (j - a) (List.mem_range.mpr (by omega))
    rwa [show a + (j - a) = j by omega] at this
  by_cases h0 : j < 16
  · exact key _ _ sm_okC_0 (by omega) (by omega)
  by_cases h1 : j < 21
  · exact key _ _ sm_okC_1 (by omega) (by omega)
  by_cases h2 : j < 22
  · have : j = 21 := by omega
    rw [this]; exact sm_okC_2
  by_cases h3 : j < 32
  · exact key _ _ sm_okC_3 (by omega) (by omega)
  by_cases h4 : j < 38
  · exact key _ _ sm_okC_4 (by omega) (by omega)
  by_cases h5 : j < 47
  · exact key _ _ sm_okC_5 (by omega) (by omega)
  by_cases h6 : j < 63
  · exact key _ _ sm_okC_6 (by omega) (by omega)
  by_cases h7 : j < 71
  · exact key _ _ sm_okC_7 (by omega) (by omega)
  by_cases h8 : j < 79
  · exact key _ _ sm_okC_8 (by omega) (by omega)
  by_cases h9 : j < 95
  · exact key _ _ sm_okC_9 (by omega) (by omega)
  by_cases h10 : j < 101
  · exact key _ _ sm_okC_10 (by omega) (by omega)
  by_cases h11 : j < 102
  · exact key _ _ sm_okC_11 (by omega) (by omega)
  by_cases h12 : j < 104
  · exact key _ _ sm_okC_12 (by omega) (by omega)
  by_cases h13 : j < 106
  · exact key _ _ sm_okC_13 (by omega) (by omega)
  by_cases h14 : j < 111
  · exact key _ _ sm_okC_14 (by omega) (by omega)
  by_cases h15 : j < 115
  · exact key _ _ sm_okC_15 (by omega) (by omega)
  by_cases h16 : j < 116
  · have : j = 115 := by omega
    rw [this]; exact sm_okC_16
  by_cases h17 : j < 121
  · exact key _ _ sm_okC_17 (by omega) (by omega)
  by_cases h18 : j < 124
  · exact key _ _ sm_okC_18 (by omega) (by omega)
  by_cases h19 : j < 125
  · exact key _ _ sm_okC_19 (by omega) (by omega)
  by_cases h20 : j < 126
  · have : j = 125 := by omega
    rw [this]; exact sm_okC_20
  by_cases h21 : j < 128
  · exact key _ _ sm_okC_21 (by omega) (by omega)
  by_cases h22 : j < 129
  · have : j = 128 := by omega
    rw [this]; exact sm_okC_22
  by_cases h23 : j < 137
  · exact key _ _ sm_okC_23 (by omega) (by omega)
  by_cases h24 : j < 138
  · have : j = 137 := by omega
    rw [this]; exact sm_okC_24
  by_cases h25 : j < 140
  · exact key _ _ sm_okC_25 (by omega) (by omega)
  by_cases h26 : j < 141
  · exact key _ _ sm_okC_26 (by omega) (by omega)
  by_cases h27 : j < 142
  · exact key _ _ sm_okC_27 (by omega) (by omega)
  by_cases h28 : j < 143
  · have : j = 142 := by omega
    rw [this]; exact sm_okC_28
  by_cases h29 : j < 150
  · exact key _ _ sm_okC_29 (by omega) (by omega)
  by_cases h30 : j < 152
  · exact key _ _ sm_okC_30 (by omega) (by omega)
  by_cases h31 : j < 154
  · exact key _ _ sm_okC_31 (by omega) (by omega)
  by_cases h32 : j < 155
  · have : j = 154 := by omega
    rw [this]; exact sm_okC_32
  by_cases h33 : j < 165
  · exact key _ _ sm_okC_33 (by omega) (by omega)
  by_cases h34 : j < 171
  · exact key _ _ sm_okC_34 (by omega) (by omega)
  by_cases h35 : j < 173
  · exact key _ _ sm_okC_35 (by omega) (by omega)
  by_cases h36 : j < 174
  · have : j = 173 := by omega
    rw [this]; exact sm_okC_36
  by_cases h37 : j < 175
  · exact key _ _ sm_okC_37 (by omega) (by omega)
  by_cases h38 : j < 176
  · exact key _ _ sm_okC_38 (by omega) (by omega)
  by_cases h39 : j < 179
  · exact key _ _ sm_okC_39 (by omega) (by omega)
  by_cases h40 : j < 180
  · have : j = 179 := by omega
    rw [this]; exact sm_okC_40
  by_cases h41 : j < 181
  · have : j = 180 := by omega
    rw [this]; exact sm_okC_41
  by_cases h42 : j < 183
  · exact key _ _ sm_okC_42 (by omega) (by omega)
  by_cases h43 : j < 184
  · have : j = 183 := by omega
    rw [this]; exact sm_okC_43
  by_cases h44 : j < 186
  · exact key _ _ sm_okC_44 (by omega) (by omega)
  by_cases h45 : j < 188
  · exact key _ _ sm_okC_45 (by omega) (by omega)
  by_cases h46 : j < 189
  · have : j = 188 := by omega
    rw [this]; exact sm_okC_46
  omega
end
section
/-! THE SMALL MACHINE: runs the decoded code over worlds that are plain data: a world is a list of cells, a reference is a place in it (from 1000001 on: the text of the class, its bytes, the formatter, the script) -/
abbrev sm_E : Type := (Nat × List Int32) ⊕ (List Int64 ⊕ (Nat × List Value))
abbrev sm_W : Type := List sm_E
abbrev sm_L : Type := List (Option Value)
def sm_text : List Int32 := ("i0,1,0,2;i0,3,0,1;i1,1,0,0;i2,0,1,3;i2,2,5,1;i2,0,4,0;i3,3,0,4;i0,0,0,2;b2;b3;d4;m6;h5;s3;".toList.map fun ch => Int32.ofNat ch.toNat)
def sm_ix {α : Type} (l : List α) (i : Int32) : Option α := if i < 0 then none else l[i.toNatClampNeg]?
def sm_nl (L : sm_L) (i : Nat) : Bool := match i with
  | 0 => true
  | k + 1 => match L[k]? with
    | some (some v) => v.category != 2
    | _ => true
def sm_st1 (ml : Nat) (L : sm_L) (i : Nat) (v : Value) : Option sm_L := if i < ml ∧ sm_nl L i = true then some (L.set i (some v)) else none
def sm_st2 (ml : Nat) (L : sm_L) (i : Nat) (v : Value) : Option sm_L := if i + 1 < ml ∧ sm_nl L i = true then some ((L.set i (some v)).set (i + 1) none) else none
def sm_cnd (c : Jvm.ClassFile.Cond) (x y : Int32) : Bool := match c with
  | .eq => decide (x = y)
  | .ne => decide (¬ x = y)
  | .lt => decide (x < y)
  | .ge => decide (y ≤ x)
  | .gt => decide (y < x)
  | .le => decide (x ≤ y)
/-- instructions of one byte that touch the stack alone -/
def sm_pure (i : Instr) (st : List Value) : Option (List Value) := match i with
  | .iadd => match st with | .int y :: .int x :: r => some (.int (x + y) :: r) | _ => none
  | .isub => match st with | .int y :: .int x :: r => some (.int (x - y) :: r) | _ => none
  | .imul => match st with | .int y :: .int x :: r => some (.int (x * y) :: r) | _ => none
  | .iand => match st with | .int y :: .int x :: r => some (.int (x &&& y) :: r) | _ => none
  | .ior => match st with | .int y :: .int x :: r => some (.int (x ||| y) :: r) | _ => none
  | .ixor => match st with | .int y :: .int x :: r => some (.int (x ^^^ y) :: r) | _ => none
  | .ishl => match st with | .int y :: .int x :: r => some (.int (x <<< (y &&& 31)) :: r) | _ => none
  | .ishr => match st with | .int y :: .int x :: r => some (.int (x >>> (y &&& 31)) :: r) | _ => none
  | .iushr => match st with | .int y :: .int x :: r => some (.int (x.toUInt32 >>> (y.toUInt32 &&& Int32.toUInt32 31)).toInt32 :: r) | _ => none
  | .idiv => match st with | .int y :: .int x :: r => if y = 0 then none else some (.int (x / y) :: r) | _ => none
  | .irem => match st with | .int y :: .int x :: r => if y = 0 then none else some (.int (x - x / y * y) :: r) | _ => none
  | .ladd => match st with | .long y :: .long x :: r => some (.long (x + y) :: r) | _ => none
  | .lsub => match st with | .long y :: .long x :: r => some (.long (x - y) :: r) | _ => none
  | .lmul => match st with | .long y :: .long x :: r => some (.long (x * y) :: r) | _ => none
  | .land => match st with | .long y :: .long x :: r => some (.long (x &&& y) :: r) | _ => none
  | .lor => match st with | .long y :: .long x :: r => some (.long (x ||| y) :: r) | _ => none
  | .lxor => match st with | .long y :: .long x :: r => some (.long (x ^^^ y) :: r) | _ => none
  | .lrem => match st with | .long y :: .long x :: r => if y = 0 then none else some (.long (x - x / y * y) :: r) | _ => none
  | .lshl => match st with | .int y :: .long x :: r => some (.long (x <<< (y.toInt64 &&& 63)) :: r) | _ => none
  | .lushr => match st with | .int y :: .long x :: r => some (.long (x.toUInt64 >>> (y.toInt64.toUInt64 &&& Int64.toUInt64 63)).toInt64 :: r) | _ => none
  | .lcmp => match st with | .long y :: .long x :: r => some (.int (lg_cmp x y) :: r) | _ => none
  | .i2l => match st with | .int x :: r => some (.long x.toInt64 :: r) | _ => none
  | .l2i => match st with | .long x :: r => some (.int x.toInt32 :: r) | _ => none
  | .i2c => match st with | .int x :: r => some (.int (x.toUInt32 % 65536).toInt32 :: r) | _ => none
  | .dup => match st with | v :: r => if v.category = 1 then some (v :: v :: r) else none | _ => none
  | .dup2 => match st with | v :: w :: r => if v.category = 1 ∧ w.category = 1 then some (v :: w :: v :: w :: r) else none | _ => none
  | .pop => match st with | v :: r => if v.category = 1 then some r else none | _ => none
  | _ => none
abbrev sm_O : Type := Option (Nat × sm_L × List Value × sm_W)
/-- jumps -/
def sm_jump (e : sm_I) (pc : Nat) (L : sm_L) (st : List Value) (wd : sm_W) : sm_O := match e.1 with
  | .goto off => if (pc : Int) + off = (e.2.1 : Int) then some (e.2.1, L, st, wd) else none
  | .ifCond c off => match st with
    | .int x :: r => if (pc : Int) + off = (e.2.1 : Int) then some (if sm_cnd c x 0 = true then e.2.1 else pc + 3, L, r, wd) else none
    | _ => none
  | .if_icmp c off => match st with
    | .int y :: .int x :: r => if (pc : Int) + off = (e.2.1 : Int) then some (if sm_cnd c x y = true then e.2.1 else pc + 3, L, r, wd) else none
    | _ => none
  | .tableswitch d lo hi offs => match st with
    | .int x :: r => if x.toInt < lo ∨ hi < x.toInt then (if 0 ≤ (pc : Int) + d then some (((pc : Int) + d).toNat, L, r, wd) else none)
      else match offs[(x.toInt - lo).toNat]? with
        | some off => if 0 ≤ (pc : Int) + off then some (((pc : Int) + off).toNat, L, r, wd) else none
        | none => none
    | _ => none
  | .lookupswitch d ps => match st with
    | .int x :: r => if (ps.toList.zip (ps.toList.drop 1)).all (fun (a, next) => a.1 < next.1) = true ∧ 0 ≤ (pc : Int) + Op.lookupswitch.offset ps.toList d x.toInt then some (((pc : Int) + Op.lookupswitch.offset ps.toList d x.toInt).toNat, L, r, wd) else none
    | _ => none
  | _ => none
/-- constants and locals -/
def sm_loc (ml : Nat) (e : sm_I) (pc : Nat) (L : sm_L) (st : List Value) (wd : sm_W) : sm_O := match e.1 with
  | .iconst n => some (pc + 1, L, .int (Int32.ofInt n) :: st, wd)
  | .bipush n => some (pc + 2, L, .int (Int8.ofInt n).toInt32 :: st, wd)
  | .sipush n => some (pc + 3, L, .int (Int16.ofInt n).toInt32 :: st, wd)
  | .lconst n => some (pc + 1, L, .long (Int64.ofNat (n : Nat)) :: st, wd)
  | .ldc _ => some (pc + 2, L, .ref 1000001 :: st, wd)
  | .ldc_w _ => if e.2.2.2 = 0 then none else some (pc + 3, L, .int (Int32.ofNat e.2.1) :: st, wd)
  | .ldc2_w _ => some (pc + 3, L, .long (sm_lv64 e.2.1 e.2.2.1) :: st, wd)
  | .iload i => match L[i]? with | some (some (.int x)) => some (pc + 2, L, .int x :: st, wd) | _ => none
  | .iload_n i => match L[(i : Nat)]? with | some (some (.int x)) => some (pc + 1, L, .int x :: st, wd) | _ => none
  | .lload i => match L[i]? with | some (some (.long x)) => some (pc + 2, L, .long x :: st, wd) | _ => none
  | .lload_n i => match L[(i : Nat)]? with | some (some (.long x)) => some (pc + 1, L, .long x :: st, wd) | _ => none
  | .aload i => match L[i]? with | some (some (.ref x)) => if x = 1000003 then none else some (pc + 2, L, .ref x :: st, wd) | _ => none
  | .aload_n i => match L[(i : Nat)]? with | some (some (.ref x)) => if x = 1000003 then none else some (pc + 1, L, .ref x :: st, wd) | _ => none
  | .istore i => match st with | .int x :: r => (sm_st1 ml L i (.int x)).map (fun L' => (pc + 2, L', r, wd)) | _ => none
  | .istore_n i => match st with | .int x :: r => (sm_st1 ml L (i : Nat) (.int x)).map (fun L' => (pc + 1, L', r, wd)) | _ => none
  | .lstore i => match st with | .long x :: r => (sm_st2 ml L i (.long x)).map (fun L' => (pc + 2, L', r, wd)) | _ => none
  | .lstore_n i => match st with | .long x :: r => (sm_st2 ml L (i : Nat) (.long x)).map (fun L' => (pc + 1, L', r, wd)) | _ => none
  | .astore_n i => match st with | .ref x :: r => if x = 1000003 then none else (sm_st1 ml L (i : Nat) (.ref x)).map (fun L' => (pc + 1, L', r, wd)) | _ => none
  | .iinc i n => match L[i]? with | some (some (.int x)) => (sm_st1 ml L i (.int (x + Int32.ofInt n))).map (fun L' => (pc + 3, L', st, wd)) | _ => none
  | _ => none
/-- the default value of a field -/
def sm_df (ty : FieldType) : Value := defaultValue ty
/-- cells -/
def sm_mem (xs : List Int32) (d : Nat) (e : sm_I) (pc : Nat) (L : sm_L) (st : List Value) (wd : sm_W) : sm_O := match e.1 with
  | .getfield _ => match st with
    | .ref k :: r =>
      if e.2.1 = 100 then (if k = 1000001 then some (pc + 3, L, (if e.2.2.1 = 0 then .int 0 else .ref 1000002) :: r, wd) else none)
      else match wd[k]? with
        | some (.inr (.inr (ci, fs))) => if ci = e.2.1 then (match fs[e.2.2.1]? with
          | some v => some (pc + 3, L, v :: r, wd)
          | none => none) else none
        | _ => none
    | _ => none
  | .putfield _ => match st with
    | v :: .ref k :: r => match wd[k]? with
      | some (.inr (.inr (ci, fs))) => if ci = e.2.1 ∧ e.2.2.1 < fs.length ∧ narrow (sm_ty e.2.1 e.2.2.1) v = v ∧ fits (sm_ty e.2.1 e.2.2.1) v = true then some (pc + 3, L, r, wd.set k (.inr (.inr (ci, fs.set e.2.2.1 v)))) else none
      | _ => none
    | _ => none
  | .getstatic _ => if e.2.1 = 0 then some (pc + 3, L, .int 1 :: st, wd) else if e.2.1 = 1 then some (pc + 3, L, .ref 1000003 :: st, wd) else none
  | .iaload => match st with
    | .int i :: .ref k :: r => if k = 1000004 then (match sm_ix xs i with
        | some x => some (pc + 1, L, .int x :: r, wd)
        | none => none)
      else match wd[k]? with
        | some (.inl (0, l)) => (match sm_ix l i with
          | some x => some (pc + 1, L, .int x :: r, wd)
          | none => none)
        | _ => none
    | _ => none
  | .caload => match st with
    | .int i :: .ref k :: r => match wd[k]? with
      | some (.inl (1, l)) => (match sm_ix l i with
        | some x => some (pc + 1, L, .int x :: r, wd)
        | none => none)
      | _ => none
    | _ => none
  | .baload => match st with
    | .int i :: .ref k :: r => if k = 1000002 then (match sm_ix sm_text i with
        | some x => some (pc + 1, L, .int x :: r, wd)
        | none => none) else none
    | _ => none
  | .laload => match st with
    | .int i :: .ref k :: r => match wd[k]? with
      | some (.inr (.inl l)) => (match sm_ix l i with
        | some x => some (pc + 1, L, .long x :: r, wd)
        | none => none)
      | _ => none
    | _ => none
  | .iastore => match st with
    | .int x :: .int i :: .ref k :: r => match wd[k]? with
      | some (.inl (0, l)) => if i < 0 ∨ l.length ≤ i.toNatClampNeg then none else some (pc + 1, L, r, wd.set k (.inl (0, l.set i.toNatClampNeg x)))
      | _ => none
    | _ => none
  | .castore => match st with
    | .int x :: .int i :: .ref k :: r => match wd[k]? with
      | some (.inl (1, l)) => if i < 0 ∨ l.length ≤ i.toNatClampNeg then none else some (pc + 1, L, r, wd.set k (.inl (1, l.set i.toNatClampNeg (vp_nar .char x))))
      | _ => none
    | _ => none
  | .lastore => match st with
    | .long x :: .int i :: .ref k :: r => match wd[k]? with
      | some (.inr (.inl l)) => if i < 0 ∨ l.length ≤ i.toNatClampNeg then none else some (pc + 1, L, r, wd.set k (.inr (.inl (l.set i.toNatClampNeg x))))
      | _ => none
    | _ => none
  | .arraylength => match st with
    | .ref k :: r => if k = 1000002 then some (pc + 1, L, .int (Int32.ofNat sm_text.length) :: r, wd) else if k = 1000004 then some (pc + 1, L, .int (Int32.ofNat xs.length) :: r, wd)
      else match wd[k]? with
        | some (.inl (_, l)) => some (pc + 1, L, .int (Int32.ofNat l.length) :: r, wd)
        | some (.inr (.inl l)) => some (pc + 1, L, .int (Int32.ofNat l.length) :: r, wd)
        | _ => none
    | _ => none
  | .new _ => if e.2.1 < 8 ∧ wd.length < 1000000 then some (pc + 3, L, .ref wd.length :: st, wd ++ [.inr (.inr (e.2.1, (List.range (sm_nf e.2.1)).map (fun k => defaultValue (sm_ty e.2.1 k))))]) else none
  | .newarray _ => match st with
    | .int n :: r => if n < 0 ∨ 100000 < n.toNatClampNeg ∨ 1000000 ≤ wd.length then none
      else if e.2.1 = 2 then some (pc + 2, L, .ref wd.length :: r, wd ++ [.inr (.inl (List.replicate n.toNatClampNeg 0))])
      else some (pc + 2, L, .ref wd.length :: r, wd ++ [.inl (e.2.1, List.replicate n.toNatClampNeg 0)])
    | _ => none
  | .invokespecial _ => match st with
    | .ref k :: r => if e.2.1 = 9999 ∧ 1 ≤ d ∧ k < 1000000 ∧ (r.map fun v => v.category).sum ≤ 8 then some (pc + 3, L, r, wd) else none
    | _ => none
  | .invokestatic _ => match st with
    | .int y :: .int x :: r => if 1 ≤ d ∧ (r.map fun v => v.category).sum ≤ 8 then (if e.2.1 = 9997 then some (pc + 3, L, .int (if x < y then y else x) :: r, wd) else if e.2.1 = 9996 then some (pc + 3, L, .int (if y < x then y else x) :: r, wd) else none) else none
    | _ => none
  | _ => none
/-- which of the tables an instruction belongs to -/
def sm_cls (i : Instr) : Nat := match i with
  | .goto _ | .ifCond _ _ | .if_icmp _ _ | .tableswitch .. | .lookupswitch .. => 1
  | .iconst _ | .bipush _ | .sipush _ | .lconst _ | .ldc _ | .ldc_w _ | .ldc2_w _ | .iload _ | .iload_n _ | .lload _ | .lload_n _ | .aload _ | .aload_n _ | .istore _ | .istore_n _ | .lstore _ | .lstore_n _ | .astore_n _ | .iinc _ _ => 2
  | .getfield _ | .putfield _ | .getstatic _ | .iaload | .caload | .baload | .laload | .iastore | .castore | .lastore | .arraylength | .new _ | .newarray _ | .invokespecial _ | .invokestatic _ => 3
  | _ => 0
def sm_step (xs : List Int32) (d ml : Nat) (e : sm_I) (pc : Nat) (L : sm_L) (st : List Value) (wd : sm_W) : sm_O := match sm_cls e.1 with
  | 0 => (sm_pure e.1 st).map (fun st' => (pc + 1, L, st', wd))
  | 1 => sm_jump e pc L st wd
  | 2 => sm_loc ml e pc L st wd
  | _ => sm_mem xs d e pc L st wd
def sm_exp : List Value → sm_L
  | [] => []
  | v :: r => if v.category = 2 then some v :: none :: sm_exp r else some v :: sm_exp r
def sm_ent (ml : Nat) (as : List Value) : sm_L := sm_exp as ++ List.replicate (ml - (sm_exp as).length) none
/-- a call of a method of the tables: which -/
def sm_call (e : sm_I) : Bool := match e.1 with
  | .invokevirtual _ | .invokestatic _ | .invokespecial _ => decide (e.2.1 < sm_N)
  | _ => false
def sm_recv (j n : Nat) (st : List Value) (wd : sm_W) : Bool := match sm_kd j with
  | 0 => true
  | 1 => match st[n - 1]? with
    | some (.ref k) => (match wd[k]? with
      | some (.inr (.inr (ci, _))) => decide (ci = sm_ci j)
      | _ => false)
    | _ => false
  | 2 => match st[n - 1]? with
    | some (.ref k) => decide (k < 1000000)
    | _ => false
  | _ => match st[n - 1]? with
    | some (.ref k) => decide (k = 1000001)
    | _ => false
def sm_ret (j : Nat) (i : Instr) (st : List Value) : Option (Option Value) := match i with
  | .ireturn => match st with
    | [.int v] => (match sm_rt j with
      | some ty => if narrow ty (.int v) = .int v ∧ ty ≠ .long then some (some (.int v)) else none
      | none => none)
    | _ => none
  | .lreturn => match st with
    | [.long v] => if sm_rt j = some .long then some (some (.long v)) else none
    | _ => none
  | .return_ => match st with
    | [] => if sm_rt j = none then some none else none
    | _ => none
  | _ => none
def sm_push (r : Option Value) (st : List Value) : List Value := match r with
  | some v => v :: st
  | none => st
def sm_run (xs : List Int32) : Nat → Nat → Nat → Nat → sm_L → List Value → sm_W → Option (Option Value × sm_W)
  | 0, _, _, _, _, _, _ => none
  | f + 1, d, j, pc, L, st, wd => match sm_ic j pc with
    | none => none
    | some e => match sm_call e with
      | true => match d with
        | 0 => none
        | d' + 1 => if sm_recv e.2.1 e.2.2.1 st wd = true ∧ e.2.2.1 ≤ st.length ∧ (sm_exp (st.take e.2.2.1).reverse).length ≤ sm_ml e.2.1 ∧ ((st.drop e.2.2.1).map fun v => v.category).sum ≤ 8 then
            match sm_run xs f d' e.2.1 0 (sm_ent (sm_ml e.2.1) (st.take e.2.2.1).reverse) [] wd with
            | none => none
            | some q => sm_run xs f (d' + 1) j (pc + 3) L (sm_push q.1 (st.drop e.2.2.1)) q.2
          else none
      | false => match sm_ret j e.1 st with
        | some r => some (r, wd)
        | none => match sm_step xs d (sm_ml j) e pc L st wd with
          | none => none
          | some q => sm_run xs f d j q.1 q.2.1 q.2.2.1 q.2.2.2
end
section
/-! the small machine's worlds and the real ones; stack, jumps and locals -/
abbrev sm_G : Type := Nat × Nat × Nat × Value × Nat × (Nat × Nat × Nat)
def sm_up (g : sm_G) (v : Value) : Value := match v with
  | .ref k => if k < 1000000 then .ref (g.1 + k) else if k = 1000001 then .ref g.2.1 else if k = 1000002 then .ref g.2.2.1 else if k = 1000003 then g.2.2.2.1 else .ref g.2.2.2.2.1
  | v => v
def sm_fv (g : sm_G) : Prop := g.2.2.2.1 = .null ∨ ∃ a, g.2.2.2.1 = .ref a
theorem sm_up_lo {g : sm_G} {k : Nat} (h : k < 1000000) : sm_up g (.ref k) = .ref (g.1 + k) := if_pos h
theorem sm_up_cat {g : sm_G} (hf : sm_fv g) (v : Value) : (sm_up g v).category = v.category := by
  cases v with
  | ref k =>
    unfold sm_up
    dsimp only
    split
    · rfl
    · split
      · rfl
      · split
        · rfl
        · split
          · rcases hf with h | ⟨a, h⟩ <;> rw [h] <;> rfl
          · rfl
  | _ => rfl
theorem sm_up_ref {g : sm_G} {k : Nat} (h : k ≠ 1000003) : ∃ a, sm_up g (.ref k) = .ref a := by
  unfold sm_up
  dsimp only
  split
  · exact ⟨_, rfl⟩
  · split
    · exact ⟨_, rfl⟩
    · split
      · exact ⟨_, rfl⟩
      · exact ⟨_, rfl⟩
def sm_rE (g : sm_G) (e : sm_E) : va_E := match e with
  | .inl (t, l) => .inl (if t = 0 then g.2.2.2.2.2.1 else g.2.2.2.2.2.2.1, l.length, .inl (fun j => l.getD j 0))
  | .inr (.inl l) => .inl (g.2.2.2.2.2.2.2, l.length, .inr (.inl (fun j => l.getD j 0)))
  | .inr (.inr (ci, fs)) => .inr (ci, fs.map (sm_up g))
def sm_rW (g : sm_G) (wd : sm_W) : va_W := wd.mapIdx (fun k e => (g.1 + k, sm_rE g e))
abbrev sm_A (g : sm_G) : Nat → Prop := fun q => g.1 ≤ q
def sm_tys (g : sm_G) : List (ClassId × FieldType) := [(g.2.2.2.2.2.1, .int), (g.2.2.2.2.2.2.1, .char), (g.2.2.2.2.2.2.2, .long)]
def sm_RW (g : sm_G) (D : va_G) (wd : sm_W) (H : Heap) : Prop := H.size = g.1 + wd.length ∧ wd.length ≤ 1000000 ∧ va_P D sm_cl (sm_rW g wd) H
theorem sm_rW_len (g : sm_G) (wd : sm_W) : (sm_rW g wd).length = wd.length := by simp [sm_rW]
theorem sm_rW_get {g : sm_G} {wd : sm_W} {k : Nat} {e : sm_E} (h : wd[k]? = some e) : (sm_rW g wd)[k]? = some (g.1 + k, sm_rE g e) := by
  simp [sm_rW, List.getElem?_mapIdx, h]
theorem sm_rW_of {g : sm_G} {wd : sm_W} {k : Nat} {q : Nat × va_E} (h : (sm_rW g wd)[k]? = some q) : ∃ e, wd[k]? = some e ∧ q = (g.1 + k, sm_rE g e) := by
  simp only [sm_rW, List.getElem?_mapIdx, Option.map_eq_some_iff] at h
  obtain ⟨e, h1, h2⟩ := h
  exact ⟨e, h1, h2.symm⟩
theorem sm_rW_set (g : sm_G) (wd : sm_W) (k : Nat) (e : sm_E) : sm_rW g (wd.set k e) = (sm_rW g wd).set k (g.1 + k, sm_rE g e) := by
  apply List.ext_getElem?
  intro i
  by_cases h : k = i
  · subst h
    by_cases hk : k < wd.length
    · rw [List.getElem?_set_self (by rw [sm_rW_len]; exact hk)]
      exact sm_rW_get (List.getElem?_set_self hk)
    · rw [List.getElem?_eq_none (by simp [sm_rW_len]; omega), List.getElem?_eq_none (by simp [sm_rW_len]; omega)]
  · rw [List.getElem?_set_ne h]
    simp [sm_rW, List.getElem?_mapIdx, List.getElem?_set_ne h]
theorem sm_rW_app (g : sm_G) (wd : sm_W) (e : sm_E) : sm_rW g (wd ++ [e]) = sm_rW g wd ++ [(g.1 + wd.length, sm_rE g e)] := by
  simp [sm_rW, List.mapIdx_append]
theorem sm_rW_D (g : sm_G) (wd : sm_W) : va_D (sm_A g) (sm_rW g wd) := by
  refine ⟨fun i j p q hi hj h => ?_, fun k q hk => ?_⟩
  · obtain ⟨e1, -, rfl⟩ := sm_rW_of hi
    obtain ⟨e2, -, rfl⟩ := sm_rW_of hj
    dsimp only at h
    omega
  · obtain ⟨e1, -, rfl⟩ := sm_rW_of hk
    exact Nat.le_add_right _ _
/-- locals -/
def sm_lv (g : sm_G) (ls : Array Slot) (nL : Nat) (L : sm_L) : Prop := ls.size = nL ∧ lv_wf ls ∧ L.length = nL ∧ ∀ (i : Nat) (v : Value), L[i]? = some (some v) → ls[i]? = some (.val (sm_up g v))
def sm_as (g : sm_G) : Nat → sm_L → List (Nat × Value)
  | _, [] => []
  | k, none :: r => sm_as g (k + 1) r
  | k, some v :: r => (k, sm_up g v) :: sm_as g (k + 1) r
theorem sm_as_of (g : sm_G) : ∀ (L : sm_L) (k : Nat) (q : Nat × Value), q ∈ sm_as g k L → ∃ (i : Nat) (v : Value), L[i]? = some (some v) ∧ q = (k + i, sm_up g v)
  | [], k, q, h => by simp [sm_as] at h
  | none :: r, k, q, h => by
    obtain ⟨i, v, h1, h2⟩ := sm_as_of g r (k + 1) q h
    exact ⟨i + 1, v, h1, by rw [h2, Nat.add_right_comm]; rfl⟩
  | some w :: r, k, q, h => by
    rcases List.mem_cons.mp h with h | h
    · exact ⟨0, w, rfl, h⟩
    · obtain ⟨i, v, h1, h2⟩ := sm_as_of g r (k + 1) q h
      exact ⟨i + 1, v, h1, by rw [h2, Nat.add_right_comm]; rfl⟩
theorem sm_as_in (g : sm_G) : ∀ (L : sm_L) (k i : Nat) (v : Value), L[i]? = some (some v) → (k + i, sm_up g v) ∈ sm_as g k L
  | [], k, i, v, h => by simp at h
  | none :: r, k, 0, v, h => by simp at h
  | none :: r, k, i + 1, v, h => by
    have := sm_as_in g r (k + 1) i v h
    rw [Nat.add_right_comm] at this
    exact this
  | some w :: r, k, 0, v, h => by
    have h : w = v := by simpa using h
    subst h
    exact List.mem_cons_self
  | some w :: r, k, i + 1, v, h => by
    have := sm_as_in g r (k + 1) i v h
    rw [Nat.add_right_comm] at this
    exact List.mem_cons_of_mem _ this
theorem sm_lv.has {g : sm_G} {ls : Array Slot} {nL : Nat} {L : sm_L} (h : sm_lv g ls nL L) : lv_has ls nL (sm_as g 0 L) := by
  refine ⟨h.1, h.2.1, fun q hq => ?_⟩
  obtain ⟨i, v, h1, rfl⟩ := sm_as_of g L 0 q hq
  rw [Nat.zero_add]
  exact h.2.2.2 i v h1
theorem sm_nl_ok {L : sm_L} {i k : Nat} {v : Value} (h : sm_nl L i = true) (hk : L[k]? = some (some v)) (hi : k + 1 = i) : ¬ v.category = 2 := by
  subst hi
  simp only [sm_nl, hk] at h
  simpa using h
theorem sm_st1_ok {g : sm_G} (hf : sm_fv g) {ls ls' : Array Slot} {nL i : Nat} {L L' : sm_L} {v : Value} {lv' : List (Nat × Value)} (h : sm_lv g ls nL L) (hs : sm_st1 nL L i v = some L') (hl : (i, sm_up g v) :: (sm_as g 0 L).filter (fun q => !(q.1 == i) && !(q.1 + 1 == i && q.2.category == 2)) = lv') (h' : lv_has ls' nL lv') : sm_lv g ls' nL L' := by
  unfold sm_st1 at hs
  split at hs
  · rename_i hc
    cases hs
    subst hl
    refine ⟨h'.1, h'.2.1, by rw [List.length_set]; exact h.2.2.1, fun k w hk => ?_⟩
    by_cases hki : k = i
    · subst hki
      rw [List.getElem?_set_self (by rw [h.2.2.1]; exact hc.1)] at hk
      cases hk
      exact h'.2.2 _ List.mem_cons_self
    · rw [List.getElem?_set_ne (Ne.symm hki)] at hk
      refine h'.2.2 (k, sm_up g w) (List.mem_cons_of_mem _ (List.mem_filter.mpr ⟨by have := sm_as_in g L 0 k w hk; rwa [Nat.zero_add] at this, ?_⟩))
      by_cases h1 : k + 1 = i
      · have h2 := sm_nl_ok hc.2 hk h1
        rw [← sm_up_cat hf w] at h2
        simp [hki, h2]
      · simp [hki, h1]
  · cases hs
theorem sm_st1_lt {nL i : Nat} {L L' : sm_L} {v : Value} (hs : sm_st1 nL L i v = some L') : i < nL := by
  unfold sm_st1 at hs
  split at hs
  · rename_i hc; exact hc.1
  · cases hs
theorem sm_st2_ok {g : sm_G} (hf : sm_fv g) {ls ls' : Array Slot} {nL i : Nat} {L L' : sm_L} {v : Value} {lv' : List (Nat × Value)} (h : sm_lv g ls nL L) (hs : sm_st2 nL L i v = some L') (hl : (i, sm_up g v) :: (sm_as g 0 L).filter (fun q => !(q.1 == i) && (!(q.1 == i + 1) && !(q.1 + 1 == i && q.2.category == 2))) = lv') (h' : lv_has ls' nL lv') : sm_lv g ls' nL L' := by
  unfold sm_st2 at hs
  split at hs
  · rename_i hc
    cases hs
    subst hl
    refine ⟨h'.1, h'.2.1, by rw [List.length_set, List.length_set]; exact h.2.2.1, fun k w hk => ?_⟩
    by_cases hk1 : k = i + 1
    · subst hk1
      rw [List.getElem?_set_self (by rw [List.length_set, h.2.2.1]; exact hc.1)] at hk
      cases hk
    · rw [List.getElem?_set_ne (Ne.symm hk1)] at hk
      by_cases hki : k = i
      · subst hki
        rw [List.getElem?_set_self (by rw [h.2.2.1]; omega)] at hk
        cases hk
        exact h'.2.2 _ List.mem_cons_self
      · rw [List.getElem?_set_ne (Ne.symm hki)] at hk
        refine h'.2.2 (k, sm_up g w) (List.mem_cons_of_mem _ (List.mem_filter.mpr ⟨by have := sm_as_in g L 0 k w hk; rwa [Nat.zero_add] at this, ?_⟩))
        by_cases h1 : k + 1 = i
        · have h2 := sm_nl_ok hc.2 hk h1
          rw [← sm_up_cat hf w] at h2
          simp [hki, hk1, h2]
        · simp [hki, hk1, h1]
  · cases hs
theorem sm_st2_lt {nL i : Nat} {L L' : sm_L} {v : Value} (hs : sm_st2 nL L i v = some L') : i + 1 < nL := by
  unfold sm_st2 at hs
  split at hs
  · rename_i hc; exact hc.1
  · cases hs
section SM1
variable {p : Program} {l : Launch} {e : Env} {R : Room} {s : State} {m : MethodId} {args : Array Value} {below : List Frame} {meth : Method} {c : Code} {H : Heap} {locs : List Loc} {cells slots : Nat} {Q : State → Prop}
variable {cc : ByteArray} {pc : Nat} {ls : Array Slot} {g : sm_G}
theorem sm_pure_ok (hx : p.tables.exec = Jvm.exec) (hb : c.code = cc) (hf : sm_fv g) {i : Instr} {st st' : List Value} (h : sm_pure i st = some st') (hd : decode cc pc = .ok (i, 1))
    (k : W p l e R s m args below meth c H locs cells slots Q (F0 m (pc + 1) ls (st'.map (sm_up g)))) : W p l e R s m args below meth c H locs cells slots Q (F0 m pc ls (st.map (sm_up g))) := by
  unfold sm_pure at h
  split at h
  · split at h
    · cases h
      exact lv_iadd hx hb hd k
    · cases h
  · split at h
    · cases h
      exact lv_isub hx hb hd k
    · cases h
  · split at h
    · cases h
      exact lv_imul hx hb hd k
    · cases h
  · split at h
    · cases h
      exact lv_iand hx hb hd k
    · cases h
  · split at h
    · cases h
      exact lv_ior hx hb hd k
    · cases h
  · split at h
    · cases h
      exact lv_ixor hx hb hd k
    · cases h
  · split at h
    · cases h
      exact lv_ishl hx hb hd k
    · cases h
  · split at h
    · cases h
      exact lv_ishr hx hb hd k
    · cases h
  · split at h
    · cases h
      exact lv_iushr hx hb hd rfl k
    · cases h
  · split at h
    · split at h
      · cases h
      · rename_i hc
        cases h
        exact lv_idiv hx hb hd hc k
    · cases h
  · split at h
    · split at h
      · cases h
      · rename_i hc
        cases h
        exact lv_irem hx hb hd hc k
    · cases h
  · split at h
    · cases h
      exact lv_ladd hx hb hd k
    · cases h
  · split at h
    · cases h
      exact lv_lsub hx hb hd k
    · cases h
  · split at h
    · cases h
      exact lv_lmul hx hb hd k
    · cases h
  · split at h
    · cases h
      exact lv_land hx hb hd k
    · cases h
  · split at h
    · cases h
      exact lv_lor hx hb hd k
    · cases h
  · split at h
    · cases h
      exact lv_lxor hx hb hd k
    · cases h
  · split at h
    · split at h
      · cases h
      · rename_i hc
        cases h
        exact lv_lrem hx hb hd hc k
    · cases h
  · split at h
    · cases h
      exact lv_lshl hx hb hd rfl k
    · cases h
  · split at h
    · cases h
      exact lv_lushr hx hb hd rfl k
    · cases h
  · split at h
    · cases h
      exact W.lcmp hx hb hd k
    · cases h
  · split at h
    · cases h
      exact lv_i2l hx hb hd rfl k
    · cases h
  · split at h
    · cases h
      exact lv_l2i hx hb hd rfl k
    · cases h
  · split at h
    · cases h
      exact lv_i2c hx hb hd rfl k
    · cases h
  · split at h
    · split at h
      · rename_i hc
        cases h
        exact lv_dup hx hb hd (by rw [sm_up_cat hf]; exact hc) k
      · cases h
    · cases h
  · split at h
    · split at h
      · rename_i hc
        cases h
        exact lv_dup2_11 hx hb hd (by rw [sm_up_cat hf]; exact hc.1) (by rw [sm_up_cat hf]; exact hc.2) k
      · cases h
    · cases h
  · split at h
    · split at h
      · rename_i hc
        cases h
        exact lv_pop hx hb hd (by rw [sm_up_cat hf]; exact hc) k
      · cases h
    · cases h
  · cases h
theorem sm_jump_ok (hx : p.tables.exec = Jvm.exec) (hb : c.code = cc) {en : sm_I} {n : Nat} {L : sm_L} {st : List Value} {wd : sm_W} {q : Nat × sm_L × List Value × sm_W} (h : sm_jump en pc L st wd = some q) (hd : decode cc pc = .ok (en.1, n)) (hn : sm_sw en.1 = false → n = sm_len en.1)
    (k : W p l e R s m args below meth c H locs cells slots Q (F0 m q.1 ls (q.2.2.1.map (sm_up g)))) : q.2.1 = L ∧ q.2.2.2 = wd ∧ W p l e R s m args below meth c H locs cells slots Q (F0 m pc ls (st.map (sm_up g))) := by
  obtain ⟨i, a, b, d⟩ := en
  unfold sm_jump at h
  dsimp only at h hd hn
  split at h
  · rename_i off _
    have hn := hn rfl
    subst hn
    split at h
    · rename_i ht
      cases h
      exact ⟨rfl, rfl, lv_goto hx hb hd ht k⟩
    · cases h
  · rename_i cn off
    have hn := hn rfl
    subst hn
    split at h
    · split at h
      · rename_i x r ht
        cases h
        refine ⟨rfl, rfl, ?_⟩
        cases cn
        · exact lv_if_eq hx hb hd ht (fun h1 => by simpa [sm_cnd, h1] using k) (fun h1 => by simpa [sm_cnd, h1] using k)
        · exact lv_if_ne hx hb hd ht (fun h1 => by simpa [sm_cnd, h1] using k) (fun h1 => by simpa [sm_cnd, h1] using k)
        · exact lv_if_lt hx hb hd ht (fun h1 => by simpa [sm_cnd, h1] using k) (fun h1 => by simpa [sm_cnd, h1] using k)
        · exact lv_if_ge hx hb hd ht (fun h1 => by simpa [sm_cnd, h1] using k) (fun h1 => by simpa [sm_cnd, h1] using k)
        · exact lv_if_gt hx hb hd ht (fun h1 => by simpa [sm_cnd, h1] using k) (fun h1 => by simpa [sm_cnd, h1] using k)
        · exact lv_if_le hx hb hd ht (fun h1 => by simpa [sm_cnd, h1] using k) (fun h1 => by simpa [sm_cnd, h1] using k)
      · cases h
    · cases h
  · rename_i cn off
    have hn := hn rfl
    subst hn
    split at h
    · split at h
      · rename_i y x r ht
        cases h
        refine ⟨rfl, rfl, ?_⟩
        cases cn
        · exact lv_icmp_eq hx hb hd ht (fun h1 => by simpa [sm_cnd, h1] using k) (fun h1 => by simpa [sm_cnd, h1] using k)
        · exact lv_icmp_ne hx hb hd ht (fun h1 => by simpa [sm_cnd, h1] using k) (fun h1 => by simpa [sm_cnd, h1] using k)
        · exact lv_icmp_lt hx hb hd ht (fun h1 => by simpa [sm_cnd, h1] using k) (fun h1 => by simpa [sm_cnd, h1] using k)
        · exact lv_icmp_ge hx hb hd ht (fun h1 => by simpa [sm_cnd, h1] using k) (fun h1 => by simpa [sm_cnd, h1] using k)
        · exact lv_icmp_gt hx hb hd ht (fun h1 => by simpa [sm_cnd, h1] using k) (fun h1 => by simpa [sm_cnd, h1] using k)
        · exact lv_icmp_le hx hb hd ht (fun h1 => by simpa [sm_cnd, h1] using k) (fun h1 => by simpa [sm_cnd, h1] using k)
      · cases h
    · cases h
  · split at h
    · split at h
      · rename_i hout
        split at h
        · rename_i hp
          cases h
          exact ⟨rfl, rfl, lv_tableOut hx hb hd hout (Int.toNat_of_nonneg hp).symm k⟩
        · cases h
      · rename_i hin
        split at h
        · rename_i off ho
          split at h
          · rename_i hp
            cases h
            exact ⟨rfl, rfl, lv_tableIn hx hb hd (fun z => hin (Or.inl z)) (fun z => hin (Or.inr z)) ho (Int.toNat_of_nonneg hp).symm k⟩
          · cases h
        · cases h
    · cases h
  · split at h
    · split at h
      · rename_i hp
        cases h
        exact ⟨rfl, rfl, lv_lookup hx hb hd hp.1 rfl (Int.toNat_of_nonneg hp.2).symm k⟩
      · cases h
    · cases h
  · cases h
end SM1
end
section
/-! locals, constants and cells: each step of the small machine is one of the real one -/
def sm_tx : String := "i0,1,0,2;i0,3,0,1;i1,1,0,0;i2,0,1,3;i2,2,5,1;i2,0,4,0;i3,3,0,4;i0,0,0,2;b2;b3;d4;m6;h5;s3;"
/-- what lies in the heap for good: the text, the statics, the script -/
def sm_Fx (g : sm_G) (xs : List Int32) (U : State) (H : Heap) : Prop :=
  va_O "java/lang/String" g.2.1 (sm_A g) U H ∧ va_OF "java/lang/String" "coder" "B" (.int 0) g.2.1 (sm_A g) U H ∧ va_OF "java/lang/String" "value" "[B" (.ref g.2.2.1) g.2.1 (sm_A g) U H ∧
  va_T .byte g.2.2.1 sm_text.length (fun j => .int (sm_text.getD j 0)) (sm_A g) U H ∧ va_Z "java/lang/String" "COMPACT_STRINGS" "Z" (.int 1) (sm_A g) U H ∧
  va_Z "jdk/internal/util/Preconditions" "SIOOBE_FORMATTER" "Ljava/util/function/BiFunction;" g.2.2.2.1 (sm_A g) U H ∧ vk_R "LeavingVote" 258 sm_tx g.2.1 U ∧
  va_Nw (.methodLinkNest "LeavingVote$Night" 71 ⟨"LeavingVote", "lowest", "(II)I"⟩ "LeavingVote") U ∧ va_Nw (.methodLinkNest "LeavingVote$Standing" 19 ⟨"LeavingVote", "oneIf", "(Z)I"⟩ "LeavingVote") U ∧
  va_X g.2.2.2.2.1 xs.length (fun j => xs.getD j 0) U H ∧ g.2.2.2.2.1 < H.size ∧ g.2.2.2.2.1 < g.1 ∧ sm_fv g
theorem sm_Fx.mv {g : sm_G} {xs : List Int32} {s U : State} {H : Heap} (h : sm_Fx g xs s s.heap) (hW : s.WarmedH U.vm) (hz : s.heap.size ≤ H.size) (hk : ∀ q : Nat, q < s.heap.size → ¬ sm_A g q → H[q]? = s.heap[q]?) : sm_Fx g xs U H := by
  obtain ⟨h1, h2, h3, h4, h5, h6, h7, h8, h9, h10, h11, h12, h13⟩ := h
  have hv := hW.alike
  exact ⟨va_O.moved hv (h1.kept hk), va_OF.moved hv (h2.kept hk), va_OF.moved hv (h3.kept hk), va_T.moved hv (h4.kept hk), va_Z.moved hv (h5.kept hk), va_Z.moved hv (h6.kept hk), vk_R.warm hW h7, va_Nw.warmM hW h8, va_Nw.warmM hW h9, va_X.moved hv (h10.kept (hk _ h11 (Nat.not_le.mpr h12))), Nat.lt_of_lt_of_le h11 hz, h12, h13⟩
theorem sm_Fx.calling {g : sm_G} {xs : List Int32} {U : State} {jf : JFrame} {mk : MethodId} {a : Array Value} (h : sm_Fx g xs U U.heap) : sm_Fx g xs (U.calling jf mk a) (U.calling jf mk a).heap := by
  obtain ⟨h1, h2, h3, h4, h5, h6, h7, h8, h9, h10, h11, h12, h13⟩ := h
  have hv : U.vm.Alike (U.calling jf mk a).vm := Vm.Alike.refl U.vm
  exact ⟨va_O.moved hv h1, va_OF.moved hv h2, va_OF.moved hv h3, va_T.moved hv h4, va_Z.moved hv h5, va_Z.moved hv h6, vk_R.same (u := U) rfl h7, va_Nw.same (u := U) rfl rfl h8, va_Nw.same (u := U) rfl rfl h9, va_X.moved hv h10, h11, h12, h13⟩
/-- what holds while a method of the tables runs -/
def sm_C (g : sm_G) (D : va_G) (xs : List Int32) (p : Program) (d j : Nat) (R : Room) (s : State) (m : MethodId) (args : Array Value) (meth : Method) (c : Code) : Prop :=
  p.tables.exec = Jvm.exec ∧ c.code = sm_b j ∧ c.maxLocals = sm_ml j ∧ s.vm.findClass (sm_y j).cls = some m.cls ∧ (∀ w ∈ lw_tblG, w.before args s = true) ∧ va_K D sm_cl (sm_tys g) s ∧ sm_Fx g xs s s.heap ∧ g.1 ≤ s.heap.size ∧ d ≤ R.frames ∧ 43 * d ≤ R.locals ∧ ((sm_y j).name = "<init>" → meth.name = "<init>")
def sm_Ok (j pc : Nat) (en : sm_I) : Prop := sm_okR j en = true ∧ ∃ n, decode (sm_b j) pc = .ok (en.1, n) ∧ (sm_sw en.1 = false → n = sm_len en.1)
theorem sm_ic_ok {j pc : Nat} {en : sm_I} (hj : j < sm_N + 1) (h : sm_ic j pc = some en) : sm_Ok j pc en := by
  have h1 := sm_okC_all hj
  have h2 : pc < (sm_cs.getD j []).length := by
    unfold sm_ic at h
    split at h
    · rename_i e he
      exact (List.getElem?_eq_some_iff.mp he).1
    · cases h
  have h3 := List.all_eq_true.mp h1 pc (List.mem_range.mpr h2)
  unfold sm_okP at h3
  rw [h] at h3
  simp only [sm_okE, Bool.and_eq_true] at h3
  refine ⟨h3.2, ?_⟩
  have h4 := h3.1
  split at h4
  · rename_i i n hd
    simp only [Bool.and_eq_true, decide_eq_true_eq, Bool.or_eq_true, beq_iff_eq] at h4
    obtain ⟨h5, h6⟩ := h4
    subst h5
    exact ⟨n, hd, fun z => by rw [z] at h6; simpa using h6⟩
  · cases h4
def sm_sz1 (e : sm_E) : Nat := match e with
  | .inl (_, l) => l.length
  | .inr (.inl l) => l.length
  | .inr (.inr (_, fs)) => fs.length
def sm_sz (wd : sm_W) : Nat := (wd.map sm_sz1).sum
theorem sm_sz_set : ∀ {wd : sm_W} {k : Nat} {e0 e : sm_E}, wd[k]? = some e0 → sm_sz1 e = sm_sz1 e0 → sm_sz (wd.set k e) = sm_sz wd
  | [], k, e0, e, h, _ => by simp at h
  | a :: r, 0, e0, e, h, h1 => by
    have h : a = e0 := by simpa using h
    subst h
    simp [sm_sz, h1]
  | a :: r, k + 1, e0, e, h, h1 => by
    have := sm_sz_set (wd := r) (k := k) (e0 := e0) (e := e) h h1
    simp only [sm_sz, List.set_cons_succ, List.map_cons, List.sum_cons] at this ⊢
    omega
theorem sm_sz_app (wd : sm_W) (e : sm_E) : sm_sz (wd ++ [e]) = sm_sz wd + sm_sz1 e := by simp [sm_sz]
theorem sm_cl_at {ci : Nat} (h : ci < 8) : sm_cl[ci]? = some (sm_cn ci, sm_T ci, sm_nf ci) := by
  rcases (by omega : ci = 0 ∨ ci = 1 ∨ ci = 2 ∨ ci = 3 ∨ ci = 4 ∨ ci = 5 ∨ ci = 6 ∨ ci = 7) with rfl | rfl | rfl | rfl | rfl | rfl | rfl | rfl <;> rfl
theorem sm_okI_at {ci : Nat} (h : ci < 8) : Cond.instantiable (sm_cn ci) (sm_nf ci) ∈ lw_tblG ∧ Cond.initialized (sm_cn ci) ∈ lw_tblG ∧ (∀ w ∈ u_ws (sm_cn ci) (sm_T ci) (sm_nf ci), w ∈ lw_tblG) ∧ (∀ k, k < sm_nf ci → parseFieldDescriptor (sm_T ci k).2.2.1 = some (sm_ty ci k)) ∧ (∀ a, a < sm_nf ci → ∀ b, b < sm_nf ci → a ≠ b → (sm_T ci a).2.1 ≠ (sm_T ci b).2.1) := by
  have h1 := List.all_eq_true.mp sm_okI_all ci (List.mem_range.mpr h)
  simp only [sm_okI, Bool.and_eq_true] at h1
  obtain ⟨⟨h2, h3⟩, h4⟩ := h1
  have h5 : ∀ k, k < sm_nf ci → sm_okL ci k = true := fun k hk => List.all_eq_true.mp h4 k (List.mem_range.mpr hk)
  refine ⟨lw_inG (sm_at_in h2) rfl, lw_inG (sm_at_in h3) rfl, fun w hw => ?_, fun k hk => ?_, fun a ha b hb hab => ?_⟩
  · obtain ⟨k, hk, rfl⟩ := List.mem_map.mp hw
    have h6 := h5 k (List.mem_range.mp hk)
    simp only [sm_okL, Bool.and_eq_true] at h6
    exact lw_inG (sm_at_in h6.1.1) (by unfold u_lay; split <;> rfl)
  · have h6 := h5 k hk
    simp only [sm_okL, Bool.and_eq_true, decide_eq_true_eq] at h6
    exact h6.1.2
  · have h6 := h5 a ha
    simp only [sm_okL, Bool.and_eq_true] at h6
    have h7 := List.all_eq_true.mp h6.2 b (List.mem_range.mpr hb)
    simp only [Bool.or_eq_true, decide_eq_true_eq] at h7
    exact h7.resolve_left hab
theorem sm_RW.set {g : sm_G} {D : va_G} {wd : sm_W} {H H1 : Heap} {k : Nat} {e0 e : sm_E} (h : sm_RW g D wd H) (hk : wd[k]? = some e0) (he : va_at D sm_cl (g.1 + k, sm_rE g e) H1) (hz : H1.size = H.size) (oq : ∀ q : Nat, q ≠ g.1 + k → H1[q]? = H[q]?) : sm_RW g D (wd.set k e) H1 := by
  refine ⟨by rw [hz, List.length_set]; exact h.1, by rw [List.length_set]; exact h.2.1, ?_⟩
  rw [sm_rW_set]
  exact h.2.2.set (sm_rW_D g wd) (sm_rW_get hk) he oq
theorem sm_RW.app {g : sm_G} {D : va_G} {wd : sm_W} {H H1 : Heap} {e : sm_E} (h : sm_RW g D wd H) (hl : wd.length < 1000000) (he : va_at D sm_cl (g.1 + wd.length, sm_rE g e) H1) (hz : H1.size = H.size + 1) (oq : ∀ q : Nat, q < H.size → H1[q]? = H[q]?) : sm_RW g D (wd ++ [e]) H1 := by
  refine ⟨by rw [hz, h.1, List.length_append]; rfl, by rw [List.length_append]; exact hl, ?_⟩
  rw [sm_rW_app]
  refine (h.2.2.kept fun k x hx => oq x.1 ((h.2.2 k x hx).lt)).app (fun k x hx => ?_)
  have hz : k < 1 := (List.getElem?_eq_some_iff.mp hx).1
  rw [show k = 0 by omega] at hx
  cases hx
  exact he
theorem sm_RW.lo {g : sm_G} {D : va_G} {wd : sm_W} {H : Heap} {k : Nat} {e : sm_E} (h : sm_RW g D wd H) (hk : wd[k]? = some e) : k < 1000000 := Nat.lt_of_lt_of_le (List.getElem?_eq_some_iff.mp hk).1 h.2.1
theorem sm_ix_ok {l : List Int32} {i x : Int32} (h : sm_ix l i = some x) : vp_in i l.length ∧ l.getD i.toNatClampNeg 0 = x := by
  unfold sm_ix at h
  split at h
  · cases h
  · rename_i hi
    obtain ⟨h1, h2⟩ := List.getElem?_eq_some_iff.mp h
    exact ⟨fun q => q.elim hi (fun q => absurd h1 (Nat.not_lt.mpr q)), by rw [List.getD_eq_getElem?_getD, h]; rfl⟩
theorem sm_ixl_ok {l : List Int64} {i : Int32} {x : Int64} (h : sm_ix l i = some x) : vp_in i l.length ∧ l.getD i.toNatClampNeg 0 = x := by
  unfold sm_ix at h
  split at h
  · cases h
  · rename_i hi
    obtain ⟨h1, h2⟩ := List.getElem?_eq_some_iff.mp h
    exact ⟨fun q => q.elim hi (fun q => absurd h1 (Nat.not_lt.mpr q)), by rw [List.getD_eq_getElem?_getD, h]; rfl⟩
theorem sm_getD_set {α : Type} {l : List α} {k : Nat} {x z : α} (h : k < l.length) (j : Nat) : (l.set k x).getD j z = if j = k then x else l.getD j z := by
  by_cases hj : j = k
  · subst hj
    rw [if_pos rfl, List.getD_eq_getElem?_getD, List.getElem?_set_self h]; rfl
  · rw [if_neg hj, List.getD_eq_getElem?_getD, List.getElem?_set_ne (Ne.symm hj), ← List.getD_eq_getElem?_getD]
theorem sm_up_fit {g : sm_G} (hf : sm_fv g) {ty : FieldType} {v : Value} (h1 : narrow ty v = v) (h2 : fits ty v = true) : narrow ty (sm_up g v) = sm_up g v ∧ fits ty (sm_up g v) = true := by
  cases v with
  | ref k =>
    have h3 : sm_up g (.ref k) = .null ∨ ∃ a, sm_up g (.ref k) = .ref a := by
      by_cases hk : k = 1000003
      · subst hk
        exact hf
      · exact Or.inr (sm_up_ref hk)
    rcases h3 with h3 | ⟨a, h3⟩ <;> rw [h3] <;> cases ty <;> first | exact ⟨rfl, rfl⟩ | (cases h2; done)
  | _ => exact ⟨h1, h2⟩
section SM2
variable {p : Program} {l : Launch} {e : Env} {R : Room} {s : State} {m : MethodId} {args : Array Value} {below : List Frame} {meth : Method} {c : Code} {H : Heap} {locs : List Loc} {cells slots : Nat} {Q : State → Prop}
variable {pc : Nat} {ls : Array Slot} {g : sm_G} {D : va_G} {xs : List Int32} {d j : Nat}
theorem sm_loc_ok (C : sm_C g D xs p d j R s m args meth c) {en : sm_I} {L : sm_L} {st : List Value} {wd : sm_W} {q : Nat × sm_L × List Value × sm_W} (h : sm_loc (sm_ml j) en pc L st wd = some q) (hE : sm_Ok j pc en) (hl : sm_lv g ls (sm_ml j) L)
    (k : ∀ ls', sm_lv g ls' (sm_ml j) q.2.1 → W p l e R s m args below meth c H locs cells slots Q (F0 m q.1 ls' (q.2.2.1.map (sm_up g)))) : q.2.2.2 = wd ∧ W p l e R s m args below meth c H locs cells slots Q (F0 m pc ls (st.map (sm_up g))) := by
  obtain ⟨hx, hb, hml, hown, hts, hK, hFx, -, -, -, -⟩ := C
  have hf : sm_fv g := hFx.2.2.2.2.2.2.2.2.2.2.2.2
  obtain ⟨i, ea, eb, ec⟩ := en
  obtain ⟨hR, n, hd, hn⟩ := hE
  unfold sm_loc at h
  dsimp only at h hd hn hR
  split at h <;> (try (have hn := hn rfl; subst hn))
  · cases h
    exact ⟨rfl, lv_iconst hx hb hd rfl (k ls hl)⟩
  · cases h
    exact ⟨rfl, lv_bipush hx hb hd rfl (k ls hl)⟩
  · cases h
    exact ⟨rfl, lv_sipush hx hb hd rfl (k ls hl)⟩
  · cases h
    exact ⟨rfl, lv_lconst hx hb hd rfl (k ls hl)⟩
  · cases h
    simp only [sm_okR, Bool.and_eq_true, decide_eq_true_eq] at hR
    obtain ⟨h1, h2⟩ := hR
    subst h2
    rw [h1] at hown
    exact ⟨rfl, va_ldcS hx hb hown hFx.2.2.2.2.2.2.1 hd (k ls hl)⟩
  · split at h
    · cases h
    · rename_i h0
      cases h
      simp only [sm_okR, Bool.or_eq_true, decide_eq_true_eq] at hR
      exact ⟨rfl, lv_ldcw hx hb hown (hts _ (lw_inG (sm_at_in (hR.resolve_left h0)) rfl)) hd (k ls hl)⟩
  · cases h
    exact ⟨rfl, lv_ldc2 hx hb hown (hts _ (lw_inG (sm_at_in hR) rfl)) hd (k ls hl)⟩
  · split at h
    · rename_i hq
      cases h
      exact ⟨rfl, lv_iload hx hb hd (hl.2.2.2 _ _ hq) (k ls hl)⟩
    · cases h
  · split at h
    · rename_i hq
      cases h
      exact ⟨rfl, lv_iload_n hx hb hd rfl (hl.2.2.2 _ _ hq) (k ls hl)⟩
    · cases h
  · split at h
    · rename_i hq
      cases h
      exact ⟨rfl, lv_lload hx hb hd (hl.2.2.2 _ _ hq) (k ls hl)⟩
    · cases h
  · split at h
    · rename_i hq
      cases h
      exact ⟨rfl, lv_lload_n hx hb hd rfl (hl.2.2.2 _ _ hq) (k ls hl)⟩
    · cases h
  · split at h
    · split at h
      · cases h
      · rename_i hq h3
        cases h
        obtain ⟨a, ha⟩ := sm_up_ref (g := g) h3
        have h4 := hl.2.2.2 _ _ hq
        rw [ha] at h4
        refine ⟨rfl, lv_aload hx hb hd h4 ?_⟩
        rw [← ha]
        exact k ls hl
    · cases h
  · split at h
    · split at h
      · cases h
      · rename_i hq h3
        cases h
        obtain ⟨a, ha⟩ := sm_up_ref (g := g) h3
        have h4 := hl.2.2.2 _ _ hq
        rw [ha] at h4
        refine ⟨rfl, lv_aload_n hx hb hd rfl h4 ?_⟩
        rw [← ha]
        exact k ls hl
    · cases h
  · split at h
    · obtain ⟨L', h1, h2⟩ := Option.map_eq_some_iff.mp h
      subst h2
      exact ⟨rfl, lv_istore hx hb hd hl.has (sm_st1_lt h1) rfl (fun ls' h' => k ls' (sm_st1_ok hf hl h1 rfl h'))⟩
    · cases h
  · split at h
    · obtain ⟨L', h1, h2⟩ := Option.map_eq_some_iff.mp h
      subst h2
      exact ⟨rfl, lv_istore_n hx hb hd rfl hl.has (sm_st1_lt h1) rfl (fun ls' h' => k ls' (sm_st1_ok hf hl h1 rfl h'))⟩
    · cases h
  · split at h
    · obtain ⟨L', h1, h2⟩ := Option.map_eq_some_iff.mp h
      subst h2
      exact ⟨rfl, lv_lstore hx hb hd hl.has (sm_st2_lt h1) rfl (fun ls' h' => k ls' (sm_st2_ok hf hl h1 rfl h'))⟩
    · cases h
  · split at h
    · obtain ⟨L', h1, h2⟩ := Option.map_eq_some_iff.mp h
      subst h2
      exact ⟨rfl, lv_lstore_n hx hb hd rfl hl.has (sm_st2_lt h1) rfl (fun ls' h' => k ls' (sm_st2_ok hf hl h1 rfl h'))⟩
    · cases h
  · split at h
    · split at h
      · cases h
      · rename_i h3
        obtain ⟨L', h1, h2⟩ := Option.map_eq_some_iff.mp h
        subst h2
        obtain ⟨a, ha⟩ := sm_up_ref (g := g) h3
        refine ⟨rfl, ?_⟩
        rw [List.map_cons, ha]
        exact lv_astore_n hx hb hd rfl hl.has (sm_st1_lt h1) rfl (fun ls' h' => k ls' (sm_st1_ok hf hl h1 (by rw [ha]) h'))
    · cases h
  · split at h
    · rename_i hq
      obtain ⟨L', h1, h2⟩ := Option.map_eq_some_iff.mp h
      subst h2
      have h4 := sm_as_in g L 0 _ _ hq
      rw [Nat.zero_add] at h4
      obtain ⟨t, ht⟩ := List.getElem?_of_mem h4
      exact ⟨rfl, lv_iinc hx hb hd hl.has ht rfl (sm_st1_lt h1) rfl (fun ls' h' => k ls' (sm_st1_ok hf hl h1 rfl h'))⟩
    · cases h
  · cases h
end SM2
end
section
/-! fields, arrays, making -/
theorem sm_cb (t : ArrayType) : componentBytes (newarray.typeOf t) ≤ 8 := by cases t <;> decide
section SM3
variable {p : Program} {l : Launch} {e : Env} {R : Room} {s : State} {m : MethodId} {args : Array Value} {below : List Frame} {meth : Method} {c : Code} {H : Heap} {locs : List Loc} {cells slots : Nat} {Q : State → Prop}
variable {pc : Nat} {ls : Array Slot} {g : sm_G} {D : va_G} {xs : List Int32} {d j : Nat}
/-- a new array: it lies at the heap's end, its class is the table's -/
theorem sm_newa {cc : ByteArray} {rest : List Value} {wd : sm_W} (hx : p.tables.exec = Jvm.exec) (hb : c.code = cc) (hK : va_K D sm_cl (sm_tys g) s) {atype : ArrayType} (harr : (Cond.arrayClass (newarray.typeOf atype)).before args s = true) {ix : Nat} {cI : ClassId} (hix : (sm_tys g)[ix]? = some (cI, newarray.typeOf atype)) (hRA : va_RA s cI (newarray.typeOf atype) = (s.vm.findClass ("[" ++ (newarray.typeOf atype).toString) = some cI))
    (hRW : sm_RW g D wd H) (hS : va_S (sm_A g) s.heap H locs) (hl3 : wd.length < 1000000) {n : Int32} {N : Nat} (hn : ¬ n < 0) (hN : n.toNatClampNeg = N) (hbytes : N * componentBytes (newarray.typeOf atype) ≤ 536870912) (hcells : cells + 1 ≤ R.cells) (hslots : slots + N ≤ R.slots) (hdg : decode cc pc = .ok (.newarray atype, 2))
    {en : sm_E} {a0 : vp_A} (hen : sm_rE g en = .inl (cI, a0)) (ha : ∀ cA : ClassId, vp_cell cA a0 = arrV cA N (fun _ => defaultValue (newarray.typeOf atype)))
    (kk : ∀ H1 : Heap, sm_RW g D (wd ++ [en]) H1 → va_S (sm_A g) s.heap H1 locs → W p l e R s m args below meth c H1 locs (cells + 1) (slots + N) Q (F0 m (pc + 2) ls (.ref (g.1 + wd.length) :: rest))) : W p l e R s m args below meth c H locs cells slots Q (F0 m pc ls (.int n :: rest)) := by
  refine va_newaK hx hb harr rfl hdg rfl hn hN hbytes hcells hslots hRW.1 fun H1 cA e1 z1 o1 hAr hNm => ?_
  have h1 := (hK.2 ix _ hix).2
  rw [hRA] at h1
  have h2 : cA = cI := Option.some.inj (hNm.symm.trans h1)
  subst h2
  refine kk H1 (hRW.app hl3 ?_ (by rw [hRW.1]; exact z1) (fun q hq => o1 q (by rw [← hRW.1]; exact hq))) ⟨Nat.le_trans hS.1 (by rw [hRW.1]; omega), fun x h1 h2 => (o1 x (by rw [← hRW.1]; exact Nat.lt_of_lt_of_le h1 hS.1)).trans (hS.2.1 x h1 h2), hS.2.2⟩
  rw [hen]
  show H1[g.1 + wd.length]? = some (vp_cell _ _)
  rw [ha]
  exact e1
theorem sm_mem_ok (C : sm_C g D xs p d j R s m args meth c) {en : sm_I} {L : sm_L} {st : List Value} {wd : sm_W} {q : Nat × sm_L × List Value × sm_W} (h : sm_mem xs d en pc L st wd = some q) (hE : sm_Ok j pc en) (hl : sm_lv g ls (sm_ml j) L) (hRW : sm_RW g D wd H) (hS : va_S (sm_A g) s.heap H locs)
    (hcs : cells + q.2.2.2.length ≤ R.cells + wd.length) (hss : slots + sm_sz q.2.2.2 ≤ R.slots + sm_sz wd)
    (k : ∀ (H1 : Heap) (locs1 : List Loc) (c1 n1 : Nat), c1 + wd.length = cells + q.2.2.2.length → n1 + sm_sz wd = slots + sm_sz q.2.2.2 → sm_RW g D q.2.2.2 H1 → va_S (sm_A g) s.heap H1 locs1 → W p l e R s m args below meth c H1 locs1 c1 n1 Q (F0 m q.1 ls (q.2.2.1.map (sm_up g)))) : q.2.1 = L ∧ W p l e R s m args below meth c H locs cells slots Q (F0 m pc ls (st.map (sm_up g))) := by
  obtain ⟨hx, hb, hml, hown, hts, hK, hFx, hgs, hdR, hdl, hin⟩ := C
  have hf : sm_fv g := hFx.2.2.2.2.2.2.2.2.2.2.2.2
  obtain ⟨i, ea, eb, ec⟩ := en
  obtain ⟨hR, n, hd, hn⟩ := hE
  unfold sm_mem at h
  dsimp only at h hd hn hR
  split at h <;> (try (have hn := hn rfl; subst hn))
  · -- getfield
    split at h
    · rename_i k0 r
      split at h
      · rename_i h100
        split at h
        · rename_i hk0
          subst hk0
          cases h
          simp only [sm_okR, if_pos h100] at hR
          have hlk := hts _ (lw_inG (sm_at_in hR) rfl)
          refine ⟨rfl, ?_⟩
          have k := k H locs cells slots rfl rfl hRW hS
          by_cases hb0 : eb = 0
          · simp only [if_pos hb0] at hlk k
            exact vk_getf hx hb hFx.2.1 hS hown hlk (fun _ h9 => h9) hd k
          · simp only [if_neg hb0] at hlk k
            exact vk_getf hx hb hFx.2.2.1 hS hown hlk (fun _ h9 => h9) hd k
        · cases h
      · rename_i h100
        split at h
        · rename_i ci fs hw
          split at h
          · rename_i hci
            subst hci
            split at h
            · rename_i v hv
              cases h
              simp only [sm_okR, if_neg h100, Bool.and_eq_true, decide_eq_true_eq] at hR
              obtain ⟨⟨h8, h9⟩, h10⟩ := hR
              have hI := sm_okI_at h8
              refine ⟨rfl, ?_⟩
              rw [List.map_cons, sm_up_lo (hRW.lo hw)]
              exact va_get hx hb hts hI.2.2.1 hown hK hRW.2.2 k0 (sm_rW_get hw) (sm_cl_at h8) eb h9 (hts _ (lw_inG (sm_at_in h10) rfl)) (fun _ h9 => h9) (v := sm_up g v) (by rw [List.getElem?_map, hv]; rfl) hd (k H locs cells slots rfl rfl hRW hS)
            · cases h
          · cases h
        · cases h
    · cases h
  · -- putfield
    split at h
    · rename_i v k0 r
      split at h
      · rename_i ci fs hw
        split at h
        · rename_i hc
          obtain ⟨hci, hlen, hnar, hfit⟩ := hc
          subst hci
          cases h
          simp only [sm_okR, Bool.and_eq_true, Bool.or_eq_true, decide_eq_true_eq] at hR
          obtain ⟨⟨⟨h8, h9⟩, h10⟩, hfin⟩ := hR
          have hI := sm_okI_at h8
          have hlk := hts _ (lw_inG (sm_at_in h10) rfl)
          have hnf := sm_up_fit hf hnar hfit
          have hty := hI.2.2.2.1 eb h9
          have hcl := sm_cl_at h8
          have hap := va_apart (own := (sm_y j).cls) hts hI.2.2.1 (sm_ty ci) hI.2.2.2.1 hI.2.2.2.2 hK hcl
          obtain ⟨r0, g1, cell, q1, q2, q3, q4⟩ := hRW.2.2 k0 _ (sm_rW_get hw)
          have hr0 : r0 = (sm_cn ci, sm_T ci, sm_nf ci) := Option.some.inj (g1.symm.trans hcl)
          subst hr0
          obtain ⟨hSl, hfc, kC, hkC, hkind⟩ := hK.1 ci _ hcl
          obtain ⟨cf, kf, fi, f, hi, hsl⟩ := hSl eb h9
          have hst := (u_facts hfc hkC (u_lays hts hI.2.2.1 h9) hi).1
          have hlay := hts _ (hI.2.2.1 _ (u_in_lay h9))
          refine ⟨rfl, ?_⟩
          rw [List.map_cons, List.map_cons, sm_up_lo (hRW.lo hw)]
          have hgo : ∀ (H' : Heap) (locs' : List Loc), H'[g.1 + k0]? = some (cell.setSlot (D.2 ci eb) (sm_up g v)) → H'.size = H.size → (∀ q, q ≠ g.1 + k0 → H'[q]? = H[q]?) → va_S (sm_A g) s.heap H' locs' → W p l e R s m args below meth c H' locs' cells slots Q (F0 m (pc + 3) ls (r.map (sm_up g))) := by
            intro H' locs' e1 e2 e3 hS'
            refine k H' locs' cells slots (by rw [List.length_set]) (by rw [sm_sz_set hw]; show (fs.set eb v).length = fs.length; rw [List.length_set]) (hRW.set hw ?_ e2 e3) hS'
            refine ⟨_, hcl, t_OB.to (V := updV (vp_V (fs.map (sm_up g))) eb (sm_up g v)) ⟨_, e1, q2, q3, t_set q4 hap h9 (sm_up g v)⟩ (fun t _ => ?_)⟩
            dsimp only [sm_rE]
            rw [List.map_set]
            exact vp_updV_set (by rw [List.length_map]; exact hlen) (sm_up g v) t
          cases hfb : (sm_T ci eb).2.2.2 with
          | false =>
            unfold u_lay at hlay
            rw [if_neg (by rw [hfb]; decide)] at hlay
            have h6 := u_store hfc hkC hkind hlay hi hty hnf.1 hnf.2
            refine W.putK hx hb (f := f) ⟨hown, hlk, ⟨_, _, _, hi⟩, hst⟩ (by rw [q2]; exact h6) q1 q3 (by rw [hsl]; exact k2_hasslot (q4 eb h9)) rfl rfl hd fun H' e1 e2 e3 => ?_
            rw [hsl] at e1 ⊢
            exact hgo H' _ e1 e2 e3 (hS.put e2 e3 (Nat.le_add_right _ _))
          | true =>
            rw [hfb] at hfin
            have hfin := hfin.resolve_left (by decide)
            unfold u_lay at hlay
            rw [if_pos hfb] at hlay
            have hcf : m.cls = cf := by
              obtain ⟨_, _, c', _, _, _, -, -, hf', -, -, -, hown2, -⟩ := Cond.laysFinal_spec hlay
              have e1 : c' = cf := by have := hi.symm.trans hf'; simp at this; exact this.1.symm
              have e2 : (sm_T ci eb).1 = (sm_y j).cls := hfin.2
              rw [e2] at hown2
              rw [← e1]; exact Option.some.inj (hown.symm.trans hown2)
            have h6 := u_fits hfc hkC hkind (Or.inr hlay) hi hty hnf.1 hnf.2
            refine W.putFinK hx hb hown hlk hi hst hcf (hin hfin.1) (by rw [q2]; exact h6) q1 q3 (by rw [hsl]; exact k2_hasslot (q4 eb h9)) rfl rfl hd fun H' e1 e2 e3 => ?_
            rw [hsl] at e1 ⊢
            exact hgo H' _ e1 e2 e3 (hS.put e2 e3 (Nat.le_add_right _ _))
        · cases h
      · cases h
    · cases h
  · -- getstatic
    split at h
    · rename_i h0
      cases h
      simp only [sm_okR, if_pos h0] at hR
      exact ⟨rfl, va_gets hx hb hFx.2.2.2.2.1 hS hown (hts _ (lw_inG (sm_at_in hR) rfl)) (fun _ h9 => h9) hd (k H locs cells slots rfl rfl hRW hS)⟩
    · rename_i h0
      split at h
      · rename_i h1
        cases h
        simp only [sm_okR, if_neg h0, if_pos h1] at hR
        exact ⟨rfl, va_gets hx hb hFx.2.2.2.2.2.1 hS hown (hts _ (lw_inG (sm_at_in hR) rfl)) (fun _ h9 => h9) hd (k H locs cells slots rfl rfl hRW hS)⟩
      · cases h
  · -- iaload
    split at h
    · rename_i ix k0 r
      split at h
      · rename_i hk0
        subst hk0
        split at h
        · rename_i x hi
          cases h
          obtain ⟨hv, hg⟩ := sm_ix_ok hi
          refine ⟨rfl, va_sld hx hb hFx.2.2.2.2.2.2.2.2.2.1 hFx.2.2.2.2.2.2.2.2.2.2.1 (Nat.not_le.mpr hFx.2.2.2.2.2.2.2.2.2.2.2.1) hS hv hd ?_⟩
          rw [hg]
          exact k H locs cells slots rfl rfl hRW hS
        · cases h
      · split at h
        · rename_i la hw
          split at h
          · rename_i x hi
            cases h
            obtain ⟨hv, hg⟩ := sm_ix_ok hi
            refine ⟨rfl, ?_⟩
            rw [List.map_cons, List.map_cons, sm_up_lo (hRW.lo hw)]
            refine va_iald hx hb hK hRW.2.2 k0 0 (sm_rW_get hw) rfl hv hd ?_
            rw [hg]
            exact k H locs cells slots rfl rfl hRW hS
          · cases h
        · cases h
    · cases h
  · -- caload
    split at h
    · rename_i ix k0 r
      split at h
      · rename_i la hw
        split at h
        · rename_i x hi
          cases h
          obtain ⟨hv, hg⟩ := sm_ix_ok hi
          refine ⟨rfl, ?_⟩
          rw [List.map_cons, List.map_cons, sm_up_lo (hRW.lo hw)]
          refine va_cald hx hb hK hRW.2.2 k0 1 (sm_rW_get hw) rfl hv hd ?_
          rw [hg]
          exact k H locs cells slots rfl rfl hRW hS
        · cases h
      · cases h
    · cases h
  · -- baload
    split at h
    · rename_i ix k0 r
      split at h
      · rename_i hk0
        subst hk0
        split at h
        · rename_i x hi
          cases h
          obtain ⟨hv, hg⟩ := sm_ix_ok hi
          exact ⟨rfl, va_tb hx hb hFx.2.2.2.1 hS hv (v := .int x) (by rw [hg]) hd (k H locs cells slots rfl rfl hRW hS)⟩
        · cases h
      · cases h
    · cases h
  · -- laload
    split at h
    · rename_i ix k0 r
      split at h
      · rename_i la hw
        split at h
        · rename_i x hi
          cases h
          obtain ⟨hv, hg⟩ := sm_ixl_ok hi
          refine ⟨rfl, ?_⟩
          rw [List.map_cons, List.map_cons, sm_up_lo (hRW.lo hw)]
          refine va_lald hx hb hK hRW.2.2 k0 2 (sm_rW_get hw) rfl hv hd ?_
          rw [hg]
          exact k H locs cells slots rfl rfl hRW hS
        · cases h
      · cases h
    · cases h
  · -- iastore
    split at h
    · rename_i x ix k0 r
      split at h
      · rename_i la hw
        split at h
        · cases h
        · rename_i hi
          cases h
          refine ⟨rfl, ?_⟩
          rw [List.map_cons, List.map_cons, List.map_cons, sm_up_lo (hRW.lo hw)]
          refine W.iast hx hb (hRW.2.2 k0 _ (sm_rW_get hw)) ((hK.2 0 _ rfl).1 la.length (fun t => .int (la.getD t 0))) (fun q => by cases q) (by show ¬ (ix < 0 ∨ (arrV _ _ _).slots.size ≤ _); rw [arrV_size]; exact hi) rfl rfl hd fun H1 e1 z oq => ?_
          refine k H1 _ cells slots (by rw [List.length_set]) (by rw [sm_sz_set hw]; show (la.set _ x).length = la.length; rw [List.length_set]) (hRW.set hw ?_ z oq) (hS.put z oq (Nat.le_add_right _ _))
          show H1[g.1 + k0]? = some (vp_cell _ _)
          rw [e1]
          dsimp only [sm_rE]
          rw [vp_cell_i, vp_cell_i, arrV_store, List.length_set]
          congr 2
          funext t
          rw [sm_getD_set (Nat.not_le.mp fun z => hi (Or.inr z))]
          by_cases hq : t = ix.toNatClampNeg
          · simp [updV, hq]
          · simp [updV, hq]
      · cases h
    · cases h
  · -- castore
    split at h
    · rename_i x ix k0 r
      split at h
      · rename_i la hw
        split at h
        · cases h
        · rename_i hi
          cases h
          refine ⟨rfl, ?_⟩
          rw [List.map_cons, List.map_cons, List.map_cons, sm_up_lo (hRW.lo hw)]
          refine W.cast hx hb (hRW.2.2 k0 _ (sm_rW_get hw)) ((hK.2 1 _ rfl).1 la.length (fun t => .int (la.getD t 0))) (fun q => by cases q) (by show ¬ (ix < 0 ∨ (arrV _ _ _).slots.size ≤ _); rw [arrV_size]; exact hi) rfl rfl hd fun H1 e1 z oq => ?_
          refine k H1 _ cells slots (by rw [List.length_set]) (by rw [sm_sz_set hw]; show (la.set _ _).length = la.length; rw [List.length_set]) (hRW.set hw ?_ z oq) (hS.put z oq (Nat.le_add_right _ _))
          show H1[g.1 + k0]? = some (vp_cell _ _)
          rw [e1]
          dsimp only [sm_rE]
          rw [vp_cell_i, vp_cell_i, arrV_store, List.length_set]
          congr 2
          funext t
          rw [sm_getD_set (Nat.not_le.mp fun z => hi (Or.inr z))]
          by_cases hq : t = ix.toNatClampNeg
          · simp [updV, hq, vp_nar]
            try rfl
          · simp [updV, hq]
      · cases h
    · cases h
  · -- lastore
    split at h
    · rename_i x ix k0 r
      split at h
      · rename_i la hw
        split at h
        · cases h
        · rename_i hi
          cases h
          refine ⟨rfl, ?_⟩
          rw [List.map_cons, List.map_cons, List.map_cons, sm_up_lo (hRW.lo hw)]
          refine W.last hx hb (hRW.2.2 k0 _ (sm_rW_get hw)) ((hK.2 2 _ rfl).1 la.length (fun t => .long (la.getD t 0))) (fun q => by cases q) (by show ¬ (ix < 0 ∨ (arrV _ _ _).slots.size ≤ _); rw [arrV_size]; exact hi) rfl rfl hd fun H1 e1 z oq => ?_
          refine k H1 _ cells slots (by rw [List.length_set]) (by rw [sm_sz_set hw]; show (la.set _ x).length = la.length; rw [List.length_set]) (hRW.set hw ?_ z oq) (hS.put z oq (Nat.le_add_right _ _))
          show H1[g.1 + k0]? = some (vp_cell _ _)
          rw [e1]
          dsimp only [sm_rE]
          rw [vp_cell_l, vp_cell_l, arrV_store, List.length_set]
          congr 2
          funext t
          rw [sm_getD_set (Nat.not_le.mp fun z => hi (Or.inr z))]
          by_cases hq : t = ix.toNatClampNeg
          · simp [updV, hq]
          · simp [updV, hq]
      · cases h
    · cases h
  · -- arraylength
    split at h
    · rename_i k0 r
      split at h
      · rename_i hk0
        subst hk0
        cases h
        exact ⟨rfl, va_tlen hx hb hFx.2.2.2.1 hS rfl hd (k H locs cells slots rfl rfl hRW hS)⟩
      · split at h
        · rename_i hk0
          subst hk0
          cases h
          exact ⟨rfl, va_slen hx hb hFx.2.2.2.2.2.2.2.2.2.1 hFx.2.2.2.2.2.2.2.2.2.2.1 (Nat.not_le.mpr hFx.2.2.2.2.2.2.2.2.2.2.2.1) hS hd (k H locs cells slots rfl rfl hRW hS)⟩
        · split at h
          · rename_i t la hw
            cases h
            refine ⟨rfl, ?_⟩
            rw [List.map_cons, sm_up_lo (hRW.lo hw)]
            by_cases ht : t = 0
            · exact va_alen hx hb hK hRW.2.2 k0 0 (sm_rW_get hw) (ty := .int) (by rw [if_pos ht]; rfl) rfl hd (k H locs cells slots rfl rfl hRW hS)
            · exact va_alen hx hb hK hRW.2.2 k0 1 (sm_rW_get hw) (ty := .char) (by rw [if_neg ht]; rfl) rfl hd (k H locs cells slots rfl rfl hRW hS)
          · rename_i la hw
            cases h
            refine ⟨rfl, ?_⟩
            rw [List.map_cons, sm_up_lo (hRW.lo hw)]
            exact va_alen hx hb hK hRW.2.2 k0 2 (sm_rW_get hw) (ty := .long) rfl rfl hd (k H locs cells slots rfl rfl hRW hS)
          · cases h
    · cases h
  · -- new
    split at h
    · rename_i hc
      cases h
      simp only [sm_okR, Bool.or_eq_true, Bool.and_eq_true, decide_eq_true_eq] at hR
      have hR := hR.resolve_left (by omega)
      have hI := sm_okI_at hc.1
      have hcl := sm_cl_at hc.1
      have hKn := hK.1 ea _ hcl
      have hlenF : ((List.range (sm_nf ea)).map (fun t => defaultValue (sm_ty ea t))).length = sm_nf ea := by rw [List.length_map, List.length_range]
      simp only [List.length_append, List.length_singleton] at hcs
      rw [sm_sz_app] at hss
      have hs1 : sm_sz1 (.inr (.inr (ea, (List.range (sm_nf ea)).map (fun t => defaultValue (sm_ty ea t))))) = sm_nf ea := hlenF
      rw [hs1] at hss
      refine ⟨rfl, W.newcK hx hb hown (hts _ (lw_inG (sm_at_in hR.2) rfl)) (hts _ hI.1) (hts _ hI.2.1) rfl hd (by omega) (by omega) hKn.2.1 rfl fun H1 kC hkC e1 z1 o1 => ?_⟩
      have hk := k H1 locs (cells + 1) (slots + sm_nf ea) (by rw [List.length_append]; show _ = cells + (wd.length + 1); omega) (by rw [sm_sz_app, hs1]; omega)
        (hRW.app hc.2 ⟨_, hcl, (u_born (sm_ty ea) hts hI.2.2.1 hKn hkC (by rw [← hRW.1]; exact e1) hI.2.2.2.1).to (fun t ht => ?_)⟩ z1 o1)
        ⟨Nat.le_trans hS.1 (by omega), fun x h1 h2 => (o1 x (Nat.lt_of_lt_of_le h1 hS.1)).trans (hS.2.1 x h1 h2), hS.2.2⟩
      · rw [List.map_cons, sm_up_lo hc.2, ← hRW.1] at hk
        exact hk
      · show _ = vp_V (((List.range (sm_nf ea)).map (fun t => defaultValue (sm_ty ea t))).map (sm_up g)) t
        rw [vp_V, List.getD_eq_getElem?_getD, List.getElem?_map, List.getElem?_map, List.getElem?_range ht]
        show defaultValue (sm_ty ea t) = sm_up g (defaultValue (sm_ty ea t))
        cases sm_ty ea t <;> rfl
    · cases h
  · -- newarray
    rename_i ty
    split at h
    · rename_i n r
      split at h
      · cases h
      · rename_i hc
        have hc1 : ¬ n < 0 := fun z => hc (Or.inl z)
        have hc2 : n.toNatClampNeg ≤ 100000 := Nat.not_lt.mp fun z => hc (Or.inr (Or.inl z))
        have hc3 : wd.length < 1000000 := Nat.not_le.mp fun z => hc (Or.inr (Or.inr z))
        split at h
        · rename_i h2
          cases h
          simp only [List.length_append, List.length_singleton] at hcs
          rw [sm_sz_app] at hss
          have hs1 : sm_sz1 (.inr (.inl (List.replicate n.toNatClampNeg 0))) = n.toNatClampNeg := List.length_replicate
          rw [hs1] at hss
          cases ty <;> simp only [sm_okR, Bool.and_eq_true, decide_eq_true_eq] at hR <;> first
            | (cases hR; done)
            | (exfalso; have := hR.1; omega)
            | (refine ⟨rfl, sm_newa hx hb hK (hts _ (lw_inG (sm_at_in hR.2) rfl)) (ix := 2) rfl (by rfl) hRW hS hc3 hc1 rfl (Nat.le_trans (Nat.mul_le_mul hc2 (sm_cb _)) (by decide)) (by omega) (by omega) hd (en := .inr (.inl (List.replicate n.toNatClampNeg 0))) (a0 := (n.toNatClampNeg, .inr (.inl (fun t => (List.replicate n.toNatClampNeg 0).getD t 0)))) (by show (_ : va_E) = _; simp [sm_rE]) (fun cA => by rw [vp_cell_l]; congr 1; funext t; simp [List.getD_eq_getElem?_getD, List.getElem?_replicate]; split <;> rfl) (fun H1 hR1 hS1 => ?_)⟩
               have hk := k H1 locs (cells + 1) (slots + n.toNatClampNeg) (by rw [List.length_append]; show _ = cells + (wd.length + 1); omega) (by rw [sm_sz_app, hs1]; omega) hR1 hS1
               rw [List.map_cons, sm_up_lo hc3] at hk
               exact hk)
        · rename_i h2
          cases h
          simp only [List.length_append, List.length_singleton] at hcs
          rw [sm_sz_app] at hss
          have hs1 : sm_sz1 (.inl (ea, List.replicate n.toNatClampNeg 0)) = n.toNatClampNeg := List.length_replicate
          rw [hs1] at hss
          cases ty <;> simp only [sm_okR, Bool.and_eq_true, decide_eq_true_eq] at hR <;> first
            | (cases hR; done)
            | (exfalso; have := hR.1; omega)
            | (refine ⟨rfl, sm_newa hx hb hK (hts _ (lw_inG (sm_at_in hR.2) rfl)) (ix := 0) rfl (by rfl) hRW hS hc3 hc1 rfl (Nat.le_trans (Nat.mul_le_mul hc2 (sm_cb _)) (by decide)) (by omega) (by omega) hd (en := .inl (ea, List.replicate n.toNatClampNeg 0)) (a0 := (n.toNatClampNeg, .inl (fun t => (List.replicate n.toNatClampNeg 0).getD t 0))) (by show (_ : va_E) = _; simp [sm_rE, hR.1]) (fun cA => by rw [vp_cell_i]; congr 1; funext t; simp [List.getD_eq_getElem?_getD, List.getElem?_replicate]; split <;> rfl) (fun H1 hR1 hS1 => ?_)⟩
               have hk := k H1 locs (cells + 1) (slots + n.toNatClampNeg) (by rw [List.length_append]; show _ = cells + (wd.length + 1); omega) (by rw [sm_sz_app, hs1]; omega) hR1 hS1
               rw [List.map_cons, sm_up_lo hc3] at hk
               exact hk)
            | (refine ⟨rfl, sm_newa hx hb hK (hts _ (lw_inG (sm_at_in hR.2) rfl)) (ix := 1) rfl (by rfl) hRW hS hc3 hc1 rfl (Nat.le_trans (Nat.mul_le_mul hc2 (sm_cb _)) (by decide)) (by omega) (by omega) hd (en := .inl (ea, List.replicate n.toNatClampNeg 0)) (a0 := (n.toNatClampNeg, .inl (fun t => (List.replicate n.toNatClampNeg 0).getD t 0))) (by show (_ : va_E) = _; simp [sm_rE, hR.1]) (fun cA => by rw [vp_cell_i]; congr 1; funext t; simp [List.getD_eq_getElem?_getD, List.getElem?_replicate]; split <;> rfl) (fun H1 hR1 hS1 => ?_)⟩
               have hk := k H1 locs (cells + 1) (slots + n.toNatClampNeg) (by rw [List.length_append]; show _ = cells + (wd.length + 1); omega) (by rw [sm_sz_app, hs1]; omega) hR1 hS1
               rw [List.map_cons, sm_up_lo hc3] at hk
               exact hk)
    · cases h
  · -- objectInit
    split at h
    · rename_i k0 r
      split at h
      · rename_i hc
        cases h
        simp only [sm_okR, Bool.or_eq_true, decide_eq_true_eq] at hR
        have hR := hR.resolve_left (by omega)
        rw [if_pos hc.1] at hR
        refine ⟨rfl, ?_⟩
        rw [List.map_cons, sm_up_lo hc.2.2.1]
        refine W.objInit hx hb hown (hts _ (lw_inG (sm_at_in hR) rfl)) (hts _ (lw_inG sm_ok_obj.1 rfl)) (hts _ (lw_inG sm_ok_obj.2 rfl)) rfl (by rw [hml]; exact hl.1) rfl hd (by omega) ?_ (k H locs cells slots rfl rfl hRW hS)
        have : ((r.map (sm_up g)).map fun v => v.category).sum = (r.map fun v => v.category).sum := by
          rw [List.map_map]; congr 1; exact List.map_congr_left fun v _ => sm_up_cat hf v
        rw [this]
        show 2 * 0 + _ + 12 ≤ _
        omega
      · cases h
    · cases h
  · -- Math
    split at h
    · rename_i y x r
      split at h
      · rename_i hc
        have hsum : ((r.map (sm_up g)).map fun v => v.category).sum = (r.map fun v => v.category).sum := by
          rw [List.map_map]; congr 1; exact List.map_congr_left fun v _ => sm_up_cat hf v
        split at h
        · rename_i hk0
          subst hk0
          cases h
          simp only [sm_okR, Bool.or_eq_true, Bool.and_eq_true, decide_eq_true_eq] at hR
          rcases hR with ((hR | hR) | hR) | hR
          · omega
          · exact ⟨rfl, va_mmax hx hb (by rw [hml]; exact hl.1.symm) hown (hts _ (lw_inG (sm_at_in hR.2) rfl)) (hts _ (lw_inG (sm_at_in sm_ok_max.1) rfl)) (hts _ (lw_inG sm_ok_math rfl)) (hts _ (lw_inG (sm_at_in sm_ok_max.2) rfl)) (by omega) (by rw [hsum]; omega) (Nat.le_of_add_le_add_right hcs) (Nat.le_of_add_le_add_right hss) hd (k H locs cells slots rfl rfl hRW hS)⟩
          · omega
          · exact absurd hR.1.1.2 (by decide)
        · split at h
          · rename_i hk0
            subst hk0
            cases h
            simp only [sm_okR, Bool.or_eq_true, Bool.and_eq_true, decide_eq_true_eq] at hR
            rcases hR with ((hR | hR) | hR) | hR
            · omega
            · omega
            · exact ⟨rfl, va_mmin hx hb (by rw [hml]; exact hl.1.symm) hown (hts _ (lw_inG (sm_at_in hR.2) rfl)) (hts _ (lw_inG (sm_at_in sm_ok_min.1) rfl)) (hts _ (lw_inG sm_ok_math rfl)) (hts _ (lw_inG (sm_at_in sm_ok_min.2) rfl)) (by omega) (by rw [hsum]; omega) (Nat.le_of_add_le_add_right hcs) (Nat.le_of_add_le_add_right hss) hd (k H locs cells slots rfl rfl hRW hS)⟩
            · exact absurd hR.1.1.2 (by decide)
          · cases h
      · cases h
    · cases h
  · cases h
end SM3
end
section
/-! THE SMALL MACHINE IS SOUND: a run of it that ends is a contract of the real method -/
theorem sm_jump_wd {en : sm_I} {pc : Nat} {L : sm_L} {st : List Value} {wd : sm_W} {q : Nat × sm_L × List Value × sm_W} (h : sm_jump en pc L st wd = some q) : q.2.2.2 = wd := by
  unfold sm_jump at h
  (repeat' split at h) <;> first | (cases h; done) | (cases h; rfl)
theorem sm_loc_wd {ml : Nat} {en : sm_I} {pc : Nat} {L : sm_L} {st : List Value} {wd : sm_W} {q : Nat × sm_L × List Value × sm_W} (h : sm_loc ml en pc L st wd = some q) : q.2.2.2 = wd := by
  unfold sm_loc at h
  (repeat' split at h) <;> first | (cases h; done) | (cases h; rfl) | (obtain ⟨L', h1, h2⟩ := Option.map_eq_some_iff.mp h; subst h2; rfl)
theorem sm_mem_mono {xs : List Int32} {d : Nat} {en : sm_I} {pc : Nat} {L : sm_L} {st : List Value} {wd : sm_W} {q : Nat × sm_L × List Value × sm_W} (h : sm_mem xs d en pc L st wd = some q) : wd.length ≤ q.2.2.2.length ∧ sm_sz wd ≤ sm_sz q.2.2.2 := by
  unfold sm_mem at h
  (repeat' split at h) <;> first
    | (cases h; done)
    | (cases h; exact ⟨Nat.le_refl _, Nat.le_refl _⟩)
    | (cases h; exact ⟨by rw [List.length_append]; exact Nat.le_add_right _ _, by rw [sm_sz_app]; exact Nat.le_add_right _ _⟩)
    | (cases h; exact ⟨by rw [List.length_set]; exact Nat.le_refl _, Nat.le_of_eq (sm_sz_set (by assumption) (by simp [sm_sz1])).symm⟩)
theorem sm_step_mono {xs : List Int32} {d ml : Nat} {en : sm_I} {pc : Nat} {L : sm_L} {st : List Value} {wd : sm_W} {q : Nat × sm_L × List Value × sm_W} (h : sm_step xs d ml en pc L st wd = some q) : wd.length ≤ q.2.2.2.length ∧ sm_sz wd ≤ sm_sz q.2.2.2 := by
  unfold sm_step at h
  split at h
  · obtain ⟨st', h1, h2⟩ := Option.map_eq_some_iff.mp h
    subst h2
    exact ⟨Nat.le_refl _, Nat.le_refl _⟩
  · rw [sm_jump_wd h]; exact ⟨Nat.le_refl _, Nat.le_refl _⟩
  · rw [sm_loc_wd h]; exact ⟨Nat.le_refl _, Nat.le_refl _⟩
  · exact sm_mem_mono h
theorem sm_run_mono (xs : List Int32) : ∀ (f d j pc : Nat) (L : sm_L) (st : List Value) (wd : sm_W) (q : Option Value × sm_W), sm_run xs f d j pc L st wd = some q → wd.length ≤ q.2.length ∧ sm_sz wd ≤ sm_sz q.2 := by
  intro f
  induction f with
  | zero => intro d j pc L st wd q h; cases h
  | succ f ih =>
    intro d j pc L st wd q h
    unfold sm_run at h
    split at h
    · cases h
    · split at h
      · split at h
        · cases h
        · split at h
          · split at h
            · cases h
            · rename_i q1 h1
              have a1 := ih _ _ _ _ _ _ _ h1
              have a2 := ih _ _ _ _ _ _ _ h
              exact ⟨Nat.le_trans a1.1 a2.1, Nat.le_trans a1.2 a2.2⟩
          · cases h
      · split at h
        · cases h
          exact ⟨Nat.le_refl _, Nat.le_refl _⟩
        · split at h
          · cases h
          · rename_i q1 h1
            have a1 := sm_step_mono h1
            have a2 := ih _ _ _ _ _ _ _ h
            exact ⟨Nat.le_trans a1.1 a2.1, Nat.le_trans a1.2 a2.2⟩
theorem sm_exp_len {g : sm_G} (hf : sm_fv g) : ∀ as : List Value, (lg_sl (as.map (sm_up g))).length = (sm_exp as).length
  | [] => rfl
  | v :: r => by
    have ih := sm_exp_len hf r
    simp only [lg_sl] at ih ⊢
    rw [List.map_cons, List.flatMap_cons, List.length_append, ih, sm_up_cat hf, show sm_exp (v :: r) = if v.category = 2 then some v :: none :: sm_exp r else some v :: sm_exp r from rfl]
    split <;> simp <;> omega
theorem sm_exp_in {g : sm_G} (hf : sm_fv g) : ∀ (as : List Value) (k i : Nat) (v : Value), (sm_exp as)[i]? = some (some v) → (k + i, sm_up g v) ∈ lv_args k (as.map (sm_up g))
  | [], k, i, v, h => by simp [sm_exp] at h
  | w :: r, k, i, v, h => by
    unfold sm_exp at h
    rw [List.map_cons]
    unfold lv_args
    rw [sm_up_cat hf]
    split at h
    · rename_i hc
      rw [if_pos hc]
      match i, h with
      | 0, h =>
        have h : w = v := by simpa using h
        subst h
        exact List.mem_cons_self
      | 1, h => simp at h
      | i + 2, h =>
        have := sm_exp_in hf r (k + 2) i v (by simpa using h)
        rw [show k + 2 + i = k + (i + 2) by omega] at this
        exact List.mem_cons_of_mem _ this
    · rename_i hc
      rw [if_neg hc]
      match i, h with
      | 0, h =>
        have h : w = v := by simpa using h
        subst h
        exact List.mem_cons_self
      | i + 1, h =>
        have := sm_exp_in hf r (k + 1) i v (by simpa using h)
        rw [show k + 1 + i = k + (i + 1) by omega] at this
        exact List.mem_cons_of_mem _ this
theorem sm_ent_lv {g : sm_G} (hf : sm_fv g) {as : List Value} {n : Nat} (h : (sm_exp as).length ≤ n) : sm_lv g ((lg_sl (as.map (sm_up g)) ++ List.replicate (n - (lg_sl (as.map (sm_up g))).length) Slot.unset).toArray) n (sm_ent n as) := by
  have h1 := lv_entry (as.map (sm_up g)) (n := n) (by rw [sm_exp_len hf]; exact h)
  refine ⟨h1.1, h1.2.1, by simp [sm_ent]; omega, fun i v hi => ?_⟩
  unfold sm_ent at hi
  by_cases hl : i < (sm_exp as).length
  · rw [List.getElem?_append_left hl] at hi
    have := sm_exp_in hf as 0 i v hi
    rw [Nat.zero_add] at this
    exact h1.2.2 _ this
  · rw [List.getElem?_append_right (by omega)] at hi
    have := List.mem_of_getElem? hi
    rw [List.mem_replicate] at this
    cases this.2
def sm_rm (d mc ms : Nat) : Room := { frames := d, cells := mc, slots := ms, locals := 43 * d }
def sm_Pc (g : sm_G) (D : va_G) (xs : List Int32) (as : List Value) (wd : sm_W) : Array Value → State → Prop := fun v U => v = (as.map (sm_up g)).toArray ∧ sm_RW g D wd U.heap ∧ va_K D sm_cl (sm_tys g) U ∧ sm_Fx g xs U U.heap ∧ g.1 ≤ U.heap.size
def sm_Qc (g : sm_G) (D : va_G) (q : Option Value × sm_W) : Array Value → State → Outcome → State → Prop := fun _ st oc t => (oc = .returned (q.1.map (sm_up g)) ∧ sm_RW g D q.2 t.heap) ∧ va_F (sm_A g) st t
def sm_Wok (l : Launch) (xs : List Int32) (g : sm_G) (D : va_G) (f : Nat) : Prop := ∀ (d j pc : Nat) (L : sm_L) (st : List Value) (wd : sm_W) (q : Option Value × sm_W), j < sm_N + 1 → sm_run xs f d j pc L st wd = some q →
  ∀ (p : Program) (e : Env) (R : Room) (s : State) (m : MethodId) (args : Array Value) (below : List Frame) (meth : Method) (c : Code) (H : Heap) (locs : List Loc) (cells slots : Nat) (Q : State → Prop) (ls : Array Slot) (mc ms : Nat),
  sm_C g D xs p d j R s m args meth c → sm_RW g D wd H → va_S (sm_A g) s.heap H locs → sm_lv g ls (sm_ml j) L →
  cells + q.2.length ≤ mc + wd.length → slots + sm_sz q.2 ≤ ms + sm_sz wd → mc ≤ R.cells → ms ≤ R.slots →
  (∀ (pc' : Nat) (i : Instr) (st' : List Value) (H' : Heap) (locs' : List Loc) (ls' : Array Slot), decode (sm_b j) pc' = .ok (i, 1) → sm_ret j i st' = some q.1 → sm_RW g D q.2 H' → va_S (sm_A g) s.heap H' locs' → W p l e R s m args below meth c H' locs' mc ms Q (F0 m pc' ls' (st'.map (sm_up g)))) →
  W p l e R s m args below meth c H locs cells slots Q (F0 m pc ls (st.map (sm_up g)))
theorem sm_okM_at {j : Nat} (h : j < sm_N) : Cond.code (sm_y j) (sm_b j) (sm_ml j) (sm_rt j) ∈ lw_tblG ∧ Cond.initialized (sm_y j).cls ∈ lw_tblG ∧
    (sm_kd j = 0 → Cond.static (sm_y j) ∈ lw_tblG) ∧ (sm_kd j = 1 → Cond.instanceMethod (sm_y j) ∈ lw_tblG ∧ Cond.selects (sm_y j).cls (sm_y j) (sm_y j) ∈ lw_tblG ∧ sm_cn (sm_ci j) = (sm_y j).cls ∧ sm_ci j < 8) ∧
    (sm_kd j = 2 → Cond.instanceMethod (sm_y j) ∈ lw_tblG ∧ (sm_y j).name = "<init>" ∧ sm_rt j = none) ∧ (sm_kd j = 3 → Cond.instanceMethod (sm_y j) ∈ lw_tblG ∧ Cond.selects (sm_y j).cls (sm_y j) (sm_y j) ∈ lw_tblG ∧ (sm_y j).cls = "java/lang/String") ∧
    ((sm_y j).cls ≠ "java/lang/invoke/MethodHandle" ∧ (sm_y j).cls ≠ "java/lang/invoke/VarHandle" ∧ (parseMethodDescriptor (sm_y j).desc).map (fun d => d.parameters.length) = some (sm_na j)) ∧ plainName (sm_y j).cls = true ∧ sm_ml j ≤ 24 := by
  have h1 := sm_okM_all h
  simp only [sm_okM, Bool.and_eq_true, decide_eq_true_eq] at h1
  obtain ⟨⟨⟨⟨⟨⟨⟨h2, h3⟩, h4⟩, h5⟩, h6⟩, h7⟩, h8⟩, h9⟩ := h1
  refine ⟨lw_inG (sm_at_in h2) rfl, lw_inG (sm_at_in h3) rfl, fun z => ?_, fun z => ?_, fun z => ?_, fun z => ?_, ⟨h5, h6, h9⟩, h7, h8⟩
  · rw [z] at h4
    exact lw_inG (sm_at_in h4) rfl
  · rw [z] at h4
    simp only [Bool.and_eq_true, decide_eq_true_eq] at h4
    exact ⟨lw_inG (sm_at_in h4.1.1.1) rfl, lw_inG (sm_at_in h4.1.1.2) rfl, h4.1.2, h4.2⟩
  · rw [z] at h4
    simp only [Bool.and_eq_true, decide_eq_true_eq] at h4
    exact ⟨lw_inG (sm_at_in h4.1.1) rfl, h4.1.2, h4.2⟩
  · rw [z] at h4
    simp only [Bool.and_eq_true, decide_eq_true_eq] at h4
    exact ⟨lw_inG (sm_at_in h4.1.1) rfl, lw_inG (sm_at_in h4.1.2) rfl, h4.2⟩
theorem sm_met_of {l : Launch} {xs : List Int32} {g : sm_G} {D : va_G} {f : Nat} (h : sm_Wok l xs g D f) {d j : Nat} {as : List Value} {wd : sm_W} {q : Option Value × sm_W} (hf : sm_fv g) (hj : j < sm_N) (hr : sm_run xs f d j 0 (sm_ent (sm_ml j) as) [] wd = some q) (hlen : (sm_exp as).length ≤ sm_ml j) :
    Met l (sm_y j) (Cond.code (sm_y j) (sm_b j) (sm_ml j) (sm_rt j) :: lw_tblG) (sm_rm d (q.2.length - wd.length) (sm_sz q.2 - sm_sz wd)) (sm_Pc g D xs as wd) (sm_Qc g D q) (q.2.length - wd.length) (sm_sz q.2 - sm_sz wd) (sm_A g) := by
  have hM := sm_okM_at hj
  have hmono := sm_run_mono xs _ _ _ _ _ _ _ _ hr
  refine Met.ofW (cc := sm_b j) (maxL := sm_ml j) (ret := sm_rt j) hM.2.2.2.2.2.2.2.1 rfl ?_
  intro p e s m args below meth c s₁ B hml hv
  obtain ⟨rfl, hRW, hK, hFx, hgs⟩ := hv
  have hts := atoms_spec (ws := Cond.code (sm_y j) (sm_b j) (sm_ml j) (sm_rt j) :: lw_tblG) B.pre
  rw [lg_entry_eq]
  refine h d j 0 _ [] wd q (by omega) hr p e _ s m _ below meth c s.heap [] 0 0 _ _ (q.2.length - wd.length) (sm_sz q.2 - sm_sz wd) ⟨B.exec, B.bytes, hml, findClass_of_methodNamed B.named, fun w hw => hts w (List.mem_cons_of_mem _ hw), hK, hFx, hgs, Nat.le_refl _, Nat.le_refl _, fun hi => (name_of_methodNamed B.named B.method).1.trans hi⟩ hRW va_S.rf (sm_ent_lv hf hlen) (by omega) (by omega) (Nat.le_refl _) (Nat.le_refl _) ?_
  intro pc' i st' H' locs' ls' hd hret hRW' hS'
  have hq : ∀ t : State, t.heap = H' → s.WarmedH t.vm → sm_Qc g D q (as.map (sm_up g)).toArray s (.returned (q.1.map (sm_up g))) t := fun t ht _ => ⟨⟨rfl, by rw [ht]; exact hRW'⟩, hS'.F ht⟩
  obtain ⟨q1, q2⟩ := q
  unfold sm_ret at hret
  split at hret
  · split at hret
    · split at hret
      · rename_i v ty hty
        split at hret
        · rename_i hc
          cases hret
          exact W.zret B.exec B.bytes (B.returns.trans hty) hc.1 hq hS'.2.2 hd B.notSynchronized
        · cases hret
      · cases hret
    · cases hret
  · split at hret
    · split at hret
      · rename_i v hty
        cases hret
        exact W.lret B.exec B.bytes (B.returns.trans hty) hq hS'.2.2 hd B.notSynchronized
      · cases hret
    · cases hret
  · split at hret
    · split at hret
      · rename_i hty
        cases hret
        exact W.vret B.exec B.bytes (B.returns.trans hty) hq hS'.2.2 hd B.notSynchronized
      · cases hret
    · cases hret
  · cases hret
end
section
theorem lw_good2 {w : Cond} (h : w ∈ lw_tblG) : w ∈ lw_tblG ∧ ((w.onTables && w.keeps) = true ∨ ∃ ty, w = .arrayClass ty) := ⟨h, good_of_word (lw_goodG h).2⟩
theorem lw_goodIn {ws : List Cond} (h : ∀ w ∈ ws, w ∈ lw_tblG) : GoodIn lw_tblG ws := fun w hw => lw_good2 (h w hw)
theorem sm_blind {g : sm_G} {D : va_G} {xs : List Int32} {as : List Value} {wd : sm_W} : FrameBlind (sm_Pc g D xs as wd) := fun a U jf mk h => by
  obtain ⟨h1, h2, h3, h4, h5⟩ := h
  exact ⟨h1, h2, va_K.moved (u := U) (U := U.calling jf mk a) (Vm.Alike.refl U.vm) h3, h4.calling, h5⟩
theorem sm_take {st : List Value} {n : Nat} {v : Value} (h : st[n]? = some v) : (st.take (n + 1)).reverse = v :: (st.take n).reverse := by
  rw [List.take_succ, h]
  simp
theorem sm_recv1 {j n : Nat} {st : List Value} {wd : sm_W} (hk : sm_kd j = 1) (h : sm_recv j n st wd = true) : ∃ (k : Nat) (fs : List Value), st[n - 1]? = some (.ref k) ∧ wd[k]? = some (.inr (.inr (sm_ci j, fs))) := by
  have h1 : (match st[n - 1]? with
    | some (.ref k) => (match wd[k]? with
      | some (.inr (.inr (ci, _))) => decide (ci = sm_ci j)
      | _ => false)
    | _ => false) = true := by
    unfold sm_recv at h
    rw [hk] at h
    exact h
  split at h1
  · rename_i k hk
    split at h1
    · rename_i ci fs hw
      have hci := of_decide_eq_true h1
      subst hci
      exact ⟨k, fs, hk, hw⟩
    · cases h1
  · cases h1
theorem sm_recv2 {j n : Nat} {st : List Value} {wd : sm_W} (hk : sm_kd j = 2) (h : sm_recv j n st wd = true) : ∃ k : Nat, st[n - 1]? = some (.ref k) ∧ k < 1000000 := by
  have h1 : (match st[n - 1]? with
    | some (.ref k) => decide (k < 1000000)
    | _ => false) = true := by
    unfold sm_recv at h
    rw [hk] at h
    exact h
  split at h1
  · rename_i k hk
    exact ⟨k, hk, of_decide_eq_true h1⟩
  · cases h1
theorem sm_recv3 {j n : Nat} {st : List Value} {wd : sm_W} (hk : sm_kd j = 3) (h : sm_recv j n st wd = true) : st[n - 1]? = some (.ref 1000001) := by
  have h1 : (match st[n - 1]? with
    | some (.ref k) => decide (k = 1000001)
    | _ => false) = true := by
    unfold sm_recv at h
    rw [hk] at h
    exact h
  split at h1
  · rename_i k hk
    have hci := of_decide_eq_true h1
    subst hci
    exact hk
  · cases h1
section SM4
variable {p : Program} {l : Launch} {e : Env} {R : Room} {s : State} {m : MethodId} {args : Array Value} {below : List Frame} {meth : Method} {c : Code} {H : Heap} {locs : List Loc} {cells slots : Nat} {Q : State → Prop}
variable {pc : Nat} {ls : Array Slot} {g : sm_G} {D : va_G} {xs : List Int32} {d j : Nat}
theorem sm_callk {st0 rest : List Value} {mc ms : Nat} {q : Option Value × sm_W} {a : Array Value} (hr : va_Run p l e R s m args below meth c H locs cells slots mc ms (F0 m pc ls st0) (rest.map (sm_up g)) (sm_Qc g D q a) (sm_A g)) (hS : va_S (sm_A g) s.heap H locs)
    (kk : ∀ (H1 : Heap) (locs1 : List Loc), sm_RW g D q.2 H1 → va_S (sm_A g) s.heap H1 locs1 → W p l e R s m args below meth c H1 locs1 (cells + mc) (slots + ms) Q (F0 m (pc + 3) ls ((sm_push q.1 rest).map (sm_up g)))) : W p l e R s m args below meth c H locs cells slots Q (F0 m pc ls st0) := by
  intro T hT X
  obtain ⟨v, st₀, t, T', L, h0, X', hL, e1, e2, ⟨⟨hv, hb⟩, hz, hk⟩, st⟩ := hr T hT X
  have hv : v = q.1.map (sm_up g) := by cases hv; rfl
  subst hv
  rw [h0] at hz hk
  have hpush : (q.1.map (sm_up g)).toList ++ rest.map (sm_up g) = (sm_push q.1 rest).map (sm_up g) := by
    cases q.1 <;> rfl
  obtain ⟨t2, a1, b1⟩ := kk T'.heap (locs ++ L) (by rw [e1]; exact hb) ⟨Nat.le_trans hS.1 (by rw [e1]; exact hz), fun q h1 h2 => by rw [e1, hk q (Nat.lt_of_lt_of_le h1 hS.1) h2]; exact hS.2.1 q h1 h2, fun q hq => by
      rcases List.mem_append.mp hq with h | h
      · exact hS.2.2 q h
      · exact hL q h⟩ T' rfl X'
  rw [← hpush] at a1
  exact ⟨t2, st t2 a1, b1⟩
theorem sm_call_ok (C : sm_C g D xs p (d + 1) j R s m args meth c) {f : Nat} (hW : sm_Wok l xs g D f) {en : sm_I} {L : sm_L} {st : List Value} {wd : sm_W} {q1 : Option Value × sm_W} (hE : sm_Ok j pc en) (hcall : sm_call en = true) (hrecv : sm_recv en.2.1 en.2.2.1 st wd = true) (hn : en.2.2.1 ≤ st.length) (hlen : (sm_exp (st.take en.2.2.1).reverse).length ≤ sm_ml en.2.1) (hcat : ((st.drop en.2.2.1).map fun v => v.category).sum ≤ 8)
    (h1 : sm_run xs f d en.2.1 0 (sm_ent (sm_ml en.2.1) (st.take en.2.2.1).reverse) [] wd = some q1) (hl : sm_lv g ls (sm_ml j) L) (hRW : sm_RW g D wd H) (hS : va_S (sm_A g) s.heap H locs)
    (hcs : cells + (q1.2.length - wd.length) ≤ R.cells) (hss : slots + (sm_sz q1.2 - sm_sz wd) ≤ R.slots)
    (kk : ∀ (H1 : Heap) (locs1 : List Loc), sm_RW g D q1.2 H1 → va_S (sm_A g) s.heap H1 locs1 → W p l e R s m args below meth c H1 locs1 (cells + (q1.2.length - wd.length)) (slots + (sm_sz q1.2 - sm_sz wd)) Q (F0 m (pc + 3) ls ((sm_push q1.1 (st.drop en.2.2.1)).map (sm_up g)))) : W p l e R s m args below meth c H locs cells slots Q (F0 m pc ls (st.map (sm_up g))) := by
  obtain ⟨hx, hb, hml, hown, hts, hK, hFx, hgs, hdR, hdl, hin⟩ := C
  have hf : sm_fv g := hFx.2.2.2.2.2.2.2.2.2.2.2.2
  obtain ⟨i, j', n, ec⟩ := en
  obtain ⟨hR, ln, hd, hn2⟩ := hE
  dsimp only at hR hd hn2 hrecv hn hlen hcat h1 kk
  have hj : j' < sm_N := by
    unfold sm_call at hcall
    dsimp only at hcall
    split at hcall
    · exact of_decide_eq_true hcall
    · exact of_decide_eq_true hcall
    · exact of_decide_eq_true hcall
    · cases hcall
  have hMj := sm_okM_at hj
  have hM := sm_met_of hW hf hj h1 hlen
  have hPU : ∀ U : State, U.heap = H → s.WarmedH U.vm → sm_Pc g D xs (st.take n).reverse wd (((st.take n).reverse).map (sm_up g)).toArray U := fun U hU hW2 =>
    ⟨rfl, by rw [hU]; exact hRW, va_K.moved hW2.alike hK, by rw [hU]; exact hFx.mv hW2 hS.1 hS.2.1, by rw [hU]; exact Nat.le_trans hgs hS.1⟩
  have hcat2 : (((st.drop n).map (sm_up g)).map fun v => v.category).sum ≤ 8 := by
    rw [List.map_map, show ((fun v : Value => v.category) ∘ sm_up g) = (fun v => v.category) from funext fun v => sm_up_cat hf v]; exact hcat
  have hstk : st.map (sm_up g) = (((st.take n).reverse).map (sm_up g)).reverse ++ (st.drop n).map (sm_up g) := by
    rw [List.map_reverse, List.reverse_reverse, ← List.map_append, List.take_append_drop]
  have hroom : (sm_rm d (q1.2.length - wd.length) (sm_sz q1.2 - sm_sz wd)).frames + 1 ≤ R.frames ∧ 8 + (sm_ml j' + 11) + (sm_rm d (q1.2.length - wd.length) (sm_sz q1.2 - sm_sz wd)).locals ≤ R.locals := ⟨hdR, by have := hMj.2.2.2.2.2.2.2.2; show 8 + (sm_ml j' + 11) + 43 * d ≤ R.locals; omega⟩
  have hinst : ∀ n', n = n' + 1 → st[n']? ≠ none := fun n' e9 z => by
    have := List.getElem?_eq_none_iff.mp z
    omega
  unfold sm_call at hcall
  dsimp only at hcall
  split at hcall
  · -- invokevirtual
    have hn2 := hn2 rfl
    subst hn2
    simp only [sm_okR, Bool.or_eq_true, Bool.and_eq_true, decide_eq_true_eq, beq_iff_eq] at hR
    have hR := hR.resolve_left (by have : sm_N < 9998 := by decide
                                   omega)
    obtain ⟨⟨⟨hkd, -⟩, hna⟩, hlk⟩ := hR
    have hlk := lw_inG (sm_at_in hlk) rfl
    have hna : n = sm_na j' + 1 := by rw [hna]; unfold sm_argc; rw [if_neg (by omega)]
    subst hna
    have hpl : ∃ k, st[sm_na j']? = some (.ref k) ∧ ((∃ b, sm_up g (.ref k) = .ref b ∧ ∃ cellB : Cell, H[b]? = some cellB ∧ cellB.vm.isStatics = false ∧ s.vm.findClass (sm_y j').cls = some cellB.cls) ∧ Cond.instanceMethod (sm_y j') ∈ lw_tblG ∧ Cond.selects (sm_y j').cls (sm_y j') (sm_y j') ∈ lw_tblG) := by
      rcases hkd with hkd | hkd
      · obtain ⟨k, fs, hk, hw⟩ := sm_recv1 hkd hrecv
        have h4 := hMj.2.2.2.1 hkd
        have hcl := sm_cl_at h4.2.2.2
        refine ⟨k, hk, ⟨_, sm_up_lo (hRW.lo hw), ?_⟩, h4.1, h4.2.1⟩
        have := va_recv hK hRW.2.2 hcl (sm_rW_get hw)
        rw [← h4.2.2.1]
        exact this
      · have hk := sm_recv3 hkd hrecv
        have h4 := hMj.2.2.2.2.2.1 hkd
        refine ⟨_, hk, ⟨g.2.1, rfl, ?_⟩, h4.1, h4.2.1⟩
        obtain ⟨cell, h5, h6, h7, -⟩ := hFx.1.kept hS.2.1
        rw [h4.2.2]
        exact ⟨cell, h5, h6, h7⟩
    obtain ⟨k, hk, ⟨b, hb1, hcell⟩, hi1, hi2⟩ := hpl
    rw [sm_take hk] at hM
    rw [sm_take hk, List.map_cons, hb1] at hPU hstk
    rw [hstk, List.reverse_cons, List.append_assoc]
    exact sm_callk (va_runV (C := (sm_y j').cls) (b := b) (As := ((st.take (sm_na j')).reverse).map (sm_up g)) (rest := (st.drop (sm_na j' + 1)).map (sm_up g)) ⟨hx, hb, hml, hown, hts⟩ hM
      (cwV (sm_na j') hts (lw_goodIn (fun w hw => by
        simp only [wsV, List.cons_append, List.nil_append, List.mem_cons] at hw
        rcases hw with rfl | rfl | rfl | rfl | rfl | hw
        · exact hlk
        · exact hi1
        · exact hi2
        · exact hMj.2.1
        · exact hMj.1
        · exact hw)) rfl rfl rfl ⟨rfl, hMj.2.2.2.2.2.2.1⟩ hroom)
      ⟨sm_blind, hcell, hPU⟩ rfl (by rw [List.length_map, List.length_reverse, List.length_take]; omega) hl.1 rfl (lv_room hcat2) hd ⟨hcs, hss⟩) hS kk
  · -- invokestatic
    have hn2 := hn2 rfl
    subst hn2
    simp only [sm_okR, Bool.or_eq_true, Bool.and_eq_true, decide_eq_true_eq, beq_iff_eq] at hR
    have hN : sm_N < 9996 := by decide
    rcases hR with ((hR | hR) | hR) | hR
    · omega
    · omega
    · omega
    · obtain ⟨⟨⟨hkd, -⟩, hna⟩, hlk⟩ := hR
      have hna : n = sm_na j' := by rw [hna]; unfold sm_argc; rw [if_pos hkd]
      subst hna
      have hstt := hMj.2.2.1 hkd
      rw [hstk]
      have hnAs : (((st.take (sm_na j')).reverse).map (sm_up g)).length = sm_na j' := by rw [List.length_map, List.length_reverse, List.length_take]; omega
      have hGw : GoodIn lw_tblG (Cond.code (sm_y j') (sm_b j') (sm_ml j') (sm_rt j') :: lw_tblG) := lw_goodIn (fun w hw => by
        rcases List.mem_cons.mp hw with rfl | hw
        · exact hMj.1
        · exact hw)
      split at hlk
      · simp only [Bool.and_eq_true, decide_eq_true_eq] at hlk
        obtain ⟨⟨ho, hi⟩, hy⟩ := hlk
        subst hi
        have hZ := hFx.2.2.2.2.2.2.2.1
        rw [← hy, ← ho] at hZ
        exact sm_callk (va_runSN (As := ((st.take (sm_na j')).reverse).map (sm_up g)) (rest := (st.drop (sm_na j')).map (sm_up g)) ⟨hx, hb, hml, hown, hts⟩ hM
          ⟨va_cnB (sm_na j') hts hGw rfl rfl rfl hZ (hts _ hMj.2.1) hMj.2.2.2.2.2.2.1 hroom, hts _ hstt, trivial⟩ ⟨sm_blind, hPU⟩ rfl hnAs hl.1 rfl (lv_room hcat2) hd ⟨hcs, hss⟩) hS kk
      · split at hlk
        · simp only [Bool.and_eq_true, decide_eq_true_eq] at hlk
          obtain ⟨⟨ho, hi⟩, hy⟩ := hlk
          subst hi
          have hZ := hFx.2.2.2.2.2.2.2.2.1
          rw [← hy, ← ho] at hZ
          exact sm_callk (va_runSN (As := ((st.take (sm_na j')).reverse).map (sm_up g)) (rest := (st.drop (sm_na j')).map (sm_up g)) ⟨hx, hb, hml, hown, hts⟩ hM
            ⟨va_cnB (sm_na j') hts hGw rfl rfl rfl hZ (hts _ hMj.2.1) hMj.2.2.2.2.2.2.1 hroom, hts _ hstt, trivial⟩ ⟨sm_blind, hPU⟩ rfl hnAs hl.1 rfl (lv_room hcat2) hd ⟨hcs, hss⟩) hS kk
        · exact sm_callk (va_runS (As := ((st.take (sm_na j')).reverse).map (sm_up g)) (rest := (st.drop (sm_na j')).map (sm_up g)) ⟨hx, hb, hml, hown, hts⟩ hM
            (va_cwS (sm_na j') hts (lw_goodIn (fun w hw => by
              simp only [va_wsS, List.cons_append, List.nil_append, List.mem_cons] at hw
              rcases hw with rfl | rfl | rfl | rfl | hw
              · exact lw_inG (sm_at_in hlk) rfl
              · exact hstt
              · exact hMj.2.1
              · exact hMj.1
              · exact hw)) rfl rfl rfl hMj.2.2.2.2.2.2.1 hroom) ⟨sm_blind, hPU⟩ rfl hnAs hl.1 rfl (lv_room hcat2) hd ⟨hcs, hss⟩) hS kk
  · -- invokespecial
    have hn2 := hn2 rfl
    subst hn2
    simp only [sm_okR, Bool.or_eq_true, decide_eq_true_eq] at hR
    have hN : sm_N < 9996 := by decide
    have hR := hR.resolve_left (by omega)
    rw [if_neg (by omega)] at hR
    simp only [Bool.and_eq_true, decide_eq_true_eq, beq_iff_eq] at hR
    obtain ⟨⟨⟨hkd, -⟩, hna⟩, hlk⟩ := hR
    have hlk := lw_inG (sm_at_in hlk) rfl
    have hna : n = sm_na j' + 1 := by rw [hna]; unfold sm_argc; rw [if_neg (by omega)]
    subst hna
    have h4 := hMj.2.2.2.2.1 hkd
    obtain ⟨k, hk, hklt⟩ := sm_recv2 hkd hrecv
    rw [Nat.add_sub_cancel] at hk
    rw [sm_take hk] at hM
    rw [sm_take hk, List.map_cons, sm_up_lo hklt] at hPU hstk
    rw [hstk, List.reverse_cons, List.append_assoc]
    rw [h4.2.2] at hM
    exact sm_callk (va_runI (b := g.1 + k) (As := ((st.take (sm_na j')).reverse).map (sm_up g)) (rest := (st.drop (sm_na j' + 1)).map (sm_up g)) ⟨hx, hb, hml, hown, hts⟩ hM
      (cwI (sm_na j') hts (lw_goodIn (fun w hw => by
        rcases List.mem_cons.mp hw with rfl | hw
        · have := hMj.1
          rw [h4.2.2] at this
          exact this
        · exact hw)) rfl rfl rfl (hts _ hMj.2.1) (hts _ hlk) (hts _ h4.1) h4.2.1 hMj.2.2.2.2.2.2.1 hroom)
      ⟨sm_blind, hPU⟩ rfl (by rw [List.length_map, List.length_reverse, List.length_take]; omega) hl.1 rfl (lv_room hcat2) hd ⟨hcs, hss⟩) hS kk
  · cases hcall
end SM4
theorem sm_ret_byte {j : Nat} {i : Instr} {st : List Value} {r : Option Value} (h : sm_ret j i st = some r) : sm_sw i = false ∧ sm_len i = 1 := by
  unfold sm_ret at h
  split at h
  · exact ⟨rfl, rfl⟩
  · exact ⟨rfl, rfl⟩
  · exact ⟨rfl, rfl⟩
  · cases h
theorem sm_pure_byte {i : Instr} {st : List Value} {r : List Value} (h : sm_pure i st = some r) : sm_sw i = false ∧ sm_len i = 1 := by
  unfold sm_pure at h
  split at h <;> first | exact ⟨rfl, rfl⟩ | (cases h; done)
/-- SOUNDNESS -/
theorem sm_wok (l : Launch) (xs : List Int32) (g : sm_G) (D : va_G) : ∀ f, sm_Wok l xs g D f := by
  intro f
  induction f with
  | zero => intro d j pc L st wd q hj h; cases h
  | succ f ih =>
    intro d j pc L st wd q hj h p e R s m args below meth c H locs cells slots Q ls mc ms C hRW hS hl hcs hss hmc hms fin
    unfold sm_run at h
    split at h
    · cases h
    · rename_i en hic
      have hE := sm_ic_ok hj hic
      split at h
      · rename_i hcall
        split at h
        · cases h
        · rename_i d'
          split at h
          · rename_i hcond
            split at h
            · cases h
            · rename_i q1 h1
              have m1 := sm_run_mono xs _ _ _ _ _ _ _ _ h1
              have m2 := sm_run_mono xs _ _ _ _ _ _ _ _ h
              refine sm_call_ok C ih hE hcall hcond.1 hcond.2.1 hcond.2.2.1 hcond.2.2.2 h1 hl hRW hS (by omega) (by omega) (fun H1 locs1 hRW1 hS1 => ?_)
              exact ih (d' + 1) j (pc + 3) L _ q1.2 q hj h p e R s m args below meth c H1 locs1 _ _ Q ls mc ms C hRW1 hS1 hl (by omega) (by omega) hmc hms fin
          · cases h
      · split at h
        · rename_i r hret
          cases h
          obtain ⟨hR, n, hd, hn⟩ := hE
          have hb1 := sm_ret_byte hret
          rw [hn hb1.1, hb1.2] at hd
          exact W.widen (k := mc) (n := ms) (Nat.le_of_add_le_add_right hcs) (Nat.le_of_add_le_add_right hss) (fin pc en.1 st H locs ls hd hret hRW hS)
        · split at h
          · cases h
          · rename_i q1 h1
            have m1 := sm_step_mono h1
            have m2 := sm_run_mono xs _ _ _ _ _ _ _ _ h
            unfold sm_step at h1
            split at h1
            · obtain ⟨st', h2, h3⟩ := Option.map_eq_some_iff.mp h1
              subst h3
              obtain ⟨hR, n, hd, hn⟩ := hE
              have hb1 := sm_pure_byte h2
              rw [hn hb1.1, hb1.2] at hd
              exact sm_pure_ok C.1 C.2.1 C.2.2.2.2.2.2.1.2.2.2.2.2.2.2.2.2.2.2.2 h2 hd (ih d j (pc + 1) L st' wd q hj h p e R s m args below meth c H locs cells slots Q ls mc ms C hRW hS hl hcs hss hmc hms fin)
            · have hwd := sm_jump_wd h1
              obtain ⟨hR, n, hd, hn⟩ := hE
              obtain ⟨q1a, q1b, q1c, q1d⟩ := q1
              dsimp only at hwd h m1
              subst hwd
              have key := fun hLe : q1b = L => ih d j q1a q1b q1c q1d q hj h p e R s m args below meth c H locs cells slots Q ls mc ms C hRW hS (by rw [hLe]; exact hl) hcs hss hmc hms fin
              have hLe : q1b = L := by
                unfold sm_jump at h1
                (repeat' split at h1) <;> first | (cases h1; done) | (cases h1; rfl)
              exact (sm_jump_ok C.1 C.2.1 h1 hd hn (key hLe)).2.2
            · have hwd := sm_loc_wd h1
              obtain ⟨q1a, q1b, q1c, q1d⟩ := q1
              dsimp only at hwd h m1
              subst hwd
              exact (sm_loc_ok C h1 hE hl (fun ls' hl' => ih d j q1a q1b q1c q1d q hj h p e R s m args below meth c H locs cells slots Q ls' mc ms C hRW hS hl' hcs hss hmc hms fin)).2
            · have hLe : q1.2.1 = L := by
                unfold sm_mem at h1
                (repeat' split at h1) <;> first | (cases h1; done) | (cases h1; rfl)
              refine (sm_mem_ok C h1 hE hl hRW hS (by omega) (by omega) (fun H1 locs1 c1 n1 hc1 hn1 hRW1 hS1 => ?_)).2
              exact ih d j q1.1 q1.2.1 q1.2.2.1 q1.2.2.2 q hj h p e R s m args below meth c H1 locs1 c1 n1 Q ls mc ms C hRW1 hS1 (by rw [hLe]; exact hl) (by omega) (by omega) hmc hms fin
end
section
/-! RULES over the small machine: RT: from this point the run ends, with an answer and a world that Q allows -/
def RT (xs : List Int32) (d j pc : Nat) (L : sm_L) (st : List Value) (wd : sm_W) (Q : Option Value → sm_W → Prop) : Prop := ∃ f q, sm_run xs f d j pc L st wd = some q ∧ Q q.1 q.2
def sm_bdy (xs : List Int32) (rc : Nat → Nat → Nat → sm_L → List Value → sm_W → Option (Option Value × sm_W)) (d j pc : Nat) (L : sm_L) (st : List Value) (wd : sm_W) : Option (Option Value × sm_W) := match sm_ic j pc with
    | none => none
    | some e => match sm_call e with
      | true => match d with
        | 0 => none
        | d' + 1 => if sm_recv e.2.1 e.2.2.1 st wd = true ∧ e.2.2.1 ≤ st.length ∧ (sm_exp (st.take e.2.2.1).reverse).length ≤ sm_ml e.2.1 ∧ ((st.drop e.2.2.1).map fun v => v.category).sum ≤ 8 then
            match rc d' e.2.1 0 (sm_ent (sm_ml e.2.1) (st.take e.2.2.1).reverse) [] wd with
            | none => none
            | some q => rc (d' + 1) j (pc + 3) L (sm_push q.1 (st.drop e.2.2.1)) q.2
          else none
      | false => match sm_ret j e.1 st with
        | some r => some (r, wd)
        | none => match sm_step xs d (sm_ml j) e pc L st wd with
          | none => none
          | some q => rc d j q.1 q.2.1 q.2.2.1 q.2.2.2
theorem sm_run_bdy (xs : List Int32) (f d j pc : Nat) (L : sm_L) (st : List Value) (wd : sm_W) : sm_run xs (f + 1) d j pc L st wd = sm_bdy xs (sm_run xs f) d j pc L st wd := rfl
theorem sm_bdy_mono (xs : List Int32) {rc rc2 : Nat → Nat → Nat → sm_L → List Value → sm_W → Option (Option Value × sm_W)} (hm : ∀ d j pc L st wd q, rc d j pc L st wd = some q → rc2 d j pc L st wd = some q) {d j pc : Nat} {L : sm_L} {st : List Value} {wd : sm_W} {q : Option Value × sm_W} (h : sm_bdy xs rc d j pc L st wd = some q) : sm_bdy xs rc2 d j pc L st wd = some q := by
  unfold sm_bdy at h ⊢
  cases hic : sm_ic j pc with
  | none => rw [hic] at h; cases h
  | some en =>
    simp only [hic] at h ⊢
    cases hcall : sm_call en with
    | true =>
      simp only [hcall] at h ⊢
      cases d with
      | zero => cases h
      | succ d' =>
        dsimp only at h ⊢
        split at h
        · rename_i hcond
          rw [if_pos hcond]
          cases h1 : rc d' en.2.1 0 (sm_ent (sm_ml en.2.1) (st.take en.2.2.1).reverse) [] wd with
          | none => rw [h1] at h; cases h
          | some q1 =>
            rw [h1] at h
            rw [hm _ _ _ _ _ _ _ h1]
            exact hm _ _ _ _ _ _ _ h
        · cases h
    | false =>
      simp only [hcall] at h ⊢
      cases hret : sm_ret j en.1 st with
      | some r => simp only [hret] at h ⊢; exact h
      | none =>
        simp only [hret] at h ⊢
        cases h1 : sm_step xs d (sm_ml j) en pc L st wd with
        | none => rw [h1] at h; cases h
        | some q1 =>
          rw [h1] at h
          exact hm _ _ _ _ _ _ _ h
theorem sm_run_succ (xs : List Int32) : ∀ (f d j pc : Nat) (L : sm_L) (st : List Value) (wd : sm_W) (q : Option Value × sm_W), sm_run xs f d j pc L st wd = some q → sm_run xs (f + 1) d j pc L st wd = some q := by
  intro f
  induction f with
  | zero => intro d j pc L st wd q h; cases h
  | succ f ih =>
    intro d j pc L st wd q h
    rw [sm_run_bdy] at h ⊢
    exact sm_bdy_mono xs ih h
theorem sm_run_add (xs : List Int32) {f : Nat} (k : Nat) {d j pc : Nat} {L : sm_L} {st : List Value} {wd : sm_W} {q : Option Value × sm_W} (h : sm_run xs f d j pc L st wd = some q) : sm_run xs (f + k) d j pc L st wd = some q := by
  induction k with
  | zero => exact h
  | succ k ih => exact sm_run_succ xs _ _ _ _ _ _ _ _ ih
section RTS
variable {xs : List Int32} {d j pc : Nat} {L : sm_L} {st : List Value} {wd : sm_W} {Q : Option Value → sm_W → Prop} {a b c : Nat}
theorem RT.mono {Q' : Option Value → sm_W → Prop} (h : RT xs d j pc L st wd Q') (hQ : ∀ r w, Q' r w → Q r w) : RT xs d j pc L st wd Q := by
  obtain ⟨f, q, h1, h2⟩ := h
  exact ⟨f, q, h1, hQ _ _ h2⟩
theorem RT.step {e : sm_I} {pc' : Nat} {L' : sm_L} {st' : List Value} {wd' : sm_W} (hic : sm_ic j pc = some e) (hc : sm_call e = false) (hr : sm_ret j e.1 st = none) (hs : sm_step xs d (sm_ml j) e pc L st wd = some (pc', L', st', wd')) (k : RT xs d j pc' L' st' wd' Q) : RT xs d j pc L st wd Q := by
  obtain ⟨f, q, h1, h2⟩ := k
  refine ⟨f + 1, q, ?_, h2⟩
  unfold sm_run
  simp only [hic, hc, hr, hs]
  exact h1
theorem RT.call {e : sm_I} (hic : sm_ic j pc = some e) (hc : sm_call e = true) (hrecv : sm_recv e.2.1 e.2.2.1 st wd = true) (hn : e.2.2.1 ≤ st.length) (hlen : (sm_exp (st.take e.2.2.1).reverse).length ≤ sm_ml e.2.1) (hcat : ((st.drop e.2.2.1).map fun v => v.category).sum ≤ 8)
    (k : RT xs d e.2.1 0 (sm_ent (sm_ml e.2.1) (st.take e.2.2.1).reverse) [] wd (fun r w => RT xs (d + 1) j (pc + 3) L (sm_push r (st.drop e.2.2.1)) w Q)) : RT xs (d + 1) j pc L st wd Q := by
  obtain ⟨f, q, h1, f2, q2, h2, h3⟩ := k
  refine ⟨f + f2 + 1, q2, ?_, h3⟩
  unfold sm_run
  simp only [hic, hc]
  rw [if_pos ⟨hrecv, hn, hlen, hcat⟩, sm_run_add xs f2 h1]
  rw [Nat.add_comm f f2]
  exact sm_run_add xs f h2
theorem RT.ret {e : sm_I} {r : Option Value} (hic : sm_ic j pc = some e) (hc : sm_call e = false) (hr : sm_ret j e.1 st = some r) (k : Q r wd) : RT xs d j pc L st wd Q := by
  refine ⟨1, (r, wd), ?_, k⟩
  unfold sm_run
  simp only [hic, hc, hr]
/-- a contract: the method's run from its entry -/
def Ct (xs : List Int32) (d j : Nat) (as : List Value) (wd : sm_W) (Q : Option Value → sm_W → Prop) : Prop := RT xs d j 0 (sm_ent (sm_ml j) as) [] wd Q
theorem Ct.mono {as : List Value} {Q' : Option Value → sm_W → Prop} (h : Ct xs d j as wd Q') (hQ : ∀ r w, Q' r w → Q r w) : Ct xs d j as wd Q := RT.mono h hQ

theorem R_iconst {n : Int} (h : sm_ic j pc = some (.iconst n, a, b, c)) {v : Int32} (hv : Int32.ofInt n = v) (k : RT xs d j (pc + 1) L (.int v :: st) wd Q) : RT xs d j pc L st wd Q := RT.step h rfl rfl (by subst hv; rfl) k
theorem R_bipush {n : Int} (h : sm_ic j pc = some (.bipush n, a, b, c)) {v : Int32} (hv : (Int8.ofInt n).toInt32 = v) (k : RT xs d j (pc + 2) L (.int v :: st) wd Q) : RT xs d j pc L st wd Q := RT.step h rfl rfl (by subst hv; rfl) k
theorem R_sipush {n : Int} (h : sm_ic j pc = some (.sipush n, a, b, c)) {v : Int32} (hv : (Int16.ofInt n).toInt32 = v) (k : RT xs d j (pc + 3) L (.int v :: st) wd Q) : RT xs d j pc L st wd Q := RT.step h rfl rfl (by subst hv; rfl) k
theorem R_lconst {n : Fin 2} (h : sm_ic j pc = some (.lconst n, a, b, c)) {v : Int64} (hv : Int64.ofNat (n : Nat) = v) (k : RT xs d j (pc + 1) L (.long v :: st) wd Q) : RT xs d j pc L st wd Q := RT.step h rfl rfl (by subst hv; rfl) k
theorem R_ldc_w {n : Nat} (h : sm_ic j pc = some (.ldc_w n, a, b, c)) (hc : c ≠ 0) {v : Int32} (hv : Int32.ofNat a = v) (k : RT xs d j (pc + 3) L (.int v :: st) wd Q) : RT xs d j pc L st wd Q := RT.step h rfl rfl (by subst hv; show (if c = 0 then none else _) = _; rw [if_neg hc]) k
theorem R_ldc2_w {n : Nat} (h : sm_ic j pc = some (.ldc2_w n, a, b, c)) {v : Int64} (hv : sm_lv64 a b = v) (k : RT xs d j (pc + 3) L (.long v :: st) wd Q) : RT xs d j pc L st wd Q := RT.step h rfl rfl (by subst hv; rfl) k
theorem R_iload {i : Nat} (h : sm_ic j pc = some (.iload i, a, b, c)) {x : Int32} (hl : L[i]? = some (some (.int x))) (k : RT xs d j (pc + 2) L (.int x :: st) wd Q) : RT xs d j pc L st wd Q := RT.step h rfl rfl (by show (match L[i]? with | some (some (.int x)) => some (pc + 2, L, Value.int x :: st, wd) | _ => none) = _; rw [hl]) k
theorem R_iload_n {i : Fin 4} (h : sm_ic j pc = some (.iload_n i, a, b, c)) {x : Int32} (hl : L[(i : Nat)]? = some (some (.int x))) (k : RT xs d j (pc + 1) L (.int x :: st) wd Q) : RT xs d j pc L st wd Q := RT.step h rfl rfl (by show (match L[(i : Nat)]? with | some (some (.int x)) => some (pc + 1, L, Value.int x :: st, wd) | _ => none) = _; rw [hl]) k
theorem R_lload {i : Nat} (h : sm_ic j pc = some (.lload i, a, b, c)) {x : Int64} (hl : L[i]? = some (some (.long x))) (k : RT xs d j (pc + 2) L (.long x :: st) wd Q) : RT xs d j pc L st wd Q := RT.step h rfl rfl (by show (match L[i]? with | some (some (.long x)) => some (pc + 2, L, Value.long x :: st, wd) | _ => none) = _; rw [hl]) k
theorem R_lload_n {i : Fin 4} (h : sm_ic j pc = some (.lload_n i, a, b, c)) {x : Int64} (hl : L[(i : Nat)]? = some (some (.long x))) (k : RT xs d j (pc + 1) L (.long x :: st) wd Q) : RT xs d j pc L st wd Q := RT.step h rfl rfl (by show (match L[(i : Nat)]? with | some (some (.long x)) => some (pc + 1, L, Value.long x :: st, wd) | _ => none) = _; rw [hl]) k
theorem R_aload {i : Nat} (h : sm_ic j pc = some (.aload i, a, b, c)) {x : Nat} (hl : L[i]? = some (some (.ref x))) (hx : ¬ x = 1000003) (k : RT xs d j (pc + 2) L (.ref x :: st) wd Q) : RT xs d j pc L st wd Q := RT.step h rfl rfl (by show (match L[i]? with | some (some (.ref x)) => if x = 1000003 then none else some (pc + 2, L, Value.ref x :: st, wd) | _ => none) = _; rw [hl]; exact if_neg hx) k
theorem R_aload_n {i : Fin 4} (h : sm_ic j pc = some (.aload_n i, a, b, c)) {x : Nat} (hl : L[(i : Nat)]? = some (some (.ref x))) (hx : ¬ x = 1000003) (k : RT xs d j (pc + 1) L (.ref x :: st) wd Q) : RT xs d j pc L st wd Q := RT.step h rfl rfl (by show (match L[(i : Nat)]? with | some (some (.ref x)) => if x = 1000003 then none else some (pc + 1, L, Value.ref x :: st, wd) | _ => none) = _; rw [hl]; exact if_neg hx) k
theorem R_istore {i : Nat} (h : sm_ic j pc = some (.istore i, a, b, c)) {x : Int32} {L2 : sm_L} (hl : sm_st1 (sm_ml j) L i (.int x) = some L2) (k : RT xs d j (pc + 2) L2 st wd Q) : RT xs d j pc L (.int x :: st) wd Q := RT.step h rfl rfl (by show (sm_st1 (sm_ml j) L i (.int x)).map _ = _; rw [hl]; rfl) k
theorem R_istore_n {i : Fin 4} (h : sm_ic j pc = some (.istore_n i, a, b, c)) {x : Int32} {L2 : sm_L} (hl : sm_st1 (sm_ml j) L (i : Nat) (.int x) = some L2) (k : RT xs d j (pc + 1) L2 st wd Q) : RT xs d j pc L (.int x :: st) wd Q := RT.step h rfl rfl (by show (sm_st1 (sm_ml j) L (i : Nat) (.int x)).map _ = _; rw [hl]; rfl) k
theorem R_lstore {i : Nat} (h : sm_ic j pc = some (.lstore i, a, b, c)) {x : Int64} {L2 : sm_L} (hl : sm_st2 (sm_ml j) L i (.long x) = some L2) (k : RT xs d j (pc + 2) L2 st wd Q) : RT xs d j pc L (.long x :: st) wd Q := RT.step h rfl rfl (by show (sm_st2 (sm_ml j) L i (.long x)).map _ = _; rw [hl]; rfl) k
theorem R_lstore_n {i : Fin 4} (h : sm_ic j pc = some (.lstore_n i, a, b, c)) {x : Int64} {L2 : sm_L} (hl : sm_st2 (sm_ml j) L (i : Nat) (.long x) = some L2) (k : RT xs d j (pc + 1) L2 st wd Q) : RT xs d j pc L (.long x :: st) wd Q := RT.step h rfl rfl (by show (sm_st2 (sm_ml j) L (i : Nat) (.long x)).map _ = _; rw [hl]; rfl) k
theorem R_iinc {i : Nat} {n : Int} (h : sm_ic j pc = some (.iinc i n, a, b, c)) {x v : Int32} {L2 : sm_L} (hx : L[i]? = some (some (.int x))) (hv : x + Int32.ofInt n = v) (hl : sm_st1 (sm_ml j) L i (.int v) = some L2) (k : RT xs d j (pc + 3) L2 st wd Q) : RT xs d j pc L st wd Q := RT.step h rfl rfl (by subst hv; show (match L[i]? with | some (some (.int x)) => (sm_st1 (sm_ml j) L i (.int (x + Int32.ofInt n))).map (fun L' => (pc + 3, L', st, wd)) | _ => none) = _; rw [hx]; dsimp only; rw [hl]; rfl) k
theorem R_iadd {x y : Int32} (h : sm_ic j pc = some (.iadd, a, b, c)) (k : RT xs d j (pc + 1) L (.int (x + y) :: st) wd Q) : RT xs d j pc L (.int y :: .int x :: st) wd Q := RT.step h rfl rfl rfl k
theorem R_isub {x y : Int32} (h : sm_ic j pc = some (.isub, a, b, c)) (k : RT xs d j (pc + 1) L (.int (x - y) :: st) wd Q) : RT xs d j pc L (.int y :: .int x :: st) wd Q := RT.step h rfl rfl rfl k
theorem R_imul {x y : Int32} (h : sm_ic j pc = some (.imul, a, b, c)) (k : RT xs d j (pc + 1) L (.int (x * y) :: st) wd Q) : RT xs d j pc L (.int y :: .int x :: st) wd Q := RT.step h rfl rfl rfl k
theorem R_iand {x y : Int32} (h : sm_ic j pc = some (.iand, a, b, c)) (k : RT xs d j (pc + 1) L (.int (x &&& y) :: st) wd Q) : RT xs d j pc L (.int y :: .int x :: st) wd Q := RT.step h rfl rfl rfl k
theorem R_ior {x y : Int32} (h : sm_ic j pc = some (.ior, a, b, c)) (k : RT xs d j (pc + 1) L (.int (x ||| y) :: st) wd Q) : RT xs d j pc L (.int y :: .int x :: st) wd Q := RT.step h rfl rfl rfl k
theorem R_ixor {x y : Int32} (h : sm_ic j pc = some (.ixor, a, b, c)) (k : RT xs d j (pc + 1) L (.int (x ^^^ y) :: st) wd Q) : RT xs d j pc L (.int y :: .int x :: st) wd Q := RT.step h rfl rfl rfl k
theorem R_ishl {x y : Int32} (h : sm_ic j pc = some (.ishl, a, b, c)) (k : RT xs d j (pc + 1) L (.int (x <<< (y &&& 31)) :: st) wd Q) : RT xs d j pc L (.int y :: .int x :: st) wd Q := RT.step h rfl rfl rfl k
theorem R_ishr {x y : Int32} (h : sm_ic j pc = some (.ishr, a, b, c)) (k : RT xs d j (pc + 1) L (.int (x >>> (y &&& 31)) :: st) wd Q) : RT xs d j pc L (.int y :: .int x :: st) wd Q := RT.step h rfl rfl rfl k
theorem R_iushr {x y : Int32} (h : sm_ic j pc = some (.iushr, a, b, c)) (k : RT xs d j (pc + 1) L (.int (x.toUInt32 >>> (y.toUInt32 &&& Int32.toUInt32 31)).toInt32 :: st) wd Q) : RT xs d j pc L (.int y :: .int x :: st) wd Q := RT.step h rfl rfl rfl k
theorem R_idiv {x y : Int32} (h : sm_ic j pc = some (.idiv, a, b, c)) (hy : ¬ y = 0) (k : RT xs d j (pc + 1) L (.int (x / y) :: st) wd Q) : RT xs d j pc L (.int y :: .int x :: st) wd Q := RT.step h rfl rfl (by show Option.map _ (if y = 0 then none else some _) = _; rw [if_neg hy]; rfl) k
theorem R_irem {x y : Int32} (h : sm_ic j pc = some (.irem, a, b, c)) (hy : ¬ y = 0) (k : RT xs d j (pc + 1) L (.int (x - x / y * y) :: st) wd Q) : RT xs d j pc L (.int y :: .int x :: st) wd Q := RT.step h rfl rfl (by show Option.map _ (if y = 0 then none else some _) = _; rw [if_neg hy]; rfl) k
theorem R_ladd {x y : Int64} (h : sm_ic j pc = some (.ladd, a, b, c)) (k : RT xs d j (pc + 1) L (.long (x + y) :: st) wd Q) : RT xs d j pc L (.long y :: .long x :: st) wd Q := RT.step h rfl rfl rfl k
theorem R_lsub {x y : Int64} (h : sm_ic j pc = some (.lsub, a, b, c)) (k : RT xs d j (pc + 1) L (.long (x - y) :: st) wd Q) : RT xs d j pc L (.long y :: .long x :: st) wd Q := RT.step h rfl rfl rfl k
theorem R_lmul {x y : Int64} (h : sm_ic j pc = some (.lmul, a, b, c)) (k : RT xs d j (pc + 1) L (.long (x * y) :: st) wd Q) : RT xs d j pc L (.long y :: .long x :: st) wd Q := RT.step h rfl rfl rfl k
theorem R_land {x y : Int64} (h : sm_ic j pc = some (.land, a, b, c)) (k : RT xs d j (pc + 1) L (.long (x &&& y) :: st) wd Q) : RT xs d j pc L (.long y :: .long x :: st) wd Q := RT.step h rfl rfl rfl k
theorem R_lor {x y : Int64} (h : sm_ic j pc = some (.lor, a, b, c)) (k : RT xs d j (pc + 1) L (.long (x ||| y) :: st) wd Q) : RT xs d j pc L (.long y :: .long x :: st) wd Q := RT.step h rfl rfl rfl k
theorem R_lxor {x y : Int64} (h : sm_ic j pc = some (.lxor, a, b, c)) (k : RT xs d j (pc + 1) L (.long (x ^^^ y) :: st) wd Q) : RT xs d j pc L (.long y :: .long x :: st) wd Q := RT.step h rfl rfl rfl k
theorem R_lrem {x y : Int64} (h : sm_ic j pc = some (.lrem, a, b, c)) (hy : ¬ y = 0) (k : RT xs d j (pc + 1) L (.long (x - x / y * y) :: st) wd Q) : RT xs d j pc L (.long y :: .long x :: st) wd Q := RT.step h rfl rfl (by show Option.map _ (if y = 0 then none else some _) = _; rw [if_neg hy]; rfl) k
theorem R_lcmp {x y : Int64} (h : sm_ic j pc = some (.lcmp, a, b, c)) (k : RT xs d j (pc + 1) L (.int (lg_cmp x y) :: st) wd Q) : RT xs d j pc L (.long y :: .long x :: st) wd Q := RT.step h rfl rfl rfl k
theorem R_lshl {x : Int64} {y : Int32} (h : sm_ic j pc = some (.lshl, a, b, c)) (k : RT xs d j (pc + 1) L (.long (x <<< (y.toInt64 &&& 63)) :: st) wd Q) : RT xs d j pc L (.int y :: .long x :: st) wd Q := RT.step h rfl rfl rfl k
theorem R_lushr {x : Int64} {y : Int32} (h : sm_ic j pc = some (.lushr, a, b, c)) (k : RT xs d j (pc + 1) L (.long (x.toUInt64 >>> (y.toInt64.toUInt64 &&& Int64.toUInt64 63)).toInt64 :: st) wd Q) : RT xs d j pc L (.int y :: .long x :: st) wd Q := RT.step h rfl rfl rfl k
theorem R_i2l {x : Int32} (h : sm_ic j pc = some (.i2l, a, b, c)) (k : RT xs d j (pc + 1) L (.long x.toInt64 :: st) wd Q) : RT xs d j pc L (.int x :: st) wd Q := RT.step h rfl rfl rfl k
theorem R_l2i {x : Int64} (h : sm_ic j pc = some (.l2i, a, b, c)) (k : RT xs d j (pc + 1) L (.int x.toInt32 :: st) wd Q) : RT xs d j pc L (.long x :: st) wd Q := RT.step h rfl rfl rfl k
theorem R_i2c {x : Int32} (h : sm_ic j pc = some (.i2c, a, b, c)) (k : RT xs d j (pc + 1) L (.int (x.toUInt32 % 65536).toInt32 :: st) wd Q) : RT xs d j pc L (.int x :: st) wd Q := RT.step h rfl rfl rfl k
theorem R_dup {v : Value} (h : sm_ic j pc = some (.dup, a, b, c)) (hv : v.category = 1) (k : RT xs d j (pc + 1) L (v :: v :: st) wd Q) : RT xs d j pc L (v :: st) wd Q := RT.step h rfl rfl (by show Option.map _ (if v.category = 1 then some _ else none) = _; rw [if_pos hv]; rfl) k
theorem R_dup2 {v w : Value} (h : sm_ic j pc = some (.dup2, a, b, c)) (hv : v.category = 1) (hw : w.category = 1) (k : RT xs d j (pc + 1) L (v :: w :: v :: w :: st) wd Q) : RT xs d j pc L (v :: w :: st) wd Q := RT.step h rfl rfl (by show Option.map _ (if v.category = 1 ∧ w.category = 1 then some _ else none) = _; rw [if_pos ⟨hv, hw⟩]; rfl) k
theorem R_pop {v : Value} (h : sm_ic j pc = some (.pop, a, b, c)) (hv : v.category = 1) (k : RT xs d j (pc + 1) L st wd Q) : RT xs d j pc L (v :: st) wd Q := RT.step h rfl rfl (by show Option.map _ (if v.category = 1 then some _ else none) = _; rw [if_pos hv]; rfl) k
theorem R_goto {off : Int} (h : sm_ic j pc = some (.goto off, a, b, c)) (ht : (pc : Int) + off = (a : Int)) (k : RT xs d j a L st wd Q) : RT xs d j pc L st wd Q := RT.step h rfl rfl (by show (if (pc : Int) + off = (a : Int) then some _ else none) = _; rw [if_pos ht]) k
theorem R_if {off : Int} {cn : Jvm.ClassFile.Cond} {x : Int32} (h : sm_ic j pc = some (.ifCond cn off, a, b, c)) (ht : (pc : Int) + off = (a : Int)) (kt : sm_cnd cn x 0 = true → RT xs d j a L st wd Q) (kf : ¬ sm_cnd cn x 0 = true → RT xs d j (pc + 3) L st wd Q) : RT xs d j pc L (.int x :: st) wd Q := by
  by_cases hc : sm_cnd cn x 0 = true
  · exact RT.step h rfl rfl (by show (if (pc : Int) + off = (a : Int) then some (if sm_cnd cn x 0 = true then a else pc + 3, _) else none) = _; rw [if_pos ht, if_pos hc]) (kt hc)
  · exact RT.step h rfl rfl (by show (if (pc : Int) + off = (a : Int) then some (if sm_cnd cn x 0 = true then a else pc + 3, _) else none) = _; rw [if_pos ht, if_neg hc]) (kf hc)
theorem R_icmp {off : Int} {cn : Jvm.ClassFile.Cond} {x y : Int32} (h : sm_ic j pc = some (.if_icmp cn off, a, b, c)) (ht : (pc : Int) + off = (a : Int)) (kt : sm_cnd cn x y = true → RT xs d j a L st wd Q) (kf : ¬ sm_cnd cn x y = true → RT xs d j (pc + 3) L st wd Q) : RT xs d j pc L (.int y :: .int x :: st) wd Q := by
  by_cases hc : sm_cnd cn x y = true
  · exact RT.step h rfl rfl (by show (if (pc : Int) + off = (a : Int) then some (if sm_cnd cn x y = true then a else pc + 3, _) else none) = _; rw [if_pos ht, if_pos hc]) (kt hc)
  · exact RT.step h rfl rfl (by show (if (pc : Int) + off = (a : Int) then some (if sm_cnd cn x y = true then a else pc + 3, _) else none) = _; rw [if_pos ht, if_neg hc]) (kf hc)
theorem R_if_eq {off : Int} {x : Int32} (h : sm_ic j pc = some (.ifCond .eq off, a, b, c)) (ht : (pc : Int) + off = (a : Int)) (kt : x = 0 → RT xs d j a L st wd Q) (kf : ¬ x = 0 → RT xs d j (pc + 3) L st wd Q) : RT xs d j pc L (.int x :: st) wd Q := R_if h ht (fun q => kt (of_decide_eq_true q)) (fun q => kf (by simpa [sm_cnd] using q))
theorem R_icmp_eq {off : Int} {x y : Int32} (h : sm_ic j pc = some (.if_icmp .eq off, a, b, c)) (ht : (pc : Int) + off = (a : Int)) (kt : x = y → RT xs d j a L st wd Q) (kf : ¬ x = y → RT xs d j (pc + 3) L st wd Q) : RT xs d j pc L (.int y :: .int x :: st) wd Q := R_icmp h ht (fun q => kt (of_decide_eq_true q)) (fun q => kf (by simpa [sm_cnd] using q))
theorem R_if_ne {off : Int} {x : Int32} (h : sm_ic j pc = some (.ifCond .ne off, a, b, c)) (ht : (pc : Int) + off = (a : Int)) (kt : ¬ x = 0 → RT xs d j a L st wd Q) (kf : x = 0 → RT xs d j (pc + 3) L st wd Q) : RT xs d j pc L (.int x :: st) wd Q := R_if h ht (fun q => kt (of_decide_eq_true q)) (fun q => kf (by simpa [sm_cnd] using q))
theorem R_icmp_ne {off : Int} {x y : Int32} (h : sm_ic j pc = some (.if_icmp .ne off, a, b, c)) (ht : (pc : Int) + off = (a : Int)) (kt : ¬ x = y → RT xs d j a L st wd Q) (kf : x = y → RT xs d j (pc + 3) L st wd Q) : RT xs d j pc L (.int y :: .int x :: st) wd Q := R_icmp h ht (fun q => kt (of_decide_eq_true q)) (fun q => kf (by simpa [sm_cnd] using q))
theorem R_if_lt {off : Int} {x : Int32} (h : sm_ic j pc = some (.ifCond .lt off, a, b, c)) (ht : (pc : Int) + off = (a : Int)) (kt : x < 0 → RT xs d j a L st wd Q) (kf : ¬ x < 0 → RT xs d j (pc + 3) L st wd Q) : RT xs d j pc L (.int x :: st) wd Q := R_if h ht (fun q => kt (of_decide_eq_true q)) (fun q => kf (by simpa [sm_cnd] using q))
theorem R_icmp_lt {off : Int} {x y : Int32} (h : sm_ic j pc = some (.if_icmp .lt off, a, b, c)) (ht : (pc : Int) + off = (a : Int)) (kt : x < y → RT xs d j a L st wd Q) (kf : ¬ x < y → RT xs d j (pc + 3) L st wd Q) : RT xs d j pc L (.int y :: .int x :: st) wd Q := R_icmp h ht (fun q => kt (of_decide_eq_true q)) (fun q => kf (by simpa [sm_cnd] using q))
theorem R_if_ge {off : Int} {x : Int32} (h : sm_ic j pc = some (.ifCond .ge off, a, b, c)) (ht : (pc : Int) + off = (a : Int)) (kt : 0 ≤ x → RT xs d j a L st wd Q) (kf : ¬ 0 ≤ x → RT xs d j (pc + 3) L st wd Q) : RT xs d j pc L (.int x :: st) wd Q := R_if h ht (fun q => kt (of_decide_eq_true q)) (fun q => kf (by simpa [sm_cnd] using q))
theorem R_icmp_ge {off : Int} {x y : Int32} (h : sm_ic j pc = some (.if_icmp .ge off, a, b, c)) (ht : (pc : Int) + off = (a : Int)) (kt : y ≤ x → RT xs d j a L st wd Q) (kf : ¬ y ≤ x → RT xs d j (pc + 3) L st wd Q) : RT xs d j pc L (.int y :: .int x :: st) wd Q := R_icmp h ht (fun q => kt (of_decide_eq_true q)) (fun q => kf (by simpa [sm_cnd] using q))
theorem R_if_gt {off : Int} {x : Int32} (h : sm_ic j pc = some (.ifCond .gt off, a, b, c)) (ht : (pc : Int) + off = (a : Int)) (kt : 0 < x → RT xs d j a L st wd Q) (kf : ¬ 0 < x → RT xs d j (pc + 3) L st wd Q) : RT xs d j pc L (.int x :: st) wd Q := R_if h ht (fun q => kt (of_decide_eq_true q)) (fun q => kf (by simpa [sm_cnd] using q))
theorem R_icmp_gt {off : Int} {x y : Int32} (h : sm_ic j pc = some (.if_icmp .gt off, a, b, c)) (ht : (pc : Int) + off = (a : Int)) (kt : y < x → RT xs d j a L st wd Q) (kf : ¬ y < x → RT xs d j (pc + 3) L st wd Q) : RT xs d j pc L (.int y :: .int x :: st) wd Q := R_icmp h ht (fun q => kt (of_decide_eq_true q)) (fun q => kf (by simpa [sm_cnd] using q))
theorem R_if_le {off : Int} {x : Int32} (h : sm_ic j pc = some (.ifCond .le off, a, b, c)) (ht : (pc : Int) + off = (a : Int)) (kt : x ≤ 0 → RT xs d j a L st wd Q) (kf : ¬ x ≤ 0 → RT xs d j (pc + 3) L st wd Q) : RT xs d j pc L (.int x :: st) wd Q := R_if h ht (fun q => kt (of_decide_eq_true q)) (fun q => kf (by simpa [sm_cnd] using q))
theorem R_icmp_le {off : Int} {x y : Int32} (h : sm_ic j pc = some (.if_icmp .le off, a, b, c)) (ht : (pc : Int) + off = (a : Int)) (kt : x ≤ y → RT xs d j a L st wd Q) (kf : ¬ x ≤ y → RT xs d j (pc + 3) L st wd Q) : RT xs d j pc L (.int y :: .int x :: st) wd Q := R_icmp h ht (fun q => kt (of_decide_eq_true q)) (fun q => kf (by simpa [sm_cnd] using q))
theorem R_ifT {off : Int} {cn : Jvm.ClassFile.Cond} {x : Int32} (h : sm_ic j pc = some (.ifCond cn off, a, b, c)) (ht : (pc : Int) + off = (a : Int)) (hc : sm_cnd cn x 0 = true) (kt : RT xs d j a L st wd Q) : RT xs d j pc L (.int x :: st) wd Q := R_if h ht (fun _ => kt) (fun q => absurd hc q)
theorem R_ifF {off : Int} {cn : Jvm.ClassFile.Cond} {x : Int32} (h : sm_ic j pc = some (.ifCond cn off, a, b, c)) (ht : (pc : Int) + off = (a : Int)) (hc : sm_cnd cn x 0 = false) (kf : RT xs d j (pc + 3) L st wd Q) : RT xs d j pc L (.int x :: st) wd Q := R_if h ht (fun q => absurd q (by rw [hc]; decide)) (fun _ => kf)
theorem R_icmpT {off : Int} {cn : Jvm.ClassFile.Cond} {x y : Int32} (h : sm_ic j pc = some (.if_icmp cn off, a, b, c)) (ht : (pc : Int) + off = (a : Int)) (hc : sm_cnd cn x y = true) (kt : RT xs d j a L st wd Q) : RT xs d j pc L (.int y :: .int x :: st) wd Q := R_icmp h ht (fun _ => kt) (fun q => absurd hc q)
theorem R_icmpF {off : Int} {cn : Jvm.ClassFile.Cond} {x y : Int32} (h : sm_ic j pc = some (.if_icmp cn off, a, b, c)) (ht : (pc : Int) + off = (a : Int)) (hc : sm_cnd cn x y = false) (kf : RT xs d j (pc + 3) L st wd Q) : RT xs d j pc L (.int y :: .int x :: st) wd Q := R_icmp h ht (fun q => absurd q (by rw [hc]; decide)) (fun _ => kf)
theorem R_tsOut {d0 lo hi : Int} {offs : Array Int} {x : Int32} {t : Nat} (h : sm_ic j pc = some (.tableswitch d0 lo hi offs, a, b, c)) (hx : x.toInt < lo ∨ hi < x.toInt) (ht : (pc : Int) + d0 = (t : Int)) (k : RT xs d j t L st wd Q) : RT xs d j pc L (.int x :: st) wd Q := RT.step h rfl rfl (by show (if x.toInt < lo ∨ hi < x.toInt then (if 0 ≤ (pc : Int) + d0 then some (((pc : Int) + d0).toNat, L, st, wd) else none) else _) = _; rw [if_pos hx, ht, if_pos (Int.natCast_nonneg t)]; rfl) k
theorem R_tsIn {d0 lo hi off : Int} {offs : Array Int} {x : Int32} {t : Nat} (h : sm_ic j pc = some (.tableswitch d0 lo hi offs, a, b, c)) (hx : ¬ (x.toInt < lo ∨ hi < x.toInt)) (ho : offs[(x.toInt - lo).toNat]? = some off) (ht : (pc : Int) + off = (t : Int)) (k : RT xs d j t L st wd Q) : RT xs d j pc L (.int x :: st) wd Q := RT.step h rfl rfl (by show (if x.toInt < lo ∨ hi < x.toInt then _ else (match offs[(x.toInt - lo).toNat]? with | some off => if 0 ≤ (pc : Int) + off then some (((pc : Int) + off).toNat, L, st, wd) else none | none => none)) = _; rw [if_neg hx, ho]; dsimp only; rw [ht, if_pos (Int.natCast_nonneg t)]; rfl) k
theorem R_ls {d0 : Int} {ps : Array (Int × Int)} {x : Int32} {t : Nat} (h : sm_ic j pc = some (.lookupswitch d0 ps, a, b, c)) (hp : (ps.toList.zip (ps.toList.drop 1)).all (fun (a, next) => a.1 < next.1) = true) (ht : (pc : Int) + Op.lookupswitch.offset ps.toList d0 x.toInt = (t : Int)) (k : RT xs d j t L st wd Q) : RT xs d j pc L (.int x :: st) wd Q := RT.step h rfl rfl (by show (if _ ∧ 0 ≤ (pc : Int) + Op.lookupswitch.offset ps.toList d0 x.toInt then some (((pc : Int) + Op.lookupswitch.offset ps.toList d0 x.toInt).toNat, L, st, wd) else none) = _; rw [ht, if_pos ⟨hp, Int.natCast_nonneg t⟩]; rfl) k
theorem R_getf {i k0 : Nat} {fs : List Value} {v : Value} (h : sm_ic j pc = some (.getfield i, a, b, c)) (ha : ¬ a = 100) (hw : wd[k0]? = some (.inr (.inr (a, fs)))) (hv : fs[b]? = some v) (k : RT xs d j (pc + 3) L (v :: st) wd Q) : RT xs d j pc L (.ref k0 :: st) wd Q :=
  RT.step h rfl rfl (by
    show (if a = 100 then _ else (match wd[k0]? with
        | some (.inr (.inr (ci, fs))) => if ci = a then (match fs[b]? with
          | some v => some (pc + 3, L, v :: st, wd)
          | none => none) else none
        | _ => none)) = _
    rw [if_neg ha, hw]
    dsimp only
    rw [if_pos rfl, hv]) k
theorem R_putf {i k0 : Nat} {fs : List Value} {v : Value} (h : sm_ic j pc = some (.putfield i, a, b, c)) (hw : wd[k0]? = some (.inr (.inr (a, fs)))) (hl : b < fs.length) (hn : narrow (sm_ty a b) v = v) (hf : fits (sm_ty a b) v = true) (k : RT xs d j (pc + 3) L st (wd.set k0 (.inr (.inr (a, fs.set b v)))) Q) : RT xs d j pc L (v :: .ref k0 :: st) wd Q :=
  RT.step h rfl rfl (by
    show (match wd[k0]? with
      | some (.inr (.inr (ci, fs))) => if ci = a ∧ b < fs.length ∧ narrow (sm_ty a b) v = v ∧ fits (sm_ty a b) v = true then some (pc + 3, L, st, wd.set k0 (.inr (.inr (ci, fs.set b v)))) else none
      | _ => none) = _
    rw [hw]
    dsimp only
    rw [if_pos ⟨rfl, hl, hn, hf⟩]) k
theorem R_iald {k0 : Nat} {l : List Int32} {i x : Int32} (h : sm_ic j pc = some (.iaload, a, b, c)) (hk : ¬ k0 = 1000004) (hw : wd[k0]? = some (.inl (0, l))) (hi : sm_ix l i = some x) (k : RT xs d j (pc + 1) L (.int x :: st) wd Q) : RT xs d j pc L (.int i :: .ref k0 :: st) wd Q :=
  RT.step h rfl rfl (by
    show (if k0 = 1000004 then _ else (match wd[k0]? with
        | some (.inl (0, l)) => (match sm_ix l i with
          | some x => some (pc + 1, L, Value.int x :: st, wd)
          | none => none)
        | _ => none)) = _
    rw [if_neg hk]
    simp only [hw, hi]) k
theorem R_ialdX {i x : Int32} (h : sm_ic j pc = some (.iaload, a, b, c)) (hi : sm_ix xs i = some x) (k : RT xs d j (pc + 1) L (.int x :: st) wd Q) : RT xs d j pc L (.int i :: .ref 1000004 :: st) wd Q :=
  RT.step h rfl rfl (by
    show sm_mem xs d (Instr.iaload, a, b, c) pc L (.int i :: .ref 1000004 :: st) wd = _
    simp [sm_mem, hi]) k
theorem R_cald {k0 : Nat} {l : List Int32} {i x : Int32} (h : sm_ic j pc = some (.caload, a, b, c)) (hw : wd[k0]? = some (.inl (1, l))) (hi : sm_ix l i = some x) (k : RT xs d j (pc + 1) L (.int x :: st) wd Q) : RT xs d j pc L (.int i :: .ref k0 :: st) wd Q :=
  RT.step h rfl rfl (by
    show (match wd[k0]? with
        | some (.inl (1, l)) => (match sm_ix l i with
          | some x => some (pc + 1, L, Value.int x :: st, wd)
          | none => none)
        | _ => none) = _
    simp only [hw, hi]) k
theorem R_lald {k0 : Nat} {l : List Int64} {i : Int32} {x : Int64} (h : sm_ic j pc = some (.laload, a, b, c)) (hw : wd[k0]? = some (.inr (.inl l))) (hi : sm_ix l i = some x) (k : RT xs d j (pc + 1) L (.long x :: st) wd Q) : RT xs d j pc L (.int i :: .ref k0 :: st) wd Q :=
  RT.step h rfl rfl (by
    show (match wd[k0]? with
        | some (.inr (.inl l)) => (match sm_ix l i with
          | some x => some (pc + 1, L, Value.long x :: st, wd)
          | none => none)
        | _ => none) = _
    simp only [hw, hi]) k
theorem R_iast {k0 : Nat} {l : List Int32} {i x : Int32} (h : sm_ic j pc = some (.iastore, a, b, c)) (hw : wd[k0]? = some (.inl (0, l))) (hi : ¬ (i < 0 ∨ l.length ≤ i.toNatClampNeg)) (k : RT xs d j (pc + 1) L st (wd.set k0 (.inl (0, l.set i.toNatClampNeg x))) Q) : RT xs d j pc L (.int x :: .int i :: .ref k0 :: st) wd Q :=
  RT.step h rfl rfl (by
    show (match wd[k0]? with
        | some (.inl (0, l)) => if i < 0 ∨ l.length ≤ i.toNatClampNeg then none else some (pc + 1, L, st, wd.set k0 (.inl (0, l.set i.toNatClampNeg x)))
        | _ => none) = _
    simp only [hw]
    rw [if_neg hi]) k
theorem R_cast {k0 : Nat} {l : List Int32} {i x y : Int32} (h : sm_ic j pc = some (.castore, a, b, c)) (hw : wd[k0]? = some (.inl (1, l))) (hi : ¬ (i < 0 ∨ l.length ≤ i.toNatClampNeg)) (hy : vp_nar .char x = y) (k : RT xs d j (pc + 1) L st (wd.set k0 (.inl (1, l.set i.toNatClampNeg y))) Q) : RT xs d j pc L (.int x :: .int i :: .ref k0 :: st) wd Q :=
  RT.step h rfl rfl (by
    subst hy
    show (match wd[k0]? with
        | some (.inl (1, l)) => if i < 0 ∨ l.length ≤ i.toNatClampNeg then none else some (pc + 1, L, st, wd.set k0 (.inl (1, l.set i.toNatClampNeg (vp_nar .char x))))
        | _ => none) = _
    simp only [hw]
    rw [if_neg hi]) k
theorem R_last {k0 : Nat} {l : List Int64} {i : Int32} {x : Int64} (h : sm_ic j pc = some (.lastore, a, b, c)) (hw : wd[k0]? = some (.inr (.inl l))) (hi : ¬ (i < 0 ∨ l.length ≤ i.toNatClampNeg)) (k : RT xs d j (pc + 1) L st (wd.set k0 (.inr (.inl (l.set i.toNatClampNeg x)))) Q) : RT xs d j pc L (.long x :: .int i :: .ref k0 :: st) wd Q :=
  RT.step h rfl rfl (by
    show (match wd[k0]? with
        | some (.inr (.inl l)) => if i < 0 ∨ l.length ≤ i.toNatClampNeg then none else some (pc + 1, L, st, wd.set k0 (.inr (.inl (l.set i.toNatClampNeg x))))
        | _ => none) = _
    simp only [hw]
    rw [if_neg hi]) k
theorem R_alenI {k0 t : Nat} {l : List Int32} (h : sm_ic j pc = some (.arraylength, a, b, c)) (hk : ¬ k0 = 1000002 ∧ ¬ k0 = 1000004) (hw : wd[k0]? = some (.inl (t, l))) (k : RT xs d j (pc + 1) L (.int (nI l.length) :: st) wd Q) : RT xs d j pc L (.ref k0 :: st) wd Q :=
  RT.step h rfl rfl (by
    show (if k0 = 1000002 then _ else if k0 = 1000004 then _ else (match wd[k0]? with
        | some (.inl (_, l)) => some (pc + 1, L, Value.int (Int32.ofNat l.length) :: st, wd)
        | some (.inr (.inl l)) => some (pc + 1, L, Value.int (Int32.ofNat l.length) :: st, wd)
        | _ => none)) = _
    rw [if_neg hk.1, if_neg hk.2, hw]
    rfl) k
theorem R_alenL {k0 : Nat} {l : List Int64} (h : sm_ic j pc = some (.arraylength, a, b, c)) (hk : ¬ k0 = 1000002 ∧ ¬ k0 = 1000004) (hw : wd[k0]? = some (.inr (.inl l))) (k : RT xs d j (pc + 1) L (.int (nI l.length) :: st) wd Q) : RT xs d j pc L (.ref k0 :: st) wd Q :=
  RT.step h rfl rfl (by
    show (if k0 = 1000002 then _ else if k0 = 1000004 then _ else (match wd[k0]? with
        | some (.inl (_, l)) => some (pc + 1, L, Value.int (Int32.ofNat l.length) :: st, wd)
        | some (.inr (.inl l)) => some (pc + 1, L, Value.int (Int32.ofNat l.length) :: st, wd)
        | _ => none)) = _
    rw [if_neg hk.1, if_neg hk.2, hw]
    rfl) k
theorem R_alenX (h : sm_ic j pc = some (.arraylength, a, b, c)) (k : RT xs d j (pc + 1) L (.int (nI xs.length) :: st) wd Q) : RT xs d j pc L (.ref 1000004 :: st) wd Q := RT.step h rfl rfl rfl k
theorem R_max {i : Nat} {x y : Int32} (h : sm_ic j pc = some (.invokestatic i, 9997, b, c)) (hd : 1 ≤ d) (hc : (st.map fun v => v.category).sum ≤ 8) (k : RT xs d j (pc + 3) L (.int (if x < y then y else x) :: st) wd Q) : RT xs d j pc L (.int y :: .int x :: st) wd Q :=
  RT.step h rfl rfl (by show (if 1 ≤ d ∧ (st.map fun v => v.category).sum ≤ 8 then _ else none) = _; rw [if_pos ⟨hd, hc⟩]; rfl) k
theorem R_min {i : Nat} {x y : Int32} (h : sm_ic j pc = some (.invokestatic i, 9996, b, c)) (hd : 1 ≤ d) (hc : (st.map fun v => v.category).sum ≤ 8) (k : RT xs d j (pc + 3) L (.int (if y < x then y else x) :: st) wd Q) : RT xs d j pc L (.int y :: .int x :: st) wd Q :=
  RT.step h rfl rfl (by show (if 1 ≤ d ∧ (st.map fun v => v.category).sum ≤ 8 then _ else none) = _; rw [if_pos ⟨hd, hc⟩]; rfl) k
theorem R_iret {ty : FieldType} {v : Int32} (h : sm_ic j pc = some (.ireturn, a, b, c)) (hty : sm_rt j = some ty) (hn : narrow ty (.int v) = .int v) (hl : ty ≠ .long) (k : Q (some (.int v)) wd) : RT xs d j pc L [.int v] wd Q :=
  RT.ret h rfl (by show (match sm_rt j with | some ty => if narrow ty (Value.int v) = Value.int v ∧ ty ≠ FieldType.long then some (some (Value.int v)) else none | none => none) = _; simp only [hty]; rw [if_pos ⟨hn, hl⟩]) k
theorem R_lret {v : Int64} (h : sm_ic j pc = some (.lreturn, a, b, c)) (hty : sm_rt j = some .long) (k : Q (some (.long v)) wd) : RT xs d j pc L [.long v] wd Q :=
  RT.ret h rfl (by show (if sm_rt j = some .long then some (some (Value.long v)) else none) = _; rw [if_pos hty]) k
theorem R_vret (h : sm_ic j pc = some (.return_, a, b, c)) (hty : sm_rt j = none) (k : Q none wd) : RT xs d j pc L [] wd Q :=
  RT.ret h rfl (by show (if sm_rt j = none then some none else none) = _; rw [if_pos hty]) k
theorem R_call0 {i : Instr} {j2 c0 : Nat} {dmy : Nat} (h : sm_ic j pc = some (i, j2, 0, c0)) (hc : sm_call (i, j2, 0, c0) = true) (hr : sm_recv j2 0 (st) wd = true) (he : (sm_exp []).length ≤ sm_ml j2) (hcat : (st.map fun v => v.category).sum ≤ 8) (k : Ct xs d j2 [] wd (fun r w => RT xs (d + 1) j (pc + 3) L (sm_push r st) w Q)) : RT xs (d + 1) j pc L (st) wd Q := RT.call h hc hr (by show 0 ≤ (List.length (_ : List Value)); simp) he hcat k
theorem R_call1 {i : Instr} {j2 c0 : Nat} {a0 : Value} (h : sm_ic j pc = some (i, j2, 1, c0)) (hc : sm_call (i, j2, 1, c0) = true) (hr : sm_recv j2 1 (a0 :: st) wd = true) (he : (sm_exp [a0]).length ≤ sm_ml j2) (hcat : (st.map fun v => v.category).sum ≤ 8) (k : Ct xs d j2 [a0] wd (fun r w => RT xs (d + 1) j (pc + 3) L (sm_push r st) w Q)) : RT xs (d + 1) j pc L (a0 :: st) wd Q := RT.call h hc hr (by show 1 ≤ (List.length (_ : List Value)); simp) he hcat k
theorem R_call2 {i : Instr} {j2 c0 : Nat} {a0 a1 : Value} (h : sm_ic j pc = some (i, j2, 2, c0)) (hc : sm_call (i, j2, 2, c0) = true) (hr : sm_recv j2 2 (a1 :: a0 :: st) wd = true) (he : (sm_exp [a0, a1]).length ≤ sm_ml j2) (hcat : (st.map fun v => v.category).sum ≤ 8) (k : Ct xs d j2 [a0, a1] wd (fun r w => RT xs (d + 1) j (pc + 3) L (sm_push r st) w Q)) : RT xs (d + 1) j pc L (a1 :: a0 :: st) wd Q := RT.call h hc hr (by show 2 ≤ (List.length (_ : List Value)); simp) he hcat k
theorem R_call3 {i : Instr} {j2 c0 : Nat} {a0 a1 a2 : Value} (h : sm_ic j pc = some (i, j2, 3, c0)) (hc : sm_call (i, j2, 3, c0) = true) (hr : sm_recv j2 3 (a2 :: a1 :: a0 :: st) wd = true) (he : (sm_exp [a0, a1, a2]).length ≤ sm_ml j2) (hcat : (st.map fun v => v.category).sum ≤ 8) (k : Ct xs d j2 [a0, a1, a2] wd (fun r w => RT xs (d + 1) j (pc + 3) L (sm_push r st) w Q)) : RT xs (d + 1) j pc L (a2 :: a1 :: a0 :: st) wd Q := RT.call h hc hr (by show 3 ≤ (List.length (_ : List Value)); simp) he hcat k
theorem R_call4 {i : Instr} {j2 c0 : Nat} {a0 a1 a2 a3 : Value} (h : sm_ic j pc = some (i, j2, 4, c0)) (hc : sm_call (i, j2, 4, c0) = true) (hr : sm_recv j2 4 (a3 :: a2 :: a1 :: a0 :: st) wd = true) (he : (sm_exp [a0, a1, a2, a3]).length ≤ sm_ml j2) (hcat : (st.map fun v => v.category).sum ≤ 8) (k : Ct xs d j2 [a0, a1, a2, a3] wd (fun r w => RT xs (d + 1) j (pc + 3) L (sm_push r st) w Q)) : RT xs (d + 1) j pc L (a3 :: a2 :: a1 :: a0 :: st) wd Q := RT.call h hc hr (by show 4 ≤ (List.length (_ : List Value)); simp) he hcat k
theorem R_call5 {i : Instr} {j2 c0 : Nat} {a0 a1 a2 a3 a4 : Value} (h : sm_ic j pc = some (i, j2, 5, c0)) (hc : sm_call (i, j2, 5, c0) = true) (hr : sm_recv j2 5 (a4 :: a3 :: a2 :: a1 :: a0 :: st) wd = true) (he : (sm_exp [a0, a1, a2, a3, a4]).length ≤ sm_ml j2) (hcat : (st.map fun v => v.category).sum ≤ 8) (k : Ct xs d j2 [a0, a1, a2, a3, a4] wd (fun r w => RT xs (d + 1) j (pc + 3) L (sm_push r st) w Q)) : RT xs (d + 1) j pc L (a4 :: a3 :: a2 :: a1 :: a0 :: st) wd Q := RT.call h hc hr (by show 5 ≤ (List.length (_ : List Value)); simp) he hcat k
theorem R_call6 {i : Instr} {j2 c0 : Nat} {a0 a1 a2 a3 a4 a5 : Value} (h : sm_ic j pc = some (i, j2, 6, c0)) (hc : sm_call (i, j2, 6, c0) = true) (hr : sm_recv j2 6 (a5 :: a4 :: a3 :: a2 :: a1 :: a0 :: st) wd = true) (he : (sm_exp [a0, a1, a2, a3, a4, a5]).length ≤ sm_ml j2) (hcat : (st.map fun v => v.category).sum ≤ 8) (k : Ct xs d j2 [a0, a1, a2, a3, a4, a5] wd (fun r w => RT xs (d + 1) j (pc + 3) L (sm_push r st) w Q)) : RT xs (d + 1) j pc L (a5 :: a4 :: a3 :: a2 :: a1 :: a0 :: st) wd Q := RT.call h hc hr (by show 6 ≤ (List.length (_ : List Value)); simp) he hcat k
end RTS
theorem sm_gs {wd : sm_W} {k : Nat} {e0 e : sm_E} (h : wd[k]? = some e0) : (wd.set k e)[k]? = some e := List.getElem?_set_self (List.getElem?_eq_some_iff.mp h).1
theorem sm_gn {wd : sm_W} {k i : Nat} {e e1 : sm_E} (hne : i ≠ k) (h : wd[k]? = some e1) : (wd.set i e)[k]? = some e1 := by rw [List.getElem?_set_ne hne]; exact h
theorem sm_ixN {α : Type} {l : List α} {i : Nat} (h : i < 2 ^ 31) : sm_ix l (nI i) = l[i]? := by
  unfold sm_ix
  rw [if_neg (nI_pos h), nI_clamp h]
theorem sm_inN {l : List Int32} {i : Nat} (h : i < l.length) (hl : l.length < 2 ^ 31) : ¬ (nI i < 0 ∨ l.length ≤ (nI i).toNatClampNeg) := nI_in h hl
theorem sm_inNL {l : List Int64} {i : Nat} (h : i < l.length) (hl : l.length < 2 ^ 31) : ¬ (nI i < 0 ∨ l.length ≤ (nI i).toNatClampNeg) := nI_in h hl
end
section
/-! each decoded row by its place -/
theorem r_0_0 : sm_ic 0 0 = some (.aload_n 0, 0, 0, 0) := rfl
theorem r_0_1 : sm_ic 0 1 = some (.invokespecial 1, 9999, 0, 58) := rfl
theorem r_0_4 : sm_ic 0 4 = some (.aload_n 0, 0, 0, 0) := rfl
theorem r_0_5 : sm_ic 0 5 = some (.new 7, 5, 0, 61) := rfl
theorem r_0_8 : sm_ic 0 8 = some (.dup, 0, 0, 0) := rfl
theorem r_0_9 : sm_ic 0 9 = some (.invokespecial 9, 1, 1, 63) := rfl
theorem r_0_12 : sm_ic 0 12 = some (.putfield 10, 0, 0, 348) := rfl
theorem r_0_15 : sm_ic 0 15 = some (.aload_n 0, 0, 0, 0) := rfl
theorem r_0_16 : sm_ic 0 16 = some (.new 16, 2, 0, 75) := rfl
theorem r_0_19 : sm_ic 0 19 = some (.dup, 0, 0, 0) := rfl
theorem r_0_20 : sm_ic 0 20 = some (.invokespecial 18, 2, 1, 77) := rfl
theorem r_0_23 : sm_ic 0 23 = some (.putfield 19, 0, 1, 349) := rfl
theorem r_0_26 : sm_ic 0 26 = some (.aload_n 0, 0, 0, 0) := rfl
theorem r_0_27 : sm_ic 0 27 = some (.new 23, 1, 0, 92) := rfl
theorem r_0_30 : sm_ic 0 30 = some (.dup, 0, 0, 0) := rfl
theorem r_0_31 : sm_ic 0 31 = some (.invokespecial 25, 3, 1, 94) := rfl
theorem r_0_34 : sm_ic 0 34 = some (.putfield 26, 0, 2, 350) := rfl
theorem r_0_37 : sm_ic 0 37 = some (.aload_n 0, 0, 0, 0) := rfl
theorem r_0_38 : sm_ic 0 38 = some (.new 23, 1, 0, 92) := rfl
theorem r_0_41 : sm_ic 0 41 = some (.dup, 0, 0, 0) := rfl
theorem r_0_42 : sm_ic 0 42 = some (.invokespecial 25, 3, 1, 94) := rfl
theorem r_0_45 : sm_ic 0 45 = some (.putfield 30, 0, 3, 351) := rfl
theorem r_0_48 : sm_ic 0 48 = some (.aload_n 0, 0, 0, 0) := rfl
theorem r_0_49 : sm_ic 0 49 = some (.new 33, 3, 0, 129) := rfl
theorem r_0_52 : sm_ic 0 52 = some (.dup, 0, 0, 0) := rfl
theorem r_0_53 : sm_ic 0 53 = some (.invokespecial 35, 4, 1, 131) := rfl
theorem r_0_56 : sm_ic 0 56 = some (.putfield 36, 0, 4, 352) := rfl
theorem r_0_59 : sm_ic 0 59 = some (.aload_n 0, 0, 0, 0) := rfl
theorem r_0_60 : sm_ic 0 60 = some (.new 40, 4, 0, 151) := rfl
theorem r_0_63 : sm_ic 0 63 = some (.dup, 0, 0, 0) := rfl
theorem r_0_64 : sm_ic 0 64 = some (.bipush 8, 0, 0, 0) := rfl
theorem r_0_66 : sm_ic 0 66 = some (.invokespecial 42, 5, 2, 153) := rfl
theorem r_0_69 : sm_ic 0 69 = some (.putfield 45, 0, 5, 353) := rfl
theorem r_0_72 : sm_ic 0 72 = some (.aload_n 0, 0, 0, 0) := rfl
theorem r_0_73 : sm_ic 0 73 = some (.new 40, 4, 0, 151) := rfl
theorem r_0_76 : sm_ic 0 76 = some (.dup, 0, 0, 0) := rfl
theorem r_0_77 : sm_ic 0 77 = some (.iconst 2, 0, 0, 0) := rfl
theorem r_0_78 : sm_ic 0 78 = some (.invokespecial 42, 5, 2, 153) := rfl
theorem r_0_81 : sm_ic 0 81 = some (.putfield 49, 0, 6, 354) := rfl
theorem r_0_84 : sm_ic 0 84 = some (.aload_n 0, 0, 0, 0) := rfl
theorem r_0_85 : sm_ic 0 85 = some (.new 52, 6, 0, 168) := rfl
theorem r_0_88 : sm_ic 0 88 = some (.dup, 0, 0, 0) := rfl
theorem r_0_89 : sm_ic 0 89 = some (.invokespecial 54, 6, 1, 170) := rfl
theorem r_0_92 : sm_ic 0 92 = some (.putfield 55, 0, 7, 355) := rfl
theorem r_0_95 : sm_ic 0 95 = some (.aload_n 0, 0, 0, 0) := rfl
theorem r_0_96 : sm_ic 0 96 = some (.invokevirtual 59, 7, 1, 184) := rfl
theorem r_0_99 : sm_ic 0 99 = some (.return_, 0, 0, 0) := rfl
theorem r_1_0 : sm_ic 1 0 = some (.aload_n 0, 0, 0, 0) := rfl
theorem r_1_1 : sm_ic 1 1 = some (.invokespecial 3, 9999, 0, 66) := rfl
theorem r_1_4 : sm_ic 1 4 = some (.aload_n 0, 0, 0, 0) := rfl
theorem r_1_5 : sm_ic 1 5 = some (.sipush 200, 0, 0, 0) := rfl
theorem r_1_8 : sm_ic 1 8 = some (.newarray .char, 1, 0, 74) := rfl
theorem r_1_10 : sm_ic 1 10 = some (.putfield 9, 5, 0, 67) := rfl
theorem r_1_13 : sm_ic 1 13 = some (.return_, 0, 0, 0) := rfl
theorem r_2_0 : sm_ic 2 0 = some (.aload_n 0, 0, 0, 0) := rfl
theorem r_2_1 : sm_ic 2 1 = some (.invokespecial 3, 9999, 0, 80) := rfl
theorem r_2_4 : sm_ic 2 4 = some (.aload_n 0, 0, 0, 0) := rfl
theorem r_2_5 : sm_ic 2 5 = some (.iconst 4, 0, 0, 0) := rfl
theorem r_2_6 : sm_ic 2 6 = some (.newarray .int, 0, 0, 91) := rfl
theorem r_2_8 : sm_ic 2 8 = some (.putfield 9, 2, 0, 81) := rfl
theorem r_2_11 : sm_ic 2 11 = some (.return_, 0, 0, 0) := rfl
theorem r_3_0 : sm_ic 3 0 = some (.aload_n 0, 0, 0, 0) := rfl
theorem r_3_1 : sm_ic 3 1 = some (.invokespecial 3, 9999, 0, 97) := rfl
theorem r_3_4 : sm_ic 3 4 = some (.aload_n 0, 0, 0, 0) := rfl
theorem r_3_5 : sm_ic 3 5 = some (.bipush 8, 0, 0, 0) := rfl
theorem r_3_7 : sm_ic 3 7 = some (.newarray .int, 0, 0, 91) := rfl
theorem r_3_9 : sm_ic 3 9 = some (.putfield 9, 1, 0, 98) := rfl
theorem r_3_12 : sm_ic 3 12 = some (.aload_n 0, 0, 0, 0) := rfl
theorem r_3_13 : sm_ic 3 13 = some (.bipush 8, 0, 0, 0) := rfl
theorem r_3_15 : sm_ic 3 15 = some (.newarray .int, 0, 0, 91) := rfl
theorem r_3_17 : sm_ic 3 17 = some (.putfield 15, 1, 1, 99) := rfl
theorem r_3_20 : sm_ic 3 20 = some (.aload_n 0, 0, 0, 0) := rfl
theorem r_3_21 : sm_ic 3 21 = some (.iconst 5, 0, 0, 0) := rfl
theorem r_3_22 : sm_ic 3 22 = some (.newarray .int, 0, 0, 91) := rfl
theorem r_3_24 : sm_ic 3 24 = some (.putfield 18, 1, 2, 100) := rfl
theorem r_3_27 : sm_ic 3 27 = some (.return_, 0, 0, 0) := rfl
theorem r_4_0 : sm_ic 4 0 = some (.aload_n 0, 0, 0, 0) := rfl
theorem r_4_1 : sm_ic 4 1 = some (.invokespecial 3, 9999, 0, 134) := rfl
theorem r_4_4 : sm_ic 4 4 = some (.aload_n 0, 0, 0, 0) := rfl
theorem r_4_5 : sm_ic 4 5 = some (.bipush 8, 0, 0, 0) := rfl
theorem r_4_7 : sm_ic 4 7 = some (.newarray .int, 0, 0, 91) := rfl
theorem r_4_9 : sm_ic 4 9 = some (.putfield 9, 3, 0, 135) := rfl
theorem r_4_12 : sm_ic 4 12 = some (.return_, 0, 0, 0) := rfl
theorem r_5_0 : sm_ic 5 0 = some (.aload_n 0, 0, 0, 0) := rfl
theorem r_5_1 : sm_ic 5 1 = some (.invokespecial 1, 9999, 0, 156) := rfl
theorem r_5_4 : sm_ic 5 4 = some (.aload_n 0, 0, 0, 0) := rfl
theorem r_5_5 : sm_ic 5 5 = some (.iload_n 1, 0, 0, 0) := rfl
theorem r_5_6 : sm_ic 5 6 = some (.iconst 0, 0, 0, 0) := rfl
theorem r_5_7 : sm_ic 5 7 = some (.invokestatic 7, 9997, 0, 157) := rfl
theorem r_5_10 : sm_ic 5 10 = some (.newarray .long, 2, 0, 167) := rfl
theorem r_5_12 : sm_ic 5 12 = some (.putfield 13, 4, 0, 160) := rfl
theorem r_5_15 : sm_ic 5 15 = some (.return_, 0, 0, 0) := rfl
theorem r_6_0 : sm_ic 6 0 = some (.aload_n 0, 0, 0, 0) := rfl
theorem r_6_1 : sm_ic 6 1 = some (.invokespecial 3, 9999, 0, 173) := rfl
theorem r_6_4 : sm_ic 6 4 = some (.aload_n 0, 0, 0, 0) := rfl
theorem r_6_5 : sm_ic 6 5 = some (.bipush 8, 0, 0, 0) := rfl
theorem r_6_7 : sm_ic 6 7 = some (.newarray .int, 0, 0, 91) := rfl
theorem r_6_9 : sm_ic 6 9 = some (.putfield 9, 6, 0, 174) := rfl
theorem r_6_12 : sm_ic 6 12 = some (.aload_n 0, 0, 0, 0) := rfl
theorem r_6_13 : sm_ic 6 13 = some (.bipush 8, 0, 0, 0) := rfl
theorem r_6_15 : sm_ic 6 15 = some (.newarray .int, 0, 0, 91) := rfl
theorem r_6_17 : sm_ic 6 17 = some (.putfield 15, 6, 1, 175) := rfl
theorem r_6_20 : sm_ic 6 20 = some (.return_, 0, 0, 0) := rfl
theorem r_7_0 : sm_ic 7 0 = some (.iconst 0, 0, 0, 0) := rfl
theorem r_7_1 : sm_ic 7 1 = some (.istore_n 1, 0, 0, 0) := rfl
theorem r_7_2 : sm_ic 7 2 = some (.iload_n 1, 0, 0, 0) := rfl
theorem r_7_3 : sm_ic 7 3 = some (.ldc_w 258, 0, 0, 0) := rfl
theorem r_7_6 : sm_ic 7 6 = some (.invokevirtual 260, 8, 1, 189) := rfl
theorem r_7_9 : sm_ic 7 9 = some (.if_icmp .ge 24, 33, 0, 0) := rfl
theorem r_7_12 : sm_ic 7 12 = some (.aload_n 0, 0, 0, 0) := rfl
theorem r_7_13 : sm_ic 7 13 = some (.getfield 10, 0, 0, 348) := rfl
theorem r_7_16 : sm_ic 7 16 = some (.ldc_w 258, 0, 0, 0) := rfl
theorem r_7_19 : sm_ic 7 19 = some (.iload_n 1, 0, 0, 0) := rfl
theorem r_7_20 : sm_ic 7 20 = some (.invokevirtual 263, 10, 2, 199) := rfl
theorem r_7_23 : sm_ic 7 23 = some (.invokevirtual 62, 15, 2, 237) := rfl
theorem r_7_26 : sm_ic 7 26 = some (.pop, 0, 0, 0) := rfl
theorem r_7_27 : sm_ic 7 27 = some (.iinc 1 1, 0, 0, 0) := rfl
theorem r_7_30 : sm_ic 7 30 = some (.goto (-28), 2, 0, 0) := rfl
theorem r_7_33 : sm_ic 7 33 = some (.aload_n 0, 0, 0, 0) := rfl
theorem r_7_34 : sm_ic 7 34 = some (.getfield 26, 0, 2, 350) := rfl
theorem r_7_37 : sm_ic 7 37 = some (.aload_n 0, 0, 0, 0) := rfl
theorem r_7_38 : sm_ic 7 38 = some (.getfield 10, 0, 0, 348) := rfl
theorem r_7_41 : sm_ic 7 41 = some (.aload_n 0, 0, 0, 0) := rfl
theorem r_7_42 : sm_ic 7 42 = some (.getfield 19, 0, 1, 349) := rfl
theorem r_7_45 : sm_ic 7 45 = some (.invokevirtual 73, 16, 3, 241) := rfl
theorem r_7_48 : sm_ic 7 48 = some (.pop, 0, 0, 0) := rfl
theorem r_7_49 : sm_ic 7 49 = some (.aload_n 0, 0, 0, 0) := rfl
theorem r_7_50 : sm_ic 7 50 = some (.getfield 30, 0, 3, 351) := rfl
theorem r_7_53 : sm_ic 7 53 = some (.aload_n 0, 0, 0, 0) := rfl
theorem r_7_54 : sm_ic 7 54 = some (.getfield 26, 0, 2, 350) := rfl
theorem r_7_57 : sm_ic 7 57 = some (.invokevirtual 81, 38, 2, 324) := rfl
theorem r_7_60 : sm_ic 7 60 = some (.aload_n 0, 0, 0, 0) := rfl
theorem r_7_61 : sm_ic 7 61 = some (.aload_n 0, 0, 0, 0) := rfl
theorem r_7_62 : sm_ic 7 62 = some (.getfield 30, 0, 3, 351) := rfl
theorem r_7_65 : sm_ic 7 65 = some (.invokevirtual 85, 42, 1, 340) := rfl
theorem r_7_68 : sm_ic 7 68 = some (.putfield 89, 0, 8, 356) := rfl
theorem r_7_71 : sm_ic 7 71 = some (.aload_n 0, 0, 0, 0) := rfl
theorem r_7_72 : sm_ic 7 72 = some (.getfield 10, 0, 0, 348) := rfl
theorem r_7_75 : sm_ic 7 75 = some (.invokevirtual 70, 43, 1, 344) := rfl
theorem r_7_78 : sm_ic 7 78 = some (.return_, 0, 0, 0) := rfl
theorem r_8_0 : sm_ic 8 0 = some (.aload_n 0, 0, 0, 0) := rfl
theorem r_8_1 : sm_ic 8 1 = some (.getfield 9, 100, 1, 1043) := rfl
theorem r_8_4 : sm_ic 8 4 = some (.arraylength, 0, 0, 0) := rfl
theorem r_8_5 : sm_ic 8 5 = some (.aload_n 0, 0, 0, 0) := rfl
theorem r_8_6 : sm_ic 8 6 = some (.invokevirtual 335, 9, 1, 193) := rfl
theorem r_8_9 : sm_ic 8 9 = some (.ishr, 0, 0, 0) := rfl
theorem r_8_10 : sm_ic 8 10 = some (.ireturn, 0, 0, 0) := rfl
theorem r_9_0 : sm_ic 9 0 = some (.getstatic 38, 0, 0, 197) := rfl
theorem r_9_3 : sm_ic 9 3 = some (.ifCond .eq 10, 13, 0, 0) := rfl
theorem r_9_6 : sm_ic 9 6 = some (.aload_n 0, 0, 0, 0) := rfl
theorem r_9_7 : sm_ic 9 7 = some (.getfield 15, 100, 0, 1044) := rfl
theorem r_9_10 : sm_ic 9 10 = some (.goto 4, 14, 0, 0) := rfl
theorem r_9_13 : sm_ic 9 13 = some (.iconst 1, 0, 0, 0) := rfl
theorem r_9_14 : sm_ic 9 14 = some (.ireturn, 0, 0, 0) := rfl
theorem r_10_0 : sm_ic 10 0 = some (.aload_n 0, 0, 0, 0) := rfl
theorem r_10_1 : sm_ic 10 1 = some (.invokevirtual 492, 11, 1, 203) := rfl
theorem r_10_4 : sm_ic 10 4 = some (.ifCond .eq 12, 16, 0, 0) := rfl
theorem r_10_7 : sm_ic 10 7 = some (.aload_n 0, 0, 0, 0) := rfl
theorem r_10_8 : sm_ic 10 8 = some (.getfield 9, 100, 1, 1043) := rfl
theorem r_10_11 : sm_ic 10 11 = some (.iload_n 1, 0, 0, 0) := rfl
theorem r_10_12 : sm_ic 10 12 = some (.invokestatic 495, 12, 2, 207) := rfl
theorem r_10_15 : sm_ic 10 15 = some (.ireturn, 0, 0, 0) := rfl
theorem r_10_16 : sm_ic 10 16 = some (.aload_n 0, 0, 0, 0) := rfl
theorem r_10_17 : sm_ic 10 17 = some (.getfield 9, 100, 1, 1043) := rfl
theorem r_10_20 : sm_ic 10 20 = some (.iload_n 1, 0, 0, 0) := rfl
theorem r_10_21 : sm_ic 10 21 = some (.invokestatic 498, 9998, 0, 218) := rfl
theorem r_10_24 : sm_ic 10 24 = some (.ireturn, 0, 0, 0) := rfl
theorem r_11_0 : sm_ic 11 0 = some (.getstatic 38, 0, 0, 197) := rfl
theorem r_11_3 : sm_ic 11 3 = some (.ifCond .eq 14, 17, 0, 0) := rfl
theorem r_11_6 : sm_ic 11 6 = some (.aload_n 0, 0, 0, 0) := rfl
theorem r_11_7 : sm_ic 11 7 = some (.getfield 15, 100, 0, 1044) := rfl
theorem r_11_10 : sm_ic 11 10 = some (.ifCond .ne 7, 17, 0, 0) := rfl
theorem r_11_13 : sm_ic 11 13 = some (.iconst 1, 0, 0, 0) := rfl
theorem r_11_14 : sm_ic 11 14 = some (.goto 4, 18, 0, 0) := rfl
theorem r_11_17 : sm_ic 11 17 = some (.iconst 0, 0, 0, 0) := rfl
theorem r_11_18 : sm_ic 11 18 = some (.ireturn, 0, 0, 0) := rfl
theorem r_12_0 : sm_ic 12 0 = some (.iload_n 1, 0, 0, 0) := rfl
theorem r_12_1 : sm_ic 12 1 = some (.aload_n 0, 0, 0, 0) := rfl
theorem r_12_2 : sm_ic 12 2 = some (.arraylength, 0, 0, 0) := rfl
theorem r_12_3 : sm_ic 12 3 = some (.invokestatic 9, 13, 2, 210) := rfl
theorem r_12_6 : sm_ic 12 6 = some (.aload_n 0, 0, 0, 0) := rfl
theorem r_12_7 : sm_ic 12 7 = some (.iload_n 1, 0, 0, 0) := rfl
theorem r_12_8 : sm_ic 12 8 = some (.baload, 0, 0, 0) := rfl
theorem r_12_9 : sm_ic 12 9 = some (.sipush 255, 0, 0, 0) := rfl
theorem r_12_12 : sm_ic 12 12 = some (.iand, 0, 0, 0) := rfl
theorem r_12_13 : sm_ic 12 13 = some (.i2c, 0, 0, 0) := rfl
theorem r_12_14 : sm_ic 12 14 = some (.ireturn, 0, 0, 0) := rfl
theorem r_13_0 : sm_ic 13 0 = some (.iload_n 0, 0, 0, 0) := rfl
theorem r_13_1 : sm_ic 13 1 = some (.iload_n 1, 0, 0, 0) := rfl
theorem r_13_2 : sm_ic 13 2 = some (.getstatic 1053, 1, 0, 213) := rfl
theorem r_13_5 : sm_ic 13 5 = some (.invokestatic 1059, 14, 3, 215) := rfl
theorem r_13_8 : sm_ic 13 8 = some (.pop, 0, 0, 0) := rfl
theorem r_13_9 : sm_ic 13 9 = some (.return_, 0, 0, 0) := rfl
theorem r_15_0 : sm_ic 15 0 = some (.aload_n 0, 0, 0, 0) := rfl
theorem r_15_1 : sm_ic 15 1 = some (.getfield 15, 5, 1, 68) := rfl
theorem r_15_4 : sm_ic 15 4 = some (.ifCond .lt 15, 19, 0, 0) := rfl
theorem r_15_7 : sm_ic 15 7 = some (.aload_n 0, 0, 0, 0) := rfl
theorem r_15_8 : sm_ic 15 8 = some (.getfield 15, 5, 1, 68) := rfl
theorem r_15_11 : sm_ic 15 11 = some (.aload_n 0, 0, 0, 0) := rfl
theorem r_15_12 : sm_ic 15 12 = some (.getfield 9, 5, 0, 67) := rfl
theorem r_15_15 : sm_ic 15 15 = some (.arraylength, 0, 0, 0) := rfl
theorem r_15_16 : sm_ic 15 16 = some (.if_icmp .lt 5, 21, 0, 0) := rfl
theorem r_15_19 : sm_ic 15 19 = some (.iconst 0, 0, 0, 0) := rfl
theorem r_15_20 : sm_ic 15 20 = some (.ireturn, 0, 0, 0) := rfl
theorem r_15_21 : sm_ic 15 21 = some (.aload_n 0, 0, 0, 0) := rfl
theorem r_15_22 : sm_ic 15 22 = some (.getfield 9, 5, 0, 67) := rfl
theorem r_15_25 : sm_ic 15 25 = some (.aload_n 0, 0, 0, 0) := rfl
theorem r_15_26 : sm_ic 15 26 = some (.getfield 15, 5, 1, 68) := rfl
theorem r_15_29 : sm_ic 15 29 = some (.iload_n 1, 0, 0, 0) := rfl
theorem r_15_30 : sm_ic 15 30 = some (.i2c, 0, 0, 0) := rfl
theorem r_15_31 : sm_ic 15 31 = some (.castore, 0, 0, 0) := rfl
theorem r_15_32 : sm_ic 15 32 = some (.aload_n 0, 0, 0, 0) := rfl
theorem r_15_33 : sm_ic 15 33 = some (.dup, 0, 0, 0) := rfl
theorem r_15_34 : sm_ic 15 34 = some (.getfield 15, 5, 1, 68) := rfl
theorem r_15_37 : sm_ic 15 37 = some (.iconst 1, 0, 0, 0) := rfl
theorem r_15_38 : sm_ic 15 38 = some (.iadd, 0, 0, 0) := rfl
theorem r_15_39 : sm_ic 15 39 = some (.putfield 15, 5, 1, 68) := rfl
theorem r_15_42 : sm_ic 15 42 = some (.iconst 1, 0, 0, 0) := rfl
theorem r_15_43 : sm_ic 15 43 = some (.ireturn, 0, 0, 0) := rfl
theorem r_16_0 : sm_ic 16 0 = some (.aload_n 0, 0, 0, 0) := rfl
theorem r_16_1 : sm_ic 16 1 = some (.invokevirtual 21, 17, 1, 245) := rfl
theorem r_16_4 : sm_ic 16 4 = some (.iconst 0, 0, 0, 0) := rfl
theorem r_16_5 : sm_ic 16 5 = some (.istore_n 3, 0, 0, 0) := rfl
theorem r_16_6 : sm_ic 16 6 = some (.iconst 0, 0, 0, 0) := rfl
theorem r_16_7 : sm_ic 16 7 = some (.istore 4, 0, 0, 0) := rfl
theorem r_16_9 : sm_ic 16 9 = some (.iload 4, 0, 0, 0) := rfl
theorem r_16_11 : sm_ic 16 11 = some (.sipush 200, 0, 0, 0) := rfl
theorem r_16_14 : sm_ic 16 14 = some (.if_icmp .ge 41, 55, 0, 0) := rfl
theorem r_16_17 : sm_ic 16 17 = some (.iload_n 3, 0, 0, 0) := rfl
theorem r_16_18 : sm_ic 16 18 = some (.aload_n 1, 0, 0, 0) := rfl
theorem r_16_19 : sm_ic 16 19 = some (.invokevirtual 24, 20, 1, 257) := rfl
theorem r_16_22 : sm_ic 16 22 = some (.if_icmp .ge 33, 55, 0, 0) := rfl
theorem r_16_25 : sm_ic 16 25 = some (.aload_n 2, 0, 0, 0) := rfl
theorem r_16_26 : sm_ic 16 26 = some (.aload_n 1, 0, 0, 0) := rfl
theorem r_16_27 : sm_ic 16 27 = some (.iload_n 3, 0, 0, 0) := rfl
theorem r_16_28 : sm_ic 16 28 = some (.invokevirtual 30, 21, 3, 261) := rfl
theorem r_16_31 : sm_ic 16 31 = some (.ifCond .eq 11, 42, 0, 0) := rfl
theorem r_16_34 : sm_ic 16 34 = some (.aload_n 0, 0, 0, 0) := rfl
theorem r_16_35 : sm_ic 16 35 = some (.aload_n 2, 0, 0, 0) := rfl
theorem r_16_36 : sm_ic 16 36 = some (.invokevirtual 36, 29, 2, 290) := rfl
theorem r_16_39 : sm_ic 16 39 = some (.ifCond .ne 5, 44, 0, 0) := rfl
theorem r_16_42 : sm_ic 16 42 = some (.iload_n 3, 0, 0, 0) := rfl
theorem r_16_43 : sm_ic 16 43 = some (.ireturn, 0, 0, 0) := rfl
theorem r_16_44 : sm_ic 16 44 = some (.aload_n 2, 0, 0, 0) := rfl
theorem r_16_45 : sm_ic 16 45 = some (.invokevirtual 40, 37, 1, 320) := rfl
theorem r_16_48 : sm_ic 16 48 = some (.istore_n 3, 0, 0, 0) := rfl
theorem r_16_49 : sm_ic 16 49 = some (.iinc 4 1, 0, 0, 0) := rfl
theorem r_16_52 : sm_ic 16 52 = some (.goto (-43), 9, 0, 0) := rfl
theorem r_16_55 : sm_ic 16 55 = some (.bipush (-4), 0, 0, 0) := rfl
theorem r_16_57 : sm_ic 16 57 = some (.ireturn, 0, 0, 0) := rfl
theorem r_17_0 : sm_ic 17 0 = some (.iconst 0, 0, 0, 0) := rfl
theorem r_17_1 : sm_ic 17 1 = some (.istore_n 1, 0, 0, 0) := rfl
theorem r_17_2 : sm_ic 17 2 = some (.iload_n 1, 0, 0, 0) := rfl
theorem r_17_3 : sm_ic 17 3 = some (.bipush 8, 0, 0, 0) := rfl
theorem r_17_5 : sm_ic 17 5 = some (.if_icmp .ge 16, 21, 0, 0) := rfl
theorem r_17_8 : sm_ic 17 8 = some (.aload_n 0, 0, 0, 0) := rfl
theorem r_17_9 : sm_ic 17 9 = some (.iload_n 1, 0, 0, 0) := rfl
theorem r_17_10 : sm_ic 17 10 = some (.iconst 0, 0, 0, 0) := rfl
theorem r_17_11 : sm_ic 17 11 = some (.iconst 0, 0, 0, 0) := rfl
theorem r_17_12 : sm_ic 17 12 = some (.invokevirtual 64, 18, 4, 249) := rfl
theorem r_17_15 : sm_ic 17 15 = some (.iinc 1 1, 0, 0, 0) := rfl
theorem r_17_18 : sm_ic 17 18 = some (.goto (-16), 2, 0, 0) := rfl
theorem r_17_21 : sm_ic 17 21 = some (.iconst 0, 0, 0, 0) := rfl
theorem r_17_22 : sm_ic 17 22 = some (.istore_n 1, 0, 0, 0) := rfl
theorem r_17_23 : sm_ic 17 23 = some (.iload_n 1, 0, 0, 0) := rfl
theorem r_17_24 : sm_ic 17 24 = some (.iconst 5, 0, 0, 0) := rfl
theorem r_17_25 : sm_ic 17 25 = some (.if_icmp .ge 15, 40, 0, 0) := rfl
theorem r_17_28 : sm_ic 17 28 = some (.aload_n 0, 0, 0, 0) := rfl
theorem r_17_29 : sm_ic 17 29 = some (.iload_n 1, 0, 0, 0) := rfl
theorem r_17_30 : sm_ic 17 30 = some (.iconst 0, 0, 0, 0) := rfl
theorem r_17_31 : sm_ic 17 31 = some (.invokevirtual 71, 19, 3, 253) := rfl
theorem r_17_34 : sm_ic 17 34 = some (.iinc 1 1, 0, 0, 0) := rfl
theorem r_17_37 : sm_ic 17 37 = some (.goto (-14), 23, 0, 0) := rfl
theorem r_17_40 : sm_ic 17 40 = some (.aload_n 0, 0, 0, 0) := rfl
theorem r_17_41 : sm_ic 17 41 = some (.iconst 0, 0, 0, 0) := rfl
theorem r_17_42 : sm_ic 17 42 = some (.putfield 43, 1, 3, 101) := rfl
theorem r_17_45 : sm_ic 17 45 = some (.aload_n 0, 0, 0, 0) := rfl
theorem r_17_46 : sm_ic 17 46 = some (.iconst 0, 0, 0, 0) := rfl
theorem r_17_47 : sm_ic 17 47 = some (.putfield 75, 1, 4, 102) := rfl
theorem r_17_50 : sm_ic 17 50 = some (.aload_n 0, 0, 0, 0) := rfl
theorem r_17_51 : sm_ic 17 51 = some (.iconst 4, 0, 0, 0) := rfl
theorem r_17_52 : sm_ic 17 52 = some (.putfield 78, 1, 5, 103) := rfl
theorem r_17_55 : sm_ic 17 55 = some (.aload_n 0, 0, 0, 0) := rfl
theorem r_17_56 : sm_ic 17 56 = some (.iconst 0, 0, 0, 0) := rfl
theorem r_17_57 : sm_ic 17 57 = some (.putfield 81, 1, 6, 104) := rfl
theorem r_17_60 : sm_ic 17 60 = some (.aload_n 0, 0, 0, 0) := rfl
theorem r_17_61 : sm_ic 17 61 = some (.iconst 5, 0, 0, 0) := rfl
theorem r_17_62 : sm_ic 17 62 = some (.putfield 84, 1, 7, 105) := rfl
theorem r_17_65 : sm_ic 17 65 = some (.aload_n 0, 0, 0, 0) := rfl
theorem r_17_66 : sm_ic 17 66 = some (.iconst 3, 0, 0, 0) := rfl
theorem r_17_67 : sm_ic 17 67 = some (.putfield 87, 1, 8, 106) := rfl
theorem r_17_70 : sm_ic 17 70 = some (.aload_n 0, 0, 0, 0) := rfl
theorem r_17_71 : sm_ic 17 71 = some (.lconst 0, 0, 0, 0) := rfl
theorem r_17_72 : sm_ic 17 72 = some (.putfield 47, 1, 9, 107) := rfl
theorem r_17_75 : sm_ic 17 75 = some (.return_, 0, 0, 0) := rfl
theorem r_18_0 : sm_ic 18 0 = some (.iload_n 1, 0, 0, 0) := rfl
theorem r_18_1 : sm_ic 18 1 = some (.ifCond .lt 35, 36, 0, 0) := rfl
theorem r_18_4 : sm_ic 18 4 = some (.iload_n 1, 0, 0, 0) := rfl
theorem r_18_5 : sm_ic 18 5 = some (.aload_n 0, 0, 0, 0) := rfl
theorem r_18_6 : sm_ic 18 6 = some (.getfield 9, 1, 0, 98) := rfl
theorem r_18_9 : sm_ic 18 9 = some (.arraylength, 0, 0, 0) := rfl
theorem r_18_10 : sm_ic 18 10 = some (.if_icmp .ge 26, 36, 0, 0) := rfl
theorem r_18_13 : sm_ic 18 13 = some (.iload_n 1, 0, 0, 0) := rfl
theorem r_18_14 : sm_ic 18 14 = some (.aload_n 0, 0, 0, 0) := rfl
theorem r_18_15 : sm_ic 18 15 = some (.getfield 15, 1, 1, 99) := rfl
theorem r_18_18 : sm_ic 18 18 = some (.arraylength, 0, 0, 0) := rfl
theorem r_18_19 : sm_ic 18 19 = some (.if_icmp .ge 17, 36, 0, 0) := rfl
theorem r_18_22 : sm_ic 18 22 = some (.aload_n 0, 0, 0, 0) := rfl
theorem r_18_23 : sm_ic 18 23 = some (.getfield 9, 1, 0, 98) := rfl
theorem r_18_26 : sm_ic 18 26 = some (.iload_n 1, 0, 0, 0) := rfl
theorem r_18_27 : sm_ic 18 27 = some (.iload_n 2, 0, 0, 0) := rfl
theorem r_18_28 : sm_ic 18 28 = some (.iastore, 0, 0, 0) := rfl
theorem r_18_29 : sm_ic 18 29 = some (.aload_n 0, 0, 0, 0) := rfl
theorem r_18_30 : sm_ic 18 30 = some (.getfield 15, 1, 1, 99) := rfl
theorem r_18_33 : sm_ic 18 33 = some (.iload_n 1, 0, 0, 0) := rfl
theorem r_18_34 : sm_ic 18 34 = some (.iload_n 3, 0, 0, 0) := rfl
theorem r_18_35 : sm_ic 18 35 = some (.iastore, 0, 0, 0) := rfl
theorem r_18_36 : sm_ic 18 36 = some (.return_, 0, 0, 0) := rfl
theorem r_19_0 : sm_ic 19 0 = some (.iload_n 1, 0, 0, 0) := rfl
theorem r_19_1 : sm_ic 19 1 = some (.ifCond .lt 19, 20, 0, 0) := rfl
theorem r_19_4 : sm_ic 19 4 = some (.iload_n 1, 0, 0, 0) := rfl
theorem r_19_5 : sm_ic 19 5 = some (.aload_n 0, 0, 0, 0) := rfl
theorem r_19_6 : sm_ic 19 6 = some (.getfield 18, 1, 2, 100) := rfl
theorem r_19_9 : sm_ic 19 9 = some (.arraylength, 0, 0, 0) := rfl
theorem r_19_10 : sm_ic 19 10 = some (.if_icmp .ge 10, 20, 0, 0) := rfl
theorem r_19_13 : sm_ic 19 13 = some (.aload_n 0, 0, 0, 0) := rfl
theorem r_19_14 : sm_ic 19 14 = some (.getfield 18, 1, 2, 100) := rfl
theorem r_19_17 : sm_ic 19 17 = some (.iload_n 1, 0, 0, 0) := rfl
theorem r_19_18 : sm_ic 19 18 = some (.iload_n 2, 0, 0, 0) := rfl
theorem r_19_19 : sm_ic 19 19 = some (.iastore, 0, 0, 0) := rfl
theorem r_19_20 : sm_ic 19 20 = some (.return_, 0, 0, 0) := rfl
theorem r_20_0 : sm_ic 20 0 = some (.aload_n 0, 0, 0, 0) := rfl
theorem r_20_1 : sm_ic 20 1 = some (.getfield 15, 5, 1, 68) := rfl
theorem r_20_4 : sm_ic 20 4 = some (.ireturn, 0, 0, 0) := rfl
theorem r_21_0 : sm_ic 21 0 = some (.aload_n 0, 0, 0, 0) := rfl
theorem r_21_1 : sm_ic 21 1 = some (.aload_n 1, 0, 0, 0) := rfl
theorem r_21_2 : sm_ic 21 2 = some (.iload_n 2, 0, 0, 0) := rfl
theorem r_21_3 : sm_ic 21 3 = some (.invokevirtual 15, 22, 2, 265) := rfl
theorem r_21_6 : sm_ic 21 6 = some (.putfield 21, 2, 1, 82) := rfl
theorem r_21_9 : sm_ic 21 9 = some (.aload_n 0, 0, 0, 0) := rfl
theorem r_21_10 : sm_ic 21 10 = some (.getfield 21, 2, 1, 82) := rfl
theorem r_21_13 : sm_ic 21 13 = some (.invokestatic 25, 23, 1, 269) := rfl
theorem r_21_16 : sm_ic 21 16 = some (.istore_n 3, 0, 0, 0) := rfl
theorem r_21_17 : sm_ic 21 17 = some (.iload_n 2, 0, 0, 0) := rfl
theorem r_21_18 : sm_ic 21 18 = some (.iconst 1, 0, 0, 0) := rfl
theorem r_21_19 : sm_ic 21 19 = some (.iadd, 0, 0, 0) := rfl
theorem r_21_20 : sm_ic 21 20 = some (.istore 4, 0, 0, 0) := rfl
theorem r_21_22 : sm_ic 21 22 = some (.iconst 0, 0, 0, 0) := rfl
theorem r_21_23 : sm_ic 21 23 = some (.istore 5, 0, 0, 0) := rfl
theorem r_21_25 : sm_ic 21 25 = some (.iload 5, 0, 0, 0) := rfl
theorem r_21_27 : sm_ic 21 27 = some (.iload_n 3, 0, 0, 0) := rfl
theorem r_21_28 : sm_ic 21 28 = some (.if_icmp .ge 115, 143, 0, 0) := rfl
theorem r_21_31 : sm_ic 21 31 = some (.iload 5, 0, 0, 0) := rfl
theorem r_21_33 : sm_ic 21 33 = some (.aload_n 0, 0, 0, 0) := rfl
theorem r_21_34 : sm_ic 21 34 = some (.getfield 9, 2, 0, 81) := rfl
theorem r_21_37 : sm_ic 21 37 = some (.arraylength, 0, 0, 0) := rfl
theorem r_21_38 : sm_ic 21 38 = some (.if_icmp .ge 105, 143, 0, 0) := rfl
theorem r_21_41 : sm_ic 21 41 = some (.aload_n 1, 0, 0, 0) := rfl
theorem r_21_42 : sm_ic 21 42 = some (.iload 4, 0, 0, 0) := rfl
theorem r_21_44 : sm_ic 21 44 = some (.invokevirtual 28, 24, 2, 272) := rfl
theorem r_21_47 : sm_ic 21 47 = some (.istore 6, 0, 0, 0) := rfl
theorem r_21_49 : sm_ic 21 49 = some (.aload_n 1, 0, 0, 0) := rfl
theorem r_21_50 : sm_ic 21 50 = some (.iload 4, 0, 0, 0) := rfl
theorem r_21_52 : sm_ic 21 52 = some (.iload 6, 0, 0, 0) := rfl
theorem r_21_54 : sm_ic 21 54 = some (.invokevirtual 31, 26, 3, 280) := rfl
theorem r_21_57 : sm_ic 21 57 = some (.istore 7, 0, 0, 0) := rfl
theorem r_21_59 : sm_ic 21 59 = some (.iload 6, 0, 0, 0) := rfl
theorem r_21_61 : sm_ic 21 61 = some (.ifCond .eq 29, 90, 0, 0) := rfl
theorem r_21_64 : sm_ic 21 64 = some (.iload 7, 0, 0, 0) := rfl
theorem r_21_66 : sm_ic 21 66 = some (.aload_n 0, 0, 0, 0) := rfl
theorem r_21_67 : sm_ic 21 67 = some (.getfield 21, 2, 1, 82) := rfl
theorem r_21_70 : sm_ic 21 70 = some (.invokestatic 35, 27, 1, 284) := rfl
theorem r_21_73 : sm_ic 21 73 = some (.if_icmp .lt 17, 90, 0, 0) := rfl
theorem r_21_76 : sm_ic 21 76 = some (.iload 7, 0, 0, 0) := rfl
theorem r_21_78 : sm_ic 21 78 = some (.aload_n 0, 0, 0, 0) := rfl
theorem r_21_79 : sm_ic 21 79 = some (.getfield 21, 2, 1, 82) := rfl
theorem r_21_82 : sm_ic 21 82 = some (.iload 5, 0, 0, 0) := rfl
theorem r_21_84 : sm_ic 21 84 = some (.invokestatic 38, 28, 2, 287) := rfl
theorem r_21_87 : sm_ic 21 87 = some (.if_icmp .le 5, 92, 0, 0) := rfl
theorem r_21_90 : sm_ic 21 90 = some (.iconst 0, 0, 0, 0) := rfl
theorem r_21_91 : sm_ic 21 91 = some (.ireturn, 0, 0, 0) := rfl
theorem r_21_92 : sm_ic 21 92 = some (.iload 4, 0, 0, 0) := rfl
theorem r_21_94 : sm_ic 21 94 = some (.iload 6, 0, 0, 0) := rfl
theorem r_21_96 : sm_ic 21 96 = some (.iadd, 0, 0, 0) := rfl
theorem r_21_97 : sm_ic 21 97 = some (.istore 4, 0, 0, 0) := rfl
theorem r_21_99 : sm_ic 21 99 = some (.aload_n 1, 0, 0, 0) := rfl
theorem r_21_100 : sm_ic 21 100 = some (.iload 4, 0, 0, 0) := rfl
theorem r_21_102 : sm_ic 21 102 = some (.invokevirtual 15, 22, 2, 265) := rfl
theorem r_21_105 : sm_ic 21 105 = some (.iload 5, 0, 0, 0) := rfl
theorem r_21_107 : sm_ic 21 107 = some (.iconst 1, 0, 0, 0) := rfl
theorem r_21_108 : sm_ic 21 108 = some (.iadd, 0, 0, 0) := rfl
theorem r_21_109 : sm_ic 21 109 = some (.iload_n 3, 0, 0, 0) := rfl
theorem r_21_110 : sm_ic 21 110 = some (.if_icmp .ge 8, 118, 0, 0) := rfl
theorem r_21_113 : sm_ic 21 113 = some (.bipush 44, 0, 0, 0) := rfl
theorem r_21_115 : sm_ic 21 115 = some (.goto 5, 120, 0, 0) := rfl
theorem r_21_118 : sm_ic 21 118 = some (.bipush 59, 0, 0, 0) := rfl
theorem r_21_120 : sm_ic 21 120 = some (.if_icmp .eq 5, 125, 0, 0) := rfl
theorem r_21_123 : sm_ic 21 123 = some (.iconst 0, 0, 0, 0) := rfl
theorem r_21_124 : sm_ic 21 124 = some (.ireturn, 0, 0, 0) := rfl
theorem r_21_125 : sm_ic 21 125 = some (.iinc 4 1, 0, 0, 0) := rfl
theorem r_21_128 : sm_ic 21 128 = some (.aload_n 0, 0, 0, 0) := rfl
theorem r_21_129 : sm_ic 21 129 = some (.getfield 9, 2, 0, 81) := rfl
theorem r_21_132 : sm_ic 21 132 = some (.iload 5, 0, 0, 0) := rfl
theorem r_21_134 : sm_ic 21 134 = some (.iload 7, 0, 0, 0) := rfl
theorem r_21_136 : sm_ic 21 136 = some (.iastore, 0, 0, 0) := rfl
theorem r_21_137 : sm_ic 21 137 = some (.iinc 5 1, 0, 0, 0) := rfl
theorem r_21_140 : sm_ic 21 140 = some (.goto (-115), 25, 0, 0) := rfl
theorem r_21_143 : sm_ic 21 143 = some (.aload_n 0, 0, 0, 0) := rfl
theorem r_21_144 : sm_ic 21 144 = some (.iload 4, 0, 0, 0) := rfl
theorem r_21_146 : sm_ic 21 146 = some (.putfield 41, 2, 2, 83) := rfl
theorem r_21_149 : sm_ic 21 149 = some (.iload_n 3, 0, 0, 0) := rfl
theorem r_21_150 : sm_ic 21 150 = some (.ifCond .le 7, 157, 0, 0) := rfl
theorem r_21_153 : sm_ic 21 153 = some (.iconst 1, 0, 0, 0) := rfl
theorem r_21_154 : sm_ic 21 154 = some (.goto 4, 158, 0, 0) := rfl
theorem r_21_157 : sm_ic 21 157 = some (.iconst 0, 0, 0, 0) := rfl
theorem r_21_158 : sm_ic 21 158 = some (.ireturn, 0, 0, 0) := rfl
theorem r_22_0 : sm_ic 22 0 = some (.iload_n 1, 0, 0, 0) := rfl
theorem r_22_1 : sm_ic 22 1 = some (.ifCond .lt 29, 30, 0, 0) := rfl
theorem r_22_4 : sm_ic 22 4 = some (.iload_n 1, 0, 0, 0) := rfl
theorem r_22_5 : sm_ic 22 5 = some (.aload_n 0, 0, 0, 0) := rfl
theorem r_22_6 : sm_ic 22 6 = some (.getfield 15, 5, 1, 68) := rfl
theorem r_22_9 : sm_ic 22 9 = some (.if_icmp .ge 21, 30, 0, 0) := rfl
theorem r_22_12 : sm_ic 22 12 = some (.iload_n 1, 0, 0, 0) := rfl
theorem r_22_13 : sm_ic 22 13 = some (.aload_n 0, 0, 0, 0) := rfl
theorem r_22_14 : sm_ic 22 14 = some (.getfield 9, 5, 0, 67) := rfl
theorem r_22_17 : sm_ic 22 17 = some (.arraylength, 0, 0, 0) := rfl
theorem r_22_18 : sm_ic 22 18 = some (.if_icmp .ge 12, 30, 0, 0) := rfl
theorem r_22_21 : sm_ic 22 21 = some (.aload_n 0, 0, 0, 0) := rfl
theorem r_22_22 : sm_ic 22 22 = some (.getfield 9, 5, 0, 67) := rfl
theorem r_22_25 : sm_ic 22 25 = some (.iload_n 1, 0, 0, 0) := rfl
theorem r_22_26 : sm_ic 22 26 = some (.caload, 0, 0, 0) := rfl
theorem r_22_27 : sm_ic 22 27 = some (.goto 4, 31, 0, 0) := rfl
theorem r_22_30 : sm_ic 22 30 = some (.iconst 0, 0, 0, 0) := rfl
theorem r_22_31 : sm_ic 22 31 = some (.ireturn, 0, 0, 0) := rfl
theorem r_23_0 : sm_ic 23 0 = some (.iload_n 0, 0, 0, 0) := rfl
theorem r_23_1 : sm_ic 23 1 = some (.tableswitch 91 98 115 #[89, 91, 89, 91, 91, 91, 89, 87, 91, 91, 91, 89, 91, 91, 91, 91, 91, 89], 0, 0, 0) := rfl
theorem r_23_88 : sm_ic 23 88 = some (.iconst 4, 0, 0, 0) := rfl
theorem r_23_89 : sm_ic 23 89 = some (.ireturn, 0, 0, 0) := rfl
theorem r_23_90 : sm_ic 23 90 = some (.iconst 1, 0, 0, 0) := rfl
theorem r_23_91 : sm_ic 23 91 = some (.ireturn, 0, 0, 0) := rfl
theorem r_23_92 : sm_ic 23 92 = some (.iconst 0, 0, 0, 0) := rfl
theorem r_23_93 : sm_ic 23 93 = some (.ireturn, 0, 0, 0) := rfl
theorem r_24_0 : sm_ic 24 0 = some (.aload_n 0, 0, 0, 0) := rfl
theorem r_24_1 : sm_ic 24 1 = some (.iload_n 1, 0, 0, 0) := rfl
theorem r_24_2 : sm_ic 24 2 = some (.invokevirtual 19, 22, 2, 276) := rfl
theorem r_24_5 : sm_ic 24 5 = some (.invokestatic 23, 25, 1, 277) := rfl
theorem r_24_8 : sm_ic 24 8 = some (.ifCond .ne 5, 13, 0, 0) := rfl
theorem r_24_11 : sm_ic 24 11 = some (.iconst 0, 0, 0, 0) := rfl
theorem r_24_12 : sm_ic 24 12 = some (.ireturn, 0, 0, 0) := rfl
theorem r_24_13 : sm_ic 24 13 = some (.aload_n 0, 0, 0, 0) := rfl
theorem r_24_14 : sm_ic 24 14 = some (.iload_n 1, 0, 0, 0) := rfl
theorem r_24_15 : sm_ic 24 15 = some (.iconst 1, 0, 0, 0) := rfl
theorem r_24_16 : sm_ic 24 16 = some (.iadd, 0, 0, 0) := rfl
theorem r_24_17 : sm_ic 24 17 = some (.invokevirtual 19, 22, 2, 276) := rfl
theorem r_24_20 : sm_ic 24 20 = some (.invokestatic 23, 25, 1, 277) := rfl
theorem r_24_23 : sm_ic 24 23 = some (.ifCond .eq 7, 30, 0, 0) := rfl
theorem r_24_26 : sm_ic 24 26 = some (.iconst 2, 0, 0, 0) := rfl
theorem r_24_27 : sm_ic 24 27 = some (.goto 4, 31, 0, 0) := rfl
theorem r_24_30 : sm_ic 24 30 = some (.iconst 1, 0, 0, 0) := rfl
theorem r_24_31 : sm_ic 24 31 = some (.ireturn, 0, 0, 0) := rfl
theorem r_25_0 : sm_ic 25 0 = some (.iload_n 0, 0, 0, 0) := rfl
theorem r_25_1 : sm_ic 25 1 = some (.bipush 48, 0, 0, 0) := rfl
theorem r_25_3 : sm_ic 25 3 = some (.if_icmp .lt 13, 16, 0, 0) := rfl
theorem r_25_6 : sm_ic 25 6 = some (.iload_n 0, 0, 0, 0) := rfl
theorem r_25_7 : sm_ic 25 7 = some (.bipush 57, 0, 0, 0) := rfl
theorem r_25_9 : sm_ic 25 9 = some (.if_icmp .gt 7, 16, 0, 0) := rfl
theorem r_25_12 : sm_ic 25 12 = some (.iconst 1, 0, 0, 0) := rfl
theorem r_25_13 : sm_ic 25 13 = some (.goto 4, 17, 0, 0) := rfl
theorem r_25_16 : sm_ic 25 16 = some (.iconst 0, 0, 0, 0) := rfl
theorem r_25_17 : sm_ic 25 17 = some (.ireturn, 0, 0, 0) := rfl
theorem r_26_0 : sm_ic 26 0 = some (.aload_n 0, 0, 0, 0) := rfl
theorem r_26_1 : sm_ic 26 1 = some (.iload_n 1, 0, 0, 0) := rfl
theorem r_26_2 : sm_ic 26 2 = some (.invokevirtual 19, 22, 2, 276) := rfl
theorem r_26_5 : sm_ic 26 5 = some (.bipush 48, 0, 0, 0) := rfl
theorem r_26_7 : sm_ic 26 7 = some (.isub, 0, 0, 0) := rfl
theorem r_26_8 : sm_ic 26 8 = some (.istore_n 3, 0, 0, 0) := rfl
theorem r_26_9 : sm_ic 26 9 = some (.iload_n 2, 0, 0, 0) := rfl
theorem r_26_10 : sm_ic 26 10 = some (.iconst 2, 0, 0, 0) := rfl
theorem r_26_11 : sm_ic 26 11 = some (.if_icmp .ne 21, 32, 0, 0) := rfl
theorem r_26_14 : sm_ic 26 14 = some (.bipush 10, 0, 0, 0) := rfl
theorem r_26_16 : sm_ic 26 16 = some (.iload_n 3, 0, 0, 0) := rfl
theorem r_26_17 : sm_ic 26 17 = some (.imul, 0, 0, 0) := rfl
theorem r_26_18 : sm_ic 26 18 = some (.aload_n 0, 0, 0, 0) := rfl
theorem r_26_19 : sm_ic 26 19 = some (.iload_n 1, 0, 0, 0) := rfl
theorem r_26_20 : sm_ic 26 20 = some (.iconst 1, 0, 0, 0) := rfl
theorem r_26_21 : sm_ic 26 21 = some (.iadd, 0, 0, 0) := rfl
theorem r_26_22 : sm_ic 26 22 = some (.invokevirtual 19, 22, 2, 276) := rfl
theorem r_26_25 : sm_ic 26 25 = some (.iadd, 0, 0, 0) := rfl
theorem r_26_26 : sm_ic 26 26 = some (.bipush 48, 0, 0, 0) := rfl
theorem r_26_28 : sm_ic 26 28 = some (.isub, 0, 0, 0) := rfl
theorem r_26_29 : sm_ic 26 29 = some (.goto 4, 33, 0, 0) := rfl
theorem r_26_32 : sm_ic 26 32 = some (.iload_n 3, 0, 0, 0) := rfl
theorem r_26_33 : sm_ic 26 33 = some (.ireturn, 0, 0, 0) := rfl
theorem r_27_0 : sm_ic 27 0 = some (.iload_n 0, 0, 0, 0) := rfl
theorem r_27_1 : sm_ic 27 1 = some (.bipush 98, 0, 0, 0) := rfl
theorem r_27_3 : sm_ic 27 3 = some (.if_icmp .eq 9, 12, 0, 0) := rfl
theorem r_27_6 : sm_ic 27 6 = some (.iload_n 0, 0, 0, 0) := rfl
theorem r_27_7 : sm_ic 27 7 = some (.bipush 104, 0, 0, 0) := rfl
theorem r_27_9 : sm_ic 27 9 = some (.if_icmp .ne 7, 16, 0, 0) := rfl
theorem r_27_12 : sm_ic 27 12 = some (.iconst 1, 0, 0, 0) := rfl
theorem r_27_13 : sm_ic 27 13 = some (.goto 4, 17, 0, 0) := rfl
theorem r_27_16 : sm_ic 27 16 = some (.iconst 0, 0, 0, 0) := rfl
theorem r_27_17 : sm_ic 27 17 = some (.ireturn, 0, 0, 0) := rfl
theorem r_28_0 : sm_ic 28 0 = some (.iload_n 0, 0, 0, 0) := rfl
theorem r_28_1 : sm_ic 28 1 = some (.tableswitch 97 98 109 #[85, 97, 88, 97, 97, 97, 94, 63, 97, 97, 97, 91], 0, 0, 0) := rfl
theorem r_28_64 : sm_ic 28 64 = some (.iload_n 1, 0, 0, 0) := rfl
theorem r_28_65 : sm_ic 28 65 = some (.iconst 2, 0, 0, 0) := rfl
theorem r_28_66 : sm_ic 28 66 = some (.if_icmp .ge 7, 73, 0, 0) := rfl
theorem r_28_69 : sm_ic 28 69 = some (.iconst 3, 0, 0, 0) := rfl
theorem r_28_70 : sm_ic 28 70 = some (.goto 15, 85, 0, 0) := rfl
theorem r_28_73 : sm_ic 28 73 = some (.iload_n 1, 0, 0, 0) := rfl
theorem r_28_74 : sm_ic 28 74 = some (.iconst 2, 0, 0, 0) := rfl
theorem r_28_75 : sm_ic 28 75 = some (.if_icmp .ne 8, 83, 0, 0) := rfl
theorem r_28_78 : sm_ic 28 78 = some (.bipush 7, 0, 0, 0) := rfl
theorem r_28_80 : sm_ic 28 80 = some (.goto 5, 85, 0, 0) := rfl
theorem r_28_83 : sm_ic 28 83 = some (.bipush 9, 0, 0, 0) := rfl
theorem r_28_85 : sm_ic 28 85 = some (.ireturn, 0, 0, 0) := rfl
theorem r_28_86 : sm_ic 28 86 = some (.bipush 8, 0, 0, 0) := rfl
theorem r_28_88 : sm_ic 28 88 = some (.ireturn, 0, 0, 0) := rfl
theorem r_28_89 : sm_ic 28 89 = some (.bipush 9, 0, 0, 0) := rfl
theorem r_28_91 : sm_ic 28 91 = some (.ireturn, 0, 0, 0) := rfl
theorem r_28_92 : sm_ic 28 92 = some (.bipush 40, 0, 0, 0) := rfl
theorem r_28_94 : sm_ic 28 94 = some (.ireturn, 0, 0, 0) := rfl
theorem r_28_95 : sm_ic 28 95 = some (.bipush 9, 0, 0, 0) := rfl
theorem r_28_97 : sm_ic 28 97 = some (.ireturn, 0, 0, 0) := rfl
theorem r_28_98 : sm_ic 28 98 = some (.bipush 10, 0, 0, 0) := rfl
theorem r_28_100 : sm_ic 28 100 = some (.ireturn, 0, 0, 0) := rfl
theorem r_29_0 : sm_ic 29 0 = some (.aload_n 1, 0, 0, 0) := rfl
theorem r_29_1 : sm_ic 29 1 = some (.iconst 0, 0, 0, 0) := rfl
theorem r_29_2 : sm_ic 29 2 = some (.invokevirtual 101, 30, 2, 294) := rfl
theorem r_29_5 : sm_ic 29 5 = some (.istore_n 2, 0, 0, 0) := rfl
theorem r_29_6 : sm_ic 29 6 = some (.aload_n 1, 0, 0, 0) := rfl
theorem r_29_7 : sm_ic 29 7 = some (.invokevirtual 104, 31, 1, 298) := rfl
theorem r_29_10 : sm_ic 29 10 = some (.tableswitch 126 98 115 #[92, 126, 98, 126, 126, 126, 112, 86, 126, 126, 126, 105, 126, 126, 126, 126, 126, 119], 0, 0, 0) := rfl
theorem r_29_96 : sm_ic 29 96 = some (.aload_n 0, 0, 0, 0) := rfl
theorem r_29_97 : sm_ic 29 97 = some (.aload_n 1, 0, 0, 0) := rfl
theorem r_29_98 : sm_ic 29 98 = some (.invokevirtual 107, 32, 2, 302) := rfl
theorem r_29_101 : sm_ic 29 101 = some (.ireturn, 0, 0, 0) := rfl
theorem r_29_102 : sm_ic 29 102 = some (.aload_n 0, 0, 0, 0) := rfl
theorem r_29_103 : sm_ic 29 103 = some (.iload_n 2, 0, 0, 0) := rfl
theorem r_29_104 : sm_ic 29 104 = some (.invokevirtual 110, 36, 2, 316) := rfl
theorem r_29_107 : sm_ic 29 107 = some (.ireturn, 0, 0, 0) := rfl
theorem r_29_108 : sm_ic 29 108 = some (.aload_n 0, 0, 0, 0) := rfl
theorem r_29_109 : sm_ic 29 109 = some (.iload_n 2, 0, 0, 0) := rfl
theorem r_29_110 : sm_ic 29 110 = some (.putfield 78, 1, 5, 103) := rfl
theorem r_29_113 : sm_ic 29 113 = some (.iconst 1, 0, 0, 0) := rfl
theorem r_29_114 : sm_ic 29 114 = some (.ireturn, 0, 0, 0) := rfl
theorem r_29_115 : sm_ic 29 115 = some (.aload_n 0, 0, 0, 0) := rfl
theorem r_29_116 : sm_ic 29 116 = some (.iload_n 2, 0, 0, 0) := rfl
theorem r_29_117 : sm_ic 29 117 = some (.putfield 81, 1, 6, 104) := rfl
theorem r_29_120 : sm_ic 29 120 = some (.iconst 1, 0, 0, 0) := rfl
theorem r_29_121 : sm_ic 29 121 = some (.ireturn, 0, 0, 0) := rfl
theorem r_29_122 : sm_ic 29 122 = some (.aload_n 0, 0, 0, 0) := rfl
theorem r_29_123 : sm_ic 29 123 = some (.iload_n 2, 0, 0, 0) := rfl
theorem r_29_124 : sm_ic 29 124 = some (.putfield 84, 1, 7, 105) := rfl
theorem r_29_127 : sm_ic 29 127 = some (.iconst 1, 0, 0, 0) := rfl
theorem r_29_128 : sm_ic 29 128 = some (.ireturn, 0, 0, 0) := rfl
theorem r_29_129 : sm_ic 29 129 = some (.aload_n 0, 0, 0, 0) := rfl
theorem r_29_130 : sm_ic 29 130 = some (.iload_n 2, 0, 0, 0) := rfl
theorem r_29_131 : sm_ic 29 131 = some (.putfield 87, 1, 8, 106) := rfl
theorem r_29_134 : sm_ic 29 134 = some (.iconst 1, 0, 0, 0) := rfl
theorem r_29_135 : sm_ic 29 135 = some (.ireturn, 0, 0, 0) := rfl
theorem r_29_136 : sm_ic 29 136 = some (.iconst 0, 0, 0, 0) := rfl
theorem r_29_137 : sm_ic 29 137 = some (.ireturn, 0, 0, 0) := rfl
theorem r_30_0 : sm_ic 30 0 = some (.iload_n 1, 0, 0, 0) := rfl
theorem r_30_1 : sm_ic 30 1 = some (.ifCond .lt 21, 22, 0, 0) := rfl
theorem r_30_4 : sm_ic 30 4 = some (.iload_n 1, 0, 0, 0) := rfl
theorem r_30_5 : sm_ic 30 5 = some (.aload_n 0, 0, 0, 0) := rfl
theorem r_30_6 : sm_ic 30 6 = some (.getfield 9, 2, 0, 81) := rfl
theorem r_30_9 : sm_ic 30 9 = some (.arraylength, 0, 0, 0) := rfl
theorem r_30_10 : sm_ic 30 10 = some (.if_icmp .ge 12, 22, 0, 0) := rfl
theorem r_30_13 : sm_ic 30 13 = some (.aload_n 0, 0, 0, 0) := rfl
theorem r_30_14 : sm_ic 30 14 = some (.getfield 9, 2, 0, 81) := rfl
theorem r_30_17 : sm_ic 30 17 = some (.iload_n 1, 0, 0, 0) := rfl
theorem r_30_18 : sm_ic 30 18 = some (.iaload, 0, 0, 0) := rfl
theorem r_30_19 : sm_ic 30 19 = some (.goto 4, 23, 0, 0) := rfl
theorem r_30_22 : sm_ic 30 22 = some (.iconst 0, 0, 0, 0) := rfl
theorem r_30_23 : sm_ic 30 23 = some (.ireturn, 0, 0, 0) := rfl
theorem r_31_0 : sm_ic 31 0 = some (.aload_n 0, 0, 0, 0) := rfl
theorem r_31_1 : sm_ic 31 1 = some (.getfield 21, 2, 1, 82) := rfl
theorem r_31_4 : sm_ic 31 4 = some (.ireturn, 0, 0, 0) := rfl
theorem r_32_0 : sm_ic 32 0 = some (.aload_n 0, 0, 0, 0) := rfl
theorem r_32_1 : sm_ic 32 1 = some (.getfield 43, 1, 3, 101) := rfl
theorem r_32_4 : sm_ic 32 4 = some (.bipush 8, 0, 0, 0) := rfl
theorem r_32_6 : sm_ic 32 6 = some (.if_icmp .lt 5, 11, 0, 0) := rfl
theorem r_32_9 : sm_ic 32 9 = some (.iconst 0, 0, 0, 0) := rfl
theorem r_32_10 : sm_ic 32 10 = some (.ireturn, 0, 0, 0) := rfl
theorem r_32_11 : sm_ic 32 11 = some (.aload_n 0, 0, 0, 0) := rfl
theorem r_32_12 : sm_ic 32 12 = some (.aload_n 0, 0, 0, 0) := rfl
theorem r_32_13 : sm_ic 32 13 = some (.getfield 43, 1, 3, 101) := rfl
theorem r_32_16 : sm_ic 32 16 = some (.aload_n 1, 0, 0, 0) := rfl
theorem r_32_17 : sm_ic 32 17 = some (.iconst 0, 0, 0, 0) := rfl
theorem r_32_18 : sm_ic 32 18 = some (.invokevirtual 101, 30, 2, 294) := rfl
theorem r_32_21 : sm_ic 32 21 = some (.aload_n 1, 0, 0, 0) := rfl
theorem r_32_22 : sm_ic 32 22 = some (.iconst 3, 0, 0, 0) := rfl
theorem r_32_23 : sm_ic 32 23 = some (.invokevirtual 101, 30, 2, 294) := rfl
theorem r_32_26 : sm_ic 32 26 = some (.invokevirtual 64, 18, 4, 249) := rfl
theorem r_32_29 : sm_ic 32 29 = some (.aload_n 0, 0, 0, 0) := rfl
theorem r_32_30 : sm_ic 32 30 = some (.aload_n 0, 0, 0, 0) := rfl
theorem r_32_31 : sm_ic 32 31 = some (.getfield 47, 1, 9, 107) := rfl
theorem r_32_34 : sm_ic 32 34 = some (.aload_n 0, 0, 0, 0) := rfl
theorem r_32_35 : sm_ic 32 35 = some (.getfield 43, 1, 3, 101) := rfl
theorem r_32_38 : sm_ic 32 38 = some (.aload_n 1, 0, 0, 0) := rfl
theorem r_32_39 : sm_ic 32 39 = some (.iconst 1, 0, 0, 0) := rfl
theorem r_32_40 : sm_ic 32 40 = some (.invokevirtual 101, 30, 2, 294) := rfl
theorem r_32_43 : sm_ic 32 43 = some (.invokestatic 114, 33, 3, 306) := rfl
theorem r_32_46 : sm_ic 32 46 = some (.putfield 47, 1, 9, 107) := rfl
theorem r_32_49 : sm_ic 32 49 = some (.aload_n 0, 0, 0, 0) := rfl
theorem r_32_50 : sm_ic 32 50 = some (.aload_n 0, 0, 0, 0) := rfl
theorem r_32_51 : sm_ic 32 51 = some (.getfield 47, 1, 9, 107) := rfl
theorem r_32_54 : sm_ic 32 54 = some (.aload_n 0, 0, 0, 0) := rfl
theorem r_32_55 : sm_ic 32 55 = some (.getfield 43, 1, 3, 101) := rfl
theorem r_32_58 : sm_ic 32 58 = some (.aload_n 1, 0, 0, 0) := rfl
theorem r_32_59 : sm_ic 32 59 = some (.iconst 2, 0, 0, 0) := rfl
theorem r_32_60 : sm_ic 32 60 = some (.invokevirtual 101, 30, 2, 294) := rfl
theorem r_32_63 : sm_ic 32 63 = some (.invokestatic 118, 35, 3, 313) := rfl
theorem r_32_66 : sm_ic 32 66 = some (.putfield 47, 1, 9, 107) := rfl
theorem r_32_69 : sm_ic 32 69 = some (.aload_n 0, 0, 0, 0) := rfl
theorem r_32_70 : sm_ic 32 70 = some (.dup, 0, 0, 0) := rfl
theorem r_32_71 : sm_ic 32 71 = some (.getfield 43, 1, 3, 101) := rfl
theorem r_32_74 : sm_ic 32 74 = some (.iconst 1, 0, 0, 0) := rfl
theorem r_32_75 : sm_ic 32 75 = some (.iadd, 0, 0, 0) := rfl
theorem r_32_76 : sm_ic 32 76 = some (.putfield 43, 1, 3, 101) := rfl
theorem r_32_79 : sm_ic 32 79 = some (.iconst 1, 0, 0, 0) := rfl
theorem r_32_80 : sm_ic 32 80 = some (.ireturn, 0, 0, 0) := rfl
theorem r_33_0 : sm_ic 33 0 = some (.lload_n 0, 0, 0, 0) := rfl
theorem r_33_1 : sm_ic 33 1 = some (.iload_n 2, 0, 0, 0) := rfl
theorem r_33_2 : sm_ic 33 2 = some (.iconst 1, 0, 0, 0) := rfl
theorem r_33_3 : sm_ic 33 3 = some (.iload_n 3, 0, 0, 0) := rfl
theorem r_33_4 : sm_ic 33 4 = some (.iconst 1, 0, 0, 0) := rfl
theorem r_33_5 : sm_ic 33 5 = some (.iand, 0, 0, 0) := rfl
theorem r_33_6 : sm_ic 33 6 = some (.invokestatic 15, 34, 4, 309) := rfl
theorem r_33_9 : sm_ic 33 9 = some (.lstore 4, 0, 0, 0) := rfl
theorem r_33_11 : sm_ic 33 11 = some (.lload 4, 0, 0, 0) := rfl
theorem r_33_13 : sm_ic 33 13 = some (.bipush 8, 0, 0, 0) := rfl
theorem r_33_15 : sm_ic 33 15 = some (.iload_n 2, 0, 0, 0) := rfl
theorem r_33_16 : sm_ic 33 16 = some (.iadd, 0, 0, 0) := rfl
theorem r_33_17 : sm_ic 33 17 = some (.iconst 1, 0, 0, 0) := rfl
theorem r_33_18 : sm_ic 33 18 = some (.iload_n 3, 0, 0, 0) := rfl
theorem r_33_19 : sm_ic 33 19 = some (.iconst 1, 0, 0, 0) := rfl
theorem r_33_20 : sm_ic 33 20 = some (.iushr, 0, 0, 0) := rfl
theorem r_33_21 : sm_ic 33 21 = some (.invokestatic 15, 34, 4, 309) := rfl
theorem r_33_24 : sm_ic 33 24 = some (.lreturn, 0, 0, 0) := rfl
theorem r_34_0 : sm_ic 34 0 = some (.lconst 1, 0, 0, 0) := rfl
theorem r_34_1 : sm_ic 34 1 = some (.iload_n 3, 0, 0, 0) := rfl
theorem r_34_2 : sm_ic 34 2 = some (.lshl, 0, 0, 0) := rfl
theorem r_34_3 : sm_ic 34 3 = some (.lconst 1, 0, 0, 0) := rfl
theorem r_34_4 : sm_ic 34 4 = some (.lsub, 0, 0, 0) := rfl
theorem r_34_5 : sm_ic 34 5 = some (.lstore 5, 0, 0, 0) := rfl
theorem r_34_7 : sm_ic 34 7 = some (.lload_n 0, 0, 0, 0) := rfl
theorem r_34_8 : sm_ic 34 8 = some (.lload 5, 0, 0, 0) := rfl
theorem r_34_10 : sm_ic 34 10 = some (.iload_n 2, 0, 0, 0) := rfl
theorem r_34_11 : sm_ic 34 11 = some (.lshl, 0, 0, 0) := rfl
theorem r_34_12 : sm_ic 34 12 = some (.ldc2_w 23, 1, 1, 312) := rfl
theorem r_34_15 : sm_ic 34 15 = some (.lxor, 0, 0, 0) := rfl
theorem r_34_16 : sm_ic 34 16 = some (.land, 0, 0, 0) := rfl
theorem r_34_17 : sm_ic 34 17 = some (.iload 4, 0, 0, 0) := rfl
theorem r_34_19 : sm_ic 34 19 = some (.i2l, 0, 0, 0) := rfl
theorem r_34_20 : sm_ic 34 20 = some (.lload 5, 0, 0, 0) := rfl
theorem r_34_22 : sm_ic 34 22 = some (.land, 0, 0, 0) := rfl
theorem r_34_23 : sm_ic 34 23 = some (.iload_n 2, 0, 0, 0) := rfl
theorem r_34_24 : sm_ic 34 24 = some (.lshl, 0, 0, 0) := rfl
theorem r_34_25 : sm_ic 34 25 = some (.lor, 0, 0, 0) := rfl
theorem r_34_26 : sm_ic 34 26 = some (.lreturn, 0, 0, 0) := rfl
theorem r_35_0 : sm_ic 35 0 = some (.lload_n 0, 0, 0, 0) := rfl
theorem r_35_1 : sm_ic 35 1 = some (.bipush 16, 0, 0, 0) := rfl
theorem r_35_3 : sm_ic 35 3 = some (.iconst 3, 0, 0, 0) := rfl
theorem r_35_4 : sm_ic 35 4 = some (.iload_n 2, 0, 0, 0) := rfl
theorem r_35_5 : sm_ic 35 5 = some (.imul, 0, 0, 0) := rfl
theorem r_35_6 : sm_ic 35 6 = some (.iadd, 0, 0, 0) := rfl
theorem r_35_7 : sm_ic 35 7 = some (.iconst 3, 0, 0, 0) := rfl
theorem r_35_8 : sm_ic 35 8 = some (.iload_n 3, 0, 0, 0) := rfl
theorem r_35_9 : sm_ic 35 9 = some (.invokestatic 15, 34, 4, 309) := rfl
theorem r_35_12 : sm_ic 35 12 = some (.lreturn, 0, 0, 0) := rfl
theorem r_36_0 : sm_ic 36 0 = some (.aload_n 0, 0, 0, 0) := rfl
theorem r_36_1 : sm_ic 36 1 = some (.getfield 75, 1, 4, 102) := rfl
theorem r_36_4 : sm_ic 36 4 = some (.iconst 5, 0, 0, 0) := rfl
theorem r_36_5 : sm_ic 36 5 = some (.if_icmp .lt 5, 10, 0, 0) := rfl
theorem r_36_8 : sm_ic 36 8 = some (.iconst 0, 0, 0, 0) := rfl
theorem r_36_9 : sm_ic 36 9 = some (.ireturn, 0, 0, 0) := rfl
theorem r_36_10 : sm_ic 36 10 = some (.aload_n 0, 0, 0, 0) := rfl
theorem r_36_11 : sm_ic 36 11 = some (.aload_n 0, 0, 0, 0) := rfl
theorem r_36_12 : sm_ic 36 12 = some (.getfield 75, 1, 4, 102) := rfl
theorem r_36_15 : sm_ic 36 15 = some (.iload_n 1, 0, 0, 0) := rfl
theorem r_36_16 : sm_ic 36 16 = some (.invokevirtual 71, 19, 3, 253) := rfl
theorem r_36_19 : sm_ic 36 19 = some (.aload_n 0, 0, 0, 0) := rfl
theorem r_36_20 : sm_ic 36 20 = some (.dup, 0, 0, 0) := rfl
theorem r_36_21 : sm_ic 36 21 = some (.getfield 75, 1, 4, 102) := rfl
theorem r_36_24 : sm_ic 36 24 = some (.iconst 1, 0, 0, 0) := rfl
theorem r_36_25 : sm_ic 36 25 = some (.iadd, 0, 0, 0) := rfl
theorem r_36_26 : sm_ic 36 26 = some (.putfield 75, 1, 4, 102) := rfl
theorem r_36_29 : sm_ic 36 29 = some (.iconst 1, 0, 0, 0) := rfl
theorem r_36_30 : sm_ic 36 30 = some (.ireturn, 0, 0, 0) := rfl
theorem r_37_0 : sm_ic 37 0 = some (.aload_n 0, 0, 0, 0) := rfl
theorem r_37_1 : sm_ic 37 1 = some (.getfield 41, 2, 2, 83) := rfl
theorem r_37_4 : sm_ic 37 4 = some (.ireturn, 0, 0, 0) := rfl
theorem r_38_0 : sm_ic 38 0 = some (.iconst 0, 0, 0, 0) := rfl
theorem r_38_1 : sm_ic 38 1 = some (.istore_n 2, 0, 0, 0) := rfl
theorem r_38_2 : sm_ic 38 2 = some (.iload_n 2, 0, 0, 0) := rfl
theorem r_38_3 : sm_ic 38 3 = some (.bipush 8, 0, 0, 0) := rfl
theorem r_38_5 : sm_ic 38 5 = some (.if_icmp .ge 26, 31, 0, 0) := rfl
theorem r_38_8 : sm_ic 38 8 = some (.aload_n 0, 0, 0, 0) := rfl
theorem r_38_9 : sm_ic 38 9 = some (.iload_n 2, 0, 0, 0) := rfl
theorem r_38_10 : sm_ic 38 10 = some (.aload_n 1, 0, 0, 0) := rfl
theorem r_38_11 : sm_ic 38 11 = some (.iload_n 2, 0, 0, 0) := rfl
theorem r_38_12 : sm_ic 38 12 = some (.invokevirtual 57, 39, 2, 328) := rfl
theorem r_38_15 : sm_ic 38 15 = some (.aload_n 1, 0, 0, 0) := rfl
theorem r_38_16 : sm_ic 38 16 = some (.iconst 1, 0, 0, 0) := rfl
theorem r_38_17 : sm_ic 38 17 = some (.iload_n 2, 0, 0, 0) := rfl
theorem r_38_18 : sm_ic 38 18 = some (.ishl, 0, 0, 0) := rfl
theorem r_38_19 : sm_ic 38 19 = some (.invokevirtual 61, 40, 2, 332) := rfl
theorem r_38_22 : sm_ic 38 22 = some (.invokevirtual 64, 18, 4, 249) := rfl
theorem r_38_25 : sm_ic 38 25 = some (.iinc 2 1, 0, 0, 0) := rfl
theorem r_38_28 : sm_ic 38 28 = some (.goto (-26), 2, 0, 0) := rfl
theorem r_38_31 : sm_ic 38 31 = some (.iconst 0, 0, 0, 0) := rfl
theorem r_38_32 : sm_ic 38 32 = some (.istore_n 2, 0, 0, 0) := rfl
theorem r_38_33 : sm_ic 38 33 = some (.iload_n 2, 0, 0, 0) := rfl
theorem r_38_34 : sm_ic 38 34 = some (.iconst 5, 0, 0, 0) := rfl
theorem r_38_35 : sm_ic 38 35 = some (.if_icmp .ge 21, 56, 0, 0) := rfl
theorem r_38_38 : sm_ic 38 38 = some (.aload_n 0, 0, 0, 0) := rfl
theorem r_38_39 : sm_ic 38 39 = some (.iload_n 2, 0, 0, 0) := rfl
theorem r_38_40 : sm_ic 38 40 = some (.aload_n 1, 0, 0, 0) := rfl
theorem r_38_41 : sm_ic 38 41 = some (.iconst 1, 0, 0, 0) := rfl
theorem r_38_42 : sm_ic 38 42 = some (.iload_n 2, 0, 0, 0) := rfl
theorem r_38_43 : sm_ic 38 43 = some (.ishl, 0, 0, 0) := rfl
theorem r_38_44 : sm_ic 38 44 = some (.invokevirtual 68, 41, 2, 336) := rfl
theorem r_38_47 : sm_ic 38 47 = some (.invokevirtual 71, 19, 3, 253) := rfl
theorem r_38_50 : sm_ic 38 50 = some (.iinc 2 1, 0, 0, 0) := rfl
theorem r_38_53 : sm_ic 38 53 = some (.goto (-20), 33, 0, 0) := rfl
theorem r_38_56 : sm_ic 38 56 = some (.aload_n 0, 0, 0, 0) := rfl
theorem r_38_57 : sm_ic 38 57 = some (.aload_n 1, 0, 0, 0) := rfl
theorem r_38_58 : sm_ic 38 58 = some (.getfield 43, 1, 3, 101) := rfl
theorem r_38_61 : sm_ic 38 61 = some (.putfield 43, 1, 3, 101) := rfl
theorem r_38_64 : sm_ic 38 64 = some (.aload_n 0, 0, 0, 0) := rfl
theorem r_38_65 : sm_ic 38 65 = some (.aload_n 1, 0, 0, 0) := rfl
theorem r_38_66 : sm_ic 38 66 = some (.getfield 75, 1, 4, 102) := rfl
theorem r_38_69 : sm_ic 38 69 = some (.putfield 75, 1, 4, 102) := rfl
theorem r_38_72 : sm_ic 38 72 = some (.aload_n 0, 0, 0, 0) := rfl
theorem r_38_73 : sm_ic 38 73 = some (.aload_n 1, 0, 0, 0) := rfl
theorem r_38_74 : sm_ic 38 74 = some (.getfield 78, 1, 5, 103) := rfl
theorem r_38_77 : sm_ic 38 77 = some (.putfield 78, 1, 5, 103) := rfl
theorem r_38_80 : sm_ic 38 80 = some (.aload_n 0, 0, 0, 0) := rfl
theorem r_38_81 : sm_ic 38 81 = some (.aload_n 1, 0, 0, 0) := rfl
theorem r_38_82 : sm_ic 38 82 = some (.getfield 81, 1, 6, 104) := rfl
theorem r_38_85 : sm_ic 38 85 = some (.putfield 81, 1, 6, 104) := rfl
theorem r_38_88 : sm_ic 38 88 = some (.aload_n 0, 0, 0, 0) := rfl
theorem r_38_89 : sm_ic 38 89 = some (.aload_n 1, 0, 0, 0) := rfl
theorem r_38_90 : sm_ic 38 90 = some (.getfield 84, 1, 7, 105) := rfl
theorem r_38_93 : sm_ic 38 93 = some (.putfield 84, 1, 7, 105) := rfl
theorem r_38_96 : sm_ic 38 96 = some (.aload_n 0, 0, 0, 0) := rfl
theorem r_38_97 : sm_ic 38 97 = some (.aload_n 1, 0, 0, 0) := rfl
theorem r_38_98 : sm_ic 38 98 = some (.getfield 87, 1, 8, 106) := rfl
theorem r_38_101 : sm_ic 38 101 = some (.putfield 87, 1, 8, 106) := rfl
theorem r_38_104 : sm_ic 38 104 = some (.aload_n 0, 0, 0, 0) := rfl
theorem r_38_105 : sm_ic 38 105 = some (.aload_n 1, 0, 0, 0) := rfl
theorem r_38_106 : sm_ic 38 106 = some (.getfield 47, 1, 9, 107) := rfl
theorem r_38_109 : sm_ic 38 109 = some (.putfield 47, 1, 9, 107) := rfl
theorem r_38_112 : sm_ic 38 112 = some (.return_, 0, 0, 0) := rfl
theorem r_39_0 : sm_ic 39 0 = some (.iload_n 1, 0, 0, 0) := rfl
theorem r_39_1 : sm_ic 39 1 = some (.ifCond .lt 21, 22, 0, 0) := rfl
theorem r_39_4 : sm_ic 39 4 = some (.iload_n 1, 0, 0, 0) := rfl
theorem r_39_5 : sm_ic 39 5 = some (.aload_n 0, 0, 0, 0) := rfl
theorem r_39_6 : sm_ic 39 6 = some (.getfield 9, 1, 0, 98) := rfl
theorem r_39_9 : sm_ic 39 9 = some (.arraylength, 0, 0, 0) := rfl
theorem r_39_10 : sm_ic 39 10 = some (.if_icmp .ge 12, 22, 0, 0) := rfl
theorem r_39_13 : sm_ic 39 13 = some (.aload_n 0, 0, 0, 0) := rfl
theorem r_39_14 : sm_ic 39 14 = some (.getfield 9, 1, 0, 98) := rfl
theorem r_39_17 : sm_ic 39 17 = some (.iload_n 1, 0, 0, 0) := rfl
theorem r_39_18 : sm_ic 39 18 = some (.iaload, 0, 0, 0) := rfl
theorem r_39_19 : sm_ic 39 19 = some (.goto 4, 23, 0, 0) := rfl
theorem r_39_22 : sm_ic 39 22 = some (.iconst 0, 0, 0, 0) := rfl
theorem r_39_23 : sm_ic 39 23 = some (.ireturn, 0, 0, 0) := rfl
theorem r_40_0 : sm_ic 40 0 = some (.iconst 0, 0, 0, 0) := rfl
theorem r_40_1 : sm_ic 40 1 = some (.istore_n 2, 0, 0, 0) := rfl
theorem r_40_2 : sm_ic 40 2 = some (.iconst 0, 0, 0, 0) := rfl
theorem r_40_3 : sm_ic 40 3 = some (.istore_n 3, 0, 0, 0) := rfl
theorem r_40_4 : sm_ic 40 4 = some (.iload_n 3, 0, 0, 0) := rfl
theorem r_40_5 : sm_ic 40 5 = some (.aload_n 0, 0, 0, 0) := rfl
theorem r_40_6 : sm_ic 40 6 = some (.getfield 15, 1, 1, 99) := rfl
theorem r_40_9 : sm_ic 40 9 = some (.arraylength, 0, 0, 0) := rfl
theorem r_40_10 : sm_ic 40 10 = some (.if_icmp .ge 27, 37, 0, 0) := rfl
theorem r_40_13 : sm_ic 40 13 = some (.iload_n 1, 0, 0, 0) := rfl
theorem r_40_14 : sm_ic 40 14 = some (.iload_n 3, 0, 0, 0) := rfl
theorem r_40_15 : sm_ic 40 15 = some (.iushr, 0, 0, 0) := rfl
theorem r_40_16 : sm_ic 40 16 = some (.iconst 1, 0, 0, 0) := rfl
theorem r_40_17 : sm_ic 40 17 = some (.iand, 0, 0, 0) := rfl
theorem r_40_18 : sm_ic 40 18 = some (.iconst 1, 0, 0, 0) := rfl
theorem r_40_19 : sm_ic 40 19 = some (.if_icmp .ne 12, 31, 0, 0) := rfl
theorem r_40_22 : sm_ic 40 22 = some (.iload_n 2, 0, 0, 0) := rfl
theorem r_40_23 : sm_ic 40 23 = some (.aload_n 0, 0, 0, 0) := rfl
theorem r_40_24 : sm_ic 40 24 = some (.getfield 15, 1, 1, 99) := rfl
theorem r_40_27 : sm_ic 40 27 = some (.iload_n 3, 0, 0, 0) := rfl
theorem r_40_28 : sm_ic 40 28 = some (.iaload, 0, 0, 0) := rfl
theorem r_40_29 : sm_ic 40 29 = some (.iadd, 0, 0, 0) := rfl
theorem r_40_30 : sm_ic 40 30 = some (.istore_n 2, 0, 0, 0) := rfl
theorem r_40_31 : sm_ic 40 31 = some (.iinc 3 1, 0, 0, 0) := rfl
theorem r_40_34 : sm_ic 40 34 = some (.goto (-30), 4, 0, 0) := rfl
theorem r_40_37 : sm_ic 40 37 = some (.iload_n 2, 0, 0, 0) := rfl
theorem r_40_38 : sm_ic 40 38 = some (.ireturn, 0, 0, 0) := rfl
theorem r_41_0 : sm_ic 41 0 = some (.iconst 0, 0, 0, 0) := rfl
theorem r_41_1 : sm_ic 41 1 = some (.istore_n 2, 0, 0, 0) := rfl
theorem r_41_2 : sm_ic 41 2 = some (.iconst 0, 0, 0, 0) := rfl
theorem r_41_3 : sm_ic 41 3 = some (.istore_n 3, 0, 0, 0) := rfl
theorem r_41_4 : sm_ic 41 4 = some (.iload_n 3, 0, 0, 0) := rfl
theorem r_41_5 : sm_ic 41 5 = some (.aload_n 0, 0, 0, 0) := rfl
theorem r_41_6 : sm_ic 41 6 = some (.getfield 18, 1, 2, 100) := rfl
theorem r_41_9 : sm_ic 41 9 = some (.arraylength, 0, 0, 0) := rfl
theorem r_41_10 : sm_ic 41 10 = some (.if_icmp .ge 27, 37, 0, 0) := rfl
theorem r_41_13 : sm_ic 41 13 = some (.iload_n 1, 0, 0, 0) := rfl
theorem r_41_14 : sm_ic 41 14 = some (.iload_n 3, 0, 0, 0) := rfl
theorem r_41_15 : sm_ic 41 15 = some (.iushr, 0, 0, 0) := rfl
theorem r_41_16 : sm_ic 41 16 = some (.iconst 1, 0, 0, 0) := rfl
theorem r_41_17 : sm_ic 41 17 = some (.iand, 0, 0, 0) := rfl
theorem r_41_18 : sm_ic 41 18 = some (.iconst 1, 0, 0, 0) := rfl
theorem r_41_19 : sm_ic 41 19 = some (.if_icmp .ne 12, 31, 0, 0) := rfl
theorem r_41_22 : sm_ic 41 22 = some (.iload_n 2, 0, 0, 0) := rfl
theorem r_41_23 : sm_ic 41 23 = some (.aload_n 0, 0, 0, 0) := rfl
theorem r_41_24 : sm_ic 41 24 = some (.getfield 18, 1, 2, 100) := rfl
theorem r_41_27 : sm_ic 41 27 = some (.iload_n 3, 0, 0, 0) := rfl
theorem r_41_28 : sm_ic 41 28 = some (.iaload, 0, 0, 0) := rfl
theorem r_41_29 : sm_ic 41 29 = some (.iadd, 0, 0, 0) := rfl
theorem r_41_30 : sm_ic 41 30 = some (.istore_n 2, 0, 0, 0) := rfl
theorem r_41_31 : sm_ic 41 31 = some (.iinc 3 1, 0, 0, 0) := rfl
theorem r_41_34 : sm_ic 41 34 = some (.goto (-30), 4, 0, 0) := rfl
theorem r_41_37 : sm_ic 41 37 = some (.iload_n 2, 0, 0, 0) := rfl
theorem r_41_38 : sm_ic 41 38 = some (.ireturn, 0, 0, 0) := rfl
theorem r_42_0 : sm_ic 42 0 = some (.aload_n 0, 0, 0, 0) := rfl
theorem r_42_1 : sm_ic 42 1 = some (.getfield 47, 1, 9, 107) := rfl
theorem r_42_4 : sm_ic 42 4 = some (.lreturn, 0, 0, 0) := rfl
theorem r_43_0 : sm_ic 43 0 = some (.aload_n 0, 0, 0, 0) := rfl
theorem r_43_1 : sm_ic 43 1 = some (.iconst 0, 0, 0, 0) := rfl
theorem r_43_2 : sm_ic 43 2 = some (.putfield 15, 5, 1, 68) := rfl
theorem r_43_5 : sm_ic 43 5 = some (.return_, 0, 0, 0) := rfl
theorem r_44_0 : sm_ic 44 0 = some (.iload_n 1, 0, 0, 0) := rfl
theorem r_44_1 : sm_ic 44 1 = some (.bipush 32, 0, 0, 0) := rfl
theorem r_44_3 : sm_ic 44 3 = some (.if_icmp .lt 9, 12, 0, 0) := rfl
theorem r_44_6 : sm_ic 44 6 = some (.iload_n 1, 0, 0, 0) := rfl
theorem r_44_7 : sm_ic 44 7 = some (.bipush 126, 0, 0, 0) := rfl
theorem r_44_9 : sm_ic 44 9 = some (.if_icmp .le 5, 14, 0, 0) := rfl
theorem r_44_12 : sm_ic 44 12 = some (.iconst (-1), 0, 0, 0) := rfl
theorem r_44_13 : sm_ic 44 13 = some (.ireturn, 0, 0, 0) := rfl
theorem r_44_14 : sm_ic 44 14 = some (.aload_n 0, 0, 0, 0) := rfl
theorem r_44_15 : sm_ic 44 15 = some (.getfield 10, 0, 0, 348) := rfl
theorem r_44_18 : sm_ic 44 18 = some (.iload_n 1, 0, 0, 0) := rfl
theorem r_44_19 : sm_ic 44 19 = some (.invokevirtual 62, 15, 2, 237) := rfl
theorem r_44_22 : sm_ic 44 22 = some (.ifCond .eq 13, 35, 0, 0) := rfl
theorem r_44_25 : sm_ic 44 25 = some (.aload_n 0, 0, 0, 0) := rfl
theorem r_44_26 : sm_ic 44 26 = some (.getfield 10, 0, 0, 348) := rfl
theorem r_44_29 : sm_ic 44 29 = some (.invokevirtual 66, 20, 1, 381) := rfl
theorem r_44_32 : sm_ic 44 32 = some (.goto 5, 37, 0, 0) := rfl
theorem r_44_35 : sm_ic 44 35 = some (.bipush (-3), 0, 0, 0) := rfl
theorem r_44_37 : sm_ic 44 37 = some (.ireturn, 0, 0, 0) := rfl
theorem r_45_0 : sm_ic 45 0 = some (.aload_n 0, 0, 0, 0) := rfl
theorem r_45_1 : sm_ic 45 1 = some (.getfield 10, 0, 0, 348) := rfl
theorem r_45_4 : sm_ic 45 4 = some (.invokevirtual 66, 20, 1, 381) := rfl
theorem r_45_7 : sm_ic 45 7 = some (.istore_n 1, 0, 0, 0) := rfl
theorem r_45_8 : sm_ic 45 8 = some (.aload_n 0, 0, 0, 0) := rfl
theorem r_45_9 : sm_ic 45 9 = some (.getfield 10, 0, 0, 348) := rfl
theorem r_45_12 : sm_ic 45 12 = some (.invokevirtual 70, 43, 1, 344) := rfl
theorem r_45_15 : sm_ic 45 15 = some (.iload_n 1, 0, 0, 0) := rfl
theorem r_45_16 : sm_ic 45 16 = some (.ireturn, 0, 0, 0) := rfl
theorem r_46_0 : sm_ic 46 0 = some (.aload_n 0, 0, 0, 0) := rfl
theorem r_46_1 : sm_ic 46 1 = some (.getfield 26, 0, 2, 350) := rfl
theorem r_46_4 : sm_ic 46 4 = some (.aload_n 0, 0, 0, 0) := rfl
theorem r_46_5 : sm_ic 46 5 = some (.getfield 10, 0, 0, 348) := rfl
theorem r_46_8 : sm_ic 46 8 = some (.aload_n 0, 0, 0, 0) := rfl
theorem r_46_9 : sm_ic 46 9 = some (.getfield 19, 0, 1, 349) := rfl
theorem r_46_12 : sm_ic 46 12 = some (.invokevirtual 73, 16, 3, 241) := rfl
theorem r_46_15 : sm_ic 46 15 = some (.ireturn, 0, 0, 0) := rfl
theorem r_47_0 : sm_ic 47 0 = some (.aload_n 0, 0, 0, 0) := rfl
theorem r_47_1 : sm_ic 47 1 = some (.getfield 26, 0, 2, 350) := rfl
theorem r_47_4 : sm_ic 47 4 = some (.aload_n 0, 0, 0, 0) := rfl
theorem r_47_5 : sm_ic 47 5 = some (.getfield 10, 0, 0, 348) := rfl
theorem r_47_8 : sm_ic 47 8 = some (.aload_n 0, 0, 0, 0) := rfl
theorem r_47_9 : sm_ic 47 9 = some (.getfield 19, 0, 1, 349) := rfl
theorem r_47_12 : sm_ic 47 12 = some (.invokevirtual 73, 16, 3, 241) := rfl
theorem r_47_15 : sm_ic 47 15 = some (.bipush (-4), 0, 0, 0) := rfl
theorem r_47_17 : sm_ic 47 17 = some (.if_icmp .ne 13, 30, 0, 0) := rfl
theorem r_47_20 : sm_ic 47 20 = some (.aload_n 0, 0, 0, 0) := rfl
theorem r_47_21 : sm_ic 47 21 = some (.getfield 26, 0, 2, 350) := rfl
theorem r_47_24 : sm_ic 47 24 = some (.invokevirtual 77, 48, 1, 394) := rfl
theorem r_47_27 : sm_ic 47 27 = some (.ifCond .ne 6, 33, 0, 0) := rfl
theorem r_47_30 : sm_ic 47 30 = some (.bipush (-2), 0, 0, 0) := rfl
theorem r_47_32 : sm_ic 47 32 = some (.ireturn, 0, 0, 0) := rfl
theorem r_47_33 : sm_ic 47 33 = some (.aload_n 0, 0, 0, 0) := rfl
theorem r_47_34 : sm_ic 47 34 = some (.getfield 30, 0, 3, 351) := rfl
theorem r_47_37 : sm_ic 47 37 = some (.aload_n 0, 0, 0, 0) := rfl
theorem r_47_38 : sm_ic 47 38 = some (.getfield 26, 0, 2, 350) := rfl
theorem r_47_41 : sm_ic 47 41 = some (.invokevirtual 81, 38, 2, 324) := rfl
theorem r_47_44 : sm_ic 47 44 = some (.aload_n 0, 0, 0, 0) := rfl
theorem r_47_45 : sm_ic 47 45 = some (.aload_n 0, 0, 0, 0) := rfl
theorem r_47_46 : sm_ic 47 46 = some (.getfield 30, 0, 3, 351) := rfl
theorem r_47_49 : sm_ic 47 49 = some (.invokevirtual 85, 42, 1, 340) := rfl
theorem r_47_52 : sm_ic 47 52 = some (.putfield 89, 0, 8, 356) := rfl
theorem r_47_55 : sm_ic 47 55 = some (.aload_n 0, 0, 0, 0) := rfl
theorem r_47_56 : sm_ic 47 56 = some (.getfield 45, 0, 5, 353) := rfl
theorem r_47_59 : sm_ic 47 59 = some (.invokevirtual 93, 51, 1, 404) := rfl
theorem r_47_62 : sm_ic 47 62 = some (.aload_n 0, 0, 0, 0) := rfl
theorem r_47_63 : sm_ic 47 63 = some (.getfield 49, 0, 6, 354) := rfl
theorem r_47_66 : sm_ic 47 66 = some (.invokevirtual 93, 51, 1, 404) := rfl
theorem r_47_69 : sm_ic 47 69 = some (.aload_n 0, 0, 0, 0) := rfl
theorem r_47_70 : sm_ic 47 70 = some (.getfield 55, 0, 7, 355) := rfl
theorem r_47_73 : sm_ic 47 73 = some (.invokevirtual 94, 52, 1, 408) := rfl
theorem r_47_76 : sm_ic 47 76 = some (.aload_n 0, 0, 0, 0) := rfl
theorem r_47_77 : sm_ic 47 77 = some (.getfield 30, 0, 3, 351) := rfl
theorem r_47_80 : sm_ic 47 80 = some (.invokevirtual 95, 53, 1, 412) := rfl
theorem r_47_83 : sm_ic 47 83 = some (.ireturn, 0, 0, 0) := rfl
theorem r_48_0 : sm_ic 48 0 = some (.iconst 0, 0, 0, 0) := rfl
theorem r_48_1 : sm_ic 48 1 = some (.istore_n 1, 0, 0, 0) := rfl
theorem r_48_2 : sm_ic 48 2 = some (.iload_n 1, 0, 0, 0) := rfl
theorem r_48_3 : sm_ic 48 3 = some (.aload_n 0, 0, 0, 0) := rfl
theorem r_48_4 : sm_ic 48 4 = some (.getfield 43, 1, 3, 101) := rfl
theorem r_48_7 : sm_ic 48 7 = some (.if_icmp .ge 26, 33, 0, 0) := rfl
theorem r_48_10 : sm_ic 48 10 = some (.aload_n 0, 0, 0, 0) := rfl
theorem r_48_11 : sm_ic 48 11 = some (.getfield 47, 1, 9, 107) := rfl
theorem r_48_14 : sm_ic 48 14 = some (.iload_n 1, 0, 0, 0) := rfl
theorem r_48_15 : sm_ic 48 15 = some (.invokestatic 51, 49, 2, 398) := rfl
theorem r_48_18 : sm_ic 48 18 = some (.aload_n 0, 0, 0, 0) := rfl
theorem r_48_19 : sm_ic 48 19 = some (.getfield 43, 1, 3, 101) := rfl
theorem r_48_22 : sm_ic 48 22 = some (.if_icmp .lt 5, 27, 0, 0) := rfl
theorem r_48_25 : sm_ic 48 25 = some (.iconst 0, 0, 0, 0) := rfl
theorem r_48_26 : sm_ic 48 26 = some (.ireturn, 0, 0, 0) := rfl
theorem r_48_27 : sm_ic 48 27 = some (.iinc 1 1, 0, 0, 0) := rfl
theorem r_48_30 : sm_ic 48 30 = some (.goto (-28), 2, 0, 0) := rfl
theorem r_48_33 : sm_ic 48 33 = some (.aload_n 0, 0, 0, 0) := rfl
theorem r_48_34 : sm_ic 48 34 = some (.getfield 43, 1, 3, 101) := rfl
theorem r_48_37 : sm_ic 48 37 = some (.ifCond .le 7, 44, 0, 0) := rfl
theorem r_48_40 : sm_ic 48 40 = some (.iconst 1, 0, 0, 0) := rfl
theorem r_48_41 : sm_ic 48 41 = some (.goto 4, 45, 0, 0) := rfl
theorem r_48_44 : sm_ic 48 44 = some (.iconst 0, 0, 0, 0) := rfl
theorem r_48_45 : sm_ic 48 45 = some (.ireturn, 0, 0, 0) := rfl
theorem r_49_0 : sm_ic 49 0 = some (.lload_n 0, 0, 0, 0) := rfl
theorem r_49_1 : sm_ic 49 1 = some (.bipush 16, 0, 0, 0) := rfl
theorem r_49_3 : sm_ic 49 3 = some (.iconst 3, 0, 0, 0) := rfl
theorem r_49_4 : sm_ic 49 4 = some (.iload_n 2, 0, 0, 0) := rfl
theorem r_49_5 : sm_ic 49 5 = some (.imul, 0, 0, 0) := rfl
theorem r_49_6 : sm_ic 49 6 = some (.iadd, 0, 0, 0) := rfl
theorem r_49_7 : sm_ic 49 7 = some (.iconst 3, 0, 0, 0) := rfl
theorem r_49_8 : sm_ic 49 8 = some (.invokestatic 9, 50, 3, 401) := rfl
theorem r_49_11 : sm_ic 49 11 = some (.ireturn, 0, 0, 0) := rfl
theorem r_50_0 : sm_ic 50 0 = some (.lload_n 0, 0, 0, 0) := rfl
theorem r_50_1 : sm_ic 50 1 = some (.iload_n 2, 0, 0, 0) := rfl
theorem r_50_2 : sm_ic 50 2 = some (.lushr, 0, 0, 0) := rfl
theorem r_50_3 : sm_ic 50 3 = some (.l2i, 0, 0, 0) := rfl
theorem r_50_4 : sm_ic 50 4 = some (.iconst 1, 0, 0, 0) := rfl
theorem r_50_5 : sm_ic 50 5 = some (.iload_n 3, 0, 0, 0) := rfl
theorem r_50_6 : sm_ic 50 6 = some (.ishl, 0, 0, 0) := rfl
theorem r_50_7 : sm_ic 50 7 = some (.iconst 1, 0, 0, 0) := rfl
theorem r_50_8 : sm_ic 50 8 = some (.isub, 0, 0, 0) := rfl
theorem r_50_9 : sm_ic 50 9 = some (.iand, 0, 0, 0) := rfl
theorem r_50_10 : sm_ic 50 10 = some (.ireturn, 0, 0, 0) := rfl
theorem r_51_0 : sm_ic 51 0 = some (.aload_n 0, 0, 0, 0) := rfl
theorem r_51_1 : sm_ic 51 1 = some (.iconst 0, 0, 0, 0) := rfl
theorem r_51_2 : sm_ic 51 2 = some (.putfield 19, 4, 1, 161) := rfl
theorem r_51_5 : sm_ic 51 5 = some (.return_, 0, 0, 0) := rfl
theorem r_52_0 : sm_ic 52 0 = some (.aload_n 0, 0, 0, 0) := rfl
theorem r_52_1 : sm_ic 52 1 = some (.iconst 0, 0, 0, 0) := rfl
theorem r_52_2 : sm_ic 52 2 = some (.putfield 18, 6, 2, 176) := rfl
theorem r_52_5 : sm_ic 52 5 = some (.return_, 0, 0, 0) := rfl
theorem r_53_0 : sm_ic 53 0 = some (.aload_n 0, 0, 0, 0) := rfl
theorem r_53_1 : sm_ic 53 1 = some (.getfield 43, 1, 3, 101) := rfl
theorem r_53_4 : sm_ic 53 4 = some (.ireturn, 0, 0, 0) := rfl
theorem r_54_0 : sm_ic 54 0 = some (.aload_n 0, 0, 0, 0) := rfl
theorem r_54_1 : sm_ic 54 1 = some (.iload_n 1, 0, 0, 0) := rfl
theorem r_54_2 : sm_ic 54 2 = some (.invokevirtual 98, 55, 2, 420) := rfl
theorem r_54_5 : sm_ic 54 5 = some (.ifCond .ne 5, 10, 0, 0) := rfl
theorem r_54_8 : sm_ic 54 8 = some (.iconst (-1), 0, 0, 0) := rfl
theorem r_54_9 : sm_ic 54 9 = some (.ireturn, 0, 0, 0) := rfl
theorem r_54_10 : sm_ic 54 10 = some (.iload_n 2, 0, 0, 0) := rfl
theorem r_54_11 : sm_ic 54 11 = some (.tableswitch 67 0 3 #[29, 38, 47, 56], 0, 0, 0) := rfl
theorem r_54_40 : sm_ic 54 40 = some (.aload_n 0, 0, 0, 0) := rfl
theorem r_54_41 : sm_ic 54 41 = some (.getfield 30, 0, 3, 351) := rfl
theorem r_54_44 : sm_ic 54 44 = some (.iload_n 1, 0, 0, 0) := rfl
theorem r_54_45 : sm_ic 54 45 = some (.invokevirtual 101, 39, 2, 424) := rfl
theorem r_54_48 : sm_ic 54 48 = some (.ireturn, 0, 0, 0) := rfl
theorem r_54_49 : sm_ic 54 49 = some (.aload_n 0, 0, 0, 0) := rfl
theorem r_54_50 : sm_ic 54 50 = some (.getfield 89, 0, 8, 356) := rfl
theorem r_54_53 : sm_ic 54 53 = some (.iload_n 1, 0, 0, 0) := rfl
theorem r_54_54 : sm_ic 54 54 = some (.invokestatic 105, 56, 2, 425) := rfl
theorem r_54_57 : sm_ic 54 57 = some (.ireturn, 0, 0, 0) := rfl
theorem r_54_58 : sm_ic 54 58 = some (.aload_n 0, 0, 0, 0) := rfl
theorem r_54_59 : sm_ic 54 59 = some (.getfield 89, 0, 8, 356) := rfl
theorem r_54_62 : sm_ic 54 62 = some (.iload_n 1, 0, 0, 0) := rfl
theorem r_54_63 : sm_ic 54 63 = some (.invokestatic 111, 49, 2, 428) := rfl
theorem r_54_66 : sm_ic 54 66 = some (.ireturn, 0, 0, 0) := rfl
theorem r_54_67 : sm_ic 54 67 = some (.aload_n 0, 0, 0, 0) := rfl
theorem r_54_68 : sm_ic 54 68 = some (.getfield 30, 0, 3, 351) := rfl
theorem r_54_71 : sm_ic 54 71 = some (.iconst 1, 0, 0, 0) := rfl
theorem r_54_72 : sm_ic 54 72 = some (.iload_n 1, 0, 0, 0) := rfl
theorem r_54_73 : sm_ic 54 73 = some (.ishl, 0, 0, 0) := rfl
theorem r_54_74 : sm_ic 54 74 = some (.invokevirtual 114, 40, 2, 429) := rfl
theorem r_54_77 : sm_ic 54 77 = some (.ireturn, 0, 0, 0) := rfl
theorem r_54_78 : sm_ic 54 78 = some (.iconst (-1), 0, 0, 0) := rfl
theorem r_54_79 : sm_ic 54 79 = some (.ireturn, 0, 0, 0) := rfl
theorem r_55_0 : sm_ic 55 0 = some (.iload_n 1, 0, 0, 0) := rfl
theorem r_55_1 : sm_ic 55 1 = some (.ifCond .lt 18, 19, 0, 0) := rfl
theorem r_55_4 : sm_ic 55 4 = some (.iload_n 1, 0, 0, 0) := rfl
theorem r_55_5 : sm_ic 55 5 = some (.aload_n 0, 0, 0, 0) := rfl
theorem r_55_6 : sm_ic 55 6 = some (.getfield 30, 0, 3, 351) := rfl
theorem r_55_9 : sm_ic 55 9 = some (.invokevirtual 95, 53, 1, 412) := rfl
theorem r_55_12 : sm_ic 55 12 = some (.if_icmp .ge 7, 19, 0, 0) := rfl
theorem r_55_15 : sm_ic 55 15 = some (.iconst 1, 0, 0, 0) := rfl
theorem r_55_16 : sm_ic 55 16 = some (.goto 4, 20, 0, 0) := rfl
theorem r_55_19 : sm_ic 55 19 = some (.iconst 0, 0, 0, 0) := rfl
theorem r_55_20 : sm_ic 55 20 = some (.ireturn, 0, 0, 0) := rfl
theorem r_56_0 : sm_ic 56 0 = some (.lload_n 0, 0, 0, 0) := rfl
theorem r_56_1 : sm_ic 56 1 = some (.iload_n 2, 0, 0, 0) := rfl
theorem r_56_2 : sm_ic 56 2 = some (.iconst 1, 0, 0, 0) := rfl
theorem r_56_3 : sm_ic 56 3 = some (.invokestatic 9, 50, 3, 401) := rfl
theorem r_56_6 : sm_ic 56 6 = some (.iconst 2, 0, 0, 0) := rfl
theorem r_56_7 : sm_ic 56 7 = some (.lload_n 0, 0, 0, 0) := rfl
theorem r_56_8 : sm_ic 56 8 = some (.bipush 8, 0, 0, 0) := rfl
theorem r_56_10 : sm_ic 56 10 = some (.iload_n 2, 0, 0, 0) := rfl
theorem r_56_11 : sm_ic 56 11 = some (.iadd, 0, 0, 0) := rfl
theorem r_56_12 : sm_ic 56 12 = some (.iconst 1, 0, 0, 0) := rfl
theorem r_56_13 : sm_ic 56 13 = some (.invokestatic 9, 50, 3, 401) := rfl
theorem r_56_16 : sm_ic 56 16 = some (.imul, 0, 0, 0) := rfl
theorem r_56_17 : sm_ic 56 17 = some (.iadd, 0, 0, 0) := rfl
theorem r_56_18 : sm_ic 56 18 = some (.ireturn, 0, 0, 0) := rfl
theorem r_57_0 : sm_ic 57 0 = some (.aload_n 0, 0, 0, 0) := rfl
theorem r_57_1 : sm_ic 57 1 = some (.iload_n 1, 0, 0, 0) := rfl
theorem r_57_2 : sm_ic 57 2 = some (.invokevirtual 117, 58, 2, 434) := rfl
theorem r_57_5 : sm_ic 57 5 = some (.ifCond .ne 5, 10, 0, 0) := rfl
theorem r_57_8 : sm_ic 57 8 = some (.iconst (-1), 0, 0, 0) := rfl
theorem r_57_9 : sm_ic 57 9 = some (.ireturn, 0, 0, 0) := rfl
theorem r_57_10 : sm_ic 57 10 = some (.iload_n 2, 0, 0, 0) := rfl
theorem r_57_11 : sm_ic 57 11 = some (.lookupswitch 48 #[(0, 25), (1, 36)], 0, 0, 0) := rfl
theorem r_57_36 : sm_ic 57 36 = some (.aload_n 0, 0, 0, 0) := rfl
theorem r_57_37 : sm_ic 57 37 = some (.getfield 30, 0, 3, 351) := rfl
theorem r_57_40 : sm_ic 57 40 = some (.iconst 1, 0, 0, 0) := rfl
theorem r_57_41 : sm_ic 57 41 = some (.iload_n 1, 0, 0, 0) := rfl
theorem r_57_42 : sm_ic 57 42 = some (.ishl, 0, 0, 0) := rfl
theorem r_57_43 : sm_ic 57 43 = some (.invokevirtual 120, 41, 2, 442) := rfl
theorem r_57_46 : sm_ic 57 46 = some (.ireturn, 0, 0, 0) := rfl
theorem r_57_47 : sm_ic 57 47 = some (.aload_n 0, 0, 0, 0) := rfl
theorem r_57_48 : sm_ic 57 48 = some (.getfield 89, 0, 8, 356) := rfl
theorem r_57_51 : sm_ic 57 51 = some (.invokestatic 123, 60, 1, 443) := rfl
theorem r_57_54 : sm_ic 57 54 = some (.iload_n 1, 0, 0, 0) := rfl
theorem r_57_55 : sm_ic 57 55 = some (.iushr, 0, 0, 0) := rfl
theorem r_57_56 : sm_ic 57 56 = some (.iconst 1, 0, 0, 0) := rfl
theorem r_57_57 : sm_ic 57 57 = some (.iand, 0, 0, 0) := rfl
theorem r_57_58 : sm_ic 57 58 = some (.ireturn, 0, 0, 0) := rfl
theorem r_57_59 : sm_ic 57 59 = some (.iconst (-1), 0, 0, 0) := rfl
theorem r_57_60 : sm_ic 57 60 = some (.ireturn, 0, 0, 0) := rfl
theorem r_58_0 : sm_ic 58 0 = some (.iload_n 1, 0, 0, 0) := rfl
theorem r_58_1 : sm_ic 58 1 = some (.ifCond .lt 18, 19, 0, 0) := rfl
theorem r_58_4 : sm_ic 58 4 = some (.iload_n 1, 0, 0, 0) := rfl
theorem r_58_5 : sm_ic 58 5 = some (.aload_n 0, 0, 0, 0) := rfl
theorem r_58_6 : sm_ic 58 6 = some (.getfield 30, 0, 3, 351) := rfl
theorem r_58_9 : sm_ic 58 9 = some (.invokevirtual 224, 59, 1, 438) := rfl
theorem r_58_12 : sm_ic 58 12 = some (.if_icmp .ge 7, 19, 0, 0) := rfl
theorem r_58_15 : sm_ic 58 15 = some (.iconst 1, 0, 0, 0) := rfl
theorem r_58_16 : sm_ic 58 16 = some (.goto 4, 20, 0, 0) := rfl
theorem r_58_19 : sm_ic 58 19 = some (.iconst 0, 0, 0, 0) := rfl
theorem r_58_20 : sm_ic 58 20 = some (.ireturn, 0, 0, 0) := rfl
theorem r_59_0 : sm_ic 59 0 = some (.aload_n 0, 0, 0, 0) := rfl
theorem r_59_1 : sm_ic 59 1 = some (.getfield 75, 1, 4, 102) := rfl
theorem r_59_4 : sm_ic 59 4 = some (.ireturn, 0, 0, 0) := rfl
theorem r_60_0 : sm_ic 60 0 = some (.lload_n 0, 0, 0, 0) := rfl
theorem r_60_1 : sm_ic 60 1 = some (.bipush 40, 0, 0, 0) := rfl
theorem r_60_3 : sm_ic 60 3 = some (.iconst 5, 0, 0, 0) := rfl
theorem r_60_4 : sm_ic 60 4 = some (.invokestatic 9, 50, 3, 401) := rfl
theorem r_60_7 : sm_ic 60 7 = some (.ireturn, 0, 0, 0) := rfl
theorem r_61_0 : sm_ic 61 0 = some (.iload_n 1, 0, 0, 0) := rfl
theorem r_61_1 : sm_ic 61 1 = some (.invokestatic 127, 62, 1, 450) := rfl
theorem r_61_4 : sm_ic 61 4 = some (.ifCond .ne 5, 9, 0, 0) := rfl
theorem r_61_7 : sm_ic 61 7 = some (.iconst (-1), 0, 0, 0) := rfl
theorem r_61_8 : sm_ic 61 8 = some (.ireturn, 0, 0, 0) := rfl
theorem r_61_9 : sm_ic 61 9 = some (.aload_n 0, 0, 0, 0) := rfl
theorem r_61_10 : sm_ic 61 10 = some (.getfield 36, 0, 4, 352) := rfl
theorem r_61_13 : sm_ic 61 13 = some (.aload_n 0, 0, 0, 0) := rfl
theorem r_61_14 : sm_ic 61 14 = some (.getfield 30, 0, 3, 351) := rfl
theorem r_61_17 : sm_ic 61 17 = some (.aload_n 0, 0, 0, 0) := rfl
theorem r_61_18 : sm_ic 61 18 = some (.getfield 89, 0, 8, 356) := rfl
theorem r_61_21 : sm_ic 61 21 = some (.invokevirtual 130, 63, 3, 453) := rfl
theorem r_61_24 : sm_ic 61 24 = some (.aload_n 0, 0, 0, 0) := rfl
theorem r_61_25 : sm_ic 61 25 = some (.getfield 36, 0, 4, 352) := rfl
theorem r_61_28 : sm_ic 61 28 = some (.aload_n 0, 0, 0, 0) := rfl
theorem r_61_29 : sm_ic 61 29 = some (.getfield 89, 0, 8, 356) := rfl
theorem r_61_32 : sm_ic 61 32 = some (.iload_n 1, 0, 0, 0) := rfl
theorem r_61_33 : sm_ic 61 33 = some (.invokestatic 134, 70, 2, 481) := rfl
theorem r_61_36 : sm_ic 61 36 = some (.iconst 0, 0, 0, 0) := rfl
theorem r_61_37 : sm_ic 61 37 = some (.invokevirtual 137, 71, 3, 484) := rfl
theorem r_61_40 : sm_ic 61 40 = some (.ireturn, 0, 0, 0) := rfl
theorem r_62_0 : sm_ic 62 0 = some (.iload_n 0, 0, 0, 0) := rfl
theorem r_62_1 : sm_ic 62 1 = some (.ifCond .lt 12, 13, 0, 0) := rfl
theorem r_62_4 : sm_ic 62 4 = some (.iload_n 0, 0, 0, 0) := rfl
theorem r_62_5 : sm_ic 62 5 = some (.iconst 2, 0, 0, 0) := rfl
theorem r_62_6 : sm_ic 62 6 = some (.if_icmp .ge 7, 13, 0, 0) := rfl
theorem r_62_9 : sm_ic 62 9 = some (.iconst 1, 0, 0, 0) := rfl
theorem r_62_10 : sm_ic 62 10 = some (.goto 4, 14, 0, 0) := rfl
theorem r_62_13 : sm_ic 62 13 = some (.iconst 0, 0, 0, 0) := rfl
theorem r_62_14 : sm_ic 62 14 = some (.ireturn, 0, 0, 0) := rfl
theorem r_63_0 : sm_ic 63 0 = some (.lload_n 2, 0, 0, 0) := rfl
theorem r_63_1 : sm_ic 63 1 = some (.invokestatic 15, 64, 1, 457) := rfl
theorem r_63_4 : sm_ic 63 4 = some (.istore 4, 0, 0, 0) := rfl
theorem r_63_6 : sm_ic 63 6 = some (.iconst 0, 0, 0, 0) := rfl
theorem r_63_7 : sm_ic 63 7 = some (.istore 5, 0, 0, 0) := rfl
theorem r_63_9 : sm_ic 63 9 = some (.iload 5, 0, 0, 0) := rfl
theorem r_63_11 : sm_ic 63 11 = some (.aload_n 0, 0, 0, 0) := rfl
theorem r_63_12 : sm_ic 63 12 = some (.getfield 9, 3, 0, 135) := rfl
theorem r_63_15 : sm_ic 63 15 = some (.arraylength, 0, 0, 0) := rfl
theorem r_63_16 : sm_ic 63 16 = some (.if_icmp .ge 33, 49, 0, 0) := rfl
theorem r_63_19 : sm_ic 63 19 = some (.aload_n 0, 0, 0, 0) := rfl
theorem r_63_20 : sm_ic 63 20 = some (.getfield 9, 3, 0, 135) := rfl
theorem r_63_23 : sm_ic 63 23 = some (.iload 5, 0, 0, 0) := rfl
theorem r_63_25 : sm_ic 63 25 = some (.iload 4, 0, 0, 0) := rfl
theorem r_63_27 : sm_ic 63 27 = some (.ifCond .eq 8, 35, 0, 0) := rfl
theorem r_63_30 : sm_ic 63 30 = some (.iload 5, 0, 0, 0) := rfl
theorem r_63_32 : sm_ic 63 32 = some (.goto 10, 42, 0, 0) := rfl
theorem r_63_35 : sm_ic 63 35 = some (.aload_n 1, 0, 0, 0) := rfl
theorem r_63_36 : sm_ic 63 36 = some (.lload_n 2, 0, 0, 0) := rfl
theorem r_63_37 : sm_ic 63 37 = some (.iload 5, 0, 0, 0) := rfl
theorem r_63_39 : sm_ic 63 39 = some (.invokestatic 21, 65, 3, 460) := rfl
theorem r_63_42 : sm_ic 63 42 = some (.iastore, 0, 0, 0) := rfl
theorem r_63_43 : sm_ic 63 43 = some (.iinc 5 1, 0, 0, 0) := rfl
theorem r_63_46 : sm_ic 63 46 = some (.goto (-37), 9, 0, 0) := rfl
theorem r_63_49 : sm_ic 63 49 = some (.aload_n 0, 0, 0, 0) := rfl
theorem r_63_50 : sm_ic 63 50 = some (.iload 4, 0, 0, 0) := rfl
theorem r_63_52 : sm_ic 63 52 = some (.ifCond .eq 7, 59, 0, 0) := rfl
theorem r_63_55 : sm_ic 63 55 = some (.iconst 0, 0, 0, 0) := rfl
theorem r_63_56 : sm_ic 63 56 = some (.goto 8, 64, 0, 0) := rfl
theorem r_63_59 : sm_ic 63 59 = some (.aload_n 1, 0, 0, 0) := rfl
theorem r_63_60 : sm_ic 63 60 = some (.iconst 3, 0, 0, 0) := rfl
theorem r_63_61 : sm_ic 63 61 = some (.invokevirtual 25, 67, 2, 468) := rfl
theorem r_63_64 : sm_ic 63 64 = some (.putfield 31, 3, 1, 136) := rfl
theorem r_63_67 : sm_ic 63 67 = some (.aload_n 0, 0, 0, 0) := rfl
theorem r_63_68 : sm_ic 63 68 = some (.iload 4, 0, 0, 0) := rfl
theorem r_63_70 : sm_ic 63 70 = some (.ifCond .eq 8, 78, 0, 0) := rfl
theorem r_63_73 : sm_ic 63 73 = some (.bipush 8, 0, 0, 0) := rfl
theorem r_63_75 : sm_ic 63 75 = some (.goto 16, 91, 0, 0) := rfl
theorem r_63_78 : sm_ic 63 78 = some (.aload_n 1, 0, 0, 0) := rfl
theorem r_63_79 : sm_ic 63 79 = some (.bipush 31, 0, 0, 0) := rfl
theorem r_63_81 : sm_ic 63 81 = some (.lload_n 2, 0, 0, 0) := rfl
theorem r_63_82 : sm_ic 63 82 = some (.invokestatic 35, 60, 1, 472) := rfl
theorem r_63_85 : sm_ic 63 85 = some (.iconst (-1), 0, 0, 0) := rfl
theorem r_63_86 : sm_ic 63 86 = some (.ixor, 0, 0, 0) := rfl
theorem r_63_87 : sm_ic 63 87 = some (.iand, 0, 0, 0) := rfl
theorem r_63_88 : sm_ic 63 88 = some (.invokevirtual 39, 41, 2, 473) := rfl
theorem r_63_91 : sm_ic 63 91 = some (.putfield 42, 3, 2, 137) := rfl
theorem r_63_94 : sm_ic 63 94 = some (.aload_n 0, 0, 0, 0) := rfl
theorem r_63_95 : sm_ic 63 95 = some (.aload_n 1, 0, 0, 0) := rfl
theorem r_63_96 : sm_ic 63 96 = some (.invokevirtual 45, 68, 1, 474) := rfl
theorem r_63_99 : sm_ic 63 99 = some (.putfield 49, 3, 3, 138) := rfl
theorem r_63_102 : sm_ic 63 102 = some (.aload_n 0, 0, 0, 0) := rfl
theorem r_63_103 : sm_ic 63 103 = some (.lload_n 2, 0, 0, 0) := rfl
theorem r_63_104 : sm_ic 63 104 = some (.invokestatic 52, 69, 1, 478) := rfl
theorem r_63_107 : sm_ic 63 107 = some (.ifCond .eq 12, 119, 0, 0) := rfl
theorem r_63_110 : sm_ic 63 110 = some (.iload 4, 0, 0, 0) := rfl
theorem r_63_112 : sm_ic 63 112 = some (.ifCond .ne 7, 119, 0, 0) := rfl
theorem r_63_115 : sm_ic 63 115 = some (.iconst 1, 0, 0, 0) := rfl
theorem r_63_116 : sm_ic 63 116 = some (.goto 4, 120, 0, 0) := rfl
theorem r_63_119 : sm_ic 63 119 = some (.iconst 0, 0, 0, 0) := rfl
theorem r_63_120 : sm_ic 63 120 = some (.putfield 55, 3, 4, 139) := rfl
theorem r_63_123 : sm_ic 63 123 = some (.return_, 0, 0, 0) := rfl
theorem r_64_0 : sm_ic 64 0 = some (.lload_n 0, 0, 0, 0) := rfl
theorem r_64_1 : sm_ic 64 1 = some (.bipush 46, 0, 0, 0) := rfl
theorem r_64_3 : sm_ic 64 3 = some (.iconst 1, 0, 0, 0) := rfl
theorem r_64_4 : sm_ic 64 4 = some (.invokestatic 9, 50, 3, 401) := rfl
theorem r_64_7 : sm_ic 64 7 = some (.iconst 1, 0, 0, 0) := rfl
theorem r_64_8 : sm_ic 64 8 = some (.if_icmp .ne 7, 15, 0, 0) := rfl
theorem r_64_11 : sm_ic 64 11 = some (.iconst 1, 0, 0, 0) := rfl
theorem r_64_12 : sm_ic 64 12 = some (.goto 4, 16, 0, 0) := rfl
theorem r_64_15 : sm_ic 64 15 = some (.iconst 0, 0, 0, 0) := rfl
theorem r_64_16 : sm_ic 64 16 = some (.ireturn, 0, 0, 0) := rfl
theorem r_65_0 : sm_ic 65 0 = some (.iload_n 3, 0, 0, 0) := rfl
theorem r_65_1 : sm_ic 65 1 = some (.istore 4, 0, 0, 0) := rfl
theorem r_65_3 : sm_ic 65 3 = some (.iconst 0, 0, 0, 0) := rfl
theorem r_65_4 : sm_ic 65 4 = some (.istore 5, 0, 0, 0) := rfl
theorem r_65_6 : sm_ic 65 6 = some (.iload 5, 0, 0, 0) := rfl
theorem r_65_8 : sm_ic 65 8 = some (.bipush 8, 0, 0, 0) := rfl
theorem r_65_10 : sm_ic 65 10 = some (.if_icmp .ge 40, 50, 0, 0) := rfl
theorem r_65_13 : sm_ic 65 13 = some (.aload_n 0, 0, 0, 0) := rfl
theorem r_65_14 : sm_ic 65 14 = some (.iload 4, 0, 0, 0) := rfl
theorem r_65_16 : sm_ic 65 16 = some (.invokevirtual 74, 39, 2, 463) := rfl
theorem r_65_19 : sm_ic 65 19 = some (.iconst 2, 0, 0, 0) := rfl
theorem r_65_20 : sm_ic 65 20 = some (.if_icmp .ne 13, 33, 0, 0) := rfl
theorem r_65_23 : sm_ic 65 23 = some (.aload_n 0, 0, 0, 0) := rfl
theorem r_65_24 : sm_ic 65 24 = some (.lload_n 1, 0, 0, 0) := rfl
theorem r_65_25 : sm_ic 65 25 = some (.iload 4, 0, 0, 0) := rfl
theorem r_65_27 : sm_ic 65 27 = some (.invokestatic 77, 66, 3, 464) := rfl
theorem r_65_30 : sm_ic 65 30 = some (.ifCond .eq 6, 36, 0, 0) := rfl
theorem r_65_33 : sm_ic 65 33 = some (.iload 4, 0, 0, 0) := rfl
theorem r_65_35 : sm_ic 65 35 = some (.ireturn, 0, 0, 0) := rfl
theorem r_65_36 : sm_ic 65 36 = some (.lload_n 1, 0, 0, 0) := rfl
theorem r_65_37 : sm_ic 65 37 = some (.iload 4, 0, 0, 0) := rfl
theorem r_65_39 : sm_ic 65 39 = some (.invokestatic 81, 49, 2, 467) := rfl
theorem r_65_42 : sm_ic 65 42 = some (.istore 4, 0, 0, 0) := rfl
theorem r_65_44 : sm_ic 65 44 = some (.iinc 5 1, 0, 0, 0) := rfl
theorem r_65_47 : sm_ic 65 47 = some (.goto (-41), 6, 0, 0) := rfl
theorem r_65_50 : sm_ic 65 50 = some (.iload 4, 0, 0, 0) := rfl
theorem r_65_52 : sm_ic 65 52 = some (.ireturn, 0, 0, 0) := rfl
theorem r_66_0 : sm_ic 66 0 = some (.iload_n 3, 0, 0, 0) := rfl
theorem r_66_1 : sm_ic 66 1 = some (.istore 4, 0, 0, 0) := rfl
theorem r_66_3 : sm_ic 66 3 = some (.iconst 0, 0, 0, 0) := rfl
theorem r_66_4 : sm_ic 66 4 = some (.istore 5, 0, 0, 0) := rfl
theorem r_66_6 : sm_ic 66 6 = some (.iload 5, 0, 0, 0) := rfl
theorem r_66_8 : sm_ic 66 8 = some (.bipush 8, 0, 0, 0) := rfl
theorem r_66_10 : sm_ic 66 10 = some (.if_icmp .ge 37, 47, 0, 0) := rfl
theorem r_66_13 : sm_ic 66 13 = some (.lload_n 1, 0, 0, 0) := rfl
theorem r_66_14 : sm_ic 66 14 = some (.iload 4, 0, 0, 0) := rfl
theorem r_66_16 : sm_ic 66 16 = some (.invokestatic 81, 49, 2, 467) := rfl
theorem r_66_19 : sm_ic 66 19 = some (.istore 4, 0, 0, 0) := rfl
theorem r_66_21 : sm_ic 66 21 = some (.iload 4, 0, 0, 0) := rfl
theorem r_66_23 : sm_ic 66 23 = some (.iload_n 3, 0, 0, 0) := rfl
theorem r_66_24 : sm_ic 66 24 = some (.if_icmp .ne 5, 29, 0, 0) := rfl
theorem r_66_27 : sm_ic 66 27 = some (.iconst 1, 0, 0, 0) := rfl
theorem r_66_28 : sm_ic 66 28 = some (.ireturn, 0, 0, 0) := rfl
theorem r_66_29 : sm_ic 66 29 = some (.aload_n 0, 0, 0, 0) := rfl
theorem r_66_30 : sm_ic 66 30 = some (.iload 4, 0, 0, 0) := rfl
theorem r_66_32 : sm_ic 66 32 = some (.invokevirtual 74, 39, 2, 463) := rfl
theorem r_66_35 : sm_ic 66 35 = some (.iconst 2, 0, 0, 0) := rfl
theorem r_66_36 : sm_ic 66 36 = some (.if_icmp .eq 5, 41, 0, 0) := rfl
theorem r_66_39 : sm_ic 66 39 = some (.iconst 0, 0, 0, 0) := rfl
theorem r_66_40 : sm_ic 66 40 = some (.ireturn, 0, 0, 0) := rfl
theorem r_66_41 : sm_ic 66 41 = some (.iinc 5 1, 0, 0, 0) := rfl
theorem r_66_44 : sm_ic 66 44 = some (.goto (-38), 6, 0, 0) := rfl
theorem r_66_47 : sm_ic 66 47 = some (.iconst 0, 0, 0, 0) := rfl
theorem r_66_48 : sm_ic 66 48 = some (.ireturn, 0, 0, 0) := rfl
theorem r_67_0 : sm_ic 67 0 = some (.iconst 0, 0, 0, 0) := rfl
theorem r_67_1 : sm_ic 67 1 = some (.istore_n 2, 0, 0, 0) := rfl
theorem r_67_2 : sm_ic 67 2 = some (.iconst 0, 0, 0, 0) := rfl
theorem r_67_3 : sm_ic 67 3 = some (.istore_n 3, 0, 0, 0) := rfl
theorem r_67_4 : sm_ic 67 4 = some (.iload_n 3, 0, 0, 0) := rfl
theorem r_67_5 : sm_ic 67 5 = some (.aload_n 0, 0, 0, 0) := rfl
theorem r_67_6 : sm_ic 67 6 = some (.getfield 43, 1, 3, 101) := rfl
theorem r_67_9 : sm_ic 67 9 = some (.if_icmp .ge 24, 33, 0, 0) := rfl
theorem r_67_12 : sm_ic 67 12 = some (.aload_n 0, 0, 0, 0) := rfl
theorem r_67_13 : sm_ic 67 13 = some (.iload_n 3, 0, 0, 0) := rfl
theorem r_67_14 : sm_ic 67 14 = some (.invokevirtual 57, 39, 2, 328) := rfl
theorem r_67_17 : sm_ic 67 17 = some (.iload_n 1, 0, 0, 0) := rfl
theorem r_67_18 : sm_ic 67 18 = some (.if_icmp .ne 9, 27, 0, 0) := rfl
theorem r_67_21 : sm_ic 67 21 = some (.iload_n 2, 0, 0, 0) := rfl
theorem r_67_22 : sm_ic 67 22 = some (.iconst 1, 0, 0, 0) := rfl
theorem r_67_23 : sm_ic 67 23 = some (.iload_n 3, 0, 0, 0) := rfl
theorem r_67_24 : sm_ic 67 24 = some (.ishl, 0, 0, 0) := rfl
theorem r_67_25 : sm_ic 67 25 = some (.ior, 0, 0, 0) := rfl
theorem r_67_26 : sm_ic 67 26 = some (.istore_n 2, 0, 0, 0) := rfl
theorem r_67_27 : sm_ic 67 27 = some (.iinc 3 1, 0, 0, 0) := rfl
theorem r_67_30 : sm_ic 67 30 = some (.goto (-26), 4, 0, 0) := rfl
theorem r_67_33 : sm_ic 67 33 = some (.iload_n 2, 0, 0, 0) := rfl
theorem r_67_34 : sm_ic 67 34 = some (.ireturn, 0, 0, 0) := rfl
theorem r_68_0 : sm_ic 68 0 = some (.aload_n 0, 0, 0, 0) := rfl
theorem r_68_1 : sm_ic 68 1 = some (.getfield 78, 1, 5, 103) := rfl
theorem r_68_4 : sm_ic 68 4 = some (.ireturn, 0, 0, 0) := rfl
theorem r_69_0 : sm_ic 69 0 = some (.lload_n 0, 0, 0, 0) := rfl
theorem r_69_1 : sm_ic 69 1 = some (.bipush 45, 0, 0, 0) := rfl
theorem r_69_3 : sm_ic 69 3 = some (.iconst 1, 0, 0, 0) := rfl
theorem r_69_4 : sm_ic 69 4 = some (.invokestatic 9, 50, 3, 401) := rfl
theorem r_69_7 : sm_ic 69 7 = some (.iconst 1, 0, 0, 0) := rfl
theorem r_69_8 : sm_ic 69 8 = some (.if_icmp .ne 7, 15, 0, 0) := rfl
theorem r_69_11 : sm_ic 69 11 = some (.iconst 1, 0, 0, 0) := rfl
theorem r_69_12 : sm_ic 69 12 = some (.goto 4, 16, 0, 0) := rfl
theorem r_69_15 : sm_ic 69 15 = some (.iconst 0, 0, 0, 0) := rfl
theorem r_69_16 : sm_ic 69 16 = some (.ireturn, 0, 0, 0) := rfl
theorem r_70_0 : sm_ic 70 0 = some (.lload_n 0, 0, 0, 0) := rfl
theorem r_70_1 : sm_ic 70 1 = some (.bipush 8, 0, 0, 0) := rfl
theorem r_70_3 : sm_ic 70 3 = some (.iload_n 2, 0, 0, 0) := rfl
theorem r_70_4 : sm_ic 70 4 = some (.imul, 0, 0, 0) := rfl
theorem r_70_5 : sm_ic 70 5 = some (.bipush 8, 0, 0, 0) := rfl
theorem r_70_7 : sm_ic 70 7 = some (.invokestatic 9, 50, 3, 401) := rfl
theorem r_70_10 : sm_ic 70 10 = some (.ireturn, 0, 0, 0) := rfl
theorem r_71_0 : sm_ic 71 0 = some (.aload_n 0, 0, 0, 0) := rfl
theorem r_71_1 : sm_ic 71 1 = some (.getfield 55, 3, 4, 139) := rfl
theorem r_71_4 : sm_ic 71 4 = some (.ifCond .eq 7, 11, 0, 0) := rfl
theorem r_71_7 : sm_ic 71 7 = some (.iconst 0, 0, 0, 0) := rfl
theorem r_71_8 : sm_ic 71 8 = some (.goto 15, 23, 0, 0) := rfl
theorem r_71_11 : sm_ic 71 11 = some (.iload_n 1, 0, 0, 0) := rfl
theorem r_71_12 : sm_ic 71 12 = some (.aload_n 0, 0, 0, 0) := rfl
theorem r_71_13 : sm_ic 71 13 = some (.getfield 31, 3, 1, 136) := rfl
theorem r_71_16 : sm_ic 71 16 = some (.iconst (-1), 0, 0, 0) := rfl
theorem r_71_17 : sm_ic 71 17 = some (.ixor, 0, 0, 0) := rfl
theorem r_71_18 : sm_ic 71 18 = some (.iand, 0, 0, 0) := rfl
theorem r_71_19 : sm_ic 71 19 = some (.iload_n 2, 0, 0, 0) := rfl
theorem r_71_20 : sm_ic 71 20 = some (.iconst (-1), 0, 0, 0) := rfl
theorem r_71_21 : sm_ic 71 21 = some (.ixor, 0, 0, 0) := rfl
theorem r_71_22 : sm_ic 71 22 = some (.iand, 0, 0, 0) := rfl
theorem r_71_23 : sm_ic 71 23 = some (.istore_n 3, 0, 0, 0) := rfl
theorem r_71_24 : sm_ic 71 24 = some (.iconst 0, 0, 0, 0) := rfl
theorem r_71_25 : sm_ic 71 25 = some (.istore 4, 0, 0, 0) := rfl
theorem r_71_27 : sm_ic 71 27 = some (.iconst 0, 0, 0, 0) := rfl
theorem r_71_28 : sm_ic 71 28 = some (.istore 5, 0, 0, 0) := rfl
theorem r_71_30 : sm_ic 71 30 = some (.iload 5, 0, 0, 0) := rfl
theorem r_71_32 : sm_ic 71 32 = some (.aload_n 0, 0, 0, 0) := rfl
theorem r_71_33 : sm_ic 71 33 = some (.getfield 9, 3, 0, 135) := rfl
theorem r_71_36 : sm_ic 71 36 = some (.arraylength, 0, 0, 0) := rfl
theorem r_71_37 : sm_ic 71 37 = some (.if_icmp .ge 28, 65, 0, 0) := rfl
theorem r_71_40 : sm_ic 71 40 = some (.iload 4, 0, 0, 0) := rfl
theorem r_71_42 : sm_ic 71 42 = some (.iload_n 3, 0, 0, 0) := rfl
theorem r_71_43 : sm_ic 71 43 = some (.aload_n 0, 0, 0, 0) := rfl
theorem r_71_44 : sm_ic 71 44 = some (.getfield 9, 3, 0, 135) := rfl
theorem r_71_47 : sm_ic 71 47 = some (.iload 5, 0, 0, 0) := rfl
theorem r_71_49 : sm_ic 71 49 = some (.iaload, 0, 0, 0) := rfl
theorem r_71_50 : sm_ic 71 50 = some (.iushr, 0, 0, 0) := rfl
theorem r_71_51 : sm_ic 71 51 = some (.iconst 1, 0, 0, 0) := rfl
theorem r_71_52 : sm_ic 71 52 = some (.iand, 0, 0, 0) := rfl
theorem r_71_53 : sm_ic 71 53 = some (.iload 5, 0, 0, 0) := rfl
theorem r_71_55 : sm_ic 71 55 = some (.ishl, 0, 0, 0) := rfl
theorem r_71_56 : sm_ic 71 56 = some (.ior, 0, 0, 0) := rfl
theorem r_71_57 : sm_ic 71 57 = some (.istore 4, 0, 0, 0) := rfl
theorem r_71_59 : sm_ic 71 59 = some (.iinc 5 1, 0, 0, 0) := rfl
theorem r_71_62 : sm_ic 71 62 = some (.goto (-32), 30, 0, 0) := rfl
theorem r_71_65 : sm_ic 71 65 = some (.iload 4, 0, 0, 0) := rfl
theorem r_71_67 : sm_ic 71 67 = some (.ireturn, 0, 0, 0) := rfl
theorem r_72_0 : sm_ic 72 0 = some (.iload_n 1, 0, 0, 0) := rfl
theorem r_72_1 : sm_ic 72 1 = some (.invokestatic 127, 62, 1, 450) := rfl
theorem r_72_4 : sm_ic 72 4 = some (.ifCond .eq 15, 19, 0, 0) := rfl
theorem r_72_7 : sm_ic 72 7 = some (.aload_n 0, 0, 0, 0) := rfl
theorem r_72_8 : sm_ic 72 8 = some (.aload_n 0, 0, 0, 0) := rfl
theorem r_72_9 : sm_ic 72 9 = some (.getfield 89, 0, 8, 356) := rfl
theorem r_72_12 : sm_ic 72 12 = some (.iload_n 1, 0, 0, 0) := rfl
theorem r_72_13 : sm_ic 72 13 = some (.invokevirtual 141, 73, 3, 492) := rfl
theorem r_72_16 : sm_ic 72 16 = some (.goto 4, 20, 0, 0) := rfl
theorem r_72_19 : sm_ic 72 19 = some (.iconst (-1), 0, 0, 0) := rfl
theorem r_72_20 : sm_ic 72 20 = some (.ireturn, 0, 0, 0) := rfl
theorem r_73_0 : sm_ic 73 0 = some (.aload_n 0, 0, 0, 0) := rfl
theorem r_73_1 : sm_ic 73 1 = some (.getfield 36, 0, 4, 352) := rfl
theorem r_73_4 : sm_ic 73 4 = some (.aload_n 0, 0, 0, 0) := rfl
theorem r_73_5 : sm_ic 73 5 = some (.getfield 30, 0, 3, 351) := rfl
theorem r_73_8 : sm_ic 73 8 = some (.lload_n 1, 0, 0, 0) := rfl
theorem r_73_9 : sm_ic 73 9 = some (.invokevirtual 130, 63, 3, 453) := rfl
theorem r_73_12 : sm_ic 73 12 = some (.aload_n 0, 0, 0, 0) := rfl
theorem r_73_13 : sm_ic 73 13 = some (.getfield 36, 0, 4, 352) := rfl
theorem r_73_16 : sm_ic 73 16 = some (.lload_n 1, 0, 0, 0) := rfl
theorem r_73_17 : sm_ic 73 17 = some (.iload_n 3, 0, 0, 0) := rfl
theorem r_73_18 : sm_ic 73 18 = some (.invokestatic 134, 70, 2, 481) := rfl
theorem r_73_21 : sm_ic 73 21 = some (.iconst 0, 0, 0, 0) := rfl
theorem r_73_22 : sm_ic 73 22 = some (.invokevirtual 201, 74, 3, 496) := rfl
theorem r_73_25 : sm_ic 73 25 = some (.ireturn, 0, 0, 0) := rfl
theorem r_74_0 : sm_ic 74 0 = some (.aload_n 0, 0, 0, 0) := rfl
theorem r_74_1 : sm_ic 74 1 = some (.aload_n 0, 0, 0, 0) := rfl
theorem r_74_2 : sm_ic 74 2 = some (.iload_n 1, 0, 0, 0) := rfl
theorem r_74_3 : sm_ic 74 3 = some (.iload_n 2, 0, 0, 0) := rfl
theorem r_74_4 : sm_ic 74 4 = some (.invokevirtual 59, 71, 3, 500) := rfl
theorem r_74_7 : sm_ic 74 7 = some (.aload_n 0, 0, 0, 0) := rfl
theorem r_74_8 : sm_ic 74 8 = some (.getfield 49, 3, 3, 138) := rfl
theorem r_74_11 : sm_ic 74 11 = some (.invokevirtual 63, 75, 3, 501) := rfl
theorem r_74_14 : sm_ic 74 14 = some (.ireturn, 0, 0, 0) := rfl
theorem r_75_0 : sm_ic 75 0 = some (.iload_n 1, 0, 0, 0) := rfl
theorem r_75_1 : sm_ic 75 1 = some (.aload_n 0, 0, 0, 0) := rfl
theorem r_75_2 : sm_ic 75 2 = some (.getfield 42, 3, 2, 137) := rfl
theorem r_75_5 : sm_ic 75 5 = some (.iload_n 2, 0, 0, 0) := rfl
theorem r_75_6 : sm_ic 75 6 = some (.invokestatic 66, 9996, 0, 505) := rfl
theorem r_75_9 : sm_ic 75 9 = some (.invokestatic 71, 76, 2, 5000) := rfl
theorem r_75_12 : sm_ic 75 12 = some (.ireturn, 0, 0, 0) := rfl
theorem r_76_0 : sm_ic 76 0 = some (.iconst 0, 0, 0, 0) := rfl
theorem r_76_1 : sm_ic 76 1 = some (.istore_n 2, 0, 0, 0) := rfl
theorem r_76_2 : sm_ic 76 2 = some (.iconst 0, 0, 0, 0) := rfl
theorem r_76_3 : sm_ic 76 3 = some (.istore_n 3, 0, 0, 0) := rfl
theorem r_76_4 : sm_ic 76 4 = some (.iconst 0, 0, 0, 0) := rfl
theorem r_76_5 : sm_ic 76 5 = some (.istore 4, 0, 0, 0) := rfl
theorem r_76_7 : sm_ic 76 7 = some (.iload 4, 0, 0, 0) := rfl
theorem r_76_9 : sm_ic 76 9 = some (.bipush 8, 0, 0, 0) := rfl
theorem r_76_11 : sm_ic 76 11 = some (.if_icmp .ge 34, 45, 0, 0) := rfl
theorem r_76_14 : sm_ic 76 14 = some (.iload_n 3, 0, 0, 0) := rfl
theorem r_76_15 : sm_ic 76 15 = some (.iload_n 1, 0, 0, 0) := rfl
theorem r_76_16 : sm_ic 76 16 = some (.if_icmp .ge 23, 39, 0, 0) := rfl
theorem r_76_19 : sm_ic 76 19 = some (.iload_n 0, 0, 0, 0) := rfl
theorem r_76_20 : sm_ic 76 20 = some (.iload 4, 0, 0, 0) := rfl
theorem r_76_22 : sm_ic 76 22 = some (.iushr, 0, 0, 0) := rfl
theorem r_76_23 : sm_ic 76 23 = some (.iconst 1, 0, 0, 0) := rfl
theorem r_76_24 : sm_ic 76 24 = some (.iand, 0, 0, 0) := rfl
theorem r_76_25 : sm_ic 76 25 = some (.iconst 1, 0, 0, 0) := rfl
theorem r_76_26 : sm_ic 76 26 = some (.if_icmp .ne 13, 39, 0, 0) := rfl
theorem r_76_29 : sm_ic 76 29 = some (.iload_n 2, 0, 0, 0) := rfl
theorem r_76_30 : sm_ic 76 30 = some (.iconst 1, 0, 0, 0) := rfl
theorem r_76_31 : sm_ic 76 31 = some (.iload 4, 0, 0, 0) := rfl
theorem r_76_33 : sm_ic 76 33 = some (.ishl, 0, 0, 0) := rfl
theorem r_76_34 : sm_ic 76 34 = some (.ior, 0, 0, 0) := rfl
theorem r_76_35 : sm_ic 76 35 = some (.istore_n 2, 0, 0, 0) := rfl
theorem r_76_36 : sm_ic 76 36 = some (.iinc 3 1, 0, 0, 0) := rfl
theorem r_76_39 : sm_ic 76 39 = some (.iinc 4 1, 0, 0, 0) := rfl
theorem r_76_42 : sm_ic 76 42 = some (.goto (-35), 7, 0, 0) := rfl
theorem r_76_45 : sm_ic 76 45 = some (.iload_n 2, 0, 0, 0) := rfl
theorem r_76_46 : sm_ic 76 46 = some (.ireturn, 0, 0, 0) := rfl
theorem r_77_0 : sm_ic 77 0 = some (.iload_n 1, 0, 0, 0) := rfl
theorem r_77_1 : sm_ic 77 1 = some (.invokestatic 127, 62, 1, 450) := rfl
theorem r_77_4 : sm_ic 77 4 = some (.ifCond .eq 11, 15, 0, 0) := rfl
theorem r_77_7 : sm_ic 77 7 = some (.aload_n 0, 0, 0, 0) := rfl
theorem r_77_8 : sm_ic 77 8 = some (.iload_n 2, 0, 0, 0) := rfl
theorem r_77_9 : sm_ic 77 9 = some (.invokevirtual 98, 55, 2, 420) := rfl
theorem r_77_12 : sm_ic 77 12 = some (.ifCond .ne 5, 17, 0, 0) := rfl
theorem r_77_15 : sm_ic 77 15 = some (.iconst (-1), 0, 0, 0) := rfl
theorem r_77_16 : sm_ic 77 16 = some (.ireturn, 0, 0, 0) := rfl
theorem r_77_17 : sm_ic 77 17 = some (.aload_n 0, 0, 0, 0) := rfl
theorem r_77_18 : sm_ic 77 18 = some (.aload_n 0, 0, 0, 0) := rfl
theorem r_77_19 : sm_ic 77 19 = some (.getfield 89, 0, 8, 356) := rfl
theorem r_77_22 : sm_ic 77 22 = some (.iload_n 1, 0, 0, 0) := rfl
theorem r_77_23 : sm_ic 77 23 = some (.invokevirtual 141, 73, 3, 492) := rfl
theorem r_77_26 : sm_ic 77 26 = some (.istore_n 3, 0, 0, 0) := rfl
theorem r_77_27 : sm_ic 77 27 = some (.iload_n 3, 0, 0, 0) := rfl
theorem r_77_28 : sm_ic 77 28 = some (.iload_n 2, 0, 0, 0) := rfl
theorem r_77_29 : sm_ic 77 29 = some (.iushr, 0, 0, 0) := rfl
theorem r_77_30 : sm_ic 77 30 = some (.iconst 1, 0, 0, 0) := rfl
theorem r_77_31 : sm_ic 77 31 = some (.iand, 0, 0, 0) := rfl
theorem r_77_32 : sm_ic 77 32 = some (.ifCond .eq 13, 45, 0, 0) := rfl
theorem r_77_35 : sm_ic 77 35 = some (.aload_n 0, 0, 0, 0) := rfl
theorem r_77_36 : sm_ic 77 36 = some (.getfield 89, 0, 8, 356) := rfl
theorem r_77_39 : sm_ic 77 39 = some (.invokestatic 144, 64, 1, 515) := rfl
theorem r_77_42 : sm_ic 77 42 = some (.ifCond .eq 6, 48, 0, 0) := rfl
theorem r_77_45 : sm_ic 77 45 = some (.bipush (-4), 0, 0, 0) := rfl
theorem r_77_47 : sm_ic 77 47 = some (.ireturn, 0, 0, 0) := rfl
theorem r_77_48 : sm_ic 77 48 = some (.iload_n 3, 0, 0, 0) := rfl
theorem r_77_49 : sm_ic 77 49 = some (.iconst 1, 0, 0, 0) := rfl
theorem r_77_50 : sm_ic 77 50 = some (.iload_n 2, 0, 0, 0) := rfl
theorem r_77_51 : sm_ic 77 51 = some (.ishl, 0, 0, 0) := rfl
theorem r_77_52 : sm_ic 77 52 = some (.iconst 1, 0, 0, 0) := rfl
theorem r_77_53 : sm_ic 77 53 = some (.isub, 0, 0, 0) := rfl
theorem r_77_54 : sm_ic 77 54 = some (.iand, 0, 0, 0) := rfl
theorem r_77_55 : sm_ic 77 55 = some (.invokestatic 148, 78, 1, 516) := rfl
theorem r_77_58 : sm_ic 77 58 = some (.istore 4, 0, 0, 0) := rfl
theorem r_77_60 : sm_ic 77 60 = some (.aload_n 0, 0, 0, 0) := rfl
theorem r_77_61 : sm_ic 77 61 = some (.getfield 30, 0, 3, 351) := rfl
theorem r_77_64 : sm_ic 77 64 = some (.iload 4, 0, 0, 0) := rfl
theorem r_77_66 : sm_ic 77 66 = some (.aload_n 0, 0, 0, 0) := rfl
theorem r_77_67 : sm_ic 77 67 = some (.getfield 89, 0, 8, 356) := rfl
theorem r_77_70 : sm_ic 77 70 = some (.invokestatic 123, 60, 1, 443) := rfl
theorem r_77_73 : sm_ic 77 73 = some (.invokevirtual 153, 79, 3, 522) := rfl
theorem r_77_76 : sm_ic 77 76 = some (.ireturn, 0, 0, 0) := rfl
theorem r_78_0 : sm_ic 78 0 = some (.iload_n 0, 0, 0, 0) := rfl
theorem r_78_1 : sm_ic 78 1 = some (.iload_n 0, 0, 0, 0) := rfl
theorem r_78_2 : sm_ic 78 2 = some (.iconst 1, 0, 0, 0) := rfl
theorem r_78_3 : sm_ic 78 3 = some (.iushr, 0, 0, 0) := rfl
theorem r_78_4 : sm_ic 78 4 = some (.ldc_w 265, 1431655765, 0, 519) := rfl
theorem r_78_7 : sm_ic 78 7 = some (.iand, 0, 0, 0) := rfl
theorem r_78_8 : sm_ic 78 8 = some (.isub, 0, 0, 0) := rfl
theorem r_78_9 : sm_ic 78 9 = some (.istore_n 0, 0, 0, 0) := rfl
theorem r_78_10 : sm_ic 78 10 = some (.iload_n 0, 0, 0, 0) := rfl
theorem r_78_11 : sm_ic 78 11 = some (.ldc_w 266, 858993459, 0, 520) := rfl
theorem r_78_14 : sm_ic 78 14 = some (.iand, 0, 0, 0) := rfl
theorem r_78_15 : sm_ic 78 15 = some (.iload_n 0, 0, 0, 0) := rfl
theorem r_78_16 : sm_ic 78 16 = some (.iconst 2, 0, 0, 0) := rfl
theorem r_78_17 : sm_ic 78 17 = some (.iushr, 0, 0, 0) := rfl
theorem r_78_18 : sm_ic 78 18 = some (.ldc_w 266, 858993459, 0, 520) := rfl
theorem r_78_21 : sm_ic 78 21 = some (.iand, 0, 0, 0) := rfl
theorem r_78_22 : sm_ic 78 22 = some (.iadd, 0, 0, 0) := rfl
theorem r_78_23 : sm_ic 78 23 = some (.istore_n 0, 0, 0, 0) := rfl
theorem r_78_24 : sm_ic 78 24 = some (.iload_n 0, 0, 0, 0) := rfl
theorem r_78_25 : sm_ic 78 25 = some (.iload_n 0, 0, 0, 0) := rfl
theorem r_78_26 : sm_ic 78 26 = some (.iconst 4, 0, 0, 0) := rfl
theorem r_78_27 : sm_ic 78 27 = some (.iushr, 0, 0, 0) := rfl
theorem r_78_28 : sm_ic 78 28 = some (.iadd, 0, 0, 0) := rfl
theorem r_78_29 : sm_ic 78 29 = some (.ldc_w 267, 252645135, 0, 521) := rfl
theorem r_78_32 : sm_ic 78 32 = some (.iand, 0, 0, 0) := rfl
theorem r_78_33 : sm_ic 78 33 = some (.istore_n 0, 0, 0, 0) := rfl
theorem r_78_34 : sm_ic 78 34 = some (.iload_n 0, 0, 0, 0) := rfl
theorem r_78_35 : sm_ic 78 35 = some (.iload_n 0, 0, 0, 0) := rfl
theorem r_78_36 : sm_ic 78 36 = some (.bipush 8, 0, 0, 0) := rfl
theorem r_78_38 : sm_ic 78 38 = some (.iushr, 0, 0, 0) := rfl
theorem r_78_39 : sm_ic 78 39 = some (.iadd, 0, 0, 0) := rfl
theorem r_78_40 : sm_ic 78 40 = some (.istore_n 0, 0, 0, 0) := rfl
theorem r_78_41 : sm_ic 78 41 = some (.iload_n 0, 0, 0, 0) := rfl
theorem r_78_42 : sm_ic 78 42 = some (.iload_n 0, 0, 0, 0) := rfl
theorem r_78_43 : sm_ic 78 43 = some (.bipush 16, 0, 0, 0) := rfl
theorem r_78_45 : sm_ic 78 45 = some (.iushr, 0, 0, 0) := rfl
theorem r_78_46 : sm_ic 78 46 = some (.iadd, 0, 0, 0) := rfl
theorem r_78_47 : sm_ic 78 47 = some (.istore_n 0, 0, 0, 0) := rfl
theorem r_78_48 : sm_ic 78 48 = some (.iload_n 0, 0, 0, 0) := rfl
theorem r_78_49 : sm_ic 78 49 = some (.bipush 63, 0, 0, 0) := rfl
theorem r_78_51 : sm_ic 78 51 = some (.iand, 0, 0, 0) := rfl
theorem r_78_52 : sm_ic 78 52 = some (.ireturn, 0, 0, 0) := rfl
theorem r_79_0 : sm_ic 79 0 = some (.iload_n 1, 0, 0, 0) := rfl
theorem r_79_1 : sm_ic 79 1 = some (.istore_n 3, 0, 0, 0) := rfl
theorem r_79_2 : sm_ic 79 2 = some (.iconst 0, 0, 0, 0) := rfl
theorem r_79_3 : sm_ic 79 3 = some (.istore 4, 0, 0, 0) := rfl
theorem r_79_5 : sm_ic 79 5 = some (.iload 4, 0, 0, 0) := rfl
theorem r_79_7 : sm_ic 79 7 = some (.aload_n 0, 0, 0, 0) := rfl
theorem r_79_8 : sm_ic 79 8 = some (.getfield 75, 1, 4, 102) := rfl
theorem r_79_11 : sm_ic 79 11 = some (.if_icmp .ge 37, 48, 0, 0) := rfl
theorem r_79_14 : sm_ic 79 14 = some (.aload_n 0, 0, 0, 0) := rfl
theorem r_79_15 : sm_ic 79 15 = some (.iconst 1, 0, 0, 0) := rfl
theorem r_79_16 : sm_ic 79 16 = some (.iload 4, 0, 0, 0) := rfl
theorem r_79_18 : sm_ic 79 18 = some (.ishl, 0, 0, 0) := rfl
theorem r_79_19 : sm_ic 79 19 = some (.iload_n 2, 0, 0, 0) := rfl
theorem r_79_20 : sm_ic 79 20 = some (.iconst (-1), 0, 0, 0) := rfl
theorem r_79_21 : sm_ic 79 21 = some (.ixor, 0, 0, 0) := rfl
theorem r_79_22 : sm_ic 79 22 = some (.iand, 0, 0, 0) := rfl
theorem r_79_23 : sm_ic 79 23 = some (.invokevirtual 68, 41, 2, 336) := rfl
theorem r_79_26 : sm_ic 79 26 = some (.istore 5, 0, 0, 0) := rfl
theorem r_79_28 : sm_ic 79 28 = some (.iload_n 3, 0, 0, 0) := rfl
theorem r_79_29 : sm_ic 79 29 = some (.iload 5, 0, 0, 0) := rfl
theorem r_79_31 : sm_ic 79 31 = some (.if_icmp .ge 6, 37, 0, 0) := rfl
theorem r_79_34 : sm_ic 79 34 = some (.iload 4, 0, 0, 0) := rfl
theorem r_79_36 : sm_ic 79 36 = some (.ireturn, 0, 0, 0) := rfl
theorem r_79_37 : sm_ic 79 37 = some (.iload_n 3, 0, 0, 0) := rfl
theorem r_79_38 : sm_ic 79 38 = some (.iload 5, 0, 0, 0) := rfl
theorem r_79_40 : sm_ic 79 40 = some (.isub, 0, 0, 0) := rfl
theorem r_79_41 : sm_ic 79 41 = some (.istore_n 3, 0, 0, 0) := rfl
theorem r_79_42 : sm_ic 79 42 = some (.iinc 4 1, 0, 0, 0) := rfl
theorem r_79_45 : sm_ic 79 45 = some (.goto (-40), 5, 0, 0) := rfl
theorem r_79_48 : sm_ic 79 48 = some (.bipush (-4), 0, 0, 0) := rfl
theorem r_79_50 : sm_ic 79 50 = some (.ireturn, 0, 0, 0) := rfl
theorem r_80_0 : sm_ic 80 0 = some (.iload_n 1, 0, 0, 0) := rfl
theorem r_80_1 : sm_ic 80 1 = some (.invokestatic 127, 62, 1, 450) := rfl
theorem r_80_4 : sm_ic 80 4 = some (.ifCond .eq 25, 29, 0, 0) := rfl
theorem r_80_7 : sm_ic 80 7 = some (.aload_n 0, 0, 0, 0) := rfl
theorem r_80_8 : sm_ic 80 8 = some (.getfield 30, 0, 3, 351) := rfl
theorem r_80_11 : sm_ic 80 11 = some (.aload_n 0, 0, 0, 0) := rfl
theorem r_80_12 : sm_ic 80 12 = some (.aload_n 0, 0, 0, 0) := rfl
theorem r_80_13 : sm_ic 80 13 = some (.getfield 89, 0, 8, 356) := rfl
theorem r_80_16 : sm_ic 80 16 = some (.iload_n 1, 0, 0, 0) := rfl
theorem r_80_17 : sm_ic 80 17 = some (.invokevirtual 141, 73, 3, 492) := rfl
theorem r_80_20 : sm_ic 80 20 = some (.invokevirtual 156, 81, 2, 530) := rfl
theorem r_80_23 : sm_ic 80 23 = some (.invokestatic 159, 82, 1, 535) := rfl
theorem r_80_26 : sm_ic 80 26 = some (.goto 4, 30, 0, 0) := rfl
theorem r_80_29 : sm_ic 80 29 = some (.iconst (-1), 0, 0, 0) := rfl
theorem r_80_30 : sm_ic 80 30 = some (.ireturn, 0, 0, 0) := rfl
theorem r_81_0 : sm_ic 81 0 = some (.bipush 10, 0, 0, 0) := rfl
theorem r_81_2 : sm_ic 81 2 = some (.iload_n 1, 0, 0, 0) := rfl
theorem r_81_3 : sm_ic 81 3 = some (.invokestatic 96, 78, 1, 534) := rfl
theorem r_81_6 : sm_ic 81 6 = some (.imul, 0, 0, 0) := rfl
theorem r_81_7 : sm_ic 81 7 = some (.aload_n 0, 0, 0, 0) := rfl
theorem r_81_8 : sm_ic 81 8 = some (.getfield 84, 1, 7, 105) := rfl
theorem r_81_11 : sm_ic 81 11 = some (.aload_n 0, 0, 0, 0) := rfl
theorem r_81_12 : sm_ic 81 12 = some (.getfield 43, 1, 3, 101) := rfl
theorem r_81_15 : sm_ic 81 15 = some (.imul, 0, 0, 0) := rfl
theorem r_81_16 : sm_ic 81 16 = some (.if_icmp .lt 7, 23, 0, 0) := rfl
theorem r_81_19 : sm_ic 81 19 = some (.iconst 1, 0, 0, 0) := rfl
theorem r_81_20 : sm_ic 81 20 = some (.goto 4, 24, 0, 0) := rfl
theorem r_81_23 : sm_ic 81 23 = some (.iconst 0, 0, 0, 0) := rfl
theorem r_81_24 : sm_ic 81 24 = some (.ireturn, 0, 0, 0) := rfl
theorem r_82_0 : sm_ic 82 0 = some (.iload_n 0, 0, 0, 0) := rfl
theorem r_82_1 : sm_ic 82 1 = some (.ifCond .eq 7, 8, 0, 0) := rfl
theorem r_82_4 : sm_ic 82 4 = some (.iconst 1, 0, 0, 0) := rfl
theorem r_82_5 : sm_ic 82 5 = some (.goto 4, 9, 0, 0) := rfl
theorem r_82_8 : sm_ic 82 8 = some (.iconst 0, 0, 0, 0) := rfl
theorem r_82_9 : sm_ic 82 9 = some (.ireturn, 0, 0, 0) := rfl
theorem r_83_0 : sm_ic 83 0 = some (.iload_n 1, 0, 0, 0) := rfl
theorem r_83_1 : sm_ic 83 1 = some (.invokestatic 127, 62, 1, 450) := rfl
theorem r_83_4 : sm_ic 83 4 = some (.ifCond .eq 10, 14, 0, 0) := rfl
theorem r_83_7 : sm_ic 83 7 = some (.iload_n 2, 0, 0, 0) := rfl
theorem r_83_8 : sm_ic 83 8 = some (.invokestatic 163, 84, 1, 542) := rfl
theorem r_83_11 : sm_ic 83 11 = some (.ifCond .ne 5, 16, 0, 0) := rfl
theorem r_83_14 : sm_ic 83 14 = some (.iconst (-1), 0, 0, 0) := rfl
theorem r_83_15 : sm_ic 83 15 = some (.ireturn, 0, 0, 0) := rfl
theorem r_83_16 : sm_ic 83 16 = some (.aload_n 0, 0, 0, 0) := rfl
theorem r_83_17 : sm_ic 83 17 = some (.aload_n 0, 0, 0, 0) := rfl
theorem r_83_18 : sm_ic 83 18 = some (.getfield 89, 0, 8, 356) := rfl
theorem r_83_21 : sm_ic 83 21 = some (.iload_n 1, 0, 0, 0) := rfl
theorem r_83_22 : sm_ic 83 22 = some (.invokevirtual 141, 73, 3, 492) := rfl
theorem r_83_25 : sm_ic 83 25 = some (.istore_n 3, 0, 0, 0) := rfl
theorem r_83_26 : sm_ic 83 26 = some (.iload_n 2, 0, 0, 0) := rfl
theorem r_83_27 : sm_ic 83 27 = some (.ifCond .ne 14, 41, 0, 0) := rfl
theorem r_83_30 : sm_ic 83 30 = some (.aload_n 0, 0, 0, 0) := rfl
theorem r_83_31 : sm_ic 83 31 = some (.getfield 30, 0, 3, 351) := rfl
theorem r_83_34 : sm_ic 83 34 = some (.iload_n 3, 0, 0, 0) := rfl
theorem r_83_35 : sm_ic 83 35 = some (.invokevirtual 166, 85, 2, 545) := rfl
theorem r_83_38 : sm_ic 83 38 = some (.goto 14, 52, 0, 0) := rfl
theorem r_83_41 : sm_ic 83 41 = some (.aload_n 0, 0, 0, 0) := rfl
theorem r_83_42 : sm_ic 83 42 = some (.getfield 30, 0, 3, 351) := rfl
theorem r_83_45 : sm_ic 83 45 = some (.iload_n 3, 0, 0, 0) := rfl
theorem r_83_46 : sm_ic 83 46 = some (.invokevirtual 169, 87, 2, 553) := rfl
theorem r_83_49 : sm_ic 83 49 = some (.invokestatic 159, 82, 1, 535) := rfl
theorem r_83_52 : sm_ic 83 52 = some (.ireturn, 0, 0, 0) := rfl
theorem r_84_0 : sm_ic 84 0 = some (.iload_n 0, 0, 0, 0) := rfl
theorem r_84_1 : sm_ic 84 1 = some (.ifCond .eq 8, 9, 0, 0) := rfl
theorem r_84_4 : sm_ic 84 4 = some (.iload_n 0, 0, 0, 0) := rfl
theorem r_84_5 : sm_ic 84 5 = some (.iconst 1, 0, 0, 0) := rfl
theorem r_84_6 : sm_ic 84 6 = some (.if_icmp .ne 7, 13, 0, 0) := rfl
theorem r_84_9 : sm_ic 84 9 = some (.iconst 1, 0, 0, 0) := rfl
theorem r_84_10 : sm_ic 84 10 = some (.goto 4, 14, 0, 0) := rfl
theorem r_84_13 : sm_ic 84 13 = some (.iconst 0, 0, 0, 0) := rfl
theorem r_84_14 : sm_ic 84 14 = some (.ireturn, 0, 0, 0) := rfl
theorem r_85_0 : sm_ic 85 0 = some (.aload_n 0, 0, 0, 0) := rfl
theorem r_85_1 : sm_ic 85 1 = some (.aload_n 0, 0, 0, 0) := rfl
theorem r_85_2 : sm_ic 85 2 = some (.invokevirtual 90, 86, 1, 549) := rfl
theorem r_85_5 : sm_ic 85 5 = some (.iload_n 1, 0, 0, 0) := rfl
theorem r_85_6 : sm_ic 85 6 = some (.iconst (-1), 0, 0, 0) := rfl
theorem r_85_7 : sm_ic 85 7 = some (.ixor, 0, 0, 0) := rfl
theorem r_85_8 : sm_ic 85 8 = some (.iand, 0, 0, 0) := rfl
theorem r_85_9 : sm_ic 85 9 = some (.invokevirtual 61, 40, 2, 332) := rfl
theorem r_85_12 : sm_ic 85 12 = some (.ireturn, 0, 0, 0) := rfl
theorem r_86_0 : sm_ic 86 0 = some (.iconst 1, 0, 0, 0) := rfl
theorem r_86_1 : sm_ic 86 1 = some (.aload_n 0, 0, 0, 0) := rfl
theorem r_86_2 : sm_ic 86 2 = some (.getfield 43, 1, 3, 101) := rfl
theorem r_86_5 : sm_ic 86 5 = some (.ishl, 0, 0, 0) := rfl
theorem r_86_6 : sm_ic 86 6 = some (.iconst 1, 0, 0, 0) := rfl
theorem r_86_7 : sm_ic 86 7 = some (.isub, 0, 0, 0) := rfl
theorem r_86_8 : sm_ic 86 8 = some (.ireturn, 0, 0, 0) := rfl
theorem r_87_0 : sm_ic 87 0 = some (.aload_n 0, 0, 0, 0) := rfl
theorem r_87_1 : sm_ic 87 1 = some (.iload_n 1, 0, 0, 0) := rfl
theorem r_87_2 : sm_ic 87 2 = some (.invokevirtual 93, 85, 2, 557) := rfl
theorem r_87_5 : sm_ic 87 5 = some (.aload_n 0, 0, 0, 0) := rfl
theorem r_87_6 : sm_ic 87 6 = some (.getfield 81, 1, 6, 104) := rfl
theorem r_87_9 : sm_ic 87 9 = some (.if_icmp .lt 7, 16, 0, 0) := rfl
theorem r_87_12 : sm_ic 87 12 = some (.iconst 1, 0, 0, 0) := rfl
theorem r_87_13 : sm_ic 87 13 = some (.goto 4, 17, 0, 0) := rfl
theorem r_87_16 : sm_ic 87 16 = some (.iconst 0, 0, 0, 0) := rfl
theorem r_87_17 : sm_ic 87 17 = some (.ireturn, 0, 0, 0) := rfl
theorem r_88_0 : sm_ic 88 0 = some (.aload_n 0, 0, 0, 0) := rfl
theorem r_88_1 : sm_ic 88 1 = some (.iload_n 1, 0, 0, 0) := rfl
theorem r_88_2 : sm_ic 88 2 = some (.invokevirtual 98, 55, 2, 420) := rfl
theorem r_88_5 : sm_ic 88 5 = some (.ifCond .eq 12, 17, 0, 0) := rfl
theorem r_88_8 : sm_ic 88 8 = some (.iload_n 2, 0, 0, 0) := rfl
theorem r_88_9 : sm_ic 88 9 = some (.ifCond .lt 8, 17, 0, 0) := rfl
theorem r_88_12 : sm_ic 88 12 = some (.iload_n 2, 0, 0, 0) := rfl
theorem r_88_13 : sm_ic 88 13 = some (.iconst 3, 0, 0, 0) := rfl
theorem r_88_14 : sm_ic 88 14 = some (.if_icmp .le 5, 19, 0, 0) := rfl
theorem r_88_17 : sm_ic 88 17 = some (.iconst (-1), 0, 0, 0) := rfl
theorem r_88_18 : sm_ic 88 18 = some (.ireturn, 0, 0, 0) := rfl
theorem r_88_19 : sm_ic 88 19 = some (.aload_n 0, 0, 0, 0) := rfl
theorem r_88_20 : sm_ic 88 20 = some (.getfield 89, 0, 8, 356) := rfl
theorem r_88_23 : sm_ic 88 23 = some (.iload_n 1, 0, 0, 0) := rfl
theorem r_88_24 : sm_ic 88 24 = some (.invokestatic 105, 56, 2, 425) := rfl
theorem r_88_27 : sm_ic 88 27 = some (.istore_n 3, 0, 0, 0) := rfl
theorem r_88_28 : sm_ic 88 28 = some (.aload_n 0, 0, 0, 0) := rfl
theorem r_88_29 : sm_ic 88 29 = some (.aload_n 0, 0, 0, 0) := rfl
theorem r_88_30 : sm_ic 88 30 = some (.getfield 89, 0, 8, 356) := rfl
theorem r_88_33 : sm_ic 88 33 = some (.iload_n 1, 0, 0, 0) := rfl
theorem r_88_34 : sm_ic 88 34 = some (.iload_n 2, 0, 0, 0) := rfl
theorem r_88_35 : sm_ic 88 35 = some (.invokestatic 172, 33, 3, 562) := rfl
theorem r_88_38 : sm_ic 88 38 = some (.invokevirtual 176, 89, 2, 563) := rfl
theorem r_88_41 : sm_ic 88 41 = some (.iload_n 3, 0, 0, 0) := rfl
theorem r_88_42 : sm_ic 88 42 = some (.ireturn, 0, 0, 0) := rfl
theorem r_89_0 : sm_ic 89 0 = some (.aload_n 0, 0, 0, 0) := rfl
theorem r_89_1 : sm_ic 89 1 = some (.getfield 45, 0, 5, 353) := rfl
theorem r_89_4 : sm_ic 89 4 = some (.aload_n 0, 0, 0, 0) := rfl
theorem r_89_5 : sm_ic 89 5 = some (.getfield 89, 0, 8, 356) := rfl
theorem r_89_8 : sm_ic 89 8 = some (.invokevirtual 249, 90, 2, 567) := rfl
theorem r_89_11 : sm_ic 89 11 = some (.aload_n 0, 0, 0, 0) := rfl
theorem r_89_12 : sm_ic 89 12 = some (.lload_n 1, 0, 0, 0) := rfl
theorem r_89_13 : sm_ic 89 13 = some (.putfield 89, 0, 8, 356) := rfl
theorem r_89_16 : sm_ic 89 16 = some (.return_, 0, 0, 0) := rfl
theorem r_90_0 : sm_ic 90 0 = some (.aload_n 0, 0, 0, 0) := rfl
theorem r_90_1 : sm_ic 90 1 = some (.getfield 19, 4, 1, 161) := rfl
theorem r_90_4 : sm_ic 90 4 = some (.aload_n 0, 0, 0, 0) := rfl
theorem r_90_5 : sm_ic 90 5 = some (.getfield 13, 4, 0, 160) := rfl
theorem r_90_8 : sm_ic 90 8 = some (.arraylength, 0, 0, 0) := rfl
theorem r_90_9 : sm_ic 90 9 = some (.if_icmp .lt 7, 16, 0, 0) := rfl
theorem r_90_12 : sm_ic 90 12 = some (.aload_n 0, 0, 0, 0) := rfl
theorem r_90_13 : sm_ic 90 13 = some (.invokevirtual 23, 91, 1, 571) := rfl
theorem r_90_16 : sm_ic 90 16 = some (.aload_n 0, 0, 0, 0) := rfl
theorem r_90_17 : sm_ic 90 17 = some (.getfield 19, 4, 1, 161) := rfl
theorem r_90_20 : sm_ic 90 20 = some (.ifCond .lt 35, 55, 0, 0) := rfl
theorem r_90_23 : sm_ic 90 23 = some (.aload_n 0, 0, 0, 0) := rfl
theorem r_90_24 : sm_ic 90 24 = some (.getfield 19, 4, 1, 161) := rfl
theorem r_90_27 : sm_ic 90 27 = some (.aload_n 0, 0, 0, 0) := rfl
theorem r_90_28 : sm_ic 90 28 = some (.getfield 13, 4, 0, 160) := rfl
theorem r_90_31 : sm_ic 90 31 = some (.arraylength, 0, 0, 0) := rfl
theorem r_90_32 : sm_ic 90 32 = some (.if_icmp .ge 23, 55, 0, 0) := rfl
theorem r_90_35 : sm_ic 90 35 = some (.aload_n 0, 0, 0, 0) := rfl
theorem r_90_36 : sm_ic 90 36 = some (.getfield 13, 4, 0, 160) := rfl
theorem r_90_39 : sm_ic 90 39 = some (.aload_n 0, 0, 0, 0) := rfl
theorem r_90_40 : sm_ic 90 40 = some (.getfield 19, 4, 1, 161) := rfl
theorem r_90_43 : sm_ic 90 43 = some (.lload_n 1, 0, 0, 0) := rfl
theorem r_90_44 : sm_ic 90 44 = some (.lastore, 0, 0, 0) := rfl
theorem r_90_45 : sm_ic 90 45 = some (.aload_n 0, 0, 0, 0) := rfl
theorem r_90_46 : sm_ic 90 46 = some (.dup, 0, 0, 0) := rfl
theorem r_90_47 : sm_ic 90 47 = some (.getfield 19, 4, 1, 161) := rfl
theorem r_90_50 : sm_ic 90 50 = some (.iconst 1, 0, 0, 0) := rfl
theorem r_90_51 : sm_ic 90 51 = some (.iadd, 0, 0, 0) := rfl
theorem r_90_52 : sm_ic 90 52 = some (.putfield 19, 4, 1, 161) := rfl
theorem r_90_55 : sm_ic 90 55 = some (.return_, 0, 0, 0) := rfl
theorem r_91_0 : sm_ic 91 0 = some (.iconst 1, 0, 0, 0) := rfl
theorem r_91_1 : sm_ic 91 1 = some (.istore_n 1, 0, 0, 0) := rfl
theorem r_91_2 : sm_ic 91 2 = some (.iload_n 1, 0, 0, 0) := rfl
theorem r_91_3 : sm_ic 91 3 = some (.aload_n 0, 0, 0, 0) := rfl
theorem r_91_4 : sm_ic 91 4 = some (.getfield 13, 4, 0, 160) := rfl
theorem r_91_7 : sm_ic 91 7 = some (.arraylength, 0, 0, 0) := rfl
theorem r_91_8 : sm_ic 91 8 = some (.if_icmp .ge 23, 31, 0, 0) := rfl
theorem r_91_11 : sm_ic 91 11 = some (.aload_n 0, 0, 0, 0) := rfl
theorem r_91_12 : sm_ic 91 12 = some (.getfield 13, 4, 0, 160) := rfl
theorem r_91_15 : sm_ic 91 15 = some (.iload_n 1, 0, 0, 0) := rfl
theorem r_91_16 : sm_ic 91 16 = some (.iconst 1, 0, 0, 0) := rfl
theorem r_91_17 : sm_ic 91 17 = some (.isub, 0, 0, 0) := rfl
theorem r_91_18 : sm_ic 91 18 = some (.aload_n 0, 0, 0, 0) := rfl
theorem r_91_19 : sm_ic 91 19 = some (.getfield 13, 4, 0, 160) := rfl
theorem r_91_22 : sm_ic 91 22 = some (.iload_n 1, 0, 0, 0) := rfl
theorem r_91_23 : sm_ic 91 23 = some (.laload, 0, 0, 0) := rfl
theorem r_91_24 : sm_ic 91 24 = some (.lastore, 0, 0, 0) := rfl
theorem r_91_25 : sm_ic 91 25 = some (.iinc 1 1, 0, 0, 0) := rfl
theorem r_91_28 : sm_ic 91 28 = some (.goto (-26), 2, 0, 0) := rfl
theorem r_91_31 : sm_ic 91 31 = some (.aload_n 0, 0, 0, 0) := rfl
theorem r_91_32 : sm_ic 91 32 = some (.aload_n 0, 0, 0, 0) := rfl
theorem r_91_33 : sm_ic 91 33 = some (.getfield 13, 4, 0, 160) := rfl
theorem r_91_36 : sm_ic 91 36 = some (.arraylength, 0, 0, 0) := rfl
theorem r_91_37 : sm_ic 91 37 = some (.iconst 1, 0, 0, 0) := rfl
theorem r_91_38 : sm_ic 91 38 = some (.isub, 0, 0, 0) := rfl
theorem r_91_39 : sm_ic 91 39 = some (.iconst 0, 0, 0, 0) := rfl
theorem r_91_40 : sm_ic 91 40 = some (.invokestatic 7, 9997, 0, 157) := rfl
theorem r_91_43 : sm_ic 91 43 = some (.putfield 19, 4, 1, 161) := rfl
theorem r_91_46 : sm_ic 91 46 = some (.return_, 0, 0, 0) := rfl
theorem r_92_0 : sm_ic 92 0 = some (.aload_n 0, 0, 0, 0) := rfl
theorem r_92_1 : sm_ic 92 1 = some (.iload_n 1, 0, 0, 0) := rfl
theorem r_92_2 : sm_ic 92 2 = some (.invokevirtual 98, 55, 2, 420) := rfl
theorem r_92_5 : sm_ic 92 5 = some (.ifCond .eq 11, 16, 0, 0) := rfl
theorem r_92_8 : sm_ic 92 8 = some (.aload_n 0, 0, 0, 0) := rfl
theorem r_92_9 : sm_ic 92 9 = some (.iload_n 2, 0, 0, 0) := rfl
theorem r_92_10 : sm_ic 92 10 = some (.invokevirtual 98, 55, 2, 420) := rfl
theorem r_92_13 : sm_ic 92 13 = some (.ifCond .ne 5, 18, 0, 0) := rfl
theorem r_92_16 : sm_ic 92 16 = some (.iconst (-1), 0, 0, 0) := rfl
theorem r_92_17 : sm_ic 92 17 = some (.ireturn, 0, 0, 0) := rfl
theorem r_92_18 : sm_ic 92 18 = some (.aload_n 0, 0, 0, 0) := rfl
theorem r_92_19 : sm_ic 92 19 = some (.getfield 89, 0, 8, 356) := rfl
theorem r_92_22 : sm_ic 92 22 = some (.iload_n 1, 0, 0, 0) := rfl
theorem r_92_23 : sm_ic 92 23 = some (.invokestatic 111, 49, 2, 428) := rfl
theorem r_92_26 : sm_ic 92 26 = some (.istore_n 3, 0, 0, 0) := rfl
theorem r_92_27 : sm_ic 92 27 = some (.aload_n 0, 0, 0, 0) := rfl
theorem r_92_28 : sm_ic 92 28 = some (.aload_n 0, 0, 0, 0) := rfl
theorem r_92_29 : sm_ic 92 29 = some (.getfield 89, 0, 8, 356) := rfl
theorem r_92_32 : sm_ic 92 32 = some (.iload_n 1, 0, 0, 0) := rfl
theorem r_92_33 : sm_ic 92 33 = some (.iload_n 2, 0, 0, 0) := rfl
theorem r_92_34 : sm_ic 92 34 = some (.invokestatic 180, 35, 3, 579) := rfl
theorem r_92_37 : sm_ic 92 37 = some (.invokevirtual 176, 89, 2, 563) := rfl
theorem r_92_40 : sm_ic 92 40 = some (.iload_n 3, 0, 0, 0) := rfl
theorem r_92_41 : sm_ic 92 41 = some (.ireturn, 0, 0, 0) := rfl
theorem r_93_0 : sm_ic 93 0 = some (.aload_n 0, 0, 0, 0) := rfl
theorem r_93_1 : sm_ic 93 1 = some (.iload_n 1, 0, 0, 0) := rfl
theorem r_93_2 : sm_ic 93 2 = some (.invokevirtual 117, 58, 2, 434) := rfl
theorem r_93_5 : sm_ic 93 5 = some (.ifCond .ne 5, 10, 0, 0) := rfl
theorem r_93_8 : sm_ic 93 8 = some (.iconst (-1), 0, 0, 0) := rfl
theorem r_93_9 : sm_ic 93 9 = some (.ireturn, 0, 0, 0) := rfl
theorem r_93_10 : sm_ic 93 10 = some (.aload_n 0, 0, 0, 0) := rfl
theorem r_93_11 : sm_ic 93 11 = some (.getfield 89, 0, 8, 356) := rfl
theorem r_93_14 : sm_ic 93 14 = some (.invokestatic 123, 60, 1, 443) := rfl
theorem r_93_17 : sm_ic 93 17 = some (.iconst 1, 0, 0, 0) := rfl
theorem r_93_18 : sm_ic 93 18 = some (.iload_n 1, 0, 0, 0) := rfl
theorem r_93_19 : sm_ic 93 19 = some (.ishl, 0, 0, 0) := rfl
theorem r_93_20 : sm_ic 93 20 = some (.ixor, 0, 0, 0) := rfl
theorem r_93_21 : sm_ic 93 21 = some (.istore_n 2, 0, 0, 0) := rfl
theorem r_93_22 : sm_ic 93 22 = some (.aload_n 0, 0, 0, 0) := rfl
theorem r_93_23 : sm_ic 93 23 = some (.aload_n 0, 0, 0, 0) := rfl
theorem r_93_24 : sm_ic 93 24 = some (.getfield 89, 0, 8, 356) := rfl
theorem r_93_27 : sm_ic 93 27 = some (.iload_n 2, 0, 0, 0) := rfl
theorem r_93_28 : sm_ic 93 28 = some (.invokestatic 183, 94, 2, 584) := rfl
theorem r_93_31 : sm_ic 93 31 = some (.invokevirtual 176, 89, 2, 563) := rfl
theorem r_93_34 : sm_ic 93 34 = some (.iload_n 2, 0, 0, 0) := rfl
theorem r_93_35 : sm_ic 93 35 = some (.iload_n 1, 0, 0, 0) := rfl
theorem r_93_36 : sm_ic 93 36 = some (.iushr, 0, 0, 0) := rfl
theorem r_93_37 : sm_ic 93 37 = some (.iconst 1, 0, 0, 0) := rfl
theorem r_93_38 : sm_ic 93 38 = some (.iand, 0, 0, 0) := rfl
theorem r_93_39 : sm_ic 93 39 = some (.ireturn, 0, 0, 0) := rfl
theorem r_94_0 : sm_ic 94 0 = some (.lload_n 0, 0, 0, 0) := rfl
theorem r_94_1 : sm_ic 94 1 = some (.bipush 40, 0, 0, 0) := rfl
theorem r_94_3 : sm_ic 94 3 = some (.iconst 5, 0, 0, 0) := rfl
theorem r_94_4 : sm_ic 94 4 = some (.iload_n 2, 0, 0, 0) := rfl
theorem r_94_5 : sm_ic 94 5 = some (.invokestatic 15, 34, 4, 309) := rfl
theorem r_94_8 : sm_ic 94 8 = some (.lreturn, 0, 0, 0) := rfl
theorem r_95_0 : sm_ic 95 0 = some (.iload_n 1, 0, 0, 0) := rfl
theorem r_95_1 : sm_ic 95 1 = some (.invokestatic 163, 84, 1, 542) := rfl
theorem r_95_4 : sm_ic 95 4 = some (.ifCond .ne 5, 9, 0, 0) := rfl
theorem r_95_7 : sm_ic 95 7 = some (.iconst (-1), 0, 0, 0) := rfl
theorem r_95_8 : sm_ic 95 8 = some (.ireturn, 0, 0, 0) := rfl
theorem r_95_9 : sm_ic 95 9 = some (.aload_n 0, 0, 0, 0) := rfl
theorem r_95_10 : sm_ic 95 10 = some (.getfield 89, 0, 8, 356) := rfl
theorem r_95_13 : sm_ic 95 13 = some (.invokestatic 187, 69, 1, 591) := rfl
theorem r_95_16 : sm_ic 95 16 = some (.iload_n 1, 0, 0, 0) := rfl
theorem r_95_17 : sm_ic 95 17 = some (.ifCond .ne 7, 24, 0, 0) := rfl
theorem r_95_20 : sm_ic 95 20 = some (.iconst 1, 0, 0, 0) := rfl
theorem r_95_21 : sm_ic 95 21 = some (.goto 4, 25, 0, 0) := rfl
theorem r_95_24 : sm_ic 95 24 = some (.iconst 0, 0, 0, 0) := rfl
theorem r_95_25 : sm_ic 95 25 = some (.if_icmp .eq 7, 32, 0, 0) := rfl
theorem r_95_28 : sm_ic 95 28 = some (.iconst 1, 0, 0, 0) := rfl
theorem r_95_29 : sm_ic 95 29 = some (.goto 4, 33, 0, 0) := rfl
theorem r_95_32 : sm_ic 95 32 = some (.iconst 0, 0, 0, 0) := rfl
theorem r_95_33 : sm_ic 95 33 = some (.istore_n 2, 0, 0, 0) := rfl
theorem r_95_34 : sm_ic 95 34 = some (.aload_n 0, 0, 0, 0) := rfl
theorem r_95_35 : sm_ic 95 35 = some (.getfield 89, 0, 8, 356) := rfl
theorem r_95_38 : sm_ic 95 38 = some (.invokestatic 144, 64, 1, 515) := rfl
theorem r_95_41 : sm_ic 95 41 = some (.iload_n 1, 0, 0, 0) := rfl
theorem r_95_42 : sm_ic 95 42 = some (.iconst 1, 0, 0, 0) := rfl
theorem r_95_43 : sm_ic 95 43 = some (.if_icmp .ne 7, 50, 0, 0) := rfl
theorem r_95_46 : sm_ic 95 46 = some (.iconst 1, 0, 0, 0) := rfl
theorem r_95_47 : sm_ic 95 47 = some (.goto 4, 51, 0, 0) := rfl
theorem r_95_50 : sm_ic 95 50 = some (.iconst 0, 0, 0, 0) := rfl
theorem r_95_51 : sm_ic 95 51 = some (.if_icmp .eq 7, 58, 0, 0) := rfl
theorem r_95_54 : sm_ic 95 54 = some (.iconst 1, 0, 0, 0) := rfl
theorem r_95_55 : sm_ic 95 55 = some (.goto 4, 59, 0, 0) := rfl
theorem r_95_58 : sm_ic 95 58 = some (.iconst 0, 0, 0, 0) := rfl
theorem r_95_59 : sm_ic 95 59 = some (.istore_n 3, 0, 0, 0) := rfl
theorem r_95_60 : sm_ic 95 60 = some (.aload_n 0, 0, 0, 0) := rfl
theorem r_95_61 : sm_ic 95 61 = some (.aload_n 0, 0, 0, 0) := rfl
theorem r_95_62 : sm_ic 95 62 = some (.getfield 89, 0, 8, 356) := rfl
theorem r_95_65 : sm_ic 95 65 = some (.iload_n 2, 0, 0, 0) := rfl
theorem r_95_66 : sm_ic 95 66 = some (.iload_n 3, 0, 0, 0) := rfl
theorem r_95_67 : sm_ic 95 67 = some (.invokestatic 190, 96, 3, 592) := rfl
theorem r_95_70 : sm_ic 95 70 = some (.invokevirtual 176, 89, 2, 563) := rfl
theorem r_95_73 : sm_ic 95 73 = some (.iload_n 1, 0, 0, 0) := rfl
theorem r_95_74 : sm_ic 95 74 = some (.ifCond .ne 7, 81, 0, 0) := rfl
theorem r_95_77 : sm_ic 95 77 = some (.iload_n 2, 0, 0, 0) := rfl
theorem r_95_78 : sm_ic 95 78 = some (.goto 4, 82, 0, 0) := rfl
theorem r_95_81 : sm_ic 95 81 = some (.iload_n 3, 0, 0, 0) := rfl
theorem r_95_82 : sm_ic 95 82 = some (.invokestatic 159, 82, 1, 535) := rfl
theorem r_95_85 : sm_ic 95 85 = some (.ireturn, 0, 0, 0) := rfl
theorem r_96_0 : sm_ic 96 0 = some (.lload_n 0, 0, 0, 0) := rfl
theorem r_96_1 : sm_ic 96 1 = some (.bipush 45, 0, 0, 0) := rfl
theorem r_96_3 : sm_ic 96 3 = some (.iconst 1, 0, 0, 0) := rfl
theorem r_96_4 : sm_ic 96 4 = some (.iload_n 2, 0, 0, 0) := rfl
theorem r_96_5 : sm_ic 96 5 = some (.invokestatic 19, 82, 1, 5001) := rfl
theorem r_96_8 : sm_ic 96 8 = some (.invokestatic 15, 34, 4, 309) := rfl
theorem r_96_11 : sm_ic 96 11 = some (.bipush 46, 0, 0, 0) := rfl
theorem r_96_13 : sm_ic 96 13 = some (.iconst 1, 0, 0, 0) := rfl
theorem r_96_14 : sm_ic 96 14 = some (.iload_n 3, 0, 0, 0) := rfl
theorem r_96_15 : sm_ic 96 15 = some (.invokestatic 19, 82, 1, 5001) := rfl
theorem r_96_18 : sm_ic 96 18 = some (.invokestatic 15, 34, 4, 309) := rfl
theorem r_96_21 : sm_ic 96 21 = some (.lreturn, 0, 0, 0) := rfl
theorem r_97_0 : sm_ic 97 0 = some (.aload_n 0, 0, 0, 0) := rfl
theorem r_97_1 : sm_ic 97 1 = some (.getfield 45, 0, 5, 353) := rfl
theorem r_97_4 : sm_ic 97 4 = some (.invokevirtual 194, 98, 1, 600) := rfl
theorem r_97_7 : sm_ic 97 7 = some (.ifCond .ne 6, 13, 0, 0) := rfl
theorem r_97_10 : sm_ic 97 10 = some (.bipush (-2), 0, 0, 0) := rfl
theorem r_97_12 : sm_ic 97 12 = some (.ireturn, 0, 0, 0) := rfl
theorem r_97_13 : sm_ic 97 13 = some (.aload_n 0, 0, 0, 0) := rfl
theorem r_97_14 : sm_ic 97 14 = some (.aload_n 0, 0, 0, 0) := rfl
theorem r_97_15 : sm_ic 97 15 = some (.getfield 45, 0, 5, 353) := rfl
theorem r_97_18 : sm_ic 97 18 = some (.aload_n 0, 0, 0, 0) := rfl
theorem r_97_19 : sm_ic 97 19 = some (.getfield 89, 0, 8, 356) := rfl
theorem r_97_22 : sm_ic 97 22 = some (.invokevirtual 197, 99, 2, 604) := rfl
theorem r_97_25 : sm_ic 97 25 = some (.putfield 89, 0, 8, 356) := rfl
theorem r_97_28 : sm_ic 97 28 = some (.aload_n 0, 0, 0, 0) := rfl
theorem r_97_29 : sm_ic 97 29 = some (.getfield 45, 0, 5, 353) := rfl
theorem r_97_32 : sm_ic 97 32 = some (.invokevirtual 194, 98, 1, 600) := rfl
theorem r_97_35 : sm_ic 97 35 = some (.ireturn, 0, 0, 0) := rfl
theorem r_98_0 : sm_ic 98 0 = some (.aload_n 0, 0, 0, 0) := rfl
theorem r_98_1 : sm_ic 98 1 = some (.getfield 19, 4, 1, 161) := rfl
theorem r_98_4 : sm_ic 98 4 = some (.ireturn, 0, 0, 0) := rfl
theorem r_99_0 : sm_ic 99 0 = some (.aload_n 0, 0, 0, 0) := rfl
theorem r_99_1 : sm_ic 99 1 = some (.getfield 19, 4, 1, 161) := rfl
theorem r_99_4 : sm_ic 99 4 = some (.iconst 1, 0, 0, 0) := rfl
theorem r_99_5 : sm_ic 99 5 = some (.isub, 0, 0, 0) := rfl
theorem r_99_6 : sm_ic 99 6 = some (.istore_n 3, 0, 0, 0) := rfl
theorem r_99_7 : sm_ic 99 7 = some (.iload_n 3, 0, 0, 0) := rfl
theorem r_99_8 : sm_ic 99 8 = some (.ifCond .lt 12, 20, 0, 0) := rfl
theorem r_99_11 : sm_ic 99 11 = some (.iload_n 3, 0, 0, 0) := rfl
theorem r_99_12 : sm_ic 99 12 = some (.aload_n 0, 0, 0, 0) := rfl
theorem r_99_13 : sm_ic 99 13 = some (.getfield 13, 4, 0, 160) := rfl
theorem r_99_16 : sm_ic 99 16 = some (.arraylength, 0, 0, 0) := rfl
theorem r_99_17 : sm_ic 99 17 = some (.if_icmp .lt 5, 22, 0, 0) := rfl
theorem r_99_20 : sm_ic 99 20 = some (.lload_n 1, 0, 0, 0) := rfl
theorem r_99_21 : sm_ic 99 21 = some (.lreturn, 0, 0, 0) := rfl
theorem r_99_22 : sm_ic 99 22 = some (.aload_n 0, 0, 0, 0) := rfl
theorem r_99_23 : sm_ic 99 23 = some (.iload_n 3, 0, 0, 0) := rfl
theorem r_99_24 : sm_ic 99 24 = some (.putfield 19, 4, 1, 161) := rfl
theorem r_99_27 : sm_ic 99 27 = some (.aload_n 0, 0, 0, 0) := rfl
theorem r_99_28 : sm_ic 99 28 = some (.getfield 13, 4, 0, 160) := rfl
theorem r_99_31 : sm_ic 99 31 = some (.iload_n 3, 0, 0, 0) := rfl
theorem r_99_32 : sm_ic 99 32 = some (.laload, 0, 0, 0) := rfl
theorem r_99_33 : sm_ic 99 33 = some (.lreturn, 0, 0, 0) := rfl
theorem r_100_0 : sm_ic 100 0 = some (.iload_n 1, 0, 0, 0) := rfl
theorem r_100_1 : sm_ic 100 1 = some (.invokestatic 127, 62, 1, 450) := rfl
theorem r_100_4 : sm_ic 100 4 = some (.ifCond .ne 5, 9, 0, 0) := rfl
theorem r_100_7 : sm_ic 100 7 = some (.iconst (-1), 0, 0, 0) := rfl
theorem r_100_8 : sm_ic 100 8 = some (.ireturn, 0, 0, 0) := rfl
theorem r_100_9 : sm_ic 100 9 = some (.aload_n 0, 0, 0, 0) := rfl
theorem r_100_10 : sm_ic 100 10 = some (.getfield 30, 0, 3, 351) := rfl
theorem r_100_13 : sm_ic 100 13 = some (.aload_n 0, 0, 0, 0) := rfl
theorem r_100_14 : sm_ic 100 14 = some (.aload_n 0, 0, 0, 0) := rfl
theorem r_100_15 : sm_ic 100 15 = some (.getfield 89, 0, 8, 356) := rfl
theorem r_100_18 : sm_ic 100 18 = some (.iload_n 1, 0, 0, 0) := rfl
theorem r_100_19 : sm_ic 100 19 = some (.invokevirtual 141, 73, 3, 492) := rfl
theorem r_100_22 : sm_ic 100 22 = some (.invokevirtual 156, 81, 2, 530) := rfl
theorem r_100_25 : sm_ic 100 25 = some (.istore_n 2, 0, 0, 0) := rfl
theorem r_100_26 : sm_ic 100 26 = some (.aload_n 0, 0, 0, 0) := rfl
theorem r_100_27 : sm_ic 100 27 = some (.getfield 89, 0, 8, 356) := rfl
theorem r_100_30 : sm_ic 100 30 = some (.iload_n 1, 0, 0, 0) := rfl
theorem r_100_31 : sm_ic 100 31 = some (.invokestatic 134, 70, 2, 481) := rfl
theorem r_100_34 : sm_ic 100 34 = some (.istore_n 3, 0, 0, 0) := rfl
theorem r_100_35 : sm_ic 100 35 = some (.iconst 0, 0, 0, 0) := rfl
theorem r_100_36 : sm_ic 100 36 = some (.istore 4, 0, 0, 0) := rfl
theorem r_100_38 : sm_ic 100 38 = some (.iconst 0, 0, 0, 0) := rfl
theorem r_100_39 : sm_ic 100 39 = some (.istore 5, 0, 0, 0) := rfl
theorem r_100_41 : sm_ic 100 41 = some (.iload 5, 0, 0, 0) := rfl
theorem r_100_43 : sm_ic 100 43 = some (.aload_n 0, 0, 0, 0) := rfl
theorem r_100_44 : sm_ic 100 44 = some (.getfield 30, 0, 3, 351) := rfl
theorem r_100_47 : sm_ic 100 47 = some (.invokevirtual 95, 53, 1, 412) := rfl
theorem r_100_50 : sm_ic 100 50 = some (.if_icmp .ge 43, 93, 0, 0) := rfl
theorem r_100_53 : sm_ic 100 53 = some (.aload_n 0, 0, 0, 0) := rfl
theorem r_100_54 : sm_ic 100 54 = some (.getfield 30, 0, 3, 351) := rfl
theorem r_100_57 : sm_ic 100 57 = some (.aload_n 0, 0, 0, 0) := rfl
theorem r_100_58 : sm_ic 100 58 = some (.getfield 36, 0, 4, 352) := rfl
theorem r_100_61 : sm_ic 100 61 = some (.iload_n 3, 0, 0, 0) := rfl
theorem r_100_62 : sm_ic 100 62 = some (.iconst 1, 0, 0, 0) := rfl
theorem r_100_63 : sm_ic 100 63 = some (.iload 5, 0, 0, 0) := rfl
theorem r_100_65 : sm_ic 100 65 = some (.ishl, 0, 0, 0) := rfl
theorem r_100_66 : sm_ic 100 66 = some (.ixor, 0, 0, 0) := rfl
theorem r_100_67 : sm_ic 100 67 = some (.iconst 0, 0, 0, 0) := rfl
theorem r_100_68 : sm_ic 100 68 = some (.invokevirtual 201, 74, 3, 496) := rfl
theorem r_100_71 : sm_ic 100 71 = some (.invokevirtual 156, 81, 2, 530) := rfl
theorem r_100_74 : sm_ic 100 74 = some (.iload_n 2, 0, 0, 0) := rfl
theorem r_100_75 : sm_ic 100 75 = some (.if_icmp .eq 12, 87, 0, 0) := rfl
theorem r_100_78 : sm_ic 100 78 = some (.iload 4, 0, 0, 0) := rfl
theorem r_100_80 : sm_ic 100 80 = some (.iconst 1, 0, 0, 0) := rfl
theorem r_100_81 : sm_ic 100 81 = some (.iload 5, 0, 0, 0) := rfl
theorem r_100_83 : sm_ic 100 83 = some (.ishl, 0, 0, 0) := rfl
theorem r_100_84 : sm_ic 100 84 = some (.ior, 0, 0, 0) := rfl
theorem r_100_85 : sm_ic 100 85 = some (.istore 4, 0, 0, 0) := rfl
theorem r_100_87 : sm_ic 100 87 = some (.iinc 5 1, 0, 0, 0) := rfl
theorem r_100_90 : sm_ic 100 90 = some (.goto (-49), 41, 0, 0) := rfl
theorem r_100_93 : sm_ic 100 93 = some (.iload 4, 0, 0, 0) := rfl
theorem r_100_95 : sm_ic 100 95 = some (.ireturn, 0, 0, 0) := rfl
theorem r_101_0 : sm_ic 101 0 = some (.iload_n 1, 0, 0, 0) := rfl
theorem r_101_1 : sm_ic 101 1 = some (.invokestatic 127, 62, 1, 450) := rfl
theorem r_101_4 : sm_ic 101 4 = some (.ifCond .ne 5, 9, 0, 0) := rfl
theorem r_101_7 : sm_ic 101 7 = some (.iconst (-1), 0, 0, 0) := rfl
theorem r_101_8 : sm_ic 101 8 = some (.ireturn, 0, 0, 0) := rfl
theorem r_101_9 : sm_ic 101 9 = some (.aload_n 0, 0, 0, 0) := rfl
theorem r_101_10 : sm_ic 101 10 = some (.getfield 30, 0, 3, 351) := rfl
theorem r_101_13 : sm_ic 101 13 = some (.aload_n 0, 0, 0, 0) := rfl
theorem r_101_14 : sm_ic 101 14 = some (.aload_n 0, 0, 0, 0) := rfl
theorem r_101_15 : sm_ic 101 15 = some (.getfield 89, 0, 8, 356) := rfl
theorem r_101_18 : sm_ic 101 18 = some (.iload_n 1, 0, 0, 0) := rfl
theorem r_101_19 : sm_ic 101 19 = some (.invokevirtual 141, 73, 3, 492) := rfl
theorem r_101_22 : sm_ic 101 22 = some (.invokevirtual 156, 81, 2, 530) := rfl
theorem r_101_25 : sm_ic 101 25 = some (.istore_n 2, 0, 0, 0) := rfl
theorem r_101_26 : sm_ic 101 26 = some (.aload_n 0, 0, 0, 0) := rfl
theorem r_101_27 : sm_ic 101 27 = some (.getfield 89, 0, 8, 356) := rfl
theorem r_101_30 : sm_ic 101 30 = some (.iload_n 1, 0, 0, 0) := rfl
theorem r_101_31 : sm_ic 101 31 = some (.invokestatic 134, 70, 2, 481) := rfl
theorem r_101_34 : sm_ic 101 34 = some (.istore_n 3, 0, 0, 0) := rfl
theorem r_101_35 : sm_ic 101 35 = some (.bipush (-4), 0, 0, 0) := rfl
theorem r_101_37 : sm_ic 101 37 = some (.istore 4, 0, 0, 0) := rfl
theorem r_101_39 : sm_ic 101 39 = some (.bipush 9, 0, 0, 0) := rfl
theorem r_101_41 : sm_ic 101 41 = some (.istore 5, 0, 0, 0) := rfl
theorem r_101_43 : sm_ic 101 43 = some (.iconst 1, 0, 0, 0) := rfl
theorem r_101_44 : sm_ic 101 44 = some (.istore 6, 0, 0, 0) := rfl
theorem r_101_46 : sm_ic 101 46 = some (.iload 6, 0, 0, 0) := rfl
theorem r_101_48 : sm_ic 101 48 = some (.aload_n 0, 0, 0, 0) := rfl
theorem r_101_49 : sm_ic 101 49 = some (.getfield 30, 0, 3, 351) := rfl
theorem r_101_52 : sm_ic 101 52 = some (.invokevirtual 204, 86, 1, 616) := rfl
theorem r_101_55 : sm_ic 101 55 = some (.if_icmp .gt 65, 120, 0, 0) := rfl
theorem r_101_58 : sm_ic 101 58 = some (.iload 6, 0, 0, 0) := rfl
theorem r_101_60 : sm_ic 101 60 = some (.invokestatic 148, 78, 1, 516) := rfl
theorem r_101_63 : sm_ic 101 63 = some (.iload 5, 0, 0, 0) := rfl
theorem r_101_65 : sm_ic 101 65 = some (.if_icmp .ge 7, 72, 0, 0) := rfl
theorem r_101_68 : sm_ic 101 68 = some (.iconst 1, 0, 0, 0) := rfl
theorem r_101_69 : sm_ic 101 69 = some (.goto 4, 73, 0, 0) := rfl
theorem r_101_72 : sm_ic 101 72 = some (.iconst 0, 0, 0, 0) := rfl
theorem r_101_73 : sm_ic 101 73 = some (.istore 7, 0, 0, 0) := rfl
theorem r_101_75 : sm_ic 101 75 = some (.iload 7, 0, 0, 0) := rfl
theorem r_101_77 : sm_ic 101 77 = some (.ifCond .eq 37, 114, 0, 0) := rfl
theorem r_101_80 : sm_ic 101 80 = some (.aload_n 0, 0, 0, 0) := rfl
theorem r_101_81 : sm_ic 101 81 = some (.getfield 30, 0, 3, 351) := rfl
theorem r_101_84 : sm_ic 101 84 = some (.aload_n 0, 0, 0, 0) := rfl
theorem r_101_85 : sm_ic 101 85 = some (.getfield 36, 0, 4, 352) := rfl
theorem r_101_88 : sm_ic 101 88 = some (.iload_n 3, 0, 0, 0) := rfl
theorem r_101_89 : sm_ic 101 89 = some (.iload 6, 0, 0, 0) := rfl
theorem r_101_91 : sm_ic 101 91 = some (.ixor, 0, 0, 0) := rfl
theorem r_101_92 : sm_ic 101 92 = some (.iconst 0, 0, 0, 0) := rfl
theorem r_101_93 : sm_ic 101 93 = some (.invokevirtual 201, 74, 3, 496) := rfl
theorem r_101_96 : sm_ic 101 96 = some (.invokevirtual 156, 81, 2, 530) := rfl
theorem r_101_99 : sm_ic 101 99 = some (.iload_n 2, 0, 0, 0) := rfl
theorem r_101_100 : sm_ic 101 100 = some (.if_icmp .eq 14, 114, 0, 0) := rfl
theorem r_101_103 : sm_ic 101 103 = some (.iload 6, 0, 0, 0) := rfl
theorem r_101_105 : sm_ic 101 105 = some (.istore 4, 0, 0, 0) := rfl
theorem r_101_107 : sm_ic 101 107 = some (.iload 6, 0, 0, 0) := rfl
theorem r_101_109 : sm_ic 101 109 = some (.invokestatic 148, 78, 1, 516) := rfl
theorem r_101_112 : sm_ic 101 112 = some (.istore 5, 0, 0, 0) := rfl
theorem r_101_114 : sm_ic 101 114 = some (.iinc 6 1, 0, 0, 0) := rfl
theorem r_101_117 : sm_ic 101 117 = some (.goto (-71), 46, 0, 0) := rfl
theorem r_101_120 : sm_ic 101 120 = some (.iload 4, 0, 0, 0) := rfl
theorem r_101_122 : sm_ic 101 122 = some (.ireturn, 0, 0, 0) := rfl
theorem r_102_0 : sm_ic 102 0 = some (.aload_n 0, 0, 0, 0) := rfl
theorem r_102_1 : sm_ic 102 1 = some (.bipush 31, 0, 0, 0) := rfl
theorem r_102_3 : sm_ic 102 3 = some (.invokevirtual 207, 103, 2, 621) := rfl
theorem r_102_6 : sm_ic 102 6 = some (.aload_n 0, 0, 0, 0) := rfl
theorem r_102_7 : sm_ic 102 7 = some (.getfield 30, 0, 3, 351) := rfl
theorem r_102_10 : sm_ic 102 10 = some (.invokevirtual 210, 68, 1, 625) := rfl
theorem r_102_13 : sm_ic 102 13 = some (.invokestatic 213, 9996, 0, 626) := rfl
theorem r_102_16 : sm_ic 102 16 = some (.istore_n 1, 0, 0, 0) := rfl
theorem r_102_17 : sm_ic 102 17 = some (.aload_n 0, 0, 0, 0) := rfl
theorem r_102_18 : sm_ic 102 18 = some (.getfield 89, 0, 8, 356) := rfl
theorem r_102_21 : sm_ic 102 21 = some (.invokestatic 144, 64, 1, 515) := rfl
theorem r_102_24 : sm_ic 102 24 = some (.ifCond .eq 7, 31, 0, 0) := rfl
theorem r_102_27 : sm_ic 102 27 = some (.iconst 0, 0, 0, 0) := rfl
theorem r_102_28 : sm_ic 102 28 = some (.goto 11, 39, 0, 0) := rfl
theorem r_102_31 : sm_ic 102 31 = some (.aload_n 0, 0, 0, 0) := rfl
theorem r_102_32 : sm_ic 102 32 = some (.getfield 30, 0, 3, 351) := rfl
theorem r_102_35 : sm_ic 102 35 = some (.iconst 3, 0, 0, 0) := rfl
theorem r_102_36 : sm_ic 102 36 = some (.invokevirtual 218, 67, 2, 627) := rfl
theorem r_102_39 : sm_ic 102 39 = some (.istore_n 2, 0, 0, 0) := rfl
theorem r_102_40 : sm_ic 102 40 = some (.bipush (-4), 0, 0, 0) := rfl
theorem r_102_42 : sm_ic 102 42 = some (.istore_n 3, 0, 0, 0) := rfl
theorem r_102_43 : sm_ic 102 43 = some (.iload_n 1, 0, 0, 0) := rfl
theorem r_102_44 : sm_ic 102 44 = some (.iconst 1, 0, 0, 0) := rfl
theorem r_102_45 : sm_ic 102 45 = some (.iadd, 0, 0, 0) := rfl
theorem r_102_46 : sm_ic 102 46 = some (.istore 4, 0, 0, 0) := rfl
theorem r_102_48 : sm_ic 102 48 = some (.iconst 0, 0, 0, 0) := rfl
theorem r_102_49 : sm_ic 102 49 = some (.istore 5, 0, 0, 0) := rfl
theorem r_102_51 : sm_ic 102 51 = some (.iload 5, 0, 0, 0) := rfl
theorem r_102_53 : sm_ic 102 53 = some (.aload_n 0, 0, 0, 0) := rfl
theorem r_102_54 : sm_ic 102 54 = some (.getfield 30, 0, 3, 351) := rfl
theorem r_102_57 : sm_ic 102 57 = some (.invokevirtual 204, 86, 1, 616) := rfl
theorem r_102_60 : sm_ic 102 60 = some (.if_icmp .gt 72, 132, 0, 0) := rfl
theorem r_102_63 : sm_ic 102 63 = some (.iload 5, 0, 0, 0) := rfl
theorem r_102_65 : sm_ic 102 65 = some (.invokestatic 148, 78, 1, 516) := rfl
theorem r_102_68 : sm_ic 102 68 = some (.iload 4, 0, 0, 0) := rfl
theorem r_102_70 : sm_ic 102 70 = some (.if_icmp .ge 7, 77, 0, 0) := rfl
theorem r_102_73 : sm_ic 102 73 = some (.iconst 1, 0, 0, 0) := rfl
theorem r_102_74 : sm_ic 102 74 = some (.goto 4, 78, 0, 0) := rfl
theorem r_102_77 : sm_ic 102 77 = some (.iconst 0, 0, 0, 0) := rfl
theorem r_102_78 : sm_ic 102 78 = some (.istore 6, 0, 0, 0) := rfl
theorem r_102_80 : sm_ic 102 80 = some (.iload 6, 0, 0, 0) := rfl
theorem r_102_82 : sm_ic 102 82 = some (.ifCond .eq 44, 126, 0, 0) := rfl
theorem r_102_85 : sm_ic 102 85 = some (.iload 5, 0, 0, 0) := rfl
theorem r_102_87 : sm_ic 102 87 = some (.iload_n 2, 0, 0, 0) := rfl
theorem r_102_88 : sm_ic 102 88 = some (.iand, 0, 0, 0) := rfl
theorem r_102_89 : sm_ic 102 89 = some (.ifCond .ne 37, 126, 0, 0) := rfl
theorem r_102_92 : sm_ic 102 92 = some (.aload_n 0, 0, 0, 0) := rfl
theorem r_102_93 : sm_ic 102 93 = some (.getfield 30, 0, 3, 351) := rfl
theorem r_102_96 : sm_ic 102 96 = some (.iload 5, 0, 0, 0) := rfl
theorem r_102_98 : sm_ic 102 98 = some (.invokevirtual 156, 81, 2, 530) := rfl
theorem r_102_101 : sm_ic 102 101 = some (.ifCond .eq 25, 126, 0, 0) := rfl
theorem r_102_104 : sm_ic 102 104 = some (.aload_n 0, 0, 0, 0) := rfl
theorem r_102_105 : sm_ic 102 105 = some (.getfield 30, 0, 3, 351) := rfl
theorem r_102_108 : sm_ic 102 108 = some (.iload 5, 0, 0, 0) := rfl
theorem r_102_110 : sm_ic 102 110 = some (.invokevirtual 169, 87, 2, 553) := rfl
theorem r_102_113 : sm_ic 102 113 = some (.ifCond .eq 13, 126, 0, 0) := rfl
theorem r_102_116 : sm_ic 102 116 = some (.iload 5, 0, 0, 0) := rfl
theorem r_102_118 : sm_ic 102 118 = some (.istore_n 3, 0, 0, 0) := rfl
theorem r_102_119 : sm_ic 102 119 = some (.iload 5, 0, 0, 0) := rfl
theorem r_102_121 : sm_ic 102 121 = some (.invokestatic 148, 78, 1, 516) := rfl
theorem r_102_124 : sm_ic 102 124 = some (.istore 4, 0, 0, 0) := rfl
theorem r_102_126 : sm_ic 102 126 = some (.iinc 5 1, 0, 0, 0) := rfl
theorem r_102_129 : sm_ic 102 129 = some (.goto (-78), 51, 0, 0) := rfl
theorem r_102_132 : sm_ic 102 132 = some (.iload_n 3, 0, 0, 0) := rfl
theorem r_102_133 : sm_ic 102 133 = some (.ireturn, 0, 0, 0) := rfl
theorem r_103_0 : sm_ic 103 0 = some (.aload_n 0, 0, 0, 0) := rfl
theorem r_103_1 : sm_ic 103 1 = some (.getfield 89, 0, 8, 356) := rfl
theorem r_103_4 : sm_ic 103 4 = some (.invokestatic 144, 64, 1, 515) := rfl
theorem r_103_7 : sm_ic 103 7 = some (.ifCond .eq 8, 15, 0, 0) := rfl
theorem r_103_10 : sm_ic 103 10 = some (.bipush 8, 0, 0, 0) := rfl
theorem r_103_12 : sm_ic 103 12 = some (.goto 21, 33, 0, 0) := rfl
theorem r_103_15 : sm_ic 103 15 = some (.aload_n 0, 0, 0, 0) := rfl
theorem r_103_16 : sm_ic 103 16 = some (.getfield 30, 0, 3, 351) := rfl
theorem r_103_19 : sm_ic 103 19 = some (.iload_n 1, 0, 0, 0) := rfl
theorem r_103_20 : sm_ic 103 20 = some (.aload_n 0, 0, 0, 0) := rfl
theorem r_103_21 : sm_ic 103 21 = some (.getfield 89, 0, 8, 356) := rfl
theorem r_103_24 : sm_ic 103 24 = some (.invokestatic 123, 60, 1, 443) := rfl
theorem r_103_27 : sm_ic 103 27 = some (.iconst (-1), 0, 0, 0) := rfl
theorem r_103_28 : sm_ic 103 28 = some (.ixor, 0, 0, 0) := rfl
theorem r_103_29 : sm_ic 103 29 = some (.iand, 0, 0, 0) := rfl
theorem r_103_30 : sm_ic 103 30 = some (.invokevirtual 120, 41, 2, 442) := rfl
theorem r_103_33 : sm_ic 103 33 = some (.ireturn, 0, 0, 0) := rfl
theorem r_104_0 : sm_ic 104 0 = some (.iload_n 1, 0, 0, 0) := rfl
theorem r_104_1 : sm_ic 104 1 = some (.invokestatic 127, 62, 1, 450) := rfl
theorem r_104_4 : sm_ic 104 4 = some (.ifCond .ne 5, 9, 0, 0) := rfl
theorem r_104_7 : sm_ic 104 7 = some (.iconst (-1), 0, 0, 0) := rfl
theorem r_104_8 : sm_ic 104 8 = some (.ireturn, 0, 0, 0) := rfl
theorem r_104_9 : sm_ic 104 9 = some (.aload_n 0, 0, 0, 0) := rfl
theorem r_104_10 : sm_ic 104 10 = some (.getfield 36, 0, 4, 352) := rfl
theorem r_104_13 : sm_ic 104 13 = some (.aload_n 0, 0, 0, 0) := rfl
theorem r_104_14 : sm_ic 104 14 = some (.getfield 30, 0, 3, 351) := rfl
theorem r_104_17 : sm_ic 104 17 = some (.aload_n 0, 0, 0, 0) := rfl
theorem r_104_18 : sm_ic 104 18 = some (.getfield 89, 0, 8, 356) := rfl
theorem r_104_21 : sm_ic 104 21 = some (.invokevirtual 130, 63, 3, 453) := rfl
theorem r_104_24 : sm_ic 104 24 = some (.aload_n 0, 0, 0, 0) := rfl
theorem r_104_25 : sm_ic 104 25 = some (.getfield 36, 0, 4, 352) := rfl
theorem r_104_28 : sm_ic 104 28 = some (.aload_n 0, 0, 0, 0) := rfl
theorem r_104_29 : sm_ic 104 29 = some (.getfield 89, 0, 8, 356) := rfl
theorem r_104_32 : sm_ic 104 32 = some (.iload_n 1, 0, 0, 0) := rfl
theorem r_104_33 : sm_ic 104 33 = some (.invokestatic 134, 70, 2, 481) := rfl
theorem r_104_36 : sm_ic 104 36 = some (.iconst 0, 0, 0, 0) := rfl
theorem r_104_37 : sm_ic 104 37 = some (.invokevirtual 137, 71, 3, 484) := rfl
theorem r_104_40 : sm_ic 104 40 = some (.istore_n 2, 0, 0, 0) := rfl
theorem r_104_41 : sm_ic 104 41 = some (.iconst 0, 0, 0, 0) := rfl
theorem r_104_42 : sm_ic 104 42 = some (.istore_n 3, 0, 0, 0) := rfl
theorem r_104_43 : sm_ic 104 43 = some (.iload_n 3, 0, 0, 0) := rfl
theorem r_104_44 : sm_ic 104 44 = some (.bipush 9, 0, 0, 0) := rfl
theorem r_104_46 : sm_ic 104 46 = some (.if_icmp .gt 30, 76, 0, 0) := rfl
theorem r_104_49 : sm_ic 104 49 = some (.aload_n 0, 0, 0, 0) := rfl
theorem r_104_50 : sm_ic 104 50 = some (.getfield 30, 0, 3, 351) := rfl
theorem r_104_53 : sm_ic 104 53 = some (.aload_n 0, 0, 0, 0) := rfl
theorem r_104_54 : sm_ic 104 54 = some (.getfield 36, 0, 4, 352) := rfl
theorem r_104_57 : sm_ic 104 57 = some (.iload_n 2, 0, 0, 0) := rfl
theorem r_104_58 : sm_ic 104 58 = some (.iload_n 3, 0, 0, 0) := rfl
theorem r_104_59 : sm_ic 104 59 = some (.invokevirtual 221, 75, 3, 632) := rfl
theorem r_104_62 : sm_ic 104 62 = some (.invokevirtual 156, 81, 2, 530) := rfl
theorem r_104_65 : sm_ic 104 65 = some (.ifCond .eq 5, 70, 0, 0) := rfl
theorem r_104_68 : sm_ic 104 68 = some (.iload_n 3, 0, 0, 0) := rfl
theorem r_104_69 : sm_ic 104 69 = some (.ireturn, 0, 0, 0) := rfl
theorem r_104_70 : sm_ic 104 70 = some (.iinc 3 1, 0, 0, 0) := rfl
theorem r_104_73 : sm_ic 104 73 = some (.goto (-30), 43, 0, 0) := rfl
theorem r_104_76 : sm_ic 104 76 = some (.bipush (-4), 0, 0, 0) := rfl
theorem r_104_78 : sm_ic 104 78 = some (.ireturn, 0, 0, 0) := rfl
theorem r_105_0 : sm_ic 105 0 = some (.iload_n 1, 0, 0, 0) := rfl
theorem r_105_1 : sm_ic 105 1 = some (.invokestatic 127, 62, 1, 450) := rfl
theorem r_105_4 : sm_ic 105 4 = some (.ifCond .eq 10, 14, 0, 0) := rfl
theorem r_105_7 : sm_ic 105 7 = some (.iload_n 2, 0, 0, 0) := rfl
theorem r_105_8 : sm_ic 105 8 = some (.invokestatic 163, 84, 1, 542) := rfl
theorem r_105_11 : sm_ic 105 11 = some (.ifCond .ne 5, 16, 0, 0) := rfl
theorem r_105_14 : sm_ic 105 14 = some (.iconst (-1), 0, 0, 0) := rfl
theorem r_105_15 : sm_ic 105 15 = some (.ireturn, 0, 0, 0) := rfl
theorem r_105_16 : sm_ic 105 16 = some (.aload_n 0, 0, 0, 0) := rfl
theorem r_105_17 : sm_ic 105 17 = some (.getfield 89, 0, 8, 356) := rfl
theorem r_105_20 : sm_ic 105 20 = some (.invokestatic 123, 60, 1, 443) := rfl
theorem r_105_23 : sm_ic 105 23 = some (.istore_n 3, 0, 0, 0) := rfl
theorem r_105_24 : sm_ic 105 24 = some (.bipush (-4), 0, 0, 0) := rfl
theorem r_105_26 : sm_ic 105 26 = some (.istore 4, 0, 0, 0) := rfl
theorem r_105_28 : sm_ic 105 28 = some (.bipush (-4), 0, 0, 0) := rfl
theorem r_105_30 : sm_ic 105 30 = some (.istore 5, 0, 0, 0) := rfl
theorem r_105_32 : sm_ic 105 32 = some (.iconst 0, 0, 0, 0) := rfl
theorem r_105_33 : sm_ic 105 33 = some (.istore 6, 0, 0, 0) := rfl
theorem r_105_35 : sm_ic 105 35 = some (.iload 6, 0, 0, 0) := rfl
theorem r_105_37 : sm_ic 105 37 = some (.aload_n 0, 0, 0, 0) := rfl
theorem r_105_38 : sm_ic 105 38 = some (.getfield 30, 0, 3, 351) := rfl
theorem r_105_41 : sm_ic 105 41 = some (.invokevirtual 224, 59, 1, 438) := rfl
theorem r_105_44 : sm_ic 105 44 = some (.if_icmp .ge 59, 103, 0, 0) := rfl
theorem r_105_47 : sm_ic 105 47 = some (.iload_n 3, 0, 0, 0) := rfl
theorem r_105_48 : sm_ic 105 48 = some (.iload 6, 0, 0, 0) := rfl
theorem r_105_50 : sm_ic 105 50 = some (.iushr, 0, 0, 0) := rfl
theorem r_105_51 : sm_ic 105 51 = some (.iconst 1, 0, 0, 0) := rfl
theorem r_105_52 : sm_ic 105 52 = some (.iand, 0, 0, 0) := rfl
theorem r_105_53 : sm_ic 105 53 = some (.ifCond .ne 6, 59, 0, 0) := rfl
theorem r_105_56 : sm_ic 105 56 = some (.goto 41, 97, 0, 0) := rfl
theorem r_105_59 : sm_ic 105 59 = some (.aload_n 0, 0, 0, 0) := rfl
theorem r_105_60 : sm_ic 105 60 = some (.aload_n 0, 0, 0, 0) := rfl
theorem r_105_61 : sm_ic 105 61 = some (.getfield 89, 0, 8, 356) := rfl
theorem r_105_64 : sm_ic 105 64 = some (.iload_n 3, 0, 0, 0) := rfl
theorem r_105_65 : sm_ic 105 65 = some (.iconst 1, 0, 0, 0) := rfl
theorem r_105_66 : sm_ic 105 66 = some (.iload 6, 0, 0, 0) := rfl
theorem r_105_68 : sm_ic 105 68 = some (.ishl, 0, 0, 0) := rfl
theorem r_105_69 : sm_ic 105 69 = some (.ixor, 0, 0, 0) := rfl
theorem r_105_70 : sm_ic 105 70 = some (.invokestatic 183, 94, 2, 584) := rfl
theorem r_105_73 : sm_ic 105 73 = some (.iload_n 1, 0, 0, 0) := rfl
theorem r_105_74 : sm_ic 105 74 = some (.invokevirtual 141, 73, 3, 492) := rfl
theorem r_105_77 : sm_ic 105 77 = some (.invokestatic 148, 78, 1, 516) := rfl
theorem r_105_80 : sm_ic 105 80 = some (.istore 7, 0, 0, 0) := rfl
theorem r_105_82 : sm_ic 105 82 = some (.iload 7, 0, 0, 0) := rfl
theorem r_105_84 : sm_ic 105 84 = some (.iload 5, 0, 0, 0) := rfl
theorem r_105_86 : sm_ic 105 86 = some (.if_icmp .le 11, 97, 0, 0) := rfl
theorem r_105_89 : sm_ic 105 89 = some (.iload 6, 0, 0, 0) := rfl
theorem r_105_91 : sm_ic 105 91 = some (.istore 4, 0, 0, 0) := rfl
theorem r_105_93 : sm_ic 105 93 = some (.iload 7, 0, 0, 0) := rfl
theorem r_105_95 : sm_ic 105 95 = some (.istore 5, 0, 0, 0) := rfl
theorem r_105_97 : sm_ic 105 97 = some (.iinc 6 1, 0, 0, 0) := rfl
theorem r_105_100 : sm_ic 105 100 = some (.goto (-65), 35, 0, 0) := rfl
theorem r_105_103 : sm_ic 105 103 = some (.iload_n 2, 0, 0, 0) := rfl
theorem r_105_104 : sm_ic 105 104 = some (.ifCond .ne 8, 112, 0, 0) := rfl
theorem r_105_107 : sm_ic 105 107 = some (.iload 4, 0, 0, 0) := rfl
theorem r_105_109 : sm_ic 105 109 = some (.goto 5, 114, 0, 0) := rfl
theorem r_105_112 : sm_ic 105 112 = some (.iload 5, 0, 0, 0) := rfl
theorem r_105_114 : sm_ic 105 114 = some (.ireturn, 0, 0, 0) := rfl
theorem r_106_0 : sm_ic 106 0 = some (.iload_n 1, 0, 0, 0) := rfl
theorem r_106_1 : sm_ic 106 1 = some (.invokestatic 127, 62, 1, 450) := rfl
theorem r_106_4 : sm_ic 106 4 = some (.ifCond .ne 5, 9, 0, 0) := rfl
theorem r_106_7 : sm_ic 106 7 = some (.iconst (-1), 0, 0, 0) := rfl
theorem r_106_8 : sm_ic 106 8 = some (.ireturn, 0, 0, 0) := rfl
theorem r_106_9 : sm_ic 106 9 = some (.aload_n 0, 0, 0, 0) := rfl
theorem r_106_10 : sm_ic 106 10 = some (.getfield 36, 0, 4, 352) := rfl
theorem r_106_13 : sm_ic 106 13 = some (.aload_n 0, 0, 0, 0) := rfl
theorem r_106_14 : sm_ic 106 14 = some (.getfield 30, 0, 3, 351) := rfl
theorem r_106_17 : sm_ic 106 17 = some (.aload_n 0, 0, 0, 0) := rfl
theorem r_106_18 : sm_ic 106 18 = some (.getfield 89, 0, 8, 356) := rfl
theorem r_106_21 : sm_ic 106 21 = some (.invokevirtual 130, 63, 3, 453) := rfl
theorem r_106_24 : sm_ic 106 24 = some (.aload_n 0, 0, 0, 0) := rfl
theorem r_106_25 : sm_ic 106 25 = some (.getfield 36, 0, 4, 352) := rfl
theorem r_106_28 : sm_ic 106 28 = some (.aload_n 0, 0, 0, 0) := rfl
theorem r_106_29 : sm_ic 106 29 = some (.getfield 89, 0, 8, 356) := rfl
theorem r_106_32 : sm_ic 106 32 = some (.iconst 0, 0, 0, 0) := rfl
theorem r_106_33 : sm_ic 106 33 = some (.invokestatic 134, 70, 2, 481) := rfl
theorem r_106_36 : sm_ic 106 36 = some (.iconst 0, 0, 0, 0) := rfl
theorem r_106_37 : sm_ic 106 37 = some (.invokevirtual 137, 71, 3, 484) := rfl
theorem r_106_40 : sm_ic 106 40 = some (.istore_n 2, 0, 0, 0) := rfl
theorem r_106_41 : sm_ic 106 41 = some (.aload_n 0, 0, 0, 0) := rfl
theorem r_106_42 : sm_ic 106 42 = some (.getfield 36, 0, 4, 352) := rfl
theorem r_106_45 : sm_ic 106 45 = some (.aload_n 0, 0, 0, 0) := rfl
theorem r_106_46 : sm_ic 106 46 = some (.getfield 89, 0, 8, 356) := rfl
theorem r_106_49 : sm_ic 106 49 = some (.iconst 1, 0, 0, 0) := rfl
theorem r_106_50 : sm_ic 106 50 = some (.invokestatic 134, 70, 2, 481) := rfl
theorem r_106_53 : sm_ic 106 53 = some (.iconst 0, 0, 0, 0) := rfl
theorem r_106_54 : sm_ic 106 54 = some (.invokevirtual 137, 71, 3, 484) := rfl
theorem r_106_57 : sm_ic 106 57 = some (.iload_n 2, 0, 0, 0) := rfl
theorem r_106_58 : sm_ic 106 58 = some (.iconst (-1), 0, 0, 0) := rfl
theorem r_106_59 : sm_ic 106 59 = some (.ixor, 0, 0, 0) := rfl
theorem r_106_60 : sm_ic 106 60 = some (.iand, 0, 0, 0) := rfl
theorem r_106_61 : sm_ic 106 61 = some (.istore_n 3, 0, 0, 0) := rfl
theorem r_106_62 : sm_ic 106 62 = some (.aload_n 0, 0, 0, 0) := rfl
theorem r_106_63 : sm_ic 106 63 = some (.getfield 30, 0, 3, 351) := rfl
theorem r_106_66 : sm_ic 106 66 = some (.invokevirtual 210, 68, 1, 625) := rfl
theorem r_106_69 : sm_ic 106 69 = some (.istore 4, 0, 0, 0) := rfl
theorem r_106_71 : sm_ic 106 71 = some (.iload_n 2, 0, 0, 0) := rfl
theorem r_106_72 : sm_ic 106 72 = some (.invokestatic 148, 78, 1, 516) := rfl
theorem r_106_75 : sm_ic 106 75 = some (.aload_n 0, 0, 0, 0) := rfl
theorem r_106_76 : sm_ic 106 76 = some (.bipush 21, 0, 0, 0) := rfl
theorem r_106_78 : sm_ic 106 78 = some (.invokevirtual 207, 103, 2, 621) := rfl
theorem r_106_81 : sm_ic 106 81 = some (.invokestatic 213, 9996, 0, 626) := rfl
theorem r_106_84 : sm_ic 106 84 = some (.iload 4, 0, 0, 0) := rfl
theorem r_106_86 : sm_ic 106 86 = some (.invokestatic 213, 9996, 0, 626) := rfl
theorem r_106_89 : sm_ic 106 89 = some (.istore 5, 0, 0, 0) := rfl
theorem r_106_91 : sm_ic 106 91 = some (.iload_n 1, 0, 0, 0) := rfl
theorem r_106_92 : sm_ic 106 92 = some (.ifCond .ne 6, 98, 0, 0) := rfl
theorem r_106_95 : sm_ic 106 95 = some (.iload 5, 0, 0, 0) := rfl
theorem r_106_97 : sm_ic 106 97 = some (.ireturn, 0, 0, 0) := rfl
theorem r_106_98 : sm_ic 106 98 = some (.iload_n 3, 0, 0, 0) := rfl
theorem r_106_99 : sm_ic 106 99 = some (.invokestatic 148, 78, 1, 516) := rfl
theorem r_106_102 : sm_ic 106 102 = some (.aload_n 0, 0, 0, 0) := rfl
theorem r_106_103 : sm_ic 106 103 = some (.bipush 10, 0, 0, 0) := rfl
theorem r_106_105 : sm_ic 106 105 = some (.invokevirtual 207, 103, 2, 621) := rfl
theorem r_106_108 : sm_ic 106 108 = some (.invokestatic 213, 9996, 0, 626) := rfl
theorem r_106_111 : sm_ic 106 111 = some (.iload 4, 0, 0, 0) := rfl
theorem r_106_113 : sm_ic 106 113 = some (.iload 5, 0, 0, 0) := rfl
theorem r_106_115 : sm_ic 106 115 = some (.isub, 0, 0, 0) := rfl
theorem r_106_116 : sm_ic 106 116 = some (.invokestatic 213, 9996, 0, 626) := rfl
theorem r_106_119 : sm_ic 106 119 = some (.ireturn, 0, 0, 0) := rfl
theorem r_107_0 : sm_ic 107 0 = some (.iload_n 1, 0, 0, 0) := rfl
theorem r_107_1 : sm_ic 107 1 = some (.invokestatic 127, 62, 1, 450) := rfl
theorem r_107_4 : sm_ic 107 4 = some (.ifCond .eq 13, 17, 0, 0) := rfl
theorem r_107_7 : sm_ic 107 7 = some (.iload_n 2, 0, 0, 0) := rfl
theorem r_107_8 : sm_ic 107 8 = some (.ifCond .lt 9, 17, 0, 0) := rfl
theorem r_107_11 : sm_ic 107 11 = some (.iload_n 2, 0, 0, 0) := rfl
theorem r_107_12 : sm_ic 107 12 = some (.bipush 8, 0, 0, 0) := rfl
theorem r_107_14 : sm_ic 107 14 = some (.if_icmp .le 5, 19, 0, 0) := rfl
theorem r_107_17 : sm_ic 107 17 = some (.iconst (-1), 0, 0, 0) := rfl
theorem r_107_18 : sm_ic 107 18 = some (.ireturn, 0, 0, 0) := rfl
theorem r_107_19 : sm_ic 107 19 = some (.aload_n 0, 0, 0, 0) := rfl
theorem r_107_20 : sm_ic 107 20 = some (.getfield 55, 0, 7, 355) := rfl
theorem r_107_23 : sm_ic 107 23 = some (.iload_n 1, 0, 0, 0) := rfl
theorem r_107_24 : sm_ic 107 24 = some (.iload_n 2, 0, 0, 0) := rfl
theorem r_107_25 : sm_ic 107 25 = some (.invokevirtual 227, 108, 3, 645) := rfl
theorem r_107_28 : sm_ic 107 28 = some (.ifCond .eq 13, 41, 0, 0) := rfl
theorem r_107_31 : sm_ic 107 31 = some (.aload_n 0, 0, 0, 0) := rfl
theorem r_107_32 : sm_ic 107 32 = some (.getfield 55, 0, 7, 355) := rfl
theorem r_107_35 : sm_ic 107 35 = some (.invokevirtual 231, 109, 1, 649) := rfl
theorem r_107_38 : sm_ic 107 38 = some (.goto 5, 43, 0, 0) := rfl
theorem r_107_41 : sm_ic 107 41 = some (.bipush (-3), 0, 0, 0) := rfl
theorem r_107_43 : sm_ic 107 43 = some (.ireturn, 0, 0, 0) := rfl
theorem r_108_0 : sm_ic 108 0 = some (.aload_n 0, 0, 0, 0) := rfl
theorem r_108_1 : sm_ic 108 1 = some (.getfield 18, 6, 2, 176) := rfl
theorem r_108_4 : sm_ic 108 4 = some (.ifCond .lt 27, 31, 0, 0) := rfl
theorem r_108_7 : sm_ic 108 7 = some (.aload_n 0, 0, 0, 0) := rfl
theorem r_108_8 : sm_ic 108 8 = some (.getfield 18, 6, 2, 176) := rfl
theorem r_108_11 : sm_ic 108 11 = some (.aload_n 0, 0, 0, 0) := rfl
theorem r_108_12 : sm_ic 108 12 = some (.getfield 9, 6, 0, 174) := rfl
theorem r_108_15 : sm_ic 108 15 = some (.arraylength, 0, 0, 0) := rfl
theorem r_108_16 : sm_ic 108 16 = some (.if_icmp .ge 15, 31, 0, 0) := rfl
theorem r_108_19 : sm_ic 108 19 = some (.aload_n 0, 0, 0, 0) := rfl
theorem r_108_20 : sm_ic 108 20 = some (.getfield 18, 6, 2, 176) := rfl
theorem r_108_23 : sm_ic 108 23 = some (.aload_n 0, 0, 0, 0) := rfl
theorem r_108_24 : sm_ic 108 24 = some (.getfield 15, 6, 1, 175) := rfl
theorem r_108_27 : sm_ic 108 27 = some (.arraylength, 0, 0, 0) := rfl
theorem r_108_28 : sm_ic 108 28 = some (.if_icmp .lt 5, 33, 0, 0) := rfl
theorem r_108_31 : sm_ic 108 31 = some (.iconst 0, 0, 0, 0) := rfl
theorem r_108_32 : sm_ic 108 32 = some (.ireturn, 0, 0, 0) := rfl
theorem r_108_33 : sm_ic 108 33 = some (.aload_n 0, 0, 0, 0) := rfl
theorem r_108_34 : sm_ic 108 34 = some (.getfield 9, 6, 0, 174) := rfl
theorem r_108_37 : sm_ic 108 37 = some (.aload_n 0, 0, 0, 0) := rfl
theorem r_108_38 : sm_ic 108 38 = some (.getfield 18, 6, 2, 176) := rfl
theorem r_108_41 : sm_ic 108 41 = some (.iload_n 1, 0, 0, 0) := rfl
theorem r_108_42 : sm_ic 108 42 = some (.iastore, 0, 0, 0) := rfl
theorem r_108_43 : sm_ic 108 43 = some (.aload_n 0, 0, 0, 0) := rfl
theorem r_108_44 : sm_ic 108 44 = some (.getfield 15, 6, 1, 175) := rfl
theorem r_108_47 : sm_ic 108 47 = some (.aload_n 0, 0, 0, 0) := rfl
theorem r_108_48 : sm_ic 108 48 = some (.getfield 18, 6, 2, 176) := rfl
theorem r_108_51 : sm_ic 108 51 = some (.iload_n 2, 0, 0, 0) := rfl
theorem r_108_52 : sm_ic 108 52 = some (.iastore, 0, 0, 0) := rfl
theorem r_108_53 : sm_ic 108 53 = some (.aload_n 0, 0, 0, 0) := rfl
theorem r_108_54 : sm_ic 108 54 = some (.dup, 0, 0, 0) := rfl
theorem r_108_55 : sm_ic 108 55 = some (.getfield 18, 6, 2, 176) := rfl
theorem r_108_58 : sm_ic 108 58 = some (.iconst 1, 0, 0, 0) := rfl
theorem r_108_59 : sm_ic 108 59 = some (.iadd, 0, 0, 0) := rfl
theorem r_108_60 : sm_ic 108 60 = some (.putfield 18, 6, 2, 176) := rfl
theorem r_108_63 : sm_ic 108 63 = some (.iconst 1, 0, 0, 0) := rfl
theorem r_108_64 : sm_ic 108 64 = some (.ireturn, 0, 0, 0) := rfl
theorem r_109_0 : sm_ic 109 0 = some (.aload_n 0, 0, 0, 0) := rfl
theorem r_109_1 : sm_ic 109 1 = some (.getfield 18, 6, 2, 176) := rfl
theorem r_109_4 : sm_ic 109 4 = some (.ireturn, 0, 0, 0) := rfl
theorem r_110_0 : sm_ic 110 0 = some (.aload_n 0, 0, 0, 0) := rfl
theorem r_110_1 : sm_ic 110 1 = some (.getfield 55, 0, 7, 355) := rfl
theorem r_110_4 : sm_ic 110 4 = some (.invokevirtual 231, 109, 1, 649) := rfl
theorem r_110_7 : sm_ic 110 7 = some (.istore_n 1, 0, 0, 0) := rfl
theorem r_110_8 : sm_ic 110 8 = some (.aload_n 0, 0, 0, 0) := rfl
theorem r_110_9 : sm_ic 110 9 = some (.getfield 55, 0, 7, 355) := rfl
theorem r_110_12 : sm_ic 110 12 = some (.invokevirtual 94, 52, 1, 408) := rfl
theorem r_110_15 : sm_ic 110 15 = some (.iload_n 1, 0, 0, 0) := rfl
theorem r_110_16 : sm_ic 110 16 = some (.ireturn, 0, 0, 0) := rfl
theorem r_111_0 : sm_ic 111 0 = some (.iload_n 1, 0, 0, 0) := rfl
theorem r_111_1 : sm_ic 111 1 = some (.invokestatic 163, 84, 1, 542) := rfl
theorem r_111_4 : sm_ic 111 4 = some (.ifCond .ne 5, 9, 0, 0) := rfl
theorem r_111_7 : sm_ic 111 7 = some (.iconst (-1), 0, 0, 0) := rfl
theorem r_111_8 : sm_ic 111 8 = some (.ireturn, 0, 0, 0) := rfl
theorem r_111_9 : sm_ic 111 9 = some (.iconst 0, 0, 0, 0) := rfl
theorem r_111_10 : sm_ic 111 10 = some (.istore_n 2, 0, 0, 0) := rfl
theorem r_111_11 : sm_ic 111 11 = some (.bipush (-4), 0, 0, 0) := rfl
theorem r_111_13 : sm_ic 111 13 = some (.istore_n 3, 0, 0, 0) := rfl
theorem r_111_14 : sm_ic 111 14 = some (.iconst 0, 0, 0, 0) := rfl
theorem r_111_15 : sm_ic 111 15 = some (.istore 4, 0, 0, 0) := rfl
theorem r_111_17 : sm_ic 111 17 = some (.iload 4, 0, 0, 0) := rfl
theorem r_111_19 : sm_ic 111 19 = some (.iconst 1, 0, 0, 0) := rfl
theorem r_111_20 : sm_ic 111 20 = some (.aload_n 0, 0, 0, 0) := rfl
theorem r_111_21 : sm_ic 111 21 = some (.getfield 30, 0, 3, 351) := rfl
theorem r_111_24 : sm_ic 111 24 = some (.invokevirtual 224, 59, 1, 438) := rfl
theorem r_111_27 : sm_ic 111 27 = some (.ishl, 0, 0, 0) := rfl
theorem r_111_28 : sm_ic 111 28 = some (.if_icmp .ge 38, 66, 0, 0) := rfl
theorem r_111_31 : sm_ic 111 31 = some (.aload_n 0, 0, 0, 0) := rfl
theorem r_111_32 : sm_ic 111 32 = some (.aload_n 0, 0, 0, 0) := rfl
theorem r_111_33 : sm_ic 111 33 = some (.getfield 89, 0, 8, 356) := rfl
theorem r_111_36 : sm_ic 111 36 = some (.iload 4, 0, 0, 0) := rfl
theorem r_111_38 : sm_ic 111 38 = some (.invokestatic 183, 94, 2, 584) := rfl
theorem r_111_41 : sm_ic 111 41 = some (.invokevirtual 234, 112, 2, 661) := rfl
theorem r_111_44 : sm_ic 111 44 = some (.ifCond .ne 6, 50, 0, 0) := rfl
theorem r_111_47 : sm_ic 111 47 = some (.goto 13, 60, 0, 0) := rfl
theorem r_111_50 : sm_ic 111 50 = some (.iload_n 2, 0, 0, 0) := rfl
theorem r_111_51 : sm_ic 111 51 = some (.ifCond .ne 6, 57, 0, 0) := rfl
theorem r_111_54 : sm_ic 111 54 = some (.iload 4, 0, 0, 0) := rfl
theorem r_111_56 : sm_ic 111 56 = some (.istore_n 3, 0, 0, 0) := rfl
theorem r_111_57 : sm_ic 111 57 = some (.iinc 2 1, 0, 0, 0) := rfl
theorem r_111_60 : sm_ic 111 60 = some (.iinc 4 1, 0, 0, 0) := rfl
theorem r_111_63 : sm_ic 111 63 = some (.goto (-46), 17, 0, 0) := rfl
theorem r_111_66 : sm_ic 111 66 = some (.iload_n 1, 0, 0, 0) := rfl
theorem r_111_67 : sm_ic 111 67 = some (.ifCond .ne 7, 74, 0, 0) := rfl
theorem r_111_70 : sm_ic 111 70 = some (.iload_n 2, 0, 0, 0) := rfl
theorem r_111_71 : sm_ic 111 71 = some (.goto 4, 75, 0, 0) := rfl
theorem r_111_74 : sm_ic 111 74 = some (.iload_n 3, 0, 0, 0) := rfl
theorem r_111_75 : sm_ic 111 75 = some (.ireturn, 0, 0, 0) := rfl
theorem r_112_0 : sm_ic 112 0 = some (.aload_n 0, 0, 0, 0) := rfl
theorem r_112_1 : sm_ic 112 1 = some (.getfield 36, 0, 4, 352) := rfl
theorem r_112_4 : sm_ic 112 4 = some (.aload_n 0, 0, 0, 0) := rfl
theorem r_112_5 : sm_ic 112 5 = some (.getfield 30, 0, 3, 351) := rfl
theorem r_112_8 : sm_ic 112 8 = some (.lload_n 1, 0, 0, 0) := rfl
theorem r_112_9 : sm_ic 112 9 = some (.invokevirtual 130, 63, 3, 453) := rfl
theorem r_112_12 : sm_ic 112 12 = some (.iconst 0, 0, 0, 0) := rfl
theorem r_112_13 : sm_ic 112 13 = some (.istore_n 3, 0, 0, 0) := rfl
theorem r_112_14 : sm_ic 112 14 = some (.iload_n 3, 0, 0, 0) := rfl
theorem r_112_15 : sm_ic 112 15 = some (.aload_n 0, 0, 0, 0) := rfl
theorem r_112_16 : sm_ic 112 16 = some (.getfield 55, 0, 7, 355) := rfl
theorem r_112_19 : sm_ic 112 19 = some (.invokevirtual 231, 109, 1, 649) := rfl
theorem r_112_22 : sm_ic 112 22 = some (.if_icmp .ge 49, 71, 0, 0) := rfl
theorem r_112_25 : sm_ic 112 25 = some (.aload_n 0, 0, 0, 0) := rfl
theorem r_112_26 : sm_ic 112 26 = some (.getfield 36, 0, 4, 352) := rfl
theorem r_112_29 : sm_ic 112 29 = some (.lload_n 1, 0, 0, 0) := rfl
theorem r_112_30 : sm_ic 112 30 = some (.aload_n 0, 0, 0, 0) := rfl
theorem r_112_31 : sm_ic 112 31 = some (.getfield 55, 0, 7, 355) := rfl
theorem r_112_34 : sm_ic 112 34 = some (.iload_n 3, 0, 0, 0) := rfl
theorem r_112_35 : sm_ic 112 35 = some (.invokevirtual 267, 113, 2, 665) := rfl
theorem r_112_38 : sm_ic 112 38 = some (.invokestatic 134, 70, 2, 481) := rfl
theorem r_112_41 : sm_ic 112 41 = some (.iconst 0, 0, 0, 0) := rfl
theorem r_112_42 : sm_ic 112 42 = some (.invokevirtual 201, 74, 3, 496) := rfl
theorem r_112_45 : sm_ic 112 45 = some (.istore 4, 0, 0, 0) := rfl
theorem r_112_47 : sm_ic 112 47 = some (.iload 4, 0, 0, 0) := rfl
theorem r_112_49 : sm_ic 112 49 = some (.invokestatic 148, 78, 1, 516) := rfl
theorem r_112_52 : sm_ic 112 52 = some (.aload_n 0, 0, 0, 0) := rfl
theorem r_112_53 : sm_ic 112 53 = some (.getfield 55, 0, 7, 355) := rfl
theorem r_112_56 : sm_ic 112 56 = some (.iload_n 3, 0, 0, 0) := rfl
theorem r_112_57 : sm_ic 112 57 = some (.invokevirtual 270, 114, 2, 669) := rfl
theorem r_112_60 : sm_ic 112 60 = some (.if_icmp .eq 5, 65, 0, 0) := rfl
theorem r_112_63 : sm_ic 112 63 = some (.iconst 0, 0, 0, 0) := rfl
theorem r_112_64 : sm_ic 112 64 = some (.ireturn, 0, 0, 0) := rfl
theorem r_112_65 : sm_ic 112 65 = some (.iinc 3 1, 0, 0, 0) := rfl
theorem r_112_68 : sm_ic 112 68 = some (.goto (-54), 14, 0, 0) := rfl
theorem r_112_71 : sm_ic 112 71 = some (.iconst 1, 0, 0, 0) := rfl
theorem r_112_72 : sm_ic 112 72 = some (.ireturn, 0, 0, 0) := rfl
theorem r_113_0 : sm_ic 113 0 = some (.iload_n 1, 0, 0, 0) := rfl
theorem r_113_1 : sm_ic 113 1 = some (.ifCond .lt 21, 22, 0, 0) := rfl
theorem r_113_4 : sm_ic 113 4 = some (.iload_n 1, 0, 0, 0) := rfl
theorem r_113_5 : sm_ic 113 5 = some (.aload_n 0, 0, 0, 0) := rfl
theorem r_113_6 : sm_ic 113 6 = some (.getfield 9, 6, 0, 174) := rfl
theorem r_113_9 : sm_ic 113 9 = some (.arraylength, 0, 0, 0) := rfl
theorem r_113_10 : sm_ic 113 10 = some (.if_icmp .ge 12, 22, 0, 0) := rfl
theorem r_113_13 : sm_ic 113 13 = some (.aload_n 0, 0, 0, 0) := rfl
theorem r_113_14 : sm_ic 113 14 = some (.getfield 9, 6, 0, 174) := rfl
theorem r_113_17 : sm_ic 113 17 = some (.iload_n 1, 0, 0, 0) := rfl
theorem r_113_18 : sm_ic 113 18 = some (.iaload, 0, 0, 0) := rfl
theorem r_113_19 : sm_ic 113 19 = some (.goto 4, 23, 0, 0) := rfl
theorem r_113_22 : sm_ic 113 22 = some (.iconst 0, 0, 0, 0) := rfl
theorem r_113_23 : sm_ic 113 23 = some (.ireturn, 0, 0, 0) := rfl
theorem r_114_0 : sm_ic 114 0 = some (.iload_n 1, 0, 0, 0) := rfl
theorem r_114_1 : sm_ic 114 1 = some (.ifCond .lt 21, 22, 0, 0) := rfl
theorem r_114_4 : sm_ic 114 4 = some (.iload_n 1, 0, 0, 0) := rfl
theorem r_114_5 : sm_ic 114 5 = some (.aload_n 0, 0, 0, 0) := rfl
theorem r_114_6 : sm_ic 114 6 = some (.getfield 15, 6, 1, 175) := rfl
theorem r_114_9 : sm_ic 114 9 = some (.arraylength, 0, 0, 0) := rfl
theorem r_114_10 : sm_ic 114 10 = some (.if_icmp .ge 12, 22, 0, 0) := rfl
theorem r_114_13 : sm_ic 114 13 = some (.aload_n 0, 0, 0, 0) := rfl
theorem r_114_14 : sm_ic 114 14 = some (.getfield 15, 6, 1, 175) := rfl
theorem r_114_17 : sm_ic 114 17 = some (.iload_n 1, 0, 0, 0) := rfl
theorem r_114_18 : sm_ic 114 18 = some (.iaload, 0, 0, 0) := rfl
theorem r_114_19 : sm_ic 114 19 = some (.goto 4, 23, 0, 0) := rfl
theorem r_114_22 : sm_ic 114 22 = some (.iconst 0, 0, 0, 0) := rfl
theorem r_114_23 : sm_ic 114 23 = some (.ireturn, 0, 0, 0) := rfl
theorem r_115_0 : sm_ic 115 0 = some (.iload_n 1, 0, 0, 0) := rfl
theorem r_115_1 : sm_ic 115 1 = some (.invokestatic 127, 62, 1, 450) := rfl
theorem r_115_4 : sm_ic 115 4 = some (.ifCond .eq 10, 14, 0, 0) := rfl
theorem r_115_7 : sm_ic 115 7 = some (.iload_n 2, 0, 0, 0) := rfl
theorem r_115_8 : sm_ic 115 8 = some (.invokestatic 163, 84, 1, 542) := rfl
theorem r_115_11 : sm_ic 115 11 = some (.ifCond .ne 5, 16, 0, 0) := rfl
theorem r_115_14 : sm_ic 115 14 = some (.iconst (-1), 0, 0, 0) := rfl
theorem r_115_15 : sm_ic 115 15 = some (.ireturn, 0, 0, 0) := rfl
theorem r_115_16 : sm_ic 115 16 = some (.aload_n 0, 0, 0, 0) := rfl
theorem r_115_17 : sm_ic 115 17 = some (.getfield 36, 0, 4, 352) := rfl
theorem r_115_20 : sm_ic 115 20 = some (.aload_n 0, 0, 0, 0) := rfl
theorem r_115_21 : sm_ic 115 21 = some (.getfield 30, 0, 3, 351) := rfl
theorem r_115_24 : sm_ic 115 24 = some (.aload_n 0, 0, 0, 0) := rfl
theorem r_115_25 : sm_ic 115 25 = some (.getfield 89, 0, 8, 356) := rfl
theorem r_115_28 : sm_ic 115 28 = some (.invokevirtual 130, 63, 3, 453) := rfl
theorem r_115_31 : sm_ic 115 31 = some (.aload_n 0, 0, 0, 0) := rfl
theorem r_115_32 : sm_ic 115 32 = some (.getfield 89, 0, 8, 356) := rfl
theorem r_115_35 : sm_ic 115 35 = some (.iload_n 1, 0, 0, 0) := rfl
theorem r_115_36 : sm_ic 115 36 = some (.invokestatic 134, 70, 2, 481) := rfl
theorem r_115_39 : sm_ic 115 39 = some (.istore_n 3, 0, 0, 0) := rfl
theorem r_115_40 : sm_ic 115 40 = some (.aload_n 0, 0, 0, 0) := rfl
theorem r_115_41 : sm_ic 115 41 = some (.getfield 36, 0, 4, 352) := rfl
theorem r_115_44 : sm_ic 115 44 = some (.iload_n 3, 0, 0, 0) := rfl
theorem r_115_45 : sm_ic 115 45 = some (.iconst 0, 0, 0, 0) := rfl
theorem r_115_46 : sm_ic 115 46 = some (.invokevirtual 137, 71, 3, 484) := rfl
theorem r_115_49 : sm_ic 115 49 = some (.aload_n 0, 0, 0, 0) := rfl
theorem r_115_50 : sm_ic 115 50 = some (.getfield 30, 0, 3, 351) := rfl
theorem r_115_53 : sm_ic 115 53 = some (.iconst 1, 0, 0, 0) := rfl
theorem r_115_54 : sm_ic 115 54 = some (.invokevirtual 218, 67, 2, 627) := rfl
theorem r_115_57 : sm_ic 115 57 = some (.iand, 0, 0, 0) := rfl
theorem r_115_58 : sm_ic 115 58 = some (.istore 4, 0, 0, 0) := rfl
theorem r_115_60 : sm_ic 115 60 = some (.iconst 0, 0, 0, 0) := rfl
theorem r_115_61 : sm_ic 115 61 = some (.istore 5, 0, 0, 0) := rfl
theorem r_115_63 : sm_ic 115 63 = some (.iconst 0, 0, 0, 0) := rfl
theorem r_115_64 : sm_ic 115 64 = some (.istore 6, 0, 0, 0) := rfl
theorem r_115_66 : sm_ic 115 66 = some (.iload 6, 0, 0, 0) := rfl
theorem r_115_68 : sm_ic 115 68 = some (.iload 4, 0, 0, 0) := rfl
theorem r_115_70 : sm_ic 115 70 = some (.if_icmp .gt 75, 145, 0, 0) := rfl
theorem r_115_73 : sm_ic 115 73 = some (.iload 6, 0, 0, 0) := rfl
theorem r_115_75 : sm_ic 115 75 = some (.iload 4, 0, 0, 0) := rfl
theorem r_115_77 : sm_ic 115 77 = some (.iconst (-1), 0, 0, 0) := rfl
theorem r_115_78 : sm_ic 115 78 = some (.ixor, 0, 0, 0) := rfl
theorem r_115_79 : sm_ic 115 79 = some (.iand, 0, 0, 0) := rfl
theorem r_115_80 : sm_ic 115 80 = some (.ifCond .ne 7, 87, 0, 0) := rfl
theorem r_115_83 : sm_ic 115 83 = some (.iconst 1, 0, 0, 0) := rfl
theorem r_115_84 : sm_ic 115 84 = some (.goto 4, 88, 0, 0) := rfl
theorem r_115_87 : sm_ic 115 87 = some (.iconst 0, 0, 0, 0) := rfl
theorem r_115_88 : sm_ic 115 88 = some (.istore 7, 0, 0, 0) := rfl
theorem r_115_90 : sm_ic 115 90 = some (.iload 7, 0, 0, 0) := rfl
theorem r_115_92 : sm_ic 115 92 = some (.ifCond .eq 47, 139, 0, 0) := rfl
theorem r_115_95 : sm_ic 115 95 = some (.aload_n 0, 0, 0, 0) := rfl
theorem r_115_96 : sm_ic 115 96 = some (.getfield 30, 0, 3, 351) := rfl
theorem r_115_99 : sm_ic 115 99 = some (.aload_n 0, 0, 0, 0) := rfl
theorem r_115_100 : sm_ic 115 100 = some (.getfield 36, 0, 4, 352) := rfl
theorem r_115_103 : sm_ic 115 103 = some (.iload_n 3, 0, 0, 0) := rfl
theorem r_115_104 : sm_ic 115 104 = some (.iload 6, 0, 0, 0) := rfl
theorem r_115_106 : sm_ic 115 106 = some (.invokevirtual 201, 74, 3, 496) := rfl
theorem r_115_109 : sm_ic 115 109 = some (.invokevirtual 156, 81, 2, 530) := rfl
theorem r_115_112 : sm_ic 115 112 = some (.ifCond .eq 27, 139, 0, 0) := rfl
theorem r_115_115 : sm_ic 115 115 = some (.iload 5, 0, 0, 0) := rfl
theorem r_115_117 : sm_ic 115 117 = some (.aload_n 0, 0, 0, 0) := rfl
theorem r_115_118 : sm_ic 115 118 = some (.iload 6, 0, 0, 0) := rfl
theorem r_115_120 : sm_ic 115 120 = some (.invokestatic 148, 78, 1, 516) := rfl
theorem r_115_123 : sm_ic 115 123 = some (.iload 4, 0, 0, 0) := rfl
theorem r_115_125 : sm_ic 115 125 = some (.iload 6, 0, 0, 0) := rfl
theorem r_115_127 : sm_ic 115 127 = some (.iconst (-1), 0, 0, 0) := rfl
theorem r_115_128 : sm_ic 115 128 = some (.ixor, 0, 0, 0) := rfl
theorem r_115_129 : sm_ic 115 129 = some (.iand, 0, 0, 0) := rfl
theorem r_115_130 : sm_ic 115 130 = some (.invokestatic 148, 78, 1, 516) := rfl
theorem r_115_133 : sm_ic 115 133 = some (.invokevirtual 237, 116, 3, 677) := rfl
theorem r_115_136 : sm_ic 115 136 = some (.iadd, 0, 0, 0) := rfl
theorem r_115_137 : sm_ic 115 137 = some (.istore 5, 0, 0, 0) := rfl
theorem r_115_139 : sm_ic 115 139 = some (.iinc 6 1, 0, 0, 0) := rfl
theorem r_115_142 : sm_ic 115 142 = some (.goto (-76), 66, 0, 0) := rfl
theorem r_115_145 : sm_ic 115 145 = some (.bipush 10, 0, 0, 0) := rfl
theorem r_115_147 : sm_ic 115 147 = some (.iload 4, 0, 0, 0) := rfl
theorem r_115_149 : sm_ic 115 149 = some (.invokestatic 148, 78, 1, 516) := rfl
theorem r_115_152 : sm_ic 115 152 = some (.invokestatic 240, 118, 2, 685) := rfl
theorem r_115_155 : sm_ic 115 155 = some (.istore 6, 0, 0, 0) := rfl
theorem r_115_157 : sm_ic 115 157 = some (.iload 5, 0, 0, 0) := rfl
theorem r_115_159 : sm_ic 115 159 = some (.iload 6, 0, 0, 0) := rfl
theorem r_115_161 : sm_ic 115 161 = some (.invokestatic 243, 119, 2, 688) := rfl
theorem r_115_164 : sm_ic 115 164 = some (.istore 7, 0, 0, 0) := rfl
theorem r_115_166 : sm_ic 115 166 = some (.iload 7, 0, 0, 0) := rfl
theorem r_115_168 : sm_ic 115 168 = some (.ifCond .gt 6, 174, 0, 0) := rfl
theorem r_115_171 : sm_ic 115 171 = some (.bipush (-4), 0, 0, 0) := rfl
theorem r_115_173 : sm_ic 115 173 = some (.ireturn, 0, 0, 0) := rfl
theorem r_115_174 : sm_ic 115 174 = some (.iload_n 2, 0, 0, 0) := rfl
theorem r_115_175 : sm_ic 115 175 = some (.ifCond .ne 11, 186, 0, 0) := rfl
theorem r_115_178 : sm_ic 115 178 = some (.iload 5, 0, 0, 0) := rfl
theorem r_115_180 : sm_ic 115 180 = some (.iload 7, 0, 0, 0) := rfl
theorem r_115_182 : sm_ic 115 182 = some (.idiv, 0, 0, 0) := rfl
theorem r_115_183 : sm_ic 115 183 = some (.goto 8, 191, 0, 0) := rfl
theorem r_115_186 : sm_ic 115 186 = some (.iload 6, 0, 0, 0) := rfl
theorem r_115_188 : sm_ic 115 188 = some (.iload 7, 0, 0, 0) := rfl
theorem r_115_190 : sm_ic 115 190 = some (.idiv, 0, 0, 0) := rfl
theorem r_115_191 : sm_ic 115 191 = some (.ireturn, 0, 0, 0) := rfl
theorem r_116_0 : sm_ic 116 0 = some (.aload_n 0, 0, 0, 0) := rfl
theorem r_116_1 : sm_ic 116 1 = some (.getfield 30, 0, 3, 351) := rfl
theorem r_116_4 : sm_ic 116 4 = some (.invokevirtual 273, 117, 1, 681) := rfl
theorem r_116_7 : sm_ic 116 7 = some (.iload_n 1, 0, 0, 0) := rfl
theorem r_116_8 : sm_ic 116 8 = some (.invokestatic 240, 118, 2, 685) := rfl
theorem r_116_11 : sm_ic 116 11 = some (.bipush 10, 0, 0, 0) := rfl
theorem r_116_13 : sm_ic 116 13 = some (.aload_n 0, 0, 0, 0) := rfl
theorem r_116_14 : sm_ic 116 14 = some (.getfield 30, 0, 3, 351) := rfl
theorem r_116_17 : sm_ic 116 17 = some (.invokevirtual 273, 117, 1, 681) := rfl
theorem r_116_20 : sm_ic 116 20 = some (.isub, 0, 0, 0) := rfl
theorem r_116_21 : sm_ic 116 21 = some (.iload_n 2, 0, 0, 0) := rfl
theorem r_116_22 : sm_ic 116 22 = some (.invokestatic 240, 118, 2, 685) := rfl
theorem r_116_25 : sm_ic 116 25 = some (.imul, 0, 0, 0) := rfl
theorem r_116_26 : sm_ic 116 26 = some (.ireturn, 0, 0, 0) := rfl
theorem r_117_0 : sm_ic 117 0 = some (.aload_n 0, 0, 0, 0) := rfl
theorem r_117_1 : sm_ic 117 1 = some (.getfield 87, 1, 8, 106) := rfl
theorem r_117_4 : sm_ic 117 4 = some (.ireturn, 0, 0, 0) := rfl
theorem r_118_0 : sm_ic 118 0 = some (.iconst 1, 0, 0, 0) := rfl
theorem r_118_1 : sm_ic 118 1 = some (.istore_n 2, 0, 0, 0) := rfl
theorem r_118_2 : sm_ic 118 2 = some (.iconst 0, 0, 0, 0) := rfl
theorem r_118_3 : sm_ic 118 3 = some (.istore_n 3, 0, 0, 0) := rfl
theorem r_118_4 : sm_ic 118 4 = some (.iload_n 3, 0, 0, 0) := rfl
theorem r_118_5 : sm_ic 118 5 = some (.iload_n 1, 0, 0, 0) := rfl
theorem r_118_6 : sm_ic 118 6 = some (.if_icmp .ge 19, 25, 0, 0) := rfl
theorem r_118_9 : sm_ic 118 9 = some (.iload_n 3, 0, 0, 0) := rfl
theorem r_118_10 : sm_ic 118 10 = some (.bipush 8, 0, 0, 0) := rfl
theorem r_118_12 : sm_ic 118 12 = some (.if_icmp .ge 13, 25, 0, 0) := rfl
theorem r_118_15 : sm_ic 118 15 = some (.iload_n 2, 0, 0, 0) := rfl
theorem r_118_16 : sm_ic 118 16 = some (.iload_n 0, 0, 0, 0) := rfl
theorem r_118_17 : sm_ic 118 17 = some (.imul, 0, 0, 0) := rfl
theorem r_118_18 : sm_ic 118 18 = some (.istore_n 2, 0, 0, 0) := rfl
theorem r_118_19 : sm_ic 118 19 = some (.iinc 3 1, 0, 0, 0) := rfl
theorem r_118_22 : sm_ic 118 22 = some (.goto (-18), 4, 0, 0) := rfl
theorem r_118_25 : sm_ic 118 25 = some (.iload_n 2, 0, 0, 0) := rfl
theorem r_118_26 : sm_ic 118 26 = some (.ireturn, 0, 0, 0) := rfl
theorem r_119_0 : sm_ic 119 0 = some (.iload_n 1, 0, 0, 0) := rfl
theorem r_119_1 : sm_ic 119 1 = some (.istore_n 2, 0, 0, 0) := rfl
theorem r_119_2 : sm_ic 119 2 = some (.iload_n 0, 0, 0, 0) := rfl
theorem r_119_3 : sm_ic 119 3 = some (.istore_n 3, 0, 0, 0) := rfl
theorem r_119_4 : sm_ic 119 4 = some (.iconst 0, 0, 0, 0) := rfl
theorem r_119_5 : sm_ic 119 5 = some (.istore 4, 0, 0, 0) := rfl
theorem r_119_7 : sm_ic 119 7 = some (.iload 4, 0, 0, 0) := rfl
theorem r_119_9 : sm_ic 119 9 = some (.bipush 100, 0, 0, 0) := rfl
theorem r_119_11 : sm_ic 119 11 = some (.if_icmp .ge 23, 34, 0, 0) := rfl
theorem r_119_14 : sm_ic 119 14 = some (.iload_n 3, 0, 0, 0) := rfl
theorem r_119_15 : sm_ic 119 15 = some (.ifCond .eq 19, 34, 0, 0) := rfl
theorem r_119_18 : sm_ic 119 18 = some (.iload_n 2, 0, 0, 0) := rfl
theorem r_119_19 : sm_ic 119 19 = some (.iload_n 3, 0, 0, 0) := rfl
theorem r_119_20 : sm_ic 119 20 = some (.irem, 0, 0, 0) := rfl
theorem r_119_21 : sm_ic 119 21 = some (.istore 5, 0, 0, 0) := rfl
theorem r_119_23 : sm_ic 119 23 = some (.iload_n 3, 0, 0, 0) := rfl
theorem r_119_24 : sm_ic 119 24 = some (.istore_n 2, 0, 0, 0) := rfl
theorem r_119_25 : sm_ic 119 25 = some (.iload 5, 0, 0, 0) := rfl
theorem r_119_27 : sm_ic 119 27 = some (.istore_n 3, 0, 0, 0) := rfl
theorem r_119_28 : sm_ic 119 28 = some (.iinc 4 1, 0, 0, 0) := rfl
theorem r_119_31 : sm_ic 119 31 = some (.goto (-24), 7, 0, 0) := rfl
theorem r_119_34 : sm_ic 119 34 = some (.iload_n 2, 0, 0, 0) := rfl
theorem r_119_35 : sm_ic 119 35 = some (.ireturn, 0, 0, 0) := rfl
theorem r_120_0 : sm_ic 120 0 = some (.iload_n 1, 0, 0, 0) := rfl
theorem r_120_1 : sm_ic 120 1 = some (.ifCond .lt 14, 15, 0, 0) := rfl
theorem r_120_4 : sm_ic 120 4 = some (.iload_n 1, 0, 0, 0) := rfl
theorem r_120_5 : sm_ic 120 5 = some (.aload_n 0, 0, 0, 0) := rfl
theorem r_120_6 : sm_ic 120 6 = some (.getfield 30, 0, 3, 351) := rfl
theorem r_120_9 : sm_ic 120 9 = some (.invokevirtual 204, 86, 1, 616) := rfl
theorem r_120_12 : sm_ic 120 12 = some (.if_icmp .le 5, 17, 0, 0) := rfl
theorem r_120_15 : sm_ic 120 15 = some (.iconst (-1), 0, 0, 0) := rfl
theorem r_120_16 : sm_ic 120 16 = some (.ireturn, 0, 0, 0) := rfl
theorem r_120_17 : sm_ic 120 17 = some (.iconst 0, 0, 0, 0) := rfl
theorem r_120_18 : sm_ic 120 18 = some (.istore_n 2, 0, 0, 0) := rfl
theorem r_120_19 : sm_ic 120 19 = some (.iconst 0, 0, 0, 0) := rfl
theorem r_120_20 : sm_ic 120 20 = some (.istore_n 3, 0, 0, 0) := rfl
theorem r_120_21 : sm_ic 120 21 = some (.iload_n 3, 0, 0, 0) := rfl
theorem r_120_22 : sm_ic 120 22 = some (.iconst 2, 0, 0, 0) := rfl
theorem r_120_23 : sm_ic 120 23 = some (.if_icmp .ge 28, 51, 0, 0) := rfl
theorem r_120_26 : sm_ic 120 26 = some (.aload_n 0, 0, 0, 0) := rfl
theorem r_120_27 : sm_ic 120 27 = some (.aload_n 0, 0, 0, 0) := rfl
theorem r_120_28 : sm_ic 120 28 = some (.getfield 89, 0, 8, 356) := rfl
theorem r_120_31 : sm_ic 120 31 = some (.iload_n 3, 0, 0, 0) := rfl
theorem r_120_32 : sm_ic 120 32 = some (.invokevirtual 141, 73, 3, 492) := rfl
theorem r_120_35 : sm_ic 120 35 = some (.iload_n 1, 0, 0, 0) := rfl
theorem r_120_36 : sm_ic 120 36 = some (.if_icmp .ne 9, 45, 0, 0) := rfl
theorem r_120_39 : sm_ic 120 39 = some (.iload_n 2, 0, 0, 0) := rfl
theorem r_120_40 : sm_ic 120 40 = some (.iconst 1, 0, 0, 0) := rfl
theorem r_120_41 : sm_ic 120 41 = some (.iload_n 3, 0, 0, 0) := rfl
theorem r_120_42 : sm_ic 120 42 = some (.ishl, 0, 0, 0) := rfl
theorem r_120_43 : sm_ic 120 43 = some (.ior, 0, 0, 0) := rfl
theorem r_120_44 : sm_ic 120 44 = some (.istore_n 2, 0, 0, 0) := rfl
theorem r_120_45 : sm_ic 120 45 = some (.iinc 3 1, 0, 0, 0) := rfl
theorem r_120_48 : sm_ic 120 48 = some (.goto (-27), 21, 0, 0) := rfl
theorem r_120_51 : sm_ic 120 51 = some (.iload_n 2, 0, 0, 0) := rfl
theorem r_120_52 : sm_ic 120 52 = some (.ireturn, 0, 0, 0) := rfl
theorem r_121_0 : sm_ic 121 0 = some (.iload_n 1, 0, 0, 0) := rfl
theorem r_121_1 : sm_ic 121 1 = some (.ifCond .lt 28, 29, 0, 0) := rfl
theorem r_121_4 : sm_ic 121 4 = some (.iload_n 1, 0, 0, 0) := rfl
theorem r_121_5 : sm_ic 121 5 = some (.sipush 9999, 0, 0, 0) := rfl
theorem r_121_8 : sm_ic 121 8 = some (.if_icmp .gt 21, 29, 0, 0) := rfl
theorem r_121_11 : sm_ic 121 11 = some (.iload_n 2, 0, 0, 0) := rfl
theorem r_121_12 : sm_ic 121 12 = some (.iconst 1, 0, 0, 0) := rfl
theorem r_121_13 : sm_ic 121 13 = some (.if_icmp .lt 16, 29, 0, 0) := rfl
theorem r_121_16 : sm_ic 121 16 = some (.iload_n 2, 0, 0, 0) := rfl
theorem r_121_17 : sm_ic 121 17 = some (.bipush 60, 0, 0, 0) := rfl
theorem r_121_19 : sm_ic 121 19 = some (.if_icmp .gt 10, 29, 0, 0) := rfl
theorem r_121_22 : sm_ic 121 22 = some (.iload_n 3, 0, 0, 0) := rfl
theorem r_121_23 : sm_ic 121 23 = some (.invokestatic 163, 84, 1, 542) := rfl
theorem r_121_26 : sm_ic 121 26 = some (.ifCond .ne 5, 31, 0, 0) := rfl
theorem r_121_29 : sm_ic 121 29 = some (.iconst (-1), 0, 0, 0) := rfl
theorem r_121_30 : sm_ic 121 30 = some (.ireturn, 0, 0, 0) := rfl
theorem r_121_31 : sm_ic 121 31 = some (.iconst 0, 0, 0, 0) := rfl
theorem r_121_32 : sm_ic 121 32 = some (.istore 4, 0, 0, 0) := rfl
theorem r_121_34 : sm_ic 121 34 = some (.iconst 0, 0, 0, 0) := rfl
theorem r_121_35 : sm_ic 121 35 = some (.istore 5, 0, 0, 0) := rfl
theorem r_121_37 : sm_ic 121 37 = some (.iload 5, 0, 0, 0) := rfl
theorem r_121_39 : sm_ic 121 39 = some (.iload_n 2, 0, 0, 0) := rfl
theorem r_121_40 : sm_ic 121 40 = some (.if_icmp .ge 100, 140, 0, 0) := rfl
theorem r_121_43 : sm_ic 121 43 = some (.iload_n 1, 0, 0, 0) := rfl
theorem r_121_44 : sm_ic 121 44 = some (.iload 5, 0, 0, 0) := rfl
theorem r_121_46 : sm_ic 121 46 = some (.invokestatic 246, 122, 2, 699) := rfl
theorem r_121_49 : sm_ic 121 49 = some (.istore 6, 0, 0, 0) := rfl
theorem r_121_51 : sm_ic 121 51 = some (.aload_n 0, 0, 0, 0) := rfl
theorem r_121_52 : sm_ic 121 52 = some (.getfield 89, 0, 8, 356) := rfl
theorem r_121_55 : sm_ic 121 55 = some (.iload 6, 0, 0, 0) := rfl
theorem r_121_57 : sm_ic 121 57 = some (.iconst 4, 0, 0, 0) := rfl
theorem r_121_58 : sm_ic 121 58 = some (.irem, 0, 0, 0) := rfl
theorem r_121_59 : sm_ic 121 59 = some (.ifCond .ne 7, 66, 0, 0) := rfl
theorem r_121_62 : sm_ic 121 62 = some (.iconst 1, 0, 0, 0) := rfl
theorem r_121_63 : sm_ic 121 63 = some (.goto 4, 67, 0, 0) := rfl
theorem r_121_66 : sm_ic 121 66 = some (.iconst 0, 0, 0, 0) := rfl
theorem r_121_67 : sm_ic 121 67 = some (.iload 6, 0, 0, 0) := rfl
theorem r_121_69 : sm_ic 121 69 = some (.bipush 7, 0, 0, 0) := rfl
theorem r_121_71 : sm_ic 121 71 = some (.irem, 0, 0, 0) := rfl
theorem r_121_72 : sm_ic 121 72 = some (.ifCond .ne 7, 79, 0, 0) := rfl
theorem r_121_75 : sm_ic 121 75 = some (.iconst 1, 0, 0, 0) := rfl
theorem r_121_76 : sm_ic 121 76 = some (.goto 4, 80, 0, 0) := rfl
theorem r_121_79 : sm_ic 121 79 = some (.iconst 0, 0, 0, 0) := rfl
theorem r_121_80 : sm_ic 121 80 = some (.invokestatic 190, 96, 3, 592) := rfl
theorem r_121_83 : sm_ic 121 83 = some (.lstore 7, 0, 0, 0) := rfl
theorem r_121_85 : sm_ic 121 85 = some (.aload_n 0, 0, 0, 0) := rfl
theorem r_121_86 : sm_ic 121 86 = some (.lload 7, 0, 0, 0) := rfl
theorem r_121_88 : sm_ic 121 88 = some (.iload 6, 0, 0, 0) := rfl
theorem r_121_90 : sm_ic 121 90 = some (.bipush 8, 0, 0, 0) := rfl
theorem r_121_92 : sm_ic 121 92 = some (.idiv, 0, 0, 0) := rfl
theorem r_121_93 : sm_ic 121 93 = some (.iconst 2, 0, 0, 0) := rfl
theorem r_121_94 : sm_ic 121 94 = some (.irem, 0, 0, 0) := rfl
theorem r_121_95 : sm_ic 121 95 = some (.invokevirtual 141, 73, 3, 492) := rfl
theorem r_121_98 : sm_ic 121 98 = some (.istore 9, 0, 0, 0) := rfl
theorem r_121_100 : sm_ic 121 100 = some (.iload_n 3, 0, 0, 0) := rfl
theorem r_121_101 : sm_ic 121 101 = some (.ifCond .ne 18, 119, 0, 0) := rfl
theorem r_121_104 : sm_ic 121 104 = some (.aload_n 0, 0, 0, 0) := rfl
theorem r_121_105 : sm_ic 121 105 = some (.getfield 30, 0, 3, 351) := rfl
theorem r_121_108 : sm_ic 121 108 = some (.iload 9, 0, 0, 0) := rfl
theorem r_121_110 : sm_ic 121 110 = some (.invokevirtual 156, 81, 2, 530) := rfl
theorem r_121_113 : sm_ic 121 113 = some (.ifCond .eq 21, 134, 0, 0) := rfl
theorem r_121_116 : sm_ic 121 116 = some (.goto 15, 131, 0, 0) := rfl
theorem r_121_119 : sm_ic 121 119 = some (.aload_n 0, 0, 0, 0) := rfl
theorem r_121_120 : sm_ic 121 120 = some (.getfield 30, 0, 3, 351) := rfl
theorem r_121_123 : sm_ic 121 123 = some (.iload 9, 0, 0, 0) := rfl
theorem r_121_125 : sm_ic 121 125 = some (.invokevirtual 169, 87, 2, 553) := rfl
theorem r_121_128 : sm_ic 121 128 = some (.ifCond .eq 6, 134, 0, 0) := rfl
theorem r_121_131 : sm_ic 121 131 = some (.iinc 4 1, 0, 0, 0) := rfl
theorem r_121_134 : sm_ic 121 134 = some (.iinc 5 1, 0, 0, 0) := rfl
theorem r_121_137 : sm_ic 121 137 = some (.goto (-100), 37, 0, 0) := rfl
theorem r_121_140 : sm_ic 121 140 = some (.iload 4, 0, 0, 0) := rfl
theorem r_121_142 : sm_ic 121 142 = some (.ireturn, 0, 0, 0) := rfl
theorem r_122_0 : sm_ic 122 0 = some (.ldc2_w 276, 7919, 0, 702) := rfl
theorem r_122_3 : sm_ic 122 3 = some (.iload_n 0, 0, 0, 0) := rfl
theorem r_122_4 : sm_ic 122 4 = some (.i2l, 0, 0, 0) := rfl
theorem r_122_5 : sm_ic 122 5 = some (.lmul, 0, 0, 0) := rfl
theorem r_122_6 : sm_ic 122 6 = some (.ldc2_w 278, 6151, 0, 703) := rfl
theorem r_122_9 : sm_ic 122 9 = some (.iload_n 1, 0, 0, 0) := rfl
theorem r_122_10 : sm_ic 122 10 = some (.i2l, 0, 0, 0) := rfl
theorem r_122_11 : sm_ic 122 11 = some (.lmul, 0, 0, 0) := rfl
theorem r_122_12 : sm_ic 122 12 = some (.ladd, 0, 0, 0) := rfl
theorem r_122_13 : sm_ic 122 13 = some (.lconst 1, 0, 0, 0) := rfl
theorem r_122_14 : sm_ic 122 14 = some (.ladd, 0, 0, 0) := rfl
theorem r_122_15 : sm_ic 122 15 = some (.lstore_n 2, 0, 0, 0) := rfl
theorem r_122_16 : sm_ic 122 16 = some (.lload_n 2, 0, 0, 0) := rfl
theorem r_122_17 : sm_ic 122 17 = some (.lload_n 2, 0, 0, 0) := rfl
theorem r_122_18 : sm_ic 122 18 = some (.lmul, 0, 0, 0) := rfl
theorem r_122_19 : sm_ic 122 19 = some (.ldc2_w 280, 65521, 0, 704) := rfl
theorem r_122_22 : sm_ic 122 22 = some (.lrem, 0, 0, 0) := rfl
theorem r_122_23 : sm_ic 122 23 = some (.l2i, 0, 0, 0) := rfl
theorem r_122_24 : sm_ic 122 24 = some (.iconst 2, 0, 0, 0) := rfl
theorem r_122_25 : sm_ic 122 25 = some (.idiv, 0, 0, 0) := rfl
theorem r_122_26 : sm_ic 122 26 = some (.ireturn, 0, 0, 0) := rfl
theorem r_123_0 : sm_ic 123 0 = some (.aload_n 0, 0, 0, 0) := rfl
theorem r_123_1 : sm_ic 123 1 = some (.getfield 49, 0, 6, 354) := rfl
theorem r_123_4 : sm_ic 123 4 = some (.invokevirtual 194, 98, 1, 600) := rfl
theorem r_123_7 : sm_ic 123 7 = some (.iconst 2, 0, 0, 0) := rfl
theorem r_123_8 : sm_ic 123 8 = some (.if_icmp .lt 6, 14, 0, 0) := rfl
theorem r_123_11 : sm_ic 123 11 = some (.bipush (-3), 0, 0, 0) := rfl
theorem r_123_13 : sm_ic 123 13 = some (.ireturn, 0, 0, 0) := rfl
theorem r_123_14 : sm_ic 123 14 = some (.aload_n 0, 0, 0, 0) := rfl
theorem r_123_15 : sm_ic 123 15 = some (.getfield 49, 0, 6, 354) := rfl
theorem r_123_18 : sm_ic 123 18 = some (.aload_n 0, 0, 0, 0) := rfl
theorem r_123_19 : sm_ic 123 19 = some (.getfield 89, 0, 8, 356) := rfl
theorem r_123_22 : sm_ic 123 22 = some (.invokevirtual 249, 90, 2, 567) := rfl
theorem r_123_25 : sm_ic 123 25 = some (.aload_n 0, 0, 0, 0) := rfl
theorem r_123_26 : sm_ic 123 26 = some (.getfield 49, 0, 6, 354) := rfl
theorem r_123_29 : sm_ic 123 29 = some (.invokevirtual 194, 98, 1, 600) := rfl
theorem r_123_32 : sm_ic 123 32 = some (.ireturn, 0, 0, 0) := rfl
theorem r_124_0 : sm_ic 124 0 = some (.aload_n 0, 0, 0, 0) := rfl
theorem r_124_1 : sm_ic 124 1 = some (.getfield 49, 0, 6, 354) := rfl
theorem r_124_4 : sm_ic 124 4 = some (.invokevirtual 194, 98, 1, 600) := rfl
theorem r_124_7 : sm_ic 124 7 = some (.ifCond .ne 6, 13, 0, 0) := rfl
theorem r_124_10 : sm_ic 124 10 = some (.bipush (-2), 0, 0, 0) := rfl
theorem r_124_12 : sm_ic 124 12 = some (.ireturn, 0, 0, 0) := rfl
theorem r_124_13 : sm_ic 124 13 = some (.aload_n 0, 0, 0, 0) := rfl
theorem r_124_14 : sm_ic 124 14 = some (.aload_n 0, 0, 0, 0) := rfl
theorem r_124_15 : sm_ic 124 15 = some (.getfield 49, 0, 6, 354) := rfl
theorem r_124_18 : sm_ic 124 18 = some (.aload_n 0, 0, 0, 0) := rfl
theorem r_124_19 : sm_ic 124 19 = some (.getfield 89, 0, 8, 356) := rfl
theorem r_124_22 : sm_ic 124 22 = some (.invokevirtual 197, 99, 2, 604) := rfl
theorem r_124_25 : sm_ic 124 25 = some (.putfield 89, 0, 8, 356) := rfl
theorem r_124_28 : sm_ic 124 28 = some (.aload_n 0, 0, 0, 0) := rfl
theorem r_124_29 : sm_ic 124 29 = some (.getfield 45, 0, 5, 353) := rfl
theorem r_124_32 : sm_ic 124 32 = some (.invokevirtual 93, 51, 1, 404) := rfl
theorem r_124_35 : sm_ic 124 35 = some (.aload_n 0, 0, 0, 0) := rfl
theorem r_124_36 : sm_ic 124 36 = some (.getfield 49, 0, 6, 354) := rfl
theorem r_124_39 : sm_ic 124 39 = some (.invokevirtual 194, 98, 1, 600) := rfl
theorem r_124_42 : sm_ic 124 42 = some (.ireturn, 0, 0, 0) := rfl
theorem r_125_0 : sm_ic 125 0 = some (.iload_n 1, 0, 0, 0) := rfl
theorem r_125_1 : sm_ic 125 1 = some (.tableswitch 168 0 11 #[63, 71, 79, 90, 101, 112, 120, 128, 136, 144, 152, 160], 0, 0, 0) := rfl
theorem r_125_64 : sm_ic 125 64 = some (.aload_n 0, 0, 0, 0) := rfl
theorem r_125_65 : sm_ic 125 65 = some (.getfield 30, 0, 3, 351) := rfl
theorem r_125_68 : sm_ic 125 68 = some (.invokevirtual 95, 53, 1, 412) := rfl
theorem r_125_71 : sm_ic 125 71 = some (.ireturn, 0, 0, 0) := rfl
theorem r_125_72 : sm_ic 125 72 = some (.aload_n 0, 0, 0, 0) := rfl
theorem r_125_73 : sm_ic 125 73 = some (.getfield 30, 0, 3, 351) := rfl
theorem r_125_76 : sm_ic 125 76 = some (.invokevirtual 224, 59, 1, 438) := rfl
theorem r_125_79 : sm_ic 125 79 = some (.ireturn, 0, 0, 0) := rfl
theorem r_125_80 : sm_ic 125 80 = some (.aload_n 0, 0, 0, 0) := rfl
theorem r_125_81 : sm_ic 125 81 = some (.getfield 89, 0, 8, 356) := rfl
theorem r_125_84 : sm_ic 125 84 = some (.invokestatic 123, 60, 1, 443) := rfl
theorem r_125_87 : sm_ic 125 87 = some (.invokestatic 148, 78, 1, 516) := rfl
theorem r_125_90 : sm_ic 125 90 = some (.ireturn, 0, 0, 0) := rfl
theorem r_125_91 : sm_ic 125 91 = some (.aload_n 0, 0, 0, 0) := rfl
theorem r_125_92 : sm_ic 125 92 = some (.getfield 89, 0, 8, 356) := rfl
theorem r_125_95 : sm_ic 125 95 = some (.invokestatic 187, 69, 1, 591) := rfl
theorem r_125_98 : sm_ic 125 98 = some (.invokestatic 159, 82, 1, 535) := rfl
theorem r_125_101 : sm_ic 125 101 = some (.ireturn, 0, 0, 0) := rfl
theorem r_125_102 : sm_ic 125 102 = some (.aload_n 0, 0, 0, 0) := rfl
theorem r_125_103 : sm_ic 125 103 = some (.getfield 89, 0, 8, 356) := rfl
theorem r_125_106 : sm_ic 125 106 = some (.invokestatic 144, 64, 1, 515) := rfl
theorem r_125_109 : sm_ic 125 109 = some (.invokestatic 159, 82, 1, 535) := rfl
theorem r_125_112 : sm_ic 125 112 = some (.ireturn, 0, 0, 0) := rfl
theorem r_125_113 : sm_ic 125 113 = some (.aload_n 0, 0, 0, 0) := rfl
theorem r_125_114 : sm_ic 125 114 = some (.getfield 30, 0, 3, 351) := rfl
theorem r_125_117 : sm_ic 125 117 = some (.invokevirtual 210, 68, 1, 625) := rfl
theorem r_125_120 : sm_ic 125 120 = some (.ireturn, 0, 0, 0) := rfl
theorem r_125_121 : sm_ic 125 121 = some (.aload_n 0, 0, 0, 0) := rfl
theorem r_125_122 : sm_ic 125 122 = some (.getfield 30, 0, 3, 351) := rfl
theorem r_125_125 : sm_ic 125 125 = some (.invokevirtual 252, 126, 1, 717) := rfl
theorem r_125_128 : sm_ic 125 128 = some (.ireturn, 0, 0, 0) := rfl
theorem r_125_129 : sm_ic 125 129 = some (.aload_n 0, 0, 0, 0) := rfl
theorem r_125_130 : sm_ic 125 130 = some (.getfield 30, 0, 3, 351) := rfl
theorem r_125_133 : sm_ic 125 133 = some (.invokevirtual 255, 127, 1, 721) := rfl
theorem r_125_136 : sm_ic 125 136 = some (.ireturn, 0, 0, 0) := rfl
theorem r_125_137 : sm_ic 125 137 = some (.aload_n 0, 0, 0, 0) := rfl
theorem r_125_138 : sm_ic 125 138 = some (.getfield 55, 0, 7, 355) := rfl
theorem r_125_141 : sm_ic 125 141 = some (.invokevirtual 231, 109, 1, 649) := rfl
theorem r_125_144 : sm_ic 125 144 = some (.ireturn, 0, 0, 0) := rfl
theorem r_125_145 : sm_ic 125 145 = some (.aload_n 0, 0, 0, 0) := rfl
theorem r_125_146 : sm_ic 125 146 = some (.getfield 45, 0, 5, 353) := rfl
theorem r_125_149 : sm_ic 125 149 = some (.invokevirtual 194, 98, 1, 600) := rfl
theorem r_125_152 : sm_ic 125 152 = some (.ireturn, 0, 0, 0) := rfl
theorem r_125_153 : sm_ic 125 153 = some (.aload_n 0, 0, 0, 0) := rfl
theorem r_125_154 : sm_ic 125 154 = some (.getfield 49, 0, 6, 354) := rfl
theorem r_125_157 : sm_ic 125 157 = some (.invokevirtual 194, 98, 1, 600) := rfl
theorem r_125_160 : sm_ic 125 160 = some (.ireturn, 0, 0, 0) := rfl
theorem r_125_161 : sm_ic 125 161 = some (.aload_n 0, 0, 0, 0) := rfl
theorem r_125_162 : sm_ic 125 162 = some (.getfield 10, 0, 0, 348) := rfl
theorem r_125_165 : sm_ic 125 165 = some (.invokevirtual 66, 20, 1, 381) := rfl
theorem r_125_168 : sm_ic 125 168 = some (.ireturn, 0, 0, 0) := rfl
theorem r_125_169 : sm_ic 125 169 = some (.iconst (-1), 0, 0, 0) := rfl
theorem r_125_170 : sm_ic 125 170 = some (.ireturn, 0, 0, 0) := rfl
theorem r_126_0 : sm_ic 126 0 = some (.aload_n 0, 0, 0, 0) := rfl
theorem r_126_1 : sm_ic 126 1 = some (.getfield 81, 1, 6, 104) := rfl
theorem r_126_4 : sm_ic 126 4 = some (.ireturn, 0, 0, 0) := rfl
theorem r_127_0 : sm_ic 127 0 = some (.aload_n 0, 0, 0, 0) := rfl
theorem r_127_1 : sm_ic 127 1 = some (.getfield 84, 1, 7, 105) := rfl
theorem r_127_4 : sm_ic 127 4 = some (.ireturn, 0, 0, 0) := rfl
theorem r_128_0 : sm_ic 128 0 = some (.aload_n 0, 0, 0, 0) := rfl
theorem r_128_1 : sm_ic 128 1 = some (.invokespecial 1, 9999, 0, 730) := rfl
theorem r_128_4 : sm_ic 128 4 = some (.aload_n 0, 0, 0, 0) := rfl
theorem r_128_5 : sm_ic 128 5 = some (.sipush 200, 0, 0, 0) := rfl
theorem r_128_8 : sm_ic 128 8 = some (.newarray .int, 0, 0, 91) := rfl
theorem r_128_10 : sm_ic 128 10 = some (.putfield 7, 7, 1, 744) := rfl
theorem r_128_13 : sm_ic 128 13 = some (.aload_n 0, 0, 0, 0) := rfl
theorem r_128_14 : sm_ic 128 14 = some (.iconst 2, 0, 0, 0) := rfl
theorem r_128_15 : sm_ic 128 15 = some (.newarray .int, 0, 0, 91) := rfl
theorem r_128_17 : sm_ic 128 17 = some (.putfield 13, 7, 2, 745) := rfl
theorem r_128_20 : sm_ic 128 20 = some (.aload_n 0, 0, 0, 0) := rfl
theorem r_128_21 : sm_ic 128 21 = some (.bipush 16, 0, 0, 0) := rfl
theorem r_128_23 : sm_ic 128 23 = some (.newarray .int, 0, 0, 91) := rfl
theorem r_128_25 : sm_ic 128 25 = some (.putfield 16, 7, 3, 746) := rfl
theorem r_128_28 : sm_ic 128 28 = some (.aload_n 0, 0, 0, 0) := rfl
theorem r_128_29 : sm_ic 128 29 = some (.bipush 16, 0, 0, 0) := rfl
theorem r_128_31 : sm_ic 128 31 = some (.newarray .int, 0, 0, 91) := rfl
theorem r_128_33 : sm_ic 128 33 = some (.putfield 19, 7, 4, 747) := rfl
theorem r_128_36 : sm_ic 128 36 = some (.aload_n 0, 0, 0, 0) := rfl
theorem r_128_37 : sm_ic 128 37 = some (.bipush 16, 0, 0, 0) := rfl
theorem r_128_39 : sm_ic 128 39 = some (.newarray .int, 0, 0, 91) := rfl
theorem r_128_41 : sm_ic 128 41 = some (.putfield 22, 7, 5, 748) := rfl
theorem r_128_44 : sm_ic 128 44 = some (.aload_n 0, 0, 0, 0) := rfl
theorem r_128_45 : sm_ic 128 45 = some (.bipush 16, 0, 0, 0) := rfl
theorem r_128_47 : sm_ic 128 47 = some (.newarray .int, 0, 0, 91) := rfl
theorem r_128_49 : sm_ic 128 49 = some (.putfield 25, 7, 6, 749) := rfl
theorem r_128_52 : sm_ic 128 52 = some (.aload_n 0, 0, 0, 0) := rfl
theorem r_128_53 : sm_ic 128 53 = some (.iconst 2, 0, 0, 0) := rfl
theorem r_128_54 : sm_ic 128 54 = some (.newarray .int, 0, 0, 91) := rfl
theorem r_128_56 : sm_ic 128 56 = some (.putfield 28, 7, 7, 750) := rfl
theorem r_128_59 : sm_ic 128 59 = some (.aload_n 0, 0, 0, 0) := rfl
theorem r_128_60 : sm_ic 128 60 = some (.bipush 10, 0, 0, 0) := rfl
theorem r_128_62 : sm_ic 128 62 = some (.newarray .int, 0, 0, 91) := rfl
theorem r_128_64 : sm_ic 128 64 = some (.putfield 31, 7, 8, 751) := rfl
theorem r_128_67 : sm_ic 128 67 = some (.aload_n 0, 0, 0, 0) := rfl
theorem r_128_68 : sm_ic 128 68 = some (.bipush 8, 0, 0, 0) := rfl
theorem r_128_70 : sm_ic 128 70 = some (.newarray .int, 0, 0, 91) := rfl
theorem r_128_72 : sm_ic 128 72 = some (.putfield 34, 7, 9, 752) := rfl
theorem r_128_75 : sm_ic 128 75 = some (.aload_n 0, 0, 0, 0) := rfl
theorem r_128_76 : sm_ic 128 76 = some (.bipush 24, 0, 0, 0) := rfl
theorem r_128_78 : sm_ic 128 78 = some (.newarray .int, 0, 0, 91) := rfl
theorem r_128_80 : sm_ic 128 80 = some (.putfield 37, 7, 10, 753) := rfl
theorem r_128_83 : sm_ic 128 83 = some (.aload_n 0, 0, 0, 0) := rfl
theorem r_128_84 : sm_ic 128 84 = some (.sipush 192, 0, 0, 0) := rfl
theorem r_128_87 : sm_ic 128 87 = some (.newarray .int, 0, 0, 91) := rfl
theorem r_128_89 : sm_ic 128 89 = some (.putfield 40, 7, 11, 754) := rfl
theorem r_128_92 : sm_ic 128 92 = some (.aload_n 0, 0, 0, 0) := rfl
theorem r_128_93 : sm_ic 128 93 = some (.bipush 48, 0, 0, 0) := rfl
theorem r_128_95 : sm_ic 128 95 = some (.newarray .int, 0, 0, 91) := rfl
theorem r_128_97 : sm_ic 128 97 = some (.putfield 43, 7, 13, 756) := rfl
theorem r_128_100 : sm_ic 128 100 = some (.aload_n 0, 0, 0, 0) := rfl
theorem r_128_101 : sm_ic 128 101 = some (.bipush 8, 0, 0, 0) := rfl
theorem r_128_103 : sm_ic 128 103 = some (.newarray .int, 0, 0, 91) := rfl
theorem r_128_105 : sm_ic 128 105 = some (.putfield 46, 7, 16, 759) := rfl
theorem r_128_108 : sm_ic 128 108 = some (.aload_n 0, 0, 0, 0) := rfl
theorem r_128_109 : sm_ic 128 109 = some (.bipush 8, 0, 0, 0) := rfl
theorem r_128_111 : sm_ic 128 111 = some (.newarray .int, 0, 0, 91) := rfl
theorem r_128_113 : sm_ic 128 113 = some (.putfield 49, 7, 17, 760) := rfl
theorem r_128_116 : sm_ic 128 116 = some (.aload_n 0, 0, 0, 0) := rfl
theorem r_128_117 : sm_ic 128 117 = some (.iconst 4, 0, 0, 0) := rfl
theorem r_128_118 : sm_ic 128 118 = some (.newarray .int, 0, 0, 91) := rfl
theorem r_128_120 : sm_ic 128 120 = some (.putfield 52, 7, 19, 762) := rfl
theorem r_128_123 : sm_ic 128 123 = some (.aload_n 0, 0, 0, 0) := rfl
theorem r_128_124 : sm_ic 128 124 = some (.bipush 8, 0, 0, 0) := rfl
theorem r_128_126 : sm_ic 128 126 = some (.newarray .int, 0, 0, 91) := rfl
theorem r_128_128 : sm_ic 128 128 = some (.putfield 55, 7, 20, 763) := rfl
theorem r_128_131 : sm_ic 128 131 = some (.aload_n 0, 0, 0, 0) := rfl
theorem r_128_132 : sm_ic 128 132 = some (.iconst 5, 0, 0, 0) := rfl
theorem r_128_133 : sm_ic 128 133 = some (.newarray .int, 0, 0, 91) := rfl
theorem r_128_135 : sm_ic 128 135 = some (.putfield 58, 7, 21, 764) := rfl
theorem r_128_138 : sm_ic 128 138 = some (.aload_n 0, 0, 0, 0) := rfl
theorem r_128_139 : sm_ic 128 139 = some (.iconst 5, 0, 0, 0) := rfl
theorem r_128_140 : sm_ic 128 140 = some (.newarray .int, 0, 0, 91) := rfl
theorem r_128_142 : sm_ic 128 142 = some (.putfield 61, 7, 22, 765) := rfl
theorem r_128_145 : sm_ic 128 145 = some (.aload_n 0, 0, 0, 0) := rfl
theorem r_128_146 : sm_ic 128 146 = some (.iconst 0, 0, 0, 0) := rfl
theorem r_128_147 : sm_ic 128 147 = some (.invokevirtual 64, 129, 2, 731) := rfl
theorem r_128_150 : sm_ic 128 150 = some (.aload_n 0, 0, 0, 0) := rfl
theorem r_128_151 : sm_ic 128 151 = some (.iconst 0, 0, 0, 0) := rfl
theorem r_128_152 : sm_ic 128 152 = some (.iconst 0, 0, 0, 0) := rfl
theorem r_128_153 : sm_ic 128 153 = some (.iconst 1, 0, 0, 0) := rfl
theorem r_128_154 : sm_ic 128 154 = some (.iconst 0, 0, 0, 0) := rfl
theorem r_128_155 : sm_ic 128 155 = some (.iconst 2, 0, 0, 0) := rfl
theorem r_128_156 : sm_ic 128 156 = some (.invokevirtual 68, 130, 6, 735) := rfl
theorem r_128_159 : sm_ic 128 159 = some (.aload_n 0, 0, 0, 0) := rfl
theorem r_128_160 : sm_ic 128 160 = some (.iconst 0, 0, 0, 0) := rfl
theorem r_128_161 : sm_ic 128 161 = some (.iconst 0, 0, 0, 0) := rfl
theorem r_128_162 : sm_ic 128 162 = some (.iconst 3, 0, 0, 0) := rfl
theorem r_128_163 : sm_ic 128 163 = some (.iconst 0, 0, 0, 0) := rfl
theorem r_128_164 : sm_ic 128 164 = some (.iconst 1, 0, 0, 0) := rfl
theorem r_128_165 : sm_ic 128 165 = some (.invokevirtual 68, 130, 6, 735) := rfl
theorem r_128_168 : sm_ic 128 168 = some (.aload_n 0, 0, 0, 0) := rfl
theorem r_128_169 : sm_ic 128 169 = some (.iconst 0, 0, 0, 0) := rfl
theorem r_128_170 : sm_ic 128 170 = some (.iconst 1, 0, 0, 0) := rfl
theorem r_128_171 : sm_ic 128 171 = some (.iconst 1, 0, 0, 0) := rfl
theorem r_128_172 : sm_ic 128 172 = some (.iconst 0, 0, 0, 0) := rfl
theorem r_128_173 : sm_ic 128 173 = some (.iconst 0, 0, 0, 0) := rfl
theorem r_128_174 : sm_ic 128 174 = some (.invokevirtual 68, 130, 6, 735) := rfl
theorem r_128_177 : sm_ic 128 177 = some (.aload_n 0, 0, 0, 0) := rfl
theorem r_128_178 : sm_ic 128 178 = some (.iconst 0, 0, 0, 0) := rfl
theorem r_128_179 : sm_ic 128 179 = some (.iconst 2, 0, 0, 0) := rfl
theorem r_128_180 : sm_ic 128 180 = some (.iconst 0, 0, 0, 0) := rfl
theorem r_128_181 : sm_ic 128 181 = some (.iconst 1, 0, 0, 0) := rfl
theorem r_128_182 : sm_ic 128 182 = some (.iconst 3, 0, 0, 0) := rfl
theorem r_128_183 : sm_ic 128 183 = some (.invokevirtual 68, 130, 6, 735) := rfl
theorem r_128_186 : sm_ic 128 186 = some (.aload_n 0, 0, 0, 0) := rfl
theorem r_128_187 : sm_ic 128 187 = some (.iconst 0, 0, 0, 0) := rfl
theorem r_128_188 : sm_ic 128 188 = some (.iconst 2, 0, 0, 0) := rfl
theorem r_128_189 : sm_ic 128 189 = some (.iconst 2, 0, 0, 0) := rfl
theorem r_128_190 : sm_ic 128 190 = some (.iconst 5, 0, 0, 0) := rfl
theorem r_128_191 : sm_ic 128 191 = some (.iconst 1, 0, 0, 0) := rfl
theorem r_128_192 : sm_ic 128 192 = some (.invokevirtual 68, 130, 6, 735) := rfl
theorem r_128_195 : sm_ic 128 195 = some (.aload_n 0, 0, 0, 0) := rfl
theorem r_128_196 : sm_ic 128 196 = some (.iconst 0, 0, 0, 0) := rfl
theorem r_128_197 : sm_ic 128 197 = some (.iconst 2, 0, 0, 0) := rfl
theorem r_128_198 : sm_ic 128 198 = some (.iconst 0, 0, 0, 0) := rfl
theorem r_128_199 : sm_ic 128 199 = some (.iconst 4, 0, 0, 0) := rfl
theorem r_128_200 : sm_ic 128 200 = some (.iconst 0, 0, 0, 0) := rfl
theorem r_128_201 : sm_ic 128 201 = some (.invokevirtual 68, 130, 6, 735) := rfl
theorem r_128_204 : sm_ic 128 204 = some (.aload_n 0, 0, 0, 0) := rfl
theorem r_128_205 : sm_ic 128 205 = some (.iconst 0, 0, 0, 0) := rfl
theorem r_128_206 : sm_ic 128 206 = some (.iconst 3, 0, 0, 0) := rfl
theorem r_128_207 : sm_ic 128 207 = some (.iconst 3, 0, 0, 0) := rfl
theorem r_128_208 : sm_ic 128 208 = some (.iconst 0, 0, 0, 0) := rfl
theorem r_128_209 : sm_ic 128 209 = some (.iconst 4, 0, 0, 0) := rfl
theorem r_128_210 : sm_ic 128 210 = some (.invokevirtual 68, 130, 6, 735) := rfl
theorem r_128_213 : sm_ic 128 213 = some (.aload_n 0, 0, 0, 0) := rfl
theorem r_128_214 : sm_ic 128 214 = some (.iconst 0, 0, 0, 0) := rfl
theorem r_128_215 : sm_ic 128 215 = some (.iconst 0, 0, 0, 0) := rfl
theorem r_128_216 : sm_ic 128 216 = some (.iconst 0, 0, 0, 0) := rfl
theorem r_128_217 : sm_ic 128 217 = some (.iconst 0, 0, 0, 0) := rfl
theorem r_128_218 : sm_ic 128 218 = some (.iconst 2, 0, 0, 0) := rfl
theorem r_128_219 : sm_ic 128 219 = some (.invokevirtual 68, 130, 6, 735) := rfl
theorem r_128_222 : sm_ic 128 222 = some (.aload_n 0, 0, 0, 0) := rfl
theorem r_128_223 : sm_ic 128 223 = some (.getfield 28, 7, 7, 750) := rfl
theorem r_128_226 : sm_ic 128 226 = some (.iconst 0, 0, 0, 0) := rfl
theorem r_128_227 : sm_ic 128 227 = some (.iconst 2, 0, 0, 0) := rfl
theorem r_128_228 : sm_ic 128 228 = some (.iastore, 0, 0, 0) := rfl
theorem r_128_229 : sm_ic 128 229 = some (.aload_n 0, 0, 0, 0) := rfl
theorem r_128_230 : sm_ic 128 230 = some (.getfield 31, 7, 8, 751) := rfl
theorem r_128_233 : sm_ic 128 233 = some (.iconst 0, 0, 0, 0) := rfl
theorem r_128_234 : sm_ic 128 234 = some (.iconst 2, 0, 0, 0) := rfl
theorem r_128_235 : sm_ic 128 235 = some (.iastore, 0, 0, 0) := rfl
theorem r_128_236 : sm_ic 128 236 = some (.aload_n 0, 0, 0, 0) := rfl
theorem r_128_237 : sm_ic 128 237 = some (.getfield 31, 7, 8, 751) := rfl
theorem r_128_240 : sm_ic 128 240 = some (.iconst 1, 0, 0, 0) := rfl
theorem r_128_241 : sm_ic 128 241 = some (.iconst 3, 0, 0, 0) := rfl
theorem r_128_242 : sm_ic 128 242 = some (.iastore, 0, 0, 0) := rfl
theorem r_128_243 : sm_ic 128 243 = some (.aload_n 0, 0, 0, 0) := rfl
theorem r_128_244 : sm_ic 128 244 = some (.getfield 34, 7, 9, 752) := rfl
theorem r_128_247 : sm_ic 128 247 = some (.iconst 1, 0, 0, 0) := rfl
theorem r_128_248 : sm_ic 128 248 = some (.bipush 6, 0, 0, 0) := rfl
theorem r_128_250 : sm_ic 128 250 = some (.iastore, 0, 0, 0) := rfl
theorem r_128_251 : sm_ic 128 251 = some (.aload_n 0, 0, 0, 0) := rfl
theorem r_128_252 : sm_ic 128 252 = some (.invokevirtual 72, 131, 1, 739) := rfl
theorem r_128_255 : sm_ic 128 255 = some (.return_, 0, 0, 0) := rfl
theorem r_129_0 : sm_ic 129 0 = some (.aload_n 0, 0, 0, 0) := rfl
theorem r_129_1 : sm_ic 129 1 = some (.getfield 13, 7, 2, 745) := rfl
theorem r_129_4 : sm_ic 129 4 = some (.iload_n 1, 0, 0, 0) := rfl
theorem r_129_5 : sm_ic 129 5 = some (.iconst 0, 0, 0, 0) := rfl
theorem r_129_6 : sm_ic 129 6 = some (.iastore, 0, 0, 0) := rfl
theorem r_129_7 : sm_ic 129 7 = some (.aload_n 0, 0, 0, 0) := rfl
theorem r_129_8 : sm_ic 129 8 = some (.getfield 28, 7, 7, 750) := rfl
theorem r_129_11 : sm_ic 129 11 = some (.iload_n 1, 0, 0, 0) := rfl
theorem r_129_12 : sm_ic 129 12 = some (.iconst 0, 0, 0, 0) := rfl
theorem r_129_13 : sm_ic 129 13 = some (.iastore, 0, 0, 0) := rfl
theorem r_129_14 : sm_ic 129 14 = some (.aload_n 0, 0, 0, 0) := rfl
theorem r_129_15 : sm_ic 129 15 = some (.getfield 34, 7, 9, 752) := rfl
theorem r_129_18 : sm_ic 129 18 = some (.iconst 4, 0, 0, 0) := rfl
theorem r_129_19 : sm_ic 129 19 = some (.iload_n 1, 0, 0, 0) := rfl
theorem r_129_20 : sm_ic 129 20 = some (.imul, 0, 0, 0) := rfl
theorem r_129_21 : sm_ic 129 21 = some (.iconst 4, 0, 0, 0) := rfl
theorem r_129_22 : sm_ic 129 22 = some (.iastore, 0, 0, 0) := rfl
theorem r_129_23 : sm_ic 129 23 = some (.aload_n 0, 0, 0, 0) := rfl
theorem r_129_24 : sm_ic 129 24 = some (.getfield 34, 7, 9, 752) := rfl
theorem r_129_27 : sm_ic 129 27 = some (.iconst 4, 0, 0, 0) := rfl
theorem r_129_28 : sm_ic 129 28 = some (.iload_n 1, 0, 0, 0) := rfl
theorem r_129_29 : sm_ic 129 29 = some (.imul, 0, 0, 0) := rfl
theorem r_129_30 : sm_ic 129 30 = some (.iconst 1, 0, 0, 0) := rfl
theorem r_129_31 : sm_ic 129 31 = some (.iadd, 0, 0, 0) := rfl
theorem r_129_32 : sm_ic 129 32 = some (.iconst 0, 0, 0, 0) := rfl
theorem r_129_33 : sm_ic 129 33 = some (.iastore, 0, 0, 0) := rfl
theorem r_129_34 : sm_ic 129 34 = some (.aload_n 0, 0, 0, 0) := rfl
theorem r_129_35 : sm_ic 129 35 = some (.getfield 34, 7, 9, 752) := rfl
theorem r_129_38 : sm_ic 129 38 = some (.iconst 4, 0, 0, 0) := rfl
theorem r_129_39 : sm_ic 129 39 = some (.iload_n 1, 0, 0, 0) := rfl
theorem r_129_40 : sm_ic 129 40 = some (.imul, 0, 0, 0) := rfl
theorem r_129_41 : sm_ic 129 41 = some (.iconst 2, 0, 0, 0) := rfl
theorem r_129_42 : sm_ic 129 42 = some (.iadd, 0, 0, 0) := rfl
theorem r_129_43 : sm_ic 129 43 = some (.iconst 5, 0, 0, 0) := rfl
theorem r_129_44 : sm_ic 129 44 = some (.iastore, 0, 0, 0) := rfl
theorem r_129_45 : sm_ic 129 45 = some (.aload_n 0, 0, 0, 0) := rfl
theorem r_129_46 : sm_ic 129 46 = some (.getfield 34, 7, 9, 752) := rfl
theorem r_129_49 : sm_ic 129 49 = some (.iconst 4, 0, 0, 0) := rfl
theorem r_129_50 : sm_ic 129 50 = some (.iload_n 1, 0, 0, 0) := rfl
theorem r_129_51 : sm_ic 129 51 = some (.imul, 0, 0, 0) := rfl
theorem r_129_52 : sm_ic 129 52 = some (.iconst 3, 0, 0, 0) := rfl
theorem r_129_53 : sm_ic 129 53 = some (.iadd, 0, 0, 0) := rfl
theorem r_129_54 : sm_ic 129 54 = some (.iconst 3, 0, 0, 0) := rfl
theorem r_129_55 : sm_ic 129 55 = some (.iastore, 0, 0, 0) := rfl
theorem r_129_56 : sm_ic 129 56 = some (.return_, 0, 0, 0) := rfl
theorem r_130_0 : sm_ic 130 0 = some (.bipush 8, 0, 0, 0) := rfl
theorem r_130_2 : sm_ic 130 2 = some (.iload_n 1, 0, 0, 0) := rfl
theorem r_130_3 : sm_ic 130 3 = some (.imul, 0, 0, 0) := rfl
theorem r_130_4 : sm_ic 130 4 = some (.aload_n 0, 0, 0, 0) := rfl
theorem r_130_5 : sm_ic 130 5 = some (.getfield 13, 7, 2, 745) := rfl
theorem r_130_8 : sm_ic 130 8 = some (.iload_n 1, 0, 0, 0) := rfl
theorem r_130_9 : sm_ic 130 9 = some (.iaload, 0, 0, 0) := rfl
theorem r_130_10 : sm_ic 130 10 = some (.iadd, 0, 0, 0) := rfl
theorem r_130_11 : sm_ic 130 11 = some (.istore 6, 0, 0, 0) := rfl
theorem r_130_13 : sm_ic 130 13 = some (.aload_n 0, 0, 0, 0) := rfl
theorem r_130_14 : sm_ic 130 14 = some (.getfield 16, 7, 3, 746) := rfl
theorem r_130_17 : sm_ic 130 17 = some (.iload 6, 0, 0, 0) := rfl
theorem r_130_19 : sm_ic 130 19 = some (.iload_n 2, 0, 0, 0) := rfl
theorem r_130_20 : sm_ic 130 20 = some (.iastore, 0, 0, 0) := rfl
theorem r_130_21 : sm_ic 130 21 = some (.aload_n 0, 0, 0, 0) := rfl
theorem r_130_22 : sm_ic 130 22 = some (.getfield 19, 7, 4, 747) := rfl
theorem r_130_25 : sm_ic 130 25 = some (.iload 6, 0, 0, 0) := rfl
theorem r_130_27 : sm_ic 130 27 = some (.iload_n 3, 0, 0, 0) := rfl
theorem r_130_28 : sm_ic 130 28 = some (.iastore, 0, 0, 0) := rfl
theorem r_130_29 : sm_ic 130 29 = some (.aload_n 0, 0, 0, 0) := rfl
theorem r_130_30 : sm_ic 130 30 = some (.getfield 22, 7, 5, 748) := rfl
theorem r_130_33 : sm_ic 130 33 = some (.iload 6, 0, 0, 0) := rfl
theorem r_130_35 : sm_ic 130 35 = some (.iload 4, 0, 0, 0) := rfl
theorem r_130_37 : sm_ic 130 37 = some (.iastore, 0, 0, 0) := rfl
theorem r_130_38 : sm_ic 130 38 = some (.aload_n 0, 0, 0, 0) := rfl
theorem r_130_39 : sm_ic 130 39 = some (.getfield 25, 7, 6, 749) := rfl
theorem r_130_42 : sm_ic 130 42 = some (.iload 6, 0, 0, 0) := rfl
theorem r_130_44 : sm_ic 130 44 = some (.iload 5, 0, 0, 0) := rfl
theorem r_130_46 : sm_ic 130 46 = some (.iastore, 0, 0, 0) := rfl
theorem r_130_47 : sm_ic 130 47 = some (.aload_n 0, 0, 0, 0) := rfl
theorem r_130_48 : sm_ic 130 48 = some (.getfield 13, 7, 2, 745) := rfl
theorem r_130_51 : sm_ic 130 51 = some (.iload_n 1, 0, 0, 0) := rfl
theorem r_130_52 : sm_ic 130 52 = some (.dup2, 0, 0, 0) := rfl
theorem r_130_53 : sm_ic 130 53 = some (.iaload, 0, 0, 0) := rfl
theorem r_130_54 : sm_ic 130 54 = some (.iconst 1, 0, 0, 0) := rfl
theorem r_130_55 : sm_ic 130 55 = some (.iadd, 0, 0, 0) := rfl
theorem r_130_56 : sm_ic 130 56 = some (.iastore, 0, 0, 0) := rfl
theorem r_130_57 : sm_ic 130 57 = some (.return_, 0, 0, 0) := rfl
theorem r_131_0 : sm_ic 131 0 = some (.iconst 0, 0, 0, 0) := rfl
theorem r_131_1 : sm_ic 131 1 = some (.istore_n 1, 0, 0, 0) := rfl
theorem r_131_2 : sm_ic 131 2 = some (.iload_n 1, 0, 0, 0) := rfl
theorem r_131_3 : sm_ic 131 3 = some (.bipush 24, 0, 0, 0) := rfl
theorem r_131_5 : sm_ic 131 5 = some (.if_icmp .ge 49, 54, 0, 0) := rfl
theorem r_131_8 : sm_ic 131 8 = some (.aload_n 0, 0, 0, 0) := rfl
theorem r_131_9 : sm_ic 131 9 = some (.getfield 37, 7, 10, 753) := rfl
theorem r_131_12 : sm_ic 131 12 = some (.iload_n 1, 0, 0, 0) := rfl
theorem r_131_13 : sm_ic 131 13 = some (.iload_n 1, 0, 0, 0) := rfl
theorem r_131_14 : sm_ic 131 14 = some (.bipush 8, 0, 0, 0) := rfl
theorem r_131_16 : sm_ic 131 16 = some (.if_icmp .ge 12, 28, 0, 0) := rfl
theorem r_131_19 : sm_ic 131 19 = some (.aload_n 0, 0, 0, 0) := rfl
theorem r_131_20 : sm_ic 131 20 = some (.getfield 19, 7, 4, 747) := rfl
theorem r_131_23 : sm_ic 131 23 = some (.iload_n 1, 0, 0, 0) := rfl
theorem r_131_24 : sm_ic 131 24 = some (.iaload, 0, 0, 0) := rfl
theorem r_131_25 : sm_ic 131 25 = some (.goto 22, 47, 0, 0) := rfl
theorem r_131_28 : sm_ic 131 28 = some (.iload_n 1, 0, 0, 0) := rfl
theorem r_131_29 : sm_ic 131 29 = some (.bipush 16, 0, 0, 0) := rfl
theorem r_131_31 : sm_ic 131 31 = some (.if_icmp .ge 15, 46, 0, 0) := rfl
theorem r_131_34 : sm_ic 131 34 = some (.aload_n 0, 0, 0, 0) := rfl
theorem r_131_35 : sm_ic 131 35 = some (.getfield 22, 7, 5, 748) := rfl
theorem r_131_38 : sm_ic 131 38 = some (.iload_n 1, 0, 0, 0) := rfl
theorem r_131_39 : sm_ic 131 39 = some (.bipush 8, 0, 0, 0) := rfl
theorem r_131_41 : sm_ic 131 41 = some (.isub, 0, 0, 0) := rfl
theorem r_131_42 : sm_ic 131 42 = some (.iaload, 0, 0, 0) := rfl
theorem r_131_43 : sm_ic 131 43 = some (.goto 4, 47, 0, 0) := rfl
theorem r_131_46 : sm_ic 131 46 = some (.iconst 0, 0, 0, 0) := rfl
theorem r_131_47 : sm_ic 131 47 = some (.iastore, 0, 0, 0) := rfl
theorem r_131_48 : sm_ic 131 48 = some (.iinc 1 1, 0, 0, 0) := rfl
theorem r_131_51 : sm_ic 131 51 = some (.goto (-49), 2, 0, 0) := rfl
theorem r_131_54 : sm_ic 131 54 = some (.aload_n 0, 0, 0, 0) := rfl
theorem r_131_55 : sm_ic 131 55 = some (.iconst 0, 0, 0, 0) := rfl
theorem r_131_56 : sm_ic 131 56 = some (.putfield 121, 7, 12, 755) := rfl
theorem r_131_59 : sm_ic 131 59 = some (.aload_n 0, 0, 0, 0) := rfl
theorem r_131_60 : sm_ic 131 60 = some (.iconst 0, 0, 0, 0) := rfl
theorem r_131_61 : sm_ic 131 61 = some (.putfield 124, 7, 14, 757) := rfl
theorem r_131_64 : sm_ic 131 64 = some (.aload_n 0, 0, 0, 0) := rfl
theorem r_131_65 : sm_ic 131 65 = some (.iconst 0, 0, 0, 0) := rfl
theorem r_131_66 : sm_ic 131 66 = some (.putfield 127, 7, 15, 758) := rfl
theorem r_131_69 : sm_ic 131 69 = some (.return_, 0, 0, 0) := rfl
theorem r_132_0 : sm_ic 132 0 = some (.iload_n 1, 0, 0, 0) := rfl
theorem r_132_1 : sm_ic 132 1 = some (.i2l, 0, 0, 0) := rfl
theorem r_132_2 : sm_ic 132 2 = some (.ldc2_w 75, 32, 0, 817) := rfl
theorem r_132_5 : sm_ic 132 5 = some (.ldc2_w 77, 126, 0, 818) := rfl
theorem r_132_8 : sm_ic 132 8 = some (.invokestatic 79, 133, 3, 819) := rfl
theorem r_132_11 : sm_ic 132 11 = some (.ifCond .ne 5, 16, 0, 0) := rfl
theorem r_132_14 : sm_ic 132 14 = some (.iconst (-1), 0, 0, 0) := rfl
theorem r_132_15 : sm_ic 132 15 = some (.ireturn, 0, 0, 0) := rfl
theorem r_132_16 : sm_ic 132 16 = some (.aload_n 0, 0, 0, 0) := rfl
theorem r_132_17 : sm_ic 132 17 = some (.getfield 83, 7, 0, 743) := rfl
theorem r_132_20 : sm_ic 132 20 = some (.sipush 200, 0, 0, 0) := rfl
theorem r_132_23 : sm_ic 132 23 = some (.if_icmp .ne 6, 29, 0, 0) := rfl
theorem r_132_26 : sm_ic 132 26 = some (.bipush (-3), 0, 0, 0) := rfl
theorem r_132_28 : sm_ic 132 28 = some (.ireturn, 0, 0, 0) := rfl
theorem r_132_29 : sm_ic 132 29 = some (.aload_n 0, 0, 0, 0) := rfl
theorem r_132_30 : sm_ic 132 30 = some (.getfield 7, 7, 1, 744) := rfl
theorem r_132_33 : sm_ic 132 33 = some (.aload_n 0, 0, 0, 0) := rfl
theorem r_132_34 : sm_ic 132 34 = some (.getfield 83, 7, 0, 743) := rfl
theorem r_132_37 : sm_ic 132 37 = some (.iload_n 1, 0, 0, 0) := rfl
theorem r_132_38 : sm_ic 132 38 = some (.iastore, 0, 0, 0) := rfl
theorem r_132_39 : sm_ic 132 39 = some (.aload_n 0, 0, 0, 0) := rfl
theorem r_132_40 : sm_ic 132 40 = some (.dup, 0, 0, 0) := rfl
theorem r_132_41 : sm_ic 132 41 = some (.getfield 83, 7, 0, 743) := rfl
theorem r_132_44 : sm_ic 132 44 = some (.iconst 1, 0, 0, 0) := rfl
theorem r_132_45 : sm_ic 132 45 = some (.iadd, 0, 0, 0) := rfl
theorem r_132_46 : sm_ic 132 46 = some (.putfield 83, 7, 0, 743) := rfl
theorem r_132_49 : sm_ic 132 49 = some (.aload_n 0, 0, 0, 0) := rfl
theorem r_132_50 : sm_ic 132 50 = some (.getfield 83, 7, 0, 743) := rfl
theorem r_132_53 : sm_ic 132 53 = some (.ireturn, 0, 0, 0) := rfl
theorem r_133_0 : sm_ic 133 0 = some (.lload_n 0, 0, 0, 0) := rfl
theorem r_133_1 : sm_ic 133 1 = some (.lload_n 2, 0, 0, 0) := rfl
theorem r_133_2 : sm_ic 133 2 = some (.lcmp, 0, 0, 0) := rfl
theorem r_133_3 : sm_ic 133 3 = some (.ifCond .lt 14, 17, 0, 0) := rfl
theorem r_133_6 : sm_ic 133 6 = some (.lload_n 0, 0, 0, 0) := rfl
theorem r_133_7 : sm_ic 133 7 = some (.lload 4, 0, 0, 0) := rfl
theorem r_133_9 : sm_ic 133 9 = some (.lcmp, 0, 0, 0) := rfl
theorem r_133_10 : sm_ic 133 10 = some (.ifCond .gt 7, 17, 0, 0) := rfl
theorem r_133_13 : sm_ic 133 13 = some (.iconst 1, 0, 0, 0) := rfl
theorem r_133_14 : sm_ic 133 14 = some (.goto 4, 18, 0, 0) := rfl
theorem r_133_17 : sm_ic 133 17 = some (.iconst 0, 0, 0, 0) := rfl
theorem r_133_18 : sm_ic 133 18 = some (.ireturn, 0, 0, 0) := rfl
theorem r_134_0 : sm_ic 134 0 = some (.aload_n 0, 0, 0, 0) := rfl
theorem r_134_1 : sm_ic 134 1 = some (.getfield 83, 7, 0, 743) := rfl
theorem r_134_4 : sm_ic 134 4 = some (.istore_n 1, 0, 0, 0) := rfl
theorem r_134_5 : sm_ic 134 5 = some (.aload_n 0, 0, 0, 0) := rfl
theorem r_134_6 : sm_ic 134 6 = some (.iconst 0, 0, 0, 0) := rfl
theorem r_134_7 : sm_ic 134 7 = some (.putfield 83, 7, 0, 743) := rfl
theorem r_134_10 : sm_ic 134 10 = some (.iload_n 1, 0, 0, 0) := rfl
theorem r_134_11 : sm_ic 134 11 = some (.ireturn, 0, 0, 0) := rfl
theorem r_135_0 : sm_ic 135 0 = some (.aload_n 0, 0, 0, 0) := rfl
theorem r_135_1 : sm_ic 135 1 = some (.invokevirtual 117, 136, 1, 830) := rfl
theorem r_135_4 : sm_ic 135 4 = some (.ireturn, 0, 0, 0) := rfl
theorem r_136_0 : sm_ic 136 0 = some (.aload_n 0, 0, 0, 0) := rfl
theorem r_136_1 : sm_ic 136 1 = some (.iconst 1, 0, 0, 0) := rfl
theorem r_136_2 : sm_ic 136 2 = some (.invokevirtual 64, 129, 2, 731) := rfl
theorem r_136_5 : sm_ic 136 5 = some (.aload_n 0, 0, 0, 0) := rfl
theorem r_136_6 : sm_ic 136 6 = some (.iconst 0, 0, 0, 0) := rfl
theorem r_136_7 : sm_ic 136 7 = some (.putfield 87, 7, 18, 761) := rfl
theorem r_136_10 : sm_ic 136 10 = some (.aload_n 0, 0, 0, 0) := rfl
theorem r_136_11 : sm_ic 136 11 = some (.getfield 87, 7, 18, 761) := rfl
theorem r_136_14 : sm_ic 136 14 = some (.aload_n 0, 0, 0, 0) := rfl
theorem r_136_15 : sm_ic 136 15 = some (.getfield 83, 7, 0, 743) := rfl
theorem r_136_18 : sm_ic 136 18 = some (.if_icmp .ge 20, 38, 0, 0) := rfl
theorem r_136_21 : sm_ic 136 21 = some (.aload_n 0, 0, 0, 0) := rfl
theorem r_136_22 : sm_ic 136 22 = some (.getfield 87, 7, 18, 761) := rfl
theorem r_136_25 : sm_ic 136 25 = some (.istore_n 1, 0, 0, 0) := rfl
theorem r_136_26 : sm_ic 136 26 = some (.aload_n 0, 0, 0, 0) := rfl
theorem r_136_27 : sm_ic 136 27 = some (.invokevirtual 114, 137, 1, 834) := rfl
theorem r_136_30 : sm_ic 136 30 = some (.ifCond .ne 5, 35, 0, 0) := rfl
theorem r_136_33 : sm_ic 136 33 = some (.iload_n 1, 0, 0, 0) := rfl
theorem r_136_34 : sm_ic 136 34 = some (.ireturn, 0, 0, 0) := rfl
theorem r_136_35 : sm_ic 136 35 = some (.goto (-25), 10, 0, 0) := rfl
theorem r_136_38 : sm_ic 136 38 = some (.bipush (-4), 0, 0, 0) := rfl
theorem r_136_40 : sm_ic 136 40 = some (.ireturn, 0, 0, 0) := rfl
theorem r_137_0 : sm_ic 137 0 = some (.aload_n 0, 0, 0, 0) := rfl
theorem r_137_1 : sm_ic 137 1 = some (.aload_n 0, 0, 0, 0) := rfl
theorem r_137_2 : sm_ic 137 2 = some (.getfield 87, 7, 18, 761) := rfl
theorem r_137_5 : sm_ic 137 5 = some (.invokevirtual 90, 138, 2, 838) := rfl
theorem r_137_8 : sm_ic 137 8 = some (.istore_n 1, 0, 0, 0) := rfl
theorem r_137_9 : sm_ic 137 9 = some (.aload_n 0, 0, 0, 0) := rfl
theorem r_137_10 : sm_ic 137 10 = some (.dup, 0, 0, 0) := rfl
theorem r_137_11 : sm_ic 137 11 = some (.getfield 87, 7, 18, 761) := rfl
theorem r_137_14 : sm_ic 137 14 = some (.iconst 1, 0, 0, 0) := rfl
theorem r_137_15 : sm_ic 137 15 = some (.iadd, 0, 0, 0) := rfl
theorem r_137_16 : sm_ic 137 16 = some (.putfield 87, 7, 18, 761) := rfl
theorem r_137_19 : sm_ic 137 19 = some (.iload_n 1, 0, 0, 0) := rfl
theorem r_137_20 : sm_ic 137 20 = some (.tableswitch 197 98 115 #[93, 197, 161, 197, 197, 197, 179, 88, 197, 197, 197, 170, 197, 197, 197, 197, 197, 188], 0, 0, 0) := rfl
theorem r_137_108 : sm_ic 137 108 = some (.aload_n 0, 0, 0, 0) := rfl
theorem r_137_109 : sm_ic 137 109 = some (.invokevirtual 104, 139, 1, 842) := rfl
theorem r_137_112 : sm_ic 137 112 = some (.ireturn, 0, 0, 0) := rfl
theorem r_137_113 : sm_ic 137 113 = some (.aload_n 0, 0, 0, 0) := rfl
theorem r_137_114 : sm_ic 137 114 = some (.iconst 1, 0, 0, 0) := rfl
theorem r_137_115 : sm_ic 137 115 = some (.invokevirtual 100, 140, 2, 846) := rfl
theorem r_137_118 : sm_ic 137 118 = some (.ifCond .eq 30, 148, 0, 0) := rfl
theorem r_137_121 : sm_ic 137 121 = some (.aload_n 0, 0, 0, 0) := rfl
theorem r_137_122 : sm_ic 137 122 = some (.getfield 28, 7, 7, 750) := rfl
theorem r_137_125 : sm_ic 137 125 = some (.iconst 1, 0, 0, 0) := rfl
theorem r_137_126 : sm_ic 137 126 = some (.iaload, 0, 0, 0) := rfl
theorem r_137_127 : sm_ic 137 127 = some (.iconst 5, 0, 0, 0) := rfl
theorem r_137_128 : sm_ic 137 128 = some (.if_icmp .eq 20, 148, 0, 0) := rfl
theorem r_137_131 : sm_ic 137 131 = some (.aload_n 0, 0, 0, 0) := rfl
theorem r_137_132 : sm_ic 137 132 = some (.getfield 52, 7, 19, 762) := rfl
theorem r_137_135 : sm_ic 137 135 = some (.iconst 0, 0, 0, 0) := rfl
theorem r_137_136 : sm_ic 137 136 = some (.iaload, 0, 0, 0) := rfl
theorem r_137_137 : sm_ic 137 137 = some (.i2l, 0, 0, 0) := rfl
theorem r_137_138 : sm_ic 137 138 = some (.lconst 1, 0, 0, 0) := rfl
theorem r_137_139 : sm_ic 137 139 = some (.ldc2_w 108, 8, 0, 853) := rfl
theorem r_137_142 : sm_ic 137 142 = some (.invokestatic 79, 133, 3, 819) := rfl
theorem r_137_145 : sm_ic 137 145 = some (.ifCond .ne 5, 150, 0, 0) := rfl
theorem r_137_148 : sm_ic 137 148 = some (.iconst 0, 0, 0, 0) := rfl
theorem r_137_149 : sm_ic 137 149 = some (.ireturn, 0, 0, 0) := rfl
theorem r_137_150 : sm_ic 137 150 = some (.aload_n 0, 0, 0, 0) := rfl
theorem r_137_151 : sm_ic 137 151 = some (.getfield 31, 7, 8, 751) := rfl
theorem r_137_154 : sm_ic 137 154 = some (.iconst 5, 0, 0, 0) := rfl
theorem r_137_155 : sm_ic 137 155 = some (.aload_n 0, 0, 0, 0) := rfl
theorem r_137_156 : sm_ic 137 156 = some (.getfield 28, 7, 7, 750) := rfl
theorem r_137_159 : sm_ic 137 159 = some (.iconst 1, 0, 0, 0) := rfl
theorem r_137_160 : sm_ic 137 160 = some (.iaload, 0, 0, 0) := rfl
theorem r_137_161 : sm_ic 137 161 = some (.iadd, 0, 0, 0) := rfl
theorem r_137_162 : sm_ic 137 162 = some (.aload_n 0, 0, 0, 0) := rfl
theorem r_137_163 : sm_ic 137 163 = some (.getfield 52, 7, 19, 762) := rfl
theorem r_137_166 : sm_ic 137 166 = some (.iconst 0, 0, 0, 0) := rfl
theorem r_137_167 : sm_ic 137 167 = some (.iaload, 0, 0, 0) := rfl
theorem r_137_168 : sm_ic 137 168 = some (.iastore, 0, 0, 0) := rfl
theorem r_137_169 : sm_ic 137 169 = some (.aload_n 0, 0, 0, 0) := rfl
theorem r_137_170 : sm_ic 137 170 = some (.getfield 28, 7, 7, 750) := rfl
theorem r_137_173 : sm_ic 137 173 = some (.iconst 1, 0, 0, 0) := rfl
theorem r_137_174 : sm_ic 137 174 = some (.dup2, 0, 0, 0) := rfl
theorem r_137_175 : sm_ic 137 175 = some (.iaload, 0, 0, 0) := rfl
theorem r_137_176 : sm_ic 137 176 = some (.iconst 1, 0, 0, 0) := rfl
theorem r_137_177 : sm_ic 137 177 = some (.iadd, 0, 0, 0) := rfl
theorem r_137_178 : sm_ic 137 178 = some (.iastore, 0, 0, 0) := rfl
theorem r_137_179 : sm_ic 137 179 = some (.iconst 1, 0, 0, 0) := rfl
theorem r_137_180 : sm_ic 137 180 = some (.ireturn, 0, 0, 0) := rfl
theorem r_137_181 : sm_ic 137 181 = some (.aload_n 0, 0, 0, 0) := rfl
theorem r_137_182 : sm_ic 137 182 = some (.iconst 0, 0, 0, 0) := rfl
theorem r_137_183 : sm_ic 137 183 = some (.iconst 0, 0, 0, 0) := rfl
theorem r_137_184 : sm_ic 137 184 = some (.bipush 9, 0, 0, 0) := rfl
theorem r_137_186 : sm_ic 137 186 = some (.invokevirtual 110, 141, 4, 854) := rfl
theorem r_137_189 : sm_ic 137 189 = some (.ireturn, 0, 0, 0) := rfl
theorem r_137_190 : sm_ic 137 190 = some (.aload_n 0, 0, 0, 0) := rfl
theorem r_137_191 : sm_ic 137 191 = some (.iconst 1, 0, 0, 0) := rfl
theorem r_137_192 : sm_ic 137 192 = some (.iconst 0, 0, 0, 0) := rfl
theorem r_137_193 : sm_ic 137 193 = some (.bipush 40, 0, 0, 0) := rfl
theorem r_137_195 : sm_ic 137 195 = some (.invokevirtual 110, 141, 4, 854) := rfl
theorem r_137_198 : sm_ic 137 198 = some (.ireturn, 0, 0, 0) := rfl
theorem r_137_199 : sm_ic 137 199 = some (.aload_n 0, 0, 0, 0) := rfl
theorem r_137_200 : sm_ic 137 200 = some (.iconst 2, 0, 0, 0) := rfl
theorem r_137_201 : sm_ic 137 201 = some (.iconst 1, 0, 0, 0) := rfl
theorem r_137_202 : sm_ic 137 202 = some (.bipush 9, 0, 0, 0) := rfl
theorem r_137_204 : sm_ic 137 204 = some (.invokevirtual 110, 141, 4, 854) := rfl
theorem r_137_207 : sm_ic 137 207 = some (.ireturn, 0, 0, 0) := rfl
theorem r_137_208 : sm_ic 137 208 = some (.aload_n 0, 0, 0, 0) := rfl
theorem r_137_209 : sm_ic 137 209 = some (.iconst 3, 0, 0, 0) := rfl
theorem r_137_210 : sm_ic 137 210 = some (.iconst 0, 0, 0, 0) := rfl
theorem r_137_211 : sm_ic 137 211 = some (.bipush 10, 0, 0, 0) := rfl
theorem r_137_213 : sm_ic 137 213 = some (.invokevirtual 110, 141, 4, 854) := rfl
theorem r_137_216 : sm_ic 137 216 = some (.ireturn, 0, 0, 0) := rfl
theorem r_137_217 : sm_ic 137 217 = some (.iconst 0, 0, 0, 0) := rfl
theorem r_137_218 : sm_ic 137 218 = some (.ireturn, 0, 0, 0) := rfl
theorem r_138_0 : sm_ic 138 0 = some (.iload_n 1, 0, 0, 0) := rfl
theorem r_138_1 : sm_ic 138 1 = some (.aload_n 0, 0, 0, 0) := rfl
theorem r_138_2 : sm_ic 138 2 = some (.getfield 83, 7, 0, 743) := rfl
theorem r_138_5 : sm_ic 138 5 = some (.if_icmp .ge 12, 17, 0, 0) := rfl
theorem r_138_8 : sm_ic 138 8 = some (.aload_n 0, 0, 0, 0) := rfl
theorem r_138_9 : sm_ic 138 9 = some (.getfield 7, 7, 1, 744) := rfl
theorem r_138_12 : sm_ic 138 12 = some (.iload_n 1, 0, 0, 0) := rfl
theorem r_138_13 : sm_ic 138 13 = some (.iaload, 0, 0, 0) := rfl
theorem r_138_14 : sm_ic 138 14 = some (.goto 4, 18, 0, 0) := rfl
theorem r_138_17 : sm_ic 138 17 = some (.iconst 0, 0, 0, 0) := rfl
theorem r_138_18 : sm_ic 138 18 = some (.ireturn, 0, 0, 0) := rfl
theorem r_139_0 : sm_ic 139 0 = some (.aload_n 0, 0, 0, 0) := rfl
theorem r_139_1 : sm_ic 139 1 = some (.iconst 4, 0, 0, 0) := rfl
theorem r_139_2 : sm_ic 139 2 = some (.invokevirtual 100, 140, 2, 846) := rfl
theorem r_139_5 : sm_ic 139 5 = some (.ifCond .eq 60, 65, 0, 0) := rfl
theorem r_139_8 : sm_ic 139 8 = some (.aload_n 0, 0, 0, 0) := rfl
theorem r_139_9 : sm_ic 139 9 = some (.getfield 13, 7, 2, 745) := rfl
theorem r_139_12 : sm_ic 139 12 = some (.iconst 1, 0, 0, 0) := rfl
theorem r_139_13 : sm_ic 139 13 = some (.iaload, 0, 0, 0) := rfl
theorem r_139_14 : sm_ic 139 14 = some (.bipush 8, 0, 0, 0) := rfl
theorem r_139_16 : sm_ic 139 16 = some (.if_icmp .ge 49, 65, 0, 0) := rfl
theorem r_139_19 : sm_ic 139 19 = some (.aload_n 0, 0, 0, 0) := rfl
theorem r_139_20 : sm_ic 139 20 = some (.getfield 52, 7, 19, 762) := rfl
theorem r_139_23 : sm_ic 139 23 = some (.iconst 0, 0, 0, 0) := rfl
theorem r_139_24 : sm_ic 139 24 = some (.iaload, 0, 0, 0) := rfl
theorem r_139_25 : sm_ic 139 25 = some (.iconst 4, 0, 0, 0) := rfl
theorem r_139_26 : sm_ic 139 26 = some (.if_icmp .ge 39, 65, 0, 0) := rfl
theorem r_139_29 : sm_ic 139 29 = some (.aload_n 0, 0, 0, 0) := rfl
theorem r_139_30 : sm_ic 139 30 = some (.getfield 52, 7, 19, 762) := rfl
theorem r_139_33 : sm_ic 139 33 = some (.iconst 1, 0, 0, 0) := rfl
theorem r_139_34 : sm_ic 139 34 = some (.iaload, 0, 0, 0) := rfl
theorem r_139_35 : sm_ic 139 35 = some (.iconst 4, 0, 0, 0) := rfl
theorem r_139_36 : sm_ic 139 36 = some (.if_icmp .ge 29, 65, 0, 0) := rfl
theorem r_139_39 : sm_ic 139 39 = some (.aload_n 0, 0, 0, 0) := rfl
theorem r_139_40 : sm_ic 139 40 = some (.getfield 52, 7, 19, 762) := rfl
theorem r_139_43 : sm_ic 139 43 = some (.iconst 2, 0, 0, 0) := rfl
theorem r_139_44 : sm_ic 139 44 = some (.iaload, 0, 0, 0) := rfl
theorem r_139_45 : sm_ic 139 45 = some (.bipush 8, 0, 0, 0) := rfl
theorem r_139_47 : sm_ic 139 47 = some (.if_icmp .ge 18, 65, 0, 0) := rfl
theorem r_139_50 : sm_ic 139 50 = some (.aload_n 0, 0, 0, 0) := rfl
theorem r_139_51 : sm_ic 139 51 = some (.getfield 52, 7, 19, 762) := rfl
theorem r_139_54 : sm_ic 139 54 = some (.iconst 3, 0, 0, 0) := rfl
theorem r_139_55 : sm_ic 139 55 = some (.iaload, 0, 0, 0) := rfl
theorem r_139_56 : sm_ic 139 56 = some (.bipush 10, 0, 0, 0) := rfl
theorem r_139_58 : sm_ic 139 58 = some (.if_icmp .ge 7, 65, 0, 0) := rfl
theorem r_139_61 : sm_ic 139 61 = some (.iconst 1, 0, 0, 0) := rfl
theorem r_139_62 : sm_ic 139 62 = some (.goto 4, 66, 0, 0) := rfl
theorem r_139_65 : sm_ic 139 65 = some (.iconst 0, 0, 0, 0) := rfl
theorem r_139_66 : sm_ic 139 66 = some (.istore_n 1, 0, 0, 0) := rfl
theorem r_139_67 : sm_ic 139 67 = some (.iload_n 1, 0, 0, 0) := rfl
theorem r_139_68 : sm_ic 139 68 = some (.ifCond .eq 32, 100, 0, 0) := rfl
theorem r_139_71 : sm_ic 139 71 = some (.aload_n 0, 0, 0, 0) := rfl
theorem r_139_72 : sm_ic 139 72 = some (.iconst 1, 0, 0, 0) := rfl
theorem r_139_73 : sm_ic 139 73 = some (.aload_n 0, 0, 0, 0) := rfl
theorem r_139_74 : sm_ic 139 74 = some (.getfield 52, 7, 19, 762) := rfl
theorem r_139_77 : sm_ic 139 77 = some (.iconst 0, 0, 0, 0) := rfl
theorem r_139_78 : sm_ic 139 78 = some (.iaload, 0, 0, 0) := rfl
theorem r_139_79 : sm_ic 139 79 = some (.aload_n 0, 0, 0, 0) := rfl
theorem r_139_80 : sm_ic 139 80 = some (.getfield 52, 7, 19, 762) := rfl
theorem r_139_83 : sm_ic 139 83 = some (.iconst 1, 0, 0, 0) := rfl
theorem r_139_84 : sm_ic 139 84 = some (.iaload, 0, 0, 0) := rfl
theorem r_139_85 : sm_ic 139 85 = some (.aload_n 0, 0, 0, 0) := rfl
theorem r_139_86 : sm_ic 139 86 = some (.getfield 52, 7, 19, 762) := rfl
theorem r_139_89 : sm_ic 139 89 = some (.iconst 2, 0, 0, 0) := rfl
theorem r_139_90 : sm_ic 139 90 = some (.iaload, 0, 0, 0) := rfl
theorem r_139_91 : sm_ic 139 91 = some (.aload_n 0, 0, 0, 0) := rfl
theorem r_139_92 : sm_ic 139 92 = some (.getfield 52, 7, 19, 762) := rfl
theorem r_139_95 : sm_ic 139 95 = some (.iconst 3, 0, 0, 0) := rfl
theorem r_139_96 : sm_ic 139 96 = some (.iaload, 0, 0, 0) := rfl
theorem r_139_97 : sm_ic 139 97 = some (.invokevirtual 68, 130, 6, 735) := rfl
theorem r_139_100 : sm_ic 139 100 = some (.iload_n 1, 0, 0, 0) := rfl
theorem r_139_101 : sm_ic 139 101 = some (.ireturn, 0, 0, 0) := rfl
theorem r_140_0 : sm_ic 140 0 = some (.iconst 0, 0, 0, 0) := rfl
theorem r_140_1 : sm_ic 140 1 = some (.istore_n 2, 0, 0, 0) := rfl
theorem r_140_2 : sm_ic 140 2 = some (.iload_n 2, 0, 0, 0) := rfl
theorem r_140_3 : sm_ic 140 3 = some (.iload_n 1, 0, 0, 0) := rfl
theorem r_140_4 : sm_ic 140 4 = some (.if_icmp .ge 132, 136, 0, 0) := rfl
theorem r_140_7 : sm_ic 140 7 = some (.iconst 0, 0, 0, 0) := rfl
theorem r_140_8 : sm_ic 140 8 = some (.istore_n 3, 0, 0, 0) := rfl
theorem r_140_9 : sm_ic 140 9 = some (.iconst 0, 0, 0, 0) := rfl
theorem r_140_10 : sm_ic 140 10 = some (.istore 4, 0, 0, 0) := rfl
theorem r_140_12 : sm_ic 140 12 = some (.aload_n 0, 0, 0, 0) := rfl
theorem r_140_13 : sm_ic 140 13 = some (.aload_n 0, 0, 0, 0) := rfl
theorem r_140_14 : sm_ic 140 14 = some (.getfield 87, 7, 18, 761) := rfl
theorem r_140_17 : sm_ic 140 17 = some (.invokevirtual 90, 138, 2, 838) := rfl
theorem r_140_20 : sm_ic 140 20 = some (.i2l, 0, 0, 0) := rfl
theorem r_140_21 : sm_ic 140 21 = some (.ldc2_w 94, 48, 0, 850) := rfl
theorem r_140_24 : sm_ic 140 24 = some (.ldc2_w 96, 57, 0, 851) := rfl
theorem r_140_27 : sm_ic 140 27 = some (.invokestatic 79, 133, 3, 819) := rfl
theorem r_140_30 : sm_ic 140 30 = some (.ifCond .eq 43, 73, 0, 0) := rfl
theorem r_140_33 : sm_ic 140 33 = some (.iload_n 3, 0, 0, 0) := rfl
theorem r_140_34 : sm_ic 140 34 = some (.iconst 3, 0, 0, 0) := rfl
theorem r_140_35 : sm_ic 140 35 = some (.if_icmp .ge 38, 73, 0, 0) := rfl
theorem r_140_38 : sm_ic 140 38 = some (.bipush 10, 0, 0, 0) := rfl
theorem r_140_40 : sm_ic 140 40 = some (.iload 4, 0, 0, 0) := rfl
theorem r_140_42 : sm_ic 140 42 = some (.imul, 0, 0, 0) := rfl
theorem r_140_43 : sm_ic 140 43 = some (.aload_n 0, 0, 0, 0) := rfl
theorem r_140_44 : sm_ic 140 44 = some (.aload_n 0, 0, 0, 0) := rfl
theorem r_140_45 : sm_ic 140 45 = some (.getfield 87, 7, 18, 761) := rfl
theorem r_140_48 : sm_ic 140 48 = some (.invokevirtual 90, 138, 2, 838) := rfl
theorem r_140_51 : sm_ic 140 51 = some (.iadd, 0, 0, 0) := rfl
theorem r_140_52 : sm_ic 140 52 = some (.bipush 48, 0, 0, 0) := rfl
theorem r_140_54 : sm_ic 140 54 = some (.isub, 0, 0, 0) := rfl
theorem r_140_55 : sm_ic 140 55 = some (.istore 4, 0, 0, 0) := rfl
theorem r_140_57 : sm_ic 140 57 = some (.iinc 3 1, 0, 0, 0) := rfl
theorem r_140_60 : sm_ic 140 60 = some (.aload_n 0, 0, 0, 0) := rfl
theorem r_140_61 : sm_ic 140 61 = some (.dup, 0, 0, 0) := rfl
theorem r_140_62 : sm_ic 140 62 = some (.getfield 87, 7, 18, 761) := rfl
theorem r_140_65 : sm_ic 140 65 = some (.iconst 1, 0, 0, 0) := rfl
theorem r_140_66 : sm_ic 140 66 = some (.iadd, 0, 0, 0) := rfl
theorem r_140_67 : sm_ic 140 67 = some (.putfield 87, 7, 18, 761) := rfl
theorem r_140_70 : sm_ic 140 70 = some (.goto (-58), 12, 0, 0) := rfl
theorem r_140_73 : sm_ic 140 73 = some (.iload_n 3, 0, 0, 0) := rfl
theorem r_140_74 : sm_ic 140 74 = some (.i2l, 0, 0, 0) := rfl
theorem r_140_75 : sm_ic 140 75 = some (.lconst 1, 0, 0, 0) := rfl
theorem r_140_76 : sm_ic 140 76 = some (.ldc2_w 98, 2, 0, 852) := rfl
theorem r_140_79 : sm_ic 140 79 = some (.invokestatic 79, 133, 3, 819) := rfl
theorem r_140_82 : sm_ic 140 82 = some (.ifCond .eq 28, 110, 0, 0) := rfl
theorem r_140_85 : sm_ic 140 85 = some (.aload_n 0, 0, 0, 0) := rfl
theorem r_140_86 : sm_ic 140 86 = some (.aload_n 0, 0, 0, 0) := rfl
theorem r_140_87 : sm_ic 140 87 = some (.getfield 87, 7, 18, 761) := rfl
theorem r_140_90 : sm_ic 140 90 = some (.invokevirtual 90, 138, 2, 838) := rfl
theorem r_140_93 : sm_ic 140 93 = some (.iload_n 2, 0, 0, 0) := rfl
theorem r_140_94 : sm_ic 140 94 = some (.iload_n 1, 0, 0, 0) := rfl
theorem r_140_95 : sm_ic 140 95 = some (.iconst 1, 0, 0, 0) := rfl
theorem r_140_96 : sm_ic 140 96 = some (.isub, 0, 0, 0) := rfl
theorem r_140_97 : sm_ic 140 97 = some (.if_icmp .ge 8, 105, 0, 0) := rfl
theorem r_140_100 : sm_ic 140 100 = some (.bipush 44, 0, 0, 0) := rfl
theorem r_140_102 : sm_ic 140 102 = some (.goto 5, 107, 0, 0) := rfl
theorem r_140_105 : sm_ic 140 105 = some (.bipush 59, 0, 0, 0) := rfl
theorem r_140_107 : sm_ic 140 107 = some (.if_icmp .eq 5, 112, 0, 0) := rfl
theorem r_140_110 : sm_ic 140 110 = some (.iconst 0, 0, 0, 0) := rfl
theorem r_140_111 : sm_ic 140 111 = some (.ireturn, 0, 0, 0) := rfl
theorem r_140_112 : sm_ic 140 112 = some (.aload_n 0, 0, 0, 0) := rfl
theorem r_140_113 : sm_ic 140 113 = some (.getfield 52, 7, 19, 762) := rfl
theorem r_140_116 : sm_ic 140 116 = some (.iload_n 2, 0, 0, 0) := rfl
theorem r_140_117 : sm_ic 140 117 = some (.iload 4, 0, 0, 0) := rfl
theorem r_140_119 : sm_ic 140 119 = some (.iastore, 0, 0, 0) := rfl
theorem r_140_120 : sm_ic 140 120 = some (.aload_n 0, 0, 0, 0) := rfl
theorem r_140_121 : sm_ic 140 121 = some (.dup, 0, 0, 0) := rfl
theorem r_140_122 : sm_ic 140 122 = some (.getfield 87, 7, 18, 761) := rfl
theorem r_140_125 : sm_ic 140 125 = some (.iconst 1, 0, 0, 0) := rfl
theorem r_140_126 : sm_ic 140 126 = some (.iadd, 0, 0, 0) := rfl
theorem r_140_127 : sm_ic 140 127 = some (.putfield 87, 7, 18, 761) := rfl
theorem r_140_130 : sm_ic 140 130 = some (.iinc 2 1, 0, 0, 0) := rfl
theorem r_140_133 : sm_ic 140 133 = some (.goto (-131), 2, 0, 0) := rfl
theorem r_140_136 : sm_ic 140 136 = some (.iconst 1, 0, 0, 0) := rfl
theorem r_140_137 : sm_ic 140 137 = some (.ireturn, 0, 0, 0) := rfl
theorem r_141_0 : sm_ic 141 0 = some (.aload_n 0, 0, 0, 0) := rfl
theorem r_141_1 : sm_ic 141 1 = some (.iconst 1, 0, 0, 0) := rfl
theorem r_141_2 : sm_ic 141 2 = some (.invokevirtual 100, 140, 2, 846) := rfl
theorem r_141_5 : sm_ic 141 5 = some (.ifCond .eq 24, 29, 0, 0) := rfl
theorem r_141_8 : sm_ic 141 8 = some (.aload_n 0, 0, 0, 0) := rfl
theorem r_141_9 : sm_ic 141 9 = some (.getfield 52, 7, 19, 762) := rfl
theorem r_141_12 : sm_ic 141 12 = some (.iconst 0, 0, 0, 0) := rfl
theorem r_141_13 : sm_ic 141 13 = some (.iaload, 0, 0, 0) := rfl
theorem r_141_14 : sm_ic 141 14 = some (.i2l, 0, 0, 0) := rfl
theorem r_141_15 : sm_ic 141 15 = some (.iload_n 2, 0, 0, 0) := rfl
theorem r_141_16 : sm_ic 141 16 = some (.i2l, 0, 0, 0) := rfl
theorem r_141_17 : sm_ic 141 17 = some (.iload_n 3, 0, 0, 0) := rfl
theorem r_141_18 : sm_ic 141 18 = some (.i2l, 0, 0, 0) := rfl
theorem r_141_19 : sm_ic 141 19 = some (.invokestatic 79, 133, 3, 819) := rfl
theorem r_141_22 : sm_ic 141 22 = some (.ifCond .eq 7, 29, 0, 0) := rfl
theorem r_141_25 : sm_ic 141 25 = some (.iconst 1, 0, 0, 0) := rfl
theorem r_141_26 : sm_ic 141 26 = some (.goto 4, 30, 0, 0) := rfl
theorem r_141_29 : sm_ic 141 29 = some (.iconst 0, 0, 0, 0) := rfl
theorem r_141_30 : sm_ic 141 30 = some (.istore 4, 0, 0, 0) := rfl
theorem r_141_32 : sm_ic 141 32 = some (.aload_n 0, 0, 0, 0) := rfl
theorem r_141_33 : sm_ic 141 33 = some (.getfield 34, 7, 9, 752) := rfl
theorem r_141_36 : sm_ic 141 36 = some (.iconst 4, 0, 0, 0) := rfl
theorem r_141_37 : sm_ic 141 37 = some (.iload_n 1, 0, 0, 0) := rfl
theorem r_141_38 : sm_ic 141 38 = some (.iadd, 0, 0, 0) := rfl
theorem r_141_39 : sm_ic 141 39 = some (.iload 4, 0, 0, 0) := rfl
theorem r_141_41 : sm_ic 141 41 = some (.ifCond .eq 12, 53, 0, 0) := rfl
theorem r_141_44 : sm_ic 141 44 = some (.aload_n 0, 0, 0, 0) := rfl
theorem r_141_45 : sm_ic 141 45 = some (.getfield 52, 7, 19, 762) := rfl
theorem r_141_48 : sm_ic 141 48 = some (.iconst 0, 0, 0, 0) := rfl
theorem r_141_49 : sm_ic 141 49 = some (.iaload, 0, 0, 0) := rfl
theorem r_141_50 : sm_ic 141 50 = some (.goto 11, 61, 0, 0) := rfl
theorem r_141_53 : sm_ic 141 53 = some (.aload_n 0, 0, 0, 0) := rfl
theorem r_141_54 : sm_ic 141 54 = some (.getfield 34, 7, 9, 752) := rfl
theorem r_141_57 : sm_ic 141 57 = some (.iconst 4, 0, 0, 0) := rfl
theorem r_141_58 : sm_ic 141 58 = some (.iload_n 1, 0, 0, 0) := rfl
theorem r_141_59 : sm_ic 141 59 = some (.iadd, 0, 0, 0) := rfl
theorem r_141_60 : sm_ic 141 60 = some (.iaload, 0, 0, 0) := rfl
theorem r_141_61 : sm_ic 141 61 = some (.iastore, 0, 0, 0) := rfl
theorem r_141_62 : sm_ic 141 62 = some (.iload 4, 0, 0, 0) := rfl
theorem r_141_64 : sm_ic 141 64 = some (.ireturn, 0, 0, 0) := rfl
theorem r_142_0 : sm_ic 142 0 = some (.aload_n 0, 0, 0, 0) := rfl
theorem r_142_1 : sm_ic 142 1 = some (.invokevirtual 117, 136, 1, 830) := rfl
theorem r_142_4 : sm_ic 142 4 = some (.bipush (-4), 0, 0, 0) := rfl
theorem r_142_6 : sm_ic 142 6 = some (.if_icmp .ne 16, 22, 0, 0) := rfl
theorem r_142_9 : sm_ic 142 9 = some (.aload_n 0, 0, 0, 0) := rfl
theorem r_142_10 : sm_ic 142 10 = some (.getfield 13, 7, 2, 745) := rfl
theorem r_142_13 : sm_ic 142 13 = some (.iconst 1, 0, 0, 0) := rfl
theorem r_142_14 : sm_ic 142 14 = some (.iaload, 0, 0, 0) := rfl
theorem r_142_15 : sm_ic 142 15 = some (.ifCond .le 7, 22, 0, 0) := rfl
theorem r_142_18 : sm_ic 142 18 = some (.iconst 1, 0, 0, 0) := rfl
theorem r_142_19 : sm_ic 142 19 = some (.goto 4, 23, 0, 0) := rfl
theorem r_142_22 : sm_ic 142 22 = some (.iconst 0, 0, 0, 0) := rfl
theorem r_142_23 : sm_ic 142 23 = some (.istore_n 1, 0, 0, 0) := rfl
theorem r_142_24 : sm_ic 142 24 = some (.iconst 0, 0, 0, 0) := rfl
theorem r_142_25 : sm_ic 142 25 = some (.istore_n 2, 0, 0, 0) := rfl
theorem r_142_26 : sm_ic 142 26 = some (.iload_n 2, 0, 0, 0) := rfl
theorem r_142_27 : sm_ic 142 27 = some (.aload_n 0, 0, 0, 0) := rfl
theorem r_142_28 : sm_ic 142 28 = some (.getfield 13, 7, 2, 745) := rfl
theorem r_142_31 : sm_ic 142 31 = some (.iconst 1, 0, 0, 0) := rfl
theorem r_142_32 : sm_ic 142 32 = some (.iaload, 0, 0, 0) := rfl
theorem r_142_33 : sm_ic 142 33 = some (.if_icmp .ge 37, 70, 0, 0) := rfl
theorem r_142_36 : sm_ic 142 36 = some (.iload_n 1, 0, 0, 0) := rfl
theorem r_142_37 : sm_ic 142 37 = some (.ifCond .eq 33, 70, 0, 0) := rfl
theorem r_142_40 : sm_ic 142 40 = some (.aload_n 0, 0, 0, 0) := rfl
theorem r_142_41 : sm_ic 142 41 = some (.getfield 22, 7, 5, 748) := rfl
theorem r_142_44 : sm_ic 142 44 = some (.bipush 8, 0, 0, 0) := rfl
theorem r_142_46 : sm_ic 142 46 = some (.iload_n 2, 0, 0, 0) := rfl
theorem r_142_47 : sm_ic 142 47 = some (.iadd, 0, 0, 0) := rfl
theorem r_142_48 : sm_ic 142 48 = some (.iaload, 0, 0, 0) := rfl
theorem r_142_49 : sm_ic 142 49 = some (.aload_n 0, 0, 0, 0) := rfl
theorem r_142_50 : sm_ic 142 50 = some (.getfield 13, 7, 2, 745) := rfl
theorem r_142_53 : sm_ic 142 53 = some (.iconst 1, 0, 0, 0) := rfl
theorem r_142_54 : sm_ic 142 54 = some (.iaload, 0, 0, 0) := rfl
theorem r_142_55 : sm_ic 142 55 = some (.if_icmp .ge 7, 62, 0, 0) := rfl
theorem r_142_58 : sm_ic 142 58 = some (.iconst 1, 0, 0, 0) := rfl
theorem r_142_59 : sm_ic 142 59 = some (.goto 4, 63, 0, 0) := rfl
theorem r_142_62 : sm_ic 142 62 = some (.iconst 0, 0, 0, 0) := rfl
theorem r_142_63 : sm_ic 142 63 = some (.istore_n 1, 0, 0, 0) := rfl
theorem r_142_64 : sm_ic 142 64 = some (.iinc 2 1, 0, 0, 0) := rfl
theorem r_142_67 : sm_ic 142 67 = some (.goto (-41), 26, 0, 0) := rfl
theorem r_142_70 : sm_ic 142 70 = some (.iload_n 1, 0, 0, 0) := rfl
theorem r_142_71 : sm_ic 142 71 = some (.ifCond .ne 6, 77, 0, 0) := rfl
theorem r_142_74 : sm_ic 142 74 = some (.bipush (-2), 0, 0, 0) := rfl
theorem r_142_76 : sm_ic 142 76 = some (.ireturn, 0, 0, 0) := rfl
theorem r_142_77 : sm_ic 142 77 = some (.aload_n 0, 0, 0, 0) := rfl
theorem r_142_78 : sm_ic 142 78 = some (.getfield 13, 7, 2, 745) := rfl
theorem r_142_81 : sm_ic 142 81 = some (.iconst 0, 0, 0, 0) := rfl
theorem r_142_82 : sm_ic 142 82 = some (.aload_n 0, 0, 0, 0) := rfl
theorem r_142_83 : sm_ic 142 83 = some (.getfield 13, 7, 2, 745) := rfl
theorem r_142_86 : sm_ic 142 86 = some (.iconst 1, 0, 0, 0) := rfl
theorem r_142_87 : sm_ic 142 87 = some (.iaload, 0, 0, 0) := rfl
theorem r_142_88 : sm_ic 142 88 = some (.iastore, 0, 0, 0) := rfl
theorem r_142_89 : sm_ic 142 89 = some (.aload_n 0, 0, 0, 0) := rfl
theorem r_142_90 : sm_ic 142 90 = some (.getfield 28, 7, 7, 750) := rfl
theorem r_142_93 : sm_ic 142 93 = some (.iconst 0, 0, 0, 0) := rfl
theorem r_142_94 : sm_ic 142 94 = some (.aload_n 0, 0, 0, 0) := rfl
theorem r_142_95 : sm_ic 142 95 = some (.getfield 28, 7, 7, 750) := rfl
theorem r_142_98 : sm_ic 142 98 = some (.iconst 1, 0, 0, 0) := rfl
theorem r_142_99 : sm_ic 142 99 = some (.iaload, 0, 0, 0) := rfl
theorem r_142_100 : sm_ic 142 100 = some (.iastore, 0, 0, 0) := rfl
theorem r_142_101 : sm_ic 142 101 = some (.iconst 0, 0, 0, 0) := rfl
theorem r_142_102 : sm_ic 142 102 = some (.istore_n 2, 0, 0, 0) := rfl
theorem r_142_103 : sm_ic 142 103 = some (.iload_n 2, 0, 0, 0) := rfl
theorem r_142_104 : sm_ic 142 104 = some (.bipush 8, 0, 0, 0) := rfl
theorem r_142_106 : sm_ic 142 106 = some (.if_icmp .ge 69, 175, 0, 0) := rfl
theorem r_142_109 : sm_ic 142 109 = some (.aload_n 0, 0, 0, 0) := rfl
theorem r_142_110 : sm_ic 142 110 = some (.getfield 16, 7, 3, 746) := rfl
theorem r_142_113 : sm_ic 142 113 = some (.iload_n 2, 0, 0, 0) := rfl
theorem r_142_114 : sm_ic 142 114 = some (.aload_n 0, 0, 0, 0) := rfl
theorem r_142_115 : sm_ic 142 115 = some (.getfield 16, 7, 3, 746) := rfl
theorem r_142_118 : sm_ic 142 118 = some (.bipush 8, 0, 0, 0) := rfl
theorem r_142_120 : sm_ic 142 120 = some (.iload_n 2, 0, 0, 0) := rfl
theorem r_142_121 : sm_ic 142 121 = some (.iadd, 0, 0, 0) := rfl
theorem r_142_122 : sm_ic 142 122 = some (.iaload, 0, 0, 0) := rfl
theorem r_142_123 : sm_ic 142 123 = some (.iastore, 0, 0, 0) := rfl
theorem r_142_124 : sm_ic 142 124 = some (.aload_n 0, 0, 0, 0) := rfl
theorem r_142_125 : sm_ic 142 125 = some (.getfield 19, 7, 4, 747) := rfl
theorem r_142_128 : sm_ic 142 128 = some (.iload_n 2, 0, 0, 0) := rfl
theorem r_142_129 : sm_ic 142 129 = some (.aload_n 0, 0, 0, 0) := rfl
theorem r_142_130 : sm_ic 142 130 = some (.getfield 19, 7, 4, 747) := rfl
theorem r_142_133 : sm_ic 142 133 = some (.bipush 8, 0, 0, 0) := rfl
theorem r_142_135 : sm_ic 142 135 = some (.iload_n 2, 0, 0, 0) := rfl
theorem r_142_136 : sm_ic 142 136 = some (.iadd, 0, 0, 0) := rfl
theorem r_142_137 : sm_ic 142 137 = some (.iaload, 0, 0, 0) := rfl
theorem r_142_138 : sm_ic 142 138 = some (.iastore, 0, 0, 0) := rfl
theorem r_142_139 : sm_ic 142 139 = some (.aload_n 0, 0, 0, 0) := rfl
theorem r_142_140 : sm_ic 142 140 = some (.getfield 22, 7, 5, 748) := rfl
theorem r_142_143 : sm_ic 142 143 = some (.iload_n 2, 0, 0, 0) := rfl
theorem r_142_144 : sm_ic 142 144 = some (.aload_n 0, 0, 0, 0) := rfl
theorem r_142_145 : sm_ic 142 145 = some (.getfield 22, 7, 5, 748) := rfl
theorem r_142_148 : sm_ic 142 148 = some (.bipush 8, 0, 0, 0) := rfl
theorem r_142_150 : sm_ic 142 150 = some (.iload_n 2, 0, 0, 0) := rfl
theorem r_142_151 : sm_ic 142 151 = some (.iadd, 0, 0, 0) := rfl
theorem r_142_152 : sm_ic 142 152 = some (.iaload, 0, 0, 0) := rfl
theorem r_142_153 : sm_ic 142 153 = some (.iastore, 0, 0, 0) := rfl
theorem r_142_154 : sm_ic 142 154 = some (.aload_n 0, 0, 0, 0) := rfl
theorem r_142_155 : sm_ic 142 155 = some (.getfield 25, 7, 6, 749) := rfl
theorem r_142_158 : sm_ic 142 158 = some (.iload_n 2, 0, 0, 0) := rfl
theorem r_142_159 : sm_ic 142 159 = some (.aload_n 0, 0, 0, 0) := rfl
theorem r_142_160 : sm_ic 142 160 = some (.getfield 25, 7, 6, 749) := rfl
theorem r_142_163 : sm_ic 142 163 = some (.bipush 8, 0, 0, 0) := rfl
theorem r_142_165 : sm_ic 142 165 = some (.iload_n 2, 0, 0, 0) := rfl
theorem r_142_166 : sm_ic 142 166 = some (.iadd, 0, 0, 0) := rfl
theorem r_142_167 : sm_ic 142 167 = some (.iaload, 0, 0, 0) := rfl
theorem r_142_168 : sm_ic 142 168 = some (.iastore, 0, 0, 0) := rfl
theorem r_142_169 : sm_ic 142 169 = some (.iinc 2 1, 0, 0, 0) := rfl
theorem r_142_172 : sm_ic 142 172 = some (.goto (-69), 103, 0, 0) := rfl
theorem r_142_175 : sm_ic 142 175 = some (.iconst 0, 0, 0, 0) := rfl
theorem r_142_176 : sm_ic 142 176 = some (.istore_n 2, 0, 0, 0) := rfl
theorem r_142_177 : sm_ic 142 177 = some (.iload_n 2, 0, 0, 0) := rfl
theorem r_142_178 : sm_ic 142 178 = some (.iconst 5, 0, 0, 0) := rfl
theorem r_142_179 : sm_ic 142 179 = some (.if_icmp .ge 23, 202, 0, 0) := rfl
theorem r_142_182 : sm_ic 142 182 = some (.aload_n 0, 0, 0, 0) := rfl
theorem r_142_183 : sm_ic 142 183 = some (.getfield 31, 7, 8, 751) := rfl
theorem r_142_186 : sm_ic 142 186 = some (.iload_n 2, 0, 0, 0) := rfl
theorem r_142_187 : sm_ic 142 187 = some (.aload_n 0, 0, 0, 0) := rfl
theorem r_142_188 : sm_ic 142 188 = some (.getfield 31, 7, 8, 751) := rfl
theorem r_142_191 : sm_ic 142 191 = some (.iconst 5, 0, 0, 0) := rfl
theorem r_142_192 : sm_ic 142 192 = some (.iload_n 2, 0, 0, 0) := rfl
theorem r_142_193 : sm_ic 142 193 = some (.iadd, 0, 0, 0) := rfl
theorem r_142_194 : sm_ic 142 194 = some (.iaload, 0, 0, 0) := rfl
theorem r_142_195 : sm_ic 142 195 = some (.iastore, 0, 0, 0) := rfl
theorem r_142_196 : sm_ic 142 196 = some (.iinc 2 1, 0, 0, 0) := rfl
theorem r_142_199 : sm_ic 142 199 = some (.goto (-22), 177, 0, 0) := rfl
theorem r_142_202 : sm_ic 142 202 = some (.iconst 0, 0, 0, 0) := rfl
theorem r_142_203 : sm_ic 142 203 = some (.istore_n 2, 0, 0, 0) := rfl
theorem r_142_204 : sm_ic 142 204 = some (.iload_n 2, 0, 0, 0) := rfl
theorem r_142_205 : sm_ic 142 205 = some (.iconst 4, 0, 0, 0) := rfl
theorem r_142_206 : sm_ic 142 206 = some (.if_icmp .ge 23, 229, 0, 0) := rfl
theorem r_142_209 : sm_ic 142 209 = some (.aload_n 0, 0, 0, 0) := rfl
theorem r_142_210 : sm_ic 142 210 = some (.getfield 34, 7, 9, 752) := rfl
theorem r_142_213 : sm_ic 142 213 = some (.iload_n 2, 0, 0, 0) := rfl
theorem r_142_214 : sm_ic 142 214 = some (.aload_n 0, 0, 0, 0) := rfl
theorem r_142_215 : sm_ic 142 215 = some (.getfield 34, 7, 9, 752) := rfl
theorem r_142_218 : sm_ic 142 218 = some (.iconst 4, 0, 0, 0) := rfl
theorem r_142_219 : sm_ic 142 219 = some (.iload_n 2, 0, 0, 0) := rfl
theorem r_142_220 : sm_ic 142 220 = some (.iadd, 0, 0, 0) := rfl
theorem r_142_221 : sm_ic 142 221 = some (.iaload, 0, 0, 0) := rfl
theorem r_142_222 : sm_ic 142 222 = some (.iastore, 0, 0, 0) := rfl
theorem r_142_223 : sm_ic 142 223 = some (.iinc 2 1, 0, 0, 0) := rfl
theorem r_142_226 : sm_ic 142 226 = some (.goto (-22), 204, 0, 0) := rfl
theorem r_142_229 : sm_ic 142 229 = some (.aload_n 0, 0, 0, 0) := rfl
theorem r_142_230 : sm_ic 142 230 = some (.invokevirtual 72, 131, 1, 739) := rfl
theorem r_142_233 : sm_ic 142 233 = some (.aload_n 0, 0, 0, 0) := rfl
theorem r_142_234 : sm_ic 142 234 = some (.getfield 13, 7, 2, 745) := rfl
theorem r_142_237 : sm_ic 142 237 = some (.iconst 0, 0, 0, 0) := rfl
theorem r_142_238 : sm_ic 142 238 = some (.iaload, 0, 0, 0) := rfl
theorem r_142_239 : sm_ic 142 239 = some (.ireturn, 0, 0, 0) := rfl
theorem r_143_0 : sm_ic 143 0 = some (.aload_n 0, 0, 0, 0) := rfl
theorem r_143_1 : sm_ic 143 1 = some (.iload_n 1, 0, 0, 0) := rfl
theorem r_143_2 : sm_ic 143 2 = some (.invokevirtual 130, 144, 2, 866) := rfl
theorem r_143_5 : sm_ic 143 5 = some (.ifCond .eq 15, 20, 0, 0) := rfl
theorem r_143_8 : sm_ic 143 8 = some (.iload_n 2, 0, 0, 0) := rfl
theorem r_143_9 : sm_ic 143 9 = some (.i2l, 0, 0, 0) := rfl
theorem r_143_10 : sm_ic 143 10 = some (.lconst 0, 0, 0, 0) := rfl
theorem r_143_11 : sm_ic 143 11 = some (.ldc2_w 133, 3, 0, 870) := rfl
theorem r_143_14 : sm_ic 143 14 = some (.invokestatic 79, 133, 3, 819) := rfl
theorem r_143_17 : sm_ic 143 17 = some (.ifCond .ne 5, 22, 0, 0) := rfl
theorem r_143_20 : sm_ic 143 20 = some (.iconst (-1), 0, 0, 0) := rfl
theorem r_143_21 : sm_ic 143 21 = some (.ireturn, 0, 0, 0) := rfl
theorem r_143_22 : sm_ic 143 22 = some (.iload_n 2, 0, 0, 0) := rfl
theorem r_143_23 : sm_ic 143 23 = some (.ifCond .ne 12, 35, 0, 0) := rfl
theorem r_143_26 : sm_ic 143 26 = some (.aload_n 0, 0, 0, 0) := rfl
theorem r_143_27 : sm_ic 143 27 = some (.getfield 16, 7, 3, 746) := rfl
theorem r_143_30 : sm_ic 143 30 = some (.iload_n 1, 0, 0, 0) := rfl
theorem r_143_31 : sm_ic 143 31 = some (.iaload, 0, 0, 0) := rfl
theorem r_143_32 : sm_ic 143 32 = some (.goto 40, 72, 0, 0) := rfl
theorem r_143_35 : sm_ic 143 35 = some (.iload_n 2, 0, 0, 0) := rfl
theorem r_143_36 : sm_ic 143 36 = some (.iconst 1, 0, 0, 0) := rfl
theorem r_143_37 : sm_ic 143 37 = some (.if_icmp .ne 12, 49, 0, 0) := rfl
theorem r_143_40 : sm_ic 143 40 = some (.aload_n 0, 0, 0, 0) := rfl
theorem r_143_41 : sm_ic 143 41 = some (.getfield 37, 7, 10, 753) := rfl
theorem r_143_44 : sm_ic 143 44 = some (.iload_n 1, 0, 0, 0) := rfl
theorem r_143_45 : sm_ic 143 45 = some (.iaload, 0, 0, 0) := rfl
theorem r_143_46 : sm_ic 143 46 = some (.goto 26, 72, 0, 0) := rfl
theorem r_143_49 : sm_ic 143 49 = some (.iload_n 2, 0, 0, 0) := rfl
theorem r_143_50 : sm_ic 143 50 = some (.iconst 2, 0, 0, 0) := rfl
theorem r_143_51 : sm_ic 143 51 = some (.if_icmp .ne 15, 66, 0, 0) := rfl
theorem r_143_54 : sm_ic 143 54 = some (.aload_n 0, 0, 0, 0) := rfl
theorem r_143_55 : sm_ic 143 55 = some (.getfield 37, 7, 10, 753) := rfl
theorem r_143_58 : sm_ic 143 58 = some (.bipush 8, 0, 0, 0) := rfl
theorem r_143_60 : sm_ic 143 60 = some (.iload_n 1, 0, 0, 0) := rfl
theorem r_143_61 : sm_ic 143 61 = some (.iadd, 0, 0, 0) := rfl
theorem r_143_62 : sm_ic 143 62 = some (.iaload, 0, 0, 0) := rfl
theorem r_143_63 : sm_ic 143 63 = some (.goto 9, 72, 0, 0) := rfl
theorem r_143_66 : sm_ic 143 66 = some (.aload_n 0, 0, 0, 0) := rfl
theorem r_143_67 : sm_ic 143 67 = some (.getfield 25, 7, 6, 749) := rfl
theorem r_143_70 : sm_ic 143 70 = some (.iload_n 1, 0, 0, 0) := rfl
theorem r_143_71 : sm_ic 143 71 = some (.iaload, 0, 0, 0) := rfl
theorem r_143_72 : sm_ic 143 72 = some (.ireturn, 0, 0, 0) := rfl
theorem r_144_0 : sm_ic 144 0 = some (.iload_n 1, 0, 0, 0) := rfl
theorem r_144_1 : sm_ic 144 1 = some (.i2l, 0, 0, 0) := rfl
theorem r_144_2 : sm_ic 144 2 = some (.lconst 0, 0, 0, 0) := rfl
theorem r_144_3 : sm_ic 144 3 = some (.aload_n 0, 0, 0, 0) := rfl
theorem r_144_4 : sm_ic 144 4 = some (.getfield 13, 7, 2, 745) := rfl
theorem r_144_7 : sm_ic 144 7 = some (.iconst 0, 0, 0, 0) := rfl
theorem r_144_8 : sm_ic 144 8 = some (.iaload, 0, 0, 0) := rfl
theorem r_144_9 : sm_ic 144 9 = some (.iconst 1, 0, 0, 0) := rfl
theorem r_144_10 : sm_ic 144 10 = some (.isub, 0, 0, 0) := rfl
theorem r_144_11 : sm_ic 144 11 = some (.i2l, 0, 0, 0) := rfl
theorem r_144_12 : sm_ic 144 12 = some (.invokestatic 79, 133, 3, 819) := rfl
theorem r_144_15 : sm_ic 144 15 = some (.ireturn, 0, 0, 0) := rfl
theorem r_145_0 : sm_ic 145 0 = some (.aload_n 0, 0, 0, 0) := rfl
theorem r_145_1 : sm_ic 145 1 = some (.iload_n 1, 0, 0, 0) := rfl
theorem r_145_2 : sm_ic 145 2 = some (.invokevirtual 135, 146, 2, 875) := rfl
theorem r_145_5 : sm_ic 145 5 = some (.ifCond .eq 13, 18, 0, 0) := rfl
theorem r_145_8 : sm_ic 145 8 = some (.iload_n 2, 0, 0, 0) := rfl
theorem r_145_9 : sm_ic 145 9 = some (.i2l, 0, 0, 0) := rfl
theorem r_145_10 : sm_ic 145 10 = some (.lconst 0, 0, 0, 0) := rfl
theorem r_145_11 : sm_ic 145 11 = some (.lconst 1, 0, 0, 0) := rfl
theorem r_145_12 : sm_ic 145 12 = some (.invokestatic 79, 133, 3, 819) := rfl
theorem r_145_15 : sm_ic 145 15 = some (.ifCond .ne 7, 22, 0, 0) := rfl
theorem r_145_18 : sm_ic 145 18 = some (.iconst (-1), 0, 0, 0) := rfl
theorem r_145_19 : sm_ic 145 19 = some (.goto 25, 44, 0, 0) := rfl
theorem r_145_22 : sm_ic 145 22 = some (.iload_n 2, 0, 0, 0) := rfl
theorem r_145_23 : sm_ic 145 23 = some (.ifCond .ne 12, 35, 0, 0) := rfl
theorem r_145_26 : sm_ic 145 26 = some (.aload_n 0, 0, 0, 0) := rfl
theorem r_145_27 : sm_ic 145 27 = some (.getfield 31, 7, 8, 751) := rfl
theorem r_145_30 : sm_ic 145 30 = some (.iload_n 1, 0, 0, 0) := rfl
theorem r_145_31 : sm_ic 145 31 = some (.iaload, 0, 0, 0) := rfl
theorem r_145_32 : sm_ic 145 32 = some (.goto 12, 44, 0, 0) := rfl
theorem r_145_35 : sm_ic 145 35 = some (.aload_n 0, 0, 0, 0) := rfl
theorem r_145_36 : sm_ic 145 36 = some (.getfield 37, 7, 10, 753) := rfl
theorem r_145_39 : sm_ic 145 39 = some (.bipush 16, 0, 0, 0) := rfl
theorem r_145_41 : sm_ic 145 41 = some (.iload_n 1, 0, 0, 0) := rfl
theorem r_145_42 : sm_ic 145 42 = some (.iadd, 0, 0, 0) := rfl
theorem r_145_43 : sm_ic 145 43 = some (.iaload, 0, 0, 0) := rfl
theorem r_145_44 : sm_ic 145 44 = some (.ireturn, 0, 0, 0) := rfl
theorem r_146_0 : sm_ic 146 0 = some (.iload_n 1, 0, 0, 0) := rfl
theorem r_146_1 : sm_ic 146 1 = some (.i2l, 0, 0, 0) := rfl
theorem r_146_2 : sm_ic 146 2 = some (.lconst 0, 0, 0, 0) := rfl
theorem r_146_3 : sm_ic 146 3 = some (.aload_n 0, 0, 0, 0) := rfl
theorem r_146_4 : sm_ic 146 4 = some (.getfield 28, 7, 7, 750) := rfl
theorem r_146_7 : sm_ic 146 7 = some (.iconst 0, 0, 0, 0) := rfl
theorem r_146_8 : sm_ic 146 8 = some (.iaload, 0, 0, 0) := rfl
theorem r_146_9 : sm_ic 146 9 = some (.iconst 1, 0, 0, 0) := rfl
theorem r_146_10 : sm_ic 146 10 = some (.isub, 0, 0, 0) := rfl
theorem r_146_11 : sm_ic 146 11 = some (.i2l, 0, 0, 0) := rfl
theorem r_146_12 : sm_ic 146 12 = some (.invokestatic 79, 133, 3, 819) := rfl
theorem r_146_15 : sm_ic 146 15 = some (.ireturn, 0, 0, 0) := rfl
theorem r_147_0 : sm_ic 147 0 = some (.iload_n 1, 0, 0, 0) := rfl
theorem r_147_1 : sm_ic 147 1 = some (.invokestatic 164, 148, 1, 883) := rfl
theorem r_147_4 : sm_ic 147 4 = some (.ifCond .eq 12, 16, 0, 0) := rfl
theorem r_147_7 : sm_ic 147 7 = some (.aload_n 0, 0, 0, 0) := rfl
theorem r_147_8 : sm_ic 147 8 = some (.iload_n 1, 0, 0, 0) := rfl
theorem r_147_9 : sm_ic 147 9 = some (.iconst 0, 0, 0, 0) := rfl
theorem r_147_10 : sm_ic 147 10 = some (.invokevirtual 145, 149, 3, 886) := rfl
theorem r_147_13 : sm_ic 147 13 = some (.goto 4, 17, 0, 0) := rfl
theorem r_147_16 : sm_ic 147 16 = some (.iconst (-1), 0, 0, 0) := rfl
theorem r_147_17 : sm_ic 147 17 = some (.ireturn, 0, 0, 0) := rfl
theorem r_148_0 : sm_ic 148 0 = some (.iload_n 0, 0, 0, 0) := rfl
theorem r_148_1 : sm_ic 148 1 = some (.i2l, 0, 0, 0) := rfl
theorem r_148_2 : sm_ic 148 2 = some (.lconst 0, 0, 0, 0) := rfl
theorem r_148_3 : sm_ic 148 3 = some (.lconst 1, 0, 0, 0) := rfl
theorem r_148_4 : sm_ic 148 4 = some (.invokestatic 79, 133, 3, 819) := rfl
theorem r_148_7 : sm_ic 148 7 = some (.ireturn, 0, 0, 0) := rfl
theorem r_149_0 : sm_ic 149 0 = some (.iconst 0, 0, 0, 0) := rfl
theorem r_149_1 : sm_ic 149 1 = some (.istore_n 3, 0, 0, 0) := rfl
theorem r_149_2 : sm_ic 149 2 = some (.iconst 0, 0, 0, 0) := rfl
theorem r_149_3 : sm_ic 149 3 = some (.istore 4, 0, 0, 0) := rfl
theorem r_149_5 : sm_ic 149 5 = some (.iload 4, 0, 0, 0) := rfl
theorem r_149_7 : sm_ic 149 7 = some (.aload_n 0, 0, 0, 0) := rfl
theorem r_149_8 : sm_ic 149 8 = some (.getfield 13, 7, 2, 745) := rfl
theorem r_149_11 : sm_ic 149 11 = some (.iconst 0, 0, 0, 0) := rfl
theorem r_149_12 : sm_ic 149 12 = some (.iaload, 0, 0, 0) := rfl
theorem r_149_13 : sm_ic 149 13 = some (.if_icmp .ge 31, 44, 0, 0) := rfl
theorem r_149_16 : sm_ic 149 16 = some (.iload_n 3, 0, 0, 0) := rfl
theorem r_149_17 : sm_ic 149 17 = some (.aload_n 0, 0, 0, 0) := rfl
theorem r_149_18 : sm_ic 149 18 = some (.iload_n 1, 0, 0, 0) := rfl
theorem r_149_19 : sm_ic 149 19 = some (.iload 4, 0, 0, 0) := rfl
theorem r_149_21 : sm_ic 149 21 = some (.iload_n 2, 0, 0, 0) := rfl
theorem r_149_22 : sm_ic 149 22 = some (.invokevirtual 142, 150, 4, 890) := rfl
theorem r_149_25 : sm_ic 149 25 = some (.ifCond .eq 10, 35, 0, 0) := rfl
theorem r_149_28 : sm_ic 149 28 = some (.iconst 1, 0, 0, 0) := rfl
theorem r_149_29 : sm_ic 149 29 = some (.iload 4, 0, 0, 0) := rfl
theorem r_149_31 : sm_ic 149 31 = some (.ishl, 0, 0, 0) := rfl
theorem r_149_32 : sm_ic 149 32 = some (.goto 4, 36, 0, 0) := rfl
theorem r_149_35 : sm_ic 149 35 = some (.iconst 0, 0, 0, 0) := rfl
theorem r_149_36 : sm_ic 149 36 = some (.ior, 0, 0, 0) := rfl
theorem r_149_37 : sm_ic 149 37 = some (.istore_n 3, 0, 0, 0) := rfl
theorem r_149_38 : sm_ic 149 38 = some (.iinc 4 1, 0, 0, 0) := rfl
theorem r_149_41 : sm_ic 149 41 = some (.goto (-36), 5, 0, 0) := rfl
theorem r_149_44 : sm_ic 149 44 = some (.iload_n 3, 0, 0, 0) := rfl
theorem r_149_45 : sm_ic 149 45 = some (.ireturn, 0, 0, 0) := rfl
theorem r_150_0 : sm_ic 150 0 = some (.aload_n 0, 0, 0, 0) := rfl
theorem r_150_1 : sm_ic 150 1 = some (.getfield 37, 7, 10, 753) := rfl
theorem r_150_4 : sm_ic 150 4 = some (.bipush 22, 0, 0, 0) := rfl
theorem r_150_6 : sm_ic 150 6 = some (.iaload, 0, 0, 0) := rfl
theorem r_150_7 : sm_ic 150 7 = some (.iconst 1, 0, 0, 0) := rfl
theorem r_150_8 : sm_ic 150 8 = some (.if_icmp .ne 7, 15, 0, 0) := rfl
theorem r_150_11 : sm_ic 150 11 = some (.iconst 1, 0, 0, 0) := rfl
theorem r_150_12 : sm_ic 150 12 = some (.goto 4, 16, 0, 0) := rfl
theorem r_150_15 : sm_ic 150 15 = some (.iconst 0, 0, 0, 0) := rfl
theorem r_150_16 : sm_ic 150 16 = some (.istore 4, 0, 0, 0) := rfl
theorem r_150_18 : sm_ic 150 18 = some (.aload_n 0, 0, 0, 0) := rfl
theorem r_150_19 : sm_ic 150 19 = some (.getfield 37, 7, 10, 753) := rfl
theorem r_150_22 : sm_ic 150 22 = some (.bipush 21, 0, 0, 0) := rfl
theorem r_150_24 : sm_ic 150 24 = some (.iaload, 0, 0, 0) := rfl
theorem r_150_25 : sm_ic 150 25 = some (.iconst 1, 0, 0, 0) := rfl
theorem r_150_26 : sm_ic 150 26 = some (.if_icmp .ne 10, 36, 0, 0) := rfl
theorem r_150_29 : sm_ic 150 29 = some (.iload 4, 0, 0, 0) := rfl
theorem r_150_31 : sm_ic 150 31 = some (.ifCond .ne 5, 36, 0, 0) := rfl
theorem r_150_34 : sm_ic 150 34 = some (.iconst 0, 0, 0, 0) := rfl
theorem r_150_35 : sm_ic 150 35 = some (.ireturn, 0, 0, 0) := rfl
theorem r_150_36 : sm_ic 150 36 = some (.iload_n 2, 0, 0, 0) := rfl
theorem r_150_37 : sm_ic 150 37 = some (.istore 5, 0, 0, 0) := rfl
theorem r_150_39 : sm_ic 150 39 = some (.iconst 0, 0, 0, 0) := rfl
theorem r_150_40 : sm_ic 150 40 = some (.istore 6, 0, 0, 0) := rfl
theorem r_150_42 : sm_ic 150 42 = some (.iload 4, 0, 0, 0) := rfl
theorem r_150_44 : sm_ic 150 44 = some (.ifCond .ne 48, 92, 0, 0) := rfl
theorem r_150_47 : sm_ic 150 47 = some (.aload_n 0, 0, 0, 0) := rfl
theorem r_150_48 : sm_ic 150 48 = some (.getfield 16, 7, 3, 746) := rfl
theorem r_150_51 : sm_ic 150 51 = some (.iload 5, 0, 0, 0) := rfl
theorem r_150_53 : sm_ic 150 53 = some (.iaload, 0, 0, 0) := rfl
theorem r_150_54 : sm_ic 150 54 = some (.iconst 2, 0, 0, 0) := rfl
theorem r_150_55 : sm_ic 150 55 = some (.if_icmp .ne 37, 92, 0, 0) := rfl
theorem r_150_58 : sm_ic 150 58 = some (.iload 6, 0, 0, 0) := rfl
theorem r_150_60 : sm_ic 150 60 = some (.iload 5, 0, 0, 0) := rfl
theorem r_150_62 : sm_ic 150 62 = some (.invokestatic 138, 151, 2, 894) := rfl
theorem r_150_65 : sm_ic 150 65 = some (.ifCond .ne 27, 92, 0, 0) := rfl
theorem r_150_68 : sm_ic 150 68 = some (.iload 6, 0, 0, 0) := rfl
theorem r_150_70 : sm_ic 150 70 = some (.iconst 1, 0, 0, 0) := rfl
theorem r_150_71 : sm_ic 150 71 = some (.iload 5, 0, 0, 0) := rfl
theorem r_150_73 : sm_ic 150 73 = some (.ishl, 0, 0, 0) := rfl
theorem r_150_74 : sm_ic 150 74 = some (.ior, 0, 0, 0) := rfl
theorem r_150_75 : sm_ic 150 75 = some (.istore 6, 0, 0, 0) := rfl
theorem r_150_77 : sm_ic 150 77 = some (.aload_n 0, 0, 0, 0) := rfl
theorem r_150_78 : sm_ic 150 78 = some (.getfield 37, 7, 10, 753) := rfl
theorem r_150_81 : sm_ic 150 81 = some (.bipush 8, 0, 0, 0) := rfl
theorem r_150_83 : sm_ic 150 83 = some (.iload 5, 0, 0, 0) := rfl
theorem r_150_85 : sm_ic 150 85 = some (.iadd, 0, 0, 0) := rfl
theorem r_150_86 : sm_ic 150 86 = some (.iaload, 0, 0, 0) := rfl
theorem r_150_87 : sm_ic 150 87 = some (.istore 5, 0, 0, 0) := rfl
theorem r_150_89 : sm_ic 150 89 = some (.goto (-47), 42, 0, 0) := rfl
theorem r_150_92 : sm_ic 150 92 = some (.iload 4, 0, 0, 0) := rfl
theorem r_150_94 : sm_ic 150 94 = some (.ifCond .ne 18, 112, 0, 0) := rfl
theorem r_150_97 : sm_ic 150 97 = some (.aload_n 0, 0, 0, 0) := rfl
theorem r_150_98 : sm_ic 150 98 = some (.getfield 16, 7, 3, 746) := rfl
theorem r_150_101 : sm_ic 150 101 = some (.iload 5, 0, 0, 0) := rfl
theorem r_150_103 : sm_ic 150 103 = some (.iaload, 0, 0, 0) := rfl
theorem r_150_104 : sm_ic 150 104 = some (.iconst 3, 0, 0, 0) := rfl
theorem r_150_105 : sm_ic 150 105 = some (.if_icmp .ne 7, 112, 0, 0) := rfl
theorem r_150_108 : sm_ic 150 108 = some (.iconst 1, 0, 0, 0) := rfl
theorem r_150_109 : sm_ic 150 109 = some (.goto 4, 113, 0, 0) := rfl
theorem r_150_112 : sm_ic 150 112 = some (.iconst 0, 0, 0, 0) := rfl
theorem r_150_113 : sm_ic 150 113 = some (.istore 7, 0, 0, 0) := rfl
theorem r_150_115 : sm_ic 150 115 = some (.aload_n 0, 0, 0, 0) := rfl
theorem r_150_116 : sm_ic 150 116 = some (.getfield 37, 7, 10, 753) := rfl
theorem r_150_119 : sm_ic 150 119 = some (.iload 5, 0, 0, 0) := rfl
theorem r_150_121 : sm_ic 150 121 = some (.iaload, 0, 0, 0) := rfl
theorem r_150_122 : sm_ic 150 122 = some (.iload_n 1, 0, 0, 0) := rfl
theorem r_150_123 : sm_ic 150 123 = some (.invokestatic 138, 151, 2, 894) := rfl
theorem r_150_126 : sm_ic 150 126 = some (.ifCond .eq 21, 147, 0, 0) := rfl
theorem r_150_129 : sm_ic 150 129 = some (.iload 7, 0, 0, 0) := rfl
theorem r_150_131 : sm_ic 150 131 = some (.ifCond .ne 16, 147, 0, 0) := rfl
theorem r_150_134 : sm_ic 150 134 = some (.iload_n 3, 0, 0, 0) := rfl
theorem r_150_135 : sm_ic 150 135 = some (.iload 5, 0, 0, 0) := rfl
theorem r_150_137 : sm_ic 150 137 = some (.invokestatic 138, 151, 2, 894) := rfl
theorem r_150_140 : sm_ic 150 140 = some (.ifCond .ne 7, 147, 0, 0) := rfl
theorem r_150_143 : sm_ic 150 143 = some (.iconst 1, 0, 0, 0) := rfl
theorem r_150_144 : sm_ic 150 144 = some (.goto 4, 148, 0, 0) := rfl
theorem r_150_147 : sm_ic 150 147 = some (.iconst 0, 0, 0, 0) := rfl
theorem r_150_148 : sm_ic 150 148 = some (.ireturn, 0, 0, 0) := rfl
theorem r_151_0 : sm_ic 151 0 = some (.iload_n 0, 0, 0, 0) := rfl
theorem r_151_1 : sm_ic 151 1 = some (.iload_n 1, 0, 0, 0) := rfl
theorem r_151_2 : sm_ic 151 2 = some (.ishr, 0, 0, 0) := rfl
theorem r_151_3 : sm_ic 151 3 = some (.iconst 1, 0, 0, 0) := rfl
theorem r_151_4 : sm_ic 151 4 = some (.iand, 0, 0, 0) := rfl
theorem r_151_5 : sm_ic 151 5 = some (.iconst 1, 0, 0, 0) := rfl
theorem r_151_6 : sm_ic 151 6 = some (.if_icmp .ne 7, 13, 0, 0) := rfl
theorem r_151_9 : sm_ic 151 9 = some (.iconst 1, 0, 0, 0) := rfl
theorem r_151_10 : sm_ic 151 10 = some (.goto 4, 14, 0, 0) := rfl
theorem r_151_13 : sm_ic 151 13 = some (.iconst 0, 0, 0, 0) := rfl
theorem r_151_14 : sm_ic 151 14 = some (.ireturn, 0, 0, 0) := rfl
theorem r_152_0 : sm_ic 152 0 = some (.iload_n 1, 0, 0, 0) := rfl
theorem r_152_1 : sm_ic 152 1 = some (.invokestatic 164, 148, 1, 883) := rfl
theorem r_152_4 : sm_ic 152 4 = some (.ifCond .eq 11, 15, 0, 0) := rfl
theorem r_152_7 : sm_ic 152 7 = some (.aload_n 0, 0, 0, 0) := rfl
theorem r_152_8 : sm_ic 152 8 = some (.iload_n 1, 0, 0, 0) := rfl
theorem r_152_9 : sm_ic 152 9 = some (.invokevirtual 155, 153, 2, 901) := rfl
theorem r_152_12 : sm_ic 152 12 = some (.goto 4, 16, 0, 0) := rfl
theorem r_152_15 : sm_ic 152 15 = some (.iconst (-1), 0, 0, 0) := rfl
theorem r_152_16 : sm_ic 152 16 = some (.ireturn, 0, 0, 0) := rfl
theorem r_153_0 : sm_ic 153 0 = some (.aload_n 0, 0, 0, 0) := rfl
theorem r_153_1 : sm_ic 153 1 = some (.aload_n 0, 0, 0, 0) := rfl
theorem r_153_2 : sm_ic 153 2 = some (.iload_n 1, 0, 0, 0) := rfl
theorem r_153_3 : sm_ic 153 3 = some (.iconst 0, 0, 0, 0) := rfl
theorem r_153_4 : sm_ic 153 4 = some (.invokevirtual 145, 149, 3, 886) := rfl
theorem r_153_7 : sm_ic 153 7 = some (.iconst (-1), 0, 0, 0) := rfl
theorem r_153_8 : sm_ic 153 8 = some (.invokevirtual 149, 154, 3, 905) := rfl
theorem r_153_11 : sm_ic 153 11 = some (.aload_n 0, 0, 0, 0) := rfl
theorem r_153_12 : sm_ic 153 12 = some (.getfield 34, 7, 9, 752) := rfl
theorem r_153_15 : sm_ic 153 15 = some (.iconst 0, 0, 0, 0) := rfl
theorem r_153_16 : sm_ic 153 16 = some (.iaload, 0, 0, 0) := rfl
theorem r_153_17 : sm_ic 153 17 = some (.invokestatic 152, 155, 2, 909) := rfl
theorem r_153_20 : sm_ic 153 20 = some (.ireturn, 0, 0, 0) := rfl
theorem r_154_0 : sm_ic 154 0 = some (.iconst 0, 0, 0, 0) := rfl
theorem r_154_1 : sm_ic 154 1 = some (.istore_n 3, 0, 0, 0) := rfl
theorem r_154_2 : sm_ic 154 2 = some (.iconst 0, 0, 0, 0) := rfl
theorem r_154_3 : sm_ic 154 3 = some (.istore 4, 0, 0, 0) := rfl
theorem r_154_5 : sm_ic 154 5 = some (.iload 4, 0, 0, 0) := rfl
theorem r_154_7 : sm_ic 154 7 = some (.iconst 5, 0, 0, 0) := rfl
theorem r_154_8 : sm_ic 154 8 = some (.if_icmp .ge 75, 83, 0, 0) := rfl
theorem r_154_11 : sm_ic 154 11 = some (.iload 4, 0, 0, 0) := rfl
theorem r_154_13 : sm_ic 154 13 = some (.aload_n 0, 0, 0, 0) := rfl
theorem r_154_14 : sm_ic 154 14 = some (.getfield 28, 7, 7, 750) := rfl
theorem r_154_17 : sm_ic 154 17 = some (.iconst 0, 0, 0, 0) := rfl
theorem r_154_18 : sm_ic 154 18 = some (.iaload, 0, 0, 0) := rfl
theorem r_154_19 : sm_ic 154 19 = some (.if_icmp .ge 32, 51, 0, 0) := rfl
theorem r_154_22 : sm_ic 154 22 = some (.aload_n 0, 0, 0, 0) := rfl
theorem r_154_23 : sm_ic 154 23 = some (.getfield 37, 7, 10, 753) := rfl
theorem r_154_26 : sm_ic 154 26 = some (.bipush 16, 0, 0, 0) := rfl
theorem r_154_28 : sm_ic 154 28 = some (.iload 4, 0, 0, 0) := rfl
theorem r_154_30 : sm_ic 154 30 = some (.iadd, 0, 0, 0) := rfl
theorem r_154_31 : sm_ic 154 31 = some (.iaload, 0, 0, 0) := rfl
theorem r_154_32 : sm_ic 154 32 = some (.ifCond .ne 19, 51, 0, 0) := rfl
theorem r_154_35 : sm_ic 154 35 = some (.iload_n 2, 0, 0, 0) := rfl
theorem r_154_36 : sm_ic 154 36 = some (.ifCond .lt 11, 47, 0, 0) := rfl
theorem r_154_39 : sm_ic 154 39 = some (.iload 4, 0, 0, 0) := rfl
theorem r_154_41 : sm_ic 154 41 = some (.iconst 2, 0, 0, 0) := rfl
theorem r_154_42 : sm_ic 154 42 = some (.irem, 0, 0, 0) := rfl
theorem r_154_43 : sm_ic 154 43 = some (.iload_n 2, 0, 0, 0) := rfl
theorem r_154_44 : sm_ic 154 44 = some (.if_icmp .ne 7, 51, 0, 0) := rfl
theorem r_154_47 : sm_ic 154 47 = some (.iconst 1, 0, 0, 0) := rfl
theorem r_154_48 : sm_ic 154 48 = some (.goto 4, 52, 0, 0) := rfl
theorem r_154_51 : sm_ic 154 51 = some (.iconst 0, 0, 0, 0) := rfl
theorem r_154_52 : sm_ic 154 52 = some (.istore 5, 0, 0, 0) := rfl
theorem r_154_54 : sm_ic 154 54 = some (.aload_n 0, 0, 0, 0) := rfl
theorem r_154_55 : sm_ic 154 55 = some (.getfield 58, 7, 21, 764) := rfl
theorem r_154_58 : sm_ic 154 58 = some (.iload 4, 0, 0, 0) := rfl
theorem r_154_60 : sm_ic 154 60 = some (.iload 5, 0, 0, 0) := rfl
theorem r_154_62 : sm_ic 154 62 = some (.ifCond .eq 13, 75, 0, 0) := rfl
theorem r_154_65 : sm_ic 154 65 = some (.aload_n 0, 0, 0, 0) := rfl
theorem r_154_66 : sm_ic 154 66 = some (.getfield 31, 7, 8, 751) := rfl
theorem r_154_69 : sm_ic 154 69 = some (.iload 4, 0, 0, 0) := rfl
theorem r_154_71 : sm_ic 154 71 = some (.iaload, 0, 0, 0) := rfl
theorem r_154_72 : sm_ic 154 72 = some (.goto 4, 76, 0, 0) := rfl
theorem r_154_75 : sm_ic 154 75 = some (.iconst 0, 0, 0, 0) := rfl
theorem r_154_76 : sm_ic 154 76 = some (.iastore, 0, 0, 0) := rfl
theorem r_154_77 : sm_ic 154 77 = some (.iinc 4 1, 0, 0, 0) := rfl
theorem r_154_80 : sm_ic 154 80 = some (.goto (-75), 5, 0, 0) := rfl
theorem r_154_83 : sm_ic 154 83 = some (.iconst 0, 0, 0, 0) := rfl
theorem r_154_84 : sm_ic 154 84 = some (.istore 4, 0, 0, 0) := rfl
theorem r_154_86 : sm_ic 154 86 = some (.iload 4, 0, 0, 0) := rfl
theorem r_154_88 : sm_ic 154 88 = some (.bipush 8, 0, 0, 0) := rfl
theorem r_154_90 : sm_ic 154 90 = some (.if_icmp .ge 133, 223, 0, 0) := rfl
theorem r_154_93 : sm_ic 154 93 = some (.aload_n 0, 0, 0, 0) := rfl
theorem r_154_94 : sm_ic 154 94 = some (.getfield 55, 7, 20, 763) := rfl
theorem r_154_97 : sm_ic 154 97 = some (.iload 4, 0, 0, 0) := rfl
theorem r_154_99 : sm_ic 154 99 = some (.bipush (-4), 0, 0, 0) := rfl
theorem r_154_101 : sm_ic 154 101 = some (.iastore, 0, 0, 0) := rfl
theorem r_154_102 : sm_ic 154 102 = some (.iconst 0, 0, 0, 0) := rfl
theorem r_154_103 : sm_ic 154 103 = some (.istore 5, 0, 0, 0) := rfl
theorem r_154_105 : sm_ic 154 105 = some (.iload 5, 0, 0, 0) := rfl
theorem r_154_107 : sm_ic 154 107 = some (.iconst 5, 0, 0, 0) := rfl
theorem r_154_108 : sm_ic 154 108 = some (.if_icmp .ge 68, 176, 0, 0) := rfl
theorem r_154_111 : sm_ic 154 111 = some (.iload_n 1, 0, 0, 0) := rfl
theorem r_154_112 : sm_ic 154 112 = some (.iload 4, 0, 0, 0) := rfl
theorem r_154_114 : sm_ic 154 114 = some (.invokestatic 138, 151, 2, 894) := rfl
theorem r_154_117 : sm_ic 154 117 = some (.ifCond .eq 59, 176, 0, 0) := rfl
theorem r_154_120 : sm_ic 154 120 = some (.aload_n 0, 0, 0, 0) := rfl
theorem r_154_121 : sm_ic 154 121 = some (.getfield 55, 7, 20, 763) := rfl
theorem r_154_124 : sm_ic 154 124 = some (.iload 4, 0, 0, 0) := rfl
theorem r_154_126 : sm_ic 154 126 = some (.iaload, 0, 0, 0) := rfl
theorem r_154_127 : sm_ic 154 127 = some (.ifCond .ge 49, 176, 0, 0) := rfl
theorem r_154_130 : sm_ic 154 130 = some (.aload_n 0, 0, 0, 0) := rfl
theorem r_154_131 : sm_ic 154 131 = some (.getfield 37, 7, 10, 753) := rfl
theorem r_154_134 : sm_ic 154 134 = some (.bipush 22, 0, 0, 0) := rfl
theorem r_154_136 : sm_ic 154 136 = some (.iaload, 0, 0, 0) := rfl
theorem r_154_137 : sm_ic 154 137 = some (.ifCond .ne 39, 176, 0, 0) := rfl
theorem r_154_140 : sm_ic 154 140 = some (.aload_n 0, 0, 0, 0) := rfl
theorem r_154_141 : sm_ic 154 141 = some (.getfield 58, 7, 21, 764) := rfl
theorem r_154_144 : sm_ic 154 144 = some (.iload 5, 0, 0, 0) := rfl
theorem r_154_146 : sm_ic 154 146 = some (.iaload, 0, 0, 0) := rfl
theorem r_154_147 : sm_ic 154 147 = some (.ifCond .le 23, 170, 0, 0) := rfl
theorem r_154_150 : sm_ic 154 150 = some (.aload_n 0, 0, 0, 0) := rfl
theorem r_154_151 : sm_ic 154 151 = some (.getfield 58, 7, 21, 764) := rfl
theorem r_154_154 : sm_ic 154 154 = some (.iload 5, 0, 0, 0) := rfl
theorem r_154_156 : sm_ic 154 156 = some (.dup2, 0, 0, 0) := rfl
theorem r_154_157 : sm_ic 154 157 = some (.iaload, 0, 0, 0) := rfl
theorem r_154_158 : sm_ic 154 158 = some (.iconst 1, 0, 0, 0) := rfl
theorem r_154_159 : sm_ic 154 159 = some (.isub, 0, 0, 0) := rfl
theorem r_154_160 : sm_ic 154 160 = some (.iastore, 0, 0, 0) := rfl
theorem r_154_161 : sm_ic 154 161 = some (.aload_n 0, 0, 0, 0) := rfl
theorem r_154_162 : sm_ic 154 162 = some (.getfield 55, 7, 20, 763) := rfl
theorem r_154_165 : sm_ic 154 165 = some (.iload 4, 0, 0, 0) := rfl
theorem r_154_167 : sm_ic 154 167 = some (.iload 5, 0, 0, 0) := rfl
theorem r_154_169 : sm_ic 154 169 = some (.iastore, 0, 0, 0) := rfl
theorem r_154_170 : sm_ic 154 170 = some (.iinc 5 1, 0, 0, 0) := rfl
theorem r_154_173 : sm_ic 154 173 = some (.goto (-68), 105, 0, 0) := rfl
theorem r_154_176 : sm_ic 154 176 = some (.iload_n 3, 0, 0, 0) := rfl
theorem r_154_177 : sm_ic 154 177 = some (.iload_n 1, 0, 0, 0) := rfl
theorem r_154_178 : sm_ic 154 178 = some (.iload 4, 0, 0, 0) := rfl
theorem r_154_180 : sm_ic 154 180 = some (.invokestatic 138, 151, 2, 894) := rfl
theorem r_154_183 : sm_ic 154 183 = some (.ifCond .eq 31, 214, 0, 0) := rfl
theorem r_154_186 : sm_ic 154 186 = some (.aload_n 0, 0, 0, 0) := rfl
theorem r_154_187 : sm_ic 154 187 = some (.getfield 55, 7, 20, 763) := rfl
theorem r_154_190 : sm_ic 154 190 = some (.iload 4, 0, 0, 0) := rfl
theorem r_154_192 : sm_ic 154 192 = some (.iaload, 0, 0, 0) := rfl
theorem r_154_193 : sm_ic 154 193 = some (.ifCond .ge 14, 207, 0, 0) := rfl
theorem r_154_196 : sm_ic 154 196 = some (.aload_n 0, 0, 0, 0) := rfl
theorem r_154_197 : sm_ic 154 197 = some (.getfield 37, 7, 10, 753) := rfl
theorem r_154_200 : sm_ic 154 200 = some (.bipush 22, 0, 0, 0) := rfl
theorem r_154_202 : sm_ic 154 202 = some (.iaload, 0, 0, 0) := rfl
theorem r_154_203 : sm_ic 154 203 = some (.iconst 1, 0, 0, 0) := rfl
theorem r_154_204 : sm_ic 154 204 = some (.if_icmp .ne 10, 214, 0, 0) := rfl
theorem r_154_207 : sm_ic 154 207 = some (.iconst 1, 0, 0, 0) := rfl
theorem r_154_208 : sm_ic 154 208 = some (.iload 4, 0, 0, 0) := rfl
theorem r_154_210 : sm_ic 154 210 = some (.ishl, 0, 0, 0) := rfl
theorem r_154_211 : sm_ic 154 211 = some (.goto 4, 215, 0, 0) := rfl
theorem r_154_214 : sm_ic 154 214 = some (.iconst 0, 0, 0, 0) := rfl
theorem r_154_215 : sm_ic 154 215 = some (.ior, 0, 0, 0) := rfl
theorem r_154_216 : sm_ic 154 216 = some (.istore_n 3, 0, 0, 0) := rfl
theorem r_154_217 : sm_ic 154 217 = some (.iinc 4 1, 0, 0, 0) := rfl
theorem r_154_220 : sm_ic 154 220 = some (.goto (-134), 86, 0, 0) := rfl
theorem r_154_223 : sm_ic 154 223 = some (.iload_n 3, 0, 0, 0) := rfl
theorem r_154_224 : sm_ic 154 224 = some (.ireturn, 0, 0, 0) := rfl
theorem r_155_0 : sm_ic 155 0 = some (.iconst 0, 0, 0, 0) := rfl
theorem r_155_1 : sm_ic 155 1 = some (.istore_n 2, 0, 0, 0) := rfl
theorem r_155_2 : sm_ic 155 2 = some (.iconst 0, 0, 0, 0) := rfl
theorem r_155_3 : sm_ic 155 3 = some (.istore_n 3, 0, 0, 0) := rfl
theorem r_155_4 : sm_ic 155 4 = some (.iconst 0, 0, 0, 0) := rfl
theorem r_155_5 : sm_ic 155 5 = some (.istore 4, 0, 0, 0) := rfl
theorem r_155_7 : sm_ic 155 7 = some (.iload 4, 0, 0, 0) := rfl
theorem r_155_9 : sm_ic 155 9 = some (.bipush 8, 0, 0, 0) := rfl
theorem r_155_11 : sm_ic 155 11 = some (.if_icmp .ge 33, 44, 0, 0) := rfl
theorem r_155_14 : sm_ic 155 14 = some (.iload_n 0, 0, 0, 0) := rfl
theorem r_155_15 : sm_ic 155 15 = some (.iload 4, 0, 0, 0) := rfl
theorem r_155_17 : sm_ic 155 17 = some (.invokestatic 138, 151, 2, 894) := rfl
theorem r_155_20 : sm_ic 155 20 = some (.ifCond .eq 18, 38, 0, 0) := rfl
theorem r_155_23 : sm_ic 155 23 = some (.iload_n 3, 0, 0, 0) := rfl
theorem r_155_24 : sm_ic 155 24 = some (.iload_n 1, 0, 0, 0) := rfl
theorem r_155_25 : sm_ic 155 25 = some (.if_icmp .ge 13, 38, 0, 0) := rfl
theorem r_155_28 : sm_ic 155 28 = some (.iload_n 2, 0, 0, 0) := rfl
theorem r_155_29 : sm_ic 155 29 = some (.iconst 1, 0, 0, 0) := rfl
theorem r_155_30 : sm_ic 155 30 = some (.iload 4, 0, 0, 0) := rfl
theorem r_155_32 : sm_ic 155 32 = some (.ishl, 0, 0, 0) := rfl
theorem r_155_33 : sm_ic 155 33 = some (.ior, 0, 0, 0) := rfl
theorem r_155_34 : sm_ic 155 34 = some (.istore_n 2, 0, 0, 0) := rfl
theorem r_155_35 : sm_ic 155 35 = some (.iinc 3 1, 0, 0, 0) := rfl
theorem r_155_38 : sm_ic 155 38 = some (.iinc 4 1, 0, 0, 0) := rfl
theorem r_155_41 : sm_ic 155 41 = some (.goto (-34), 7, 0, 0) := rfl
theorem r_155_44 : sm_ic 155 44 = some (.iload_n 2, 0, 0, 0) := rfl
theorem r_155_45 : sm_ic 155 45 = some (.ireturn, 0, 0, 0) := rfl
theorem r_156_0 : sm_ic 156 0 = some (.iload_n 1, 0, 0, 0) := rfl
theorem r_156_1 : sm_ic 156 1 = some (.invokestatic 164, 148, 1, 883) := rfl
theorem r_156_4 : sm_ic 156 4 = some (.ifCond .eq 11, 15, 0, 0) := rfl
theorem r_156_7 : sm_ic 156 7 = some (.aload_n 0, 0, 0, 0) := rfl
theorem r_156_8 : sm_ic 156 8 = some (.iload_n 2, 0, 0, 0) := rfl
theorem r_156_9 : sm_ic 156 9 = some (.invokevirtual 130, 144, 2, 866) := rfl
theorem r_156_12 : sm_ic 156 12 = some (.ifCond .ne 5, 17, 0, 0) := rfl
theorem r_156_15 : sm_ic 156 15 = some (.iconst (-1), 0, 0, 0) := rfl
theorem r_156_16 : sm_ic 156 16 = some (.ireturn, 0, 0, 0) := rfl
theorem r_156_17 : sm_ic 156 17 = some (.aload_n 0, 0, 0, 0) := rfl
theorem r_156_18 : sm_ic 156 18 = some (.iload_n 1, 0, 0, 0) := rfl
theorem r_156_19 : sm_ic 156 19 = some (.invokevirtual 155, 153, 2, 901) := rfl
theorem r_156_22 : sm_ic 156 22 = some (.iload_n 2, 0, 0, 0) := rfl
theorem r_156_23 : sm_ic 156 23 = some (.invokestatic 138, 151, 2, 894) := rfl
theorem r_156_26 : sm_ic 156 26 = some (.ifCond .eq 12, 38, 0, 0) := rfl
theorem r_156_29 : sm_ic 156 29 = some (.aload_n 0, 0, 0, 0) := rfl
theorem r_156_30 : sm_ic 156 30 = some (.getfield 55, 7, 20, 763) := rfl
theorem r_156_33 : sm_ic 156 33 = some (.iload_n 2, 0, 0, 0) := rfl
theorem r_156_34 : sm_ic 156 34 = some (.iaload, 0, 0, 0) := rfl
theorem r_156_35 : sm_ic 156 35 = some (.goto 5, 40, 0, 0) := rfl
theorem r_156_38 : sm_ic 156 38 = some (.bipush (-4), 0, 0, 0) := rfl
theorem r_156_40 : sm_ic 156 40 = some (.ireturn, 0, 0, 0) := rfl
theorem r_157_0 : sm_ic 157 0 = some (.iload_n 1, 0, 0, 0) := rfl
theorem r_157_1 : sm_ic 157 1 = some (.invokestatic 164, 148, 1, 883) := rfl
theorem r_157_4 : sm_ic 157 4 = some (.ifCond .ne 7, 11, 0, 0) := rfl
theorem r_157_7 : sm_ic 157 7 = some (.iconst (-1), 0, 0, 0) := rfl
theorem r_157_8 : sm_ic 157 8 = some (.goto 16, 24, 0, 0) := rfl
theorem r_157_11 : sm_ic 157 11 = some (.aload_n 0, 0, 0, 0) := rfl
theorem r_157_12 : sm_ic 157 12 = some (.iload_n 1, 0, 0, 0) := rfl
theorem r_157_13 : sm_ic 157 13 = some (.invokevirtual 167, 158, 2, 920) := rfl
theorem r_157_16 : sm_ic 157 16 = some (.ifCond .eq 7, 23, 0, 0) := rfl
theorem r_157_19 : sm_ic 157 19 = some (.iconst 1, 0, 0, 0) := rfl
theorem r_157_20 : sm_ic 157 20 = some (.goto 4, 24, 0, 0) := rfl
theorem r_157_23 : sm_ic 157 23 = some (.iconst 0, 0, 0, 0) := rfl
theorem r_157_24 : sm_ic 157 24 = some (.ireturn, 0, 0, 0) := rfl
theorem r_158_0 : sm_ic 158 0 = some (.aload_n 0, 0, 0, 0) := rfl
theorem r_158_1 : sm_ic 158 1 = some (.aload_n 0, 0, 0, 0) := rfl
theorem r_158_2 : sm_ic 158 2 = some (.iload_n 1, 0, 0, 0) := rfl
theorem r_158_3 : sm_ic 158 3 = some (.invokevirtual 155, 153, 2, 901) := rfl
theorem r_158_6 : sm_ic 158 6 = some (.invokestatic 158, 159, 1, 924) := rfl
theorem r_158_9 : sm_ic 158 9 = some (.invokevirtual 161, 160, 2, 927) := rfl
theorem r_158_12 : sm_ic 158 12 = some (.ireturn, 0, 0, 0) := rfl
theorem r_159_0 : sm_ic 159 0 = some (.iconst 0, 0, 0, 0) := rfl
theorem r_159_1 : sm_ic 159 1 = some (.istore_n 1, 0, 0, 0) := rfl
theorem r_159_2 : sm_ic 159 2 = some (.iconst 0, 0, 0, 0) := rfl
theorem r_159_3 : sm_ic 159 3 = some (.istore_n 2, 0, 0, 0) := rfl
theorem r_159_4 : sm_ic 159 4 = some (.iload_n 2, 0, 0, 0) := rfl
theorem r_159_5 : sm_ic 159 5 = some (.bipush 8, 0, 0, 0) := rfl
theorem r_159_7 : sm_ic 159 7 = some (.if_icmp .ge 17, 24, 0, 0) := rfl
theorem r_159_10 : sm_ic 159 10 = some (.iload_n 1, 0, 0, 0) := rfl
theorem r_159_11 : sm_ic 159 11 = some (.iload_n 0, 0, 0, 0) := rfl
theorem r_159_12 : sm_ic 159 12 = some (.iload_n 2, 0, 0, 0) := rfl
theorem r_159_13 : sm_ic 159 13 = some (.ishr, 0, 0, 0) := rfl
theorem r_159_14 : sm_ic 159 14 = some (.iconst 1, 0, 0, 0) := rfl
theorem r_159_15 : sm_ic 159 15 = some (.iand, 0, 0, 0) := rfl
theorem r_159_16 : sm_ic 159 16 = some (.iadd, 0, 0, 0) := rfl
theorem r_159_17 : sm_ic 159 17 = some (.istore_n 1, 0, 0, 0) := rfl
theorem r_159_18 : sm_ic 159 18 = some (.iinc 2 1, 0, 0, 0) := rfl
theorem r_159_21 : sm_ic 159 21 = some (.goto (-17), 4, 0, 0) := rfl
theorem r_159_24 : sm_ic 159 24 = some (.iload_n 1, 0, 0, 0) := rfl
theorem r_159_25 : sm_ic 159 25 = some (.ireturn, 0, 0, 0) := rfl
theorem r_160_0 : sm_ic 160 0 = some (.bipush 10, 0, 0, 0) := rfl
theorem r_160_2 : sm_ic 160 2 = some (.iload_n 1, 0, 0, 0) := rfl
theorem r_160_3 : sm_ic 160 3 = some (.imul, 0, 0, 0) := rfl
theorem r_160_4 : sm_ic 160 4 = some (.aload_n 0, 0, 0, 0) := rfl
theorem r_160_5 : sm_ic 160 5 = some (.getfield 34, 7, 9, 752) := rfl
theorem r_160_8 : sm_ic 160 8 = some (.iconst 2, 0, 0, 0) := rfl
theorem r_160_9 : sm_ic 160 9 = some (.iaload, 0, 0, 0) := rfl
theorem r_160_10 : sm_ic 160 10 = some (.aload_n 0, 0, 0, 0) := rfl
theorem r_160_11 : sm_ic 160 11 = some (.getfield 13, 7, 2, 745) := rfl
theorem r_160_14 : sm_ic 160 14 = some (.iconst 0, 0, 0, 0) := rfl
theorem r_160_15 : sm_ic 160 15 = some (.iaload, 0, 0, 0) := rfl
theorem r_160_16 : sm_ic 160 16 = some (.imul, 0, 0, 0) := rfl
theorem r_160_17 : sm_ic 160 17 = some (.if_icmp .lt 7, 24, 0, 0) := rfl
theorem r_160_20 : sm_ic 160 20 = some (.iconst 1, 0, 0, 0) := rfl
theorem r_160_21 : sm_ic 160 21 = some (.goto 4, 25, 0, 0) := rfl
theorem r_160_24 : sm_ic 160 24 = some (.iconst 0, 0, 0, 0) := rfl
theorem r_160_25 : sm_ic 160 25 = some (.ireturn, 0, 0, 0) := rfl
theorem r_161_0 : sm_ic 161 0 = some (.iload_n 1, 0, 0, 0) := rfl
theorem r_161_1 : sm_ic 161 1 = some (.invokestatic 164, 148, 1, 883) := rfl
theorem r_161_4 : sm_ic 161 4 = some (.ifCond .eq 13, 17, 0, 0) := rfl
theorem r_161_7 : sm_ic 161 7 = some (.iload_n 2, 0, 0, 0) := rfl
theorem r_161_8 : sm_ic 161 8 = some (.i2l, 0, 0, 0) := rfl
theorem r_161_9 : sm_ic 161 9 = some (.lconst 0, 0, 0, 0) := rfl
theorem r_161_10 : sm_ic 161 10 = some (.lconst 1, 0, 0, 0) := rfl
theorem r_161_11 : sm_ic 161 11 = some (.invokestatic 79, 133, 3, 819) := rfl
theorem r_161_14 : sm_ic 161 14 = some (.ifCond .ne 5, 19, 0, 0) := rfl
theorem r_161_17 : sm_ic 161 17 = some (.iconst (-1), 0, 0, 0) := rfl
theorem r_161_18 : sm_ic 161 18 = some (.ireturn, 0, 0, 0) := rfl
theorem r_161_19 : sm_ic 161 19 = some (.aload_n 0, 0, 0, 0) := rfl
theorem r_161_20 : sm_ic 161 20 = some (.aload_n 0, 0, 0, 0) := rfl
theorem r_161_21 : sm_ic 161 21 = some (.iload_n 1, 0, 0, 0) := rfl
theorem r_161_22 : sm_ic 161 22 = some (.invokevirtual 155, 153, 2, 901) := rfl
theorem r_161_25 : sm_ic 161 25 = some (.invokevirtual 170, 162, 2, 935) := rfl
theorem r_161_28 : sm_ic 161 28 = some (.istore_n 3, 0, 0, 0) := rfl
theorem r_161_29 : sm_ic 161 29 = some (.iload_n 2, 0, 0, 0) := rfl
theorem r_161_30 : sm_ic 161 30 = some (.ifCond .ne 7, 37, 0, 0) := rfl
theorem r_161_33 : sm_ic 161 33 = some (.iload_n 3, 0, 0, 0) := rfl
theorem r_161_34 : sm_ic 161 34 = some (.goto 18, 52, 0, 0) := rfl
theorem r_161_37 : sm_ic 161 37 = some (.iload_n 3, 0, 0, 0) := rfl
theorem r_161_38 : sm_ic 161 38 = some (.aload_n 0, 0, 0, 0) := rfl
theorem r_161_39 : sm_ic 161 39 = some (.getfield 34, 7, 9, 752) := rfl
theorem r_161_42 : sm_ic 161 42 = some (.iconst 1, 0, 0, 0) := rfl
theorem r_161_43 : sm_ic 161 43 = some (.iaload, 0, 0, 0) := rfl
theorem r_161_44 : sm_ic 161 44 = some (.if_icmp .lt 7, 51, 0, 0) := rfl
theorem r_161_47 : sm_ic 161 47 = some (.iconst 1, 0, 0, 0) := rfl
theorem r_161_48 : sm_ic 161 48 = some (.goto 4, 52, 0, 0) := rfl
theorem r_161_51 : sm_ic 161 51 = some (.iconst 0, 0, 0, 0) := rfl
theorem r_161_52 : sm_ic 161 52 = some (.ireturn, 0, 0, 0) := rfl
theorem r_162_0 : sm_ic 162 0 = some (.iconst 0, 0, 0, 0) := rfl
theorem r_162_1 : sm_ic 162 1 = some (.istore_n 2, 0, 0, 0) := rfl
theorem r_162_2 : sm_ic 162 2 = some (.iconst 0, 0, 0, 0) := rfl
theorem r_162_3 : sm_ic 162 3 = some (.istore_n 3, 0, 0, 0) := rfl
theorem r_162_4 : sm_ic 162 4 = some (.iload_n 3, 0, 0, 0) := rfl
theorem r_162_5 : sm_ic 162 5 = some (.aload_n 0, 0, 0, 0) := rfl
theorem r_162_6 : sm_ic 162 6 = some (.getfield 13, 7, 2, 745) := rfl
theorem r_162_9 : sm_ic 162 9 = some (.iconst 0, 0, 0, 0) := rfl
theorem r_162_10 : sm_ic 162 10 = some (.iaload, 0, 0, 0) := rfl
theorem r_162_11 : sm_ic 162 11 = some (.if_icmp .ge 30, 41, 0, 0) := rfl
theorem r_162_14 : sm_ic 162 14 = some (.iload_n 2, 0, 0, 0) := rfl
theorem r_162_15 : sm_ic 162 15 = some (.iload_n 1, 0, 0, 0) := rfl
theorem r_162_16 : sm_ic 162 16 = some (.iload_n 3, 0, 0, 0) := rfl
theorem r_162_17 : sm_ic 162 17 = some (.invokestatic 138, 151, 2, 894) := rfl
theorem r_162_20 : sm_ic 162 20 = some (.ifCond .eq 7, 27, 0, 0) := rfl
theorem r_162_23 : sm_ic 162 23 = some (.iconst 0, 0, 0, 0) := rfl
theorem r_162_24 : sm_ic 162 24 = some (.goto 9, 33, 0, 0) := rfl
theorem r_162_27 : sm_ic 162 27 = some (.aload_n 0, 0, 0, 0) := rfl
theorem r_162_28 : sm_ic 162 28 = some (.getfield 25, 7, 6, 749) := rfl
theorem r_162_31 : sm_ic 162 31 = some (.iload_n 3, 0, 0, 0) := rfl
theorem r_162_32 : sm_ic 162 32 = some (.iaload, 0, 0, 0) := rfl
theorem r_162_33 : sm_ic 162 33 = some (.iadd, 0, 0, 0) := rfl
theorem r_162_34 : sm_ic 162 34 = some (.istore_n 2, 0, 0, 0) := rfl
theorem r_162_35 : sm_ic 162 35 = some (.iinc 3 1, 0, 0, 0) := rfl
theorem r_162_38 : sm_ic 162 38 = some (.goto (-34), 4, 0, 0) := rfl
theorem r_162_41 : sm_ic 162 41 = some (.iload_n 2, 0, 0, 0) := rfl
theorem r_162_42 : sm_ic 162 42 = some (.ireturn, 0, 0, 0) := rfl
theorem r_163_0 : sm_ic 163 0 = some (.aload_n 0, 0, 0, 0) := rfl
theorem r_163_1 : sm_ic 163 1 = some (.iload_n 1, 0, 0, 0) := rfl
theorem r_163_2 : sm_ic 163 2 = some (.invokevirtual 130, 144, 2, 866) := rfl
theorem r_163_5 : sm_ic 163 5 = some (.ifCond .eq 24, 29, 0, 0) := rfl
theorem r_163_8 : sm_ic 163 8 = some (.iload_n 2, 0, 0, 0) := rfl
theorem r_163_9 : sm_ic 163 9 = some (.i2l, 0, 0, 0) := rfl
theorem r_163_10 : sm_ic 163 10 = some (.lconst 0, 0, 0, 0) := rfl
theorem r_163_11 : sm_ic 163 11 = some (.ldc2_w 133, 3, 0, 870) := rfl
theorem r_163_14 : sm_ic 163 14 = some (.invokestatic 79, 133, 3, 819) := rfl
theorem r_163_17 : sm_ic 163 17 = some (.ifCond .eq 12, 29, 0, 0) := rfl
theorem r_163_20 : sm_ic 163 20 = some (.aload_n 0, 0, 0, 0) := rfl
theorem r_163_21 : sm_ic 163 21 = some (.iload_n 1, 0, 0, 0) := rfl
theorem r_163_22 : sm_ic 163 22 = some (.iload_n 2, 0, 0, 0) := rfl
theorem r_163_23 : sm_ic 163 23 = some (.invokevirtual 176, 164, 3, 943) := rfl
theorem r_163_26 : sm_ic 163 26 = some (.goto 4, 30, 0, 0) := rfl
theorem r_163_29 : sm_ic 163 29 = some (.iconst (-1), 0, 0, 0) := rfl
theorem r_163_30 : sm_ic 163 30 = some (.ireturn, 0, 0, 0) := rfl
theorem r_164_0 : sm_ic 164 0 = some (.aload_n 0, 0, 0, 0) := rfl
theorem r_164_1 : sm_ic 164 1 = some (.invokevirtual 173, 165, 1, 947) := rfl
theorem r_164_4 : sm_ic 164 4 = some (.aload_n 0, 0, 0, 0) := rfl
theorem r_164_5 : sm_ic 164 5 = some (.getfield 37, 7, 10, 753) := rfl
theorem r_164_8 : sm_ic 164 8 = some (.iload_n 1, 0, 0, 0) := rfl
theorem r_164_9 : sm_ic 164 9 = some (.iaload, 0, 0, 0) := rfl
theorem r_164_10 : sm_ic 164 10 = some (.istore_n 3, 0, 0, 0) := rfl
theorem r_164_11 : sm_ic 164 11 = some (.aload_n 0, 0, 0, 0) := rfl
theorem r_164_12 : sm_ic 164 12 = some (.getfield 37, 7, 10, 753) := rfl
theorem r_164_15 : sm_ic 164 15 = some (.iload_n 1, 0, 0, 0) := rfl
theorem r_164_16 : sm_ic 164 16 = some (.iload_n 2, 0, 0, 0) := rfl
theorem r_164_17 : sm_ic 164 17 = some (.iastore, 0, 0, 0) := rfl
theorem r_164_18 : sm_ic 164 18 = some (.iload_n 3, 0, 0, 0) := rfl
theorem r_164_19 : sm_ic 164 19 = some (.ireturn, 0, 0, 0) := rfl
theorem r_165_0 : sm_ic 165 0 = some (.aload_n 0, 0, 0, 0) := rfl
theorem r_165_1 : sm_ic 165 1 = some (.getfield 121, 7, 12, 755) := rfl
theorem r_165_4 : sm_ic 165 4 = some (.bipush 8, 0, 0, 0) := rfl
theorem r_165_6 : sm_ic 165 6 = some (.if_icmp .ne 43, 49, 0, 0) := rfl
theorem r_165_9 : sm_ic 165 9 = some (.iconst 0, 0, 0, 0) := rfl
theorem r_165_10 : sm_ic 165 10 = some (.istore_n 1, 0, 0, 0) := rfl
theorem r_165_11 : sm_ic 165 11 = some (.iload_n 1, 0, 0, 0) := rfl
theorem r_165_12 : sm_ic 165 12 = some (.sipush 168, 0, 0, 0) := rfl
theorem r_165_15 : sm_ic 165 15 = some (.if_icmp .ge 24, 39, 0, 0) := rfl
theorem r_165_18 : sm_ic 165 18 = some (.aload_n 0, 0, 0, 0) := rfl
theorem r_165_19 : sm_ic 165 19 = some (.getfield 40, 7, 11, 754) := rfl
theorem r_165_22 : sm_ic 165 22 = some (.iload_n 1, 0, 0, 0) := rfl
theorem r_165_23 : sm_ic 165 23 = some (.aload_n 0, 0, 0, 0) := rfl
theorem r_165_24 : sm_ic 165 24 = some (.getfield 40, 7, 11, 754) := rfl
theorem r_165_27 : sm_ic 165 27 = some (.bipush 24, 0, 0, 0) := rfl
theorem r_165_29 : sm_ic 165 29 = some (.iload_n 1, 0, 0, 0) := rfl
theorem r_165_30 : sm_ic 165 30 = some (.iadd, 0, 0, 0) := rfl
theorem r_165_31 : sm_ic 165 31 = some (.iaload, 0, 0, 0) := rfl
theorem r_165_32 : sm_ic 165 32 = some (.iastore, 0, 0, 0) := rfl
theorem r_165_33 : sm_ic 165 33 = some (.iinc 1 1, 0, 0, 0) := rfl
theorem r_165_36 : sm_ic 165 36 = some (.goto (-25), 11, 0, 0) := rfl
theorem r_165_39 : sm_ic 165 39 = some (.aload_n 0, 0, 0, 0) := rfl
theorem r_165_40 : sm_ic 165 40 = some (.dup, 0, 0, 0) := rfl
theorem r_165_41 : sm_ic 165 41 = some (.getfield 121, 7, 12, 755) := rfl
theorem r_165_44 : sm_ic 165 44 = some (.iconst 1, 0, 0, 0) := rfl
theorem r_165_45 : sm_ic 165 45 = some (.isub, 0, 0, 0) := rfl
theorem r_165_46 : sm_ic 165 46 = some (.putfield 121, 7, 12, 755) := rfl
theorem r_165_49 : sm_ic 165 49 = some (.iconst 0, 0, 0, 0) := rfl
theorem r_165_50 : sm_ic 165 50 = some (.istore_n 1, 0, 0, 0) := rfl
theorem r_165_51 : sm_ic 165 51 = some (.iload_n 1, 0, 0, 0) := rfl
theorem r_165_52 : sm_ic 165 52 = some (.bipush 24, 0, 0, 0) := rfl
theorem r_165_54 : sm_ic 165 54 = some (.if_icmp .ge 29, 83, 0, 0) := rfl
theorem r_165_57 : sm_ic 165 57 = some (.aload_n 0, 0, 0, 0) := rfl
theorem r_165_58 : sm_ic 165 58 = some (.getfield 40, 7, 11, 754) := rfl
theorem r_165_61 : sm_ic 165 61 = some (.bipush 24, 0, 0, 0) := rfl
theorem r_165_63 : sm_ic 165 63 = some (.aload_n 0, 0, 0, 0) := rfl
theorem r_165_64 : sm_ic 165 64 = some (.getfield 121, 7, 12, 755) := rfl
theorem r_165_67 : sm_ic 165 67 = some (.imul, 0, 0, 0) := rfl
theorem r_165_68 : sm_ic 165 68 = some (.iload_n 1, 0, 0, 0) := rfl
theorem r_165_69 : sm_ic 165 69 = some (.iadd, 0, 0, 0) := rfl
theorem r_165_70 : sm_ic 165 70 = some (.aload_n 0, 0, 0, 0) := rfl
theorem r_165_71 : sm_ic 165 71 = some (.getfield 37, 7, 10, 753) := rfl
theorem r_165_74 : sm_ic 165 74 = some (.iload_n 1, 0, 0, 0) := rfl
theorem r_165_75 : sm_ic 165 75 = some (.iaload, 0, 0, 0) := rfl
theorem r_165_76 : sm_ic 165 76 = some (.iastore, 0, 0, 0) := rfl
theorem r_165_77 : sm_ic 165 77 = some (.iinc 1 1, 0, 0, 0) := rfl
theorem r_165_80 : sm_ic 165 80 = some (.goto (-29), 51, 0, 0) := rfl
theorem r_165_83 : sm_ic 165 83 = some (.aload_n 0, 0, 0, 0) := rfl
theorem r_165_84 : sm_ic 165 84 = some (.dup, 0, 0, 0) := rfl
theorem r_165_85 : sm_ic 165 85 = some (.getfield 121, 7, 12, 755) := rfl
theorem r_165_88 : sm_ic 165 88 = some (.iconst 1, 0, 0, 0) := rfl
theorem r_165_89 : sm_ic 165 89 = some (.iadd, 0, 0, 0) := rfl
theorem r_165_90 : sm_ic 165 90 = some (.putfield 121, 7, 12, 755) := rfl
theorem r_165_93 : sm_ic 165 93 = some (.return_, 0, 0, 0) := rfl
theorem r_166_0 : sm_ic 166 0 = some (.aload_n 0, 0, 0, 0) := rfl
theorem r_166_1 : sm_ic 166 1 = some (.iload_n 1, 0, 0, 0) := rfl
theorem r_166_2 : sm_ic 166 2 = some (.invokevirtual 130, 144, 2, 866) := rfl
theorem r_166_5 : sm_ic 166 5 = some (.ifCond .eq 23, 28, 0, 0) := rfl
theorem r_166_8 : sm_ic 166 8 = some (.aload_n 0, 0, 0, 0) := rfl
theorem r_166_9 : sm_ic 166 9 = some (.iload_n 2, 0, 0, 0) := rfl
theorem r_166_10 : sm_ic 166 10 = some (.invokevirtual 130, 144, 2, 866) := rfl
theorem r_166_13 : sm_ic 166 13 = some (.ifCond .eq 15, 28, 0, 0) := rfl
theorem r_166_16 : sm_ic 166 16 = some (.aload_n 0, 0, 0, 0) := rfl
theorem r_166_17 : sm_ic 166 17 = some (.bipush 8, 0, 0, 0) := rfl
theorem r_166_19 : sm_ic 166 19 = some (.iload_n 1, 0, 0, 0) := rfl
theorem r_166_20 : sm_ic 166 20 = some (.iadd, 0, 0, 0) := rfl
theorem r_166_21 : sm_ic 166 21 = some (.iload_n 2, 0, 0, 0) := rfl
theorem r_166_22 : sm_ic 166 22 = some (.invokevirtual 176, 164, 3, 943) := rfl
theorem r_166_25 : sm_ic 166 25 = some (.goto 4, 29, 0, 0) := rfl
theorem r_166_28 : sm_ic 166 28 = some (.iconst (-1), 0, 0, 0) := rfl
theorem r_166_29 : sm_ic 166 29 = some (.ireturn, 0, 0, 0) := rfl
theorem r_167_0 : sm_ic 167 0 = some (.aload_n 0, 0, 0, 0) := rfl
theorem r_167_1 : sm_ic 167 1 = some (.iload_n 1, 0, 0, 0) := rfl
theorem r_167_2 : sm_ic 167 2 = some (.invokevirtual 135, 146, 2, 875) := rfl
theorem r_167_5 : sm_ic 167 5 = some (.ifCond .eq 27, 32, 0, 0) := rfl
theorem r_167_8 : sm_ic 167 8 = some (.iconst 1, 0, 0, 0) := rfl
theorem r_167_9 : sm_ic 167 9 = some (.aload_n 0, 0, 0, 0) := rfl
theorem r_167_10 : sm_ic 167 10 = some (.bipush 16, 0, 0, 0) := rfl
theorem r_167_12 : sm_ic 167 12 = some (.iload_n 1, 0, 0, 0) := rfl
theorem r_167_13 : sm_ic 167 13 = some (.iadd, 0, 0, 0) := rfl
theorem r_167_14 : sm_ic 167 14 = some (.iconst 1, 0, 0, 0) := rfl
theorem r_167_15 : sm_ic 167 15 = some (.aload_n 0, 0, 0, 0) := rfl
theorem r_167_16 : sm_ic 167 16 = some (.getfield 37, 7, 10, 753) := rfl
theorem r_167_19 : sm_ic 167 19 = some (.bipush 16, 0, 0, 0) := rfl
theorem r_167_21 : sm_ic 167 21 = some (.iload_n 1, 0, 0, 0) := rfl
theorem r_167_22 : sm_ic 167 22 = some (.iadd, 0, 0, 0) := rfl
theorem r_167_23 : sm_ic 167 23 = some (.iaload, 0, 0, 0) := rfl
theorem r_167_24 : sm_ic 167 24 = some (.isub, 0, 0, 0) := rfl
theorem r_167_25 : sm_ic 167 25 = some (.invokevirtual 176, 164, 3, 943) := rfl
theorem r_167_28 : sm_ic 167 28 = some (.isub, 0, 0, 0) := rfl
theorem r_167_29 : sm_ic 167 29 = some (.goto 4, 33, 0, 0) := rfl
theorem r_167_32 : sm_ic 167 32 = some (.iconst (-1), 0, 0, 0) := rfl
theorem r_167_33 : sm_ic 167 33 = some (.ireturn, 0, 0, 0) := rfl
theorem r_168_0 : sm_ic 168 0 = some (.iload_n 1, 0, 0, 0) := rfl
theorem r_168_1 : sm_ic 168 1 = some (.i2l, 0, 0, 0) := rfl
theorem r_168_2 : sm_ic 168 2 = some (.lconst 0, 0, 0, 0) := rfl
theorem r_168_3 : sm_ic 168 3 = some (.lconst 1, 0, 0, 0) := rfl
theorem r_168_4 : sm_ic 168 4 = some (.invokestatic 79, 133, 3, 819) := rfl
theorem r_168_7 : sm_ic 168 7 = some (.ifCond .eq 27, 34, 0, 0) := rfl
theorem r_168_10 : sm_ic 168 10 = some (.iconst 1, 0, 0, 0) := rfl
theorem r_168_11 : sm_ic 168 11 = some (.aload_n 0, 0, 0, 0) := rfl
theorem r_168_12 : sm_ic 168 12 = some (.bipush 21, 0, 0, 0) := rfl
theorem r_168_14 : sm_ic 168 14 = some (.iload_n 1, 0, 0, 0) := rfl
theorem r_168_15 : sm_ic 168 15 = some (.iadd, 0, 0, 0) := rfl
theorem r_168_16 : sm_ic 168 16 = some (.iconst 1, 0, 0, 0) := rfl
theorem r_168_17 : sm_ic 168 17 = some (.aload_n 0, 0, 0, 0) := rfl
theorem r_168_18 : sm_ic 168 18 = some (.getfield 37, 7, 10, 753) := rfl
theorem r_168_21 : sm_ic 168 21 = some (.bipush 21, 0, 0, 0) := rfl
theorem r_168_23 : sm_ic 168 23 = some (.iload_n 1, 0, 0, 0) := rfl
theorem r_168_24 : sm_ic 168 24 = some (.iadd, 0, 0, 0) := rfl
theorem r_168_25 : sm_ic 168 25 = some (.iaload, 0, 0, 0) := rfl
theorem r_168_26 : sm_ic 168 26 = some (.isub, 0, 0, 0) := rfl
theorem r_168_27 : sm_ic 168 27 = some (.invokevirtual 176, 164, 3, 943) := rfl
theorem r_168_30 : sm_ic 168 30 = some (.isub, 0, 0, 0) := rfl
theorem r_168_31 : sm_ic 168 31 = some (.goto 4, 35, 0, 0) := rfl
theorem r_168_34 : sm_ic 168 34 = some (.iconst (-1), 0, 0, 0) := rfl
theorem r_168_35 : sm_ic 168 35 = some (.ireturn, 0, 0, 0) := rfl
theorem r_169_0 : sm_ic 169 0 = some (.aload_n 0, 0, 0, 0) := rfl
theorem r_169_1 : sm_ic 169 1 = some (.getfield 121, 7, 12, 755) := rfl
theorem r_169_4 : sm_ic 169 4 = some (.ifCond .ne 6, 10, 0, 0) := rfl
theorem r_169_7 : sm_ic 169 7 = some (.bipush (-2), 0, 0, 0) := rfl
theorem r_169_9 : sm_ic 169 9 = some (.ireturn, 0, 0, 0) := rfl
theorem r_169_10 : sm_ic 169 10 = some (.aload_n 0, 0, 0, 0) := rfl
theorem r_169_11 : sm_ic 169 11 = some (.dup, 0, 0, 0) := rfl
theorem r_169_12 : sm_ic 169 12 = some (.getfield 121, 7, 12, 755) := rfl
theorem r_169_15 : sm_ic 169 15 = some (.iconst 1, 0, 0, 0) := rfl
theorem r_169_16 : sm_ic 169 16 = some (.isub, 0, 0, 0) := rfl
theorem r_169_17 : sm_ic 169 17 = some (.putfield 121, 7, 12, 755) := rfl
theorem r_169_20 : sm_ic 169 20 = some (.iconst 0, 0, 0, 0) := rfl
theorem r_169_21 : sm_ic 169 21 = some (.istore_n 1, 0, 0, 0) := rfl
theorem r_169_22 : sm_ic 169 22 = some (.iload_n 1, 0, 0, 0) := rfl
theorem r_169_23 : sm_ic 169 23 = some (.bipush 24, 0, 0, 0) := rfl
theorem r_169_25 : sm_ic 169 25 = some (.if_icmp .ge 29, 54, 0, 0) := rfl
theorem r_169_28 : sm_ic 169 28 = some (.aload_n 0, 0, 0, 0) := rfl
theorem r_169_29 : sm_ic 169 29 = some (.getfield 37, 7, 10, 753) := rfl
theorem r_169_32 : sm_ic 169 32 = some (.iload_n 1, 0, 0, 0) := rfl
theorem r_169_33 : sm_ic 169 33 = some (.aload_n 0, 0, 0, 0) := rfl
theorem r_169_34 : sm_ic 169 34 = some (.getfield 40, 7, 11, 754) := rfl
theorem r_169_37 : sm_ic 169 37 = some (.bipush 24, 0, 0, 0) := rfl
theorem r_169_39 : sm_ic 169 39 = some (.aload_n 0, 0, 0, 0) := rfl
theorem r_169_40 : sm_ic 169 40 = some (.getfield 121, 7, 12, 755) := rfl
theorem r_169_43 : sm_ic 169 43 = some (.imul, 0, 0, 0) := rfl
theorem r_169_44 : sm_ic 169 44 = some (.iload_n 1, 0, 0, 0) := rfl
theorem r_169_45 : sm_ic 169 45 = some (.iadd, 0, 0, 0) := rfl
theorem r_169_46 : sm_ic 169 46 = some (.iaload, 0, 0, 0) := rfl
theorem r_169_47 : sm_ic 169 47 = some (.iastore, 0, 0, 0) := rfl
theorem r_169_48 : sm_ic 169 48 = some (.iinc 1 1, 0, 0, 0) := rfl
theorem r_169_51 : sm_ic 169 51 = some (.goto (-29), 22, 0, 0) := rfl
theorem r_169_54 : sm_ic 169 54 = some (.aload_n 0, 0, 0, 0) := rfl
theorem r_169_55 : sm_ic 169 55 = some (.getfield 121, 7, 12, 755) := rfl
theorem r_169_58 : sm_ic 169 58 = some (.ireturn, 0, 0, 0) := rfl
theorem r_170_0 : sm_ic 170 0 = some (.iload_n 1, 0, 0, 0) := rfl
theorem r_170_1 : sm_ic 170 1 = some (.invokestatic 164, 148, 1, 883) := rfl
theorem r_170_4 : sm_ic 170 4 = some (.ifCond .ne 5, 9, 0, 0) := rfl
theorem r_170_7 : sm_ic 170 7 = some (.iconst (-1), 0, 0, 0) := rfl
theorem r_170_8 : sm_ic 170 8 = some (.ireturn, 0, 0, 0) := rfl
theorem r_170_9 : sm_ic 170 9 = some (.iconst 0, 0, 0, 0) := rfl
theorem r_170_10 : sm_ic 170 10 = some (.istore_n 2, 0, 0, 0) := rfl
theorem r_170_11 : sm_ic 170 11 = some (.iconst 0, 0, 0, 0) := rfl
theorem r_170_12 : sm_ic 170 12 = some (.istore_n 3, 0, 0, 0) := rfl
theorem r_170_13 : sm_ic 170 13 = some (.iload_n 3, 0, 0, 0) := rfl
theorem r_170_14 : sm_ic 170 14 = some (.aload_n 0, 0, 0, 0) := rfl
theorem r_170_15 : sm_ic 170 15 = some (.getfield 13, 7, 2, 745) := rfl
theorem r_170_18 : sm_ic 170 18 = some (.iconst 0, 0, 0, 0) := rfl
theorem r_170_19 : sm_ic 170 19 = some (.iaload, 0, 0, 0) := rfl
theorem r_170_20 : sm_ic 170 20 = some (.if_icmp .ge 35, 55, 0, 0) := rfl
theorem r_170_23 : sm_ic 170 23 = some (.iload_n 2, 0, 0, 0) := rfl
theorem r_170_24 : sm_ic 170 24 = some (.aload_n 0, 0, 0, 0) := rfl
theorem r_170_25 : sm_ic 170 25 = some (.iload_n 1, 0, 0, 0) := rfl
theorem r_170_26 : sm_ic 170 26 = some (.iconst 1, 0, 0, 0) := rfl
theorem r_170_27 : sm_ic 170 27 = some (.iload_n 3, 0, 0, 0) := rfl
theorem r_170_28 : sm_ic 170 28 = some (.ishl, 0, 0, 0) := rfl
theorem r_170_29 : sm_ic 170 29 = some (.invokevirtual 179, 171, 3, 971) := rfl
theorem r_170_32 : sm_ic 170 32 = some (.aload_n 0, 0, 0, 0) := rfl
theorem r_170_33 : sm_ic 170 33 = some (.iload_n 1, 0, 0, 0) := rfl
theorem r_170_34 : sm_ic 170 34 = some (.invokevirtual 167, 158, 2, 920) := rfl
theorem r_170_37 : sm_ic 170 37 = some (.if_icmp .eq 9, 46, 0, 0) := rfl
theorem r_170_40 : sm_ic 170 40 = some (.iconst 1, 0, 0, 0) := rfl
theorem r_170_41 : sm_ic 170 41 = some (.iload_n 3, 0, 0, 0) := rfl
theorem r_170_42 : sm_ic 170 42 = some (.ishl, 0, 0, 0) := rfl
theorem r_170_43 : sm_ic 170 43 = some (.goto 4, 47, 0, 0) := rfl
theorem r_170_46 : sm_ic 170 46 = some (.iconst 0, 0, 0, 0) := rfl
theorem r_170_47 : sm_ic 170 47 = some (.ior, 0, 0, 0) := rfl
theorem r_170_48 : sm_ic 170 48 = some (.istore_n 2, 0, 0, 0) := rfl
theorem r_170_49 : sm_ic 170 49 = some (.iinc 3 1, 0, 0, 0) := rfl
theorem r_170_52 : sm_ic 170 52 = some (.goto (-39), 13, 0, 0) := rfl
theorem r_170_55 : sm_ic 170 55 = some (.iload_n 2, 0, 0, 0) := rfl
theorem r_170_56 : sm_ic 170 56 = some (.ireturn, 0, 0, 0) := rfl
theorem r_171_0 : sm_ic 171 0 = some (.iconst 0, 0, 0, 0) := rfl
theorem r_171_1 : sm_ic 171 1 = some (.istore_n 3, 0, 0, 0) := rfl
theorem r_171_2 : sm_ic 171 2 = some (.iload_n 3, 0, 0, 0) := rfl
theorem r_171_3 : sm_ic 171 3 = some (.aload_n 0, 0, 0, 0) := rfl
theorem r_171_4 : sm_ic 171 4 = some (.getfield 13, 7, 2, 745) := rfl
theorem r_171_7 : sm_ic 171 7 = some (.iconst 0, 0, 0, 0) := rfl
theorem r_171_8 : sm_ic 171 8 = some (.iaload, 0, 0, 0) := rfl
theorem r_171_9 : sm_ic 171 9 = some (.if_icmp .ge 33, 42, 0, 0) := rfl
theorem r_171_12 : sm_ic 171 12 = some (.aload_n 0, 0, 0, 0) := rfl
theorem r_171_13 : sm_ic 171 13 = some (.getfield 37, 7, 10, 753) := rfl
theorem r_171_16 : sm_ic 171 16 = some (.iload_n 3, 0, 0, 0) := rfl
theorem r_171_17 : sm_ic 171 17 = some (.dup2, 0, 0, 0) := rfl
theorem r_171_18 : sm_ic 171 18 = some (.iaload, 0, 0, 0) := rfl
theorem r_171_19 : sm_ic 171 19 = some (.iload_n 2, 0, 0, 0) := rfl
theorem r_171_20 : sm_ic 171 20 = some (.iload_n 3, 0, 0, 0) := rfl
theorem r_171_21 : sm_ic 171 21 = some (.invokestatic 138, 151, 2, 894) := rfl
theorem r_171_24 : sm_ic 171 24 = some (.ifCond .eq 9, 33, 0, 0) := rfl
theorem r_171_27 : sm_ic 171 27 = some (.iconst 1, 0, 0, 0) := rfl
theorem r_171_28 : sm_ic 171 28 = some (.iload_n 1, 0, 0, 0) := rfl
theorem r_171_29 : sm_ic 171 29 = some (.ishl, 0, 0, 0) := rfl
theorem r_171_30 : sm_ic 171 30 = some (.goto 4, 34, 0, 0) := rfl
theorem r_171_33 : sm_ic 171 33 = some (.iconst 0, 0, 0, 0) := rfl
theorem r_171_34 : sm_ic 171 34 = some (.ixor, 0, 0, 0) := rfl
theorem r_171_35 : sm_ic 171 35 = some (.iastore, 0, 0, 0) := rfl
theorem r_171_36 : sm_ic 171 36 = some (.iinc 3 1, 0, 0, 0) := rfl
theorem r_171_39 : sm_ic 171 39 = some (.goto (-37), 2, 0, 0) := rfl
theorem r_171_42 : sm_ic 171 42 = some (.aload_n 0, 0, 0, 0) := rfl
theorem r_171_43 : sm_ic 171 43 = some (.iload_n 1, 0, 0, 0) := rfl
theorem r_171_44 : sm_ic 171 44 = some (.invokevirtual 167, 158, 2, 920) := rfl
theorem r_171_47 : sm_ic 171 47 = some (.istore_n 3, 0, 0, 0) := rfl
theorem r_171_48 : sm_ic 171 48 = some (.iconst 0, 0, 0, 0) := rfl
theorem r_171_49 : sm_ic 171 49 = some (.istore 4, 0, 0, 0) := rfl
theorem r_171_51 : sm_ic 171 51 = some (.iload 4, 0, 0, 0) := rfl
theorem r_171_53 : sm_ic 171 53 = some (.aload_n 0, 0, 0, 0) := rfl
theorem r_171_54 : sm_ic 171 54 = some (.getfield 13, 7, 2, 745) := rfl
theorem r_171_57 : sm_ic 171 57 = some (.iconst 0, 0, 0, 0) := rfl
theorem r_171_58 : sm_ic 171 58 = some (.iaload, 0, 0, 0) := rfl
theorem r_171_59 : sm_ic 171 59 = some (.if_icmp .ge 35, 94, 0, 0) := rfl
theorem r_171_62 : sm_ic 171 62 = some (.aload_n 0, 0, 0, 0) := rfl
theorem r_171_63 : sm_ic 171 63 = some (.getfield 37, 7, 10, 753) := rfl
theorem r_171_66 : sm_ic 171 66 = some (.iload 4, 0, 0, 0) := rfl
theorem r_171_68 : sm_ic 171 68 = some (.dup2, 0, 0, 0) := rfl
theorem r_171_69 : sm_ic 171 69 = some (.iaload, 0, 0, 0) := rfl
theorem r_171_70 : sm_ic 171 70 = some (.iload_n 2, 0, 0, 0) := rfl
theorem r_171_71 : sm_ic 171 71 = some (.iload 4, 0, 0, 0) := rfl
theorem r_171_73 : sm_ic 171 73 = some (.invokestatic 138, 151, 2, 894) := rfl
theorem r_171_76 : sm_ic 171 76 = some (.ifCond .eq 9, 85, 0, 0) := rfl
theorem r_171_79 : sm_ic 171 79 = some (.iconst 1, 0, 0, 0) := rfl
theorem r_171_80 : sm_ic 171 80 = some (.iload_n 1, 0, 0, 0) := rfl
theorem r_171_81 : sm_ic 171 81 = some (.ishl, 0, 0, 0) := rfl
theorem r_171_82 : sm_ic 171 82 = some (.goto 4, 86, 0, 0) := rfl
theorem r_171_85 : sm_ic 171 85 = some (.iconst 0, 0, 0, 0) := rfl
theorem r_171_86 : sm_ic 171 86 = some (.ixor, 0, 0, 0) := rfl
theorem r_171_87 : sm_ic 171 87 = some (.iastore, 0, 0, 0) := rfl
theorem r_171_88 : sm_ic 171 88 = some (.iinc 4 1, 0, 0, 0) := rfl
theorem r_171_91 : sm_ic 171 91 = some (.goto (-40), 51, 0, 0) := rfl
theorem r_171_94 : sm_ic 171 94 = some (.iload_n 3, 0, 0, 0) := rfl
theorem r_171_95 : sm_ic 171 95 = some (.ireturn, 0, 0, 0) := rfl
theorem r_172_0 : sm_ic 172 0 = some (.iload_n 1, 0, 0, 0) := rfl
theorem r_172_1 : sm_ic 172 1 = some (.invokestatic 164, 148, 1, 883) := rfl
theorem r_172_4 : sm_ic 172 4 = some (.ifCond .ne 5, 9, 0, 0) := rfl
theorem r_172_7 : sm_ic 172 7 = some (.iconst (-1), 0, 0, 0) := rfl
theorem r_172_8 : sm_ic 172 8 = some (.ireturn, 0, 0, 0) := rfl
theorem r_172_9 : sm_ic 172 9 = some (.aload_n 0, 0, 0, 0) := rfl
theorem r_172_10 : sm_ic 172 10 = some (.iload_n 1, 0, 0, 0) := rfl
theorem r_172_11 : sm_ic 172 11 = some (.invokevirtual 167, 158, 2, 920) := rfl
theorem r_172_14 : sm_ic 172 14 = some (.istore_n 2, 0, 0, 0) := rfl
theorem r_172_15 : sm_ic 172 15 = some (.bipush (-4), 0, 0, 0) := rfl
theorem r_172_17 : sm_ic 172 17 = some (.istore_n 3, 0, 0, 0) := rfl
theorem r_172_18 : sm_ic 172 18 = some (.iconst 1, 0, 0, 0) := rfl
theorem r_172_19 : sm_ic 172 19 = some (.istore 4, 0, 0, 0) := rfl
theorem r_172_21 : sm_ic 172 21 = some (.iload 4, 0, 0, 0) := rfl
theorem r_172_23 : sm_ic 172 23 = some (.iconst 1, 0, 0, 0) := rfl
theorem r_172_24 : sm_ic 172 24 = some (.aload_n 0, 0, 0, 0) := rfl
theorem r_172_25 : sm_ic 172 25 = some (.getfield 13, 7, 2, 745) := rfl
theorem r_172_28 : sm_ic 172 28 = some (.iconst 0, 0, 0, 0) := rfl
theorem r_172_29 : sm_ic 172 29 = some (.iaload, 0, 0, 0) := rfl
theorem r_172_30 : sm_ic 172 30 = some (.ishl, 0, 0, 0) := rfl
theorem r_172_31 : sm_ic 172 31 = some (.if_icmp .ge 55, 86, 0, 0) := rfl
theorem r_172_34 : sm_ic 172 34 = some (.iload_n 3, 0, 0, 0) := rfl
theorem r_172_35 : sm_ic 172 35 = some (.ifCond .lt 15, 50, 0, 0) := rfl
theorem r_172_38 : sm_ic 172 38 = some (.iload 4, 0, 0, 0) := rfl
theorem r_172_40 : sm_ic 172 40 = some (.invokestatic 158, 159, 1, 924) := rfl
theorem r_172_43 : sm_ic 172 43 = some (.iload_n 3, 0, 0, 0) := rfl
theorem r_172_44 : sm_ic 172 44 = some (.invokestatic 158, 159, 1, 924) := rfl
theorem r_172_47 : sm_ic 172 47 = some (.if_icmp .ge 7, 54, 0, 0) := rfl
theorem r_172_50 : sm_ic 172 50 = some (.iconst 1, 0, 0, 0) := rfl
theorem r_172_51 : sm_ic 172 51 = some (.goto 4, 55, 0, 0) := rfl
theorem r_172_54 : sm_ic 172 54 = some (.iconst 0, 0, 0, 0) := rfl
theorem r_172_55 : sm_ic 172 55 = some (.istore 5, 0, 0, 0) := rfl
theorem r_172_57 : sm_ic 172 57 = some (.iload 5, 0, 0, 0) := rfl
theorem r_172_59 : sm_ic 172 59 = some (.ifCond .eq 19, 78, 0, 0) := rfl
theorem r_172_62 : sm_ic 172 62 = some (.aload_n 0, 0, 0, 0) := rfl
theorem r_172_63 : sm_ic 172 63 = some (.iload_n 1, 0, 0, 0) := rfl
theorem r_172_64 : sm_ic 172 64 = some (.iload 4, 0, 0, 0) := rfl
theorem r_172_66 : sm_ic 172 66 = some (.invokevirtual 179, 171, 3, 971) := rfl
theorem r_172_69 : sm_ic 172 69 = some (.iload_n 2, 0, 0, 0) := rfl
theorem r_172_70 : sm_ic 172 70 = some (.if_icmp .eq 8, 78, 0, 0) := rfl
theorem r_172_73 : sm_ic 172 73 = some (.iload 4, 0, 0, 0) := rfl
theorem r_172_75 : sm_ic 172 75 = some (.goto 4, 79, 0, 0) := rfl
theorem r_172_78 : sm_ic 172 78 = some (.iload_n 3, 0, 0, 0) := rfl
theorem r_172_79 : sm_ic 172 79 = some (.istore_n 3, 0, 0, 0) := rfl
theorem r_172_80 : sm_ic 172 80 = some (.iinc 4 1, 0, 0, 0) := rfl
theorem r_172_83 : sm_ic 172 83 = some (.goto (-62), 21, 0, 0) := rfl
theorem r_172_86 : sm_ic 172 86 = some (.iload_n 3, 0, 0, 0) := rfl
theorem r_172_87 : sm_ic 172 87 = some (.ireturn, 0, 0, 0) := rfl
theorem r_173_0 : sm_ic 173 0 = some (.aload_n 0, 0, 0, 0) := rfl
theorem r_173_1 : sm_ic 173 1 = some (.getfield 37, 7, 10, 753) := rfl
theorem r_173_4 : sm_ic 173 4 = some (.bipush 22, 0, 0, 0) := rfl
theorem r_173_6 : sm_ic 173 6 = some (.iaload, 0, 0, 0) := rfl
theorem r_173_7 : sm_ic 173 7 = some (.iconst 1, 0, 0, 0) := rfl
theorem r_173_8 : sm_ic 173 8 = some (.if_icmp .ne 7, 15, 0, 0) := rfl
theorem r_173_11 : sm_ic 173 11 = some (.iconst 1, 0, 0, 0) := rfl
theorem r_173_12 : sm_ic 173 12 = some (.goto 4, 16, 0, 0) := rfl
theorem r_173_15 : sm_ic 173 15 = some (.iconst 0, 0, 0, 0) := rfl
theorem r_173_16 : sm_ic 173 16 = some (.istore_n 1, 0, 0, 0) := rfl
theorem r_173_17 : sm_ic 173 17 = some (.iconst 0, 0, 0, 0) := rfl
theorem r_173_18 : sm_ic 173 18 = some (.istore_n 2, 0, 0, 0) := rfl
theorem r_173_19 : sm_ic 173 19 = some (.iconst 0, 0, 0, 0) := rfl
theorem r_173_20 : sm_ic 173 20 = some (.istore_n 3, 0, 0, 0) := rfl
theorem r_173_21 : sm_ic 173 21 = some (.iconst 0, 0, 0, 0) := rfl
theorem r_173_22 : sm_ic 173 22 = some (.istore 4, 0, 0, 0) := rfl
theorem r_173_24 : sm_ic 173 24 = some (.iload 4, 0, 0, 0) := rfl
theorem r_173_26 : sm_ic 173 26 = some (.aload_n 0, 0, 0, 0) := rfl
theorem r_173_27 : sm_ic 173 27 = some (.getfield 28, 7, 7, 750) := rfl
theorem r_173_30 : sm_ic 173 30 = some (.iconst 0, 0, 0, 0) := rfl
theorem r_173_31 : sm_ic 173 31 = some (.iaload, 0, 0, 0) := rfl
theorem r_173_32 : sm_ic 173 32 = some (.if_icmp .ge 36, 68, 0, 0) := rfl
theorem r_173_35 : sm_ic 173 35 = some (.iload_n 2, 0, 0, 0) := rfl
theorem r_173_36 : sm_ic 173 36 = some (.aload_n 0, 0, 0, 0) := rfl
theorem r_173_37 : sm_ic 173 37 = some (.getfield 37, 7, 10, 753) := rfl
theorem r_173_40 : sm_ic 173 40 = some (.bipush 16, 0, 0, 0) := rfl
theorem r_173_42 : sm_ic 173 42 = some (.iload 4, 0, 0, 0) := rfl
theorem r_173_44 : sm_ic 173 44 = some (.iadd, 0, 0, 0) := rfl
theorem r_173_45 : sm_ic 173 45 = some (.iaload, 0, 0, 0) := rfl
theorem r_173_46 : sm_ic 173 46 = some (.ifCond .ne 13, 59, 0, 0) := rfl
theorem r_173_49 : sm_ic 173 49 = some (.aload_n 0, 0, 0, 0) := rfl
theorem r_173_50 : sm_ic 173 50 = some (.getfield 31, 7, 8, 751) := rfl
theorem r_173_53 : sm_ic 173 53 = some (.iload 4, 0, 0, 0) := rfl
theorem r_173_55 : sm_ic 173 55 = some (.iaload, 0, 0, 0) := rfl
theorem r_173_56 : sm_ic 173 56 = some (.goto 4, 60, 0, 0) := rfl
theorem r_173_59 : sm_ic 173 59 = some (.iconst 0, 0, 0, 0) := rfl
theorem r_173_60 : sm_ic 173 60 = some (.iadd, 0, 0, 0) := rfl
theorem r_173_61 : sm_ic 173 61 = some (.istore_n 2, 0, 0, 0) := rfl
theorem r_173_62 : sm_ic 173 62 = some (.iinc 4 1, 0, 0, 0) := rfl
theorem r_173_65 : sm_ic 173 65 = some (.goto (-41), 24, 0, 0) := rfl
theorem r_173_68 : sm_ic 173 68 = some (.iconst 0, 0, 0, 0) := rfl
theorem r_173_69 : sm_ic 173 69 = some (.istore 4, 0, 0, 0) := rfl
theorem r_173_71 : sm_ic 173 71 = some (.iload 4, 0, 0, 0) := rfl
theorem r_173_73 : sm_ic 173 73 = some (.aload_n 0, 0, 0, 0) := rfl
theorem r_173_74 : sm_ic 173 74 = some (.getfield 13, 7, 2, 745) := rfl
theorem r_173_77 : sm_ic 173 77 = some (.iconst 0, 0, 0, 0) := rfl
theorem r_173_78 : sm_ic 173 78 = some (.iaload, 0, 0, 0) := rfl
theorem r_173_79 : sm_ic 173 79 = some (.if_icmp .ge 35, 114, 0, 0) := rfl
theorem r_173_82 : sm_ic 173 82 = some (.iload_n 3, 0, 0, 0) := rfl
theorem r_173_83 : sm_ic 173 83 = some (.aload_n 0, 0, 0, 0) := rfl
theorem r_173_84 : sm_ic 173 84 = some (.getfield 16, 7, 3, 746) := rfl
theorem r_173_87 : sm_ic 173 87 = some (.iload 4, 0, 0, 0) := rfl
theorem r_173_89 : sm_ic 173 89 = some (.iaload, 0, 0, 0) := rfl
theorem r_173_90 : sm_ic 173 90 = some (.iconst 3, 0, 0, 0) := rfl
theorem r_173_91 : sm_ic 173 91 = some (.if_icmp .ne 14, 105, 0, 0) := rfl
theorem r_173_94 : sm_ic 173 94 = some (.iload_n 1, 0, 0, 0) := rfl
theorem r_173_95 : sm_ic 173 95 = some (.ifCond .ne 10, 105, 0, 0) := rfl
theorem r_173_98 : sm_ic 173 98 = some (.iconst 1, 0, 0, 0) := rfl
theorem r_173_99 : sm_ic 173 99 = some (.iload 4, 0, 0, 0) := rfl
theorem r_173_101 : sm_ic 173 101 = some (.ishl, 0, 0, 0) := rfl
theorem r_173_102 : sm_ic 173 102 = some (.goto 4, 106, 0, 0) := rfl
theorem r_173_105 : sm_ic 173 105 = some (.iconst 0, 0, 0, 0) := rfl
theorem r_173_106 : sm_ic 173 106 = some (.ior, 0, 0, 0) := rfl
theorem r_173_107 : sm_ic 173 107 = some (.istore_n 3, 0, 0, 0) := rfl
theorem r_173_108 : sm_ic 173 108 = some (.iinc 4 1, 0, 0, 0) := rfl
theorem r_173_111 : sm_ic 173 111 = some (.goto (-40), 71, 0, 0) := rfl
theorem r_173_114 : sm_ic 173 114 = some (.bipush (-4), 0, 0, 0) := rfl
theorem r_173_116 : sm_ic 173 116 = some (.istore 4, 0, 0, 0) := rfl
theorem r_173_118 : sm_ic 173 118 = some (.iconst 0, 0, 0, 0) := rfl
theorem r_173_119 : sm_ic 173 119 = some (.istore 5, 0, 0, 0) := rfl
theorem r_173_121 : sm_ic 173 121 = some (.iload 5, 0, 0, 0) := rfl
theorem r_173_123 : sm_ic 173 123 = some (.iconst 1, 0, 0, 0) := rfl
theorem r_173_124 : sm_ic 173 124 = some (.aload_n 0, 0, 0, 0) := rfl
theorem r_173_125 : sm_ic 173 125 = some (.getfield 13, 7, 2, 745) := rfl
theorem r_173_128 : sm_ic 173 128 = some (.iconst 0, 0, 0, 0) := rfl
theorem r_173_129 : sm_ic 173 129 = some (.iaload, 0, 0, 0) := rfl
theorem r_173_130 : sm_ic 173 130 = some (.ishl, 0, 0, 0) := rfl
theorem r_173_131 : sm_ic 173 131 = some (.if_icmp .ge 104, 235, 0, 0) := rfl
theorem r_173_134 : sm_ic 173 134 = some (.iload 5, 0, 0, 0) := rfl
theorem r_173_136 : sm_ic 173 136 = some (.invokestatic 158, 159, 1, 924) := rfl
theorem r_173_139 : sm_ic 173 139 = some (.istore 6, 0, 0, 0) := rfl
theorem r_173_141 : sm_ic 173 141 = some (.iload 5, 0, 0, 0) := rfl
theorem r_173_143 : sm_ic 173 143 = some (.iload_n 3, 0, 0, 0) := rfl
theorem r_173_144 : sm_ic 173 144 = some (.iand, 0, 0, 0) := rfl
theorem r_173_145 : sm_ic 173 145 = some (.ifCond .ne 52, 197, 0, 0) := rfl
theorem r_173_148 : sm_ic 173 148 = some (.iload 6, 0, 0, 0) := rfl
theorem r_173_150 : sm_ic 173 150 = some (.aload_n 0, 0, 0, 0) := rfl
theorem r_173_151 : sm_ic 173 151 = some (.getfield 34, 7, 9, 752) := rfl
theorem r_173_154 : sm_ic 173 154 = some (.iconst 0, 0, 0, 0) := rfl
theorem r_173_155 : sm_ic 173 155 = some (.iaload, 0, 0, 0) := rfl
theorem r_173_156 : sm_ic 173 156 = some (.if_icmp .gt 41, 197, 0, 0) := rfl
theorem r_173_159 : sm_ic 173 159 = some (.iload_n 1, 0, 0, 0) := rfl
theorem r_173_160 : sm_ic 173 160 = some (.ifCond .ne 9, 169, 0, 0) := rfl
theorem r_173_163 : sm_ic 173 163 = some (.iload 6, 0, 0, 0) := rfl
theorem r_173_165 : sm_ic 173 165 = some (.iload_n 2, 0, 0, 0) := rfl
theorem r_173_166 : sm_ic 173 166 = some (.if_icmp .gt 31, 197, 0, 0) := rfl
theorem r_173_169 : sm_ic 173 169 = some (.aload_n 0, 0, 0, 0) := rfl
theorem r_173_170 : sm_ic 173 170 = some (.iload 6, 0, 0, 0) := rfl
theorem r_173_172 : sm_ic 173 172 = some (.invokevirtual 161, 160, 2, 927) := rfl
theorem r_173_175 : sm_ic 173 175 = some (.ifCond .eq 22, 197, 0, 0) := rfl
theorem r_173_178 : sm_ic 173 178 = some (.aload_n 0, 0, 0, 0) := rfl
theorem r_173_179 : sm_ic 173 179 = some (.iload 5, 0, 0, 0) := rfl
theorem r_173_181 : sm_ic 173 181 = some (.invokevirtual 170, 162, 2, 935) := rfl
theorem r_173_184 : sm_ic 173 184 = some (.aload_n 0, 0, 0, 0) := rfl
theorem r_173_185 : sm_ic 173 185 = some (.getfield 34, 7, 9, 752) := rfl
theorem r_173_188 : sm_ic 173 188 = some (.iconst 1, 0, 0, 0) := rfl
theorem r_173_189 : sm_ic 173 189 = some (.iaload, 0, 0, 0) := rfl
theorem r_173_190 : sm_ic 173 190 = some (.if_icmp .lt 7, 197, 0, 0) := rfl
theorem r_173_193 : sm_ic 173 193 = some (.iconst 1, 0, 0, 0) := rfl
theorem r_173_194 : sm_ic 173 194 = some (.goto 4, 198, 0, 0) := rfl
theorem r_173_197 : sm_ic 173 197 = some (.iconst 0, 0, 0, 0) := rfl
theorem r_173_198 : sm_ic 173 198 = some (.istore 7, 0, 0, 0) := rfl
theorem r_173_200 : sm_ic 173 200 = some (.iload 7, 0, 0, 0) := rfl
theorem r_173_202 : sm_ic 173 202 = some (.ifCond .eq 23, 225, 0, 0) := rfl
theorem r_173_205 : sm_ic 173 205 = some (.iload 4, 0, 0, 0) := rfl
theorem r_173_207 : sm_ic 173 207 = some (.ifCond .lt 13, 220, 0, 0) := rfl
theorem r_173_210 : sm_ic 173 210 = some (.iload 6, 0, 0, 0) := rfl
theorem r_173_212 : sm_ic 173 212 = some (.iload 4, 0, 0, 0) := rfl
theorem r_173_214 : sm_ic 173 214 = some (.invokestatic 158, 159, 1, 924) := rfl
theorem r_173_217 : sm_ic 173 217 = some (.if_icmp .ge 8, 225, 0, 0) := rfl
theorem r_173_220 : sm_ic 173 220 = some (.iload 5, 0, 0, 0) := rfl
theorem r_173_222 : sm_ic 173 222 = some (.goto 5, 227, 0, 0) := rfl
theorem r_173_225 : sm_ic 173 225 = some (.iload 4, 0, 0, 0) := rfl
theorem r_173_227 : sm_ic 173 227 = some (.istore 4, 0, 0, 0) := rfl
theorem r_173_229 : sm_ic 173 229 = some (.iinc 5 1, 0, 0, 0) := rfl
theorem r_173_232 : sm_ic 173 232 = some (.goto (-111), 121, 0, 0) := rfl
theorem r_173_235 : sm_ic 173 235 = some (.iload 4, 0, 0, 0) := rfl
theorem r_173_237 : sm_ic 173 237 = some (.ireturn, 0, 0, 0) := rfl
theorem r_174_0 : sm_ic 174 0 = some (.iload_n 1, 0, 0, 0) := rfl
theorem r_174_1 : sm_ic 174 1 = some (.invokestatic 164, 148, 1, 883) := rfl
theorem r_174_4 : sm_ic 174 4 = some (.ifCond .ne 5, 9, 0, 0) := rfl
theorem r_174_7 : sm_ic 174 7 = some (.iconst (-1), 0, 0, 0) := rfl
theorem r_174_8 : sm_ic 174 8 = some (.ireturn, 0, 0, 0) := rfl
theorem r_174_9 : sm_ic 174 9 = some (.aload_n 0, 0, 0, 0) := rfl
theorem r_174_10 : sm_ic 174 10 = some (.getfield 34, 7, 9, 752) := rfl
theorem r_174_13 : sm_ic 174 13 = some (.iconst 0, 0, 0, 0) := rfl
theorem r_174_14 : sm_ic 174 14 = some (.iaload, 0, 0, 0) := rfl
theorem r_174_15 : sm_ic 174 15 = some (.istore_n 2, 0, 0, 0) := rfl
theorem r_174_16 : sm_ic 174 16 = some (.bipush (-4), 0, 0, 0) := rfl
theorem r_174_18 : sm_ic 174 18 = some (.istore_n 3, 0, 0, 0) := rfl
theorem r_174_19 : sm_ic 174 19 = some (.iconst 0, 0, 0, 0) := rfl
theorem r_174_20 : sm_ic 174 20 = some (.istore 4, 0, 0, 0) := rfl
theorem r_174_22 : sm_ic 174 22 = some (.iload 4, 0, 0, 0) := rfl
theorem r_174_24 : sm_ic 174 24 = some (.bipush 10, 0, 0, 0) := rfl
theorem r_174_26 : sm_ic 174 26 = some (.if_icmp .ge 37, 63, 0, 0) := rfl
theorem r_174_29 : sm_ic 174 29 = some (.iload_n 3, 0, 0, 0) := rfl
theorem r_174_30 : sm_ic 174 30 = some (.ifCond .ge 33, 63, 0, 0) := rfl
theorem r_174_33 : sm_ic 174 33 = some (.aload_n 0, 0, 0, 0) := rfl
theorem r_174_34 : sm_ic 174 34 = some (.getfield 34, 7, 9, 752) := rfl
theorem r_174_37 : sm_ic 174 37 = some (.iconst 0, 0, 0, 0) := rfl
theorem r_174_38 : sm_ic 174 38 = some (.iload 4, 0, 0, 0) := rfl
theorem r_174_40 : sm_ic 174 40 = some (.iastore, 0, 0, 0) := rfl
theorem r_174_41 : sm_ic 174 41 = some (.aload_n 0, 0, 0, 0) := rfl
theorem r_174_42 : sm_ic 174 42 = some (.iload_n 1, 0, 0, 0) := rfl
theorem r_174_43 : sm_ic 174 43 = some (.invokevirtual 167, 158, 2, 920) := rfl
theorem r_174_46 : sm_ic 174 46 = some (.ifCond .eq 8, 54, 0, 0) := rfl
theorem r_174_49 : sm_ic 174 49 = some (.iload 4, 0, 0, 0) := rfl
theorem r_174_51 : sm_ic 174 51 = some (.goto 5, 56, 0, 0) := rfl
theorem r_174_54 : sm_ic 174 54 = some (.bipush (-4), 0, 0, 0) := rfl
theorem r_174_56 : sm_ic 174 56 = some (.istore_n 3, 0, 0, 0) := rfl
theorem r_174_57 : sm_ic 174 57 = some (.iinc 4 1, 0, 0, 0) := rfl
theorem r_174_60 : sm_ic 174 60 = some (.goto (-38), 22, 0, 0) := rfl
theorem r_174_63 : sm_ic 174 63 = some (.aload_n 0, 0, 0, 0) := rfl
theorem r_174_64 : sm_ic 174 64 = some (.getfield 34, 7, 9, 752) := rfl
theorem r_174_67 : sm_ic 174 67 = some (.iconst 0, 0, 0, 0) := rfl
theorem r_174_68 : sm_ic 174 68 = some (.iload_n 2, 0, 0, 0) := rfl
theorem r_174_69 : sm_ic 174 69 = some (.iastore, 0, 0, 0) := rfl
theorem r_174_70 : sm_ic 174 70 = some (.iload_n 3, 0, 0, 0) := rfl
theorem r_174_71 : sm_ic 174 71 = some (.ireturn, 0, 0, 0) := rfl
theorem r_175_0 : sm_ic 175 0 = some (.iload_n 1, 0, 0, 0) := rfl
theorem r_175_1 : sm_ic 175 1 = some (.invokestatic 164, 148, 1, 883) := rfl
theorem r_175_4 : sm_ic 175 4 = some (.ifCond .eq 13, 17, 0, 0) := rfl
theorem r_175_7 : sm_ic 175 7 = some (.iload_n 2, 0, 0, 0) := rfl
theorem r_175_8 : sm_ic 175 8 = some (.i2l, 0, 0, 0) := rfl
theorem r_175_9 : sm_ic 175 9 = some (.lconst 0, 0, 0, 0) := rfl
theorem r_175_10 : sm_ic 175 10 = some (.lconst 1, 0, 0, 0) := rfl
theorem r_175_11 : sm_ic 175 11 = some (.invokestatic 79, 133, 3, 819) := rfl
theorem r_175_14 : sm_ic 175 14 = some (.ifCond .ne 5, 19, 0, 0) := rfl
theorem r_175_17 : sm_ic 175 17 = some (.iconst (-1), 0, 0, 0) := rfl
theorem r_175_18 : sm_ic 175 18 = some (.ireturn, 0, 0, 0) := rfl
theorem r_175_19 : sm_ic 175 19 = some (.bipush (-4), 0, 0, 0) := rfl
theorem r_175_21 : sm_ic 175 21 = some (.istore_n 3, 0, 0, 0) := rfl
theorem r_175_22 : sm_ic 175 22 = some (.bipush (-4), 0, 0, 0) := rfl
theorem r_175_24 : sm_ic 175 24 = some (.istore 4, 0, 0, 0) := rfl
theorem r_175_26 : sm_ic 175 26 = some (.iconst 0, 0, 0, 0) := rfl
theorem r_175_27 : sm_ic 175 27 = some (.istore 5, 0, 0, 0) := rfl
theorem r_175_29 : sm_ic 175 29 = some (.iload 5, 0, 0, 0) := rfl
theorem r_175_31 : sm_ic 175 31 = some (.aload_n 0, 0, 0, 0) := rfl
theorem r_175_32 : sm_ic 175 32 = some (.getfield 28, 7, 7, 750) := rfl
theorem r_175_35 : sm_ic 175 35 = some (.iconst 0, 0, 0, 0) := rfl
theorem r_175_36 : sm_ic 175 36 = some (.iaload, 0, 0, 0) := rfl
theorem r_175_37 : sm_ic 175 37 = some (.if_icmp .ge 85, 122, 0, 0) := rfl
theorem r_175_40 : sm_ic 175 40 = some (.aload_n 0, 0, 0, 0) := rfl
theorem r_175_41 : sm_ic 175 41 = some (.getfield 37, 7, 10, 753) := rfl
theorem r_175_44 : sm_ic 175 44 = some (.bipush 16, 0, 0, 0) := rfl
theorem r_175_46 : sm_ic 175 46 = some (.iload 5, 0, 0, 0) := rfl
theorem r_175_48 : sm_ic 175 48 = some (.iadd, 0, 0, 0) := rfl
theorem r_175_49 : sm_ic 175 49 = some (.iaload, 0, 0, 0) := rfl
theorem r_175_50 : sm_ic 175 50 = some (.iconst 1, 0, 0, 0) := rfl
theorem r_175_51 : sm_ic 175 51 = some (.if_icmp .ne 65, 116, 0, 0) := rfl
theorem r_175_54 : sm_ic 175 54 = some (.aload_n 0, 0, 0, 0) := rfl
theorem r_175_55 : sm_ic 175 55 = some (.getfield 37, 7, 10, 753) := rfl
theorem r_175_58 : sm_ic 175 58 = some (.bipush 16, 0, 0, 0) := rfl
theorem r_175_60 : sm_ic 175 60 = some (.iload 5, 0, 0, 0) := rfl
theorem r_175_62 : sm_ic 175 62 = some (.iadd, 0, 0, 0) := rfl
theorem r_175_63 : sm_ic 175 63 = some (.iconst 0, 0, 0, 0) := rfl
theorem r_175_64 : sm_ic 175 64 = some (.iastore, 0, 0, 0) := rfl
theorem r_175_65 : sm_ic 175 65 = some (.aload_n 0, 0, 0, 0) := rfl
theorem r_175_66 : sm_ic 175 66 = some (.iload_n 1, 0, 0, 0) := rfl
theorem r_175_67 : sm_ic 175 67 = some (.invokevirtual 155, 153, 2, 901) := rfl
theorem r_175_70 : sm_ic 175 70 = some (.invokestatic 158, 159, 1, 924) := rfl
theorem r_175_73 : sm_ic 175 73 = some (.istore 6, 0, 0, 0) := rfl
theorem r_175_75 : sm_ic 175 75 = some (.aload_n 0, 0, 0, 0) := rfl
theorem r_175_76 : sm_ic 175 76 = some (.getfield 37, 7, 10, 753) := rfl
theorem r_175_79 : sm_ic 175 79 = some (.bipush 16, 0, 0, 0) := rfl
theorem r_175_81 : sm_ic 175 81 = some (.iload 5, 0, 0, 0) := rfl
theorem r_175_83 : sm_ic 175 83 = some (.iadd, 0, 0, 0) := rfl
theorem r_175_84 : sm_ic 175 84 = some (.iconst 1, 0, 0, 0) := rfl
theorem r_175_85 : sm_ic 175 85 = some (.iastore, 0, 0, 0) := rfl
theorem r_175_86 : sm_ic 175 86 = some (.iload 6, 0, 0, 0) := rfl
theorem r_175_88 : sm_ic 175 88 = some (.iload 4, 0, 0, 0) := rfl
theorem r_175_90 : sm_ic 175 90 = some (.if_icmp .le 8, 98, 0, 0) := rfl
theorem r_175_93 : sm_ic 175 93 = some (.iload 5, 0, 0, 0) := rfl
theorem r_175_95 : sm_ic 175 95 = some (.goto 4, 99, 0, 0) := rfl
theorem r_175_98 : sm_ic 175 98 = some (.iload_n 3, 0, 0, 0) := rfl
theorem r_175_99 : sm_ic 175 99 = some (.istore_n 3, 0, 0, 0) := rfl
theorem r_175_100 : sm_ic 175 100 = some (.iload 6, 0, 0, 0) := rfl
theorem r_175_102 : sm_ic 175 102 = some (.iload 4, 0, 0, 0) := rfl
theorem r_175_104 : sm_ic 175 104 = some (.if_icmp .le 8, 112, 0, 0) := rfl
theorem r_175_107 : sm_ic 175 107 = some (.iload 6, 0, 0, 0) := rfl
theorem r_175_109 : sm_ic 175 109 = some (.goto 5, 114, 0, 0) := rfl
theorem r_175_112 : sm_ic 175 112 = some (.iload 4, 0, 0, 0) := rfl
theorem r_175_114 : sm_ic 175 114 = some (.istore 4, 0, 0, 0) := rfl
theorem r_175_116 : sm_ic 175 116 = some (.iinc 5 1, 0, 0, 0) := rfl
theorem r_175_119 : sm_ic 175 119 = some (.goto (-90), 29, 0, 0) := rfl
theorem r_175_122 : sm_ic 175 122 = some (.iload_n 2, 0, 0, 0) := rfl
theorem r_175_123 : sm_ic 175 123 = some (.ifCond .ne 7, 130, 0, 0) := rfl
theorem r_175_126 : sm_ic 175 126 = some (.iload_n 3, 0, 0, 0) := rfl
theorem r_175_127 : sm_ic 175 127 = some (.goto 5, 132, 0, 0) := rfl
theorem r_175_130 : sm_ic 175 130 = some (.iload 4, 0, 0, 0) := rfl
theorem r_175_132 : sm_ic 175 132 = some (.ireturn, 0, 0, 0) := rfl
theorem r_176_0 : sm_ic 176 0 = some (.iload_n 1, 0, 0, 0) := rfl
theorem r_176_1 : sm_ic 176 1 = some (.invokestatic 164, 148, 1, 883) := rfl
theorem r_176_4 : sm_ic 176 4 = some (.ifCond .ne 5, 9, 0, 0) := rfl
theorem r_176_7 : sm_ic 176 7 = some (.iconst (-1), 0, 0, 0) := rfl
theorem r_176_8 : sm_ic 176 8 = some (.ireturn, 0, 0, 0) := rfl
theorem r_176_9 : sm_ic 176 9 = some (.aload_n 0, 0, 0, 0) := rfl
theorem r_176_10 : sm_ic 176 10 = some (.iconst 0, 0, 0, 0) := rfl
theorem r_176_11 : sm_ic 176 11 = some (.iconst 0, 0, 0, 0) := rfl
theorem r_176_12 : sm_ic 176 12 = some (.invokevirtual 145, 149, 3, 886) := rfl
theorem r_176_15 : sm_ic 176 15 = some (.istore_n 2, 0, 0, 0) := rfl
theorem r_176_16 : sm_ic 176 16 = some (.aload_n 0, 0, 0, 0) := rfl
theorem r_176_17 : sm_ic 176 17 = some (.iconst 1, 0, 0, 0) := rfl
theorem r_176_18 : sm_ic 176 18 = some (.iconst 0, 0, 0, 0) := rfl
theorem r_176_19 : sm_ic 176 19 = some (.invokevirtual 145, 149, 3, 886) := rfl
theorem r_176_22 : sm_ic 176 22 = some (.iload_n 2, 0, 0, 0) := rfl
theorem r_176_23 : sm_ic 176 23 = some (.iconst (-1), 0, 0, 0) := rfl
theorem r_176_24 : sm_ic 176 24 = some (.ixor, 0, 0, 0) := rfl
theorem r_176_25 : sm_ic 176 25 = some (.iand, 0, 0, 0) := rfl
theorem r_176_26 : sm_ic 176 26 = some (.istore_n 3, 0, 0, 0) := rfl
theorem r_176_27 : sm_ic 176 27 = some (.aload_n 0, 0, 0, 0) := rfl
theorem r_176_28 : sm_ic 176 28 = some (.iload_n 2, 0, 0, 0) := rfl
theorem r_176_29 : sm_ic 176 29 = some (.iconst 0, 0, 0, 0) := rfl
theorem r_176_30 : sm_ic 176 30 = some (.invokevirtual 149, 154, 3, 905) := rfl
theorem r_176_33 : sm_ic 176 33 = some (.aload_n 0, 0, 0, 0) := rfl
theorem r_176_34 : sm_ic 176 34 = some (.getfield 34, 7, 9, 752) := rfl
theorem r_176_37 : sm_ic 176 37 = some (.iconst 0, 0, 0, 0) := rfl
theorem r_176_38 : sm_ic 176 38 = some (.iaload, 0, 0, 0) := rfl
theorem r_176_39 : sm_ic 176 39 = some (.invokestatic 152, 155, 2, 909) := rfl
theorem r_176_42 : sm_ic 176 42 = some (.invokestatic 158, 159, 1, 924) := rfl
theorem r_176_45 : sm_ic 176 45 = some (.istore 4, 0, 0, 0) := rfl
theorem r_176_47 : sm_ic 176 47 = some (.aload_n 0, 0, 0, 0) := rfl
theorem r_176_48 : sm_ic 176 48 = some (.iload_n 3, 0, 0, 0) := rfl
theorem r_176_49 : sm_ic 176 49 = some (.iconst 1, 0, 0, 0) := rfl
theorem r_176_50 : sm_ic 176 50 = some (.invokevirtual 149, 154, 3, 905) := rfl
theorem r_176_53 : sm_ic 176 53 = some (.aload_n 0, 0, 0, 0) := rfl
theorem r_176_54 : sm_ic 176 54 = some (.getfield 34, 7, 9, 752) := rfl
theorem r_176_57 : sm_ic 176 57 = some (.iconst 0, 0, 0, 0) := rfl
theorem r_176_58 : sm_ic 176 58 = some (.iaload, 0, 0, 0) := rfl
theorem r_176_59 : sm_ic 176 59 = some (.iload 4, 0, 0, 0) := rfl
theorem r_176_61 : sm_ic 176 61 = some (.isub, 0, 0, 0) := rfl
theorem r_176_62 : sm_ic 176 62 = some (.invokestatic 152, 155, 2, 909) := rfl
theorem r_176_65 : sm_ic 176 65 = some (.invokestatic 158, 159, 1, 924) := rfl
theorem r_176_68 : sm_ic 176 68 = some (.istore 5, 0, 0, 0) := rfl
theorem r_176_70 : sm_ic 176 70 = some (.iload_n 1, 0, 0, 0) := rfl
theorem r_176_71 : sm_ic 176 71 = some (.ifCond .ne 8, 79, 0, 0) := rfl
theorem r_176_74 : sm_ic 176 74 = some (.iload 4, 0, 0, 0) := rfl
theorem r_176_76 : sm_ic 176 76 = some (.goto 5, 81, 0, 0) := rfl
theorem r_176_79 : sm_ic 176 79 = some (.iload 5, 0, 0, 0) := rfl
theorem r_176_81 : sm_ic 176 81 = some (.ireturn, 0, 0, 0) := rfl
theorem r_177_0 : sm_ic 177 0 = some (.iload_n 1, 0, 0, 0) := rfl
theorem r_177_1 : sm_ic 177 1 = some (.invokestatic 164, 148, 1, 883) := rfl
theorem r_177_4 : sm_ic 177 4 = some (.ifCond .eq 15, 19, 0, 0) := rfl
theorem r_177_7 : sm_ic 177 7 = some (.iload_n 2, 0, 0, 0) := rfl
theorem r_177_8 : sm_ic 177 8 = some (.i2l, 0, 0, 0) := rfl
theorem r_177_9 : sm_ic 177 9 = some (.lconst 0, 0, 0, 0) := rfl
theorem r_177_10 : sm_ic 177 10 = some (.ldc2_w 108, 8, 0, 853) := rfl
theorem r_177_13 : sm_ic 177 13 = some (.invokestatic 79, 133, 3, 819) := rfl
theorem r_177_16 : sm_ic 177 16 = some (.ifCond .ne 5, 21, 0, 0) := rfl
theorem r_177_19 : sm_ic 177 19 = some (.iconst (-1), 0, 0, 0) := rfl
theorem r_177_20 : sm_ic 177 20 = some (.ireturn, 0, 0, 0) := rfl
theorem r_177_21 : sm_ic 177 21 = some (.aload_n 0, 0, 0, 0) := rfl
theorem r_177_22 : sm_ic 177 22 = some (.getfield 127, 7, 15, 758) := rfl
theorem r_177_25 : sm_ic 177 25 = some (.bipush 8, 0, 0, 0) := rfl
theorem r_177_27 : sm_ic 177 27 = some (.if_icmp .ne 6, 33, 0, 0) := rfl
theorem r_177_30 : sm_ic 177 30 = some (.bipush (-3), 0, 0, 0) := rfl
theorem r_177_32 : sm_ic 177 32 = some (.ireturn, 0, 0, 0) := rfl
theorem r_177_33 : sm_ic 177 33 = some (.aload_n 0, 0, 0, 0) := rfl
theorem r_177_34 : sm_ic 177 34 = some (.getfield 46, 7, 16, 759) := rfl
theorem r_177_37 : sm_ic 177 37 = some (.aload_n 0, 0, 0, 0) := rfl
theorem r_177_38 : sm_ic 177 38 = some (.getfield 127, 7, 15, 758) := rfl
theorem r_177_41 : sm_ic 177 41 = some (.iload_n 1, 0, 0, 0) := rfl
theorem r_177_42 : sm_ic 177 42 = some (.iastore, 0, 0, 0) := rfl
theorem r_177_43 : sm_ic 177 43 = some (.aload_n 0, 0, 0, 0) := rfl
theorem r_177_44 : sm_ic 177 44 = some (.getfield 49, 7, 17, 760) := rfl
theorem r_177_47 : sm_ic 177 47 = some (.aload_n 0, 0, 0, 0) := rfl
theorem r_177_48 : sm_ic 177 48 = some (.getfield 127, 7, 15, 758) := rfl
theorem r_177_51 : sm_ic 177 51 = some (.iload_n 2, 0, 0, 0) := rfl
theorem r_177_52 : sm_ic 177 52 = some (.iastore, 0, 0, 0) := rfl
theorem r_177_53 : sm_ic 177 53 = some (.aload_n 0, 0, 0, 0) := rfl
theorem r_177_54 : sm_ic 177 54 = some (.dup, 0, 0, 0) := rfl
theorem r_177_55 : sm_ic 177 55 = some (.getfield 127, 7, 15, 758) := rfl
theorem r_177_58 : sm_ic 177 58 = some (.iconst 1, 0, 0, 0) := rfl
theorem r_177_59 : sm_ic 177 59 = some (.iadd, 0, 0, 0) := rfl
theorem r_177_60 : sm_ic 177 60 = some (.putfield 127, 7, 15, 758) := rfl
theorem r_177_63 : sm_ic 177 63 = some (.aload_n 0, 0, 0, 0) := rfl
theorem r_177_64 : sm_ic 177 64 = some (.getfield 127, 7, 15, 758) := rfl
theorem r_177_67 : sm_ic 177 67 = some (.ireturn, 0, 0, 0) := rfl
theorem r_178_0 : sm_ic 178 0 = some (.aload_n 0, 0, 0, 0) := rfl
theorem r_178_1 : sm_ic 178 1 = some (.getfield 127, 7, 15, 758) := rfl
theorem r_178_4 : sm_ic 178 4 = some (.istore_n 1, 0, 0, 0) := rfl
theorem r_178_5 : sm_ic 178 5 = some (.aload_n 0, 0, 0, 0) := rfl
theorem r_178_6 : sm_ic 178 6 = some (.iconst 0, 0, 0, 0) := rfl
theorem r_178_7 : sm_ic 178 7 = some (.putfield 127, 7, 15, 758) := rfl
theorem r_178_10 : sm_ic 178 10 = some (.iload_n 1, 0, 0, 0) := rfl
theorem r_178_11 : sm_ic 178 11 = some (.ireturn, 0, 0, 0) := rfl
theorem r_179_0 : sm_ic 179 0 = some (.iload_n 1, 0, 0, 0) := rfl
theorem r_179_1 : sm_ic 179 1 = some (.i2l, 0, 0, 0) := rfl
theorem r_179_2 : sm_ic 179 2 = some (.lconst 0, 0, 0, 0) := rfl
theorem r_179_3 : sm_ic 179 3 = some (.lconst 1, 0, 0, 0) := rfl
theorem r_179_4 : sm_ic 179 4 = some (.invokestatic 79, 133, 3, 819) := rfl
theorem r_179_7 : sm_ic 179 7 = some (.ifCond .ne 5, 12, 0, 0) := rfl
theorem r_179_10 : sm_ic 179 10 = some (.iconst (-1), 0, 0, 0) := rfl
theorem r_179_11 : sm_ic 179 11 = some (.ireturn, 0, 0, 0) := rfl
theorem r_179_12 : sm_ic 179 12 = some (.iconst 0, 0, 0, 0) := rfl
theorem r_179_13 : sm_ic 179 13 = some (.istore_n 2, 0, 0, 0) := rfl
theorem r_179_14 : sm_ic 179 14 = some (.iload_n 2, 0, 0, 0) := rfl
theorem r_179_15 : sm_ic 179 15 = some (.iconst 5, 0, 0, 0) := rfl
theorem r_179_16 : sm_ic 179 16 = some (.if_icmp .ge 24, 40, 0, 0) := rfl
theorem r_179_19 : sm_ic 179 19 = some (.aload_n 0, 0, 0, 0) := rfl
theorem r_179_20 : sm_ic 179 20 = some (.getfield 61, 7, 22, 765) := rfl
theorem r_179_23 : sm_ic 179 23 = some (.iload_n 2, 0, 0, 0) := rfl
theorem r_179_24 : sm_ic 179 24 = some (.aload_n 0, 0, 0, 0) := rfl
theorem r_179_25 : sm_ic 179 25 = some (.getfield 37, 7, 10, 753) := rfl
theorem r_179_28 : sm_ic 179 28 = some (.bipush 16, 0, 0, 0) := rfl
theorem r_179_30 : sm_ic 179 30 = some (.iload_n 2, 0, 0, 0) := rfl
theorem r_179_31 : sm_ic 179 31 = some (.iadd, 0, 0, 0) := rfl
theorem r_179_32 : sm_ic 179 32 = some (.iaload, 0, 0, 0) := rfl
theorem r_179_33 : sm_ic 179 33 = some (.iastore, 0, 0, 0) := rfl
theorem r_179_34 : sm_ic 179 34 = some (.iinc 2 1, 0, 0, 0) := rfl
theorem r_179_37 : sm_ic 179 37 = some (.goto (-23), 14, 0, 0) := rfl
theorem r_179_40 : sm_ic 179 40 = some (.iconst 0, 0, 0, 0) := rfl
theorem r_179_41 : sm_ic 179 41 = some (.istore_n 2, 0, 0, 0) := rfl
theorem r_179_42 : sm_ic 179 42 = some (.bipush (-4), 0, 0, 0) := rfl
theorem r_179_44 : sm_ic 179 44 = some (.istore_n 3, 0, 0, 0) := rfl
theorem r_179_45 : sm_ic 179 45 = some (.iconst 0, 0, 0, 0) := rfl
theorem r_179_46 : sm_ic 179 46 = some (.istore 4, 0, 0, 0) := rfl
theorem r_179_48 : sm_ic 179 48 = some (.iload 4, 0, 0, 0) := rfl
theorem r_179_50 : sm_ic 179 50 = some (.iconst 1, 0, 0, 0) := rfl
theorem r_179_51 : sm_ic 179 51 = some (.aload_n 0, 0, 0, 0) := rfl
theorem r_179_52 : sm_ic 179 52 = some (.getfield 28, 7, 7, 750) := rfl
theorem r_179_55 : sm_ic 179 55 = some (.iconst 0, 0, 0, 0) := rfl
theorem r_179_56 : sm_ic 179 56 = some (.iaload, 0, 0, 0) := rfl
theorem r_179_57 : sm_ic 179 57 = some (.ishl, 0, 0, 0) := rfl
theorem r_179_58 : sm_ic 179 58 = some (.if_icmp .ge 132, 190, 0, 0) := rfl
theorem r_179_61 : sm_ic 179 61 = some (.iconst 0, 0, 0, 0) := rfl
theorem r_179_62 : sm_ic 179 62 = some (.istore 5, 0, 0, 0) := rfl
theorem r_179_64 : sm_ic 179 64 = some (.iload 5, 0, 0, 0) := rfl
theorem r_179_66 : sm_ic 179 66 = some (.aload_n 0, 0, 0, 0) := rfl
theorem r_179_67 : sm_ic 179 67 = some (.getfield 28, 7, 7, 750) := rfl
theorem r_179_70 : sm_ic 179 70 = some (.iconst 0, 0, 0, 0) := rfl
theorem r_179_71 : sm_ic 179 71 = some (.iaload, 0, 0, 0) := rfl
theorem r_179_72 : sm_ic 179 72 = some (.if_icmp .ge 26, 98, 0, 0) := rfl
theorem r_179_75 : sm_ic 179 75 = some (.aload_n 0, 0, 0, 0) := rfl
theorem r_179_76 : sm_ic 179 76 = some (.getfield 37, 7, 10, 753) := rfl
theorem r_179_79 : sm_ic 179 79 = some (.bipush 16, 0, 0, 0) := rfl
theorem r_179_81 : sm_ic 179 81 = some (.iload 5, 0, 0, 0) := rfl
theorem r_179_83 : sm_ic 179 83 = some (.iadd, 0, 0, 0) := rfl
theorem r_179_84 : sm_ic 179 84 = some (.iload 4, 0, 0, 0) := rfl
theorem r_179_86 : sm_ic 179 86 = some (.iload 5, 0, 0, 0) := rfl
theorem r_179_88 : sm_ic 179 88 = some (.ishr, 0, 0, 0) := rfl
theorem r_179_89 : sm_ic 179 89 = some (.iconst 1, 0, 0, 0) := rfl
theorem r_179_90 : sm_ic 179 90 = some (.iand, 0, 0, 0) := rfl
theorem r_179_91 : sm_ic 179 91 = some (.iastore, 0, 0, 0) := rfl
theorem r_179_92 : sm_ic 179 92 = some (.iinc 5 1, 0, 0, 0) := rfl
theorem r_179_95 : sm_ic 179 95 = some (.goto (-31), 64, 0, 0) := rfl
theorem r_179_98 : sm_ic 179 98 = some (.iconst 1, 0, 0, 0) := rfl
theorem r_179_99 : sm_ic 179 99 = some (.istore 5, 0, 0, 0) := rfl
theorem r_179_101 : sm_ic 179 101 = some (.iconst 0, 0, 0, 0) := rfl
theorem r_179_102 : sm_ic 179 102 = some (.istore 6, 0, 0, 0) := rfl
theorem r_179_104 : sm_ic 179 104 = some (.iload 6, 0, 0, 0) := rfl
theorem r_179_106 : sm_ic 179 106 = some (.aload_n 0, 0, 0, 0) := rfl
theorem r_179_107 : sm_ic 179 107 = some (.getfield 127, 7, 15, 758) := rfl
theorem r_179_110 : sm_ic 179 110 = some (.if_icmp .ge 45, 155, 0, 0) := rfl
theorem r_179_113 : sm_ic 179 113 = some (.iload 5, 0, 0, 0) := rfl
theorem r_179_115 : sm_ic 179 115 = some (.ifCond .eq 31, 146, 0, 0) := rfl
theorem r_179_118 : sm_ic 179 118 = some (.aload_n 0, 0, 0, 0) := rfl
theorem r_179_119 : sm_ic 179 119 = some (.aload_n 0, 0, 0, 0) := rfl
theorem r_179_120 : sm_ic 179 120 = some (.getfield 46, 7, 16, 759) := rfl
theorem r_179_123 : sm_ic 179 123 = some (.iload 6, 0, 0, 0) := rfl
theorem r_179_125 : sm_ic 179 125 = some (.iaload, 0, 0, 0) := rfl
theorem r_179_126 : sm_ic 179 126 = some (.invokevirtual 155, 153, 2, 901) := rfl
theorem r_179_129 : sm_ic 179 129 = some (.invokestatic 158, 159, 1, 924) := rfl
theorem r_179_132 : sm_ic 179 132 = some (.aload_n 0, 0, 0, 0) := rfl
theorem r_179_133 : sm_ic 179 133 = some (.getfield 49, 7, 17, 760) := rfl
theorem r_179_136 : sm_ic 179 136 = some (.iload 6, 0, 0, 0) := rfl
theorem r_179_138 : sm_ic 179 138 = some (.iaload, 0, 0, 0) := rfl
theorem r_179_139 : sm_ic 179 139 = some (.if_icmp .ne 7, 146, 0, 0) := rfl
theorem r_179_142 : sm_ic 179 142 = some (.iconst 1, 0, 0, 0) := rfl
theorem r_179_143 : sm_ic 179 143 = some (.goto 4, 147, 0, 0) := rfl
theorem r_179_146 : sm_ic 179 146 = some (.iconst 0, 0, 0, 0) := rfl
theorem r_179_147 : sm_ic 179 147 = some (.istore 5, 0, 0, 0) := rfl
theorem r_179_149 : sm_ic 179 149 = some (.iinc 6 1, 0, 0, 0) := rfl
theorem r_179_152 : sm_ic 179 152 = some (.goto (-48), 104, 0, 0) := rfl
theorem r_179_155 : sm_ic 179 155 = some (.iload 5, 0, 0, 0) := rfl
theorem r_179_157 : sm_ic 179 157 = some (.ifCond .eq 12, 169, 0, 0) := rfl
theorem r_179_160 : sm_ic 179 160 = some (.iload_n 2, 0, 0, 0) := rfl
theorem r_179_161 : sm_ic 179 161 = some (.ifCond .ne 8, 169, 0, 0) := rfl
theorem r_179_164 : sm_ic 179 164 = some (.iload 4, 0, 0, 0) := rfl
theorem r_179_166 : sm_ic 179 166 = some (.goto 4, 170, 0, 0) := rfl
theorem r_179_169 : sm_ic 179 169 = some (.iload_n 3, 0, 0, 0) := rfl
theorem r_179_170 : sm_ic 179 170 = some (.istore_n 3, 0, 0, 0) := rfl
theorem r_179_171 : sm_ic 179 171 = some (.iload_n 2, 0, 0, 0) := rfl
theorem r_179_172 : sm_ic 179 172 = some (.iload 5, 0, 0, 0) := rfl
theorem r_179_174 : sm_ic 179 174 = some (.ifCond .eq 7, 181, 0, 0) := rfl
theorem r_179_177 : sm_ic 179 177 = some (.iconst 1, 0, 0, 0) := rfl
theorem r_179_178 : sm_ic 179 178 = some (.goto 4, 182, 0, 0) := rfl
theorem r_179_181 : sm_ic 179 181 = some (.iconst 0, 0, 0, 0) := rfl
theorem r_179_182 : sm_ic 179 182 = some (.iadd, 0, 0, 0) := rfl
theorem r_179_183 : sm_ic 179 183 = some (.istore_n 2, 0, 0, 0) := rfl
theorem r_179_184 : sm_ic 179 184 = some (.iinc 4 1, 0, 0, 0) := rfl
theorem r_179_187 : sm_ic 179 187 = some (.goto (-139), 48, 0, 0) := rfl
theorem r_179_190 : sm_ic 179 190 = some (.iconst 0, 0, 0, 0) := rfl
theorem r_179_191 : sm_ic 179 191 = some (.istore 4, 0, 0, 0) := rfl
theorem r_179_193 : sm_ic 179 193 = some (.iload 4, 0, 0, 0) := rfl
theorem r_179_195 : sm_ic 179 195 = some (.iconst 5, 0, 0, 0) := rfl
theorem r_179_196 : sm_ic 179 196 = some (.if_icmp .ge 26, 222, 0, 0) := rfl
theorem r_179_199 : sm_ic 179 199 = some (.aload_n 0, 0, 0, 0) := rfl
theorem r_179_200 : sm_ic 179 200 = some (.getfield 37, 7, 10, 753) := rfl
theorem r_179_203 : sm_ic 179 203 = some (.bipush 16, 0, 0, 0) := rfl
theorem r_179_205 : sm_ic 179 205 = some (.iload 4, 0, 0, 0) := rfl
theorem r_179_207 : sm_ic 179 207 = some (.iadd, 0, 0, 0) := rfl
theorem r_179_208 : sm_ic 179 208 = some (.aload_n 0, 0, 0, 0) := rfl
theorem r_179_209 : sm_ic 179 209 = some (.getfield 61, 7, 22, 765) := rfl
theorem r_179_212 : sm_ic 179 212 = some (.iload 4, 0, 0, 0) := rfl
theorem r_179_214 : sm_ic 179 214 = some (.iaload, 0, 0, 0) := rfl
theorem r_179_215 : sm_ic 179 215 = some (.iastore, 0, 0, 0) := rfl
theorem r_179_216 : sm_ic 179 216 = some (.iinc 4 1, 0, 0, 0) := rfl
theorem r_179_219 : sm_ic 179 219 = some (.goto (-26), 193, 0, 0) := rfl
theorem r_179_222 : sm_ic 179 222 = some (.iload_n 1, 0, 0, 0) := rfl
theorem r_179_223 : sm_ic 179 223 = some (.ifCond .ne 7, 230, 0, 0) := rfl
theorem r_179_226 : sm_ic 179 226 = some (.iload_n 2, 0, 0, 0) := rfl
theorem r_179_227 : sm_ic 179 227 = some (.goto 4, 231, 0, 0) := rfl
theorem r_179_230 : sm_ic 179 230 = some (.iload_n 3, 0, 0, 0) := rfl
theorem r_179_231 : sm_ic 179 231 = some (.ireturn, 0, 0, 0) := rfl
theorem r_180_0 : sm_ic 180 0 = some (.iload_n 1, 0, 0, 0) := rfl
theorem r_180_1 : sm_ic 180 1 = some (.invokestatic 164, 148, 1, 883) := rfl
theorem r_180_4 : sm_ic 180 4 = some (.ifCond .eq 13, 17, 0, 0) := rfl
theorem r_180_7 : sm_ic 180 7 = some (.iload_n 2, 0, 0, 0) := rfl
theorem r_180_8 : sm_ic 180 8 = some (.i2l, 0, 0, 0) := rfl
theorem r_180_9 : sm_ic 180 9 = some (.lconst 0, 0, 0, 0) := rfl
theorem r_180_10 : sm_ic 180 10 = some (.lconst 1, 0, 0, 0) := rfl
theorem r_180_11 : sm_ic 180 11 = some (.invokestatic 79, 133, 3, 819) := rfl
theorem r_180_14 : sm_ic 180 14 = some (.ifCond .ne 5, 19, 0, 0) := rfl
theorem r_180_17 : sm_ic 180 17 = some (.iconst (-1), 0, 0, 0) := rfl
theorem r_180_18 : sm_ic 180 18 = some (.ireturn, 0, 0, 0) := rfl
theorem r_180_19 : sm_ic 180 19 = some (.iconst 0, 0, 0, 0) := rfl
theorem r_180_20 : sm_ic 180 20 = some (.istore_n 3, 0, 0, 0) := rfl
theorem r_180_21 : sm_ic 180 21 = some (.iconst 1, 0, 0, 0) := rfl
theorem r_180_22 : sm_ic 180 22 = some (.istore 4, 0, 0, 0) := rfl
theorem r_180_24 : sm_ic 180 24 = some (.iconst 0, 0, 0, 0) := rfl
theorem r_180_25 : sm_ic 180 25 = some (.istore 5, 0, 0, 0) := rfl
theorem r_180_27 : sm_ic 180 27 = some (.iload 5, 0, 0, 0) := rfl
theorem r_180_29 : sm_ic 180 29 = some (.aload_n 0, 0, 0, 0) := rfl
theorem r_180_30 : sm_ic 180 30 = some (.getfield 13, 7, 2, 745) := rfl
theorem r_180_33 : sm_ic 180 33 = some (.iconst 0, 0, 0, 0) := rfl
theorem r_180_34 : sm_ic 180 34 = some (.iaload, 0, 0, 0) := rfl
theorem r_180_35 : sm_ic 180 35 = some (.if_icmp .ge 45, 80, 0, 0) := rfl
theorem r_180_38 : sm_ic 180 38 = some (.aload_n 0, 0, 0, 0) := rfl
theorem r_180_39 : sm_ic 180 39 = some (.getfield 16, 7, 3, 746) := rfl
theorem r_180_42 : sm_ic 180 42 = some (.iload 5, 0, 0, 0) := rfl
theorem r_180_44 : sm_ic 180 44 = some (.iaload, 0, 0, 0) := rfl
theorem r_180_45 : sm_ic 180 45 = some (.iconst 1, 0, 0, 0) := rfl
theorem r_180_46 : sm_ic 180 46 = some (.if_icmp .ne 28, 74, 0, 0) := rfl
theorem r_180_49 : sm_ic 180 49 = some (.aload_n 0, 0, 0, 0) := rfl
theorem r_180_50 : sm_ic 180 50 = some (.iload_n 1, 0, 0, 0) := rfl
theorem r_180_51 : sm_ic 180 51 = some (.iload 5, 0, 0, 0) := rfl
theorem r_180_53 : sm_ic 180 53 = some (.iconst 0, 0, 0, 0) := rfl
theorem r_180_54 : sm_ic 180 54 = some (.invokevirtual 142, 150, 4, 890) := rfl
theorem r_180_57 : sm_ic 180 57 = some (.ifCond .eq 17, 74, 0, 0) := rfl
theorem r_180_60 : sm_ic 180 60 = some (.iload_n 3, 0, 0, 0) := rfl
theorem r_180_61 : sm_ic 180 61 = some (.iconst 1, 0, 0, 0) := rfl
theorem r_180_62 : sm_ic 180 62 = some (.iload 5, 0, 0, 0) := rfl
theorem r_180_64 : sm_ic 180 64 = some (.ishl, 0, 0, 0) := rfl
theorem r_180_65 : sm_ic 180 65 = some (.ior, 0, 0, 0) := rfl
theorem r_180_66 : sm_ic 180 66 = some (.istore_n 3, 0, 0, 0) := rfl
theorem r_180_67 : sm_ic 180 67 = some (.iload 4, 0, 0, 0) := rfl
theorem r_180_69 : sm_ic 180 69 = some (.bipush 10, 0, 0, 0) := rfl
theorem r_180_71 : sm_ic 180 71 = some (.imul, 0, 0, 0) := rfl
theorem r_180_72 : sm_ic 180 72 = some (.istore 4, 0, 0, 0) := rfl
theorem r_180_74 : sm_ic 180 74 = some (.iinc 5 1, 0, 0, 0) := rfl
theorem r_180_77 : sm_ic 180 77 = some (.goto (-50), 27, 0, 0) := rfl
theorem r_180_80 : sm_ic 180 80 = some (.iconst 0, 0, 0, 0) := rfl
theorem r_180_81 : sm_ic 180 81 = some (.istore 5, 0, 0, 0) := rfl
theorem r_180_83 : sm_ic 180 83 = some (.iconst 0, 0, 0, 0) := rfl
theorem r_180_84 : sm_ic 180 84 = some (.istore 6, 0, 0, 0) := rfl
theorem r_180_86 : sm_ic 180 86 = some (.iload 6, 0, 0, 0) := rfl
theorem r_180_88 : sm_ic 180 88 = some (.sipush 256, 0, 0, 0) := rfl
theorem r_180_91 : sm_ic 180 91 = some (.if_icmp .ge 129, 220, 0, 0) := rfl
theorem r_180_94 : sm_ic 180 94 = some (.iload 6, 0, 0, 0) := rfl
theorem r_180_96 : sm_ic 180 96 = some (.iload_n 3, 0, 0, 0) := rfl
theorem r_180_97 : sm_ic 180 97 = some (.iconst (-1), 0, 0, 0) := rfl
theorem r_180_98 : sm_ic 180 98 = some (.ixor, 0, 0, 0) := rfl
theorem r_180_99 : sm_ic 180 99 = some (.iand, 0, 0, 0) := rfl
theorem r_180_100 : sm_ic 180 100 = some (.ifCond .ne 114, 214, 0, 0) := rfl
theorem r_180_103 : sm_ic 180 103 = some (.iconst 1, 0, 0, 0) := rfl
theorem r_180_104 : sm_ic 180 104 = some (.istore 7, 0, 0, 0) := rfl
theorem r_180_106 : sm_ic 180 106 = some (.iconst 0, 0, 0, 0) := rfl
theorem r_180_107 : sm_ic 180 107 = some (.istore 8, 0, 0, 0) := rfl
theorem r_180_109 : sm_ic 180 109 = some (.iload 8, 0, 0, 0) := rfl
theorem r_180_111 : sm_ic 180 111 = some (.bipush 8, 0, 0, 0) := rfl
theorem r_180_113 : sm_ic 180 113 = some (.if_icmp .ge 55, 168, 0, 0) := rfl
theorem r_180_116 : sm_ic 180 116 = some (.iload 7, 0, 0, 0) := rfl
theorem r_180_118 : sm_ic 180 118 = some (.iload_n 3, 0, 0, 0) := rfl
theorem r_180_119 : sm_ic 180 119 = some (.iload 8, 0, 0, 0) := rfl
theorem r_180_121 : sm_ic 180 121 = some (.invokestatic 138, 151, 2, 894) := rfl
theorem r_180_124 : sm_ic 180 124 = some (.ifCond .ne 7, 131, 0, 0) := rfl
theorem r_180_127 : sm_ic 180 127 = some (.iconst 1, 0, 0, 0) := rfl
theorem r_180_128 : sm_ic 180 128 = some (.goto 31, 159, 0, 0) := rfl
theorem r_180_131 : sm_ic 180 131 = some (.iload 6, 0, 0, 0) := rfl
theorem r_180_133 : sm_ic 180 133 = some (.iload 8, 0, 0, 0) := rfl
theorem r_180_135 : sm_ic 180 135 = some (.invokestatic 138, 151, 2, 894) := rfl
theorem r_180_138 : sm_ic 180 138 = some (.ifCond .eq 12, 150, 0, 0) := rfl
theorem r_180_141 : sm_ic 180 141 = some (.aload_n 0, 0, 0, 0) := rfl
theorem r_180_142 : sm_ic 180 142 = some (.getfield 34, 7, 9, 752) := rfl
theorem r_180_145 : sm_ic 180 145 = some (.iconst 3, 0, 0, 0) := rfl
theorem r_180_146 : sm_ic 180 146 = some (.iaload, 0, 0, 0) := rfl
theorem r_180_147 : sm_ic 180 147 = some (.goto 12, 159, 0, 0) := rfl
theorem r_180_150 : sm_ic 180 150 = some (.bipush 10, 0, 0, 0) := rfl
theorem r_180_152 : sm_ic 180 152 = some (.aload_n 0, 0, 0, 0) := rfl
theorem r_180_153 : sm_ic 180 153 = some (.getfield 34, 7, 9, 752) := rfl
theorem r_180_156 : sm_ic 180 156 = some (.iconst 3, 0, 0, 0) := rfl
theorem r_180_157 : sm_ic 180 157 = some (.iaload, 0, 0, 0) := rfl
theorem r_180_158 : sm_ic 180 158 = some (.isub, 0, 0, 0) := rfl
theorem r_180_159 : sm_ic 180 159 = some (.imul, 0, 0, 0) := rfl
theorem r_180_160 : sm_ic 180 160 = some (.istore 7, 0, 0, 0) := rfl
theorem r_180_162 : sm_ic 180 162 = some (.iinc 8 1, 0, 0, 0) := rfl
theorem r_180_165 : sm_ic 180 165 = some (.goto (-56), 109, 0, 0) := rfl
theorem r_180_168 : sm_ic 180 168 = some (.aload_n 0, 0, 0, 0) := rfl
theorem r_180_169 : sm_ic 180 169 = some (.aload_n 0, 0, 0, 0) := rfl
theorem r_180_170 : sm_ic 180 170 = some (.iload_n 1, 0, 0, 0) := rfl
theorem r_180_171 : sm_ic 180 171 = some (.iload 6, 0, 0, 0) := rfl
theorem r_180_173 : sm_ic 180 173 = some (.invokevirtual 145, 149, 3, 886) := rfl
theorem r_180_176 : sm_ic 180 176 = some (.iconst (-1), 0, 0, 0) := rfl
theorem r_180_177 : sm_ic 180 177 = some (.invokevirtual 149, 154, 3, 905) := rfl
theorem r_180_180 : sm_ic 180 180 = some (.aload_n 0, 0, 0, 0) := rfl
theorem r_180_181 : sm_ic 180 181 = some (.getfield 34, 7, 9, 752) := rfl
theorem r_180_184 : sm_ic 180 184 = some (.iconst 0, 0, 0, 0) := rfl
theorem r_180_185 : sm_ic 180 185 = some (.iaload, 0, 0, 0) := rfl
theorem r_180_186 : sm_ic 180 186 = some (.invokestatic 152, 155, 2, 909) := rfl
theorem r_180_189 : sm_ic 180 189 = some (.istore 8, 0, 0, 0) := rfl
theorem r_180_191 : sm_ic 180 191 = some (.iload 5, 0, 0, 0) := rfl
theorem r_180_193 : sm_ic 180 193 = some (.aload_n 0, 0, 0, 0) := rfl
theorem r_180_194 : sm_ic 180 194 = some (.iload 8, 0, 0, 0) := rfl
theorem r_180_196 : sm_ic 180 196 = some (.invokestatic 158, 159, 1, 924) := rfl
theorem r_180_199 : sm_ic 180 199 = some (.invokevirtual 161, 160, 2, 927) := rfl
theorem r_180_202 : sm_ic 180 202 = some (.ifCond .eq 8, 210, 0, 0) := rfl
theorem r_180_205 : sm_ic 180 205 = some (.iload 7, 0, 0, 0) := rfl
theorem r_180_207 : sm_ic 180 207 = some (.goto 4, 211, 0, 0) := rfl
theorem r_180_210 : sm_ic 180 210 = some (.iconst 0, 0, 0, 0) := rfl
theorem r_180_211 : sm_ic 180 211 = some (.iadd, 0, 0, 0) := rfl
theorem r_180_212 : sm_ic 180 212 = some (.istore 5, 0, 0, 0) := rfl
theorem r_180_214 : sm_ic 180 214 = some (.iinc 6 1, 0, 0, 0) := rfl
theorem r_180_217 : sm_ic 180 217 = some (.goto (-131), 86, 0, 0) := rfl
theorem r_180_220 : sm_ic 180 220 = some (.iload 5, 0, 0, 0) := rfl
theorem r_180_222 : sm_ic 180 222 = some (.iload 4, 0, 0, 0) := rfl
theorem r_180_224 : sm_ic 180 224 = some (.invokestatic 182, 181, 2, 1011) := rfl
theorem r_180_227 : sm_ic 180 227 = some (.istore 6, 0, 0, 0) := rfl
theorem r_180_229 : sm_ic 180 229 = some (.iload_n 2, 0, 0, 0) := rfl
theorem r_180_230 : sm_ic 180 230 = some (.ifCond .ne 11, 241, 0, 0) := rfl
theorem r_180_233 : sm_ic 180 233 = some (.iload 5, 0, 0, 0) := rfl
theorem r_180_235 : sm_ic 180 235 = some (.iload 6, 0, 0, 0) := rfl
theorem r_180_237 : sm_ic 180 237 = some (.idiv, 0, 0, 0) := rfl
theorem r_180_238 : sm_ic 180 238 = some (.goto 8, 246, 0, 0) := rfl
theorem r_180_241 : sm_ic 180 241 = some (.iload 4, 0, 0, 0) := rfl
theorem r_180_243 : sm_ic 180 243 = some (.iload 6, 0, 0, 0) := rfl
theorem r_180_245 : sm_ic 180 245 = some (.idiv, 0, 0, 0) := rfl
theorem r_180_246 : sm_ic 180 246 = some (.ireturn, 0, 0, 0) := rfl
theorem r_181_0 : sm_ic 181 0 = some (.iload_n 0, 0, 0, 0) := rfl
theorem r_181_1 : sm_ic 181 1 = some (.istore_n 2, 0, 0, 0) := rfl
theorem r_181_2 : sm_ic 181 2 = some (.iload_n 1, 0, 0, 0) := rfl
theorem r_181_3 : sm_ic 181 3 = some (.istore_n 3, 0, 0, 0) := rfl
theorem r_181_4 : sm_ic 181 4 = some (.iload_n 3, 0, 0, 0) := rfl
theorem r_181_5 : sm_ic 181 5 = some (.ifCond .eq 16, 21, 0, 0) := rfl
theorem r_181_8 : sm_ic 181 8 = some (.iload_n 2, 0, 0, 0) := rfl
theorem r_181_9 : sm_ic 181 9 = some (.iload_n 3, 0, 0, 0) := rfl
theorem r_181_10 : sm_ic 181 10 = some (.irem, 0, 0, 0) := rfl
theorem r_181_11 : sm_ic 181 11 = some (.istore 4, 0, 0, 0) := rfl
theorem r_181_13 : sm_ic 181 13 = some (.iload_n 3, 0, 0, 0) := rfl
theorem r_181_14 : sm_ic 181 14 = some (.istore_n 2, 0, 0, 0) := rfl
theorem r_181_15 : sm_ic 181 15 = some (.iload 4, 0, 0, 0) := rfl
theorem r_181_17 : sm_ic 181 17 = some (.istore_n 3, 0, 0, 0) := rfl
theorem r_181_18 : sm_ic 181 18 = some (.goto (-14), 4, 0, 0) := rfl
theorem r_181_21 : sm_ic 181 21 = some (.iload_n 2, 0, 0, 0) := rfl
theorem r_181_22 : sm_ic 181 22 = some (.ireturn, 0, 0, 0) := rfl
theorem r_182_0 : sm_ic 182 0 = some (.iload_n 1, 0, 0, 0) := rfl
theorem r_182_1 : sm_ic 182 1 = some (.i2l, 0, 0, 0) := rfl
theorem r_182_2 : sm_ic 182 2 = some (.lconst 0, 0, 0, 0) := rfl
theorem r_182_3 : sm_ic 182 3 = some (.iconst 1, 0, 0, 0) := rfl
theorem r_182_4 : sm_ic 182 4 = some (.aload_n 0, 0, 0, 0) := rfl
theorem r_182_5 : sm_ic 182 5 = some (.getfield 13, 7, 2, 745) := rfl
theorem r_182_8 : sm_ic 182 8 = some (.iconst 0, 0, 0, 0) := rfl
theorem r_182_9 : sm_ic 182 9 = some (.iaload, 0, 0, 0) := rfl
theorem r_182_10 : sm_ic 182 10 = some (.ishl, 0, 0, 0) := rfl
theorem r_182_11 : sm_ic 182 11 = some (.iconst 1, 0, 0, 0) := rfl
theorem r_182_12 : sm_ic 182 12 = some (.isub, 0, 0, 0) := rfl
theorem r_182_13 : sm_ic 182 13 = some (.i2l, 0, 0, 0) := rfl
theorem r_182_14 : sm_ic 182 14 = some (.invokestatic 79, 133, 3, 819) := rfl
theorem r_182_17 : sm_ic 182 17 = some (.ifCond .ne 5, 22, 0, 0) := rfl
theorem r_182_20 : sm_ic 182 20 = some (.iconst (-1), 0, 0, 0) := rfl
theorem r_182_21 : sm_ic 182 21 = some (.ireturn, 0, 0, 0) := rfl
theorem r_182_22 : sm_ic 182 22 = some (.aload_n 0, 0, 0, 0) := rfl
theorem r_182_23 : sm_ic 182 23 = some (.iconst 0, 0, 0, 0) := rfl
theorem r_182_24 : sm_ic 182 24 = some (.invokevirtual 155, 153, 2, 901) := rfl
theorem r_182_27 : sm_ic 182 27 = some (.iload_n 1, 0, 0, 0) := rfl
theorem r_182_28 : sm_ic 182 28 = some (.if_icmp .ne 7, 35, 0, 0) := rfl
theorem r_182_31 : sm_ic 182 31 = some (.iconst 1, 0, 0, 0) := rfl
theorem r_182_32 : sm_ic 182 32 = some (.goto 4, 36, 0, 0) := rfl
theorem r_182_35 : sm_ic 182 35 = some (.iconst 0, 0, 0, 0) := rfl
theorem r_182_36 : sm_ic 182 36 = some (.aload_n 0, 0, 0, 0) := rfl
theorem r_182_37 : sm_ic 182 37 = some (.iconst 1, 0, 0, 0) := rfl
theorem r_182_38 : sm_ic 182 38 = some (.invokevirtual 155, 153, 2, 901) := rfl
theorem r_182_41 : sm_ic 182 41 = some (.iload_n 1, 0, 0, 0) := rfl
theorem r_182_42 : sm_ic 182 42 = some (.if_icmp .ne 7, 49, 0, 0) := rfl
theorem r_182_45 : sm_ic 182 45 = some (.iconst 2, 0, 0, 0) := rfl
theorem r_182_46 : sm_ic 182 46 = some (.goto 4, 50, 0, 0) := rfl
theorem r_182_49 : sm_ic 182 49 = some (.iconst 0, 0, 0, 0) := rfl
theorem r_182_50 : sm_ic 182 50 = some (.iadd, 0, 0, 0) := rfl
theorem r_182_51 : sm_ic 182 51 = some (.ireturn, 0, 0, 0) := rfl
theorem r_183_0 : sm_ic 183 0 = some (.iload_n 1, 0, 0, 0) := rfl
theorem r_183_1 : sm_ic 183 1 = some (.i2l, 0, 0, 0) := rfl
theorem r_183_2 : sm_ic 183 2 = some (.lconst 0, 0, 0, 0) := rfl
theorem r_183_3 : sm_ic 183 3 = some (.ldc2_w 185, 9999, 0, 1022) := rfl
theorem r_183_6 : sm_ic 183 6 = some (.invokestatic 79, 133, 3, 819) := rfl
theorem r_183_9 : sm_ic 183 9 = some (.ifCond .eq 25, 34, 0, 0) := rfl
theorem r_183_12 : sm_ic 183 12 = some (.iload_n 2, 0, 0, 0) := rfl
theorem r_183_13 : sm_ic 183 13 = some (.i2l, 0, 0, 0) := rfl
theorem r_183_14 : sm_ic 183 14 = some (.lconst 1, 0, 0, 0) := rfl
theorem r_183_15 : sm_ic 183 15 = some (.ldc2_w 187, 60, 0, 1023) := rfl
theorem r_183_18 : sm_ic 183 18 = some (.invokestatic 79, 133, 3, 819) := rfl
theorem r_183_21 : sm_ic 183 21 = some (.ifCond .eq 13, 34, 0, 0) := rfl
theorem r_183_24 : sm_ic 183 24 = some (.iload_n 3, 0, 0, 0) := rfl
theorem r_183_25 : sm_ic 183 25 = some (.i2l, 0, 0, 0) := rfl
theorem r_183_26 : sm_ic 183 26 = some (.lconst 0, 0, 0, 0) := rfl
theorem r_183_27 : sm_ic 183 27 = some (.lconst 1, 0, 0, 0) := rfl
theorem r_183_28 : sm_ic 183 28 = some (.invokestatic 79, 133, 3, 819) := rfl
theorem r_183_31 : sm_ic 183 31 = some (.ifCond .ne 5, 36, 0, 0) := rfl
theorem r_183_34 : sm_ic 183 34 = some (.iconst (-1), 0, 0, 0) := rfl
theorem r_183_35 : sm_ic 183 35 = some (.ireturn, 0, 0, 0) := rfl
theorem r_183_36 : sm_ic 183 36 = some (.aload_n 0, 0, 0, 0) := rfl
theorem r_183_37 : sm_ic 183 37 = some (.getfield 37, 7, 10, 753) := rfl
theorem r_183_40 : sm_ic 183 40 = some (.bipush 21, 0, 0, 0) := rfl
theorem r_183_42 : sm_ic 183 42 = some (.iaload, 0, 0, 0) := rfl
theorem r_183_43 : sm_ic 183 43 = some (.istore 4, 0, 0, 0) := rfl
theorem r_183_45 : sm_ic 183 45 = some (.aload_n 0, 0, 0, 0) := rfl
theorem r_183_46 : sm_ic 183 46 = some (.getfield 37, 7, 10, 753) := rfl
theorem r_183_49 : sm_ic 183 49 = some (.bipush 22, 0, 0, 0) := rfl
theorem r_183_51 : sm_ic 183 51 = some (.iaload, 0, 0, 0) := rfl
theorem r_183_52 : sm_ic 183 52 = some (.istore 5, 0, 0, 0) := rfl
theorem r_183_54 : sm_ic 183 54 = some (.iconst 0, 0, 0, 0) := rfl
theorem r_183_55 : sm_ic 183 55 = some (.istore 6, 0, 0, 0) := rfl
theorem r_183_57 : sm_ic 183 57 = some (.iconst 0, 0, 0, 0) := rfl
theorem r_183_58 : sm_ic 183 58 = some (.istore 7, 0, 0, 0) := rfl
theorem r_183_60 : sm_ic 183 60 = some (.iload 7, 0, 0, 0) := rfl
theorem r_183_62 : sm_ic 183 62 = some (.iload_n 2, 0, 0, 0) := rfl
theorem r_183_63 : sm_ic 183 63 = some (.if_icmp .ge 146, 209, 0, 0) := rfl
theorem r_183_66 : sm_ic 183 66 = some (.ldc2_w 189, 7919, 0, 1024) := rfl
theorem r_183_69 : sm_ic 183 69 = some (.iload_n 1, 0, 0, 0) := rfl
theorem r_183_70 : sm_ic 183 70 = some (.i2l, 0, 0, 0) := rfl
theorem r_183_71 : sm_ic 183 71 = some (.lmul, 0, 0, 0) := rfl
theorem r_183_72 : sm_ic 183 72 = some (.ldc2_w 191, 6151, 0, 1025) := rfl
theorem r_183_75 : sm_ic 183 75 = some (.iload 7, 0, 0, 0) := rfl
theorem r_183_77 : sm_ic 183 77 = some (.i2l, 0, 0, 0) := rfl
theorem r_183_78 : sm_ic 183 78 = some (.lmul, 0, 0, 0) := rfl
theorem r_183_79 : sm_ic 183 79 = some (.ladd, 0, 0, 0) := rfl
theorem r_183_80 : sm_ic 183 80 = some (.lconst 1, 0, 0, 0) := rfl
theorem r_183_81 : sm_ic 183 81 = some (.ladd, 0, 0, 0) := rfl
theorem r_183_82 : sm_ic 183 82 = some (.lstore 8, 0, 0, 0) := rfl
theorem r_183_84 : sm_ic 183 84 = some (.lload 8, 0, 0, 0) := rfl
theorem r_183_86 : sm_ic 183 86 = some (.lload 8, 0, 0, 0) := rfl
theorem r_183_88 : sm_ic 183 88 = some (.lmul, 0, 0, 0) := rfl
theorem r_183_89 : sm_ic 183 89 = some (.ldc2_w 193, 65521, 0, 1026) := rfl
theorem r_183_92 : sm_ic 183 92 = some (.lrem, 0, 0, 0) := rfl
theorem r_183_93 : sm_ic 183 93 = some (.l2i, 0, 0, 0) := rfl
theorem r_183_94 : sm_ic 183 94 = some (.iconst 2, 0, 0, 0) := rfl
theorem r_183_95 : sm_ic 183 95 = some (.idiv, 0, 0, 0) := rfl
theorem r_183_96 : sm_ic 183 96 = some (.istore 10, 0, 0, 0) := rfl
theorem r_183_98 : sm_ic 183 98 = some (.aload_n 0, 0, 0, 0) := rfl
theorem r_183_99 : sm_ic 183 99 = some (.getfield 37, 7, 10, 753) := rfl
theorem r_183_102 : sm_ic 183 102 = some (.bipush 21, 0, 0, 0) := rfl
theorem r_183_104 : sm_ic 183 104 = some (.iload 10, 0, 0, 0) := rfl
theorem r_183_106 : sm_ic 183 106 = some (.iconst 4, 0, 0, 0) := rfl
theorem r_183_107 : sm_ic 183 107 = some (.irem, 0, 0, 0) := rfl
theorem r_183_108 : sm_ic 183 108 = some (.ifCond .ne 7, 115, 0, 0) := rfl
theorem r_183_111 : sm_ic 183 111 = some (.iconst 1, 0, 0, 0) := rfl
theorem r_183_112 : sm_ic 183 112 = some (.goto 4, 116, 0, 0) := rfl
theorem r_183_115 : sm_ic 183 115 = some (.iconst 0, 0, 0, 0) := rfl
theorem r_183_116 : sm_ic 183 116 = some (.iastore, 0, 0, 0) := rfl
theorem r_183_117 : sm_ic 183 117 = some (.aload_n 0, 0, 0, 0) := rfl
theorem r_183_118 : sm_ic 183 118 = some (.getfield 37, 7, 10, 753) := rfl
theorem r_183_121 : sm_ic 183 121 = some (.bipush 22, 0, 0, 0) := rfl
theorem r_183_123 : sm_ic 183 123 = some (.iload 10, 0, 0, 0) := rfl
theorem r_183_125 : sm_ic 183 125 = some (.bipush 7, 0, 0, 0) := rfl
theorem r_183_127 : sm_ic 183 127 = some (.irem, 0, 0, 0) := rfl
theorem r_183_128 : sm_ic 183 128 = some (.ifCond .ne 7, 135, 0, 0) := rfl
theorem r_183_131 : sm_ic 183 131 = some (.iconst 1, 0, 0, 0) := rfl
theorem r_183_132 : sm_ic 183 132 = some (.goto 4, 136, 0, 0) := rfl
theorem r_183_135 : sm_ic 183 135 = some (.iconst 0, 0, 0, 0) := rfl
theorem r_183_136 : sm_ic 183 136 = some (.iastore, 0, 0, 0) := rfl
theorem r_183_137 : sm_ic 183 137 = some (.aload_n 0, 0, 0, 0) := rfl
theorem r_183_138 : sm_ic 183 138 = some (.iload 10, 0, 0, 0) := rfl
theorem r_183_140 : sm_ic 183 140 = some (.bipush 8, 0, 0, 0) := rfl
theorem r_183_142 : sm_ic 183 142 = some (.idiv, 0, 0, 0) := rfl
theorem r_183_143 : sm_ic 183 143 = some (.iconst 2, 0, 0, 0) := rfl
theorem r_183_144 : sm_ic 183 144 = some (.irem, 0, 0, 0) := rfl
theorem r_183_145 : sm_ic 183 145 = some (.invokevirtual 155, 153, 2, 901) := rfl
theorem r_183_148 : sm_ic 183 148 = some (.istore 11, 0, 0, 0) := rfl
theorem r_183_150 : sm_ic 183 150 = some (.iload_n 3, 0, 0, 0) := rfl
theorem r_183_151 : sm_ic 183 151 = some (.ifCond .ne 15, 166, 0, 0) := rfl
theorem r_183_154 : sm_ic 183 154 = some (.aload_n 0, 0, 0, 0) := rfl
theorem r_183_155 : sm_ic 183 155 = some (.iload 11, 0, 0, 0) := rfl
theorem r_183_157 : sm_ic 183 157 = some (.invokestatic 158, 159, 1, 924) := rfl
theorem r_183_160 : sm_ic 183 160 = some (.invokevirtual 161, 160, 2, 927) := rfl
theorem r_183_163 : sm_ic 183 163 = some (.goto 23, 186, 0, 0) := rfl
theorem r_183_166 : sm_ic 183 166 = some (.aload_n 0, 0, 0, 0) := rfl
theorem r_183_167 : sm_ic 183 167 = some (.iload 11, 0, 0, 0) := rfl
theorem r_183_169 : sm_ic 183 169 = some (.invokevirtual 170, 162, 2, 935) := rfl
theorem r_183_172 : sm_ic 183 172 = some (.aload_n 0, 0, 0, 0) := rfl
theorem r_183_173 : sm_ic 183 173 = some (.getfield 34, 7, 9, 752) := rfl
theorem r_183_176 : sm_ic 183 176 = some (.iconst 1, 0, 0, 0) := rfl
theorem r_183_177 : sm_ic 183 177 = some (.iaload, 0, 0, 0) := rfl
theorem r_183_178 : sm_ic 183 178 = some (.if_icmp .lt 7, 185, 0, 0) := rfl
theorem r_183_181 : sm_ic 183 181 = some (.iconst 1, 0, 0, 0) := rfl
theorem r_183_182 : sm_ic 183 182 = some (.goto 4, 186, 0, 0) := rfl
theorem r_183_185 : sm_ic 183 185 = some (.iconst 0, 0, 0, 0) := rfl
theorem r_183_186 : sm_ic 183 186 = some (.istore 12, 0, 0, 0) := rfl
theorem r_183_188 : sm_ic 183 188 = some (.iload 6, 0, 0, 0) := rfl
theorem r_183_190 : sm_ic 183 190 = some (.iload 12, 0, 0, 0) := rfl
theorem r_183_192 : sm_ic 183 192 = some (.ifCond .eq 7, 199, 0, 0) := rfl
theorem r_183_195 : sm_ic 183 195 = some (.iconst 1, 0, 0, 0) := rfl
theorem r_183_196 : sm_ic 183 196 = some (.goto 4, 200, 0, 0) := rfl
theorem r_183_199 : sm_ic 183 199 = some (.iconst 0, 0, 0, 0) := rfl
theorem r_183_200 : sm_ic 183 200 = some (.iadd, 0, 0, 0) := rfl
theorem r_183_201 : sm_ic 183 201 = some (.istore 6, 0, 0, 0) := rfl
theorem r_183_203 : sm_ic 183 203 = some (.iinc 7 1, 0, 0, 0) := rfl
theorem r_183_206 : sm_ic 183 206 = some (.goto (-146), 60, 0, 0) := rfl
theorem r_183_209 : sm_ic 183 209 = some (.aload_n 0, 0, 0, 0) := rfl
theorem r_183_210 : sm_ic 183 210 = some (.getfield 37, 7, 10, 753) := rfl
theorem r_183_213 : sm_ic 183 213 = some (.bipush 21, 0, 0, 0) := rfl
theorem r_183_215 : sm_ic 183 215 = some (.iload 4, 0, 0, 0) := rfl
theorem r_183_217 : sm_ic 183 217 = some (.iastore, 0, 0, 0) := rfl
theorem r_183_218 : sm_ic 183 218 = some (.aload_n 0, 0, 0, 0) := rfl
theorem r_183_219 : sm_ic 183 219 = some (.getfield 37, 7, 10, 753) := rfl
theorem r_183_222 : sm_ic 183 222 = some (.bipush 22, 0, 0, 0) := rfl
theorem r_183_224 : sm_ic 183 224 = some (.iload 5, 0, 0, 0) := rfl
theorem r_183_226 : sm_ic 183 226 = some (.iastore, 0, 0, 0) := rfl
theorem r_183_227 : sm_ic 183 227 = some (.iload 6, 0, 0, 0) := rfl
theorem r_183_229 : sm_ic 183 229 = some (.ireturn, 0, 0, 0) := rfl
theorem r_184_0 : sm_ic 184 0 = some (.aload_n 0, 0, 0, 0) := rfl
theorem r_184_1 : sm_ic 184 1 = some (.getfield 124, 7, 14, 757) := rfl
theorem r_184_4 : sm_ic 184 4 = some (.iconst 2, 0, 0, 0) := rfl
theorem r_184_5 : sm_ic 184 5 = some (.if_icmp .ne 6, 11, 0, 0) := rfl
theorem r_184_8 : sm_ic 184 8 = some (.bipush (-3), 0, 0, 0) := rfl
theorem r_184_10 : sm_ic 184 10 = some (.ireturn, 0, 0, 0) := rfl
theorem r_184_11 : sm_ic 184 11 = some (.iconst 0, 0, 0, 0) := rfl
theorem r_184_12 : sm_ic 184 12 = some (.istore_n 1, 0, 0, 0) := rfl
theorem r_184_13 : sm_ic 184 13 = some (.iload_n 1, 0, 0, 0) := rfl
theorem r_184_14 : sm_ic 184 14 = some (.bipush 24, 0, 0, 0) := rfl
theorem r_184_16 : sm_ic 184 16 = some (.if_icmp .ge 29, 45, 0, 0) := rfl
theorem r_184_19 : sm_ic 184 19 = some (.aload_n 0, 0, 0, 0) := rfl
theorem r_184_20 : sm_ic 184 20 = some (.getfield 43, 7, 13, 756) := rfl
theorem r_184_23 : sm_ic 184 23 = some (.bipush 24, 0, 0, 0) := rfl
theorem r_184_25 : sm_ic 184 25 = some (.aload_n 0, 0, 0, 0) := rfl
theorem r_184_26 : sm_ic 184 26 = some (.getfield 124, 7, 14, 757) := rfl
theorem r_184_29 : sm_ic 184 29 = some (.imul, 0, 0, 0) := rfl
theorem r_184_30 : sm_ic 184 30 = some (.iload_n 1, 0, 0, 0) := rfl
theorem r_184_31 : sm_ic 184 31 = some (.iadd, 0, 0, 0) := rfl
theorem r_184_32 : sm_ic 184 32 = some (.aload_n 0, 0, 0, 0) := rfl
theorem r_184_33 : sm_ic 184 33 = some (.getfield 37, 7, 10, 753) := rfl
theorem r_184_36 : sm_ic 184 36 = some (.iload_n 1, 0, 0, 0) := rfl
theorem r_184_37 : sm_ic 184 37 = some (.iaload, 0, 0, 0) := rfl
theorem r_184_38 : sm_ic 184 38 = some (.iastore, 0, 0, 0) := rfl
theorem r_184_39 : sm_ic 184 39 = some (.iinc 1 1, 0, 0, 0) := rfl
theorem r_184_42 : sm_ic 184 42 = some (.goto (-29), 13, 0, 0) := rfl
theorem r_184_45 : sm_ic 184 45 = some (.aload_n 0, 0, 0, 0) := rfl
theorem r_184_46 : sm_ic 184 46 = some (.dup, 0, 0, 0) := rfl
theorem r_184_47 : sm_ic 184 47 = some (.getfield 124, 7, 14, 757) := rfl
theorem r_184_50 : sm_ic 184 50 = some (.iconst 1, 0, 0, 0) := rfl
theorem r_184_51 : sm_ic 184 51 = some (.iadd, 0, 0, 0) := rfl
theorem r_184_52 : sm_ic 184 52 = some (.putfield 124, 7, 14, 757) := rfl
theorem r_184_55 : sm_ic 184 55 = some (.aload_n 0, 0, 0, 0) := rfl
theorem r_184_56 : sm_ic 184 56 = some (.getfield 124, 7, 14, 757) := rfl
theorem r_184_59 : sm_ic 184 59 = some (.ireturn, 0, 0, 0) := rfl
theorem r_185_0 : sm_ic 185 0 = some (.aload_n 0, 0, 0, 0) := rfl
theorem r_185_1 : sm_ic 185 1 = some (.getfield 124, 7, 14, 757) := rfl
theorem r_185_4 : sm_ic 185 4 = some (.ifCond .ne 6, 10, 0, 0) := rfl
theorem r_185_7 : sm_ic 185 7 = some (.bipush (-2), 0, 0, 0) := rfl
theorem r_185_9 : sm_ic 185 9 = some (.ireturn, 0, 0, 0) := rfl
theorem r_185_10 : sm_ic 185 10 = some (.aload_n 0, 0, 0, 0) := rfl
theorem r_185_11 : sm_ic 185 11 = some (.dup, 0, 0, 0) := rfl
theorem r_185_12 : sm_ic 185 12 = some (.getfield 124, 7, 14, 757) := rfl
theorem r_185_15 : sm_ic 185 15 = some (.iconst 1, 0, 0, 0) := rfl
theorem r_185_16 : sm_ic 185 16 = some (.isub, 0, 0, 0) := rfl
theorem r_185_17 : sm_ic 185 17 = some (.putfield 124, 7, 14, 757) := rfl
theorem r_185_20 : sm_ic 185 20 = some (.iconst 0, 0, 0, 0) := rfl
theorem r_185_21 : sm_ic 185 21 = some (.istore_n 1, 0, 0, 0) := rfl
theorem r_185_22 : sm_ic 185 22 = some (.iload_n 1, 0, 0, 0) := rfl
theorem r_185_23 : sm_ic 185 23 = some (.bipush 24, 0, 0, 0) := rfl
theorem r_185_25 : sm_ic 185 25 = some (.if_icmp .ge 29, 54, 0, 0) := rfl
theorem r_185_28 : sm_ic 185 28 = some (.aload_n 0, 0, 0, 0) := rfl
theorem r_185_29 : sm_ic 185 29 = some (.getfield 37, 7, 10, 753) := rfl
theorem r_185_32 : sm_ic 185 32 = some (.iload_n 1, 0, 0, 0) := rfl
theorem r_185_33 : sm_ic 185 33 = some (.aload_n 0, 0, 0, 0) := rfl
theorem r_185_34 : sm_ic 185 34 = some (.getfield 43, 7, 13, 756) := rfl
theorem r_185_37 : sm_ic 185 37 = some (.bipush 24, 0, 0, 0) := rfl
theorem r_185_39 : sm_ic 185 39 = some (.aload_n 0, 0, 0, 0) := rfl
theorem r_185_40 : sm_ic 185 40 = some (.getfield 124, 7, 14, 757) := rfl
theorem r_185_43 : sm_ic 185 43 = some (.imul, 0, 0, 0) := rfl
theorem r_185_44 : sm_ic 185 44 = some (.iload_n 1, 0, 0, 0) := rfl
theorem r_185_45 : sm_ic 185 45 = some (.iadd, 0, 0, 0) := rfl
theorem r_185_46 : sm_ic 185 46 = some (.iaload, 0, 0, 0) := rfl
theorem r_185_47 : sm_ic 185 47 = some (.iastore, 0, 0, 0) := rfl
theorem r_185_48 : sm_ic 185 48 = some (.iinc 1 1, 0, 0, 0) := rfl
theorem r_185_51 : sm_ic 185 51 = some (.goto (-29), 22, 0, 0) := rfl
theorem r_185_54 : sm_ic 185 54 = some (.aload_n 0, 0, 0, 0) := rfl
theorem r_185_55 : sm_ic 185 55 = some (.iconst 0, 0, 0, 0) := rfl
theorem r_185_56 : sm_ic 185 56 = some (.putfield 121, 7, 12, 755) := rfl
theorem r_185_59 : sm_ic 185 59 = some (.aload_n 0, 0, 0, 0) := rfl
theorem r_185_60 : sm_ic 185 60 = some (.getfield 124, 7, 14, 757) := rfl
theorem r_185_63 : sm_ic 185 63 = some (.ireturn, 0, 0, 0) := rfl
theorem r_186_0 : sm_ic 186 0 = some (.iload_n 1, 0, 0, 0) := rfl
theorem r_186_1 : sm_ic 186 1 = some (.tableswitch 139 0 11 #[63, 70, 77, 82, 90, 98, 105, 112, 119, 124, 129, 134], 0, 0, 0) := rfl
theorem r_186_64 : sm_ic 186 64 = some (.aload_n 0, 0, 0, 0) := rfl
theorem r_186_65 : sm_ic 186 65 = some (.getfield 13, 7, 2, 745) := rfl
theorem r_186_68 : sm_ic 186 68 = some (.iconst 0, 0, 0, 0) := rfl
theorem r_186_69 : sm_ic 186 69 = some (.iaload, 0, 0, 0) := rfl
theorem r_186_70 : sm_ic 186 70 = some (.ireturn, 0, 0, 0) := rfl
theorem r_186_71 : sm_ic 186 71 = some (.aload_n 0, 0, 0, 0) := rfl
theorem r_186_72 : sm_ic 186 72 = some (.getfield 28, 7, 7, 750) := rfl
theorem r_186_75 : sm_ic 186 75 = some (.iconst 0, 0, 0, 0) := rfl
theorem r_186_76 : sm_ic 186 76 = some (.iaload, 0, 0, 0) := rfl
theorem r_186_77 : sm_ic 186 77 = some (.ireturn, 0, 0, 0) := rfl
theorem r_186_78 : sm_ic 186 78 = some (.aload_n 0, 0, 0, 0) := rfl
theorem r_186_79 : sm_ic 186 79 = some (.invokevirtual 195, 187, 1, 1039) := rfl
theorem r_186_82 : sm_ic 186 82 = some (.ireturn, 0, 0, 0) := rfl
theorem r_186_83 : sm_ic 186 83 = some (.aload_n 0, 0, 0, 0) := rfl
theorem r_186_84 : sm_ic 186 84 = some (.getfield 37, 7, 10, 753) := rfl
theorem r_186_87 : sm_ic 186 87 = some (.bipush 21, 0, 0, 0) := rfl
theorem r_186_89 : sm_ic 186 89 = some (.iaload, 0, 0, 0) := rfl
theorem r_186_90 : sm_ic 186 90 = some (.ireturn, 0, 0, 0) := rfl
theorem r_186_91 : sm_ic 186 91 = some (.aload_n 0, 0, 0, 0) := rfl
theorem r_186_92 : sm_ic 186 92 = some (.getfield 37, 7, 10, 753) := rfl
theorem r_186_95 : sm_ic 186 95 = some (.bipush 22, 0, 0, 0) := rfl
theorem r_186_97 : sm_ic 186 97 = some (.iaload, 0, 0, 0) := rfl
theorem r_186_98 : sm_ic 186 98 = some (.ireturn, 0, 0, 0) := rfl
theorem r_186_99 : sm_ic 186 99 = some (.aload_n 0, 0, 0, 0) := rfl
theorem r_186_100 : sm_ic 186 100 = some (.getfield 34, 7, 9, 752) := rfl
theorem r_186_103 : sm_ic 186 103 = some (.iconst 0, 0, 0, 0) := rfl
theorem r_186_104 : sm_ic 186 104 = some (.iaload, 0, 0, 0) := rfl
theorem r_186_105 : sm_ic 186 105 = some (.ireturn, 0, 0, 0) := rfl
theorem r_186_106 : sm_ic 186 106 = some (.aload_n 0, 0, 0, 0) := rfl
theorem r_186_107 : sm_ic 186 107 = some (.getfield 34, 7, 9, 752) := rfl
theorem r_186_110 : sm_ic 186 110 = some (.iconst 1, 0, 0, 0) := rfl
theorem r_186_111 : sm_ic 186 111 = some (.iaload, 0, 0, 0) := rfl
theorem r_186_112 : sm_ic 186 112 = some (.ireturn, 0, 0, 0) := rfl
theorem r_186_113 : sm_ic 186 113 = some (.aload_n 0, 0, 0, 0) := rfl
theorem r_186_114 : sm_ic 186 114 = some (.getfield 34, 7, 9, 752) := rfl
theorem r_186_117 : sm_ic 186 117 = some (.iconst 2, 0, 0, 0) := rfl
theorem r_186_118 : sm_ic 186 118 = some (.iaload, 0, 0, 0) := rfl
theorem r_186_119 : sm_ic 186 119 = some (.ireturn, 0, 0, 0) := rfl
theorem r_186_120 : sm_ic 186 120 = some (.aload_n 0, 0, 0, 0) := rfl
theorem r_186_121 : sm_ic 186 121 = some (.getfield 127, 7, 15, 758) := rfl
theorem r_186_124 : sm_ic 186 124 = some (.ireturn, 0, 0, 0) := rfl
theorem r_186_125 : sm_ic 186 125 = some (.aload_n 0, 0, 0, 0) := rfl
theorem r_186_126 : sm_ic 186 126 = some (.getfield 121, 7, 12, 755) := rfl
theorem r_186_129 : sm_ic 186 129 = some (.ireturn, 0, 0, 0) := rfl
theorem r_186_130 : sm_ic 186 130 = some (.aload_n 0, 0, 0, 0) := rfl
theorem r_186_131 : sm_ic 186 131 = some (.getfield 124, 7, 14, 757) := rfl
theorem r_186_134 : sm_ic 186 134 = some (.ireturn, 0, 0, 0) := rfl
theorem r_186_135 : sm_ic 186 135 = some (.aload_n 0, 0, 0, 0) := rfl
theorem r_186_136 : sm_ic 186 136 = some (.getfield 83, 7, 0, 743) := rfl
theorem r_186_139 : sm_ic 186 139 = some (.ireturn, 0, 0, 0) := rfl
theorem r_186_140 : sm_ic 186 140 = some (.iconst (-1), 0, 0, 0) := rfl
theorem r_186_141 : sm_ic 186 141 = some (.ireturn, 0, 0, 0) := rfl
theorem r_187_0 : sm_ic 187 0 = some (.iconst 0, 0, 0, 0) := rfl
theorem r_187_1 : sm_ic 187 1 = some (.istore_n 1, 0, 0, 0) := rfl
theorem r_187_2 : sm_ic 187 2 = some (.iconst 0, 0, 0, 0) := rfl
theorem r_187_3 : sm_ic 187 3 = some (.istore_n 2, 0, 0, 0) := rfl
theorem r_187_4 : sm_ic 187 4 = some (.iload_n 2, 0, 0, 0) := rfl
theorem r_187_5 : sm_ic 187 5 = some (.iconst 5, 0, 0, 0) := rfl
theorem r_187_6 : sm_ic 187 6 = some (.if_icmp .ge 21, 27, 0, 0) := rfl
theorem r_187_9 : sm_ic 187 9 = some (.iload_n 1, 0, 0, 0) := rfl
theorem r_187_10 : sm_ic 187 10 = some (.aload_n 0, 0, 0, 0) := rfl
theorem r_187_11 : sm_ic 187 11 = some (.getfield 37, 7, 10, 753) := rfl
theorem r_187_14 : sm_ic 187 14 = some (.bipush 16, 0, 0, 0) := rfl
theorem r_187_16 : sm_ic 187 16 = some (.iload_n 2, 0, 0, 0) := rfl
theorem r_187_17 : sm_ic 187 17 = some (.iadd, 0, 0, 0) := rfl
theorem r_187_18 : sm_ic 187 18 = some (.iaload, 0, 0, 0) := rfl
theorem r_187_19 : sm_ic 187 19 = some (.iadd, 0, 0, 0) := rfl
theorem r_187_20 : sm_ic 187 20 = some (.istore_n 1, 0, 0, 0) := rfl
theorem r_187_21 : sm_ic 187 21 = some (.iinc 2 1, 0, 0, 0) := rfl
theorem r_187_24 : sm_ic 187 24 = some (.goto (-20), 4, 0, 0) := rfl
theorem r_187_27 : sm_ic 187 27 = some (.iload_n 1, 0, 0, 0) := rfl
theorem r_187_28 : sm_ic 187 28 = some (.ireturn, 0, 0, 0) := rfl
end
section
/-! each decoded row by its place -/
theorem r_188_0 : sm_ic 188 0 = some (.new 7, 0, 0, 53) := by decide +kernel
theorem r_188_3 : sm_ic 188 3 = some (.dup, 0, 0, 0) := by decide +kernel
theorem r_188_4 : sm_ic 188 4 = some (.invokespecial 9, 0, 1, 55) := by decide +kernel
theorem r_188_7 : sm_ic 188 7 = some (.astore_n 1, 0, 0, 0) := by decide +kernel
theorem r_188_8 : sm_ic 188 8 = some (.new 10, 7, 0, 725) := by decide +kernel
theorem r_188_11 : sm_ic 188 11 = some (.dup, 0, 0, 0) := by decide +kernel
theorem r_188_12 : sm_ic 188 12 = some (.invokespecial 12, 128, 1, 727) := by decide +kernel
theorem r_188_15 : sm_ic 188 15 = some (.astore_n 2, 0, 0, 0) := by decide +kernel
theorem r_188_16 : sm_ic 188 16 = some (.iconst 0, 0, 0, 0) := by decide +kernel
theorem r_188_17 : sm_ic 188 17 = some (.istore_n 3, 0, 0, 0) := by decide +kernel
theorem r_188_18 : sm_ic 188 18 = some (.iload_n 3, 0, 0, 0) := by decide +kernel
theorem r_188_19 : sm_ic 188 19 = some (.aload_n 0, 0, 0, 0) := by decide +kernel
theorem r_188_20 : sm_ic 188 20 = some (.arraylength, 0, 0, 0) := by decide +kernel
theorem r_188_21 : sm_ic 188 21 = some (.iconst 4, 0, 0, 0) := by decide +kernel
theorem r_188_22 : sm_ic 188 22 = some (.isub, 0, 0, 0) := by decide +kernel
theorem r_188_23 : sm_ic 188 23 = some (.if_icmp .gt 898, 921, 0, 0) := by decide +kernel
theorem r_188_26 : sm_ic 188 26 = some (.aload_n 0, 0, 0, 0) := by decide +kernel
theorem r_188_27 : sm_ic 188 27 = some (.iload_n 3, 0, 0, 0) := by decide +kernel
theorem r_188_28 : sm_ic 188 28 = some (.iaload, 0, 0, 0) := by decide +kernel
theorem r_188_29 : sm_ic 188 29 = some (.bipush 31, 0, 0, 0) := by decide +kernel
theorem r_188_31 : sm_ic 188 31 = some (.iand, 0, 0, 0) := by decide +kernel
theorem r_188_32 : sm_ic 188 32 = some (.tableswitch 883 0 30 #[140, 163, 176, 189, 202, 235, 268, 291, 314, 347, 370, 403, 436, 469, 492, 515, 528, 551, 574, 587, 610, 643, 666, 699, 712, 735, 768, 791, 834, 847, 860], 0, 0, 0) := by decide +kernel
theorem r_188_172 : sm_ic 188 172 = some (.aload_n 1, 0, 0, 0) := by decide +kernel
theorem r_188_173 : sm_ic 188 173 = some (.aload_n 0, 0, 0, 0) := by decide +kernel
theorem r_188_174 : sm_ic 188 174 = some (.iload_n 3, 0, 0, 0) := by decide +kernel
theorem r_188_175 : sm_ic 188 175 = some (.iconst 1, 0, 0, 0) := by decide +kernel
theorem r_188_176 : sm_ic 188 176 = some (.iadd, 0, 0, 0) := by decide +kernel
theorem r_188_177 : sm_ic 188 177 = some (.iaload, 0, 0, 0) := by decide +kernel
theorem r_188_178 : sm_ic 188 178 = some (.invokevirtual 13, 44, 2, 377) := by decide +kernel
theorem r_188_181 : sm_ic 188 181 = some (.aload_n 2, 0, 0, 0) := by decide +kernel
theorem r_188_182 : sm_ic 188 182 = some (.aload_n 0, 0, 0, 0) := by decide +kernel
theorem r_188_183 : sm_ic 188 183 = some (.iload_n 3, 0, 0, 0) := by decide +kernel
theorem r_188_184 : sm_ic 188 184 = some (.iconst 1, 0, 0, 0) := by decide +kernel
theorem r_188_185 : sm_ic 188 185 = some (.iadd, 0, 0, 0) := by decide +kernel
theorem r_188_186 : sm_ic 188 186 = some (.iaload, 0, 0, 0) := by decide +kernel
theorem r_188_187 : sm_ic 188 187 = some (.invokevirtual 17, 132, 2, 813) := by decide +kernel
theorem r_188_190 : sm_ic 188 190 = some (.if_icmp .eq 725, 915, 0, 0) := by decide +kernel
theorem r_188_193 : sm_ic 188 193 = some (.iconst 0, 0, 0, 0) := by decide +kernel
theorem r_188_194 : sm_ic 188 194 = some (.ireturn, 0, 0, 0) := by decide +kernel
theorem r_188_195 : sm_ic 188 195 = some (.aload_n 1, 0, 0, 0) := by decide +kernel
theorem r_188_196 : sm_ic 188 196 = some (.invokevirtual 18, 45, 1, 382) := by decide +kernel
theorem r_188_199 : sm_ic 188 199 = some (.aload_n 2, 0, 0, 0) := by decide +kernel
theorem r_188_200 : sm_ic 188 200 = some (.invokevirtual 22, 134, 1, 822) := by decide +kernel
theorem r_188_203 : sm_ic 188 203 = some (.if_icmp .eq 712, 915, 0, 0) := by decide +kernel
theorem r_188_206 : sm_ic 188 206 = some (.iconst 0, 0, 0, 0) := by decide +kernel
theorem r_188_207 : sm_ic 188 207 = some (.ireturn, 0, 0, 0) := by decide +kernel
theorem r_188_208 : sm_ic 188 208 = some (.aload_n 1, 0, 0, 0) := by decide +kernel
theorem r_188_209 : sm_ic 188 209 = some (.invokevirtual 23, 46, 1, 386) := by decide +kernel
theorem r_188_212 : sm_ic 188 212 = some (.aload_n 2, 0, 0, 0) := by decide +kernel
theorem r_188_213 : sm_ic 188 213 = some (.invokevirtual 26, 135, 1, 826) := by decide +kernel
theorem r_188_216 : sm_ic 188 216 = some (.if_icmp .eq 699, 915, 0, 0) := by decide +kernel
theorem r_188_219 : sm_ic 188 219 = some (.iconst 0, 0, 0, 0) := by decide +kernel
theorem r_188_220 : sm_ic 188 220 = some (.ireturn, 0, 0, 0) := by decide +kernel
theorem r_188_221 : sm_ic 188 221 = some (.aload_n 1, 0, 0, 0) := by decide +kernel
theorem r_188_222 : sm_ic 188 222 = some (.invokevirtual 27, 47, 1, 390) := by decide +kernel
theorem r_188_225 : sm_ic 188 225 = some (.aload_n 2, 0, 0, 0) := by decide +kernel
theorem r_188_226 : sm_ic 188 226 = some (.invokevirtual 30, 142, 1, 858) := by decide +kernel
theorem r_188_229 : sm_ic 188 229 = some (.if_icmp .eq 686, 915, 0, 0) := by decide +kernel
theorem r_188_232 : sm_ic 188 232 = some (.iconst 0, 0, 0, 0) := by decide +kernel
theorem r_188_233 : sm_ic 188 233 = some (.ireturn, 0, 0, 0) := by decide +kernel
theorem r_188_234 : sm_ic 188 234 = some (.aload_n 1, 0, 0, 0) := by decide +kernel
theorem r_188_235 : sm_ic 188 235 = some (.aload_n 0, 0, 0, 0) := by decide +kernel
theorem r_188_236 : sm_ic 188 236 = some (.iload_n 3, 0, 0, 0) := by decide +kernel
theorem r_188_237 : sm_ic 188 237 = some (.iconst 1, 0, 0, 0) := by decide +kernel
theorem r_188_238 : sm_ic 188 238 = some (.iadd, 0, 0, 0) := by decide +kernel
theorem r_188_239 : sm_ic 188 239 = some (.iaload, 0, 0, 0) := by decide +kernel
theorem r_188_240 : sm_ic 188 240 = some (.aload_n 0, 0, 0, 0) := by decide +kernel
theorem r_188_241 : sm_ic 188 241 = some (.iload_n 3, 0, 0, 0) := by decide +kernel
theorem r_188_242 : sm_ic 188 242 = some (.iconst 2, 0, 0, 0) := by decide +kernel
theorem r_188_243 : sm_ic 188 243 = some (.iadd, 0, 0, 0) := by decide +kernel
theorem r_188_244 : sm_ic 188 244 = some (.iaload, 0, 0, 0) := by decide +kernel
theorem r_188_245 : sm_ic 188 245 = some (.invokevirtual 31, 54, 3, 416) := by decide +kernel
theorem r_188_248 : sm_ic 188 248 = some (.aload_n 2, 0, 0, 0) := by decide +kernel
theorem r_188_249 : sm_ic 188 249 = some (.aload_n 0, 0, 0, 0) := by decide +kernel
theorem r_188_250 : sm_ic 188 250 = some (.iload_n 3, 0, 0, 0) := by decide +kernel
theorem r_188_251 : sm_ic 188 251 = some (.iconst 1, 0, 0, 0) := by decide +kernel
theorem r_188_252 : sm_ic 188 252 = some (.iadd, 0, 0, 0) := by decide +kernel
theorem r_188_253 : sm_ic 188 253 = some (.iaload, 0, 0, 0) := by decide +kernel
theorem r_188_254 : sm_ic 188 254 = some (.aload_n 0, 0, 0, 0) := by decide +kernel
theorem r_188_255 : sm_ic 188 255 = some (.iload_n 3, 0, 0, 0) := by decide +kernel
theorem r_188_256 : sm_ic 188 256 = some (.iconst 2, 0, 0, 0) := by decide +kernel
theorem r_188_257 : sm_ic 188 257 = some (.iadd, 0, 0, 0) := by decide +kernel
theorem r_188_258 : sm_ic 188 258 = some (.iaload, 0, 0, 0) := by decide +kernel
theorem r_188_259 : sm_ic 188 259 = some (.invokevirtual 35, 143, 3, 862) := by decide +kernel
theorem r_188_262 : sm_ic 188 262 = some (.if_icmp .eq 653, 915, 0, 0) := by decide +kernel
theorem r_188_265 : sm_ic 188 265 = some (.iconst 0, 0, 0, 0) := by decide +kernel
theorem r_188_266 : sm_ic 188 266 = some (.ireturn, 0, 0, 0) := by decide +kernel
theorem r_188_267 : sm_ic 188 267 = some (.aload_n 1, 0, 0, 0) := by decide +kernel
theorem r_188_268 : sm_ic 188 268 = some (.aload_n 0, 0, 0, 0) := by decide +kernel
theorem r_188_269 : sm_ic 188 269 = some (.iload_n 3, 0, 0, 0) := by decide +kernel
theorem r_188_270 : sm_ic 188 270 = some (.iconst 1, 0, 0, 0) := by decide +kernel
theorem r_188_271 : sm_ic 188 271 = some (.iadd, 0, 0, 0) := by decide +kernel
theorem r_188_272 : sm_ic 188 272 = some (.iaload, 0, 0, 0) := by decide +kernel
theorem r_188_273 : sm_ic 188 273 = some (.aload_n 0, 0, 0, 0) := by decide +kernel
theorem r_188_274 : sm_ic 188 274 = some (.iload_n 3, 0, 0, 0) := by decide +kernel
theorem r_188_275 : sm_ic 188 275 = some (.iconst 2, 0, 0, 0) := by decide +kernel
theorem r_188_276 : sm_ic 188 276 = some (.iadd, 0, 0, 0) := by decide +kernel
theorem r_188_277 : sm_ic 188 277 = some (.iaload, 0, 0, 0) := by decide +kernel
theorem r_188_278 : sm_ic 188 278 = some (.invokevirtual 36, 57, 3, 430) := by decide +kernel
theorem r_188_281 : sm_ic 188 281 = some (.aload_n 2, 0, 0, 0) := by decide +kernel
theorem r_188_282 : sm_ic 188 282 = some (.aload_n 0, 0, 0, 0) := by decide +kernel
theorem r_188_283 : sm_ic 188 283 = some (.iload_n 3, 0, 0, 0) := by decide +kernel
theorem r_188_284 : sm_ic 188 284 = some (.iconst 1, 0, 0, 0) := by decide +kernel
theorem r_188_285 : sm_ic 188 285 = some (.iadd, 0, 0, 0) := by decide +kernel
theorem r_188_286 : sm_ic 188 286 = some (.iaload, 0, 0, 0) := by decide +kernel
theorem r_188_287 : sm_ic 188 287 = some (.aload_n 0, 0, 0, 0) := by decide +kernel
theorem r_188_288 : sm_ic 188 288 = some (.iload_n 3, 0, 0, 0) := by decide +kernel
theorem r_188_289 : sm_ic 188 289 = some (.iconst 2, 0, 0, 0) := by decide +kernel
theorem r_188_290 : sm_ic 188 290 = some (.iadd, 0, 0, 0) := by decide +kernel
theorem r_188_291 : sm_ic 188 291 = some (.iaload, 0, 0, 0) := by decide +kernel
theorem r_188_292 : sm_ic 188 292 = some (.invokevirtual 39, 145, 3, 871) := by decide +kernel
theorem r_188_295 : sm_ic 188 295 = some (.if_icmp .eq 620, 915, 0, 0) := by decide +kernel
theorem r_188_298 : sm_ic 188 298 = some (.iconst 0, 0, 0, 0) := by decide +kernel
theorem r_188_299 : sm_ic 188 299 = some (.ireturn, 0, 0, 0) := by decide +kernel
theorem r_188_300 : sm_ic 188 300 = some (.aload_n 1, 0, 0, 0) := by decide +kernel
theorem r_188_301 : sm_ic 188 301 = some (.aload_n 0, 0, 0, 0) := by decide +kernel
theorem r_188_302 : sm_ic 188 302 = some (.iload_n 3, 0, 0, 0) := by decide +kernel
theorem r_188_303 : sm_ic 188 303 = some (.iconst 1, 0, 0, 0) := by decide +kernel
theorem r_188_304 : sm_ic 188 304 = some (.iadd, 0, 0, 0) := by decide +kernel
theorem r_188_305 : sm_ic 188 305 = some (.iaload, 0, 0, 0) := by decide +kernel
theorem r_188_306 : sm_ic 188 306 = some (.invokevirtual 40, 61, 2, 446) := by decide +kernel
theorem r_188_309 : sm_ic 188 309 = some (.aload_n 2, 0, 0, 0) := by decide +kernel
theorem r_188_310 : sm_ic 188 310 = some (.aload_n 0, 0, 0, 0) := by decide +kernel
theorem r_188_311 : sm_ic 188 311 = some (.iload_n 3, 0, 0, 0) := by decide +kernel
theorem r_188_312 : sm_ic 188 312 = some (.iconst 1, 0, 0, 0) := by decide +kernel
theorem r_188_313 : sm_ic 188 313 = some (.iadd, 0, 0, 0) := by decide +kernel
theorem r_188_314 : sm_ic 188 314 = some (.iaload, 0, 0, 0) := by decide +kernel
theorem r_188_315 : sm_ic 188 315 = some (.invokevirtual 43, 147, 2, 879) := by decide +kernel
theorem r_188_318 : sm_ic 188 318 = some (.if_icmp .eq 597, 915, 0, 0) := by decide +kernel
theorem r_188_321 : sm_ic 188 321 = some (.iconst 0, 0, 0, 0) := by decide +kernel
theorem r_188_322 : sm_ic 188 322 = some (.ireturn, 0, 0, 0) := by decide +kernel
theorem r_188_323 : sm_ic 188 323 = some (.aload_n 1, 0, 0, 0) := by decide +kernel
theorem r_188_324 : sm_ic 188 324 = some (.aload_n 0, 0, 0, 0) := by decide +kernel
theorem r_188_325 : sm_ic 188 325 = some (.iload_n 3, 0, 0, 0) := by decide +kernel
theorem r_188_326 : sm_ic 188 326 = some (.iconst 1, 0, 0, 0) := by decide +kernel
theorem r_188_327 : sm_ic 188 327 = some (.iadd, 0, 0, 0) := by decide +kernel
theorem r_188_328 : sm_ic 188 328 = some (.iaload, 0, 0, 0) := by decide +kernel
theorem r_188_329 : sm_ic 188 329 = some (.invokevirtual 44, 72, 2, 488) := by decide +kernel
theorem r_188_332 : sm_ic 188 332 = some (.aload_n 2, 0, 0, 0) := by decide +kernel
theorem r_188_333 : sm_ic 188 333 = some (.aload_n 0, 0, 0, 0) := by decide +kernel
theorem r_188_334 : sm_ic 188 334 = some (.iload_n 3, 0, 0, 0) := by decide +kernel
theorem r_188_335 : sm_ic 188 335 = some (.iconst 1, 0, 0, 0) := by decide +kernel
theorem r_188_336 : sm_ic 188 336 = some (.iadd, 0, 0, 0) := by decide +kernel
theorem r_188_337 : sm_ic 188 337 = some (.iaload, 0, 0, 0) := by decide +kernel
theorem r_188_338 : sm_ic 188 338 = some (.invokevirtual 47, 152, 2, 897) := by decide +kernel
theorem r_188_341 : sm_ic 188 341 = some (.if_icmp .eq 574, 915, 0, 0) := by decide +kernel
theorem r_188_344 : sm_ic 188 344 = some (.iconst 0, 0, 0, 0) := by decide +kernel
theorem r_188_345 : sm_ic 188 345 = some (.ireturn, 0, 0, 0) := by decide +kernel
theorem r_188_346 : sm_ic 188 346 = some (.aload_n 1, 0, 0, 0) := by decide +kernel
theorem r_188_347 : sm_ic 188 347 = some (.aload_n 0, 0, 0, 0) := by decide +kernel
theorem r_188_348 : sm_ic 188 348 = some (.iload_n 3, 0, 0, 0) := by decide +kernel
theorem r_188_349 : sm_ic 188 349 = some (.iconst 1, 0, 0, 0) := by decide +kernel
theorem r_188_350 : sm_ic 188 350 = some (.iadd, 0, 0, 0) := by decide +kernel
theorem r_188_351 : sm_ic 188 351 = some (.iaload, 0, 0, 0) := by decide +kernel
theorem r_188_352 : sm_ic 188 352 = some (.aload_n 0, 0, 0, 0) := by decide +kernel
theorem r_188_353 : sm_ic 188 353 = some (.iload_n 3, 0, 0, 0) := by decide +kernel
theorem r_188_354 : sm_ic 188 354 = some (.iconst 2, 0, 0, 0) := by decide +kernel
theorem r_188_355 : sm_ic 188 355 = some (.iadd, 0, 0, 0) := by decide +kernel
theorem r_188_356 : sm_ic 188 356 = some (.iaload, 0, 0, 0) := by decide +kernel
theorem r_188_357 : sm_ic 188 357 = some (.invokevirtual 48, 77, 3, 511) := by decide +kernel
theorem r_188_360 : sm_ic 188 360 = some (.aload_n 2, 0, 0, 0) := by decide +kernel
theorem r_188_361 : sm_ic 188 361 = some (.aload_n 0, 0, 0, 0) := by decide +kernel
theorem r_188_362 : sm_ic 188 362 = some (.iload_n 3, 0, 0, 0) := by decide +kernel
theorem r_188_363 : sm_ic 188 363 = some (.iconst 1, 0, 0, 0) := by decide +kernel
theorem r_188_364 : sm_ic 188 364 = some (.iadd, 0, 0, 0) := by decide +kernel
theorem r_188_365 : sm_ic 188 365 = some (.iaload, 0, 0, 0) := by decide +kernel
theorem r_188_366 : sm_ic 188 366 = some (.aload_n 0, 0, 0, 0) := by decide +kernel
theorem r_188_367 : sm_ic 188 367 = some (.iload_n 3, 0, 0, 0) := by decide +kernel
theorem r_188_368 : sm_ic 188 368 = some (.iconst 2, 0, 0, 0) := by decide +kernel
theorem r_188_369 : sm_ic 188 369 = some (.iadd, 0, 0, 0) := by decide +kernel
theorem r_188_370 : sm_ic 188 370 = some (.iaload, 0, 0, 0) := by decide +kernel
theorem r_188_371 : sm_ic 188 371 = some (.invokevirtual 51, 156, 3, 912) := by decide +kernel
theorem r_188_374 : sm_ic 188 374 = some (.if_icmp .eq 541, 915, 0, 0) := by decide +kernel
theorem r_188_377 : sm_ic 188 377 = some (.iconst 0, 0, 0, 0) := by decide +kernel
theorem r_188_378 : sm_ic 188 378 = some (.ireturn, 0, 0, 0) := by decide +kernel
theorem r_188_379 : sm_ic 188 379 = some (.aload_n 1, 0, 0, 0) := by decide +kernel
theorem r_188_380 : sm_ic 188 380 = some (.aload_n 0, 0, 0, 0) := by decide +kernel
theorem r_188_381 : sm_ic 188 381 = some (.iload_n 3, 0, 0, 0) := by decide +kernel
theorem r_188_382 : sm_ic 188 382 = some (.iconst 1, 0, 0, 0) := by decide +kernel
theorem r_188_383 : sm_ic 188 383 = some (.iadd, 0, 0, 0) := by decide +kernel
theorem r_188_384 : sm_ic 188 384 = some (.iaload, 0, 0, 0) := by decide +kernel
theorem r_188_385 : sm_ic 188 385 = some (.invokevirtual 52, 80, 2, 526) := by decide +kernel
theorem r_188_388 : sm_ic 188 388 = some (.aload_n 2, 0, 0, 0) := by decide +kernel
theorem r_188_389 : sm_ic 188 389 = some (.aload_n 0, 0, 0, 0) := by decide +kernel
theorem r_188_390 : sm_ic 188 390 = some (.iload_n 3, 0, 0, 0) := by decide +kernel
theorem r_188_391 : sm_ic 188 391 = some (.iconst 1, 0, 0, 0) := by decide +kernel
theorem r_188_392 : sm_ic 188 392 = some (.iadd, 0, 0, 0) := by decide +kernel
theorem r_188_393 : sm_ic 188 393 = some (.iaload, 0, 0, 0) := by decide +kernel
theorem r_188_394 : sm_ic 188 394 = some (.invokevirtual 55, 157, 2, 916) := by decide +kernel
theorem r_188_397 : sm_ic 188 397 = some (.if_icmp .eq 518, 915, 0, 0) := by decide +kernel
theorem r_188_400 : sm_ic 188 400 = some (.iconst 0, 0, 0, 0) := by decide +kernel
theorem r_188_401 : sm_ic 188 401 = some (.ireturn, 0, 0, 0) := by decide +kernel
theorem r_188_402 : sm_ic 188 402 = some (.aload_n 1, 0, 0, 0) := by decide +kernel
theorem r_188_403 : sm_ic 188 403 = some (.aload_n 0, 0, 0, 0) := by decide +kernel
theorem r_188_404 : sm_ic 188 404 = some (.iload_n 3, 0, 0, 0) := by decide +kernel
theorem r_188_405 : sm_ic 188 405 = some (.iconst 1, 0, 0, 0) := by decide +kernel
theorem r_188_406 : sm_ic 188 406 = some (.iadd, 0, 0, 0) := by decide +kernel
theorem r_188_407 : sm_ic 188 407 = some (.iaload, 0, 0, 0) := by decide +kernel
theorem r_188_408 : sm_ic 188 408 = some (.aload_n 0, 0, 0, 0) := by decide +kernel
theorem r_188_409 : sm_ic 188 409 = some (.iload_n 3, 0, 0, 0) := by decide +kernel
theorem r_188_410 : sm_ic 188 410 = some (.iconst 2, 0, 0, 0) := by decide +kernel
theorem r_188_411 : sm_ic 188 411 = some (.iadd, 0, 0, 0) := by decide +kernel
theorem r_188_412 : sm_ic 188 412 = some (.iaload, 0, 0, 0) := by decide +kernel
theorem r_188_413 : sm_ic 188 413 = some (.invokevirtual 56, 83, 3, 538) := by decide +kernel
theorem r_188_416 : sm_ic 188 416 = some (.aload_n 2, 0, 0, 0) := by decide +kernel
theorem r_188_417 : sm_ic 188 417 = some (.aload_n 0, 0, 0, 0) := by decide +kernel
theorem r_188_418 : sm_ic 188 418 = some (.iload_n 3, 0, 0, 0) := by decide +kernel
theorem r_188_419 : sm_ic 188 419 = some (.iconst 1, 0, 0, 0) := by decide +kernel
theorem r_188_420 : sm_ic 188 420 = some (.iadd, 0, 0, 0) := by decide +kernel
theorem r_188_421 : sm_ic 188 421 = some (.iaload, 0, 0, 0) := by decide +kernel
theorem r_188_422 : sm_ic 188 422 = some (.aload_n 0, 0, 0, 0) := by decide +kernel
theorem r_188_423 : sm_ic 188 423 = some (.iload_n 3, 0, 0, 0) := by decide +kernel
theorem r_188_424 : sm_ic 188 424 = some (.iconst 2, 0, 0, 0) := by decide +kernel
theorem r_188_425 : sm_ic 188 425 = some (.iadd, 0, 0, 0) := by decide +kernel
theorem r_188_426 : sm_ic 188 426 = some (.iaload, 0, 0, 0) := by decide +kernel
theorem r_188_427 : sm_ic 188 427 = some (.invokevirtual 59, 161, 3, 931) := by decide +kernel
theorem r_188_430 : sm_ic 188 430 = some (.if_icmp .eq 485, 915, 0, 0) := by decide +kernel
theorem r_188_433 : sm_ic 188 433 = some (.iconst 0, 0, 0, 0) := by decide +kernel
theorem r_188_434 : sm_ic 188 434 = some (.ireturn, 0, 0, 0) := by decide +kernel
theorem r_188_435 : sm_ic 188 435 = some (.aload_n 1, 0, 0, 0) := by decide +kernel
theorem r_188_436 : sm_ic 188 436 = some (.aload_n 0, 0, 0, 0) := by decide +kernel
theorem r_188_437 : sm_ic 188 437 = some (.iload_n 3, 0, 0, 0) := by decide +kernel
theorem r_188_438 : sm_ic 188 438 = some (.iconst 1, 0, 0, 0) := by decide +kernel
theorem r_188_439 : sm_ic 188 439 = some (.iadd, 0, 0, 0) := by decide +kernel
theorem r_188_440 : sm_ic 188 440 = some (.iaload, 0, 0, 0) := by decide +kernel
theorem r_188_441 : sm_ic 188 441 = some (.aload_n 0, 0, 0, 0) := by decide +kernel
theorem r_188_442 : sm_ic 188 442 = some (.iload_n 3, 0, 0, 0) := by decide +kernel
theorem r_188_443 : sm_ic 188 443 = some (.iconst 2, 0, 0, 0) := by decide +kernel
theorem r_188_444 : sm_ic 188 444 = some (.iadd, 0, 0, 0) := by decide +kernel
theorem r_188_445 : sm_ic 188 445 = some (.iaload, 0, 0, 0) := by decide +kernel
theorem r_188_446 : sm_ic 188 446 = some (.invokevirtual 60, 88, 3, 558) := by decide +kernel
theorem r_188_449 : sm_ic 188 449 = some (.aload_n 2, 0, 0, 0) := by decide +kernel
theorem r_188_450 : sm_ic 188 450 = some (.aload_n 0, 0, 0, 0) := by decide +kernel
theorem r_188_451 : sm_ic 188 451 = some (.iload_n 3, 0, 0, 0) := by decide +kernel
theorem r_188_452 : sm_ic 188 452 = some (.iconst 1, 0, 0, 0) := by decide +kernel
theorem r_188_453 : sm_ic 188 453 = some (.iadd, 0, 0, 0) := by decide +kernel
theorem r_188_454 : sm_ic 188 454 = some (.iaload, 0, 0, 0) := by decide +kernel
theorem r_188_455 : sm_ic 188 455 = some (.aload_n 0, 0, 0, 0) := by decide +kernel
theorem r_188_456 : sm_ic 188 456 = some (.iload_n 3, 0, 0, 0) := by decide +kernel
theorem r_188_457 : sm_ic 188 457 = some (.iconst 2, 0, 0, 0) := by decide +kernel
theorem r_188_458 : sm_ic 188 458 = some (.iadd, 0, 0, 0) := by decide +kernel
theorem r_188_459 : sm_ic 188 459 = some (.iaload, 0, 0, 0) := by decide +kernel
theorem r_188_460 : sm_ic 188 460 = some (.invokevirtual 63, 163, 3, 939) := by decide +kernel
theorem r_188_463 : sm_ic 188 463 = some (.if_icmp .eq 452, 915, 0, 0) := by decide +kernel
theorem r_188_466 : sm_ic 188 466 = some (.iconst 0, 0, 0, 0) := by decide +kernel
theorem r_188_467 : sm_ic 188 467 = some (.ireturn, 0, 0, 0) := by decide +kernel
theorem r_188_468 : sm_ic 188 468 = some (.aload_n 1, 0, 0, 0) := by decide +kernel
theorem r_188_469 : sm_ic 188 469 = some (.aload_n 0, 0, 0, 0) := by decide +kernel
theorem r_188_470 : sm_ic 188 470 = some (.iload_n 3, 0, 0, 0) := by decide +kernel
theorem r_188_471 : sm_ic 188 471 = some (.iconst 1, 0, 0, 0) := by decide +kernel
theorem r_188_472 : sm_ic 188 472 = some (.iadd, 0, 0, 0) := by decide +kernel
theorem r_188_473 : sm_ic 188 473 = some (.iaload, 0, 0, 0) := by decide +kernel
theorem r_188_474 : sm_ic 188 474 = some (.aload_n 0, 0, 0, 0) := by decide +kernel
theorem r_188_475 : sm_ic 188 475 = some (.iload_n 3, 0, 0, 0) := by decide +kernel
theorem r_188_476 : sm_ic 188 476 = some (.iconst 2, 0, 0, 0) := by decide +kernel
theorem r_188_477 : sm_ic 188 477 = some (.iadd, 0, 0, 0) := by decide +kernel
theorem r_188_478 : sm_ic 188 478 = some (.iaload, 0, 0, 0) := by decide +kernel
theorem r_188_479 : sm_ic 188 479 = some (.invokevirtual 64, 92, 3, 575) := by decide +kernel
theorem r_188_482 : sm_ic 188 482 = some (.aload_n 2, 0, 0, 0) := by decide +kernel
theorem r_188_483 : sm_ic 188 483 = some (.aload_n 0, 0, 0, 0) := by decide +kernel
theorem r_188_484 : sm_ic 188 484 = some (.iload_n 3, 0, 0, 0) := by decide +kernel
theorem r_188_485 : sm_ic 188 485 = some (.iconst 1, 0, 0, 0) := by decide +kernel
theorem r_188_486 : sm_ic 188 486 = some (.iadd, 0, 0, 0) := by decide +kernel
theorem r_188_487 : sm_ic 188 487 = some (.iaload, 0, 0, 0) := by decide +kernel
theorem r_188_488 : sm_ic 188 488 = some (.aload_n 0, 0, 0, 0) := by decide +kernel
theorem r_188_489 : sm_ic 188 489 = some (.iload_n 3, 0, 0, 0) := by decide +kernel
theorem r_188_490 : sm_ic 188 490 = some (.iconst 2, 0, 0, 0) := by decide +kernel
theorem r_188_491 : sm_ic 188 491 = some (.iadd, 0, 0, 0) := by decide +kernel
theorem r_188_492 : sm_ic 188 492 = some (.iaload, 0, 0, 0) := by decide +kernel
theorem r_188_493 : sm_ic 188 493 = some (.invokevirtual 67, 166, 3, 951) := by decide +kernel
theorem r_188_496 : sm_ic 188 496 = some (.if_icmp .eq 419, 915, 0, 0) := by decide +kernel
theorem r_188_499 : sm_ic 188 499 = some (.iconst 0, 0, 0, 0) := by decide +kernel
theorem r_188_500 : sm_ic 188 500 = some (.ireturn, 0, 0, 0) := by decide +kernel
theorem r_188_501 : sm_ic 188 501 = some (.aload_n 1, 0, 0, 0) := by decide +kernel
theorem r_188_502 : sm_ic 188 502 = some (.aload_n 0, 0, 0, 0) := by decide +kernel
theorem r_188_503 : sm_ic 188 503 = some (.iload_n 3, 0, 0, 0) := by decide +kernel
theorem r_188_504 : sm_ic 188 504 = some (.iconst 1, 0, 0, 0) := by decide +kernel
theorem r_188_505 : sm_ic 188 505 = some (.iadd, 0, 0, 0) := by decide +kernel
theorem r_188_506 : sm_ic 188 506 = some (.iaload, 0, 0, 0) := by decide +kernel
theorem r_188_507 : sm_ic 188 507 = some (.invokevirtual 68, 93, 2, 580) := by decide +kernel
theorem r_188_510 : sm_ic 188 510 = some (.aload_n 2, 0, 0, 0) := by decide +kernel
theorem r_188_511 : sm_ic 188 511 = some (.aload_n 0, 0, 0, 0) := by decide +kernel
theorem r_188_512 : sm_ic 188 512 = some (.iload_n 3, 0, 0, 0) := by decide +kernel
theorem r_188_513 : sm_ic 188 513 = some (.iconst 1, 0, 0, 0) := by decide +kernel
theorem r_188_514 : sm_ic 188 514 = some (.iadd, 0, 0, 0) := by decide +kernel
theorem r_188_515 : sm_ic 188 515 = some (.iaload, 0, 0, 0) := by decide +kernel
theorem r_188_516 : sm_ic 188 516 = some (.invokevirtual 71, 167, 2, 955) := by decide +kernel
theorem r_188_519 : sm_ic 188 519 = some (.if_icmp .eq 396, 915, 0, 0) := by decide +kernel
theorem r_188_522 : sm_ic 188 522 = some (.iconst 0, 0, 0, 0) := by decide +kernel
theorem r_188_523 : sm_ic 188 523 = some (.ireturn, 0, 0, 0) := by decide +kernel
theorem r_188_524 : sm_ic 188 524 = some (.aload_n 1, 0, 0, 0) := by decide +kernel
theorem r_188_525 : sm_ic 188 525 = some (.aload_n 0, 0, 0, 0) := by decide +kernel
theorem r_188_526 : sm_ic 188 526 = some (.iload_n 3, 0, 0, 0) := by decide +kernel
theorem r_188_527 : sm_ic 188 527 = some (.iconst 1, 0, 0, 0) := by decide +kernel
theorem r_188_528 : sm_ic 188 528 = some (.iadd, 0, 0, 0) := by decide +kernel
theorem r_188_529 : sm_ic 188 529 = some (.iaload, 0, 0, 0) := by decide +kernel
theorem r_188_530 : sm_ic 188 530 = some (.invokevirtual 72, 95, 2, 587) := by decide +kernel
theorem r_188_533 : sm_ic 188 533 = some (.aload_n 2, 0, 0, 0) := by decide +kernel
theorem r_188_534 : sm_ic 188 534 = some (.aload_n 0, 0, 0, 0) := by decide +kernel
theorem r_188_535 : sm_ic 188 535 = some (.iload_n 3, 0, 0, 0) := by decide +kernel
theorem r_188_536 : sm_ic 188 536 = some (.iconst 1, 0, 0, 0) := by decide +kernel
theorem r_188_537 : sm_ic 188 537 = some (.iadd, 0, 0, 0) := by decide +kernel
theorem r_188_538 : sm_ic 188 538 = some (.iaload, 0, 0, 0) := by decide +kernel
theorem r_188_539 : sm_ic 188 539 = some (.invokevirtual 75, 168, 2, 959) := by decide +kernel
theorem r_188_542 : sm_ic 188 542 = some (.if_icmp .eq 373, 915, 0, 0) := by decide +kernel
theorem r_188_545 : sm_ic 188 545 = some (.iconst 0, 0, 0, 0) := by decide +kernel
theorem r_188_546 : sm_ic 188 546 = some (.ireturn, 0, 0, 0) := by decide +kernel
theorem r_188_547 : sm_ic 188 547 = some (.aload_n 1, 0, 0, 0) := by decide +kernel
theorem r_188_548 : sm_ic 188 548 = some (.invokevirtual 76, 97, 1, 596) := by decide +kernel
theorem r_188_551 : sm_ic 188 551 = some (.aload_n 2, 0, 0, 0) := by decide +kernel
theorem r_188_552 : sm_ic 188 552 = some (.invokevirtual 79, 169, 1, 963) := by decide +kernel
theorem r_188_555 : sm_ic 188 555 = some (.if_icmp .eq 360, 915, 0, 0) := by decide +kernel
theorem r_188_558 : sm_ic 188 558 = some (.iconst 0, 0, 0, 0) := by decide +kernel
theorem r_188_559 : sm_ic 188 559 = some (.ireturn, 0, 0, 0) := by decide +kernel
theorem r_188_560 : sm_ic 188 560 = some (.aload_n 1, 0, 0, 0) := by decide +kernel
theorem r_188_561 : sm_ic 188 561 = some (.aload_n 0, 0, 0, 0) := by decide +kernel
theorem r_188_562 : sm_ic 188 562 = some (.iload_n 3, 0, 0, 0) := by decide +kernel
theorem r_188_563 : sm_ic 188 563 = some (.iconst 1, 0, 0, 0) := by decide +kernel
theorem r_188_564 : sm_ic 188 564 = some (.iadd, 0, 0, 0) := by decide +kernel
theorem r_188_565 : sm_ic 188 565 = some (.iaload, 0, 0, 0) := by decide +kernel
theorem r_188_566 : sm_ic 188 566 = some (.invokevirtual 80, 100, 2, 608) := by decide +kernel
theorem r_188_569 : sm_ic 188 569 = some (.aload_n 2, 0, 0, 0) := by decide +kernel
theorem r_188_570 : sm_ic 188 570 = some (.aload_n 0, 0, 0, 0) := by decide +kernel
theorem r_188_571 : sm_ic 188 571 = some (.iload_n 3, 0, 0, 0) := by decide +kernel
theorem r_188_572 : sm_ic 188 572 = some (.iconst 1, 0, 0, 0) := by decide +kernel
theorem r_188_573 : sm_ic 188 573 = some (.iadd, 0, 0, 0) := by decide +kernel
theorem r_188_574 : sm_ic 188 574 = some (.iaload, 0, 0, 0) := by decide +kernel
theorem r_188_575 : sm_ic 188 575 = some (.invokevirtual 83, 170, 2, 967) := by decide +kernel
theorem r_188_578 : sm_ic 188 578 = some (.if_icmp .eq 337, 915, 0, 0) := by decide +kernel
theorem r_188_581 : sm_ic 188 581 = some (.iconst 0, 0, 0, 0) := by decide +kernel
theorem r_188_582 : sm_ic 188 582 = some (.ireturn, 0, 0, 0) := by decide +kernel
theorem r_188_583 : sm_ic 188 583 = some (.aload_n 1, 0, 0, 0) := by decide +kernel
theorem r_188_584 : sm_ic 188 584 = some (.aload_n 0, 0, 0, 0) := by decide +kernel
theorem r_188_585 : sm_ic 188 585 = some (.iload_n 3, 0, 0, 0) := by decide +kernel
theorem r_188_586 : sm_ic 188 586 = some (.iconst 1, 0, 0, 0) := by decide +kernel
theorem r_188_587 : sm_ic 188 587 = some (.iadd, 0, 0, 0) := by decide +kernel
theorem r_188_588 : sm_ic 188 588 = some (.iaload, 0, 0, 0) := by decide +kernel
theorem r_188_589 : sm_ic 188 589 = some (.invokevirtual 84, 101, 2, 612) := by decide +kernel
theorem r_188_592 : sm_ic 188 592 = some (.aload_n 2, 0, 0, 0) := by decide +kernel
theorem r_188_593 : sm_ic 188 593 = some (.aload_n 0, 0, 0, 0) := by decide +kernel
theorem r_188_594 : sm_ic 188 594 = some (.iload_n 3, 0, 0, 0) := by decide +kernel
theorem r_188_595 : sm_ic 188 595 = some (.iconst 1, 0, 0, 0) := by decide +kernel
theorem r_188_596 : sm_ic 188 596 = some (.iadd, 0, 0, 0) := by decide +kernel
theorem r_188_597 : sm_ic 188 597 = some (.iaload, 0, 0, 0) := by decide +kernel
theorem r_188_598 : sm_ic 188 598 = some (.invokevirtual 87, 172, 2, 975) := by decide +kernel
theorem r_188_601 : sm_ic 188 601 = some (.if_icmp .eq 314, 915, 0, 0) := by decide +kernel
theorem r_188_604 : sm_ic 188 604 = some (.iconst 0, 0, 0, 0) := by decide +kernel
theorem r_188_605 : sm_ic 188 605 = some (.ireturn, 0, 0, 0) := by decide +kernel
theorem r_188_606 : sm_ic 188 606 = some (.aload_n 1, 0, 0, 0) := by decide +kernel
theorem r_188_607 : sm_ic 188 607 = some (.invokevirtual 88, 102, 1, 617) := by decide +kernel
theorem r_188_610 : sm_ic 188 610 = some (.aload_n 2, 0, 0, 0) := by decide +kernel
theorem r_188_611 : sm_ic 188 611 = some (.invokevirtual 91, 173, 1, 979) := by decide +kernel
theorem r_188_614 : sm_ic 188 614 = some (.if_icmp .eq 301, 915, 0, 0) := by decide +kernel
theorem r_188_617 : sm_ic 188 617 = some (.iconst 0, 0, 0, 0) := by decide +kernel
theorem r_188_618 : sm_ic 188 618 = some (.ireturn, 0, 0, 0) := by decide +kernel
theorem r_188_619 : sm_ic 188 619 = some (.aload_n 1, 0, 0, 0) := by decide +kernel
theorem r_188_620 : sm_ic 188 620 = some (.aload_n 0, 0, 0, 0) := by decide +kernel
theorem r_188_621 : sm_ic 188 621 = some (.iload_n 3, 0, 0, 0) := by decide +kernel
theorem r_188_622 : sm_ic 188 622 = some (.iconst 1, 0, 0, 0) := by decide +kernel
theorem r_188_623 : sm_ic 188 623 = some (.iadd, 0, 0, 0) := by decide +kernel
theorem r_188_624 : sm_ic 188 624 = some (.iaload, 0, 0, 0) := by decide +kernel
theorem r_188_625 : sm_ic 188 625 = some (.invokevirtual 92, 104, 2, 628) := by decide +kernel
theorem r_188_628 : sm_ic 188 628 = some (.aload_n 2, 0, 0, 0) := by decide +kernel
theorem r_188_629 : sm_ic 188 629 = some (.aload_n 0, 0, 0, 0) := by decide +kernel
theorem r_188_630 : sm_ic 188 630 = some (.iload_n 3, 0, 0, 0) := by decide +kernel
theorem r_188_631 : sm_ic 188 631 = some (.iconst 1, 0, 0, 0) := by decide +kernel
theorem r_188_632 : sm_ic 188 632 = some (.iadd, 0, 0, 0) := by decide +kernel
theorem r_188_633 : sm_ic 188 633 = some (.iaload, 0, 0, 0) := by decide +kernel
theorem r_188_634 : sm_ic 188 634 = some (.invokevirtual 95, 174, 2, 983) := by decide +kernel
theorem r_188_637 : sm_ic 188 637 = some (.if_icmp .eq 278, 915, 0, 0) := by decide +kernel
theorem r_188_640 : sm_ic 188 640 = some (.iconst 0, 0, 0, 0) := by decide +kernel
theorem r_188_641 : sm_ic 188 641 = some (.ireturn, 0, 0, 0) := by decide +kernel
theorem r_188_642 : sm_ic 188 642 = some (.aload_n 1, 0, 0, 0) := by decide +kernel
theorem r_188_643 : sm_ic 188 643 = some (.aload_n 0, 0, 0, 0) := by decide +kernel
theorem r_188_644 : sm_ic 188 644 = some (.iload_n 3, 0, 0, 0) := by decide +kernel
theorem r_188_645 : sm_ic 188 645 = some (.iconst 1, 0, 0, 0) := by decide +kernel
theorem r_188_646 : sm_ic 188 646 = some (.iadd, 0, 0, 0) := by decide +kernel
theorem r_188_647 : sm_ic 188 647 = some (.iaload, 0, 0, 0) := by decide +kernel
theorem r_188_648 : sm_ic 188 648 = some (.aload_n 0, 0, 0, 0) := by decide +kernel
theorem r_188_649 : sm_ic 188 649 = some (.iload_n 3, 0, 0, 0) := by decide +kernel
theorem r_188_650 : sm_ic 188 650 = some (.iconst 2, 0, 0, 0) := by decide +kernel
theorem r_188_651 : sm_ic 188 651 = some (.iadd, 0, 0, 0) := by decide +kernel
theorem r_188_652 : sm_ic 188 652 = some (.iaload, 0, 0, 0) := by decide +kernel
theorem r_188_653 : sm_ic 188 653 = some (.invokevirtual 96, 105, 3, 633) := by decide +kernel
theorem r_188_656 : sm_ic 188 656 = some (.aload_n 2, 0, 0, 0) := by decide +kernel
theorem r_188_657 : sm_ic 188 657 = some (.aload_n 0, 0, 0, 0) := by decide +kernel
theorem r_188_658 : sm_ic 188 658 = some (.iload_n 3, 0, 0, 0) := by decide +kernel
theorem r_188_659 : sm_ic 188 659 = some (.iconst 1, 0, 0, 0) := by decide +kernel
theorem r_188_660 : sm_ic 188 660 = some (.iadd, 0, 0, 0) := by decide +kernel
theorem r_188_661 : sm_ic 188 661 = some (.iaload, 0, 0, 0) := by decide +kernel
theorem r_188_662 : sm_ic 188 662 = some (.aload_n 0, 0, 0, 0) := by decide +kernel
theorem r_188_663 : sm_ic 188 663 = some (.iload_n 3, 0, 0, 0) := by decide +kernel
theorem r_188_664 : sm_ic 188 664 = some (.iconst 2, 0, 0, 0) := by decide +kernel
theorem r_188_665 : sm_ic 188 665 = some (.iadd, 0, 0, 0) := by decide +kernel
theorem r_188_666 : sm_ic 188 666 = some (.iaload, 0, 0, 0) := by decide +kernel
theorem r_188_667 : sm_ic 188 667 = some (.invokevirtual 99, 175, 3, 987) := by decide +kernel
theorem r_188_670 : sm_ic 188 670 = some (.if_icmp .eq 245, 915, 0, 0) := by decide +kernel
theorem r_188_673 : sm_ic 188 673 = some (.iconst 0, 0, 0, 0) := by decide +kernel
theorem r_188_674 : sm_ic 188 674 = some (.ireturn, 0, 0, 0) := by decide +kernel
theorem r_188_675 : sm_ic 188 675 = some (.aload_n 1, 0, 0, 0) := by decide +kernel
theorem r_188_676 : sm_ic 188 676 = some (.aload_n 0, 0, 0, 0) := by decide +kernel
theorem r_188_677 : sm_ic 188 677 = some (.iload_n 3, 0, 0, 0) := by decide +kernel
theorem r_188_678 : sm_ic 188 678 = some (.iconst 1, 0, 0, 0) := by decide +kernel
theorem r_188_679 : sm_ic 188 679 = some (.iadd, 0, 0, 0) := by decide +kernel
theorem r_188_680 : sm_ic 188 680 = some (.iaload, 0, 0, 0) := by decide +kernel
theorem r_188_681 : sm_ic 188 681 = some (.invokevirtual 100, 106, 2, 637) := by decide +kernel
theorem r_188_684 : sm_ic 188 684 = some (.aload_n 2, 0, 0, 0) := by decide +kernel
theorem r_188_685 : sm_ic 188 685 = some (.aload_n 0, 0, 0, 0) := by decide +kernel
theorem r_188_686 : sm_ic 188 686 = some (.iload_n 3, 0, 0, 0) := by decide +kernel
theorem r_188_687 : sm_ic 188 687 = some (.iconst 1, 0, 0, 0) := by decide +kernel
theorem r_188_688 : sm_ic 188 688 = some (.iadd, 0, 0, 0) := by decide +kernel
theorem r_188_689 : sm_ic 188 689 = some (.iaload, 0, 0, 0) := by decide +kernel
theorem r_188_690 : sm_ic 188 690 = some (.invokevirtual 103, 176, 2, 991) := by decide +kernel
theorem r_188_693 : sm_ic 188 693 = some (.if_icmp .eq 222, 915, 0, 0) := by decide +kernel
theorem r_188_696 : sm_ic 188 696 = some (.iconst 0, 0, 0, 0) := by decide +kernel
theorem r_188_697 : sm_ic 188 697 = some (.ireturn, 0, 0, 0) := by decide +kernel
theorem r_188_698 : sm_ic 188 698 = some (.aload_n 1, 0, 0, 0) := by decide +kernel
theorem r_188_699 : sm_ic 188 699 = some (.aload_n 0, 0, 0, 0) := by decide +kernel
theorem r_188_700 : sm_ic 188 700 = some (.iload_n 3, 0, 0, 0) := by decide +kernel
theorem r_188_701 : sm_ic 188 701 = some (.iconst 1, 0, 0, 0) := by decide +kernel
theorem r_188_702 : sm_ic 188 702 = some (.iadd, 0, 0, 0) := by decide +kernel
theorem r_188_703 : sm_ic 188 703 = some (.iaload, 0, 0, 0) := by decide +kernel
theorem r_188_704 : sm_ic 188 704 = some (.aload_n 0, 0, 0, 0) := by decide +kernel
theorem r_188_705 : sm_ic 188 705 = some (.iload_n 3, 0, 0, 0) := by decide +kernel
theorem r_188_706 : sm_ic 188 706 = some (.iconst 2, 0, 0, 0) := by decide +kernel
theorem r_188_707 : sm_ic 188 707 = some (.iadd, 0, 0, 0) := by decide +kernel
theorem r_188_708 : sm_ic 188 708 = some (.iaload, 0, 0, 0) := by decide +kernel
theorem r_188_709 : sm_ic 188 709 = some (.invokevirtual 104, 107, 3, 641) := by decide +kernel
theorem r_188_712 : sm_ic 188 712 = some (.aload_n 2, 0, 0, 0) := by decide +kernel
theorem r_188_713 : sm_ic 188 713 = some (.aload_n 0, 0, 0, 0) := by decide +kernel
theorem r_188_714 : sm_ic 188 714 = some (.iload_n 3, 0, 0, 0) := by decide +kernel
theorem r_188_715 : sm_ic 188 715 = some (.iconst 1, 0, 0, 0) := by decide +kernel
theorem r_188_716 : sm_ic 188 716 = some (.iadd, 0, 0, 0) := by decide +kernel
theorem r_188_717 : sm_ic 188 717 = some (.iaload, 0, 0, 0) := by decide +kernel
theorem r_188_718 : sm_ic 188 718 = some (.aload_n 0, 0, 0, 0) := by decide +kernel
theorem r_188_719 : sm_ic 188 719 = some (.iload_n 3, 0, 0, 0) := by decide +kernel
theorem r_188_720 : sm_ic 188 720 = some (.iconst 2, 0, 0, 0) := by decide +kernel
theorem r_188_721 : sm_ic 188 721 = some (.iadd, 0, 0, 0) := by decide +kernel
theorem r_188_722 : sm_ic 188 722 = some (.iaload, 0, 0, 0) := by decide +kernel
theorem r_188_723 : sm_ic 188 723 = some (.invokevirtual 107, 177, 3, 995) := by decide +kernel
theorem r_188_726 : sm_ic 188 726 = some (.if_icmp .eq 189, 915, 0, 0) := by decide +kernel
theorem r_188_729 : sm_ic 188 729 = some (.iconst 0, 0, 0, 0) := by decide +kernel
theorem r_188_730 : sm_ic 188 730 = some (.ireturn, 0, 0, 0) := by decide +kernel
theorem r_188_731 : sm_ic 188 731 = some (.aload_n 1, 0, 0, 0) := by decide +kernel
theorem r_188_732 : sm_ic 188 732 = some (.invokevirtual 108, 110, 1, 653) := by decide +kernel
theorem r_188_735 : sm_ic 188 735 = some (.aload_n 2, 0, 0, 0) := by decide +kernel
theorem r_188_736 : sm_ic 188 736 = some (.invokevirtual 111, 178, 1, 999) := by decide +kernel
theorem r_188_739 : sm_ic 188 739 = some (.if_icmp .eq 176, 915, 0, 0) := by decide +kernel
theorem r_188_742 : sm_ic 188 742 = some (.iconst 0, 0, 0, 0) := by decide +kernel
theorem r_188_743 : sm_ic 188 743 = some (.ireturn, 0, 0, 0) := by decide +kernel
theorem r_188_744 : sm_ic 188 744 = some (.aload_n 1, 0, 0, 0) := by decide +kernel
theorem r_188_745 : sm_ic 188 745 = some (.aload_n 0, 0, 0, 0) := by decide +kernel
theorem r_188_746 : sm_ic 188 746 = some (.iload_n 3, 0, 0, 0) := by decide +kernel
theorem r_188_747 : sm_ic 188 747 = some (.iconst 1, 0, 0, 0) := by decide +kernel
theorem r_188_748 : sm_ic 188 748 = some (.iadd, 0, 0, 0) := by decide +kernel
theorem r_188_749 : sm_ic 188 749 = some (.iaload, 0, 0, 0) := by decide +kernel
theorem r_188_750 : sm_ic 188 750 = some (.invokevirtual 112, 111, 2, 657) := by decide +kernel
theorem r_188_753 : sm_ic 188 753 = some (.aload_n 2, 0, 0, 0) := by decide +kernel
theorem r_188_754 : sm_ic 188 754 = some (.aload_n 0, 0, 0, 0) := by decide +kernel
theorem r_188_755 : sm_ic 188 755 = some (.iload_n 3, 0, 0, 0) := by decide +kernel
theorem r_188_756 : sm_ic 188 756 = some (.iconst 1, 0, 0, 0) := by decide +kernel
theorem r_188_757 : sm_ic 188 757 = some (.iadd, 0, 0, 0) := by decide +kernel
theorem r_188_758 : sm_ic 188 758 = some (.iaload, 0, 0, 0) := by decide +kernel
theorem r_188_759 : sm_ic 188 759 = some (.invokevirtual 115, 179, 2, 1003) := by decide +kernel
theorem r_188_762 : sm_ic 188 762 = some (.if_icmp .eq 153, 915, 0, 0) := by decide +kernel
theorem r_188_765 : sm_ic 188 765 = some (.iconst 0, 0, 0, 0) := by decide +kernel
theorem r_188_766 : sm_ic 188 766 = some (.ireturn, 0, 0, 0) := by decide +kernel
theorem r_188_767 : sm_ic 188 767 = some (.aload_n 1, 0, 0, 0) := by decide +kernel
theorem r_188_768 : sm_ic 188 768 = some (.aload_n 0, 0, 0, 0) := by decide +kernel
theorem r_188_769 : sm_ic 188 769 = some (.iload_n 3, 0, 0, 0) := by decide +kernel
theorem r_188_770 : sm_ic 188 770 = some (.iconst 1, 0, 0, 0) := by decide +kernel
theorem r_188_771 : sm_ic 188 771 = some (.iadd, 0, 0, 0) := by decide +kernel
theorem r_188_772 : sm_ic 188 772 = some (.iaload, 0, 0, 0) := by decide +kernel
theorem r_188_773 : sm_ic 188 773 = some (.aload_n 0, 0, 0, 0) := by decide +kernel
theorem r_188_774 : sm_ic 188 774 = some (.iload_n 3, 0, 0, 0) := by decide +kernel
theorem r_188_775 : sm_ic 188 775 = some (.iconst 2, 0, 0, 0) := by decide +kernel
theorem r_188_776 : sm_ic 188 776 = some (.iadd, 0, 0, 0) := by decide +kernel
theorem r_188_777 : sm_ic 188 777 = some (.iaload, 0, 0, 0) := by decide +kernel
theorem r_188_778 : sm_ic 188 778 = some (.invokevirtual 116, 115, 3, 673) := by decide +kernel
theorem r_188_781 : sm_ic 188 781 = some (.aload_n 2, 0, 0, 0) := by decide +kernel
theorem r_188_782 : sm_ic 188 782 = some (.aload_n 0, 0, 0, 0) := by decide +kernel
theorem r_188_783 : sm_ic 188 783 = some (.iload_n 3, 0, 0, 0) := by decide +kernel
theorem r_188_784 : sm_ic 188 784 = some (.iconst 1, 0, 0, 0) := by decide +kernel
theorem r_188_785 : sm_ic 188 785 = some (.iadd, 0, 0, 0) := by decide +kernel
theorem r_188_786 : sm_ic 188 786 = some (.iaload, 0, 0, 0) := by decide +kernel
theorem r_188_787 : sm_ic 188 787 = some (.aload_n 0, 0, 0, 0) := by decide +kernel
theorem r_188_788 : sm_ic 188 788 = some (.iload_n 3, 0, 0, 0) := by decide +kernel
theorem r_188_789 : sm_ic 188 789 = some (.iconst 2, 0, 0, 0) := by decide +kernel
theorem r_188_790 : sm_ic 188 790 = some (.iadd, 0, 0, 0) := by decide +kernel
theorem r_188_791 : sm_ic 188 791 = some (.iaload, 0, 0, 0) := by decide +kernel
theorem r_188_792 : sm_ic 188 792 = some (.invokevirtual 119, 180, 3, 1007) := by decide +kernel
theorem r_188_795 : sm_ic 188 795 = some (.if_icmp .eq 120, 915, 0, 0) := by decide +kernel
theorem r_188_798 : sm_ic 188 798 = some (.iconst 0, 0, 0, 0) := by decide +kernel
theorem r_188_799 : sm_ic 188 799 = some (.ireturn, 0, 0, 0) := by decide +kernel
theorem r_188_800 : sm_ic 188 800 = some (.aload_n 1, 0, 0, 0) := by decide +kernel
theorem r_188_801 : sm_ic 188 801 = some (.aload_n 0, 0, 0, 0) := by decide +kernel
theorem r_188_802 : sm_ic 188 802 = some (.iload_n 3, 0, 0, 0) := by decide +kernel
theorem r_188_803 : sm_ic 188 803 = some (.iconst 1, 0, 0, 0) := by decide +kernel
theorem r_188_804 : sm_ic 188 804 = some (.iadd, 0, 0, 0) := by decide +kernel
theorem r_188_805 : sm_ic 188 805 = some (.iaload, 0, 0, 0) := by decide +kernel
theorem r_188_806 : sm_ic 188 806 = some (.invokevirtual 120, 120, 2, 691) := by decide +kernel
theorem r_188_809 : sm_ic 188 809 = some (.aload_n 2, 0, 0, 0) := by decide +kernel
theorem r_188_810 : sm_ic 188 810 = some (.aload_n 0, 0, 0, 0) := by decide +kernel
theorem r_188_811 : sm_ic 188 811 = some (.iload_n 3, 0, 0, 0) := by decide +kernel
theorem r_188_812 : sm_ic 188 812 = some (.iconst 1, 0, 0, 0) := by decide +kernel
theorem r_188_813 : sm_ic 188 813 = some (.iadd, 0, 0, 0) := by decide +kernel
theorem r_188_814 : sm_ic 188 814 = some (.iaload, 0, 0, 0) := by decide +kernel
theorem r_188_815 : sm_ic 188 815 = some (.invokevirtual 123, 182, 2, 1014) := by decide +kernel
theorem r_188_818 : sm_ic 188 818 = some (.if_icmp .eq 97, 915, 0, 0) := by decide +kernel
theorem r_188_821 : sm_ic 188 821 = some (.iconst 0, 0, 0, 0) := by decide +kernel
theorem r_188_822 : sm_ic 188 822 = some (.ireturn, 0, 0, 0) := by decide +kernel
theorem r_188_823 : sm_ic 188 823 = some (.aload_n 1, 0, 0, 0) := by decide +kernel
theorem r_188_824 : sm_ic 188 824 = some (.aload_n 0, 0, 0, 0) := by decide +kernel
theorem r_188_825 : sm_ic 188 825 = some (.iload_n 3, 0, 0, 0) := by decide +kernel
theorem r_188_826 : sm_ic 188 826 = some (.iconst 1, 0, 0, 0) := by decide +kernel
theorem r_188_827 : sm_ic 188 827 = some (.iadd, 0, 0, 0) := by decide +kernel
theorem r_188_828 : sm_ic 188 828 = some (.iaload, 0, 0, 0) := by decide +kernel
theorem r_188_829 : sm_ic 188 829 = some (.aload_n 0, 0, 0, 0) := by decide +kernel
theorem r_188_830 : sm_ic 188 830 = some (.iload_n 3, 0, 0, 0) := by decide +kernel
theorem r_188_831 : sm_ic 188 831 = some (.iconst 2, 0, 0, 0) := by decide +kernel
theorem r_188_832 : sm_ic 188 832 = some (.iadd, 0, 0, 0) := by decide +kernel
theorem r_188_833 : sm_ic 188 833 = some (.iaload, 0, 0, 0) := by decide +kernel
theorem r_188_834 : sm_ic 188 834 = some (.aload_n 0, 0, 0, 0) := by decide +kernel
theorem r_188_835 : sm_ic 188 835 = some (.iload_n 3, 0, 0, 0) := by decide +kernel
theorem r_188_836 : sm_ic 188 836 = some (.iconst 3, 0, 0, 0) := by decide +kernel
theorem r_188_837 : sm_ic 188 837 = some (.iadd, 0, 0, 0) := by decide +kernel
theorem r_188_838 : sm_ic 188 838 = some (.iaload, 0, 0, 0) := by decide +kernel
theorem r_188_839 : sm_ic 188 839 = some (.invokevirtual 124, 121, 4, 695) := by decide +kernel
theorem r_188_842 : sm_ic 188 842 = some (.aload_n 2, 0, 0, 0) := by decide +kernel
theorem r_188_843 : sm_ic 188 843 = some (.aload_n 0, 0, 0, 0) := by decide +kernel
theorem r_188_844 : sm_ic 188 844 = some (.iload_n 3, 0, 0, 0) := by decide +kernel
theorem r_188_845 : sm_ic 188 845 = some (.iconst 1, 0, 0, 0) := by decide +kernel
theorem r_188_846 : sm_ic 188 846 = some (.iadd, 0, 0, 0) := by decide +kernel
theorem r_188_847 : sm_ic 188 847 = some (.iaload, 0, 0, 0) := by decide +kernel
theorem r_188_848 : sm_ic 188 848 = some (.aload_n 0, 0, 0, 0) := by decide +kernel
theorem r_188_849 : sm_ic 188 849 = some (.iload_n 3, 0, 0, 0) := by decide +kernel
theorem r_188_850 : sm_ic 188 850 = some (.iconst 2, 0, 0, 0) := by decide +kernel
theorem r_188_851 : sm_ic 188 851 = some (.iadd, 0, 0, 0) := by decide +kernel
theorem r_188_852 : sm_ic 188 852 = some (.iaload, 0, 0, 0) := by decide +kernel
theorem r_188_853 : sm_ic 188 853 = some (.aload_n 0, 0, 0, 0) := by decide +kernel
theorem r_188_854 : sm_ic 188 854 = some (.iload_n 3, 0, 0, 0) := by decide +kernel
theorem r_188_855 : sm_ic 188 855 = some (.iconst 3, 0, 0, 0) := by decide +kernel
theorem r_188_856 : sm_ic 188 856 = some (.iadd, 0, 0, 0) := by decide +kernel
theorem r_188_857 : sm_ic 188 857 = some (.iaload, 0, 0, 0) := by decide +kernel
theorem r_188_858 : sm_ic 188 858 = some (.invokevirtual 128, 183, 4, 1018) := by decide +kernel
theorem r_188_861 : sm_ic 188 861 = some (.if_icmp .eq 54, 915, 0, 0) := by decide +kernel
theorem r_188_864 : sm_ic 188 864 = some (.iconst 0, 0, 0, 0) := by decide +kernel
theorem r_188_865 : sm_ic 188 865 = some (.ireturn, 0, 0, 0) := by decide +kernel
theorem r_188_866 : sm_ic 188 866 = some (.aload_n 1, 0, 0, 0) := by decide +kernel
theorem r_188_867 : sm_ic 188 867 = some (.invokevirtual 129, 123, 1, 705) := by decide +kernel
theorem r_188_870 : sm_ic 188 870 = some (.aload_n 2, 0, 0, 0) := by decide +kernel
theorem r_188_871 : sm_ic 188 871 = some (.invokevirtual 132, 184, 1, 1027) := by decide +kernel
theorem r_188_874 : sm_ic 188 874 = some (.if_icmp .eq 41, 915, 0, 0) := by decide +kernel
theorem r_188_877 : sm_ic 188 877 = some (.iconst 0, 0, 0, 0) := by decide +kernel
theorem r_188_878 : sm_ic 188 878 = some (.ireturn, 0, 0, 0) := by decide +kernel
theorem r_188_879 : sm_ic 188 879 = some (.aload_n 1, 0, 0, 0) := by decide +kernel
theorem r_188_880 : sm_ic 188 880 = some (.invokevirtual 133, 124, 1, 709) := by decide +kernel
theorem r_188_883 : sm_ic 188 883 = some (.aload_n 2, 0, 0, 0) := by decide +kernel
theorem r_188_884 : sm_ic 188 884 = some (.invokevirtual 136, 185, 1, 1031) := by decide +kernel
theorem r_188_887 : sm_ic 188 887 = some (.if_icmp .eq 28, 915, 0, 0) := by decide +kernel
theorem r_188_890 : sm_ic 188 890 = some (.iconst 0, 0, 0, 0) := by decide +kernel
theorem r_188_891 : sm_ic 188 891 = some (.ireturn, 0, 0, 0) := by decide +kernel
theorem r_188_892 : sm_ic 188 892 = some (.aload_n 1, 0, 0, 0) := by decide +kernel
theorem r_188_893 : sm_ic 188 893 = some (.aload_n 0, 0, 0, 0) := by decide +kernel
theorem r_188_894 : sm_ic 188 894 = some (.iload_n 3, 0, 0, 0) := by decide +kernel
theorem r_188_895 : sm_ic 188 895 = some (.iconst 1, 0, 0, 0) := by decide +kernel
theorem r_188_896 : sm_ic 188 896 = some (.iadd, 0, 0, 0) := by decide +kernel
theorem r_188_897 : sm_ic 188 897 = some (.iaload, 0, 0, 0) := by decide +kernel
theorem r_188_898 : sm_ic 188 898 = some (.invokevirtual 137, 125, 2, 713) := by decide +kernel
theorem r_188_901 : sm_ic 188 901 = some (.aload_n 2, 0, 0, 0) := by decide +kernel
theorem r_188_902 : sm_ic 188 902 = some (.aload_n 0, 0, 0, 0) := by decide +kernel
theorem r_188_903 : sm_ic 188 903 = some (.iload_n 3, 0, 0, 0) := by decide +kernel
theorem r_188_904 : sm_ic 188 904 = some (.iconst 1, 0, 0, 0) := by decide +kernel
theorem r_188_905 : sm_ic 188 905 = some (.iadd, 0, 0, 0) := by decide +kernel
theorem r_188_906 : sm_ic 188 906 = some (.iaload, 0, 0, 0) := by decide +kernel
theorem r_188_907 : sm_ic 188 907 = some (.invokevirtual 140, 186, 2, 1035) := by decide +kernel
theorem r_188_910 : sm_ic 188 910 = some (.if_icmp .eq 5, 915, 0, 0) := by decide +kernel
theorem r_188_913 : sm_ic 188 913 = some (.iconst 0, 0, 0, 0) := by decide +kernel
theorem r_188_914 : sm_ic 188 914 = some (.ireturn, 0, 0, 0) := by decide +kernel
theorem r_188_915 : sm_ic 188 915 = some (.iinc 3 4, 0, 0, 0) := by decide +kernel
theorem r_188_918 : sm_ic 188 918 = some (.goto (-900), 18, 0, 0) := by decide +kernel
theorem r_188_921 : sm_ic 188 921 = some (.iconst 1, 0, 0, 0) := by decide +kernel
theorem r_188_922 : sm_ic 188 922 = some (.ireturn, 0, 0, 0) := by decide +kernel
end
section
/-! rows on bits, shifts and unsigned numbers, to paste: each family out of a closed proof of our own, whole with what it rests on; each by itself clean at Lean in its own claim (generation 39, form 5). Take a family whole -/
/-! ===== Int32 by its bits: bt x i ===== -/
def bt (x : Int32) (i : Nat) : Bool := x.toBitVec.getLsbD i
theorem b_ext {x y : Int32} (h : ∀ i, i < 32 → bt x i = bt y i) : x = y := Int32.toBitVec_inj.mp (BitVec.eq_of_getLsbD_eq (fun i hi => h i hi))
theorem b_or (x y : Int32) (i : Nat) : bt (x ||| y) i = (bt x i || bt y i) := by unfold bt; rw [Int32.toBitVec_or, BitVec.getLsbD_or]
theorem b_and (x y : Int32) (i : Nat) : bt (x &&& y) i = (bt x i && bt y i) := by unfold bt; rw [Int32.toBitVec_and, BitVec.getLsbD_and]
theorem b_xor (x y : Int32) (i : Nat) : bt (x ^^^ y) i = (bt x i ^^ bt y i) := by unfold bt; rw [Int32.toBitVec_xor, BitVec.getLsbD_xor]
theorem b_big {x : Int32} {i : Nat} (h : 32 ≤ i) : bt x i = false := BitVec.getLsbD_of_ge _ _ h
theorem b_255 (i : Nat) : bt 255 i = decide (i < 8) := by
  rcases Nat.lt_or_ge i 32 with h | h
  · exact (by decide +kernel : ∀ i, i < 32 → bt 255 i = decide (i < 8)) i h
  · rw [b_big h, decide_eq_false (by omega)]
theorem b_65535 (i : Nat) : bt 65535 i = decide (i < 16) := by
  rcases Nat.lt_or_ge i 32 with h | h
  · exact (by decide +kernel : ∀ i, i < 32 → bt 65535 i = decide (i < 16)) i h
  · rw [b_big h, decide_eq_false (by omega)]
theorem b_m1 : ∀ i, i < 32 → bt (-1) i = true := by decide +kernel
theorem b_0 (i : Nat) : bt 0 i = false := BitVec.getLsbD_zero
theorem s_l : ∀ n, n < 32 → ((nI n &&& 31).toBitVec.smod 32).toNat = n := by decide +kernel
theorem s_u : ∀ n, n < 32 → (((nI n).toUInt32 &&& Int32.toUInt32 31).toBitVec % 32).toNat = n := by decide +kernel
theorem b_shl (n : Nat) (hn : n < 32) (x : Int32) {i : Nat} (hi : i < 32) : bt (x <<< (nI n &&& 31)) i = (decide (n ≤ i) && bt x (i - n)) := by
  unfold bt
  rw [Int32.toBitVec_shiftLeft]
  show (x.toBitVec <<< ((nI n &&& 31).toBitVec.smod 32).toNat).getLsbD i = _
  rw [s_l n hn, BitVec.getLsbD_shiftLeft]
  rcases Nat.lt_or_ge i n with h | h
  · simp [h, Nat.not_le.mpr h]
  · simp [hi, h, Nat.not_lt.mpr h]
theorem b_ushr (n : Nat) (hn : n < 32) (x : Int32) (i : Nat) : bt ((x.toUInt32 >>> ((nI n).toUInt32 &&& Int32.toUInt32 31)).toInt32) i = bt x (n + i) := by
  show (x.toUInt32 >>> ((nI n).toUInt32 &&& Int32.toUInt32 31)).toBitVec.getLsbD i = x.toUInt32.toBitVec.getLsbD (n + i)
  rw [UInt32.toBitVec_shiftRight]
  show (x.toUInt32.toBitVec >>> (((nI n).toUInt32 &&& Int32.toUInt32 31).toBitVec % 32).toNat).getLsbD i = _
  rw [s_u n hn, BitVec.getLsbD_ushiftRight]
theorem b_sshr (n : Nat) (hn : n < 32) (x : Int32) {i : Nat} (hi : i < 32) : bt (x >>> (nI n &&& 31)) i = if n + i < 32 then bt x (n + i) else bt x 31 := by
  unfold bt
  rw [Int32.toBitVec_shiftRight]
  show (x.toBitVec.sshiftRight ((nI n &&& 31).toBitVec.smod 32).toNat).getLsbD i = _
  rw [s_l n hn, BitVec.getLsbD_sshiftRight, BitVec.msb_eq_getLsbD_last]
  simp [hi]
theorem b_shl8 (x : Int32) {i : Nat} (hi : i < 32) : bt (x <<< ((8 : Int32) &&& 31)) i = (decide (8 ≤ i) && bt x (i - 8)) := b_shl 8 (by omega) x hi
theorem b_shl16 (x : Int32) {i : Nat} (hi : i < 32) : bt (x <<< ((16 : Int32) &&& 31)) i = (decide (16 ≤ i) && bt x (i - 16)) := b_shl 16 (by omega) x hi
theorem b_shl24 (x : Int32) {i : Nat} (hi : i < 32) : bt (x <<< ((24 : Int32) &&& 31)) i = (decide (24 ≤ i) && bt x (i - 24)) := b_shl 24 (by omega) x hi
theorem b_sshr8 (x : Int32) {i : Nat} (hi : i < 32) : bt (x >>> ((8 : Int32) &&& 31)) i = if 8 + i < 32 then bt x (8 + i) else bt x 31 := b_sshr 8 (by omega) x hi
/-! ===== nI under and, xor, >>>, one bit, 65535 ===== -/
theorem nx_and (a b : Nat) : nI a &&& nI b = nI (a &&& b) := by
  apply Int32.toBitVec_inj.1
  show BitVec.ofNat 32 a &&& BitVec.ofNat 32 b = BitVec.ofNat 32 (a &&& b)
  apply BitVec.eq_of_getLsbD_eq
  intro i hi
  simp [hi]
theorem nx_xor (a b : Nat) : nI a ^^^ nI b = nI (a ^^^ b) := by
  apply Int32.toBitVec_inj.1
  show BitVec.ofNat 32 a ^^^ BitVec.ofNat 32 b = BitVec.ofNat 32 (a ^^^ b)
  apply BitVec.eq_of_getLsbD_eq
  intro i hi
  simp [hi]
theorem nx_cnt : ∀ j : Fin 32, (UInt32.ofNat j.val &&& Int32.toUInt32 31).toNat % 32 = j.val := by decide +kernel
theorem nx_ush {k j : Nat} (hk : k < 65536) (hj : j < 32) : ((nI k).toUInt32 >>> ((nI j).toUInt32 &&& Int32.toUInt32 31)).toInt32 = nI (k >>> j) := by
  have hs : k >>> j ≤ k := by
    rw [Nat.shiftRight_eq_div_pow]
    exact Nat.div_le_self _ _
  have e2 : UInt32.ofNat k >>> (UInt32.ofNat j &&& Int32.toUInt32 31) = UInt32.ofNat (k >>> j) := by
    apply UInt32.toNat_inj.1
    have h1 : (UInt32.ofNat k).toNat = k := Nat.mod_eq_of_lt (by omega)
    have h2 : (UInt32.ofNat (k >>> j)).toNat = k >>> j := Nat.mod_eq_of_lt (by omega)
    rw [UInt32.toNat_shiftRight, nx_cnt ⟨j, hj⟩, h1, h2]
  show (UInt32.ofNat k >>> (UInt32.ofNat j &&& Int32.toUInt32 31)).toInt32 = _
  rw [e2]
  rfl
theorem nx_bit {k j : Nat} (hk : k < 65536) (hj : j < 16) : (((nI k).toUInt32 >>> ((nI j).toUInt32 &&& Int32.toUInt32 31)).toInt32 &&& 1) = 0 ↔ k.testBit j = false := by
  rw [nx_ush hk (by omega)]
  show nI (k >>> j) &&& nI 1 = 0 ↔ _
  rw [nx_and, Nat.and_one_is_mod, ← nI_0, nI_eq (by omega) (by omega), Nat.testBit_eq_decide_div_mod_eq, Nat.shiftRight_eq_div_pow, decide_eq_false_iff_not]
  generalize k / 2 ^ j = z
  omega
theorem nx_mod (k : Nat) : nI k &&& 65535 = nI (k % 65536) := by
  show nI k &&& nI 65535 = _
  rw [nx_and, show (65535 : Nat) = 2 ^ 16 - 1 from rfl, Nat.and_two_pow_sub_one_eq_mod]
theorem nx_m16 {k : Nat} (h : k < 65536) : nI k &&& 65535 = nI k := by rw [nx_mod, Nat.mod_eq_of_lt h]
theorem nx_mask (x : Int32) : ∃ k, k < 65536 ∧ x &&& 65535 = nI k := by
  have e : x = nI x.toBitVec.toNat := by
    apply Int32.toBitVec_inj.1
    show x.toBitVec = BitVec.ofNat 32 x.toBitVec.toNat
    simp
  refine ⟨x.toBitVec.toNat % 65536, Nat.mod_lt _ (by omega), ?_⟩
  rw [← nx_mod, ← e]
/-! ===== Int32 as a set of bits: test, set ===== -/
def nf_M (m : Int32) : Nat := 4294967296 - m.toBitVec.toNat
theorem nf_sh : ∀ l, l < 32 → ((1 : Int32) <<< (nI l &&& 31)).toBitVec = BitVec.twoPow 32 l := by decide +kernel
theorem nf_sl : ∀ l, l < 32 → (((nI l).toUInt32 &&& Int32.toUInt32 31).toBitVec % 32).toNat = l := by decide +kernel
theorem nf_tp : ∀ l, l < 32 → BitVec.twoPow 32 l ≠ 0#32 := by decide +kernel
theorem nf_bit (m : Int32) (l : Nat) (hl : l < 32) : ((m.toUInt32 >>> ((nI l).toUInt32 &&& Int32.toUInt32 31)).toInt32 &&& 1) = 0 ↔ (m &&& ((1 : Int32) <<< (nI l &&& 31))) = 0 := by
  have e : ((m.toUInt32 >>> ((nI l).toUInt32 &&& Int32.toUInt32 31)).toInt32).toBitVec = m.toBitVec >>> l := by
    show m.toBitVec >>> (((nI l).toUInt32 &&& Int32.toUInt32 31).toBitVec % 32) = m.toBitVec >>> l
    rw [BitVec.ushiftRight_eq', nf_sl l hl]
  rw [← Int32.toBitVec_inj, ← Int32.toBitVec_inj, Int32.toBitVec_and, Int32.toBitVec_and, nf_sh l hl, e, BitVec.and_twoPow]
  show (m.toBitVec >>> l &&& 1#32) = 0#32 ↔ _ = 0#32
  rw [BitVec.and_one_eq_setWidth_ofBool_getLsbD, BitVec.getLsbD_ushiftRight, Nat.add_zero]
  cases hb : m.toBitVec.getLsbD l
  · exact ⟨fun _ => by simp, fun _ => by decide⟩
  · exact ⟨fun z => absurd z (by decide), fun z => absurd ((if_pos rfl).symm.trans z) (nf_tp l hl)⟩
theorem nf_gr (m k : Int32) (h : m &&& k = 0) (hk : k ≠ 0) : nf_M (m ||| k) < nf_M m := by
  have hm := m.toBitVec.isLt
  have hm' := (m ||| k).toBitVec.isLt
  have h1 : m.toBitVec.toNat ≤ (m ||| k).toBitVec.toNat := by
    rw [Int32.toBitVec_or, BitVec.toNat_or]
    exact Nat.left_le_or
  have h2 : m.toBitVec.toNat ≠ (m ||| k).toBitVec.toNat := by
    intro e
    have e2 : m = m ||| k := Int32.toBitVec_inj.mp (BitVec.eq_of_toNat_eq e)
    apply hk
    apply Int32.toBitVec_inj.mp
    show k.toBitVec = 0#32
    apply BitVec.eq_of_getLsbD_eq
    intro i hi
    have a : m.toBitVec.getLsbD i = (m.toBitVec.getLsbD i || k.toBitVec.getLsbD i) := by rw [← BitVec.getLsbD_or, ← Int32.toBitVec_or, ← e2]
    have b : (m.toBitVec.getLsbD i && k.toBitVec.getLsbD i) = false := by
      rw [← BitVec.getLsbD_and, ← Int32.toBitVec_and, h]
      exact BitVec.getLsbD_zero
    rw [BitVec.getLsbD_zero]
    revert a b
    cases m.toBitVec.getLsbD i <;> cases k.toBitVec.getLsbD i <;> simp
  unfold nf_M
  omega
/-! ===== a byte read unsigned ===== -/
theorem bp_b (x : Int32) : x.toInt8.toInt32 &&& 255 = x &&& 255 := by
  apply Int32.toBitVec_inj.mp
  rw [Int32.toBitVec_and, Int32.toBitVec_and, Int8.toBitVec_toInt32, Int32.toBitVec_toInt8]
  apply BitVec.eq_of_getLsbD_eq
  intro i hi
  rw [BitVec.getLsbD_and, BitVec.getLsbD_and]
  have hm : ∀ i < 32, 8 ≤ i → (255 : Int32).toBitVec.getLsbD i = false := by decide
  rcases Nat.lt_or_ge i 8 with z | z
  · rw [BitVec.getLsbD_signExtend, BitVec.getLsbD_signExtend, if_pos z, if_pos hi]
    simp only [z, hi, decide_true, Bool.true_and]
  · rw [hm i hi z]; simp
/-! ===== the char cast and 65535 ===== -/
/-! ===== Int64 as a set of bits: test, set, clear ===== -/
theorem ts_nf {x : Bool} (h : ¬ x = false) : x = true := by cases x <;> first | rfl | exact absurd rfl h
theorem ts_nt {x : Bool} (h : ¬ x = true) : x = false := by cases x <;> first | rfl | exact absurd rfl h
theorem ts_bit {w : Int64} {s : UInt64} {j : Nat} (hj : j < 64) (hs : s.toNat = j) : ((w.toUInt64 >>> s).toInt64 &&& 1) = 0 ↔ w.toBitVec.getLsbD j = false := by
  have e : (w.toUInt64 >>> s).toInt64.toBitVec = w.toBitVec >>> j := by
    apply BitVec.eq_of_toNat_eq
    show (w.toUInt64 >>> s).toNat = _
    rw [UInt64.toNat_shiftRight, hs, Nat.mod_eq_of_lt hj, BitVec.toNat_ushiftRight]
    rfl
  rw [← Int64.toBitVec_inj, Int64.toBitVec_and, e]
  show w.toBitVec >>> j &&& 1#64 = 0#64 ↔ _
  constructor
  · intro h
    have t := congrArg (fun x => x.getLsbD 0) h
    simpa using t
  · intro h
    apply BitVec.eq_of_getLsbD_eq
    intro i hi
    cases i with
    | zero => simp [h]
    | succ i => simp
theorem ts_or {w m : Int64} {j : Nat} (hj : j < 64) (hm : m.toBitVec = BitVec.twoPow 64 j) : (w ||| m) = w ↔ w.toBitVec.getLsbD j = true := by
  rw [← Int64.toBitVec_inj, Int64.toBitVec_or, hm]
  constructor
  · intro h
    have t := congrArg (fun x => x.getLsbD j) h
    simp only [BitVec.getLsbD_or, BitVec.getLsbD_twoPow] at t
    simpa [hj] using t.symm
  · intro h
    apply BitVec.eq_of_getLsbD_eq
    intro i hi
    rw [BitVec.getLsbD_or, BitVec.getLsbD_twoPow]
    by_cases e : j = i
    · subst e; rw [h, Bool.true_or]
    · simp [e]
theorem ts_and {w m : Int64} {j : Nat} (hj : j < 64) (hm : m.toBitVec = BitVec.twoPow 64 j) : (w &&& (m ^^^ (-1))) = w ↔ w.toBitVec.getLsbD j = false := by
  have ha : (-1 : Int64).toBitVec = BitVec.allOnes 64 := by decide
  rw [← Int64.toBitVec_inj, Int64.toBitVec_and, Int64.toBitVec_xor, hm, ha]
  constructor
  · intro h
    have t := congrArg (fun x => x.getLsbD j) h
    simp only [BitVec.getLsbD_and, BitVec.getLsbD_xor, BitVec.getLsbD_twoPow, BitVec.getLsbD_allOnes] at t
    simpa [hj] using t.symm
  · intro h
    apply BitVec.eq_of_getLsbD_eq
    intro i hi
    rw [BitVec.getLsbD_and, BitVec.getLsbD_xor, BitVec.getLsbD_twoPow, BitVec.getLsbD_allOnes]
    by_cases e : j = i
    · subst e; rw [h, Bool.false_and]
    · simp [e, hi]
/-! ===== lN n to 2^64: shifts, and, or, masks, one bit ===== -/
theorem wb_tb (n : Nat) : (lN n).toBitVec = BitVec.ofNat 64 n := rfl
theorem wb_inj {a b : Int64} (h : a.toBitVec = b.toBitVec) : a = b := Int64.toBitVec_inj.mp h
theorem wb_tn {n : Nat} (h : n < 2 ^ 64) : (lN n).toBitVec.toNat = n := by rw [wb_tb, BitVec.toNat_ofNat, Nat.mod_eq_of_lt h]
theorem wb_of (x : Int64) : ∃ n, n < 2 ^ 64 ∧ x = lN n := ⟨x.toBitVec.toNat, x.toBitVec.isLt, wb_inj (by rw [wb_tb]; simp)⟩
theorem wb_of32 (x : Int32) : ∃ n, n < 2 ^ 32 ∧ x = nI n := ⟨x.toBitVec.toNat, x.toBitVec.isLt, Int32.toBitVec_inj.mp (by show _ = BitVec.ofNat 32 _; simp)⟩
theorem wb_c : ∀ k, k < 64 → ((nI k).toInt64 &&& 63) = lN k := by decide +kernel
theorem wb_cu : ∀ k, k < 64 → ((nI k).toInt64.toUInt64 &&& Int64.toUInt64 63) = UInt64.ofNat k := by decide +kernel
theorem wb_sm : ∀ k, k < 64 → (BitVec.ofNat 64 k).smod 64 = BitVec.ofNat 64 k := by decide +kernel
theorem wb_pw {a b : Nat} (h : a ≤ b) : 2 ^ b = 2 ^ a * 2 ^ (b - a) := by rw [← Nat.pow_add]; congr 1; omega
theorem wb_lt2 {a b : Nat} (h : a < b) : 2 ^ a < 2 ^ b := Nat.pow_lt_pow_right (by decide) h
theorem wb_mod (n : Nat) : lN n = lN (n % 2 ^ 64) := wb_inj (by rw [wb_tb, wb_tb]; apply BitVec.eq_of_toNat_eq; rw [BitVec.toNat_ofNat, BitVec.toNat_ofNat, Nat.mod_mod])
theorem wb_shr {n k : Nat} (hn : n < 2 ^ 64) (hk : k < 64) : ((lN n).toUInt64 >>> ((nI k).toInt64.toUInt64 &&& Int64.toUInt64 63)).toInt64 = lN (n / 2 ^ k) := by
  rw [wb_cu k hk]
  apply wb_inj
  apply BitVec.eq_of_toNat_eq
  show ((lN n).toUInt64 >>> UInt64.ofNat k).toNat = (BitVec.ofNat 64 _).toNat
  have h1 : (UInt64.ofNat k).toNat = k := by
    show (BitVec.ofNat 64 k).toNat = k
    rw [BitVec.toNat_ofNat, Nat.mod_eq_of_lt (by omega)]
  have h2 : (lN n).toUInt64.toNat = n := wb_tn hn
  rw [UInt64.toNat_shiftRight, h1, h2, Nat.mod_eq_of_lt hk, Nat.shiftRight_eq_div_pow, BitVec.toNat_ofNat, Nat.mod_eq_of_lt (Nat.lt_of_le_of_lt (Nat.div_le_self _ _) hn)]
theorem wb_shl (n : Nat) {k : Nat} (hk : k < 64) : lN n <<< ((nI k).toInt64 &&& 63) = lN (n * 2 ^ k) := by
  rw [wb_c k hk]
  apply wb_inj
  rw [Int64.toBitVec_shiftLeft, wb_tb, wb_tb, wb_tb, wb_sm k hk]
  apply BitVec.eq_of_toNat_eq
  rw [BitVec.shiftLeft_eq', BitVec.toNat_shiftLeft, BitVec.toNat_ofNat, BitVec.toNat_ofNat, BitVec.toNat_ofNat, Nat.mod_eq_of_lt (show k < 2 ^ 64 by omega), Nat.shiftLeft_eq, Nat.mul_mod, Nat.mod_mod, ← Nat.mul_mod]
theorem wb_and {a b : Nat} (ha : a < 2 ^ 64) (hb : b < 2 ^ 64) : lN a &&& lN b = lN (a &&& b) := by
  apply wb_inj
  rw [Int64.toBitVec_and, wb_tb, wb_tb, wb_tb]
  apply BitVec.eq_of_toNat_eq
  rw [BitVec.toNat_and, BitVec.toNat_ofNat, BitVec.toNat_ofNat, BitVec.toNat_ofNat, Nat.mod_eq_of_lt ha, Nat.mod_eq_of_lt hb, Nat.mod_eq_of_lt (Nat.and_lt_two_pow _ hb)]
theorem wb_or {a b : Nat} (ha : a < 2 ^ 64) (hb : b < 2 ^ 64) : lN a ||| lN b = lN (a ||| b) := by
  apply wb_inj
  rw [Int64.toBitVec_or, wb_tb, wb_tb, wb_tb]
  apply BitVec.eq_of_toNat_eq
  rw [BitVec.toNat_or, BitVec.toNat_ofNat, BitVec.toNat_ofNat, BitVec.toNat_ofNat, Nat.mod_eq_of_lt ha, Nat.mod_eq_of_lt hb, Nat.mod_eq_of_lt (Nat.or_lt_two_pow ha hb)]
theorem wb_mask {n k : Nat} (hn : n < 2 ^ 64) (hk : k < 64) : lN n &&& lN (2 ^ k - 1) = lN (n % 2 ^ k) := by
  rw [wb_and hn (by have := wb_lt2 hk; omega), Nat.and_two_pow_sub_one_eq_mod]
theorem wb_a1 {n : Nat} (hn : n < 2 ^ 64) : lN n &&& 1 = lN (n % 2) := wb_mask (k := 1) hn (by decide)
theorem wb_bit {n k : Nat} (hn : n < 2 ^ 64) (hk : k < 64) : ((lN n).toUInt64 >>> ((nI k).toInt64.toUInt64 &&& Int64.toUInt64 63)).toInt64 &&& 1 = lN (n / 2 ^ k % 2) := by
  rw [wb_shr hn hk, wb_a1 (Nat.lt_of_le_of_lt (Nat.div_le_self _ _) hn)]
theorem wb_xor {q k : Nat} (hk : k < 63) (h : 2 ^ k ≤ q) (h2 : q < 2 ^ (k + 1)) : lN q ^^^ lN (2 ^ k) = lN (q - 2 ^ k) := by
  obtain ⟨r, rfl⟩ : ∃ r, q = 2 ^ k + r := ⟨q - 2 ^ k, by omega⟩
  have hr : r < 2 ^ k := by rw [Nat.pow_succ] at h2; omega
  have hx : (2 ^ k + r) ^^^ 2 ^ k = r := by
    apply Nat.eq_of_testBit_eq
    intro i
    rw [Nat.testBit_xor, Nat.testBit_two_pow]
    rcases Nat.lt_trichotomy i k with h | h | h
    · rw [Nat.testBit_two_pow_add_gt h]
      simp [show ¬ k = i by omega]
    · subst h
      rw [Nat.testBit_two_pow_add_eq]
      simp
    · have a1 : 2 ^ (k + 1) ≤ 2 ^ i := Nat.pow_le_pow_right (by decide) h
      rw [Nat.testBit_lt_two_pow (show 2 ^ k + r < 2 ^ i by omega), Nat.testBit_lt_two_pow (show r < 2 ^ i by omega)]
      simp [show ¬ k = i by omega]
  have b1 := wb_lt2 (show k + 1 < 64 by omega)
  have b2 := wb_lt2 (show k < 64 by omega)
  apply wb_inj
  rw [Int64.toBitVec_xor, wb_tb, wb_tb, wb_tb]
  apply BitVec.eq_of_toNat_eq
  rw [BitVec.toNat_xor, BitVec.toNat_ofNat, BitVec.toNat_ofNat, BitVec.toNat_ofNat, Nat.mod_eq_of_lt (by omega : 2 ^ k + r < 2 ^ 64), Nat.mod_eq_of_lt b2, hx, Nat.add_sub_cancel_left, Nat.mod_eq_of_lt (by omega)]
/-! ===== lN: masks, 'or' of parts that don't overlap is a sum ===== -/
theorem u_tn {n : Nat} (h : n < 2 ^ 64) : (UInt64.ofNat n).toNat = n := Nat.mod_eq_of_lt h
theorem g_and {a b c : Nat} (ha : a < 2 ^ 64) (hb : b < 2 ^ 64) (hc : a &&& b = c) : lN a &&& lN b = lN c := by
  subst hc
  have h : UInt64.ofNat a &&& UInt64.ofNat b = UInt64.ofNat (a &&& b) := UInt64.toNat_inj.mp (by rw [UInt64.toNat_and, u_tn ha, u_tn hb, u_tn (Nat.and_lt_two_pow a hb)])
  have h2 := congrArg UInt64.toInt64 h
  exact h2
theorem g_and1 {a : Nat} (ha : a < 2 ^ 64) : lN a &&& 1 = lN (a % 2) := g_and (b := 1) ha (by decide) (Nat.and_two_pow_sub_one_eq_mod a 1)
theorem g_mask {a s p : Nat} (hp : 2 ^ s = p) (hs : s < 64) (ha : a < 2 ^ 64) : lN a &&& lN (p - 1) = lN (a % p) := by
  subst hp
  have := Nat.pow_lt_pow_right (show 1 < 2 by decide) hs
  exact g_and ha (by omega) (Nat.and_two_pow_sub_one_eq_mod a s)
theorem g_or {k p a b : Nat} (hp : 2 ^ k = p) (ha : a < p) (h : b * p + a < 2 ^ 64) : lN (b * p) ||| lN a = lN (b * p + a) := by
  subst hp
  have h1 : b * 2 ^ k ||| a = b * 2 ^ k + a := by rw [← Nat.shiftLeft_eq, Nat.shiftLeft_add_eq_or_of_lt ha]
  have h3 : UInt64.ofNat (b * 2 ^ k) ||| UInt64.ofNat a = UInt64.ofNat (b * 2 ^ k + a) := UInt64.toNat_inj.mp (by rw [UInt64.toNat_or, u_tn (by omega), u_tn (by omega), u_tn h, h1])
  have h2 := congrArg UInt64.toInt64 h3
  exact h2
theorem g_or' {k p a b : Nat} (hp : 2 ^ k = p) (ha : a < p) (h : a + b * p < 2 ^ 64) : lN a ||| lN (b * p) = lN (a + b * p) := by
  rw [Int64.or_comm, g_or hp ha (by omega), Nat.add_comm]
theorem g_ushr {a k p : Nat} {y : UInt64} (hy : y = UInt64.ofNat k) (hk : k < 64) (hp : 2 ^ k = p) (ha : a < 2 ^ 64) : ((lN a).toUInt64 >>> y).toInt64 = lN (a / p) := by
  subst hy hp
  have h : UInt64.ofNat a >>> UInt64.ofNat k = UInt64.ofNat (a / 2 ^ k) := UInt64.toNat_inj.mp (by rw [UInt64.toNat_shiftRight, u_tn ha, u_tn (by omega), u_tn (Nat.lt_of_le_of_lt (Nat.div_le_self _ _) ha), Nat.mod_eq_of_lt hk, Nat.shiftRight_eq_div_pow])
  have h2 := congrArg UInt64.toInt64 h
  exact h2
theorem g_shl {a k p : Nat} {y : Int64} (hy : y.toBitVec.smod 64 = BitVec.ofNat 64 k) (hk : k < 64) (hp : 2 ^ k = p) (ha : a < 2 ^ 64) : lN a <<< y = lN (a * p) := by
  subst hp
  apply Int64.toBitVec_inj.mp
  rw [Int64.toBitVec_shiftLeft, hy]
  apply BitVec.eq_of_toNat_eq
  have hb : (lN a).toBitVec.toNat = a := Nat.mod_eq_of_lt ha
  have hk' : (BitVec.ofNat 64 k).toNat = k := Nat.mod_eq_of_lt (by omega)
  have h : ((lN a).toBitVec <<< BitVec.ofNat 64 k).toNat = (a * 2 ^ k) % 2 ^ 64 := by simp only [BitVec.shiftLeft_eq', BitVec.toNat_shiftLeft, hb, hk', Nat.shiftLeft_eq]
  exact h
/-! ===== lN to 2^62 under >> and >>> ===== -/
theorem pf_lI {a : Nat} (h : a < 2 ^ 63) : (lN a).toInt = (a : Int) := lg_ofNat_toInt h
theorem pf_shr {a d : Nat} {D : Int64} (hD : (D.toBitVec.smod 64).toNat = d) (h : a < 2 ^ 62) : lN a >>> D = lN (a / 2 ^ d) := by
  have hd : a / 2 ^ d ≤ a := Nat.div_le_self _ _
  apply Int64.toInt_inj.mp
  have e : (lN a >>> D).toInt = (lN a).toInt >>> d := by
    rw [← hD]
    exact BitVec.toInt_sshiftRight ..
  rw [e, Int.shiftRight_eq_div_pow, pf_lI (by omega), pf_lI (by omega)]
  rfl
theorem pf_ushr {a d : Nat} {D : UInt64} (hD : D.toNat % 64 = d) (h : a < 2 ^ 62) : ((lN a).toUInt64 >>> D).toInt64 = lN (a / 2 ^ d) := by
  have hd : a / 2 ^ d ≤ a := Nat.div_le_self _ _
  have e : (lN a).toUInt64 >>> D = UInt64.ofNat (a / 2 ^ d) := UInt64.toNat_inj.mp (by
    rw [UInt64.toNat_shiftRight, hD, Nat.shiftRight_eq_div_pow, UInt64.toNat_ofNat']
    show (UInt64.ofNat a).toNat / 2 ^ d = _
    rw [UInt64.toNat_ofNat', Nat.mod_eq_of_lt (by omega), Nat.mod_eq_of_lt (by omega)])
  rw [e]
  rfl
theorem pf_andw (x : Int64) : ∃ m, m < 2 ^ 32 ∧ x &&& 4294967295 = lN m := ⟨x.toBitVec.toNat % 2 ^ 32, Nat.mod_lt _ (by decide), Int64.toBitVec_inj.mp (BitVec.eq_of_toNat_eq (by
  show (x.toBitVec &&& 4294967295#64).toNat = (BitVec.ofNat 64 (x.toBitVec.toNat % 2 ^ 32)).toNat
  rw [BitVec.toNat_and, show (4294967295#64).toNat = 2 ^ 32 - 1 from by decide, Nat.and_two_pow_sub_one_eq_mod, BitVec.toNat_ofNat]
  omega))⟩
/-! ===== Int64 as an unsigned number: uN x ===== -/
def uN (x : Int64) : Nat := x.toUInt64.toNat
theorem uN_lt (x : Int64) : uN x < 18446744073709551616 := x.toUInt64.toNat_lt
theorem uN_inj {x y : Int64} (h : uN x = uN y) : x = y := congrArg UInt64.toInt64 (UInt64.toNat_inj.mp h)
theorem uN_add (x y : Int64) : uN (x + y) = (uN x + uN y) % 18446744073709551616 := by
  show (x.toUInt64 + y.toUInt64).toNat = _
  exact UInt64.toNat_add _ _
theorem uN_mul (x y : Int64) : uN (x * y) = (uN x * uN y) % 18446744073709551616 := by
  show (x.toUInt64 * y.toUInt64).toNat = _
  exact UInt64.toNat_mul _ _
theorem uN_shl (x : Int64) : uN (x <<< ((1 : Int32).toInt64 &&& 63)) = (2 * uN x) % 18446744073709551616 := by
  have h : (((1 : Int32).toInt64 &&& 63).toBitVec.smod 64).toNat = 1 := by decide
  show (x.toBitVec <<< (((1 : Int32).toInt64 &&& 63).toBitVec.smod 64).toNat).toNat = _
  rw [h, BitVec.toNat_shiftLeft, Nat.shiftLeft_eq, Nat.mul_comm]
  rfl
theorem uN_shr (x : Int64) (s : UInt64) : uN (x.toUInt64 >>> s).toInt64 = uN x / 2 ^ (s.toNat % 64) := by
  show (x.toUInt64 >>> s).toNat = _
  rw [UInt64.toNat_shiftRight, Nat.shiftRight_eq_div_pow]
  rfl
theorem uN_s32 (x : Int64) : uN (x.toUInt64 >>> ((32 : Int32).toInt64.toUInt64 &&& Int64.toUInt64 63)).toInt64 = uN x / 4294967296 := by
  have h : ((32 : Int32).toInt64.toUInt64 &&& Int64.toUInt64 63).toNat % 64 = 32 := by decide
  rw [uN_shr, h]
theorem uN_s63 (x : Int64) : uN (x.toUInt64 >>> ((63 : Int32).toInt64.toUInt64 &&& Int64.toUInt64 63)).toInt64 = uN x / 9223372036854775808 := by
  have h : ((63 : Int32).toInt64.toUInt64 &&& Int64.toUInt64 63).toNat % 64 = 63 := by decide
  rw [uN_shr, h]
theorem uN_lo (x : Int64) : uN (x &&& 4294967295) = uN x % 4294967296 := by
  show (x.toUInt64 &&& Int64.toUInt64 4294967295).toNat = _
  rw [UInt64.toNat_and]
  exact Nat.and_two_pow_sub_one_eq_mod _ 32
theorem uN_bit (x : Int64) : (x &&& 1) = 0 ↔ uN x % 2 = 0 := by
  have h : uN (x &&& 1) = uN x % 2 := by
    show (x.toUInt64 &&& Int64.toUInt64 1).toNat = _
    rw [UInt64.toNat_and]
    exact Nat.and_two_pow_sub_one_eq_mod _ 1
  rw [← h]
  exact ⟨fun z => by rw [z]; rfl, fun z => uN_inj (z.trans rfl)⟩
theorem uN_or {x y : Int64} (hy : uN y < 2) : uN ((x <<< ((1 : Int32).toInt64 &&& 63)) ||| y) = (2 * uN x) % 18446744073709551616 + uN y := by
  have h1 : uN ((x <<< ((1 : Int32).toInt64 &&& 63)) ||| y) = uN (x <<< ((1 : Int32).toInt64 &&& 63)) ||| uN y := UInt64.toNat_or _ _
  have h2 : (2 * uN x) % 18446744073709551616 = 2 ^ 1 * (uN x % 9223372036854775808) := by omega
  rw [h1, uN_shl, h2]
  exact (Nat.two_pow_add_eq_or_of_lt (i := 1) hy _).symm
theorem nat_xor {a : Nat} (h : a < 18446744073709551616) : a ^^^ 2 ^ 63 = (a + 9223372036854775808) % 18446744073709551616 := by
  have h1 : (a ^^^ 2 ^ 63) % 2 ^ 63 = a % 2 ^ 63 := by rw [Nat.xor_mod_two_pow, Nat.mod_self, Nat.xor_zero]
  have h2 : (a ^^^ 2 ^ 63) / 2 ^ 63 = (a / 2 ^ 63) ^^^ 1 := by rw [Nat.xor_div_two_pow, Nat.div_self (Nat.two_pow_pos 63)]
  have h3 : a / 2 ^ 63 = 0 ∨ a / 2 ^ 63 = 1 := by omega
  generalize a ^^^ 2 ^ 63 = t at h1 h2
  rcases h3 with h3 | h3
  · rw [h3] at h2
    have h2 : t / 2 ^ 63 = 1 := h2
    omega
  · rw [h3] at h2
    have h2 : t / 2 ^ 63 = 0 := h2
    omega
theorem uN_xor (x : Int64) : uN (x ^^^ (-9223372036854775808)) = (uN x + 9223372036854775808) % 18446744073709551616 := by
  rw [← nat_xor (uN_lt x)]
  exact UInt64.toNat_xor _ _
theorem uN_int (x : Int64) : x.toInt = if 2 * uN x < 18446744073709551616 then (uN x : Int) else (uN x : Int) - 18446744073709551616 := BitVec.toInt_eq_toNat_cond _
theorem uN_le (x y : Int64) : (x ^^^ (-9223372036854775808)) ≤ (y ^^^ (-9223372036854775808)) ↔ uN x ≤ uN y := by
  have hx := uN_lt x
  have hy := uN_lt y
  rw [Int64.le_iff_toInt_le, uN_int, uN_int, uN_xor, uN_xor]
  omega
theorem uN_sk (x : Int64) {k : Nat} (hk : k < 64) : uN (x.toUInt64 >>> ((nI k).toInt64.toUInt64 &&& Int64.toUInt64 63)).toInt64 = uN x / 2 ^ k := by
  have h : ((nI k).toInt64.toUInt64 &&& Int64.toUInt64 63).toNat % 64 = k := by
    rw [nI_l (by omega), UInt64.toNat_and]
    have e : (lN k).toUInt64.toNat = k % 2 ^ 64 := rfl
    have e2 : (Int64.toUInt64 63).toNat = 2 ^ 6 - 1 := by decide
    rw [e, e2, Nat.and_two_pow_sub_one_eq_mod]
    omega
  rw [uN_shr, h]
/-! ===== unsigned comparison by xor with the least ===== -/
theorem lN_bv (n : Nat) : (lN n).toBitVec = BitVec.ofNat 64 n := rfl
theorem lN_nat {n : Nat} (h : n < 2 ^ 64) : (lN n).toBitVec.toNat = n := by rw [lN_bv, BitVec.toNat_ofNat]; exact Nat.mod_eq_of_lt h
theorem lN_xor (a b : Nat) : lN a ^^^ lN b = lN (a ^^^ b) := by
  apply Int64.toBitVec_inj.mp; rw [Int64.toBitVec_xor, lN_bv, lN_bv, lN_bv]; apply BitVec.eq_of_getLsbD_eq; intro i hi; simp [BitVec.getLsbD_ofNat, Nat.testBit_xor, hi]
theorem lN_ti {m : Nat} (h : m < 2 ^ 64) : (lN m).toInt = if m < 2 ^ 63 then (m : Int) else (m : Int) - 2 ^ 64 := by
  have c := BitVec.toInt_eq_toNat_cond (lN m).toBitVec
  rw [lN_nat h] at c
  show (lN m).toBitVec.toInt = _
  rw [c]
  split <;> split <;> omega
theorem xor63 {x : Nat} (h : x < 2 ^ 63) : x ^^^ 2 ^ 63 = 2 ^ 63 + x := by
  apply Nat.eq_of_testBit_eq
  intro i
  rw [Nat.testBit_xor, Nat.testBit_two_pow]
  rcases Nat.lt_trichotomy i 63 with z | z | z
  · rw [Nat.testBit_two_pow_add_gt z, decide_eq_false (by omega)]; simp
  · subst z; rw [Nat.testBit_two_pow_add_eq]; simp
  · have hp : 2 ^ 64 ≤ 2 ^ i := Nat.pow_le_pow_right (by decide) z
    rw [Nat.testBit_lt_two_pow (show x < 2 ^ i by omega), Nat.testBit_lt_two_pow (show 2 ^ 63 + x < 2 ^ i by omega), decide_eq_false (by omega)]; rfl
theorem xorS {a : Nat} (h : a < 2 ^ 64) : (lN a ^^^ (-9223372036854775808)).toInt = (a : Int) - 2 ^ 63 := by
  rw [show (-9223372036854775808 : Int64) = lN (2 ^ 63) from by decide +kernel, lN_xor]
  rcases Nat.lt_or_ge a (2 ^ 63) with z | z
  · rw [xor63 z, lN_ti (by omega), if_neg (by omega)]; omega
  · obtain ⟨x, rfl⟩ : ∃ x, a = 2 ^ 63 + x := ⟨a - 2 ^ 63, by omega⟩
    rw [← xor63 (by omega), Nat.xor_assoc, Nat.xor_self, Nat.xor_zero, lN_ti (by omega), if_pos (by omega), xor63 (by omega)]; omega
theorem ultL {a b : Nat} (ha : a < 2 ^ 64) (hb : b < 2 ^ 64) : ((lN b ^^^ (-9223372036854775808)) ≤ (lN a ^^^ (-9223372036854775808))) ↔ b ≤ a := by
  rw [Int64.le_iff_toInt_le, xorS ha, xorS hb]; omega
/-! ===== Int64 masks of n low bits ===== -/
theorem cr_bits (W U M : BitVec 64) : ((W &&& U) &&& (U &&& (M ^^^ BitVec.allOnes 64))) = 0#64 ↔ (W &&& U) &&& M = W &&& U := by
  constructor
  · intro h
    apply BitVec.eq_of_getLsbD_eq
    intro i hi
    have e := congrArg (fun x => BitVec.getLsbD x i) h
    simp only [BitVec.getLsbD_and, BitVec.getLsbD_xor, BitVec.getLsbD_allOnes, BitVec.getLsbD_zero, hi, decide_true] at e ⊢
    revert e
    cases W.getLsbD i <;> cases U.getLsbD i <;> cases M.getLsbD i <;> decide
  · intro h
    apply BitVec.eq_of_getLsbD_eq
    intro i hi
    have e := congrArg (fun x => BitVec.getLsbD x i) h
    simp only [BitVec.getLsbD_and, BitVec.getLsbD_xor, BitVec.getLsbD_allOnes, BitVec.getLsbD_zero, hi, decide_true] at e ⊢
    revert e
    cases W.getLsbD i <;> cases U.getLsbD i <;> cases M.getLsbD i <;> decide
theorem cr_mask (w U m : Int64) (n : Nat) (hm : m.toBitVec.toNat = 2 ^ n - 1) : ((w &&& U) &&& (U &&& (m ^^^ (-1)))) = 0 ↔ (w &&& U).toBitVec.toNat < 2 ^ n := by
  have e0 : (-1 : Int64).toBitVec = BitVec.allOnes 64 := by decide
  have z0 : (0 : Int64).toBitVec = 0#64 := by decide
  rw [← Int64.toBitVec_inj, z0, Int64.toBitVec_and, Int64.toBitVec_and, Int64.toBitVec_and, Int64.toBitVec_xor, e0, cr_bits]
  generalize w.toBitVec &&& U.toBitVec = T
  rw [← BitVec.toNat_inj, BitVec.toNat_and, hm, Nat.and_two_pow_sub_one_eq_mod]
  constructor
  · intro h
    have t := Nat.mod_lt T.toNat (Nat.two_pow_pos n)
    rw [h] at t
    exact t
  · exact Nat.mod_eq_of_lt
theorem cr_shr (t : Int64) (x : UInt64) (n : Nat) (hx : x.toNat % 64 = n) : (t.toUInt64 >>> x).toInt64 = 0 ↔ t.toBitVec.toNat < 2 ^ n := by
  rw [← Int64.toBitVec_inj, ← BitVec.toNat_inj]
  show (t.toUInt64 >>> x).toNat = 0 ↔ t.toUInt64.toNat < 2 ^ n
  rw [UInt64.toNat_shiftRight, hx, Nat.shiftRight_eq_div_pow]
  constructor
  · intro h
    have d : t.toUInt64.toNat / 2 ^ n < 1 := by
      rw [h]
      decide
    have e := (Nat.div_lt_iff_lt_mul (Nat.two_pow_pos n)).mp d
    rw [Nat.one_mul] at e
    exact e
  · exact Nat.div_eq_of_lt
theorem cr_amt (s : Int64) : ∃ n, n < 64 ∧ s &&& 63 = lN n ∧ (s.toUInt64 &&& Int64.toUInt64 63).toNat % 64 = n := by
  have e : (s.toUInt64 &&& Int64.toUInt64 63).toNat = s.toUInt64.toNat % 2 ^ 6 := by
    rw [UInt64.toNat_and, show (Int64.toUInt64 63).toNat = 2 ^ 6 - 1 from by decide, Nat.and_two_pow_sub_one_eq_mod]
  refine ⟨s.toUInt64.toNat % 2 ^ 6, by omega, ?_, by omega⟩
  rw [← Int64.toBitVec_inj, ← BitVec.toNat_inj]
  show (s.toUInt64 &&& Int64.toUInt64 63).toNat = (BitVec.ofNat 64 (s.toUInt64.toNat % 2 ^ 6)).toNat
  rw [e, BitVec.toNat_ofNat]
  omega

/-! plain facts on numbers and arrays, to paste: each family by itself; over the kit's rows on nI and upd -/
/-! ===== order of ints, in all its forms, and through longs ===== -/
theorem fa_lt (a b : Int32) : a < b ↔ a.toInt < b.toInt := Int32.lt_iff_toInt_lt
theorem fa_le (a b : Int32) : a ≤ b ↔ a.toInt ≤ b.toInt := Int32.le_iff_toInt_le
theorem fa_eq (a b : Int32) : a = b ↔ a.toInt = b.toInt := Int32.toInt_inj.symm
theorem fa_lt64 (a b : Int64) : a < b ↔ a.toInt < b.toInt := Int64.lt_iff_toInt_lt
theorem fa_le64 (a b : Int64) : a ≤ b ↔ a.toInt ≤ b.toInt := Int64.le_iff_toInt_le
theorem fa_eq64 (a b : Int64) : a = b ↔ a.toInt = b.toInt := Int64.toInt_inj.symm
/-- a comparison of two ints taken as longs -/
theorem fa_wide_lt (a b : Int32) : a.toInt64 < b.toInt64 ↔ a < b := by rw [fa_lt64, fa_lt, Int32.toInt_toInt64, Int32.toInt_toInt64]
theorem fa_wide_le (a b : Int32) : a.toInt64 ≤ b.toInt64 ↔ a ≤ b := by rw [fa_le64, fa_le, Int32.toInt_toInt64, Int32.toInt_toInt64]
theorem fa_wide_eq (a b : Int32) : a.toInt64 = b.toInt64 ↔ a = b := by rw [fa_eq64, fa_eq, Int32.toInt_toInt64, Int32.toInt_toInt64]
/-- one strict comparison gives all the others -/
theorem fa_of_lt {a b : Int32} (h : a < b) : a ≤ b ∧ ¬ b ≤ a ∧ ¬ b < a ∧ a ≠ b ∧ b ≠ a := by
  rw [fa_lt] at h
  refine ⟨?_, ?_, ?_, ?_, ?_⟩
  · rw [fa_le]; omega
  · rw [fa_le]; omega
  · rw [fa_lt]; omega
  · intro e; rw [fa_eq] at e; omega
  · intro e; rw [fa_eq] at e; omega
theorem fa_of_nlt {a b : Int32} (h : ¬ a < b) : b ≤ a := by
  rw [fa_lt] at h
  rw [fa_le]
  omega
theorem fa_of_nle {a b : Int32} (h : ¬ a ≤ b) : b < a := by
  rw [fa_le] at h
  rw [fa_lt]
  omega
theorem fa_le_ne {a b : Int32} (h : a ≤ b) (h2 : a ≠ b) : a < b := by
  rw [fa_le] at h
  rw [fa_lt]
  have h3 : a.toInt ≠ b.toInt := fun e => h2 ((fa_eq a b).mpr e)
  omega
theorem fa_three (a b : Int32) : a < b ∨ a = b ∨ b < a := by
  rw [fa_lt, fa_lt, fa_eq]
  omega
theorem fa_trans {a b c : Int32} (h : a < b) (h2 : b ≤ c) : a < c := by
  rw [fa_lt] at *
  rw [fa_le] at h2
  omega
/-! ===== small literals as numbers ===== -/
theorem fa_lit (n : Nat) : (OfNat.ofNat n : Int32) = nI n := rfl
theorem fa_litL (n : Nat) : (OfNat.ofNat n : Int64) = lN n := rfl
/-! ===== bits of a number: 'or', masks, one bit ===== -/
theorem fa_and (a b : Nat) : nI a &&& nI b = nI (a &&& b) := by
  apply Int32.toBitVec_inj.1
  show BitVec.ofNat 32 a &&& BitVec.ofNat 32 b = BitVec.ofNat 32 (a &&& b)
  apply BitVec.eq_of_getLsbD_eq
  intro i hi
  simp [hi]
theorem fa_or (a b : Nat) : nI a ||| nI b = nI (a ||| b) := by
  apply Int32.toBitVec_inj.1
  show BitVec.ofNat 32 a ||| BitVec.ofNat 32 b = BitVec.ofNat 32 (a ||| b)
  apply BitVec.eq_of_getLsbD_eq
  intro i hi
  simp [hi]
/-- a remainder by a power of two, as a mask -/
theorem fa_mask (n k : Nat) : nI n &&& nI (2 ^ k - 1) = nI (n % 2 ^ k) := by rw [fa_and, Nat.and_two_pow_sub_one_eq_mod]
/-- 'or' of a high part and a low one that don't meet is their sum -/
theorem fa_or_sum {a k : Nat} (b : Nat) (h : a < 2 ^ k) : nI (2 ^ k * b) ||| nI a = nI (2 ^ k * b + a) := by rw [fa_or, Nat.two_pow_add_eq_or_of_lt h]
/-- one bit, by 'and' with a power of two -/
theorem fa_bit {n j : Nat} (hj : j < 31) : nI n &&& nI (2 ^ j) = 0 ↔ n.testBit j = false := by
  have h2 : (2 : Nat) ^ j < 2 ^ 31 := Nat.pow_lt_pow_right (by decide) hj
  have hle : n &&& 2 ^ j ≤ 2 ^ j := Nat.and_le_right
  have e : n &&& 2 ^ j = 0 ↔ n.testBit j = false := by
    constructor
    · intro h
      have h1 : (n &&& 2 ^ j).testBit j = false := by rw [h]; simp
      rw [Nat.testBit_and] at h1
      first | simpa using h1 | simpa [Nat.testBit_two_pow_self] using h1 | simpa [Nat.testBit_two_pow] using h1
    · intro h
      apply Nat.eq_of_testBit_eq
      intro i
      rw [Nat.testBit_and]
      by_cases hi : j = i
      · subst hi; simp [h]
      · first | (simp [Nat.testBit_two_pow, hi]; done) | (simp [Nat.testBit_two_pow_of_ne hi]; done)
  rw [fa_and]
  constructor
  · intro h
    apply e.mp
    rcases Nat.eq_zero_or_pos (n &&& 2 ^ j) with z | z
    · exact z
    · exact absurd h (nI_ne0 z (Nat.lt_of_le_of_lt hle h2))
  · intro h
    rw [e.mpr h]; exact nI_0
/-- a remainder by a power of two of a number that isn't negative, as Java divides -/
theorem fa_rem {a k : Nat} (ha : a < 2 ^ 31) (hk : k < 31) : nI a - nI a / nI (2 ^ k) * nI (2 ^ k) = nI (a % 2 ^ k) := pk_rem ha (Nat.two_pow_pos k) (Nat.pow_lt_pow_right (by decide) hk)
/-! ===== cuts to a byte, a short ===== -/
theorem fa_byte_xor (x y : Int32) : (x ^^^ y).toInt8 = x.toInt8 ^^^ y.toInt8 := by
  apply Int8.toBitVec_inj.1
  apply BitVec.eq_of_getLsbD_eq
  intro i hi
  first | (simp [hi]; done) | (simp [hi, BitVec.getLsbD_setWidth, BitVec.getLsbD_signExtend]; done)
theorem fa_short_xor (x y : Int32) : (x ^^^ y).toInt16 = x.toInt16 ^^^ y.toInt16 := by
  apply Int16.toBitVec_inj.1
  apply BitVec.eq_of_getLsbD_eq
  intro i hi
  first | (simp [hi]; done) | (simp [hi, BitVec.getLsbD_setWidth, BitVec.getLsbD_signExtend]; done)
/-- the cut to a byte sees the low byte alone -/
theorem fa_byte_low (x : Int32) : (x &&& 255).toInt8 = x.toInt8 := by
  apply Int8.toBitVec_inj.1
  apply BitVec.eq_of_getLsbD_eq
  intro i hi
  have h2 : (255 : Int32).toBitVec.getLsbD i = true := by
    have : ∀ j : Fin 8, (255 : Int32).toBitVec.getLsbD j.val = true := by decide +kernel
    exact this ⟨i, hi⟩
  have h4 : (x &&& 255).toBitVec.getLsbD i = x.toBitVec.getLsbD i := by
    show (x.toBitVec &&& (255 : Int32).toBitVec).getLsbD i = _
    rw [BitVec.getLsbD_and, h2, Bool.and_true]
  have h3 : i < 32 := by omega
  first
    | (show (((x &&& 255).toBitVec).signExtend 8).getLsbD i = (x.toBitVec.signExtend 8).getLsbD i; rw [BitVec.getLsbD_signExtend, BitVec.getLsbD_signExtend, if_pos h3, if_pos h3, h4])
    | (show (((x &&& 255).toBitVec).setWidth 8).getLsbD i = (x.toBitVec.setWidth 8).getLsbD i; rw [BitVec.getLsbD_setWidth, BitVec.getLsbD_setWidth, h4])
    | (simp [hi, h3, h4]; done)
theorem fa_short_low (x : Int32) : (x &&& 65535).toInt16 = x.toInt16 := by
  apply Int16.toBitVec_inj.1
  apply BitVec.eq_of_getLsbD_eq
  intro i hi
  have h2 : (65535 : Int32).toBitVec.getLsbD i = true := by
    have : ∀ j : Fin 16, (65535 : Int32).toBitVec.getLsbD j.val = true := by decide +kernel
    exact this ⟨i, hi⟩
  have h4 : (x &&& 65535).toBitVec.getLsbD i = x.toBitVec.getLsbD i := by
    show (x.toBitVec &&& (65535 : Int32).toBitVec).getLsbD i = _
    rw [BitVec.getLsbD_and, h2, Bool.and_true]
  have h3 : i < 32 := by omega
  first
    | (show (((x &&& 65535).toBitVec).signExtend 16).getLsbD i = (x.toBitVec.signExtend 16).getLsbD i; rw [BitVec.getLsbD_signExtend, BitVec.getLsbD_signExtend, if_pos h3, if_pos h3, h4])
    | (show (((x &&& 65535).toBitVec).setWidth 16).getLsbD i = (x.toBitVec.setWidth 16).getLsbD i; rw [BitVec.getLsbD_setWidth, BitVec.getLsbD_setWidth, h4])
    | (simp [hi, h3, h4]; done)
/-- a small number is its own byte, its own short -/
theorem fa_byte_small {n : Nat} (h : n < 128) : (nI n).toInt8.toInt32 = nI n := by
  have : ∀ j : Fin 128, (nI j.val).toInt8.toInt32 = nI j.val := by decide +kernel
  exact this ⟨n, h⟩
/-! ===== absolute difference ===== -/
theorem fa_absdiff {a b : Nat} (ha : a < 2 ^ 31) (hb : b < 2 ^ 31) : (if nI a < nI b then nI b - nI a else nI a - nI b) = nI (if a < b then b - a else a - b) := by
  by_cases h : a < b
  · rw [if_pos (nI_lt h hb), if_pos h]
    exact pk_sub (Nat.le_of_lt h)
  · rw [if_neg (nI_nlt (Nat.le_of_not_lt h) ha), if_neg h]
    exact pk_sub (Nat.le_of_not_lt h)
/-! ===== an array behind i stores, a conditional store, a row copied ===== -/
/-- f where k < i, what stood there else -/
def fa_fill {α : Type} (f g : Nat → α) (i : Nat) : Nat → α := fun k => if k < i then f k else g k
theorem fa_fill_0 {α : Type} (f g : Nat → α) : fa_fill f g 0 = g := funext fun k => if_neg (Nat.not_lt_zero k)
theorem fa_fill_in {α : Type} {f g : Nat → α} {i k : Nat} (h : k < i) : fa_fill f g i k = f k := if_pos h
theorem fa_fill_out {α : Type} {f g : Nat → α} {i k : Nat} (h : i ≤ k) : fa_fill f g i k = g k := if_neg (Nat.not_lt.mpr h)
theorem fa_fill_succ (f g : Nat → Int32) (i : Nat) : upd (fa_fill f g i) i (f i) = fa_fill f g (i + 1) := by
  funext k
  by_cases e : k = i
  · subst e
    rw [pk_us]
    exact (if_pos (Nat.lt_succ_self k)).symm
  · rw [pk_un e]
    by_cases h : k < i
    · rw [fa_fill_in h, fa_fill_in (Nat.lt_succ_of_lt h)]
    · rw [fa_fill_out (Nat.le_of_not_lt h), fa_fill_out (by omega)]
/-- a store that changes nothing -/
theorem fa_upd_same {f : Nat → Int32} {i : Nat} {x : Int32} (h : f i = x) : upd f i x = f := by
  funext k
  by_cases e : k = i
  · subst e
    rw [pk_us, h]
  · rw [pk_un e]
/-- a store under a condition, told as one -/
theorem fa_upd_if (c : Prop) [Decidable c] (f : Nat → Int32) (i : Nat) (x : Int32) : (if c then upd f i x else f) = upd f i (if c then x else f i) := by
  by_cases h : c
  · rw [if_pos h, if_pos h]
  · rw [if_neg h, if_neg h, fa_upd_same rfl]
/-- two stores at one place, at two -/
theorem fa_upd_twice (f : Nat → Int32) (i : Nat) (x y : Int32) : upd (upd f i x) i y = upd f i y := by
  funext k
  by_cases e : k = i
  · subst e
    rw [pk_us, pk_us]
  · rw [pk_un e, pk_un e, pk_un e]
theorem fa_upd_swap (f : Nat → Int32) {i j : Nat} (h : i ≠ j) (x y : Int32) : upd (upd f i x) j y = upd (upd f j y) i x := by
  funext k
  by_cases e : k = i
  · subst e
    rw [pk_un h, pk_us, pk_us]
  · by_cases e2 : k = j
    · subst e2
      rw [pk_us, pk_un e, pk_us]
    · rw [pk_un e2, pk_un e, pk_un e, pk_un e2]
/-! ===== the first index with a property; a count ===== -/
/-- the first k < n with p k, n if there is none -/
def fa_first (p : Nat → Bool) : Nat → Nat
  | 0 => 0
  | n + 1 => if fa_first p n < n then fa_first p n else if p n then n else n + 1
theorem fa_first_le (p : Nat → Bool) : ∀ n, fa_first p n ≤ n
  | 0 => Nat.le_refl 0
  | n + 1 => by
    have ih := fa_first_le p n
    unfold fa_first
    split
    · omega
    · split
      · omega
      · omega
theorem fa_first_no (p : Nat → Bool) : ∀ n k, k < fa_first p n → p k = false
  | 0, k, h => absurd h (Nat.not_lt_zero k)
  | n + 1, k, h => by
    have ih := fa_first_no p n
    have hl := fa_first_le p n
    unfold fa_first at h
    split at h
    · exact ih k h
    · rename_i h1
      split at h
      · exact ih k (by omega)
      · rename_i h2
        by_cases e : k = n
        · subst e
          exact Bool.eq_false_iff.mpr h2
        · exact ih k (by omega)
theorem fa_first_yes (p : Nat → Bool) : ∀ n, fa_first p n < n → p (fa_first p n) = true
  | 0, h => absurd h (Nat.not_lt_zero _)
  | n + 1, h => by
    have ih := fa_first_yes p n
    have hl := fa_first_le p n
    unfold fa_first at h ⊢
    split at h
    · rename_i h1
      rw [if_pos h1]
      exact ih h1
    · rename_i h1
      rw [if_neg h1]
      split at h
      · rename_i h2
        rw [if_pos h2]
        exact h2
      · omega
/-- how many k < n have p k -/
def fa_cnt (p : Nat → Bool) : Nat → Nat
  | 0 => 0
  | n + 1 => fa_cnt p n + if p n then 1 else 0
theorem fa_cnt_le (p : Nat → Bool) : ∀ n, fa_cnt p n ≤ n
  | 0 => Nat.le_refl 0
  | n + 1 => by
    have ih := fa_cnt_le p n
    unfold fa_cnt
    split
    · omega
    · omega
theorem fa_cnt_yes {p : Nat → Bool} {n : Nat} (h : p n = true) : fa_cnt p (n + 1) = fa_cnt p n + 1 := by rw [fa_cnt, if_pos h]
theorem fa_cnt_no {p : Nat → Bool} {n : Nat} (h : p n = false) : fa_cnt p (n + 1) = fa_cnt p n := by rw [fa_cnt, if_neg (by rw [h]; decide)]; rfl
theorem fa_cnt_cong {p q : Nat → Bool} : ∀ {n : Nat}, (∀ k, k < n → p k = q k) → fa_cnt p n = fa_cnt q n
  | 0, _ => rfl
  | n + 1, h => by rw [fa_cnt, fa_cnt, fa_cnt_cong (fun k hk => h k (Nat.lt_succ_of_lt hk)), h n (Nat.lt_succ_self n)]
/-! ===== an answer carried into a post; a branch on a boolean answer ===== -/
theorem fa_post {α : Type} {P : α → Prop} {x y : α} (h : x = y) (hp : P y) : P x := h ▸ hp
theorem fa_post2 {α β : Type} {P : α → β → Prop} {x y : α} {u v : β} (h : x = y) (h2 : u = v) (hp : P y v) : P x u := h ▸ h2 ▸ hp
theorem fa_bool {r : Int32} {b : Bool} (h : r = if b then 1 else 0) : (r = 0 ↔ b = false) ∧ (¬ r = 0 ↔ b = true) := by
  subst h
  cases b
  · exact ⟨⟨fun _ => rfl, fun _ => rfl⟩, ⟨fun h => absurd rfl h, fun h => absurd h (by decide)⟩⟩
  · exact ⟨⟨fun h => absurd h (by decide), fun h => absurd h (by decide)⟩, ⟨fun _ => rfl, fun _ => by decide⟩⟩
/-- a boolean's narrowing changes nothing -/
theorem fa_bool_and {r : Int32} (h : r = 0 ∨ r = 1) : r &&& 1 = r := by
  rcases h with rfl | rfl
  · decide
  · decide
theorem fa_bool_prop {c : Prop} [Decidable c] {r : Int32} (h : r = if c then 1 else 0) : (r = 0 ↔ ¬ c) ∧ (¬ r = 0 ↔ c) := by
  subst h
  by_cases hc : c
  · rw [if_pos hc]
    exact ⟨⟨fun h => absurd h (by decide), fun h => absurd hc h⟩, ⟨fun _ => hc, fun _ => by decide⟩⟩
  · rw [if_neg hc]
    exact ⟨⟨fun _ => hc, fun _ => rfl⟩, ⟨fun h => absurd rfl h, fun h => absurd h hc⟩⟩
end
section
/-! the rules with ints that are numbers: nI n, lN n, b2i c -/
def b2i (c : Bool) : Int32 := nI c.toNat
theorem sm_nb (c : Bool) : narrow .boolean (.int (b2i c)) = .int (b2i c) := by cases c <;> decide
theorem b2i_t : b2i true = nI 1 := rfl
theorem b2i_f : b2i false = nI 0 := rfl
theorem b2i_of {c : Bool} {n : Nat} (h : c.toNat = n) : nI n = b2i c := by subst h; rfl
theorem b2i_eq0 (c : Bool) : b2i c = 0 ↔ c = false := by cases c <;> decide
theorem sm_rv1 {j n k : Nat} {st : List Value} {wd : sm_W} {fs : List Value} (hk : sm_kd j = 1) (hst : st[n - 1]? = some (.ref k)) (hw : wd[k]? = some (.inr (.inr (sm_ci j, fs)))) : sm_recv j n st wd = true := by
  unfold sm_recv
  rw [hk]
  show (match st[n - 1]? with
    | some (.ref k) => (match wd[k]? with
      | some (.inr (.inr (ci, _))) => decide (ci = sm_ci j)
      | _ => false)
    | _ => false) = true
  rw [hst]
  dsimp only
  rw [hw]
  exact decide_eq_true rfl
theorem nI_shl (x : Nat) {k : Nat} (hk : k < 32) : nI x <<< (nI k &&& 31) = nI (x <<< k) := by
  apply b_ext
  intro i hi
  rw [b_shl k hk (nI x) hi]
  simp only [bt, nI]
  simp only [Int32.toBitVec_ofNat', BitVec.getLsbD_ofNat, Nat.testBit_shiftLeft]
  by_cases h : k ≤ i
  · simp [h, hi]; omega
  · simp [h]
theorem nI_ushr {x k : Nat} (hx : x < 2 ^ 32) (hk : k < 32) : ((nI x).toUInt32 >>> ((nI k).toUInt32 &&& Int32.toUInt32 31)).toInt32 = nI (x >>> k) := by
  rw [Nat.shiftRight_eq_div_pow]
  exact pk_ushrN hx (nI k) k (s_u k hk)
theorem nI_shr {x k : Nat} (hx : x < 2 ^ 31) (hk : k < 32) : nI x >>> (nI k &&& 31) = nI (x >>> k) := by
  rw [Nat.shiftRight_eq_div_pow]
  exact pk_shrN hx (nI k &&& 31) k (s_l k hk)
theorem nI_m1 (x : Nat) : nI x ^^^ (-1) = nI (x ^^^ 4294967295) := by
  rw [show (-1 : Int32) = nI 4294967295 from rfl, nx_xor]
section RTN
variable {xs : List Int32} {d j pc : Nat} {L : sm_L} {st : List Value} {wd : sm_W} {Q : Option Value → sm_W → Prop} {a b c : Nat}
theorem R_iaddN {x y : Nat} (h : sm_ic j pc = some (.iadd, a, b, c)) (k : RT xs d j (pc + 1) L (.int (nI (x + y)) :: st) wd Q) : RT xs d j pc L (.int (nI y) :: .int (nI x) :: st) wd Q := R_iadd h (by rw [nI_add]; exact k)
theorem R_isubN {x y : Nat} (h : sm_ic j pc = some (.isub, a, b, c)) (hs : y ≤ x) (k : RT xs d j (pc + 1) L (.int (nI (x - y)) :: st) wd Q) : RT xs d j pc L (.int (nI y) :: .int (nI x) :: st) wd Q := R_isub h (by rw [pk_sub hs]; exact k)
theorem R_imulN {x y : Nat} (h : sm_ic j pc = some (.imul, a, b, c)) (k : RT xs d j (pc + 1) L (.int (nI (x * y)) :: st) wd Q) : RT xs d j pc L (.int (nI y) :: .int (nI x) :: st) wd Q := R_imul h (by rw [pk_mul]; exact k)
theorem R_iandN {x y : Nat} (h : sm_ic j pc = some (.iand, a, b, c)) (k : RT xs d j (pc + 1) L (.int (nI (x &&& y)) :: st) wd Q) : RT xs d j pc L (.int (nI y) :: .int (nI x) :: st) wd Q := R_iand h (by rw [nx_and]; exact k)
theorem R_iorN {x y : Nat} (h : sm_ic j pc = some (.ior, a, b, c)) (k : RT xs d j (pc + 1) L (.int (nI (x ||| y)) :: st) wd Q) : RT xs d j pc L (.int (nI y) :: .int (nI x) :: st) wd Q := R_ior h (by rw [fa_or]; exact k)
theorem R_ixorN {x y : Nat} (h : sm_ic j pc = some (.ixor, a, b, c)) (k : RT xs d j (pc + 1) L (.int (nI (x ^^^ y)) :: st) wd Q) : RT xs d j pc L (.int (nI y) :: .int (nI x) :: st) wd Q := R_ixor h (by rw [nx_xor]; exact k)
theorem R_ishlN {x y : Nat} (h : sm_ic j pc = some (.ishl, a, b, c)) (hs : y < 32) (k : RT xs d j (pc + 1) L (.int (nI (x <<< y)) :: st) wd Q) : RT xs d j pc L (.int (nI y) :: .int (nI x) :: st) wd Q := R_ishl h (by rw [nI_shl x hs]; exact k)
theorem R_iushrN {x y : Nat} (h : sm_ic j pc = some (.iushr, a, b, c)) (hx : x < 2 ^ 32) (hs : y < 32) (k : RT xs d j (pc + 1) L (.int (nI (x >>> y)) :: st) wd Q) : RT xs d j pc L (.int (nI y) :: .int (nI x) :: st) wd Q := R_iushr h (by rw [nI_ushr hx hs]; exact k)
theorem R_ishrN {x y : Nat} (h : sm_ic j pc = some (.ishr, a, b, c)) (hx : x < 2 ^ 31) (hs : y < 32) (k : RT xs d j (pc + 1) L (.int (nI (x >>> y)) :: st) wd Q) : RT xs d j pc L (.int (nI y) :: .int (nI x) :: st) wd Q := R_ishr h (by rw [nI_shr hx hs]; exact k)
theorem R_idivN {x y : Nat} (h : sm_ic j pc = some (.idiv, a, b, c)) (hx : x < 2 ^ 31) (h0 : 0 < y) (hy : y < 2 ^ 31) (k : RT xs d j (pc + 1) L (.int (nI (x / y)) :: st) wd Q) : RT xs d j pc L (.int (nI y) :: .int (nI x) :: st) wd Q := R_idiv h (nI_ne0 h0 hy) (by rw [pk_div hx h0 hy]; exact k)
theorem R_iremN {x y : Nat} (h : sm_ic j pc = some (.irem, a, b, c)) (hx : x < 2 ^ 31) (h0 : 0 < y) (hy : y < 2 ^ 31) (k : RT xs d j (pc + 1) L (.int (nI (x % y)) :: st) wd Q) : RT xs d j pc L (.int (nI y) :: .int (nI x) :: st) wd Q := R_irem h (nI_ne0 h0 hy) (by rw [pk_rem hx h0 hy]; exact k)
theorem R_ixorM {x : Nat} (h : sm_ic j pc = some (.ixor, a, b, c)) (k : RT xs d j (pc + 1) L (.int (nI (x ^^^ 4294967295)) :: st) wd Q) : RT xs d j pc L (.int (-1) :: .int (nI x) :: st) wd Q := R_ixor h (by rw [nI_m1]; exact k)
theorem R_iinc1 {i x : Nat} {L2 : sm_L} (h : sm_ic j pc = some (.iinc i 1, a, b, c)) (hx : L[i]? = some (some (.int (nI x)))) (hl : sm_st1 (sm_ml j) L i (.int (nI (x + 1))) = some L2) (k : RT xs d j (pc + 3) L2 st wd Q) : RT xs d j pc L st wd Q := R_iinc h hx (nI_add x 1) hl k
theorem R_iinc4 {i x : Nat} {L2 : sm_L} (h : sm_ic j pc = some (.iinc i 4, a, b, c)) (hx : L[i]? = some (some (.int (nI x)))) (hl : sm_st1 (sm_ml j) L i (.int (nI (x + 4))) = some L2) (k : RT xs d j (pc + 3) L2 st wd Q) : RT xs d j pc L st wd Q := R_iinc h hx (nI_add x 4) hl k
theorem R_icmp_eq_N {off : Int} {x y : Nat} (h : sm_ic j pc = some (.if_icmp .eq off, a, b, c)) (ht : (pc : Int) + off = (a : Int)) (hx : x < 2 ^ 31) (hy : y < 2 ^ 31) (kt : x = y → RT xs d j a L st wd Q) (kf : x ≠ y → RT xs d j (pc + 3) L st wd Q) : RT xs d j pc L (.int (nI y) :: .int (nI x) :: st) wd Q := R_icmp_eq h ht (fun z => kt ((nI_eq hx hy).mp z)) (fun z => kf (fun w => z ((nI_eq hx hy).mpr w)))
theorem R_if_eq_N {off : Int} {x : Nat} (h : sm_ic j pc = some (.ifCond .eq off, a, b, c)) (ht : (pc : Int) + off = (a : Int)) (hx : x < 2 ^ 31) (kt : x = 0 → RT xs d j a L st wd Q) (kf : x ≠ 0 → RT xs d j (pc + 3) L st wd Q) : RT xs d j pc L (.int (nI x) :: st) wd Q := R_if_eq h ht (fun z => kt ((nI_eq hx (by decide : (0 : Nat) < 2 ^ 31)).mp z)) (fun z => kf (fun w => z ((nI_eq hx (by decide : (0 : Nat) < 2 ^ 31)).mpr w)))
theorem R_icmp_ne_N {off : Int} {x y : Nat} (h : sm_ic j pc = some (.if_icmp .ne off, a, b, c)) (ht : (pc : Int) + off = (a : Int)) (hx : x < 2 ^ 31) (hy : y < 2 ^ 31) (kt : x ≠ y → RT xs d j a L st wd Q) (kf : x = y → RT xs d j (pc + 3) L st wd Q) : RT xs d j pc L (.int (nI y) :: .int (nI x) :: st) wd Q := R_icmp_ne h ht (fun z => kt (fun w => z ((nI_eq hx hy).mpr w))) (fun z => kf ((nI_eq hx hy).mp z))
theorem R_if_ne_N {off : Int} {x : Nat} (h : sm_ic j pc = some (.ifCond .ne off, a, b, c)) (ht : (pc : Int) + off = (a : Int)) (hx : x < 2 ^ 31) (kt : x ≠ 0 → RT xs d j a L st wd Q) (kf : x = 0 → RT xs d j (pc + 3) L st wd Q) : RT xs d j pc L (.int (nI x) :: st) wd Q := R_if_ne h ht (fun z => kt (fun w => z ((nI_eq hx (by decide : (0 : Nat) < 2 ^ 31)).mpr w))) (fun z => kf ((nI_eq hx (by decide : (0 : Nat) < 2 ^ 31)).mp z))
theorem R_icmp_lt_N {off : Int} {x y : Nat} (h : sm_ic j pc = some (.if_icmp .lt off, a, b, c)) (ht : (pc : Int) + off = (a : Int)) (hx : x < 2 ^ 31) (hy : y < 2 ^ 31) (kt : x < y → RT xs d j a L st wd Q) (kf : y ≤ x → RT xs d j (pc + 3) L st wd Q) : RT xs d j pc L (.int (nI y) :: .int (nI x) :: st) wd Q := R_icmp_lt h ht (fun z => kt ((nI_ltI hx hy).mp z)) (fun z => kf (Nat.not_lt.mp (fun w => z ((nI_ltI hx hy).mpr w))))
theorem R_icmp_ge_N {off : Int} {x y : Nat} (h : sm_ic j pc = some (.if_icmp .ge off, a, b, c)) (ht : (pc : Int) + off = (a : Int)) (hx : x < 2 ^ 31) (hy : y < 2 ^ 31) (kt : y ≤ x → RT xs d j a L st wd Q) (kf : x < y → RT xs d j (pc + 3) L st wd Q) : RT xs d j pc L (.int (nI y) :: .int (nI x) :: st) wd Q := R_icmp_ge h ht (fun z => kt ((nI_leI hy hx).mp z)) (fun z => kf (Nat.not_le.mp (fun w => z ((nI_leI hy hx).mpr w))))
theorem R_icmp_gt_N {off : Int} {x y : Nat} (h : sm_ic j pc = some (.if_icmp .gt off, a, b, c)) (ht : (pc : Int) + off = (a : Int)) (hx : x < 2 ^ 31) (hy : y < 2 ^ 31) (kt : y < x → RT xs d j a L st wd Q) (kf : x ≤ y → RT xs d j (pc + 3) L st wd Q) : RT xs d j pc L (.int (nI y) :: .int (nI x) :: st) wd Q := R_icmp_gt h ht (fun z => kt ((nI_ltI hy hx).mp z)) (fun z => kf (Nat.not_lt.mp (fun w => z ((nI_ltI hy hx).mpr w))))
theorem R_if_gt_N {off : Int} {x : Nat} (h : sm_ic j pc = some (.ifCond .gt off, a, b, c)) (ht : (pc : Int) + off = (a : Int)) (hx : x < 2 ^ 31) (kt : 0 < x → RT xs d j a L st wd Q) (kf : x ≤ 0 → RT xs d j (pc + 3) L st wd Q) : RT xs d j pc L (.int (nI x) :: st) wd Q := R_if_gt h ht (fun z => kt ((nI_ltI (by decide : (0 : Nat) < 2 ^ 31) hx).mp z)) (fun z => kf (Nat.not_lt.mp (fun w => z ((nI_ltI (by decide : (0 : Nat) < 2 ^ 31) hx).mpr w))))
theorem R_icmp_le_N {off : Int} {x y : Nat} (h : sm_ic j pc = some (.if_icmp .le off, a, b, c)) (ht : (pc : Int) + off = (a : Int)) (hx : x < 2 ^ 31) (hy : y < 2 ^ 31) (kt : x ≤ y → RT xs d j a L st wd Q) (kf : y < x → RT xs d j (pc + 3) L st wd Q) : RT xs d j pc L (.int (nI y) :: .int (nI x) :: st) wd Q := R_icmp_le h ht (fun z => kt ((nI_leI hx hy).mp z)) (fun z => kf (Nat.not_le.mp (fun w => z ((nI_leI hx hy).mpr w))))
theorem R_if_le_N {off : Int} {x : Nat} (h : sm_ic j pc = some (.ifCond .le off, a, b, c)) (ht : (pc : Int) + off = (a : Int)) (hx : x < 2 ^ 31) (kt : x ≤ 0 → RT xs d j a L st wd Q) (kf : 0 < x → RT xs d j (pc + 3) L st wd Q) : RT xs d j pc L (.int (nI x) :: st) wd Q := R_if_le h ht (fun z => kt ((nI_leI hx (by decide : (0 : Nat) < 2 ^ 31)).mp z)) (fun z => kf (Nat.not_le.mp (fun w => z ((nI_leI hx (by decide : (0 : Nat) < 2 ^ 31)).mpr w))))
theorem R_if_lt_N {off : Int} {x : Nat} (h : sm_ic j pc = some (.ifCond .lt off, a, b, c)) (ht : (pc : Int) + off = (a : Int)) (hx : x < 2 ^ 31) (k : RT xs d j (pc + 3) L st wd Q) : RT xs d j pc L (.int (nI x) :: st) wd Q := R_if_lt h ht (fun z => absurd z (nI_pos hx)) (fun _ => k)
theorem R_if_ge_N {off : Int} {x : Nat} (h : sm_ic j pc = some (.ifCond .ge off, a, b, c)) (ht : (pc : Int) + off = (a : Int)) (hx : x < 2 ^ 31) (k : RT xs d j a L st wd Q) : RT xs d j pc L (.int (nI x) :: st) wd Q := R_if_ge h ht (fun _ => k) (fun z => absurd (nI_pos' hx) z)
theorem R_if_eq_b {off : Int} {v : Bool} (h : sm_ic j pc = some (.ifCond .eq off, a, b, c)) (ht : (pc : Int) + off = (a : Int)) (kt : v = false → RT xs d j a L st wd Q) (kf : v = true → RT xs d j (pc + 3) L st wd Q) : RT xs d j pc L (.int (b2i v) :: st) wd Q := R_if_eq h ht (fun z => kt ((b2i_eq0 v).mp z)) (fun z => kf (by cases v; exact absurd rfl z; rfl))
theorem R_if_ne_b {off : Int} {v : Bool} (h : sm_ic j pc = some (.ifCond .ne off, a, b, c)) (ht : (pc : Int) + off = (a : Int)) (kt : v = true → RT xs d j a L st wd Q) (kf : v = false → RT xs d j (pc + 3) L st wd Q) : RT xs d j pc L (.int (b2i v) :: st) wd Q := R_if_ne h ht (fun z => kt (by cases v; exact absurd rfl z; rfl)) (fun z => kf ((b2i_eq0 v).mp z))
theorem R_i2lN {x : Nat} (h : sm_ic j pc = some (.i2l, a, b, c)) (hx : x < 2 ^ 31) (k : RT xs d j (pc + 1) L (.long (lN x) :: st) wd Q) : RT xs d j pc L (.int (nI x) :: st) wd Q := R_i2l h (by rw [nI_l hx]; exact k)
theorem R_l2iN {x : Nat} (h : sm_ic j pc = some (.l2i, a, b, c)) (k : RT xs d j (pc + 1) L (.int (nI x) :: st) wd Q) : RT xs d j pc L (.long (lN x) :: st) wd Q := R_l2i h (by rw [lN_i]; exact k)
theorem R_laddN {x y : Nat} (h : sm_ic j pc = some (.ladd, a, b, c)) (k : RT xs d j (pc + 1) L (.long (lN (x + y)) :: st) wd Q) : RT xs d j pc L (.long (lN y) :: .long (lN x) :: st) wd Q := R_ladd h (by rw [lN_add]; exact k)
theorem R_lmulN {x y : Nat} (h : sm_ic j pc = some (.lmul, a, b, c)) (k : RT xs d j (pc + 1) L (.long (lN (x * y)) :: st) wd Q) : RT xs d j pc L (.long (lN y) :: .long (lN x) :: st) wd Q := R_lmul h (by rw [lN_mul]; exact k)
theorem R_lsubN {x y : Nat} (h : sm_ic j pc = some (.lsub, a, b, c)) (hs : y ≤ x) (k : RT xs d j (pc + 1) L (.long (lN (x - y)) :: st) wd Q) : RT xs d j pc L (.long (lN y) :: .long (lN x) :: st) wd Q := R_lsub h (by rw [lN_sub hs]; exact k)
theorem R_landN {x y : Nat} (h : sm_ic j pc = some (.land, a, b, c)) (hx : x < 2 ^ 64) (hy : y < 2 ^ 64) (k : RT xs d j (pc + 1) L (.long (lN (x &&& y)) :: st) wd Q) : RT xs d j pc L (.long (lN y) :: .long (lN x) :: st) wd Q := R_land h (by rw [wb_and hx hy]; exact k)
theorem R_lorN {x y : Nat} (h : sm_ic j pc = some (.lor, a, b, c)) (hx : x < 2 ^ 64) (hy : y < 2 ^ 64) (k : RT xs d j (pc + 1) L (.long (lN (x ||| y)) :: st) wd Q) : RT xs d j pc L (.long (lN y) :: .long (lN x) :: st) wd Q := R_lor h (by rw [wb_or hx hy]; exact k)
theorem R_lushrN {x y : Nat} (h : sm_ic j pc = some (.lushr, a, b, c)) (hx : x < 2 ^ 64) (hy : y < 64) (k : RT xs d j (pc + 1) L (.long (lN (x >>> y)) :: st) wd Q) : RT xs d j pc L (.int (nI y) :: .long (lN x) :: st) wd Q := R_lushr h (by rw [wb_shr hx hy, ← Nat.shiftRight_eq_div_pow]; exact k)
theorem R_lshlN {x y : Nat} (h : sm_ic j pc = some (.lshl, a, b, c)) (hy : y < 64) (k : RT xs d j (pc + 1) L (.long (lN (x * 2 ^ y)) :: st) wd Q) : RT xs d j pc L (.int (nI y) :: .long (lN x) :: st) wd Q := R_lshl h (by rw [wb_shl x hy]; exact k)
end RTN
end
section
/-! Standing: the bits of what can change, as numbers -/
def spart (n p k : Nat) : Nat := (n >>> p) % 2 ^ k
def swith (n p k v : Nat) : Nat := (n &&& (((2 ^ k - 1) * 2 ^ p) ^^^ 18446744073709551615)) ||| ((v &&& (2 ^ k - 1)) * 2 ^ p)
theorem spart_lt (n p k : Nat) : spart n p k < 2 ^ k := Nat.mod_lt _ (Nat.two_pow_pos k)
theorem spart_bit (n p k i : Nat) : (spart n p k).testBit i = (decide (i < k) && n.testBit (p + i)) := by
  unfold spart
  rw [Nat.testBit_mod_two_pow, Nat.testBit_shiftRight]
theorem swith_bit {n p k v i : Nat} (hi : i < 64) : (swith n p k v).testBit i = if p ≤ i ∧ i < p + k then v.testBit (i - p) else n.testBit i := by
  unfold swith
  rw [Nat.testBit_or, Nat.testBit_and, Nat.testBit_xor, Nat.testBit_mul_two_pow, Nat.testBit_mul_two_pow, Nat.testBit_and, Nat.testBit_two_pow_sub_one, show (18446744073709551615 : Nat) = 2 ^ 64 - 1 from rfl, Nat.testBit_two_pow_sub_one]
  by_cases h1 : p ≤ i
  · by_cases h2 : i < p + k
    · have h3 : i - p < k := by omega
      simp [h1, h2, h3, hi]
    · have h3 : ¬ i - p < k := by omega
      simp [h1, h2, h3, hi]
  · simp [h1, hi]
theorem swith_lt {n p k v : Nat} (hn : n < 2 ^ 64) (h : p + k ≤ 64) : swith n p k v < 2 ^ 64 := by
  unfold swith
  refine Nat.or_lt_two_pow (Nat.and_lt_two_pow _ (Nat.xor_lt_two_pow ?_ (by decide))) ?_
  · calc (2 ^ k - 1) * 2 ^ p < 2 ^ k * 2 ^ p := Nat.mul_lt_mul_of_pos_right (Nat.sub_lt (Nat.two_pow_pos k) (by decide)) (Nat.two_pow_pos p)
      _ = 2 ^ (k + p) := (Nat.pow_add 2 k p).symm
      _ ≤ 2 ^ 64 := Nat.pow_le_pow_right (by decide) (by omega)
  · rw [Nat.and_two_pow_sub_one_eq_mod]
    calc v % 2 ^ k * 2 ^ p < 2 ^ k * 2 ^ p := Nat.mul_lt_mul_of_pos_right (Nat.mod_lt _ (Nat.two_pow_pos k)) (Nat.two_pow_pos p)
      _ = 2 ^ (k + p) := (Nat.pow_add 2 k p).symm
      _ ≤ 2 ^ 64 := Nat.pow_le_pow_right (by decide) (by omega)
theorem sp_sw_same {n p k v : Nat} (h : p + k ≤ 64) : spart (swith n p k v) p k = v % 2 ^ k := by
  apply Nat.eq_of_testBit_eq
  intro i
  rw [spart_bit, Nat.testBit_mod_two_pow]
  by_cases hi : i < k
  · rw [swith_bit (by omega), if_pos ⟨by omega, by omega⟩, show p + i - p = i by omega]
  · simp [hi]
theorem sp_sw_ne {n p k v p2 k2 : Nat} (h2 : p2 + k2 ≤ 64) (hd : p + k ≤ p2 ∨ p2 + k2 ≤ p) : spart (swith n p k v) p2 k2 = spart n p2 k2 := by
  apply Nat.eq_of_testBit_eq
  intro i
  rw [spart_bit, spart_bit]
  by_cases hi : i < k2
  · rw [swith_bit (by omega), if_neg (by omega)]
  · simp [hi]
theorem R_lxorM {xs : List Int32} {d j pc : Nat} {L : sm_L} {st : List Value} {wd : sm_W} {Q : Option Value → sm_W → Prop} {a b c : Nat} {x : Nat} (h : sm_ic j pc = some (.lxor, a, b, c)) (k : RT xs d j (pc + 1) L (.long (lN (x ^^^ 18446744073709551615)) :: st) wd Q) : RT xs d j pc L (.long (-1) :: .long (lN x) :: st) wd Q := R_lxor h (by rw [show (-1 : Int64) = lN 18446744073709551615 from rfl, lN_xor]; exact k)
theorem sp_eq (n p k : Nat) : n >>> p &&& (1 <<< k - 1) = spart n p k := by rw [Nat.one_shiftLeft, Nat.and_two_pow_sub_one_eq_mod]; rfl
theorem sw_lt1 {k : Nat} (hk : k ≤ 8) : 1 * 2 ^ k - 1 < 256 := by
  have : 2 ^ k ≤ 2 ^ 8 := Nat.pow_le_pow_right (by decide) hk
  have := Nat.two_pow_pos k
  omega
theorem sw_lt2 {k p : Nat} (hk : k ≤ 8) (hp : p ≤ 56) {y : Nat} (hy : y < 256) : y * 2 ^ p < 18446744073709551616 := by
  have h1 : 2 ^ p ≤ 2 ^ 56 := Nat.pow_le_pow_right (by decide) hp
  calc y * 2 ^ p ≤ y * 2 ^ 56 := Nat.mul_le_mul_left _ h1
    _ < 256 * 2 ^ 56 := Nat.mul_lt_mul_of_pos_right hy (by decide)
    _ = 18446744073709551616 := by decide
theorem sw_eq (n p k v : Nat) : (n &&& ((1 * 2 ^ k - 1) * 2 ^ p ^^^ 18446744073709551615)) ||| (v &&& 1 * 2 ^ k - 1) * 2 ^ p = swith n p k v := by rw [Nat.one_mul]; rfl
theorem c_part {xs : List Int32} {d : Nat} {wd : sm_W} {Q : Option Value → sm_W → Prop} {n p k : Nat} (hn : n < 18446744073709551616) (hp : p < 64) (hk : k ≤ 8) (hQ : Q (some (.int (nI (spart n p k)))) wd) : Ct xs (d) 50 [.long (lN n), .int (nI p), .int (nI k)] wd Q := by
  unfold Ct
  show RT xs (d) 50 0 [some (.long (lN n)), none, some (.int (nI p)), some (.int (nI k))] [] wd Q
  refine R_lload_n r_50_0 rfl ?_
  refine R_iload_n r_50_1 rfl ?_
  refine R_lushrN r_50_2 hn hp ?_
  refine R_l2iN r_50_3 ?_
  refine R_iconst r_50_4 (v := nI 1) rfl ?_
  refine R_iload_n r_50_5 rfl ?_
  refine R_ishlN r_50_6 (by omega) ?_
  refine R_iconst r_50_7 (v := nI 1) rfl ?_
  refine R_isubN r_50_8 (by rw [Nat.one_shiftLeft]; exact Nat.one_le_two_pow) ?_
  refine R_iandN r_50_9 ?_
  refine R_iret r_50_10 (ty := .int) rfl rfl (by decide) ?_
  rw [sp_eq]; exact hQ
theorem c_with {xs : List Int32} {d : Nat} {wd : sm_W} {Q : Option Value → sm_W → Prop} {n p k v : Nat} (hn : n < 18446744073709551616) (hp : p ≤ 56) (hk : k ≤ 8) (hv : v < 2147483648) (hQ : Q (some (.long (lN (swith n p k v)))) wd) : Ct xs (d) 34 [.long (lN n), .int (nI p), .int (nI k), .int (nI v)] wd Q := by
  unfold Ct
  show RT xs (d) 34 0 [some (.long (lN n)), none, some (.int (nI p)), some (.int (nI k)), some (.int (nI v)), none, none] [] wd Q
  refine R_lconst r_34_0 (v := lN 1) rfl ?_
  refine R_iload_n r_34_1 rfl ?_
  refine R_lshlN r_34_2 (by omega) ?_
  refine R_lconst r_34_3 (v := lN 1) rfl ?_
  refine R_lsubN r_34_4 (by rw [Nat.one_mul]; exact Nat.one_le_two_pow) ?_
  refine R_lstore r_34_5 rfl ?_
  refine R_lload_n r_34_7 rfl ?_
  refine R_lload r_34_8 rfl ?_
  refine R_iload_n r_34_10 rfl ?_
  refine R_lshlN r_34_11 (by omega) ?_
  refine R_ldc2_w r_34_12 (v := (-1)) rfl ?_
  refine R_lxorM r_34_15 ?_
  refine R_landN r_34_16 hn (Nat.xor_lt_two_pow (sw_lt2 hk hp (sw_lt1 hk)) (by decide)) ?_
  refine R_iload r_34_17 rfl ?_
  refine R_i2lN r_34_19 (by omega) ?_
  refine R_lload r_34_20 rfl ?_
  refine R_landN r_34_22 (by omega) (Nat.lt_of_lt_of_le (sw_lt1 hk) (by decide)) ?_
  refine R_iload_n r_34_23 rfl ?_
  refine R_lshlN r_34_24 (by omega) ?_
  refine R_lorN r_34_25 (Nat.and_lt_two_pow (n := 64) _ (Nat.xor_lt_two_pow (sw_lt2 hk hp (sw_lt1 hk)) (by decide))) (sw_lt2 hk hp (Nat.lt_of_le_of_lt Nat.and_le_right (sw_lt1 hk))) ?_
  refine R_lret r_34_26 rfl ?_
  rw [sw_eq]; exact hQ
end
section
/-! Standing: what each of its methods answers -/
def sLean (n i : Nat) : Nat := spart n i 1 + 2 * spart n (8 + i) 1
def sMind (n i : Nat) : Nat := spart n (16 + 3 * i) 3
def sHeld (n : Nat) : Nat := spart n 40 5
def sStorm (n : Nat) : Bool := decide (spart n 45 1 = 1)
def sIce (n : Nat) : Bool := decide (spart n 46 1 = 1)
def sAg (n q : Nat) : Nat := spart n (8 * q) 8
def wLean (n i l : Nat) : Nat := swith (swith n i 1 (l &&& 1)) (8 + i) 1 (l >>> 1)
def wMind (n i m : Nat) : Nat := swith n (16 + 3 * i) 3 m
def wHeld (n h : Nat) : Nat := swith n 40 5 h
def wWeather (n : Nat) (s i : Bool) : Nat := swith (swith n 45 1 s.toNat) 46 1 i.toNat
theorem and_lt31 (l m : Nat) (h : m < 2147483648) : l &&& m < 2147483648 := Nat.lt_of_le_of_lt Nat.and_le_right h
theorem shr_lt31 (l m : Nat) (h : l < 2147483648) : l >>> m < 2147483648 := Nat.lt_of_le_of_lt (Nat.shiftRight_le l m) h
theorem b2n_lt (c : Bool) : c.toNat < 2147483648 := Nat.lt_of_le_of_lt (Bool.toNat_le c) (by decide)
theorem c_against {xs : List Int32} {d : Nat} {wd : sm_W} {Q : Option Value → sm_W → Prop} {n q : Nat} (hn : n < 18446744073709551616) (hq : q < 2) (hQ : Q (some (.int (nI (sAg n q)))) wd) : Ct xs (d + 1) 70 [.long (lN n), .int (nI q)] wd Q := by
  unfold Ct
  show RT xs (d + 1) 70 0 [some (.long (lN n)), none, some (.int (nI q))] [] wd Q
  refine R_lload_n r_70_0 rfl ?_
  refine R_bipush r_70_1 (v := nI 8) rfl ?_
  refine R_iload_n r_70_3 rfl ?_
  refine R_imulN r_70_4 ?_
  refine R_bipush r_70_5 (v := nI 8) rfl ?_
  refine R_call3 r_70_7 rfl rfl (Nat.le_of_ble_eq_true rfl) (Nat.le_of_ble_eq_true rfl) ?_
  refine c_part (by omega) (by omega) (by omega) ?_
  refine R_iret r_70_10 (ty := .int) rfl rfl (by decide) ?_
  exact hQ
theorem c_leaning {xs : List Int32} {d : Nat} {wd : sm_W} {Q : Option Value → sm_W → Prop} {n i : Nat} (hn : n < 18446744073709551616) (hi : i < 8) (hQ : Q (some (.int (nI (sLean n i)))) wd) : Ct xs (d + 1) 56 [.long (lN n), .int (nI i)] wd Q := by
  unfold Ct
  show RT xs (d + 1) 56 0 [some (.long (lN n)), none, some (.int (nI i))] [] wd Q
  refine R_lload_n r_56_0 rfl ?_
  refine R_iload_n r_56_1 rfl ?_
  refine R_iconst r_56_2 (v := nI 1) rfl ?_
  refine R_call3 r_56_3 rfl rfl (Nat.le_of_ble_eq_true rfl) (Nat.le_of_ble_eq_true rfl) ?_
  refine c_part (by omega) (by omega) (by omega) ?_
  refine R_iconst r_56_6 (v := nI 2) rfl ?_
  refine R_lload_n r_56_7 rfl ?_
  refine R_bipush r_56_8 (v := nI 8) rfl ?_
  refine R_iload_n r_56_10 rfl ?_
  refine R_iaddN r_56_11 ?_
  refine R_iconst r_56_12 (v := nI 1) rfl ?_
  refine R_call3 r_56_13 rfl rfl (Nat.le_of_ble_eq_true rfl) (Nat.le_of_ble_eq_true rfl) ?_
  refine c_part (by omega) (by omega) (by omega) ?_
  refine R_imulN r_56_16 ?_
  refine R_iaddN r_56_17 ?_
  refine R_iret r_56_18 (ty := .int) rfl rfl (by decide) ?_
  exact hQ
theorem c_minded {xs : List Int32} {d : Nat} {wd : sm_W} {Q : Option Value → sm_W → Prop} {n i : Nat} (hn : n < 18446744073709551616) (hi : i < 8) (hQ : Q (some (.int (nI (sMind n i)))) wd) : Ct xs (d + 1) 49 [.long (lN n), .int (nI i)] wd Q := by
  unfold Ct
  show RT xs (d + 1) 49 0 [some (.long (lN n)), none, some (.int (nI i))] [] wd Q
  refine R_lload_n r_49_0 rfl ?_
  refine R_bipush r_49_1 (v := nI 16) rfl ?_
  refine R_iconst r_49_3 (v := nI 3) rfl ?_
  refine R_iload_n r_49_4 rfl ?_
  refine R_imulN r_49_5 ?_
  refine R_iaddN r_49_6 ?_
  refine R_iconst r_49_7 (v := nI 3) rfl ?_
  refine R_call3 r_49_8 rfl rfl (Nat.le_of_ble_eq_true rfl) (Nat.le_of_ble_eq_true rfl) ?_
  refine c_part (by omega) (by omega) (by omega) ?_
  refine R_iret r_49_11 (ty := .int) rfl rfl (by decide) ?_
  exact hQ
theorem c_held {xs : List Int32} {d : Nat} {wd : sm_W} {Q : Option Value → sm_W → Prop} {n : Nat} (hn : n < 18446744073709551616) (hQ : Q (some (.int (nI (sHeld n)))) wd) : Ct xs (d + 1) 60 [.long (lN n)] wd Q := by
  unfold Ct
  show RT xs (d + 1) 60 0 [some (.long (lN n)), none] [] wd Q
  refine R_lload_n r_60_0 rfl ?_
  refine R_bipush r_60_1 (v := nI 40) rfl ?_
  refine R_iconst r_60_3 (v := nI 5) rfl ?_
  refine R_call3 r_60_4 rfl rfl (Nat.le_of_ble_eq_true rfl) (Nat.le_of_ble_eq_true rfl) ?_
  refine c_part (by omega) (by omega) (by omega) ?_
  refine R_iret r_60_7 (ty := .int) rfl rfl (by decide) ?_
  exact hQ
theorem c_storm {xs : List Int32} {d : Nat} {wd : sm_W} {Q : Option Value → sm_W → Prop} {n : Nat} (hn : n < 18446744073709551616) (hQ : Q (some (.int (b2i (sStorm n)))) wd) : Ct xs (d + 1) 69 [.long (lN n)] wd Q := by
  unfold Ct
  show RT xs (d + 1) 69 0 [some (.long (lN n)), none] [] wd Q
  refine R_lload_n r_69_0 rfl ?_
  refine R_bipush r_69_1 (v := nI 45) rfl ?_
  refine R_iconst r_69_3 (v := nI 1) rfl ?_
  refine R_call3 r_69_4 rfl rfl (Nat.le_of_ble_eq_true rfl) (Nat.le_of_ble_eq_true rfl) ?_
  refine c_part (by omega) (by omega) (by omega) ?_
  refine R_iconst r_69_7 (v := nI 1) rfl ?_
  refine R_icmp_ne_N r_69_8 (by decide) (Nat.lt_of_lt_of_le (spart_lt n 45 1) (by decide)) (by decide) (fun h_1 => ?_) (fun h_1 => ?_)
  · refine R_iconst r_69_15 (v := nI 0) rfl ?_
    refine R_iret r_69_16 (ty := .boolean) rfl (by decide) (by decide) ?_
    rw [show sStorm n = false from by unfold sStorm; simp [h_1]] at hQ; exact hQ
  · refine R_iconst r_69_11 (v := nI 1) rfl ?_
    refine R_goto r_69_12 (by decide) ?_
    refine R_iret r_69_16 (ty := .boolean) rfl (by decide) (by decide) ?_
    rw [show sStorm n = true from by unfold sStorm; simp [h_1]] at hQ; exact hQ
theorem c_ice {xs : List Int32} {d : Nat} {wd : sm_W} {Q : Option Value → sm_W → Prop} {n : Nat} (hn : n < 18446744073709551616) (hQ : Q (some (.int (b2i (sIce n)))) wd) : Ct xs (d + 1) 64 [.long (lN n)] wd Q := by
  unfold Ct
  show RT xs (d + 1) 64 0 [some (.long (lN n)), none] [] wd Q
  refine R_lload_n r_64_0 rfl ?_
  refine R_bipush r_64_1 (v := nI 46) rfl ?_
  refine R_iconst r_64_3 (v := nI 1) rfl ?_
  refine R_call3 r_64_4 rfl rfl (Nat.le_of_ble_eq_true rfl) (Nat.le_of_ble_eq_true rfl) ?_
  refine c_part (by omega) (by omega) (by omega) ?_
  refine R_iconst r_64_7 (v := nI 1) rfl ?_
  refine R_icmp_ne_N r_64_8 (by decide) (Nat.lt_of_lt_of_le (spart_lt n 46 1) (by decide)) (by decide) (fun h_1 => ?_) (fun h_1 => ?_)
  · refine R_iconst r_64_15 (v := nI 0) rfl ?_
    refine R_iret r_64_16 (ty := .boolean) rfl (by decide) (by decide) ?_
    rw [show sIce n = false from by unfold sIce; simp [h_1]] at hQ; exact hQ
  · refine R_iconst r_64_11 (v := nI 1) rfl ?_
    refine R_goto r_64_12 (by decide) ?_
    refine R_iret r_64_16 (ty := .boolean) rfl (by decide) (by decide) ?_
    rw [show sIce n = true from by unfold sIce; simp [h_1]] at hQ; exact hQ
theorem c_withLeaning {xs : List Int32} {d : Nat} {wd : sm_W} {Q : Option Value → sm_W → Prop} {n i l : Nat} (hn : n < 18446744073709551616) (hi : i < 8) (hl : l < 4) (hQ : Q (some (.long (lN (wLean n i l)))) wd) : Ct xs (d + 1) 33 [.long (lN n), .int (nI i), .int (nI l)] wd Q := by
  unfold Ct
  show RT xs (d + 1) 33 0 [some (.long (lN n)), none, some (.int (nI i)), some (.int (nI l)), none, none] [] wd Q
  refine R_lload_n r_33_0 rfl ?_
  refine R_iload_n r_33_1 rfl ?_
  refine R_iconst r_33_2 (v := nI 1) rfl ?_
  refine R_iload_n r_33_3 rfl ?_
  refine R_iconst r_33_4 (v := nI 1) rfl ?_
  refine R_iandN r_33_5 ?_
  refine R_call4 r_33_6 rfl rfl (Nat.le_of_ble_eq_true rfl) (Nat.le_of_ble_eq_true rfl) ?_
  refine c_with (by omega) (by omega) (by omega) (and_lt31 _ _ (by decide)) ?_
  refine R_lstore r_33_9 rfl ?_
  refine R_lload r_33_11 rfl ?_
  refine R_bipush r_33_13 (v := nI 8) rfl ?_
  refine R_iload_n r_33_15 rfl ?_
  refine R_iaddN r_33_16 ?_
  refine R_iconst r_33_17 (v := nI 1) rfl ?_
  refine R_iload_n r_33_18 rfl ?_
  refine R_iconst r_33_19 (v := nI 1) rfl ?_
  refine R_iushrN r_33_20 (by omega) (by omega) ?_
  refine R_call4 r_33_21 rfl rfl (Nat.le_of_ble_eq_true rfl) (Nat.le_of_ble_eq_true rfl) ?_
  refine c_with (swith_lt hn (by omega)) (by omega) (by omega) (shr_lt31 _ _ (by omega)) ?_
  refine R_lret r_33_24 rfl ?_
  exact hQ
theorem c_withMinded {xs : List Int32} {d : Nat} {wd : sm_W} {Q : Option Value → sm_W → Prop} {n i m : Nat} (hn : n < 18446744073709551616) (hi : i < 8) (hm : m < 8) (hQ : Q (some (.long (lN (wMind n i m)))) wd) : Ct xs (d + 1) 35 [.long (lN n), .int (nI i), .int (nI m)] wd Q := by
  unfold Ct
  show RT xs (d + 1) 35 0 [some (.long (lN n)), none, some (.int (nI i)), some (.int (nI m))] [] wd Q
  refine R_lload_n r_35_0 rfl ?_
  refine R_bipush r_35_1 (v := nI 16) rfl ?_
  refine R_iconst r_35_3 (v := nI 3) rfl ?_
  refine R_iload_n r_35_4 rfl ?_
  refine R_imulN r_35_5 ?_
  refine R_iaddN r_35_6 ?_
  refine R_iconst r_35_7 (v := nI 3) rfl ?_
  refine R_iload_n r_35_8 rfl ?_
  refine R_call4 r_35_9 rfl rfl (Nat.le_of_ble_eq_true rfl) (Nat.le_of_ble_eq_true rfl) ?_
  refine c_with (by omega) (by omega) (by omega) (by omega) ?_
  refine R_lret r_35_12 rfl ?_
  exact hQ
theorem c_withHeld {xs : List Int32} {d : Nat} {wd : sm_W} {Q : Option Value → sm_W → Prop} {n m : Nat} (hn : n < 18446744073709551616) (hm : m < 32) (hQ : Q (some (.long (lN (wHeld n m)))) wd) : Ct xs (d + 1) 94 [.long (lN n), .int (nI m)] wd Q := by
  unfold Ct
  show RT xs (d + 1) 94 0 [some (.long (lN n)), none, some (.int (nI m))] [] wd Q
  refine R_lload_n r_94_0 rfl ?_
  refine R_bipush r_94_1 (v := nI 40) rfl ?_
  refine R_iconst r_94_3 (v := nI 5) rfl ?_
  refine R_iload_n r_94_4 rfl ?_
  refine R_call4 r_94_5 rfl rfl (Nat.le_of_ble_eq_true rfl) (Nat.le_of_ble_eq_true rfl) ?_
  refine c_with (by omega) (by omega) (by omega) (by omega) ?_
  refine R_lret r_94_8 rfl ?_
  exact hQ
theorem c_oneIf {xs : List Int32} {d : Nat} {wd : sm_W} {Q : Option Value → sm_W → Prop} {v : Bool} (hQ : Q (some (.int (b2i v))) wd) : Ct xs (d) 82 [.int (b2i v)] wd Q := by
  unfold Ct
  show RT xs (d) 82 0 [some (.int (b2i v))] [] wd Q
  refine R_iload_n r_82_0 rfl ?_
  refine R_if_eq_b r_82_1 (by decide) (fun h_1 => ?_) (fun h_1 => ?_)
  · refine R_iconst r_82_8 (v := nI 0) rfl ?_
    refine R_iret r_82_9 (ty := .int) rfl rfl (by decide) ?_
    subst h_1; exact hQ
  · refine R_iconst r_82_4 (v := nI 1) rfl ?_
    refine R_goto r_82_5 (by decide) ?_
    refine R_iret r_82_9 (ty := .int) rfl rfl (by decide) ?_
    subst h_1; exact hQ
theorem c_withWeather {xs : List Int32} {d : Nat} {wd : sm_W} {Q : Option Value → sm_W → Prop} {n : Nat} {s i : Bool} (hn : n < 18446744073709551616) (hQ : Q (some (.long (lN (wWeather n s i)))) wd) : Ct xs (d + 1) 96 [.long (lN n), .int (b2i s), .int (b2i i)] wd Q := by
  unfold Ct
  show RT xs (d + 1) 96 0 [some (.long (lN n)), none, some (.int (b2i s)), some (.int (b2i i))] [] wd Q
  refine R_lload_n r_96_0 rfl ?_
  refine R_bipush r_96_1 (v := nI 45) rfl ?_
  refine R_iconst r_96_3 (v := nI 1) rfl ?_
  refine R_iload_n r_96_4 rfl ?_
  refine R_call1 r_96_5 rfl rfl (Nat.le_of_ble_eq_true rfl) (Nat.le_of_ble_eq_true rfl) ?_
  refine c_oneIf ?_
  refine R_call4 r_96_8 rfl rfl (Nat.le_of_ble_eq_true rfl) (Nat.le_of_ble_eq_true rfl) ?_
  refine c_with (v := s.toNat) (by omega) (by omega) (by omega) (b2n_lt _) ?_
  refine R_bipush r_96_11 (v := nI 46) rfl ?_
  refine R_iconst r_96_13 (v := nI 1) rfl ?_
  refine R_iload_n r_96_14 rfl ?_
  refine R_call1 r_96_15 rfl rfl (Nat.le_of_ble_eq_true rfl) (Nat.le_of_ble_eq_true rfl) ?_
  refine c_oneIf ?_
  refine R_call4 r_96_18 rfl rfl (Nat.le_of_ble_eq_true rfl) (Nat.le_of_ble_eq_true rfl) ?_
  refine c_with (v := i.toNat) (swith_lt hn (by omega)) (by omega) (by omega) (b2n_lt _) ?_
  refine R_lret r_96_21 rfl ?_
  exact hQ
end
section
/-! an island, as it lies in a world; what its reading methods answer -/
theorem R_alenIm {xs : List Int32} {d j pc : Nat} {L : sm_L} {st : List Value} {wd : sm_W} {Q : Option Value → sm_W → Prop} {a b c k0 t m : Nat} {l : List Int32} (h : sm_ic j pc = some (.arraylength, a, b, c)) (hk : ¬ k0 = 1000002 ∧ ¬ k0 = 1000004) (hw : wd[k0]? = some (.inl (t, l))) (hl : l.length = m) (k : RT xs d j (pc + 1) L (.int (nI m) :: st) wd Q) : RT xs d j pc L (.ref k0 :: st) wd Q := R_alenI h hk hw (by rw [hl]; exact k)
theorem R_alenLm {xs : List Int32} {d j pc : Nat} {L : sm_L} {st : List Value} {wd : sm_W} {Q : Option Value → sm_W → Prop} {a b c k0 m : Nat} {l : List Int64} (h : sm_ic j pc = some (.arraylength, a, b, c)) (hk : ¬ k0 = 1000002 ∧ ¬ k0 = 1000004) (hw : wd[k0]? = some (.inr (.inl l))) (hl : l.length = m) (k : RT xs d j (pc + 1) L (.int (nI m) :: st) wd Q) : RT xs d j pc L (.ref k0 :: st) wd Q := R_alenL h hk hw (by rw [hl]; exact k)
theorem tb_nat (s i : Nat) : s >>> i &&& 1 = (s.testBit i).toNat := by
  rw [Nat.and_comm]
  simp only [Nat.testBit]
  have h : 1 &&& s >>> i = 0 ∨ 1 &&& s >>> i = 1 := by
    have := Nat.and_le_left (n := 1) (m := s >>> i)
    omega
  rcases h with h | h <;> rw [h] <;> rfl
section RB
variable {xs : List Int32} {d j pc : Nat} {L : sm_L} {st : List Value} {wd : sm_W} {Q : Option Value → sm_W → Prop} {a b c : Nat}
theorem R_iandBit {s i : Nat} (h : sm_ic j pc = some (.iand, a, b, c)) (k : RT xs d j (pc + 1) L (.int (b2i (s.testBit i)) :: st) wd Q) : RT xs d j pc L (.int (nI 1) :: .int (nI (s >>> i)) :: st) wd Q := R_iandN h (by rw [tb_nat]; exact k)
theorem b2i_eq1 (v : Bool) : b2i v = nI 1 ↔ v = true := by cases v <;> decide
theorem R_icmp_ne_b1 {off : Int} {v : Bool} (h : sm_ic j pc = some (.if_icmp .ne off, a, b, c)) (ht : (pc : Int) + off = (a : Int)) (kt : v = false → RT xs d j a L st wd Q) (kf : v = true → RT xs d j (pc + 3) L st wd Q) : RT xs d j pc L (.int (nI 1) :: .int (b2i v) :: st) wd Q := R_icmp_ne h ht (fun z => kt (by cases v; rfl; exact absurd rfl z)) (fun z => kf ((b2i_eq1 v).mp z))
theorem R_icmp_eq_b1 {off : Int} {v : Bool} (h : sm_ic j pc = some (.if_icmp .eq off, a, b, c)) (ht : (pc : Int) + off = (a : Int)) (kt : v = true → RT xs d j a L st wd Q) (kf : v = false → RT xs d j (pc + 3) L st wd Q) : RT xs d j pc L (.int (nI 1) :: .int (b2i v) :: st) wd Q := R_icmp_eq h ht (fun z => kt ((b2i_eq1 v).mp z)) (fun z => kf (by cases v; rfl; exact absurd rfl z))
end RB
theorem sm_ixM {l : List Nat} {i : Nat} (h : i < l.length) (h2 : i < 2147483648) : sm_ix (l.map nI) (nI i) = some (nI (l.getD i 0)) := by
  rw [sm_ixN h2, List.getElem?_map, List.getElem?_eq_getElem h, List.getD_eq_getElem?_getD, List.getElem?_eq_getElem h]
  rfl
/-- an island: kinds, cows, seats; how many islanders, boats; beds, cows to be milked, tenths, the seasick's tenths; its first standing -/
abbrev sm_Is : Type := List Nat × List Nat × List Nat × (Nat × Nat) × (Nat × Nat × Nat × Nat) × Nat
abbrev iK (I : sm_Is) : List Nat := I.1
abbrev iC (I : sm_Is) : List Nat := I.2.1
abbrev iS (I : sm_Is) : List Nat := I.2.2.1
abbrev iN (I : sm_Is) : Nat := I.2.2.2.1.1
abbrev iB (I : sm_Is) : Nat := I.2.2.2.1.2
abbrev iBd (I : sm_Is) : Nat := I.2.2.2.2.1.1
abbrev iM (I : sm_Is) : Nat := I.2.2.2.2.1.2.1
abbrev iP (I : sm_Is) : Nat := I.2.2.2.2.1.2.2.1
abbrev iX (I : sm_Is) : Nat := I.2.2.2.2.1.2.2.2
abbrev iF (I : sm_Is) : Nat := I.2.2.2.2.2
def sm_isO (a : Nat) (I : sm_Is) : sm_E := .inr (.inr (1, [.ref (a + 1), .ref (a + 2), .ref (a + 3), .int (nI (iN I)), .int (nI (iB I)), .int (nI (iBd I)), .int (nI (iM I)), .int (nI (iP I)), .int (nI (iX I)), .long (lN (iF I))]))
/-- it lies at a, its rows behind it -/
def isI (wd : sm_W) (a : Nat) (I : sm_Is) : Prop := wd[a]? = some (sm_isO a I) ∧ wd[a + 1]? = some (.inl (0, (iK I).map nI)) ∧ wd[a + 2]? = some (.inl (0, (iC I).map nI)) ∧ wd[a + 3]? = some (.inl (0, (iS I).map nI)) ∧ a < 1000
/-- its numbers are such as a text tells -/
def iWF (I : sm_Is) : Prop := (iK I).length = 8 ∧ (iC I).length = 8 ∧ (iS I).length = 5 ∧ iN I ≤ 8 ∧ iB I ≤ 5 ∧ (∀ i, (iK I).getD i 0 < 4) ∧ (∀ i, (iC I).getD i 0 ≤ 9) ∧ (∀ i, (iS I).getD i 0 ≤ 8) ∧ (∀ i, iN I ≤ i → (iK I).getD i 0 = 0 ∧ (iC I).getD i 0 = 0) ∧ (∀ i, iB I ≤ i → (iS I).getD i 0 = 0) ∧ iBd I ≤ 9 ∧ iM I ≤ 40 ∧ (1 ≤ iP I ∧ iP I ≤ 9) ∧ iX I ≤ 10 ∧ iF I < 18446744073709551616
/-- sums over the first k places of which the bit is set -/
def sumUp (l : List Nat) (s : Nat) : Nat → Nat
  | 0 => 0
  | k + 1 => sumUp l s k + if s.testBit k then l.getD k 0 else 0
theorem sumUp_le {l : List Nat} {s m : Nat} (h : ∀ i, l.getD i 0 ≤ m) : ∀ k, sumUp l s k ≤ m * k
  | 0 => Nat.zero_le _
  | k + 1 => by
    have h1 := sumUp_le (s := s) h k
    have h2 := h k
    unfold sumUp
    rw [Nat.mul_succ]
    split <;> omega
/-- the set of the places below k that hold v -/
def kindUp (l : List Nat) (v : Nat) : Nat → Nat
  | 0 => 0
  | k + 1 => if l.getD k 0 = v then kindUp l v k ||| 1 <<< k else kindUp l v k

theorem c_kind {xs : List Int32} {d : Nat} {wd : sm_W} {Q : Option Value → sm_W → Prop} {a : Nat} {I : sm_Is} (hI : isI wd a I) (hW : iWF I) {i : Nat} (hi : i < 8) (hQ : Q (some (.int (nI ((iK I).getD i 0)))) wd) : Ct xs (d) 39 [.ref a, .int (nI i)] wd Q := by
  unfold Ct
  show RT xs (d) 39 0 [some (.ref a), some (.int (nI i))] [] wd Q
  obtain ⟨hI1, hI2, hI3, hI4, ha⟩ := id hI
  obtain ⟨hW1, hW2, hW3, hW4, hW5, hW6, hW7, hW8, hW9, hW10, hW11, hW12, hW13, hW14, hW15⟩ := id hW
  refine R_iload_n r_39_0 rfl ?_
  refine R_if_lt_N r_39_1 (by decide) (by omega) ?_
  refine R_iload_n r_39_4 rfl ?_
  refine R_aload_n r_39_5 rfl (by omega) ?_
  refine R_getf r_39_6 (by decide) hI.1 rfl ?_
  refine R_alenIm r_39_9 ⟨(by omega), (by omega)⟩ hI.2.1 (m := 8) (by rw [List.length_map]; exact hW.1) ?_
  refine R_icmp_ge_N r_39_10 (by decide) (by omega) (by omega) (fun h_1 => ?_) (fun h_1 => ?_)
  · exfalso; omega
  · refine R_aload_n r_39_13 rfl (by omega) ?_
    refine R_getf r_39_14 (by decide) hI.1 rfl ?_
    refine R_iload_n r_39_17 rfl ?_
    refine R_iald r_39_18 (by omega) hI.2.1 (sm_ixM (by omega) (by omega)) ?_
    refine R_goto r_39_19 (by decide) ?_
    refine R_iret r_39_23 (ty := .int) rfl rfl (by decide) ?_
    exact hQ
theorem lp_cowsOf {xs : List Int32} {d : Nat} {wd : sm_W} {Q : Option Value → sm_W → Prop} {a : Nat} {I : sm_Is} (hI : isI wd a I) (hW : iWF I) {s : Nat} (hs : s < 2147483648) (hQ : Q (some (.int (nI (sumUp (iC I) s 8)))) wd) : ∀ (k i : Nat), i + k = 8 → RT xs (d) 40 4 [some (.ref a), some (.int (nI s)), some (.int (nI (sumUp (iC I) s i))), some (.int (nI i))] [] wd Q := by
  intro k
  induction k with
  | zero =>
    intro i hk 
    obtain ⟨hI1, hI2, hI3, hI4, ha⟩ := id hI
    obtain ⟨hW1, hW2, hW3, hW4, hW5, hW6, hW7, hW8, hW9, hW10, hW11, hW12, hW13, hW14, hW15⟩ := id hW
    refine R_iload_n r_40_4 rfl ?_
    refine R_aload_n r_40_5 rfl (by omega) ?_
    refine R_getf r_40_6 (by decide) hI.1 rfl ?_
    refine R_alenIm r_40_9 ⟨(by omega), (by omega)⟩ hI.2.2.1 (m := 8) (by rw [List.length_map]; exact hW.2.1) ?_
    refine R_icmp_ge_N r_40_10 (by decide) (by omega) (by omega) (fun h_1 => ?_) (fun h_1 => ?_)
    · refine R_iload_n r_40_37 rfl ?_
      refine R_iret r_40_38 (ty := .int) rfl rfl (by decide) ?_
      rw [show i = 8 by omega]; exact hQ
    · exfalso; omega
  | succ k ih =>
    intro i hk 
    obtain ⟨hI1, hI2, hI3, hI4, ha⟩ := id hI
    obtain ⟨hW1, hW2, hW3, hW4, hW5, hW6, hW7, hW8, hW9, hW10, hW11, hW12, hW13, hW14, hW15⟩ := id hW
    refine R_iload_n r_40_4 rfl ?_
    refine R_aload_n r_40_5 rfl (by omega) ?_
    refine R_getf r_40_6 (by decide) hI.1 rfl ?_
    refine R_alenIm r_40_9 ⟨(by omega), (by omega)⟩ hI.2.2.1 (m := 8) (by rw [List.length_map]; exact hW.2.1) ?_
    refine R_icmp_ge_N r_40_10 (by decide) (by omega) (by omega) (fun h_1 => ?_) (fun h_1 => ?_)
    · exfalso; omega
    · refine R_iload_n r_40_13 rfl ?_
      refine R_iload_n r_40_14 rfl ?_
      refine R_iushrN r_40_15 (by omega) (by omega) ?_
      refine R_iconst r_40_16 (v := nI 1) rfl ?_
      refine R_iandBit r_40_17 ?_
      refine R_iconst r_40_18 (v := nI 1) rfl ?_
      refine R_icmp_ne_b1 r_40_19 (by decide) (fun hb => ?_) (fun hb => ?_)
      · refine R_iinc1 r_40_31 rfl rfl ?_
        refine R_goto r_40_34 (by decide) ?_
        have := ih (i + 1) (by omega)
        unfold sumUp at this
        simp only [hb, if_true, if_false, Bool.false_eq_true, Nat.add_zero] at this
        exact this
      · refine R_iload_n r_40_22 rfl ?_
        refine R_aload_n r_40_23 rfl (by omega) ?_
        refine R_getf r_40_24 (by decide) hI.1 rfl ?_
        refine R_iload_n r_40_27 rfl ?_
        refine R_iald r_40_28 (by omega) hI.2.2.1 (sm_ixM (by omega) (by omega)) ?_
        refine R_iaddN r_40_29 ?_
        refine R_istore_n r_40_30 rfl ?_
        refine R_iinc1 r_40_31 rfl rfl ?_
        refine R_goto r_40_34 (by decide) ?_
        have := ih (i + 1) (by omega)
        unfold sumUp at this
        simp only [hb, if_true, if_false, Bool.false_eq_true, Nat.add_zero] at this
        exact this
theorem c_cowsOf {xs : List Int32} {d : Nat} {wd : sm_W} {Q : Option Value → sm_W → Prop} {a : Nat} {I : sm_Is} (hI : isI wd a I) (hW : iWF I) {s : Nat} (hs : s < 2147483648) (hQ : Q (some (.int (nI (sumUp (iC I) s 8)))) wd) : Ct xs (d) 40 [.ref a, .int (nI s)] wd Q := by
  unfold Ct
  show RT xs (d) 40 0 [some (.ref a), some (.int (nI s)), none, none] [] wd Q
  refine R_iconst r_40_0 (v := nI 0) rfl ?_
  refine R_istore_n r_40_1 rfl ?_
  refine R_iconst r_40_2 (v := nI 0) rfl ?_
  refine R_istore_n r_40_3 rfl ?_
  exact lp_cowsOf hI hW hs hQ 8 0 (by omega)
theorem lp_seatsOf {xs : List Int32} {d : Nat} {wd : sm_W} {Q : Option Value → sm_W → Prop} {a : Nat} {I : sm_Is} (hI : isI wd a I) (hW : iWF I) {s : Nat} (hs : s < 2147483648) (hQ : Q (some (.int (nI (sumUp (iS I) s 5)))) wd) : ∀ (k i : Nat), i + k = 5 → RT xs (d) 41 4 [some (.ref a), some (.int (nI s)), some (.int (nI (sumUp (iS I) s i))), some (.int (nI i))] [] wd Q := by
  intro k
  induction k with
  | zero =>
    intro i hk 
    obtain ⟨hI1, hI2, hI3, hI4, ha⟩ := id hI
    obtain ⟨hW1, hW2, hW3, hW4, hW5, hW6, hW7, hW8, hW9, hW10, hW11, hW12, hW13, hW14, hW15⟩ := id hW
    refine R_iload_n r_41_4 rfl ?_
    refine R_aload_n r_41_5 rfl (by omega) ?_
    refine R_getf r_41_6 (by decide) hI.1 rfl ?_
    refine R_alenIm r_41_9 ⟨(by omega), (by omega)⟩ hI.2.2.2.1 (m := 5) (by rw [List.length_map]; exact hW.2.2.1) ?_
    refine R_icmp_ge_N r_41_10 (by decide) (by omega) (by omega) (fun h_1 => ?_) (fun h_1 => ?_)
    · refine R_iload_n r_41_37 rfl ?_
      refine R_iret r_41_38 (ty := .int) rfl rfl (by decide) ?_
      rw [show i = 5 by omega]; exact hQ
    · exfalso; omega
  | succ k ih =>
    intro i hk 
    obtain ⟨hI1, hI2, hI3, hI4, ha⟩ := id hI
    obtain ⟨hW1, hW2, hW3, hW4, hW5, hW6, hW7, hW8, hW9, hW10, hW11, hW12, hW13, hW14, hW15⟩ := id hW
    refine R_iload_n r_41_4 rfl ?_
    refine R_aload_n r_41_5 rfl (by omega) ?_
    refine R_getf r_41_6 (by decide) hI.1 rfl ?_
    refine R_alenIm r_41_9 ⟨(by omega), (by omega)⟩ hI.2.2.2.1 (m := 5) (by rw [List.length_map]; exact hW.2.2.1) ?_
    refine R_icmp_ge_N r_41_10 (by decide) (by omega) (by omega) (fun h_1 => ?_) (fun h_1 => ?_)
    · exfalso; omega
    · refine R_iload_n r_41_13 rfl ?_
      refine R_iload_n r_41_14 rfl ?_
      refine R_iushrN r_41_15 (by omega) (by omega) ?_
      refine R_iconst r_41_16 (v := nI 1) rfl ?_
      refine R_iandBit r_41_17 ?_
      refine R_iconst r_41_18 (v := nI 1) rfl ?_
      refine R_icmp_ne_b1 r_41_19 (by decide) (fun hb => ?_) (fun hb => ?_)
      · refine R_iinc1 r_41_31 rfl rfl ?_
        refine R_goto r_41_34 (by decide) ?_
        have := ih (i + 1) (by omega)
        unfold sumUp at this
        simp only [hb, if_true, if_false, Bool.false_eq_true, Nat.add_zero] at this
        exact this
      · refine R_iload_n r_41_22 rfl ?_
        refine R_aload_n r_41_23 rfl (by omega) ?_
        refine R_getf r_41_24 (by decide) hI.1 rfl ?_
        refine R_iload_n r_41_27 rfl ?_
        refine R_iald r_41_28 (by omega) hI.2.2.2.1 (sm_ixM (by omega) (by omega)) ?_
        refine R_iaddN r_41_29 ?_
        refine R_istore_n r_41_30 rfl ?_
        refine R_iinc1 r_41_31 rfl rfl ?_
        refine R_goto r_41_34 (by decide) ?_
        have := ih (i + 1) (by omega)
        unfold sumUp at this
        simp only [hb, if_true, if_false, Bool.false_eq_true, Nat.add_zero] at this
        exact this
theorem c_seatsOf {xs : List Int32} {d : Nat} {wd : sm_W} {Q : Option Value → sm_W → Prop} {a : Nat} {I : sm_Is} (hI : isI wd a I) (hW : iWF I) {s : Nat} (hs : s < 2147483648) (hQ : Q (some (.int (nI (sumUp (iS I) s 5)))) wd) : Ct xs (d) 41 [.ref a, .int (nI s)] wd Q := by
  unfold Ct
  show RT xs (d) 41 0 [some (.ref a), some (.int (nI s)), none, none] [] wd Q
  refine R_iconst r_41_0 (v := nI 0) rfl ?_
  refine R_istore_n r_41_1 rfl ?_
  refine R_iconst r_41_2 (v := nI 0) rfl ?_
  refine R_istore_n r_41_3 rfl ?_
  exact lp_seatsOf hI hW hs hQ 5 0 (by omega)
end
section
/-! counts of bits; the island's other reading methods -/
def pcUp (s : Nat) : Nat → Nat
  | 0 => 0
  | k + 1 => pcUp s k + (s.testBit k).toNat
abbrev pc8 (s : Nat) : Nat := pcUp s 8
theorem pcUp_le (s : Nat) : ∀ k, pcUp s k ≤ k
  | 0 => Nat.le_refl _
  | k + 1 => by
    have := pcUp_le s k
    have := Bool.toNat_le (s.testBit k)
    unfold pcUp
    omega
def bcf (x : Int32) : Int32 :=
  let a := x - ((x.toUInt32 >>> ((nI 1).toUInt32 &&& Int32.toUInt32 31)).toInt32 &&& nI 1431655765)
  let b := (a &&& nI 858993459) + ((a.toUInt32 >>> ((nI 2).toUInt32 &&& Int32.toUInt32 31)).toInt32 &&& nI 858993459)
  let c := (b + (b.toUInt32 >>> ((nI 4).toUInt32 &&& Int32.toUInt32 31)).toInt32) &&& nI 252645135
  let d := c + (c.toUInt32 >>> ((nI 8).toUInt32 &&& Int32.toUInt32 31)).toInt32
  let e := d + (d.toUInt32 >>> ((nI 16).toUInt32 &&& Int32.toUInt32 31)).toInt32
  e &&& nI 63
theorem bc_eq : ∀ s, s < 256 → bcf (nI s) = nI (pc8 s) := by decide +kernel
theorem c_bitCount {xs : List Int32} {d : Nat} {wd : sm_W} {Q : Option Value → sm_W → Prop} {s : Nat} (hs : s < 256) (hQ : Q (some (.int (nI (pc8 s)))) wd) : Ct xs (d) 78 [.int (nI s)] wd Q := by
  unfold Ct
  show RT xs (d) 78 0 [some (.int (nI s))] [] wd Q
  refine R_iload_n r_78_0 rfl ?_
  refine R_iload_n r_78_1 rfl ?_
  refine R_iconst r_78_2 (v := nI 1) rfl ?_
  refine R_iushr r_78_3 ?_
  refine R_ldc_w r_78_4 (by decide) (v := nI 1431655765) rfl ?_
  refine R_iand r_78_7 ?_
  refine R_isub r_78_8 ?_
  refine R_istore_n r_78_9 rfl ?_
  refine R_iload_n r_78_10 rfl ?_
  refine R_ldc_w r_78_11 (by decide) (v := nI 858993459) rfl ?_
  refine R_iand r_78_14 ?_
  refine R_iload_n r_78_15 rfl ?_
  refine R_iconst r_78_16 (v := nI 2) rfl ?_
  refine R_iushr r_78_17 ?_
  refine R_ldc_w r_78_18 (by decide) (v := nI 858993459) rfl ?_
  refine R_iand r_78_21 ?_
  refine R_iadd r_78_22 ?_
  refine R_istore_n r_78_23 rfl ?_
  refine R_iload_n r_78_24 rfl ?_
  refine R_iload_n r_78_25 rfl ?_
  refine R_iconst r_78_26 (v := nI 4) rfl ?_
  refine R_iushr r_78_27 ?_
  refine R_iadd r_78_28 ?_
  refine R_ldc_w r_78_29 (by decide) (v := nI 252645135) rfl ?_
  refine R_iand r_78_32 ?_
  refine R_istore_n r_78_33 rfl ?_
  refine R_iload_n r_78_34 rfl ?_
  refine R_iload_n r_78_35 rfl ?_
  refine R_bipush r_78_36 (v := nI 8) rfl ?_
  refine R_iushr r_78_38 ?_
  refine R_iadd r_78_39 ?_
  refine R_istore_n r_78_40 rfl ?_
  refine R_iload_n r_78_41 rfl ?_
  refine R_iload_n r_78_42 rfl ?_
  refine R_bipush r_78_43 (v := nI 16) rfl ?_
  refine R_iushr r_78_45 ?_
  refine R_iadd r_78_46 ?_
  refine R_istore_n r_78_47 rfl ?_
  refine R_iload_n r_78_48 rfl ?_
  refine R_bipush r_78_49 (v := nI 63) rfl ?_
  refine R_iand r_78_51 ?_
  refine R_iret r_78_52 (ty := .int) rfl rfl (by decide) ?_
  show Q (some (.int (bcf (nI s)))) wd
  rw [bc_eq s hs]; exact hQ
def lawF (I : sm_Is) (m : Nat) : Bool := decide (iP I * iN I ≤ 10 * m)
def allOf (I : sm_Is) : Nat := 1 <<< iN I - 1
def cowW (I : sm_Is) (s : Nat) : Nat := sumUp (iC I) (allOf I &&& (s ^^^ 4294967295)) 8
theorem shl_lt {k : Nat} (h : k ≤ 8) : 1 <<< k ≤ 256 := by
  rw [Nat.one_shiftLeft]
  exact Nat.pow_le_pow_right (by decide) h
theorem shl_pos (k : Nat) : 1 ≤ 1 <<< k := by
  rw [Nat.one_shiftLeft]
  exact Nat.one_le_two_pow
theorem all_lt {I : sm_Is} (hW : iWF I) : allOf I < 256 := by
  have h1 := shl_lt hW.2.2.2.1
  have h2 := shl_pos (iN I)
  unfold allOf
  omega
theorem c_lawFalls {xs : List Int32} {d : Nat} {wd : sm_W} {Q : Option Value → sm_W → Prop} {a : Nat} {I : sm_Is} (hI : isI wd a I) (hW : iWF I) {s : Nat} (hs : s < 256) (hQ : Q (some (.int (b2i (lawF I (pc8 s))))) wd) : Ct xs (d + 1) 81 [.ref a, .int (nI s)] wd Q := by
  unfold Ct
  show RT xs (d + 1) 81 0 [some (.ref a), some (.int (nI s))] [] wd Q
  obtain ⟨hI1, hI2, hI3, hI4, ha⟩ := id hI
  obtain ⟨hW1, hW2, hW3, hW4, hW5, hW6, hW7, hW8, hW9, hW10, hW11, hW12, hW13, hW14, hW15⟩ := id hW
  have hp : pc8 s ≤ 8 := pcUp_le s 8
  have hm : iP I * iN I ≤ 9 * 8 := Nat.mul_le_mul hW13.2 hW4
  refine R_bipush r_81_0 (v := nI 10) rfl ?_
  refine R_iload_n r_81_2 rfl ?_
  refine R_call1 r_81_3 rfl rfl (Nat.le_of_ble_eq_true rfl) (Nat.le_of_ble_eq_true rfl) ?_
  refine c_bitCount hs ?_
  refine R_imulN r_81_6 ?_
  refine R_aload_n r_81_7 rfl (by omega) ?_
  refine R_getf r_81_8 (by decide) hI.1 rfl ?_
  refine R_aload_n r_81_11 rfl (by omega) ?_
  refine R_getf r_81_12 (by decide) hI.1 rfl ?_
  refine R_imulN r_81_15 ?_
  refine R_icmp_lt_N r_81_16 (by decide) (by omega) (by omega) (fun h_1 => ?_) (fun h_1 => ?_)
  · refine R_iconst r_81_23 (v := nI 0) rfl ?_
    refine R_iret r_81_24 (ty := .boolean) rfl (by decide) (by decide) ?_
    rw [show lawF I (pc8 s) = false from by unfold lawF; simp; omega] at hQ; exact hQ
  · refine R_iconst r_81_19 (v := nI 1) rfl ?_
    refine R_goto r_81_20 (by decide) ?_
    refine R_iret r_81_24 (ty := .boolean) rfl (by decide) (by decide) ?_
    rw [show lawF I (pc8 s) = true from by unfold lawF; simp; omega] at hQ; exact hQ
theorem c_everybody {xs : List Int32} {d : Nat} {wd : sm_W} {Q : Option Value → sm_W → Prop} {a : Nat} {I : sm_Is} (hI : isI wd a I) (hW : iWF I) (hQ : Q (some (.int (nI (allOf I)))) wd) : Ct xs (d) 86 [.ref a] wd Q := by
  unfold Ct
  show RT xs (d) 86 0 [some (.ref a)] [] wd Q
  obtain ⟨hI1, hI2, hI3, hI4, ha⟩ := id hI
  obtain ⟨hW1, hW2, hW3, hW4, hW5, hW6, hW7, hW8, hW9, hW10, hW11, hW12, hW13, hW14, hW15⟩ := id hW
  refine R_iconst r_86_0 (v := nI 1) rfl ?_
  refine R_aload_n r_86_1 rfl (by omega) ?_
  refine R_getf r_86_2 (by decide) hI.1 rfl ?_
  refine R_ishlN r_86_5 (by omega) ?_
  refine R_iconst r_86_6 (v := nI 1) rfl ?_
  refine R_isubN r_86_7 (shl_pos _) ?_
  refine R_iret r_86_8 (ty := .int) rfl rfl (by decide) ?_
  exact hQ
theorem c_cowsWithout {xs : List Int32} {d : Nat} {wd : sm_W} {Q : Option Value → sm_W → Prop} {a : Nat} {I : sm_Is} (hI : isI wd a I) (hW : iWF I) {s : Nat} (hQ : Q (some (.int (nI (cowW I s)))) wd) : Ct xs (d + 1) 85 [.ref a, .int (nI s)] wd Q := by
  unfold Ct
  show RT xs (d + 1) 85 0 [some (.ref a), some (.int (nI s))] [] wd Q
  obtain ⟨hI1, hI2, hI3, hI4, ha⟩ := id hI
  obtain ⟨hW1, hW2, hW3, hW4, hW5, hW6, hW7, hW8, hW9, hW10, hW11, hW12, hW13, hW14, hW15⟩ := id hW
  refine R_aload_n r_85_0 rfl (by omega) ?_
  refine R_aload_n r_85_1 rfl (by omega) ?_
  refine R_call1 r_85_2 rfl (sm_rv1 rfl rfl hI.1) (Nat.le_of_ble_eq_true rfl) (Nat.le_of_ble_eq_true rfl) ?_
  refine c_everybody hI hW ?_
  refine R_iload_n r_85_5 rfl ?_
  refine R_iconst r_85_6 (v := (-1)) rfl ?_
  refine R_ixorM r_85_7 ?_
  refine R_iandN r_85_8 ?_
  refine R_call2 r_85_9 rfl (sm_rv1 rfl rfl hI.1) (Nat.le_of_ble_eq_true rfl) (Nat.le_of_ble_eq_true rfl) ?_
  refine c_cowsOf hI hW (Nat.lt_of_le_of_lt Nat.and_le_left (Nat.lt_trans (all_lt hW) (by decide))) ?_
  refine R_iret r_85_12 (ty := .int) rfl rfl (by decide) ?_
  exact hQ
theorem cowW_le {I : sm_Is} (hW : iWF I) (s : Nat) : cowW I s ≤ 72 := sumUp_le hW.2.2.2.2.2.2.1 8
theorem c_cowsMilked {xs : List Int32} {d : Nat} {wd : sm_W} {Q : Option Value → sm_W → Prop} {a : Nat} {I : sm_Is} (hI : isI wd a I) (hW : iWF I) {s : Nat} (hQ : Q (some (.int (b2i (decide (iM I ≤ cowW I s))))) wd) : Ct xs (d + 2) 87 [.ref a, .int (nI s)] wd Q := by
  unfold Ct
  show RT xs (d + 2) 87 0 [some (.ref a), some (.int (nI s))] [] wd Q
  obtain ⟨hI1, hI2, hI3, hI4, ha⟩ := id hI
  obtain ⟨hW1, hW2, hW3, hW4, hW5, hW6, hW7, hW8, hW9, hW10, hW11, hW12, hW13, hW14, hW15⟩ := id hW
  have hc := cowW_le hW s
  refine R_aload_n r_87_0 rfl (by omega) ?_
  refine R_iload_n r_87_1 rfl ?_
  refine R_call2 r_87_2 rfl (sm_rv1 rfl rfl hI.1) (Nat.le_of_ble_eq_true rfl) (Nat.le_of_ble_eq_true rfl) ?_
  refine c_cowsWithout hI hW ?_
  refine R_aload_n r_87_5 rfl (by omega) ?_
  refine R_getf r_87_6 (by decide) hI.1 rfl ?_
  refine R_icmp_lt_N r_87_9 (by decide) (by omega) (by omega) (fun h_1 => ?_) (fun h_1 => ?_)
  · refine R_iconst r_87_16 (v := nI 0) rfl ?_
    refine R_iret r_87_17 (ty := .boolean) rfl (by decide) (by decide) ?_
    rw [show decide (iM I ≤ cowW I s) = false from by simp; omega] at hQ; exact hQ
  · refine R_iconst r_87_12 (v := nI 1) rfl ?_
    refine R_goto r_87_13 (by decide) ?_
    refine R_iret r_87_17 (ty := .boolean) rfl (by decide) (by decide) ?_
    rw [show decide (iM I ≤ cowW I s) = true from by simp; omega] at hQ; exact hQ
theorem lp_ofKind {xs : List Int32} {d : Nat} {wd : sm_W} {Q : Option Value → sm_W → Prop} {a : Nat} {I : sm_Is} (hI : isI wd a I) (hW : iWF I) {v : Nat} (hv : v < 2147483648) (hQ : Q (some (.int (nI (kindUp (iK I) v (iN I))))) wd) : ∀ (k i : Nat), i + k = iN I → RT xs (d + 1) 67 4 [some (.ref a), some (.int (nI v)), some (.int (nI (kindUp (iK I) v i))), some (.int (nI i))] [] wd Q := by
  intro k
  induction k with
  | zero =>
    intro i hk 
    obtain ⟨hI1, hI2, hI3, hI4, ha⟩ := id hI
    obtain ⟨hW1, hW2, hW3, hW4, hW5, hW6, hW7, hW8, hW9, hW10, hW11, hW12, hW13, hW14, hW15⟩ := id hW
    refine R_iload_n r_67_4 rfl ?_
    refine R_aload_n r_67_5 rfl (by omega) ?_
    refine R_getf r_67_6 (by decide) hI.1 rfl ?_
    refine R_icmp_ge_N r_67_9 (by decide) (by omega) (by omega) (fun h_1 => ?_) (fun h_1 => ?_)
    · refine R_iload_n r_67_33 rfl ?_
      refine R_iret r_67_34 (ty := .int) rfl rfl (by decide) ?_
      rw [show i = iN I by omega]; exact hQ
    · exfalso; omega
  | succ k ih =>
    intro i hk 
    obtain ⟨hI1, hI2, hI3, hI4, ha⟩ := id hI
    obtain ⟨hW1, hW2, hW3, hW4, hW5, hW6, hW7, hW8, hW9, hW10, hW11, hW12, hW13, hW14, hW15⟩ := id hW
    have hkk := hW6 i
    refine R_iload_n r_67_4 rfl ?_
    refine R_aload_n r_67_5 rfl (by omega) ?_
    refine R_getf r_67_6 (by decide) hI.1 rfl ?_
    refine R_icmp_ge_N r_67_9 (by decide) (by omega) (by omega) (fun h_1 => ?_) (fun h_1 => ?_)
    · exfalso; omega
    · refine R_aload_n r_67_12 rfl (by omega) ?_
      refine R_iload_n r_67_13 rfl ?_
      refine R_call2 r_67_14 rfl (sm_rv1 rfl rfl hI.1) (Nat.le_of_ble_eq_true rfl) (Nat.le_of_ble_eq_true rfl) ?_
      refine c_kind hI hW (by omega) ?_
      refine R_iload_n r_67_17 rfl ?_
      refine R_icmp_ne_N r_67_18 (by decide) (by omega) (by omega) (fun hb => ?_) (fun hb => ?_)
      · refine R_iinc1 r_67_27 rfl rfl ?_
        refine R_goto r_67_30 (by decide) ?_
        have := ih (i + 1) (by omega)
        unfold kindUp at this
        first | rw [if_pos hb] at this | rw [if_neg hb] at this
        exact this
      · refine R_iload_n r_67_21 rfl ?_
        refine R_iconst r_67_22 (v := nI 1) rfl ?_
        refine R_iload_n r_67_23 rfl ?_
        refine R_ishlN r_67_24 (by omega) ?_
        refine R_iorN r_67_25 ?_
        refine R_istore_n r_67_26 rfl ?_
        refine R_iinc1 r_67_27 rfl rfl ?_
        refine R_goto r_67_30 (by decide) ?_
        have := ih (i + 1) (by omega)
        unfold kindUp at this
        first | rw [if_pos hb] at this | rw [if_neg hb] at this
        exact this
theorem c_ofKind {xs : List Int32} {d : Nat} {wd : sm_W} {Q : Option Value → sm_W → Prop} {a : Nat} {I : sm_Is} (hI : isI wd a I) (hW : iWF I) {v : Nat} (hv : v < 2147483648) (hQ : Q (some (.int (nI (kindUp (iK I) v (iN I))))) wd) : Ct xs (d + 1) 67 [.ref a, .int (nI v)] wd Q := by
  unfold Ct
  show RT xs (d + 1) 67 0 [some (.ref a), some (.int (nI v)), none, none] [] wd Q
  refine R_iconst r_67_0 (v := nI 0) rfl ?_
  refine R_istore_n r_67_1 rfl ?_
  refine R_iconst r_67_2 (v := nI 0) rfl ?_
  refine R_istore_n r_67_3 rfl ?_
  exact lp_ofKind hI hW hv hQ (iN I) 0 (by omega)
end
section
/-! whom one goes by in the end: the class's walk -/
def crF (kd mn : Nat → Nat) (i : Nat) : Nat → Nat → Bool
  | 0, _ => false
  | k + 1, t => if mn t = i then true else if kd (mn t) = 2 then crF kd mn i k (mn t) else false
def gdF (kd mn : Nat → Nat) : Nat → Nat → Nat
  | 0, t => t
  | k + 1, t => if kd t ≠ 2 then t else if crF kd mn t 8 t = true then t else gdF kd mn k (mn t)
theorem crF_t {kd mn : Nat → Nat} {i k t : Nat} (h : mn t = i) : crF kd mn i (k + 1) t = true := by unfold crF; rw [if_pos h]
theorem crF_f {kd mn : Nat → Nat} {i k t : Nat} (h : mn t ≠ i) (h2 : kd (mn t) ≠ 2) : crF kd mn i (k + 1) t = false := by unfold crF; rw [if_neg h, if_neg h2]
theorem crF_s {kd mn : Nat → Nat} {i k t : Nat} (h : mn t ≠ i) (h2 : kd (mn t) = 2) : crF kd mn i (k + 1) t = crF kd mn i k (mn t) := by rw [crF, if_neg h, if_pos h2]
theorem gdF_1 {kd mn : Nat → Nat} {k t : Nat} (h : kd t ≠ 2) : gdF kd mn (k + 1) t = t := by unfold gdF; rw [if_pos h]
theorem gdF_2 {kd mn : Nat → Nat} {k t : Nat} (h : kd t = 2) (h2 : crF kd mn t 8 t = true) : gdF kd mn (k + 1) t = t := by rw [gdF, if_neg (by omega), if_pos h2]
theorem gdF_3 {kd mn : Nat → Nat} {k t : Nat} (h : kd t = 2) (h2 : crF kd mn t 8 t = false) : gdF kd mn (k + 1) t = gdF kd mn k (mn t) := by rw [gdF, if_neg (by omega), if_neg (by rw [h2]; decide)]
abbrev iKd (I : sm_Is) : Nat → Nat := fun i => (iK I).getD i 0
theorem sMind_lt (n i : Nat) : sMind n i < 8 := spart_lt n _ 3
theorem gdF_lt {kd mn : Nat → Nat} (hm : ∀ i, mn i < 8) : ∀ k t, t < 8 → gdF kd mn k t < 8
  | 0, t, h => h
  | k + 1, t, h => by
    unfold gdF
    split
    · exact h
    · split
      · exact h
      · exact gdF_lt hm k _ (hm t)
theorem lp_comesRound {xs : List Int32} {d : Nat} {wd : sm_W} {Q : Option Value → sm_W → Prop} {a : Nat} {I : sm_Is} (hI : isI wd a I) (hW : iWF I) {w : Nat} (hw : w < 18446744073709551616) {i : Nat} (hi : i < 8) : ∀ (k : Nat) (t0 st0 : Nat), (st0 + k = 8) → (t0 < 8) → (Q (some (.int (b2i (crF (iKd I) (sMind w) i k t0)))) wd) → RT xs (d + 2) 66 6 [some (.ref a), some (.long (lN w)), none, some (.int (nI i)), some (.int (nI t0)), some (.int (nI st0))] [] wd Q := by
  intro k
  induction k with
  | zero =>
    intro t0 st0 hk ht hq
    obtain ⟨hI1, hI2, hI3, hI4, ha⟩ := id hI
    obtain ⟨hW1, hW2, hW3, hW4, hW5, hW6, hW7, hW8, hW9, hW10, hW11, hW12, hW13, hW14, hW15⟩ := id hW
    refine R_iload r_66_6 rfl ?_
    refine R_bipush r_66_8 (v := nI 8) rfl ?_
    refine R_icmp_ge_N r_66_10 (by decide) (by omega) (by omega) (fun h_1 => ?_) (fun h_1 => ?_)
    · refine R_iconst r_66_47 (v := nI 0) rfl ?_
      refine R_iret r_66_48 (ty := .boolean) rfl (by decide) (by decide) ?_
      exact hq
    · exfalso; omega
  | succ k ih =>
    intro t0 st0 hk ht hq
    obtain ⟨hI1, hI2, hI3, hI4, ha⟩ := id hI
    obtain ⟨hW1, hW2, hW3, hW4, hW5, hW6, hW7, hW8, hW9, hW10, hW11, hW12, hW13, hW14, hW15⟩ := id hW
    have hkk := hW6 (sMind w t0)
    have hmm := sMind_lt w t0
    refine R_iload r_66_6 rfl ?_
    refine R_bipush r_66_8 (v := nI 8) rfl ?_
    refine R_icmp_ge_N r_66_10 (by decide) (by omega) (by omega) (fun h_1 => ?_) (fun h_1 => ?_)
    · exfalso; omega
    · refine R_lload_n r_66_13 rfl ?_
      refine R_iload r_66_14 rfl ?_
      refine R_call2 r_66_16 rfl rfl (Nat.le_of_ble_eq_true rfl) (Nat.le_of_ble_eq_true rfl) ?_
      refine c_minded hw (by omega) ?_
      refine R_istore r_66_19 rfl ?_
      refine R_iload r_66_21 rfl ?_
      refine R_iload_n r_66_23 rfl ?_
      refine R_icmp_ne_N r_66_24 (by decide) (by omega) (by omega) (fun h_2 => ?_) (fun h_2 => ?_)
      · refine R_aload_n r_66_29 rfl (by omega) ?_
        refine R_iload r_66_30 rfl ?_
        refine R_call2 r_66_32 rfl (sm_rv1 rfl rfl hI.1) (Nat.le_of_ble_eq_true rfl) (Nat.le_of_ble_eq_true rfl) ?_
        refine c_kind hI hW (by have := sMind_lt w t0; omega) ?_
        refine R_iconst r_66_35 (v := nI 2) rfl ?_
        refine R_icmp_eq_N r_66_36 (by decide) (by omega) (by omega) (fun h_3 => ?_) (fun h_3 => ?_)
        · refine R_iinc1 r_66_41 rfl rfl ?_
          refine R_goto r_66_44 (by decide) ?_
          rw [crF_s (by assumption) (by assumption)] at hq
          exact ih _ (st0 + 1) (by omega) (sMind_lt w _) hq
        · refine R_iconst r_66_39 (v := nI 0) rfl ?_
          refine R_iret r_66_40 (ty := .boolean) rfl (by decide) (by decide) ?_
          rw [crF_f (by assumption) (by assumption)] at hq
          exact hq
      · refine R_iconst r_66_27 (v := nI 1) rfl ?_
        refine R_iret r_66_28 (ty := .boolean) rfl (by decide) (by decide) ?_
        rw [crF_t (by assumption)] at hq
        exact hq
theorem c_comesRound {xs : List Int32} {d : Nat} {wd : sm_W} {Q : Option Value → sm_W → Prop} {a : Nat} {I : sm_Is} (hI : isI wd a I) (hW : iWF I) {w : Nat} (hw : w < 18446744073709551616) {i : Nat} (hi : i < 8) (hQ : Q (some (.int (b2i (crF (iKd I) (sMind w) i 8 i)))) wd) : Ct xs (d + 2) 66 [.ref a, .long (lN w), .int (nI i)] wd Q := by
  unfold Ct
  show RT xs (d + 2) 66 0 [some (.ref a), some (.long (lN w)), none, some (.int (nI i)), none, none] [] wd Q
  refine R_iload_n r_66_0 rfl ?_
  refine R_istore r_66_1 rfl ?_
  refine R_iconst r_66_3 (v := nI 0) rfl ?_
  refine R_istore r_66_4 rfl ?_
  exact lp_comesRound hI hW hw hi 8 i 0 (by omega) hi hQ
theorem lp_guideOf {xs : List Int32} {d : Nat} {wd : sm_W} {Q : Option Value → sm_W → Prop} {i : Nat} {a : Nat} {I : sm_Is} (hI : isI wd a I) (hW : iWF I) {w : Nat} (hw : w < 18446744073709551616) : ∀ (k : Nat) (t0 st0 : Nat), (st0 + k = 8) → (t0 < 8) → (Q (some (.int (nI (gdF (iKd I) (sMind w) k t0)))) wd) → RT xs (d + 3) 65 6 [some (.ref a), some (.long (lN w)), none, some (.int (nI i)), some (.int (nI t0)), some (.int (nI st0))] [] wd Q := by
  intro k
  induction k with
  | zero =>
    intro t0 st0 hk ht hq
    obtain ⟨hI1, hI2, hI3, hI4, ha⟩ := id hI
    obtain ⟨hW1, hW2, hW3, hW4, hW5, hW6, hW7, hW8, hW9, hW10, hW11, hW12, hW13, hW14, hW15⟩ := id hW
    refine R_iload r_65_6 rfl ?_
    refine R_bipush r_65_8 (v := nI 8) rfl ?_
    refine R_icmp_ge_N r_65_10 (by decide) (by omega) (by omega) (fun h_1 => ?_) (fun h_1 => ?_)
    · refine R_iload r_65_50 rfl ?_
      refine R_iret r_65_52 (ty := .int) rfl rfl (by decide) ?_
      exact hq
    · exfalso; omega
  | succ k ih =>
    intro t0 st0 hk ht hq
    obtain ⟨hI1, hI2, hI3, hI4, ha⟩ := id hI
    obtain ⟨hW1, hW2, hW3, hW4, hW5, hW6, hW7, hW8, hW9, hW10, hW11, hW12, hW13, hW14, hW15⟩ := id hW
    have hkk := hW6 t0
    have hmm := sMind_lt w t0
    refine R_iload r_65_6 rfl ?_
    refine R_bipush r_65_8 (v := nI 8) rfl ?_
    refine R_icmp_ge_N r_65_10 (by decide) (by omega) (by omega) (fun h_1 => ?_) (fun h_1 => ?_)
    · exfalso; omega
    · refine R_aload_n r_65_13 rfl (by omega) ?_
      refine R_iload r_65_14 rfl ?_
      refine R_call2 r_65_16 rfl (sm_rv1 rfl rfl hI.1) (Nat.le_of_ble_eq_true rfl) (Nat.le_of_ble_eq_true rfl) ?_
      refine c_kind hI hW (by omega) ?_
      refine R_iconst r_65_19 (v := nI 2) rfl ?_
      refine R_icmp_ne_N r_65_20 (by decide) (by omega) (by omega) (fun h_2 => ?_) (fun h_2 => ?_)
      · refine R_iload r_65_33 rfl ?_
        refine R_iret r_65_35 (ty := .int) rfl rfl (by decide) ?_
        first | rw [gdF_1 (by assumption)] at hq | rw [gdF_2 (by assumption) (by assumption)] at hq
        exact hq
      · refine R_aload_n r_65_23 rfl (by omega) ?_
        refine R_lload_n r_65_24 rfl ?_
        refine R_iload r_65_25 rfl ?_
        refine R_call3 r_65_27 rfl rfl (Nat.le_of_ble_eq_true rfl) (Nat.le_of_ble_eq_true rfl) ?_
        refine c_comesRound hI hW hw (by omega) ?_
        refine R_if_eq_b r_65_30 (by decide) (fun h_3 => ?_) (fun h_3 => ?_)
        · refine R_lload_n r_65_36 rfl ?_
          refine R_iload r_65_37 rfl ?_
          refine R_call2 r_65_39 rfl rfl (Nat.le_of_ble_eq_true rfl) (Nat.le_of_ble_eq_true rfl) ?_
          refine c_minded hw (by omega) ?_
          refine R_istore r_65_42 rfl ?_
          refine R_iinc1 r_65_44 rfl rfl ?_
          refine R_goto r_65_47 (by decide) ?_
          rw [gdF_3 (by assumption) (by assumption)] at hq
          exact ih _ (st0 + 1) (by omega) (sMind_lt w _) hq
        · refine R_iload r_65_33 rfl ?_
          refine R_iret r_65_35 (ty := .int) rfl rfl (by decide) ?_
          first | rw [gdF_1 (by assumption)] at hq | rw [gdF_2 (by assumption) (by assumption)] at hq
          exact hq
theorem c_guideOf {xs : List Int32} {d : Nat} {wd : sm_W} {Q : Option Value → sm_W → Prop} {a : Nat} {I : sm_Is} (hI : isI wd a I) (hW : iWF I) {w : Nat} (hw : w < 18446744073709551616) {i : Nat} (hi : i < 8) (hQ : Q (some (.int (nI (gdF (iKd I) (sMind w) 8 i)))) wd) : Ct xs (d + 3) 65 [.ref a, .long (lN w), .int (nI i)] wd Q := by
  unfold Ct
  show RT xs (d + 3) 65 0 [some (.ref a), some (.long (lN w)), none, some (.int (nI i)), none, none] [] wd Q
  refine R_iload_n r_65_0 rfl ?_
  refine R_istore r_65_1 rfl ?_
  refine R_iconst r_65_3 (v := nI 0) rfl ?_
  refine R_istore r_65_4 rfl ?_
  exact lp_guideOf hI hW hw 8 i 0 (by omega) hi hQ
end
section
/-! the night: set for an island and a standing; who wants to leave, who leaves -/
section RMM
variable {xs : List Int32} {d j pc : Nat} {L : sm_L} {st : List Value} {wd : sm_W} {Q : Option Value → sm_W → Prop} {a b c : Nat}
theorem R_minN {i x y : Nat} (h : sm_ic j pc = some (.invokestatic i, 9996, b, c)) (hd : 1 ≤ d) (hc : (st.map fun v => v.category).sum ≤ 8) (hx : x < 2147483648) (hy : y < 2147483648) (k : RT xs d j (pc + 3) L (.int (nI (min x y)) :: st) wd Q) : RT xs d j pc L (.int (nI y) :: .int (nI x) :: st) wd Q := R_min h hd hc (by
  have e : (if nI y < nI x then nI y else nI x) = nI (min x y) := by
    by_cases hlt : y < x
    · rw [if_pos ((nI_ltI hy hx).mpr hlt), Nat.min_eq_right (by omega)]
    · rw [if_neg (fun z => hlt ((nI_ltI hy hx).mp z)), Nat.min_eq_left (by omega)]
  rw [e]; exact k)
theorem R_maxN {i x y : Nat} (h : sm_ic j pc = some (.invokestatic i, 9997, b, c)) (hd : 1 ≤ d) (hc : (st.map fun v => v.category).sum ≤ 8) (hx : x < 2147483648) (hy : y < 2147483648) (k : RT xs d j (pc + 3) L (.int (nI (max x y)) :: st) wd Q) : RT xs d j pc L (.int (nI y) :: .int (nI x) :: st) wd Q := R_max h hd hc (by
  have e : (if nI x < nI y then nI y else nI x) = nI (max x y) := by
    by_cases hlt : x < y
    · rw [if_pos ((nI_ltI hx hy).mpr hlt), Nat.max_eq_right (by omega)]
    · rw [if_neg (fun z => hlt ((nI_ltI hx hy).mp z)), Nat.max_eq_left (by omega)]
  rw [e]; exact k)
end RMM
theorem sm_set_id {wd : sm_W} {k : Nat} {e : sm_E} (h : wd[k]? = some e) : wd.set k e = wd := by
  obtain ⟨h1, h2⟩ := List.getElem?_eq_some_iff.mp h
  rw [← h2]
  exact List.set_getElem_self h1
theorem isI_set {wd : sm_W} {a k : Nat} {I : sm_Is} {e : sm_E} (hk : k < a ∨ a + 3 < k) (h : isI wd a I) : isI (wd.set k e) a I :=
  ⟨sm_gn (by omega) h.1, sm_gn (by omega) h.2.1, sm_gn (by omega) h.2.2.1, sm_gn (by omega) h.2.2.2.1, h.2.2.2.2⟩
def ntO (nv se bd : Nat) (nb : Bool) : sm_E := .inr (.inr (3, [.ref 14, .int (nI nv), .int (nI se), .int (nI bd), .int (b2i nb)]))
def isN (wd : sm_W) (gs : List Nat) (nv se bd : Nat) (nb : Bool) : Prop := wd[13]? = some (ntO nv se bd nb) ∧ wd[14]? = some (.inl (0, gs.map nI)) ∧ gs.length = 8 ∧ (∀ i, gs.getD i 0 < 8) ∧ nv < 2147483648 ∧ se < 2147483648 ∧ bd < 2147483648
/-- a night of which nothing is known but its shape -/
def isN0 (wd : sm_W) : Prop := ∃ (v1 v2 v3 v4 : Value) (l : List Int32), wd[13]? = some (.inr (.inr (3, [.ref 14, v1, v2, v3, v4]))) ∧ wd[14]? = some (.inl (0, l)) ∧ l.length = 8
theorem isN.to0 {wd : sm_W} {gs : List Nat} {nv se bd : Nat} {nb : Bool} (h : isN wd gs nv se bd nb) : isN0 wd := ⟨_, _, _, _, _, h.1, h.2.1, by rw [List.length_map]; exact h.2.2.1⟩
def lowUp (s m : Nat) : Nat → Nat × Nat
  | 0 => (0, 0)
  | k + 1 => if (lowUp s m k).2 < m ∧ s.testBit k = true then ((lowUp s m k).1 ||| 1 <<< k, (lowUp s m k).2 + 1) else lowUp s m k
theorem lowUp_2 (s m : Nat) : ∀ k, (lowUp s m k).2 ≤ k
  | 0 => Nat.le_refl _
  | k + 1 => by
    have := lowUp_2 s m k
    unfold lowUp
    split <;> simp <;> omega
theorem lowUp_t {s m k : Nat} (h : (lowUp s m k).2 < m) (h2 : s.testBit k = true) : lowUp s m (k + 1) = ((lowUp s m k).1 ||| 1 <<< k, (lowUp s m k).2 + 1) := by rw [lowUp, if_pos ⟨h, h2⟩]
theorem lowUp_f {s m k : Nat} (h : s.testBit k = false) : lowUp s m (k + 1) = lowUp s m k := by rw [lowUp, if_neg (by simp [h])]
theorem lowUp_g {s m k : Nat} (h : m ≤ (lowUp s m k).2) : lowUp s m (k + 1) = lowUp s m k := by rw [lowUp, if_neg (by omega)]
def wntUp (gs : List Nat) (w : Nat) : Nat → Nat
  | 0 => 0
  | k + 1 => wntUp gs w k ||| (w.testBit (gs.getD k 0)).toNat <<< k
def wilF (nb : Bool) (nv ag sick : Nat) : Nat := if nb = true then 0 else ag &&& (nv ^^^ 4294967295) &&& (sick ^^^ 4294967295)
theorem wil_lt {nb : Bool} {nv ag sick : Nat} (h : ag < 256) : wilF nb nv ag sick < 256 := by
  unfold wilF
  split
  · decide
  · exact Nat.lt_of_le_of_lt (Nat.le_trans Nat.and_le_left Nat.and_le_left) h
def wnt (gs : List Nat) (nb : Bool) (nv ag sick : Nat) : Nat := wntUp gs (wilF nb nv ag sick) 8
theorem lp_lowest {xs : List Int32} {d : Nat} {wd : sm_W} {Q : Option Value → sm_W → Prop} {s m : Nat} (hs : s < 2147483648) (hm : m < 2147483648) (hQ : Q (some (.int (nI (lowUp s m 8).1))) wd) : ∀ (k i : Nat), i + k = 8 → RT xs (d) 76 7 [some (.int (nI s)), some (.int (nI m)), some (.int (nI (lowUp s m i).1)), some (.int (nI (lowUp s m i).2)), some (.int (nI i))] [] wd Q := by
  intro k
  induction k with
  | zero =>
    intro i hk 
    have hl2 := lowUp_2 s m i
    refine R_iload r_76_7 rfl ?_
    refine R_bipush r_76_9 (v := nI 8) rfl ?_
    refine R_icmp_ge_N r_76_11 (by decide) (by omega) (by omega) (fun h_1 => ?_) (fun h_1 => ?_)
    · refine R_iload_n r_76_45 rfl ?_
      refine R_iret r_76_46 (ty := .int) rfl rfl (by decide) ?_
      rw [show i = 8 by omega]; exact hQ
    · exfalso; omega
  | succ k ih =>
    intro i hk 
    have hl2 := lowUp_2 s m i
    refine R_iload r_76_7 rfl ?_
    refine R_bipush r_76_9 (v := nI 8) rfl ?_
    refine R_icmp_ge_N r_76_11 (by decide) (by omega) (by omega) (fun h_1 => ?_) (fun h_1 => ?_)
    · exfalso; omega
    · refine R_iload_n r_76_14 rfl ?_
      refine R_iload_n r_76_15 rfl ?_
      refine R_icmp_ge_N r_76_16 (by decide) (by omega) (by omega) (fun h_2 => ?_) (fun h_2 => ?_)
      · refine R_iinc1 r_76_39 rfl rfl ?_
        refine R_goto r_76_42 (by decide) ?_
        have := ih (i + 1) (by omega)
        first | rw [lowUp_t (by assumption) (by assumption)] at this | rw [lowUp_f (by assumption)] at this | rw [lowUp_g (by assumption)] at this
        exact this
      · refine R_iload_n r_76_19 rfl ?_
        refine R_iload r_76_20 rfl ?_
        refine R_iushrN r_76_22 (by omega) (by omega) ?_
        refine R_iconst r_76_23 (v := nI 1) rfl ?_
        refine R_iandBit r_76_24 ?_
        refine R_iconst r_76_25 (v := nI 1) rfl ?_
        refine R_icmp_ne_b1 r_76_26 (by decide) (fun h_3 => ?_) (fun h_3 => ?_)
        · refine R_iinc1 r_76_39 rfl rfl ?_
          refine R_goto r_76_42 (by decide) ?_
          have := ih (i + 1) (by omega)
          first | rw [lowUp_t (by assumption) (by assumption)] at this | rw [lowUp_f (by assumption)] at this | rw [lowUp_g (by assumption)] at this
          exact this
        · refine R_iload_n r_76_29 rfl ?_
          refine R_iconst r_76_30 (v := nI 1) rfl ?_
          refine R_iload r_76_31 rfl ?_
          refine R_ishlN r_76_33 (by omega) ?_
          refine R_iorN r_76_34 ?_
          refine R_istore_n r_76_35 rfl ?_
          refine R_iinc1 r_76_36 rfl rfl ?_
          refine R_iinc1 r_76_39 rfl rfl ?_
          refine R_goto r_76_42 (by decide) ?_
          have := ih (i + 1) (by omega)
          first | rw [lowUp_t (by assumption) (by assumption)] at this | rw [lowUp_f (by assumption)] at this | rw [lowUp_g (by assumption)] at this
          exact this
theorem c_lowest {xs : List Int32} {d : Nat} {wd : sm_W} {Q : Option Value → sm_W → Prop} {s m : Nat} (hs : s < 2147483648) (hm : m < 2147483648) (hQ : Q (some (.int (nI (lowUp s m 8).1))) wd) : Ct xs (d) 76 [.int (nI s), .int (nI m)] wd Q := by
  unfold Ct
  show RT xs (d) 76 0 [some (.int (nI s)), some (.int (nI m)), none, none, none] [] wd Q
  refine R_iconst r_76_0 (v := nI 0) rfl ?_
  refine R_istore_n r_76_1 rfl ?_
  refine R_iconst r_76_2 (v := nI 0) rfl ?_
  refine R_istore_n r_76_3 rfl ?_
  refine R_iconst r_76_4 (v := nI 0) rfl ?_
  refine R_istore r_76_5 rfl ?_
  exact lp_lowest hs hm hQ 8 0 (by omega)
theorem lp_wanting {xs : List Int32} {d : Nat} {wd : sm_W} {Q : Option Value → sm_W → Prop} {gs : List Nat} {nv se bd : Nat} {nb : Bool} (hN : isN wd gs nv se bd nb) {t1 t2 wl : Nat} (hwl : wl < 256) (hQ : Q (some (.int (nI (wntUp gs wl 8)))) wd) : ∀ (k i : Nat), i + k = 8 → RT xs (d) 71 30 [some (.ref 13), some (.int (nI t1)), some (.int (nI t2)), some (.int (nI wl)), some (.int (nI (wntUp gs wl i))), some (.int (nI i))] [] wd Q := by
  intro k
  induction k with
  | zero =>
    intro i hk 
    obtain ⟨hN1, hN2, hN3, hN4, hN5, hN6, hN7⟩ := id hN
    refine R_iload r_71_30 rfl ?_
    refine R_aload_n r_71_32 rfl (by decide) ?_
    refine R_getf r_71_33 (by decide) hN.1 rfl ?_
    refine R_alenIm r_71_36 ⟨(by decide), (by decide)⟩ hN.2.1 (m := 8) (by rw [List.length_map]; exact hN.2.2.1) ?_
    refine R_icmp_ge_N r_71_37 (by decide) (by omega) (by omega) (fun h_1 => ?_) (fun h_1 => ?_)
    · refine R_iload r_71_65 rfl ?_
      refine R_iret r_71_67 (ty := .int) rfl rfl (by decide) ?_
      rw [show i = 8 by omega]; exact hQ
    · exfalso; omega
  | succ k ih =>
    intro i hk 
    obtain ⟨hN1, hN2, hN3, hN4, hN5, hN6, hN7⟩ := id hN
    have hg := hN4 i
    refine R_iload r_71_30 rfl ?_
    refine R_aload_n r_71_32 rfl (by decide) ?_
    refine R_getf r_71_33 (by decide) hN.1 rfl ?_
    refine R_alenIm r_71_36 ⟨(by decide), (by decide)⟩ hN.2.1 (m := 8) (by rw [List.length_map]; exact hN.2.2.1) ?_
    refine R_icmp_ge_N r_71_37 (by decide) (by omega) (by omega) (fun h_1 => ?_) (fun h_1 => ?_)
    · exfalso; omega
    · refine R_iload r_71_40 rfl ?_
      refine R_iload_n r_71_42 rfl ?_
      refine R_aload_n r_71_43 rfl (by decide) ?_
      refine R_getf r_71_44 (by decide) hN.1 rfl ?_
      refine R_iload r_71_47 rfl ?_
      refine R_iald r_71_49 (by decide) hN.2.1 (sm_ixM (by omega) (by omega)) ?_
      refine R_iushrN r_71_50 (by omega) (by omega) ?_
      refine R_iconst r_71_51 (v := nI 1) rfl ?_
      refine R_iandBit r_71_52 ?_
      refine R_iload r_71_53 rfl ?_
      refine R_ishlN r_71_55 (by omega) ?_
      refine R_iorN r_71_56 ?_
      refine R_istore r_71_57 rfl ?_
      refine R_iinc1 r_71_59 rfl rfl ?_
      refine R_goto r_71_62 (by decide) ?_
      have := ih (i + 1) (by omega)
      unfold wntUp at this
      exact this
theorem c_wanting {xs : List Int32} {d : Nat} {wd : sm_W} {Q : Option Value → sm_W → Prop} {gs : List Nat} {nv se bd : Nat} {nb : Bool} (hN : isN wd gs nv se bd nb) {ag sick : Nat} (hag : ag < 256) (hQ : Q (some (.int (nI (wnt gs nb nv ag sick)))) wd) : Ct xs (d) 71 [.ref 13, .int (nI ag), .int (nI sick)] wd Q := by
  unfold Ct
  show RT xs (d) 71 0 [some (.ref 13), some (.int (nI ag)), some (.int (nI sick)), none, none, none] [] wd Q
  refine R_aload_n r_71_0 rfl (by decide) ?_
  refine R_getf r_71_1 (by decide) hN.1 rfl ?_
  refine R_if_eq_b r_71_4 (by decide) (fun h_1 => ?_) (fun h_1 => ?_)
  · refine R_iload_n r_71_11 rfl ?_
    refine R_aload_n r_71_12 rfl (by decide) ?_
    refine R_getf r_71_13 (by decide) hN.1 rfl ?_
    refine R_iconst r_71_16 (v := (-1)) rfl ?_
    refine R_ixorM r_71_17 ?_
    refine R_iandN r_71_18 ?_
    refine R_iload_n r_71_19 rfl ?_
    refine R_iconst r_71_20 (v := (-1)) rfl ?_
    refine R_ixorM r_71_21 ?_
    refine R_iandN r_71_22 ?_
    refine R_istore_n r_71_23 rfl ?_
    refine R_iconst r_71_24 (v := nI 0) rfl ?_
    refine R_istore r_71_25 rfl ?_
    refine R_iconst r_71_27 (v := nI 0) rfl ?_
    refine R_istore r_71_28 rfl ?_
    refine lp_wanting hN (wl := _) ?_ ?_ 8 0 (by omega)
    · exact Nat.lt_of_le_of_lt (by first | exact Nat.zero_le ag | exact Nat.le_trans Nat.and_le_left Nat.and_le_left) hag
    · unfold wnt wilF at hQ; rw [h_1] at hQ; exact hQ
  · refine R_iconst r_71_7 (v := nI 0) rfl ?_
    refine R_goto r_71_8 (by decide) ?_
    refine R_istore_n r_71_23 rfl ?_
    refine R_iconst r_71_24 (v := nI 0) rfl ?_
    refine R_istore r_71_25 rfl ?_
    refine R_iconst r_71_27 (v := nI 0) rfl ?_
    refine R_istore r_71_28 rfl ?_
    refine lp_wanting hN (wl := _) ?_ ?_ 8 0 (by omega)
    · exact Nat.lt_of_le_of_lt (by first | exact Nat.zero_le ag | exact Nat.le_trans Nat.and_le_left Nat.and_le_left) hag
    · unfold wnt wilF at hQ; rw [h_1] at hQ; exact hQ
theorem c_leavingOf {xs : List Int32} {d : Nat} {wd : sm_W} {Q : Option Value → sm_W → Prop} {gs : List Nat} {nv se bd : Nat} {nb : Bool} (hN : isN wd gs nv se bd nb) {s m : Nat} (hs : s < 2147483648) (hm : m < 2147483648) (hQ : Q (some (.int (nI (lowUp s (min se m) 8).1))) wd) : Ct xs (d + 1) 75 [.ref 13, .int (nI s), .int (nI m)] wd Q := by
  unfold Ct
  show RT xs (d + 1) 75 0 [some (.ref 13), some (.int (nI s)), some (.int (nI m))] [] wd Q
  obtain ⟨hN1, hN2, hN3, hN4, hN5, hN6, hN7⟩ := id hN
  refine R_iload_n r_75_0 rfl ?_
  refine R_aload_n r_75_1 rfl (by decide) ?_
  refine R_getf r_75_2 (by decide) hN.1 rfl ?_
  refine R_iload_n r_75_5 rfl ?_
  refine R_minN r_75_6 (by omega) (Nat.le_of_ble_eq_true rfl) (by omega) (by omega) ?_
  refine R_call2 r_75_9 rfl rfl (Nat.le_of_ble_eq_true rfl) (Nat.le_of_ble_eq_true rfl) ?_
  refine c_lowest hs (by omega) ?_
  refine R_iret r_75_12 (ty := .int) rfl rfl (by decide) ?_
  exact hQ
theorem wntUp_lt (gs : List Nat) (w : Nat) : ∀ k, wntUp gs w k < 2 ^ k
  | 0 => Nat.lt_of_lt_of_le (by decide : 0 < 1) (Nat.le_refl _)
  | k + 1 => by
    have h1 := wntUp_lt gs w k
    unfold wntUp
    refine Nat.or_lt_two_pow (Nat.lt_of_lt_of_le h1 (Nat.pow_le_pow_right (by decide) (Nat.le_succ k))) ?_
    rw [Nat.shiftLeft_eq]
    have := Bool.toNat_lt (w.testBit (gs.getD k 0))
    calc (w.testBit (gs.getD k 0)).toNat * 2 ^ k ≤ 1 * 2 ^ k := Nat.mul_le_mul_right _ (by omega)
      _ < 2 ^ (k + 1) := by rw [Nat.one_mul]; exact Nat.pow_lt_pow_right (by decide) (Nat.lt_succ_self k)
theorem wnt_lt (gs : List Nat) (nb : Bool) (nv ag sick : Nat) : wnt gs nb nv ag sick < 256 := wntUp_lt gs _ 8
theorem c_leaving {xs : List Int32} {d : Nat} {wd : sm_W} {Q : Option Value → sm_W → Prop} {gs : List Nat} {nv se bd : Nat} {nb : Bool} (hN : isN wd gs nv se bd nb) {ag sick : Nat} (hag : ag < 256) (hQ : Q (some (.int (nI (lowUp (wnt gs nb nv ag sick) (min se bd) 8).1))) wd) : Ct xs (d + 2) 74 [.ref 13, .int (nI ag), .int (nI sick)] wd Q := by
  unfold Ct
  show RT xs (d + 2) 74 0 [some (.ref 13), some (.int (nI ag)), some (.int (nI sick))] [] wd Q
  obtain ⟨hN1, hN2, hN3, hN4, hN5, hN6, hN7⟩ := id hN
  refine R_aload_n r_74_0 rfl (by decide) ?_
  refine R_aload_n r_74_1 rfl (by decide) ?_
  refine R_iload_n r_74_2 rfl ?_
  refine R_iload_n r_74_3 rfl ?_
  refine R_call3 r_74_4 rfl (sm_rv1 rfl rfl hN.1) (Nat.le_of_ble_eq_true rfl) (Nat.le_of_ble_eq_true rfl) ?_
  refine c_wanting hN hag ?_
  refine R_aload_n r_74_7 rfl (by decide) ?_
  refine R_getf r_74_8 (by decide) hN.1 rfl ?_
  refine R_call3 r_74_11 rfl (sm_rv1 rfl rfl hN.1) (Nat.le_of_ble_eq_true rfl) (Nat.le_of_ble_eq_true rfl) ?_
  refine c_leavingOf hN (Nat.lt_trans (wnt_lt _ _ _ _ _) (by decide)) (by omega) ?_
  refine R_iret r_74_14 (ty := .int) rfl rfl (by decide) ?_
  exact hQ
end
section
/-! Night.set -/
section RST
variable {xs : List Int32} {d j pc : Nat} {L : sm_L} {st : List Value} {wd : sm_W} {Q : Option Value → sm_W → Prop} {a b c : Nat}
theorem R_iastN {k0 i : Nat} {l : List Int32} {x : Int32} (h : sm_ic j pc = some (.iastore, a, b, c)) (hw : wd[k0]? = some (.inl (0, l))) (hi : i < l.length) (hl : l.length < 2147483648) (k : RT xs d j (pc + 1) L st (wd.set k0 (.inl (0, l.set i x))) Q) : RT xs d j pc L (.int x :: .int (nI i) :: .ref k0 :: st) wd Q := R_iast h hw (sm_inN hi hl) (by rw [nI_clamp (by omega)]; exact k)
theorem R_lastN {k0 i : Nat} {l : List Int64} {x : Int64} (h : sm_ic j pc = some (.lastore, a, b, c)) (hw : wd[k0]? = some (.inr (.inl l))) (hi : i < l.length) (hl : l.length < 2147483648) (k : RT xs d j (pc + 1) L st (wd.set k0 (.inr (.inl (l.set i x)))) Q) : RT xs d j pc L (.long x :: .int (nI i) :: .ref k0 :: st) wd Q := R_last h hw (sm_inNL hi hl) (by rw [nI_clamp (by omega)]; exact k)
end RST
theorem pre_set {α : Type} {l : List α} {i : Nat} {f : Nat → α} (h : ∀ t, t < i → l[t]? = some (f t)) (hi : i < l.length) : ∀ t, t < i + 1 → (l.set i (f i))[t]? = some (f t) := by
  intro t ht
  by_cases e : t = i
  · subst e
    exact List.getElem?_set_self hi
  · rw [List.getElem?_set_ne (Ne.symm e)]
    exact h t (by omega)
theorem pre_all {α : Type} {l : List α} {n : Nat} {f : Nat → α} (hl : l.length = n) (h : ∀ t, t < n → l[t]? = some (f t)) : l = (List.range n).map f := by
  apply List.ext_getElem?
  intro t
  by_cases ht : t < n
  · rw [h t ht, List.getElem?_map, List.getElem?_range ht]
    rfl
  · rw [List.getElem?_eq_none (by omega), List.getElem?_eq_none (by simp; omega)]
def gN (ic : Bool) (kd mn : Nat → Nat) (i : Nat) : Nat := if ic = true then i else gdF kd mn 8 i
def ntG (I : sm_Is) (w : Nat) : List Nat := (List.range 8).map (gN (sIce w) (iKd I) (sMind w))
def ntV (I : sm_Is) (w : Nat) : Nat := if sIce w = true then 0 else kindUp (iK I) 3 (iN I)
def ntS (I : sm_Is) (w : Nat) : Nat := if sIce w = true then 8 else sumUp (iS I) (31 &&& (sHeld w ^^^ 4294967295)) 5
def ntB (w : Nat) : Bool := sStorm w && !sIce w
def nightSet (wd : sm_W) (I : sm_Is) (w : Nat) : sm_W := (wd.set 14 (.inl (0, (ntG I w).map nI))).set 13 (ntO (ntV I w) (ntS I w) (iBd I) (ntB w))
theorem ntG_len (I : sm_Is) (w : Nat) : (ntG I w).length = 8 := by unfold ntG; rw [List.length_map, List.length_range]
theorem ntG_get (I : sm_Is) (w : Nat) {i : Nat} (h : i < 8) : (ntG I w).getD i 0 = gN (sIce w) (iKd I) (sMind w) i := by
  unfold ntG
  rw [List.getD_eq_getElem?_getD, List.getElem?_map, List.getElem?_range h]
  rfl
theorem gN_lt {ic : Bool} {kd : Nat → Nat} {w i : Nat} (h : i < 8) : gN ic kd (sMind w) i < 8 := by
  unfold gN
  split
  · exact h
  · exact gdF_lt (sMind_lt w) 8 i h
theorem kindUp_lt (l : List Nat) (v : Nat) : ∀ k, kindUp l v k < 2 ^ k
  | 0 => Nat.lt_of_lt_of_le (by decide : 0 < 1) (Nat.le_refl _)
  | k + 1 => by
    have h1 := kindUp_lt l v k
    unfold kindUp
    split
    · refine Nat.or_lt_two_pow (Nat.lt_of_lt_of_le h1 (Nat.pow_le_pow_right (by decide) (Nat.le_succ k))) ?_
      rw [Nat.one_shiftLeft]
      exact Nat.pow_lt_pow_right (by decide) (Nat.lt_succ_self k)
    · exact Nat.lt_of_lt_of_le h1 (Nat.pow_le_pow_right (by decide) (Nat.le_succ k))
theorem kindN_lt {I : sm_Is} (hW : iWF I) (v : Nat) : kindUp (iK I) v (iN I) < 256 := Nat.lt_of_lt_of_le (kindUp_lt _ _ _) (Nat.pow_le_pow_right (by decide) hW.2.2.2.1)
theorem ntV_lt {I : sm_Is} (hW : iWF I) (w : Nat) : ntV I w < 256 := by
  unfold ntV
  split
  · decide
  · exact kindN_lt hW 3
theorem seats_le {I : sm_Is} (hW : iWF I) (s : Nat) : sumUp (iS I) s 5 ≤ 40 := sumUp_le hW.2.2.2.2.2.2.2.1 5
theorem ntS_le {I : sm_Is} (hW : iWF I) (w : Nat) : ntS I w ≤ 40 := by
  unfold ntS
  split
  · decide
  · exact seats_le hW _
theorem nightSet_isN {wd : sm_W} {I : sm_Is} {w : Nat} (h0 : isN0 wd) (hW : iWF I) : isN (nightSet wd I w) (ntG I w) (ntV I w) (ntS I w) (iBd I) (ntB w) := by
  obtain ⟨v1, v2, v3, v4, l, h1, h2, h3⟩ := h0
  have hv := ntV_lt hW w
  have hs := ntS_le hW w
  have hb := hW.2.2.2.2.2.2.2.2.2.2.1
  refine ⟨sm_gs (sm_gn (by decide) h1), sm_gn (by decide) (sm_gs h2), ntG_len I w, fun i => ?_, by omega, by omega, by omega⟩
  by_cases hi : i < 8
  · rw [ntG_get I w hi]
    exact gN_lt hi
  · rw [List.getD_eq_getElem?_getD, List.getElem?_eq_none (by rw [ntG_len]; omega)]
    decide
theorem nightSet_set {wd : sm_W} {I I2 : sm_Is} {w w2 : Nat} : nightSet (nightSet wd I w) I2 w2 = nightSet wd I2 w2 := by
  unfold nightSet
  rw [List.set_comm _ _ (by decide : (13 : Nat) ≠ 14), List.set_set, List.set_set]
theorem nightSet_gn {wd : sm_W} {I : sm_Is} {w k : Nat} {e : sm_E} (hk : k ≠ 13 ∧ k ≠ 14) (h : wd[k]? = some e) : (nightSet wd I w)[k]? = some e := sm_gn (Ne.symm hk.1) (sm_gn (Ne.symm hk.2) h)
theorem nightSet_isI {wd : sm_W} {I I2 : sm_Is} {w a : Nat} (ha : a + 3 < 13) (h : isI wd a I2) : isI (nightSet wd I w) a I2 := isI_set (Or.inr (by omega)) (isI_set (Or.inr (by omega)) h)
theorem nightSet_isN0 {wd : sm_W} {I : sm_Is} {w : Nat} (hW : iWF I) (h0 : isN0 wd) : isN0 (nightSet wd I w) := (nightSet_isN h0 hW).to0
theorem lp_set {xs : List Int32} {d : Nat} {wd : sm_W} {Q : Option Value → sm_W → Prop} {a : Nat} {I : sm_Is} (hI : isI wd a I) (hW : iWF I) {w : Nat} (hw : w < 18446744073709551616) (ha13 : a + 3 < 13) {v1 v2 v3 v4 : Value} (h13 : wd[13]? = some (.inr (.inr (3, [.ref 14, v1, v2, v3, v4])))) {e0 : sm_E} (h14 : wd[14]? = some e0) {ic : Bool} (hQ : RT xs (d + 4) 63 49 [some (.ref 13), some (.ref a), some (.long (lN w)), none, some (.int (b2i ic)), some (.int (nI 8))] [] (wd.set 14 (.inl (0, ((List.range 8).map (fun t => nI (gN ic (iKd I) (sMind w) t)))))) Q) : ∀ (k : Nat) (i : Nat) (l : List Int32), (i + k = 8) → (l.length = 8) → (∀ t, t < i → l[t]? = some (nI (gN ic (iKd I) (sMind w) t))) → RT xs (d + 4) 63 9 [some (.ref 13), some (.ref a), some (.long (lN w)), none, some (.int (b2i ic)), some (.int (nI i))] [] (wd.set 14 (.inl (0, l))) Q := by
  intro k
  induction k with
  | zero =>
    intro i l hk hlen hpre
    obtain ⟨hI1, hI2, hI3, hI4, ha⟩ := id hI
    obtain ⟨hW1, hW2, hW3, hW4, hW5, hW6, hW7, hW8, hW9, hW10, hW11, hW12, hW13, hW14, hW15⟩ := id hW
    have hI2 := isI_set (k := 14) (e := .inl (0, l)) (Or.inr (by omega)) hI
    refine R_iload r_63_9 rfl ?_
    refine R_aload_n r_63_11 rfl (by decide) ?_
    refine R_getf r_63_12 (by decide) (sm_gn (by decide) h13) rfl ?_
    refine R_alenIm r_63_15 ⟨(by decide), (by decide)⟩ (sm_gs h14) (m := 8) hlen ?_
    refine R_icmp_ge_N r_63_16 (by decide) (by omega) (by omega) (fun h_1 => ?_) (fun h_1 => ?_)
    · rw [pre_all hlen (fun t ht => hpre t (by omega)), show i = 8 by omega]; exact hQ
    · exfalso; omega
  | succ k ih =>
    intro i l hk hlen hpre
    obtain ⟨hI1, hI2, hI3, hI4, ha⟩ := id hI
    obtain ⟨hW1, hW2, hW3, hW4, hW5, hW6, hW7, hW8, hW9, hW10, hW11, hW12, hW13, hW14, hW15⟩ := id hW
    have hI2 := isI_set (k := 14) (e := .inl (0, l)) (Or.inr (by omega)) hI
    refine R_iload r_63_9 rfl ?_
    refine R_aload_n r_63_11 rfl (by decide) ?_
    refine R_getf r_63_12 (by decide) (sm_gn (by decide) h13) rfl ?_
    refine R_alenIm r_63_15 ⟨(by decide), (by decide)⟩ (sm_gs h14) (m := 8) hlen ?_
    refine R_icmp_ge_N r_63_16 (by decide) (by omega) (by omega) (fun h_1 => ?_) (fun h_1 => ?_)
    · exfalso; omega
    · refine R_aload_n r_63_19 rfl (by decide) ?_
      refine R_getf r_63_20 (by decide) (sm_gn (by decide) h13) rfl ?_
      refine R_iload r_63_23 rfl ?_
      refine R_iload r_63_25 rfl ?_
      refine R_if_eq_b r_63_27 (by decide) (fun h_2 => ?_) (fun h_2 => ?_)
      · refine R_aload_n r_63_35 rfl (by omega) ?_
        refine R_lload_n r_63_36 rfl ?_
        refine R_iload r_63_37 rfl ?_
        refine R_call3 r_63_39 rfl rfl (Nat.le_of_ble_eq_true rfl) (Nat.le_of_ble_eq_true rfl) ?_
        refine c_guideOf hI2 hW hw (by omega) ?_
        refine R_iastN r_63_42 (sm_gs h14) (by omega) (by omega) ?_
        refine R_iinc1 r_63_43 rfl rfl ?_
        refine R_goto r_63_46 (by decide) ?_
        rw [List.set_set]
        exact ih (i + 1) _ (by omega) (by rw [List.length_set]; exact hlen) (by first | (have := pre_set hpre (by omega : i < l.length); simpa only [gN, h_2, if_true, if_false, Bool.false_eq_true] using this))
      · refine R_iload r_63_30 rfl ?_
        refine R_goto r_63_32 (by decide) ?_
        refine R_iastN r_63_42 (sm_gs h14) (by omega) (by omega) ?_
        refine R_iinc1 r_63_43 rfl rfl ?_
        refine R_goto r_63_46 (by decide) ?_
        rw [List.set_set]
        exact ih (i + 1) _ (by omega) (by rw [List.length_set]; exact hlen) (by first | (have := pre_set hpre (by omega : i < l.length); simpa only [gN, h_2, if_true, if_false, Bool.false_eq_true] using this))
theorem c_set {xs : List Int32} {d : Nat} {wd : sm_W} {Q : Option Value → sm_W → Prop} {a : Nat} {I : sm_Is} (hI : isI wd a I) (hW : iWF I) {w : Nat} (hw : w < 18446744073709551616) (ha13 : a + 3 < 13) (h0 : isN0 wd) (hQ : Q none (nightSet wd I w)) : Ct xs (d + 4) 63 [.ref 13, .ref a, .long (lN w)] wd Q := by
  unfold Ct
  show RT xs (d + 4) 63 0 [some (.ref 13), some (.ref a), some (.long (lN w)), none, none, none] [] wd Q
  obtain ⟨v1, v2, v3, v4, l, h13, h14, hlen⟩ := h0
  obtain ⟨hI1, hI2, hI3, hI4, ha⟩ := id hI
  obtain ⟨hW1, hW2, hW3, hW4, hW5, hW6, hW7, hW8, hW9, hW10, hW11, hW12, hW13, hW14, hW15⟩ := id hW
  refine R_lload_n r_63_0 rfl ?_
  refine R_call1 r_63_1 rfl rfl (Nat.le_of_ble_eq_true rfl) (Nat.le_of_ble_eq_true rfl) ?_
  refine c_ice hw ?_
  refine R_istore r_63_4 rfl ?_
  refine R_iconst r_63_6 (v := nI 0) rfl ?_
  refine R_istore r_63_7 rfl ?_
  suffices key : RT xs (d + 4) 63 49 [some (.ref 13), some (.ref a), some (.long (lN w)), none, some (.int (b2i (sIce w))), some (.int (nI 8))] [] (wd.set 14 (.inl (0, ((List.range 8).map (fun t => nI (gN (sIce w) (iKd I) (sMind w) t)))))) Q by
    have h1 := lp_set hI hW hw ha13 h13 h14 key 8 0 l rfl hlen (fun t ht => absurd ht (Nat.not_lt_zero t))
    rw [sm_set_id h14] at h1
    exact h1
  have hI2 := isI_set (k := 14) (e := .inl (0, (List.range 8).map (fun t => nI (gN (sIce w) (iKd I) (sMind w) t)))) (Or.inr (by omega)) hI
  have eG : (ntG I w).map nI = (List.range 8).map (fun t => nI (gN (sIce w) (iKd I) (sMind w) t)) := by unfold ntG; rw [List.map_map]; rfl
  unfold nightSet ntV ntS ntB at hQ
  rw [eG] at hQ
  revert hQ
  generalize eG2 : (List.range 8).map (fun t => nI (gN (sIce w) (iKd I) (sMind w) t)) = G at hI2 ⊢
  cases hice : sIce w with
  | false =>
    intro hQ
    refine R_aload_n r_63_49 rfl (by decide) ?_
    refine R_iload r_63_50 rfl ?_
    refine R_ifT r_63_52 (by decide) (by decide) ?_
    refine R_aload_n r_63_59 rfl (by omega) ?_
    refine R_iconst r_63_60 (v := nI 3) rfl ?_
    refine R_call2 r_63_61 rfl (sm_rv1 rfl rfl hI2.1) (Nat.le_of_ble_eq_true rfl) (Nat.le_of_ble_eq_true rfl) ?_
    refine c_ofKind hI2 hW (by decide) ?_
    refine R_putf r_63_64 (sm_gn (by decide) h13) (Nat.le_of_ble_eq_true rfl) rfl rfl ?_
    refine R_aload_n r_63_67 rfl (by decide) ?_
    refine R_iload r_63_68 rfl ?_
    refine R_ifT r_63_70 (by decide) (by decide) ?_
    refine R_aload_n r_63_78 rfl (by omega) ?_
    refine R_bipush r_63_79 (v := nI 31) rfl ?_
    refine R_lload_n r_63_81 rfl ?_
    refine R_call1 r_63_82 rfl rfl (Nat.le_of_ble_eq_true rfl) (Nat.le_of_ble_eq_true rfl) ?_
    refine c_held hw ?_
    refine R_iconst r_63_85 (v := (-1)) rfl ?_
    refine R_ixorM r_63_86 ?_
    refine R_iandN r_63_87 ?_
    refine R_call2 r_63_88 rfl (sm_rv1 rfl rfl (isI_set (Or.inr (by omega)) hI2).1) (Nat.le_of_ble_eq_true rfl) (Nat.le_of_ble_eq_true rfl) ?_
    refine c_seatsOf (isI_set (Or.inr (by omega)) hI2) hW (Nat.lt_of_le_of_lt Nat.and_le_left (by decide)) ?_
    refine R_putf r_63_91 (sm_gs (sm_gn (by decide) h13)) (Nat.le_of_ble_eq_true rfl) rfl rfl ?_
    refine R_aload_n r_63_94 rfl (by decide) ?_
    refine R_aload_n r_63_95 rfl (by omega) ?_
    refine R_call1 r_63_96 rfl (sm_rv1 rfl rfl (isI_set (Or.inr (by omega)) (isI_set (Or.inr (by omega)) hI2)).1) (Nat.le_of_ble_eq_true rfl) (Nat.le_of_ble_eq_true rfl) ?_
    unfold Ct
    refine R_aload_n r_68_0 rfl (by omega) ?_
    refine R_getf r_68_1 (by decide) (isI_set (Or.inr (by omega)) (isI_set (Or.inr (by omega)) hI2)).1 rfl ?_
    refine R_iret r_68_4 (ty := .int) rfl rfl (by decide) ?_
    refine R_putf r_63_99 (sm_gs (sm_gs (sm_gn (by decide) h13))) (Nat.le_of_ble_eq_true rfl) rfl rfl ?_
    refine R_aload_n r_63_102 rfl (by decide) ?_
    refine R_lload_n r_63_103 rfl ?_
    refine R_call1 r_63_104 rfl rfl (Nat.le_of_ble_eq_true rfl) (Nat.le_of_ble_eq_true rfl) ?_
    refine c_storm hw ?_
    refine R_if_eq_b r_63_107 (by decide) (fun h_1 => ?_) (fun h_1 => ?_)
    · refine R_iconst r_63_119 (v := nI 0) rfl ?_
      refine R_putf r_63_120 (sm_gs (sm_gs (sm_gs (sm_gn (by decide) h13)))) (Nat.le_of_ble_eq_true rfl) rfl rfl ?_
      refine R_vret r_63_123 rfl ?_
      rw [List.set_set, List.set_set, List.set_set]
      simpa [ntO, b2i_t, b2i_f, h_1] using hQ
    · refine R_iload r_63_110 rfl ?_
      refine R_ifF r_63_112 (by decide) (by decide) ?_
      refine R_iconst r_63_115 (v := nI 1) rfl ?_
      refine R_goto r_63_116 (by decide) ?_
      refine R_putf r_63_120 (sm_gs (sm_gs (sm_gs (sm_gn (by decide) h13)))) (Nat.le_of_ble_eq_true rfl) rfl rfl ?_
      refine R_vret r_63_123 rfl ?_
      rw [List.set_set, List.set_set, List.set_set]
      simpa [ntO, b2i_t, b2i_f, h_1] using hQ
  | true =>
    intro hQ
    refine R_aload_n r_63_49 rfl (by decide) ?_
    refine R_iload r_63_50 rfl ?_
    refine R_ifF r_63_52 (by decide) (by decide) ?_
    refine R_iconst r_63_55 (v := nI 0) rfl ?_
    refine R_goto r_63_56 (by decide) ?_
    refine R_putf r_63_64 (sm_gn (by decide) h13) (Nat.le_of_ble_eq_true rfl) rfl rfl ?_
    refine R_aload_n r_63_67 rfl (by decide) ?_
    refine R_iload r_63_68 rfl ?_
    refine R_ifF r_63_70 (by decide) (by decide) ?_
    refine R_bipush r_63_73 (v := nI 8) rfl ?_
    refine R_goto r_63_75 (by decide) ?_
    refine R_putf r_63_91 (sm_gs (sm_gn (by decide) h13)) (Nat.le_of_ble_eq_true rfl) rfl rfl ?_
    refine R_aload_n r_63_94 rfl (by decide) ?_
    refine R_aload_n r_63_95 rfl (by omega) ?_
    refine R_call1 r_63_96 rfl (sm_rv1 rfl rfl (isI_set (Or.inr (by omega)) (isI_set (Or.inr (by omega)) hI2)).1) (Nat.le_of_ble_eq_true rfl) (Nat.le_of_ble_eq_true rfl) ?_
    unfold Ct
    refine R_aload_n r_68_0 rfl (by omega) ?_
    refine R_getf r_68_1 (by decide) (isI_set (Or.inr (by omega)) (isI_set (Or.inr (by omega)) hI2)).1 rfl ?_
    refine R_iret r_68_4 (ty := .int) rfl rfl (by decide) ?_
    refine R_putf r_63_99 (sm_gs (sm_gs (sm_gn (by decide) h13))) (Nat.le_of_ble_eq_true rfl) rfl rfl ?_
    refine R_aload_n r_63_102 rfl (by decide) ?_
    refine R_lload_n r_63_103 rfl ?_
    refine R_call1 r_63_104 rfl rfl (Nat.le_of_ble_eq_true rfl) (Nat.le_of_ble_eq_true rfl) ?_
    refine c_storm hw ?_
    refine R_if_eq_b r_63_107 (by decide) (fun h_1 => ?_) (fun h_1 => ?_)
    · refine R_iconst r_63_119 (v := nI 0) rfl ?_
      refine R_putf r_63_120 (sm_gs (sm_gs (sm_gs (sm_gn (by decide) h13)))) (Nat.le_of_ble_eq_true rfl) rfl rfl ?_
      refine R_vret r_63_123 rfl ?_
      rw [List.set_set, List.set_set, List.set_set]
      simpa [ntO, b2i_t, b2i_f, h_1] using hQ
    · refine R_iload r_63_110 rfl ?_
      refine R_ifT r_63_112 (by decide) (by decide) ?_
      refine R_iconst r_63_119 (v := nI 0) rfl ?_
      refine R_putf r_63_120 (sm_gs (sm_gs (sm_gs (sm_gn (by decide) h13)))) (Nat.le_of_ble_eq_true rfl) rfl rfl ?_
      refine R_vret r_63_123 rfl ?_
      rw [List.set_set, List.set_set, List.set_set]
      simpa [ntO, b2i_t, b2i_f, h_1] using hQ
end
