section
-- ===== PART A: goes FIRST, ahead of the names: the tables' words, and 'selects' of the private methods out of them =====
/-- a private method of a class that the tables say can be made, by its rows of tables_1 -/
def lw_okq (q : MethodName × Nat) : Prop := (q.1.cls ≠ "java/lang/invoke/MethodHandle" ∧ q.1.cls ≠ "java/lang/invoke/VarHandle") ∧ Cond.instantiable q.1.cls q.2 ∈ tables_1 ∧ Cond.privateMethod q.1 ∈ tables_1 ∧ Cond.instanceMethod q.1 ∈ tables_1
theorem lw_p0 : lw_okq (⟨"LeavingVote", "layFirstText", "()V"⟩, 9) := ⟨⟨by decide +kernel, by decide +kernel⟩, List.mem_of_getElem? (i := 17) (by decide +kernel), List.mem_of_getElem? (i := 148) (by decide +kernel), List.mem_of_getElem? (i := 149) (by decide +kernel)⟩
theorem lw_p1 : lw_okq (⟨"LeavingVote$Island", "empty", "()V"⟩, 10) := ⟨⟨by decide +kernel, by decide +kernel⟩, List.mem_of_getElem? (i := 56) (by decide +kernel), List.mem_of_getElem? (i := 209) (by decide +kernel), List.mem_of_getElem? (i := 210) (by decide +kernel)⟩
theorem lw_p2 : lw_okq (⟨"LeavingVote$Island", "putIslander", "(III)V"⟩, 10) := ⟨⟨by decide +kernel, by decide +kernel⟩, List.mem_of_getElem? (i := 56) (by decide +kernel), List.mem_of_getElem? (i := 213) (by decide +kernel), List.mem_of_getElem? (i := 214) (by decide +kernel)⟩
theorem lw_p3 : lw_okq (⟨"LeavingVote$Island", "putBoat", "(II)V"⟩, 10) := ⟨⟨by decide +kernel, by decide +kernel⟩, List.mem_of_getElem? (i := 56) (by decide +kernel), List.mem_of_getElem? (i := 217) (by decide +kernel), List.mem_of_getElem? (i := 218) (by decide +kernel)⟩
theorem lw_p4 : lw_okq (⟨"LeavingVote$Island", "take", "(LLeavingVote$Item;)Z"⟩, 10) := ⟨⟨by decide +kernel, by decide +kernel⟩, List.mem_of_getElem? (i := 56) (by decide +kernel), List.mem_of_getElem? (i := 254) (by decide +kernel), List.mem_of_getElem? (i := 255) (by decide +kernel)⟩
theorem lw_p5 : lw_okq (⟨"LeavingVote$Island", "takeIslander", "(LLeavingVote$Item;)Z"⟩, 10) := ⟨⟨by decide +kernel, by decide +kernel⟩, List.mem_of_getElem? (i := 56) (by decide +kernel), List.mem_of_getElem? (i := 266) (by decide +kernel), List.mem_of_getElem? (i := 267) (by decide +kernel)⟩
theorem lw_p6 : lw_okq (⟨"LeavingVote$Island", "takeBoat", "(I)Z"⟩, 10) := ⟨⟨by decide +kernel, by decide +kernel⟩, List.mem_of_getElem? (i := 56) (by decide +kernel), List.mem_of_getElem? (i := 280) (by decide +kernel), List.mem_of_getElem? (i := 281) (by decide +kernel)⟩
theorem lw_p7 : lw_okq (⟨"LeavingVote", "isIslander", "(I)Z"⟩, 9) := ⟨⟨by decide +kernel, by decide +kernel⟩, List.mem_of_getElem? (i := 17) (by decide +kernel), List.mem_of_getElem? (i := 384) (by decide +kernel), List.mem_of_getElem? (i := 385) (by decide +kernel)⟩
theorem lw_p8 : lw_okq (⟨"LeavingVote", "isBoat", "(I)Z"⟩, 9) := ⟨⟨by decide +kernel, by decide +kernel⟩, List.mem_of_getElem? (i := 17) (by decide +kernel), List.mem_of_getElem? (i := 398) (by decide +kernel), List.mem_of_getElem? (i := 399) (by decide +kernel)⟩
theorem lw_p9 : lw_okq (⟨"LeavingVote", "leavers", "(JI)I"⟩, 9) := ⟨⟨by decide +kernel, by decide +kernel⟩, List.mem_of_getElem? (i := 17) (by decide +kernel), List.mem_of_getElem? (i := 456) (by decide +kernel), List.mem_of_getElem? (i := 457) (by decide +kernel)⟩
theorem lw_p10 : lw_okq (⟨"LeavingVote", "change", "(J)V"⟩, 9) := ⟨⟨by decide +kernel, by decide +kernel⟩, List.mem_of_getElem? (i := 17) (by decide +kernel), List.mem_of_getElem? (i := 527) (by decide +kernel), List.mem_of_getElem? (i := 528) (by decide +kernel)⟩
theorem lw_p11 : lw_okq (⟨"LeavingVote$Pile", "dropOldest", "()V"⟩, 2) := ⟨⟨by decide +kernel, by decide +kernel⟩, List.mem_of_getElem? (i := 115) (by decide +kernel), List.mem_of_getElem? (i := 535) (by decide +kernel), List.mem_of_getElem? (i := 536) (by decide +kernel)⟩
theorem lw_p12 : lw_okq (⟨"LeavingVote", "seatsIn", "(I)I"⟩, 9) := ⟨⟨by decide +kernel, by decide +kernel⟩, List.mem_of_getElem? (i := 17) (by decide +kernel), List.mem_of_getElem? (i := 585) (by decide +kernel), List.mem_of_getElem? (i := 586) (by decide +kernel)⟩
theorem lw_p13 : lw_okq (⟨"LeavingVote", "agrees", "(J)Z"⟩, 9) := ⟨⟨by decide +kernel, by decide +kernel⟩, List.mem_of_getElem? (i := 17) (by decide +kernel), List.mem_of_getElem? (i := 625) (by decide +kernel), List.mem_of_getElem? (i := 626) (by decide +kernel)⟩
theorem lw_p14 : lw_okq (⟨"LeavingVote", "weight", "(II)I"⟩, 9) := ⟨⟨by decide +kernel, by decide +kernel⟩, List.mem_of_getElem? (i := 17) (by decide +kernel), List.mem_of_getElem? (i := 641) (by decide +kernel), List.mem_of_getElem? (i := 642) (by decide +kernel)⟩
theorem lw_p15 : lw_okq (⟨"LeavingVoteModel", "noIsland", "(I)V"⟩, 23) := ⟨⟨by decide +kernel, by decide +kernel⟩, List.mem_of_getElem? (i := 689) (by decide +kernel), List.mem_of_getElem? (i := 695) (by decide +kernel), List.mem_of_getElem? (i := 696) (by decide +kernel)⟩
def lw_privs_1 : List (MethodName × Nat) := [(⟨"LeavingVote", "layFirstText", "()V"⟩, 9), (⟨"LeavingVote$Island", "empty", "()V"⟩, 10), (⟨"LeavingVote$Island", "putIslander", "(III)V"⟩, 10), (⟨"LeavingVote$Island", "putBoat", "(II)V"⟩, 10), (⟨"LeavingVote$Island", "take", "(LLeavingVote$Item;)Z"⟩, 10), (⟨"LeavingVote$Island", "takeIslander", "(LLeavingVote$Item;)Z"⟩, 10), (⟨"LeavingVote$Island", "takeBoat", "(I)Z"⟩, 10), (⟨"LeavingVote", "isIslander", "(I)Z"⟩, 9), (⟨"LeavingVote", "isBoat", "(I)Z"⟩, 9), (⟨"LeavingVote", "leavers", "(JI)I"⟩, 9), (⟨"LeavingVote", "change", "(J)V"⟩, 9), (⟨"LeavingVote$Pile", "dropOldest", "()V"⟩, 2), (⟨"LeavingVote", "seatsIn", "(I)I"⟩, 9), (⟨"LeavingVote", "agrees", "(J)Z"⟩, 9), (⟨"LeavingVote", "weight", "(II)I"⟩, 9), (⟨"LeavingVoteModel", "noIsland", "(I)V"⟩, 23)]
theorem lw_r1 : ∀ q ∈ lw_privs_1, lw_okq q := List.forall_mem_cons.mpr ⟨lw_p0, List.forall_mem_cons.mpr ⟨lw_p1, List.forall_mem_cons.mpr ⟨lw_p2, List.forall_mem_cons.mpr ⟨lw_p3, List.forall_mem_cons.mpr ⟨lw_p4, List.forall_mem_cons.mpr ⟨lw_p5, List.forall_mem_cons.mpr ⟨lw_p6, List.forall_mem_cons.mpr ⟨lw_p7, List.forall_mem_cons.mpr ⟨lw_p8, List.forall_mem_cons.mpr ⟨lw_p9, List.forall_mem_cons.mpr ⟨lw_p10, List.forall_mem_cons.mpr ⟨lw_p11, List.forall_mem_cons.mpr ⟨lw_p12, List.forall_mem_cons.mpr ⟨lw_p13, List.forall_mem_cons.mpr ⟨lw_p14, List.forall_mem_cons.mpr ⟨lw_p15, fun _ h => absurd h List.not_mem_nil⟩⟩⟩⟩⟩⟩⟩⟩⟩⟩⟩⟩⟩⟩⟩⟩
theorem lw_p16 : lw_okq (⟨"LeavingVoteModel", "addIslander", "(IIIII)V"⟩, 23) := ⟨⟨by decide +kernel, by decide +kernel⟩, List.mem_of_getElem? (i := 689) (by decide +kernel), List.mem_of_getElem? (i := 699) (by decide +kernel), List.mem_of_getElem? (i := 700) (by decide +kernel)⟩
theorem lw_p17 : lw_okq (⟨"LeavingVoteModel", "begin", "()V"⟩, 23) := ⟨⟨by decide +kernel, by decide +kernel⟩, List.mem_of_getElem? (i := 689) (by decide +kernel), List.mem_of_getElem? (i := 703) (by decide +kernel), List.mem_of_getElem? (i := 704) (by decide +kernel)⟩
theorem lw_p18 : lw_okq (⟨"LeavingVoteModel", "readAll", "()I"⟩, 23) := ⟨⟨by decide +kernel, by decide +kernel⟩, List.mem_of_getElem? (i := 689) (by decide +kernel), List.mem_of_getElem? (i := 794) (by decide +kernel), List.mem_of_getElem? (i := 795) (by decide +kernel)⟩
theorem lw_p19 : lw_okq (⟨"LeavingVoteModel", "item", "()Z"⟩, 23) := ⟨⟨by decide +kernel, by decide +kernel⟩, List.mem_of_getElem? (i := 689) (by decide +kernel), List.mem_of_getElem? (i := 798) (by decide +kernel), List.mem_of_getElem? (i := 799) (by decide +kernel)⟩
theorem lw_p20 : lw_okq (⟨"LeavingVoteModel", "letterAt", "(I)I"⟩, 23) := ⟨⟨by decide +kernel, by decide +kernel⟩, List.mem_of_getElem? (i := 689) (by decide +kernel), List.mem_of_getElem? (i := 802) (by decide +kernel), List.mem_of_getElem? (i := 803) (by decide +kernel)⟩
theorem lw_p21 : lw_okq (⟨"LeavingVoteModel", "islanderItem", "()Z"⟩, 23) := ⟨⟨by decide +kernel, by decide +kernel⟩, List.mem_of_getElem? (i := 689) (by decide +kernel), List.mem_of_getElem? (i := 806) (by decide +kernel), List.mem_of_getElem? (i := 807) (by decide +kernel)⟩
theorem lw_p22 : lw_okq (⟨"LeavingVoteModel", "figures", "(I)Z"⟩, 23) := ⟨⟨by decide +kernel, by decide +kernel⟩, List.mem_of_getElem? (i := 689) (by decide +kernel), List.mem_of_getElem? (i := 810) (by decide +kernel), List.mem_of_getElem? (i := 811) (by decide +kernel)⟩
theorem lw_p23 : lw_okq (⟨"LeavingVoteModel", "lawItem", "(III)Z"⟩, 23) := ⟨⟨by decide +kernel, by decide +kernel⟩, List.mem_of_getElem? (i := 689) (by decide +kernel), List.mem_of_getElem? (i := 818) (by decide +kernel), List.mem_of_getElem? (i := 819) (by decide +kernel)⟩
theorem lw_p24 : lw_okq (⟨"LeavingVoteModel", "isIslander", "(I)Z"⟩, 23) := ⟨⟨by decide +kernel, by decide +kernel⟩, List.mem_of_getElem? (i := 689) (by decide +kernel), List.mem_of_getElem? (i := 830) (by decide +kernel), List.mem_of_getElem? (i := 831) (by decide +kernel)⟩
theorem lw_p25 : lw_okq (⟨"LeavingVoteModel", "isBoat", "(I)Z"⟩, 23) := ⟨⟨by decide +kernel, by decide +kernel⟩, List.mem_of_getElem? (i := 689) (by decide +kernel), List.mem_of_getElem? (i := 839) (by decide +kernel), List.mem_of_getElem? (i := 840) (by decide +kernel)⟩
theorem lw_p26 : lw_okq (⟨"LeavingVoteModel", "wanting", "(II)I"⟩, 23) := ⟨⟨by decide +kernel, by decide +kernel⟩, List.mem_of_getElem? (i := 689) (by decide +kernel), List.mem_of_getElem? (i := 850) (by decide +kernel), List.mem_of_getElem? (i := 851) (by decide +kernel)⟩
theorem lw_p27 : lw_okq (⟨"LeavingVoteModel", "doesWant", "(III)Z"⟩, 23) := ⟨⟨by decide +kernel, by decide +kernel⟩, List.mem_of_getElem? (i := 689) (by decide +kernel), List.mem_of_getElem? (i := 854) (by decide +kernel), List.mem_of_getElem? (i := 855) (by decide +kernel)⟩
theorem lw_p28 : lw_okq (⟨"LeavingVoteModel", "leaving", "(I)I"⟩, 23) := ⟨⟨by decide +kernel, by decide +kernel⟩, List.mem_of_getElem? (i := 689) (by decide +kernel), List.mem_of_getElem? (i := 865) (by decide +kernel), List.mem_of_getElem? (i := 866) (by decide +kernel)⟩
theorem lw_p29 : lw_okq (⟨"LeavingVoteModel", "seated", "(II)I"⟩, 23) := ⟨⟨by decide +kernel, by decide +kernel⟩, List.mem_of_getElem? (i := 689) (by decide +kernel), List.mem_of_getElem? (i := 869) (by decide +kernel), List.mem_of_getElem? (i := 870) (by decide +kernel)⟩
theorem lw_p30 : lw_okq (⟨"LeavingVoteModel", "doesFall", "(I)Z"⟩, 23) := ⟨⟨by decide +kernel, by decide +kernel⟩, List.mem_of_getElem? (i := 689) (by decide +kernel), List.mem_of_getElem? (i := 884) (by decide +kernel), List.mem_of_getElem? (i := 885) (by decide +kernel)⟩
theorem lw_p31 : lw_okq (⟨"LeavingVoteModel", "isFall", "(I)Z"⟩, 23) := ⟨⟨by decide +kernel, by decide +kernel⟩, List.mem_of_getElem? (i := 689) (by decide +kernel), List.mem_of_getElem? (i := 891) (by decide +kernel), List.mem_of_getElem? (i := 892) (by decide +kernel)⟩
def lw_privs_2 : List (MethodName × Nat) := [(⟨"LeavingVoteModel", "addIslander", "(IIIII)V"⟩, 23), (⟨"LeavingVoteModel", "begin", "()V"⟩, 23), (⟨"LeavingVoteModel", "readAll", "()I"⟩, 23), (⟨"LeavingVoteModel", "item", "()Z"⟩, 23), (⟨"LeavingVoteModel", "letterAt", "(I)I"⟩, 23), (⟨"LeavingVoteModel", "islanderItem", "()Z"⟩, 23), (⟨"LeavingVoteModel", "figures", "(I)Z"⟩, 23), (⟨"LeavingVoteModel", "lawItem", "(III)Z"⟩, 23), (⟨"LeavingVoteModel", "isIslander", "(I)Z"⟩, 23), (⟨"LeavingVoteModel", "isBoat", "(I)Z"⟩, 23), (⟨"LeavingVoteModel", "wanting", "(II)I"⟩, 23), (⟨"LeavingVoteModel", "doesWant", "(III)Z"⟩, 23), (⟨"LeavingVoteModel", "leaving", "(I)I"⟩, 23), (⟨"LeavingVoteModel", "seated", "(II)I"⟩, 23), (⟨"LeavingVoteModel", "doesFall", "(I)Z"⟩, 23), (⟨"LeavingVoteModel", "isFall", "(I)Z"⟩, 23)]
theorem lw_r2 : ∀ q ∈ lw_privs_2, lw_okq q := List.forall_mem_cons.mpr ⟨lw_p16, List.forall_mem_cons.mpr ⟨lw_p17, List.forall_mem_cons.mpr ⟨lw_p18, List.forall_mem_cons.mpr ⟨lw_p19, List.forall_mem_cons.mpr ⟨lw_p20, List.forall_mem_cons.mpr ⟨lw_p21, List.forall_mem_cons.mpr ⟨lw_p22, List.forall_mem_cons.mpr ⟨lw_p23, List.forall_mem_cons.mpr ⟨lw_p24, List.forall_mem_cons.mpr ⟨lw_p25, List.forall_mem_cons.mpr ⟨lw_p26, List.forall_mem_cons.mpr ⟨lw_p27, List.forall_mem_cons.mpr ⟨lw_p28, List.forall_mem_cons.mpr ⟨lw_p29, List.forall_mem_cons.mpr ⟨lw_p30, List.forall_mem_cons.mpr ⟨lw_p31, fun _ h => absurd h List.not_mem_nil⟩⟩⟩⟩⟩⟩⟩⟩⟩⟩⟩⟩⟩⟩⟩⟩
theorem lw_p32 : lw_okq (⟨"LeavingVoteModel", "cowsWithout", "(I)I"⟩, 23) := ⟨⟨by decide +kernel, by decide +kernel⟩, List.mem_of_getElem? (i := 689) (by decide +kernel), List.mem_of_getElem? (i := 899) (by decide +kernel), List.mem_of_getElem? (i := 900) (by decide +kernel)⟩
theorem lw_p33 : lw_okq (⟨"LeavingVoteModel", "change", "(II)I"⟩, 23) := ⟨⟨by decide +kernel, by decide +kernel⟩, List.mem_of_getElem? (i := 689) (by decide +kernel), List.mem_of_getElem? (i := 907) (by decide +kernel), List.mem_of_getElem? (i := 908) (by decide +kernel)⟩
theorem lw_p34 : lw_okq (⟨"LeavingVoteModel", "note", "()V"⟩, 23) := ⟨⟨by decide +kernel, by decide +kernel⟩, List.mem_of_getElem? (i := 689) (by decide +kernel), List.mem_of_getElem? (i := 911) (by decide +kernel), List.mem_of_getElem? (i := 912) (by decide +kernel)⟩
theorem lw_p35 : lw_okq (⟨"LeavingVoteModel", "fallsBut", "(II)Z"⟩, 23) := ⟨⟨by decide +kernel, by decide +kernel⟩, List.mem_of_getElem? (i := 689) (by decide +kernel), List.mem_of_getElem? (i := 935) (by decide +kernel), List.mem_of_getElem? (i := 936) (by decide +kernel)⟩
theorem lw_p36 : lw_okq (⟨"LeavingVoteModel", "heldMany", "()I"⟩, 23) := ⟨⟨by decide +kernel, by decide +kernel⟩, List.mem_of_getElem? (i := 689) (by decide +kernel), List.mem_of_getElem? (i := 1003) (by decide +kernel), List.mem_of_getElem? (i := 1004) (by decide +kernel)⟩
def lw_privs_3 : List (MethodName × Nat) := [(⟨"LeavingVoteModel", "cowsWithout", "(I)I"⟩, 23), (⟨"LeavingVoteModel", "change", "(II)I"⟩, 23), (⟨"LeavingVoteModel", "note", "()V"⟩, 23), (⟨"LeavingVoteModel", "fallsBut", "(II)Z"⟩, 23), (⟨"LeavingVoteModel", "heldMany", "()I"⟩, 23)]
theorem lw_r3 : ∀ q ∈ lw_privs_3, lw_okq q := List.forall_mem_cons.mpr ⟨lw_p32, List.forall_mem_cons.mpr ⟨lw_p33, List.forall_mem_cons.mpr ⟨lw_p34, List.forall_mem_cons.mpr ⟨lw_p35, List.forall_mem_cons.mpr ⟨lw_p36, fun _ h => absurd h List.not_mem_nil⟩⟩⟩⟩⟩
def lw_privs : List (MethodName × Nat) := lw_privs_1 ++ (lw_privs_2 ++ (lw_privs_3))
def lw_tbl : List Cond := k2_sels lw_privs ++ tables_1
theorem lw_privs_ok : ∀ q ∈ lw_privs, lw_okq q := by
  show ∀ q ∈ lw_privs_1 ++ (lw_privs_2 ++ (lw_privs_3)), lw_okq q
  exact List.forall_mem_append.mpr ⟨lw_r1, List.forall_mem_append.mpr ⟨lw_r2, lw_r3⟩⟩
end
section
/-! The tables: the classes whose objects the worlds hold, the methods, their code decoded with what it links (a program wrote this out of the Statement) -/
abbrev sm_I : Type := Instr × Nat × Nat × Nat
abbrev sm_M : Type := MethodName × ByteArray × Nat × Option FieldType × Nat × Nat × Nat × (Nat × Nat × Nat × Nat)
def lw_tblG : List Cond := lw_tbl.filter goodWord
theorem lw_inG {w : Cond} (h : w ∈ lw_tbl) (hg : goodWord w = true) : w ∈ lw_tblG := List.mem_filter.mpr ⟨h, hg⟩
theorem lw_goodG {w : Cond} (h : w ∈ lw_tblG) : w ∈ lw_tbl ∧ goodWord w = true := List.mem_filter.mp h
abbrev sm_FD : Type := String × String × Bool × FieldType × Nat
def sm_fl : List (String × List sm_FD) := [("LeavingVote", [("script", "LLeavingVote$Script;", true, .object "LeavingVote$Script", 357), ("item", "LLeavingVote$Item;", true, .object "LeavingVote$Item", 359), ("draft", "LLeavingVote$Island;", true, .object "LeavingVote$Island", 361), ("laid", "LLeavingVote$Island;", true, .object "LeavingVote$Island", 363), ("night", "LLeavingVote$Night;", true, .object "LeavingVote$Night", 365), ("past", "LLeavingVote$Pile;", true, .object "LeavingVote$Pile", 367), ("shelf", "LLeavingVote$Pile;", true, .object "LeavingVote$Pile", 369), ("sightings", "LLeavingVote$Sightings;", true, .object "LeavingVote$Sightings", 371), ("standing", "J", false, .long, 373)]),
  ("LeavingVote$Island", [("kinds", "[I", true, .array .int, 108), ("cows", "[I", true, .array .int, 110), ("seats", "[I", true, .array .int, 112), ("islanders", "I", false, .int, 114), ("boats", "I", false, .int, 116), ("bedsAshore", "I", false, .int, 118), ("cowsToMilk", "I", false, .int, 120), ("tenths", "I", false, .int, 122), ("seasickTenths", "I", false, .int, 124), ("firstStanding", "J", false, .long, 126)]),
  ("LeavingVote$Item", [("numbers", "[I", true, .array .int, 84), ("letter", "I", false, .int, 86), ("behind", "I", false, .int, 88)]),
  ("LeavingVote$Night", [("guides", "[I", true, .array .int, 140), ("never", "I", false, .int, 142), ("seats", "I", false, .int, 144), ("beds", "I", false, .int, 146), ("nobody", "Z", false, .boolean, 148)]),
  ("LeavingVote$Pile", [("standings", "[J", true, .array .long, 162), ("height", "I", false, .int, 164)]),
  ("LeavingVote$Script", [("letters", "[C", true, .array .char, 69), ("length", "I", false, .int, 71)]),
  ("LeavingVote$Sightings", [("questions", "[I", true, .array .int, 177), ("numbers", "[I", true, .array .int, 179), ("size", "I", false, .int, 181)]),
  ("LeavingVoteModel", [("length", "I", false, .int, 766), ("text", "[I", true, .array .int, 768), ("islanders", "[I", true, .array .int, 770), ("kinds", "[I", true, .array .int, 772), ("leanings", "[I", true, .array .int, 774), ("minds", "[I", true, .array .int, 776), ("cows", "[I", true, .array .int, 778), ("boats", "[I", true, .array .int, 780), ("seats", "[I", true, .array .int, 782), ("laws", "[I", true, .array .int, 784), ("now", "[I", true, .array .int, 786), ("before", "[I", true, .array .int, 788), ("undoMany", "I", false, .int, 790), ("kept", "[I", true, .array .int, 792), ("keptMany", "I", false, .int, 794), ("seenMany", "I", false, .int, 796), ("seenOn", "[I", true, .array .int, 798), ("seenMany1", "[I", true, .array .int, 800), ("spot", "I", false, .int, 802), ("told", "[I", true, .array .int, 804), ("boatOf", "[I", true, .array .int, 806), ("left", "[I", true, .array .int, 808), ("wereHeld", "[I", true, .array .int, 810)])]
def sm_cn (ci : Nat) : String := (sm_fl.getD ci ("", [])).1
def sm_nf (ci : Nat) : Nat := (sm_fl.getD ci ("", [])).2.length
def sm_fd (ci k : Nat) : sm_FD := (sm_fl.getD ci ("", [])).2.getD k ("", "", false, .int, 0)
def sm_T (ci : Nat) : u_T := fun k => (sm_cn ci, (sm_fd ci k).1, (sm_fd ci k).2.1, (sm_fd ci k).2.2.1)
def sm_ty (ci k : Nat) : FieldType := (sm_fd ci k).2.2.2.1
def sm_cl : List vw_C := [(sm_cn 0, sm_T 0, sm_nf 0), (sm_cn 1, sm_T 1, sm_nf 1), (sm_cn 2, sm_T 2, sm_nf 2), (sm_cn 3, sm_T 3, sm_nf 3), (sm_cn 4, sm_T 4, sm_nf 4), (sm_cn 5, sm_T 5, sm_nf 5), (sm_cn 6, sm_T 6, sm_nf 6), (sm_cn 7, sm_T 7, sm_nf 7)]
def sm_inst : List (Nat × Nat) := [(54, 38), (93, 41), (76, 40), (130, 42), (152, 43), (62, 39), (169, 45), (726, 51)]
/-- LeavingVote.<init>()V -/
def sm_c0 : List (Option sm_I) := [some (.aload_n 0, 0, 0, 0), some (.invokespecial 1, 9999, 0, 58), none, none, some (.aload_n 0, 0, 0, 0), some (.new 7, 5, 0, 61), none, none, some (.dup, 0, 0, 0), some (.invokespecial 9, 1, 1, 63), none, none, some (.putfield 10, 0, 0, 348), none, none, some (.aload_n 0, 0, 0, 0), some (.new 16, 2, 0, 75), none, none, some (.dup, 0, 0, 0), some (.invokespecial 18, 2, 1, 77), none, none, some (.putfield 19, 0, 1, 349), none, none, some (.aload_n 0, 0, 0, 0), some (.new 23, 1, 0, 92), none, none, some (.dup, 0, 0, 0), some (.invokespecial 25, 3, 1, 94), none, none, some (.putfield 26, 0, 2, 350), none, none, some (.aload_n 0, 0, 0, 0), some (.new 23, 1, 0, 92), none, none, some (.dup, 0, 0, 0), some (.invokespecial 25, 3, 1, 94), none, none, some (.putfield 30, 0, 3, 351), none, none, some (.aload_n 0, 0, 0, 0), some (.new 33, 3, 0, 129), none, none, some (.dup, 0, 0, 0), some (.invokespecial 35, 4, 1, 131), none, none, some (.putfield 36, 0, 4, 352), none, none, some (.aload_n 0, 0, 0, 0), some (.new 40, 4, 0, 151), none, none, some (.dup, 0, 0, 0), some (.bipush 8, 0, 0, 0), none, some (.invokespecial 42, 5, 2, 153), none, none, some (.putfield 45, 0, 5, 353), none, none, some (.aload_n 0, 0, 0, 0), some (.new 40, 4, 0, 151), none, none, some (.dup, 0, 0, 0), some (.iconst 2, 0, 0, 0), some (.invokespecial 42, 5, 2, 153), none, none, some (.putfield 49, 0, 6, 354), none, none, some (.aload_n 0, 0, 0, 0), some (.new 52, 6, 0, 168), none, none, some (.dup, 0, 0, 0), some (.invokespecial 54, 6, 1, 170), none, none, some (.putfield 55, 0, 7, 355), none, none, some (.aload_n 0, 0, 0, 0), some (.invokevirtual 59, 7, 1, 184), none, none, some (.return_, 0, 0, 0)]
/-- LeavingVote$Script.<init>()V -/
def sm_c1 : List (Option sm_I) := [some (.aload_n 0, 0, 0, 0), some (.invokespecial 3, 9999, 0, 66), none, none, some (.aload_n 0, 0, 0, 0), some (.sipush 200, 0, 0, 0), none, none, some (.newarray .char, 1, 0, 74), none, some (.putfield 9, 5, 0, 67), none, none, some (.return_, 0, 0, 0)]
/-- LeavingVote$Item.<init>()V -/
def sm_c2 : List (Option sm_I) := [some (.aload_n 0, 0, 0, 0), some (.invokespecial 3, 9999, 0, 80), none, none, some (.aload_n 0, 0, 0, 0), some (.iconst 4, 0, 0, 0), some (.newarray .int, 0, 0, 91), none, some (.putfield 9, 2, 0, 81), none, none, some (.return_, 0, 0, 0)]
/-- LeavingVote$Island.<init>()V -/
def sm_c3 : List (Option sm_I) := [some (.aload_n 0, 0, 0, 0), some (.invokespecial 3, 9999, 0, 97), none, none, some (.aload_n 0, 0, 0, 0), some (.bipush 8, 0, 0, 0), none, some (.newarray .int, 0, 0, 91), none, some (.putfield 9, 1, 0, 98), none, none, some (.aload_n 0, 0, 0, 0), some (.bipush 8, 0, 0, 0), none, some (.newarray .int, 0, 0, 91), none, some (.putfield 15, 1, 1, 99), none, none, some (.aload_n 0, 0, 0, 0), some (.iconst 5, 0, 0, 0), some (.newarray .int, 0, 0, 91), none, some (.putfield 18, 1, 2, 100), none, none, some (.return_, 0, 0, 0)]
/-- LeavingVote$Night.<init>()V -/
def sm_c4 : List (Option sm_I) := [some (.aload_n 0, 0, 0, 0), some (.invokespecial 3, 9999, 0, 134), none, none, some (.aload_n 0, 0, 0, 0), some (.bipush 8, 0, 0, 0), none, some (.newarray .int, 0, 0, 91), none, some (.putfield 9, 3, 0, 135), none, none, some (.return_, 0, 0, 0)]
/-- LeavingVote$Pile.<init>(I)V -/
def sm_c5 : List (Option sm_I) := [some (.aload_n 0, 0, 0, 0), some (.invokespecial 1, 9999, 0, 156), none, none, some (.aload_n 0, 0, 0, 0), some (.iload_n 1, 0, 0, 0), some (.iconst 0, 0, 0, 0), some (.invokestatic 7, 9997, 0, 157), none, none, some (.newarray .long, 2, 0, 167), none, some (.putfield 13, 4, 0, 160), none, none, some (.return_, 0, 0, 0)]
/-- LeavingVote$Sightings.<init>()V -/
def sm_c6 : List (Option sm_I) := [some (.aload_n 0, 0, 0, 0), some (.invokespecial 3, 9999, 0, 173), none, none, some (.aload_n 0, 0, 0, 0), some (.bipush 8, 0, 0, 0), none, some (.newarray .int, 0, 0, 91), none, some (.putfield 9, 6, 0, 174), none, none, some (.aload_n 0, 0, 0, 0), some (.bipush 8, 0, 0, 0), none, some (.newarray .int, 0, 0, 91), none, some (.putfield 15, 6, 1, 175), none, none, some (.return_, 0, 0, 0)]
/-- LeavingVote.layFirstText()V -/
def sm_c7 : List (Option sm_I) := [some (.iconst 0, 0, 0, 0), some (.istore_n 1, 0, 0, 0), some (.iload_n 1, 0, 0, 0), some (.ldc_w 258, 0, 0, 0), none, none, some (.invokevirtual 260, 8, 1, 189), none, none, some (.if_icmp .ge 24, 33, 0, 0), none, none, some (.aload_n 0, 0, 0, 0), some (.getfield 10, 0, 0, 348), none, none, some (.ldc_w 258, 0, 0, 0), none, none, some (.iload_n 1, 0, 0, 0), some (.invokevirtual 263, 10, 2, 199), none, none, some (.invokevirtual 62, 15, 2, 237), none, none, some (.pop, 0, 0, 0), some (.iinc 1 1, 0, 0, 0), none, none, some (.goto (-28), 2, 0, 0), none, none, some (.aload_n 0, 0, 0, 0), some (.getfield 26, 0, 2, 350), none, none, some (.aload_n 0, 0, 0, 0), some (.getfield 10, 0, 0, 348), none, none, some (.aload_n 0, 0, 0, 0), some (.getfield 19, 0, 1, 349), none, none, some (.invokevirtual 73, 16, 3, 241), none, none, some (.pop, 0, 0, 0), some (.aload_n 0, 0, 0, 0), some (.getfield 30, 0, 3, 351), none, none, some (.aload_n 0, 0, 0, 0), some (.getfield 26, 0, 2, 350), none, none, some (.invokevirtual 81, 38, 2, 324), none, none, some (.aload_n 0, 0, 0, 0), some (.aload_n 0, 0, 0, 0), some (.getfield 30, 0, 3, 351), none, none, some (.invokevirtual 85, 42, 1, 340), none, none, some (.putfield 89, 0, 8, 356), none, none, some (.aload_n 0, 0, 0, 0), some (.getfield 10, 0, 0, 348), none, none, some (.invokevirtual 70, 43, 1, 344), none, none, some (.return_, 0, 0, 0)]
/-- java/lang/String.length()I -/
def sm_c8 : List (Option sm_I) := [some (.aload_n 0, 0, 0, 0), some (.getfield 9, 100, 1, 1043), none, none, some (.arraylength, 0, 0, 0), some (.aload_n 0, 0, 0, 0), some (.invokevirtual 335, 9, 1, 193), none, none, some (.ishr, 0, 0, 0), some (.ireturn, 0, 0, 0)]
/-- java/lang/String.coder()B -/
def sm_c9 : List (Option sm_I) := [some (.getstatic 38, 0, 0, 197), none, none, some (.ifCond .eq 10, 13, 0, 0), none, none, some (.aload_n 0, 0, 0, 0), some (.getfield 15, 100, 0, 1044), none, none, some (.goto 4, 14, 0, 0), none, none, some (.iconst 1, 0, 0, 0), some (.ireturn, 0, 0, 0)]
/-- java/lang/String.charAt(I)C -/
def sm_c10 : List (Option sm_I) := [some (.aload_n 0, 0, 0, 0), some (.invokevirtual 492, 11, 1, 203), none, none, some (.ifCond .eq 12, 16, 0, 0), none, none, some (.aload_n 0, 0, 0, 0), some (.getfield 9, 100, 1, 1043), none, none, some (.iload_n 1, 0, 0, 0), some (.invokestatic 495, 12, 2, 207), none, none, some (.ireturn, 0, 0, 0), some (.aload_n 0, 0, 0, 0), some (.getfield 9, 100, 1, 1043), none, none, some (.iload_n 1, 0, 0, 0), some (.invokestatic 498, 9998, 0, 218), none, none, some (.ireturn, 0, 0, 0)]
/-- java/lang/String.isLatin1()Z -/
def sm_c11 : List (Option sm_I) := [some (.getstatic 38, 0, 0, 197), none, none, some (.ifCond .eq 14, 17, 0, 0), none, none, some (.aload_n 0, 0, 0, 0), some (.getfield 15, 100, 0, 1044), none, none, some (.ifCond .ne 7, 17, 0, 0), none, none, some (.iconst 1, 0, 0, 0), some (.goto 4, 18, 0, 0), none, none, some (.iconst 0, 0, 0, 0), some (.ireturn, 0, 0, 0)]
/-- java/lang/StringLatin1.charAt([BI)C -/
def sm_c12 : List (Option sm_I) := [some (.iload_n 1, 0, 0, 0), some (.aload_n 0, 0, 0, 0), some (.arraylength, 0, 0, 0), some (.invokestatic 9, 13, 2, 210), none, none, some (.aload_n 0, 0, 0, 0), some (.iload_n 1, 0, 0, 0), some (.baload, 0, 0, 0), some (.sipush 255, 0, 0, 0), none, none, some (.iand, 0, 0, 0), some (.i2c, 0, 0, 0), some (.ireturn, 0, 0, 0)]
/-- java/lang/String.checkIndex(II)V -/
def sm_c13 : List (Option sm_I) := [some (.iload_n 0, 0, 0, 0), some (.iload_n 1, 0, 0, 0), some (.getstatic 1053, 1, 0, 213), none, none, some (.invokestatic 1059, 14, 3, 215), none, none, some (.pop, 0, 0, 0), some (.return_, 0, 0, 0)]
/-- jdk/internal/util/Preconditions.checkIndex(IILjava/util/function/BiFunction;)I -/
def sm_c14 : List (Option sm_I) := [some (.iload_n 0, 0, 0, 0), some (.ifCond .lt 8, 9, 0, 0), none, none, some (.iload_n 0, 0, 0, 0), some (.iload_n 1, 0, 0, 0), some (.if_icmp .lt 10, 16, 0, 0), none, none, some (.aload_n 2, 0, 0, 0), some (.iload_n 0, 0, 0, 0), some (.iload_n 1, 0, 0, 0), some (.invokestatic 95, 9998, 0, 0), none, none, some (.athrow, 0, 0, 0), some (.iload_n 0, 0, 0, 0), some (.ireturn, 0, 0, 0)]
/-- LeavingVote$Script.append(I)Z -/
def sm_c15 : List (Option sm_I) := [some (.aload_n 0, 0, 0, 0), some (.getfield 15, 5, 1, 68), none, none, some (.ifCond .lt 15, 19, 0, 0), none, none, some (.aload_n 0, 0, 0, 0), some (.getfield 15, 5, 1, 68), none, none, some (.aload_n 0, 0, 0, 0), some (.getfield 9, 5, 0, 67), none, none, some (.arraylength, 0, 0, 0), some (.if_icmp .lt 5, 21, 0, 0), none, none, some (.iconst 0, 0, 0, 0), some (.ireturn, 0, 0, 0), some (.aload_n 0, 0, 0, 0), some (.getfield 9, 5, 0, 67), none, none, some (.aload_n 0, 0, 0, 0), some (.getfield 15, 5, 1, 68), none, none, some (.iload_n 1, 0, 0, 0), some (.i2c, 0, 0, 0), some (.castore, 0, 0, 0), some (.aload_n 0, 0, 0, 0), some (.dup, 0, 0, 0), some (.getfield 15, 5, 1, 68), none, none, some (.iconst 1, 0, 0, 0), some (.iadd, 0, 0, 0), some (.putfield 15, 5, 1, 68), none, none, some (.iconst 1, 0, 0, 0), some (.ireturn, 0, 0, 0)]
/-- LeavingVote$Island.read(LLeavingVote$Script;LLeavingVote$Item;)I -/
def sm_c16 : List (Option sm_I) := [some (.aload_n 0, 0, 0, 0), some (.invokevirtual 21, 17, 1, 245), none, none, some (.iconst 0, 0, 0, 0), some (.istore_n 3, 0, 0, 0), some (.iconst 0, 0, 0, 0), some (.istore 4, 0, 0, 0), none, some (.iload 4, 0, 0, 0), none, some (.sipush 200, 0, 0, 0), none, none, some (.if_icmp .ge 41, 55, 0, 0), none, none, some (.iload_n 3, 0, 0, 0), some (.aload_n 1, 0, 0, 0), some (.invokevirtual 24, 20, 1, 257), none, none, some (.if_icmp .ge 33, 55, 0, 0), none, none, some (.aload_n 2, 0, 0, 0), some (.aload_n 1, 0, 0, 0), some (.iload_n 3, 0, 0, 0), some (.invokevirtual 30, 21, 3, 261), none, none, some (.ifCond .eq 11, 42, 0, 0), none, none, some (.aload_n 0, 0, 0, 0), some (.aload_n 2, 0, 0, 0), some (.invokevirtual 36, 29, 2, 290), none, none, some (.ifCond .ne 5, 44, 0, 0), none, none, some (.iload_n 3, 0, 0, 0), some (.ireturn, 0, 0, 0), some (.aload_n 2, 0, 0, 0), some (.invokevirtual 40, 37, 1, 320), none, none, some (.istore_n 3, 0, 0, 0), some (.iinc 4 1, 0, 0, 0), none, none, some (.goto (-43), 9, 0, 0), none, none, some (.bipush (-4), 0, 0, 0), none, some (.ireturn, 0, 0, 0)]
/-- LeavingVote$Island.empty()V -/
def sm_c17 : List (Option sm_I) := [some (.iconst 0, 0, 0, 0), some (.istore_n 1, 0, 0, 0), some (.iload_n 1, 0, 0, 0), some (.bipush 8, 0, 0, 0), none, some (.if_icmp .ge 16, 21, 0, 0), none, none, some (.aload_n 0, 0, 0, 0), some (.iload_n 1, 0, 0, 0), some (.iconst 0, 0, 0, 0), some (.iconst 0, 0, 0, 0), some (.invokevirtual 64, 18, 4, 249), none, none, some (.iinc 1 1, 0, 0, 0), none, none, some (.goto (-16), 2, 0, 0), none, none, some (.iconst 0, 0, 0, 0), some (.istore_n 1, 0, 0, 0), some (.iload_n 1, 0, 0, 0), some (.iconst 5, 0, 0, 0), some (.if_icmp .ge 15, 40, 0, 0), none, none, some (.aload_n 0, 0, 0, 0), some (.iload_n 1, 0, 0, 0), some (.iconst 0, 0, 0, 0), some (.invokevirtual 71, 19, 3, 253), none, none, some (.iinc 1 1, 0, 0, 0), none, none, some (.goto (-14), 23, 0, 0), none, none, some (.aload_n 0, 0, 0, 0), some (.iconst 0, 0, 0, 0), some (.putfield 43, 1, 3, 101), none, none, some (.aload_n 0, 0, 0, 0), some (.iconst 0, 0, 0, 0), some (.putfield 75, 1, 4, 102), none, none, some (.aload_n 0, 0, 0, 0), some (.iconst 4, 0, 0, 0), some (.putfield 78, 1, 5, 103), none, none, some (.aload_n 0, 0, 0, 0), some (.iconst 0, 0, 0, 0), some (.putfield 81, 1, 6, 104), none, none, some (.aload_n 0, 0, 0, 0), some (.iconst 5, 0, 0, 0), some (.putfield 84, 1, 7, 105), none, none, some (.aload_n 0, 0, 0, 0), some (.iconst 3, 0, 0, 0), some (.putfield 87, 1, 8, 106), none, none, some (.aload_n 0, 0, 0, 0), some (.lconst 0, 0, 0, 0), some (.putfield 47, 1, 9, 107), none, none, some (.return_, 0, 0, 0)]
/-- LeavingVote$Island.putIslander(III)V -/
def sm_c18 : List (Option sm_I) := [some (.iload_n 1, 0, 0, 0), some (.ifCond .lt 35, 36, 0, 0), none, none, some (.iload_n 1, 0, 0, 0), some (.aload_n 0, 0, 0, 0), some (.getfield 9, 1, 0, 98), none, none, some (.arraylength, 0, 0, 0), some (.if_icmp .ge 26, 36, 0, 0), none, none, some (.iload_n 1, 0, 0, 0), some (.aload_n 0, 0, 0, 0), some (.getfield 15, 1, 1, 99), none, none, some (.arraylength, 0, 0, 0), some (.if_icmp .ge 17, 36, 0, 0), none, none, some (.aload_n 0, 0, 0, 0), some (.getfield 9, 1, 0, 98), none, none, some (.iload_n 1, 0, 0, 0), some (.iload_n 2, 0, 0, 0), some (.iastore, 0, 0, 0), some (.aload_n 0, 0, 0, 0), some (.getfield 15, 1, 1, 99), none, none, some (.iload_n 1, 0, 0, 0), some (.iload_n 3, 0, 0, 0), some (.iastore, 0, 0, 0), some (.return_, 0, 0, 0)]
/-- LeavingVote$Island.putBoat(II)V -/
def sm_c19 : List (Option sm_I) := [some (.iload_n 1, 0, 0, 0), some (.ifCond .lt 19, 20, 0, 0), none, none, some (.iload_n 1, 0, 0, 0), some (.aload_n 0, 0, 0, 0), some (.getfield 18, 1, 2, 100), none, none, some (.arraylength, 0, 0, 0), some (.if_icmp .ge 10, 20, 0, 0), none, none, some (.aload_n 0, 0, 0, 0), some (.getfield 18, 1, 2, 100), none, none, some (.iload_n 1, 0, 0, 0), some (.iload_n 2, 0, 0, 0), some (.iastore, 0, 0, 0), some (.return_, 0, 0, 0)]
/-- LeavingVote$Script.length()I -/
def sm_c20 : List (Option sm_I) := [some (.aload_n 0, 0, 0, 0), some (.getfield 15, 5, 1, 68), none, none, some (.ireturn, 0, 0, 0)]
/-- LeavingVote$Item.readFrom(LLeavingVote$Script;I)Z -/
def sm_c21 : List (Option sm_I) := [some (.aload_n 0, 0, 0, 0), some (.aload_n 1, 0, 0, 0), some (.iload_n 2, 0, 0, 0), some (.invokevirtual 15, 22, 2, 265), none, none, some (.putfield 21, 2, 1, 82), none, none, some (.aload_n 0, 0, 0, 0), some (.getfield 21, 2, 1, 82), none, none, some (.invokestatic 25, 23, 1, 269), none, none, some (.istore_n 3, 0, 0, 0), some (.iload_n 2, 0, 0, 0), some (.iconst 1, 0, 0, 0), some (.iadd, 0, 0, 0), some (.istore 4, 0, 0, 0), none, some (.iconst 0, 0, 0, 0), some (.istore 5, 0, 0, 0), none, some (.iload 5, 0, 0, 0), none, some (.iload_n 3, 0, 0, 0), some (.if_icmp .ge 115, 143, 0, 0), none, none, some (.iload 5, 0, 0, 0), none, some (.aload_n 0, 0, 0, 0), some (.getfield 9, 2, 0, 81), none, none, some (.arraylength, 0, 0, 0), some (.if_icmp .ge 105, 143, 0, 0), none, none, some (.aload_n 1, 0, 0, 0), some (.iload 4, 0, 0, 0), none, some (.invokevirtual 28, 24, 2, 272), none, none, some (.istore 6, 0, 0, 0), none, some (.aload_n 1, 0, 0, 0), some (.iload 4, 0, 0, 0), none, some (.iload 6, 0, 0, 0), none, some (.invokevirtual 31, 26, 3, 280), none, none, some (.istore 7, 0, 0, 0), none, some (.iload 6, 0, 0, 0), none, some (.ifCond .eq 29, 90, 0, 0), none, none, some (.iload 7, 0, 0, 0), none, some (.aload_n 0, 0, 0, 0), some (.getfield 21, 2, 1, 82), none, none, some (.invokestatic 35, 27, 1, 284), none, none, some (.if_icmp .lt 17, 90, 0, 0), none, none, some (.iload 7, 0, 0, 0), none, some (.aload_n 0, 0, 0, 0), some (.getfield 21, 2, 1, 82), none, none, some (.iload 5, 0, 0, 0), none, some (.invokestatic 38, 28, 2, 287), none, none, some (.if_icmp .le 5, 92, 0, 0), none, none, some (.iconst 0, 0, 0, 0), some (.ireturn, 0, 0, 0), some (.iload 4, 0, 0, 0), none, some (.iload 6, 0, 0, 0), none, some (.iadd, 0, 0, 0), some (.istore 4, 0, 0, 0), none, some (.aload_n 1, 0, 0, 0), some (.iload 4, 0, 0, 0), none, some (.invokevirtual 15, 22, 2, 265), none, none, some (.iload 5, 0, 0, 0), none, some (.iconst 1, 0, 0, 0), some (.iadd, 0, 0, 0), some (.iload_n 3, 0, 0, 0), some (.if_icmp .ge 8, 118, 0, 0), none, none, some (.bipush 44, 0, 0, 0), none, some (.goto 5, 120, 0, 0), none, none, some (.bipush 59, 0, 0, 0), none, some (.if_icmp .eq 5, 125, 0, 0), none, none, some (.iconst 0, 0, 0, 0), some (.ireturn, 0, 0, 0), some (.iinc 4 1, 0, 0, 0), none, none, some (.aload_n 0, 0, 0, 0), some (.getfield 9, 2, 0, 81), none, none, some (.iload 5, 0, 0, 0), none, some (.iload 7, 0, 0, 0), none, some (.iastore, 0, 0, 0), some (.iinc 5 1, 0, 0, 0), none, none, some (.goto (-115), 25, 0, 0), none, none, some (.aload_n 0, 0, 0, 0), some (.iload 4, 0, 0, 0), none, some (.putfield 41, 2, 2, 83), none, none, some (.iload_n 3, 0, 0, 0), some (.ifCond .le 7, 157, 0, 0), none, none, some (.iconst 1, 0, 0, 0), some (.goto 4, 158, 0, 0), none, none, some (.iconst 0, 0, 0, 0), some (.ireturn, 0, 0, 0)]
/-- LeavingVote$Script.letterAt(I)I -/
def sm_c22 : List (Option sm_I) := [some (.iload_n 1, 0, 0, 0), some (.ifCond .lt 29, 30, 0, 0), none, none, some (.iload_n 1, 0, 0, 0), some (.aload_n 0, 0, 0, 0), some (.getfield 15, 5, 1, 68), none, none, some (.if_icmp .ge 21, 30, 0, 0), none, none, some (.iload_n 1, 0, 0, 0), some (.aload_n 0, 0, 0, 0), some (.getfield 9, 5, 0, 67), none, none, some (.arraylength, 0, 0, 0), some (.if_icmp .ge 12, 30, 0, 0), none, none, some (.aload_n 0, 0, 0, 0), some (.getfield 9, 5, 0, 67), none, none, some (.iload_n 1, 0, 0, 0), some (.caload, 0, 0, 0), some (.goto 4, 31, 0, 0), none, none, some (.iconst 0, 0, 0, 0), some (.ireturn, 0, 0, 0)]
/-- LeavingVote$Item.numbersOf(I)I -/
def sm_c23 : List (Option sm_I) := [some (.iload_n 0, 0, 0, 0), some (.tableswitch 91 98 115 #[89, 91, 89, 91, 91, 91, 89, 87, 91, 91, 91, 89, 91, 91, 91, 91, 91, 89], 0, 0, 0), none, none, none, none, none, none, none, none, none, none, none, none, none, none, none, none, none, none, none, none, none, none, none, none, none, none, none, none, none, none, none, none, none, none, none, none, none, none, none, none, none, none, none, none, none, none, none, none, none, none, none, none, none, none, none, none, none, none, none, none, none, none, none, none, none, none, none, none, none, none, none, none, none, none, none, none, none, none, none, none, none, none, none, none, none, none, some (.iconst 4, 0, 0, 0), some (.ireturn, 0, 0, 0), some (.iconst 1, 0, 0, 0), some (.ireturn, 0, 0, 0), some (.iconst 0, 0, 0, 0), some (.ireturn, 0, 0, 0)]
/-- LeavingVote$Script.figuresAt(I)I -/
def sm_c24 : List (Option sm_I) := [some (.aload_n 0, 0, 0, 0), some (.iload_n 1, 0, 0, 0), some (.invokevirtual 19, 22, 2, 276), none, none, some (.invokestatic 23, 25, 1, 277), none, none, some (.ifCond .ne 5, 13, 0, 0), none, none, some (.iconst 0, 0, 0, 0), some (.ireturn, 0, 0, 0), some (.aload_n 0, 0, 0, 0), some (.iload_n 1, 0, 0, 0), some (.iconst 1, 0, 0, 0), some (.iadd, 0, 0, 0), some (.invokevirtual 19, 22, 2, 276), none, none, some (.invokestatic 23, 25, 1, 277), none, none, some (.ifCond .eq 7, 30, 0, 0), none, none, some (.iconst 2, 0, 0, 0), some (.goto 4, 31, 0, 0), none, none, some (.iconst 1, 0, 0, 0), some (.ireturn, 0, 0, 0)]
/-- LeavingVote$Script.isFigure(I)Z -/
def sm_c25 : List (Option sm_I) := [some (.iload_n 0, 0, 0, 0), some (.bipush 48, 0, 0, 0), none, some (.if_icmp .lt 13, 16, 0, 0), none, none, some (.iload_n 0, 0, 0, 0), some (.bipush 57, 0, 0, 0), none, some (.if_icmp .gt 7, 16, 0, 0), none, none, some (.iconst 1, 0, 0, 0), some (.goto 4, 17, 0, 0), none, none, some (.iconst 0, 0, 0, 0), some (.ireturn, 0, 0, 0)]
/-- LeavingVote$Script.numberAt(II)I -/
def sm_c26 : List (Option sm_I) := [some (.aload_n 0, 0, 0, 0), some (.iload_n 1, 0, 0, 0), some (.invokevirtual 19, 22, 2, 276), none, none, some (.bipush 48, 0, 0, 0), none, some (.isub, 0, 0, 0), some (.istore_n 3, 0, 0, 0), some (.iload_n 2, 0, 0, 0), some (.iconst 2, 0, 0, 0), some (.if_icmp .ne 21, 32, 0, 0), none, none, some (.bipush 10, 0, 0, 0), none, some (.iload_n 3, 0, 0, 0), some (.imul, 0, 0, 0), some (.aload_n 0, 0, 0, 0), some (.iload_n 1, 0, 0, 0), some (.iconst 1, 0, 0, 0), some (.iadd, 0, 0, 0), some (.invokevirtual 19, 22, 2, 276), none, none, some (.iadd, 0, 0, 0), some (.bipush 48, 0, 0, 0), none, some (.isub, 0, 0, 0), some (.goto 4, 33, 0, 0), none, none, some (.iload_n 3, 0, 0, 0), some (.ireturn, 0, 0, 0)]
/-- LeavingVote$Item.least(I)I -/
def sm_c27 : List (Option sm_I) := [some (.iload_n 0, 0, 0, 0), some (.bipush 98, 0, 0, 0), none, some (.if_icmp .eq 9, 12, 0, 0), none, none, some (.iload_n 0, 0, 0, 0), some (.bipush 104, 0, 0, 0), none, some (.if_icmp .ne 7, 16, 0, 0), none, none, some (.iconst 1, 0, 0, 0), some (.goto 4, 17, 0, 0), none, none, some (.iconst 0, 0, 0, 0), some (.ireturn, 0, 0, 0)]
/-- LeavingVote$Item.most(II)I -/
def sm_c28 : List (Option sm_I) := [some (.iload_n 0, 0, 0, 0), some (.tableswitch 97 98 109 #[85, 97, 88, 97, 97, 97, 94, 63, 97, 97, 97, 91], 0, 0, 0), none, none, none, none, none, none, none, none, none, none, none, none, none, none, none, none, none, none, none, none, none, none, none, none, none, none, none, none, none, none, none, none, none, none, none, none, none, none, none, none, none, none, none, none, none, none, none, none, none, none, none, none, none, none, none, none, none, none, none, none, none, none, some (.iload_n 1, 0, 0, 0), some (.iconst 2, 0, 0, 0), some (.if_icmp .ge 7, 73, 0, 0), none, none, some (.iconst 3, 0, 0, 0), some (.goto 15, 85, 0, 0), none, none, some (.iload_n 1, 0, 0, 0), some (.iconst 2, 0, 0, 0), some (.if_icmp .ne 8, 83, 0, 0), none, none, some (.bipush 7, 0, 0, 0), none, some (.goto 5, 85, 0, 0), none, none, some (.bipush 9, 0, 0, 0), none, some (.ireturn, 0, 0, 0), some (.bipush 8, 0, 0, 0), none, some (.ireturn, 0, 0, 0), some (.bipush 9, 0, 0, 0), none, some (.ireturn, 0, 0, 0), some (.bipush 40, 0, 0, 0), none, some (.ireturn, 0, 0, 0), some (.bipush 9, 0, 0, 0), none, some (.ireturn, 0, 0, 0), some (.bipush 10, 0, 0, 0), none, some (.ireturn, 0, 0, 0)]
/-- LeavingVote$Island.take(LLeavingVote$Item;)Z -/
def sm_c29 : List (Option sm_I) := [some (.aload_n 1, 0, 0, 0), some (.iconst 0, 0, 0, 0), some (.invokevirtual 101, 30, 2, 294), none, none, some (.istore_n 2, 0, 0, 0), some (.aload_n 1, 0, 0, 0), some (.invokevirtual 104, 31, 1, 298), none, none, some (.tableswitch 126 98 115 #[92, 126, 98, 126, 126, 126, 112, 86, 126, 126, 126, 105, 126, 126, 126, 126, 126, 119], 0, 0, 0), none, none, none, none, none, none, none, none, none, none, none, none, none, none, none, none, none, none, none, none, none, none, none, none, none, none, none, none, none, none, none, none, none, none, none, none, none, none, none, none, none, none, none, none, none, none, none, none, none, none, none, none, none, none, none, none, none, none, none, none, none, none, none, none, none, none, none, none, none, none, none, none, none, none, none, none, none, none, none, none, none, none, none, none, none, some (.aload_n 0, 0, 0, 0), some (.aload_n 1, 0, 0, 0), some (.invokevirtual 107, 32, 2, 302), none, none, some (.ireturn, 0, 0, 0), some (.aload_n 0, 0, 0, 0), some (.iload_n 2, 0, 0, 0), some (.invokevirtual 110, 36, 2, 316), none, none, some (.ireturn, 0, 0, 0), some (.aload_n 0, 0, 0, 0), some (.iload_n 2, 0, 0, 0), some (.putfield 78, 1, 5, 103), none, none, some (.iconst 1, 0, 0, 0), some (.ireturn, 0, 0, 0), some (.aload_n 0, 0, 0, 0), some (.iload_n 2, 0, 0, 0), some (.putfield 81, 1, 6, 104), none, none, some (.iconst 1, 0, 0, 0), some (.ireturn, 0, 0, 0), some (.aload_n 0, 0, 0, 0), some (.iload_n 2, 0, 0, 0), some (.putfield 84, 1, 7, 105), none, none, some (.iconst 1, 0, 0, 0), some (.ireturn, 0, 0, 0), some (.aload_n 0, 0, 0, 0), some (.iload_n 2, 0, 0, 0), some (.putfield 87, 1, 8, 106), none, none, some (.iconst 1, 0, 0, 0), some (.ireturn, 0, 0, 0), some (.iconst 0, 0, 0, 0), some (.ireturn, 0, 0, 0)]
/-- LeavingVote$Item.number(I)I -/
def sm_c30 : List (Option sm_I) := [some (.iload_n 1, 0, 0, 0), some (.ifCond .lt 21, 22, 0, 0), none, none, some (.iload_n 1, 0, 0, 0), some (.aload_n 0, 0, 0, 0), some (.getfield 9, 2, 0, 81), none, none, some (.arraylength, 0, 0, 0), some (.if_icmp .ge 12, 22, 0, 0), none, none, some (.aload_n 0, 0, 0, 0), some (.getfield 9, 2, 0, 81), none, none, some (.iload_n 1, 0, 0, 0), some (.iaload, 0, 0, 0), some (.goto 4, 23, 0, 0), none, none, some (.iconst 0, 0, 0, 0), some (.ireturn, 0, 0, 0)]
/-- LeavingVote$Item.letter()I -/
def sm_c31 : List (Option sm_I) := [some (.aload_n 0, 0, 0, 0), some (.getfield 21, 2, 1, 82), none, none, some (.ireturn, 0, 0, 0)]
/-- LeavingVote$Island.takeIslander(LLeavingVote$Item;)Z -/
def sm_c32 : List (Option sm_I) := [some (.aload_n 0, 0, 0, 0), some (.getfield 43, 1, 3, 101), none, none, some (.bipush 8, 0, 0, 0), none, some (.if_icmp .lt 5, 11, 0, 0), none, none, some (.iconst 0, 0, 0, 0), some (.ireturn, 0, 0, 0), some (.aload_n 0, 0, 0, 0), some (.aload_n 0, 0, 0, 0), some (.getfield 43, 1, 3, 101), none, none, some (.aload_n 1, 0, 0, 0), some (.iconst 0, 0, 0, 0), some (.invokevirtual 101, 30, 2, 294), none, none, some (.aload_n 1, 0, 0, 0), some (.iconst 3, 0, 0, 0), some (.invokevirtual 101, 30, 2, 294), none, none, some (.invokevirtual 64, 18, 4, 249), none, none, some (.aload_n 0, 0, 0, 0), some (.aload_n 0, 0, 0, 0), some (.getfield 47, 1, 9, 107), none, none, some (.aload_n 0, 0, 0, 0), some (.getfield 43, 1, 3, 101), none, none, some (.aload_n 1, 0, 0, 0), some (.iconst 1, 0, 0, 0), some (.invokevirtual 101, 30, 2, 294), none, none, some (.invokestatic 114, 33, 3, 306), none, none, some (.putfield 47, 1, 9, 107), none, none, some (.aload_n 0, 0, 0, 0), some (.aload_n 0, 0, 0, 0), some (.getfield 47, 1, 9, 107), none, none, some (.aload_n 0, 0, 0, 0), some (.getfield 43, 1, 3, 101), none, none, some (.aload_n 1, 0, 0, 0), some (.iconst 2, 0, 0, 0), some (.invokevirtual 101, 30, 2, 294), none, none, some (.invokestatic 118, 35, 3, 313), none, none, some (.putfield 47, 1, 9, 107), none, none, some (.aload_n 0, 0, 0, 0), some (.dup, 0, 0, 0), some (.getfield 43, 1, 3, 101), none, none, some (.iconst 1, 0, 0, 0), some (.iadd, 0, 0, 0), some (.putfield 43, 1, 3, 101), none, none, some (.iconst 1, 0, 0, 0), some (.ireturn, 0, 0, 0)]
/-- LeavingVote$Standing.withLeaning(JII)J -/
def sm_c33 : List (Option sm_I) := [some (.lload_n 0, 0, 0, 0), some (.iload_n 2, 0, 0, 0), some (.iconst 1, 0, 0, 0), some (.iload_n 3, 0, 0, 0), some (.iconst 1, 0, 0, 0), some (.iand, 0, 0, 0), some (.invokestatic 15, 34, 4, 309), none, none, some (.lstore 4, 0, 0, 0), none, some (.lload 4, 0, 0, 0), none, some (.bipush 8, 0, 0, 0), none, some (.iload_n 2, 0, 0, 0), some (.iadd, 0, 0, 0), some (.iconst 1, 0, 0, 0), some (.iload_n 3, 0, 0, 0), some (.iconst 1, 0, 0, 0), some (.iushr, 0, 0, 0), some (.invokestatic 15, 34, 4, 309), none, none, some (.lreturn, 0, 0, 0)]
/-- LeavingVote$Standing.with(JIII)J -/
def sm_c34 : List (Option sm_I) := [some (.lconst 1, 0, 0, 0), some (.iload_n 3, 0, 0, 0), some (.lshl, 0, 0, 0), some (.lconst 1, 0, 0, 0), some (.lsub, 0, 0, 0), some (.lstore 5, 0, 0, 0), none, some (.lload_n 0, 0, 0, 0), some (.lload 5, 0, 0, 0), none, some (.iload_n 2, 0, 0, 0), some (.lshl, 0, 0, 0), some (.ldc2_w 23, 1, 1, 312), none, none, some (.lxor, 0, 0, 0), some (.land, 0, 0, 0), some (.iload 4, 0, 0, 0), none, some (.i2l, 0, 0, 0), some (.lload 5, 0, 0, 0), none, some (.land, 0, 0, 0), some (.iload_n 2, 0, 0, 0), some (.lshl, 0, 0, 0), some (.lor, 0, 0, 0), some (.lreturn, 0, 0, 0)]
/-- LeavingVote$Standing.withMinded(JII)J -/
def sm_c35 : List (Option sm_I) := [some (.lload_n 0, 0, 0, 0), some (.bipush 16, 0, 0, 0), none, some (.iconst 3, 0, 0, 0), some (.iload_n 2, 0, 0, 0), some (.imul, 0, 0, 0), some (.iadd, 0, 0, 0), some (.iconst 3, 0, 0, 0), some (.iload_n 3, 0, 0, 0), some (.invokestatic 15, 34, 4, 309), none, none, some (.lreturn, 0, 0, 0)]
/-- LeavingVote$Island.takeBoat(I)Z -/
def sm_c36 : List (Option sm_I) := [some (.aload_n 0, 0, 0, 0), some (.getfield 75, 1, 4, 102), none, none, some (.iconst 5, 0, 0, 0), some (.if_icmp .lt 5, 10, 0, 0), none, none, some (.iconst 0, 0, 0, 0), some (.ireturn, 0, 0, 0), some (.aload_n 0, 0, 0, 0), some (.aload_n 0, 0, 0, 0), some (.getfield 75, 1, 4, 102), none, none, some (.iload_n 1, 0, 0, 0), some (.invokevirtual 71, 19, 3, 253), none, none, some (.aload_n 0, 0, 0, 0), some (.dup, 0, 0, 0), some (.getfield 75, 1, 4, 102), none, none, some (.iconst 1, 0, 0, 0), some (.iadd, 0, 0, 0), some (.putfield 75, 1, 4, 102), none, none, some (.iconst 1, 0, 0, 0), some (.ireturn, 0, 0, 0)]
/-- LeavingVote$Item.behind()I -/
def sm_c37 : List (Option sm_I) := [some (.aload_n 0, 0, 0, 0), some (.getfield 41, 2, 2, 83), none, none, some (.ireturn, 0, 0, 0)]
/-- LeavingVote$Island.copyFrom(LLeavingVote$Island;)V -/
def sm_c38 : List (Option sm_I) := [some (.iconst 0, 0, 0, 0), some (.istore_n 2, 0, 0, 0), some (.iload_n 2, 0, 0, 0), some (.bipush 8, 0, 0, 0), none, some (.if_icmp .ge 26, 31, 0, 0), none, none, some (.aload_n 0, 0, 0, 0), some (.iload_n 2, 0, 0, 0), some (.aload_n 1, 0, 0, 0), some (.iload_n 2, 0, 0, 0), some (.invokevirtual 57, 39, 2, 328), none, none, some (.aload_n 1, 0, 0, 0), some (.iconst 1, 0, 0, 0), some (.iload_n 2, 0, 0, 0), some (.ishl, 0, 0, 0), some (.invokevirtual 61, 40, 2, 332), none, none, some (.invokevirtual 64, 18, 4, 249), none, none, some (.iinc 2 1, 0, 0, 0), none, none, some (.goto (-26), 2, 0, 0), none, none, some (.iconst 0, 0, 0, 0), some (.istore_n 2, 0, 0, 0), some (.iload_n 2, 0, 0, 0), some (.iconst 5, 0, 0, 0), some (.if_icmp .ge 21, 56, 0, 0), none, none, some (.aload_n 0, 0, 0, 0), some (.iload_n 2, 0, 0, 0), some (.aload_n 1, 0, 0, 0), some (.iconst 1, 0, 0, 0), some (.iload_n 2, 0, 0, 0), some (.ishl, 0, 0, 0), some (.invokevirtual 68, 41, 2, 336), none, none, some (.invokevirtual 71, 19, 3, 253), none, none, some (.iinc 2 1, 0, 0, 0), none, none, some (.goto (-20), 33, 0, 0), none, none, some (.aload_n 0, 0, 0, 0), some (.aload_n 1, 0, 0, 0), some (.getfield 43, 1, 3, 101), none, none, some (.putfield 43, 1, 3, 101), none, none, some (.aload_n 0, 0, 0, 0), some (.aload_n 1, 0, 0, 0), some (.getfield 75, 1, 4, 102), none, none, some (.putfield 75, 1, 4, 102), none, none, some (.aload_n 0, 0, 0, 0), some (.aload_n 1, 0, 0, 0), some (.getfield 78, 1, 5, 103), none, none, some (.putfield 78, 1, 5, 103), none, none, some (.aload_n 0, 0, 0, 0), some (.aload_n 1, 0, 0, 0), some (.getfield 81, 1, 6, 104), none, none, some (.putfield 81, 1, 6, 104), none, none, some (.aload_n 0, 0, 0, 0), some (.aload_n 1, 0, 0, 0), some (.getfield 84, 1, 7, 105), none, none, some (.putfield 84, 1, 7, 105), none, none, some (.aload_n 0, 0, 0, 0), some (.aload_n 1, 0, 0, 0), some (.getfield 87, 1, 8, 106), none, none, some (.putfield 87, 1, 8, 106), none, none, some (.aload_n 0, 0, 0, 0), some (.aload_n 1, 0, 0, 0), some (.getfield 47, 1, 9, 107), none, none, some (.putfield 47, 1, 9, 107), none, none, some (.return_, 0, 0, 0)]
/-- LeavingVote$Island.kind(I)I -/
def sm_c39 : List (Option sm_I) := [some (.iload_n 1, 0, 0, 0), some (.ifCond .lt 21, 22, 0, 0), none, none, some (.iload_n 1, 0, 0, 0), some (.aload_n 0, 0, 0, 0), some (.getfield 9, 1, 0, 98), none, none, some (.arraylength, 0, 0, 0), some (.if_icmp .ge 12, 22, 0, 0), none, none, some (.aload_n 0, 0, 0, 0), some (.getfield 9, 1, 0, 98), none, none, some (.iload_n 1, 0, 0, 0), some (.iaload, 0, 0, 0), some (.goto 4, 23, 0, 0), none, none, some (.iconst 0, 0, 0, 0), some (.ireturn, 0, 0, 0)]
/-- LeavingVote$Island.cowsOf(I)I -/
def sm_c40 : List (Option sm_I) := [some (.iconst 0, 0, 0, 0), some (.istore_n 2, 0, 0, 0), some (.iconst 0, 0, 0, 0), some (.istore_n 3, 0, 0, 0), some (.iload_n 3, 0, 0, 0), some (.aload_n 0, 0, 0, 0), some (.getfield 15, 1, 1, 99), none, none, some (.arraylength, 0, 0, 0), some (.if_icmp .ge 27, 37, 0, 0), none, none, some (.iload_n 1, 0, 0, 0), some (.iload_n 3, 0, 0, 0), some (.iushr, 0, 0, 0), some (.iconst 1, 0, 0, 0), some (.iand, 0, 0, 0), some (.iconst 1, 0, 0, 0), some (.if_icmp .ne 12, 31, 0, 0), none, none, some (.iload_n 2, 0, 0, 0), some (.aload_n 0, 0, 0, 0), some (.getfield 15, 1, 1, 99), none, none, some (.iload_n 3, 0, 0, 0), some (.iaload, 0, 0, 0), some (.iadd, 0, 0, 0), some (.istore_n 2, 0, 0, 0), some (.iinc 3 1, 0, 0, 0), none, none, some (.goto (-30), 4, 0, 0), none, none, some (.iload_n 2, 0, 0, 0), some (.ireturn, 0, 0, 0)]
/-- LeavingVote$Island.seatsOf(I)I -/
def sm_c41 : List (Option sm_I) := [some (.iconst 0, 0, 0, 0), some (.istore_n 2, 0, 0, 0), some (.iconst 0, 0, 0, 0), some (.istore_n 3, 0, 0, 0), some (.iload_n 3, 0, 0, 0), some (.aload_n 0, 0, 0, 0), some (.getfield 18, 1, 2, 100), none, none, some (.arraylength, 0, 0, 0), some (.if_icmp .ge 27, 37, 0, 0), none, none, some (.iload_n 1, 0, 0, 0), some (.iload_n 3, 0, 0, 0), some (.iushr, 0, 0, 0), some (.iconst 1, 0, 0, 0), some (.iand, 0, 0, 0), some (.iconst 1, 0, 0, 0), some (.if_icmp .ne 12, 31, 0, 0), none, none, some (.iload_n 2, 0, 0, 0), some (.aload_n 0, 0, 0, 0), some (.getfield 18, 1, 2, 100), none, none, some (.iload_n 3, 0, 0, 0), some (.iaload, 0, 0, 0), some (.iadd, 0, 0, 0), some (.istore_n 2, 0, 0, 0), some (.iinc 3 1, 0, 0, 0), none, none, some (.goto (-30), 4, 0, 0), none, none, some (.iload_n 2, 0, 0, 0), some (.ireturn, 0, 0, 0)]
/-- LeavingVote$Island.firstStanding()J -/
def sm_c42 : List (Option sm_I) := [some (.aload_n 0, 0, 0, 0), some (.getfield 47, 1, 9, 107), none, none, some (.lreturn, 0, 0, 0)]
/-- LeavingVote$Script.clear()V -/
def sm_c43 : List (Option sm_I) := [some (.aload_n 0, 0, 0, 0), some (.iconst 0, 0, 0, 0), some (.putfield 15, 5, 1, 68), none, none, some (.return_, 0, 0, 0)]
/-- LeavingVote.write(I)I -/
def sm_c44 : List (Option sm_I) := [some (.iload_n 1, 0, 0, 0), some (.bipush 32, 0, 0, 0), none, some (.if_icmp .lt 9, 12, 0, 0), none, none, some (.iload_n 1, 0, 0, 0), some (.bipush 126, 0, 0, 0), none, some (.if_icmp .le 5, 14, 0, 0), none, none, some (.iconst (-1), 0, 0, 0), some (.ireturn, 0, 0, 0), some (.aload_n 0, 0, 0, 0), some (.getfield 10, 0, 0, 348), none, none, some (.iload_n 1, 0, 0, 0), some (.invokevirtual 62, 15, 2, 237), none, none, some (.ifCond .eq 13, 35, 0, 0), none, none, some (.aload_n 0, 0, 0, 0), some (.getfield 10, 0, 0, 348), none, none, some (.invokevirtual 66, 20, 1, 381), none, none, some (.goto 5, 37, 0, 0), none, none, some (.bipush (-3), 0, 0, 0), none, some (.ireturn, 0, 0, 0)]
/-- LeavingVote.wipe()I -/
def sm_c45 : List (Option sm_I) := [some (.aload_n 0, 0, 0, 0), some (.getfield 10, 0, 0, 348), none, none, some (.invokevirtual 66, 20, 1, 381), none, none, some (.istore_n 1, 0, 0, 0), some (.aload_n 0, 0, 0, 0), some (.getfield 10, 0, 0, 348), none, none, some (.invokevirtual 70, 43, 1, 344), none, none, some (.iload_n 1, 0, 0, 0), some (.ireturn, 0, 0, 0)]
/-- LeavingVote.fault()I -/
def sm_c46 : List (Option sm_I) := [some (.aload_n 0, 0, 0, 0), some (.getfield 26, 0, 2, 350), none, none, some (.aload_n 0, 0, 0, 0), some (.getfield 10, 0, 0, 348), none, none, some (.aload_n 0, 0, 0, 0), some (.getfield 19, 0, 1, 349), none, none, some (.invokevirtual 73, 16, 3, 241), none, none, some (.ireturn, 0, 0, 0)]
/-- LeavingVote.lay()I -/
def sm_c47 : List (Option sm_I) := [some (.aload_n 0, 0, 0, 0), some (.getfield 26, 0, 2, 350), none, none, some (.aload_n 0, 0, 0, 0), some (.getfield 10, 0, 0, 348), none, none, some (.aload_n 0, 0, 0, 0), some (.getfield 19, 0, 1, 349), none, none, some (.invokevirtual 73, 16, 3, 241), none, none, some (.bipush (-4), 0, 0, 0), none, some (.if_icmp .ne 13, 30, 0, 0), none, none, some (.aload_n 0, 0, 0, 0), some (.getfield 26, 0, 2, 350), none, none, some (.invokevirtual 77, 48, 1, 394), none, none, some (.ifCond .ne 6, 33, 0, 0), none, none, some (.bipush (-2), 0, 0, 0), none, some (.ireturn, 0, 0, 0), some (.aload_n 0, 0, 0, 0), some (.getfield 30, 0, 3, 351), none, none, some (.aload_n 0, 0, 0, 0), some (.getfield 26, 0, 2, 350), none, none, some (.invokevirtual 81, 38, 2, 324), none, none, some (.aload_n 0, 0, 0, 0), some (.aload_n 0, 0, 0, 0), some (.getfield 30, 0, 3, 351), none, none, some (.invokevirtual 85, 42, 1, 340), none, none, some (.putfield 89, 0, 8, 356), none, none, some (.aload_n 0, 0, 0, 0), some (.getfield 45, 0, 5, 353), none, none, some (.invokevirtual 93, 51, 1, 404), none, none, some (.aload_n 0, 0, 0, 0), some (.getfield 49, 0, 6, 354), none, none, some (.invokevirtual 93, 51, 1, 404), none, none, some (.aload_n 0, 0, 0, 0), some (.getfield 55, 0, 7, 355), none, none, some (.invokevirtual 94, 52, 1, 408), none, none, some (.aload_n 0, 0, 0, 0), some (.getfield 30, 0, 3, 351), none, none, some (.invokevirtual 95, 53, 1, 412), none, none, some (.ireturn, 0, 0, 0)]
/-- LeavingVote$Island.canBeLaid()Z -/
def sm_c48 : List (Option sm_I) := [some (.iconst 0, 0, 0, 0), some (.istore_n 1, 0, 0, 0), some (.iload_n 1, 0, 0, 0), some (.aload_n 0, 0, 0, 0), some (.getfield 43, 1, 3, 101), none, none, some (.if_icmp .ge 26, 33, 0, 0), none, none, some (.aload_n 0, 0, 0, 0), some (.getfield 47, 1, 9, 107), none, none, some (.iload_n 1, 0, 0, 0), some (.invokestatic 51, 49, 2, 398), none, none, some (.aload_n 0, 0, 0, 0), some (.getfield 43, 1, 3, 101), none, none, some (.if_icmp .lt 5, 27, 0, 0), none, none, some (.iconst 0, 0, 0, 0), some (.ireturn, 0, 0, 0), some (.iinc 1 1, 0, 0, 0), none, none, some (.goto (-28), 2, 0, 0), none, none, some (.aload_n 0, 0, 0, 0), some (.getfield 43, 1, 3, 101), none, none, some (.ifCond .le 7, 44, 0, 0), none, none, some (.iconst 1, 0, 0, 0), some (.goto 4, 45, 0, 0), none, none, some (.iconst 0, 0, 0, 0), some (.ireturn, 0, 0, 0)]
/-- LeavingVote$Standing.minded(JI)I -/
def sm_c49 : List (Option sm_I) := [some (.lload_n 0, 0, 0, 0), some (.bipush 16, 0, 0, 0), none, some (.iconst 3, 0, 0, 0), some (.iload_n 2, 0, 0, 0), some (.imul, 0, 0, 0), some (.iadd, 0, 0, 0), some (.iconst 3, 0, 0, 0), some (.invokestatic 9, 50, 3, 401), none, none, some (.ireturn, 0, 0, 0)]
/-- LeavingVote$Standing.part(JII)I -/
def sm_c50 : List (Option sm_I) := [some (.lload_n 0, 0, 0, 0), some (.iload_n 2, 0, 0, 0), some (.lushr, 0, 0, 0), some (.l2i, 0, 0, 0), some (.iconst 1, 0, 0, 0), some (.iload_n 3, 0, 0, 0), some (.ishl, 0, 0, 0), some (.iconst 1, 0, 0, 0), some (.isub, 0, 0, 0), some (.iand, 0, 0, 0), some (.ireturn, 0, 0, 0)]
/-- LeavingVote$Pile.clear()V -/
def sm_c51 : List (Option sm_I) := [some (.aload_n 0, 0, 0, 0), some (.iconst 0, 0, 0, 0), some (.putfield 19, 4, 1, 161), none, none, some (.return_, 0, 0, 0)]
/-- LeavingVote$Sightings.clear()V -/
def sm_c52 : List (Option sm_I) := [some (.aload_n 0, 0, 0, 0), some (.iconst 0, 0, 0, 0), some (.putfield 18, 6, 2, 176), none, none, some (.return_, 0, 0, 0)]
/-- LeavingVote$Island.islanders()I -/
def sm_c53 : List (Option sm_I) := [some (.aload_n 0, 0, 0, 0), some (.getfield 43, 1, 3, 101), none, none, some (.ireturn, 0, 0, 0)]
/-- LeavingVote.islander(II)I -/
def sm_c54 : List (Option sm_I) := [some (.aload_n 0, 0, 0, 0), some (.iload_n 1, 0, 0, 0), some (.invokevirtual 98, 55, 2, 420), none, none, some (.ifCond .ne 5, 10, 0, 0), none, none, some (.iconst (-1), 0, 0, 0), some (.ireturn, 0, 0, 0), some (.iload_n 2, 0, 0, 0), some (.tableswitch 67 0 3 #[29, 38, 47, 56], 0, 0, 0), none, none, none, none, none, none, none, none, none, none, none, none, none, none, none, none, none, none, none, none, none, none, none, none, none, none, none, none, some (.aload_n 0, 0, 0, 0), some (.getfield 30, 0, 3, 351), none, none, some (.iload_n 1, 0, 0, 0), some (.invokevirtual 101, 39, 2, 424), none, none, some (.ireturn, 0, 0, 0), some (.aload_n 0, 0, 0, 0), some (.getfield 89, 0, 8, 356), none, none, some (.iload_n 1, 0, 0, 0), some (.invokestatic 105, 56, 2, 425), none, none, some (.ireturn, 0, 0, 0), some (.aload_n 0, 0, 0, 0), some (.getfield 89, 0, 8, 356), none, none, some (.iload_n 1, 0, 0, 0), some (.invokestatic 111, 49, 2, 428), none, none, some (.ireturn, 0, 0, 0), some (.aload_n 0, 0, 0, 0), some (.getfield 30, 0, 3, 351), none, none, some (.iconst 1, 0, 0, 0), some (.iload_n 1, 0, 0, 0), some (.ishl, 0, 0, 0), some (.invokevirtual 114, 40, 2, 429), none, none, some (.ireturn, 0, 0, 0), some (.iconst (-1), 0, 0, 0), some (.ireturn, 0, 0, 0)]
/-- LeavingVote.isIslander(I)Z -/
def sm_c55 : List (Option sm_I) := [some (.iload_n 1, 0, 0, 0), some (.ifCond .lt 18, 19, 0, 0), none, none, some (.iload_n 1, 0, 0, 0), some (.aload_n 0, 0, 0, 0), some (.getfield 30, 0, 3, 351), none, none, some (.invokevirtual 95, 53, 1, 412), none, none, some (.if_icmp .ge 7, 19, 0, 0), none, none, some (.iconst 1, 0, 0, 0), some (.goto 4, 20, 0, 0), none, none, some (.iconst 0, 0, 0, 0), some (.ireturn, 0, 0, 0)]
/-- LeavingVote$Standing.leaning(JI)I -/
def sm_c56 : List (Option sm_I) := [some (.lload_n 0, 0, 0, 0), some (.iload_n 2, 0, 0, 0), some (.iconst 1, 0, 0, 0), some (.invokestatic 9, 50, 3, 401), none, none, some (.iconst 2, 0, 0, 0), some (.lload_n 0, 0, 0, 0), some (.bipush 8, 0, 0, 0), none, some (.iload_n 2, 0, 0, 0), some (.iadd, 0, 0, 0), some (.iconst 1, 0, 0, 0), some (.invokestatic 9, 50, 3, 401), none, none, some (.imul, 0, 0, 0), some (.iadd, 0, 0, 0), some (.ireturn, 0, 0, 0)]
/-- LeavingVote.boat(II)I -/
def sm_c57 : List (Option sm_I) := [some (.aload_n 0, 0, 0, 0), some (.iload_n 1, 0, 0, 0), some (.invokevirtual 117, 58, 2, 434), none, none, some (.ifCond .ne 5, 10, 0, 0), none, none, some (.iconst (-1), 0, 0, 0), some (.ireturn, 0, 0, 0), some (.iload_n 2, 0, 0, 0), some (.lookupswitch 48 #[(0, 25), (1, 36)], 0, 0, 0), none, none, none, none, none, none, none, none, none, none, none, none, none, none, none, none, none, none, none, none, none, none, none, none, some (.aload_n 0, 0, 0, 0), some (.getfield 30, 0, 3, 351), none, none, some (.iconst 1, 0, 0, 0), some (.iload_n 1, 0, 0, 0), some (.ishl, 0, 0, 0), some (.invokevirtual 120, 41, 2, 442), none, none, some (.ireturn, 0, 0, 0), some (.aload_n 0, 0, 0, 0), some (.getfield 89, 0, 8, 356), none, none, some (.invokestatic 123, 60, 1, 443), none, none, some (.iload_n 1, 0, 0, 0), some (.iushr, 0, 0, 0), some (.iconst 1, 0, 0, 0), some (.iand, 0, 0, 0), some (.ireturn, 0, 0, 0), some (.iconst (-1), 0, 0, 0), some (.ireturn, 0, 0, 0)]
/-- LeavingVote.isBoat(I)Z -/
def sm_c58 : List (Option sm_I) := [some (.iload_n 1, 0, 0, 0), some (.ifCond .lt 18, 19, 0, 0), none, none, some (.iload_n 1, 0, 0, 0), some (.aload_n 0, 0, 0, 0), some (.getfield 30, 0, 3, 351), none, none, some (.invokevirtual 224, 59, 1, 438), none, none, some (.if_icmp .ge 7, 19, 0, 0), none, none, some (.iconst 1, 0, 0, 0), some (.goto 4, 20, 0, 0), none, none, some (.iconst 0, 0, 0, 0), some (.ireturn, 0, 0, 0)]
/-- LeavingVote$Island.boats()I -/
def sm_c59 : List (Option sm_I) := [some (.aload_n 0, 0, 0, 0), some (.getfield 75, 1, 4, 102), none, none, some (.ireturn, 0, 0, 0)]
/-- LeavingVote$Standing.held(J)I -/
def sm_c60 : List (Option sm_I) := [some (.lload_n 0, 0, 0, 0), some (.bipush 40, 0, 0, 0), none, some (.iconst 5, 0, 0, 0), some (.invokestatic 9, 50, 3, 401), none, none, some (.ireturn, 0, 0, 0)]
/-- LeavingVote.wants(I)I -/
def sm_c61 : List (Option sm_I) := [some (.iload_n 1, 0, 0, 0), some (.invokestatic 127, 62, 1, 450), none, none, some (.ifCond .ne 5, 9, 0, 0), none, none, some (.iconst (-1), 0, 0, 0), some (.ireturn, 0, 0, 0), some (.aload_n 0, 0, 0, 0), some (.getfield 36, 0, 4, 352), none, none, some (.aload_n 0, 0, 0, 0), some (.getfield 30, 0, 3, 351), none, none, some (.aload_n 0, 0, 0, 0), some (.getfield 89, 0, 8, 356), none, none, some (.invokevirtual 130, 63, 3, 453), none, none, some (.aload_n 0, 0, 0, 0), some (.getfield 36, 0, 4, 352), none, none, some (.aload_n 0, 0, 0, 0), some (.getfield 89, 0, 8, 356), none, none, some (.iload_n 1, 0, 0, 0), some (.invokestatic 134, 70, 2, 481), none, none, some (.iconst 0, 0, 0, 0), some (.invokevirtual 137, 71, 3, 484), none, none, some (.ireturn, 0, 0, 0)]
/-- LeavingVote.isQuestion(I)Z -/
def sm_c62 : List (Option sm_I) := [some (.iload_n 0, 0, 0, 0), some (.ifCond .lt 12, 13, 0, 0), none, none, some (.iload_n 0, 0, 0, 0), some (.iconst 2, 0, 0, 0), some (.if_icmp .ge 7, 13, 0, 0), none, none, some (.iconst 1, 0, 0, 0), some (.goto 4, 14, 0, 0), none, none, some (.iconst 0, 0, 0, 0), some (.ireturn, 0, 0, 0)]
/-- LeavingVote$Night.set(LLeavingVote$Island;J)V -/
def sm_c63 : List (Option sm_I) := [some (.lload_n 2, 0, 0, 0), some (.invokestatic 15, 64, 1, 457), none, none, some (.istore 4, 0, 0, 0), none, some (.iconst 0, 0, 0, 0), some (.istore 5, 0, 0, 0), none, some (.iload 5, 0, 0, 0), none, some (.aload_n 0, 0, 0, 0), some (.getfield 9, 3, 0, 135), none, none, some (.arraylength, 0, 0, 0), some (.if_icmp .ge 33, 49, 0, 0), none, none, some (.aload_n 0, 0, 0, 0), some (.getfield 9, 3, 0, 135), none, none, some (.iload 5, 0, 0, 0), none, some (.iload 4, 0, 0, 0), none, some (.ifCond .eq 8, 35, 0, 0), none, none, some (.iload 5, 0, 0, 0), none, some (.goto 10, 42, 0, 0), none, none, some (.aload_n 1, 0, 0, 0), some (.lload_n 2, 0, 0, 0), some (.iload 5, 0, 0, 0), none, some (.invokestatic 21, 65, 3, 460), none, none, some (.iastore, 0, 0, 0), some (.iinc 5 1, 0, 0, 0), none, none, some (.goto (-37), 9, 0, 0), none, none, some (.aload_n 0, 0, 0, 0), some (.iload 4, 0, 0, 0), none, some (.ifCond .eq 7, 59, 0, 0), none, none, some (.iconst 0, 0, 0, 0), some (.goto 8, 64, 0, 0), none, none, some (.aload_n 1, 0, 0, 0), some (.iconst 3, 0, 0, 0), some (.invokevirtual 25, 67, 2, 468), none, none, some (.putfield 31, 3, 1, 136), none, none, some (.aload_n 0, 0, 0, 0), some (.iload 4, 0, 0, 0), none, some (.ifCond .eq 8, 78, 0, 0), none, none, some (.bipush 8, 0, 0, 0), none, some (.goto 16, 91, 0, 0), none, none, some (.aload_n 1, 0, 0, 0), some (.bipush 31, 0, 0, 0), none, some (.lload_n 2, 0, 0, 0), some (.invokestatic 35, 60, 1, 472), none, none, some (.iconst (-1), 0, 0, 0), some (.ixor, 0, 0, 0), some (.iand, 0, 0, 0), some (.invokevirtual 39, 41, 2, 473), none, none, some (.putfield 42, 3, 2, 137), none, none, some (.aload_n 0, 0, 0, 0), some (.aload_n 1, 0, 0, 0), some (.invokevirtual 45, 68, 1, 474), none, none, some (.putfield 49, 3, 3, 138), none, none, some (.aload_n 0, 0, 0, 0), some (.lload_n 2, 0, 0, 0), some (.invokestatic 52, 69, 1, 478), none, none, some (.ifCond .eq 12, 119, 0, 0), none, none, some (.iload 4, 0, 0, 0), none, some (.ifCond .ne 7, 119, 0, 0), none, none, some (.iconst 1, 0, 0, 0), some (.goto 4, 120, 0, 0), none, none, some (.iconst 0, 0, 0, 0), some (.putfield 55, 3, 4, 139), none, none, some (.return_, 0, 0, 0)]
/-- LeavingVote$Standing.ice(J)Z -/
def sm_c64 : List (Option sm_I) := [some (.lload_n 0, 0, 0, 0), some (.bipush 46, 0, 0, 0), none, some (.iconst 1, 0, 0, 0), some (.invokestatic 9, 50, 3, 401), none, none, some (.iconst 1, 0, 0, 0), some (.if_icmp .ne 7, 15, 0, 0), none, none, some (.iconst 1, 0, 0, 0), some (.goto 4, 16, 0, 0), none, none, some (.iconst 0, 0, 0, 0), some (.ireturn, 0, 0, 0)]
/-- LeavingVote$Night.guideOf(LLeavingVote$Island;JI)I -/
def sm_c65 : List (Option sm_I) := [some (.iload_n 3, 0, 0, 0), some (.istore 4, 0, 0, 0), none, some (.iconst 0, 0, 0, 0), some (.istore 5, 0, 0, 0), none, some (.iload 5, 0, 0, 0), none, some (.bipush 8, 0, 0, 0), none, some (.if_icmp .ge 40, 50, 0, 0), none, none, some (.aload_n 0, 0, 0, 0), some (.iload 4, 0, 0, 0), none, some (.invokevirtual 74, 39, 2, 463), none, none, some (.iconst 2, 0, 0, 0), some (.if_icmp .ne 13, 33, 0, 0), none, none, some (.aload_n 0, 0, 0, 0), some (.lload_n 1, 0, 0, 0), some (.iload 4, 0, 0, 0), none, some (.invokestatic 77, 66, 3, 464), none, none, some (.ifCond .eq 6, 36, 0, 0), none, none, some (.iload 4, 0, 0, 0), none, some (.ireturn, 0, 0, 0), some (.lload_n 1, 0, 0, 0), some (.iload 4, 0, 0, 0), none, some (.invokestatic 81, 49, 2, 467), none, none, some (.istore 4, 0, 0, 0), none, some (.iinc 5 1, 0, 0, 0), none, none, some (.goto (-41), 6, 0, 0), none, none, some (.iload 4, 0, 0, 0), none, some (.ireturn, 0, 0, 0)]
/-- LeavingVote$Night.comesRound(LLeavingVote$Island;JI)Z -/
def sm_c66 : List (Option sm_I) := [some (.iload_n 3, 0, 0, 0), some (.istore 4, 0, 0, 0), none, some (.iconst 0, 0, 0, 0), some (.istore 5, 0, 0, 0), none, some (.iload 5, 0, 0, 0), none, some (.bipush 8, 0, 0, 0), none, some (.if_icmp .ge 37, 47, 0, 0), none, none, some (.lload_n 1, 0, 0, 0), some (.iload 4, 0, 0, 0), none, some (.invokestatic 81, 49, 2, 467), none, none, some (.istore 4, 0, 0, 0), none, some (.iload 4, 0, 0, 0), none, some (.iload_n 3, 0, 0, 0), some (.if_icmp .ne 5, 29, 0, 0), none, none, some (.iconst 1, 0, 0, 0), some (.ireturn, 0, 0, 0), some (.aload_n 0, 0, 0, 0), some (.iload 4, 0, 0, 0), none, some (.invokevirtual 74, 39, 2, 463), none, none, some (.iconst 2, 0, 0, 0), some (.if_icmp .eq 5, 41, 0, 0), none, none, some (.iconst 0, 0, 0, 0), some (.ireturn, 0, 0, 0), some (.iinc 5 1, 0, 0, 0), none, none, some (.goto (-38), 6, 0, 0), none, none, some (.iconst 0, 0, 0, 0), some (.ireturn, 0, 0, 0)]
/-- LeavingVote$Island.ofKind(I)I -/
def sm_c67 : List (Option sm_I) := [some (.iconst 0, 0, 0, 0), some (.istore_n 2, 0, 0, 0), some (.iconst 0, 0, 0, 0), some (.istore_n 3, 0, 0, 0), some (.iload_n 3, 0, 0, 0), some (.aload_n 0, 0, 0, 0), some (.getfield 43, 1, 3, 101), none, none, some (.if_icmp .ge 24, 33, 0, 0), none, none, some (.aload_n 0, 0, 0, 0), some (.iload_n 3, 0, 0, 0), some (.invokevirtual 57, 39, 2, 328), none, none, some (.iload_n 1, 0, 0, 0), some (.if_icmp .ne 9, 27, 0, 0), none, none, some (.iload_n 2, 0, 0, 0), some (.iconst 1, 0, 0, 0), some (.iload_n 3, 0, 0, 0), some (.ishl, 0, 0, 0), some (.ior, 0, 0, 0), some (.istore_n 2, 0, 0, 0), some (.iinc 3 1, 0, 0, 0), none, none, some (.goto (-26), 4, 0, 0), none, none, some (.iload_n 2, 0, 0, 0), some (.ireturn, 0, 0, 0)]
/-- LeavingVote$Island.bedsAshore()I -/
def sm_c68 : List (Option sm_I) := [some (.aload_n 0, 0, 0, 0), some (.getfield 78, 1, 5, 103), none, none, some (.ireturn, 0, 0, 0)]
/-- LeavingVote$Standing.storm(J)Z -/
def sm_c69 : List (Option sm_I) := [some (.lload_n 0, 0, 0, 0), some (.bipush 45, 0, 0, 0), none, some (.iconst 1, 0, 0, 0), some (.invokestatic 9, 50, 3, 401), none, none, some (.iconst 1, 0, 0, 0), some (.if_icmp .ne 7, 15, 0, 0), none, none, some (.iconst 1, 0, 0, 0), some (.goto 4, 16, 0, 0), none, none, some (.iconst 0, 0, 0, 0), some (.ireturn, 0, 0, 0)]
/-- LeavingVote$Standing.against(JI)I -/
def sm_c70 : List (Option sm_I) := [some (.lload_n 0, 0, 0, 0), some (.bipush 8, 0, 0, 0), none, some (.iload_n 2, 0, 0, 0), some (.imul, 0, 0, 0), some (.bipush 8, 0, 0, 0), none, some (.invokestatic 9, 50, 3, 401), none, none, some (.ireturn, 0, 0, 0)]
/-- LeavingVote$Night.wanting(II)I -/
def sm_c71 : List (Option sm_I) := [some (.aload_n 0, 0, 0, 0), some (.getfield 55, 3, 4, 139), none, none, some (.ifCond .eq 7, 11, 0, 0), none, none, some (.iconst 0, 0, 0, 0), some (.goto 15, 23, 0, 0), none, none, some (.iload_n 1, 0, 0, 0), some (.aload_n 0, 0, 0, 0), some (.getfield 31, 3, 1, 136), none, none, some (.iconst (-1), 0, 0, 0), some (.ixor, 0, 0, 0), some (.iand, 0, 0, 0), some (.iload_n 2, 0, 0, 0), some (.iconst (-1), 0, 0, 0), some (.ixor, 0, 0, 0), some (.iand, 0, 0, 0), some (.istore_n 3, 0, 0, 0), some (.iconst 0, 0, 0, 0), some (.istore 4, 0, 0, 0), none, some (.iconst 0, 0, 0, 0), some (.istore 5, 0, 0, 0), none, some (.iload 5, 0, 0, 0), none, some (.aload_n 0, 0, 0, 0), some (.getfield 9, 3, 0, 135), none, none, some (.arraylength, 0, 0, 0), some (.if_icmp .ge 28, 65, 0, 0), none, none, some (.iload 4, 0, 0, 0), none, some (.iload_n 3, 0, 0, 0), some (.aload_n 0, 0, 0, 0), some (.getfield 9, 3, 0, 135), none, none, some (.iload 5, 0, 0, 0), none, some (.iaload, 0, 0, 0), some (.iushr, 0, 0, 0), some (.iconst 1, 0, 0, 0), some (.iand, 0, 0, 0), some (.iload 5, 0, 0, 0), none, some (.ishl, 0, 0, 0), some (.ior, 0, 0, 0), some (.istore 4, 0, 0, 0), none, some (.iinc 5 1, 0, 0, 0), none, none, some (.goto (-32), 30, 0, 0), none, none, some (.iload 4, 0, 0, 0), none, some (.ireturn, 0, 0, 0)]
/-- LeavingVote.leave(I)I -/
def sm_c72 : List (Option sm_I) := [some (.iload_n 1, 0, 0, 0), some (.invokestatic 127, 62, 1, 450), none, none, some (.ifCond .eq 15, 19, 0, 0), none, none, some (.aload_n 0, 0, 0, 0), some (.aload_n 0, 0, 0, 0), some (.getfield 89, 0, 8, 356), none, none, some (.iload_n 1, 0, 0, 0), some (.invokevirtual 141, 73, 3, 492), none, none, some (.goto 4, 20, 0, 0), none, none, some (.iconst (-1), 0, 0, 0), some (.ireturn, 0, 0, 0)]
/-- LeavingVote.leavers(JI)I -/
def sm_c73 : List (Option sm_I) := [some (.aload_n 0, 0, 0, 0), some (.getfield 36, 0, 4, 352), none, none, some (.aload_n 0, 0, 0, 0), some (.getfield 30, 0, 3, 351), none, none, some (.lload_n 1, 0, 0, 0), some (.invokevirtual 130, 63, 3, 453), none, none, some (.aload_n 0, 0, 0, 0), some (.getfield 36, 0, 4, 352), none, none, some (.lload_n 1, 0, 0, 0), some (.iload_n 3, 0, 0, 0), some (.invokestatic 134, 70, 2, 481), none, none, some (.iconst 0, 0, 0, 0), some (.invokevirtual 201, 74, 3, 496), none, none, some (.ireturn, 0, 0, 0)]
/-- LeavingVote$Night.leaving(II)I -/
def sm_c74 : List (Option sm_I) := [some (.aload_n 0, 0, 0, 0), some (.aload_n 0, 0, 0, 0), some (.iload_n 1, 0, 0, 0), some (.iload_n 2, 0, 0, 0), some (.invokevirtual 59, 71, 3, 500), none, none, some (.aload_n 0, 0, 0, 0), some (.getfield 49, 3, 3, 138), none, none, some (.invokevirtual 63, 75, 3, 501), none, none, some (.ireturn, 0, 0, 0)]
/-- LeavingVote$Night.leavingOf(II)I -/
def sm_c75 : List (Option sm_I) := [some (.iload_n 1, 0, 0, 0), some (.aload_n 0, 0, 0, 0), some (.getfield 42, 3, 2, 137), none, none, some (.iload_n 2, 0, 0, 0), some (.invokestatic 66, 9996, 0, 505), none, none, some (.invokestatic 71, 76, 2, 5000), none, none, some (.ireturn, 0, 0, 0)]
/-- LeavingVote.lowest(II)I -/
def sm_c76 : List (Option sm_I) := [some (.iconst 0, 0, 0, 0), some (.istore_n 2, 0, 0, 0), some (.iconst 0, 0, 0, 0), some (.istore_n 3, 0, 0, 0), some (.iconst 0, 0, 0, 0), some (.istore 4, 0, 0, 0), none, some (.iload 4, 0, 0, 0), none, some (.bipush 8, 0, 0, 0), none, some (.if_icmp .ge 34, 45, 0, 0), none, none, some (.iload_n 3, 0, 0, 0), some (.iload_n 1, 0, 0, 0), some (.if_icmp .ge 23, 39, 0, 0), none, none, some (.iload_n 0, 0, 0, 0), some (.iload 4, 0, 0, 0), none, some (.iushr, 0, 0, 0), some (.iconst 1, 0, 0, 0), some (.iand, 0, 0, 0), some (.iconst 1, 0, 0, 0), some (.if_icmp .ne 13, 39, 0, 0), none, none, some (.iload_n 2, 0, 0, 0), some (.iconst 1, 0, 0, 0), some (.iload 4, 0, 0, 0), none, some (.ishl, 0, 0, 0), some (.ior, 0, 0, 0), some (.istore_n 2, 0, 0, 0), some (.iinc 3 1, 0, 0, 0), none, none, some (.iinc 4 1, 0, 0, 0), none, none, some (.goto (-35), 7, 0, 0), none, none, some (.iload_n 2, 0, 0, 0), some (.ireturn, 0, 0, 0)]
/-- LeavingVote.by(II)I -/
def sm_c77 : List (Option sm_I) := [some (.iload_n 1, 0, 0, 0), some (.invokestatic 127, 62, 1, 450), none, none, some (.ifCond .eq 11, 15, 0, 0), none, none, some (.aload_n 0, 0, 0, 0), some (.iload_n 2, 0, 0, 0), some (.invokevirtual 98, 55, 2, 420), none, none, some (.ifCond .ne 5, 17, 0, 0), none, none, some (.iconst (-1), 0, 0, 0), some (.ireturn, 0, 0, 0), some (.aload_n 0, 0, 0, 0), some (.aload_n 0, 0, 0, 0), some (.getfield 89, 0, 8, 356), none, none, some (.iload_n 1, 0, 0, 0), some (.invokevirtual 141, 73, 3, 492), none, none, some (.istore_n 3, 0, 0, 0), some (.iload_n 3, 0, 0, 0), some (.iload_n 2, 0, 0, 0), some (.iushr, 0, 0, 0), some (.iconst 1, 0, 0, 0), some (.iand, 0, 0, 0), some (.ifCond .eq 13, 45, 0, 0), none, none, some (.aload_n 0, 0, 0, 0), some (.getfield 89, 0, 8, 356), none, none, some (.invokestatic 144, 64, 1, 515), none, none, some (.ifCond .eq 6, 48, 0, 0), none, none, some (.bipush (-4), 0, 0, 0), none, some (.ireturn, 0, 0, 0), some (.iload_n 3, 0, 0, 0), some (.iconst 1, 0, 0, 0), some (.iload_n 2, 0, 0, 0), some (.ishl, 0, 0, 0), some (.iconst 1, 0, 0, 0), some (.isub, 0, 0, 0), some (.iand, 0, 0, 0), some (.invokestatic 148, 78, 1, 516), none, none, some (.istore 4, 0, 0, 0), none, some (.aload_n 0, 0, 0, 0), some (.getfield 30, 0, 3, 351), none, none, some (.iload 4, 0, 0, 0), none, some (.aload_n 0, 0, 0, 0), some (.getfield 89, 0, 8, 356), none, none, some (.invokestatic 123, 60, 1, 443), none, none, some (.invokevirtual 153, 79, 3, 522), none, none, some (.ireturn, 0, 0, 0)]
/-- java/lang/Integer.bitCount(I)I -/
def sm_c78 : List (Option sm_I) := [some (.iload_n 0, 0, 0, 0), some (.iload_n 0, 0, 0, 0), some (.iconst 1, 0, 0, 0), some (.iushr, 0, 0, 0), some (.ldc_w 265, 1431655765, 0, 519), none, none, some (.iand, 0, 0, 0), some (.isub, 0, 0, 0), some (.istore_n 0, 0, 0, 0), some (.iload_n 0, 0, 0, 0), some (.ldc_w 266, 858993459, 0, 520), none, none, some (.iand, 0, 0, 0), some (.iload_n 0, 0, 0, 0), some (.iconst 2, 0, 0, 0), some (.iushr, 0, 0, 0), some (.ldc_w 266, 858993459, 0, 520), none, none, some (.iand, 0, 0, 0), some (.iadd, 0, 0, 0), some (.istore_n 0, 0, 0, 0), some (.iload_n 0, 0, 0, 0), some (.iload_n 0, 0, 0, 0), some (.iconst 4, 0, 0, 0), some (.iushr, 0, 0, 0), some (.iadd, 0, 0, 0), some (.ldc_w 267, 252645135, 0, 521), none, none, some (.iand, 0, 0, 0), some (.istore_n 0, 0, 0, 0), some (.iload_n 0, 0, 0, 0), some (.iload_n 0, 0, 0, 0), some (.bipush 8, 0, 0, 0), none, some (.iushr, 0, 0, 0), some (.iadd, 0, 0, 0), some (.istore_n 0, 0, 0, 0), some (.iload_n 0, 0, 0, 0), some (.iload_n 0, 0, 0, 0), some (.bipush 16, 0, 0, 0), none, some (.iushr, 0, 0, 0), some (.iadd, 0, 0, 0), some (.istore_n 0, 0, 0, 0), some (.iload_n 0, 0, 0, 0), some (.bipush 63, 0, 0, 0), none, some (.iand, 0, 0, 0), some (.ireturn, 0, 0, 0)]
/-- LeavingVote$Island.boatOfSeat(II)I -/
def sm_c79 : List (Option sm_I) := [some (.iload_n 1, 0, 0, 0), some (.istore_n 3, 0, 0, 0), some (.iconst 0, 0, 0, 0), some (.istore 4, 0, 0, 0), none, some (.iload 4, 0, 0, 0), none, some (.aload_n 0, 0, 0, 0), some (.getfield 75, 1, 4, 102), none, none, some (.if_icmp .ge 37, 48, 0, 0), none, none, some (.aload_n 0, 0, 0, 0), some (.iconst 1, 0, 0, 0), some (.iload 4, 0, 0, 0), none, some (.ishl, 0, 0, 0), some (.iload_n 2, 0, 0, 0), some (.iconst (-1), 0, 0, 0), some (.ixor, 0, 0, 0), some (.iand, 0, 0, 0), some (.invokevirtual 68, 41, 2, 336), none, none, some (.istore 5, 0, 0, 0), none, some (.iload_n 3, 0, 0, 0), some (.iload 5, 0, 0, 0), none, some (.if_icmp .ge 6, 37, 0, 0), none, none, some (.iload 4, 0, 0, 0), none, some (.ireturn, 0, 0, 0), some (.iload_n 3, 0, 0, 0), some (.iload 5, 0, 0, 0), none, some (.isub, 0, 0, 0), some (.istore_n 3, 0, 0, 0), some (.iinc 4 1, 0, 0, 0), none, none, some (.goto (-40), 5, 0, 0), none, none, some (.bipush (-4), 0, 0, 0), none, some (.ireturn, 0, 0, 0)]
/-- LeavingVote.falls(I)I -/
def sm_c80 : List (Option sm_I) := [some (.iload_n 1, 0, 0, 0), some (.invokestatic 127, 62, 1, 450), none, none, some (.ifCond .eq 25, 29, 0, 0), none, none, some (.aload_n 0, 0, 0, 0), some (.getfield 30, 0, 3, 351), none, none, some (.aload_n 0, 0, 0, 0), some (.aload_n 0, 0, 0, 0), some (.getfield 89, 0, 8, 356), none, none, some (.iload_n 1, 0, 0, 0), some (.invokevirtual 141, 73, 3, 492), none, none, some (.invokevirtual 156, 81, 2, 530), none, none, some (.invokestatic 159, 82, 1, 535), none, none, some (.goto 4, 30, 0, 0), none, none, some (.iconst (-1), 0, 0, 0), some (.ireturn, 0, 0, 0)]
/-- LeavingVote$Island.lawFalls(I)Z -/
def sm_c81 : List (Option sm_I) := [some (.bipush 10, 0, 0, 0), none, some (.iload_n 1, 0, 0, 0), some (.invokestatic 96, 78, 1, 534), none, none, some (.imul, 0, 0, 0), some (.aload_n 0, 0, 0, 0), some (.getfield 84, 1, 7, 105), none, none, some (.aload_n 0, 0, 0, 0), some (.getfield 43, 1, 3, 101), none, none, some (.imul, 0, 0, 0), some (.if_icmp .lt 7, 23, 0, 0), none, none, some (.iconst 1, 0, 0, 0), some (.goto 4, 24, 0, 0), none, none, some (.iconst 0, 0, 0, 0), some (.ireturn, 0, 0, 0)]
/-- LeavingVote.oneIf(Z)I -/
def sm_c82 : List (Option sm_I) := [some (.iload_n 0, 0, 0, 0), some (.ifCond .eq 7, 8, 0, 0), none, none, some (.iconst 1, 0, 0, 0), some (.goto 4, 9, 0, 0), none, none, some (.iconst 0, 0, 0, 0), some (.ireturn, 0, 0, 0)]
/-- LeavingVote.milked(II)I -/
def sm_c83 : List (Option sm_I) := [some (.iload_n 1, 0, 0, 0), some (.invokestatic 127, 62, 1, 450), none, none, some (.ifCond .eq 10, 14, 0, 0), none, none, some (.iload_n 2, 0, 0, 0), some (.invokestatic 163, 84, 1, 542), none, none, some (.ifCond .ne 5, 16, 0, 0), none, none, some (.iconst (-1), 0, 0, 0), some (.ireturn, 0, 0, 0), some (.aload_n 0, 0, 0, 0), some (.aload_n 0, 0, 0, 0), some (.getfield 89, 0, 8, 356), none, none, some (.iload_n 1, 0, 0, 0), some (.invokevirtual 141, 73, 3, 492), none, none, some (.istore_n 3, 0, 0, 0), some (.iload_n 2, 0, 0, 0), some (.ifCond .ne 14, 41, 0, 0), none, none, some (.aload_n 0, 0, 0, 0), some (.getfield 30, 0, 3, 351), none, none, some (.iload_n 3, 0, 0, 0), some (.invokevirtual 166, 85, 2, 545), none, none, some (.goto 14, 52, 0, 0), none, none, some (.aload_n 0, 0, 0, 0), some (.getfield 30, 0, 3, 351), none, none, some (.iload_n 3, 0, 0, 0), some (.invokevirtual 169, 87, 2, 553), none, none, some (.invokestatic 159, 82, 1, 535), none, none, some (.ireturn, 0, 0, 0)]
/-- LeavingVote.isEither(I)Z -/
def sm_c84 : List (Option sm_I) := [some (.iload_n 0, 0, 0, 0), some (.ifCond .eq 8, 9, 0, 0), none, none, some (.iload_n 0, 0, 0, 0), some (.iconst 1, 0, 0, 0), some (.if_icmp .ne 7, 13, 0, 0), none, none, some (.iconst 1, 0, 0, 0), some (.goto 4, 14, 0, 0), none, none, some (.iconst 0, 0, 0, 0), some (.ireturn, 0, 0, 0)]
/-- LeavingVote$Island.cowsWithout(I)I -/
def sm_c85 : List (Option sm_I) := [some (.aload_n 0, 0, 0, 0), some (.aload_n 0, 0, 0, 0), some (.invokevirtual 90, 86, 1, 549), none, none, some (.iload_n 1, 0, 0, 0), some (.iconst (-1), 0, 0, 0), some (.ixor, 0, 0, 0), some (.iand, 0, 0, 0), some (.invokevirtual 61, 40, 2, 332), none, none, some (.ireturn, 0, 0, 0)]
/-- LeavingVote$Island.everybody()I -/
def sm_c86 : List (Option sm_I) := [some (.iconst 1, 0, 0, 0), some (.aload_n 0, 0, 0, 0), some (.getfield 43, 1, 3, 101), none, none, some (.ishl, 0, 0, 0), some (.iconst 1, 0, 0, 0), some (.isub, 0, 0, 0), some (.ireturn, 0, 0, 0)]
/-- LeavingVote$Island.cowsMilked(I)Z -/
def sm_c87 : List (Option sm_I) := [some (.aload_n 0, 0, 0, 0), some (.iload_n 1, 0, 0, 0), some (.invokevirtual 93, 85, 2, 557), none, none, some (.aload_n 0, 0, 0, 0), some (.getfield 81, 1, 6, 104), none, none, some (.if_icmp .lt 7, 16, 0, 0), none, none, some (.iconst 1, 0, 0, 0), some (.goto 4, 17, 0, 0), none, none, some (.iconst 0, 0, 0, 0), some (.ireturn, 0, 0, 0)]
/-- LeavingVote.lean(II)I -/
def sm_c88 : List (Option sm_I) := [some (.aload_n 0, 0, 0, 0), some (.iload_n 1, 0, 0, 0), some (.invokevirtual 98, 55, 2, 420), none, none, some (.ifCond .eq 12, 17, 0, 0), none, none, some (.iload_n 2, 0, 0, 0), some (.ifCond .lt 8, 17, 0, 0), none, none, some (.iload_n 2, 0, 0, 0), some (.iconst 3, 0, 0, 0), some (.if_icmp .le 5, 19, 0, 0), none, none, some (.iconst (-1), 0, 0, 0), some (.ireturn, 0, 0, 0), some (.aload_n 0, 0, 0, 0), some (.getfield 89, 0, 8, 356), none, none, some (.iload_n 1, 0, 0, 0), some (.invokestatic 105, 56, 2, 425), none, none, some (.istore_n 3, 0, 0, 0), some (.aload_n 0, 0, 0, 0), some (.aload_n 0, 0, 0, 0), some (.getfield 89, 0, 8, 356), none, none, some (.iload_n 1, 0, 0, 0), some (.iload_n 2, 0, 0, 0), some (.invokestatic 172, 33, 3, 562), none, none, some (.invokevirtual 176, 89, 2, 563), none, none, some (.iload_n 3, 0, 0, 0), some (.ireturn, 0, 0, 0)]
/-- LeavingVote.change(J)V -/
def sm_c89 : List (Option sm_I) := [some (.aload_n 0, 0, 0, 0), some (.getfield 45, 0, 5, 353), none, none, some (.aload_n 0, 0, 0, 0), some (.getfield 89, 0, 8, 356), none, none, some (.invokevirtual 249, 90, 2, 567), none, none, some (.aload_n 0, 0, 0, 0), some (.lload_n 1, 0, 0, 0), some (.putfield 89, 0, 8, 356), none, none, some (.return_, 0, 0, 0)]
/-- LeavingVote$Pile.put(J)V -/
def sm_c90 : List (Option sm_I) := [some (.aload_n 0, 0, 0, 0), some (.getfield 19, 4, 1, 161), none, none, some (.aload_n 0, 0, 0, 0), some (.getfield 13, 4, 0, 160), none, none, some (.arraylength, 0, 0, 0), some (.if_icmp .lt 7, 16, 0, 0), none, none, some (.aload_n 0, 0, 0, 0), some (.invokevirtual 23, 91, 1, 571), none, none, some (.aload_n 0, 0, 0, 0), some (.getfield 19, 4, 1, 161), none, none, some (.ifCond .lt 35, 55, 0, 0), none, none, some (.aload_n 0, 0, 0, 0), some (.getfield 19, 4, 1, 161), none, none, some (.aload_n 0, 0, 0, 0), some (.getfield 13, 4, 0, 160), none, none, some (.arraylength, 0, 0, 0), some (.if_icmp .ge 23, 55, 0, 0), none, none, some (.aload_n 0, 0, 0, 0), some (.getfield 13, 4, 0, 160), none, none, some (.aload_n 0, 0, 0, 0), some (.getfield 19, 4, 1, 161), none, none, some (.lload_n 1, 0, 0, 0), some (.lastore, 0, 0, 0), some (.aload_n 0, 0, 0, 0), some (.dup, 0, 0, 0), some (.getfield 19, 4, 1, 161), none, none, some (.iconst 1, 0, 0, 0), some (.iadd, 0, 0, 0), some (.putfield 19, 4, 1, 161), none, none, some (.return_, 0, 0, 0)]
/-- LeavingVote$Pile.dropOldest()V -/
def sm_c91 : List (Option sm_I) := [some (.iconst 1, 0, 0, 0), some (.istore_n 1, 0, 0, 0), some (.iload_n 1, 0, 0, 0), some (.aload_n 0, 0, 0, 0), some (.getfield 13, 4, 0, 160), none, none, some (.arraylength, 0, 0, 0), some (.if_icmp .ge 23, 31, 0, 0), none, none, some (.aload_n 0, 0, 0, 0), some (.getfield 13, 4, 0, 160), none, none, some (.iload_n 1, 0, 0, 0), some (.iconst 1, 0, 0, 0), some (.isub, 0, 0, 0), some (.aload_n 0, 0, 0, 0), some (.getfield 13, 4, 0, 160), none, none, some (.iload_n 1, 0, 0, 0), some (.laload, 0, 0, 0), some (.lastore, 0, 0, 0), some (.iinc 1 1, 0, 0, 0), none, none, some (.goto (-26), 2, 0, 0), none, none, some (.aload_n 0, 0, 0, 0), some (.aload_n 0, 0, 0, 0), some (.getfield 13, 4, 0, 160), none, none, some (.arraylength, 0, 0, 0), some (.iconst 1, 0, 0, 0), some (.isub, 0, 0, 0), some (.iconst 0, 0, 0, 0), some (.invokestatic 7, 9997, 0, 157), none, none, some (.putfield 19, 4, 1, 161), none, none, some (.return_, 0, 0, 0)]
/-- LeavingVote.mind(II)I -/
def sm_c92 : List (Option sm_I) := [some (.aload_n 0, 0, 0, 0), some (.iload_n 1, 0, 0, 0), some (.invokevirtual 98, 55, 2, 420), none, none, some (.ifCond .eq 11, 16, 0, 0), none, none, some (.aload_n 0, 0, 0, 0), some (.iload_n 2, 0, 0, 0), some (.invokevirtual 98, 55, 2, 420), none, none, some (.ifCond .ne 5, 18, 0, 0), none, none, some (.iconst (-1), 0, 0, 0), some (.ireturn, 0, 0, 0), some (.aload_n 0, 0, 0, 0), some (.getfield 89, 0, 8, 356), none, none, some (.iload_n 1, 0, 0, 0), some (.invokestatic 111, 49, 2, 428), none, none, some (.istore_n 3, 0, 0, 0), some (.aload_n 0, 0, 0, 0), some (.aload_n 0, 0, 0, 0), some (.getfield 89, 0, 8, 356), none, none, some (.iload_n 1, 0, 0, 0), some (.iload_n 2, 0, 0, 0), some (.invokestatic 180, 35, 3, 579), none, none, some (.invokevirtual 176, 89, 2, 563), none, none, some (.iload_n 3, 0, 0, 0), some (.ireturn, 0, 0, 0)]
/-- LeavingVote.hold(I)I -/
def sm_c93 : List (Option sm_I) := [some (.aload_n 0, 0, 0, 0), some (.iload_n 1, 0, 0, 0), some (.invokevirtual 117, 58, 2, 434), none, none, some (.ifCond .ne 5, 10, 0, 0), none, none, some (.iconst (-1), 0, 0, 0), some (.ireturn, 0, 0, 0), some (.aload_n 0, 0, 0, 0), some (.getfield 89, 0, 8, 356), none, none, some (.invokestatic 123, 60, 1, 443), none, none, some (.iconst 1, 0, 0, 0), some (.iload_n 1, 0, 0, 0), some (.ishl, 0, 0, 0), some (.ixor, 0, 0, 0), some (.istore_n 2, 0, 0, 0), some (.aload_n 0, 0, 0, 0), some (.aload_n 0, 0, 0, 0), some (.getfield 89, 0, 8, 356), none, none, some (.iload_n 2, 0, 0, 0), some (.invokestatic 183, 94, 2, 584), none, none, some (.invokevirtual 176, 89, 2, 563), none, none, some (.iload_n 2, 0, 0, 0), some (.iload_n 1, 0, 0, 0), some (.iushr, 0, 0, 0), some (.iconst 1, 0, 0, 0), some (.iand, 0, 0, 0), some (.ireturn, 0, 0, 0)]
/-- LeavingVote$Standing.withHeld(JI)J -/
def sm_c94 : List (Option sm_I) := [some (.lload_n 0, 0, 0, 0), some (.bipush 40, 0, 0, 0), none, some (.iconst 5, 0, 0, 0), some (.iload_n 2, 0, 0, 0), some (.invokestatic 15, 34, 4, 309), none, none, some (.lreturn, 0, 0, 0)]
/-- LeavingVote.weather(I)I -/
def sm_c95 : List (Option sm_I) := [some (.iload_n 1, 0, 0, 0), some (.invokestatic 163, 84, 1, 542), none, none, some (.ifCond .ne 5, 9, 0, 0), none, none, some (.iconst (-1), 0, 0, 0), some (.ireturn, 0, 0, 0), some (.aload_n 0, 0, 0, 0), some (.getfield 89, 0, 8, 356), none, none, some (.invokestatic 187, 69, 1, 591), none, none, some (.iload_n 1, 0, 0, 0), some (.ifCond .ne 7, 24, 0, 0), none, none, some (.iconst 1, 0, 0, 0), some (.goto 4, 25, 0, 0), none, none, some (.iconst 0, 0, 0, 0), some (.if_icmp .eq 7, 32, 0, 0), none, none, some (.iconst 1, 0, 0, 0), some (.goto 4, 33, 0, 0), none, none, some (.iconst 0, 0, 0, 0), some (.istore_n 2, 0, 0, 0), some (.aload_n 0, 0, 0, 0), some (.getfield 89, 0, 8, 356), none, none, some (.invokestatic 144, 64, 1, 515), none, none, some (.iload_n 1, 0, 0, 0), some (.iconst 1, 0, 0, 0), some (.if_icmp .ne 7, 50, 0, 0), none, none, some (.iconst 1, 0, 0, 0), some (.goto 4, 51, 0, 0), none, none, some (.iconst 0, 0, 0, 0), some (.if_icmp .eq 7, 58, 0, 0), none, none, some (.iconst 1, 0, 0, 0), some (.goto 4, 59, 0, 0), none, none, some (.iconst 0, 0, 0, 0), some (.istore_n 3, 0, 0, 0), some (.aload_n 0, 0, 0, 0), some (.aload_n 0, 0, 0, 0), some (.getfield 89, 0, 8, 356), none, none, some (.iload_n 2, 0, 0, 0), some (.iload_n 3, 0, 0, 0), some (.invokestatic 190, 96, 3, 592), none, none, some (.invokevirtual 176, 89, 2, 563), none, none, some (.iload_n 1, 0, 0, 0), some (.ifCond .ne 7, 81, 0, 0), none, none, some (.iload_n 2, 0, 0, 0), some (.goto 4, 82, 0, 0), none, none, some (.iload_n 3, 0, 0, 0), some (.invokestatic 159, 82, 1, 535), none, none, some (.ireturn, 0, 0, 0)]
/-- LeavingVote$Standing.withWeather(JZZ)J -/
def sm_c96 : List (Option sm_I) := [some (.lload_n 0, 0, 0, 0), some (.bipush 45, 0, 0, 0), none, some (.iconst 1, 0, 0, 0), some (.iload_n 2, 0, 0, 0), some (.invokestatic 19, 82, 1, 5001), none, none, some (.invokestatic 15, 34, 4, 309), none, none, some (.bipush 46, 0, 0, 0), none, some (.iconst 1, 0, 0, 0), some (.iload_n 3, 0, 0, 0), some (.invokestatic 19, 82, 1, 5001), none, none, some (.invokestatic 15, 34, 4, 309), none, none, some (.lreturn, 0, 0, 0)]
/-- LeavingVote.undo()I -/
def sm_c97 : List (Option sm_I) := [some (.aload_n 0, 0, 0, 0), some (.getfield 45, 0, 5, 353), none, none, some (.invokevirtual 194, 98, 1, 600), none, none, some (.ifCond .ne 6, 13, 0, 0), none, none, some (.bipush (-2), 0, 0, 0), none, some (.ireturn, 0, 0, 0), some (.aload_n 0, 0, 0, 0), some (.aload_n 0, 0, 0, 0), some (.getfield 45, 0, 5, 353), none, none, some (.aload_n 0, 0, 0, 0), some (.getfield 89, 0, 8, 356), none, none, some (.invokevirtual 197, 99, 2, 604), none, none, some (.putfield 89, 0, 8, 356), none, none, some (.aload_n 0, 0, 0, 0), some (.getfield 45, 0, 5, 353), none, none, some (.invokevirtual 194, 98, 1, 600), none, none, some (.ireturn, 0, 0, 0)]
/-- LeavingVote$Pile.height()I -/
def sm_c98 : List (Option sm_I) := [some (.aload_n 0, 0, 0, 0), some (.getfield 19, 4, 1, 161), none, none, some (.ireturn, 0, 0, 0)]
/-- LeavingVote$Pile.take(J)J -/
def sm_c99 : List (Option sm_I) := [some (.aload_n 0, 0, 0, 0), some (.getfield 19, 4, 1, 161), none, none, some (.iconst 1, 0, 0, 0), some (.isub, 0, 0, 0), some (.istore_n 3, 0, 0, 0), some (.iload_n 3, 0, 0, 0), some (.ifCond .lt 12, 20, 0, 0), none, none, some (.iload_n 3, 0, 0, 0), some (.aload_n 0, 0, 0, 0), some (.getfield 13, 4, 0, 160), none, none, some (.arraylength, 0, 0, 0), some (.if_icmp .lt 5, 22, 0, 0), none, none, some (.lload_n 1, 0, 0, 0), some (.lreturn, 0, 0, 0), some (.aload_n 0, 0, 0, 0), some (.iload_n 3, 0, 0, 0), some (.putfield 19, 4, 1, 161), none, none, some (.aload_n 0, 0, 0, 0), some (.getfield 13, 4, 0, 160), none, none, some (.iload_n 3, 0, 0, 0), some (.laload, 0, 0, 0), some (.lreturn, 0, 0, 0)]
/-- LeavingVote.decides(I)I -/
def sm_c100 : List (Option sm_I) := [some (.iload_n 1, 0, 0, 0), some (.invokestatic 127, 62, 1, 450), none, none, some (.ifCond .ne 5, 9, 0, 0), none, none, some (.iconst (-1), 0, 0, 0), some (.ireturn, 0, 0, 0), some (.aload_n 0, 0, 0, 0), some (.getfield 30, 0, 3, 351), none, none, some (.aload_n 0, 0, 0, 0), some (.aload_n 0, 0, 0, 0), some (.getfield 89, 0, 8, 356), none, none, some (.iload_n 1, 0, 0, 0), some (.invokevirtual 141, 73, 3, 492), none, none, some (.invokevirtual 156, 81, 2, 530), none, none, some (.istore_n 2, 0, 0, 0), some (.aload_n 0, 0, 0, 0), some (.getfield 89, 0, 8, 356), none, none, some (.iload_n 1, 0, 0, 0), some (.invokestatic 134, 70, 2, 481), none, none, some (.istore_n 3, 0, 0, 0), some (.iconst 0, 0, 0, 0), some (.istore 4, 0, 0, 0), none, some (.iconst 0, 0, 0, 0), some (.istore 5, 0, 0, 0), none, some (.iload 5, 0, 0, 0), none, some (.aload_n 0, 0, 0, 0), some (.getfield 30, 0, 3, 351), none, none, some (.invokevirtual 95, 53, 1, 412), none, none, some (.if_icmp .ge 43, 93, 0, 0), none, none, some (.aload_n 0, 0, 0, 0), some (.getfield 30, 0, 3, 351), none, none, some (.aload_n 0, 0, 0, 0), some (.getfield 36, 0, 4, 352), none, none, some (.iload_n 3, 0, 0, 0), some (.iconst 1, 0, 0, 0), some (.iload 5, 0, 0, 0), none, some (.ishl, 0, 0, 0), some (.ixor, 0, 0, 0), some (.iconst 0, 0, 0, 0), some (.invokevirtual 201, 74, 3, 496), none, none, some (.invokevirtual 156, 81, 2, 530), none, none, some (.iload_n 2, 0, 0, 0), some (.if_icmp .eq 12, 87, 0, 0), none, none, some (.iload 4, 0, 0, 0), none, some (.iconst 1, 0, 0, 0), some (.iload 5, 0, 0, 0), none, some (.ishl, 0, 0, 0), some (.ior, 0, 0, 0), some (.istore 4, 0, 0, 0), none, some (.iinc 5 1, 0, 0, 0), none, none, some (.goto (-49), 41, 0, 0), none, none, some (.iload 4, 0, 0, 0), none, some (.ireturn, 0, 0, 0)]
/-- LeavingVote.win(I)I -/
def sm_c101 : List (Option sm_I) := [some (.iload_n 1, 0, 0, 0), some (.invokestatic 127, 62, 1, 450), none, none, some (.ifCond .ne 5, 9, 0, 0), none, none, some (.iconst (-1), 0, 0, 0), some (.ireturn, 0, 0, 0), some (.aload_n 0, 0, 0, 0), some (.getfield 30, 0, 3, 351), none, none, some (.aload_n 0, 0, 0, 0), some (.aload_n 0, 0, 0, 0), some (.getfield 89, 0, 8, 356), none, none, some (.iload_n 1, 0, 0, 0), some (.invokevirtual 141, 73, 3, 492), none, none, some (.invokevirtual 156, 81, 2, 530), none, none, some (.istore_n 2, 0, 0, 0), some (.aload_n 0, 0, 0, 0), some (.getfield 89, 0, 8, 356), none, none, some (.iload_n 1, 0, 0, 0), some (.invokestatic 134, 70, 2, 481), none, none, some (.istore_n 3, 0, 0, 0), some (.bipush (-4), 0, 0, 0), none, some (.istore 4, 0, 0, 0), none, some (.bipush 9, 0, 0, 0), none, some (.istore 5, 0, 0, 0), none, some (.iconst 1, 0, 0, 0), some (.istore 6, 0, 0, 0), none, some (.iload 6, 0, 0, 0), none, some (.aload_n 0, 0, 0, 0), some (.getfield 30, 0, 3, 351), none, none, some (.invokevirtual 204, 86, 1, 616), none, none, some (.if_icmp .gt 65, 120, 0, 0), none, none, some (.iload 6, 0, 0, 0), none, some (.invokestatic 148, 78, 1, 516), none, none, some (.iload 5, 0, 0, 0), none, some (.if_icmp .ge 7, 72, 0, 0), none, none, some (.iconst 1, 0, 0, 0), some (.goto 4, 73, 0, 0), none, none, some (.iconst 0, 0, 0, 0), some (.istore 7, 0, 0, 0), none, some (.iload 7, 0, 0, 0), none, some (.ifCond .eq 37, 114, 0, 0), none, none, some (.aload_n 0, 0, 0, 0), some (.getfield 30, 0, 3, 351), none, none, some (.aload_n 0, 0, 0, 0), some (.getfield 36, 0, 4, 352), none, none, some (.iload_n 3, 0, 0, 0), some (.iload 6, 0, 0, 0), none, some (.ixor, 0, 0, 0), some (.iconst 0, 0, 0, 0), some (.invokevirtual 201, 74, 3, 496), none, none, some (.invokevirtual 156, 81, 2, 530), none, none, some (.iload_n 2, 0, 0, 0), some (.if_icmp .eq 14, 114, 0, 0), none, none, some (.iload 6, 0, 0, 0), none, some (.istore 4, 0, 0, 0), none, some (.iload 6, 0, 0, 0), none, some (.invokestatic 148, 78, 1, 516), none, none, some (.istore 5, 0, 0, 0), none, some (.iinc 6 1, 0, 0, 0), none, none, some (.goto (-71), 46, 0, 0), none, none, some (.iload 4, 0, 0, 0), none, some (.ireturn, 0, 0, 0)]
/-- LeavingVote.fill()I -/
def sm_c102 : List (Option sm_I) := [some (.aload_n 0, 0, 0, 0), some (.bipush 31, 0, 0, 0), none, some (.invokevirtual 207, 103, 2, 621), none, none, some (.aload_n 0, 0, 0, 0), some (.getfield 30, 0, 3, 351), none, none, some (.invokevirtual 210, 68, 1, 625), none, none, some (.invokestatic 213, 9996, 0, 626), none, none, some (.istore_n 1, 0, 0, 0), some (.aload_n 0, 0, 0, 0), some (.getfield 89, 0, 8, 356), none, none, some (.invokestatic 144, 64, 1, 515), none, none, some (.ifCond .eq 7, 31, 0, 0), none, none, some (.iconst 0, 0, 0, 0), some (.goto 11, 39, 0, 0), none, none, some (.aload_n 0, 0, 0, 0), some (.getfield 30, 0, 3, 351), none, none, some (.iconst 3, 0, 0, 0), some (.invokevirtual 218, 67, 2, 627), none, none, some (.istore_n 2, 0, 0, 0), some (.bipush (-4), 0, 0, 0), none, some (.istore_n 3, 0, 0, 0), some (.iload_n 1, 0, 0, 0), some (.iconst 1, 0, 0, 0), some (.iadd, 0, 0, 0), some (.istore 4, 0, 0, 0), none, some (.iconst 0, 0, 0, 0), some (.istore 5, 0, 0, 0), none, some (.iload 5, 0, 0, 0), none, some (.aload_n 0, 0, 0, 0), some (.getfield 30, 0, 3, 351), none, none, some (.invokevirtual 204, 86, 1, 616), none, none, some (.if_icmp .gt 72, 132, 0, 0), none, none, some (.iload 5, 0, 0, 0), none, some (.invokestatic 148, 78, 1, 516), none, none, some (.iload 4, 0, 0, 0), none, some (.if_icmp .ge 7, 77, 0, 0), none, none, some (.iconst 1, 0, 0, 0), some (.goto 4, 78, 0, 0), none, none, some (.iconst 0, 0, 0, 0), some (.istore 6, 0, 0, 0), none, some (.iload 6, 0, 0, 0), none, some (.ifCond .eq 44, 126, 0, 0), none, none, some (.iload 5, 0, 0, 0), none, some (.iload_n 2, 0, 0, 0), some (.iand, 0, 0, 0), some (.ifCond .ne 37, 126, 0, 0), none, none, some (.aload_n 0, 0, 0, 0), some (.getfield 30, 0, 3, 351), none, none, some (.iload 5, 0, 0, 0), none, some (.invokevirtual 156, 81, 2, 530), none, none, some (.ifCond .eq 25, 126, 0, 0), none, none, some (.aload_n 0, 0, 0, 0), some (.getfield 30, 0, 3, 351), none, none, some (.iload 5, 0, 0, 0), none, some (.invokevirtual 169, 87, 2, 553), none, none, some (.ifCond .eq 13, 126, 0, 0), none, none, some (.iload 5, 0, 0, 0), none, some (.istore_n 3, 0, 0, 0), some (.iload 5, 0, 0, 0), none, some (.invokestatic 148, 78, 1, 516), none, none, some (.istore 4, 0, 0, 0), none, some (.iinc 5 1, 0, 0, 0), none, none, some (.goto (-78), 51, 0, 0), none, none, some (.iload_n 3, 0, 0, 0), some (.ireturn, 0, 0, 0)]
/-- LeavingVote.seatsIn(I)I -/
def sm_c103 : List (Option sm_I) := [some (.aload_n 0, 0, 0, 0), some (.getfield 89, 0, 8, 356), none, none, some (.invokestatic 144, 64, 1, 515), none, none, some (.ifCond .eq 8, 15, 0, 0), none, none, some (.bipush 8, 0, 0, 0), none, some (.goto 21, 33, 0, 0), none, none, some (.aload_n 0, 0, 0, 0), some (.getfield 30, 0, 3, 351), none, none, some (.iload_n 1, 0, 0, 0), some (.aload_n 0, 0, 0, 0), some (.getfield 89, 0, 8, 356), none, none, some (.invokestatic 123, 60, 1, 443), none, none, some (.iconst (-1), 0, 0, 0), some (.ixor, 0, 0, 0), some (.iand, 0, 0, 0), some (.invokevirtual 120, 41, 2, 442), none, none, some (.ireturn, 0, 0, 0)]
/-- LeavingVote.beds(I)I -/
def sm_c104 : List (Option sm_I) := [some (.iload_n 1, 0, 0, 0), some (.invokestatic 127, 62, 1, 450), none, none, some (.ifCond .ne 5, 9, 0, 0), none, none, some (.iconst (-1), 0, 0, 0), some (.ireturn, 0, 0, 0), some (.aload_n 0, 0, 0, 0), some (.getfield 36, 0, 4, 352), none, none, some (.aload_n 0, 0, 0, 0), some (.getfield 30, 0, 3, 351), none, none, some (.aload_n 0, 0, 0, 0), some (.getfield 89, 0, 8, 356), none, none, some (.invokevirtual 130, 63, 3, 453), none, none, some (.aload_n 0, 0, 0, 0), some (.getfield 36, 0, 4, 352), none, none, some (.aload_n 0, 0, 0, 0), some (.getfield 89, 0, 8, 356), none, none, some (.iload_n 1, 0, 0, 0), some (.invokestatic 134, 70, 2, 481), none, none, some (.iconst 0, 0, 0, 0), some (.invokevirtual 137, 71, 3, 484), none, none, some (.istore_n 2, 0, 0, 0), some (.iconst 0, 0, 0, 0), some (.istore_n 3, 0, 0, 0), some (.iload_n 3, 0, 0, 0), some (.bipush 9, 0, 0, 0), none, some (.if_icmp .gt 30, 76, 0, 0), none, none, some (.aload_n 0, 0, 0, 0), some (.getfield 30, 0, 3, 351), none, none, some (.aload_n 0, 0, 0, 0), some (.getfield 36, 0, 4, 352), none, none, some (.iload_n 2, 0, 0, 0), some (.iload_n 3, 0, 0, 0), some (.invokevirtual 221, 75, 3, 632), none, none, some (.invokevirtual 156, 81, 2, 530), none, none, some (.ifCond .eq 5, 70, 0, 0), none, none, some (.iload_n 3, 0, 0, 0), some (.ireturn, 0, 0, 0), some (.iinc 3 1, 0, 0, 0), none, none, some (.goto (-30), 43, 0, 0), none, none, some (.bipush (-4), 0, 0, 0), none, some (.ireturn, 0, 0, 0)]
/-- LeavingVote.help(II)I -/
def sm_c105 : List (Option sm_I) := [some (.iload_n 1, 0, 0, 0), some (.invokestatic 127, 62, 1, 450), none, none, some (.ifCond .eq 10, 14, 0, 0), none, none, some (.iload_n 2, 0, 0, 0), some (.invokestatic 163, 84, 1, 542), none, none, some (.ifCond .ne 5, 16, 0, 0), none, none, some (.iconst (-1), 0, 0, 0), some (.ireturn, 0, 0, 0), some (.aload_n 0, 0, 0, 0), some (.getfield 89, 0, 8, 356), none, none, some (.invokestatic 123, 60, 1, 443), none, none, some (.istore_n 3, 0, 0, 0), some (.bipush (-4), 0, 0, 0), none, some (.istore 4, 0, 0, 0), none, some (.bipush (-4), 0, 0, 0), none, some (.istore 5, 0, 0, 0), none, some (.iconst 0, 0, 0, 0), some (.istore 6, 0, 0, 0), none, some (.iload 6, 0, 0, 0), none, some (.aload_n 0, 0, 0, 0), some (.getfield 30, 0, 3, 351), none, none, some (.invokevirtual 224, 59, 1, 438), none, none, some (.if_icmp .ge 59, 103, 0, 0), none, none, some (.iload_n 3, 0, 0, 0), some (.iload 6, 0, 0, 0), none, some (.iushr, 0, 0, 0), some (.iconst 1, 0, 0, 0), some (.iand, 0, 0, 0), some (.ifCond .ne 6, 59, 0, 0), none, none, some (.goto 41, 97, 0, 0), none, none, some (.aload_n 0, 0, 0, 0), some (.aload_n 0, 0, 0, 0), some (.getfield 89, 0, 8, 356), none, none, some (.iload_n 3, 0, 0, 0), some (.iconst 1, 0, 0, 0), some (.iload 6, 0, 0, 0), none, some (.ishl, 0, 0, 0), some (.ixor, 0, 0, 0), some (.invokestatic 183, 94, 2, 584), none, none, some (.iload_n 1, 0, 0, 0), some (.invokevirtual 141, 73, 3, 492), none, none, some (.invokestatic 148, 78, 1, 516), none, none, some (.istore 7, 0, 0, 0), none, some (.iload 7, 0, 0, 0), none, some (.iload 5, 0, 0, 0), none, some (.if_icmp .le 11, 97, 0, 0), none, none, some (.iload 6, 0, 0, 0), none, some (.istore 4, 0, 0, 0), none, some (.iload 7, 0, 0, 0), none, some (.istore 5, 0, 0, 0), none, some (.iinc 6 1, 0, 0, 0), none, none, some (.goto (-65), 35, 0, 0), none, none, some (.iload_n 2, 0, 0, 0), some (.ifCond .ne 8, 112, 0, 0), none, none, some (.iload 4, 0, 0, 0), none, some (.goto 5, 114, 0, 0), none, none, some (.iload 5, 0, 0, 0), none, some (.ireturn, 0, 0, 0)]
/-- LeavingVote.both(I)I -/
def sm_c106 : List (Option sm_I) := [some (.iload_n 1, 0, 0, 0), some (.invokestatic 127, 62, 1, 450), none, none, some (.ifCond .ne 5, 9, 0, 0), none, none, some (.iconst (-1), 0, 0, 0), some (.ireturn, 0, 0, 0), some (.aload_n 0, 0, 0, 0), some (.getfield 36, 0, 4, 352), none, none, some (.aload_n 0, 0, 0, 0), some (.getfield 30, 0, 3, 351), none, none, some (.aload_n 0, 0, 0, 0), some (.getfield 89, 0, 8, 356), none, none, some (.invokevirtual 130, 63, 3, 453), none, none, some (.aload_n 0, 0, 0, 0), some (.getfield 36, 0, 4, 352), none, none, some (.aload_n 0, 0, 0, 0), some (.getfield 89, 0, 8, 356), none, none, some (.iconst 0, 0, 0, 0), some (.invokestatic 134, 70, 2, 481), none, none, some (.iconst 0, 0, 0, 0), some (.invokevirtual 137, 71, 3, 484), none, none, some (.istore_n 2, 0, 0, 0), some (.aload_n 0, 0, 0, 0), some (.getfield 36, 0, 4, 352), none, none, some (.aload_n 0, 0, 0, 0), some (.getfield 89, 0, 8, 356), none, none, some (.iconst 1, 0, 0, 0), some (.invokestatic 134, 70, 2, 481), none, none, some (.iconst 0, 0, 0, 0), some (.invokevirtual 137, 71, 3, 484), none, none, some (.iload_n 2, 0, 0, 0), some (.iconst (-1), 0, 0, 0), some (.ixor, 0, 0, 0), some (.iand, 0, 0, 0), some (.istore_n 3, 0, 0, 0), some (.aload_n 0, 0, 0, 0), some (.getfield 30, 0, 3, 351), none, none, some (.invokevirtual 210, 68, 1, 625), none, none, some (.istore 4, 0, 0, 0), none, some (.iload_n 2, 0, 0, 0), some (.invokestatic 148, 78, 1, 516), none, none, some (.aload_n 0, 0, 0, 0), some (.bipush 21, 0, 0, 0), none, some (.invokevirtual 207, 103, 2, 621), none, none, some (.invokestatic 213, 9996, 0, 626), none, none, some (.iload 4, 0, 0, 0), none, some (.invokestatic 213, 9996, 0, 626), none, none, some (.istore 5, 0, 0, 0), none, some (.iload_n 1, 0, 0, 0), some (.ifCond .ne 6, 98, 0, 0), none, none, some (.iload 5, 0, 0, 0), none, some (.ireturn, 0, 0, 0), some (.iload_n 3, 0, 0, 0), some (.invokestatic 148, 78, 1, 516), none, none, some (.aload_n 0, 0, 0, 0), some (.bipush 10, 0, 0, 0), none, some (.invokevirtual 207, 103, 2, 621), none, none, some (.invokestatic 213, 9996, 0, 626), none, none, some (.iload 4, 0, 0, 0), none, some (.iload 5, 0, 0, 0), none, some (.isub, 0, 0, 0), some (.invokestatic 213, 9996, 0, 626), none, none, some (.ireturn, 0, 0, 0)]
/-- LeavingVote.seen(II)I -/
def sm_c107 : List (Option sm_I) := [some (.iload_n 1, 0, 0, 0), some (.invokestatic 127, 62, 1, 450), none, none, some (.ifCond .eq 13, 17, 0, 0), none, none, some (.iload_n 2, 0, 0, 0), some (.ifCond .lt 9, 17, 0, 0), none, none, some (.iload_n 2, 0, 0, 0), some (.bipush 8, 0, 0, 0), none, some (.if_icmp .le 5, 19, 0, 0), none, none, some (.iconst (-1), 0, 0, 0), some (.ireturn, 0, 0, 0), some (.aload_n 0, 0, 0, 0), some (.getfield 55, 0, 7, 355), none, none, some (.iload_n 1, 0, 0, 0), some (.iload_n 2, 0, 0, 0), some (.invokevirtual 227, 108, 3, 645), none, none, some (.ifCond .eq 13, 41, 0, 0), none, none, some (.aload_n 0, 0, 0, 0), some (.getfield 55, 0, 7, 355), none, none, some (.invokevirtual 231, 109, 1, 649), none, none, some (.goto 5, 43, 0, 0), none, none, some (.bipush (-3), 0, 0, 0), none, some (.ireturn, 0, 0, 0)]
/-- LeavingVote$Sightings.add(II)Z -/
def sm_c108 : List (Option sm_I) := [some (.aload_n 0, 0, 0, 0), some (.getfield 18, 6, 2, 176), none, none, some (.ifCond .lt 27, 31, 0, 0), none, none, some (.aload_n 0, 0, 0, 0), some (.getfield 18, 6, 2, 176), none, none, some (.aload_n 0, 0, 0, 0), some (.getfield 9, 6, 0, 174), none, none, some (.arraylength, 0, 0, 0), some (.if_icmp .ge 15, 31, 0, 0), none, none, some (.aload_n 0, 0, 0, 0), some (.getfield 18, 6, 2, 176), none, none, some (.aload_n 0, 0, 0, 0), some (.getfield 15, 6, 1, 175), none, none, some (.arraylength, 0, 0, 0), some (.if_icmp .lt 5, 33, 0, 0), none, none, some (.iconst 0, 0, 0, 0), some (.ireturn, 0, 0, 0), some (.aload_n 0, 0, 0, 0), some (.getfield 9, 6, 0, 174), none, none, some (.aload_n 0, 0, 0, 0), some (.getfield 18, 6, 2, 176), none, none, some (.iload_n 1, 0, 0, 0), some (.iastore, 0, 0, 0), some (.aload_n 0, 0, 0, 0), some (.getfield 15, 6, 1, 175), none, none, some (.aload_n 0, 0, 0, 0), some (.getfield 18, 6, 2, 176), none, none, some (.iload_n 2, 0, 0, 0), some (.iastore, 0, 0, 0), some (.aload_n 0, 0, 0, 0), some (.dup, 0, 0, 0), some (.getfield 18, 6, 2, 176), none, none, some (.iconst 1, 0, 0, 0), some (.iadd, 0, 0, 0), some (.putfield 18, 6, 2, 176), none, none, some (.iconst 1, 0, 0, 0), some (.ireturn, 0, 0, 0)]
/-- LeavingVote$Sightings.size()I -/
def sm_c109 : List (Option sm_I) := [some (.aload_n 0, 0, 0, 0), some (.getfield 18, 6, 2, 176), none, none, some (.ireturn, 0, 0, 0)]
/-- LeavingVote.forget()I -/
def sm_c110 : List (Option sm_I) := [some (.aload_n 0, 0, 0, 0), some (.getfield 55, 0, 7, 355), none, none, some (.invokevirtual 231, 109, 1, 649), none, none, some (.istore_n 1, 0, 0, 0), some (.aload_n 0, 0, 0, 0), some (.getfield 55, 0, 7, 355), none, none, some (.invokevirtual 94, 52, 1, 408), none, none, some (.iload_n 1, 0, 0, 0), some (.ireturn, 0, 0, 0)]
/-- LeavingVote.oars(I)I -/
def sm_c111 : List (Option sm_I) := [some (.iload_n 1, 0, 0, 0), some (.invokestatic 163, 84, 1, 542), none, none, some (.ifCond .ne 5, 9, 0, 0), none, none, some (.iconst (-1), 0, 0, 0), some (.ireturn, 0, 0, 0), some (.iconst 0, 0, 0, 0), some (.istore_n 2, 0, 0, 0), some (.bipush (-4), 0, 0, 0), none, some (.istore_n 3, 0, 0, 0), some (.iconst 0, 0, 0, 0), some (.istore 4, 0, 0, 0), none, some (.iload 4, 0, 0, 0), none, some (.iconst 1, 0, 0, 0), some (.aload_n 0, 0, 0, 0), some (.getfield 30, 0, 3, 351), none, none, some (.invokevirtual 224, 59, 1, 438), none, none, some (.ishl, 0, 0, 0), some (.if_icmp .ge 38, 66, 0, 0), none, none, some (.aload_n 0, 0, 0, 0), some (.aload_n 0, 0, 0, 0), some (.getfield 89, 0, 8, 356), none, none, some (.iload 4, 0, 0, 0), none, some (.invokestatic 183, 94, 2, 584), none, none, some (.invokevirtual 234, 112, 2, 661), none, none, some (.ifCond .ne 6, 50, 0, 0), none, none, some (.goto 13, 60, 0, 0), none, none, some (.iload_n 2, 0, 0, 0), some (.ifCond .ne 6, 57, 0, 0), none, none, some (.iload 4, 0, 0, 0), none, some (.istore_n 3, 0, 0, 0), some (.iinc 2 1, 0, 0, 0), none, none, some (.iinc 4 1, 0, 0, 0), none, none, some (.goto (-46), 17, 0, 0), none, none, some (.iload_n 1, 0, 0, 0), some (.ifCond .ne 7, 74, 0, 0), none, none, some (.iload_n 2, 0, 0, 0), some (.goto 4, 75, 0, 0), none, none, some (.iload_n 3, 0, 0, 0), some (.ireturn, 0, 0, 0)]
/-- LeavingVote.agrees(J)Z -/
def sm_c112 : List (Option sm_I) := [some (.aload_n 0, 0, 0, 0), some (.getfield 36, 0, 4, 352), none, none, some (.aload_n 0, 0, 0, 0), some (.getfield 30, 0, 3, 351), none, none, some (.lload_n 1, 0, 0, 0), some (.invokevirtual 130, 63, 3, 453), none, none, some (.iconst 0, 0, 0, 0), some (.istore_n 3, 0, 0, 0), some (.iload_n 3, 0, 0, 0), some (.aload_n 0, 0, 0, 0), some (.getfield 55, 0, 7, 355), none, none, some (.invokevirtual 231, 109, 1, 649), none, none, some (.if_icmp .ge 49, 71, 0, 0), none, none, some (.aload_n 0, 0, 0, 0), some (.getfield 36, 0, 4, 352), none, none, some (.lload_n 1, 0, 0, 0), some (.aload_n 0, 0, 0, 0), some (.getfield 55, 0, 7, 355), none, none, some (.iload_n 3, 0, 0, 0), some (.invokevirtual 267, 113, 2, 665), none, none, some (.invokestatic 134, 70, 2, 481), none, none, some (.iconst 0, 0, 0, 0), some (.invokevirtual 201, 74, 3, 496), none, none, some (.istore 4, 0, 0, 0), none, some (.iload 4, 0, 0, 0), none, some (.invokestatic 148, 78, 1, 516), none, none, some (.aload_n 0, 0, 0, 0), some (.getfield 55, 0, 7, 355), none, none, some (.iload_n 3, 0, 0, 0), some (.invokevirtual 270, 114, 2, 669), none, none, some (.if_icmp .eq 5, 65, 0, 0), none, none, some (.iconst 0, 0, 0, 0), some (.ireturn, 0, 0, 0), some (.iinc 3 1, 0, 0, 0), none, none, some (.goto (-54), 14, 0, 0), none, none, some (.iconst 1, 0, 0, 0), some (.ireturn, 0, 0, 0)]
/-- LeavingVote$Sightings.question(I)I -/
def sm_c113 : List (Option sm_I) := [some (.iload_n 1, 0, 0, 0), some (.ifCond .lt 21, 22, 0, 0), none, none, some (.iload_n 1, 0, 0, 0), some (.aload_n 0, 0, 0, 0), some (.getfield 9, 6, 0, 174), none, none, some (.arraylength, 0, 0, 0), some (.if_icmp .ge 12, 22, 0, 0), none, none, some (.aload_n 0, 0, 0, 0), some (.getfield 9, 6, 0, 174), none, none, some (.iload_n 1, 0, 0, 0), some (.iaload, 0, 0, 0), some (.goto 4, 23, 0, 0), none, none, some (.iconst 0, 0, 0, 0), some (.ireturn, 0, 0, 0)]
/-- LeavingVote$Sightings.number(I)I -/
def sm_c114 : List (Option sm_I) := [some (.iload_n 1, 0, 0, 0), some (.ifCond .lt 21, 22, 0, 0), none, none, some (.iload_n 1, 0, 0, 0), some (.aload_n 0, 0, 0, 0), some (.getfield 15, 6, 1, 175), none, none, some (.arraylength, 0, 0, 0), some (.if_icmp .ge 12, 22, 0, 0), none, none, some (.aload_n 0, 0, 0, 0), some (.getfield 15, 6, 1, 175), none, none, some (.iload_n 1, 0, 0, 0), some (.iaload, 0, 0, 0), some (.goto 4, 23, 0, 0), none, none, some (.iconst 0, 0, 0, 0), some (.ireturn, 0, 0, 0)]
/-- LeavingVote.odds(II)I -/
def sm_c115 : List (Option sm_I) := [some (.iload_n 1, 0, 0, 0), some (.invokestatic 127, 62, 1, 450), none, none, some (.ifCond .eq 10, 14, 0, 0), none, none, some (.iload_n 2, 0, 0, 0), some (.invokestatic 163, 84, 1, 542), none, none, some (.ifCond .ne 5, 16, 0, 0), none, none, some (.iconst (-1), 0, 0, 0), some (.ireturn, 0, 0, 0), some (.aload_n 0, 0, 0, 0), some (.getfield 36, 0, 4, 352), none, none, some (.aload_n 0, 0, 0, 0), some (.getfield 30, 0, 3, 351), none, none, some (.aload_n 0, 0, 0, 0), some (.getfield 89, 0, 8, 356), none, none, some (.invokevirtual 130, 63, 3, 453), none, none, some (.aload_n 0, 0, 0, 0), some (.getfield 89, 0, 8, 356), none, none, some (.iload_n 1, 0, 0, 0), some (.invokestatic 134, 70, 2, 481), none, none, some (.istore_n 3, 0, 0, 0), some (.aload_n 0, 0, 0, 0), some (.getfield 36, 0, 4, 352), none, none, some (.iload_n 3, 0, 0, 0), some (.iconst 0, 0, 0, 0), some (.invokevirtual 137, 71, 3, 484), none, none, some (.aload_n 0, 0, 0, 0), some (.getfield 30, 0, 3, 351), none, none, some (.iconst 1, 0, 0, 0), some (.invokevirtual 218, 67, 2, 627), none, none, some (.iand, 0, 0, 0), some (.istore 4, 0, 0, 0), none, some (.iconst 0, 0, 0, 0), some (.istore 5, 0, 0, 0), none, some (.iconst 0, 0, 0, 0), some (.istore 6, 0, 0, 0), none, some (.iload 6, 0, 0, 0), none, some (.iload 4, 0, 0, 0), none, some (.if_icmp .gt 75, 145, 0, 0), none, none, some (.iload 6, 0, 0, 0), none, some (.iload 4, 0, 0, 0), none, some (.iconst (-1), 0, 0, 0), some (.ixor, 0, 0, 0), some (.iand, 0, 0, 0), some (.ifCond .ne 7, 87, 0, 0), none, none, some (.iconst 1, 0, 0, 0), some (.goto 4, 88, 0, 0), none, none, some (.iconst 0, 0, 0, 0), some (.istore 7, 0, 0, 0), none, some (.iload 7, 0, 0, 0), none, some (.ifCond .eq 47, 139, 0, 0), none, none, some (.aload_n 0, 0, 0, 0), some (.getfield 30, 0, 3, 351), none, none, some (.aload_n 0, 0, 0, 0), some (.getfield 36, 0, 4, 352), none, none, some (.iload_n 3, 0, 0, 0), some (.iload 6, 0, 0, 0), none, some (.invokevirtual 201, 74, 3, 496), none, none, some (.invokevirtual 156, 81, 2, 530), none, none, some (.ifCond .eq 27, 139, 0, 0), none, none, some (.iload 5, 0, 0, 0), none, some (.aload_n 0, 0, 0, 0), some (.iload 6, 0, 0, 0), none, some (.invokestatic 148, 78, 1, 516), none, none, some (.iload 4, 0, 0, 0), none, some (.iload 6, 0, 0, 0), none, some (.iconst (-1), 0, 0, 0), some (.ixor, 0, 0, 0), some (.iand, 0, 0, 0), some (.invokestatic 148, 78, 1, 516), none, none, some (.invokevirtual 237, 116, 3, 677), none, none, some (.iadd, 0, 0, 0), some (.istore 5, 0, 0, 0), none, some (.iinc 6 1, 0, 0, 0), none, none, some (.goto (-76), 66, 0, 0), none, none, some (.bipush 10, 0, 0, 0), none, some (.iload 4, 0, 0, 0), none, some (.invokestatic 148, 78, 1, 516), none, none, some (.invokestatic 240, 118, 2, 685), none, none, some (.istore 6, 0, 0, 0), none, some (.iload 5, 0, 0, 0), none, some (.iload 6, 0, 0, 0), none, some (.invokestatic 243, 119, 2, 688), none, none, some (.istore 7, 0, 0, 0), none, some (.iload 7, 0, 0, 0), none, some (.ifCond .gt 6, 174, 0, 0), none, none, some (.bipush (-4), 0, 0, 0), none, some (.ireturn, 0, 0, 0), some (.iload_n 2, 0, 0, 0), some (.ifCond .ne 11, 186, 0, 0), none, none, some (.iload 5, 0, 0, 0), none, some (.iload 7, 0, 0, 0), none, some (.idiv, 0, 0, 0), some (.goto 8, 191, 0, 0), none, none, some (.iload 6, 0, 0, 0), none, some (.iload 7, 0, 0, 0), none, some (.idiv, 0, 0, 0), some (.ireturn, 0, 0, 0)]
/-- LeavingVote.weight(II)I -/
def sm_c116 : List (Option sm_I) := [some (.aload_n 0, 0, 0, 0), some (.getfield 30, 0, 3, 351), none, none, some (.invokevirtual 273, 117, 1, 681), none, none, some (.iload_n 1, 0, 0, 0), some (.invokestatic 240, 118, 2, 685), none, none, some (.bipush 10, 0, 0, 0), none, some (.aload_n 0, 0, 0, 0), some (.getfield 30, 0, 3, 351), none, none, some (.invokevirtual 273, 117, 1, 681), none, none, some (.isub, 0, 0, 0), some (.iload_n 2, 0, 0, 0), some (.invokestatic 240, 118, 2, 685), none, none, some (.imul, 0, 0, 0), some (.ireturn, 0, 0, 0)]
/-- LeavingVote$Island.seasickTenths()I -/
def sm_c117 : List (Option sm_I) := [some (.aload_n 0, 0, 0, 0), some (.getfield 87, 1, 8, 106), none, none, some (.ireturn, 0, 0, 0)]
/-- LeavingVote.power(II)I -/
def sm_c118 : List (Option sm_I) := [some (.iconst 1, 0, 0, 0), some (.istore_n 2, 0, 0, 0), some (.iconst 0, 0, 0, 0), some (.istore_n 3, 0, 0, 0), some (.iload_n 3, 0, 0, 0), some (.iload_n 1, 0, 0, 0), some (.if_icmp .ge 19, 25, 0, 0), none, none, some (.iload_n 3, 0, 0, 0), some (.bipush 8, 0, 0, 0), none, some (.if_icmp .ge 13, 25, 0, 0), none, none, some (.iload_n 2, 0, 0, 0), some (.iload_n 0, 0, 0, 0), some (.imul, 0, 0, 0), some (.istore_n 2, 0, 0, 0), some (.iinc 3 1, 0, 0, 0), none, none, some (.goto (-18), 4, 0, 0), none, none, some (.iload_n 2, 0, 0, 0), some (.ireturn, 0, 0, 0)]
/-- LeavingVote.commonDivisor(II)I -/
def sm_c119 : List (Option sm_I) := [some (.iload_n 1, 0, 0, 0), some (.istore_n 2, 0, 0, 0), some (.iload_n 0, 0, 0, 0), some (.istore_n 3, 0, 0, 0), some (.iconst 0, 0, 0, 0), some (.istore 4, 0, 0, 0), none, some (.iload 4, 0, 0, 0), none, some (.bipush 100, 0, 0, 0), none, some (.if_icmp .ge 23, 34, 0, 0), none, none, some (.iload_n 3, 0, 0, 0), some (.ifCond .eq 19, 34, 0, 0), none, none, some (.iload_n 2, 0, 0, 0), some (.iload_n 3, 0, 0, 0), some (.irem, 0, 0, 0), some (.istore 5, 0, 0, 0), none, some (.iload_n 3, 0, 0, 0), some (.istore_n 2, 0, 0, 0), some (.iload 5, 0, 0, 0), none, some (.istore_n 3, 0, 0, 0), some (.iinc 4 1, 0, 0, 0), none, none, some (.goto (-24), 7, 0, 0), none, none, some (.iload_n 2, 0, 0, 0), some (.ireturn, 0, 0, 0)]
/-- LeavingVote.asked(I)I -/
def sm_c120 : List (Option sm_I) := [some (.iload_n 1, 0, 0, 0), some (.ifCond .lt 14, 15, 0, 0), none, none, some (.iload_n 1, 0, 0, 0), some (.aload_n 0, 0, 0, 0), some (.getfield 30, 0, 3, 351), none, none, some (.invokevirtual 204, 86, 1, 616), none, none, some (.if_icmp .le 5, 17, 0, 0), none, none, some (.iconst (-1), 0, 0, 0), some (.ireturn, 0, 0, 0), some (.iconst 0, 0, 0, 0), some (.istore_n 2, 0, 0, 0), some (.iconst 0, 0, 0, 0), some (.istore_n 3, 0, 0, 0), some (.iload_n 3, 0, 0, 0), some (.iconst 2, 0, 0, 0), some (.if_icmp .ge 28, 51, 0, 0), none, none, some (.aload_n 0, 0, 0, 0), some (.aload_n 0, 0, 0, 0), some (.getfield 89, 0, 8, 356), none, none, some (.iload_n 3, 0, 0, 0), some (.invokevirtual 141, 73, 3, 492), none, none, some (.iload_n 1, 0, 0, 0), some (.if_icmp .ne 9, 45, 0, 0), none, none, some (.iload_n 2, 0, 0, 0), some (.iconst 1, 0, 0, 0), some (.iload_n 3, 0, 0, 0), some (.ishl, 0, 0, 0), some (.ior, 0, 0, 0), some (.istore_n 2, 0, 0, 0), some (.iinc 3 1, 0, 0, 0), none, none, some (.goto (-27), 21, 0, 0), none, none, some (.iload_n 2, 0, 0, 0), some (.ireturn, 0, 0, 0)]
/-- LeavingVote.months(III)I -/
def sm_c121 : List (Option sm_I) := [some (.iload_n 1, 0, 0, 0), some (.ifCond .lt 28, 29, 0, 0), none, none, some (.iload_n 1, 0, 0, 0), some (.sipush 9999, 0, 0, 0), none, none, some (.if_icmp .gt 21, 29, 0, 0), none, none, some (.iload_n 2, 0, 0, 0), some (.iconst 1, 0, 0, 0), some (.if_icmp .lt 16, 29, 0, 0), none, none, some (.iload_n 2, 0, 0, 0), some (.bipush 60, 0, 0, 0), none, some (.if_icmp .gt 10, 29, 0, 0), none, none, some (.iload_n 3, 0, 0, 0), some (.invokestatic 163, 84, 1, 542), none, none, some (.ifCond .ne 5, 31, 0, 0), none, none, some (.iconst (-1), 0, 0, 0), some (.ireturn, 0, 0, 0), some (.iconst 0, 0, 0, 0), some (.istore 4, 0, 0, 0), none, some (.iconst 0, 0, 0, 0), some (.istore 5, 0, 0, 0), none, some (.iload 5, 0, 0, 0), none, some (.iload_n 2, 0, 0, 0), some (.if_icmp .ge 100, 140, 0, 0), none, none, some (.iload_n 1, 0, 0, 0), some (.iload 5, 0, 0, 0), none, some (.invokestatic 246, 122, 2, 699), none, none, some (.istore 6, 0, 0, 0), none, some (.aload_n 0, 0, 0, 0), some (.getfield 89, 0, 8, 356), none, none, some (.iload 6, 0, 0, 0), none, some (.iconst 4, 0, 0, 0), some (.irem, 0, 0, 0), some (.ifCond .ne 7, 66, 0, 0), none, none, some (.iconst 1, 0, 0, 0), some (.goto 4, 67, 0, 0), none, none, some (.iconst 0, 0, 0, 0), some (.iload 6, 0, 0, 0), none, some (.bipush 7, 0, 0, 0), none, some (.irem, 0, 0, 0), some (.ifCond .ne 7, 79, 0, 0), none, none, some (.iconst 1, 0, 0, 0), some (.goto 4, 80, 0, 0), none, none, some (.iconst 0, 0, 0, 0), some (.invokestatic 190, 96, 3, 592), none, none, some (.lstore 7, 0, 0, 0), none, some (.aload_n 0, 0, 0, 0), some (.lload 7, 0, 0, 0), none, some (.iload 6, 0, 0, 0), none, some (.bipush 8, 0, 0, 0), none, some (.idiv, 0, 0, 0), some (.iconst 2, 0, 0, 0), some (.irem, 0, 0, 0), some (.invokevirtual 141, 73, 3, 492), none, none, some (.istore 9, 0, 0, 0), none, some (.iload_n 3, 0, 0, 0), some (.ifCond .ne 18, 119, 0, 0), none, none, some (.aload_n 0, 0, 0, 0), some (.getfield 30, 0, 3, 351), none, none, some (.iload 9, 0, 0, 0), none, some (.invokevirtual 156, 81, 2, 530), none, none, some (.ifCond .eq 21, 134, 0, 0), none, none, some (.goto 15, 131, 0, 0), none, none, some (.aload_n 0, 0, 0, 0), some (.getfield 30, 0, 3, 351), none, none, some (.iload 9, 0, 0, 0), none, some (.invokevirtual 169, 87, 2, 553), none, none, some (.ifCond .eq 6, 134, 0, 0), none, none, some (.iinc 4 1, 0, 0, 0), none, none, some (.iinc 5 1, 0, 0, 0), none, none, some (.goto (-100), 37, 0, 0), none, none, some (.iload 4, 0, 0, 0), none, some (.ireturn, 0, 0, 0)]
/-- LeavingVote.draw(II)I -/
def sm_c122 : List (Option sm_I) := [some (.ldc2_w 276, 7919, 0, 702), none, none, some (.iload_n 0, 0, 0, 0), some (.i2l, 0, 0, 0), some (.lmul, 0, 0, 0), some (.ldc2_w 278, 6151, 0, 703), none, none, some (.iload_n 1, 0, 0, 0), some (.i2l, 0, 0, 0), some (.lmul, 0, 0, 0), some (.ladd, 0, 0, 0), some (.lconst 1, 0, 0, 0), some (.ladd, 0, 0, 0), some (.lstore_n 2, 0, 0, 0), some (.lload_n 2, 0, 0, 0), some (.lload_n 2, 0, 0, 0), some (.lmul, 0, 0, 0), some (.ldc2_w 280, 65521, 0, 704), none, none, some (.lrem, 0, 0, 0), some (.l2i, 0, 0, 0), some (.iconst 2, 0, 0, 0), some (.idiv, 0, 0, 0), some (.ireturn, 0, 0, 0)]
/-- LeavingVote.keep()I -/
def sm_c123 : List (Option sm_I) := [some (.aload_n 0, 0, 0, 0), some (.getfield 49, 0, 6, 354), none, none, some (.invokevirtual 194, 98, 1, 600), none, none, some (.iconst 2, 0, 0, 0), some (.if_icmp .lt 6, 14, 0, 0), none, none, some (.bipush (-3), 0, 0, 0), none, some (.ireturn, 0, 0, 0), some (.aload_n 0, 0, 0, 0), some (.getfield 49, 0, 6, 354), none, none, some (.aload_n 0, 0, 0, 0), some (.getfield 89, 0, 8, 356), none, none, some (.invokevirtual 249, 90, 2, 567), none, none, some (.aload_n 0, 0, 0, 0), some (.getfield 49, 0, 6, 354), none, none, some (.invokevirtual 194, 98, 1, 600), none, none, some (.ireturn, 0, 0, 0)]
/-- LeavingVote.back()I -/
def sm_c124 : List (Option sm_I) := [some (.aload_n 0, 0, 0, 0), some (.getfield 49, 0, 6, 354), none, none, some (.invokevirtual 194, 98, 1, 600), none, none, some (.ifCond .ne 6, 13, 0, 0), none, none, some (.bipush (-2), 0, 0, 0), none, some (.ireturn, 0, 0, 0), some (.aload_n 0, 0, 0, 0), some (.aload_n 0, 0, 0, 0), some (.getfield 49, 0, 6, 354), none, none, some (.aload_n 0, 0, 0, 0), some (.getfield 89, 0, 8, 356), none, none, some (.invokevirtual 197, 99, 2, 604), none, none, some (.putfield 89, 0, 8, 356), none, none, some (.aload_n 0, 0, 0, 0), some (.getfield 45, 0, 5, 353), none, none, some (.invokevirtual 93, 51, 1, 404), none, none, some (.aload_n 0, 0, 0, 0), some (.getfield 49, 0, 6, 354), none, none, some (.invokevirtual 194, 98, 1, 600), none, none, some (.ireturn, 0, 0, 0)]
/-- LeavingVote.count(I)I -/
def sm_c125 : List (Option sm_I) := [some (.iload_n 1, 0, 0, 0), some (.tableswitch 168 0 11 #[63, 71, 79, 90, 101, 112, 120, 128, 136, 144, 152, 160], 0, 0, 0), none, none, none, none, none, none, none, none, none, none, none, none, none, none, none, none, none, none, none, none, none, none, none, none, none, none, none, none, none, none, none, none, none, none, none, none, none, none, none, none, none, none, none, none, none, none, none, none, none, none, none, none, none, none, none, none, none, none, none, none, none, none, some (.aload_n 0, 0, 0, 0), some (.getfield 30, 0, 3, 351), none, none, some (.invokevirtual 95, 53, 1, 412), none, none, some (.ireturn, 0, 0, 0), some (.aload_n 0, 0, 0, 0), some (.getfield 30, 0, 3, 351), none, none, some (.invokevirtual 224, 59, 1, 438), none, none, some (.ireturn, 0, 0, 0), some (.aload_n 0, 0, 0, 0), some (.getfield 89, 0, 8, 356), none, none, some (.invokestatic 123, 60, 1, 443), none, none, some (.invokestatic 148, 78, 1, 516), none, none, some (.ireturn, 0, 0, 0), some (.aload_n 0, 0, 0, 0), some (.getfield 89, 0, 8, 356), none, none, some (.invokestatic 187, 69, 1, 591), none, none, some (.invokestatic 159, 82, 1, 535), none, none, some (.ireturn, 0, 0, 0), some (.aload_n 0, 0, 0, 0), some (.getfield 89, 0, 8, 356), none, none, some (.invokestatic 144, 64, 1, 515), none, none, some (.invokestatic 159, 82, 1, 535), none, none, some (.ireturn, 0, 0, 0), some (.aload_n 0, 0, 0, 0), some (.getfield 30, 0, 3, 351), none, none, some (.invokevirtual 210, 68, 1, 625), none, none, some (.ireturn, 0, 0, 0), some (.aload_n 0, 0, 0, 0), some (.getfield 30, 0, 3, 351), none, none, some (.invokevirtual 252, 126, 1, 717), none, none, some (.ireturn, 0, 0, 0), some (.aload_n 0, 0, 0, 0), some (.getfield 30, 0, 3, 351), none, none, some (.invokevirtual 255, 127, 1, 721), none, none, some (.ireturn, 0, 0, 0), some (.aload_n 0, 0, 0, 0), some (.getfield 55, 0, 7, 355), none, none, some (.invokevirtual 231, 109, 1, 649), none, none, some (.ireturn, 0, 0, 0), some (.aload_n 0, 0, 0, 0), some (.getfield 45, 0, 5, 353), none, none, some (.invokevirtual 194, 98, 1, 600), none, none, some (.ireturn, 0, 0, 0), some (.aload_n 0, 0, 0, 0), some (.getfield 49, 0, 6, 354), none, none, some (.invokevirtual 194, 98, 1, 600), none, none, some (.ireturn, 0, 0, 0), some (.aload_n 0, 0, 0, 0), some (.getfield 10, 0, 0, 348), none, none, some (.invokevirtual 66, 20, 1, 381), none, none, some (.ireturn, 0, 0, 0), some (.iconst (-1), 0, 0, 0), some (.ireturn, 0, 0, 0)]
/-- LeavingVote$Island.cowsToMilk()I -/
def sm_c126 : List (Option sm_I) := [some (.aload_n 0, 0, 0, 0), some (.getfield 81, 1, 6, 104), none, none, some (.ireturn, 0, 0, 0)]
/-- LeavingVote$Island.tenths()I -/
def sm_c127 : List (Option sm_I) := [some (.aload_n 0, 0, 0, 0), some (.getfield 84, 1, 7, 105), none, none, some (.ireturn, 0, 0, 0)]
/-- LeavingVoteModel.<init>()V -/
def sm_c128 : List (Option sm_I) := [some (.aload_n 0, 0, 0, 0), some (.invokespecial 1, 9999, 0, 730), none, none, some (.aload_n 0, 0, 0, 0), some (.sipush 200, 0, 0, 0), none, none, some (.newarray .int, 0, 0, 91), none, some (.putfield 7, 7, 1, 744), none, none, some (.aload_n 0, 0, 0, 0), some (.iconst 2, 0, 0, 0), some (.newarray .int, 0, 0, 91), none, some (.putfield 13, 7, 2, 745), none, none, some (.aload_n 0, 0, 0, 0), some (.bipush 16, 0, 0, 0), none, some (.newarray .int, 0, 0, 91), none, some (.putfield 16, 7, 3, 746), none, none, some (.aload_n 0, 0, 0, 0), some (.bipush 16, 0, 0, 0), none, some (.newarray .int, 0, 0, 91), none, some (.putfield 19, 7, 4, 747), none, none, some (.aload_n 0, 0, 0, 0), some (.bipush 16, 0, 0, 0), none, some (.newarray .int, 0, 0, 91), none, some (.putfield 22, 7, 5, 748), none, none, some (.aload_n 0, 0, 0, 0), some (.bipush 16, 0, 0, 0), none, some (.newarray .int, 0, 0, 91), none, some (.putfield 25, 7, 6, 749), none, none, some (.aload_n 0, 0, 0, 0), some (.iconst 2, 0, 0, 0), some (.newarray .int, 0, 0, 91), none, some (.putfield 28, 7, 7, 750), none, none, some (.aload_n 0, 0, 0, 0), some (.bipush 10, 0, 0, 0), none, some (.newarray .int, 0, 0, 91), none, some (.putfield 31, 7, 8, 751), none, none, some (.aload_n 0, 0, 0, 0), some (.bipush 8, 0, 0, 0), none, some (.newarray .int, 0, 0, 91), none, some (.putfield 34, 7, 9, 752), none, none, some (.aload_n 0, 0, 0, 0), some (.bipush 24, 0, 0, 0), none, some (.newarray .int, 0, 0, 91), none, some (.putfield 37, 7, 10, 753), none, none, some (.aload_n 0, 0, 0, 0), some (.sipush 192, 0, 0, 0), none, none, some (.newarray .int, 0, 0, 91), none, some (.putfield 40, 7, 11, 754), none, none, some (.aload_n 0, 0, 0, 0), some (.bipush 48, 0, 0, 0), none, some (.newarray .int, 0, 0, 91), none, some (.putfield 43, 7, 13, 756), none, none, some (.aload_n 0, 0, 0, 0), some (.bipush 8, 0, 0, 0), none, some (.newarray .int, 0, 0, 91), none, some (.putfield 46, 7, 16, 759), none, none, some (.aload_n 0, 0, 0, 0), some (.bipush 8, 0, 0, 0), none, some (.newarray .int, 0, 0, 91), none, some (.putfield 49, 7, 17, 760), none, none, some (.aload_n 0, 0, 0, 0), some (.iconst 4, 0, 0, 0), some (.newarray .int, 0, 0, 91), none, some (.putfield 52, 7, 19, 762), none, none, some (.aload_n 0, 0, 0, 0), some (.bipush 8, 0, 0, 0), none, some (.newarray .int, 0, 0, 91), none, some (.putfield 55, 7, 20, 763), none, none, some (.aload_n 0, 0, 0, 0), some (.iconst 5, 0, 0, 0), some (.newarray .int, 0, 0, 91), none, some (.putfield 58, 7, 21, 764), none, none, some (.aload_n 0, 0, 0, 0), some (.iconst 5, 0, 0, 0), some (.newarray .int, 0, 0, 91), none, some (.putfield 61, 7, 22, 765), none, none, some (.aload_n 0, 0, 0, 0), some (.iconst 0, 0, 0, 0), some (.invokevirtual 64, 129, 2, 731), none, none, some (.aload_n 0, 0, 0, 0), some (.iconst 0, 0, 0, 0), some (.iconst 0, 0, 0, 0), some (.iconst 1, 0, 0, 0), some (.iconst 0, 0, 0, 0), some (.iconst 2, 0, 0, 0), some (.invokevirtual 68, 130, 6, 735), none, none, some (.aload_n 0, 0, 0, 0), some (.iconst 0, 0, 0, 0), some (.iconst 0, 0, 0, 0), some (.iconst 3, 0, 0, 0), some (.iconst 0, 0, 0, 0), some (.iconst 1, 0, 0, 0), some (.invokevirtual 68, 130, 6, 735), none, none, some (.aload_n 0, 0, 0, 0), some (.iconst 0, 0, 0, 0), some (.iconst 1, 0, 0, 0), some (.iconst 1, 0, 0, 0), some (.iconst 0, 0, 0, 0), some (.iconst 0, 0, 0, 0), some (.invokevirtual 68, 130, 6, 735), none, none, some (.aload_n 0, 0, 0, 0), some (.iconst 0, 0, 0, 0), some (.iconst 2, 0, 0, 0), some (.iconst 0, 0, 0, 0), some (.iconst 1, 0, 0, 0), some (.iconst 3, 0, 0, 0), some (.invokevirtual 68, 130, 6, 735), none, none, some (.aload_n 0, 0, 0, 0), some (.iconst 0, 0, 0, 0), some (.iconst 2, 0, 0, 0), some (.iconst 2, 0, 0, 0), some (.iconst 5, 0, 0, 0), some (.iconst 1, 0, 0, 0), some (.invokevirtual 68, 130, 6, 735), none, none, some (.aload_n 0, 0, 0, 0), some (.iconst 0, 0, 0, 0), some (.iconst 2, 0, 0, 0), some (.iconst 0, 0, 0, 0), some (.iconst 4, 0, 0, 0), some (.iconst 0, 0, 0, 0), some (.invokevirtual 68, 130, 6, 735), none, none, some (.aload_n 0, 0, 0, 0), some (.iconst 0, 0, 0, 0), some (.iconst 3, 0, 0, 0), some (.iconst 3, 0, 0, 0), some (.iconst 0, 0, 0, 0), some (.iconst 4, 0, 0, 0), some (.invokevirtual 68, 130, 6, 735), none, none, some (.aload_n 0, 0, 0, 0), some (.iconst 0, 0, 0, 0), some (.iconst 0, 0, 0, 0), some (.iconst 0, 0, 0, 0), some (.iconst 0, 0, 0, 0), some (.iconst 2, 0, 0, 0), some (.invokevirtual 68, 130, 6, 735), none, none, some (.aload_n 0, 0, 0, 0), some (.getfield 28, 7, 7, 750), none, none, some (.iconst 0, 0, 0, 0), some (.iconst 2, 0, 0, 0), some (.iastore, 0, 0, 0), some (.aload_n 0, 0, 0, 0), some (.getfield 31, 7, 8, 751), none, none, some (.iconst 0, 0, 0, 0), some (.iconst 2, 0, 0, 0), some (.iastore, 0, 0, 0), some (.aload_n 0, 0, 0, 0), some (.getfield 31, 7, 8, 751), none, none, some (.iconst 1, 0, 0, 0), some (.iconst 3, 0, 0, 0), some (.iastore, 0, 0, 0), some (.aload_n 0, 0, 0, 0), some (.getfield 34, 7, 9, 752), none, none, some (.iconst 1, 0, 0, 0), some (.bipush 6, 0, 0, 0), none, some (.iastore, 0, 0, 0), some (.aload_n 0, 0, 0, 0), some (.invokevirtual 72, 131, 1, 739), none, none, some (.return_, 0, 0, 0)]
/-- LeavingVoteModel.noIsland(I)V -/
def sm_c129 : List (Option sm_I) := [some (.aload_n 0, 0, 0, 0), some (.getfield 13, 7, 2, 745), none, none, some (.iload_n 1, 0, 0, 0), some (.iconst 0, 0, 0, 0), some (.iastore, 0, 0, 0), some (.aload_n 0, 0, 0, 0), some (.getfield 28, 7, 7, 750), none, none, some (.iload_n 1, 0, 0, 0), some (.iconst 0, 0, 0, 0), some (.iastore, 0, 0, 0), some (.aload_n 0, 0, 0, 0), some (.getfield 34, 7, 9, 752), none, none, some (.iconst 4, 0, 0, 0), some (.iload_n 1, 0, 0, 0), some (.imul, 0, 0, 0), some (.iconst 4, 0, 0, 0), some (.iastore, 0, 0, 0), some (.aload_n 0, 0, 0, 0), some (.getfield 34, 7, 9, 752), none, none, some (.iconst 4, 0, 0, 0), some (.iload_n 1, 0, 0, 0), some (.imul, 0, 0, 0), some (.iconst 1, 0, 0, 0), some (.iadd, 0, 0, 0), some (.iconst 0, 0, 0, 0), some (.iastore, 0, 0, 0), some (.aload_n 0, 0, 0, 0), some (.getfield 34, 7, 9, 752), none, none, some (.iconst 4, 0, 0, 0), some (.iload_n 1, 0, 0, 0), some (.imul, 0, 0, 0), some (.iconst 2, 0, 0, 0), some (.iadd, 0, 0, 0), some (.iconst 5, 0, 0, 0), some (.iastore, 0, 0, 0), some (.aload_n 0, 0, 0, 0), some (.getfield 34, 7, 9, 752), none, none, some (.iconst 4, 0, 0, 0), some (.iload_n 1, 0, 0, 0), some (.imul, 0, 0, 0), some (.iconst 3, 0, 0, 0), some (.iadd, 0, 0, 0), some (.iconst 3, 0, 0, 0), some (.iastore, 0, 0, 0), some (.return_, 0, 0, 0)]
/-- LeavingVoteModel.addIslander(IIIII)V -/
def sm_c130 : List (Option sm_I) := [some (.bipush 8, 0, 0, 0), none, some (.iload_n 1, 0, 0, 0), some (.imul, 0, 0, 0), some (.aload_n 0, 0, 0, 0), some (.getfield 13, 7, 2, 745), none, none, some (.iload_n 1, 0, 0, 0), some (.iaload, 0, 0, 0), some (.iadd, 0, 0, 0), some (.istore 6, 0, 0, 0), none, some (.aload_n 0, 0, 0, 0), some (.getfield 16, 7, 3, 746), none, none, some (.iload 6, 0, 0, 0), none, some (.iload_n 2, 0, 0, 0), some (.iastore, 0, 0, 0), some (.aload_n 0, 0, 0, 0), some (.getfield 19, 7, 4, 747), none, none, some (.iload 6, 0, 0, 0), none, some (.iload_n 3, 0, 0, 0), some (.iastore, 0, 0, 0), some (.aload_n 0, 0, 0, 0), some (.getfield 22, 7, 5, 748), none, none, some (.iload 6, 0, 0, 0), none, some (.iload 4, 0, 0, 0), none, some (.iastore, 0, 0, 0), some (.aload_n 0, 0, 0, 0), some (.getfield 25, 7, 6, 749), none, none, some (.iload 6, 0, 0, 0), none, some (.iload 5, 0, 0, 0), none, some (.iastore, 0, 0, 0), some (.aload_n 0, 0, 0, 0), some (.getfield 13, 7, 2, 745), none, none, some (.iload_n 1, 0, 0, 0), some (.dup2, 0, 0, 0), some (.iaload, 0, 0, 0), some (.iconst 1, 0, 0, 0), some (.iadd, 0, 0, 0), some (.iastore, 0, 0, 0), some (.return_, 0, 0, 0)]
/-- LeavingVoteModel.begin()V -/
def sm_c131 : List (Option sm_I) := [some (.iconst 0, 0, 0, 0), some (.istore_n 1, 0, 0, 0), some (.iload_n 1, 0, 0, 0), some (.bipush 24, 0, 0, 0), none, some (.if_icmp .ge 49, 54, 0, 0), none, none, some (.aload_n 0, 0, 0, 0), some (.getfield 37, 7, 10, 753), none, none, some (.iload_n 1, 0, 0, 0), some (.iload_n 1, 0, 0, 0), some (.bipush 8, 0, 0, 0), none, some (.if_icmp .ge 12, 28, 0, 0), none, none, some (.aload_n 0, 0, 0, 0), some (.getfield 19, 7, 4, 747), none, none, some (.iload_n 1, 0, 0, 0), some (.iaload, 0, 0, 0), some (.goto 22, 47, 0, 0), none, none, some (.iload_n 1, 0, 0, 0), some (.bipush 16, 0, 0, 0), none, some (.if_icmp .ge 15, 46, 0, 0), none, none, some (.aload_n 0, 0, 0, 0), some (.getfield 22, 7, 5, 748), none, none, some (.iload_n 1, 0, 0, 0), some (.bipush 8, 0, 0, 0), none, some (.isub, 0, 0, 0), some (.iaload, 0, 0, 0), some (.goto 4, 47, 0, 0), none, none, some (.iconst 0, 0, 0, 0), some (.iastore, 0, 0, 0), some (.iinc 1 1, 0, 0, 0), none, none, some (.goto (-49), 2, 0, 0), none, none, some (.aload_n 0, 0, 0, 0), some (.iconst 0, 0, 0, 0), some (.putfield 121, 7, 12, 755), none, none, some (.aload_n 0, 0, 0, 0), some (.iconst 0, 0, 0, 0), some (.putfield 124, 7, 14, 757), none, none, some (.aload_n 0, 0, 0, 0), some (.iconst 0, 0, 0, 0), some (.putfield 127, 7, 15, 758), none, none, some (.return_, 0, 0, 0)]
/-- LeavingVoteModel.write(I)I -/
def sm_c132 : List (Option sm_I) := [some (.iload_n 1, 0, 0, 0), some (.i2l, 0, 0, 0), some (.ldc2_w 75, 32, 0, 817), none, none, some (.ldc2_w 77, 126, 0, 818), none, none, some (.invokestatic 79, 133, 3, 819), none, none, some (.ifCond .ne 5, 16, 0, 0), none, none, some (.iconst (-1), 0, 0, 0), some (.ireturn, 0, 0, 0), some (.aload_n 0, 0, 0, 0), some (.getfield 83, 7, 0, 743), none, none, some (.sipush 200, 0, 0, 0), none, none, some (.if_icmp .ne 6, 29, 0, 0), none, none, some (.bipush (-3), 0, 0, 0), none, some (.ireturn, 0, 0, 0), some (.aload_n 0, 0, 0, 0), some (.getfield 7, 7, 1, 744), none, none, some (.aload_n 0, 0, 0, 0), some (.getfield 83, 7, 0, 743), none, none, some (.iload_n 1, 0, 0, 0), some (.iastore, 0, 0, 0), some (.aload_n 0, 0, 0, 0), some (.dup, 0, 0, 0), some (.getfield 83, 7, 0, 743), none, none, some (.iconst 1, 0, 0, 0), some (.iadd, 0, 0, 0), some (.putfield 83, 7, 0, 743), none, none, some (.aload_n 0, 0, 0, 0), some (.getfield 83, 7, 0, 743), none, none, some (.ireturn, 0, 0, 0)]
/-- LeavingVoteModel.in(JJJ)Z -/
def sm_c133 : List (Option sm_I) := [some (.lload_n 0, 0, 0, 0), some (.lload_n 2, 0, 0, 0), some (.lcmp, 0, 0, 0), some (.ifCond .lt 14, 17, 0, 0), none, none, some (.lload_n 0, 0, 0, 0), some (.lload 4, 0, 0, 0), none, some (.lcmp, 0, 0, 0), some (.ifCond .gt 7, 17, 0, 0), none, none, some (.iconst 1, 0, 0, 0), some (.goto 4, 18, 0, 0), none, none, some (.iconst 0, 0, 0, 0), some (.ireturn, 0, 0, 0)]
/-- LeavingVoteModel.wipe()I -/
def sm_c134 : List (Option sm_I) := [some (.aload_n 0, 0, 0, 0), some (.getfield 83, 7, 0, 743), none, none, some (.istore_n 1, 0, 0, 0), some (.aload_n 0, 0, 0, 0), some (.iconst 0, 0, 0, 0), some (.putfield 83, 7, 0, 743), none, none, some (.iload_n 1, 0, 0, 0), some (.ireturn, 0, 0, 0)]
/-- LeavingVoteModel.fault()I -/
def sm_c135 : List (Option sm_I) := [some (.aload_n 0, 0, 0, 0), some (.invokevirtual 117, 136, 1, 830), none, none, some (.ireturn, 0, 0, 0)]
/-- LeavingVoteModel.readAll()I -/
def sm_c136 : List (Option sm_I) := [some (.aload_n 0, 0, 0, 0), some (.iconst 1, 0, 0, 0), some (.invokevirtual 64, 129, 2, 731), none, none, some (.aload_n 0, 0, 0, 0), some (.iconst 0, 0, 0, 0), some (.putfield 87, 7, 18, 761), none, none, some (.aload_n 0, 0, 0, 0), some (.getfield 87, 7, 18, 761), none, none, some (.aload_n 0, 0, 0, 0), some (.getfield 83, 7, 0, 743), none, none, some (.if_icmp .ge 20, 38, 0, 0), none, none, some (.aload_n 0, 0, 0, 0), some (.getfield 87, 7, 18, 761), none, none, some (.istore_n 1, 0, 0, 0), some (.aload_n 0, 0, 0, 0), some (.invokevirtual 114, 137, 1, 834), none, none, some (.ifCond .ne 5, 35, 0, 0), none, none, some (.iload_n 1, 0, 0, 0), some (.ireturn, 0, 0, 0), some (.goto (-25), 10, 0, 0), none, none, some (.bipush (-4), 0, 0, 0), none, some (.ireturn, 0, 0, 0)]
/-- LeavingVoteModel.item()Z -/
def sm_c137 : List (Option sm_I) := [some (.aload_n 0, 0, 0, 0), some (.aload_n 0, 0, 0, 0), some (.getfield 87, 7, 18, 761), none, none, some (.invokevirtual 90, 138, 2, 838), none, none, some (.istore_n 1, 0, 0, 0), some (.aload_n 0, 0, 0, 0), some (.dup, 0, 0, 0), some (.getfield 87, 7, 18, 761), none, none, some (.iconst 1, 0, 0, 0), some (.iadd, 0, 0, 0), some (.putfield 87, 7, 18, 761), none, none, some (.iload_n 1, 0, 0, 0), some (.tableswitch 197 98 115 #[93, 197, 161, 197, 197, 197, 179, 88, 197, 197, 197, 170, 197, 197, 197, 197, 197, 188], 0, 0, 0), none, none, none, none, none, none, none, none, none, none, none, none, none, none, none, none, none, none, none, none, none, none, none, none, none, none, none, none, none, none, none, none, none, none, none, none, none, none, none, none, none, none, none, none, none, none, none, none, none, none, none, none, none, none, none, none, none, none, none, none, none, none, none, none, none, none, none, none, none, none, none, none, none, none, none, none, none, none, none, none, none, none, none, none, none, none, none, some (.aload_n 0, 0, 0, 0), some (.invokevirtual 104, 139, 1, 842), none, none, some (.ireturn, 0, 0, 0), some (.aload_n 0, 0, 0, 0), some (.iconst 1, 0, 0, 0), some (.invokevirtual 100, 140, 2, 846), none, none, some (.ifCond .eq 30, 148, 0, 0), none, none, some (.aload_n 0, 0, 0, 0), some (.getfield 28, 7, 7, 750), none, none, some (.iconst 1, 0, 0, 0), some (.iaload, 0, 0, 0), some (.iconst 5, 0, 0, 0), some (.if_icmp .eq 20, 148, 0, 0), none, none, some (.aload_n 0, 0, 0, 0), some (.getfield 52, 7, 19, 762), none, none, some (.iconst 0, 0, 0, 0), some (.iaload, 0, 0, 0), some (.i2l, 0, 0, 0), some (.lconst 1, 0, 0, 0), some (.ldc2_w 108, 8, 0, 853), none, none, some (.invokestatic 79, 133, 3, 819), none, none, some (.ifCond .ne 5, 150, 0, 0), none, none, some (.iconst 0, 0, 0, 0), some (.ireturn, 0, 0, 0), some (.aload_n 0, 0, 0, 0), some (.getfield 31, 7, 8, 751), none, none, some (.iconst 5, 0, 0, 0), some (.aload_n 0, 0, 0, 0), some (.getfield 28, 7, 7, 750), none, none, some (.iconst 1, 0, 0, 0), some (.iaload, 0, 0, 0), some (.iadd, 0, 0, 0), some (.aload_n 0, 0, 0, 0), some (.getfield 52, 7, 19, 762), none, none, some (.iconst 0, 0, 0, 0), some (.iaload, 0, 0, 0), some (.iastore, 0, 0, 0), some (.aload_n 0, 0, 0, 0), some (.getfield 28, 7, 7, 750), none, none, some (.iconst 1, 0, 0, 0), some (.dup2, 0, 0, 0), some (.iaload, 0, 0, 0), some (.iconst 1, 0, 0, 0), some (.iadd, 0, 0, 0), some (.iastore, 0, 0, 0), some (.iconst 1, 0, 0, 0), some (.ireturn, 0, 0, 0), some (.aload_n 0, 0, 0, 0), some (.iconst 0, 0, 0, 0), some (.iconst 0, 0, 0, 0), some (.bipush 9, 0, 0, 0), none, some (.invokevirtual 110, 141, 4, 854), none, none, some (.ireturn, 0, 0, 0), some (.aload_n 0, 0, 0, 0), some (.iconst 1, 0, 0, 0), some (.iconst 0, 0, 0, 0), some (.bipush 40, 0, 0, 0), none, some (.invokevirtual 110, 141, 4, 854), none, none, some (.ireturn, 0, 0, 0), some (.aload_n 0, 0, 0, 0), some (.iconst 2, 0, 0, 0), some (.iconst 1, 0, 0, 0), some (.bipush 9, 0, 0, 0), none, some (.invokevirtual 110, 141, 4, 854), none, none, some (.ireturn, 0, 0, 0), some (.aload_n 0, 0, 0, 0), some (.iconst 3, 0, 0, 0), some (.iconst 0, 0, 0, 0), some (.bipush 10, 0, 0, 0), none, some (.invokevirtual 110, 141, 4, 854), none, none, some (.ireturn, 0, 0, 0), some (.iconst 0, 0, 0, 0), some (.ireturn, 0, 0, 0)]
/-- LeavingVoteModel.letterAt(I)I -/
def sm_c138 : List (Option sm_I) := [some (.iload_n 1, 0, 0, 0), some (.aload_n 0, 0, 0, 0), some (.getfield 83, 7, 0, 743), none, none, some (.if_icmp .ge 12, 17, 0, 0), none, none, some (.aload_n 0, 0, 0, 0), some (.getfield 7, 7, 1, 744), none, none, some (.iload_n 1, 0, 0, 0), some (.iaload, 0, 0, 0), some (.goto 4, 18, 0, 0), none, none, some (.iconst 0, 0, 0, 0), some (.ireturn, 0, 0, 0)]
/-- LeavingVoteModel.islanderItem()Z -/
def sm_c139 : List (Option sm_I) := [some (.aload_n 0, 0, 0, 0), some (.iconst 4, 0, 0, 0), some (.invokevirtual 100, 140, 2, 846), none, none, some (.ifCond .eq 60, 65, 0, 0), none, none, some (.aload_n 0, 0, 0, 0), some (.getfield 13, 7, 2, 745), none, none, some (.iconst 1, 0, 0, 0), some (.iaload, 0, 0, 0), some (.bipush 8, 0, 0, 0), none, some (.if_icmp .ge 49, 65, 0, 0), none, none, some (.aload_n 0, 0, 0, 0), some (.getfield 52, 7, 19, 762), none, none, some (.iconst 0, 0, 0, 0), some (.iaload, 0, 0, 0), some (.iconst 4, 0, 0, 0), some (.if_icmp .ge 39, 65, 0, 0), none, none, some (.aload_n 0, 0, 0, 0), some (.getfield 52, 7, 19, 762), none, none, some (.iconst 1, 0, 0, 0), some (.iaload, 0, 0, 0), some (.iconst 4, 0, 0, 0), some (.if_icmp .ge 29, 65, 0, 0), none, none, some (.aload_n 0, 0, 0, 0), some (.getfield 52, 7, 19, 762), none, none, some (.iconst 2, 0, 0, 0), some (.iaload, 0, 0, 0), some (.bipush 8, 0, 0, 0), none, some (.if_icmp .ge 18, 65, 0, 0), none, none, some (.aload_n 0, 0, 0, 0), some (.getfield 52, 7, 19, 762), none, none, some (.iconst 3, 0, 0, 0), some (.iaload, 0, 0, 0), some (.bipush 10, 0, 0, 0), none, some (.if_icmp .ge 7, 65, 0, 0), none, none, some (.iconst 1, 0, 0, 0), some (.goto 4, 66, 0, 0), none, none, some (.iconst 0, 0, 0, 0), some (.istore_n 1, 0, 0, 0), some (.iload_n 1, 0, 0, 0), some (.ifCond .eq 32, 100, 0, 0), none, none, some (.aload_n 0, 0, 0, 0), some (.iconst 1, 0, 0, 0), some (.aload_n 0, 0, 0, 0), some (.getfield 52, 7, 19, 762), none, none, some (.iconst 0, 0, 0, 0), some (.iaload, 0, 0, 0), some (.aload_n 0, 0, 0, 0), some (.getfield 52, 7, 19, 762), none, none, some (.iconst 1, 0, 0, 0), some (.iaload, 0, 0, 0), some (.aload_n 0, 0, 0, 0), some (.getfield 52, 7, 19, 762), none, none, some (.iconst 2, 0, 0, 0), some (.iaload, 0, 0, 0), some (.aload_n 0, 0, 0, 0), some (.getfield 52, 7, 19, 762), none, none, some (.iconst 3, 0, 0, 0), some (.iaload, 0, 0, 0), some (.invokevirtual 68, 130, 6, 735), none, none, some (.iload_n 1, 0, 0, 0), some (.ireturn, 0, 0, 0)]
/-- LeavingVoteModel.figures(I)Z -/
def sm_c140 : List (Option sm_I) := [some (.iconst 0, 0, 0, 0), some (.istore_n 2, 0, 0, 0), some (.iload_n 2, 0, 0, 0), some (.iload_n 1, 0, 0, 0), some (.if_icmp .ge 132, 136, 0, 0), none, none, some (.iconst 0, 0, 0, 0), some (.istore_n 3, 0, 0, 0), some (.iconst 0, 0, 0, 0), some (.istore 4, 0, 0, 0), none, some (.aload_n 0, 0, 0, 0), some (.aload_n 0, 0, 0, 0), some (.getfield 87, 7, 18, 761), none, none, some (.invokevirtual 90, 138, 2, 838), none, none, some (.i2l, 0, 0, 0), some (.ldc2_w 94, 48, 0, 850), none, none, some (.ldc2_w 96, 57, 0, 851), none, none, some (.invokestatic 79, 133, 3, 819), none, none, some (.ifCond .eq 43, 73, 0, 0), none, none, some (.iload_n 3, 0, 0, 0), some (.iconst 3, 0, 0, 0), some (.if_icmp .ge 38, 73, 0, 0), none, none, some (.bipush 10, 0, 0, 0), none, some (.iload 4, 0, 0, 0), none, some (.imul, 0, 0, 0), some (.aload_n 0, 0, 0, 0), some (.aload_n 0, 0, 0, 0), some (.getfield 87, 7, 18, 761), none, none, some (.invokevirtual 90, 138, 2, 838), none, none, some (.iadd, 0, 0, 0), some (.bipush 48, 0, 0, 0), none, some (.isub, 0, 0, 0), some (.istore 4, 0, 0, 0), none, some (.iinc 3 1, 0, 0, 0), none, none, some (.aload_n 0, 0, 0, 0), some (.dup, 0, 0, 0), some (.getfield 87, 7, 18, 761), none, none, some (.iconst 1, 0, 0, 0), some (.iadd, 0, 0, 0), some (.putfield 87, 7, 18, 761), none, none, some (.goto (-58), 12, 0, 0), none, none, some (.iload_n 3, 0, 0, 0), some (.i2l, 0, 0, 0), some (.lconst 1, 0, 0, 0), some (.ldc2_w 98, 2, 0, 852), none, none, some (.invokestatic 79, 133, 3, 819), none, none, some (.ifCond .eq 28, 110, 0, 0), none, none, some (.aload_n 0, 0, 0, 0), some (.aload_n 0, 0, 0, 0), some (.getfield 87, 7, 18, 761), none, none, some (.invokevirtual 90, 138, 2, 838), none, none, some (.iload_n 2, 0, 0, 0), some (.iload_n 1, 0, 0, 0), some (.iconst 1, 0, 0, 0), some (.isub, 0, 0, 0), some (.if_icmp .ge 8, 105, 0, 0), none, none, some (.bipush 44, 0, 0, 0), none, some (.goto 5, 107, 0, 0), none, none, some (.bipush 59, 0, 0, 0), none, some (.if_icmp .eq 5, 112, 0, 0), none, none, some (.iconst 0, 0, 0, 0), some (.ireturn, 0, 0, 0), some (.aload_n 0, 0, 0, 0), some (.getfield 52, 7, 19, 762), none, none, some (.iload_n 2, 0, 0, 0), some (.iload 4, 0, 0, 0), none, some (.iastore, 0, 0, 0), some (.aload_n 0, 0, 0, 0), some (.dup, 0, 0, 0), some (.getfield 87, 7, 18, 761), none, none, some (.iconst 1, 0, 0, 0), some (.iadd, 0, 0, 0), some (.putfield 87, 7, 18, 761), none, none, some (.iinc 2 1, 0, 0, 0), none, none, some (.goto (-131), 2, 0, 0), none, none, some (.iconst 1, 0, 0, 0), some (.ireturn, 0, 0, 0)]
/-- LeavingVoteModel.lawItem(III)Z -/
def sm_c141 : List (Option sm_I) := [some (.aload_n 0, 0, 0, 0), some (.iconst 1, 0, 0, 0), some (.invokevirtual 100, 140, 2, 846), none, none, some (.ifCond .eq 24, 29, 0, 0), none, none, some (.aload_n 0, 0, 0, 0), some (.getfield 52, 7, 19, 762), none, none, some (.iconst 0, 0, 0, 0), some (.iaload, 0, 0, 0), some (.i2l, 0, 0, 0), some (.iload_n 2, 0, 0, 0), some (.i2l, 0, 0, 0), some (.iload_n 3, 0, 0, 0), some (.i2l, 0, 0, 0), some (.invokestatic 79, 133, 3, 819), none, none, some (.ifCond .eq 7, 29, 0, 0), none, none, some (.iconst 1, 0, 0, 0), some (.goto 4, 30, 0, 0), none, none, some (.iconst 0, 0, 0, 0), some (.istore 4, 0, 0, 0), none, some (.aload_n 0, 0, 0, 0), some (.getfield 34, 7, 9, 752), none, none, some (.iconst 4, 0, 0, 0), some (.iload_n 1, 0, 0, 0), some (.iadd, 0, 0, 0), some (.iload 4, 0, 0, 0), none, some (.ifCond .eq 12, 53, 0, 0), none, none, some (.aload_n 0, 0, 0, 0), some (.getfield 52, 7, 19, 762), none, none, some (.iconst 0, 0, 0, 0), some (.iaload, 0, 0, 0), some (.goto 11, 61, 0, 0), none, none, some (.aload_n 0, 0, 0, 0), some (.getfield 34, 7, 9, 752), none, none, some (.iconst 4, 0, 0, 0), some (.iload_n 1, 0, 0, 0), some (.iadd, 0, 0, 0), some (.iaload, 0, 0, 0), some (.iastore, 0, 0, 0), some (.iload 4, 0, 0, 0), none, some (.ireturn, 0, 0, 0)]
/-- LeavingVoteModel.lay()I -/
def sm_c142 : List (Option sm_I) := [some (.aload_n 0, 0, 0, 0), some (.invokevirtual 117, 136, 1, 830), none, none, some (.bipush (-4), 0, 0, 0), none, some (.if_icmp .ne 16, 22, 0, 0), none, none, some (.aload_n 0, 0, 0, 0), some (.getfield 13, 7, 2, 745), none, none, some (.iconst 1, 0, 0, 0), some (.iaload, 0, 0, 0), some (.ifCond .le 7, 22, 0, 0), none, none, some (.iconst 1, 0, 0, 0), some (.goto 4, 23, 0, 0), none, none, some (.iconst 0, 0, 0, 0), some (.istore_n 1, 0, 0, 0), some (.iconst 0, 0, 0, 0), some (.istore_n 2, 0, 0, 0), some (.iload_n 2, 0, 0, 0), some (.aload_n 0, 0, 0, 0), some (.getfield 13, 7, 2, 745), none, none, some (.iconst 1, 0, 0, 0), some (.iaload, 0, 0, 0), some (.if_icmp .ge 37, 70, 0, 0), none, none, some (.iload_n 1, 0, 0, 0), some (.ifCond .eq 33, 70, 0, 0), none, none, some (.aload_n 0, 0, 0, 0), some (.getfield 22, 7, 5, 748), none, none, some (.bipush 8, 0, 0, 0), none, some (.iload_n 2, 0, 0, 0), some (.iadd, 0, 0, 0), some (.iaload, 0, 0, 0), some (.aload_n 0, 0, 0, 0), some (.getfield 13, 7, 2, 745), none, none, some (.iconst 1, 0, 0, 0), some (.iaload, 0, 0, 0), some (.if_icmp .ge 7, 62, 0, 0), none, none, some (.iconst 1, 0, 0, 0), some (.goto 4, 63, 0, 0), none, none, some (.iconst 0, 0, 0, 0), some (.istore_n 1, 0, 0, 0), some (.iinc 2 1, 0, 0, 0), none, none, some (.goto (-41), 26, 0, 0), none, none, some (.iload_n 1, 0, 0, 0), some (.ifCond .ne 6, 77, 0, 0), none, none, some (.bipush (-2), 0, 0, 0), none, some (.ireturn, 0, 0, 0), some (.aload_n 0, 0, 0, 0), some (.getfield 13, 7, 2, 745), none, none, some (.iconst 0, 0, 0, 0), some (.aload_n 0, 0, 0, 0), some (.getfield 13, 7, 2, 745), none, none, some (.iconst 1, 0, 0, 0), some (.iaload, 0, 0, 0), some (.iastore, 0, 0, 0), some (.aload_n 0, 0, 0, 0), some (.getfield 28, 7, 7, 750), none, none, some (.iconst 0, 0, 0, 0), some (.aload_n 0, 0, 0, 0), some (.getfield 28, 7, 7, 750), none, none, some (.iconst 1, 0, 0, 0), some (.iaload, 0, 0, 0), some (.iastore, 0, 0, 0), some (.iconst 0, 0, 0, 0), some (.istore_n 2, 0, 0, 0), some (.iload_n 2, 0, 0, 0), some (.bipush 8, 0, 0, 0), none, some (.if_icmp .ge 69, 175, 0, 0), none, none, some (.aload_n 0, 0, 0, 0), some (.getfield 16, 7, 3, 746), none, none, some (.iload_n 2, 0, 0, 0), some (.aload_n 0, 0, 0, 0), some (.getfield 16, 7, 3, 746), none, none, some (.bipush 8, 0, 0, 0), none, some (.iload_n 2, 0, 0, 0), some (.iadd, 0, 0, 0), some (.iaload, 0, 0, 0), some (.iastore, 0, 0, 0), some (.aload_n 0, 0, 0, 0), some (.getfield 19, 7, 4, 747), none, none, some (.iload_n 2, 0, 0, 0), some (.aload_n 0, 0, 0, 0), some (.getfield 19, 7, 4, 747), none, none, some (.bipush 8, 0, 0, 0), none, some (.iload_n 2, 0, 0, 0), some (.iadd, 0, 0, 0), some (.iaload, 0, 0, 0), some (.iastore, 0, 0, 0), some (.aload_n 0, 0, 0, 0), some (.getfield 22, 7, 5, 748), none, none, some (.iload_n 2, 0, 0, 0), some (.aload_n 0, 0, 0, 0), some (.getfield 22, 7, 5, 748), none, none, some (.bipush 8, 0, 0, 0), none, some (.iload_n 2, 0, 0, 0), some (.iadd, 0, 0, 0), some (.iaload, 0, 0, 0), some (.iastore, 0, 0, 0), some (.aload_n 0, 0, 0, 0), some (.getfield 25, 7, 6, 749), none, none, some (.iload_n 2, 0, 0, 0), some (.aload_n 0, 0, 0, 0), some (.getfield 25, 7, 6, 749), none, none, some (.bipush 8, 0, 0, 0), none, some (.iload_n 2, 0, 0, 0), some (.iadd, 0, 0, 0), some (.iaload, 0, 0, 0), some (.iastore, 0, 0, 0), some (.iinc 2 1, 0, 0, 0), none, none, some (.goto (-69), 103, 0, 0), none, none, some (.iconst 0, 0, 0, 0), some (.istore_n 2, 0, 0, 0), some (.iload_n 2, 0, 0, 0), some (.iconst 5, 0, 0, 0), some (.if_icmp .ge 23, 202, 0, 0), none, none, some (.aload_n 0, 0, 0, 0), some (.getfield 31, 7, 8, 751), none, none, some (.iload_n 2, 0, 0, 0), some (.aload_n 0, 0, 0, 0), some (.getfield 31, 7, 8, 751), none, none, some (.iconst 5, 0, 0, 0), some (.iload_n 2, 0, 0, 0), some (.iadd, 0, 0, 0), some (.iaload, 0, 0, 0), some (.iastore, 0, 0, 0), some (.iinc 2 1, 0, 0, 0), none, none, some (.goto (-22), 177, 0, 0), none, none, some (.iconst 0, 0, 0, 0), some (.istore_n 2, 0, 0, 0), some (.iload_n 2, 0, 0, 0), some (.iconst 4, 0, 0, 0), some (.if_icmp .ge 23, 229, 0, 0), none, none, some (.aload_n 0, 0, 0, 0), some (.getfield 34, 7, 9, 752), none, none, some (.iload_n 2, 0, 0, 0), some (.aload_n 0, 0, 0, 0), some (.getfield 34, 7, 9, 752), none, none, some (.iconst 4, 0, 0, 0), some (.iload_n 2, 0, 0, 0), some (.iadd, 0, 0, 0), some (.iaload, 0, 0, 0), some (.iastore, 0, 0, 0), some (.iinc 2 1, 0, 0, 0), none, none, some (.goto (-22), 204, 0, 0), none, none, some (.aload_n 0, 0, 0, 0), some (.invokevirtual 72, 131, 1, 739), none, none, some (.aload_n 0, 0, 0, 0), some (.getfield 13, 7, 2, 745), none, none, some (.iconst 0, 0, 0, 0), some (.iaload, 0, 0, 0), some (.ireturn, 0, 0, 0)]
/-- LeavingVoteModel.islander(II)I -/
def sm_c143 : List (Option sm_I) := [some (.aload_n 0, 0, 0, 0), some (.iload_n 1, 0, 0, 0), some (.invokevirtual 130, 144, 2, 866), none, none, some (.ifCond .eq 15, 20, 0, 0), none, none, some (.iload_n 2, 0, 0, 0), some (.i2l, 0, 0, 0), some (.lconst 0, 0, 0, 0), some (.ldc2_w 133, 3, 0, 870), none, none, some (.invokestatic 79, 133, 3, 819), none, none, some (.ifCond .ne 5, 22, 0, 0), none, none, some (.iconst (-1), 0, 0, 0), some (.ireturn, 0, 0, 0), some (.iload_n 2, 0, 0, 0), some (.ifCond .ne 12, 35, 0, 0), none, none, some (.aload_n 0, 0, 0, 0), some (.getfield 16, 7, 3, 746), none, none, some (.iload_n 1, 0, 0, 0), some (.iaload, 0, 0, 0), some (.goto 40, 72, 0, 0), none, none, some (.iload_n 2, 0, 0, 0), some (.iconst 1, 0, 0, 0), some (.if_icmp .ne 12, 49, 0, 0), none, none, some (.aload_n 0, 0, 0, 0), some (.getfield 37, 7, 10, 753), none, none, some (.iload_n 1, 0, 0, 0), some (.iaload, 0, 0, 0), some (.goto 26, 72, 0, 0), none, none, some (.iload_n 2, 0, 0, 0), some (.iconst 2, 0, 0, 0), some (.if_icmp .ne 15, 66, 0, 0), none, none, some (.aload_n 0, 0, 0, 0), some (.getfield 37, 7, 10, 753), none, none, some (.bipush 8, 0, 0, 0), none, some (.iload_n 1, 0, 0, 0), some (.iadd, 0, 0, 0), some (.iaload, 0, 0, 0), some (.goto 9, 72, 0, 0), none, none, some (.aload_n 0, 0, 0, 0), some (.getfield 25, 7, 6, 749), none, none, some (.iload_n 1, 0, 0, 0), some (.iaload, 0, 0, 0), some (.ireturn, 0, 0, 0)]
/-- LeavingVoteModel.isIslander(I)Z -/
def sm_c144 : List (Option sm_I) := [some (.iload_n 1, 0, 0, 0), some (.i2l, 0, 0, 0), some (.lconst 0, 0, 0, 0), some (.aload_n 0, 0, 0, 0), some (.getfield 13, 7, 2, 745), none, none, some (.iconst 0, 0, 0, 0), some (.iaload, 0, 0, 0), some (.iconst 1, 0, 0, 0), some (.isub, 0, 0, 0), some (.i2l, 0, 0, 0), some (.invokestatic 79, 133, 3, 819), none, none, some (.ireturn, 0, 0, 0)]
/-- LeavingVoteModel.boat(II)I -/
def sm_c145 : List (Option sm_I) := [some (.aload_n 0, 0, 0, 0), some (.iload_n 1, 0, 0, 0), some (.invokevirtual 135, 146, 2, 875), none, none, some (.ifCond .eq 13, 18, 0, 0), none, none, some (.iload_n 2, 0, 0, 0), some (.i2l, 0, 0, 0), some (.lconst 0, 0, 0, 0), some (.lconst 1, 0, 0, 0), some (.invokestatic 79, 133, 3, 819), none, none, some (.ifCond .ne 7, 22, 0, 0), none, none, some (.iconst (-1), 0, 0, 0), some (.goto 25, 44, 0, 0), none, none, some (.iload_n 2, 0, 0, 0), some (.ifCond .ne 12, 35, 0, 0), none, none, some (.aload_n 0, 0, 0, 0), some (.getfield 31, 7, 8, 751), none, none, some (.iload_n 1, 0, 0, 0), some (.iaload, 0, 0, 0), some (.goto 12, 44, 0, 0), none, none, some (.aload_n 0, 0, 0, 0), some (.getfield 37, 7, 10, 753), none, none, some (.bipush 16, 0, 0, 0), none, some (.iload_n 1, 0, 0, 0), some (.iadd, 0, 0, 0), some (.iaload, 0, 0, 0), some (.ireturn, 0, 0, 0)]
/-- LeavingVoteModel.isBoat(I)Z -/
def sm_c146 : List (Option sm_I) := [some (.iload_n 1, 0, 0, 0), some (.i2l, 0, 0, 0), some (.lconst 0, 0, 0, 0), some (.aload_n 0, 0, 0, 0), some (.getfield 28, 7, 7, 750), none, none, some (.iconst 0, 0, 0, 0), some (.iaload, 0, 0, 0), some (.iconst 1, 0, 0, 0), some (.isub, 0, 0, 0), some (.i2l, 0, 0, 0), some (.invokestatic 79, 133, 3, 819), none, none, some (.ireturn, 0, 0, 0)]
/-- LeavingVoteModel.wants(I)I -/
def sm_c147 : List (Option sm_I) := [some (.iload_n 1, 0, 0, 0), some (.invokestatic 164, 148, 1, 883), none, none, some (.ifCond .eq 12, 16, 0, 0), none, none, some (.aload_n 0, 0, 0, 0), some (.iload_n 1, 0, 0, 0), some (.iconst 0, 0, 0, 0), some (.invokevirtual 145, 149, 3, 886), none, none, some (.goto 4, 17, 0, 0), none, none, some (.iconst (-1), 0, 0, 0), some (.ireturn, 0, 0, 0)]
/-- LeavingVoteModel.isQuestion(I)Z -/
def sm_c148 : List (Option sm_I) := [some (.iload_n 0, 0, 0, 0), some (.i2l, 0, 0, 0), some (.lconst 0, 0, 0, 0), some (.lconst 1, 0, 0, 0), some (.invokestatic 79, 133, 3, 819), none, none, some (.ireturn, 0, 0, 0)]
/-- LeavingVoteModel.wanting(II)I -/
def sm_c149 : List (Option sm_I) := [some (.iconst 0, 0, 0, 0), some (.istore_n 3, 0, 0, 0), some (.iconst 0, 0, 0, 0), some (.istore 4, 0, 0, 0), none, some (.iload 4, 0, 0, 0), none, some (.aload_n 0, 0, 0, 0), some (.getfield 13, 7, 2, 745), none, none, some (.iconst 0, 0, 0, 0), some (.iaload, 0, 0, 0), some (.if_icmp .ge 31, 44, 0, 0), none, none, some (.iload_n 3, 0, 0, 0), some (.aload_n 0, 0, 0, 0), some (.iload_n 1, 0, 0, 0), some (.iload 4, 0, 0, 0), none, some (.iload_n 2, 0, 0, 0), some (.invokevirtual 142, 150, 4, 890), none, none, some (.ifCond .eq 10, 35, 0, 0), none, none, some (.iconst 1, 0, 0, 0), some (.iload 4, 0, 0, 0), none, some (.ishl, 0, 0, 0), some (.goto 4, 36, 0, 0), none, none, some (.iconst 0, 0, 0, 0), some (.ior, 0, 0, 0), some (.istore_n 3, 0, 0, 0), some (.iinc 4 1, 0, 0, 0), none, none, some (.goto (-36), 5, 0, 0), none, none, some (.iload_n 3, 0, 0, 0), some (.ireturn, 0, 0, 0)]
/-- LeavingVoteModel.doesWant(III)Z -/
def sm_c150 : List (Option sm_I) := [some (.aload_n 0, 0, 0, 0), some (.getfield 37, 7, 10, 753), none, none, some (.bipush 22, 0, 0, 0), none, some (.iaload, 0, 0, 0), some (.iconst 1, 0, 0, 0), some (.if_icmp .ne 7, 15, 0, 0), none, none, some (.iconst 1, 0, 0, 0), some (.goto 4, 16, 0, 0), none, none, some (.iconst 0, 0, 0, 0), some (.istore 4, 0, 0, 0), none, some (.aload_n 0, 0, 0, 0), some (.getfield 37, 7, 10, 753), none, none, some (.bipush 21, 0, 0, 0), none, some (.iaload, 0, 0, 0), some (.iconst 1, 0, 0, 0), some (.if_icmp .ne 10, 36, 0, 0), none, none, some (.iload 4, 0, 0, 0), none, some (.ifCond .ne 5, 36, 0, 0), none, none, some (.iconst 0, 0, 0, 0), some (.ireturn, 0, 0, 0), some (.iload_n 2, 0, 0, 0), some (.istore 5, 0, 0, 0), none, some (.iconst 0, 0, 0, 0), some (.istore 6, 0, 0, 0), none, some (.iload 4, 0, 0, 0), none, some (.ifCond .ne 48, 92, 0, 0), none, none, some (.aload_n 0, 0, 0, 0), some (.getfield 16, 7, 3, 746), none, none, some (.iload 5, 0, 0, 0), none, some (.iaload, 0, 0, 0), some (.iconst 2, 0, 0, 0), some (.if_icmp .ne 37, 92, 0, 0), none, none, some (.iload 6, 0, 0, 0), none, some (.iload 5, 0, 0, 0), none, some (.invokestatic 138, 151, 2, 894), none, none, some (.ifCond .ne 27, 92, 0, 0), none, none, some (.iload 6, 0, 0, 0), none, some (.iconst 1, 0, 0, 0), some (.iload 5, 0, 0, 0), none, some (.ishl, 0, 0, 0), some (.ior, 0, 0, 0), some (.istore 6, 0, 0, 0), none, some (.aload_n 0, 0, 0, 0), some (.getfield 37, 7, 10, 753), none, none, some (.bipush 8, 0, 0, 0), none, some (.iload 5, 0, 0, 0), none, some (.iadd, 0, 0, 0), some (.iaload, 0, 0, 0), some (.istore 5, 0, 0, 0), none, some (.goto (-47), 42, 0, 0), none, none, some (.iload 4, 0, 0, 0), none, some (.ifCond .ne 18, 112, 0, 0), none, none, some (.aload_n 0, 0, 0, 0), some (.getfield 16, 7, 3, 746), none, none, some (.iload 5, 0, 0, 0), none, some (.iaload, 0, 0, 0), some (.iconst 3, 0, 0, 0), some (.if_icmp .ne 7, 112, 0, 0), none, none, some (.iconst 1, 0, 0, 0), some (.goto 4, 113, 0, 0), none, none, some (.iconst 0, 0, 0, 0), some (.istore 7, 0, 0, 0), none, some (.aload_n 0, 0, 0, 0), some (.getfield 37, 7, 10, 753), none, none, some (.iload 5, 0, 0, 0), none, some (.iaload, 0, 0, 0), some (.iload_n 1, 0, 0, 0), some (.invokestatic 138, 151, 2, 894), none, none, some (.ifCond .eq 21, 147, 0, 0), none, none, some (.iload 7, 0, 0, 0), none, some (.ifCond .ne 16, 147, 0, 0), none, none, some (.iload_n 3, 0, 0, 0), some (.iload 5, 0, 0, 0), none, some (.invokestatic 138, 151, 2, 894), none, none, some (.ifCond .ne 7, 147, 0, 0), none, none, some (.iconst 1, 0, 0, 0), some (.goto 4, 148, 0, 0), none, none, some (.iconst 0, 0, 0, 0), some (.ireturn, 0, 0, 0)]
/-- LeavingVoteModel.has(II)Z -/
def sm_c151 : List (Option sm_I) := [some (.iload_n 0, 0, 0, 0), some (.iload_n 1, 0, 0, 0), some (.ishr, 0, 0, 0), some (.iconst 1, 0, 0, 0), some (.iand, 0, 0, 0), some (.iconst 1, 0, 0, 0), some (.if_icmp .ne 7, 13, 0, 0), none, none, some (.iconst 1, 0, 0, 0), some (.goto 4, 14, 0, 0), none, none, some (.iconst 0, 0, 0, 0), some (.ireturn, 0, 0, 0)]
/-- LeavingVoteModel.leave(I)I -/
def sm_c152 : List (Option sm_I) := [some (.iload_n 1, 0, 0, 0), some (.invokestatic 164, 148, 1, 883), none, none, some (.ifCond .eq 11, 15, 0, 0), none, none, some (.aload_n 0, 0, 0, 0), some (.iload_n 1, 0, 0, 0), some (.invokevirtual 155, 153, 2, 901), none, none, some (.goto 4, 16, 0, 0), none, none, some (.iconst (-1), 0, 0, 0), some (.ireturn, 0, 0, 0)]
/-- LeavingVoteModel.leaving(I)I -/
def sm_c153 : List (Option sm_I) := [some (.aload_n 0, 0, 0, 0), some (.aload_n 0, 0, 0, 0), some (.iload_n 1, 0, 0, 0), some (.iconst 0, 0, 0, 0), some (.invokevirtual 145, 149, 3, 886), none, none, some (.iconst (-1), 0, 0, 0), some (.invokevirtual 149, 154, 3, 905), none, none, some (.aload_n 0, 0, 0, 0), some (.getfield 34, 7, 9, 752), none, none, some (.iconst 0, 0, 0, 0), some (.iaload, 0, 0, 0), some (.invokestatic 152, 155, 2, 909), none, none, some (.ireturn, 0, 0, 0)]
/-- LeavingVoteModel.seated(II)I -/
def sm_c154 : List (Option sm_I) := [some (.iconst 0, 0, 0, 0), some (.istore_n 3, 0, 0, 0), some (.iconst 0, 0, 0, 0), some (.istore 4, 0, 0, 0), none, some (.iload 4, 0, 0, 0), none, some (.iconst 5, 0, 0, 0), some (.if_icmp .ge 75, 83, 0, 0), none, none, some (.iload 4, 0, 0, 0), none, some (.aload_n 0, 0, 0, 0), some (.getfield 28, 7, 7, 750), none, none, some (.iconst 0, 0, 0, 0), some (.iaload, 0, 0, 0), some (.if_icmp .ge 32, 51, 0, 0), none, none, some (.aload_n 0, 0, 0, 0), some (.getfield 37, 7, 10, 753), none, none, some (.bipush 16, 0, 0, 0), none, some (.iload 4, 0, 0, 0), none, some (.iadd, 0, 0, 0), some (.iaload, 0, 0, 0), some (.ifCond .ne 19, 51, 0, 0), none, none, some (.iload_n 2, 0, 0, 0), some (.ifCond .lt 11, 47, 0, 0), none, none, some (.iload 4, 0, 0, 0), none, some (.iconst 2, 0, 0, 0), some (.irem, 0, 0, 0), some (.iload_n 2, 0, 0, 0), some (.if_icmp .ne 7, 51, 0, 0), none, none, some (.iconst 1, 0, 0, 0), some (.goto 4, 52, 0, 0), none, none, some (.iconst 0, 0, 0, 0), some (.istore 5, 0, 0, 0), none, some (.aload_n 0, 0, 0, 0), some (.getfield 58, 7, 21, 764), none, none, some (.iload 4, 0, 0, 0), none, some (.iload 5, 0, 0, 0), none, some (.ifCond .eq 13, 75, 0, 0), none, none, some (.aload_n 0, 0, 0, 0), some (.getfield 31, 7, 8, 751), none, none, some (.iload 4, 0, 0, 0), none, some (.iaload, 0, 0, 0), some (.goto 4, 76, 0, 0), none, none, some (.iconst 0, 0, 0, 0), some (.iastore, 0, 0, 0), some (.iinc 4 1, 0, 0, 0), none, none, some (.goto (-75), 5, 0, 0), none, none, some (.iconst 0, 0, 0, 0), some (.istore 4, 0, 0, 0), none, some (.iload 4, 0, 0, 0), none, some (.bipush 8, 0, 0, 0), none, some (.if_icmp .ge 133, 223, 0, 0), none, none, some (.aload_n 0, 0, 0, 0), some (.getfield 55, 7, 20, 763), none, none, some (.iload 4, 0, 0, 0), none, some (.bipush (-4), 0, 0, 0), none, some (.iastore, 0, 0, 0), some (.iconst 0, 0, 0, 0), some (.istore 5, 0, 0, 0), none, some (.iload 5, 0, 0, 0), none, some (.iconst 5, 0, 0, 0), some (.if_icmp .ge 68, 176, 0, 0), none, none, some (.iload_n 1, 0, 0, 0), some (.iload 4, 0, 0, 0), none, some (.invokestatic 138, 151, 2, 894), none, none, some (.ifCond .eq 59, 176, 0, 0), none, none, some (.aload_n 0, 0, 0, 0), some (.getfield 55, 7, 20, 763), none, none, some (.iload 4, 0, 0, 0), none, some (.iaload, 0, 0, 0), some (.ifCond .ge 49, 176, 0, 0), none, none, some (.aload_n 0, 0, 0, 0), some (.getfield 37, 7, 10, 753), none, none, some (.bipush 22, 0, 0, 0), none, some (.iaload, 0, 0, 0), some (.ifCond .ne 39, 176, 0, 0), none, none, some (.aload_n 0, 0, 0, 0), some (.getfield 58, 7, 21, 764), none, none, some (.iload 5, 0, 0, 0), none, some (.iaload, 0, 0, 0), some (.ifCond .le 23, 170, 0, 0), none, none, some (.aload_n 0, 0, 0, 0), some (.getfield 58, 7, 21, 764), none, none, some (.iload 5, 0, 0, 0), none, some (.dup2, 0, 0, 0), some (.iaload, 0, 0, 0), some (.iconst 1, 0, 0, 0), some (.isub, 0, 0, 0), some (.iastore, 0, 0, 0), some (.aload_n 0, 0, 0, 0), some (.getfield 55, 7, 20, 763), none, none, some (.iload 4, 0, 0, 0), none, some (.iload 5, 0, 0, 0), none, some (.iastore, 0, 0, 0), some (.iinc 5 1, 0, 0, 0), none, none, some (.goto (-68), 105, 0, 0), none, none, some (.iload_n 3, 0, 0, 0), some (.iload_n 1, 0, 0, 0), some (.iload 4, 0, 0, 0), none, some (.invokestatic 138, 151, 2, 894), none, none, some (.ifCond .eq 31, 214, 0, 0), none, none, some (.aload_n 0, 0, 0, 0), some (.getfield 55, 7, 20, 763), none, none, some (.iload 4, 0, 0, 0), none, some (.iaload, 0, 0, 0), some (.ifCond .ge 14, 207, 0, 0), none, none, some (.aload_n 0, 0, 0, 0), some (.getfield 37, 7, 10, 753), none, none, some (.bipush 22, 0, 0, 0), none, some (.iaload, 0, 0, 0), some (.iconst 1, 0, 0, 0), some (.if_icmp .ne 10, 214, 0, 0), none, none, some (.iconst 1, 0, 0, 0), some (.iload 4, 0, 0, 0), none, some (.ishl, 0, 0, 0), some (.goto 4, 215, 0, 0), none, none, some (.iconst 0, 0, 0, 0), some (.ior, 0, 0, 0), some (.istore_n 3, 0, 0, 0), some (.iinc 4 1, 0, 0, 0), none, none, some (.goto (-134), 86, 0, 0), none, none, some (.iload_n 3, 0, 0, 0), some (.ireturn, 0, 0, 0)]
/-- LeavingVoteModel.bedded(II)I -/
def sm_c155 : List (Option sm_I) := [some (.iconst 0, 0, 0, 0), some (.istore_n 2, 0, 0, 0), some (.iconst 0, 0, 0, 0), some (.istore_n 3, 0, 0, 0), some (.iconst 0, 0, 0, 0), some (.istore 4, 0, 0, 0), none, some (.iload 4, 0, 0, 0), none, some (.bipush 8, 0, 0, 0), none, some (.if_icmp .ge 33, 44, 0, 0), none, none, some (.iload_n 0, 0, 0, 0), some (.iload 4, 0, 0, 0), none, some (.invokestatic 138, 151, 2, 894), none, none, some (.ifCond .eq 18, 38, 0, 0), none, none, some (.iload_n 3, 0, 0, 0), some (.iload_n 1, 0, 0, 0), some (.if_icmp .ge 13, 38, 0, 0), none, none, some (.iload_n 2, 0, 0, 0), some (.iconst 1, 0, 0, 0), some (.iload 4, 0, 0, 0), none, some (.ishl, 0, 0, 0), some (.ior, 0, 0, 0), some (.istore_n 2, 0, 0, 0), some (.iinc 3 1, 0, 0, 0), none, none, some (.iinc 4 1, 0, 0, 0), none, none, some (.goto (-34), 7, 0, 0), none, none, some (.iload_n 2, 0, 0, 0), some (.ireturn, 0, 0, 0)]
/-- LeavingVoteModel.by(II)I -/
def sm_c156 : List (Option sm_I) := [some (.iload_n 1, 0, 0, 0), some (.invokestatic 164, 148, 1, 883), none, none, some (.ifCond .eq 11, 15, 0, 0), none, none, some (.aload_n 0, 0, 0, 0), some (.iload_n 2, 0, 0, 0), some (.invokevirtual 130, 144, 2, 866), none, none, some (.ifCond .ne 5, 17, 0, 0), none, none, some (.iconst (-1), 0, 0, 0), some (.ireturn, 0, 0, 0), some (.aload_n 0, 0, 0, 0), some (.iload_n 1, 0, 0, 0), some (.invokevirtual 155, 153, 2, 901), none, none, some (.iload_n 2, 0, 0, 0), some (.invokestatic 138, 151, 2, 894), none, none, some (.ifCond .eq 12, 38, 0, 0), none, none, some (.aload_n 0, 0, 0, 0), some (.getfield 55, 7, 20, 763), none, none, some (.iload_n 2, 0, 0, 0), some (.iaload, 0, 0, 0), some (.goto 5, 40, 0, 0), none, none, some (.bipush (-4), 0, 0, 0), none, some (.ireturn, 0, 0, 0)]
/-- LeavingVoteModel.falls(I)I -/
def sm_c157 : List (Option sm_I) := [some (.iload_n 1, 0, 0, 0), some (.invokestatic 164, 148, 1, 883), none, none, some (.ifCond .ne 7, 11, 0, 0), none, none, some (.iconst (-1), 0, 0, 0), some (.goto 16, 24, 0, 0), none, none, some (.aload_n 0, 0, 0, 0), some (.iload_n 1, 0, 0, 0), some (.invokevirtual 167, 158, 2, 920), none, none, some (.ifCond .eq 7, 23, 0, 0), none, none, some (.iconst 1, 0, 0, 0), some (.goto 4, 24, 0, 0), none, none, some (.iconst 0, 0, 0, 0), some (.ireturn, 0, 0, 0)]
/-- LeavingVoteModel.doesFall(I)Z -/
def sm_c158 : List (Option sm_I) := [some (.aload_n 0, 0, 0, 0), some (.aload_n 0, 0, 0, 0), some (.iload_n 1, 0, 0, 0), some (.invokevirtual 155, 153, 2, 901), none, none, some (.invokestatic 158, 159, 1, 924), none, none, some (.invokevirtual 161, 160, 2, 927), none, none, some (.ireturn, 0, 0, 0)]
/-- LeavingVoteModel.bits(I)I -/
def sm_c159 : List (Option sm_I) := [some (.iconst 0, 0, 0, 0), some (.istore_n 1, 0, 0, 0), some (.iconst 0, 0, 0, 0), some (.istore_n 2, 0, 0, 0), some (.iload_n 2, 0, 0, 0), some (.bipush 8, 0, 0, 0), none, some (.if_icmp .ge 17, 24, 0, 0), none, none, some (.iload_n 1, 0, 0, 0), some (.iload_n 0, 0, 0, 0), some (.iload_n 2, 0, 0, 0), some (.ishr, 0, 0, 0), some (.iconst 1, 0, 0, 0), some (.iand, 0, 0, 0), some (.iadd, 0, 0, 0), some (.istore_n 1, 0, 0, 0), some (.iinc 2 1, 0, 0, 0), none, none, some (.goto (-17), 4, 0, 0), none, none, some (.iload_n 1, 0, 0, 0), some (.ireturn, 0, 0, 0)]
/-- LeavingVoteModel.isFall(I)Z -/
def sm_c160 : List (Option sm_I) := [some (.bipush 10, 0, 0, 0), none, some (.iload_n 1, 0, 0, 0), some (.imul, 0, 0, 0), some (.aload_n 0, 0, 0, 0), some (.getfield 34, 7, 9, 752), none, none, some (.iconst 2, 0, 0, 0), some (.iaload, 0, 0, 0), some (.aload_n 0, 0, 0, 0), some (.getfield 13, 7, 2, 745), none, none, some (.iconst 0, 0, 0, 0), some (.iaload, 0, 0, 0), some (.imul, 0, 0, 0), some (.if_icmp .lt 7, 24, 0, 0), none, none, some (.iconst 1, 0, 0, 0), some (.goto 4, 25, 0, 0), none, none, some (.iconst 0, 0, 0, 0), some (.ireturn, 0, 0, 0)]
/-- LeavingVoteModel.milked(II)I -/
def sm_c161 : List (Option sm_I) := [some (.iload_n 1, 0, 0, 0), some (.invokestatic 164, 148, 1, 883), none, none, some (.ifCond .eq 13, 17, 0, 0), none, none, some (.iload_n 2, 0, 0, 0), some (.i2l, 0, 0, 0), some (.lconst 0, 0, 0, 0), some (.lconst 1, 0, 0, 0), some (.invokestatic 79, 133, 3, 819), none, none, some (.ifCond .ne 5, 19, 0, 0), none, none, some (.iconst (-1), 0, 0, 0), some (.ireturn, 0, 0, 0), some (.aload_n 0, 0, 0, 0), some (.aload_n 0, 0, 0, 0), some (.iload_n 1, 0, 0, 0), some (.invokevirtual 155, 153, 2, 901), none, none, some (.invokevirtual 170, 162, 2, 935), none, none, some (.istore_n 3, 0, 0, 0), some (.iload_n 2, 0, 0, 0), some (.ifCond .ne 7, 37, 0, 0), none, none, some (.iload_n 3, 0, 0, 0), some (.goto 18, 52, 0, 0), none, none, some (.iload_n 3, 0, 0, 0), some (.aload_n 0, 0, 0, 0), some (.getfield 34, 7, 9, 752), none, none, some (.iconst 1, 0, 0, 0), some (.iaload, 0, 0, 0), some (.if_icmp .lt 7, 51, 0, 0), none, none, some (.iconst 1, 0, 0, 0), some (.goto 4, 52, 0, 0), none, none, some (.iconst 0, 0, 0, 0), some (.ireturn, 0, 0, 0)]
/-- LeavingVoteModel.cowsWithout(I)I -/
def sm_c162 : List (Option sm_I) := [some (.iconst 0, 0, 0, 0), some (.istore_n 2, 0, 0, 0), some (.iconst 0, 0, 0, 0), some (.istore_n 3, 0, 0, 0), some (.iload_n 3, 0, 0, 0), some (.aload_n 0, 0, 0, 0), some (.getfield 13, 7, 2, 745), none, none, some (.iconst 0, 0, 0, 0), some (.iaload, 0, 0, 0), some (.if_icmp .ge 30, 41, 0, 0), none, none, some (.iload_n 2, 0, 0, 0), some (.iload_n 1, 0, 0, 0), some (.iload_n 3, 0, 0, 0), some (.invokestatic 138, 151, 2, 894), none, none, some (.ifCond .eq 7, 27, 0, 0), none, none, some (.iconst 0, 0, 0, 0), some (.goto 9, 33, 0, 0), none, none, some (.aload_n 0, 0, 0, 0), some (.getfield 25, 7, 6, 749), none, none, some (.iload_n 3, 0, 0, 0), some (.iaload, 0, 0, 0), some (.iadd, 0, 0, 0), some (.istore_n 2, 0, 0, 0), some (.iinc 3 1, 0, 0, 0), none, none, some (.goto (-34), 4, 0, 0), none, none, some (.iload_n 2, 0, 0, 0), some (.ireturn, 0, 0, 0)]
/-- LeavingVoteModel.lean(II)I -/
def sm_c163 : List (Option sm_I) := [some (.aload_n 0, 0, 0, 0), some (.iload_n 1, 0, 0, 0), some (.invokevirtual 130, 144, 2, 866), none, none, some (.ifCond .eq 24, 29, 0, 0), none, none, some (.iload_n 2, 0, 0, 0), some (.i2l, 0, 0, 0), some (.lconst 0, 0, 0, 0), some (.ldc2_w 133, 3, 0, 870), none, none, some (.invokestatic 79, 133, 3, 819), none, none, some (.ifCond .eq 12, 29, 0, 0), none, none, some (.aload_n 0, 0, 0, 0), some (.iload_n 1, 0, 0, 0), some (.iload_n 2, 0, 0, 0), some (.invokevirtual 176, 164, 3, 943), none, none, some (.goto 4, 30, 0, 0), none, none, some (.iconst (-1), 0, 0, 0), some (.ireturn, 0, 0, 0)]
/-- LeavingVoteModel.change(II)I -/
def sm_c164 : List (Option sm_I) := [some (.aload_n 0, 0, 0, 0), some (.invokevirtual 173, 165, 1, 947), none, none, some (.aload_n 0, 0, 0, 0), some (.getfield 37, 7, 10, 753), none, none, some (.iload_n 1, 0, 0, 0), some (.iaload, 0, 0, 0), some (.istore_n 3, 0, 0, 0), some (.aload_n 0, 0, 0, 0), some (.getfield 37, 7, 10, 753), none, none, some (.iload_n 1, 0, 0, 0), some (.iload_n 2, 0, 0, 0), some (.iastore, 0, 0, 0), some (.iload_n 3, 0, 0, 0), some (.ireturn, 0, 0, 0)]
/-- LeavingVoteModel.note()V -/
def sm_c165 : List (Option sm_I) := [some (.aload_n 0, 0, 0, 0), some (.getfield 121, 7, 12, 755), none, none, some (.bipush 8, 0, 0, 0), none, some (.if_icmp .ne 43, 49, 0, 0), none, none, some (.iconst 0, 0, 0, 0), some (.istore_n 1, 0, 0, 0), some (.iload_n 1, 0, 0, 0), some (.sipush 168, 0, 0, 0), none, none, some (.if_icmp .ge 24, 39, 0, 0), none, none, some (.aload_n 0, 0, 0, 0), some (.getfield 40, 7, 11, 754), none, none, some (.iload_n 1, 0, 0, 0), some (.aload_n 0, 0, 0, 0), some (.getfield 40, 7, 11, 754), none, none, some (.bipush 24, 0, 0, 0), none, some (.iload_n 1, 0, 0, 0), some (.iadd, 0, 0, 0), some (.iaload, 0, 0, 0), some (.iastore, 0, 0, 0), some (.iinc 1 1, 0, 0, 0), none, none, some (.goto (-25), 11, 0, 0), none, none, some (.aload_n 0, 0, 0, 0), some (.dup, 0, 0, 0), some (.getfield 121, 7, 12, 755), none, none, some (.iconst 1, 0, 0, 0), some (.isub, 0, 0, 0), some (.putfield 121, 7, 12, 755), none, none, some (.iconst 0, 0, 0, 0), some (.istore_n 1, 0, 0, 0), some (.iload_n 1, 0, 0, 0), some (.bipush 24, 0, 0, 0), none, some (.if_icmp .ge 29, 83, 0, 0), none, none, some (.aload_n 0, 0, 0, 0), some (.getfield 40, 7, 11, 754), none, none, some (.bipush 24, 0, 0, 0), none, some (.aload_n 0, 0, 0, 0), some (.getfield 121, 7, 12, 755), none, none, some (.imul, 0, 0, 0), some (.iload_n 1, 0, 0, 0), some (.iadd, 0, 0, 0), some (.aload_n 0, 0, 0, 0), some (.getfield 37, 7, 10, 753), none, none, some (.iload_n 1, 0, 0, 0), some (.iaload, 0, 0, 0), some (.iastore, 0, 0, 0), some (.iinc 1 1, 0, 0, 0), none, none, some (.goto (-29), 51, 0, 0), none, none, some (.aload_n 0, 0, 0, 0), some (.dup, 0, 0, 0), some (.getfield 121, 7, 12, 755), none, none, some (.iconst 1, 0, 0, 0), some (.iadd, 0, 0, 0), some (.putfield 121, 7, 12, 755), none, none, some (.return_, 0, 0, 0)]
/-- LeavingVoteModel.mind(II)I -/
def sm_c166 : List (Option sm_I) := [some (.aload_n 0, 0, 0, 0), some (.iload_n 1, 0, 0, 0), some (.invokevirtual 130, 144, 2, 866), none, none, some (.ifCond .eq 23, 28, 0, 0), none, none, some (.aload_n 0, 0, 0, 0), some (.iload_n 2, 0, 0, 0), some (.invokevirtual 130, 144, 2, 866), none, none, some (.ifCond .eq 15, 28, 0, 0), none, none, some (.aload_n 0, 0, 0, 0), some (.bipush 8, 0, 0, 0), none, some (.iload_n 1, 0, 0, 0), some (.iadd, 0, 0, 0), some (.iload_n 2, 0, 0, 0), some (.invokevirtual 176, 164, 3, 943), none, none, some (.goto 4, 29, 0, 0), none, none, some (.iconst (-1), 0, 0, 0), some (.ireturn, 0, 0, 0)]
/-- LeavingVoteModel.hold(I)I -/
def sm_c167 : List (Option sm_I) := [some (.aload_n 0, 0, 0, 0), some (.iload_n 1, 0, 0, 0), some (.invokevirtual 135, 146, 2, 875), none, none, some (.ifCond .eq 27, 32, 0, 0), none, none, some (.iconst 1, 0, 0, 0), some (.aload_n 0, 0, 0, 0), some (.bipush 16, 0, 0, 0), none, some (.iload_n 1, 0, 0, 0), some (.iadd, 0, 0, 0), some (.iconst 1, 0, 0, 0), some (.aload_n 0, 0, 0, 0), some (.getfield 37, 7, 10, 753), none, none, some (.bipush 16, 0, 0, 0), none, some (.iload_n 1, 0, 0, 0), some (.iadd, 0, 0, 0), some (.iaload, 0, 0, 0), some (.isub, 0, 0, 0), some (.invokevirtual 176, 164, 3, 943), none, none, some (.isub, 0, 0, 0), some (.goto 4, 33, 0, 0), none, none, some (.iconst (-1), 0, 0, 0), some (.ireturn, 0, 0, 0)]
/-- LeavingVoteModel.weather(I)I -/
def sm_c168 : List (Option sm_I) := [some (.iload_n 1, 0, 0, 0), some (.i2l, 0, 0, 0), some (.lconst 0, 0, 0, 0), some (.lconst 1, 0, 0, 0), some (.invokestatic 79, 133, 3, 819), none, none, some (.ifCond .eq 27, 34, 0, 0), none, none, some (.iconst 1, 0, 0, 0), some (.aload_n 0, 0, 0, 0), some (.bipush 21, 0, 0, 0), none, some (.iload_n 1, 0, 0, 0), some (.iadd, 0, 0, 0), some (.iconst 1, 0, 0, 0), some (.aload_n 0, 0, 0, 0), some (.getfield 37, 7, 10, 753), none, none, some (.bipush 21, 0, 0, 0), none, some (.iload_n 1, 0, 0, 0), some (.iadd, 0, 0, 0), some (.iaload, 0, 0, 0), some (.isub, 0, 0, 0), some (.invokevirtual 176, 164, 3, 943), none, none, some (.isub, 0, 0, 0), some (.goto 4, 35, 0, 0), none, none, some (.iconst (-1), 0, 0, 0), some (.ireturn, 0, 0, 0)]
/-- LeavingVoteModel.undo()I -/
def sm_c169 : List (Option sm_I) := [some (.aload_n 0, 0, 0, 0), some (.getfield 121, 7, 12, 755), none, none, some (.ifCond .ne 6, 10, 0, 0), none, none, some (.bipush (-2), 0, 0, 0), none, some (.ireturn, 0, 0, 0), some (.aload_n 0, 0, 0, 0), some (.dup, 0, 0, 0), some (.getfield 121, 7, 12, 755), none, none, some (.iconst 1, 0, 0, 0), some (.isub, 0, 0, 0), some (.putfield 121, 7, 12, 755), none, none, some (.iconst 0, 0, 0, 0), some (.istore_n 1, 0, 0, 0), some (.iload_n 1, 0, 0, 0), some (.bipush 24, 0, 0, 0), none, some (.if_icmp .ge 29, 54, 0, 0), none, none, some (.aload_n 0, 0, 0, 0), some (.getfield 37, 7, 10, 753), none, none, some (.iload_n 1, 0, 0, 0), some (.aload_n 0, 0, 0, 0), some (.getfield 40, 7, 11, 754), none, none, some (.bipush 24, 0, 0, 0), none, some (.aload_n 0, 0, 0, 0), some (.getfield 121, 7, 12, 755), none, none, some (.imul, 0, 0, 0), some (.iload_n 1, 0, 0, 0), some (.iadd, 0, 0, 0), some (.iaload, 0, 0, 0), some (.iastore, 0, 0, 0), some (.iinc 1 1, 0, 0, 0), none, none, some (.goto (-29), 22, 0, 0), none, none, some (.aload_n 0, 0, 0, 0), some (.getfield 121, 7, 12, 755), none, none, some (.ireturn, 0, 0, 0)]
/-- LeavingVoteModel.decides(I)I -/
def sm_c170 : List (Option sm_I) := [some (.iload_n 1, 0, 0, 0), some (.invokestatic 164, 148, 1, 883), none, none, some (.ifCond .ne 5, 9, 0, 0), none, none, some (.iconst (-1), 0, 0, 0), some (.ireturn, 0, 0, 0), some (.iconst 0, 0, 0, 0), some (.istore_n 2, 0, 0, 0), some (.iconst 0, 0, 0, 0), some (.istore_n 3, 0, 0, 0), some (.iload_n 3, 0, 0, 0), some (.aload_n 0, 0, 0, 0), some (.getfield 13, 7, 2, 745), none, none, some (.iconst 0, 0, 0, 0), some (.iaload, 0, 0, 0), some (.if_icmp .ge 35, 55, 0, 0), none, none, some (.iload_n 2, 0, 0, 0), some (.aload_n 0, 0, 0, 0), some (.iload_n 1, 0, 0, 0), some (.iconst 1, 0, 0, 0), some (.iload_n 3, 0, 0, 0), some (.ishl, 0, 0, 0), some (.invokevirtual 179, 171, 3, 971), none, none, some (.aload_n 0, 0, 0, 0), some (.iload_n 1, 0, 0, 0), some (.invokevirtual 167, 158, 2, 920), none, none, some (.if_icmp .eq 9, 46, 0, 0), none, none, some (.iconst 1, 0, 0, 0), some (.iload_n 3, 0, 0, 0), some (.ishl, 0, 0, 0), some (.goto 4, 47, 0, 0), none, none, some (.iconst 0, 0, 0, 0), some (.ior, 0, 0, 0), some (.istore_n 2, 0, 0, 0), some (.iinc 3 1, 0, 0, 0), none, none, some (.goto (-39), 13, 0, 0), none, none, some (.iload_n 2, 0, 0, 0), some (.ireturn, 0, 0, 0)]
/-- LeavingVoteModel.fallsBut(II)Z -/
def sm_c171 : List (Option sm_I) := [some (.iconst 0, 0, 0, 0), some (.istore_n 3, 0, 0, 0), some (.iload_n 3, 0, 0, 0), some (.aload_n 0, 0, 0, 0), some (.getfield 13, 7, 2, 745), none, none, some (.iconst 0, 0, 0, 0), some (.iaload, 0, 0, 0), some (.if_icmp .ge 33, 42, 0, 0), none, none, some (.aload_n 0, 0, 0, 0), some (.getfield 37, 7, 10, 753), none, none, some (.iload_n 3, 0, 0, 0), some (.dup2, 0, 0, 0), some (.iaload, 0, 0, 0), some (.iload_n 2, 0, 0, 0), some (.iload_n 3, 0, 0, 0), some (.invokestatic 138, 151, 2, 894), none, none, some (.ifCond .eq 9, 33, 0, 0), none, none, some (.iconst 1, 0, 0, 0), some (.iload_n 1, 0, 0, 0), some (.ishl, 0, 0, 0), some (.goto 4, 34, 0, 0), none, none, some (.iconst 0, 0, 0, 0), some (.ixor, 0, 0, 0), some (.iastore, 0, 0, 0), some (.iinc 3 1, 0, 0, 0), none, none, some (.goto (-37), 2, 0, 0), none, none, some (.aload_n 0, 0, 0, 0), some (.iload_n 1, 0, 0, 0), some (.invokevirtual 167, 158, 2, 920), none, none, some (.istore_n 3, 0, 0, 0), some (.iconst 0, 0, 0, 0), some (.istore 4, 0, 0, 0), none, some (.iload 4, 0, 0, 0), none, some (.aload_n 0, 0, 0, 0), some (.getfield 13, 7, 2, 745), none, none, some (.iconst 0, 0, 0, 0), some (.iaload, 0, 0, 0), some (.if_icmp .ge 35, 94, 0, 0), none, none, some (.aload_n 0, 0, 0, 0), some (.getfield 37, 7, 10, 753), none, none, some (.iload 4, 0, 0, 0), none, some (.dup2, 0, 0, 0), some (.iaload, 0, 0, 0), some (.iload_n 2, 0, 0, 0), some (.iload 4, 0, 0, 0), none, some (.invokestatic 138, 151, 2, 894), none, none, some (.ifCond .eq 9, 85, 0, 0), none, none, some (.iconst 1, 0, 0, 0), some (.iload_n 1, 0, 0, 0), some (.ishl, 0, 0, 0), some (.goto 4, 86, 0, 0), none, none, some (.iconst 0, 0, 0, 0), some (.ixor, 0, 0, 0), some (.iastore, 0, 0, 0), some (.iinc 4 1, 0, 0, 0), none, none, some (.goto (-40), 51, 0, 0), none, none, some (.iload_n 3, 0, 0, 0), some (.ireturn, 0, 0, 0)]
/-- LeavingVoteModel.win(I)I -/
def sm_c172 : List (Option sm_I) := [some (.iload_n 1, 0, 0, 0), some (.invokestatic 164, 148, 1, 883), none, none, some (.ifCond .ne 5, 9, 0, 0), none, none, some (.iconst (-1), 0, 0, 0), some (.ireturn, 0, 0, 0), some (.aload_n 0, 0, 0, 0), some (.iload_n 1, 0, 0, 0), some (.invokevirtual 167, 158, 2, 920), none, none, some (.istore_n 2, 0, 0, 0), some (.bipush (-4), 0, 0, 0), none, some (.istore_n 3, 0, 0, 0), some (.iconst 1, 0, 0, 0), some (.istore 4, 0, 0, 0), none, some (.iload 4, 0, 0, 0), none, some (.iconst 1, 0, 0, 0), some (.aload_n 0, 0, 0, 0), some (.getfield 13, 7, 2, 745), none, none, some (.iconst 0, 0, 0, 0), some (.iaload, 0, 0, 0), some (.ishl, 0, 0, 0), some (.if_icmp .ge 55, 86, 0, 0), none, none, some (.iload_n 3, 0, 0, 0), some (.ifCond .lt 15, 50, 0, 0), none, none, some (.iload 4, 0, 0, 0), none, some (.invokestatic 158, 159, 1, 924), none, none, some (.iload_n 3, 0, 0, 0), some (.invokestatic 158, 159, 1, 924), none, none, some (.if_icmp .ge 7, 54, 0, 0), none, none, some (.iconst 1, 0, 0, 0), some (.goto 4, 55, 0, 0), none, none, some (.iconst 0, 0, 0, 0), some (.istore 5, 0, 0, 0), none, some (.iload 5, 0, 0, 0), none, some (.ifCond .eq 19, 78, 0, 0), none, none, some (.aload_n 0, 0, 0, 0), some (.iload_n 1, 0, 0, 0), some (.iload 4, 0, 0, 0), none, some (.invokevirtual 179, 171, 3, 971), none, none, some (.iload_n 2, 0, 0, 0), some (.if_icmp .eq 8, 78, 0, 0), none, none, some (.iload 4, 0, 0, 0), none, some (.goto 4, 79, 0, 0), none, none, some (.iload_n 3, 0, 0, 0), some (.istore_n 3, 0, 0, 0), some (.iinc 4 1, 0, 0, 0), none, none, some (.goto (-62), 21, 0, 0), none, none, some (.iload_n 3, 0, 0, 0), some (.ireturn, 0, 0, 0)]
/-- LeavingVoteModel.fill()I -/
def sm_c173 : List (Option sm_I) := [some (.aload_n 0, 0, 0, 0), some (.getfield 37, 7, 10, 753), none, none, some (.bipush 22, 0, 0, 0), none, some (.iaload, 0, 0, 0), some (.iconst 1, 0, 0, 0), some (.if_icmp .ne 7, 15, 0, 0), none, none, some (.iconst 1, 0, 0, 0), some (.goto 4, 16, 0, 0), none, none, some (.iconst 0, 0, 0, 0), some (.istore_n 1, 0, 0, 0), some (.iconst 0, 0, 0, 0), some (.istore_n 2, 0, 0, 0), some (.iconst 0, 0, 0, 0), some (.istore_n 3, 0, 0, 0), some (.iconst 0, 0, 0, 0), some (.istore 4, 0, 0, 0), none, some (.iload 4, 0, 0, 0), none, some (.aload_n 0, 0, 0, 0), some (.getfield 28, 7, 7, 750), none, none, some (.iconst 0, 0, 0, 0), some (.iaload, 0, 0, 0), some (.if_icmp .ge 36, 68, 0, 0), none, none, some (.iload_n 2, 0, 0, 0), some (.aload_n 0, 0, 0, 0), some (.getfield 37, 7, 10, 753), none, none, some (.bipush 16, 0, 0, 0), none, some (.iload 4, 0, 0, 0), none, some (.iadd, 0, 0, 0), some (.iaload, 0, 0, 0), some (.ifCond .ne 13, 59, 0, 0), none, none, some (.aload_n 0, 0, 0, 0), some (.getfield 31, 7, 8, 751), none, none, some (.iload 4, 0, 0, 0), none, some (.iaload, 0, 0, 0), some (.goto 4, 60, 0, 0), none, none, some (.iconst 0, 0, 0, 0), some (.iadd, 0, 0, 0), some (.istore_n 2, 0, 0, 0), some (.iinc 4 1, 0, 0, 0), none, none, some (.goto (-41), 24, 0, 0), none, none, some (.iconst 0, 0, 0, 0), some (.istore 4, 0, 0, 0), none, some (.iload 4, 0, 0, 0), none, some (.aload_n 0, 0, 0, 0), some (.getfield 13, 7, 2, 745), none, none, some (.iconst 0, 0, 0, 0), some (.iaload, 0, 0, 0), some (.if_icmp .ge 35, 114, 0, 0), none, none, some (.iload_n 3, 0, 0, 0), some (.aload_n 0, 0, 0, 0), some (.getfield 16, 7, 3, 746), none, none, some (.iload 4, 0, 0, 0), none, some (.iaload, 0, 0, 0), some (.iconst 3, 0, 0, 0), some (.if_icmp .ne 14, 105, 0, 0), none, none, some (.iload_n 1, 0, 0, 0), some (.ifCond .ne 10, 105, 0, 0), none, none, some (.iconst 1, 0, 0, 0), some (.iload 4, 0, 0, 0), none, some (.ishl, 0, 0, 0), some (.goto 4, 106, 0, 0), none, none, some (.iconst 0, 0, 0, 0), some (.ior, 0, 0, 0), some (.istore_n 3, 0, 0, 0), some (.iinc 4 1, 0, 0, 0), none, none, some (.goto (-40), 71, 0, 0), none, none, some (.bipush (-4), 0, 0, 0), none, some (.istore 4, 0, 0, 0), none, some (.iconst 0, 0, 0, 0), some (.istore 5, 0, 0, 0), none, some (.iload 5, 0, 0, 0), none, some (.iconst 1, 0, 0, 0), some (.aload_n 0, 0, 0, 0), some (.getfield 13, 7, 2, 745), none, none, some (.iconst 0, 0, 0, 0), some (.iaload, 0, 0, 0), some (.ishl, 0, 0, 0), some (.if_icmp .ge 104, 235, 0, 0), none, none, some (.iload 5, 0, 0, 0), none, some (.invokestatic 158, 159, 1, 924), none, none, some (.istore 6, 0, 0, 0), none, some (.iload 5, 0, 0, 0), none, some (.iload_n 3, 0, 0, 0), some (.iand, 0, 0, 0), some (.ifCond .ne 52, 197, 0, 0), none, none, some (.iload 6, 0, 0, 0), none, some (.aload_n 0, 0, 0, 0), some (.getfield 34, 7, 9, 752), none, none, some (.iconst 0, 0, 0, 0), some (.iaload, 0, 0, 0), some (.if_icmp .gt 41, 197, 0, 0), none, none, some (.iload_n 1, 0, 0, 0), some (.ifCond .ne 9, 169, 0, 0), none, none, some (.iload 6, 0, 0, 0), none, some (.iload_n 2, 0, 0, 0), some (.if_icmp .gt 31, 197, 0, 0), none, none, some (.aload_n 0, 0, 0, 0), some (.iload 6, 0, 0, 0), none, some (.invokevirtual 161, 160, 2, 927), none, none, some (.ifCond .eq 22, 197, 0, 0), none, none, some (.aload_n 0, 0, 0, 0), some (.iload 5, 0, 0, 0), none, some (.invokevirtual 170, 162, 2, 935), none, none, some (.aload_n 0, 0, 0, 0), some (.getfield 34, 7, 9, 752), none, none, some (.iconst 1, 0, 0, 0), some (.iaload, 0, 0, 0), some (.if_icmp .lt 7, 197, 0, 0), none, none, some (.iconst 1, 0, 0, 0), some (.goto 4, 198, 0, 0), none, none, some (.iconst 0, 0, 0, 0), some (.istore 7, 0, 0, 0), none, some (.iload 7, 0, 0, 0), none, some (.ifCond .eq 23, 225, 0, 0), none, none, some (.iload 4, 0, 0, 0), none, some (.ifCond .lt 13, 220, 0, 0), none, none, some (.iload 6, 0, 0, 0), none, some (.iload 4, 0, 0, 0), none, some (.invokestatic 158, 159, 1, 924), none, none, some (.if_icmp .ge 8, 225, 0, 0), none, none, some (.iload 5, 0, 0, 0), none, some (.goto 5, 227, 0, 0), none, none, some (.iload 4, 0, 0, 0), none, some (.istore 4, 0, 0, 0), none, some (.iinc 5 1, 0, 0, 0), none, none, some (.goto (-111), 121, 0, 0), none, none, some (.iload 4, 0, 0, 0), none, some (.ireturn, 0, 0, 0)]
/-- LeavingVoteModel.beds(I)I -/
def sm_c174 : List (Option sm_I) := [some (.iload_n 1, 0, 0, 0), some (.invokestatic 164, 148, 1, 883), none, none, some (.ifCond .ne 5, 9, 0, 0), none, none, some (.iconst (-1), 0, 0, 0), some (.ireturn, 0, 0, 0), some (.aload_n 0, 0, 0, 0), some (.getfield 34, 7, 9, 752), none, none, some (.iconst 0, 0, 0, 0), some (.iaload, 0, 0, 0), some (.istore_n 2, 0, 0, 0), some (.bipush (-4), 0, 0, 0), none, some (.istore_n 3, 0, 0, 0), some (.iconst 0, 0, 0, 0), some (.istore 4, 0, 0, 0), none, some (.iload 4, 0, 0, 0), none, some (.bipush 10, 0, 0, 0), none, some (.if_icmp .ge 37, 63, 0, 0), none, none, some (.iload_n 3, 0, 0, 0), some (.ifCond .ge 33, 63, 0, 0), none, none, some (.aload_n 0, 0, 0, 0), some (.getfield 34, 7, 9, 752), none, none, some (.iconst 0, 0, 0, 0), some (.iload 4, 0, 0, 0), none, some (.iastore, 0, 0, 0), some (.aload_n 0, 0, 0, 0), some (.iload_n 1, 0, 0, 0), some (.invokevirtual 167, 158, 2, 920), none, none, some (.ifCond .eq 8, 54, 0, 0), none, none, some (.iload 4, 0, 0, 0), none, some (.goto 5, 56, 0, 0), none, none, some (.bipush (-4), 0, 0, 0), none, some (.istore_n 3, 0, 0, 0), some (.iinc 4 1, 0, 0, 0), none, none, some (.goto (-38), 22, 0, 0), none, none, some (.aload_n 0, 0, 0, 0), some (.getfield 34, 7, 9, 752), none, none, some (.iconst 0, 0, 0, 0), some (.iload_n 2, 0, 0, 0), some (.iastore, 0, 0, 0), some (.iload_n 3, 0, 0, 0), some (.ireturn, 0, 0, 0)]
/-- LeavingVoteModel.help(II)I -/
def sm_c175 : List (Option sm_I) := [some (.iload_n 1, 0, 0, 0), some (.invokestatic 164, 148, 1, 883), none, none, some (.ifCond .eq 13, 17, 0, 0), none, none, some (.iload_n 2, 0, 0, 0), some (.i2l, 0, 0, 0), some (.lconst 0, 0, 0, 0), some (.lconst 1, 0, 0, 0), some (.invokestatic 79, 133, 3, 819), none, none, some (.ifCond .ne 5, 19, 0, 0), none, none, some (.iconst (-1), 0, 0, 0), some (.ireturn, 0, 0, 0), some (.bipush (-4), 0, 0, 0), none, some (.istore_n 3, 0, 0, 0), some (.bipush (-4), 0, 0, 0), none, some (.istore 4, 0, 0, 0), none, some (.iconst 0, 0, 0, 0), some (.istore 5, 0, 0, 0), none, some (.iload 5, 0, 0, 0), none, some (.aload_n 0, 0, 0, 0), some (.getfield 28, 7, 7, 750), none, none, some (.iconst 0, 0, 0, 0), some (.iaload, 0, 0, 0), some (.if_icmp .ge 85, 122, 0, 0), none, none, some (.aload_n 0, 0, 0, 0), some (.getfield 37, 7, 10, 753), none, none, some (.bipush 16, 0, 0, 0), none, some (.iload 5, 0, 0, 0), none, some (.iadd, 0, 0, 0), some (.iaload, 0, 0, 0), some (.iconst 1, 0, 0, 0), some (.if_icmp .ne 65, 116, 0, 0), none, none, some (.aload_n 0, 0, 0, 0), some (.getfield 37, 7, 10, 753), none, none, some (.bipush 16, 0, 0, 0), none, some (.iload 5, 0, 0, 0), none, some (.iadd, 0, 0, 0), some (.iconst 0, 0, 0, 0), some (.iastore, 0, 0, 0), some (.aload_n 0, 0, 0, 0), some (.iload_n 1, 0, 0, 0), some (.invokevirtual 155, 153, 2, 901), none, none, some (.invokestatic 158, 159, 1, 924), none, none, some (.istore 6, 0, 0, 0), none, some (.aload_n 0, 0, 0, 0), some (.getfield 37, 7, 10, 753), none, none, some (.bipush 16, 0, 0, 0), none, some (.iload 5, 0, 0, 0), none, some (.iadd, 0, 0, 0), some (.iconst 1, 0, 0, 0), some (.iastore, 0, 0, 0), some (.iload 6, 0, 0, 0), none, some (.iload 4, 0, 0, 0), none, some (.if_icmp .le 8, 98, 0, 0), none, none, some (.iload 5, 0, 0, 0), none, some (.goto 4, 99, 0, 0), none, none, some (.iload_n 3, 0, 0, 0), some (.istore_n 3, 0, 0, 0), some (.iload 6, 0, 0, 0), none, some (.iload 4, 0, 0, 0), none, some (.if_icmp .le 8, 112, 0, 0), none, none, some (.iload 6, 0, 0, 0), none, some (.goto 5, 114, 0, 0), none, none, some (.iload 4, 0, 0, 0), none, some (.istore 4, 0, 0, 0), none, some (.iinc 5 1, 0, 0, 0), none, none, some (.goto (-90), 29, 0, 0), none, none, some (.iload_n 2, 0, 0, 0), some (.ifCond .ne 7, 130, 0, 0), none, none, some (.iload_n 3, 0, 0, 0), some (.goto 5, 132, 0, 0), none, none, some (.iload 4, 0, 0, 0), none, some (.ireturn, 0, 0, 0)]
/-- LeavingVoteModel.both(I)I -/
def sm_c176 : List (Option sm_I) := [some (.iload_n 1, 0, 0, 0), some (.invokestatic 164, 148, 1, 883), none, none, some (.ifCond .ne 5, 9, 0, 0), none, none, some (.iconst (-1), 0, 0, 0), some (.ireturn, 0, 0, 0), some (.aload_n 0, 0, 0, 0), some (.iconst 0, 0, 0, 0), some (.iconst 0, 0, 0, 0), some (.invokevirtual 145, 149, 3, 886), none, none, some (.istore_n 2, 0, 0, 0), some (.aload_n 0, 0, 0, 0), some (.iconst 1, 0, 0, 0), some (.iconst 0, 0, 0, 0), some (.invokevirtual 145, 149, 3, 886), none, none, some (.iload_n 2, 0, 0, 0), some (.iconst (-1), 0, 0, 0), some (.ixor, 0, 0, 0), some (.iand, 0, 0, 0), some (.istore_n 3, 0, 0, 0), some (.aload_n 0, 0, 0, 0), some (.iload_n 2, 0, 0, 0), some (.iconst 0, 0, 0, 0), some (.invokevirtual 149, 154, 3, 905), none, none, some (.aload_n 0, 0, 0, 0), some (.getfield 34, 7, 9, 752), none, none, some (.iconst 0, 0, 0, 0), some (.iaload, 0, 0, 0), some (.invokestatic 152, 155, 2, 909), none, none, some (.invokestatic 158, 159, 1, 924), none, none, some (.istore 4, 0, 0, 0), none, some (.aload_n 0, 0, 0, 0), some (.iload_n 3, 0, 0, 0), some (.iconst 1, 0, 0, 0), some (.invokevirtual 149, 154, 3, 905), none, none, some (.aload_n 0, 0, 0, 0), some (.getfield 34, 7, 9, 752), none, none, some (.iconst 0, 0, 0, 0), some (.iaload, 0, 0, 0), some (.iload 4, 0, 0, 0), none, some (.isub, 0, 0, 0), some (.invokestatic 152, 155, 2, 909), none, none, some (.invokestatic 158, 159, 1, 924), none, none, some (.istore 5, 0, 0, 0), none, some (.iload_n 1, 0, 0, 0), some (.ifCond .ne 8, 79, 0, 0), none, none, some (.iload 4, 0, 0, 0), none, some (.goto 5, 81, 0, 0), none, none, some (.iload 5, 0, 0, 0), none, some (.ireturn, 0, 0, 0)]
/-- LeavingVoteModel.seen(II)I -/
def sm_c177 : List (Option sm_I) := [some (.iload_n 1, 0, 0, 0), some (.invokestatic 164, 148, 1, 883), none, none, some (.ifCond .eq 15, 19, 0, 0), none, none, some (.iload_n 2, 0, 0, 0), some (.i2l, 0, 0, 0), some (.lconst 0, 0, 0, 0), some (.ldc2_w 108, 8, 0, 853), none, none, some (.invokestatic 79, 133, 3, 819), none, none, some (.ifCond .ne 5, 21, 0, 0), none, none, some (.iconst (-1), 0, 0, 0), some (.ireturn, 0, 0, 0), some (.aload_n 0, 0, 0, 0), some (.getfield 127, 7, 15, 758), none, none, some (.bipush 8, 0, 0, 0), none, some (.if_icmp .ne 6, 33, 0, 0), none, none, some (.bipush (-3), 0, 0, 0), none, some (.ireturn, 0, 0, 0), some (.aload_n 0, 0, 0, 0), some (.getfield 46, 7, 16, 759), none, none, some (.aload_n 0, 0, 0, 0), some (.getfield 127, 7, 15, 758), none, none, some (.iload_n 1, 0, 0, 0), some (.iastore, 0, 0, 0), some (.aload_n 0, 0, 0, 0), some (.getfield 49, 7, 17, 760), none, none, some (.aload_n 0, 0, 0, 0), some (.getfield 127, 7, 15, 758), none, none, some (.iload_n 2, 0, 0, 0), some (.iastore, 0, 0, 0), some (.aload_n 0, 0, 0, 0), some (.dup, 0, 0, 0), some (.getfield 127, 7, 15, 758), none, none, some (.iconst 1, 0, 0, 0), some (.iadd, 0, 0, 0), some (.putfield 127, 7, 15, 758), none, none, some (.aload_n 0, 0, 0, 0), some (.getfield 127, 7, 15, 758), none, none, some (.ireturn, 0, 0, 0)]
/-- LeavingVoteModel.forget()I -/
def sm_c178 : List (Option sm_I) := [some (.aload_n 0, 0, 0, 0), some (.getfield 127, 7, 15, 758), none, none, some (.istore_n 1, 0, 0, 0), some (.aload_n 0, 0, 0, 0), some (.iconst 0, 0, 0, 0), some (.putfield 127, 7, 15, 758), none, none, some (.iload_n 1, 0, 0, 0), some (.ireturn, 0, 0, 0)]
/-- LeavingVoteModel.oars(I)I -/
def sm_c179 : List (Option sm_I) := [some (.iload_n 1, 0, 0, 0), some (.i2l, 0, 0, 0), some (.lconst 0, 0, 0, 0), some (.lconst 1, 0, 0, 0), some (.invokestatic 79, 133, 3, 819), none, none, some (.ifCond .ne 5, 12, 0, 0), none, none, some (.iconst (-1), 0, 0, 0), some (.ireturn, 0, 0, 0), some (.iconst 0, 0, 0, 0), some (.istore_n 2, 0, 0, 0), some (.iload_n 2, 0, 0, 0), some (.iconst 5, 0, 0, 0), some (.if_icmp .ge 24, 40, 0, 0), none, none, some (.aload_n 0, 0, 0, 0), some (.getfield 61, 7, 22, 765), none, none, some (.iload_n 2, 0, 0, 0), some (.aload_n 0, 0, 0, 0), some (.getfield 37, 7, 10, 753), none, none, some (.bipush 16, 0, 0, 0), none, some (.iload_n 2, 0, 0, 0), some (.iadd, 0, 0, 0), some (.iaload, 0, 0, 0), some (.iastore, 0, 0, 0), some (.iinc 2 1, 0, 0, 0), none, none, some (.goto (-23), 14, 0, 0), none, none, some (.iconst 0, 0, 0, 0), some (.istore_n 2, 0, 0, 0), some (.bipush (-4), 0, 0, 0), none, some (.istore_n 3, 0, 0, 0), some (.iconst 0, 0, 0, 0), some (.istore 4, 0, 0, 0), none, some (.iload 4, 0, 0, 0), none, some (.iconst 1, 0, 0, 0), some (.aload_n 0, 0, 0, 0), some (.getfield 28, 7, 7, 750), none, none, some (.iconst 0, 0, 0, 0), some (.iaload, 0, 0, 0), some (.ishl, 0, 0, 0), some (.if_icmp .ge 132, 190, 0, 0), none, none, some (.iconst 0, 0, 0, 0), some (.istore 5, 0, 0, 0), none, some (.iload 5, 0, 0, 0), none, some (.aload_n 0, 0, 0, 0), some (.getfield 28, 7, 7, 750), none, none, some (.iconst 0, 0, 0, 0), some (.iaload, 0, 0, 0), some (.if_icmp .ge 26, 98, 0, 0), none, none, some (.aload_n 0, 0, 0, 0), some (.getfield 37, 7, 10, 753), none, none, some (.bipush 16, 0, 0, 0), none, some (.iload 5, 0, 0, 0), none, some (.iadd, 0, 0, 0), some (.iload 4, 0, 0, 0), none, some (.iload 5, 0, 0, 0), none, some (.ishr, 0, 0, 0), some (.iconst 1, 0, 0, 0), some (.iand, 0, 0, 0), some (.iastore, 0, 0, 0), some (.iinc 5 1, 0, 0, 0), none, none, some (.goto (-31), 64, 0, 0), none, none, some (.iconst 1, 0, 0, 0), some (.istore 5, 0, 0, 0), none, some (.iconst 0, 0, 0, 0), some (.istore 6, 0, 0, 0), none, some (.iload 6, 0, 0, 0), none, some (.aload_n 0, 0, 0, 0), some (.getfield 127, 7, 15, 758), none, none, some (.if_icmp .ge 45, 155, 0, 0), none, none, some (.iload 5, 0, 0, 0), none, some (.ifCond .eq 31, 146, 0, 0), none, none, some (.aload_n 0, 0, 0, 0), some (.aload_n 0, 0, 0, 0), some (.getfield 46, 7, 16, 759), none, none, some (.iload 6, 0, 0, 0), none, some (.iaload, 0, 0, 0), some (.invokevirtual 155, 153, 2, 901), none, none, some (.invokestatic 158, 159, 1, 924), none, none, some (.aload_n 0, 0, 0, 0), some (.getfield 49, 7, 17, 760), none, none, some (.iload 6, 0, 0, 0), none, some (.iaload, 0, 0, 0), some (.if_icmp .ne 7, 146, 0, 0), none, none, some (.iconst 1, 0, 0, 0), some (.goto 4, 147, 0, 0), none, none, some (.iconst 0, 0, 0, 0), some (.istore 5, 0, 0, 0), none, some (.iinc 6 1, 0, 0, 0), none, none, some (.goto (-48), 104, 0, 0), none, none, some (.iload 5, 0, 0, 0), none, some (.ifCond .eq 12, 169, 0, 0), none, none, some (.iload_n 2, 0, 0, 0), some (.ifCond .ne 8, 169, 0, 0), none, none, some (.iload 4, 0, 0, 0), none, some (.goto 4, 170, 0, 0), none, none, some (.iload_n 3, 0, 0, 0), some (.istore_n 3, 0, 0, 0), some (.iload_n 2, 0, 0, 0), some (.iload 5, 0, 0, 0), none, some (.ifCond .eq 7, 181, 0, 0), none, none, some (.iconst 1, 0, 0, 0), some (.goto 4, 182, 0, 0), none, none, some (.iconst 0, 0, 0, 0), some (.iadd, 0, 0, 0), some (.istore_n 2, 0, 0, 0), some (.iinc 4 1, 0, 0, 0), none, none, some (.goto (-139), 48, 0, 0), none, none, some (.iconst 0, 0, 0, 0), some (.istore 4, 0, 0, 0), none, some (.iload 4, 0, 0, 0), none, some (.iconst 5, 0, 0, 0), some (.if_icmp .ge 26, 222, 0, 0), none, none, some (.aload_n 0, 0, 0, 0), some (.getfield 37, 7, 10, 753), none, none, some (.bipush 16, 0, 0, 0), none, some (.iload 4, 0, 0, 0), none, some (.iadd, 0, 0, 0), some (.aload_n 0, 0, 0, 0), some (.getfield 61, 7, 22, 765), none, none, some (.iload 4, 0, 0, 0), none, some (.iaload, 0, 0, 0), some (.iastore, 0, 0, 0), some (.iinc 4 1, 0, 0, 0), none, none, some (.goto (-26), 193, 0, 0), none, none, some (.iload_n 1, 0, 0, 0), some (.ifCond .ne 7, 230, 0, 0), none, none, some (.iload_n 2, 0, 0, 0), some (.goto 4, 231, 0, 0), none, none, some (.iload_n 3, 0, 0, 0), some (.ireturn, 0, 0, 0)]
/-- LeavingVoteModel.odds(II)I -/
def sm_c180 : List (Option sm_I) := [some (.iload_n 1, 0, 0, 0), some (.invokestatic 164, 148, 1, 883), none, none, some (.ifCond .eq 13, 17, 0, 0), none, none, some (.iload_n 2, 0, 0, 0), some (.i2l, 0, 0, 0), some (.lconst 0, 0, 0, 0), some (.lconst 1, 0, 0, 0), some (.invokestatic 79, 133, 3, 819), none, none, some (.ifCond .ne 5, 19, 0, 0), none, none, some (.iconst (-1), 0, 0, 0), some (.ireturn, 0, 0, 0), some (.iconst 0, 0, 0, 0), some (.istore_n 3, 0, 0, 0), some (.iconst 1, 0, 0, 0), some (.istore 4, 0, 0, 0), none, some (.iconst 0, 0, 0, 0), some (.istore 5, 0, 0, 0), none, some (.iload 5, 0, 0, 0), none, some (.aload_n 0, 0, 0, 0), some (.getfield 13, 7, 2, 745), none, none, some (.iconst 0, 0, 0, 0), some (.iaload, 0, 0, 0), some (.if_icmp .ge 45, 80, 0, 0), none, none, some (.aload_n 0, 0, 0, 0), some (.getfield 16, 7, 3, 746), none, none, some (.iload 5, 0, 0, 0), none, some (.iaload, 0, 0, 0), some (.iconst 1, 0, 0, 0), some (.if_icmp .ne 28, 74, 0, 0), none, none, some (.aload_n 0, 0, 0, 0), some (.iload_n 1, 0, 0, 0), some (.iload 5, 0, 0, 0), none, some (.iconst 0, 0, 0, 0), some (.invokevirtual 142, 150, 4, 890), none, none, some (.ifCond .eq 17, 74, 0, 0), none, none, some (.iload_n 3, 0, 0, 0), some (.iconst 1, 0, 0, 0), some (.iload 5, 0, 0, 0), none, some (.ishl, 0, 0, 0), some (.ior, 0, 0, 0), some (.istore_n 3, 0, 0, 0), some (.iload 4, 0, 0, 0), none, some (.bipush 10, 0, 0, 0), none, some (.imul, 0, 0, 0), some (.istore 4, 0, 0, 0), none, some (.iinc 5 1, 0, 0, 0), none, none, some (.goto (-50), 27, 0, 0), none, none, some (.iconst 0, 0, 0, 0), some (.istore 5, 0, 0, 0), none, some (.iconst 0, 0, 0, 0), some (.istore 6, 0, 0, 0), none, some (.iload 6, 0, 0, 0), none, some (.sipush 256, 0, 0, 0), none, none, some (.if_icmp .ge 129, 220, 0, 0), none, none, some (.iload 6, 0, 0, 0), none, some (.iload_n 3, 0, 0, 0), some (.iconst (-1), 0, 0, 0), some (.ixor, 0, 0, 0), some (.iand, 0, 0, 0), some (.ifCond .ne 114, 214, 0, 0), none, none, some (.iconst 1, 0, 0, 0), some (.istore 7, 0, 0, 0), none, some (.iconst 0, 0, 0, 0), some (.istore 8, 0, 0, 0), none, some (.iload 8, 0, 0, 0), none, some (.bipush 8, 0, 0, 0), none, some (.if_icmp .ge 55, 168, 0, 0), none, none, some (.iload 7, 0, 0, 0), none, some (.iload_n 3, 0, 0, 0), some (.iload 8, 0, 0, 0), none, some (.invokestatic 138, 151, 2, 894), none, none, some (.ifCond .ne 7, 131, 0, 0), none, none, some (.iconst 1, 0, 0, 0), some (.goto 31, 159, 0, 0), none, none, some (.iload 6, 0, 0, 0), none, some (.iload 8, 0, 0, 0), none, some (.invokestatic 138, 151, 2, 894), none, none, some (.ifCond .eq 12, 150, 0, 0), none, none, some (.aload_n 0, 0, 0, 0), some (.getfield 34, 7, 9, 752), none, none, some (.iconst 3, 0, 0, 0), some (.iaload, 0, 0, 0), some (.goto 12, 159, 0, 0), none, none, some (.bipush 10, 0, 0, 0), none, some (.aload_n 0, 0, 0, 0), some (.getfield 34, 7, 9, 752), none, none, some (.iconst 3, 0, 0, 0), some (.iaload, 0, 0, 0), some (.isub, 0, 0, 0), some (.imul, 0, 0, 0), some (.istore 7, 0, 0, 0), none, some (.iinc 8 1, 0, 0, 0), none, none, some (.goto (-56), 109, 0, 0), none, none, some (.aload_n 0, 0, 0, 0), some (.aload_n 0, 0, 0, 0), some (.iload_n 1, 0, 0, 0), some (.iload 6, 0, 0, 0), none, some (.invokevirtual 145, 149, 3, 886), none, none, some (.iconst (-1), 0, 0, 0), some (.invokevirtual 149, 154, 3, 905), none, none, some (.aload_n 0, 0, 0, 0), some (.getfield 34, 7, 9, 752), none, none, some (.iconst 0, 0, 0, 0), some (.iaload, 0, 0, 0), some (.invokestatic 152, 155, 2, 909), none, none, some (.istore 8, 0, 0, 0), none, some (.iload 5, 0, 0, 0), none, some (.aload_n 0, 0, 0, 0), some (.iload 8, 0, 0, 0), none, some (.invokestatic 158, 159, 1, 924), none, none, some (.invokevirtual 161, 160, 2, 927), none, none, some (.ifCond .eq 8, 210, 0, 0), none, none, some (.iload 7, 0, 0, 0), none, some (.goto 4, 211, 0, 0), none, none, some (.iconst 0, 0, 0, 0), some (.iadd, 0, 0, 0), some (.istore 5, 0, 0, 0), none, some (.iinc 6 1, 0, 0, 0), none, none, some (.goto (-131), 86, 0, 0), none, none, some (.iload 5, 0, 0, 0), none, some (.iload 4, 0, 0, 0), none, some (.invokestatic 182, 181, 2, 1011), none, none, some (.istore 6, 0, 0, 0), none, some (.iload_n 2, 0, 0, 0), some (.ifCond .ne 11, 241, 0, 0), none, none, some (.iload 5, 0, 0, 0), none, some (.iload 6, 0, 0, 0), none, some (.idiv, 0, 0, 0), some (.goto 8, 246, 0, 0), none, none, some (.iload 4, 0, 0, 0), none, some (.iload 6, 0, 0, 0), none, some (.idiv, 0, 0, 0), some (.ireturn, 0, 0, 0)]
/-- LeavingVoteModel.common(II)I -/
def sm_c181 : List (Option sm_I) := [some (.iload_n 0, 0, 0, 0), some (.istore_n 2, 0, 0, 0), some (.iload_n 1, 0, 0, 0), some (.istore_n 3, 0, 0, 0), some (.iload_n 3, 0, 0, 0), some (.ifCond .eq 16, 21, 0, 0), none, none, some (.iload_n 2, 0, 0, 0), some (.iload_n 3, 0, 0, 0), some (.irem, 0, 0, 0), some (.istore 4, 0, 0, 0), none, some (.iload_n 3, 0, 0, 0), some (.istore_n 2, 0, 0, 0), some (.iload 4, 0, 0, 0), none, some (.istore_n 3, 0, 0, 0), some (.goto (-14), 4, 0, 0), none, none, some (.iload_n 2, 0, 0, 0), some (.ireturn, 0, 0, 0)]
/-- LeavingVoteModel.asked(I)I -/
def sm_c182 : List (Option sm_I) := [some (.iload_n 1, 0, 0, 0), some (.i2l, 0, 0, 0), some (.lconst 0, 0, 0, 0), some (.iconst 1, 0, 0, 0), some (.aload_n 0, 0, 0, 0), some (.getfield 13, 7, 2, 745), none, none, some (.iconst 0, 0, 0, 0), some (.iaload, 0, 0, 0), some (.ishl, 0, 0, 0), some (.iconst 1, 0, 0, 0), some (.isub, 0, 0, 0), some (.i2l, 0, 0, 0), some (.invokestatic 79, 133, 3, 819), none, none, some (.ifCond .ne 5, 22, 0, 0), none, none, some (.iconst (-1), 0, 0, 0), some (.ireturn, 0, 0, 0), some (.aload_n 0, 0, 0, 0), some (.iconst 0, 0, 0, 0), some (.invokevirtual 155, 153, 2, 901), none, none, some (.iload_n 1, 0, 0, 0), some (.if_icmp .ne 7, 35, 0, 0), none, none, some (.iconst 1, 0, 0, 0), some (.goto 4, 36, 0, 0), none, none, some (.iconst 0, 0, 0, 0), some (.aload_n 0, 0, 0, 0), some (.iconst 1, 0, 0, 0), some (.invokevirtual 155, 153, 2, 901), none, none, some (.iload_n 1, 0, 0, 0), some (.if_icmp .ne 7, 49, 0, 0), none, none, some (.iconst 2, 0, 0, 0), some (.goto 4, 50, 0, 0), none, none, some (.iconst 0, 0, 0, 0), some (.iadd, 0, 0, 0), some (.ireturn, 0, 0, 0)]
/-- LeavingVoteModel.months(III)I -/
def sm_c183 : List (Option sm_I) := [some (.iload_n 1, 0, 0, 0), some (.i2l, 0, 0, 0), some (.lconst 0, 0, 0, 0), some (.ldc2_w 185, 9999, 0, 1022), none, none, some (.invokestatic 79, 133, 3, 819), none, none, some (.ifCond .eq 25, 34, 0, 0), none, none, some (.iload_n 2, 0, 0, 0), some (.i2l, 0, 0, 0), some (.lconst 1, 0, 0, 0), some (.ldc2_w 187, 60, 0, 1023), none, none, some (.invokestatic 79, 133, 3, 819), none, none, some (.ifCond .eq 13, 34, 0, 0), none, none, some (.iload_n 3, 0, 0, 0), some (.i2l, 0, 0, 0), some (.lconst 0, 0, 0, 0), some (.lconst 1, 0, 0, 0), some (.invokestatic 79, 133, 3, 819), none, none, some (.ifCond .ne 5, 36, 0, 0), none, none, some (.iconst (-1), 0, 0, 0), some (.ireturn, 0, 0, 0), some (.aload_n 0, 0, 0, 0), some (.getfield 37, 7, 10, 753), none, none, some (.bipush 21, 0, 0, 0), none, some (.iaload, 0, 0, 0), some (.istore 4, 0, 0, 0), none, some (.aload_n 0, 0, 0, 0), some (.getfield 37, 7, 10, 753), none, none, some (.bipush 22, 0, 0, 0), none, some (.iaload, 0, 0, 0), some (.istore 5, 0, 0, 0), none, some (.iconst 0, 0, 0, 0), some (.istore 6, 0, 0, 0), none, some (.iconst 0, 0, 0, 0), some (.istore 7, 0, 0, 0), none, some (.iload 7, 0, 0, 0), none, some (.iload_n 2, 0, 0, 0), some (.if_icmp .ge 146, 209, 0, 0), none, none, some (.ldc2_w 189, 7919, 0, 1024), none, none, some (.iload_n 1, 0, 0, 0), some (.i2l, 0, 0, 0), some (.lmul, 0, 0, 0), some (.ldc2_w 191, 6151, 0, 1025), none, none, some (.iload 7, 0, 0, 0), none, some (.i2l, 0, 0, 0), some (.lmul, 0, 0, 0), some (.ladd, 0, 0, 0), some (.lconst 1, 0, 0, 0), some (.ladd, 0, 0, 0), some (.lstore 8, 0, 0, 0), none, some (.lload 8, 0, 0, 0), none, some (.lload 8, 0, 0, 0), none, some (.lmul, 0, 0, 0), some (.ldc2_w 193, 65521, 0, 1026), none, none, some (.lrem, 0, 0, 0), some (.l2i, 0, 0, 0), some (.iconst 2, 0, 0, 0), some (.idiv, 0, 0, 0), some (.istore 10, 0, 0, 0), none, some (.aload_n 0, 0, 0, 0), some (.getfield 37, 7, 10, 753), none, none, some (.bipush 21, 0, 0, 0), none, some (.iload 10, 0, 0, 0), none, some (.iconst 4, 0, 0, 0), some (.irem, 0, 0, 0), some (.ifCond .ne 7, 115, 0, 0), none, none, some (.iconst 1, 0, 0, 0), some (.goto 4, 116, 0, 0), none, none, some (.iconst 0, 0, 0, 0), some (.iastore, 0, 0, 0), some (.aload_n 0, 0, 0, 0), some (.getfield 37, 7, 10, 753), none, none, some (.bipush 22, 0, 0, 0), none, some (.iload 10, 0, 0, 0), none, some (.bipush 7, 0, 0, 0), none, some (.irem, 0, 0, 0), some (.ifCond .ne 7, 135, 0, 0), none, none, some (.iconst 1, 0, 0, 0), some (.goto 4, 136, 0, 0), none, none, some (.iconst 0, 0, 0, 0), some (.iastore, 0, 0, 0), some (.aload_n 0, 0, 0, 0), some (.iload 10, 0, 0, 0), none, some (.bipush 8, 0, 0, 0), none, some (.idiv, 0, 0, 0), some (.iconst 2, 0, 0, 0), some (.irem, 0, 0, 0), some (.invokevirtual 155, 153, 2, 901), none, none, some (.istore 11, 0, 0, 0), none, some (.iload_n 3, 0, 0, 0), some (.ifCond .ne 15, 166, 0, 0), none, none, some (.aload_n 0, 0, 0, 0), some (.iload 11, 0, 0, 0), none, some (.invokestatic 158, 159, 1, 924), none, none, some (.invokevirtual 161, 160, 2, 927), none, none, some (.goto 23, 186, 0, 0), none, none, some (.aload_n 0, 0, 0, 0), some (.iload 11, 0, 0, 0), none, some (.invokevirtual 170, 162, 2, 935), none, none, some (.aload_n 0, 0, 0, 0), some (.getfield 34, 7, 9, 752), none, none, some (.iconst 1, 0, 0, 0), some (.iaload, 0, 0, 0), some (.if_icmp .lt 7, 185, 0, 0), none, none, some (.iconst 1, 0, 0, 0), some (.goto 4, 186, 0, 0), none, none, some (.iconst 0, 0, 0, 0), some (.istore 12, 0, 0, 0), none, some (.iload 6, 0, 0, 0), none, some (.iload 12, 0, 0, 0), none, some (.ifCond .eq 7, 199, 0, 0), none, none, some (.iconst 1, 0, 0, 0), some (.goto 4, 200, 0, 0), none, none, some (.iconst 0, 0, 0, 0), some (.iadd, 0, 0, 0), some (.istore 6, 0, 0, 0), none, some (.iinc 7 1, 0, 0, 0), none, none, some (.goto (-146), 60, 0, 0), none, none, some (.aload_n 0, 0, 0, 0), some (.getfield 37, 7, 10, 753), none, none, some (.bipush 21, 0, 0, 0), none, some (.iload 4, 0, 0, 0), none, some (.iastore, 0, 0, 0), some (.aload_n 0, 0, 0, 0), some (.getfield 37, 7, 10, 753), none, none, some (.bipush 22, 0, 0, 0), none, some (.iload 5, 0, 0, 0), none, some (.iastore, 0, 0, 0), some (.iload 6, 0, 0, 0), none, some (.ireturn, 0, 0, 0)]
/-- LeavingVoteModel.keep()I -/
def sm_c184 : List (Option sm_I) := [some (.aload_n 0, 0, 0, 0), some (.getfield 124, 7, 14, 757), none, none, some (.iconst 2, 0, 0, 0), some (.if_icmp .ne 6, 11, 0, 0), none, none, some (.bipush (-3), 0, 0, 0), none, some (.ireturn, 0, 0, 0), some (.iconst 0, 0, 0, 0), some (.istore_n 1, 0, 0, 0), some (.iload_n 1, 0, 0, 0), some (.bipush 24, 0, 0, 0), none, some (.if_icmp .ge 29, 45, 0, 0), none, none, some (.aload_n 0, 0, 0, 0), some (.getfield 43, 7, 13, 756), none, none, some (.bipush 24, 0, 0, 0), none, some (.aload_n 0, 0, 0, 0), some (.getfield 124, 7, 14, 757), none, none, some (.imul, 0, 0, 0), some (.iload_n 1, 0, 0, 0), some (.iadd, 0, 0, 0), some (.aload_n 0, 0, 0, 0), some (.getfield 37, 7, 10, 753), none, none, some (.iload_n 1, 0, 0, 0), some (.iaload, 0, 0, 0), some (.iastore, 0, 0, 0), some (.iinc 1 1, 0, 0, 0), none, none, some (.goto (-29), 13, 0, 0), none, none, some (.aload_n 0, 0, 0, 0), some (.dup, 0, 0, 0), some (.getfield 124, 7, 14, 757), none, none, some (.iconst 1, 0, 0, 0), some (.iadd, 0, 0, 0), some (.putfield 124, 7, 14, 757), none, none, some (.aload_n 0, 0, 0, 0), some (.getfield 124, 7, 14, 757), none, none, some (.ireturn, 0, 0, 0)]
/-- LeavingVoteModel.back()I -/
def sm_c185 : List (Option sm_I) := [some (.aload_n 0, 0, 0, 0), some (.getfield 124, 7, 14, 757), none, none, some (.ifCond .ne 6, 10, 0, 0), none, none, some (.bipush (-2), 0, 0, 0), none, some (.ireturn, 0, 0, 0), some (.aload_n 0, 0, 0, 0), some (.dup, 0, 0, 0), some (.getfield 124, 7, 14, 757), none, none, some (.iconst 1, 0, 0, 0), some (.isub, 0, 0, 0), some (.putfield 124, 7, 14, 757), none, none, some (.iconst 0, 0, 0, 0), some (.istore_n 1, 0, 0, 0), some (.iload_n 1, 0, 0, 0), some (.bipush 24, 0, 0, 0), none, some (.if_icmp .ge 29, 54, 0, 0), none, none, some (.aload_n 0, 0, 0, 0), some (.getfield 37, 7, 10, 753), none, none, some (.iload_n 1, 0, 0, 0), some (.aload_n 0, 0, 0, 0), some (.getfield 43, 7, 13, 756), none, none, some (.bipush 24, 0, 0, 0), none, some (.aload_n 0, 0, 0, 0), some (.getfield 124, 7, 14, 757), none, none, some (.imul, 0, 0, 0), some (.iload_n 1, 0, 0, 0), some (.iadd, 0, 0, 0), some (.iaload, 0, 0, 0), some (.iastore, 0, 0, 0), some (.iinc 1 1, 0, 0, 0), none, none, some (.goto (-29), 22, 0, 0), none, none, some (.aload_n 0, 0, 0, 0), some (.iconst 0, 0, 0, 0), some (.putfield 121, 7, 12, 755), none, none, some (.aload_n 0, 0, 0, 0), some (.getfield 124, 7, 14, 757), none, none, some (.ireturn, 0, 0, 0)]
/-- LeavingVoteModel.count(I)I -/
def sm_c186 : List (Option sm_I) := [some (.iload_n 1, 0, 0, 0), some (.tableswitch 139 0 11 #[63, 70, 77, 82, 90, 98, 105, 112, 119, 124, 129, 134], 0, 0, 0), none, none, none, none, none, none, none, none, none, none, none, none, none, none, none, none, none, none, none, none, none, none, none, none, none, none, none, none, none, none, none, none, none, none, none, none, none, none, none, none, none, none, none, none, none, none, none, none, none, none, none, none, none, none, none, none, none, none, none, none, none, none, some (.aload_n 0, 0, 0, 0), some (.getfield 13, 7, 2, 745), none, none, some (.iconst 0, 0, 0, 0), some (.iaload, 0, 0, 0), some (.ireturn, 0, 0, 0), some (.aload_n 0, 0, 0, 0), some (.getfield 28, 7, 7, 750), none, none, some (.iconst 0, 0, 0, 0), some (.iaload, 0, 0, 0), some (.ireturn, 0, 0, 0), some (.aload_n 0, 0, 0, 0), some (.invokevirtual 195, 187, 1, 1039), none, none, some (.ireturn, 0, 0, 0), some (.aload_n 0, 0, 0, 0), some (.getfield 37, 7, 10, 753), none, none, some (.bipush 21, 0, 0, 0), none, some (.iaload, 0, 0, 0), some (.ireturn, 0, 0, 0), some (.aload_n 0, 0, 0, 0), some (.getfield 37, 7, 10, 753), none, none, some (.bipush 22, 0, 0, 0), none, some (.iaload, 0, 0, 0), some (.ireturn, 0, 0, 0), some (.aload_n 0, 0, 0, 0), some (.getfield 34, 7, 9, 752), none, none, some (.iconst 0, 0, 0, 0), some (.iaload, 0, 0, 0), some (.ireturn, 0, 0, 0), some (.aload_n 0, 0, 0, 0), some (.getfield 34, 7, 9, 752), none, none, some (.iconst 1, 0, 0, 0), some (.iaload, 0, 0, 0), some (.ireturn, 0, 0, 0), some (.aload_n 0, 0, 0, 0), some (.getfield 34, 7, 9, 752), none, none, some (.iconst 2, 0, 0, 0), some (.iaload, 0, 0, 0), some (.ireturn, 0, 0, 0), some (.aload_n 0, 0, 0, 0), some (.getfield 127, 7, 15, 758), none, none, some (.ireturn, 0, 0, 0), some (.aload_n 0, 0, 0, 0), some (.getfield 121, 7, 12, 755), none, none, some (.ireturn, 0, 0, 0), some (.aload_n 0, 0, 0, 0), some (.getfield 124, 7, 14, 757), none, none, some (.ireturn, 0, 0, 0), some (.aload_n 0, 0, 0, 0), some (.getfield 83, 7, 0, 743), none, none, some (.ireturn, 0, 0, 0), some (.iconst (-1), 0, 0, 0), some (.ireturn, 0, 0, 0)]
/-- LeavingVoteModel.heldMany()I -/
def sm_c187 : List (Option sm_I) := [some (.iconst 0, 0, 0, 0), some (.istore_n 1, 0, 0, 0), some (.iconst 0, 0, 0, 0), some (.istore_n 2, 0, 0, 0), some (.iload_n 2, 0, 0, 0), some (.iconst 5, 0, 0, 0), some (.if_icmp .ge 21, 27, 0, 0), none, none, some (.iload_n 1, 0, 0, 0), some (.aload_n 0, 0, 0, 0), some (.getfield 37, 7, 10, 753), none, none, some (.bipush 16, 0, 0, 0), none, some (.iload_n 2, 0, 0, 0), some (.iadd, 0, 0, 0), some (.iaload, 0, 0, 0), some (.iadd, 0, 0, 0), some (.istore_n 1, 0, 0, 0), some (.iinc 2 1, 0, 0, 0), none, none, some (.goto (-20), 4, 0, 0), none, none, some (.iload_n 1, 0, 0, 0), some (.ireturn, 0, 0, 0)]
/-- LeavingVoteLaw.law([I)Z -/
def sm_c188 : List (Option sm_I) := [some (.new 7, 0, 0, 53), none, none, some (.dup, 0, 0, 0), some (.invokespecial 9, 0, 1, 55), none, none, some (.astore_n 1, 0, 0, 0), some (.new 10, 7, 0, 725), none, none, some (.dup, 0, 0, 0), some (.invokespecial 12, 128, 1, 727), none, none, some (.astore_n 2, 0, 0, 0), some (.iconst 0, 0, 0, 0), some (.istore_n 3, 0, 0, 0), some (.iload_n 3, 0, 0, 0), some (.aload_n 0, 0, 0, 0), some (.arraylength, 0, 0, 0), some (.iconst 4, 0, 0, 0), some (.isub, 0, 0, 0), some (.if_icmp .gt 898, 921, 0, 0), none, none, some (.aload_n 0, 0, 0, 0), some (.iload_n 3, 0, 0, 0), some (.iaload, 0, 0, 0), some (.bipush 31, 0, 0, 0), none, some (.iand, 0, 0, 0), some (.tableswitch 883 0 30 #[140, 163, 176, 189, 202, 235, 268, 291, 314, 347, 370, 403, 436, 469, 492, 515, 528, 551, 574, 587, 610, 643, 666, 699, 712, 735, 768, 791, 834, 847, 860], 0, 0, 0), none, none, none, none, none, none, none, none, none, none, none, none, none, none, none, none, none, none, none, none, none, none, none, none, none, none, none, none, none, none, none, none, none, none, none, none, none, none, none, none, none, none, none, none, none, none, none, none, none, none, none, none, none, none, none, none, none, none, none, none, none, none, none, none, none, none, none, none, none, none, none, none, none, none, none, none, none, none, none, none, none, none, none, none, none, none, none, none, none, none, none, none, none, none, none, none, none, none, none, none, none, none, none, none, none, none, none, none, none, none, none, none, none, none, none, none, none, none, none, none, none, none, none, none, none, none, none, none, none, none, none, none, none, none, none, none, none, none, none, some (.aload_n 1, 0, 0, 0), some (.aload_n 0, 0, 0, 0), some (.iload_n 3, 0, 0, 0), some (.iconst 1, 0, 0, 0), some (.iadd, 0, 0, 0), some (.iaload, 0, 0, 0), some (.invokevirtual 13, 44, 2, 377), none, none, some (.aload_n 2, 0, 0, 0), some (.aload_n 0, 0, 0, 0), some (.iload_n 3, 0, 0, 0), some (.iconst 1, 0, 0, 0), some (.iadd, 0, 0, 0), some (.iaload, 0, 0, 0), some (.invokevirtual 17, 132, 2, 813), none, none, some (.if_icmp .eq 725, 915, 0, 0), none, none, some (.iconst 0, 0, 0, 0), some (.ireturn, 0, 0, 0), some (.aload_n 1, 0, 0, 0), some (.invokevirtual 18, 45, 1, 382), none, none, some (.aload_n 2, 0, 0, 0), some (.invokevirtual 22, 134, 1, 822), none, none, some (.if_icmp .eq 712, 915, 0, 0), none, none, some (.iconst 0, 0, 0, 0), some (.ireturn, 0, 0, 0), some (.aload_n 1, 0, 0, 0), some (.invokevirtual 23, 46, 1, 386), none, none, some (.aload_n 2, 0, 0, 0), some (.invokevirtual 26, 135, 1, 826), none, none, some (.if_icmp .eq 699, 915, 0, 0), none, none, some (.iconst 0, 0, 0, 0), some (.ireturn, 0, 0, 0), some (.aload_n 1, 0, 0, 0), some (.invokevirtual 27, 47, 1, 390), none, none, some (.aload_n 2, 0, 0, 0), some (.invokevirtual 30, 142, 1, 858), none, none, some (.if_icmp .eq 686, 915, 0, 0), none, none, some (.iconst 0, 0, 0, 0), some (.ireturn, 0, 0, 0), some (.aload_n 1, 0, 0, 0), some (.aload_n 0, 0, 0, 0), some (.iload_n 3, 0, 0, 0), some (.iconst 1, 0, 0, 0), some (.iadd, 0, 0, 0), some (.iaload, 0, 0, 0), some (.aload_n 0, 0, 0, 0), some (.iload_n 3, 0, 0, 0), some (.iconst 2, 0, 0, 0), some (.iadd, 0, 0, 0), some (.iaload, 0, 0, 0), some (.invokevirtual 31, 54, 3, 416), none, none, some (.aload_n 2, 0, 0, 0), some (.aload_n 0, 0, 0, 0), some (.iload_n 3, 0, 0, 0), some (.iconst 1, 0, 0, 0), some (.iadd, 0, 0, 0), some (.iaload, 0, 0, 0), some (.aload_n 0, 0, 0, 0), some (.iload_n 3, 0, 0, 0), some (.iconst 2, 0, 0, 0), some (.iadd, 0, 0, 0), some (.iaload, 0, 0, 0), some (.invokevirtual 35, 143, 3, 862), none, none, some (.if_icmp .eq 653, 915, 0, 0), none, none, some (.iconst 0, 0, 0, 0), some (.ireturn, 0, 0, 0), some (.aload_n 1, 0, 0, 0), some (.aload_n 0, 0, 0, 0), some (.iload_n 3, 0, 0, 0), some (.iconst 1, 0, 0, 0), some (.iadd, 0, 0, 0), some (.iaload, 0, 0, 0), some (.aload_n 0, 0, 0, 0), some (.iload_n 3, 0, 0, 0), some (.iconst 2, 0, 0, 0), some (.iadd, 0, 0, 0), some (.iaload, 0, 0, 0), some (.invokevirtual 36, 57, 3, 430), none, none, some (.aload_n 2, 0, 0, 0), some (.aload_n 0, 0, 0, 0), some (.iload_n 3, 0, 0, 0), some (.iconst 1, 0, 0, 0), some (.iadd, 0, 0, 0), some (.iaload, 0, 0, 0), some (.aload_n 0, 0, 0, 0), some (.iload_n 3, 0, 0, 0), some (.iconst 2, 0, 0, 0), some (.iadd, 0, 0, 0), some (.iaload, 0, 0, 0), some (.invokevirtual 39, 145, 3, 871), none, none, some (.if_icmp .eq 620, 915, 0, 0), none, none, some (.iconst 0, 0, 0, 0), some (.ireturn, 0, 0, 0), some (.aload_n 1, 0, 0, 0), some (.aload_n 0, 0, 0, 0), some (.iload_n 3, 0, 0, 0), some (.iconst 1, 0, 0, 0), some (.iadd, 0, 0, 0), some (.iaload, 0, 0, 0), some (.invokevirtual 40, 61, 2, 446), none, none, some (.aload_n 2, 0, 0, 0), some (.aload_n 0, 0, 0, 0), some (.iload_n 3, 0, 0, 0), some (.iconst 1, 0, 0, 0), some (.iadd, 0, 0, 0), some (.iaload, 0, 0, 0), some (.invokevirtual 43, 147, 2, 879), none, none, some (.if_icmp .eq 597, 915, 0, 0), none, none, some (.iconst 0, 0, 0, 0), some (.ireturn, 0, 0, 0), some (.aload_n 1, 0, 0, 0), some (.aload_n 0, 0, 0, 0), some (.iload_n 3, 0, 0, 0), some (.iconst 1, 0, 0, 0), some (.iadd, 0, 0, 0), some (.iaload, 0, 0, 0), some (.invokevirtual 44, 72, 2, 488), none, none, some (.aload_n 2, 0, 0, 0), some (.aload_n 0, 0, 0, 0), some (.iload_n 3, 0, 0, 0), some (.iconst 1, 0, 0, 0), some (.iadd, 0, 0, 0), some (.iaload, 0, 0, 0), some (.invokevirtual 47, 152, 2, 897), none, none, some (.if_icmp .eq 574, 915, 0, 0), none, none, some (.iconst 0, 0, 0, 0), some (.ireturn, 0, 0, 0), some (.aload_n 1, 0, 0, 0), some (.aload_n 0, 0, 0, 0), some (.iload_n 3, 0, 0, 0), some (.iconst 1, 0, 0, 0), some (.iadd, 0, 0, 0), some (.iaload, 0, 0, 0), some (.aload_n 0, 0, 0, 0), some (.iload_n 3, 0, 0, 0), some (.iconst 2, 0, 0, 0), some (.iadd, 0, 0, 0), some (.iaload, 0, 0, 0), some (.invokevirtual 48, 77, 3, 511), none, none, some (.aload_n 2, 0, 0, 0), some (.aload_n 0, 0, 0, 0), some (.iload_n 3, 0, 0, 0), some (.iconst 1, 0, 0, 0), some (.iadd, 0, 0, 0), some (.iaload, 0, 0, 0), some (.aload_n 0, 0, 0, 0), some (.iload_n 3, 0, 0, 0), some (.iconst 2, 0, 0, 0), some (.iadd, 0, 0, 0), some (.iaload, 0, 0, 0), some (.invokevirtual 51, 156, 3, 912), none, none, some (.if_icmp .eq 541, 915, 0, 0), none, none, some (.iconst 0, 0, 0, 0), some (.ireturn, 0, 0, 0), some (.aload_n 1, 0, 0, 0), some (.aload_n 0, 0, 0, 0), some (.iload_n 3, 0, 0, 0), some (.iconst 1, 0, 0, 0), some (.iadd, 0, 0, 0), some (.iaload, 0, 0, 0), some (.invokevirtual 52, 80, 2, 526), none, none, some (.aload_n 2, 0, 0, 0), some (.aload_n 0, 0, 0, 0), some (.iload_n 3, 0, 0, 0), some (.iconst 1, 0, 0, 0), some (.iadd, 0, 0, 0), some (.iaload, 0, 0, 0), some (.invokevirtual 55, 157, 2, 916), none, none, some (.if_icmp .eq 518, 915, 0, 0), none, none, some (.iconst 0, 0, 0, 0), some (.ireturn, 0, 0, 0), some (.aload_n 1, 0, 0, 0), some (.aload_n 0, 0, 0, 0), some (.iload_n 3, 0, 0, 0), some (.iconst 1, 0, 0, 0), some (.iadd, 0, 0, 0), some (.iaload, 0, 0, 0), some (.aload_n 0, 0, 0, 0), some (.iload_n 3, 0, 0, 0), some (.iconst 2, 0, 0, 0), some (.iadd, 0, 0, 0), some (.iaload, 0, 0, 0), some (.invokevirtual 56, 83, 3, 538), none, none, some (.aload_n 2, 0, 0, 0), some (.aload_n 0, 0, 0, 0), some (.iload_n 3, 0, 0, 0), some (.iconst 1, 0, 0, 0), some (.iadd, 0, 0, 0), some (.iaload, 0, 0, 0), some (.aload_n 0, 0, 0, 0), some (.iload_n 3, 0, 0, 0), some (.iconst 2, 0, 0, 0), some (.iadd, 0, 0, 0), some (.iaload, 0, 0, 0), some (.invokevirtual 59, 161, 3, 931), none, none, some (.if_icmp .eq 485, 915, 0, 0), none, none, some (.iconst 0, 0, 0, 0), some (.ireturn, 0, 0, 0), some (.aload_n 1, 0, 0, 0), some (.aload_n 0, 0, 0, 0), some (.iload_n 3, 0, 0, 0), some (.iconst 1, 0, 0, 0), some (.iadd, 0, 0, 0), some (.iaload, 0, 0, 0), some (.aload_n 0, 0, 0, 0), some (.iload_n 3, 0, 0, 0), some (.iconst 2, 0, 0, 0), some (.iadd, 0, 0, 0), some (.iaload, 0, 0, 0), some (.invokevirtual 60, 88, 3, 558), none, none, some (.aload_n 2, 0, 0, 0), some (.aload_n 0, 0, 0, 0), some (.iload_n 3, 0, 0, 0), some (.iconst 1, 0, 0, 0), some (.iadd, 0, 0, 0), some (.iaload, 0, 0, 0), some (.aload_n 0, 0, 0, 0), some (.iload_n 3, 0, 0, 0), some (.iconst 2, 0, 0, 0), some (.iadd, 0, 0, 0), some (.iaload, 0, 0, 0), some (.invokevirtual 63, 163, 3, 939), none, none, some (.if_icmp .eq 452, 915, 0, 0), none, none, some (.iconst 0, 0, 0, 0), some (.ireturn, 0, 0, 0), some (.aload_n 1, 0, 0, 0), some (.aload_n 0, 0, 0, 0), some (.iload_n 3, 0, 0, 0), some (.iconst 1, 0, 0, 0), some (.iadd, 0, 0, 0), some (.iaload, 0, 0, 0), some (.aload_n 0, 0, 0, 0), some (.iload_n 3, 0, 0, 0), some (.iconst 2, 0, 0, 0), some (.iadd, 0, 0, 0), some (.iaload, 0, 0, 0), some (.invokevirtual 64, 92, 3, 575), none, none, some (.aload_n 2, 0, 0, 0), some (.aload_n 0, 0, 0, 0), some (.iload_n 3, 0, 0, 0), some (.iconst 1, 0, 0, 0), some (.iadd, 0, 0, 0), some (.iaload, 0, 0, 0), some (.aload_n 0, 0, 0, 0), some (.iload_n 3, 0, 0, 0), some (.iconst 2, 0, 0, 0), some (.iadd, 0, 0, 0), some (.iaload, 0, 0, 0), some (.invokevirtual 67, 166, 3, 951), none, none, some (.if_icmp .eq 419, 915, 0, 0), none, none, some (.iconst 0, 0, 0, 0), some (.ireturn, 0, 0, 0), some (.aload_n 1, 0, 0, 0), some (.aload_n 0, 0, 0, 0), some (.iload_n 3, 0, 0, 0), some (.iconst 1, 0, 0, 0), some (.iadd, 0, 0, 0), some (.iaload, 0, 0, 0), some (.invokevirtual 68, 93, 2, 580), none, none, some (.aload_n 2, 0, 0, 0), some (.aload_n 0, 0, 0, 0), some (.iload_n 3, 0, 0, 0), some (.iconst 1, 0, 0, 0), some (.iadd, 0, 0, 0), some (.iaload, 0, 0, 0), some (.invokevirtual 71, 167, 2, 955), none, none, some (.if_icmp .eq 396, 915, 0, 0), none, none, some (.iconst 0, 0, 0, 0), some (.ireturn, 0, 0, 0), some (.aload_n 1, 0, 0, 0), some (.aload_n 0, 0, 0, 0), some (.iload_n 3, 0, 0, 0), some (.iconst 1, 0, 0, 0), some (.iadd, 0, 0, 0), some (.iaload, 0, 0, 0), some (.invokevirtual 72, 95, 2, 587), none, none, some (.aload_n 2, 0, 0, 0), some (.aload_n 0, 0, 0, 0), some (.iload_n 3, 0, 0, 0), some (.iconst 1, 0, 0, 0), some (.iadd, 0, 0, 0), some (.iaload, 0, 0, 0), some (.invokevirtual 75, 168, 2, 959), none, none, some (.if_icmp .eq 373, 915, 0, 0), none, none, some (.iconst 0, 0, 0, 0), some (.ireturn, 0, 0, 0), some (.aload_n 1, 0, 0, 0), some (.invokevirtual 76, 97, 1, 596), none, none, some (.aload_n 2, 0, 0, 0), some (.invokevirtual 79, 169, 1, 963), none, none, some (.if_icmp .eq 360, 915, 0, 0), none, none, some (.iconst 0, 0, 0, 0), some (.ireturn, 0, 0, 0), some (.aload_n 1, 0, 0, 0), some (.aload_n 0, 0, 0, 0), some (.iload_n 3, 0, 0, 0), some (.iconst 1, 0, 0, 0), some (.iadd, 0, 0, 0), some (.iaload, 0, 0, 0), some (.invokevirtual 80, 100, 2, 608), none, none, some (.aload_n 2, 0, 0, 0), some (.aload_n 0, 0, 0, 0), some (.iload_n 3, 0, 0, 0), some (.iconst 1, 0, 0, 0), some (.iadd, 0, 0, 0), some (.iaload, 0, 0, 0), some (.invokevirtual 83, 170, 2, 967), none, none, some (.if_icmp .eq 337, 915, 0, 0), none, none, some (.iconst 0, 0, 0, 0), some (.ireturn, 0, 0, 0), some (.aload_n 1, 0, 0, 0), some (.aload_n 0, 0, 0, 0), some (.iload_n 3, 0, 0, 0), some (.iconst 1, 0, 0, 0), some (.iadd, 0, 0, 0), some (.iaload, 0, 0, 0), some (.invokevirtual 84, 101, 2, 612), none, none, some (.aload_n 2, 0, 0, 0), some (.aload_n 0, 0, 0, 0), some (.iload_n 3, 0, 0, 0), some (.iconst 1, 0, 0, 0), some (.iadd, 0, 0, 0), some (.iaload, 0, 0, 0), some (.invokevirtual 87, 172, 2, 975), none, none, some (.if_icmp .eq 314, 915, 0, 0), none, none, some (.iconst 0, 0, 0, 0), some (.ireturn, 0, 0, 0), some (.aload_n 1, 0, 0, 0), some (.invokevirtual 88, 102, 1, 617), none, none, some (.aload_n 2, 0, 0, 0), some (.invokevirtual 91, 173, 1, 979), none, none, some (.if_icmp .eq 301, 915, 0, 0), none, none, some (.iconst 0, 0, 0, 0), some (.ireturn, 0, 0, 0), some (.aload_n 1, 0, 0, 0), some (.aload_n 0, 0, 0, 0), some (.iload_n 3, 0, 0, 0), some (.iconst 1, 0, 0, 0), some (.iadd, 0, 0, 0), some (.iaload, 0, 0, 0), some (.invokevirtual 92, 104, 2, 628), none, none, some (.aload_n 2, 0, 0, 0), some (.aload_n 0, 0, 0, 0), some (.iload_n 3, 0, 0, 0), some (.iconst 1, 0, 0, 0), some (.iadd, 0, 0, 0), some (.iaload, 0, 0, 0), some (.invokevirtual 95, 174, 2, 983), none, none, some (.if_icmp .eq 278, 915, 0, 0), none, none, some (.iconst 0, 0, 0, 0), some (.ireturn, 0, 0, 0), some (.aload_n 1, 0, 0, 0), some (.aload_n 0, 0, 0, 0), some (.iload_n 3, 0, 0, 0), some (.iconst 1, 0, 0, 0), some (.iadd, 0, 0, 0), some (.iaload, 0, 0, 0), some (.aload_n 0, 0, 0, 0), some (.iload_n 3, 0, 0, 0), some (.iconst 2, 0, 0, 0), some (.iadd, 0, 0, 0), some (.iaload, 0, 0, 0), some (.invokevirtual 96, 105, 3, 633), none, none, some (.aload_n 2, 0, 0, 0), some (.aload_n 0, 0, 0, 0), some (.iload_n 3, 0, 0, 0), some (.iconst 1, 0, 0, 0), some (.iadd, 0, 0, 0), some (.iaload, 0, 0, 0), some (.aload_n 0, 0, 0, 0), some (.iload_n 3, 0, 0, 0), some (.iconst 2, 0, 0, 0), some (.iadd, 0, 0, 0), some (.iaload, 0, 0, 0), some (.invokevirtual 99, 175, 3, 987), none, none, some (.if_icmp .eq 245, 915, 0, 0), none, none, some (.iconst 0, 0, 0, 0), some (.ireturn, 0, 0, 0), some (.aload_n 1, 0, 0, 0), some (.aload_n 0, 0, 0, 0), some (.iload_n 3, 0, 0, 0), some (.iconst 1, 0, 0, 0), some (.iadd, 0, 0, 0), some (.iaload, 0, 0, 0), some (.invokevirtual 100, 106, 2, 637), none, none, some (.aload_n 2, 0, 0, 0), some (.aload_n 0, 0, 0, 0), some (.iload_n 3, 0, 0, 0), some (.iconst 1, 0, 0, 0), some (.iadd, 0, 0, 0), some (.iaload, 0, 0, 0), some (.invokevirtual 103, 176, 2, 991), none, none, some (.if_icmp .eq 222, 915, 0, 0), none, none, some (.iconst 0, 0, 0, 0), some (.ireturn, 0, 0, 0), some (.aload_n 1, 0, 0, 0), some (.aload_n 0, 0, 0, 0), some (.iload_n 3, 0, 0, 0), some (.iconst 1, 0, 0, 0), some (.iadd, 0, 0, 0), some (.iaload, 0, 0, 0), some (.aload_n 0, 0, 0, 0), some (.iload_n 3, 0, 0, 0), some (.iconst 2, 0, 0, 0), some (.iadd, 0, 0, 0), some (.iaload, 0, 0, 0), some (.invokevirtual 104, 107, 3, 641), none, none, some (.aload_n 2, 0, 0, 0), some (.aload_n 0, 0, 0, 0), some (.iload_n 3, 0, 0, 0), some (.iconst 1, 0, 0, 0), some (.iadd, 0, 0, 0), some (.iaload, 0, 0, 0), some (.aload_n 0, 0, 0, 0), some (.iload_n 3, 0, 0, 0), some (.iconst 2, 0, 0, 0), some (.iadd, 0, 0, 0), some (.iaload, 0, 0, 0), some (.invokevirtual 107, 177, 3, 995), none, none, some (.if_icmp .eq 189, 915, 0, 0), none, none, some (.iconst 0, 0, 0, 0), some (.ireturn, 0, 0, 0), some (.aload_n 1, 0, 0, 0), some (.invokevirtual 108, 110, 1, 653), none, none, some (.aload_n 2, 0, 0, 0), some (.invokevirtual 111, 178, 1, 999), none, none, some (.if_icmp .eq 176, 915, 0, 0), none, none, some (.iconst 0, 0, 0, 0), some (.ireturn, 0, 0, 0), some (.aload_n 1, 0, 0, 0), some (.aload_n 0, 0, 0, 0), some (.iload_n 3, 0, 0, 0), some (.iconst 1, 0, 0, 0), some (.iadd, 0, 0, 0), some (.iaload, 0, 0, 0), some (.invokevirtual 112, 111, 2, 657), none, none, some (.aload_n 2, 0, 0, 0), some (.aload_n 0, 0, 0, 0), some (.iload_n 3, 0, 0, 0), some (.iconst 1, 0, 0, 0), some (.iadd, 0, 0, 0), some (.iaload, 0, 0, 0), some (.invokevirtual 115, 179, 2, 1003), none, none, some (.if_icmp .eq 153, 915, 0, 0), none, none, some (.iconst 0, 0, 0, 0), some (.ireturn, 0, 0, 0), some (.aload_n 1, 0, 0, 0), some (.aload_n 0, 0, 0, 0), some (.iload_n 3, 0, 0, 0), some (.iconst 1, 0, 0, 0), some (.iadd, 0, 0, 0), some (.iaload, 0, 0, 0), some (.aload_n 0, 0, 0, 0), some (.iload_n 3, 0, 0, 0), some (.iconst 2, 0, 0, 0), some (.iadd, 0, 0, 0), some (.iaload, 0, 0, 0), some (.invokevirtual 116, 115, 3, 673), none, none, some (.aload_n 2, 0, 0, 0), some (.aload_n 0, 0, 0, 0), some (.iload_n 3, 0, 0, 0), some (.iconst 1, 0, 0, 0), some (.iadd, 0, 0, 0), some (.iaload, 0, 0, 0), some (.aload_n 0, 0, 0, 0), some (.iload_n 3, 0, 0, 0), some (.iconst 2, 0, 0, 0), some (.iadd, 0, 0, 0), some (.iaload, 0, 0, 0), some (.invokevirtual 119, 180, 3, 1007), none, none, some (.if_icmp .eq 120, 915, 0, 0), none, none, some (.iconst 0, 0, 0, 0), some (.ireturn, 0, 0, 0), some (.aload_n 1, 0, 0, 0), some (.aload_n 0, 0, 0, 0), some (.iload_n 3, 0, 0, 0), some (.iconst 1, 0, 0, 0), some (.iadd, 0, 0, 0), some (.iaload, 0, 0, 0), some (.invokevirtual 120, 120, 2, 691), none, none, some (.aload_n 2, 0, 0, 0), some (.aload_n 0, 0, 0, 0), some (.iload_n 3, 0, 0, 0), some (.iconst 1, 0, 0, 0), some (.iadd, 0, 0, 0), some (.iaload, 0, 0, 0), some (.invokevirtual 123, 182, 2, 1014), none, none, some (.if_icmp .eq 97, 915, 0, 0), none, none, some (.iconst 0, 0, 0, 0), some (.ireturn, 0, 0, 0), some (.aload_n 1, 0, 0, 0), some (.aload_n 0, 0, 0, 0), some (.iload_n 3, 0, 0, 0), some (.iconst 1, 0, 0, 0), some (.iadd, 0, 0, 0), some (.iaload, 0, 0, 0), some (.aload_n 0, 0, 0, 0), some (.iload_n 3, 0, 0, 0), some (.iconst 2, 0, 0, 0), some (.iadd, 0, 0, 0), some (.iaload, 0, 0, 0), some (.aload_n 0, 0, 0, 0), some (.iload_n 3, 0, 0, 0), some (.iconst 3, 0, 0, 0), some (.iadd, 0, 0, 0), some (.iaload, 0, 0, 0), some (.invokevirtual 124, 121, 4, 695), none, none, some (.aload_n 2, 0, 0, 0), some (.aload_n 0, 0, 0, 0), some (.iload_n 3, 0, 0, 0), some (.iconst 1, 0, 0, 0), some (.iadd, 0, 0, 0), some (.iaload, 0, 0, 0), some (.aload_n 0, 0, 0, 0), some (.iload_n 3, 0, 0, 0), some (.iconst 2, 0, 0, 0), some (.iadd, 0, 0, 0), some (.iaload, 0, 0, 0), some (.aload_n 0, 0, 0, 0), some (.iload_n 3, 0, 0, 0), some (.iconst 3, 0, 0, 0), some (.iadd, 0, 0, 0), some (.iaload, 0, 0, 0), some (.invokevirtual 128, 183, 4, 1018), none, none, some (.if_icmp .eq 54, 915, 0, 0), none, none, some (.iconst 0, 0, 0, 0), some (.ireturn, 0, 0, 0), some (.aload_n 1, 0, 0, 0), some (.invokevirtual 129, 123, 1, 705), none, none, some (.aload_n 2, 0, 0, 0), some (.invokevirtual 132, 184, 1, 1027), none, none, some (.if_icmp .eq 41, 915, 0, 0), none, none, some (.iconst 0, 0, 0, 0), some (.ireturn, 0, 0, 0), some (.aload_n 1, 0, 0, 0), some (.invokevirtual 133, 124, 1, 709), none, none, some (.aload_n 2, 0, 0, 0), some (.invokevirtual 136, 185, 1, 1031), none, none, some (.if_icmp .eq 28, 915, 0, 0), none, none, some (.iconst 0, 0, 0, 0), some (.ireturn, 0, 0, 0), some (.aload_n 1, 0, 0, 0), some (.aload_n 0, 0, 0, 0), some (.iload_n 3, 0, 0, 0), some (.iconst 1, 0, 0, 0), some (.iadd, 0, 0, 0), some (.iaload, 0, 0, 0), some (.invokevirtual 137, 125, 2, 713), none, none, some (.aload_n 2, 0, 0, 0), some (.aload_n 0, 0, 0, 0), some (.iload_n 3, 0, 0, 0), some (.iconst 1, 0, 0, 0), some (.iadd, 0, 0, 0), some (.iaload, 0, 0, 0), some (.invokevirtual 140, 186, 2, 1035), none, none, some (.if_icmp .eq 5, 915, 0, 0), none, none, some (.iconst 0, 0, 0, 0), some (.ireturn, 0, 0, 0), some (.iinc 3 4, 0, 0, 0), none, none, some (.goto (-900), 18, 0, 0), none, none, some (.iconst 1, 0, 0, 0), some (.ireturn, 0, 0, 0)]
def sm_cs : List (List (Option sm_I)) := [sm_c0, sm_c1, sm_c2, sm_c3, sm_c4, sm_c5, sm_c6, sm_c7, sm_c8, sm_c9, sm_c10, sm_c11, sm_c12, sm_c13, sm_c14, sm_c15, sm_c16, sm_c17, sm_c18, sm_c19, sm_c20, sm_c21, sm_c22, sm_c23, sm_c24, sm_c25, sm_c26, sm_c27, sm_c28, sm_c29, sm_c30, sm_c31, sm_c32, sm_c33, sm_c34, sm_c35, sm_c36, sm_c37, sm_c38, sm_c39, sm_c40, sm_c41, sm_c42, sm_c43, sm_c44, sm_c45, sm_c46, sm_c47, sm_c48, sm_c49, sm_c50, sm_c51, sm_c52, sm_c53, sm_c54, sm_c55, sm_c56, sm_c57, sm_c58, sm_c59, sm_c60, sm_c61, sm_c62, sm_c63, sm_c64, sm_c65, sm_c66, sm_c67, sm_c68, sm_c69, sm_c70, sm_c71, sm_c72, sm_c73, sm_c74, sm_c75, sm_c76, sm_c77, sm_c78, sm_c79, sm_c80, sm_c81, sm_c82, sm_c83, sm_c84, sm_c85, sm_c86, sm_c87, sm_c88, sm_c89, sm_c90, sm_c91, sm_c92, sm_c93, sm_c94, sm_c95, sm_c96, sm_c97, sm_c98, sm_c99, sm_c100, sm_c101, sm_c102, sm_c103, sm_c104, sm_c105, sm_c106, sm_c107, sm_c108, sm_c109, sm_c110, sm_c111, sm_c112, sm_c113, sm_c114, sm_c115, sm_c116, sm_c117, sm_c118, sm_c119, sm_c120, sm_c121, sm_c122, sm_c123, sm_c124, sm_c125, sm_c126, sm_c127, sm_c128, sm_c129, sm_c130, sm_c131, sm_c132, sm_c133, sm_c134, sm_c135, sm_c136, sm_c137, sm_c138, sm_c139, sm_c140, sm_c141, sm_c142, sm_c143, sm_c144, sm_c145, sm_c146, sm_c147, sm_c148, sm_c149, sm_c150, sm_c151, sm_c152, sm_c153, sm_c154, sm_c155, sm_c156, sm_c157, sm_c158, sm_c159, sm_c160, sm_c161, sm_c162, sm_c163, sm_c164, sm_c165, sm_c166, sm_c167, sm_c168, sm_c169, sm_c170, sm_c171, sm_c172, sm_c173, sm_c174, sm_c175, sm_c176, sm_c177, sm_c178, sm_c179, sm_c180, sm_c181, sm_c182, sm_c183, sm_c184, sm_c185, sm_c186, sm_c187, sm_c188]
def sm_ms : List sm_M := [(⟨"LeavingVote", "<init>", "()V"⟩, prog_1_method_1_code, 1, none, 2, 0, 0, (57, 56, 0, 38)),
  (⟨"LeavingVote$Script", "<init>", "()V"⟩, prog_6_method_1_code, 1, none, 2, 5, 0, (65, 64, 0, 39)),
  (⟨"LeavingVote$Item", "<init>", "()V"⟩, prog_3_method_1_code, 1, none, 2, 2, 0, (79, 78, 0, 40)),
  (⟨"LeavingVote$Island", "<init>", "()V"⟩, prog_2_method_1_code, 1, none, 2, 1, 0, (96, 95, 0, 41)),
  (⟨"LeavingVote$Night", "<init>", "()V"⟩, prog_4_method_1_code, 1, none, 2, 3, 0, (133, 132, 0, 42)),
  (⟨"LeavingVote$Pile", "<init>", "(I)V"⟩, prog_5_method_1_code, 2, none, 2, 4, 1, (155, 154, 0, 43)),
  (⟨"LeavingVote$Sightings", "<init>", "()V"⟩, prog_7_method_1_code, 1, none, 2, 6, 0, (172, 171, 0, 45)),
  (⟨"LeavingVote", "layFirstText", "()V"⟩, prog_1_method_33_code, 2, none, 1, 0, 0, (187, 186, 0, 38)),
  (⟨"java/lang/String", "length", "()I"⟩, prog_13_method_54_code, 1, some .int, 3, 0, 0, (192, 190, 191, 46)),
  (⟨"java/lang/String", "coder", "()B"⟩, prog_13_method_152_code, 1, some .byte, 3, 0, 0, (196, 194, 195, 46)),
  (⟨"java/lang/String", "charAt", "(I)C"⟩, prog_13_method_56_code, 2, some .char, 3, 0, 1, (202, 200, 201, 46)),
  (⟨"java/lang/String", "isLatin1", "()Z"⟩, prog_13_method_154_code, 1, some .boolean, 3, 0, 0, (206, 204, 205, 46)),
  (⟨"java/lang/StringLatin1", "charAt", "([BI)C"⟩, prog_14_method_2_code, 2, some .char, 0, 0, 2, (209, 208, 0, 47)),
  (⟨"java/lang/String", "checkIndex", "(II)V"⟩, prog_13_method_155_code, 2, none, 0, 0, 2, (212, 211, 0, 46)),
  (⟨"jdk/internal/util/Preconditions", "checkIndex", "(IILjava/util/function/BiFunction;)I"⟩, prog_16_method_11_code, 3, some .int, 0, 0, 3, (217, 216, 0, 48)),
  (⟨"LeavingVote$Script", "append", "(I)Z"⟩, prog_6_method_2_code, 2, some .boolean, 1, 5, 1, (240, 238, 239, 39)),
  (⟨"LeavingVote$Island", "read", "(LLeavingVote$Script;LLeavingVote$Item;)I"⟩, prog_2_method_2_code, 5, some .int, 1, 1, 2, (244, 242, 243, 41)),
  (⟨"LeavingVote$Island", "empty", "()V"⟩, prog_2_method_21_code, 2, none, 1, 1, 0, (248, 247, 1, 41)),
  (⟨"LeavingVote$Island", "putIslander", "(III)V"⟩, prog_2_method_25_code, 4, none, 1, 1, 3, (252, 251, 2, 41)),
  (⟨"LeavingVote$Island", "putBoat", "(II)V"⟩, prog_2_method_26_code, 3, none, 1, 1, 2, (256, 255, 3, 41)),
  (⟨"LeavingVote$Script", "length", "()I"⟩, prog_6_method_4_code, 1, some .int, 1, 5, 0, (260, 258, 259, 39)),
  (⟨"LeavingVote$Item", "readFrom", "(LLeavingVote$Script;I)Z"⟩, prog_3_method_2_code, 8, some .boolean, 1, 2, 2, (264, 262, 263, 40)),
  (⟨"LeavingVote$Script", "letterAt", "(I)I"⟩, prog_6_method_5_code, 2, some .int, 1, 5, 1, (268, 266, 267, 39)),
  (⟨"LeavingVote$Item", "numbersOf", "(I)I"⟩, prog_3_method_6_code, 1, some .int, 0, 2, 1, (271, 270, 0, 40)),
  (⟨"LeavingVote$Script", "figuresAt", "(I)I"⟩, prog_6_method_6_code, 2, some .int, 1, 5, 1, (275, 273, 274, 39)),
  (⟨"LeavingVote$Script", "isFigure", "(I)Z"⟩, prog_6_method_8_code, 1, some .boolean, 0, 5, 1, (279, 278, 0, 39)),
  (⟨"LeavingVote$Script", "numberAt", "(II)I"⟩, prog_6_method_7_code, 4, some .int, 1, 5, 2, (283, 281, 282, 39)),
  (⟨"LeavingVote$Item", "least", "(I)I"⟩, prog_3_method_7_code, 1, some .int, 0, 2, 1, (286, 285, 0, 40)),
  (⟨"LeavingVote$Item", "most", "(II)I"⟩, prog_3_method_8_code, 2, some .int, 0, 2, 2, (289, 288, 0, 40)),
  (⟨"LeavingVote$Island", "take", "(LLeavingVote$Item;)Z"⟩, prog_2_method_22_code, 3, some .boolean, 1, 1, 1, (293, 292, 4, 41)),
  (⟨"LeavingVote$Item", "number", "(I)I"⟩, prog_3_method_4_code, 2, some .int, 1, 2, 1, (297, 295, 296, 40)),
  (⟨"LeavingVote$Item", "letter", "()I"⟩, prog_3_method_3_code, 1, some .int, 1, 2, 0, (301, 299, 300, 40)),
  (⟨"LeavingVote$Island", "takeIslander", "(LLeavingVote$Item;)Z"⟩, prog_2_method_23_code, 2, some .boolean, 1, 1, 1, (305, 304, 5, 41)),
  (⟨"LeavingVote$Standing", "withLeaning", "(JII)J"⟩, prog_8_method_4_code, 6, some .long, 0, 0, 3, (308, 307, 0, 50)),
  (⟨"LeavingVote$Standing", "with", "(JIII)J"⟩, prog_8_method_13_code, 7, some .long, 0, 0, 4, (311, 310, 0, 50)),
  (⟨"LeavingVote$Standing", "withMinded", "(JII)J"⟩, prog_8_method_6_code, 4, some .long, 0, 0, 3, (315, 314, 0, 50)),
  (⟨"LeavingVote$Island", "takeBoat", "(I)Z"⟩, prog_2_method_24_code, 2, some .boolean, 1, 1, 1, (319, 318, 6, 41)),
  (⟨"LeavingVote$Item", "behind", "()I"⟩, prog_3_method_5_code, 1, some .int, 1, 2, 0, (323, 321, 322, 40)),
  (⟨"LeavingVote$Island", "copyFrom", "(LLeavingVote$Island;)V"⟩, prog_2_method_4_code, 3, none, 1, 1, 1, (327, 325, 326, 41)),
  (⟨"LeavingVote$Island", "kind", "(I)I"⟩, prog_2_method_13_code, 2, some .int, 1, 1, 1, (331, 329, 330, 41)),
  (⟨"LeavingVote$Island", "cowsOf", "(I)I"⟩, prog_2_method_15_code, 4, some .int, 1, 1, 1, (335, 333, 334, 41)),
  (⟨"LeavingVote$Island", "seatsOf", "(I)I"⟩, prog_2_method_19_code, 4, some .int, 1, 1, 1, (339, 337, 338, 41)),
  (⟨"LeavingVote$Island", "firstStanding", "()J"⟩, prog_2_method_11_code, 1, some .long, 1, 1, 0, (343, 341, 342, 41)),
  (⟨"LeavingVote$Script", "clear", "()V"⟩, prog_6_method_3_code, 1, none, 1, 5, 0, (347, 345, 346, 39)),
  (⟨"LeavingVote", "write", "(I)I"⟩, prog_1_method_2_code, 2, some .int, 1, 0, 1, (380, 378, 379, 38)),
  (⟨"LeavingVote", "wipe", "()I"⟩, prog_1_method_3_code, 2, some .int, 1, 0, 0, (385, 383, 384, 38)),
  (⟨"LeavingVote", "fault", "()I"⟩, prog_1_method_4_code, 1, some .int, 1, 0, 0, (389, 387, 388, 38)),
  (⟨"LeavingVote", "lay", "()I"⟩, prog_1_method_5_code, 1, some .int, 1, 0, 0, (393, 391, 392, 38)),
  (⟨"LeavingVote$Island", "canBeLaid", "()Z"⟩, prog_2_method_3_code, 2, some .boolean, 1, 1, 0, (397, 395, 396, 41)),
  (⟨"LeavingVote$Standing", "minded", "(JI)I"⟩, prog_8_method_5_code, 3, some .int, 0, 0, 2, (400, 399, 0, 50)),
  (⟨"LeavingVote$Standing", "part", "(JII)I"⟩, prog_8_method_12_code, 4, some .int, 0, 0, 3, (403, 402, 0, 50)),
  (⟨"LeavingVote$Pile", "clear", "()V"⟩, prog_5_method_3_code, 1, none, 1, 4, 0, (407, 405, 406, 43)),
  (⟨"LeavingVote$Sightings", "clear", "()V"⟩, prog_7_method_3_code, 1, none, 1, 6, 0, (411, 409, 410, 45)),
  (⟨"LeavingVote$Island", "islanders", "()I"⟩, prog_2_method_5_code, 1, some .int, 1, 1, 0, (415, 413, 414, 41)),
  (⟨"LeavingVote", "islander", "(II)I"⟩, prog_1_method_6_code, 3, some .int, 1, 0, 2, (419, 417, 418, 38)),
  (⟨"LeavingVote", "isIslander", "(I)Z"⟩, prog_1_method_34_code, 2, some .boolean, 1, 0, 1, (423, 422, 7, 38)),
  (⟨"LeavingVote$Standing", "leaning", "(JI)I"⟩, prog_8_method_3_code, 3, some .int, 0, 0, 2, (427, 426, 0, 50)),
  (⟨"LeavingVote", "boat", "(II)I"⟩, prog_1_method_7_code, 3, some .int, 1, 0, 2, (433, 431, 432, 38)),
  (⟨"LeavingVote", "isBoat", "(I)Z"⟩, prog_1_method_35_code, 2, some .boolean, 1, 0, 1, (437, 436, 8, 38)),
  (⟨"LeavingVote$Island", "boats", "()I"⟩, prog_2_method_6_code, 1, some .int, 1, 1, 0, (441, 439, 440, 41)),
  (⟨"LeavingVote$Standing", "held", "(J)I"⟩, prog_8_method_7_code, 2, some .int, 0, 0, 1, (445, 444, 0, 50)),
  (⟨"LeavingVote", "wants", "(I)I"⟩, prog_1_method_8_code, 2, some .int, 1, 0, 1, (449, 447, 448, 38)),
  (⟨"LeavingVote", "isQuestion", "(I)Z"⟩, prog_1_method_36_code, 1, some .boolean, 0, 0, 1, (452, 451, 0, 38)),
  (⟨"LeavingVote$Night", "set", "(LLeavingVote$Island;J)V"⟩, prog_4_method_2_code, 6, none, 1, 3, 2, (456, 454, 455, 42)),
  (⟨"LeavingVote$Standing", "ice", "(J)Z"⟩, prog_8_method_10_code, 2, some .boolean, 0, 0, 1, (459, 458, 0, 50)),
  (⟨"LeavingVote$Night", "guideOf", "(LLeavingVote$Island;JI)I"⟩, prog_4_method_6_code, 6, some .int, 0, 3, 3, (462, 461, 0, 42)),
  (⟨"LeavingVote$Night", "comesRound", "(LLeavingVote$Island;JI)Z"⟩, prog_4_method_7_code, 6, some .boolean, 0, 3, 3, (466, 465, 0, 42)),
  (⟨"LeavingVote$Island", "ofKind", "(I)I"⟩, prog_2_method_14_code, 4, some .int, 1, 1, 1, (471, 469, 470, 41)),
  (⟨"LeavingVote$Island", "bedsAshore", "()I"⟩, prog_2_method_7_code, 1, some .int, 1, 1, 0, (477, 475, 476, 41)),
  (⟨"LeavingVote$Standing", "storm", "(J)Z"⟩, prog_8_method_9_code, 2, some .boolean, 0, 0, 1, (480, 479, 0, 50)),
  (⟨"LeavingVote$Standing", "against", "(JI)I"⟩, prog_8_method_2_code, 3, some .int, 0, 0, 2, (483, 482, 0, 50)),
  (⟨"LeavingVote$Night", "wanting", "(II)I"⟩, prog_4_method_3_code, 6, some .int, 1, 3, 2, (487, 485, 486, 42)),
  (⟨"LeavingVote", "leave", "(I)I"⟩, prog_1_method_9_code, 2, some .int, 1, 0, 1, (491, 489, 490, 38)),
  (⟨"LeavingVote", "leavers", "(JI)I"⟩, prog_1_method_40_code, 4, some .int, 1, 0, 2, (495, 494, 9, 38)),
  (⟨"LeavingVote$Night", "leaving", "(II)I"⟩, prog_4_method_4_code, 3, some .int, 1, 3, 2, (499, 497, 498, 42)),
  (⟨"LeavingVote$Night", "leavingOf", "(II)I"⟩, prog_4_method_5_code, 3, some .int, 1, 3, 2, (504, 502, 503, 42)),
  (⟨"LeavingVote", "lowest", "(II)I"⟩, prog_1_method_47_code, 5, some .int, 0, 0, 2, (510, 509, 0, 38)),
  (⟨"LeavingVote", "by", "(II)I"⟩, prog_1_method_10_code, 5, some .int, 1, 0, 2, (514, 512, 513, 38)),
  (⟨"java/lang/Integer", "bitCount", "(I)I"⟩, prog_11_method_49_code, 1, some .int, 0, 0, 1, (518, 517, 0, 52)),
  (⟨"LeavingVote$Island", "boatOfSeat", "(II)I"⟩, prog_2_method_20_code, 6, some .int, 1, 1, 2, (525, 523, 524, 41)),
  (⟨"LeavingVote", "falls", "(I)I"⟩, prog_1_method_11_code, 2, some .int, 1, 0, 1, (529, 527, 528, 38)),
  (⟨"LeavingVote$Island", "lawFalls", "(I)Z"⟩, prog_2_method_18_code, 2, some .boolean, 1, 1, 1, (533, 531, 532, 41)),
  (⟨"LeavingVote", "oneIf", "(Z)I"⟩, prog_1_method_38_code, 1, some .int, 0, 0, 1, (537, 536, 0, 38)),
  (⟨"LeavingVote", "milked", "(II)I"⟩, prog_1_method_12_code, 4, some .int, 1, 0, 2, (541, 539, 540, 38)),
  (⟨"LeavingVote", "isEither", "(I)Z"⟩, prog_1_method_37_code, 1, some .boolean, 0, 0, 1, (544, 543, 0, 38)),
  (⟨"LeavingVote$Island", "cowsWithout", "(I)I"⟩, prog_2_method_16_code, 2, some .int, 1, 1, 1, (548, 546, 547, 41)),
  (⟨"LeavingVote$Island", "everybody", "()I"⟩, prog_2_method_12_code, 1, some .int, 1, 1, 0, (552, 550, 551, 41)),
  (⟨"LeavingVote$Island", "cowsMilked", "(I)Z"⟩, prog_2_method_17_code, 2, some .boolean, 1, 1, 1, (556, 554, 555, 41)),
  (⟨"LeavingVote", "lean", "(II)I"⟩, prog_1_method_13_code, 4, some .int, 1, 0, 2, (561, 559, 560, 38)),
  (⟨"LeavingVote", "change", "(J)V"⟩, prog_1_method_39_code, 3, none, 1, 0, 1, (566, 565, 10, 38)),
  (⟨"LeavingVote$Pile", "put", "(J)V"⟩, prog_5_method_4_code, 3, none, 1, 4, 1, (570, 568, 569, 43)),
  (⟨"LeavingVote$Pile", "dropOldest", "()V"⟩, prog_5_method_6_code, 2, none, 1, 4, 0, (574, 573, 11, 43)),
  (⟨"LeavingVote", "mind", "(II)I"⟩, prog_1_method_14_code, 4, some .int, 1, 0, 2, (578, 576, 577, 38)),
  (⟨"LeavingVote", "hold", "(I)I"⟩, prog_1_method_15_code, 3, some .int, 1, 0, 1, (583, 581, 582, 38)),
  (⟨"LeavingVote$Standing", "withHeld", "(JI)J"⟩, prog_8_method_8_code, 3, some .long, 0, 0, 2, (586, 585, 0, 50)),
  (⟨"LeavingVote", "weather", "(I)I"⟩, prog_1_method_16_code, 4, some .int, 1, 0, 1, (590, 588, 589, 38)),
  (⟨"LeavingVote$Standing", "withWeather", "(JZZ)J"⟩, prog_8_method_11_code, 4, some .long, 0, 0, 3, (594, 593, 0, 50)),
  (⟨"LeavingVote", "undo", "()I"⟩, prog_1_method_17_code, 1, some .int, 1, 0, 0, (599, 597, 598, 38)),
  (⟨"LeavingVote$Pile", "height", "()I"⟩, prog_5_method_2_code, 1, some .int, 1, 4, 0, (603, 601, 602, 43)),
  (⟨"LeavingVote$Pile", "take", "(J)J"⟩, prog_5_method_5_code, 4, some .long, 1, 4, 1, (607, 605, 606, 43)),
  (⟨"LeavingVote", "decides", "(I)I"⟩, prog_1_method_18_code, 6, some .int, 1, 0, 1, (611, 609, 610, 38)),
  (⟨"LeavingVote", "win", "(I)I"⟩, prog_1_method_19_code, 8, some .int, 1, 0, 1, (615, 613, 614, 38)),
  (⟨"LeavingVote", "fill", "()I"⟩, prog_1_method_20_code, 7, some .int, 1, 0, 0, (620, 618, 619, 38)),
  (⟨"LeavingVote", "seatsIn", "(I)I"⟩, prog_1_method_41_code, 2, some .int, 1, 0, 1, (624, 623, 12, 38)),
  (⟨"LeavingVote", "beds", "(I)I"⟩, prog_1_method_21_code, 4, some .int, 1, 0, 1, (631, 629, 630, 38)),
  (⟨"LeavingVote", "help", "(II)I"⟩, prog_1_method_22_code, 8, some .int, 1, 0, 2, (636, 634, 635, 38)),
  (⟨"LeavingVote", "both", "(I)I"⟩, prog_1_method_23_code, 6, some .int, 1, 0, 1, (640, 638, 639, 38)),
  (⟨"LeavingVote", "seen", "(II)I"⟩, prog_1_method_24_code, 3, some .int, 1, 0, 2, (644, 642, 643, 38)),
  (⟨"LeavingVote$Sightings", "add", "(II)Z"⟩, prog_7_method_2_code, 3, some .boolean, 1, 6, 2, (648, 646, 647, 45)),
  (⟨"LeavingVote$Sightings", "size", "()I"⟩, prog_7_method_4_code, 1, some .int, 1, 6, 0, (652, 650, 651, 45)),
  (⟨"LeavingVote", "forget", "()I"⟩, prog_1_method_25_code, 2, some .int, 1, 0, 0, (656, 654, 655, 38)),
  (⟨"LeavingVote", "oars", "(I)I"⟩, prog_1_method_26_code, 5, some .int, 1, 0, 1, (660, 658, 659, 38)),
  (⟨"LeavingVote", "agrees", "(J)Z"⟩, prog_1_method_42_code, 5, some .boolean, 1, 0, 1, (664, 663, 13, 38)),
  (⟨"LeavingVote$Sightings", "question", "(I)I"⟩, prog_7_method_5_code, 2, some .int, 1, 6, 1, (668, 666, 667, 45)),
  (⟨"LeavingVote$Sightings", "number", "(I)I"⟩, prog_7_method_6_code, 2, some .int, 1, 6, 1, (672, 670, 671, 45)),
  (⟨"LeavingVote", "odds", "(II)I"⟩, prog_1_method_27_code, 8, some .int, 1, 0, 2, (676, 674, 675, 38)),
  (⟨"LeavingVote", "weight", "(II)I"⟩, prog_1_method_43_code, 3, some .int, 1, 0, 2, (680, 679, 14, 38)),
  (⟨"LeavingVote$Island", "seasickTenths", "()I"⟩, prog_2_method_10_code, 1, some .int, 1, 1, 0, (684, 682, 683, 41)),
  (⟨"LeavingVote", "power", "(II)I"⟩, prog_1_method_44_code, 4, some .int, 0, 0, 2, (687, 686, 0, 38)),
  (⟨"LeavingVote", "commonDivisor", "(II)I"⟩, prog_1_method_45_code, 6, some .int, 0, 0, 2, (690, 689, 0, 38)),
  (⟨"LeavingVote", "asked", "(I)I"⟩, prog_1_method_28_code, 4, some .int, 1, 0, 1, (694, 692, 693, 38)),
  (⟨"LeavingVote", "months", "(III)I"⟩, prog_1_method_29_code, 10, some .int, 1, 0, 3, (698, 696, 697, 38)),
  (⟨"LeavingVote", "draw", "(II)I"⟩, prog_1_method_46_code, 4, some .int, 0, 0, 2, (701, 700, 0, 38)),
  (⟨"LeavingVote", "keep", "()I"⟩, prog_1_method_30_code, 1, some .int, 1, 0, 0, (708, 706, 707, 38)),
  (⟨"LeavingVote", "back", "()I"⟩, prog_1_method_31_code, 1, some .int, 1, 0, 0, (712, 710, 711, 38)),
  (⟨"LeavingVote", "count", "(I)I"⟩, prog_1_method_32_code, 2, some .int, 1, 0, 1, (716, 714, 715, 38)),
  (⟨"LeavingVote$Island", "cowsToMilk", "()I"⟩, prog_2_method_8_code, 1, some .int, 1, 1, 0, (720, 718, 719, 41)),
  (⟨"LeavingVote$Island", "tenths", "()I"⟩, prog_2_method_9_code, 1, some .int, 1, 1, 0, (724, 722, 723, 41)),
  (⟨"LeavingVoteModel", "<init>", "()V"⟩, prog_10_method_1_code, 1, none, 2, 7, 0, (729, 728, 0, 51)),
  (⟨"LeavingVoteModel", "noIsland", "(I)V"⟩, prog_10_method_5_code, 2, none, 1, 7, 1, (734, 733, 15, 51)),
  (⟨"LeavingVoteModel", "addIslander", "(IIIII)V"⟩, prog_10_method_6_code, 7, none, 1, 7, 5, (738, 737, 16, 51)),
  (⟨"LeavingVoteModel", "begin", "()V"⟩, prog_10_method_17_code, 2, none, 1, 7, 0, (742, 741, 17, 51)),
  (⟨"LeavingVoteModel", "write", "(I)I"⟩, prog_10_method_7_code, 2, some .int, 1, 7, 1, (816, 814, 815, 51)),
  (⟨"LeavingVoteModel", "in", "(JJJ)Z"⟩, prog_10_method_2_code, 6, some .boolean, 0, 7, 3, (821, 820, 0, 51)),
  (⟨"LeavingVoteModel", "wipe", "()I"⟩, prog_10_method_8_code, 2, some .int, 1, 7, 0, (825, 823, 824, 51)),
  (⟨"LeavingVoteModel", "fault", "()I"⟩, prog_10_method_15_code, 1, some .int, 1, 7, 0, (829, 827, 828, 51)),
  (⟨"LeavingVoteModel", "readAll", "()I"⟩, prog_10_method_14_code, 2, some .int, 1, 7, 0, (833, 832, 18, 51)),
  (⟨"LeavingVoteModel", "item", "()Z"⟩, prog_10_method_13_code, 2, some .boolean, 1, 7, 0, (837, 836, 19, 51)),
  (⟨"LeavingVoteModel", "letterAt", "(I)I"⟩, prog_10_method_9_code, 2, some .int, 1, 7, 1, (841, 840, 20, 51)),
  (⟨"LeavingVoteModel", "islanderItem", "()Z"⟩, prog_10_method_11_code, 2, some .boolean, 1, 7, 0, (845, 844, 21, 51)),
  (⟨"LeavingVoteModel", "figures", "(I)Z"⟩, prog_10_method_10_code, 5, some .boolean, 1, 7, 1, (849, 848, 22, 51)),
  (⟨"LeavingVoteModel", "lawItem", "(III)Z"⟩, prog_10_method_12_code, 5, some .boolean, 1, 7, 3, (857, 856, 23, 51)),
  (⟨"LeavingVoteModel", "lay", "()I"⟩, prog_10_method_16_code, 3, some .int, 1, 7, 0, (861, 859, 860, 51)),
  (⟨"LeavingVoteModel", "islander", "(II)I"⟩, prog_10_method_21_code, 3, some .int, 1, 7, 2, (865, 863, 864, 51)),
  (⟨"LeavingVoteModel", "isIslander", "(I)Z"⟩, prog_10_method_18_code, 2, some .boolean, 1, 7, 1, (869, 868, 24, 51)),
  (⟨"LeavingVoteModel", "boat", "(II)I"⟩, prog_10_method_22_code, 3, some .int, 1, 7, 2, (874, 872, 873, 51)),
  (⟨"LeavingVoteModel", "isBoat", "(I)Z"⟩, prog_10_method_19_code, 2, some .boolean, 1, 7, 1, (878, 877, 25, 51)),
  (⟨"LeavingVoteModel", "wants", "(I)I"⟩, prog_10_method_31_code, 2, some .int, 1, 7, 1, (882, 880, 881, 51)),
  (⟨"LeavingVoteModel", "isQuestion", "(I)Z"⟩, prog_10_method_20_code, 1, some .boolean, 0, 7, 1, (885, 884, 0, 51)),
  (⟨"LeavingVoteModel", "wanting", "(II)I"⟩, prog_10_method_24_code, 5, some .int, 1, 7, 2, (889, 888, 26, 51)),
  (⟨"LeavingVoteModel", "doesWant", "(III)Z"⟩, prog_10_method_23_code, 8, some .boolean, 1, 7, 3, (893, 892, 27, 51)),
  (⟨"LeavingVoteModel", "has", "(II)Z"⟩, prog_10_method_3_code, 2, some .boolean, 0, 7, 2, (896, 895, 0, 51)),
  (⟨"LeavingVoteModel", "leave", "(I)I"⟩, prog_10_method_32_code, 2, some .int, 1, 7, 1, (900, 898, 899, 51)),
  (⟨"LeavingVoteModel", "leaving", "(I)I"⟩, prog_10_method_27_code, 2, some .int, 1, 7, 1, (904, 903, 28, 51)),
  (⟨"LeavingVoteModel", "seated", "(II)I"⟩, prog_10_method_25_code, 6, some .int, 1, 7, 2, (908, 907, 29, 51)),
  (⟨"LeavingVoteModel", "bedded", "(II)I"⟩, prog_10_method_26_code, 5, some .int, 0, 7, 2, (911, 910, 0, 51)),
  (⟨"LeavingVoteModel", "by", "(II)I"⟩, prog_10_method_33_code, 3, some .int, 1, 7, 2, (915, 913, 914, 51)),
  (⟨"LeavingVoteModel", "falls", "(I)I"⟩, prog_10_method_34_code, 2, some .int, 1, 7, 1, (919, 917, 918, 51)),
  (⟨"LeavingVoteModel", "doesFall", "(I)Z"⟩, prog_10_method_29_code, 2, some .boolean, 1, 7, 1, (923, 922, 30, 51)),
  (⟨"LeavingVoteModel", "bits", "(I)I"⟩, prog_10_method_4_code, 3, some .int, 0, 7, 1, (926, 925, 0, 51)),
  (⟨"LeavingVoteModel", "isFall", "(I)Z"⟩, prog_10_method_28_code, 2, some .boolean, 1, 7, 1, (930, 929, 31, 51)),
  (⟨"LeavingVoteModel", "milked", "(II)I"⟩, prog_10_method_35_code, 4, some .int, 1, 7, 2, (934, 932, 933, 51)),
  (⟨"LeavingVoteModel", "cowsWithout", "(I)I"⟩, prog_10_method_30_code, 4, some .int, 1, 7, 1, (938, 937, 32, 51)),
  (⟨"LeavingVoteModel", "lean", "(II)I"⟩, prog_10_method_38_code, 3, some .int, 1, 7, 2, (942, 940, 941, 51)),
  (⟨"LeavingVoteModel", "change", "(II)I"⟩, prog_10_method_37_code, 4, some .int, 1, 7, 2, (946, 945, 33, 51)),
  (⟨"LeavingVoteModel", "note", "()V"⟩, prog_10_method_36_code, 2, none, 1, 7, 0, (950, 949, 34, 51)),
  (⟨"LeavingVoteModel", "mind", "(II)I"⟩, prog_10_method_39_code, 3, some .int, 1, 7, 2, (954, 952, 953, 51)),
  (⟨"LeavingVoteModel", "hold", "(I)I"⟩, prog_10_method_40_code, 2, some .int, 1, 7, 1, (958, 956, 957, 51)),
  (⟨"LeavingVoteModel", "weather", "(I)I"⟩, prog_10_method_41_code, 2, some .int, 1, 7, 1, (962, 960, 961, 51)),
  (⟨"LeavingVoteModel", "undo", "()I"⟩, prog_10_method_42_code, 2, some .int, 1, 7, 0, (966, 964, 965, 51)),
  (⟨"LeavingVoteModel", "decides", "(I)I"⟩, prog_10_method_44_code, 4, some .int, 1, 7, 1, (970, 968, 969, 51)),
  (⟨"LeavingVoteModel", "fallsBut", "(II)Z"⟩, prog_10_method_43_code, 5, some .boolean, 1, 7, 2, (974, 973, 35, 51)),
  (⟨"LeavingVoteModel", "win", "(I)I"⟩, prog_10_method_45_code, 6, some .int, 1, 7, 1, (978, 976, 977, 51)),
  (⟨"LeavingVoteModel", "fill", "()I"⟩, prog_10_method_46_code, 8, some .int, 1, 7, 0, (982, 980, 981, 51)),
  (⟨"LeavingVoteModel", "beds", "(I)I"⟩, prog_10_method_47_code, 5, some .int, 1, 7, 1, (986, 984, 985, 51)),
  (⟨"LeavingVoteModel", "help", "(II)I"⟩, prog_10_method_48_code, 7, some .int, 1, 7, 2, (990, 988, 989, 51)),
  (⟨"LeavingVoteModel", "both", "(I)I"⟩, prog_10_method_49_code, 6, some .int, 1, 7, 1, (994, 992, 993, 51)),
  (⟨"LeavingVoteModel", "seen", "(II)I"⟩, prog_10_method_50_code, 3, some .int, 1, 7, 2, (998, 996, 997, 51)),
  (⟨"LeavingVoteModel", "forget", "()I"⟩, prog_10_method_51_code, 2, some .int, 1, 7, 0, (1002, 1000, 1001, 51)),
  (⟨"LeavingVoteModel", "oars", "(I)I"⟩, prog_10_method_52_code, 7, some .int, 1, 7, 1, (1006, 1004, 1005, 51)),
  (⟨"LeavingVoteModel", "odds", "(II)I"⟩, prog_10_method_54_code, 9, some .int, 1, 7, 2, (1010, 1008, 1009, 51)),
  (⟨"LeavingVoteModel", "common", "(II)I"⟩, prog_10_method_53_code, 5, some .int, 0, 7, 2, (1013, 1012, 0, 51)),
  (⟨"LeavingVoteModel", "asked", "(I)I"⟩, prog_10_method_55_code, 2, some .int, 1, 7, 1, (1017, 1015, 1016, 51)),
  (⟨"LeavingVoteModel", "months", "(III)I"⟩, prog_10_method_56_code, 13, some .int, 1, 7, 3, (1021, 1019, 1020, 51)),
  (⟨"LeavingVoteModel", "keep", "()I"⟩, prog_10_method_57_code, 2, some .int, 1, 7, 0, (1030, 1028, 1029, 51)),
  (⟨"LeavingVoteModel", "back", "()I"⟩, prog_10_method_58_code, 2, some .int, 1, 7, 0, (1034, 1032, 1033, 51)),
  (⟨"LeavingVoteModel", "count", "(I)I"⟩, prog_10_method_60_code, 2, some .int, 1, 7, 1, (1038, 1036, 1037, 51)),
  (⟨"LeavingVoteModel", "heldMany", "()I"⟩, prog_10_method_59_code, 3, some .int, 1, 7, 0, (1042, 1041, 36, 51)),
  (⟨"LeavingVoteLaw", "law", "([I)Z"⟩, code, 4, some .boolean, 0, 0, 1, (0, 0, 0, 0))]
def sm_ic (j pc : Nat) : Option sm_I := match (sm_cs.getD j [])[pc]? with
  | some (some e) => some e
  | _ => none
def sm_m (j : Nat) : sm_M := sm_ms.getD j (⟨"", "", ""⟩, .empty, 0, none, 0, 0, 0, (0, 0, 0, 0))
def sm_y (j : Nat) : MethodName := (sm_m j).1
def sm_b (j : Nat) : ByteArray := (sm_m j).2.1
def sm_ml (j : Nat) : Nat := (sm_m j).2.2.1
def sm_rt (j : Nat) : Option FieldType := (sm_m j).2.2.2.1
def sm_kd (j : Nat) : Nat := (sm_m j).2.2.2.2.1
def sm_ci (j : Nat) : Nat := (sm_m j).2.2.2.2.2.1
def sm_na (j : Nat) : Nat := (sm_m j).2.2.2.2.2.2.1
def sm_p (j : Nat) : Nat × Nat × Nat × Nat := (sm_m j).2.2.2.2.2.2.2
abbrev sm_N : Nat := 188
abbrev sm_pmax : Nat × Nat := (158, 159)
abbrev sm_pmin : Nat × Nat := (506, 507)
end
section
/-! the tables agree with the Statement's words and bytes: decided by the kernel -/
def sm_at (p : Nat) (w : Cond) : Bool := decide (lw_tbl[p]? = some w)
theorem sm_at_in {p : Nat} {w : Cond} (h : sm_at p w = true) : w ∈ lw_tbl := List.mem_of_getElem? (of_decide_eq_true h)
def sm_sw (i : Instr) : Bool := match i with
  | .tableswitch .. | .lookupswitch .. => true
  | _ => false
def sm_len (i : Instr) : Nat := match i with
  | .bipush _ | .iload _ | .lload _ | .aload _ | .istore _ | .lstore _ | .astore _ | .ldc _ | .newarray _ => 2
  | .sipush _ | .ldc_w _ | .ldc2_w _ | .iinc _ _ | .ifCond _ _ | .if_icmp _ _ | .goto _ | .getstatic _ | .getfield _ | .putfield _ | .invokevirtual _ | .invokespecial _ | .invokestatic _ | .new _ => 3
  | _ => 1
def sm_lv64 (a b : Nat) : Int64 := if b = 1 then - Int64.ofNat a else Int64.ofNat a
def sm_okM (j : Nat) : Bool :=
  sm_at (sm_p j).1 (.code (sm_y j) (sm_b j) (sm_ml j) (sm_rt j)) && sm_at (sm_p j).2.2.2 (.initialized (sm_y j).cls) &&
  (match sm_kd j with
   | 0 => sm_at (sm_p j).2.1 (.static (sm_y j))
   | 1 => sm_at (sm_p j).2.1 (.instanceMethod (sm_y j)) && sm_at (sm_p j).2.2.1 (.selects (sm_y j).cls (sm_y j) (sm_y j)) && decide (sm_cn (sm_ci j) = (sm_y j).cls) && decide (sm_ci j < 8)
   | 2 => sm_at (sm_p j).2.1 (.instanceMethod (sm_y j)) && decide ((sm_y j).name = "<init>") && decide (sm_rt j = none)
   | _ => sm_at (sm_p j).2.1 (.instanceMethod (sm_y j)) && sm_at (sm_p j).2.2.1 (.selects (sm_y j).cls (sm_y j) (sm_y j)) && decide ((sm_y j).cls = "java/lang/String")) &&
  decide ((sm_y j).cls ≠ "java/lang/invoke/MethodHandle") && decide ((sm_y j).cls ≠ "java/lang/invoke/VarHandle") && plainName (sm_y j).cls && decide (sm_ml j ≤ 24) &&
  decide ((parseMethodDescriptor (sm_y j).desc).map (fun d => d.parameters.length) = some (sm_na j))
def sm_argc (j : Nat) : Nat := if sm_kd j = 0 then sm_na j else sm_na j + 1
def sm_okR (j : Nat) (e : sm_I) : Bool := match e.1 with
  | .getfield i => if e.2.1 = 100 then sm_at e.2.2.2 (.fieldLink (sm_y j).cls i "java/lang/String" (if e.2.2.1 = 0 then "coder" else "value") (if e.2.2.1 = 0 then "B" else "[B"))
      else decide (e.2.1 < 8) && decide (e.2.2.1 < sm_nf e.2.1) && sm_at e.2.2.2 (.fieldLink (sm_y j).cls i (sm_cn e.2.1) (sm_T e.2.1 e.2.2.1).2.1 (sm_T e.2.1 e.2.2.1).2.2.1)
  | .putfield i => decide (e.2.1 < 8) && decide (e.2.2.1 < sm_nf e.2.1) && sm_at e.2.2.2 (.fieldLink (sm_y j).cls i (sm_cn e.2.1) (sm_T e.2.1 e.2.2.1).2.1 (sm_T e.2.1 e.2.2.1).2.2.1) &&
      (!(sm_T e.2.1 e.2.2.1).2.2.2 || (decide ((sm_y j).name = "<init>") && decide (sm_cn e.2.1 = (sm_y j).cls)))
  | .getstatic i => if e.2.1 = 0 then sm_at e.2.2.2 (.fieldLink (sm_y j).cls i "java/lang/String" "COMPACT_STRINGS" "Z")
      else if e.2.1 = 1 then sm_at e.2.2.2 (.fieldLink (sm_y j).cls i "jdk/internal/util/Preconditions" "SIOOBE_FORMATTER" "Ljava/util/function/BiFunction;") else true
  | .invokevirtual i => decide (e.2.1 = 9998) || ((sm_kd e.2.1 == 1 || sm_kd e.2.1 == 3) && decide (e.2.1 < sm_N) && decide (e.2.2.1 = sm_argc e.2.1) && sm_at e.2.2.2 (.methodLink (sm_y j).cls i (sm_y e.2.1)))
  | .invokestatic i => decide (e.2.1 = 9998) || (decide (e.2.1 = 9997) && sm_at e.2.2.2 (.methodLink (sm_y j).cls i Lib.Math.max.name)) || (decide (e.2.1 = 9996) && sm_at e.2.2.2 (.methodLink (sm_y j).cls i Lib.Math.min.name)) || (sm_kd e.2.1 == 0 && decide (e.2.1 < sm_N) && decide (e.2.2.1 = sm_argc e.2.1) &&
      (if e.2.2.2 = 5000 then decide ((sm_y j).cls = "LeavingVote$Night") && decide (i = 71) && decide (sm_y e.2.1 = ⟨"LeavingVote", "lowest", "(II)I"⟩)
       else if e.2.2.2 = 5001 then decide ((sm_y j).cls = "LeavingVote$Standing") && decide (i = 19) && decide (sm_y e.2.1 = ⟨"LeavingVote", "oneIf", "(Z)I"⟩)
       else sm_at e.2.2.2 (.methodLink (sm_y j).cls i (sm_y e.2.1))))
  | .invokespecial i => decide (e.2.1 = 9998) || (if e.2.1 = 9999 then sm_at e.2.2.2 (.methodLink (sm_y j).cls i objectInit)
      else sm_kd e.2.1 == 2 && decide (e.2.1 < sm_N) && decide (e.2.2.1 = sm_argc e.2.1) && sm_at e.2.2.2 (.methodLink (sm_y j).cls i (sm_y e.2.1)))
  | .ldc_w i => if e.2.2.2 = 0 then decide ((sm_y j).cls = "LeavingVote") && decide (i = 258) else sm_at e.2.2.2 (.constant (sm_y j).cls i (Int32.ofNat e.2.1))
  | .ldc i => decide ((sm_y j).cls = "LeavingVote") && decide (i = 258)
  | .ldc2_w i => sm_at e.2.2.2 (.constantLong (sm_y j).cls i (sm_lv64 e.2.1 e.2.2.1))
  | .new i => decide (e.2.1 = 9998) || (decide (e.2.1 < 8) && sm_at e.2.2.2 (.classLink (sm_y j).cls i (sm_cn e.2.1)))
  | .newarray t => (match t with
      | .int => decide (e.2.1 = 0) && sm_at e.2.2.2 (.arrayClass .int)
      | .char => decide (e.2.1 = 1) && sm_at e.2.2.2 (.arrayClass .char)
      | .long => decide (e.2.1 = 2) && sm_at e.2.2.2 (.arrayClass .long)
      | _ => false)
  | _ => true
def sm_okE (j pc : Nat) (e : sm_I) : Bool := (match decode (sm_b j) pc with
  | .ok (i, n) => decide (i = e.1) && (sm_sw i || n == sm_len i)
  | _ => false) && sm_okR j e
theorem sm_ok_max : sm_at sm_pmax.1 (.static Lib.Math.max.name) = true ∧ sm_at sm_pmax.2 (.code Lib.Math.max.name Lib.Math.max.code 2 (some .int)) = true := by decide +kernel
theorem sm_ok_min : sm_at sm_pmin.1 (.static Lib.Math.min.name) = true ∧ sm_at sm_pmin.2 (.code Lib.Math.min.name Lib.Math.min.code 2 (some .int)) = true := by decide +kernel
theorem sm_ok_math : Cond.initialized "java/lang/Math" ∈ lw_tbl := List.mem_of_getElem? (i := 44) (by decide +kernel)
theorem sm_ok_obj : Cond.instanceMethod objectInit ∈ lw_tbl ∧ Cond.code objectInit ⟨#[0xb1]⟩ 1 none ∈ lw_tbl := ⟨List.mem_of_getElem? (i := 59) (by decide +kernel), List.mem_of_getElem? (i := 60) (by decide +kernel)⟩
theorem sm_okM_0 : (List.range 8).all (fun i => sm_okM (0 + i)) = true := by decide +kernel
theorem sm_okM_1 : (List.range 8).all (fun i => sm_okM (8 + i)) = true := by decide +kernel
theorem sm_okM_2 : (List.range 8).all (fun i => sm_okM (16 + i)) = true := by decide +kernel
theorem sm_okM_3 : (List.range 8).all (fun i => sm_okM (24 + i)) = true := by decide +kernel
theorem sm_okM_4 : (List.range 8).all (fun i => sm_okM (32 + i)) = true := by decide +kernel
theorem sm_okM_5 : (List.range 8).all (fun i => sm_okM (40 + i)) = true := by decide +kernel
theorem sm_okM_6 : (List.range 8).all (fun i => sm_okM (48 + i)) = true := by decide +kernel
theorem sm_okM_7 : (List.range 8).all (fun i => sm_okM (56 + i)) = true := by decide +kernel
theorem sm_okM_8 : (List.range 8).all (fun i => sm_okM (64 + i)) = true := by decide +kernel
theorem sm_okM_9 : (List.range 8).all (fun i => sm_okM (72 + i)) = true := by decide +kernel
theorem sm_okM_10 : (List.range 8).all (fun i => sm_okM (80 + i)) = true := by decide +kernel
theorem sm_okM_11 : (List.range 8).all (fun i => sm_okM (88 + i)) = true := by decide +kernel
theorem sm_okM_12 : (List.range 8).all (fun i => sm_okM (96 + i)) = true := by decide +kernel
theorem sm_okM_13 : (List.range 8).all (fun i => sm_okM (104 + i)) = true := by decide +kernel
theorem sm_okM_14 : (List.range 8).all (fun i => sm_okM (112 + i)) = true := by decide +kernel
theorem sm_okM_15 : (List.range 8).all (fun i => sm_okM (120 + i)) = true := by decide +kernel
theorem sm_okM_16 : (List.range 8).all (fun i => sm_okM (128 + i)) = true := by decide +kernel
theorem sm_okM_17 : (List.range 8).all (fun i => sm_okM (136 + i)) = true := by decide +kernel
theorem sm_okM_18 : (List.range 8).all (fun i => sm_okM (144 + i)) = true := by decide +kernel
theorem sm_okM_19 : (List.range 8).all (fun i => sm_okM (152 + i)) = true := by decide +kernel
theorem sm_okM_20 : (List.range 8).all (fun i => sm_okM (160 + i)) = true := by decide +kernel
theorem sm_okM_21 : (List.range 8).all (fun i => sm_okM (168 + i)) = true := by decide +kernel
theorem sm_okM_22 : (List.range 8).all (fun i => sm_okM (176 + i)) = true := by decide +kernel
theorem sm_okM_23 : (List.range 4).all (fun i => sm_okM (184 + i)) = true := by decide +kernel
theorem sm_okM_all {j : Nat} (h : j < sm_N) : sm_okM j = true := by
  unfold sm_N at h
  have key : ∀ (a n : Nat), (List.range n).all (fun i => sm_okM (a + i)) = true → a ≤ j → j < a + n → sm_okM j = true := fun a n h1 h2 h3 => by
    have := List.all_eq_true.mp h1 (j - a) (List.mem_range.mpr (by omega))
    rwa [show a + (j - a) = j by omega] at this
  by_cases h0 : j < 8
  · exact key _ _ sm_okM_0 (by omega) (by omega)
  by_cases h1 : j < 16
  · exact key _ _ sm_okM_1 (by omega) (by omega)
  by_cases h2 : j < 24
  · exact key _ _ sm_okM_2 (by omega) (by omega)
  by_cases h3 : j < 32
  · exact key _ _ sm_okM_3 (by omega) (by omega)
  by_cases h4 : j < 40
  · exact key _ _ sm_okM_4 (by omega) (by omega)
  by_cases h5 : j < 48
  · exact key _ _ sm_okM_5 (by omega) (by omega)
  by_cases h6 : j < 56
  · exact key _ _ sm_okM_6 (by omega) (by omega)
  by_cases h7 : j < 64
  · exact key _ _ sm_okM_7 (by omega) (by omega)
  by_cases h8 : j < 72
  · exact key _ _ sm_okM_8 (by omega) (by omega)
  by_cases h9 : j < 80
  · exact key _ _ sm_okM_9 (by omega) (by omega)
  by_cases h10 : j < 88
  · exact key _ _ sm_okM_10 (by omega) (by omega)
  by_cases h11 : j < 96
  · exact key _ _ sm_okM_11 (by omega) (by omega)
  by_cases h12 : j < 104
  · exact key _ _ sm_okM_12 (by omega) (by omega)
  by_cases h13 : j < 112
  · exact key _ _ sm_okM_13 (by omega) (by omega)
  by_cases h14 : j < 120
  · exact key _ _ sm_okM_14 (by omega) (by omega)
  by_cases h15 : j < 128
  · exact key _ _ sm_okM_15 (by omega) (by omega)
  by_cases h16 : j < 136
  · exact key _ _ sm_okM_16 (by omega) (by omega)
  by_cases h17 : j < 144
  · exact key _ _ sm_okM_17 (by omega) (by omega)
  by_cases h18 : j < 152
  · exact key _ _ sm_okM_18 (by omega) (by omega)
  by_cases h19 : j < 160
  · exact key _ _ sm_okM_19 (by omega) (by omega)
  by_cases h20 : j < 168
  · exact key _ _ sm_okM_20 (by omega) (by omega)
  by_cases h21 : j < 176
  · exact key _ _ sm_okM_21 (by omega) (by omega)
  by_cases h22 : j < 184
  · exact key _ _ sm_okM_22 (by omega) (by omega)
  by_cases h23 : j < 188
  · exact key _ _ sm_okM_23 (by omega) (by omega)
  omega
def sm_okL (ci k : Nat) : Bool := sm_at (sm_fd ci k).2.2.2.2 (u_lay (sm_cn ci) (sm_T ci) k) && decide (parseFieldDescriptor (sm_T ci k).2.2.1 = some (sm_ty ci k)) && (List.range (sm_nf ci)).all (fun b => decide (k = b) || decide ((sm_T ci k).2.1 ≠ (sm_T ci b).2.1))
def sm_okI (ci : Nat) : Bool := sm_at (sm_inst.getD ci (0, 0)).1 (.instantiable (sm_cn ci) (sm_nf ci)) && sm_at (sm_inst.getD ci (0, 0)).2 (.initialized (sm_cn ci)) && (List.range (sm_nf ci)).all (sm_okL ci)
theorem sm_okI_all : (List.range 8).all sm_okI = true := by decide +kernel
def sm_okP (j pc : Nat) : Bool := match sm_ic j pc with
  | some e => sm_okE j pc e
  | none => true
end
section
/-! every decoded row is what the bytes say, and what it links is a word of the tables -/
def sm_okC (j : Nat) : Bool := (List.range (sm_cs.getD j []).length).all (sm_okP j)
theorem sm_okC_0 : (List.range 16).all (fun i => sm_okC (0 + i)) = true := by decide +kernel
theorem sm_okC_1 : (List.range 5).all (fun i => sm_okC (16 + i)) = true := by decide +kernel
theorem sm_okP_21_0 : (List.range 75).all (fun i => sm_okP 21 (0 + i)) = true := by decide +kernel
theorem sm_okP_21_1 : (List.range 75).all (fun i => sm_okP 21 (75 + i)) = true := by decide +kernel
theorem sm_okP_21_2 : (List.range 9).all (fun i => sm_okP 21 (150 + i)) = true := by decide +kernel
theorem sm_okC_2 : sm_okC 21 = true := by
  have hlen : (sm_cs.getD 21 []).length = 159 := by decide +kernel
  unfold sm_okC
  rw [hlen]
  refine List.all_eq_true.mpr fun pc hpc => ?_
  have hpc := List.mem_range.mp hpc
  have key : ∀ (a n : Nat), (List.range n).all (fun i => sm_okP 21 (a + i)) = true → a ≤ pc → pc < a + n → sm_okP 21 pc = true := fun a n h1 h2 h3 => by
    have := List.all_eq_true.mp h1 (pc - a) (List.mem_range.mpr (by omega))
    rwa [show a + (pc - a) = pc by omega] at this
  by_cases h0 : pc < 75
  · exact key _ _ sm_okP_21_0 (by omega) (by omega)
  by_cases h1 : pc < 150
  · exact key _ _ sm_okP_21_1 (by omega) (by omega)
  by_cases h2 : pc < 159
  · exact key _ _ sm_okP_21_2 (by omega) (by omega)
  omega
theorem sm_okC_3 : (List.range 10).all (fun i => sm_okC (22 + i)) = true := by decide +kernel
theorem sm_okC_4 : (List.range 6).all (fun i => sm_okC (32 + i)) = true := by decide +kernel
theorem sm_okC_5 : (List.range 9).all (fun i => sm_okC (38 + i)) = true := by decide +kernel
theorem sm_okC_6 : (List.range 16).all (fun i => sm_okC (47 + i)) = true := by decide +kernel
theorem sm_okC_7 : (List.range 8).all (fun i => sm_okC (63 + i)) = true := by decide +kernel
theorem sm_okC_8 : (List.range 8).all (fun i => sm_okC (71 + i)) = true := by decide +kernel
theorem sm_okC_9 : (List.range 16).all (fun i => sm_okC (79 + i)) = true := by decide +kernel
theorem sm_okC_10 : (List.range 6).all (fun i => sm_okC (95 + i)) = true := by decide +kernel
theorem sm_okC_11 : (List.range 1).all (fun i => sm_okC (101 + i)) = true := by decide +kernel
theorem sm_okC_12 : (List.range 2).all (fun i => sm_okC (102 + i)) = true := by decide +kernel
theorem sm_okC_13 : (List.range 2).all (fun i => sm_okC (104 + i)) = true := by decide +kernel
theorem sm_okC_14 : (List.range 5).all (fun i => sm_okC (106 + i)) = true := by decide +kernel
theorem sm_okC_15 : (List.range 4).all (fun i => sm_okC (111 + i)) = true := by decide +kernel
theorem sm_okP_115_0 : (List.range 62).all (fun i => sm_okP 115 (0 + i)) = true := by decide +kernel
theorem sm_okP_115_1 : (List.range 62).all (fun i => sm_okP 115 (62 + i)) = true := by decide +kernel
theorem sm_okP_115_2 : (List.range 62).all (fun i => sm_okP 115 (124 + i)) = true := by decide +kernel
theorem sm_okP_115_3 : (List.range 6).all (fun i => sm_okP 115 (186 + i)) = true := by decide +kernel
theorem sm_okC_16 : sm_okC 115 = true := by
  have hlen : (sm_cs.getD 115 []).length = 192 := by decide +kernel
  unfold sm_okC
  rw [hlen]
  refine List.all_eq_true.mpr fun pc hpc => ?_
  have hpc := List.mem_range.mp hpc
  have key : ∀ (a n : Nat), (List.range n).all (fun i => sm_okP 115 (a + i)) = true → a ≤ pc → pc < a + n → sm_okP 115 pc = true := fun a n h1 h2 h3 => by
    have := List.all_eq_true.mp h1 (pc - a) (List.mem_range.mpr (by omega))
    rwa [show a + (pc - a) = pc by omega] at this
  by_cases h0 : pc < 62
  · exact key _ _ sm_okP_115_0 (by omega) (by omega)
  by_cases h1 : pc < 124
  · exact key _ _ sm_okP_115_1 (by omega) (by omega)
  by_cases h2 : pc < 186
  · exact key _ _ sm_okP_115_2 (by omega) (by omega)
  by_cases h3 : pc < 192
  · exact key _ _ sm_okP_115_3 (by omega) (by omega)
  omega
theorem sm_okC_17 : (List.range 5).all (fun i => sm_okC (116 + i)) = true := by decide +kernel
theorem sm_okC_18 : (List.range 3).all (fun i => sm_okC (121 + i)) = true := by decide +kernel
theorem sm_okC_19 : (List.range 1).all (fun i => sm_okC (124 + i)) = true := by decide +kernel
theorem sm_okP_125_0 : (List.range 70).all (fun i => sm_okP 125 (0 + i)) = true := by decide +kernel
theorem sm_okP_125_1 : (List.range 70).all (fun i => sm_okP 125 (70 + i)) = true := by decide +kernel
theorem sm_okP_125_2 : (List.range 31).all (fun i => sm_okP 125 (140 + i)) = true := by decide +kernel
theorem sm_okC_20 : sm_okC 125 = true := by
  have hlen : (sm_cs.getD 125 []).length = 171 := by decide +kernel
  unfold sm_okC
  rw [hlen]
  refine List.all_eq_true.mpr fun pc hpc => ?_
  have hpc := List.mem_range.mp hpc
  have key : ∀ (a n : Nat), (List.range n).all (fun i => sm_okP 125 (a + i)) = true → a ≤ pc → pc < a + n → sm_okP 125 pc = true := fun a n h1 h2 h3 => by
    have := List.all_eq_true.mp h1 (pc - a) (List.mem_range.mpr (by omega))
    rwa [show a + (pc - a) = pc by omega] at this
  by_cases h0 : pc < 70
  · exact key _ _ sm_okP_125_0 (by omega) (by omega)
  by_cases h1 : pc < 140
  · exact key _ _ sm_okP_125_1 (by omega) (by omega)
  by_cases h2 : pc < 171
  · exact key _ _ sm_okP_125_2 (by omega) (by omega)
  omega
theorem sm_okC_21 : (List.range 2).all (fun i => sm_okC (126 + i)) = true := by decide +kernel
theorem sm_okP_128_0 : (List.range 46).all (fun i => sm_okP 128 (0 + i)) = true := by decide +kernel
theorem sm_okP_128_1 : (List.range 46).all (fun i => sm_okP 128 (46 + i)) = true := by decide +kernel
theorem sm_okP_128_2 : (List.range 46).all (fun i => sm_okP 128 (92 + i)) = true := by decide +kernel
theorem sm_okP_128_3 : (List.range 46).all (fun i => sm_okP 128 (138 + i)) = true := by decide +kernel
theorem sm_okP_128_4 : (List.range 46).all (fun i => sm_okP 128 (184 + i)) = true := by decide +kernel
theorem sm_okP_128_5 : (List.range 26).all (fun i => sm_okP 128 (230 + i)) = true := by decide +kernel
theorem sm_okC_22 : sm_okC 128 = true := by
  have hlen : (sm_cs.getD 128 []).length = 256 := by decide +kernel
  unfold sm_okC
  rw [hlen]
  refine List.all_eq_true.mpr fun pc hpc => ?_
  have hpc := List.mem_range.mp hpc
  have key : ∀ (a n : Nat), (List.range n).all (fun i => sm_okP 128 (a + i)) = true → a ≤ pc → pc < a + n → sm_okP 128 pc = true := fun a n h1 h2 h3 => by
    have := List.all_eq_true.mp h1 (pc - a) (List.mem_range.mpr (by omega))
    rwa [show a + (pc - a) = pc by omega] at this
  by_cases h0 : pc < 46
  · exact key _ _ sm_okP_128_0 (by omega) (by omega)
  by_cases h1 : pc < 92
  · exact key _ _ sm_okP_128_1 (by omega) (by omega)
  by_cases h2 : pc < 138
  · exact key _ _ sm_okP_128_2 (by omega) (by omega)
  by_cases h3 : pc < 184
  · exact key _ _ sm_okP_128_3 (by omega) (by omega)
  by_cases h4 : pc < 230
  · exact key _ _ sm_okP_128_4 (by omega) (by omega)
  by_cases h5 : pc < 256
  · exact key _ _ sm_okP_128_5 (by omega) (by omega)
  omega
theorem sm_okC_23 : (List.range 8).all (fun i => sm_okC (129 + i)) = true := by decide +kernel
theorem sm_okP_137_0 : (List.range 54).all (fun i => sm_okP 137 (0 + i)) = true := by decide +kernel
theorem sm_okP_137_1 : (List.range 54).all (fun i => sm_okP 137 (54 + i)) = true := by decide +kernel
theorem sm_okP_137_2 : (List.range 54).all (fun i => sm_okP 137 (108 + i)) = true := by decide +kernel
theorem sm_okP_137_3 : (List.range 54).all (fun i => sm_okP 137 (162 + i)) = true := by decide +kernel
theorem sm_okP_137_4 : (List.range 3).all (fun i => sm_okP 137 (216 + i)) = true := by decide +kernel
theorem sm_okC_24 : sm_okC 137 = true := by
  have hlen : (sm_cs.getD 137 []).length = 219 := by decide +kernel
  unfold sm_okC
  rw [hlen]
  refine List.all_eq_true.mpr fun pc hpc => ?_
  have hpc := List.mem_range.mp hpc
  have key : ∀ (a n : Nat), (List.range n).all (fun i => sm_okP 137 (a + i)) = true → a ≤ pc → pc < a + n → sm_okP 137 pc = true := fun a n h1 h2 h3 => by
    have := List.all_eq_true.mp h1 (pc - a) (List.mem_range.mpr (by omega))
    rwa [show a + (pc - a) = pc by omega] at this
  by_cases h0 : pc < 54
  · exact key _ _ sm_okP_137_0 (by omega) (by omega)
  by_cases h1 : pc < 108
  · exact key _ _ sm_okP_137_1 (by omega) (by omega)
  by_cases h2 : pc < 162
  · exact key _ _ sm_okP_137_2 (by omega) (by omega)
  by_cases h3 : pc < 216
  · exact key _ _ sm_okP_137_3 (by omega) (by omega)
  by_cases h4 : pc < 219
  · exact key _ _ sm_okP_137_4 (by omega) (by omega)
  omega
theorem sm_okC_25 : (List.range 2).all (fun i => sm_okC (138 + i)) = true := by decide +kernel
theorem sm_okC_26 : (List.range 1).all (fun i => sm_okC (140 + i)) = true := by decide +kernel
theorem sm_okC_27 : (List.range 1).all (fun i => sm_okC (141 + i)) = true := by decide +kernel
theorem sm_okP_142_0 : (List.range 50).all (fun i => sm_okP 142 (0 + i)) = true := by decide +kernel
theorem sm_okP_142_1 : (List.range 50).all (fun i => sm_okP 142 (50 + i)) = true := by decide +kernel
theorem sm_okP_142_2 : (List.range 50).all (fun i => sm_okP 142 (100 + i)) = true := by decide +kernel
theorem sm_okP_142_3 : (List.range 50).all (fun i => sm_okP 142 (150 + i)) = true := by decide +kernel
theorem sm_okP_142_4 : (List.range 40).all (fun i => sm_okP 142 (200 + i)) = true := by decide +kernel
theorem sm_okC_28 : sm_okC 142 = true := by
  have hlen : (sm_cs.getD 142 []).length = 240 := by decide +kernel
  unfold sm_okC
  rw [hlen]
  refine List.all_eq_true.mpr fun pc hpc => ?_
  have hpc := List.mem_range.mp hpc
  have key : ∀ (a n : Nat), (List.range n).all (fun i => sm_okP 142 (a + i)) = true → a ≤ pc → pc < a + n → sm_okP 142 pc = true := fun a n h1 h2 h3 => by
    have := List.all_eq_true.mp h1 (pc - a) (List.mem_range.mpr (by omega))
    rwa [show a + (pc - a) = pc by omega] at this
  by_cases h0 : pc < 50
  · exact key _ _ sm_okP_142_0 (by omega) (by omega)
  by_cases h1 : pc < 100
  · exact key _ _ sm_okP_142_1 (by omega) (by omega)
  by_cases h2 : pc < 150
  · exact key _ _ sm_okP_142_2 (by omega) (by omega)
  by_cases h3 : pc < 200
  · exact key _ _ sm_okP_142_3 (by omega) (by omega)
  by_cases h4 : pc < 240
  · exact key _ _ sm_okP_142_4 (by omega) (by omega)
  omega
theorem sm_okC_29 : (List.range 7).all (fun i => sm_okC (143 + i)) = true := by decide +kernel
theorem sm_okC_30 : (List.range 2).all (fun i => sm_okC (150 + i)) = true := by decide +kernel
theorem sm_okC_31 : (List.range 2).all (fun i => sm_okC (152 + i)) = true := by decide +kernel
theorem sm_okP_154_0 : (List.range 53).all (fun i => sm_okP 154 (0 + i)) = true := by decide +kernel
theorem sm_okP_154_1 : (List.range 53).all (fun i => sm_okP 154 (53 + i)) = true := by decide +kernel
theorem sm_okP_154_2 : (List.range 53).all (fun i => sm_okP 154 (106 + i)) = true := by decide +kernel
theorem sm_okP_154_3 : (List.range 53).all (fun i => sm_okP 154 (159 + i)) = true := by decide +kernel
theorem sm_okP_154_4 : (List.range 13).all (fun i => sm_okP 154 (212 + i)) = true := by decide +kernel
theorem sm_okC_32 : sm_okC 154 = true := by
  have hlen : (sm_cs.getD 154 []).length = 225 := by decide +kernel
  unfold sm_okC
  rw [hlen]
  refine List.all_eq_true.mpr fun pc hpc => ?_
  have hpc := List.mem_range.mp hpc
  have key : ∀ (a n : Nat), (List.range n).all (fun i => sm_okP 154 (a + i)) = true → a ≤ pc → pc < a + n → sm_okP 154 pc = true := fun a n h1 h2 h3 => by
    have := List.all_eq_true.mp h1 (pc - a) (List.mem_range.mpr (by omega))
    rwa [show a + (pc - a) = pc by omega] at this
  by_cases h0 : pc < 53
  · exact key _ _ sm_okP_154_0 (by omega) (by omega)
  by_cases h1 : pc < 106
  · exact key _ _ sm_okP_154_1 (by omega) (by omega)
  by_cases h2 : pc < 159
  · exact key _ _ sm_okP_154_2 (by omega) (by omega)
  by_cases h3 : pc < 212
  · exact key _ _ sm_okP_154_3 (by omega) (by omega)
  by_cases h4 : pc < 225
  · exact key _ _ sm_okP_154_4 (by omega) (by omega)
  omega
theorem sm_okC_33 : (List.range 10).all (fun i => sm_okC (155 + i)) = true := by decide +kernel
theorem sm_okC_34 : (List.range 6).all (fun i => sm_okC (165 + i)) = true := by decide +kernel
theorem sm_okC_35 : (List.range 2).all (fun i => sm_okC (171 + i)) = true := by decide +kernel
theorem sm_okP_173_0 : (List.range 50).all (fun i => sm_okP 173 (0 + i)) = true := by decide +kernel
theorem sm_okP_173_1 : (List.range 50).all (fun i => sm_okP 173 (50 + i)) = true := by decide +kernel
theorem sm_okP_173_2 : (List.range 50).all (fun i => sm_okP 173 (100 + i)) = true := by decide +kernel
theorem sm_okP_173_3 : (List.range 50).all (fun i => sm_okP 173 (150 + i)) = true := by decide +kernel
theorem sm_okP_173_4 : (List.range 38).all (fun i => sm_okP 173 (200 + i)) = true := by decide +kernel
theorem sm_okC_36 : sm_okC 173 = true := by
  have hlen : (sm_cs.getD 173 []).length = 238 := by decide +kernel
  unfold sm_okC
  rw [hlen]
  refine List.all_eq_true.mpr fun pc hpc => ?_
  have hpc := List.mem_range.mp hpc
  have key : ∀ (a n : Nat), (List.range n).all (fun i => sm_okP 173 (a + i)) = true → a ≤ pc → pc < a + n → sm_okP 173 pc = true := fun a n h1 h2 h3 => by
    have := List.all_eq_true.mp h1 (pc - a) (List.mem_range.mpr (by omega))
    rwa [show a + (pc - a) = pc by omega] at this
  by_cases h0 : pc < 50
  · exact key _ _ sm_okP_173_0 (by omega) (by omega)
  by_cases h1 : pc < 100
  · exact key _ _ sm_okP_173_1 (by omega) (by omega)
  by_cases h2 : pc < 150
  · exact key _ _ sm_okP_173_2 (by omega) (by omega)
  by_cases h3 : pc < 200
  · exact key _ _ sm_okP_173_3 (by omega) (by omega)
  by_cases h4 : pc < 238
  · exact key _ _ sm_okP_173_4 (by omega) (by omega)
  omega
theorem sm_okC_37 : (List.range 1).all (fun i => sm_okC (174 + i)) = true := by decide +kernel
theorem sm_okC_38 : (List.range 1).all (fun i => sm_okC (175 + i)) = true := by decide +kernel
theorem sm_okC_39 : (List.range 3).all (fun i => sm_okC (176 + i)) = true := by decide +kernel
theorem sm_okP_179_0 : (List.range 51).all (fun i => sm_okP 179 (0 + i)) = true := by decide +kernel
theorem sm_okP_179_1 : (List.range 51).all (fun i => sm_okP 179 (51 + i)) = true := by decide +kernel
theorem sm_okP_179_2 : (List.range 51).all (fun i => sm_okP 179 (102 + i)) = true := by decide +kernel
theorem sm_okP_179_3 : (List.range 51).all (fun i => sm_okP 179 (153 + i)) = true := by decide +kernel
theorem sm_okP_179_4 : (List.range 28).all (fun i => sm_okP 179 (204 + i)) = true := by decide +kernel
theorem sm_okC_40 : sm_okC 179 = true := by
  have hlen : (sm_cs.getD 179 []).length = 232 := by decide +kernel
  unfold sm_okC
  rw [hlen]
  refine List.all_eq_true.mpr fun pc hpc => ?_
  have hpc := List.mem_range.mp hpc
  have key : ∀ (a n : Nat), (List.range n).all (fun i => sm_okP 179 (a + i)) = true → a ≤ pc → pc < a + n → sm_okP 179 pc = true := fun a n h1 h2 h3 => by
    have := List.all_eq_true.mp h1 (pc - a) (List.mem_range.mpr (by omega))
    rwa [show a + (pc - a) = pc by omega] at this
  by_cases h0 : pc < 51
  · exact key _ _ sm_okP_179_0 (by omega) (by omega)
  by_cases h1 : pc < 102
  · exact key _ _ sm_okP_179_1 (by omega) (by omega)
  by_cases h2 : pc < 153
  · exact key _ _ sm_okP_179_2 (by omega) (by omega)
  by_cases h3 : pc < 204
  · exact key _ _ sm_okP_179_3 (by omega) (by omega)
  by_cases h4 : pc < 232
  · exact key _ _ sm_okP_179_4 (by omega) (by omega)
  omega
theorem sm_okP_180_0 : (List.range 48).all (fun i => sm_okP 180 (0 + i)) = true := by decide +kernel
theorem sm_okP_180_1 : (List.range 48).all (fun i => sm_okP 180 (48 + i)) = true := by decide +kernel
theorem sm_okP_180_2 : (List.range 48).all (fun i => sm_okP 180 (96 + i)) = true := by decide +kernel
theorem sm_okP_180_3 : (List.range 48).all (fun i => sm_okP 180 (144 + i)) = true := by decide +kernel
theorem sm_okP_180_4 : (List.range 48).all (fun i => sm_okP 180 (192 + i)) = true := by decide +kernel
theorem sm_okP_180_5 : (List.range 7).all (fun i => sm_okP 180 (240 + i)) = true := by decide +kernel
theorem sm_okC_41 : sm_okC 180 = true := by
  have hlen : (sm_cs.getD 180 []).length = 247 := by decide +kernel
  unfold sm_okC
  rw [hlen]
  refine List.all_eq_true.mpr fun pc hpc => ?_
  have hpc := List.mem_range.mp hpc
  have key : ∀ (a n : Nat), (List.range n).all (fun i => sm_okP 180 (a + i)) = true → a ≤ pc → pc < a + n → sm_okP 180 pc = true := fun a n h1 h2 h3 => by
    have := List.all_eq_true.mp h1 (pc - a) (List.mem_range.mpr (by omega))
    rwa [show a + (pc - a) = pc by omega] at this
  by_cases h0 : pc < 48
  · exact key _ _ sm_okP_180_0 (by omega) (by omega)
  by_cases h1 : pc < 96
  · exact key _ _ sm_okP_180_1 (by omega) (by omega)
  by_cases h2 : pc < 144
  · exact key _ _ sm_okP_180_2 (by omega) (by omega)
  by_cases h3 : pc < 192
  · exact key _ _ sm_okP_180_3 (by omega) (by omega)
  by_cases h4 : pc < 240
  · exact key _ _ sm_okP_180_4 (by omega) (by omega)
  by_cases h5 : pc < 247
  · exact key _ _ sm_okP_180_5 (by omega) (by omega)
  omega
theorem sm_okC_42 : (List.range 2).all (fun i => sm_okC (181 + i)) = true := by decide +kernel
theorem sm_okP_183_0 : (List.range 52).all (fun i => sm_okP 183 (0 + i)) = true := by decide +kernel
theorem sm_okP_183_1 : (List.range 52).all (fun i => sm_okP 183 (52 + i)) = true := by decide +kernel
theorem sm_okP_183_2 : (List.range 52).all (fun i => sm_okP 183 (104 + i)) = true := by decide +kernel
theorem sm_okP_183_3 : (List.range 52).all (fun i => sm_okP 183 (156 + i)) = true := by decide +kernel
theorem sm_okP_183_4 : (List.range 22).all (fun i => sm_okP 183 (208 + i)) = true := by decide +kernel
theorem sm_okC_43 : sm_okC 183 = true := by
  have hlen : (sm_cs.getD 183 []).length = 230 := by decide +kernel
  unfold sm_okC
  rw [hlen]
  refine List.all_eq_true.mpr fun pc hpc => ?_
  have hpc := List.mem_range.mp hpc
  have key : ∀ (a n : Nat), (List.range n).all (fun i => sm_okP 183 (a + i)) = true → a ≤ pc → pc < a + n → sm_okP 183 pc = true := fun a n h1 h2 h3 => by
    have := List.all_eq_true.mp h1 (pc - a) (List.mem_range.mpr (by omega))
    rwa [show a + (pc - a) = pc by omega] at this
  by_cases h0 : pc < 52
  · exact key _ _ sm_okP_183_0 (by omega) (by omega)
  by_cases h1 : pc < 104
  · exact key _ _ sm_okP_183_1 (by omega) (by omega)
  by_cases h2 : pc < 156
  · exact key _ _ sm_okP_183_2 (by omega) (by omega)
  by_cases h3 : pc < 208
  · exact key _ _ sm_okP_183_3 (by omega) (by omega)
  by_cases h4 : pc < 230
  · exact key _ _ sm_okP_183_4 (by omega) (by omega)
  omega
theorem sm_okC_44 : (List.range 2).all (fun i => sm_okC (184 + i)) = true := by decide +kernel
theorem sm_okC_45 : (List.range 2).all (fun i => sm_okC (186 + i)) = true := by decide +kernel
theorem sm_okP_188_0 : (List.range 20).all (fun i => sm_okP 188 (0 + i)) = true := by decide +kernel
theorem sm_okP_188_1 : (List.range 20).all (fun i => sm_okP 188 (20 + i)) = true := by decide +kernel
theorem sm_okP_188_2 : (List.range 20).all (fun i => sm_okP 188 (40 + i)) = true := by decide +kernel
theorem sm_okP_188_3 : (List.range 20).all (fun i => sm_okP 188 (60 + i)) = true := by decide +kernel
theorem sm_okP_188_4 : (List.range 20).all (fun i => sm_okP 188 (80 + i)) = true := by decide +kernel
theorem sm_okP_188_5 : (List.range 20).all (fun i => sm_okP 188 (100 + i)) = true := by decide +kernel
theorem sm_okP_188_6 : (List.range 20).all (fun i => sm_okP 188 (120 + i)) = true := by decide +kernel
theorem sm_okP_188_7 : (List.range 20).all (fun i => sm_okP 188 (140 + i)) = true := by decide +kernel
theorem sm_okP_188_8 : (List.range 20).all (fun i => sm_okP 188 (160 + i)) = true := by decide +kernel
theorem sm_okP_188_9 : (List.range 20).all (fun i => sm_okP 188 (180 + i)) = true := by decide +kernel
theorem sm_okP_188_10 : (List.range 20).all (fun i => sm_okP 188 (200 + i)) = true := by decide +kernel
theorem sm_okP_188_11 : (List.range 20).all (fun i => sm_okP 188 (220 + i)) = true := by decide +kernel
theorem sm_okP_188_12 : (List.range 20).all (fun i => sm_okP 188 (240 + i)) = true := by decide +kernel
theorem sm_okP_188_13 : (List.range 20).all (fun i => sm_okP 188 (260 + i)) = true := by decide +kernel
theorem sm_okP_188_14 : (List.range 20).all (fun i => sm_okP 188 (280 + i)) = true := by decide +kernel
theorem sm_okP_188_15 : (List.range 20).all (fun i => sm_okP 188 (300 + i)) = true := by decide +kernel
theorem sm_okP_188_16 : (List.range 20).all (fun i => sm_okP 188 (320 + i)) = true := by decide +kernel
theorem sm_okP_188_17 : (List.range 20).all (fun i => sm_okP 188 (340 + i)) = true := by decide +kernel
theorem sm_okP_188_18 : (List.range 20).all (fun i => sm_okP 188 (360 + i)) = true := by decide +kernel
theorem sm_okP_188_19 : (List.range 20).all (fun i => sm_okP 188 (380 + i)) = true := by decide +kernel
theorem sm_okP_188_20 : (List.range 20).all (fun i => sm_okP 188 (400 + i)) = true := by decide +kernel
theorem sm_okP_188_21 : (List.range 20).all (fun i => sm_okP 188 (420 + i)) = true := by decide +kernel
theorem sm_okP_188_22 : (List.range 20).all (fun i => sm_okP 188 (440 + i)) = true := by decide +kernel
theorem sm_okP_188_23 : (List.range 20).all (fun i => sm_okP 188 (460 + i)) = true := by decide +kernel
theorem sm_okP_188_24 : (List.range 20).all (fun i => sm_okP 188 (480 + i)) = true := by decide +kernel
theorem sm_okP_188_25 : (List.range 20).all (fun i => sm_okP 188 (500 + i)) = true := by decide +kernel
theorem sm_okP_188_26 : (List.range 20).all (fun i => sm_okP 188 (520 + i)) = true := by decide +kernel
theorem sm_okP_188_27 : (List.range 20).all (fun i => sm_okP 188 (540 + i)) = true := by decide +kernel
theorem sm_okP_188_28 : (List.range 20).all (fun i => sm_okP 188 (560 + i)) = true := by decide +kernel
theorem sm_okP_188_29 : (List.range 20).all (fun i => sm_okP 188 (580 + i)) = true := by decide +kernel
theorem sm_okP_188_30 : (List.range 20).all (fun i => sm_okP 188 (600 + i)) = true := by decide +kernel
theorem sm_okP_188_31 : (List.range 20).all (fun i => sm_okP 188 (620 + i)) = true := by decide +kernel
theorem sm_okP_188_32 : (List.range 20).all (fun i => sm_okP 188 (640 + i)) = true := by decide +kernel
theorem sm_okP_188_33 : (List.range 20).all (fun i => sm_okP 188 (660 + i)) = true := by decide +kernel
theorem sm_okP_188_34 : (List.range 20).all (fun i => sm_okP 188 (680 + i)) = true := by decide +kernel
theorem sm_okP_188_35 : (List.range 20).all (fun i => sm_okP 188 (700 + i)) = true := by decide +kernel
theorem sm_okP_188_36 : (List.range 20).all (fun i => sm_okP 188 (720 + i)) = true := by decide +kernel
theorem sm_okP_188_37 : (List.range 20).all (fun i => sm_okP 188 (740 + i)) = true := by decide +kernel
theorem sm_okP_188_38 : (List.range 20).all (fun i => sm_okP 188 (760 + i)) = true := by decide +kernel
theorem sm_okP_188_39 : (List.range 20).all (fun i => sm_okP 188 (780 + i)) = true := by decide +kernel
theorem sm_okP_188_40 : (List.range 20).all (fun i => sm_okP 188 (800 + i)) = true := by decide +kernel
theorem sm_okP_188_41 : (List.range 20).all (fun i => sm_okP 188 (820 + i)) = true := by decide +kernel
theorem sm_okP_188_42 : (List.range 20).all (fun i => sm_okP 188 (840 + i)) = true := by decide +kernel
theorem sm_okP_188_43 : (List.range 20).all (fun i => sm_okP 188 (860 + i)) = true := by decide +kernel
theorem sm_okP_188_44 : (List.range 20).all (fun i => sm_okP 188 (880 + i)) = true := by decide +kernel
theorem sm_okP_188_45 : (List.range 20).all (fun i => sm_okP 188 (900 + i)) = true := by decide +kernel
theorem sm_okP_188_46 : (List.range 3).all (fun i => sm_okP 188 (920 + i)) = true := by decide +kernel
theorem sm_okC_46 : sm_okC 188 = true := by
  have hlen : (sm_cs.getD 188 []).length = 923 := by decide +kernel
  unfold sm_okC
  rw [hlen]
  refine List.all_eq_true.mpr fun pc hpc => ?_
  have hpc := List.mem_range.mp hpc
  have key : ∀ (a n : Nat), (List.range n).all (fun i => sm_okP 188 (a + i)) = true → a ≤ pc → pc < a + n → sm_okP 188 pc = true := fun a n h1 h2 h3 => by
    have := List.all_eq_true.mp h1 (pc - a) (List.mem_range.mpr (by omega))
    rwa [show a + (pc - a) = pc by omega] at this
  by_cases h0 : pc < 20
  · exact key _ _ sm_okP_188_0 (by omega) (by omega)
  by_cases h1 : pc < 40
  · exact key _ _ sm_okP_188_1 (by omega) (by omega)
  by_cases h2 : pc < 60
  · exact key _ _ sm_okP_188_2 (by omega) (by omega)
  by_cases h3 : pc < 80
  · exact key _ _ sm_okP_188_3 (by omega) (by omega)
  by_cases h4 : pc < 100
  · exact key _ _ sm_okP_188_4 (by omega) (by omega)
  by_cases h5 : pc < 120
  · exact key _ _ sm_okP_188_5 (by omega) (by omega)
  by_cases h6 : pc < 140
  · exact key _ _ sm_okP_188_6 (by omega) (by omega)
  by_cases h7 : pc < 160
  · exact key _ _ sm_okP_188_7 (by omega) (by omega)
  by_cases h8 : pc < 180
  · exact key _ _ sm_okP_188_8 (by omega) (by omega)
  by_cases h9 : pc < 200
  · exact key _ _ sm_okP_188_9 (by omega) (by omega)
  by_cases h10 : pc < 220
  · exact key _ _ sm_okP_188_10 (by omega) (by omega)
  by_cases h11 : pc < 240
  · exact key _ _ sm_okP_188_11 (by omega) (by omega)
  by_cases h12 : pc < 260
  · exact key _ _ sm_okP_188_12 (by omega) (by omega)
  by_cases h13 : pc < 280
  · exact key _ _ sm_okP_188_13 (by omega) (by omega)
  by_cases h14 : pc < 300
  · exact key _ _ sm_okP_188_14 (by omega) (by omega)
  by_cases h15 : pc < 320
  · exact key _ _ sm_okP_188_15 (by omega) (by omega)
  by_cases h16 : pc < 340
  · exact key _ _ sm_okP_188_16 (by omega) (by omega)
  by_cases h17 : pc < 360
  · exact key _ _ sm_okP_188_17 (by omega) (by omega)
  by_cases h18 : pc < 380
  · exact key _ _ sm_okP_188_18 (by omega) (by omega)
  by_cases h19 : pc < 400
  · exact key _ _ sm_okP_188_19 (by omega) (by omega)
  by_cases h20 : pc < 420
  · exact key _ _ sm_okP_188_20 (by omega) (by omega)
  by_cases h21 : pc < 440
  · exact key _ _ sm_okP_188_21 (by omega) (by omega)
  by_cases h22 : pc < 460
  · exact key _ _ sm_okP_188_22 (by omega) (by omega)
  by_cases h23 : pc < 480
  · exact key _ _ sm_okP_188_23 (by omega) (by omega)
  by_cases h24 : pc < 500
  · exact key _ _ sm_okP_188_24 (by omega) (by omega)
  by_cases h25 : pc < 520
  · exact key _ _ sm_okP_188_25 (by omega) (by omega)
  by_cases h26 : pc < 540
  · exact key _ _ sm_okP_188_26 (by omega) (by omega)
  by_cases h27 : pc < 560
  · exact key _ _ sm_okP_188_27 (by omega) (by omega)
  by_cases h28 : pc < 580
  · exact key _ _ sm_okP_188_28 (by omega) (by omega)
  by_cases h29 : pc < 600
  · exact key _ _ sm_okP_188_29 (by omega) (by omega)
  by_cases h30 : pc < 620
  · exact key _ _ sm_okP_188_30 (by omega) (by omega)
  by_cases h31 : pc < 640
  · exact key _ _ sm_okP_188_31 (by omega) (by omega)
  by_cases h32 : pc < 660
  · exact key _ _ sm_okP_188_32 (by omega) (by omega)
  by_cases h33 : pc < 680
  · exact key _ _ sm_okP_188_33 (by omega) (by omega)
  by_cases h34 : pc < 700
  · exact key _ _ sm_okP_188_34 (by omega) (by omega)
  by_cases h35 : pc < 720
  · exact key _ _ sm_okP_188_35 (by omega) (by omega)
  by_cases h36 : pc < 740
  · exact key _ _ sm_okP_188_36 (by omega) (by omega)
  by_cases h37 : pc < 760
  · exact key _ _ sm_okP_188_37 (by omega) (by omega)
  by_cases h38 : pc < 780
  · exact key _ _ sm_okP_188_38 (by omega) (by omega)
  by_cases h39 : pc < 800
  · exact key _ _ sm_okP_188_39 (by omega) (by omega)
  by_cases h40 : pc < 820
  · exact key _ _ sm_okP_188_40 (by omega) (by omega)
  by_cases h41 : pc < 840
  · exact key _ _ sm_okP_188_41 (by omega) (by omega)
  by_cases h42 : pc < 860
  · exact key _ _ sm_okP_188_42 (by omega) (by omega)
  by_cases h43 : pc < 880
  · exact key _ _ sm_okP_188_43 (by omega) (by omega)
  by_cases h44 : pc < 900
  · exact key _ _ sm_okP_188_44 (by omega) (by omega)
  by_cases h45 : pc < 920
  · exact key _ _ sm_okP_188_45 (by omega) (by omega)
  by_cases h46 : pc < 923
  · exact key _ _ sm_okP_188_46 (by omega) (by omega)
  omega
theorem sm_okC_all {j : Nat} (h : j < 189) : sm_okC j = true := by
  have key : ∀ (a n : Nat), (List.range n).all (fun i => sm_okC (a + i)) = true → a ≤ j → j < a + n → sm_okC j = true := fun a n h1 h2 h3 => by
    have := List.all_eq_true.mp h1 (j - a) (List.mem_range.mpr (by omega))
    rwa [show a + (j - a) = j by omega] at this
  by_cases h0 : j < 16
  · exact key _ _ sm_okC_0 (by omega) (by omega)
  by_cases h1 : j < 21
  · exact key _ _ sm_okC_1 (by omega) (by omega)
  by_cases h2 : j < 22
  · have : j = 21 := by omega
    rw [this]; exact sm_okC_2
  by_cases h3 : j < 32
  · exact key _ _ sm_okC_3 (by omega) (by omega)
  by_cases h4 : j < 38
  · exact key _ _ sm_okC_4 (by omega) (by omega)
  by_cases h5 : j < 47
  · exact key _ _ sm_okC_5 (by omega) (by omega)
  by_cases h6 : j < 63
  · exact key _ _ sm_okC_6 (by omega) (by omega)
  by_cases h7 : j < 71
  · exact key _ _ sm_okC_7 (by omega) (by omega)
  by_cases h8 : j < 79
  · exact key _ _ sm_okC_8 (by omega) (by omega)
  by_cases h9 : j < 95
  · exact key _ _ sm_okC_9 (by omega) (by omega)
  by_cases h10 : j < 101
  · exact key _ _ sm_okC_10 (by omega) (by omega)
  by_cases h11 : j < 102
  · exact key _ _ sm_okC_11 (by omega) (by omega)
  by_cases h12 : j < 104
  · exact key _ _ sm_okC_12 (by omega) (by omega)
  by_cases h13 : j < 106
  · exact key _ _ sm_okC_13 (by omega) (by omega)
  by_cases h14 : j < 111
  · exact key _ _ sm_okC_14 (by omega) (by omega)
  by_cases h15 : j < 115
  · exact key _ _ sm_okC_15 (by omega) (by omega)
  by_cases h16 : j < 116
  · have : j = 115 := by omega
    rw [this]; exact sm_okC_16
  by_cases h17 : j < 121
  · exact key _ _ sm_okC_17 (by omega) (by omega)
  by_cases h18 : j < 124
  · exact key _ _ sm_okC_18 (by omega) (by omega)
  by_cases h19 : j < 125
  · exact key _ _ sm_okC_19 (by omega) (by omega)
  by_cases h20 : j < 126
  · have : j = 125 := by omega
    rw [this]; exact sm_okC_20
  by_cases h21 : j < 128
  · exact key _ _ sm_okC_21 (by omega) (by omega)
  by_cases h22 : j < 129
  · have : j = 128 := by omega
    rw [this]; exact sm_okC_22
  by_cases h23 : j < 137
  · exact key _ _ sm_okC_23 (by omega) (by omega)
  by_cases h24 : j < 138
  · have : j = 137 := by omega
    rw [this]; exact sm_okC_24
  by_cases h25 : j < 140
  · exact key _ _ sm_okC_25 (by omega) (by omega)
  by_cases h26 : j < 141
  · exact key _ _ sm_okC_26 (by omega) (by omega)
  by_cases h27 : j < 142
  · exact key _ _ sm_okC_27 (by omega) (by omega)
  by_cases h28 : j < 143
  · have : j = 142 := by omega
    rw [this]; exact sm_okC_28
  by_cases h29 : j < 150
  · exact key _ _ sm_okC_29 (by omega) (by omega)
  by_cases h30 : j < 152
  · exact key _ _ sm_okC_30 (by omega) (by omega)
  by_cases h31 : j < 154
  · exact key _ _ sm_okC_31 (by omega) (by omega)
  by_cases h32 : j < 155
  · have : j = 154 := by omega
    rw [this]; exact sm_okC_32
  by_cases h33 : j < 165
  · exact key _ _ sm_okC_33 (by omega) (by omega)
  by_cases h34 : j < 171
  · exact key _ _ sm_okC_34 (by omega) (by omega)
  by_cases h35 : j < 173
  · exact key _ _ sm_okC_35 (by omega) (by omega)
  by_cases h36 : j < 174
  · have : j = 173 := by omega
    rw [this]; exact sm_okC_36
  by_cases h37 : j < 175
  · exact key _ _ sm_okC_37 (by omega) (by omega)
  by_cases h38 : j < 176
  · exact key _ _ sm_okC_38 (by omega) (by omega)
  by_cases h39 : j < 179
  · exact key _ _ sm_okC_39 (by omega) (by omega)
  by_cases h40 : j < 180
  · have : j = 179 := by omega
    rw [this]; exact sm_okC_40
  by_cases h41 : j < 181
  · have : j = 180 := by omega
    rw [this]; exact sm_okC_41
  by_cases h42 : j < 183
  · exact key _ _ sm_okC_42 (by omega) (by omega)
  by_cases h43 : j < 184
  · have : j = 183 := by omega
    rw [this]; exact sm_okC_43
  by_cases h44 : j < 186
  · exact key _ _ sm_okC_44 (by omega) (by omega)
  by_cases h45 : j < 188
  · exact key _ _ sm_okC_45 (by omega) (by omega)
  by_cases h46 : j < 189
  · have : j = 188 := by omega
    rw [this]; exact sm_okC_46
  omega
end
section
/-! THE SMALL MACHINE: runs the decoded code over worlds that are plain data: a world is a list of cells, a reference is a place in it (from 1000001 on: the text of the class, its bytes, the formatter, the script) -/
abbrev sm_E : Type := (Nat × List Int32) ⊕ (List Int64 ⊕ (Nat × List Value))
abbrev sm_W : Type := List sm_E
abbrev sm_L : Type := List (Option Value)
def sm_text : List Int32 := ("i0,1,0,2;i0,3,0,1;i1,1,0,0;i2,0,1,3;i2,2,5,1;i2,0,4,0;i3,3,0,4;i0,0,0,2;b2;b3;d4;m6;h5;s3;".toList.map fun ch => Int32.ofNat ch.toNat)
def sm_ix {α : Type} (l : List α) (i : Int32) : Option α := if i < 0 then none else l[i.toNatClampNeg]?
def sm_nl (L : sm_L) (i : Nat) : Bool := match i with
  | 0 => true
  | k + 1 => match L[k]? with
    | some (some v) => v.category != 2
    | _ => true
def sm_st1 (ml : Nat) (L : sm_L) (i : Nat) (v : Value) : Option sm_L := if i < ml ∧ sm_nl L i = true then some (L.set i (some v)) else none
def sm_st2 (ml : Nat) (L : sm_L) (i : Nat) (v : Value) : Option sm_L := if i + 1 < ml ∧ sm_nl L i = true then some ((L.set i (some v)).set (i + 1) none) else none
def sm_cnd (c : Jvm.ClassFile.Cond) (x y : Int32) : Bool := match c with
  | .eq => decide (x = y)
  | .ne => decide (¬ x = y)
  | .lt => decide (x < y)
  | .ge => decide (y ≤ x)
  | .gt => decide (y < x)
  | .le => decide (x ≤ y)
/-- instructions of one byte that touch the stack alone -/
def sm_pure (i : Instr) (st : List Value) : Option (List Value) := match i with
  | .iadd => match st with | .int y :: .int x :: r => some (.int (x + y) :: r) | _ => none
  | .isub => match st with | .int y :: .int x :: r => some (.int (x - y) :: r) | _ => none
  | .imul => match st with | .int y :: .int x :: r => some (.int (x * y) :: r) | _ => none
  | .iand => match st with | .int y :: .int x :: r => some (.int (x &&& y) :: r) | _ => none
  | .ior => match st with | .int y :: .int x :: r => some (.int (x ||| y) :: r) | _ => none
  | .ixor => match st with | .int y :: .int x :: r => some (.int (x ^^^ y) :: r) | _ => none
  | .ishl => match st with | .int y :: .int x :: r => some (.int (x <<< (y &&& 31)) :: r) | _ => none
  | .ishr => match st with | .int y :: .int x :: r => some (.int (x >>> (y &&& 31)) :: r) | _ => none
  | .iushr => match st with | .int y :: .int x :: r => some (.int (x.toUInt32 >>> (y.toUInt32 &&& Int32.toUInt32 31)).toInt32 :: r) | _ => none
  | .idiv => match st with | .int y :: .int x :: r => if y = 0 then none else some (.int (x / y) :: r) | _ => none
  | .irem => match st with | .int y :: .int x :: r => if y = 0 then none else some (.int (x - x / y * y) :: r) | _ => none
  | .ladd => match st with | .long y :: .long x :: r => some (.long (x + y) :: r) | _ => none
  | .lsub => match st with | .long y :: .long x :: r => some (.long (x - y) :: r) | _ => none
  | .lmul => match st with | .long y :: .long x :: r => some (.long (x * y) :: r) | _ => none
  | .land => match st with | .long y :: .long x :: r => some (.long (x &&& y) :: r) | _ => none
  | .lor => match st with | .long y :: .long x :: r => some (.long (x ||| y) :: r) | _ => none
  | .lxor => match st with | .long y :: .long x :: r => some (.long (x ^^^ y) :: r) | _ => none
  | .lrem => match st with | .long y :: .long x :: r => if y = 0 then none else some (.long (x - x / y * y) :: r) | _ => none
  | .lshl => match st with | .int y :: .long x :: r => some (.long (x <<< (y.toInt64 &&& 63)) :: r) | _ => none
  | .lushr => match st with | .int y :: .long x :: r => some (.long (x.toUInt64 >>> (y.toInt64.toUInt64 &&& Int64.toUInt64 63)).toInt64 :: r) | _ => none
  | .lcmp => match st with | .long y :: .long x :: r => some (.int (lg_cmp x y) :: r) | _ => none
  | .i2l => match st with | .int x :: r => some (.long x.toInt64 :: r) | _ => none
  | .l2i => match st with | .long x :: r => some (.int x.toInt32 :: r) | _ => none
  | .i2c => match st with | .int x :: r => some (.int (x.toUInt32 % 65536).toInt32 :: r) | _ => none
  | .dup => match st with | v :: r => if v.category = 1 then some (v :: v :: r) else none | _ => none
  | .dup2 => match st with | v :: w :: r => if v.category = 1 ∧ w.category = 1 then some (v :: w :: v :: w :: r) else none | _ => none
  | .pop => match st with | v :: r => if v.category = 1 then some r else none | _ => none
  | _ => none
abbrev sm_O : Type := Option (Nat × sm_L × List Value × sm_W)
/-- jumps -/
def sm_jump (e : sm_I) (pc : Nat) (L : sm_L) (st : List Value) (wd : sm_W) : sm_O := match e.1 with
  | .goto off => if (pc : Int) + off = (e.2.1 : Int) then some (e.2.1, L, st, wd) else none
  | .ifCond c off => match st with
    | .int x :: r => if (pc : Int) + off = (e.2.1 : Int) then some (if sm_cnd c x 0 = true then e.2.1 else pc + 3, L, r, wd) else none
    | _ => none
  | .if_icmp c off => match st with
    | .int y :: .int x :: r => if (pc : Int) + off = (e.2.1 : Int) then some (if sm_cnd c x y = true then e.2.1 else pc + 3, L, r, wd) else none
    | _ => none
  | .tableswitch d lo hi offs => match st with
    | .int x :: r => if x.toInt < lo ∨ hi < x.toInt then (if 0 ≤ (pc : Int) + d then some (((pc : Int) + d).toNat, L, r, wd) else none)
      else match offs[(x.toInt - lo).toNat]? with
        | some off => if 0 ≤ (pc : Int) + off then some (((pc : Int) + off).toNat, L, r, wd) else none
        | none => none
    | _ => none
  | .lookupswitch d ps => match st with
    | .int x :: r => if (ps.toList.zip (ps.toList.drop 1)).all (fun (a, next) => a.1 < next.1) = true ∧ 0 ≤ (pc : Int) + Op.lookupswitch.offset ps.toList d x.toInt then some (((pc : Int) + Op.lookupswitch.offset ps.toList d x.toInt).toNat, L, r, wd) else none
    | _ => none
  | _ => none
/-- constants and locals -/
def sm_loc (ml : Nat) (e : sm_I) (pc : Nat) (L : sm_L) (st : List Value) (wd : sm_W) : sm_O := match e.1 with
  | .iconst n => some (pc + 1, L, .int (Int32.ofInt n) :: st, wd)
  | .bipush n => some (pc + 2, L, .int (Int8.ofInt n).toInt32 :: st, wd)
  | .sipush n => some (pc + 3, L, .int (Int16.ofInt n).toInt32 :: st, wd)
  | .lconst n => some (pc + 1, L, .long (Int64.ofNat (n : Nat)) :: st, wd)
  | .ldc _ => some (pc + 2, L, .ref 1000001 :: st, wd)
  | .ldc_w _ => some (pc + 3, L, (if e.2.2.2 = 0 then .ref 1000001 else .int (Int32.ofNat e.2.1)) :: st, wd)
  | .ldc2_w _ => some (pc + 3, L, .long (sm_lv64 e.2.1 e.2.2.1) :: st, wd)
  | .iload i => match L[i]? with | some (some (.int x)) => some (pc + 2, L, .int x :: st, wd) | _ => none
  | .iload_n i => match L[(i : Nat)]? with | some (some (.int x)) => some (pc + 1, L, .int x :: st, wd) | _ => none
  | .lload i => match L[i]? with | some (some (.long x)) => some (pc + 2, L, .long x :: st, wd) | _ => none
  | .lload_n i => match L[(i : Nat)]? with | some (some (.long x)) => some (pc + 1, L, .long x :: st, wd) | _ => none
  | .aload i => match L[i]? with | some (some (.ref x)) => if x = 1000003 then none else some (pc + 2, L, .ref x :: st, wd) | _ => none
  | .aload_n i => match L[(i : Nat)]? with | some (some (.ref x)) => if x = 1000003 then none else some (pc + 1, L, .ref x :: st, wd) | _ => none
  | .istore i => match st with | .int x :: r => (sm_st1 ml L i (.int x)).map (fun L' => (pc + 2, L', r, wd)) | _ => none
  | .istore_n i => match st with | .int x :: r => (sm_st1 ml L (i : Nat) (.int x)).map (fun L' => (pc + 1, L', r, wd)) | _ => none
  | .lstore i => match st with | .long x :: r => (sm_st2 ml L i (.long x)).map (fun L' => (pc + 2, L', r, wd)) | _ => none
  | .lstore_n i => match st with | .long x :: r => (sm_st2 ml L (i : Nat) (.long x)).map (fun L' => (pc + 1, L', r, wd)) | _ => none
  | .astore_n i => match st with | .ref x :: r => if x = 1000003 then none else (sm_st1 ml L (i : Nat) (.ref x)).map (fun L' => (pc + 1, L', r, wd)) | _ => none
  | .iinc i n => match L[i]? with | some (some (.int x)) => (sm_st1 ml L i (.int (x + Int32.ofInt n))).map (fun L' => (pc + 3, L', st, wd)) | _ => none
  | _ => none
/-- the default value of a field -/
def sm_df (ty : FieldType) : Value := defaultValue ty
/-- cells -/
def sm_mem (xs : List Int32) (d : Nat) (e : sm_I) (pc : Nat) (L : sm_L) (st : List Value) (wd : sm_W) : sm_O := match e.1 with
  | .getfield _ => match st with
    | .ref k :: r =>
      if e.2.1 = 100 then (if k = 1000001 then some (pc + 3, L, (if e.2.2.1 = 0 then .int 0 else .ref 1000002) :: r, wd) else none)
      else match wd[k]? with
        | some (.inr (.inr (ci, fs))) => if ci = e.2.1 then (match fs[e.2.2.1]? with
          | some v => some (pc + 3, L, v :: r, wd)
          | none => none) else none
        | _ => none
    | _ => none
  | .putfield _ => match st with
    | v :: .ref k :: r => match wd[k]? with
      | some (.inr (.inr (ci, fs))) => if ci = e.2.1 ∧ e.2.2.1 < fs.length ∧ narrow (sm_ty e.2.1 e.2.2.1) v = v ∧ fits (sm_ty e.2.1 e.2.2.1) v = true then some (pc + 3, L, r, wd.set k (.inr (.inr (ci, fs.set e.2.2.1 v)))) else none
      | _ => none
    | _ => none
  | .getstatic _ => if e.2.1 = 0 then some (pc + 3, L, .int 1 :: st, wd) else if e.2.1 = 1 then some (pc + 3, L, .ref 1000003 :: st, wd) else none
  | .iaload => match st with
    | .int i :: .ref k :: r => if k = 1000004 then (match sm_ix xs i with
        | some x => some (pc + 1, L, .int x :: r, wd)
        | none => none)
      else match wd[k]? with
        | some (.inl (0, l)) => (match sm_ix l i with
          | some x => some (pc + 1, L, .int x :: r, wd)
          | none => none)
        | _ => none
    | _ => none
  | .caload => match st with
    | .int i :: .ref k :: r => match wd[k]? with
      | some (.inl (1, l)) => (match sm_ix l i with
        | some x => some (pc + 1, L, .int x :: r, wd)
        | none => none)
      | _ => none
    | _ => none
  | .baload => match st with
    | .int i :: .ref k :: r => if k = 1000002 then (match sm_ix sm_text i with
        | some x => some (pc + 1, L, .int x :: r, wd)
        | none => none) else none
    | _ => none
  | .laload => match st with
    | .int i :: .ref k :: r => match wd[k]? with
      | some (.inr (.inl l)) => (match sm_ix l i with
        | some x => some (pc + 1, L, .long x :: r, wd)
        | none => none)
      | _ => none
    | _ => none
  | .iastore => match st with
    | .int x :: .int i :: .ref k :: r => match wd[k]? with
      | some (.inl (0, l)) => if i < 0 ∨ l.length ≤ i.toNatClampNeg then none else some (pc + 1, L, r, wd.set k (.inl (0, l.set i.toNatClampNeg x)))
      | _ => none
    | _ => none
  | .castore => match st with
    | .int x :: .int i :: .ref k :: r => match wd[k]? with
      | some (.inl (1, l)) => if i < 0 ∨ l.length ≤ i.toNatClampNeg then none else some (pc + 1, L, r, wd.set k (.inl (1, l.set i.toNatClampNeg (vp_nar .char x))))
      | _ => none
    | _ => none
  | .lastore => match st with
    | .long x :: .int i :: .ref k :: r => match wd[k]? with
      | some (.inr (.inl l)) => if i < 0 ∨ l.length ≤ i.toNatClampNeg then none else some (pc + 1, L, r, wd.set k (.inr (.inl (l.set i.toNatClampNeg x))))
      | _ => none
    | _ => none
  | .arraylength => match st with
    | .ref k :: r => if k = 1000002 then some (pc + 1, L, .int (Int32.ofNat sm_text.length) :: r, wd) else if k = 1000004 then some (pc + 1, L, .int (Int32.ofNat xs.length) :: r, wd)
      else match wd[k]? with
        | some (.inl (_, l)) => some (pc + 1, L, .int (Int32.ofNat l.length) :: r, wd)
        | some (.inr (.inl l)) => some (pc + 1, L, .int (Int32.ofNat l.length) :: r, wd)
        | _ => none
    | _ => none
  | .new _ => if e.2.1 < 8 ∧ wd.length < 1000000 then some (pc + 3, L, .ref wd.length :: st, wd ++ [.inr (.inr (e.2.1, (List.range (sm_nf e.2.1)).map (fun k => defaultValue (sm_ty e.2.1 k))))]) else none
  | .newarray _ => match st with
    | .int n :: r => if n < 0 ∨ 100000 < n.toNatClampNeg ∨ 1000000 ≤ wd.length then none
      else if e.2.1 = 2 then some (pc + 2, L, .ref wd.length :: r, wd ++ [.inr (.inl (List.replicate n.toNatClampNeg 0))])
      else some (pc + 2, L, .ref wd.length :: r, wd ++ [.inl (e.2.1, List.replicate n.toNatClampNeg 0)])
    | _ => none
  | .invokespecial _ => match st with
    | .ref k :: r => if e.2.1 = 9999 ∧ 1 ≤ d ∧ k < 1000000 ∧ (r.map fun v => v.category).sum ≤ 8 then some (pc + 3, L, r, wd) else none
    | _ => none
  | .invokestatic _ => match st with
    | .int y :: .int x :: r => if 1 ≤ d ∧ (r.map fun v => v.category).sum ≤ 8 then (if e.2.1 = 9997 then some (pc + 3, L, .int (if x < y then y else x) :: r, wd) else if e.2.1 = 9996 then some (pc + 3, L, .int (if y < x then y else x) :: r, wd) else none) else none
    | _ => none
  | _ => none
/-- which of the tables an instruction belongs to -/
def sm_cls (i : Instr) : Nat := match i with
  | .goto _ | .ifCond _ _ | .if_icmp _ _ | .tableswitch .. | .lookupswitch .. => 1
  | .iconst _ | .bipush _ | .sipush _ | .lconst _ | .ldc _ | .ldc_w _ | .ldc2_w _ | .iload _ | .iload_n _ | .lload _ | .lload_n _ | .aload _ | .aload_n _ | .istore _ | .istore_n _ | .lstore _ | .lstore_n _ | .astore_n _ | .iinc _ _ => 2
  | .getfield _ | .putfield _ | .getstatic _ | .iaload | .caload | .baload | .laload | .iastore | .castore | .lastore | .arraylength | .new _ | .newarray _ | .invokespecial _ | .invokestatic _ => 3
  | _ => 0
def sm_step (xs : List Int32) (d ml : Nat) (e : sm_I) (pc : Nat) (L : sm_L) (st : List Value) (wd : sm_W) : sm_O := match sm_cls e.1 with
  | 0 => (sm_pure e.1 st).map (fun st' => (pc + 1, L, st', wd))
  | 1 => sm_jump e pc L st wd
  | 2 => sm_loc ml e pc L st wd
  | _ => sm_mem xs d e pc L st wd
def sm_exp : List Value → sm_L
  | [] => []
  | v :: r => if v.category = 2 then some v :: none :: sm_exp r else some v :: sm_exp r
def sm_ent (ml : Nat) (as : List Value) : sm_L := sm_exp as ++ List.replicate (ml - (sm_exp as).length) none
/-- a call of a method of the tables: which -/
def sm_call (e : sm_I) : Bool := match e.1 with
  | .invokevirtual _ | .invokestatic _ | .invokespecial _ => decide (e.2.1 < sm_N)
  | _ => false
def sm_recv (j n : Nat) (st : List Value) (wd : sm_W) : Bool := match sm_kd j with
  | 0 => true
  | 1 => match st[n - 1]? with
    | some (.ref k) => (match wd[k]? with
      | some (.inr (.inr (ci, _))) => decide (ci = sm_ci j)
      | _ => false)
    | _ => false
  | 2 => match st[n - 1]? with
    | some (.ref k) => decide (k < 1000000)
    | _ => false
  | _ => match st[n - 1]? with
    | some (.ref k) => decide (k = 1000001)
    | _ => false
def sm_ret (j : Nat) (i : Instr) (st : List Value) : Option (Option Value) := match i with
  | .ireturn => match st with
    | [.int v] => (match sm_rt j with
      | some ty => if narrow ty (.int v) = .int v ∧ ty ≠ .long then some (some (.int v)) else none
      | none => none)
    | _ => none
  | .lreturn => match st with
    | [.long v] => if sm_rt j = some .long then some (some (.long v)) else none
    | _ => none
  | .return_ => match st with
    | [] => if sm_rt j = none then some none else none
    | _ => none
  | _ => none
def sm_push (r : Option Value) (st : List Value) : List Value := match r with
  | some v => v :: st
  | none => st
def sm_run (xs : List Int32) : Nat → Nat → Nat → Nat → sm_L → List Value → sm_W → Option (Option Value × sm_W)
  | 0, _, _, _, _, _, _ => none
  | f + 1, d, j, pc, L, st, wd => match sm_ic j pc with
    | none => none
    | some e => match sm_call e with
      | true => match d with
        | 0 => none
        | d' + 1 => if sm_recv e.2.1 e.2.2.1 st wd = true ∧ e.2.2.1 ≤ st.length ∧ (sm_exp (st.take e.2.2.1).reverse).length ≤ sm_ml e.2.1 ∧ ((st.drop e.2.2.1).map fun v => v.category).sum ≤ 8 then
            match sm_run xs f d' e.2.1 0 (sm_ent (sm_ml e.2.1) (st.take e.2.2.1).reverse) [] wd with
            | none => none
            | some q => sm_run xs f (d' + 1) j (pc + 3) L (sm_push q.1 (st.drop e.2.2.1)) q.2
          else none
      | false => match sm_ret j e.1 st with
        | some r => some (r, wd)
        | none => match sm_step xs d (sm_ml j) e pc L st wd with
          | none => none
          | some q => sm_run xs f d j q.1 q.2.1 q.2.2.1 q.2.2.2
end
section
/-! the small machine's worlds and the real ones; stack, jumps and locals -/
abbrev sm_G : Type := Nat × Nat × Nat × Value × Nat × (Nat × Nat × Nat)
def sm_up (g : sm_G) (v : Value) : Value := match v with
  | .ref k => if k < 1000000 then .ref (g.1 + k) else if k = 1000001 then .ref g.2.1 else if k = 1000002 then .ref g.2.2.1 else if k = 1000003 then g.2.2.2.1 else .ref g.2.2.2.2.1
  | v => v
def sm_fv (g : sm_G) : Prop := g.2.2.2.1 = .null ∨ ∃ a, g.2.2.2.1 = .ref a
theorem sm_up_lo {g : sm_G} {k : Nat} (h : k < 1000000) : sm_up g (.ref k) = .ref (g.1 + k) := if_pos h
theorem sm_up_cat {g : sm_G} (hf : sm_fv g) (v : Value) : (sm_up g v).category = v.category := by
  cases v with
  | ref k =>
    unfold sm_up
    dsimp only
    split
    · rfl
    · split
      · rfl
      · split
        · rfl
        · split
          · rcases hf with h | ⟨a, h⟩ <;> rw [h] <;> rfl
          · rfl
  | _ => rfl
theorem sm_up_ref {g : sm_G} {k : Nat} (h : k ≠ 1000003) : ∃ a, sm_up g (.ref k) = .ref a := by
  unfold sm_up
  dsimp only
  split
  · exact ⟨_, rfl⟩
  · split
    · exact ⟨_, rfl⟩
    · split
      · exact ⟨_, rfl⟩
      · exact ⟨_, rfl⟩
def sm_rE (g : sm_G) (e : sm_E) : va_E := match e with
  | .inl (t, l) => .inl (if t = 0 then g.2.2.2.2.2.1 else g.2.2.2.2.2.2.1, l.length, .inl (fun j => l.getD j 0))
  | .inr (.inl l) => .inl (g.2.2.2.2.2.2.2, l.length, .inr (.inl (fun j => l.getD j 0)))
  | .inr (.inr (ci, fs)) => .inr (ci, fs.map (sm_up g))
def sm_rW (g : sm_G) (wd : sm_W) : va_W := wd.mapIdx (fun k e => (g.1 + k, sm_rE g e))
abbrev sm_A (g : sm_G) : Nat → Prop := fun q => g.1 ≤ q
def sm_tys (g : sm_G) : List (ClassId × FieldType) := [(g.2.2.2.2.2.1, .int), (g.2.2.2.2.2.2.1, .char), (g.2.2.2.2.2.2.2, .long)]
def sm_RW (g : sm_G) (D : va_G) (wd : sm_W) (H : Heap) : Prop := H.size = g.1 + wd.length ∧ wd.length ≤ 1000000 ∧ va_P D sm_cl (sm_rW g wd) H
theorem sm_rW_len (g : sm_G) (wd : sm_W) : (sm_rW g wd).length = wd.length := by simp [sm_rW]
theorem sm_rW_get {g : sm_G} {wd : sm_W} {k : Nat} {e : sm_E} (h : wd[k]? = some e) : (sm_rW g wd)[k]? = some (g.1 + k, sm_rE g e) := by
  simp [sm_rW, List.getElem?_mapIdx, h]
theorem sm_rW_of {g : sm_G} {wd : sm_W} {k : Nat} {q : Nat × va_E} (h : (sm_rW g wd)[k]? = some q) : ∃ e, wd[k]? = some e ∧ q = (g.1 + k, sm_rE g e) := by
  simp only [sm_rW, List.getElem?_mapIdx, Option.map_eq_some_iff] at h
  obtain ⟨e, h1, h2⟩ := h
  exact ⟨e, h1, h2.symm⟩
theorem sm_rW_set (g : sm_G) (wd : sm_W) (k : Nat) (e : sm_E) : sm_rW g (wd.set k e) = (sm_rW g wd).set k (g.1 + k, sm_rE g e) := by
  apply List.ext_getElem?
  intro i
  by_cases h : k = i
  · subst h
    by_cases hk : k < wd.length
    · rw [List.getElem?_set_self (by rw [sm_rW_len]; exact hk)]
      exact sm_rW_get (List.getElem?_set_self hk)
    · rw [List.getElem?_eq_none (by simp [sm_rW_len]; omega), List.getElem?_eq_none (by simp [sm_rW_len]; omega)]
  · rw [List.getElem?_set_ne h]
    simp [sm_rW, List.getElem?_mapIdx, List.getElem?_set_ne h]
theorem sm_rW_app (g : sm_G) (wd : sm_W) (e : sm_E) : sm_rW g (wd ++ [e]) = sm_rW g wd ++ [(g.1 + wd.length, sm_rE g e)] := by
  simp [sm_rW, List.mapIdx_append]
theorem sm_rW_D (g : sm_G) (wd : sm_W) : va_D (sm_A g) (sm_rW g wd) := by
  refine ⟨fun i j p q hi hj h => ?_, fun k q hk => ?_⟩
  · obtain ⟨e1, -, rfl⟩ := sm_rW_of hi
    obtain ⟨e2, -, rfl⟩ := sm_rW_of hj
    dsimp only at h
    omega
  · obtain ⟨e1, -, rfl⟩ := sm_rW_of hk
    exact Nat.le_add_right _ _
/-- locals -/
def sm_lv (g : sm_G) (ls : Array Slot) (nL : Nat) (L : sm_L) : Prop := ls.size = nL ∧ lv_wf ls ∧ L.length = nL ∧ ∀ (i : Nat) (v : Value), L[i]? = some (some v) → ls[i]? = some (.val (sm_up g v))
def sm_as (g : sm_G) : Nat → sm_L → List (Nat × Value)
  | _, [] => []
  | k, none :: r => sm_as g (k + 1) r
  | k, some v :: r => (k, sm_up g v) :: sm_as g (k + 1) r
theorem sm_as_of (g : sm_G) : ∀ (L : sm_L) (k : Nat) (q : Nat × Value), q ∈ sm_as g k L → ∃ (i : Nat) (v : Value), L[i]? = some (some v) ∧ q = (k + i, sm_up g v)
  | [], k, q, h => by simp [sm_as] at h
  | none :: r, k, q, h => by
    obtain ⟨i, v, h1, h2⟩ := sm_as_of g r (k + 1) q h
    exact ⟨i + 1, v, h1, by rw [h2, Nat.add_right_comm]; rfl⟩
  | some w :: r, k, q, h => by
    rcases List.mem_cons.mp h with h | h
    · exact ⟨0, w, rfl, h⟩
    · obtain ⟨i, v, h1, h2⟩ := sm_as_of g r (k + 1) q h
      exact ⟨i + 1, v, h1, by rw [h2, Nat.add_right_comm]; rfl⟩
theorem sm_as_in (g : sm_G) : ∀ (L : sm_L) (k i : Nat) (v : Value), L[i]? = some (some v) → (k + i, sm_up g v) ∈ sm_as g k L
  | [], k, i, v, h => by simp at h
  | none :: r, k, 0, v, h => by simp at h
  | none :: r, k, i + 1, v, h => by
    have := sm_as_in g r (k + 1) i v h
    rw [Nat.add_right_comm] at this
    exact this
  | some w :: r, k, 0, v, h => by
    have h : w = v := by simpa using h
    subst h
    exact List.mem_cons_self
  | some w :: r, k, i + 1, v, h => by
    have := sm_as_in g r (k + 1) i v h
    rw [Nat.add_right_comm] at this
    exact List.mem_cons_of_mem _ this
theorem sm_lv.has {g : sm_G} {ls : Array Slot} {nL : Nat} {L : sm_L} (h : sm_lv g ls nL L) : lv_has ls nL (sm_as g 0 L) := by
  refine ⟨h.1, h.2.1, fun q hq => ?_⟩
  obtain ⟨i, v, h1, rfl⟩ := sm_as_of g L 0 q hq
  rw [Nat.zero_add]
  exact h.2.2.2 i v h1
theorem sm_nl_ok {L : sm_L} {i k : Nat} {v : Value} (h : sm_nl L i = true) (hk : L[k]? = some (some v)) (hi : k + 1 = i) : ¬ v.category = 2 := by
  subst hi
  simp only [sm_nl, hk] at h
  simpa using h
theorem sm_st1_ok {g : sm_G} (hf : sm_fv g) {ls ls' : Array Slot} {nL i : Nat} {L L' : sm_L} {v : Value} {lv' : List (Nat × Value)} (h : sm_lv g ls nL L) (hs : sm_st1 nL L i v = some L') (hl : (i, sm_up g v) :: (sm_as g 0 L).filter (fun q => !(q.1 == i) && !(q.1 + 1 == i && q.2.category == 2)) = lv') (h' : lv_has ls' nL lv') : sm_lv g ls' nL L' := by
  unfold sm_st1 at hs
  split at hs
  · rename_i hc
    cases hs
    subst hl
    refine ⟨h'.1, h'.2.1, by rw [List.length_set]; exact h.2.2.1, fun k w hk => ?_⟩
    by_cases hki : k = i
    · subst hki
      rw [List.getElem?_set_self (by rw [h.2.2.1]; exact hc.1)] at hk
      cases hk
      exact h'.2.2 _ List.mem_cons_self
    · rw [List.getElem?_set_ne (Ne.symm hki)] at hk
      refine h'.2.2 (k, sm_up g w) (List.mem_cons_of_mem _ (List.mem_filter.mpr ⟨by have := sm_as_in g L 0 k w hk; rwa [Nat.zero_add] at this, ?_⟩))
      by_cases h1 : k + 1 = i
      · have h2 := sm_nl_ok hc.2 hk h1
        rw [← sm_up_cat hf w] at h2
        simp [hki, h2]
      · simp [hki, h1]
  · cases hs
theorem sm_st1_lt {nL i : Nat} {L L' : sm_L} {v : Value} (hs : sm_st1 nL L i v = some L') : i < nL := by
  unfold sm_st1 at hs
  split at hs
  · rename_i hc; exact hc.1
  · cases hs
theorem sm_st2_ok {g : sm_G} (hf : sm_fv g) {ls ls' : Array Slot} {nL i : Nat} {L L' : sm_L} {v : Value} {lv' : List (Nat × Value)} (h : sm_lv g ls nL L) (hs : sm_st2 nL L i v = some L') (hl : (i, sm_up g v) :: (sm_as g 0 L).filter (fun q => !(q.1 == i) && (!(q.1 == i + 1) && !(q.1 + 1 == i && q.2.category == 2))) = lv') (h' : lv_has ls' nL lv') : sm_lv g ls' nL L' := by
  unfold sm_st2 at hs
  split at hs
  · rename_i hc
    cases hs
    subst hl
    refine ⟨h'.1, h'.2.1, by rw [List.length_set, List.length_set]; exact h.2.2.1, fun k w hk => ?_⟩
    by_cases hk1 : k = i + 1
    · subst hk1
      rw [List.getElem?_set_self (by rw [List.length_set, h.2.2.1]; exact hc.1)] at hk
      cases hk
    · rw [List.getElem?_set_ne (Ne.symm hk1)] at hk
      by_cases hki : k = i
      · subst hki
        rw [List.getElem?_set_self (by rw [h.2.2.1]; omega)] at hk
        cases hk
        exact h'.2.2 _ List.mem_cons_self
      · rw [List.getElem?_set_ne (Ne.symm hki)] at hk
        refine h'.2.2 (k, sm_up g w) (List.mem_cons_of_mem _ (List.mem_filter.mpr ⟨by have := sm_as_in g L 0 k w hk; rwa [Nat.zero_add] at this, ?_⟩))
        by_cases h1 : k + 1 = i
        · have h2 := sm_nl_ok hc.2 hk h1
          rw [← sm_up_cat hf w] at h2
          simp [hki, hk1, h2]
        · simp [hki, hk1, h1]
  · cases hs
theorem sm_st2_lt {nL i : Nat} {L L' : sm_L} {v : Value} (hs : sm_st2 nL L i v = some L') : i + 1 < nL := by
  unfold sm_st2 at hs
  split at hs
  · rename_i hc; exact hc.1
  · cases hs
section SM1
variable {p : Program} {l : Launch} {e : Env} {R : Room} {s : State} {m : MethodId} {args : Array Value} {below : List Frame} {meth : Method} {c : Code} {H : Heap} {locs : List Loc} {cells slots : Nat} {Q : State → Prop}
variable {cc : ByteArray} {pc : Nat} {ls : Array Slot} {g : sm_G}
theorem sm_pure_ok (hx : p.tables.exec = Jvm.exec) (hb : c.code = cc) (hf : sm_fv g) {i : Instr} {st st' : List Value} (h : sm_pure i st = some st') (hd : decode cc pc = .ok (i, 1))
    (k : W p l e R s m args below meth c H locs cells slots Q (F0 m (pc + 1) ls (st'.map (sm_up g)))) : W p l e R s m args below meth c H locs cells slots Q (F0 m pc ls (st.map (sm_up g))) := by
  unfold sm_pure at h
  split at h
  · split at h
    · cases h
      exact lv_iadd hx hb hd k
    · cases h
  · split at h
    · cases h
      exact lv_isub hx hb hd k
    · cases h
  · split at h
    · cases h
      exact lv_imul hx hb hd k
    · cases h
  · split at h
    · cases h
      exact lv_iand hx hb hd k
    · cases h
  · split at h
    · cases h
      exact lv_ior hx hb hd k
    · cases h
  · split at h
    · cases h
      exact lv_ixor hx hb hd k
    · cases h
  · split at h
    · cases h
      exact lv_ishl hx hb hd k
    · cases h
  · split at h
    · cases h
      exact lv_ishr hx hb hd k
    · cases h
  · split at h
    · cases h
      exact lv_iushr hx hb hd rfl k
    · cases h
  · split at h
    · split at h
      · cases h
      · rename_i hc
        cases h
        exact lv_idiv hx hb hd hc k
    · cases h
  · split at h
    · split at h
      · cases h
      · rename_i hc
        cases h
        exact lv_irem hx hb hd hc k
    · cases h
  · split at h
    · cases h
      exact lv_ladd hx hb hd k
    · cases h
  · split at h
    · cases h
      exact lv_lsub hx hb hd k
    · cases h
  · split at h
    · cases h
      exact lv_lmul hx hb hd k
    · cases h
  · split at h
    · cases h
      exact lv_land hx hb hd k
    · cases h
  · split at h
    · cases h
      exact lv_lor hx hb hd k
    · cases h
  · split at h
    · cases h
      exact lv_lxor hx hb hd k
    · cases h
  · split at h
    · split at h
      · cases h
      · rename_i hc
        cases h
        exact lv_lrem hx hb hd hc k
    · cases h
  · split at h
    · cases h
      exact lv_lshl hx hb hd rfl k
    · cases h
  · split at h
    · cases h
      exact lv_lushr hx hb hd rfl k
    · cases h
  · split at h
    · cases h
      exact W.lcmp hx hb hd k
    · cases h
  · split at h
    · cases h
      exact lv_i2l hx hb hd rfl k
    · cases h
  · split at h
    · cases h
      exact lv_l2i hx hb hd rfl k
    · cases h
  · split at h
    · cases h
      exact lv_i2c hx hb hd rfl k
    · cases h
  · split at h
    · split at h
      · rename_i hc
        cases h
        exact lv_dup hx hb hd (by rw [sm_up_cat hf]; exact hc) k
      · cases h
    · cases h
  · split at h
    · split at h
      · rename_i hc
        cases h
        exact lv_dup2_11 hx hb hd (by rw [sm_up_cat hf]; exact hc.1) (by rw [sm_up_cat hf]; exact hc.2) k
      · cases h
    · cases h
  · split at h
    · split at h
      · rename_i hc
        cases h
        exact lv_pop hx hb hd (by rw [sm_up_cat hf]; exact hc) k
      · cases h
    · cases h
  · cases h
theorem sm_jump_ok (hx : p.tables.exec = Jvm.exec) (hb : c.code = cc) {en : sm_I} {n : Nat} {L : sm_L} {st : List Value} {wd : sm_W} {q : Nat × sm_L × List Value × sm_W} (h : sm_jump en pc L st wd = some q) (hd : decode cc pc = .ok (en.1, n)) (hn : sm_sw en.1 = false → n = sm_len en.1)
    (k : W p l e R s m args below meth c H locs cells slots Q (F0 m q.1 ls (q.2.2.1.map (sm_up g)))) : q.2.1 = L ∧ q.2.2.2 = wd ∧ W p l e R s m args below meth c H locs cells slots Q (F0 m pc ls (st.map (sm_up g))) := by
  obtain ⟨i, a, b, d⟩ := en
  unfold sm_jump at h
  dsimp only at h hd hn
  split at h
  · rename_i off _
    have hn := hn rfl
    subst hn
    split at h
    · rename_i ht
      cases h
      exact ⟨rfl, rfl, lv_goto hx hb hd ht k⟩
    · cases h
  · rename_i cn off
    have hn := hn rfl
    subst hn
    split at h
    · split at h
      · rename_i x r ht
        cases h
        refine ⟨rfl, rfl, ?_⟩
        cases cn
        · exact lv_if_eq hx hb hd ht (fun h1 => by simpa [sm_cnd, h1] using k) (fun h1 => by simpa [sm_cnd, h1] using k)
        · exact lv_if_ne hx hb hd ht (fun h1 => by simpa [sm_cnd, h1] using k) (fun h1 => by simpa [sm_cnd, h1] using k)
        · exact lv_if_lt hx hb hd ht (fun h1 => by simpa [sm_cnd, h1] using k) (fun h1 => by simpa [sm_cnd, h1] using k)
        · exact lv_if_ge hx hb hd ht (fun h1 => by simpa [sm_cnd, h1] using k) (fun h1 => by simpa [sm_cnd, h1] using k)
        · exact lv_if_gt hx hb hd ht (fun h1 => by simpa [sm_cnd, h1] using k) (fun h1 => by simpa [sm_cnd, h1] using k)
        · exact lv_if_le hx hb hd ht (fun h1 => by simpa [sm_cnd, h1] using k) (fun h1 => by simpa [sm_cnd, h1] using k)
      · cases h
    · cases h
  · rename_i cn off
    have hn := hn rfl
    subst hn
    split at h
    · split at h
      · rename_i y x r ht
        cases h
        refine ⟨rfl, rfl, ?_⟩
        cases cn
        · exact lv_icmp_eq hx hb hd ht (fun h1 => by simpa [sm_cnd, h1] using k) (fun h1 => by simpa [sm_cnd, h1] using k)
        · exact lv_icmp_ne hx hb hd ht (fun h1 => by simpa [sm_cnd, h1] using k) (fun h1 => by simpa [sm_cnd, h1] using k)
        · exact lv_icmp_lt hx hb hd ht (fun h1 => by simpa [sm_cnd, h1] using k) (fun h1 => by simpa [sm_cnd, h1] using k)
        · exact lv_icmp_ge hx hb hd ht (fun h1 => by simpa [sm_cnd, h1] using k) (fun h1 => by simpa [sm_cnd, h1] using k)
        · exact lv_icmp_gt hx hb hd ht (fun h1 => by simpa [sm_cnd, h1] using k) (fun h1 => by simpa [sm_cnd, h1] using k)
        · exact lv_icmp_le hx hb hd ht (fun h1 => by simpa [sm_cnd, h1] using k) (fun h1 => by simpa [sm_cnd, h1] using k)
      · cases h
    · cases h
  · split at h
    · split at h
      · rename_i hout
        split at h
        · rename_i hp
          cases h
          exact ⟨rfl, rfl, lv_tableOut hx hb hd hout (Int.toNat_of_nonneg hp).symm k⟩
        · cases h
      · rename_i hin
        split at h
        · rename_i off ho
          split at h
          · rename_i hp
            cases h
            exact ⟨rfl, rfl, lv_tableIn hx hb hd (fun z => hin (Or.inl z)) (fun z => hin (Or.inr z)) ho (Int.toNat_of_nonneg hp).symm k⟩
          · cases h
        · cases h
    · cases h
  · split at h
    · split at h
      · rename_i hp
        cases h
        exact ⟨rfl, rfl, lv_lookup hx hb hd hp.1 rfl (Int.toNat_of_nonneg hp.2).symm k⟩
      · cases h
    · cases h
  · cases h
end SM1
end
section
/-! locals, constants and cells: each step of the small machine is one of the real one -/
/-- a text's constant, by ldc_w: as the kit's row for ldc -/
theorem sm_ldcwT {p : Program} {l : Launch} {e : Env} {R : Room} {s : State} {m : MethodId} {args : Array Value} {below : List Frame} {meth : Method} {c : Code} {locs : List Loc} {cells slots : Nat} {T : State} (X : Stand p l e R s m args below meth c T locs cells slots) (hexec : p.tables.exec = Jvm.exec) {own text : String} {index q : Nat} (hown : s.vm.findClass own = some m.cls) (hconst : (Cond.stringRef own index text).before args s = true) (hev : (Term.string own index).eval args s none [] s = some (.ref q)) {g : JFrame} (hg : g.method = m) (hdg : decode c.code g.pc = .ok (.ldc_w index, 3)) :
    ∀ target, Steps p.tables e below (T.setTop { g with pc := g.pc + 3, stack := .ref q :: g.stack }) target → Steps p.tables e below (T.setTop g) target := by
  obtain ⟨k, cf, i, a', hk, hcf, hcp, -, hr, hev'⟩ := Cond.stringRef_spec hown hconst
  cases hev.symm.trans hev'
  obtain ⟨k', hk', he⟩ := X.warmed.alike.2.2 _ _ hk
  have hr' : k'.resolved[index]? = some (some (.string q)) := by
    rcases X.warmed.entry hk hk' index with h | ⟨h, -⟩
    · rw [h]; exact hr
    · rw [hr] at h; cases h
  intro target hrest
  subst hg
  jvm_step X.here [hexec, hdg, ldc_w.wp_string (e := e) (s := T) (f := g) X.here.top hk' (by rw [he]; exact hcf) hcp hr']
  exact hrest
theorem sm_ldcwS {p : Program} {l : Launch} {e : Env} {R : Room} {s : State} {m : MethodId} {args : Array Value} {below : List Frame} {meth : Method} {c : Code} {H : Heap} {locs : List Loc} {cells slots : Nat} {Q : State → Prop} {cc : ByteArray} {pc : Nat} {ls : Array Slot} {rest : List Value} (hexec : p.tables.exec = Jvm.exec) (hb : c.code = cc) {own tx : String} {index q : Nat} (hown : s.vm.findClass own = some m.cls) (hZ : vk_R own index tx q s) (hdg : decode cc pc = .ok (.ldc_w index, 3))
    (k : W p l e R s m args below meth c H locs cells slots Q (F0 m (pc + 3) ls (.ref q :: rest))) : W p l e R s m args below meth c H locs cells slots Q (F0 m pc ls rest) := by
  intro T hT X
  obtain ⟨t, a1, b1⟩ := k T hT X
  exact ⟨t, sm_ldcwT X hexec hown (text := tx) (q := q) hZ.1 hZ.2 (g := F0 m pc ls rest) rfl (by rw [hb]; exact hdg) t a1, b1⟩
def sm_tx : String := "i0,1,0,2;i0,3,0,1;i1,1,0,0;i2,0,1,3;i2,2,5,1;i2,0,4,0;i3,3,0,4;i0,0,0,2;b2;b3;d4;m6;h5;s3;"
/-- what lies in the heap for good: the text, the statics, the script -/
def sm_Fx (g : sm_G) (xs : List Int32) (U : State) (H : Heap) : Prop :=
  va_O "java/lang/String" g.2.1 (sm_A g) U H ∧ va_OF "java/lang/String" "coder" "B" (.int 0) g.2.1 (sm_A g) U H ∧ va_OF "java/lang/String" "value" "[B" (.ref g.2.2.1) g.2.1 (sm_A g) U H ∧
  va_T .byte g.2.2.1 sm_text.length (fun j => .int (sm_text.getD j 0)) (sm_A g) U H ∧ va_Z "java/lang/String" "COMPACT_STRINGS" "Z" (.int 1) (sm_A g) U H ∧
  va_Z "jdk/internal/util/Preconditions" "SIOOBE_FORMATTER" "Ljava/util/function/BiFunction;" g.2.2.2.1 (sm_A g) U H ∧ vk_R "LeavingVote" 258 sm_tx g.2.1 U ∧
  va_Nw (.methodLinkNest "LeavingVote$Night" 71 ⟨"LeavingVote", "lowest", "(II)I"⟩ "LeavingVote") U ∧ va_Nw (.methodLinkNest "LeavingVote$Standing" 19 ⟨"LeavingVote", "oneIf", "(Z)I"⟩ "LeavingVote") U ∧
  va_X g.2.2.2.2.1 xs.length (fun j => xs.getD j 0) U H ∧ g.2.2.2.2.1 < H.size ∧ g.2.2.2.2.1 < g.1 ∧ sm_fv g
theorem sm_Fx.mv {g : sm_G} {xs : List Int32} {s U : State} {H : Heap} (h : sm_Fx g xs s s.heap) (hW : s.WarmedH U.vm) (hz : s.heap.size ≤ H.size) (hk : ∀ q : Nat, q < s.heap.size → ¬ sm_A g q → H[q]? = s.heap[q]?) : sm_Fx g xs U H := by
  obtain ⟨h1, h2, h3, h4, h5, h6, h7, h8, h9, h10, h11, h12, h13⟩ := h
  have hv := hW.alike
  exact ⟨va_O.moved hv (h1.kept hk), va_OF.moved hv (h2.kept hk), va_OF.moved hv (h3.kept hk), va_T.moved hv (h4.kept hk), va_Z.moved hv (h5.kept hk), va_Z.moved hv (h6.kept hk), vk_R.warm hW h7, va_Nw.warmM hW h8, va_Nw.warmM hW h9, va_X.moved hv (h10.kept (hk _ h11 (Nat.not_le.mpr h12))), Nat.lt_of_lt_of_le h11 hz, h12, h13⟩
theorem sm_Fx.calling {g : sm_G} {xs : List Int32} {U : State} {jf : JFrame} {mk : MethodId} {a : Array Value} (h : sm_Fx g xs U U.heap) : sm_Fx g xs (U.calling jf mk a) (U.calling jf mk a).heap := by
  obtain ⟨h1, h2, h3, h4, h5, h6, h7, h8, h9, h10, h11, h12, h13⟩ := h
  have hv : U.vm.Alike (U.calling jf mk a).vm := Vm.Alike.refl U.vm
  exact ⟨va_O.moved hv h1, va_OF.moved hv h2, va_OF.moved hv h3, va_T.moved hv h4, va_Z.moved hv h5, va_Z.moved hv h6, vk_R.same (u := U) rfl h7, va_Nw.same (u := U) rfl rfl h8, va_Nw.same (u := U) rfl rfl h9, va_X.moved hv h10, h11, h12, h13⟩
/-- what holds while a method of the tables runs -/
def sm_C (g : sm_G) (D : va_G) (xs : List Int32) (p : Program) (d j : Nat) (R : Room) (s : State) (m : MethodId) (args : Array Value) (meth : Method) (c : Code) : Prop :=
  p.tables.exec = Jvm.exec ∧ c.code = sm_b j ∧ c.maxLocals = sm_ml j ∧ s.vm.findClass (sm_y j).cls = some m.cls ∧ (∀ w ∈ lw_tblG, w.before args s = true) ∧ va_K D sm_cl (sm_tys g) s ∧ sm_Fx g xs s s.heap ∧ g.1 ≤ s.heap.size ∧ d ≤ R.frames ∧ 43 * d ≤ R.locals ∧ ((sm_y j).name = "<init>" → meth.name = "<init>")
def sm_Ok (j pc : Nat) (en : sm_I) : Prop := sm_okR j en = true ∧ ∃ n, decode (sm_b j) pc = .ok (en.1, n) ∧ (sm_sw en.1 = false → n = sm_len en.1)
theorem sm_ic_ok {j pc : Nat} {en : sm_I} (hj : j < sm_N + 1) (h : sm_ic j pc = some en) : sm_Ok j pc en := by
  have h1 := sm_okC_all hj
  have h2 : pc < (sm_cs.getD j []).length := by
    unfold sm_ic at h
    split at h
    · rename_i e he
      exact (List.getElem?_eq_some_iff.mp he).1
    · cases h
  have h3 := List.all_eq_true.mp h1 pc (List.mem_range.mpr h2)
  unfold sm_okP at h3
  rw [h] at h3
  simp only [sm_okE, Bool.and_eq_true] at h3
  refine ⟨h3.2, ?_⟩
  have h4 := h3.1
  split at h4
  · rename_i i n hd
    simp only [Bool.and_eq_true, decide_eq_true_eq, Bool.or_eq_true, beq_iff_eq] at h4
    obtain ⟨h5, h6⟩ := h4
    subst h5
    exact ⟨n, hd, fun z => by rw [z] at h6; simpa using h6⟩
  · cases h4
def sm_sz1 (e : sm_E) : Nat := match e with
  | .inl (_, l) => l.length
  | .inr (.inl l) => l.length
  | .inr (.inr (_, fs)) => fs.length
def sm_sz (wd : sm_W) : Nat := (wd.map sm_sz1).sum
theorem sm_sz_set : ∀ {wd : sm_W} {k : Nat} {e0 e : sm_E}, wd[k]? = some e0 → sm_sz1 e = sm_sz1 e0 → sm_sz (wd.set k e) = sm_sz wd
  | [], k, e0, e, h, _ => by simp at h
  | a :: r, 0, e0, e, h, h1 => by
    have h : a = e0 := by simpa using h
    subst h
    simp [sm_sz, h1]
  | a :: r, k + 1, e0, e, h, h1 => by
    have := sm_sz_set (wd := r) (k := k) (e0 := e0) (e := e) h h1
    simp only [sm_sz, List.set_cons_succ, List.map_cons, List.sum_cons] at this ⊢
    omega
theorem sm_sz_app (wd : sm_W) (e : sm_E) : sm_sz (wd ++ [e]) = sm_sz wd + sm_sz1 e := by simp [sm_sz]
theorem sm_cl_at {ci : Nat} (h : ci < 8) : sm_cl[ci]? = some (sm_cn ci, sm_T ci, sm_nf ci) := by
  rcases (by omega : ci = 0 ∨ ci = 1 ∨ ci = 2 ∨ ci = 3 ∨ ci = 4 ∨ ci = 5 ∨ ci = 6 ∨ ci = 7) with rfl | rfl | rfl | rfl | rfl | rfl | rfl | rfl <;> rfl
theorem sm_okI_at {ci : Nat} (h : ci < 8) : Cond.instantiable (sm_cn ci) (sm_nf ci) ∈ lw_tblG ∧ Cond.initialized (sm_cn ci) ∈ lw_tblG ∧ (∀ w ∈ u_ws (sm_cn ci) (sm_T ci) (sm_nf ci), w ∈ lw_tblG) ∧ (∀ k, k < sm_nf ci → parseFieldDescriptor (sm_T ci k).2.2.1 = some (sm_ty ci k)) ∧ (∀ a, a < sm_nf ci → ∀ b, b < sm_nf ci → a ≠ b → (sm_T ci a).2.1 ≠ (sm_T ci b).2.1) := by
  have h1 := List.all_eq_true.mp sm_okI_all ci (List.mem_range.mpr h)
  simp only [sm_okI, Bool.and_eq_true] at h1
  obtain ⟨⟨h2, h3⟩, h4⟩ := h1
  have h5 : ∀ k, k < sm_nf ci → sm_okL ci k = true := fun k hk => List.all_eq_true.mp h4 k (List.mem_range.mpr hk)
  refine ⟨lw_inG (sm_at_in h2) rfl, lw_inG (sm_at_in h3) rfl, fun w hw => ?_, fun k hk => ?_, fun a ha b hb hab => ?_⟩
  · obtain ⟨k, hk, rfl⟩ := List.mem_map.mp hw
    have h6 := h5 k (List.mem_range.mp hk)
    simp only [sm_okL, Bool.and_eq_true] at h6
    exact lw_inG (sm_at_in h6.1.1) (by unfold u_lay; split <;> rfl)
  · have h6 := h5 k hk
    simp only [sm_okL, Bool.and_eq_true, decide_eq_true_eq] at h6
    exact h6.1.2
  · have h6 := h5 a ha
    simp only [sm_okL, Bool.and_eq_true] at h6
    have h7 := List.all_eq_true.mp h6.2 b (List.mem_range.mpr hb)
    simp only [Bool.or_eq_true, decide_eq_true_eq] at h7
    exact h7.resolve_left hab
theorem sm_RW.set {g : sm_G} {D : va_G} {wd : sm_W} {H H1 : Heap} {k : Nat} {e0 e : sm_E} (h : sm_RW g D wd H) (hk : wd[k]? = some e0) (he : va_at D sm_cl (g.1 + k, sm_rE g e) H1) (hz : H1.size = H.size) (oq : ∀ q : Nat, q ≠ g.1 + k → H1[q]? = H[q]?) : sm_RW g D (wd.set k e) H1 := by
  refine ⟨by rw [hz, List.length_set]; exact h.1, by rw [List.length_set]; exact h.2.1, ?_⟩
  rw [sm_rW_set]
  exact h.2.2.set (sm_rW_D g wd) (sm_rW_get hk) he oq
theorem sm_RW.app {g : sm_G} {D : va_G} {wd : sm_W} {H H1 : Heap} {e : sm_E} (h : sm_RW g D wd H) (hl : wd.length < 1000000) (he : va_at D sm_cl (g.1 + wd.length, sm_rE g e) H1) (hz : H1.size = H.size + 1) (oq : ∀ q : Nat, q < H.size → H1[q]? = H[q]?) : sm_RW g D (wd ++ [e]) H1 := by
  refine ⟨by rw [hz, h.1, List.length_append]; rfl, by rw [List.length_append]; exact hl, ?_⟩
  rw [sm_rW_app]
  refine (h.2.2.kept fun k x hx => oq x.1 ((h.2.2 k x hx).lt)).app (fun k x hx => ?_)
  have hz : k < 1 := (List.getElem?_eq_some_iff.mp hx).1
  rw [show k = 0 by omega] at hx
  cases hx
  exact he
theorem sm_RW.lo {g : sm_G} {D : va_G} {wd : sm_W} {H : Heap} {k : Nat} {e : sm_E} (h : sm_RW g D wd H) (hk : wd[k]? = some e) : k < 1000000 := Nat.lt_of_lt_of_le (List.getElem?_eq_some_iff.mp hk).1 h.2.1
theorem sm_ix_ok {l : List Int32} {i x : Int32} (h : sm_ix l i = some x) : vp_in i l.length ∧ l.getD i.toNatClampNeg 0 = x := by
  unfold sm_ix at h
  split at h
  · cases h
  · rename_i hi
    obtain ⟨h1, h2⟩ := List.getElem?_eq_some_iff.mp h
    exact ⟨fun q => q.elim hi (fun q => absurd h1 (Nat.not_lt.mpr q)), by rw [List.getD_eq_getElem?_getD, h]; rfl⟩
theorem sm_ixl_ok {l : List Int64} {i : Int32} {x : Int64} (h : sm_ix l i = some x) : vp_in i l.length ∧ l.getD i.toNatClampNeg 0 = x := by
  unfold sm_ix at h
  split at h
  · cases h
  · rename_i hi
    obtain ⟨h1, h2⟩ := List.getElem?_eq_some_iff.mp h
    exact ⟨fun q => q.elim hi (fun q => absurd h1 (Nat.not_lt.mpr q)), by rw [List.getD_eq_getElem?_getD, h]; rfl⟩
theorem sm_getD_set {α : Type} {l : List α} {k : Nat} {x z : α} (h : k < l.length) (j : Nat) : (l.set k x).getD j z = if j = k then x else l.getD j z := by
  by_cases hj : j = k
  · subst hj
    rw [if_pos rfl, List.getD_eq_getElem?_getD, List.getElem?_set_self h]; rfl
  · rw [if_neg hj, List.getD_eq_getElem?_getD, List.getElem?_set_ne (Ne.symm hj), ← List.getD_eq_getElem?_getD]
theorem sm_up_fit {g : sm_G} (hf : sm_fv g) {ty : FieldType} {v : Value} (h1 : narrow ty v = v) (h2 : fits ty v = true) : narrow ty (sm_up g v) = sm_up g v ∧ fits ty (sm_up g v) = true := by
  cases v with
  | ref k =>
    have h3 : sm_up g (.ref k) = .null ∨ ∃ a, sm_up g (.ref k) = .ref a := by
      by_cases hk : k = 1000003
      · subst hk
        exact hf
      · exact Or.inr (sm_up_ref hk)
    rcases h3 with h3 | ⟨a, h3⟩ <;> rw [h3] <;> cases ty <;> first | exact ⟨rfl, rfl⟩ | (cases h2; done)
  | _ => exact ⟨h1, h2⟩
section SM2
variable {p : Program} {l : Launch} {e : Env} {R : Room} {s : State} {m : MethodId} {args : Array Value} {below : List Frame} {meth : Method} {c : Code} {H : Heap} {locs : List Loc} {cells slots : Nat} {Q : State → Prop}
variable {pc : Nat} {ls : Array Slot} {g : sm_G} {D : va_G} {xs : List Int32} {d j : Nat}
theorem sm_loc_ok (C : sm_C g D xs p d j R s m args meth c) {en : sm_I} {L : sm_L} {st : List Value} {wd : sm_W} {q : Nat × sm_L × List Value × sm_W} (h : sm_loc (sm_ml j) en pc L st wd = some q) (hE : sm_Ok j pc en) (hl : sm_lv g ls (sm_ml j) L)
    (k : ∀ ls', sm_lv g ls' (sm_ml j) q.2.1 → W p l e R s m args below meth c H locs cells slots Q (F0 m q.1 ls' (q.2.2.1.map (sm_up g)))) : q.2.2.2 = wd ∧ W p l e R s m args below meth c H locs cells slots Q (F0 m pc ls (st.map (sm_up g))) := by
  obtain ⟨hx, hb, hml, hown, hts, hK, hFx, -, -, -, -⟩ := C
  have hf : sm_fv g := hFx.2.2.2.2.2.2.2.2.2.2.2.2
  obtain ⟨i, ea, eb, ec⟩ := en
  obtain ⟨hR, n, hd, hn⟩ := hE
  unfold sm_loc at h
  dsimp only at h hd hn hR
  split at h <;> (try (have hn := hn rfl; subst hn))
  · cases h
    exact ⟨rfl, lv_iconst hx hb hd rfl (k ls hl)⟩
  · cases h
    exact ⟨rfl, lv_bipush hx hb hd rfl (k ls hl)⟩
  · cases h
    exact ⟨rfl, lv_sipush hx hb hd rfl (k ls hl)⟩
  · cases h
    exact ⟨rfl, lv_lconst hx hb hd rfl (k ls hl)⟩
  · cases h
    simp only [sm_okR, Bool.and_eq_true, decide_eq_true_eq] at hR
    obtain ⟨h1, h2⟩ := hR
    subst h2
    rw [h1] at hown
    exact ⟨rfl, va_ldcS hx hb hown hFx.2.2.2.2.2.2.1 hd (k ls hl)⟩
  · cases h
    simp only [sm_okR] at hR
    by_cases h0 : ec = 0
    · rw [if_pos h0] at hR
      rw [if_pos h0] at k
      simp only [Bool.and_eq_true, decide_eq_true_eq] at hR
      obtain ⟨h1, h2⟩ := hR
      subst h2
      rw [h1] at hown
      exact ⟨rfl, sm_ldcwS hx hb hown hFx.2.2.2.2.2.2.1 hd (k ls hl)⟩
    · rw [if_neg h0] at hR
      rw [if_neg h0] at k
      exact ⟨rfl, lv_ldcw hx hb hown (hts _ (lw_inG (sm_at_in hR) rfl)) hd (k ls hl)⟩
  · cases h
    exact ⟨rfl, lv_ldc2 hx hb hown (hts _ (lw_inG (sm_at_in hR) rfl)) hd (k ls hl)⟩
  · split at h
    · rename_i hq
      cases h
      exact ⟨rfl, lv_iload hx hb hd (hl.2.2.2 _ _ hq) (k ls hl)⟩
    · cases h
  · split at h
    · rename_i hq
      cases h
      exact ⟨rfl, lv_iload_n hx hb hd rfl (hl.2.2.2 _ _ hq) (k ls hl)⟩
    · cases h
  · split at h
    · rename_i hq
      cases h
      exact ⟨rfl, lv_lload hx hb hd (hl.2.2.2 _ _ hq) (k ls hl)⟩
    · cases h
  · split at h
    · rename_i hq
      cases h
      exact ⟨rfl, lv_lload_n hx hb hd rfl (hl.2.2.2 _ _ hq) (k ls hl)⟩
    · cases h
  · split at h
    · split at h
      · cases h
      · rename_i hq h3
        cases h
        obtain ⟨a, ha⟩ := sm_up_ref (g := g) h3
        have h4 := hl.2.2.2 _ _ hq
        rw [ha] at h4
        refine ⟨rfl, lv_aload hx hb hd h4 ?_⟩
        rw [← ha]
        exact k ls hl
    · cases h
  · split at h
    · split at h
      · cases h
      · rename_i hq h3
        cases h
        obtain ⟨a, ha⟩ := sm_up_ref (g := g) h3
        have h4 := hl.2.2.2 _ _ hq
        rw [ha] at h4
        refine ⟨rfl, lv_aload_n hx hb hd rfl h4 ?_⟩
        rw [← ha]
        exact k ls hl
    · cases h
  · split at h
    · obtain ⟨L', h1, h2⟩ := Option.map_eq_some_iff.mp h
      subst h2
      exact ⟨rfl, lv_istore hx hb hd hl.has (sm_st1_lt h1) rfl (fun ls' h' => k ls' (sm_st1_ok hf hl h1 rfl h'))⟩
    · cases h
  · split at h
    · obtain ⟨L', h1, h2⟩ := Option.map_eq_some_iff.mp h
      subst h2
      exact ⟨rfl, lv_istore_n hx hb hd rfl hl.has (sm_st1_lt h1) rfl (fun ls' h' => k ls' (sm_st1_ok hf hl h1 rfl h'))⟩
    · cases h
  · split at h
    · obtain ⟨L', h1, h2⟩ := Option.map_eq_some_iff.mp h
      subst h2
      exact ⟨rfl, lv_lstore hx hb hd hl.has (sm_st2_lt h1) rfl (fun ls' h' => k ls' (sm_st2_ok hf hl h1 rfl h'))⟩
    · cases h
  · split at h
    · obtain ⟨L', h1, h2⟩ := Option.map_eq_some_iff.mp h
      subst h2
      exact ⟨rfl, lv_lstore_n hx hb hd rfl hl.has (sm_st2_lt h1) rfl (fun ls' h' => k ls' (sm_st2_ok hf hl h1 rfl h'))⟩
    · cases h
  · split at h
    · split at h
      · cases h
      · rename_i h3
        obtain ⟨L', h1, h2⟩ := Option.map_eq_some_iff.mp h
        subst h2
        obtain ⟨a, ha⟩ := sm_up_ref (g := g) h3
        refine ⟨rfl, ?_⟩
        rw [List.map_cons, ha]
        exact lv_astore_n hx hb hd rfl hl.has (sm_st1_lt h1) rfl (fun ls' h' => k ls' (sm_st1_ok hf hl h1 (by rw [ha]) h'))
    · cases h
  · split at h
    · rename_i hq
      obtain ⟨L', h1, h2⟩ := Option.map_eq_some_iff.mp h
      subst h2
      have h4 := sm_as_in g L 0 _ _ hq
      rw [Nat.zero_add] at h4
      obtain ⟨t, ht⟩ := List.getElem?_of_mem h4
      exact ⟨rfl, lv_iinc hx hb hd hl.has ht rfl (sm_st1_lt h1) rfl (fun ls' h' => k ls' (sm_st1_ok hf hl h1 rfl h'))⟩
    · cases h
  · cases h
end SM2
end
section
/-! fields, arrays, making -/
theorem sm_cb (t : ArrayType) : componentBytes (newarray.typeOf t) ≤ 8 := by cases t <;> decide
section SM3
variable {p : Program} {l : Launch} {e : Env} {R : Room} {s : State} {m : MethodId} {args : Array Value} {below : List Frame} {meth : Method} {c : Code} {H : Heap} {locs : List Loc} {cells slots : Nat} {Q : State → Prop}
variable {pc : Nat} {ls : Array Slot} {g : sm_G} {D : va_G} {xs : List Int32} {d j : Nat}
/-- a new array: it lies at the heap's end, its class is the table's -/
theorem sm_newa {cc : ByteArray} {rest : List Value} {wd : sm_W} (hx : p.tables.exec = Jvm.exec) (hb : c.code = cc) (hK : va_K D sm_cl (sm_tys g) s) {atype : ArrayType} (harr : (Cond.arrayClass (newarray.typeOf atype)).before args s = true) {ix : Nat} {cI : ClassId} (hix : (sm_tys g)[ix]? = some (cI, newarray.typeOf atype)) (hRA : va_RA s cI (newarray.typeOf atype) = (s.vm.findClass ("[" ++ (newarray.typeOf atype).toString) = some cI))
    (hRW : sm_RW g D wd H) (hS : va_S (sm_A g) s.heap H locs) (hl3 : wd.length < 1000000) {n : Int32} {N : Nat} (hn : ¬ n < 0) (hN : n.toNatClampNeg = N) (hbytes : N * componentBytes (newarray.typeOf atype) ≤ 536870912) (hcells : cells + 1 ≤ R.cells) (hslots : slots + N ≤ R.slots) (hdg : decode cc pc = .ok (.newarray atype, 2))
    {en : sm_E} {a0 : vp_A} (hen : sm_rE g en = .inl (cI, a0)) (ha : ∀ cA : ClassId, vp_cell cA a0 = arrV cA N (fun _ => defaultValue (newarray.typeOf atype)))
    (kk : ∀ H1 : Heap, sm_RW g D (wd ++ [en]) H1 → va_S (sm_A g) s.heap H1 locs → W p l e R s m args below meth c H1 locs (cells + 1) (slots + N) Q (F0 m (pc + 2) ls (.ref (g.1 + wd.length) :: rest))) : W p l e R s m args below meth c H locs cells slots Q (F0 m pc ls (.int n :: rest)) := by
  refine va_newaK hx hb harr rfl hdg rfl hn hN hbytes hcells hslots hRW.1 fun H1 cA e1 z1 o1 hAr hNm => ?_
  have h1 := (hK.2 ix _ hix).2
  rw [hRA] at h1
  have h2 : cA = cI := Option.some.inj (hNm.symm.trans h1)
  subst h2
  refine kk H1 (hRW.app hl3 ?_ (by rw [hRW.1]; exact z1) (fun q hq => o1 q (by rw [← hRW.1]; exact hq))) ⟨Nat.le_trans hS.1 (by rw [hRW.1]; omega), fun x h1 h2 => (o1 x (by rw [← hRW.1]; exact Nat.lt_of_lt_of_le h1 hS.1)).trans (hS.2.1 x h1 h2), hS.2.2⟩
  rw [hen]
  show H1[g.1 + wd.length]? = some (vp_cell _ _)
  rw [ha]
  exact e1
theorem sm_mem_ok (C : sm_C g D xs p d j R s m args meth c) {en : sm_I} {L : sm_L} {st : List Value} {wd : sm_W} {q : Nat × sm_L × List Value × sm_W} (h : sm_mem xs d en pc L st wd = some q) (hE : sm_Ok j pc en) (hl : sm_lv g ls (sm_ml j) L) (hRW : sm_RW g D wd H) (hS : va_S (sm_A g) s.heap H locs)
    (hcs : cells + q.2.2.2.length ≤ R.cells + wd.length) (hss : slots + sm_sz q.2.2.2 ≤ R.slots + sm_sz wd)
    (k : ∀ (H1 : Heap) (locs1 : List Loc) (c1 n1 : Nat), c1 + wd.length = cells + q.2.2.2.length → n1 + sm_sz wd = slots + sm_sz q.2.2.2 → sm_RW g D q.2.2.2 H1 → va_S (sm_A g) s.heap H1 locs1 → W p l e R s m args below meth c H1 locs1 c1 n1 Q (F0 m q.1 ls (q.2.2.1.map (sm_up g)))) : q.2.1 = L ∧ W p l e R s m args below meth c H locs cells slots Q (F0 m pc ls (st.map (sm_up g))) := by
  obtain ⟨hx, hb, hml, hown, hts, hK, hFx, hgs, hdR, hdl, hin⟩ := C
  have hf : sm_fv g := hFx.2.2.2.2.2.2.2.2.2.2.2.2
  obtain ⟨i, ea, eb, ec⟩ := en
  obtain ⟨hR, n, hd, hn⟩ := hE
  unfold sm_mem at h
  dsimp only at h hd hn hR
  split at h <;> (try (have hn := hn rfl; subst hn))
  · -- getfield
    split at h
    · rename_i k0 r
      split at h
      · rename_i h100
        split at h
        · rename_i hk0
          subst hk0
          cases h
          simp only [sm_okR, if_pos h100] at hR
          have hlk := hts _ (lw_inG (sm_at_in hR) rfl)
          refine ⟨rfl, ?_⟩
          have k := k H locs cells slots rfl rfl hRW hS
          by_cases hb0 : eb = 0
          · simp only [if_pos hb0] at hlk k
            exact vk_getf hx hb hFx.2.1 hS hown hlk (fun _ h9 => h9) hd k
          · simp only [if_neg hb0] at hlk k
            exact vk_getf hx hb hFx.2.2.1 hS hown hlk (fun _ h9 => h9) hd k
        · cases h
      · rename_i h100
        split at h
        · rename_i ci fs hw
          split at h
          · rename_i hci
            subst hci
            split at h
            · rename_i v hv
              cases h
              simp only [sm_okR, if_neg h100, Bool.and_eq_true, decide_eq_true_eq] at hR
              obtain ⟨⟨h8, h9⟩, h10⟩ := hR
              have hI := sm_okI_at h8
              refine ⟨rfl, ?_⟩
              rw [List.map_cons, sm_up_lo (hRW.lo hw)]
              exact va_get hx hb hts hI.2.2.1 hown hK hRW.2.2 k0 (sm_rW_get hw) (sm_cl_at h8) eb h9 (hts _ (lw_inG (sm_at_in h10) rfl)) (fun _ h9 => h9) (v := sm_up g v) (by rw [List.getElem?_map, hv]; rfl) hd (k H locs cells slots rfl rfl hRW hS)
            · cases h
          · cases h
        · cases h
    · cases h
  · -- putfield
    split at h
    · rename_i v k0 r
      split at h
      · rename_i ci fs hw
        split at h
        · rename_i hc
          obtain ⟨hci, hlen, hnar, hfit⟩ := hc
          subst hci
          cases h
          simp only [sm_okR, Bool.and_eq_true, Bool.or_eq_true, decide_eq_true_eq] at hR
          obtain ⟨⟨⟨h8, h9⟩, h10⟩, hfin⟩ := hR
          have hI := sm_okI_at h8
          have hlk := hts _ (lw_inG (sm_at_in h10) rfl)
          have hnf := sm_up_fit hf hnar hfit
          have hty := hI.2.2.2.1 eb h9
          have hcl := sm_cl_at h8
          have hap := va_apart (own := (sm_y j).cls) hts hI.2.2.1 (sm_ty ci) hI.2.2.2.1 hI.2.2.2.2 hK hcl
          obtain ⟨r0, g1, cell, q1, q2, q3, q4⟩ := hRW.2.2 k0 _ (sm_rW_get hw)
          have hr0 : r0 = (sm_cn ci, sm_T ci, sm_nf ci) := Option.some.inj (g1.symm.trans hcl)
          subst hr0
          obtain ⟨hSl, hfc, kC, hkC, hkind⟩ := hK.1 ci _ hcl
          obtain ⟨cf, kf, fi, f, hi, hsl⟩ := hSl eb h9
          have hst := (u_facts hfc hkC (u_lays hts hI.2.2.1 h9) hi).1
          have hlay := hts _ (hI.2.2.1 _ (u_in_lay h9))
          refine ⟨rfl, ?_⟩
          rw [List.map_cons, List.map_cons, sm_up_lo (hRW.lo hw)]
          have hgo : ∀ (H' : Heap) (locs' : List Loc), H'[g.1 + k0]? = some (cell.setSlot (D.2 ci eb) (sm_up g v)) → H'.size = H.size → (∀ q, q ≠ g.1 + k0 → H'[q]? = H[q]?) → va_S (sm_A g) s.heap H' locs' → W p l e R s m args below meth c H' locs' cells slots Q (F0 m (pc + 3) ls (r.map (sm_up g))) := by
            intro H' locs' e1 e2 e3 hS'
            refine k H' locs' cells slots (by rw [List.length_set]) (by rw [sm_sz_set hw]; show (fs.set eb v).length = fs.length; rw [List.length_set]) (hRW.set hw ?_ e2 e3) hS'
            refine ⟨_, hcl, t_OB.to (V := updV (vp_V (fs.map (sm_up g))) eb (sm_up g v)) ⟨_, e1, q2, q3, t_set q4 hap h9 (sm_up g v)⟩ (fun t _ => ?_)⟩
            dsimp only [sm_rE]
            rw [List.map_set]
            exact vp_updV_set (by rw [List.length_map]; exact hlen) (sm_up g v) t
          cases hfb : (sm_T ci eb).2.2.2 with
          | false =>
            unfold u_lay at hlay
            rw [if_neg (by rw [hfb]; decide)] at hlay
            have h6 := u_store hfc hkC hkind hlay hi hty hnf.1 hnf.2
            refine W.putK hx hb (f := f) ⟨hown, hlk, ⟨_, _, _, hi⟩, hst⟩ (by rw [q2]; exact h6) q1 q3 (by rw [hsl]; exact k2_hasslot (q4 eb h9)) rfl rfl hd fun H' e1 e2 e3 => ?_
            rw [hsl] at e1 ⊢
            exact hgo H' _ e1 e2 e3 (hS.put e2 e3 (Nat.le_add_right _ _))
          | true =>
            rw [hfb] at hfin
            have hfin := hfin.resolve_left (by decide)
            unfold u_lay at hlay
            rw [if_pos hfb] at hlay
            have hcf : m.cls = cf := by
              obtain ⟨_, _, c', _, _, _, -, -, hf', -, -, -, hown2, -⟩ := Cond.laysFinal_spec hlay
              have e1 : c' = cf := by have := hi.symm.trans hf'; simp at this; exact this.1.symm
              have e2 : (sm_T ci eb).1 = (sm_y j).cls := hfin.2
              rw [e2] at hown2
              rw [← e1]; exact Option.some.inj (hown.symm.trans hown2)
            have h6 := u_fits hfc hkC hkind (Or.inr hlay) hi hty hnf.1 hnf.2
            refine W.putFinK hx hb hown hlk hi hst hcf (hin hfin.1) (by rw [q2]; exact h6) q1 q3 (by rw [hsl]; exact k2_hasslot (q4 eb h9)) rfl rfl hd fun H' e1 e2 e3 => ?_
            rw [hsl] at e1 ⊢
            exact hgo H' _ e1 e2 e3 (hS.put e2 e3 (Nat.le_add_right _ _))
        · cases h
      · cases h
    · cases h
  · -- getstatic
    split at h
    · rename_i h0
      cases h
      simp only [sm_okR, if_pos h0] at hR
      exact ⟨rfl, va_gets hx hb hFx.2.2.2.2.1 hS hown (hts _ (lw_inG (sm_at_in hR) rfl)) (fun _ h9 => h9) hd (k H locs cells slots rfl rfl hRW hS)⟩
    · rename_i h0
      split at h
      · rename_i h1
        cases h
        simp only [sm_okR, if_neg h0, if_pos h1] at hR
        exact ⟨rfl, va_gets hx hb hFx.2.2.2.2.2.1 hS hown (hts _ (lw_inG (sm_at_in hR) rfl)) (fun _ h9 => h9) hd (k H locs cells slots rfl rfl hRW hS)⟩
      · cases h
  · -- iaload
    split at h
    · rename_i ix k0 r
      split at h
      · rename_i hk0
        subst hk0
        split at h
        · rename_i x hi
          cases h
          obtain ⟨hv, hg⟩ := sm_ix_ok hi
          refine ⟨rfl, va_sld hx hb hFx.2.2.2.2.2.2.2.2.2.1 hFx.2.2.2.2.2.2.2.2.2.2.1 (Nat.not_le.mpr hFx.2.2.2.2.2.2.2.2.2.2.2.1) hS hv hd ?_⟩
          rw [hg]
          exact k H locs cells slots rfl rfl hRW hS
        · cases h
      · split at h
        · rename_i la hw
          split at h
          · rename_i x hi
            cases h
            obtain ⟨hv, hg⟩ := sm_ix_ok hi
            refine ⟨rfl, ?_⟩
            rw [List.map_cons, List.map_cons, sm_up_lo (hRW.lo hw)]
            refine va_iald hx hb hK hRW.2.2 k0 0 (sm_rW_get hw) rfl hv hd ?_
            rw [hg]
            exact k H locs cells slots rfl rfl hRW hS
          · cases h
        · cases h
    · cases h
  · -- caload
    split at h
    · rename_i ix k0 r
      split at h
      · rename_i la hw
        split at h
        · rename_i x hi
          cases h
          obtain ⟨hv, hg⟩ := sm_ix_ok hi
          refine ⟨rfl, ?_⟩
          rw [List.map_cons, List.map_cons, sm_up_lo (hRW.lo hw)]
          refine va_cald hx hb hK hRW.2.2 k0 1 (sm_rW_get hw) rfl hv hd ?_
          rw [hg]
          exact k H locs cells slots rfl rfl hRW hS
        · cases h
      · cases h
    · cases h
  · -- baload
    split at h
    · rename_i ix k0 r
      split at h
      · rename_i hk0
        subst hk0
        split at h
        · rename_i x hi
          cases h
          obtain ⟨hv, hg⟩ := sm_ix_ok hi
          exact ⟨rfl, va_tb hx hb hFx.2.2.2.1 hS hv (v := .int x) (by rw [hg]) hd (k H locs cells slots rfl rfl hRW hS)⟩
        · cases h
      · cases h
    · cases h
  · -- laload
    split at h
    · rename_i ix k0 r
      split at h
      · rename_i la hw
        split at h
        · rename_i x hi
          cases h
          obtain ⟨hv, hg⟩ := sm_ixl_ok hi
          refine ⟨rfl, ?_⟩
          rw [List.map_cons, List.map_cons, sm_up_lo (hRW.lo hw)]
          refine va_lald hx hb hK hRW.2.2 k0 2 (sm_rW_get hw) rfl hv hd ?_
          rw [hg]
          exact k H locs cells slots rfl rfl hRW hS
        · cases h
      · cases h
    · cases h
  · -- iastore
    split at h
    · rename_i x ix k0 r
      split at h
      · rename_i la hw
        split at h
        · cases h
        · rename_i hi
          cases h
          refine ⟨rfl, ?_⟩
          rw [List.map_cons, List.map_cons, List.map_cons, sm_up_lo (hRW.lo hw)]
          refine W.iast hx hb (hRW.2.2 k0 _ (sm_rW_get hw)) ((hK.2 0 _ rfl).1 la.length (fun t => .int (la.getD t 0))) (fun q => by cases q) (by show ¬ (ix < 0 ∨ (arrV _ _ _).slots.size ≤ _); rw [arrV_size]; exact hi) rfl rfl hd fun H1 e1 z oq => ?_
          refine k H1 _ cells slots (by rw [List.length_set]) (by rw [sm_sz_set hw]; show (la.set _ x).length = la.length; rw [List.length_set]) (hRW.set hw ?_ z oq) (hS.put z oq (Nat.le_add_right _ _))
          show H1[g.1 + k0]? = some (vp_cell _ _)
          rw [e1]
          dsimp only [sm_rE]
          rw [vp_cell_i, vp_cell_i, arrV_store, List.length_set]
          congr 2
          funext t
          rw [sm_getD_set (Nat.not_le.mp fun z => hi (Or.inr z))]
          by_cases hq : t = ix.toNatClampNeg
          · simp [updV, hq]
          · simp [updV, hq]
      · cases h
    · cases h
  · -- castore
    split at h
    · rename_i x ix k0 r
      split at h
      · rename_i la hw
        split at h
        · cases h
        · rename_i hi
          cases h
          refine ⟨rfl, ?_⟩
          rw [List.map_cons, List.map_cons, List.map_cons, sm_up_lo (hRW.lo hw)]
          refine W.cast hx hb (hRW.2.2 k0 _ (sm_rW_get hw)) ((hK.2 1 _ rfl).1 la.length (fun t => .int (la.getD t 0))) (fun q => by cases q) (by show ¬ (ix < 0 ∨ (arrV _ _ _).slots.size ≤ _); rw [arrV_size]; exact hi) rfl rfl hd fun H1 e1 z oq => ?_
          refine k H1 _ cells slots (by rw [List.length_set]) (by rw [sm_sz_set hw]; show (la.set _ _).length = la.length; rw [List.length_set]) (hRW.set hw ?_ z oq) (hS.put z oq (Nat.le_add_right _ _))
          show H1[g.1 + k0]? = some (vp_cell _ _)
          rw [e1]
          dsimp only [sm_rE]
          rw [vp_cell_i, vp_cell_i, arrV_store, List.length_set]
          congr 2
          funext t
          rw [sm_getD_set (Nat.not_le.mp fun z => hi (Or.inr z))]
          by_cases hq : t = ix.toNatClampNeg
          · simp [updV, hq, vp_nar]
            try rfl
          · simp [updV, hq]
      · cases h
    · cases h
  · -- lastore
    split at h
    · rename_i x ix k0 r
      split at h
      · rename_i la hw
        split at h
        · cases h
        · rename_i hi
          cases h
          refine ⟨rfl, ?_⟩
          rw [List.map_cons, List.map_cons, List.map_cons, sm_up_lo (hRW.lo hw)]
          refine W.last hx hb (hRW.2.2 k0 _ (sm_rW_get hw)) ((hK.2 2 _ rfl).1 la.length (fun t => .long (la.getD t 0))) (fun q => by cases q) (by show ¬ (ix < 0 ∨ (arrV _ _ _).slots.size ≤ _); rw [arrV_size]; exact hi) rfl rfl hd fun H1 e1 z oq => ?_
          refine k H1 _ cells slots (by rw [List.length_set]) (by rw [sm_sz_set hw]; show (la.set _ x).length = la.length; rw [List.length_set]) (hRW.set hw ?_ z oq) (hS.put z oq (Nat.le_add_right _ _))
          show H1[g.1 + k0]? = some (vp_cell _ _)
          rw [e1]
          dsimp only [sm_rE]
          rw [vp_cell_l, vp_cell_l, arrV_store, List.length_set]
          congr 2
          funext t
          rw [sm_getD_set (Nat.not_le.mp fun z => hi (Or.inr z))]
          by_cases hq : t = ix.toNatClampNeg
          · simp [updV, hq]
          · simp [updV, hq]
      · cases h
    · cases h
  · -- arraylength
    split at h
    · rename_i k0 r
      split at h
      · rename_i hk0
        subst hk0
        cases h
        exact ⟨rfl, va_tlen hx hb hFx.2.2.2.1 hS rfl hd (k H locs cells slots rfl rfl hRW hS)⟩
      · split at h
        · rename_i hk0
          subst hk0
          cases h
          exact ⟨rfl, va_slen hx hb hFx.2.2.2.2.2.2.2.2.2.1 hFx.2.2.2.2.2.2.2.2.2.2.1 (Nat.not_le.mpr hFx.2.2.2.2.2.2.2.2.2.2.2.1) hS hd (k H locs cells slots rfl rfl hRW hS)⟩
        · split at h
          · rename_i t la hw
            cases h
            refine ⟨rfl, ?_⟩
            rw [List.map_cons, sm_up_lo (hRW.lo hw)]
            by_cases ht : t = 0
            · exact va_alen hx hb hK hRW.2.2 k0 0 (sm_rW_get hw) (ty := .int) (by rw [if_pos ht]; rfl) rfl hd (k H locs cells slots rfl rfl hRW hS)
            · exact va_alen hx hb hK hRW.2.2 k0 1 (sm_rW_get hw) (ty := .char) (by rw [if_neg ht]; rfl) rfl hd (k H locs cells slots rfl rfl hRW hS)
          · rename_i la hw
            cases h
            refine ⟨rfl, ?_⟩
            rw [List.map_cons, sm_up_lo (hRW.lo hw)]
            exact va_alen hx hb hK hRW.2.2 k0 2 (sm_rW_get hw) (ty := .long) rfl rfl hd (k H locs cells slots rfl rfl hRW hS)
          · cases h
    · cases h
  · -- new
    split at h
    · rename_i hc
      cases h
      simp only [sm_okR, Bool.or_eq_true, Bool.and_eq_true, decide_eq_true_eq] at hR
      have hR := hR.resolve_left (by omega)
      have hI := sm_okI_at hc.1
      have hcl := sm_cl_at hc.1
      have hKn := hK.1 ea _ hcl
      have hlenF : ((List.range (sm_nf ea)).map (fun t => defaultValue (sm_ty ea t))).length = sm_nf ea := by rw [List.length_map, List.length_range]
      simp only [List.length_append, List.length_singleton] at hcs
      rw [sm_sz_app] at hss
      have hs1 : sm_sz1 (.inr (.inr (ea, (List.range (sm_nf ea)).map (fun t => defaultValue (sm_ty ea t))))) = sm_nf ea := hlenF
      rw [hs1] at hss
      refine ⟨rfl, W.newcK hx hb hown (hts _ (lw_inG (sm_at_in hR.2) rfl)) (hts _ hI.1) (hts _ hI.2.1) rfl hd (by omega) (by omega) hKn.2.1 rfl fun H1 kC hkC e1 z1 o1 => ?_⟩
      have hk := k H1 locs (cells + 1) (slots + sm_nf ea) (by rw [List.length_append]; show _ = cells + (wd.length + 1); omega) (by rw [sm_sz_app, hs1]; omega)
        (hRW.app hc.2 ⟨_, hcl, (u_born (sm_ty ea) hts hI.2.2.1 hKn hkC (by rw [← hRW.1]; exact e1) hI.2.2.2.1).to (fun t ht => ?_)⟩ z1 o1)
        ⟨Nat.le_trans hS.1 (by omega), fun x h1 h2 => (o1 x (Nat.lt_of_lt_of_le h1 hS.1)).trans (hS.2.1 x h1 h2), hS.2.2⟩
      · rw [List.map_cons, sm_up_lo hc.2, ← hRW.1] at hk
        exact hk
      · show _ = vp_V (((List.range (sm_nf ea)).map (fun t => defaultValue (sm_ty ea t))).map (sm_up g)) t
        rw [vp_V, List.getD_eq_getElem?_getD, List.getElem?_map, List.getElem?_map, List.getElem?_range ht]
        show defaultValue (sm_ty ea t) = sm_up g (defaultValue (sm_ty ea t))
        cases sm_ty ea t <;> rfl
    · cases h
  · -- newarray
    rename_i ty
    split at h
    · rename_i n r
      split at h
      · cases h
      · rename_i hc
        have hc1 : ¬ n < 0 := fun z => hc (Or.inl z)
        have hc2 : n.toNatClampNeg ≤ 100000 := Nat.not_lt.mp fun z => hc (Or.inr (Or.inl z))
        have hc3 : wd.length < 1000000 := Nat.not_le.mp fun z => hc (Or.inr (Or.inr z))
        split at h
        · rename_i h2
          cases h
          simp only [List.length_append, List.length_singleton] at hcs
          rw [sm_sz_app] at hss
          have hs1 : sm_sz1 (.inr (.inl (List.replicate n.toNatClampNeg 0))) = n.toNatClampNeg := List.length_replicate
          rw [hs1] at hss
          cases ty <;> simp only [sm_okR, Bool.and_eq_true, decide_eq_true_eq] at hR <;> first
            | (cases hR; done)
            | (exfalso; have := hR.1; omega)
            | (refine ⟨rfl, sm_newa hx hb hK (hts _ (lw_inG (sm_at_in hR.2) rfl)) (ix := 2) rfl (by rfl) hRW hS hc3 hc1 rfl (Nat.le_trans (Nat.mul_le_mul hc2 (sm_cb _)) (by decide)) (by omega) (by omega) hd (en := .inr (.inl (List.replicate n.toNatClampNeg 0))) (a0 := (n.toNatClampNeg, .inr (.inl (fun t => (List.replicate n.toNatClampNeg 0).getD t 0)))) (by show (_ : va_E) = _; simp [sm_rE]) (fun cA => by rw [vp_cell_l]; congr 1; funext t; simp [List.getD_eq_getElem?_getD, List.getElem?_replicate]; split <;> rfl) (fun H1 hR1 hS1 => ?_)⟩
               have hk := k H1 locs (cells + 1) (slots + n.toNatClampNeg) (by rw [List.length_append]; show _ = cells + (wd.length + 1); omega) (by rw [sm_sz_app, hs1]; omega) hR1 hS1
               rw [List.map_cons, sm_up_lo hc3] at hk
               exact hk)
        · rename_i h2
          cases h
          simp only [List.length_append, List.length_singleton] at hcs
          rw [sm_sz_app] at hss
          have hs1 : sm_sz1 (.inl (ea, List.replicate n.toNatClampNeg 0)) = n.toNatClampNeg := List.length_replicate
          rw [hs1] at hss
          cases ty <;> simp only [sm_okR, Bool.and_eq_true, decide_eq_true_eq] at hR <;> first
            | (cases hR; done)
            | (exfalso; have := hR.1; omega)
            | (refine ⟨rfl, sm_newa hx hb hK (hts _ (lw_inG (sm_at_in hR.2) rfl)) (ix := 0) rfl (by rfl) hRW hS hc3 hc1 rfl (Nat.le_trans (Nat.mul_le_mul hc2 (sm_cb _)) (by decide)) (by omega) (by omega) hd (en := .inl (ea, List.replicate n.toNatClampNeg 0)) (a0 := (n.toNatClampNeg, .inl (fun t => (List.replicate n.toNatClampNeg 0).getD t 0))) (by show (_ : va_E) = _; simp [sm_rE, hR.1]) (fun cA => by rw [vp_cell_i]; congr 1; funext t; simp [List.getD_eq_getElem?_getD, List.getElem?_replicate]; split <;> rfl) (fun H1 hR1 hS1 => ?_)⟩
               have hk := k H1 locs (cells + 1) (slots + n.toNatClampNeg) (by rw [List.length_append]; show _ = cells + (wd.length + 1); omega) (by rw [sm_sz_app, hs1]; omega) hR1 hS1
               rw [List.map_cons, sm_up_lo hc3] at hk
               exact hk)
            | (refine ⟨rfl, sm_newa hx hb hK (hts _ (lw_inG (sm_at_in hR.2) rfl)) (ix := 1) rfl (by rfl) hRW hS hc3 hc1 rfl (Nat.le_trans (Nat.mul_le_mul hc2 (sm_cb _)) (by decide)) (by omega) (by omega) hd (en := .inl (ea, List.replicate n.toNatClampNeg 0)) (a0 := (n.toNatClampNeg, .inl (fun t => (List.replicate n.toNatClampNeg 0).getD t 0))) (by show (_ : va_E) = _; simp [sm_rE, hR.1]) (fun cA => by rw [vp_cell_i]; congr 1; funext t; simp [List.getD_eq_getElem?_getD, List.getElem?_replicate]; split <;> rfl) (fun H1 hR1 hS1 => ?_)⟩
               have hk := k H1 locs (cells + 1) (slots + n.toNatClampNeg) (by rw [List.length_append]; show _ = cells + (wd.length + 1); omega) (by rw [sm_sz_app, hs1]; omega) hR1 hS1
               rw [List.map_cons, sm_up_lo hc3] at hk
               exact hk)
    · cases h
  · -- objectInit
    split at h
    · rename_i k0 r
      split at h
      · rename_i hc
        cases h
        simp only [sm_okR, Bool.or_eq_true, decide_eq_true_eq] at hR
        have hR := hR.resolve_left (by omega)
        rw [if_pos hc.1] at hR
        refine ⟨rfl, ?_⟩
        rw [List.map_cons, sm_up_lo hc.2.2.1]
        refine W.objInit hx hb hown (hts _ (lw_inG (sm_at_in hR) rfl)) (hts _ (lw_inG sm_ok_obj.1 rfl)) (hts _ (lw_inG sm_ok_obj.2 rfl)) rfl (by rw [hml]; exact hl.1) rfl hd (by omega) ?_ (k H locs cells slots rfl rfl hRW hS)
        have : ((r.map (sm_up g)).map fun v => v.category).sum = (r.map fun v => v.category).sum := by
          rw [List.map_map]; congr 1; exact List.map_congr_left fun v _ => sm_up_cat hf v
        rw [this]
        show 2 * 0 + _ + 12 ≤ _
        omega
      · cases h
    · cases h
  · -- Math
    split at h
    · rename_i y x r
      split at h
      · rename_i hc
        have hsum : ((r.map (sm_up g)).map fun v => v.category).sum = (r.map fun v => v.category).sum := by
          rw [List.map_map]; congr 1; exact List.map_congr_left fun v _ => sm_up_cat hf v
        split at h
        · rename_i hk0
          subst hk0
          cases h
          simp only [sm_okR, Bool.or_eq_true, Bool.and_eq_true, decide_eq_true_eq] at hR
          rcases hR with ((hR | hR) | hR) | hR
          · omega
          · exact ⟨rfl, va_mmax hx hb (by rw [hml]; exact hl.1.symm) hown (hts _ (lw_inG (sm_at_in hR.2) rfl)) (hts _ (lw_inG (sm_at_in sm_ok_max.1) rfl)) (hts _ (lw_inG sm_ok_math rfl)) (hts _ (lw_inG (sm_at_in sm_ok_max.2) rfl)) (by omega) (by rw [hsum]; omega) (Nat.le_of_add_le_add_right hcs) (Nat.le_of_add_le_add_right hss) hd (k H locs cells slots rfl rfl hRW hS)⟩
          · omega
          · exact absurd hR.1.1.2 (by decide)
        · split at h
          · rename_i hk0
            subst hk0
            cases h
            simp only [sm_okR, Bool.or_eq_true, Bool.and_eq_true, decide_eq_true_eq] at hR
            rcases hR with ((hR | hR) | hR) | hR
            · omega
            · omega
            · exact ⟨rfl, va_mmin hx hb (by rw [hml]; exact hl.1.symm) hown (hts _ (lw_inG (sm_at_in hR.2) rfl)) (hts _ (lw_inG (sm_at_in sm_ok_min.1) rfl)) (hts _ (lw_inG sm_ok_math rfl)) (hts _ (lw_inG (sm_at_in sm_ok_min.2) rfl)) (by omega) (by rw [hsum]; omega) (Nat.le_of_add_le_add_right hcs) (Nat.le_of_add_le_add_right hss) hd (k H locs cells slots rfl rfl hRW hS)⟩
            · exact absurd hR.1.1.2 (by decide)
          · cases h
      · cases h
    · cases h
  · cases h
end SM3
end
section
/-! THE SMALL MACHINE IS SOUND: a run of it that ends is a contract of the real method -/
theorem sm_jump_wd {en : sm_I} {pc : Nat} {L : sm_L} {st : List Value} {wd : sm_W} {q : Nat × sm_L × List Value × sm_W} (h : sm_jump en pc L st wd = some q) : q.2.2.2 = wd := by
  unfold sm_jump at h
  (repeat' split at h) <;> first | (cases h; done) | (cases h; rfl)
theorem sm_loc_wd {ml : Nat} {en : sm_I} {pc : Nat} {L : sm_L} {st : List Value} {wd : sm_W} {q : Nat × sm_L × List Value × sm_W} (h : sm_loc ml en pc L st wd = some q) : q.2.2.2 = wd := by
  unfold sm_loc at h
  (repeat' split at h) <;> first | (cases h; done) | (cases h; rfl) | (obtain ⟨L', h1, h2⟩ := Option.map_eq_some_iff.mp h; subst h2; rfl)
theorem sm_mem_mono {xs : List Int32} {d : Nat} {en : sm_I} {pc : Nat} {L : sm_L} {st : List Value} {wd : sm_W} {q : Nat × sm_L × List Value × sm_W} (h : sm_mem xs d en pc L st wd = some q) : wd.length ≤ q.2.2.2.length ∧ sm_sz wd ≤ sm_sz q.2.2.2 := by
  unfold sm_mem at h
  (repeat' split at h) <;> first
    | (cases h; done)
    | (cases h; exact ⟨Nat.le_refl _, Nat.le_refl _⟩)
    | (cases h; exact ⟨by rw [List.length_append]; exact Nat.le_add_right _ _, by rw [sm_sz_app]; exact Nat.le_add_right _ _⟩)
    | (cases h; exact ⟨by rw [List.length_set]; exact Nat.le_refl _, Nat.le_of_eq (sm_sz_set (by assumption) (by simp [sm_sz1])).symm⟩)
theorem sm_step_mono {xs : List Int32} {d ml : Nat} {en : sm_I} {pc : Nat} {L : sm_L} {st : List Value} {wd : sm_W} {q : Nat × sm_L × List Value × sm_W} (h : sm_step xs d ml en pc L st wd = some q) : wd.length ≤ q.2.2.2.length ∧ sm_sz wd ≤ sm_sz q.2.2.2 := by
  unfold sm_step at h
  split at h
  · obtain ⟨st', h1, h2⟩ := Option.map_eq_some_iff.mp h
    subst h2
    exact ⟨Nat.le_refl _, Nat.le_refl _⟩
  · rw [sm_jump_wd h]; exact ⟨Nat.le_refl _, Nat.le_refl _⟩
  · rw [sm_loc_wd h]; exact ⟨Nat.le_refl _, Nat.le_refl _⟩
  · exact sm_mem_mono h
theorem sm_run_mono (xs : List Int32) : ∀ (f d j pc : Nat) (L : sm_L) (st : List Value) (wd : sm_W) (q : Option Value × sm_W), sm_run xs f d j pc L st wd = some q → wd.length ≤ q.2.length ∧ sm_sz wd ≤ sm_sz q.2 := by
  intro f
  induction f with
  | zero => intro d j pc L st wd q h; cases h
  | succ f ih =>
    intro d j pc L st wd q h
    unfold sm_run at h
    split at h
    · cases h
    · split at h
      · split at h
        · cases h
        · split at h
          · split at h
            · cases h
            · rename_i q1 h1
              have a1 := ih _ _ _ _ _ _ _ h1
              have a2 := ih _ _ _ _ _ _ _ h
              exact ⟨Nat.le_trans a1.1 a2.1, Nat.le_trans a1.2 a2.2⟩
          · cases h
      · split at h
        · cases h
          exact ⟨Nat.le_refl _, Nat.le_refl _⟩
        · split at h
          · cases h
          · rename_i q1 h1
            have a1 := sm_step_mono h1
            have a2 := ih _ _ _ _ _ _ _ h
            exact ⟨Nat.le_trans a1.1 a2.1, Nat.le_trans a1.2 a2.2⟩
theorem sm_exp_len {g : sm_G} (hf : sm_fv g) : ∀ as : List Value, (lg_sl (as.map (sm_up g))).length = (sm_exp as).length
  | [] => rfl
  | v :: r => by
    have ih := sm_exp_len hf r
    simp only [lg_sl] at ih ⊢
    rw [List.map_cons, List.flatMap_cons, List.length_append, ih, sm_up_cat hf, show sm_exp (v :: r) = if v.category = 2 then some v :: none :: sm_exp r else some v :: sm_exp r from rfl]
    split <;> simp <;> omega
theorem sm_exp_in {g : sm_G} (hf : sm_fv g) : ∀ (as : List Value) (k i : Nat) (v : Value), (sm_exp as)[i]? = some (some v) → (k + i, sm_up g v) ∈ lv_args k (as.map (sm_up g))
  | [], k, i, v, h => by simp [sm_exp] at h
  | w :: r, k, i, v, h => by
    unfold sm_exp at h
    rw [List.map_cons]
    unfold lv_args
    rw [sm_up_cat hf]
    split at h
    · rename_i hc
      rw [if_pos hc]
      match i, h with
      | 0, h =>
        have h : w = v := by simpa using h
        subst h
        exact List.mem_cons_self
      | 1, h => simp at h
      | i + 2, h =>
        have := sm_exp_in hf r (k + 2) i v (by simpa using h)
        rw [show k + 2 + i = k + (i + 2) by omega] at this
        exact List.mem_cons_of_mem _ this
    · rename_i hc
      rw [if_neg hc]
      match i, h with
      | 0, h =>
        have h : w = v := by simpa using h
        subst h
        exact List.mem_cons_self
      | i + 1, h =>
        have := sm_exp_in hf r (k + 1) i v (by simpa using h)
        rw [show k + 1 + i = k + (i + 1) by omega] at this
        exact List.mem_cons_of_mem _ this
theorem sm_ent_lv {g : sm_G} (hf : sm_fv g) {as : List Value} {n : Nat} (h : (sm_exp as).length ≤ n) : sm_lv g ((lg_sl (as.map (sm_up g)) ++ List.replicate (n - (lg_sl (as.map (sm_up g))).length) Slot.unset).toArray) n (sm_ent n as) := by
  have h1 := lv_entry (as.map (sm_up g)) (n := n) (by rw [sm_exp_len hf]; exact h)
  refine ⟨h1.1, h1.2.1, by simp [sm_ent]; omega, fun i v hi => ?_⟩
  unfold sm_ent at hi
  by_cases hl : i < (sm_exp as).length
  · rw [List.getElem?_append_left hl] at hi
    have := sm_exp_in hf as 0 i v hi
    rw [Nat.zero_add] at this
    exact h1.2.2 _ this
  · rw [List.getElem?_append_right (by omega)] at hi
    have := List.mem_of_getElem? hi
    rw [List.mem_replicate] at this
    cases this.2
def sm_rm (d mc ms : Nat) : Room := { frames := d, cells := mc, slots := ms, locals := 43 * d }
def sm_Pc (g : sm_G) (D : va_G) (xs : List Int32) (as : List Value) (wd : sm_W) : Array Value → State → Prop := fun v U => v = (as.map (sm_up g)).toArray ∧ sm_RW g D wd U.heap ∧ va_K D sm_cl (sm_tys g) U ∧ sm_Fx g xs U U.heap ∧ g.1 ≤ U.heap.size
def sm_Qc (g : sm_G) (D : va_G) (q : Option Value × sm_W) : Array Value → State → Outcome → State → Prop := fun _ st oc t => (oc = .returned (q.1.map (sm_up g)) ∧ sm_RW g D q.2 t.heap) ∧ va_F (sm_A g) st t
def sm_Wok (l : Launch) (xs : List Int32) (g : sm_G) (D : va_G) (f : Nat) : Prop := ∀ (d j pc : Nat) (L : sm_L) (st : List Value) (wd : sm_W) (q : Option Value × sm_W), j < sm_N + 1 → sm_run xs f d j pc L st wd = some q →
  ∀ (p : Program) (e : Env) (R : Room) (s : State) (m : MethodId) (args : Array Value) (below : List Frame) (meth : Method) (c : Code) (H : Heap) (locs : List Loc) (cells slots : Nat) (Q : State → Prop) (ls : Array Slot) (mc ms : Nat),
  sm_C g D xs p d j R s m args meth c → sm_RW g D wd H → va_S (sm_A g) s.heap H locs → sm_lv g ls (sm_ml j) L →
  cells + q.2.length ≤ mc + wd.length → slots + sm_sz q.2 ≤ ms + sm_sz wd → mc ≤ R.cells → ms ≤ R.slots →
  (∀ (pc' : Nat) (i : Instr) (st' : List Value) (H' : Heap) (locs' : List Loc) (ls' : Array Slot), decode (sm_b j) pc' = .ok (i, 1) → sm_ret j i st' = some q.1 → sm_RW g D q.2 H' → va_S (sm_A g) s.heap H' locs' → W p l e R s m args below meth c H' locs' mc ms Q (F0 m pc' ls' (st'.map (sm_up g)))) →
  W p l e R s m args below meth c H locs cells slots Q (F0 m pc ls (st.map (sm_up g)))
theorem sm_okM_at {j : Nat} (h : j < sm_N) : Cond.code (sm_y j) (sm_b j) (sm_ml j) (sm_rt j) ∈ lw_tblG ∧ Cond.initialized (sm_y j).cls ∈ lw_tblG ∧
    (sm_kd j = 0 → Cond.static (sm_y j) ∈ lw_tblG) ∧ (sm_kd j = 1 → Cond.instanceMethod (sm_y j) ∈ lw_tblG ∧ Cond.selects (sm_y j).cls (sm_y j) (sm_y j) ∈ lw_tblG ∧ sm_cn (sm_ci j) = (sm_y j).cls ∧ sm_ci j < 8) ∧
    (sm_kd j = 2 → Cond.instanceMethod (sm_y j) ∈ lw_tblG ∧ (sm_y j).name = "<init>" ∧ sm_rt j = none) ∧ (sm_kd j = 3 → Cond.instanceMethod (sm_y j) ∈ lw_tblG ∧ Cond.selects (sm_y j).cls (sm_y j) (sm_y j) ∈ lw_tblG ∧ (sm_y j).cls = "java/lang/String") ∧
    ((sm_y j).cls ≠ "java/lang/invoke/MethodHandle" ∧ (sm_y j).cls ≠ "java/lang/invoke/VarHandle" ∧ (parseMethodDescriptor (sm_y j).desc).map (fun d => d.parameters.length) = some (sm_na j)) ∧ plainName (sm_y j).cls = true ∧ sm_ml j ≤ 24 := by
  have h1 := sm_okM_all h
  simp only [sm_okM, Bool.and_eq_true, decide_eq_true_eq] at h1
  obtain ⟨⟨⟨⟨⟨⟨⟨h2, h3⟩, h4⟩, h5⟩, h6⟩, h7⟩, h8⟩, h9⟩ := h1
  refine ⟨lw_inG (sm_at_in h2) rfl, lw_inG (sm_at_in h3) rfl, fun z => ?_, fun z => ?_, fun z => ?_, fun z => ?_, ⟨h5, h6, h9⟩, h7, h8⟩
  · rw [z] at h4
    exact lw_inG (sm_at_in h4) rfl
  · rw [z] at h4
    simp only [Bool.and_eq_true, decide_eq_true_eq] at h4
    exact ⟨lw_inG (sm_at_in h4.1.1.1) rfl, lw_inG (sm_at_in h4.1.1.2) rfl, h4.1.2, h4.2⟩
  · rw [z] at h4
    simp only [Bool.and_eq_true, decide_eq_true_eq] at h4
    exact ⟨lw_inG (sm_at_in h4.1.1) rfl, h4.1.2, h4.2⟩
  · rw [z] at h4
    simp only [Bool.and_eq_true, decide_eq_true_eq] at h4
    exact ⟨lw_inG (sm_at_in h4.1.1) rfl, lw_inG (sm_at_in h4.1.2) rfl, h4.2⟩
theorem sm_met_of {l : Launch} {xs : List Int32} {g : sm_G} {D : va_G} {f : Nat} (h : sm_Wok l xs g D f) {d j : Nat} {as : List Value} {wd : sm_W} {q : Option Value × sm_W} (hf : sm_fv g) (hj : j < sm_N) (hr : sm_run xs f d j 0 (sm_ent (sm_ml j) as) [] wd = some q) (hlen : (sm_exp as).length ≤ sm_ml j) :
    Met l (sm_y j) (Cond.code (sm_y j) (sm_b j) (sm_ml j) (sm_rt j) :: lw_tblG) (sm_rm d (q.2.length - wd.length) (sm_sz q.2 - sm_sz wd)) (sm_Pc g D xs as wd) (sm_Qc g D q) (q.2.length - wd.length) (sm_sz q.2 - sm_sz wd) (sm_A g) := by
  have hM := sm_okM_at hj
  have hmono := sm_run_mono xs _ _ _ _ _ _ _ _ hr
  refine Met.ofW (cc := sm_b j) (maxL := sm_ml j) (ret := sm_rt j) hM.2.2.2.2.2.2.2.1 rfl ?_
  intro p e s m args below meth c s₁ B hml hv
  obtain ⟨rfl, hRW, hK, hFx, hgs⟩ := hv
  have hts := atoms_spec (ws := Cond.code (sm_y j) (sm_b j) (sm_ml j) (sm_rt j) :: lw_tblG) B.pre
  rw [lg_entry_eq]
  refine h d j 0 _ [] wd q (by omega) hr p e _ s m _ below meth c s.heap [] 0 0 _ _ (q.2.length - wd.length) (sm_sz q.2 - sm_sz wd) ⟨B.exec, B.bytes, hml, findClass_of_methodNamed B.named, fun w hw => hts w (List.mem_cons_of_mem _ hw), hK, hFx, hgs, Nat.le_refl _, Nat.le_refl _, fun hi => (name_of_methodNamed B.named B.method).1.trans hi⟩ hRW va_S.rf (sm_ent_lv hf hlen) (by omega) (by omega) (Nat.le_refl _) (Nat.le_refl _) ?_
  intro pc' i st' H' locs' ls' hd hret hRW' hS'
  have hq : ∀ t : State, t.heap = H' → s.WarmedH t.vm → sm_Qc g D q (as.map (sm_up g)).toArray s (.returned (q.1.map (sm_up g))) t := fun t ht _ => ⟨⟨rfl, by rw [ht]; exact hRW'⟩, hS'.F ht⟩
  obtain ⟨q1, q2⟩ := q
  unfold sm_ret at hret
  split at hret
  · split at hret
    · split at hret
      · rename_i v ty hty
        split at hret
        · rename_i hc
          cases hret
          exact W.zret B.exec B.bytes (B.returns.trans hty) hc.1 hq hS'.2.2 hd B.notSynchronized
        · cases hret
      · cases hret
    · cases hret
  · split at hret
    · split at hret
      · rename_i v hty
        cases hret
        exact W.lret B.exec B.bytes (B.returns.trans hty) hq hS'.2.2 hd B.notSynchronized
      · cases hret
    · cases hret
  · split at hret
    · split at hret
      · rename_i hty
        cases hret
        exact W.vret B.exec B.bytes (B.returns.trans hty) hq hS'.2.2 hd B.notSynchronized
      · cases hret
    · cases hret
  · cases hret
end
section
theorem lw_good2 {w : Cond} (h : w ∈ lw_tblG) : w ∈ lw_tblG ∧ ((w.onTables && w.keeps) = true ∨ ∃ ty, w = .arrayClass ty) := ⟨h, good_of_word (lw_goodG h).2⟩
theorem lw_goodIn {ws : List Cond} (h : ∀ w ∈ ws, w ∈ lw_tblG) : GoodIn lw_tblG ws := fun w hw => lw_good2 (h w hw)
theorem sm_blind {g : sm_G} {D : va_G} {xs : List Int32} {as : List Value} {wd : sm_W} : FrameBlind (sm_Pc g D xs as wd) := fun a U jf mk h => by
  obtain ⟨h1, h2, h3, h4, h5⟩ := h
  exact ⟨h1, h2, va_K.moved (u := U) (U := U.calling jf mk a) (Vm.Alike.refl U.vm) h3, h4.calling, h5⟩
theorem sm_take {st : List Value} {n : Nat} {v : Value} (h : st[n]? = some v) : (st.take (n + 1)).reverse = v :: (st.take n).reverse := by
  rw [List.take_succ, h]
  simp
theorem sm_recv1 {j n : Nat} {st : List Value} {wd : sm_W} (hk : sm_kd j = 1) (h : sm_recv j n st wd = true) : ∃ (k : Nat) (fs : List Value), st[n - 1]? = some (.ref k) ∧ wd[k]? = some (.inr (.inr (sm_ci j, fs))) := by
  have h1 : (match st[n - 1]? with
    | some (.ref k) => (match wd[k]? with
      | some (.inr (.inr (ci, _))) => decide (ci = sm_ci j)
      | _ => false)
    | _ => false) = true := by
    unfold sm_recv at h
    rw [hk] at h
    exact h
  split at h1
  · rename_i k hk
    split at h1
    · rename_i ci fs hw
      have hci := of_decide_eq_true h1
      subst hci
      exact ⟨k, fs, hk, hw⟩
    · cases h1
  · cases h1
theorem sm_recv2 {j n : Nat} {st : List Value} {wd : sm_W} (hk : sm_kd j = 2) (h : sm_recv j n st wd = true) : ∃ k : Nat, st[n - 1]? = some (.ref k) ∧ k < 1000000 := by
  have h1 : (match st[n - 1]? with
    | some (.ref k) => decide (k < 1000000)
    | _ => false) = true := by
    unfold sm_recv at h
    rw [hk] at h
    exact h
  split at h1
  · rename_i k hk
    exact ⟨k, hk, of_decide_eq_true h1⟩
  · cases h1
theorem sm_recv3 {j n : Nat} {st : List Value} {wd : sm_W} (hk : sm_kd j = 3) (h : sm_recv j n st wd = true) : st[n - 1]? = some (.ref 1000001) := by
  have h1 : (match st[n - 1]? with
    | some (.ref k) => decide (k = 1000001)
    | _ => false) = true := by
    unfold sm_recv at h
    rw [hk] at h
    exact h
  split at h1
  · rename_i k hk
    have hci := of_decide_eq_true h1
    subst hci
    exact hk
  · cases h1
section SM4
variable {p : Program} {l : Launch} {e : Env} {R : Room} {s : State} {m : MethodId} {args : Array Value} {below : List Frame} {meth : Method} {c : Code} {H : Heap} {locs : List Loc} {cells slots : Nat} {Q : State → Prop}
variable {pc : Nat} {ls : Array Slot} {g : sm_G} {D : va_G} {xs : List Int32} {d j : Nat}
theorem sm_callk {st0 rest : List Value} {mc ms : Nat} {q : Option Value × sm_W} {a : Array Value} (hr : va_Run p l e R s m args below meth c H locs cells slots mc ms (F0 m pc ls st0) (rest.map (sm_up g)) (sm_Qc g D q a) (sm_A g)) (hS : va_S (sm_A g) s.heap H locs)
    (kk : ∀ (H1 : Heap) (locs1 : List Loc), sm_RW g D q.2 H1 → va_S (sm_A g) s.heap H1 locs1 → W p l e R s m args below meth c H1 locs1 (cells + mc) (slots + ms) Q (F0 m (pc + 3) ls ((sm_push q.1 rest).map (sm_up g)))) : W p l e R s m args below meth c H locs cells slots Q (F0 m pc ls st0) := by
  intro T hT X
  obtain ⟨v, st₀, t, T', L, h0, X', hL, e1, e2, ⟨⟨hv, hb⟩, hz, hk⟩, st⟩ := hr T hT X
  have hv : v = q.1.map (sm_up g) := by cases hv; rfl
  subst hv
  rw [h0] at hz hk
  have hpush : (q.1.map (sm_up g)).toList ++ rest.map (sm_up g) = (sm_push q.1 rest).map (sm_up g) := by
    cases q.1 <;> rfl
  obtain ⟨t2, a1, b1⟩ := kk T'.heap (locs ++ L) (by rw [e1]; exact hb) ⟨Nat.le_trans hS.1 (by rw [e1]; exact hz), fun q h1 h2 => by rw [e1, hk q (Nat.lt_of_lt_of_le h1 hS.1) h2]; exact hS.2.1 q h1 h2, fun q hq => by
      rcases List.mem_append.mp hq with h | h
      · exact hS.2.2 q h
      · exact hL q h⟩ T' rfl X'
  rw [← hpush] at a1
  exact ⟨t2, st t2 a1, b1⟩
theorem sm_call_ok (C : sm_C g D xs p (d + 1) j R s m args meth c) {f : Nat} (hW : sm_Wok l xs g D f) {en : sm_I} {L : sm_L} {st : List Value} {wd : sm_W} {q1 : Option Value × sm_W} (hE : sm_Ok j pc en) (hcall : sm_call en = true) (hrecv : sm_recv en.2.1 en.2.2.1 st wd = true) (hn : en.2.2.1 ≤ st.length) (hlen : (sm_exp (st.take en.2.2.1).reverse).length ≤ sm_ml en.2.1) (hcat : ((st.drop en.2.2.1).map fun v => v.category).sum ≤ 8)
    (h1 : sm_run xs f d en.2.1 0 (sm_ent (sm_ml en.2.1) (st.take en.2.2.1).reverse) [] wd = some q1) (hl : sm_lv g ls (sm_ml j) L) (hRW : sm_RW g D wd H) (hS : va_S (sm_A g) s.heap H locs)
    (hcs : cells + (q1.2.length - wd.length) ≤ R.cells) (hss : slots + (sm_sz q1.2 - sm_sz wd) ≤ R.slots)
    (kk : ∀ (H1 : Heap) (locs1 : List Loc), sm_RW g D q1.2 H1 → va_S (sm_A g) s.heap H1 locs1 → W p l e R s m args below meth c H1 locs1 (cells + (q1.2.length - wd.length)) (slots + (sm_sz q1.2 - sm_sz wd)) Q (F0 m (pc + 3) ls ((sm_push q1.1 (st.drop en.2.2.1)).map (sm_up g)))) : W p l e R s m args below meth c H locs cells slots Q (F0 m pc ls (st.map (sm_up g))) := by
  obtain ⟨hx, hb, hml, hown, hts, hK, hFx, hgs, hdR, hdl, hin⟩ := C
  have hf : sm_fv g := hFx.2.2.2.2.2.2.2.2.2.2.2.2
  obtain ⟨i, j', n, ec⟩ := en
  obtain ⟨hR, ln, hd, hn2⟩ := hE
  dsimp only at hR hd hn2 hrecv hn hlen hcat h1 kk
  have hj : j' < sm_N := by
    unfold sm_call at hcall
    dsimp only at hcall
    split at hcall
    · exact of_decide_eq_true hcall
    · exact of_decide_eq_true hcall
    · exact of_decide_eq_true hcall
    · cases hcall
  have hMj := sm_okM_at hj
  have hM := sm_met_of hW hf hj h1 hlen
  have hPU : ∀ U : State, U.heap = H → s.WarmedH U.vm → sm_Pc g D xs (st.take n).reverse wd (((st.take n).reverse).map (sm_up g)).toArray U := fun U hU hW2 =>
    ⟨rfl, by rw [hU]; exact hRW, va_K.moved hW2.alike hK, by rw [hU]; exact hFx.mv hW2 hS.1 hS.2.1, by rw [hU]; exact Nat.le_trans hgs hS.1⟩
  have hcat2 : (((st.drop n).map (sm_up g)).map fun v => v.category).sum ≤ 8 := by
    rw [List.map_map, show ((fun v : Value => v.category) ∘ sm_up g) = (fun v => v.category) from funext fun v => sm_up_cat hf v]; exact hcat
  have hstk : st.map (sm_up g) = (((st.take n).reverse).map (sm_up g)).reverse ++ (st.drop n).map (sm_up g) := by
    rw [List.map_reverse, List.reverse_reverse, ← List.map_append, List.take_append_drop]
  have hroom : (sm_rm d (q1.2.length - wd.length) (sm_sz q1.2 - sm_sz wd)).frames + 1 ≤ R.frames ∧ 8 + (sm_ml j' + 11) + (sm_rm d (q1.2.length - wd.length) (sm_sz q1.2 - sm_sz wd)).locals ≤ R.locals := ⟨hdR, by have := hMj.2.2.2.2.2.2.2.2; show 8 + (sm_ml j' + 11) + 43 * d ≤ R.locals; omega⟩
  have hinst : ∀ n', n = n' + 1 → st[n']? ≠ none := fun n' e9 z => by
    have := List.getElem?_eq_none_iff.mp z
    omega
  unfold sm_call at hcall
  dsimp only at hcall
  split at hcall
  · -- invokevirtual
    have hn2 := hn2 rfl
    subst hn2
    simp only [sm_okR, Bool.or_eq_true, Bool.and_eq_true, decide_eq_true_eq, beq_iff_eq] at hR
    have hR := hR.resolve_left (by have : sm_N < 9998 := by decide
                                   omega)
    obtain ⟨⟨⟨hkd, -⟩, hna⟩, hlk⟩ := hR
    have hlk := lw_inG (sm_at_in hlk) rfl
    have hna : n = sm_na j' + 1 := by rw [hna]; unfold sm_argc; rw [if_neg (by omega)]
    subst hna
    have hpl : ∃ k, st[sm_na j']? = some (.ref k) ∧ ((∃ b, sm_up g (.ref k) = .ref b ∧ ∃ cellB : Cell, H[b]? = some cellB ∧ cellB.vm.isStatics = false ∧ s.vm.findClass (sm_y j').cls = some cellB.cls) ∧ Cond.instanceMethod (sm_y j') ∈ lw_tblG ∧ Cond.selects (sm_y j').cls (sm_y j') (sm_y j') ∈ lw_tblG) := by
      rcases hkd with hkd | hkd
      · obtain ⟨k, fs, hk, hw⟩ := sm_recv1 hkd hrecv
        have h4 := hMj.2.2.2.1 hkd
        have hcl := sm_cl_at h4.2.2.2
        refine ⟨k, hk, ⟨_, sm_up_lo (hRW.lo hw), ?_⟩, h4.1, h4.2.1⟩
        have := va_recv hK hRW.2.2 hcl (sm_rW_get hw)
        rw [← h4.2.2.1]
        exact this
      · have hk := sm_recv3 hkd hrecv
        have h4 := hMj.2.2.2.2.2.1 hkd
        refine ⟨_, hk, ⟨g.2.1, rfl, ?_⟩, h4.1, h4.2.1⟩
        obtain ⟨cell, h5, h6, h7, -⟩ := hFx.1.kept hS.2.1
        rw [h4.2.2]
        exact ⟨cell, h5, h6, h7⟩
    obtain ⟨k, hk, ⟨b, hb1, hcell⟩, hi1, hi2⟩ := hpl
    rw [sm_take hk] at hM
    rw [sm_take hk, List.map_cons, hb1] at hPU hstk
    rw [hstk, List.reverse_cons, List.append_assoc]
    exact sm_callk (va_runV (C := (sm_y j').cls) (b := b) (As := ((st.take (sm_na j')).reverse).map (sm_up g)) (rest := (st.drop (sm_na j' + 1)).map (sm_up g)) ⟨hx, hb, hml, hown, hts⟩ hM
      (cwV (sm_na j') hts (lw_goodIn (fun w hw => by
        simp only [wsV, List.cons_append, List.nil_append, List.mem_cons] at hw
        rcases hw with rfl | rfl | rfl | rfl | rfl | hw
        · exact hlk
        · exact hi1
        · exact hi2
        · exact hMj.2.1
        · exact hMj.1
        · exact hw)) rfl rfl rfl ⟨rfl, hMj.2.2.2.2.2.2.1⟩ hroom)
      ⟨sm_blind, hcell, hPU⟩ rfl (by rw [List.length_map, List.length_reverse, List.length_take]; omega) hl.1 rfl (lv_room hcat2) hd ⟨hcs, hss⟩) hS kk
  · -- invokestatic
    have hn2 := hn2 rfl
    subst hn2
    simp only [sm_okR, Bool.or_eq_true, Bool.and_eq_true, decide_eq_true_eq, beq_iff_eq] at hR
    have hN : sm_N < 9996 := by decide
    rcases hR with ((hR | hR) | hR) | hR
    · omega
    · omega
    · omega
    · obtain ⟨⟨⟨hkd, -⟩, hna⟩, hlk⟩ := hR
      have hna : n = sm_na j' := by rw [hna]; unfold sm_argc; rw [if_pos hkd]
      subst hna
      have hstt := hMj.2.2.1 hkd
      rw [hstk]
      have hnAs : (((st.take (sm_na j')).reverse).map (sm_up g)).length = sm_na j' := by rw [List.length_map, List.length_reverse, List.length_take]; omega
      have hGw : GoodIn lw_tblG (Cond.code (sm_y j') (sm_b j') (sm_ml j') (sm_rt j') :: lw_tblG) := lw_goodIn (fun w hw => by
        rcases List.mem_cons.mp hw with rfl | hw
        · exact hMj.1
        · exact hw)
      split at hlk
      · simp only [Bool.and_eq_true, decide_eq_true_eq] at hlk
        obtain ⟨⟨ho, hi⟩, hy⟩ := hlk
        subst hi
        have hZ := hFx.2.2.2.2.2.2.2.1
        rw [← hy, ← ho] at hZ
        exact sm_callk (va_runSN (As := ((st.take (sm_na j')).reverse).map (sm_up g)) (rest := (st.drop (sm_na j')).map (sm_up g)) ⟨hx, hb, hml, hown, hts⟩ hM
          ⟨va_cnB (sm_na j') hts hGw rfl rfl rfl hZ (hts _ hMj.2.1) hMj.2.2.2.2.2.2.1 hroom, hts _ hstt, trivial⟩ ⟨sm_blind, hPU⟩ rfl hnAs hl.1 rfl (lv_room hcat2) hd ⟨hcs, hss⟩) hS kk
      · split at hlk
        · simp only [Bool.and_eq_true, decide_eq_true_eq] at hlk
          obtain ⟨⟨ho, hi⟩, hy⟩ := hlk
          subst hi
          have hZ := hFx.2.2.2.2.2.2.2.2.1
          rw [← hy, ← ho] at hZ
          exact sm_callk (va_runSN (As := ((st.take (sm_na j')).reverse).map (sm_up g)) (rest := (st.drop (sm_na j')).map (sm_up g)) ⟨hx, hb, hml, hown, hts⟩ hM
            ⟨va_cnB (sm_na j') hts hGw rfl rfl rfl hZ (hts _ hMj.2.1) hMj.2.2.2.2.2.2.1 hroom, hts _ hstt, trivial⟩ ⟨sm_blind, hPU⟩ rfl hnAs hl.1 rfl (lv_room hcat2) hd ⟨hcs, hss⟩) hS kk
        · exact sm_callk (va_runS (As := ((st.take (sm_na j')).reverse).map (sm_up g)) (rest := (st.drop (sm_na j')).map (sm_up g)) ⟨hx, hb, hml, hown, hts⟩ hM
            (va_cwS (sm_na j') hts (lw_goodIn (fun w hw => by
              simp only [va_wsS, List.cons_append, List.nil_append, List.mem_cons] at hw
              rcases hw with rfl | rfl | rfl | rfl | hw
              · exact lw_inG (sm_at_in hlk) rfl
              · exact hstt
              · exact hMj.2.1
              · exact hMj.1
              · exact hw)) rfl rfl rfl hMj.2.2.2.2.2.2.1 hroom) ⟨sm_blind, hPU⟩ rfl hnAs hl.1 rfl (lv_room hcat2) hd ⟨hcs, hss⟩) hS kk
  · -- invokespecial
    have hn2 := hn2 rfl
    subst hn2
    simp only [sm_okR, Bool.or_eq_true, decide_eq_true_eq] at hR
    have hN : sm_N < 9996 := by decide
    have hR := hR.resolve_left (by omega)
    rw [if_neg (by omega)] at hR
    simp only [Bool.and_eq_true, decide_eq_true_eq, beq_iff_eq] at hR
    obtain ⟨⟨⟨hkd, -⟩, hna⟩, hlk⟩ := hR
    have hlk := lw_inG (sm_at_in hlk) rfl
    have hna : n = sm_na j' + 1 := by rw [hna]; unfold sm_argc; rw [if_neg (by omega)]
    subst hna
    have h4 := hMj.2.2.2.2.1 hkd
    obtain ⟨k, hk, hklt⟩ := sm_recv2 hkd hrecv
    rw [Nat.add_sub_cancel] at hk
    rw [sm_take hk] at hM
    rw [sm_take hk, List.map_cons, sm_up_lo hklt] at hPU hstk
    rw [hstk, List.reverse_cons, List.append_assoc]
    rw [h4.2.2] at hM
    exact sm_callk (va_runI (b := g.1 + k) (As := ((st.take (sm_na j')).reverse).map (sm_up g)) (rest := (st.drop (sm_na j' + 1)).map (sm_up g)) ⟨hx, hb, hml, hown, hts⟩ hM
      (cwI (sm_na j') hts (lw_goodIn (fun w hw => by
        rcases List.mem_cons.mp hw with rfl | hw
        · have := hMj.1
          rw [h4.2.2] at this
          exact this
        · exact hw)) rfl rfl rfl (hts _ hMj.2.1) (hts _ hlk) (hts _ h4.1) h4.2.1 hMj.2.2.2.2.2.2.1 hroom)
      ⟨sm_blind, hPU⟩ rfl (by rw [List.length_map, List.length_reverse, List.length_take]; omega) hl.1 rfl (lv_room hcat2) hd ⟨hcs, hss⟩) hS kk
  · cases hcall
end SM4
theorem sm_ret_byte {j : Nat} {i : Instr} {st : List Value} {r : Option Value} (h : sm_ret j i st = some r) : sm_sw i = false ∧ sm_len i = 1 := by
  unfold sm_ret at h
  split at h
  · exact ⟨rfl, rfl⟩
  · exact ⟨rfl, rfl⟩
  · exact ⟨rfl, rfl⟩
  · cases h
theorem sm_pure_byte {i : Instr} {st : List Value} {r : List Value} (h : sm_pure i st = some r) : sm_sw i = false ∧ sm_len i = 1 := by
  unfold sm_pure at h
  split at h <;> first | exact ⟨rfl, rfl⟩ | (cases h; done)
/-- SOUNDNESS -/
theorem sm_wok (l : Launch) (xs : List Int32) (g : sm_G) (D : va_G) : ∀ f, sm_Wok l xs g D f := by
  intro f
  induction f with
  | zero => intro d j pc L st wd q hj h; cases h
  | succ f ih =>
    intro d j pc L st wd q hj h p e R s m args below meth c H locs cells slots Q ls mc ms C hRW hS hl hcs hss hmc hms fin
    unfold sm_run at h
    split at h
    · cases h
    · rename_i en hic
      have hE := sm_ic_ok hj hic
      split at h
      · rename_i hcall
        split at h
        · cases h
        · rename_i d'
          split at h
          · rename_i hcond
            split at h
            · cases h
            · rename_i q1 h1
              have m1 := sm_run_mono xs _ _ _ _ _ _ _ _ h1
              have m2 := sm_run_mono xs _ _ _ _ _ _ _ _ h
              refine sm_call_ok C ih hE hcall hcond.1 hcond.2.1 hcond.2.2.1 hcond.2.2.2 h1 hl hRW hS (by omega) (by omega) (fun H1 locs1 hRW1 hS1 => ?_)
              exact ih (d' + 1) j (pc + 3) L _ q1.2 q hj h p e R s m args below meth c H1 locs1 _ _ Q ls mc ms C hRW1 hS1 hl (by omega) (by omega) hmc hms fin
          · cases h
      · split at h
        · rename_i r hret
          cases h
          obtain ⟨hR, n, hd, hn⟩ := hE
          have hb1 := sm_ret_byte hret
          rw [hn hb1.1, hb1.2] at hd
          exact W.widen (k := mc) (n := ms) (Nat.le_of_add_le_add_right hcs) (Nat.le_of_add_le_add_right hss) (fin pc en.1 st H locs ls hd hret hRW hS)
        · split at h
          · cases h
          · rename_i q1 h1
            have m1 := sm_step_mono h1
            have m2 := sm_run_mono xs _ _ _ _ _ _ _ _ h
            unfold sm_step at h1
            split at h1
            · obtain ⟨st', h2, h3⟩ := Option.map_eq_some_iff.mp h1
              subst h3
              obtain ⟨hR, n, hd, hn⟩ := hE
              have hb1 := sm_pure_byte h2
              rw [hn hb1.1, hb1.2] at hd
              exact sm_pure_ok C.1 C.2.1 C.2.2.2.2.2.2.1.2.2.2.2.2.2.2.2.2.2.2.2 h2 hd (ih d j (pc + 1) L st' wd q hj h p e R s m args below meth c H locs cells slots Q ls mc ms C hRW hS hl hcs hss hmc hms fin)
            · have hwd := sm_jump_wd h1
              obtain ⟨hR, n, hd, hn⟩ := hE
              obtain ⟨q1a, q1b, q1c, q1d⟩ := q1
              dsimp only at hwd h m1
              subst hwd
              have key := fun hLe : q1b = L => ih d j q1a q1b q1c q1d q hj h p e R s m args below meth c H locs cells slots Q ls mc ms C hRW hS (by rw [hLe]; exact hl) hcs hss hmc hms fin
              have hLe : q1b = L := by
                unfold sm_jump at h1
                (repeat' split at h1) <;> first | (cases h1; done) | (cases h1; rfl)
              exact (sm_jump_ok C.1 C.2.1 h1 hd hn (key hLe)).2.2
            · have hwd := sm_loc_wd h1
              obtain ⟨q1a, q1b, q1c, q1d⟩ := q1
              dsimp only at hwd h m1
              subst hwd
              exact (sm_loc_ok C h1 hE hl (fun ls' hl' => ih d j q1a q1b q1c q1d q hj h p e R s m args below meth c H locs cells slots Q ls' mc ms C hRW hS hl' hcs hss hmc hms fin)).2
            · have hLe : q1.2.1 = L := by
                unfold sm_mem at h1
                (repeat' split at h1) <;> first | (cases h1; done) | (cases h1; rfl)
              refine (sm_mem_ok C h1 hE hl hRW hS (by omega) (by omega) (fun H1 locs1 c1 n1 hc1 hn1 hRW1 hS1 => ?_)).2
              exact ih d j q1.1 q1.2.1 q1.2.2.1 q1.2.2.2 q hj h p e R s m args below meth c H1 locs1 c1 n1 Q ls mc ms C hRW1 hS1 (by rw [hLe]; exact hl) (by omega) (by omega) hmc hms fin
end
section
/-! RULES over the small machine: RT: from this point the run ends, with an answer and a world that Q allows -/
def RT (xs : List Int32) (d j pc : Nat) (L : sm_L) (st : List Value) (wd : sm_W) (Q : Option Value → sm_W → Prop) : Prop := ∃ f q, sm_run xs f d j pc L st wd = some q ∧ Q q.1 q.2
def sm_bdy (xs : List Int32) (rc : Nat → Nat → Nat → sm_L → List Value → sm_W → Option (Option Value × sm_W)) (d j pc : Nat) (L : sm_L) (st : List Value) (wd : sm_W) : Option (Option Value × sm_W) := match sm_ic j pc with
    | none => none
    | some e => match sm_call e with
      | true => match d with
        | 0 => none
        | d' + 1 => if sm_recv e.2.1 e.2.2.1 st wd = true ∧ e.2.2.1 ≤ st.length ∧ (sm_exp (st.take e.2.2.1).reverse).length ≤ sm_ml e.2.1 ∧ ((st.drop e.2.2.1).map fun v => v.category).sum ≤ 8 then
            match rc d' e.2.1 0 (sm_ent (sm_ml e.2.1) (st.take e.2.2.1).reverse) [] wd with
            | none => none
            | some q => rc (d' + 1) j (pc + 3) L (sm_push q.1 (st.drop e.2.2.1)) q.2
          else none
      | false => match sm_ret j e.1 st with
        | some r => some (r, wd)
        | none => match sm_step xs d (sm_ml j) e pc L st wd with
          | none => none
          | some q => rc d j q.1 q.2.1 q.2.2.1 q.2.2.2
theorem sm_run_bdy (xs : List Int32) (f d j pc : Nat) (L : sm_L) (st : List Value) (wd : sm_W) : sm_run xs (f + 1) d j pc L st wd = sm_bdy xs (sm_run xs f) d j pc L st wd := rfl
theorem sm_bdy_mono (xs : List Int32) {rc rc2 : Nat → Nat → Nat → sm_L → List Value → sm_W → Option (Option Value × sm_W)} (hm : ∀ d j pc L st wd q, rc d j pc L st wd = some q → rc2 d j pc L st wd = some q) {d j pc : Nat} {L : sm_L} {st : List Value} {wd : sm_W} {q : Option Value × sm_W} (h : sm_bdy xs rc d j pc L st wd = some q) : sm_bdy xs rc2 d j pc L st wd = some q := by
  unfold sm_bdy at h ⊢
  cases hic : sm_ic j pc with
  | none => rw [hic] at h; cases h
  | some en =>
    simp only [hic] at h ⊢
    cases hcall : sm_call en with
    | true =>
      simp only [hcall] at h ⊢
      cases d with
      | zero => cases h
      | succ d' =>
        dsimp only at h ⊢
        split at h
        · rename_i hcond
          rw [if_pos hcond]
          cases h1 : rc d' en.2.1 0 (sm_ent (sm_ml en.2.1) (st.take en.2.2.1).reverse) [] wd with
          | none => rw [h1] at h; cases h
          | some q1 =>
            rw [h1] at h
            rw [hm _ _ _ _ _ _ _ h1]
            exact hm _ _ _ _ _ _ _ h
        · cases h
    | false =>
      simp only [hcall] at h ⊢
      cases hret : sm_ret j en.1 st with
      | some r => simp only [hret] at h ⊢; exact h
      | none =>
        simp only [hret] at h ⊢
        cases h1 : sm_step xs d (sm_ml j) en pc L st wd with
        | none => rw [h1] at h; cases h
        | some q1 =>
          rw [h1] at h
          exact hm _ _ _ _ _ _ _ h
theorem sm_run_succ (xs : List Int32) : ∀ (f d j pc : Nat) (L : sm_L) (st : List Value) (wd : sm_W) (q : Option Value × sm_W), sm_run xs f d j pc L st wd = some q → sm_run xs (f + 1) d j pc L st wd = some q := by
  intro f
  induction f with
  | zero => intro d j pc L st wd q h; cases h
  | succ f ih =>
    intro d j pc L st wd q h
    rw [sm_run_bdy] at h ⊢
    exact sm_bdy_mono xs ih h
theorem sm_run_add (xs : List Int32) {f : Nat} (k : Nat) {d j pc : Nat} {L : sm_L} {st : List Value} {wd : sm_W} {q : Option Value × sm_W} (h : sm_run xs f d j pc L st wd = some q) : sm_run xs (f + k) d j pc L st wd = some q := by
  induction k with
  | zero => exact h
  | succ k ih => exact sm_run_succ xs _ _ _ _ _ _ _ _ ih
section RTS
variable {xs : List Int32} {d j pc : Nat} {L : sm_L} {st : List Value} {wd : sm_W} {Q : Option Value → sm_W → Prop} {a b c : Nat}
theorem RT.mono {Q' : Option Value → sm_W → Prop} (h : RT xs d j pc L st wd Q') (hQ : ∀ r w, Q' r w → Q r w) : RT xs d j pc L st wd Q := by
  obtain ⟨f, q, h1, h2⟩ := h
  exact ⟨f, q, h1, hQ _ _ h2⟩
theorem RT.step {e : sm_I} {pc' : Nat} {L' : sm_L} {st' : List Value} {wd' : sm_W} (hic : sm_ic j pc = some e) (hc : sm_call e = false) (hr : sm_ret j e.1 st = none) (hs : sm_step xs d (sm_ml j) e pc L st wd = some (pc', L', st', wd')) (k : RT xs d j pc' L' st' wd' Q) : RT xs d j pc L st wd Q := by
  obtain ⟨f, q, h1, h2⟩ := k
  refine ⟨f + 1, q, ?_, h2⟩
  unfold sm_run
  simp only [hic, hc, hr, hs]
  exact h1
theorem RT.call {e : sm_I} (hic : sm_ic j pc = some e) (hc : sm_call e = true) (hrecv : sm_recv e.2.1 e.2.2.1 st wd = true) (hn : e.2.2.1 ≤ st.length) (hlen : (sm_exp (st.take e.2.2.1).reverse).length ≤ sm_ml e.2.1) (hcat : ((st.drop e.2.2.1).map fun v => v.category).sum ≤ 8)
    (k : RT xs d e.2.1 0 (sm_ent (sm_ml e.2.1) (st.take e.2.2.1).reverse) [] wd (fun r w => RT xs (d + 1) j (pc + 3) L (sm_push r (st.drop e.2.2.1)) w Q)) : RT xs (d + 1) j pc L st wd Q := by
  obtain ⟨f, q, h1, f2, q2, h2, h3⟩ := k
  refine ⟨f + f2 + 1, q2, ?_, h3⟩
  unfold sm_run
  simp only [hic, hc]
  rw [if_pos ⟨hrecv, hn, hlen, hcat⟩, sm_run_add xs f2 h1]
  rw [Nat.add_comm f f2]
  exact sm_run_add xs f h2
theorem RT.ret {e : sm_I} {r : Option Value} (hic : sm_ic j pc = some e) (hc : sm_call e = false) (hr : sm_ret j e.1 st = some r) (k : Q r wd) : RT xs d j pc L st wd Q := by
  refine ⟨1, (r, wd), ?_, k⟩
  unfold sm_run
  simp only [hic, hc, hr]
/-- a contract: the method's run from its entry -/
def Ct (xs : List Int32) (d j : Nat) (as : List Value) (wd : sm_W) (Q : Option Value → sm_W → Prop) : Prop := RT xs d j 0 (sm_ent (sm_ml j) as) [] wd Q
theorem Ct.mono {as : List Value} {Q' : Option Value → sm_W → Prop} (h : Ct xs d j as wd Q') (hQ : ∀ r w, Q' r w → Q r w) : Ct xs d j as wd Q := RT.mono h hQ

theorem R_iconst {n : Int} (h : sm_ic j pc = some (.iconst n, a, b, c)) {v : Int32} (hv : Int32.ofInt n = v) (k : RT xs d j (pc + 1) L (.int v :: st) wd Q) : RT xs d j pc L st wd Q := RT.step h rfl rfl (by subst hv; rfl) k
theorem R_bipush {n : Int} (h : sm_ic j pc = some (.bipush n, a, b, c)) {v : Int32} (hv : (Int8.ofInt n).toInt32 = v) (k : RT xs d j (pc + 2) L (.int v :: st) wd Q) : RT xs d j pc L st wd Q := RT.step h rfl rfl (by subst hv; rfl) k
theorem R_sipush {n : Int} (h : sm_ic j pc = some (.sipush n, a, b, c)) {v : Int32} (hv : (Int16.ofInt n).toInt32 = v) (k : RT xs d j (pc + 3) L (.int v :: st) wd Q) : RT xs d j pc L st wd Q := RT.step h rfl rfl (by subst hv; rfl) k
theorem R_lconst {n : Fin 2} (h : sm_ic j pc = some (.lconst n, a, b, c)) {v : Int64} (hv : Int64.ofNat (n : Nat) = v) (k : RT xs d j (pc + 1) L (.long v :: st) wd Q) : RT xs d j pc L st wd Q := RT.step h rfl rfl (by subst hv; rfl) k
theorem R_ldc_w {n : Nat} (h : sm_ic j pc = some (.ldc_w n, a, b, c)) (hc : c ≠ 0) {v : Int32} (hv : Int32.ofNat a = v) (k : RT xs d j (pc + 3) L (.int v :: st) wd Q) : RT xs d j pc L st wd Q := RT.step h rfl rfl (by subst hv; show some (pc + 3, L, (if c = 0 then Value.ref 1000001 else .int (Int32.ofNat a)) :: st, wd) = _; rw [if_neg hc]) k
theorem R_ldc_wS {n : Nat} (h : sm_ic j pc = some (.ldc_w n, a, b, 0)) (k : RT xs d j (pc + 3) L (.ref 1000001 :: st) wd Q) : RT xs d j pc L st wd Q := RT.step h rfl rfl rfl k
theorem R_ldc2_w {n : Nat} (h : sm_ic j pc = some (.ldc2_w n, a, b, c)) {v : Int64} (hv : sm_lv64 a b = v) (k : RT xs d j (pc + 3) L (.long v :: st) wd Q) : RT xs d j pc L st wd Q := RT.step h rfl rfl (by subst hv; rfl) k
theorem R_iload {i : Nat} (h : sm_ic j pc = some (.iload i, a, b, c)) {x : Int32} (hl : L[i]? = some (some (.int x))) (k : RT xs d j (pc + 2) L (.int x :: st) wd Q) : RT xs d j pc L st wd Q := RT.step h rfl rfl (by show (match L[i]? with | some (some (.int x)) => some (pc + 2, L, Value.int x :: st, wd) | _ => none) = _; rw [hl]) k
theorem R_iload_n {i : Fin 4} (h : sm_ic j pc = some (.iload_n i, a, b, c)) {x : Int32} (hl : L[(i : Nat)]? = some (some (.int x))) (k : RT xs d j (pc + 1) L (.int x :: st) wd Q) : RT xs d j pc L st wd Q := RT.step h rfl rfl (by show (match L[(i : Nat)]? with | some (some (.int x)) => some (pc + 1, L, Value.int x :: st, wd) | _ => none) = _; rw [hl]) k
theorem R_lload {i : Nat} (h : sm_ic j pc = some (.lload i, a, b, c)) {x : Int64} (hl : L[i]? = some (some (.long x))) (k : RT xs d j (pc + 2) L (.long x :: st) wd Q) : RT xs d j pc L st wd Q := RT.step h rfl rfl (by show (match L[i]? with | some (some (.long x)) => some (pc + 2, L, Value.long x :: st, wd) | _ => none) = _; rw [hl]) k
theorem R_lload_n {i : Fin 4} (h : sm_ic j pc = some (.lload_n i, a, b, c)) {x : Int64} (hl : L[(i : Nat)]? = some (some (.long x))) (k : RT xs d j (pc + 1) L (.long x :: st) wd Q) : RT xs d j pc L st wd Q := RT.step h rfl rfl (by show (match L[(i : Nat)]? with | some (some (.long x)) => some (pc + 1, L, Value.long x :: st, wd) | _ => none) = _; rw [hl]) k
theorem R_aload {i : Nat} (h : sm_ic j pc = some (.aload i, a, b, c)) {x : Nat} (hl : L[i]? = some (some (.ref x))) (hx : ¬ x = 1000003) (k : RT xs d j (pc + 2) L (.ref x :: st) wd Q) : RT xs d j pc L st wd Q := RT.step h rfl rfl (by show (match L[i]? with | some (some (.ref x)) => if x = 1000003 then none else some (pc + 2, L, Value.ref x :: st, wd) | _ => none) = _; rw [hl]; exact if_neg hx) k
theorem R_aload_n {i : Fin 4} (h : sm_ic j pc = some (.aload_n i, a, b, c)) {x : Nat} (hl : L[(i : Nat)]? = some (some (.ref x))) (hx : ¬ x = 1000003) (k : RT xs d j (pc + 1) L (.ref x :: st) wd Q) : RT xs d j pc L st wd Q := RT.step h rfl rfl (by show (match L[(i : Nat)]? with | some (some (.ref x)) => if x = 1000003 then none else some (pc + 1, L, Value.ref x :: st, wd) | _ => none) = _; rw [hl]; exact if_neg hx) k
theorem R_istore {i : Nat} (h : sm_ic j pc = some (.istore i, a, b, c)) {x : Int32} {L2 : sm_L} (hl : sm_st1 (sm_ml j) L i (.int x) = some L2) (k : RT xs d j (pc + 2) L2 st wd Q) : RT xs d j pc L (.int x :: st) wd Q := RT.step h rfl rfl (by show (sm_st1 (sm_ml j) L i (.int x)).map _ = _; rw [hl]; rfl) k
theorem R_istore_n {i : Fin 4} (h : sm_ic j pc = some (.istore_n i, a, b, c)) {x : Int32} {L2 : sm_L} (hl : sm_st1 (sm_ml j) L (i : Nat) (.int x) = some L2) (k : RT xs d j (pc + 1) L2 st wd Q) : RT xs d j pc L (.int x :: st) wd Q := RT.step h rfl rfl (by show (sm_st1 (sm_ml j) L (i : Nat) (.int x)).map _ = _; rw [hl]; rfl) k
theorem R_lstore {i : Nat} (h : sm_ic j pc = some (.lstore i, a, b, c)) {x : Int64} {L2 : sm_L} (hl : sm_st2 (sm_ml j) L i (.long x) = some L2) (k : RT xs d j (pc + 2) L2 st wd Q) : RT xs d j pc L (.long x :: st) wd Q := RT.step h rfl rfl (by show (sm_st2 (sm_ml j) L i (.long x)).map _ = _; rw [hl]; rfl) k
theorem R_lstore_n {i : Fin 4} (h : sm_ic j pc = some (.lstore_n i, a, b, c)) {x : Int64} {L2 : sm_L} (hl : sm_st2 (sm_ml j) L (i : Nat) (.long x) = some L2) (k : RT xs d j (pc + 1) L2 st wd Q) : RT xs d j pc L (.long x :: st) wd Q := RT.step h rfl rfl (by show (sm_st2 (sm_ml j) L (i : Nat) (.long x)).map _ = _; rw [hl]; rfl) k
theorem R_iinc {i : Nat} {n : Int} (h : sm_ic j pc = some (.iinc i n, a, b, c)) {x v : Int32} {L2 : sm_L} (hx : L[i]? = some (some (.int x))) (hv : x + Int32.ofInt n = v) (hl : sm_st1 (sm_ml j) L i (.int v) = some L2) (k : RT xs d j (pc + 3) L2 st wd Q) : RT xs d j pc L st wd Q := RT.step h rfl rfl (by subst hv; show (match L[i]? with | some (some (.int x)) => (sm_st1 (sm_ml j) L i (.int (x + Int32.ofInt n))).map (fun L' => (pc + 3, L', st, wd)) | _ => none) = _; rw [hx]; dsimp only; rw [hl]; rfl) k
theorem R_iadd {x y : Int32} (h : sm_ic j pc = some (.iadd, a, b, c)) (k : RT xs d j (pc + 1) L (.int (x + y) :: st) wd Q) : RT xs d j pc L (.int y :: .int x :: st) wd Q := RT.step h rfl rfl rfl k
theorem R_isub {x y : Int32} (h : sm_ic j pc = some (.isub, a, b, c)) (k : RT xs d j (pc + 1) L (.int (x - y) :: st) wd Q) : RT xs d j pc L (.int y :: .int x :: st) wd Q := RT.step h rfl rfl rfl k
theorem R_imul {x y : Int32} (h : sm_ic j pc = some (.imul, a, b, c)) (k : RT xs d j (pc + 1) L (.int (x * y) :: st) wd Q) : RT xs d j pc L (.int y :: .int x :: st) wd Q := RT.step h rfl rfl rfl k
theorem R_iand {x y : Int32} (h : sm_ic j pc = some (.iand, a, b, c)) (k : RT xs d j (pc + 1) L (.int (x &&& y) :: st) wd Q) : RT xs d j pc L (.int y :: .int x :: st) wd Q := RT.step h rfl rfl rfl k
theorem R_ior {x y : Int32} (h : sm_ic j pc = some (.ior, a, b, c)) (k : RT xs d j (pc + 1) L (.int (x ||| y) :: st) wd Q) : RT xs d j pc L (.int y :: .int x :: st) wd Q := RT.step h rfl rfl rfl k
theorem R_ixor {x y : Int32} (h : sm_ic j pc = some (.ixor, a, b, c)) (k : RT xs d j (pc + 1) L (.int (x ^^^ y) :: st) wd Q) : RT xs d j pc L (.int y :: .int x :: st) wd Q := RT.step h rfl rfl rfl k
theorem R_ishl {x y : Int32} (h : sm_ic j pc = some (.ishl, a, b, c)) (k : RT xs d j (pc + 1) L (.int (x <<< (y &&& 31)) :: st) wd Q) : RT xs d j pc L (.int y :: .int x :: st) wd Q := RT.step h rfl rfl rfl k
theorem R_ishr {x y : Int32} (h : sm_ic j pc = some (.ishr, a, b, c)) (k : RT xs d j (pc + 1) L (.int (x >>> (y &&& 31)) :: st) wd Q) : RT xs d j pc L (.int y :: .int x :: st) wd Q := RT.step h rfl rfl rfl k
theorem R_iushr {x y : Int32} (h : sm_ic j pc = some (.iushr, a, b, c)) (k : RT xs d j (pc + 1) L (.int (x.toUInt32 >>> (y.toUInt32 &&& Int32.toUInt32 31)).toInt32 :: st) wd Q) : RT xs d j pc L (.int y :: .int x :: st) wd Q := RT.step h rfl rfl rfl k
theorem R_idiv {x y : Int32} (h : sm_ic j pc = some (.idiv, a, b, c)) (hy : ¬ y = 0) (k : RT xs d j (pc + 1) L (.int (x / y) :: st) wd Q) : RT xs d j pc L (.int y :: .int x :: st) wd Q := RT.step h rfl rfl (by show Option.map _ (if y = 0 then none else some _) = _; rw [if_neg hy]; rfl) k
theorem R_irem {x y : Int32} (h : sm_ic j pc = some (.irem, a, b, c)) (hy : ¬ y = 0) (k : RT xs d j (pc + 1) L (.int (x - x / y * y) :: st) wd Q) : RT xs d j pc L (.int y :: .int x :: st) wd Q := RT.step h rfl rfl (by show Option.map _ (if y = 0 then none else some _) = _; rw [if_neg hy]; rfl) k
theorem R_ladd {x y : Int64} (h : sm_ic j pc = some (.ladd, a, b, c)) (k : RT xs d j (pc + 1) L (.long (x + y) :: st) wd Q) : RT xs d j pc L (.long y :: .long x :: st) wd Q := RT.step h rfl rfl rfl k
theorem R_lsub {x y : Int64} (h : sm_ic j pc = some (.lsub, a, b, c)) (k : RT xs d j (pc + 1) L (.long (x - y) :: st) wd Q) : RT xs d j pc L (.long y :: .long x :: st) wd Q := RT.step h rfl rfl rfl k
theorem R_lmul {x y : Int64} (h : sm_ic j pc = some (.lmul, a, b, c)) (k : RT xs d j (pc + 1) L (.long (x * y) :: st) wd Q) : RT xs d j pc L (.long y :: .long x :: st) wd Q := RT.step h rfl rfl rfl k
theorem R_land {x y : Int64} (h : sm_ic j pc = some (.land, a, b, c)) (k : RT xs d j (pc + 1) L (.long (x &&& y) :: st) wd Q) : RT xs d j pc L (.long y :: .long x :: st) wd Q := RT.step h rfl rfl rfl k
theorem R_lor {x y : Int64} (h : sm_ic j pc = some (.lor, a, b, c)) (k : RT xs d j (pc + 1) L (.long (x ||| y) :: st) wd Q) : RT xs d j pc L (.long y :: .long x :: st) wd Q := RT.step h rfl rfl rfl k
theorem R_lxor {x y : Int64} (h : sm_ic j pc = some (.lxor, a, b, c)) (k : RT xs d j (pc + 1) L (.long (x ^^^ y) :: st) wd Q) : RT xs d j pc L (.long y :: .long x :: st) wd Q := RT.step h rfl rfl rfl k
theorem R_lrem {x y : Int64} (h : sm_ic j pc = some (.lrem, a, b, c)) (hy : ¬ y = 0) (k : RT xs d j (pc + 1) L (.long (x - x / y * y) :: st) wd Q) : RT xs d j pc L (.long y :: .long x :: st) wd Q := RT.step h rfl rfl (by show Option.map _ (if y = 0 then none else some _) = _; rw [if_neg hy]; rfl) k
theorem R_lcmp {x y : Int64} (h : sm_ic j pc = some (.lcmp, a, b, c)) (k : RT xs d j (pc + 1) L (.int (lg_cmp x y) :: st) wd Q) : RT xs d j pc L (.long y :: .long x :: st) wd Q := RT.step h rfl rfl rfl k
theorem R_lshl {x : Int64} {y : Int32} (h : sm_ic j pc = some (.lshl, a, b, c)) (k : RT xs d j (pc + 1) L (.long (x <<< (y.toInt64 &&& 63)) :: st) wd Q) : RT xs d j pc L (.int y :: .long x :: st) wd Q := RT.step h rfl rfl rfl k
theorem R_lushr {x : Int64} {y : Int32} (h : sm_ic j pc = some (.lushr, a, b, c)) (k : RT xs d j (pc + 1) L (.long (x.toUInt64 >>> (y.toInt64.toUInt64 &&& Int64.toUInt64 63)).toInt64 :: st) wd Q) : RT xs d j pc L (.int y :: .long x :: st) wd Q := RT.step h rfl rfl rfl k
theorem R_i2l {x : Int32} (h : sm_ic j pc = some (.i2l, a, b, c)) (k : RT xs d j (pc + 1) L (.long x.toInt64 :: st) wd Q) : RT xs d j pc L (.int x :: st) wd Q := RT.step h rfl rfl rfl k
theorem R_l2i {x : Int64} (h : sm_ic j pc = some (.l2i, a, b, c)) (k : RT xs d j (pc + 1) L (.int x.toInt32 :: st) wd Q) : RT xs d j pc L (.long x :: st) wd Q := RT.step h rfl rfl rfl k
theorem R_i2c {x : Int32} (h : sm_ic j pc = some (.i2c, a, b, c)) (k : RT xs d j (pc + 1) L (.int (x.toUInt32 % 65536).toInt32 :: st) wd Q) : RT xs d j pc L (.int x :: st) wd Q := RT.step h rfl rfl rfl k
theorem R_dup {v : Value} (h : sm_ic j pc = some (.dup, a, b, c)) (hv : v.category = 1) (k : RT xs d j (pc + 1) L (v :: v :: st) wd Q) : RT xs d j pc L (v :: st) wd Q := RT.step h rfl rfl (by show Option.map _ (if v.category = 1 then some _ else none) = _; rw [if_pos hv]; rfl) k
theorem R_dup2 {v w : Value} (h : sm_ic j pc = some (.dup2, a, b, c)) (hv : v.category = 1) (hw : w.category = 1) (k : RT xs d j (pc + 1) L (v :: w :: v :: w :: st) wd Q) : RT xs d j pc L (v :: w :: st) wd Q := RT.step h rfl rfl (by show Option.map _ (if v.category = 1 ∧ w.category = 1 then some _ else none) = _; rw [if_pos ⟨hv, hw⟩]; rfl) k
theorem R_pop {v : Value} (h : sm_ic j pc = some (.pop, a, b, c)) (hv : v.category = 1) (k : RT xs d j (pc + 1) L st wd Q) : RT xs d j pc L (v :: st) wd Q := RT.step h rfl rfl (by show Option.map _ (if v.category = 1 then some _ else none) = _; rw [if_pos hv]; rfl) k
theorem R_goto {off : Int} (h : sm_ic j pc = some (.goto off, a, b, c)) (ht : (pc : Int) + off = (a : Int)) (k : RT xs d j a L st wd Q) : RT xs d j pc L st wd Q := RT.step h rfl rfl (by show (if (pc : Int) + off = (a : Int) then some _ else none) = _; rw [if_pos ht]) k
theorem R_if {off : Int} {cn : Jvm.ClassFile.Cond} {x : Int32} (h : sm_ic j pc = some (.ifCond cn off, a, b, c)) (ht : (pc : Int) + off = (a : Int)) (kt : sm_cnd cn x 0 = true → RT xs d j a L st wd Q) (kf : ¬ sm_cnd cn x 0 = true → RT xs d j (pc + 3) L st wd Q) : RT xs d j pc L (.int x :: st) wd Q := by
  by_cases hc : sm_cnd cn x 0 = true
  · exact RT.step h rfl rfl (by show (if (pc : Int) + off = (a : Int) then some (if sm_cnd cn x 0 = true then a else pc + 3, _) else none) = _; rw [if_pos ht, if_pos hc]) (kt hc)
  · exact RT.step h rfl rfl (by show (if (pc : Int) + off = (a : Int) then some (if sm_cnd cn x 0 = true then a else pc + 3, _) else none) = _; rw [if_pos ht, if_neg hc]) (kf hc)
theorem R_icmp {off : Int} {cn : Jvm.ClassFile.Cond} {x y : Int32} (h : sm_ic j pc = some (.if_icmp cn off, a, b, c)) (ht : (pc : Int) + off = (a : Int)) (kt : sm_cnd cn x y = true → RT xs d j a L st wd Q) (kf : ¬ sm_cnd cn x y = true → RT xs d j (pc + 3) L st wd Q) : RT xs d j pc L (.int y :: .int x :: st) wd Q := by
  by_cases hc : sm_cnd cn x y = true
  · exact RT.step h rfl rfl (by show (if (pc : Int) + off = (a : Int) then some (if sm_cnd cn x y = true then a else pc + 3, _) else none) = _; rw [if_pos ht, if_pos hc]) (kt hc)
  · exact RT.step h rfl rfl (by show (if (pc : Int) + off = (a : Int) then some (if sm_cnd cn x y = true then a else pc + 3, _) else none) = _; rw [if_pos ht, if_neg hc]) (kf hc)
theorem R_if_eq {off : Int} {x : Int32} (h : sm_ic j pc = some (.ifCond .eq off, a, b, c)) (ht : (pc : Int) + off = (a : Int)) (kt : x = 0 → RT xs d j a L st wd Q) (kf : ¬ x = 0 → RT xs d j (pc + 3) L st wd Q) : RT xs d j pc L (.int x :: st) wd Q := R_if h ht (fun q => kt (of_decide_eq_true q)) (fun q => kf (by simpa [sm_cnd] using q))
theorem R_icmp_eq {off : Int} {x y : Int32} (h : sm_ic j pc = some (.if_icmp .eq off, a, b, c)) (ht : (pc : Int) + off = (a : Int)) (kt : x = y → RT xs d j a L st wd Q) (kf : ¬ x = y → RT xs d j (pc + 3) L st wd Q) : RT xs d j pc L (.int y :: .int x :: st) wd Q := R_icmp h ht (fun q => kt (of_decide_eq_true q)) (fun q => kf (by simpa [sm_cnd] using q))
theorem R_if_ne {off : Int} {x : Int32} (h : sm_ic j pc = some (.ifCond .ne off, a, b, c)) (ht : (pc : Int) + off = (a : Int)) (kt : ¬ x = 0 → RT xs d j a L st wd Q) (kf : x = 0 → RT xs d j (pc + 3) L st wd Q) : RT xs d j pc L (.int x :: st) wd Q := R_if h ht (fun q => kt (of_decide_eq_true q)) (fun q => kf (by simpa [sm_cnd] using q))
theorem R_icmp_ne {off : Int} {x y : Int32} (h : sm_ic j pc = some (.if_icmp .ne off, a, b, c)) (ht : (pc : Int) + off = (a : Int)) (kt : ¬ x = y → RT xs d j a L st wd Q) (kf : x = y → RT xs d j (pc + 3) L st wd Q) : RT xs d j pc L (.int y :: .int x :: st) wd Q := R_icmp h ht (fun q => kt (of_decide_eq_true q)) (fun q => kf (by simpa [sm_cnd] using q))
theorem R_if_lt {off : Int} {x : Int32} (h : sm_ic j pc = some (.ifCond .lt off, a, b, c)) (ht : (pc : Int) + off = (a : Int)) (kt : x < 0 → RT xs d j a L st wd Q) (kf : ¬ x < 0 → RT xs d j (pc + 3) L st wd Q) : RT xs d j pc L (.int x :: st) wd Q := R_if h ht (fun q => kt (of_decide_eq_true q)) (fun q => kf (by simpa [sm_cnd] using q))
theorem R_icmp_lt {off : Int} {x y : Int32} (h : sm_ic j pc = some (.if_icmp .lt off, a, b, c)) (ht : (pc : Int) + off = (a : Int)) (kt : x < y → RT xs d j a L st wd Q) (kf : ¬ x < y → RT xs d j (pc + 3) L st wd Q) : RT xs d j pc L (.int y :: .int x :: st) wd Q := R_icmp h ht (fun q => kt (of_decide_eq_true q)) (fun q => kf (by simpa [sm_cnd] using q))
theorem R_if_ge {off : Int} {x : Int32} (h : sm_ic j pc = some (.ifCond .ge off, a, b, c)) (ht : (pc : Int) + off = (a : Int)) (kt : 0 ≤ x → RT xs d j a L st wd Q) (kf : ¬ 0 ≤ x → RT xs d j (pc + 3) L st wd Q) : RT xs d j pc L (.int x :: st) wd Q := R_if h ht (fun q => kt (of_decide_eq_true q)) (fun q => kf (by simpa [sm_cnd] using q))
theorem R_icmp_ge {off : Int} {x y : Int32} (h : sm_ic j pc = some (.if_icmp .ge off, a, b, c)) (ht : (pc : Int) + off = (a : Int)) (kt : y ≤ x → RT xs d j a L st wd Q) (kf : ¬ y ≤ x → RT xs d j (pc + 3) L st wd Q) : RT xs d j pc L (.int y :: .int x :: st) wd Q := R_icmp h ht (fun q => kt (of_decide_eq_true q)) (fun q => kf (by simpa [sm_cnd] using q))
theorem R_if_gt {off : Int} {x : Int32} (h : sm_ic j pc = some (.ifCond .gt off, a, b, c)) (ht : (pc : Int) + off = (a : Int)) (kt : 0 < x → RT xs d j a L st wd Q) (kf : ¬ 0 < x → RT xs d j (pc + 3) L st wd Q) : RT xs d j pc L (.int x :: st) wd Q := R_if h ht (fun q => kt (of_decide_eq_true q)) (fun q => kf (by simpa [sm_cnd] using q))
theorem R_icmp_gt {off : Int} {x y : Int32} (h : sm_ic j pc = some (.if_icmp .gt off, a, b, c)) (ht : (pc : Int) + off = (a : Int)) (kt : y < x → RT xs d j a L st wd Q) (kf : ¬ y < x → RT xs d j (pc + 3) L st wd Q) : RT xs d j pc L (.int y :: .int x :: st) wd Q := R_icmp h ht (fun q => kt (of_decide_eq_true q)) (fun q => kf (by simpa [sm_cnd] using q))
theorem R_if_le {off : Int} {x : Int32} (h : sm_ic j pc = some (.ifCond .le off, a, b, c)) (ht : (pc : Int) + off = (a : Int)) (kt : x ≤ 0 → RT xs d j a L st wd Q) (kf : ¬ x ≤ 0 → RT xs d j (pc + 3) L st wd Q) : RT xs d j pc L (.int x :: st) wd Q := R_if h ht (fun q => kt (of_decide_eq_true q)) (fun q => kf (by simpa [sm_cnd] using q))
theorem R_icmp_le {off : Int} {x y : Int32} (h : sm_ic j pc = some (.if_icmp .le off, a, b, c)) (ht : (pc : Int) + off = (a : Int)) (kt : x ≤ y → RT xs d j a L st wd Q) (kf : ¬ x ≤ y → RT xs d j (pc + 3) L st wd Q) : RT xs d j pc L (.int y :: .int x :: st) wd Q := R_icmp h ht (fun q => kt (of_decide_eq_true q)) (fun q => kf (by simpa [sm_cnd] using q))
theorem R_ifT {off : Int} {cn : Jvm.ClassFile.Cond} {x : Int32} (h : sm_ic j pc = some (.ifCond cn off, a, b, c)) (ht : (pc : Int) + off = (a : Int)) (hc : sm_cnd cn x 0 = true) (kt : RT xs d j a L st wd Q) : RT xs d j pc L (.int x :: st) wd Q := R_if h ht (fun _ => kt) (fun q => absurd hc q)
theorem R_ifF {off : Int} {cn : Jvm.ClassFile.Cond} {x : Int32} (h : sm_ic j pc = some (.ifCond cn off, a, b, c)) (ht : (pc : Int) + off = (a : Int)) (hc : sm_cnd cn x 0 = false) (kf : RT xs d j (pc + 3) L st wd Q) : RT xs d j pc L (.int x :: st) wd Q := R_if h ht (fun q => absurd q (by rw [hc]; decide)) (fun _ => kf)
theorem R_icmpT {off : Int} {cn : Jvm.ClassFile.Cond} {x y : Int32} (h : sm_ic j pc = some (.if_icmp cn off, a, b, c)) (ht : (pc : Int) + off = (a : Int)) (hc : sm_cnd cn x y = true) (kt : RT xs d j a L st wd Q) : RT xs d j pc L (.int y :: .int x :: st) wd Q := R_icmp h ht (fun _ => kt) (fun q => absurd hc q)
theorem R_icmpF {off : Int} {cn : Jvm.ClassFile.Cond} {x y : Int32} (h : sm_ic j pc = some (.if_icmp cn off, a, b, c)) (ht : (pc : Int) + off = (a : Int)) (hc : sm_cnd cn x y = false) (kf : RT xs d j (pc + 3) L st wd Q) : RT xs d j pc L (.int y :: .int x :: st) wd Q := R_icmp h ht (fun q => absurd q (by rw [hc]; decide)) (fun _ => kf)
theorem R_tsOut {d0 lo hi : Int} {offs : Array Int} {x : Int32} {t : Nat} (h : sm_ic j pc = some (.tableswitch d0 lo hi offs, a, b, c)) (hx : x.toInt < lo ∨ hi < x.toInt) (ht : (pc : Int) + d0 = (t : Int)) (k : RT xs d j t L st wd Q) : RT xs d j pc L (.int x :: st) wd Q := RT.step h rfl rfl (by show (if x.toInt < lo ∨ hi < x.toInt then (if 0 ≤ (pc : Int) + d0 then some (((pc : Int) + d0).toNat, L, st, wd) else none) else _) = _; rw [if_pos hx, ht, if_pos (Int.natCast_nonneg t)]; rfl) k
theorem R_tsIn {d0 lo hi off : Int} {offs : Array Int} {x : Int32} {t : Nat} (h : sm_ic j pc = some (.tableswitch d0 lo hi offs, a, b, c)) (hx : ¬ (x.toInt < lo ∨ hi < x.toInt)) (ho : offs[(x.toInt - lo).toNat]? = some off) (ht : (pc : Int) + off = (t : Int)) (k : RT xs d j t L st wd Q) : RT xs d j pc L (.int x :: st) wd Q := RT.step h rfl rfl (by show (if x.toInt < lo ∨ hi < x.toInt then _ else (match offs[(x.toInt - lo).toNat]? with | some off => if 0 ≤ (pc : Int) + off then some (((pc : Int) + off).toNat, L, st, wd) else none | none => none)) = _; rw [if_neg hx, ho]; dsimp only; rw [ht, if_pos (Int.natCast_nonneg t)]; rfl) k
theorem R_ls {d0 : Int} {ps : Array (Int × Int)} {x : Int32} {t : Nat} (h : sm_ic j pc = some (.lookupswitch d0 ps, a, b, c)) (hp : (ps.toList.zip (ps.toList.drop 1)).all (fun (a, next) => a.1 < next.1) = true) (ht : (pc : Int) + Op.lookupswitch.offset ps.toList d0 x.toInt = (t : Int)) (k : RT xs d j t L st wd Q) : RT xs d j pc L (.int x :: st) wd Q := RT.step h rfl rfl (by show (if _ ∧ 0 ≤ (pc : Int) + Op.lookupswitch.offset ps.toList d0 x.toInt then some (((pc : Int) + Op.lookupswitch.offset ps.toList d0 x.toInt).toNat, L, st, wd) else none) = _; rw [ht, if_pos ⟨hp, Int.natCast_nonneg t⟩]; rfl) k
theorem R_getf {i k0 : Nat} {fs : List Value} {v : Value} (h : sm_ic j pc = some (.getfield i, a, b, c)) (ha : ¬ a = 100) (hw : wd[k0]? = some (.inr (.inr (a, fs)))) (hv : fs[b]? = some v) (k : RT xs d j (pc + 3) L (v :: st) wd Q) : RT xs d j pc L (.ref k0 :: st) wd Q :=
  RT.step h rfl rfl (by
    show (if a = 100 then _ else (match wd[k0]? with
        | some (.inr (.inr (ci, fs))) => if ci = a then (match fs[b]? with
          | some v => some (pc + 3, L, v :: st, wd)
          | none => none) else none
        | _ => none)) = _
    rw [if_neg ha, hw]
    dsimp only
    rw [if_pos rfl, hv]) k
theorem R_putf {i k0 : Nat} {fs : List Value} {v : Value} (h : sm_ic j pc = some (.putfield i, a, b, c)) (hw : wd[k0]? = some (.inr (.inr (a, fs)))) (hl : b < fs.length) (hn : narrow (sm_ty a b) v = v) (hf : fits (sm_ty a b) v = true) (k : RT xs d j (pc + 3) L st (wd.set k0 (.inr (.inr (a, fs.set b v)))) Q) : RT xs d j pc L (v :: .ref k0 :: st) wd Q :=
  RT.step h rfl rfl (by
    show (match wd[k0]? with
      | some (.inr (.inr (ci, fs))) => if ci = a ∧ b < fs.length ∧ narrow (sm_ty a b) v = v ∧ fits (sm_ty a b) v = true then some (pc + 3, L, st, wd.set k0 (.inr (.inr (ci, fs.set b v)))) else none
      | _ => none) = _
    rw [hw]
    dsimp only
    rw [if_pos ⟨rfl, hl, hn, hf⟩]) k
theorem R_iald {k0 : Nat} {l : List Int32} {i x : Int32} (h : sm_ic j pc = some (.iaload, a, b, c)) (hk : ¬ k0 = 1000004) (hw : wd[k0]? = some (.inl (0, l))) (hi : sm_ix l i = some x) (k : RT xs d j (pc + 1) L (.int x :: st) wd Q) : RT xs d j pc L (.int i :: .ref k0 :: st) wd Q :=
  RT.step h rfl rfl (by
    show (if k0 = 1000004 then _ else (match wd[k0]? with
        | some (.inl (0, l)) => (match sm_ix l i with
          | some x => some (pc + 1, L, Value.int x :: st, wd)
          | none => none)
        | _ => none)) = _
    rw [if_neg hk]
    simp only [hw, hi]) k
theorem R_ialdX {i x : Int32} (h : sm_ic j pc = some (.iaload, a, b, c)) (hi : sm_ix xs i = some x) (k : RT xs d j (pc + 1) L (.int x :: st) wd Q) : RT xs d j pc L (.int i :: .ref 1000004 :: st) wd Q :=
  RT.step h rfl rfl (by
    show sm_mem xs d (Instr.iaload, a, b, c) pc L (.int i :: .ref 1000004 :: st) wd = _
    simp [sm_mem, hi]) k
theorem R_cald {k0 : Nat} {l : List Int32} {i x : Int32} (h : sm_ic j pc = some (.caload, a, b, c)) (hw : wd[k0]? = some (.inl (1, l))) (hi : sm_ix l i = some x) (k : RT xs d j (pc + 1) L (.int x :: st) wd Q) : RT xs d j pc L (.int i :: .ref k0 :: st) wd Q :=
  RT.step h rfl rfl (by
    show (match wd[k0]? with
        | some (.inl (1, l)) => (match sm_ix l i with
          | some x => some (pc + 1, L, Value.int x :: st, wd)
          | none => none)
        | _ => none) = _
    simp only [hw, hi]) k
theorem R_lald {k0 : Nat} {l : List Int64} {i : Int32} {x : Int64} (h : sm_ic j pc = some (.laload, a, b, c)) (hw : wd[k0]? = some (.inr (.inl l))) (hi : sm_ix l i = some x) (k : RT xs d j (pc + 1) L (.long x :: st) wd Q) : RT xs d j pc L (.int i :: .ref k0 :: st) wd Q :=
  RT.step h rfl rfl (by
    show (match wd[k0]? with
        | some (.inr (.inl l)) => (match sm_ix l i with
          | some x => some (pc + 1, L, Value.long x :: st, wd)
          | none => none)
        | _ => none) = _
    simp only [hw, hi]) k
theorem R_iast {k0 : Nat} {l : List Int32} {i x : Int32} (h : sm_ic j pc = some (.iastore, a, b, c)) (hw : wd[k0]? = some (.inl (0, l))) (hi : ¬ (i < 0 ∨ l.length ≤ i.toNatClampNeg)) (k : RT xs d j (pc + 1) L st (wd.set k0 (.inl (0, l.set i.toNatClampNeg x))) Q) : RT xs d j pc L (.int x :: .int i :: .ref k0 :: st) wd Q :=
  RT.step h rfl rfl (by
    show (match wd[k0]? with
        | some (.inl (0, l)) => if i < 0 ∨ l.length ≤ i.toNatClampNeg then none else some (pc + 1, L, st, wd.set k0 (.inl (0, l.set i.toNatClampNeg x)))
        | _ => none) = _
    simp only [hw]
    rw [if_neg hi]) k
theorem R_cast {k0 : Nat} {l : List Int32} {i x y : Int32} (h : sm_ic j pc = some (.castore, a, b, c)) (hw : wd[k0]? = some (.inl (1, l))) (hi : ¬ (i < 0 ∨ l.length ≤ i.toNatClampNeg)) (hy : vp_nar .char x = y) (k : RT xs d j (pc + 1) L st (wd.set k0 (.inl (1, l.set i.toNatClampNeg y))) Q) : RT xs d j pc L (.int x :: .int i :: .ref k0 :: st) wd Q :=
  RT.step h rfl rfl (by
    subst hy
    show (match wd[k0]? with
        | some (.inl (1, l)) => if i < 0 ∨ l.length ≤ i.toNatClampNeg then none else some (pc + 1, L, st, wd.set k0 (.inl (1, l.set i.toNatClampNeg (vp_nar .char x))))
        | _ => none) = _
    simp only [hw]
    rw [if_neg hi]) k
theorem R_last {k0 : Nat} {l : List Int64} {i : Int32} {x : Int64} (h : sm_ic j pc = some (.lastore, a, b, c)) (hw : wd[k0]? = some (.inr (.inl l))) (hi : ¬ (i < 0 ∨ l.length ≤ i.toNatClampNeg)) (k : RT xs d j (pc + 1) L st (wd.set k0 (.inr (.inl (l.set i.toNatClampNeg x)))) Q) : RT xs d j pc L (.long x :: .int i :: .ref k0 :: st) wd Q :=
  RT.step h rfl rfl (by
    show (match wd[k0]? with
        | some (.inr (.inl l)) => if i < 0 ∨ l.length ≤ i.toNatClampNeg then none else some (pc + 1, L, st, wd.set k0 (.inr (.inl (l.set i.toNatClampNeg x))))
        | _ => none) = _
    simp only [hw]
    rw [if_neg hi]) k
theorem R_alenI {k0 t : Nat} {l : List Int32} (h : sm_ic j pc = some (.arraylength, a, b, c)) (hk : ¬ k0 = 1000002 ∧ ¬ k0 = 1000004) (hw : wd[k0]? = some (.inl (t, l))) (k : RT xs d j (pc + 1) L (.int (nI l.length) :: st) wd Q) : RT xs d j pc L (.ref k0 :: st) wd Q :=
  RT.step h rfl rfl (by
    show (if k0 = 1000002 then _ else if k0 = 1000004 then _ else (match wd[k0]? with
        | some (.inl (_, l)) => some (pc + 1, L, Value.int (Int32.ofNat l.length) :: st, wd)
        | some (.inr (.inl l)) => some (pc + 1, L, Value.int (Int32.ofNat l.length) :: st, wd)
        | _ => none)) = _
    rw [if_neg hk.1, if_neg hk.2, hw]
    rfl) k
theorem R_alenL {k0 : Nat} {l : List Int64} (h : sm_ic j pc = some (.arraylength, a, b, c)) (hk : ¬ k0 = 1000002 ∧ ¬ k0 = 1000004) (hw : wd[k0]? = some (.inr (.inl l))) (k : RT xs d j (pc + 1) L (.int (nI l.length) :: st) wd Q) : RT xs d j pc L (.ref k0 :: st) wd Q :=
  RT.step h rfl rfl (by
    show (if k0 = 1000002 then _ else if k0 = 1000004 then _ else (match wd[k0]? with
        | some (.inl (_, l)) => some (pc + 1, L, Value.int (Int32.ofNat l.length) :: st, wd)
        | some (.inr (.inl l)) => some (pc + 1, L, Value.int (Int32.ofNat l.length) :: st, wd)
        | _ => none)) = _
    rw [if_neg hk.1, if_neg hk.2, hw]
    rfl) k
theorem R_alenX (h : sm_ic j pc = some (.arraylength, a, b, c)) (k : RT xs d j (pc + 1) L (.int (nI xs.length) :: st) wd Q) : RT xs d j pc L (.ref 1000004 :: st) wd Q := RT.step h rfl rfl rfl k
theorem R_max {i : Nat} {x y : Int32} (h : sm_ic j pc = some (.invokestatic i, 9997, b, c)) (hd : 1 ≤ d) (hc : (st.map fun v => v.category).sum ≤ 8) (k : RT xs d j (pc + 3) L (.int (if x < y then y else x) :: st) wd Q) : RT xs d j pc L (.int y :: .int x :: st) wd Q :=
  RT.step h rfl rfl (by show (if 1 ≤ d ∧ (st.map fun v => v.category).sum ≤ 8 then _ else none) = _; rw [if_pos ⟨hd, hc⟩]; rfl) k
theorem R_min {i : Nat} {x y : Int32} (h : sm_ic j pc = some (.invokestatic i, 9996, b, c)) (hd : 1 ≤ d) (hc : (st.map fun v => v.category).sum ≤ 8) (k : RT xs d j (pc + 3) L (.int (if y < x then y else x) :: st) wd Q) : RT xs d j pc L (.int y :: .int x :: st) wd Q :=
  RT.step h rfl rfl (by show (if 1 ≤ d ∧ (st.map fun v => v.category).sum ≤ 8 then _ else none) = _; rw [if_pos ⟨hd, hc⟩]; rfl) k
theorem R_iret {ty : FieldType} {v : Int32} (h : sm_ic j pc = some (.ireturn, a, b, c)) (hty : sm_rt j = some ty) (hn : narrow ty (.int v) = .int v) (hl : ty ≠ .long) (k : Q (some (.int v)) wd) : RT xs d j pc L [.int v] wd Q :=
  RT.ret h rfl (by show (match sm_rt j with | some ty => if narrow ty (Value.int v) = Value.int v ∧ ty ≠ FieldType.long then some (some (Value.int v)) else none | none => none) = _; simp only [hty]; rw [if_pos ⟨hn, hl⟩]) k
theorem R_lret {v : Int64} (h : sm_ic j pc = some (.lreturn, a, b, c)) (hty : sm_rt j = some .long) (k : Q (some (.long v)) wd) : RT xs d j pc L [.long v] wd Q :=
  RT.ret h rfl (by show (if sm_rt j = some .long then some (some (Value.long v)) else none) = _; rw [if_pos hty]) k
theorem R_vret (h : sm_ic j pc = some (.return_, a, b, c)) (hty : sm_rt j = none) (k : Q none wd) : RT xs d j pc L [] wd Q :=
  RT.ret h rfl (by show (if sm_rt j = none then some none else none) = _; rw [if_pos hty]) k
theorem R_call0 {i : Instr} {j2 c0 : Nat} {dmy : Nat} (h : sm_ic j pc = some (i, j2, 0, c0)) (hc : sm_call (i, j2, 0, c0) = true) (hr : sm_recv j2 0 (st) wd = true) (he : (sm_exp []).length ≤ sm_ml j2) (hcat : (st.map fun v => v.category).sum ≤ 8) (k : Ct xs d j2 [] wd (fun r w => RT xs (d + 1) j (pc + 3) L (sm_push r st) w Q)) : RT xs (d + 1) j pc L (st) wd Q := RT.call h hc hr (by show 0 ≤ (List.length (_ : List Value)); simp) he hcat k
theorem R_call1 {i : Instr} {j2 c0 : Nat} {a0 : Value} (h : sm_ic j pc = some (i, j2, 1, c0)) (hc : sm_call (i, j2, 1, c0) = true) (hr : sm_recv j2 1 (a0 :: st) wd = true) (he : (sm_exp [a0]).length ≤ sm_ml j2) (hcat : (st.map fun v => v.category).sum ≤ 8) (k : Ct xs d j2 [a0] wd (fun r w => RT xs (d + 1) j (pc + 3) L (sm_push r st) w Q)) : RT xs (d + 1) j pc L (a0 :: st) wd Q := RT.call h hc hr (by show 1 ≤ (List.length (_ : List Value)); simp) he hcat k
theorem R_call2 {i : Instr} {j2 c0 : Nat} {a0 a1 : Value} (h : sm_ic j pc = some (i, j2, 2, c0)) (hc : sm_call (i, j2, 2, c0) = true) (hr : sm_recv j2 2 (a1 :: a0 :: st) wd = true) (he : (sm_exp [a0, a1]).length ≤ sm_ml j2) (hcat : (st.map fun v => v.category).sum ≤ 8) (k : Ct xs d j2 [a0, a1] wd (fun r w => RT xs (d + 1) j (pc + 3) L (sm_push r st) w Q)) : RT xs (d + 1) j pc L (a1 :: a0 :: st) wd Q := RT.call h hc hr (by show 2 ≤ (List.length (_ : List Value)); simp) he hcat k
theorem R_call3 {i : Instr} {j2 c0 : Nat} {a0 a1 a2 : Value} (h : sm_ic j pc = some (i, j2, 3, c0)) (hc : sm_call (i, j2, 3, c0) = true) (hr : sm_recv j2 3 (a2 :: a1 :: a0 :: st) wd = true) (he : (sm_exp [a0, a1, a2]).length ≤ sm_ml j2) (hcat : (st.map fun v => v.category).sum ≤ 8) (k : Ct xs d j2 [a0, a1, a2] wd (fun r w => RT xs (d + 1) j (pc + 3) L (sm_push r st) w Q)) : RT xs (d + 1) j pc L (a2 :: a1 :: a0 :: st) wd Q := RT.call h hc hr (by show 3 ≤ (List.length (_ : List Value)); simp) he hcat k
theorem R_call4 {i : Instr} {j2 c0 : Nat} {a0 a1 a2 a3 : Value} (h : sm_ic j pc = some (i, j2, 4, c0)) (hc : sm_call (i, j2, 4, c0) = true) (hr : sm_recv j2 4 (a3 :: a2 :: a1 :: a0 :: st) wd = true) (he : (sm_exp [a0, a1, a2, a3]).length ≤ sm_ml j2) (hcat : (st.map fun v => v.category).sum ≤ 8) (k : Ct xs d j2 [a0, a1, a2, a3] wd (fun r w => RT xs (d + 1) j (pc + 3) L (sm_push r st) w Q)) : RT xs (d + 1) j pc L (a3 :: a2 :: a1 :: a0 :: st) wd Q := RT.call h hc hr (by show 4 ≤ (List.length (_ : List Value)); simp) he hcat k
theorem R_call5 {i : Instr} {j2 c0 : Nat} {a0 a1 a2 a3 a4 : Value} (h : sm_ic j pc = some (i, j2, 5, c0)) (hc : sm_call (i, j2, 5, c0) = true) (hr : sm_recv j2 5 (a4 :: a3 :: a2 :: a1 :: a0 :: st) wd = true) (he : (sm_exp [a0, a1, a2, a3, a4]).length ≤ sm_ml j2) (hcat : (st.map fun v => v.category).sum ≤ 8) (k : Ct xs d j2 [a0, a1, a2, a3, a4] wd (fun r w => RT xs (d + 1) j (pc + 3) L (sm_push r st) w Q)) : RT xs (d + 1) j pc L (a4 :: a3 :: a2 :: a1 :: a0 :: st) wd Q := RT.call h hc hr (by show 5 ≤ (List.length (_ : List Value)); simp) he hcat k
theorem R_call6 {i : Instr} {j2 c0 : Nat} {a0 a1 a2 a3 a4 a5 : Value} (h : sm_ic j pc = some (i, j2, 6, c0)) (hc : sm_call (i, j2, 6, c0) = true) (hr : sm_recv j2 6 (a5 :: a4 :: a3 :: a2 :: a1 :: a0 :: st) wd = true) (he : (sm_exp [a0, a1, a2, a3, a4, a5]).length ≤ sm_ml j2) (hcat : (st.map fun v => v.category).sum ≤ 8) (k : Ct xs d j2 [a0, a1, a2, a3, a4, a5] wd (fun r w => RT xs (d + 1) j (pc + 3) L (sm_push r st) w Q)) : RT xs (d + 1) j pc L (a5 :: a4 :: a3 :: a2 :: a1 :: a0 :: st) wd Q := RT.call h hc hr (by show 6 ≤ (List.length (_ : List Value)); simp) he hcat k
end RTS
theorem sm_gs {wd : sm_W} {k : Nat} {e0 e : sm_E} (h : wd[k]? = some e0) : (wd.set k e)[k]? = some e := List.getElem?_set_self (List.getElem?_eq_some_iff.mp h).1
theorem sm_gn {wd : sm_W} {k i : Nat} {e e1 : sm_E} (hne : i ≠ k) (h : wd[k]? = some e1) : (wd.set i e)[k]? = some e1 := by rw [List.getElem?_set_ne hne]; exact h
theorem sm_ixN {α : Type} {l : List α} {i : Nat} (h : i < 2 ^ 31) : sm_ix l (nI i) = l[i]? := by
  unfold sm_ix
  rw [if_neg (nI_pos h), nI_clamp h]
theorem sm_inN {l : List Int32} {i : Nat} (h : i < l.length) (hl : l.length < 2 ^ 31) : ¬ (nI i < 0 ∨ l.length ≤ (nI i).toNatClampNeg) := nI_in h hl
theorem sm_inNL {l : List Int64} {i : Nat} (h : i < l.length) (hl : l.length < 2 ^ 31) : ¬ (nI i < 0 ∨ l.length ≤ (nI i).toNatClampNeg) := nI_in h hl
end
