section
/-- a private method of a class that the tables say can be made, by its rows of tables_1 -/
def lw_okq (q : MethodName × Nat) : Prop := (q.1.cls ≠ "java/lang/invoke/MethodHandle" ∧ q.1.cls ≠ "java/lang/invoke/VarHandle") ∧ Cond.instantiable q.1.cls q.2 ∈ tables_1 ∧ Cond.privateMethod q.1 ∈ tables_1 ∧ Cond.instanceMethod q.1 ∈ tables_1
theorem lw_p0 : lw_okq (⟨"KeyTreeGroup", "personNumbered", "(I)LKeyTreeGroup$Person;"⟩, 10) := ⟨⟨by decide +kernel, by decide +kernel⟩, List.mem_of_getElem? (i := 9) (by decide +kernel), List.mem_of_getElem? (i := 118) (by decide +kernel), List.mem_of_getElem? (i := 119) (by decide +kernel)⟩
theorem lw_p1 : lw_okq (⟨"KeyTreeGroup", "makeKey", "()I"⟩, 10) := ⟨⟨by decide +kernel, by decide +kernel⟩, List.mem_of_getElem? (i := 9) (by decide +kernel), List.mem_of_getElem? (i := 168) (by decide +kernel), List.mem_of_getElem? (i := 169) (by decide +kernel)⟩
theorem lw_p2 : lw_okq (⟨"KeyTreeGroup", "epochNumbered", "(I)LKeyTreeGroup$Epoch;"⟩, 10) := ⟨⟨by decide +kernel, by decide +kernel⟩, List.mem_of_getElem? (i := 9) (by decide +kernel), List.mem_of_getElem? (i := 191) (by decide +kernel), List.mem_of_getElem? (i := 192) (by decide +kernel)⟩
theorem lw_p3 : lw_okq (⟨"KeyTreeGroup", "proposalsNow", "()I"⟩, 10) := ⟨⟨by decide +kernel, by decide +kernel⟩, List.mem_of_getElem? (i := 9) (by decide +kernel), List.mem_of_getElem? (i := 218) (by decide +kernel), List.mem_of_getElem? (i := 219) (by decide +kernel)⟩
theorem lw_p4 : lw_okq (⟨"KeyTreeGroup", "applyUpdates", "(LKeyTreeGroup$Epoch;I)V"⟩, 10) := ⟨⟨by decide +kernel, by decide +kernel⟩, List.mem_of_getElem? (i := 9) (by decide +kernel), List.mem_of_getElem? (i := 240) (by decide +kernel), List.mem_of_getElem? (i := 241) (by decide +kernel)⟩
theorem lw_p5 : lw_okq (⟨"KeyTreeGroup", "applyRemoves", "(LKeyTreeGroup$Epoch;)V"⟩, 10) := ⟨⟨by decide +kernel, by decide +kernel⟩, List.mem_of_getElem? (i := 9) (by decide +kernel), List.mem_of_getElem? (i := 260) (by decide +kernel), List.mem_of_getElem? (i := 261) (by decide +kernel)⟩
theorem lw_p6 : lw_okq (⟨"KeyTreeGroup", "applyAdds", "(LKeyTreeGroup$Epoch;)V"⟩, 10) := ⟨⟨by decide +kernel, by decide +kernel⟩, List.mem_of_getElem? (i := 9) (by decide +kernel), List.mem_of_getElem? (i := 269) (by decide +kernel), List.mem_of_getElem? (i := 270) (by decide +kernel)⟩
theorem lw_p7 : lw_okq (⟨"KeyTreeGroup", "renewPath", "(LKeyTreeGroup$Epoch;)V"⟩, 10) := ⟨⟨by decide +kernel, by decide +kernel⟩, List.mem_of_getElem? (i := 9) (by decide +kernel), List.mem_of_getElem? (i := 285) (by decide +kernel), List.mem_of_getElem? (i := 286) (by decide +kernel)⟩
theorem lw_p8 : lw_okq (⟨"KeyTreeGroup", "sendToGroup", "(LKeyTreeGroup$Epoch;)V"⟩, 10) := ⟨⟨by decide +kernel, by decide +kernel⟩, List.mem_of_getElem? (i := 9) (by decide +kernel), List.mem_of_getElem? (i := 290) (by decide +kernel), List.mem_of_getElem? (i := 291) (by decide +kernel)⟩
theorem lw_p9 : lw_okq (⟨"KeyTreeGroup", "sendWelcomes", "(LKeyTreeGroup$Epoch;)V"⟩, 10) := ⟨⟨by decide +kernel, by decide +kernel⟩, List.mem_of_getElem? (i := 9) (by decide +kernel), List.mem_of_getElem? (i := 323) (by decide +kernel), List.mem_of_getElem? (i := 324) (by decide +kernel)⟩
theorem lw_p10 : lw_okq (⟨"KeyTreeGroup", "clearProposals", "()V"⟩, 10) := ⟨⟨by decide +kernel, by decide +kernel⟩, List.mem_of_getElem? (i := 9) (by decide +kernel), List.mem_of_getElem? (i := 330) (by decide +kernel), List.mem_of_getElem? (i := 331) (by decide +kernel)⟩
theorem lw_p11 : lw_okq (⟨"KeyTreeGroup", "growListener", "()V"⟩, 10) := ⟨⟨by decide +kernel, by decide +kernel⟩, List.mem_of_getElem? (i := 9) (by decide +kernel), List.mem_of_getElem? (i := 334) (by decide +kernel), List.mem_of_getElem? (i := 335) (by decide +kernel)⟩
theorem lw_p12 : lw_okq (⟨"KeyTreeGroup$Listener", "openMessages", "(LKeyTreeGroup$Epoch;I)V"⟩, 4) := ⟨⟨by decide +kernel, by decide +kernel⟩, List.mem_of_getElem? (i := 45) (by decide +kernel), List.mem_of_getElem? (i := 342) (by decide +kernel), List.mem_of_getElem? (i := 343) (by decide +kernel)⟩
theorem lw_p13 : lw_okq (⟨"KeyTreeGroup$Listener", "climbPath", "(LKeyTreeGroup$Epoch;)V"⟩, 4) := ⟨⟨by decide +kernel, by decide +kernel⟩, List.mem_of_getElem? (i := 45) (by decide +kernel), List.mem_of_getElem? (i := 359) (by decide +kernel), List.mem_of_getElem? (i := 360) (by decide +kernel)⟩
theorem lw_p14 : lw_okq (⟨"KeyTreeGroup", "gatherHeld", "(LKeyTreeGroup$Person;)V"⟩, 10) := ⟨⟨by decide +kernel, by decide +kernel⟩, List.mem_of_getElem? (i := 9) (by decide +kernel), List.mem_of_getElem? (i := 381) (by decide +kernel), List.mem_of_getElem? (i := 382) (by decide +kernel)⟩
theorem lw_p15 : lw_okq (⟨"KeyTreeGroup", "gatherTreeKeys", "(LKeyTreeGroup$Tree;I)V"⟩, 10) := ⟨⟨by decide +kernel, by decide +kernel⟩, List.mem_of_getElem? (i := 9) (by decide +kernel), List.mem_of_getElem? (i := 385) (by decide +kernel), List.mem_of_getElem? (i := 386) (by decide +kernel)⟩
def lw_privs_1 : List (MethodName × Nat) := [(⟨"KeyTreeGroup", "personNumbered", "(I)LKeyTreeGroup$Person;"⟩, 10), (⟨"KeyTreeGroup", "makeKey", "()I"⟩, 10), (⟨"KeyTreeGroup", "epochNumbered", "(I)LKeyTreeGroup$Epoch;"⟩, 10), (⟨"KeyTreeGroup", "proposalsNow", "()I"⟩, 10), (⟨"KeyTreeGroup", "applyUpdates", "(LKeyTreeGroup$Epoch;I)V"⟩, 10), (⟨"KeyTreeGroup", "applyRemoves", "(LKeyTreeGroup$Epoch;)V"⟩, 10), (⟨"KeyTreeGroup", "applyAdds", "(LKeyTreeGroup$Epoch;)V"⟩, 10), (⟨"KeyTreeGroup", "renewPath", "(LKeyTreeGroup$Epoch;)V"⟩, 10), (⟨"KeyTreeGroup", "sendToGroup", "(LKeyTreeGroup$Epoch;)V"⟩, 10), (⟨"KeyTreeGroup", "sendWelcomes", "(LKeyTreeGroup$Epoch;)V"⟩, 10), (⟨"KeyTreeGroup", "clearProposals", "()V"⟩, 10), (⟨"KeyTreeGroup", "growListener", "()V"⟩, 10), (⟨"KeyTreeGroup$Listener", "openMessages", "(LKeyTreeGroup$Epoch;I)V"⟩, 4), (⟨"KeyTreeGroup$Listener", "climbPath", "(LKeyTreeGroup$Epoch;)V"⟩, 4), (⟨"KeyTreeGroup", "gatherHeld", "(LKeyTreeGroup$Person;)V"⟩, 10), (⟨"KeyTreeGroup", "gatherTreeKeys", "(LKeyTreeGroup$Tree;I)V"⟩, 10)]
theorem lw_r1 : ∀ q ∈ lw_privs_1, lw_okq q := List.forall_mem_cons.mpr ⟨lw_p0, List.forall_mem_cons.mpr ⟨lw_p1, List.forall_mem_cons.mpr ⟨lw_p2, List.forall_mem_cons.mpr ⟨lw_p3, List.forall_mem_cons.mpr ⟨lw_p4, List.forall_mem_cons.mpr ⟨lw_p5, List.forall_mem_cons.mpr ⟨lw_p6, List.forall_mem_cons.mpr ⟨lw_p7, List.forall_mem_cons.mpr ⟨lw_p8, List.forall_mem_cons.mpr ⟨lw_p9, List.forall_mem_cons.mpr ⟨lw_p10, List.forall_mem_cons.mpr ⟨lw_p11, List.forall_mem_cons.mpr ⟨lw_p12, List.forall_mem_cons.mpr ⟨lw_p13, List.forall_mem_cons.mpr ⟨lw_p14, List.forall_mem_cons.mpr ⟨lw_p15, fun _ h => absurd h List.not_mem_nil⟩⟩⟩⟩⟩⟩⟩⟩⟩⟩⟩⟩⟩⟩⟩⟩
theorem lw_p16 : lw_okq (⟨"KeyTreeGroup", "membersNow", "()I"⟩, 10) := ⟨⟨by decide +kernel, by decide +kernel⟩, List.mem_of_getElem? (i := 9) (by decide +kernel), List.mem_of_getElem? (i := 438) (by decide +kernel), List.mem_of_getElem? (i := 439) (by decide +kernel)⟩
theorem lw_p17 : lw_okq (⟨"KeyTreeGroup", "usedLeavesNow", "()I"⟩, 10) := ⟨⟨by decide +kernel, by decide +kernel⟩, List.mem_of_getElem? (i := 9) (by decide +kernel), List.mem_of_getElem? (i := 442) (by decide +kernel), List.mem_of_getElem? (i := 443) (by decide +kernel)⟩
theorem lw_p18 : lw_okq (⟨"KeyTreeGroupModel", "out", "(II)Z"⟩, 22) := ⟨⟨by decide +kernel, by decide +kernel⟩, List.mem_of_getElem? (i := 446) (by decide +kernel), List.mem_of_getElem? (i := 523) (by decide +kernel), List.mem_of_getElem? (i := 524) (by decide +kernel)⟩
theorem lw_p19 : lw_okq (⟨"KeyTreeGroupModel", "proposed", "(II)I"⟩, 22) := ⟨⟨by decide +kernel, by decide +kernel⟩, List.mem_of_getElem? (i := 446) (by decide +kernel), List.mem_of_getElem? (i := 535) (by decide +kernel), List.mem_of_getElem? (i := 536) (by decide +kernel)⟩
theorem lw_p20 : lw_okq (⟨"KeyTreeGroupModel", "blankLeaves", "(I)I"⟩, 22) := ⟨⟨by decide +kernel, by decide +kernel⟩, List.mem_of_getElem? (i := 446) (by decide +kernel), List.mem_of_getElem? (i := 539) (by decide +kernel), List.mem_of_getElem? (i := 540) (by decide +kernel)⟩
theorem lw_p21 : lw_okq (⟨"KeyTreeGroupModel", "many", "(I)I"⟩, 22) := ⟨⟨by decide +kernel, by decide +kernel⟩, List.mem_of_getElem? (i := 446) (by decide +kernel), List.mem_of_getElem? (i := 543) (by decide +kernel), List.mem_of_getElem? (i := 544) (by decide +kernel)⟩
theorem lw_p22 : lw_okq (⟨"KeyTreeGroupModel", "propose", "(III)I"⟩, 22) := ⟨⟨by decide +kernel, by decide +kernel⟩, List.mem_of_getElem? (i := 446) (by decide +kernel), List.mem_of_getElem? (i := 547) (by decide +kernel), List.mem_of_getElem? (i := 548) (by decide +kernel)⟩
theorem lw_p23 : lw_okq (⟨"KeyTreeGroupModel", "middle", "(II)V"⟩, 22) := ⟨⟨by decide +kernel, by decide +kernel⟩, List.mem_of_getElem? (i := 446) (by decide +kernel), List.mem_of_getElem? (i := 563) (by decide +kernel), List.mem_of_getElem? (i := 564) (by decide +kernel)⟩
theorem lw_p24 : lw_okq (⟨"KeyTreeGroupModel", "blankAbove", "(I)V"⟩, 22) := ⟨⟨by decide +kernel, by decide +kernel⟩, List.mem_of_getElem? (i := 446) (by decide +kernel), List.mem_of_getElem? (i := 567) (by decide +kernel), List.mem_of_getElem? (i := 568) (by decide +kernel)⟩
theorem lw_p25 : lw_okq (⟨"KeyTreeGroupModel", "putAdded", "(II)V"⟩, 22) := ⟨⟨by decide +kernel, by decide +kernel⟩, List.mem_of_getElem? (i := 446) (by decide +kernel), List.mem_of_getElem? (i := 571) (by decide +kernel), List.mem_of_getElem? (i := 572) (by decide +kernel)⟩
theorem lw_p26 : lw_okq (⟨"KeyTreeGroupModel", "sendPath", "(I)V"⟩, 22) := ⟨⟨by decide +kernel, by decide +kernel⟩, List.mem_of_getElem? (i := 446) (by decide +kernel), List.mem_of_getElem? (i := 575) (by decide +kernel), List.mem_of_getElem? (i := 576) (by decide +kernel)⟩
theorem lw_p27 : lw_okq (⟨"KeyTreeGroupModel", "resolve", "(II)I"⟩, 22) := ⟨⟨by decide +kernel, by decide +kernel⟩, List.mem_of_getElem? (i := 446) (by decide +kernel), List.mem_of_getElem? (i := 579) (by decide +kernel), List.mem_of_getElem? (i := 580) (by decide +kernel)⟩
theorem lw_p28 : lw_okq (⟨"KeyTreeGroupModel", "isAdded", "(I)Z"⟩, 22) := ⟨⟨by decide +kernel, by decide +kernel⟩, List.mem_of_getElem? (i := 446) (by decide +kernel), List.mem_of_getElem? (i := 583) (by decide +kernel), List.mem_of_getElem? (i := 584) (by decide +kernel)⟩
theorem lw_p29 : lw_okq (⟨"KeyTreeGroupModel", "send", "(II)V"⟩, 22) := ⟨⟨by decide +kernel, by decide +kernel⟩, List.mem_of_getElem? (i := 446) (by decide +kernel), List.mem_of_getElem? (i := 587) (by decide +kernel), List.mem_of_getElem? (i := 588) (by decide +kernel)⟩
theorem lw_p30 : lw_okq (⟨"KeyTreeGroupModel", "meeting", "(II)I"⟩, 22) := ⟨⟨by decide +kernel, by decide +kernel⟩, List.mem_of_getElem? (i := 446) (by decide +kernel), List.mem_of_getElem? (i := 591) (by decide +kernel), List.mem_of_getElem? (i := 592) (by decide +kernel)⟩
theorem lw_p31 : lw_okq (⟨"KeyTreeGroupModel", "grow", "()V"⟩, 22) := ⟨⟨by decide +kernel, by decide +kernel⟩, List.mem_of_getElem? (i := 446) (by decide +kernel), List.mem_of_getElem? (i := 607) (by decide +kernel), List.mem_of_getElem? (i := 608) (by decide +kernel)⟩
def lw_privs_2 : List (MethodName × Nat) := [(⟨"KeyTreeGroup", "membersNow", "()I"⟩, 10), (⟨"KeyTreeGroup", "usedLeavesNow", "()I"⟩, 10), (⟨"KeyTreeGroupModel", "out", "(II)Z"⟩, 22), (⟨"KeyTreeGroupModel", "proposed", "(II)I"⟩, 22), (⟨"KeyTreeGroupModel", "blankLeaves", "(I)I"⟩, 22), (⟨"KeyTreeGroupModel", "many", "(I)I"⟩, 22), (⟨"KeyTreeGroupModel", "propose", "(III)I"⟩, 22), (⟨"KeyTreeGroupModel", "middle", "(II)V"⟩, 22), (⟨"KeyTreeGroupModel", "blankAbove", "(I)V"⟩, 22), (⟨"KeyTreeGroupModel", "putAdded", "(II)V"⟩, 22), (⟨"KeyTreeGroupModel", "sendPath", "(I)V"⟩, 22), (⟨"KeyTreeGroupModel", "resolve", "(II)I"⟩, 22), (⟨"KeyTreeGroupModel", "isAdded", "(I)Z"⟩, 22), (⟨"KeyTreeGroupModel", "send", "(II)V"⟩, 22), (⟨"KeyTreeGroupModel", "meeting", "(II)I"⟩, 22), (⟨"KeyTreeGroupModel", "grow", "()V"⟩, 22)]
theorem lw_r2 : ∀ q ∈ lw_privs_2, lw_okq q := List.forall_mem_cons.mpr ⟨lw_p16, List.forall_mem_cons.mpr ⟨lw_p17, List.forall_mem_cons.mpr ⟨lw_p18, List.forall_mem_cons.mpr ⟨lw_p19, List.forall_mem_cons.mpr ⟨lw_p20, List.forall_mem_cons.mpr ⟨lw_p21, List.forall_mem_cons.mpr ⟨lw_p22, List.forall_mem_cons.mpr ⟨lw_p23, List.forall_mem_cons.mpr ⟨lw_p24, List.forall_mem_cons.mpr ⟨lw_p25, List.forall_mem_cons.mpr ⟨lw_p26, List.forall_mem_cons.mpr ⟨lw_p27, List.forall_mem_cons.mpr ⟨lw_p28, List.forall_mem_cons.mpr ⟨lw_p29, List.forall_mem_cons.mpr ⟨lw_p30, List.forall_mem_cons.mpr ⟨lw_p31, fun _ h => absurd h List.not_mem_nil⟩⟩⟩⟩⟩⟩⟩⟩⟩⟩⟩⟩⟩⟩⟩⟩
theorem lw_p32 : lw_okq (⟨"KeyTreeGroupModel", "learn", "()Z"⟩, 22) := ⟨⟨by decide +kernel, by decide +kernel⟩, List.mem_of_getElem? (i := 446) (by decide +kernel), List.mem_of_getElem? (i := 611) (by decide +kernel), List.mem_of_getElem? (i := 612) (by decide +kernel)⟩
theorem lw_p33 : lw_okq (⟨"KeyTreeGroupModel", "noNode", "(II)Z"⟩, 22) := ⟨⟨by decide +kernel, by decide +kernel⟩, List.mem_of_getElem? (i := 446) (by decide +kernel), List.mem_of_getElem? (i := 640) (by decide +kernel), List.mem_of_getElem? (i := 641) (by decide +kernel)⟩
def lw_privs_3 : List (MethodName × Nat) := [(⟨"KeyTreeGroupModel", "learn", "()Z"⟩, 22), (⟨"KeyTreeGroupModel", "noNode", "(II)Z"⟩, 22)]
theorem lw_r3 : ∀ q ∈ lw_privs_3, lw_okq q := List.forall_mem_cons.mpr ⟨lw_p32, List.forall_mem_cons.mpr ⟨lw_p33, fun _ h => absurd h List.not_mem_nil⟩⟩
def lw_privs : List (MethodName × Nat) := lw_privs_1 ++ (lw_privs_2 ++ (lw_privs_3))
def lw_tbl : List Cond := k2_sels lw_privs ++ tables_1
theorem lw_privs_ok : ∀ q ∈ lw_privs, lw_okq q := by
  show ∀ q ∈ lw_privs_1 ++ (lw_privs_2 ++ (lw_privs_3)), lw_okq q
  exact List.forall_mem_append.mpr ⟨lw_r1, List.forall_mem_append.mpr ⟨lw_r2, lw_r3⟩⟩
end
section
/-! PRINTED by wip/whole/gen.py: classes, methods, instructions, links, and that the tables bear them out -/
def zq_R0 : String := "KeyTreeGroup"
def zq_T0 : u_T := fun k => match k with
  | 0 => ("KeyTreeGroup", "persons", "[LKeyTreeGroup$Person;", true)
  | 1 => ("KeyTreeGroup", "epochs", "[LKeyTreeGroup$Epoch;", true)
  | 2 => ("KeyTreeGroup", "listener", "LKeyTreeGroup$Listener;", true)
  | 3 => ("KeyTreeGroup", "updaters", "LKeyTreeGroup$Row;", true)
  | 4 => ("KeyTreeGroup", "leavingLeaves", "LKeyTreeGroup$Row;", true)
  | 5 => ("KeyTreeGroup", "joiners", "LKeyTreeGroup$Row;", true)
  | 6 => ("KeyTreeGroup", "resolved", "LKeyTreeGroup$Row;", true)
  | 7 => ("KeyTreeGroup", "held", "LKeyTreeGroup$Row;", true)
  | 8 => ("KeyTreeGroup", "newest", "I", false)
  | _ => ("KeyTreeGroup", "keysMade", "I", false)
def zq_ty0 : Nat → FieldType := fun k => match k with
  | 0 => .array (.object "KeyTreeGroup$Person")
  | 1 => .array (.object "KeyTreeGroup$Epoch")
  | 2 => .object "KeyTreeGroup$Listener"
  | 3 => .object "KeyTreeGroup$Row"
  | 4 => .object "KeyTreeGroup$Row"
  | 5 => .object "KeyTreeGroup$Row"
  | 6 => .object "KeyTreeGroup$Row"
  | 7 => .object "KeyTreeGroup$Row"
  | 8 => .int
  | _ => .int
def zq_R1 : String := "KeyTreeGroup$Epoch"
def zq_T1 : u_T := fun k => match k with
  | 0 => ("KeyTreeGroup$Epoch", "tree", "LKeyTreeGroup$Tree;", true)
  | 1 => ("KeyTreeGroup$Epoch", "committerNode", "I", true)
  | 2 => ("KeyTreeGroup$Epoch", "locks", "LKeyTreeGroup$Row;", true)
  | 3 => ("KeyTreeGroup$Epoch", "carried", "LKeyTreeGroup$Row;", true)
  | 4 => ("KeyTreeGroup$Epoch", "removedLeaves", "I", false)
  | _ => ("KeyTreeGroup$Epoch", "addedLeaves", "I", false)
def zq_ty1 : Nat → FieldType := fun k => match k with
  | 0 => .object "KeyTreeGroup$Tree"
  | 1 => .int
  | 2 => .object "KeyTreeGroup$Row"
  | 3 => .object "KeyTreeGroup$Row"
  | 4 => .int
  | _ => .int
def zq_R2 : String := "KeyTreeGroup$Listener"
def zq_T2 : u_T := fun k => match k with
  | 0 => ("KeyTreeGroup$Listener", "keysKnown", "[Z", true)
  | 1 => ("KeyTreeGroup$Listener", "secretsKnown", "[Z", true)
  | 2 => ("KeyTreeGroup$Listener", "keysHeard", "I", false)
  | _ => ("KeyTreeGroup$Listener", "secretsHeard", "I", false)
def zq_ty2 : Nat → FieldType := fun k => match k with
  | 0 => .array .boolean
  | 1 => .array .boolean
  | 2 => .int
  | _ => .int
def zq_R3 : String := "KeyTreeGroup$Person"
def zq_T3 : u_T := fun k => match k with
  | 0 => ("KeyTreeGroup$Person", "standing", "I", false)
  | 1 => ("KeyTreeGroup$Person", "reached", "I", false)
  | 2 => ("KeyTreeGroup$Person", "seat", "I", false)
  | 3 => ("KeyTreeGroup$Person", "publishedKey", "I", false)
  | _ => ("KeyTreeGroup$Person", "updateKey", "I", false)
def zq_ty3 : Nat → FieldType := fun k => match k with
  | 0 => .int
  | 1 => .int
  | 2 => .int
  | 3 => .int
  | _ => .int
def zq_R4 : String := "KeyTreeGroup$Row"
def zq_T4 : u_T := fun k => match k with
  | 0 => ("KeyTreeGroup$Row", "items", "[I", true)
  | _ => ("KeyTreeGroup$Row", "size", "I", false)
def zq_ty4 : Nat → FieldType := fun k => match k with
  | 0 => .array .int
  | _ => .int
def zq_R5 : String := "KeyTreeGroup$Tree"
def zq_T5 : u_T := fun k => match k with
  | 0 => ("KeyTreeGroup$Tree", "keys", "[I", true)
  | _ => ("KeyTreeGroup$Tree", "unmergedLeaves", "[I", true)
def zq_ty5 : Nat → FieldType := fun k => match k with
  | 0 => .array .int
  | _ => .array .int
def zq_R6 : String := "KeyTreeGroupModel"
def zq_T6 : u_T := fun k => match k with
  | 0 => ("KeyTreeGroupModel", "newest", "I", false)
  | 1 => ("KeyTreeGroupModel", "made", "I", false)
  | 2 => ("KeyTreeGroupModel", "key", "[I", true)
  | 3 => ("KeyTreeGroupModel", "unmerged", "[I", true)
  | 4 => ("KeyTreeGroupModel", "removed", "[I", true)
  | 5 => ("KeyTreeGroupModel", "sent", "[I", true)
  | 6 => ("KeyTreeGroupModel", "pathFirst", "[I", true)
  | 7 => ("KeyTreeGroupModel", "state", "[I", true)
  | 8 => ("KeyTreeGroupModel", "own", "[I", true)
  | 9 => ("KeyTreeGroupModel", "at", "[I", true)
  | 10 => ("KeyTreeGroupModel", "leaf", "[I", true)
  | 11 => ("KeyTreeGroupModel", "proposals", "I", false)
  | 12 => ("KeyTreeGroupModel", "kind", "[I", true)
  | 13 => ("KeyTreeGroupModel", "who", "[I", true)
  | 14 => ("KeyTreeGroupModel", "with", "[I", true)
  | 15 => ("KeyTreeGroupModel", "messages", "I", false)
  | 16 => ("KeyTreeGroupModel", "what", "[I", true)
  | 17 => ("KeyTreeGroupModel", "under", "[I", true)
  | 18 => ("KeyTreeGroupModel", "heard", "[Z", true)
  | 19 => ("KeyTreeGroupModel", "told", "[Z", true)
  | 20 => ("KeyTreeGroupModel", "list", "[I", true)
  | _ => ("KeyTreeGroupModel", "stack", "[I", true)
def zq_ty6 : Nat → FieldType := fun k => match k with
  | 0 => .int
  | 1 => .int
  | 2 => .array .int
  | 3 => .array .int
  | 4 => .array .int
  | 5 => .array .int
  | 6 => .array .int
  | 7 => .array .int
  | 8 => .array .int
  | 9 => .array .int
  | 10 => .array .int
  | 11 => .int
  | 12 => .array .int
  | 13 => .array .int
  | 14 => .array .int
  | 15 => .int
  | 16 => .array .int
  | 17 => .array .int
  | 18 => .array .boolean
  | 19 => .array .boolean
  | 20 => .array .int
  | _ => .array .int
abbrev vwCl : List vw_C := [(zq_R0, zq_T0, 10), (zq_R1, zq_T1, 6), (zq_R2, zq_T2, 4), (zq_R3, zq_T3, 5), (zq_R4, zq_T4, 2), (zq_R5, zq_T5, 2), (zq_R6, zq_T6, 22)]
def zq_cn (c : Nat) : String := ["KeyTreeGroup", "KeyTreeGroup$Epoch", "KeyTreeGroup$Listener", "KeyTreeGroup$Person", "KeyTreeGroup$Row", "KeyTreeGroup$Tree", "KeyTreeGroupModel", "KeyTreeGroupLaw"].getD c ""
def zq_T (c : Nat) : u_T := [zq_T0, zq_T1, zq_T2, zq_T3, zq_T4, zq_T5, zq_T6].getD c (fun _ => ("", "", "", false))
def zq_ty (c : Nat) : Nat → FieldType := [zq_ty0, zq_ty1, zq_ty2, zq_ty3, zq_ty4, zq_ty5, zq_ty6].getD c (fun _ => .int)
def zq_nf (c : Nat) : Nat := [10, 6, 4, 5, 2, 2, 22].getD c 0
def zq_ptr (c k : Nat) : Bool := match zq_ty c k with
  | .int => false
  | _ => true
def zq_nmL : List MethodName := [⟨"KeyTreeGroupLaw", "law", "([I)Z"⟩, ⟨"KeyTreeGroup", "<init>", "()V"⟩, ⟨"KeyTreeGroup", "found", "(I)I"⟩, ⟨"KeyTreeGroup", "publish", "(I)I"⟩, ⟨"KeyTreeGroup", "add", "(I)I"⟩, ⟨"KeyTreeGroup", "remove", "(I)I"⟩, ⟨"KeyTreeGroup", "update", "(I)I"⟩, ⟨"KeyTreeGroup", "commit", "(I)I"⟩, ⟨"KeyTreeGroup", "process", "(I)I"⟩, ⟨"KeyTreeGroup", "leak", "(I)I"⟩, ⟨"KeyTreeGroup", "state", "(I)I"⟩, ⟨"KeyTreeGroup", "epoch", "(I)I"⟩, ⟨"KeyTreeGroup", "leaf", "(I)I"⟩, ⟨"KeyTreeGroup", "key", "(II)I"⟩, ⟨"KeyTreeGroup", "unmerged", "(II)I"⟩, ⟨"KeyTreeGroup", "resolution", "(III)I"⟩, ⟨"KeyTreeGroup", "sent", "(I)I"⟩, ⟨"KeyTreeGroup", "holds", "(II)Z"⟩, ⟨"KeyTreeGroup", "keyHeard", "(I)Z"⟩, ⟨"KeyTreeGroup", "secretHeard", "(I)Z"⟩, ⟨"KeyTreeGroup", "count", "(I)I"⟩, ⟨"KeyTreeGroup", "isNode", "(I)Z"⟩, ⟨"KeyTreeGroup", "nodeOfLeaf", "(I)I"⟩, ⟨"KeyTreeGroup", "parentOf", "(I)I"⟩, ⟨"KeyTreeGroup", "siblingOf", "(I)I"⟩, ⟨"KeyTreeGroup", "personNumbered", "(I)LKeyTreeGroup$Person;"⟩, ⟨"KeyTreeGroup", "epochNumbered", "(I)LKeyTreeGroup$Epoch;"⟩, ⟨"KeyTreeGroup", "makeKey", "()I"⟩, ⟨"KeyTreeGroup", "proposalsNow", "()I"⟩, ⟨"KeyTreeGroup", "membersNow", "()I"⟩, ⟨"KeyTreeGroup", "usedLeavesNow", "()I"⟩, ⟨"KeyTreeGroup", "applyUpdates", "(LKeyTreeGroup$Epoch;I)V"⟩, ⟨"KeyTreeGroup", "applyRemoves", "(LKeyTreeGroup$Epoch;)V"⟩, ⟨"KeyTreeGroup", "applyAdds", "(LKeyTreeGroup$Epoch;)V"⟩, ⟨"KeyTreeGroup", "renewPath", "(LKeyTreeGroup$Epoch;)V"⟩, ⟨"KeyTreeGroup", "sendToGroup", "(LKeyTreeGroup$Epoch;)V"⟩, ⟨"KeyTreeGroup", "sendWelcomes", "(LKeyTreeGroup$Epoch;)V"⟩, ⟨"KeyTreeGroup", "lowestPathNodeAbove", "(II)I"⟩, ⟨"KeyTreeGroup", "clearProposals", "()V"⟩, ⟨"KeyTreeGroup", "gatherHeld", "(LKeyTreeGroup$Person;)V"⟩, ⟨"KeyTreeGroup", "gatherTreeKeys", "(LKeyTreeGroup$Tree;I)V"⟩, ⟨"KeyTreeGroup", "growListener", "()V"⟩, ⟨"KeyTreeGroup", "resolve", "(LKeyTreeGroup$Tree;ILKeyTreeGroup$Row;)V"⟩, ⟨"KeyTreeGroup$Epoch", "<init>", "(I)V"⟩, ⟨"KeyTreeGroup$Epoch", "noteRemoved", "(I)V"⟩, ⟨"KeyTreeGroup$Epoch", "noteAdded", "(I)V"⟩, ⟨"KeyTreeGroup$Epoch", "hasRemoved", "(I)Z"⟩, ⟨"KeyTreeGroup$Epoch", "hasAdded", "(I)Z"⟩, ⟨"KeyTreeGroup$Epoch", "send", "(II)V"⟩, ⟨"KeyTreeGroup$Listener", "<init>", "()V"⟩, ⟨"KeyTreeGroup$Listener", "hasKey", "(I)Z"⟩, ⟨"KeyTreeGroup$Listener", "hasSecret", "(I)Z"⟩, ⟨"KeyTreeGroup$Listener", "hearKey", "(I)V"⟩, ⟨"KeyTreeGroup$Listener", "hearSecret", "(I)V"⟩, ⟨"KeyTreeGroup$Listener", "follow", "(LKeyTreeGroup$Epoch;I)V"⟩, ⟨"KeyTreeGroup$Listener", "openMessages", "(LKeyTreeGroup$Epoch;I)V"⟩, ⟨"KeyTreeGroup$Listener", "climbPath", "(LKeyTreeGroup$Epoch;)V"⟩, ⟨"KeyTreeGroup$Person", "<init>", "()V"⟩, ⟨"KeyTreeGroup$Person", "join", "(II)V"⟩, ⟨"KeyTreeGroup$Row", "<init>", "(I)V"⟩, ⟨"KeyTreeGroup$Row", "clear", "()V"⟩, ⟨"KeyTreeGroup$Row", "append", "(I)V"⟩, ⟨"KeyTreeGroup$Row", "at", "(I)I"⟩, ⟨"KeyTreeGroup$Row", "contains", "(I)Z"⟩, ⟨"KeyTreeGroup$Tree", "<init>", "()V"⟩, ⟨"KeyTreeGroup$Tree", "copyFrom", "(LKeyTreeGroup$Tree;)V"⟩, ⟨"KeyTreeGroup$Tree", "keyAt", "(I)I"⟩, ⟨"KeyTreeGroup$Tree", "unmergedAt", "(I)I"⟩, ⟨"KeyTreeGroup$Tree", "isBlank", "(I)Z"⟩, ⟨"KeyTreeGroup$Tree", "isUnmerged", "(II)Z"⟩, ⟨"KeyTreeGroup$Tree", "giveKey", "(II)V"⟩, ⟨"KeyTreeGroup$Tree", "blank", "(I)V"⟩, ⟨"KeyTreeGroup$Tree", "blankAbove", "(I)V"⟩, ⟨"KeyTreeGroup$Tree", "markUnmergedAbove", "(I)V"⟩, ⟨"KeyTreeGroup$Tree", "leastBlankLeaf", "()I"⟩, ⟨"KeyTreeGroup$Tree", "usedLeaves", "()I"⟩, ⟨"KeyTreeGroupModel", "<init>", "()V"⟩, ⟨"KeyTreeGroupModel", "out", "(II)Z"⟩, ⟨"KeyTreeGroupModel", "found", "(I)I"⟩, ⟨"KeyTreeGroupModel", "publish", "(I)I"⟩, ⟨"KeyTreeGroupModel", "proposed", "(II)I"⟩, ⟨"KeyTreeGroupModel", "many", "(I)I"⟩, ⟨"KeyTreeGroupModel", "blankLeaves", "(I)I"⟩, ⟨"KeyTreeGroupModel", "propose", "(III)I"⟩, ⟨"KeyTreeGroupModel", "add", "(I)I"⟩, ⟨"KeyTreeGroupModel", "remove", "(I)I"⟩, ⟨"KeyTreeGroupModel", "update", "(I)I"⟩, ⟨"KeyTreeGroupModel", "blankAbove", "(I)V"⟩, ⟨"KeyTreeGroupModel", "putAdded", "(II)V"⟩, ⟨"KeyTreeGroupModel", "middle", "(II)V"⟩, ⟨"KeyTreeGroupModel", "resolve", "(II)I"⟩, ⟨"KeyTreeGroupModel", "isAdded", "(I)Z"⟩, ⟨"KeyTreeGroupModel", "send", "(II)V"⟩, ⟨"KeyTreeGroupModel", "sendPath", "(I)V"⟩, ⟨"KeyTreeGroupModel", "meeting", "(II)I"⟩, ⟨"KeyTreeGroupModel", "commit", "(I)I"⟩, ⟨"KeyTreeGroupModel", "process", "(I)I"⟩, ⟨"KeyTreeGroupModel", "holds", "(II)Z"⟩, ⟨"KeyTreeGroupModel", "leak", "(I)I"⟩, ⟨"KeyTreeGroupModel", "learn", "()Z"⟩, ⟨"KeyTreeGroupModel", "grow", "()V"⟩, ⟨"KeyTreeGroupModel", "keyHeard", "(I)Z"⟩, ⟨"KeyTreeGroupModel", "secretHeard", "(I)Z"⟩, ⟨"KeyTreeGroupModel", "state", "(I)I"⟩, ⟨"KeyTreeGroupModel", "epoch", "(I)I"⟩, ⟨"KeyTreeGroupModel", "leaf", "(I)I"⟩, ⟨"KeyTreeGroupModel", "noNode", "(II)Z"⟩, ⟨"KeyTreeGroupModel", "key", "(II)I"⟩, ⟨"KeyTreeGroupModel", "unmerged", "(II)I"⟩, ⟨"KeyTreeGroupModel", "resolution", "(III)I"⟩, ⟨"KeyTreeGroupModel", "sent", "(I)I"⟩, ⟨"KeyTreeGroupModel", "count", "(I)I"⟩]
def zq_nm (j : Nat) : MethodName := zq_nmL.getD j ⟨"", "", ""⟩
def zq_bcL : List ByteArray := [code, prog_1_method_1_code, prog_1_method_2_code, prog_1_method_3_code, prog_1_method_4_code, prog_1_method_5_code, prog_1_method_6_code, prog_1_method_7_code, prog_1_method_8_code, prog_1_method_9_code, prog_1_method_10_code, prog_1_method_11_code, prog_1_method_12_code, prog_1_method_13_code, prog_1_method_14_code, prog_1_method_15_code, prog_1_method_16_code, prog_1_method_17_code, prog_1_method_18_code, prog_1_method_19_code, prog_1_method_20_code, prog_1_method_21_code, prog_1_method_22_code, prog_1_method_23_code, prog_1_method_24_code, prog_1_method_25_code, prog_1_method_26_code, prog_1_method_27_code, prog_1_method_28_code, prog_1_method_29_code, prog_1_method_30_code, prog_1_method_31_code, prog_1_method_32_code, prog_1_method_33_code, prog_1_method_34_code, prog_1_method_35_code, prog_1_method_36_code, prog_1_method_37_code, prog_1_method_38_code, prog_1_method_39_code, prog_1_method_40_code, prog_1_method_41_code, prog_1_method_42_code, prog_2_method_1_code, prog_2_method_2_code, prog_2_method_3_code, prog_2_method_4_code, prog_2_method_5_code, prog_2_method_6_code, prog_3_method_1_code, prog_3_method_2_code, prog_3_method_3_code, prog_3_method_4_code, prog_3_method_5_code, prog_3_method_6_code, prog_3_method_7_code, prog_3_method_8_code, prog_4_method_1_code, prog_4_method_2_code, prog_5_method_1_code, prog_5_method_2_code, prog_5_method_3_code, prog_5_method_4_code, prog_5_method_5_code, prog_6_method_1_code, prog_6_method_2_code, prog_6_method_3_code, prog_6_method_4_code, prog_6_method_5_code, prog_6_method_6_code, prog_6_method_7_code, prog_6_method_8_code, prog_6_method_9_code, prog_6_method_10_code, prog_6_method_11_code, prog_6_method_12_code, prog_8_method_1_code, prog_8_method_2_code, prog_8_method_3_code, prog_8_method_4_code, prog_8_method_5_code, prog_8_method_6_code, prog_8_method_7_code, prog_8_method_8_code, prog_8_method_9_code, prog_8_method_10_code, prog_8_method_11_code, prog_8_method_12_code, prog_8_method_13_code, prog_8_method_14_code, prog_8_method_15_code, prog_8_method_16_code, prog_8_method_17_code, prog_8_method_18_code, prog_8_method_19_code, prog_8_method_20_code, prog_8_method_21_code, prog_8_method_22_code, prog_8_method_23_code, prog_8_method_24_code, prog_8_method_25_code, prog_8_method_26_code, prog_8_method_27_code, prog_8_method_28_code, prog_8_method_29_code, prog_8_method_30_code, prog_8_method_31_code, prog_8_method_32_code, prog_8_method_33_code, prog_8_method_34_code, prog_8_method_35_code, prog_8_method_36_code]
def zq_bc (j : Nat) : ByteArray := zq_bcL.getD j ⟨#[]⟩
def zq_ml (j : Nat) : Nat := [4, 2, 5, 3, 5, 3, 3, 5, 4, 5, 3, 3, 3, 4, 4, 5, 3, 4, 2, 2, 2, 1, 1, 1, 1, 2, 2, 1, 1, 4, 2, 6, 4, 5, 3, 6, 5, 4, 3, 3, 4, 3, 4, 2, 2, 2, 2, 2, 3, 1, 2, 2, 2, 2, 3, 4, 3, 1, 3, 2, 1, 2, 2, 3, 1, 3, 2, 2, 2, 3, 3, 2, 3, 3, 2, 3, 1, 3, 2, 2, 4, 4, 4, 4, 2, 2, 2, 3, 5, 4, 7, 3, 3, 7, 4, 6, 2, 6, 4, 5, 2, 2, 2, 2, 2, 2, 3, 3, 3, 5, 2, 4].getD j 0
def zq_na (j : Nat) : Nat := [1, 1, 2, 2, 2, 2, 2, 2, 2, 2, 2, 2, 2, 3, 3, 4, 2, 3, 2, 2, 2, 1, 1, 1, 1, 2, 2, 1, 1, 1, 1, 3, 2, 2, 2, 2, 2, 2, 1, 2, 3, 1, 3, 2, 2, 2, 2, 2, 3, 1, 2, 2, 2, 2, 3, 3, 2, 1, 3, 2, 1, 2, 2, 2, 1, 2, 2, 2, 2, 3, 3, 2, 2, 2, 1, 1, 1, 3, 2, 2, 3, 2, 2, 4, 2, 2, 2, 2, 3, 3, 3, 2, 3, 2, 3, 2, 2, 3, 2, 1, 1, 2, 2, 2, 2, 2, 3, 3, 3, 4, 2, 2].getD j 0
def zq_ret (j : Nat) : Option FieldType := ([some .boolean, none, some .int, some .int, some .int, some .int, some .int, some .int, some .int, some .int, some .int, some .int, some .int, some .int, some .int, some .int, some .int, some .boolean, some .boolean, some .boolean, some .int, some .boolean, some .int, some .int, some .int, some (.object "KeyTreeGroup$Person"), some (.object "KeyTreeGroup$Epoch"), some .int, some .int, some .int, some .int, none, none, none, none, none, none, some .int, none, none, none, none, none, none, none, none, some .boolean, some .boolean, none, none, some .boolean, some .boolean, none, none, none, none, none, none, none, none, none, none, some .int, some .boolean, none, none, some .int, some .int, some .boolean, some .boolean, none, none, none, none, some .int, some .int, none, some .boolean, some .int, some .int, some .int, some .int, some .int, some .int, some .int, some .int, some .int, none, none, none, some .int, some .boolean, none, none, some .int, some .int, some .int, some .boolean, some .int, some .boolean, none, some .boolean, some .boolean, some .int, some .int, some .int, some .boolean, some .int, some .int, some .int, some .int, some .int] : List (Option FieldType)).getD j none
def zq_oc (j : Nat) : Nat := [7, 0, 0, 0, 0, 0, 0, 0, 0, 0, 0, 0, 0, 0, 0, 0, 0, 0, 0, 0, 0, 0, 0, 0, 0, 0, 0, 0, 0, 0, 0, 0, 0, 0, 0, 0, 0, 0, 0, 0, 0, 0, 0, 1, 1, 1, 1, 1, 1, 2, 2, 2, 2, 2, 2, 2, 2, 3, 3, 4, 4, 4, 4, 4, 5, 5, 5, 5, 5, 5, 5, 5, 5, 5, 5, 5, 6, 6, 6, 6, 6, 6, 6, 6, 6, 6, 6, 6, 6, 6, 6, 6, 6, 6, 6, 6, 6, 6, 6, 6, 6, 6, 6, 6, 6, 6, 6, 6, 6, 6, 6, 6].getD j 99
def zq_own (j : Nat) : String := zq_cn (zq_oc j)
def zq_ini (j : Nat) : Bool := [false, true, false, false, false, false, false, false, false, false, false, false, false, false, false, false, false, false, false, false, false, false, false, false, false, false, false, false, false, false, false, false, false, false, false, false, false, false, false, false, false, false, false, true, false, false, false, false, false, true, false, false, false, false, false, false, false, true, false, true, false, false, false, false, true, false, false, false, false, false, false, false, false, false, false, false, true, false, false, false, false, false, false, false, false, false, false, false, false, false, false, false, false, false, false, false, false, false, false, false, false, false, false, false, false, false, false, false, false, false, false, false].getD j false
def zq_i0 : List (Option Instr) := [some (.new 7), none, none, some (.dup), some (.invokespecial 9), none, none, some (.astore_n 1), some (.new 10), none, none, some (.dup), some (.invokespecial 12), none, none, some (.astore_n 2), some (.iconst 0), some (.istore_n 3), some (.iload_n 3), some (.aload_n 0), some (.arraylength), some (.iconst 4), some (.isub), some (.if_icmp .gt 594), none, none, some (.aload_n 0), some (.iload_n 3), some (.iaload), some (.bipush 31), none, some (.iand), some (.tableswitch 579 0 18 #[92, 115, 138, 161, 184, 207, 230, 253, 276, 299, 322, 345, 378, 411, 454, 477, 510, 533, 556]), none, none, none, none, none, none, none, none, none, none, none, none, none, none, none, none, none, none, none, none, none, none, none, none, none, none, none, none, none, none, none, none, none, none, none, none, none, none, none, none, none, none, none, none, none, none, none, none, none, none, none, none, none, none, none, none, none, none, none, none, none, none, none, none, none, none, none, none, none, none, none, none, none, none, none, none, none, none, none, none, none, none, none, none, none, none, none, none, none, none, none, some (.aload_n 1), some (.aload_n 0), some (.iload_n 3), some (.iconst 1), some (.iadd), some (.iaload), some (.invokevirtual 13), none, none, some (.aload_n 2), some (.aload_n 0), some (.iload_n 3), some (.iconst 1), some (.iadd), some (.iaload), some (.invokevirtual 17), none, none, some (.if_icmp .eq 469), none, none, some (.iconst 0), some (.ireturn), some (.aload_n 1), some (.aload_n 0), some (.iload_n 3), some (.iconst 1), some (.iadd), some (.iaload), some (.invokevirtual 18), none, none, some (.aload_n 2), some (.aload_n 0), some (.iload_n 3), some (.iconst 1), some (.iadd), some (.iaload), some (.invokevirtual 21), none, none, some (.if_icmp .eq 446), none, none, some (.iconst 0), some (.ireturn), some (.aload_n 1), some (.aload_n 0), some (.iload_n 3), some (.iconst 1), some (.iadd), some (.iaload), some (.invokevirtual 22), none, none, some (.aload_n 2), some (.aload_n 0), some (.iload_n 3), some (.iconst 1), some (.iadd), some (.iaload), some (.invokevirtual 25), none, none, some (.if_icmp .eq 423), none, none, some (.iconst 0), some (.ireturn), some (.aload_n 1), some (.aload_n 0), some (.iload_n 3), some (.iconst 1), some (.iadd), some (.iaload), some (.invokevirtual 26), none, none, some (.aload_n 2), some (.aload_n 0), some (.iload_n 3), some (.iconst 1), some (.iadd), some (.iaload), some (.invokevirtual 29), none, none, some (.if_icmp .eq 400), none, none, some (.iconst 0), some (.ireturn), some (.aload_n 1), some (.aload_n 0), some (.iload_n 3), some (.iconst 1), some (.iadd), some (.iaload), some (.invokevirtual 30), none, none, some (.aload_n 2), some (.aload_n 0), some (.iload_n 3), some (.iconst 1), some (.iadd), some (.iaload), some (.invokevirtual 33), none, none, some (.if_icmp .eq 377), none, none, some (.iconst 0), some (.ireturn), some (.aload_n 1), some (.aload_n 0), some (.iload_n 3), some (.iconst 1), some (.iadd), some (.iaload), some (.invokevirtual 34), none, none, some (.aload_n 2), some (.aload_n 0), some (.iload_n 3), some (.iconst 1), some (.iadd), some (.iaload), some (.invokevirtual 37), none, none, some (.if_icmp .eq 354), none, none, some (.iconst 0), some (.ireturn), some (.aload_n 1), some (.aload_n 0), some (.iload_n 3), some (.iconst 1), some (.iadd), some (.iaload), some (.invokevirtual 38), none, none, some (.aload_n 2), some (.aload_n 0), some (.iload_n 3), some (.iconst 1), some (.iadd), some (.iaload), some (.invokevirtual 41), none, none, some (.if_icmp .eq 331), none, none, some (.iconst 0), some (.ireturn), some (.aload_n 1), some (.aload_n 0), some (.iload_n 3), some (.iconst 1), some (.iadd), some (.iaload), some (.invokevirtual 42), none, none, some (.aload_n 2), some (.aload_n 0), some (.iload_n 3), some (.iconst 1), some (.iadd), some (.iaload), some (.invokevirtual 45), none, none, some (.if_icmp .eq 308), none, none, some (.iconst 0), some (.ireturn), some (.aload_n 1), some (.aload_n 0), some (.iload_n 3), some (.iconst 1), some (.iadd), some (.iaload), some (.invokevirtual 46), none, none, some (.aload_n 2), some (.aload_n 0), some (.iload_n 3), some (.iconst 1), some (.iadd), some (.iaload), some (.invokevirtual 49), none, none, some (.if_icmp .eq 285), none, none, some (.iconst 0), some (.ireturn), some (.aload_n 1), some (.aload_n 0), some (.iload_n 3), some (.iconst 1), some (.iadd), some (.iaload), some (.invokevirtual 50), none, none, some (.aload_n 2), some (.aload_n 0), some (.iload_n 3), some (.iconst 1), some (.iadd), some (.iaload), some (.invokevirtual 53), none, none, some (.if_icmp .eq 262), none, none, some (.iconst 0), some (.ireturn), some (.aload_n 1), some (.aload_n 0), some (.iload_n 3), some (.iconst 1), some (.iadd), some (.iaload), some (.invokevirtual 54), none, none, some (.aload_n 2), some (.aload_n 0), some (.iload_n 3), some (.iconst 1), some (.iadd), some (.iaload), some (.invokevirtual 57), none, none, some (.if_icmp .eq 239), none, none, some (.iconst 0), some (.ireturn), some (.aload_n 1), some (.aload_n 0), some (.iload_n 3), some (.iconst 1), some (.iadd), some (.iaload), some (.aload_n 0), some (.iload_n 3), some (.iconst 2), some (.iadd), some (.iaload), some (.invokevirtual 58), none, none, some (.aload_n 2), some (.aload_n 0), some (.iload_n 3), some (.iconst 1), some (.iadd), some (.iaload), some (.aload_n 0), some (.iload_n 3), some (.iconst 2), some (.iadd), some (.iaload), some (.invokevirtual 62), none, none, some (.if_icmp .eq 206), none, none, some (.iconst 0), some (.ireturn), some (.aload_n 1), some (.aload_n 0), some (.iload_n 3), some (.iconst 1), some (.iadd), some (.iaload), some (.aload_n 0), some (.iload_n 3), some (.iconst 2), some (.iadd), some (.iaload), some (.invokevirtual 63), none, none, some (.aload_n 2), some (.aload_n 0), some (.iload_n 3), some (.iconst 1), some (.iadd), some (.iaload), some (.aload_n 0), some (.iload_n 3), some (.iconst 2), some (.iadd), some (.iaload), some (.invokevirtual 66), none, none, some (.if_icmp .eq 173), none, none, some (.iconst 0), some (.ireturn), some (.aload_n 1), some (.aload_n 0), some (.iload_n 3), some (.iconst 1), some (.iadd), some (.iaload), some (.aload_n 0), some (.iload_n 3), some (.iconst 2), some (.iadd), some (.iaload), some (.aload_n 0), some (.iload_n 3), some (.iconst 3), some (.iadd), some (.iaload), some (.invokevirtual 67), none, none, some (.aload_n 2), some (.aload_n 0), some (.iload_n 3), some (.iconst 1), some (.iadd), some (.iaload), some (.aload_n 0), some (.iload_n 3), some (.iconst 2), some (.iadd), some (.iaload), some (.aload_n 0), some (.iload_n 3), some (.iconst 3), some (.iadd), some (.iaload), some (.invokevirtual 71), none, none, some (.if_icmp .eq 130), none, none, some (.iconst 0), some (.ireturn), some (.aload_n 1), some (.aload_n 0), some (.iload_n 3), some (.iconst 1), some (.iadd), some (.iaload), some (.invokevirtual 72), none, none, some (.aload_n 2), some (.aload_n 0), some (.iload_n 3), some (.iconst 1), some (.iadd), some (.iaload), some (.invokevirtual 75), none, none, some (.if_icmp .eq 107), none, none, some (.iconst 0), some (.ireturn), some (.aload_n 1), some (.aload_n 0), some (.iload_n 3), some (.iconst 1), some (.iadd), some (.iaload), some (.aload_n 0), some (.iload_n 3), some (.iconst 2), some (.iadd), some (.iaload), some (.invokevirtual 76), none, none, some (.aload_n 2), some (.aload_n 0), some (.iload_n 3), some (.iconst 1), some (.iadd), some (.iaload), some (.aload_n 0), some (.iload_n 3), some (.iconst 2), some (.iadd), some (.iaload), some (.invokevirtual 80), none, none, some (.if_icmp .eq 74), none, none, some (.iconst 0), some (.ireturn), some (.aload_n 1), some (.aload_n 0), some (.iload_n 3), some (.iconst 1), some (.iadd), some (.iaload), some (.invokevirtual 81), none, none, some (.aload_n 2), some (.aload_n 0), some (.iload_n 3), some (.iconst 1), some (.iadd), some (.iaload), some (.invokevirtual 85), none, none, some (.if_icmp .eq 51), none, none, some (.iconst 0), some (.ireturn), some (.aload_n 1), some (.aload_n 0), some (.iload_n 3), some (.iconst 1), some (.iadd), some (.iaload), some (.invokevirtual 86), none, none, some (.aload_n 2), some (.aload_n 0), some (.iload_n 3), some (.iconst 1), some (.iadd), some (.iaload), some (.invokevirtual 89), none, none, some (.if_icmp .eq 28), none, none, some (.iconst 0), some (.ireturn), some (.aload_n 1), some (.aload_n 0), some (.iload_n 3), some (.iconst 1), some (.iadd), some (.iaload), some (.invokevirtual 90), none, none, some (.aload_n 2), some (.aload_n 0), some (.iload_n 3), some (.iconst 1), some (.iadd), some (.iaload), some (.invokevirtual 93), none, none, some (.if_icmp .eq 5), none, none, some (.iconst 0), some (.ireturn), some (.iinc 3 4), none, none, some (.goto (-596)), none, none, some (.iconst 1), some (.ireturn)]
def zq_i1 : List (Option Instr) := [some (.aload_n 0), some (.invokespecial 3), none, none, some (.aload_n 0), some (.bipush 10), none, some (.anewarray 9), none, none, some (.putfield 11), none, none, some (.iconst 0), some (.istore_n 1), some (.iload_n 1), some (.bipush 10), none, some (.if_icmp .ge 22), none, none, some (.aload_n 0), some (.getfield 11), none, none, some (.iload_n 1), some (.new 9), none, none, some (.dup), some (.invokespecial 15), none, none, some (.aastore), some (.iinc 1 1), none, none, some (.goto (-22)), none, none, some (.aload_n 0), some (.bipush 21), none, some (.anewarray 16), none, none, some (.putfield 18), none, none, some (.aload_n 0), some (.new 22), none, none, some (.dup), some (.invokespecial 24), none, none, some (.putfield 25), none, none, some (.aload_n 0), some (.new 29), none, none, some (.dup), some (.bipush 10), none, some (.invokespecial 31), none, none, some (.putfield 34), none, none, some (.aload_n 0), some (.new 29), none, none, some (.dup), some (.bipush 8), none, some (.invokespecial 31), none, none, some (.putfield 38), none, none, some (.aload_n 0), some (.new 29), none, none, some (.dup), some (.bipush 10), none, some (.invokespecial 31), none, none, some (.putfield 41), none, none, some (.aload_n 0), some (.new 29), none, none, some (.dup), some (.bipush 15), none, some (.invokespecial 31), none, none, some (.putfield 44), none, none, some (.aload_n 0), some (.new 29), none, none, some (.dup), some (.iconst 5), some (.invokespecial 31), none, none, some (.putfield 47), none, none, some (.aload_n 0), some (.iconst (-1)), some (.putfield 50), none, none, some (.aload_n 0), some (.iconst 0), some (.putfield 54), none, none, some (.return_)]
def zq_i2 : List (Option Instr) := [some (.aload_n 0), some (.iload_n 1), some (.invokevirtual 57), none, none, some (.astore_n 2), some (.aload_n 2), some (.ifnull 19), none, none, some (.aload_n 0), some (.getfield 50), none, none, some (.iconst (-1)), some (.if_icmp .ne 11), none, none, some (.aload_n 2), some (.getfield 61), none, none, some (.iconst 1), some (.if_icmp .ne 5), none, none, some (.iconst (-1)), some (.ireturn), some (.new 16), none, none, some (.dup), some (.bipush 8), none, some (.invokespecial 64), none, none, some (.astore_n 3), some (.aload_n 0), some (.invokevirtual 65), none, none, some (.istore 4), none, some (.aload_n 3), some (.getfield 69), none, none, some (.bipush 8), none, some (.iload 4), none, some (.invokevirtual 73), none, none, some (.aload_n 0), some (.iconst 0), some (.putfield 50), none, none, some (.aload_n 0), some (.getfield 18), none, none, some (.aload_n 0), some (.getfield 50), none, none, some (.aload_n 3), some (.aastore), some (.aload_n 2), some (.iconst 0), some (.aload_n 0), some (.getfield 50), none, none, some (.invokevirtual 79), none, none, some (.iload 4), none, some (.ireturn)]
def zq_i3 : List (Option Instr) := [some (.aload_n 0), some (.iload_n 1), some (.invokevirtual 57), none, none, some (.astore_n 2), some (.aload_n 2), some (.ifnull 19), none, none, some (.aload_n 2), some (.getfield 61), none, none, some (.iconst 1), some (.if_icmp .eq 11), none, none, some (.aload_n 2), some (.getfield 61), none, none, some (.iconst 2), some (.if_icmp .ne 5), none, none, some (.iconst (-1)), some (.ireturn), some (.aload_n 0), some (.getfield 54), none, none, some (.bipush 120), none, some (.if_icmp .lt 6), none, none, some (.bipush (-2)), none, some (.ireturn), some (.aload_n 2), some (.iconst 1), some (.putfield 61), none, none, some (.aload_n 2), some (.aload_n 0), some (.invokevirtual 65), none, none, some (.putfield 82), none, none, some (.aload_n 2), some (.getfield 82), none, none, some (.ireturn)]
def zq_i4 : List (Option Instr) := [some (.aload_n 0), some (.iload_n 1), some (.invokevirtual 57), none, none, some (.astore_n 2), some (.aload_n 0), some (.aload_n 0), some (.getfield 50), none, none, some (.invokevirtual 85), none, none, some (.astore_n 3), some (.aload_n 2), some (.ifnull 26), none, none, some (.aload_n 3), some (.ifnull 22), none, none, some (.aload_n 2), some (.getfield 61), none, none, some (.iconst 1), some (.if_icmp .ne 14), none, none, some (.aload_n 0), some (.getfield 41), none, none, some (.iload_n 1), some (.invokevirtual 89), none, none, some (.ifCond .eq 5), none, none, some (.iconst (-1)), some (.ireturn), some (.bipush 8), none, some (.aload_n 3), some (.getfield 69), none, none, some (.invokevirtual 93), none, none, some (.isub), some (.istore 4), none, some (.iload 4), none, some (.aload_n 0), some (.getfield 38), none, none, some (.getfield 96), none, none, some (.iadd), some (.aload_n 0), some (.getfield 41), none, none, some (.getfield 96), none, none, some (.if_icmp .gt 6), none, none, some (.bipush (-2)), none, some (.ireturn), some (.aload_n 0), some (.getfield 41), none, none, some (.iload_n 1), some (.invokevirtual 99), none, none, some (.aload_n 0), some (.invokevirtual 102), none, none, some (.ireturn)]
def zq_i5 : List (Option Instr) := [some (.aload_n 0), some (.aload_n 0), some (.getfield 50), none, none, some (.invokevirtual 85), none, none, some (.astore_n 2), some (.iload_n 1), some (.ifCond .lt 13), none, none, some (.iload_n 1), some (.bipush 8), none, some (.if_icmp .ge 7), none, none, some (.aload_n 2), some (.ifnonnull 5), none, none, some (.iconst (-1)), some (.ireturn), some (.aload_n 2), some (.getfield 69), none, none, some (.iload_n 1), some (.invokestatic 105), none, none, some (.invokevirtual 109), none, none, some (.ifCond .ne 14), none, none, some (.aload_n 0), some (.getfield 38), none, none, some (.iload_n 1), some (.invokevirtual 89), none, none, some (.ifCond .eq 5), none, none, some (.iconst (-1)), some (.ireturn), some (.aload_n 0), some (.getfield 38), none, none, some (.iload_n 1), some (.invokevirtual 99), none, none, some (.aload_n 0), some (.invokevirtual 102), none, none, some (.ireturn)]
def zq_i6 : List (Option Instr) := [some (.aload_n 0), some (.iload_n 1), some (.invokevirtual 57), none, none, some (.astore_n 2), some (.aload_n 2), some (.ifnull 22), none, none, some (.aload_n 2), some (.getfield 61), none, none, some (.iconst 2), some (.if_icmp .ne 14), none, none, some (.aload_n 0), some (.getfield 34), none, none, some (.iload_n 1), some (.invokevirtual 89), none, none, some (.ifCond .eq 5), none, none, some (.iconst (-1)), some (.ireturn), some (.aload_n 2), some (.getfield 112), none, none, some (.aload_n 0), some (.getfield 50), none, none, some (.if_icmp .eq 6), none, none, some (.bipush (-3)), none, some (.ireturn), some (.aload_n 0), some (.getfield 54), none, none, some (.bipush 120), none, some (.if_icmp .lt 6), none, none, some (.bipush (-2)), none, some (.ireturn), some (.aload_n 0), some (.getfield 34), none, none, some (.iload_n 1), some (.invokevirtual 99), none, none, some (.aload_n 2), some (.aload_n 0), some (.invokevirtual 65), none, none, some (.putfield 115), none, none, some (.aload_n 2), some (.getfield 115), none, none, some (.ireturn)]
def zq_i7 : List (Option Instr) := [some (.aload_n 0), some (.iload_n 1), some (.invokevirtual 57), none, none, some (.astore_n 2), some (.aload_n 0), some (.aload_n 0), some (.getfield 50), none, none, some (.invokevirtual 85), none, none, some (.astore_n 3), some (.aload_n 2), some (.ifnull 29), none, none, some (.aload_n 3), some (.ifnull 25), none, none, some (.aload_n 2), some (.getfield 61), none, none, some (.iconst 2), some (.if_icmp .ne 17), none, none, some (.aload_n 0), some (.getfield 38), none, none, some (.aload_n 2), some (.getfield 118), none, none, some (.invokevirtual 89), none, none, some (.ifCond .eq 5), none, none, some (.iconst (-1)), some (.ireturn), some (.aload_n 2), some (.getfield 112), none, none, some (.aload_n 0), some (.getfield 50), none, none, some (.if_icmp .eq 6), none, none, some (.bipush (-3)), none, some (.ireturn), some (.aload_n 0), some (.getfield 50), none, none, some (.bipush 20), none, some (.if_icmp .ge 12), none, none, some (.aload_n 0), some (.getfield 54), none, none, some (.bipush 116), none, some (.if_icmp .le 6), none, none, some (.bipush (-2)), none, some (.ireturn), some (.new 16), none, none, some (.dup), some (.aload_n 2), some (.getfield 118), none, none, some (.invokestatic 105), none, none, some (.invokespecial 64), none, none, some (.astore 4), none, some (.aload 4), none, some (.getfield 69), none, none, some (.aload_n 3), some (.getfield 69), none, none, some (.invokevirtual 121), none, none, some (.aload_n 0), some (.dup), some (.getfield 50), none, none, some (.iconst 1), some (.iadd), some (.putfield 50), none, none, some (.aload_n 0), some (.getfield 18), none, none, some (.aload_n 0), some (.getfield 50), none, none, some (.aload 4), none, some (.aastore), some (.aload_n 0), some (.aload 4), none, some (.iload_n 1), some (.invokevirtual 125), none, none, some (.aload_n 0), some (.aload 4), none, some (.invokevirtual 129), none, none, some (.aload_n 0), some (.aload 4), none, some (.invokevirtual 133), none, none, some (.aload_n 0), some (.aload 4), none, some (.invokevirtual 136), none, none, some (.aload_n 0), some (.aload 4), none, some (.invokevirtual 139), none, none, some (.aload_n 0), some (.aload 4), none, some (.invokevirtual 142), none, none, some (.aload_n 2), some (.aload_n 0), some (.getfield 50), none, none, some (.putfield 112), none, none, some (.aload_n 0), some (.invokevirtual 145), none, none, some (.aload_n 0), some (.invokevirtual 148), none, none, some (.aload_n 0), some (.getfield 50), none, none, some (.ireturn)]
def zq_i8 : List (Option Instr) := [some (.aload_n 0), some (.iload_n 1), some (.invokevirtual 57), none, none, some (.astore_n 2), some (.aload_n 2), some (.ifnull 11), none, none, some (.aload_n 2), some (.getfield 61), none, none, some (.iconst 2), some (.if_icmp .eq 5), none, none, some (.iconst (-1)), some (.ireturn), some (.aload_n 0), some (.aload_n 2), some (.getfield 112), none, none, some (.iconst 1), some (.iadd), some (.invokevirtual 85), none, none, some (.astore_n 3), some (.aload_n 3), some (.ifnonnull 5), none, none, some (.iconst (-1)), some (.ireturn), some (.aload_n 3), some (.aload_n 2), some (.getfield 118), none, none, some (.invokevirtual 151), none, none, some (.ifCond .eq 10), none, none, some (.aload_n 2), some (.iconst 3), some (.putfield 61), none, none, some (.iconst 3), some (.ireturn), some (.aload_n 2), some (.dup), some (.getfield 112), none, none, some (.iconst 1), some (.iadd), some (.putfield 112), none, none, some (.aload_n 2), some (.getfield 112), none, none, some (.ireturn)]
def zq_i9 : List (Option Instr) := [some (.aload_n 0), some (.iload_n 1), some (.invokevirtual 57), none, none, some (.astore_n 2), some (.aload_n 2), some (.ifnonnull 5), none, none, some (.iconst (-1)), some (.ireturn), some (.aload_n 0), some (.getfield 25), none, none, some (.getfield 154), none, none, some (.istore_n 3), some (.aload_n 0), some (.aload_n 2), some (.invokevirtual 157), none, none, some (.iconst 0), some (.istore 4), none, some (.iload 4), none, some (.aload_n 0), some (.getfield 47), none, none, some (.getfield 96), none, none, some (.if_icmp .ge 25), none, none, some (.aload_n 0), some (.getfield 25), none, none, some (.aload_n 0), some (.getfield 47), none, none, some (.iload 4), none, some (.invokevirtual 161), none, none, some (.invokevirtual 164), none, none, some (.iinc 4 1), none, none, some (.goto (-31)), none, none, some (.aload_n 0), some (.getfield 25), none, none, some (.getfield 154), none, none, some (.iload_n 3), some (.isub), some (.istore 4), none, some (.aload_n 2), some (.getfield 61), none, none, some (.iconst 2), some (.if_icmp .ne 14), none, none, some (.aload_n 0), some (.getfield 25), none, none, some (.aload_n 2), some (.getfield 112), none, none, some (.invokevirtual 167), none, none, some (.aload_n 0), some (.invokevirtual 148), none, none, some (.iload 4), none, some (.ireturn)]
def zq_i10 : List (Option Instr) := [some (.aload_n 0), some (.iload_n 1), some (.invokevirtual 57), none, none, some (.astore_n 2), some (.aload_n 2), some (.ifnonnull 7), none, none, some (.iconst (-1)), some (.goto 7), none, none, some (.aload_n 2), some (.getfield 61), none, none, some (.ireturn)]
def zq_i11 : List (Option Instr) := [some (.aload_n 0), some (.iload_n 1), some (.invokevirtual 57), none, none, some (.astore_n 2), some (.aload_n 2), some (.ifnull 11), none, none, some (.aload_n 2), some (.getfield 61), none, none, some (.iconst 2), some (.if_icmp .eq 7), none, none, some (.iconst (-1)), some (.goto 7), none, none, some (.aload_n 2), some (.getfield 112), none, none, some (.ireturn)]
def zq_i12 : List (Option Instr) := [some (.aload_n 0), some (.iload_n 1), some (.invokevirtual 57), none, none, some (.astore_n 2), some (.aload_n 2), some (.ifnull 11), none, none, some (.aload_n 2), some (.getfield 61), none, none, some (.iconst 2), some (.if_icmp .eq 7), none, none, some (.iconst (-1)), some (.goto 7), none, none, some (.aload_n 2), some (.getfield 118), none, none, some (.ireturn)]
def zq_i13 : List (Option Instr) := [some (.aload_n 0), some (.iload_n 1), some (.invokevirtual 85), none, none, some (.astore_n 3), some (.aload_n 3), some (.ifnull 10), none, none, some (.iload_n 2), some (.invokestatic 170), none, none, some (.ifCond .ne 7), none, none, some (.iconst (-1)), some (.goto 11), none, none, some (.aload_n 3), some (.getfield 69), none, none, some (.iload_n 2), some (.invokevirtual 173), none, none, some (.ireturn)]
def zq_i14 : List (Option Instr) := [some (.aload_n 0), some (.iload_n 1), some (.invokevirtual 85), none, none, some (.astore_n 3), some (.aload_n 3), some (.ifnull 10), none, none, some (.iload_n 2), some (.invokestatic 170), none, none, some (.ifCond .ne 7), none, none, some (.iconst (-1)), some (.goto 11), none, none, some (.aload_n 3), some (.getfield 69), none, none, some (.iload_n 2), some (.invokevirtual 176), none, none, some (.ireturn)]
def zq_i15 : List (Option Instr) := [some (.aload_n 0), some (.iload_n 1), some (.invokevirtual 85), none, none, some (.astore 4), none, some (.aload 4), none, some (.ifnull 15), none, none, some (.iload_n 2), some (.invokestatic 170), none, none, some (.ifCond .eq 8), none, none, some (.iload_n 3), some (.iconst (-1)), some (.if_icmp .ge 5), none, none, some (.iconst (-1)), some (.ireturn), some (.aload_n 0), some (.getfield 44), none, none, some (.invokevirtual 179), none, none, some (.aload 4), none, some (.getfield 69), none, none, some (.iload_n 2), some (.aload_n 0), some (.getfield 44), none, none, some (.invokestatic 182), none, none, some (.iload_n 3), some (.iconst (-1)), some (.if_icmp .ne 11), none, none, some (.aload_n 0), some (.getfield 44), none, none, some (.getfield 96), none, none, some (.ireturn), some (.iload_n 3), some (.aload_n 0), some (.getfield 44), none, none, some (.getfield 96), none, none, some (.if_icmp .ge 14), none, none, some (.aload_n 0), some (.getfield 44), none, none, some (.iload_n 3), some (.invokevirtual 161), none, none, some (.goto 4), none, none, some (.iconst (-1)), some (.ireturn)]
def zq_i16 : List (Option Instr) := [some (.aload_n 0), some (.iload_n 1), some (.invokevirtual 85), none, none, some (.astore_n 2), some (.aload_n 2), some (.ifnull 7), none, none, some (.iload_n 1), some (.ifCond .ne 7), none, none, some (.iconst (-1)), some (.goto 10), none, none, some (.aload_n 2), some (.getfield 186), none, none, some (.getfield 96), none, none, some (.ireturn)]
def zq_i17 : List (Option Instr) := [some (.aload_n 0), some (.iload_n 1), some (.invokevirtual 57), none, none, some (.astore_n 3), some (.aload_n 3), some (.ifnonnull 5), none, none, some (.iconst 0), some (.ireturn), some (.aload_n 0), some (.aload_n 3), some (.invokevirtual 157), none, none, some (.aload_n 0), some (.getfield 47), none, none, some (.iload_n 2), some (.invokevirtual 89), none, none, some (.ireturn)]
def zq_i18 : List (Option Instr) := [some (.aload_n 0), some (.getfield 25), none, none, some (.iload_n 1), some (.invokevirtual 189), none, none, some (.ireturn)]
def zq_i19 : List (Option Instr) := [some (.aload_n 0), some (.getfield 25), none, none, some (.iload_n 1), some (.invokevirtual 192), none, none, some (.ireturn)]
def zq_i20 : List (Option Instr) := [some (.iload_n 1), some (.tableswitch 84 0 6 #[43, 48, 53, 58, 63, 71, 79]), none, none, none, none, none, none, none, none, none, none, none, none, none, none, none, none, none, none, none, none, none, none, none, none, none, none, none, none, none, none, none, none, none, none, none, none, none, none, none, none, none, none, some (.aload_n 0), some (.getfield 50), none, none, some (.ireturn), some (.aload_n 0), some (.getfield 54), none, none, some (.ireturn), some (.aload_n 0), some (.invokevirtual 102), none, none, some (.ireturn), some (.aload_n 0), some (.invokevirtual 195), none, none, some (.ireturn), some (.aload_n 0), some (.getfield 25), none, none, some (.getfield 154), none, none, some (.ireturn), some (.aload_n 0), some (.getfield 25), none, none, some (.getfield 198), none, none, some (.ireturn), some (.aload_n 0), some (.invokevirtual 201), none, none, some (.ireturn), some (.bipush (-2)), none, some (.ireturn)]
def zq_i21 : List (Option Instr) := [some (.iload_n 0), some (.iconst 1), some (.if_icmp .lt 13), none, none, some (.iload_n 0), some (.bipush 15), none, some (.if_icmp .gt 7), none, none, some (.iconst 1), some (.goto 4), none, none, some (.iconst 0), some (.ireturn)]
def zq_i22 : List (Option Instr) := [some (.bipush 8), none, some (.iload_n 0), some (.iadd), some (.ireturn)]
def zq_i23 : List (Option Instr) := [some (.iload_n 0), some (.iconst 1), some (.ishr), some (.ireturn)]
def zq_i24 : List (Option Instr) := [some (.iload_n 0), some (.iconst 1), some (.ixor), some (.ireturn)]
def zq_i25 : List (Option Instr) := [some (.iload_n 1), some (.ifCond .lt 18), none, none, some (.iload_n 1), some (.bipush 10), none, some (.if_icmp .ge 12), none, none, some (.aload_n 0), some (.getfield 11), none, none, some (.iload_n 1), some (.aaload), some (.goto 4), none, none, some (.aconst_null), some (.areturn)]
def zq_i26 : List (Option Instr) := [some (.iload_n 1), some (.ifCond .lt 20), none, none, some (.iload_n 1), some (.aload_n 0), some (.getfield 50), none, none, some (.if_icmp .gt 12), none, none, some (.aload_n 0), some (.getfield 18), none, none, some (.iload_n 1), some (.aaload), some (.goto 4), none, none, some (.aconst_null), some (.areturn)]
def zq_i27 : List (Option Instr) := [some (.aload_n 0), some (.dup), some (.getfield 54), none, none, some (.iconst 1), some (.iadd), some (.putfield 54), none, none, some (.aload_n 0), some (.getfield 54), none, none, some (.ireturn)]
def zq_i28 : List (Option Instr) := [some (.aload_n 0), some (.getfield 34), none, none, some (.getfield 96), none, none, some (.aload_n 0), some (.getfield 38), none, none, some (.getfield 96), none, none, some (.iadd), some (.aload_n 0), some (.getfield 41), none, none, some (.getfield 96), none, none, some (.iadd), some (.ireturn)]
def zq_i29 : List (Option Instr) := [some (.iconst 0), some (.istore_n 1), some (.iconst 0), some (.istore_n 2), some (.iload_n 2), some (.bipush 10), none, some (.if_icmp .ge 30), none, none, some (.aload_n 0), some (.iload_n 2), some (.invokevirtual 57), none, none, some (.astore_n 3), some (.aload_n 3), some (.ifnull 14), none, none, some (.aload_n 3), some (.getfield 61), none, none, some (.iconst 2), some (.if_icmp .ne 6), none, none, some (.iinc 1 1), none, none, some (.iinc 2 1), none, none, some (.goto (-30)), none, none, some (.iload_n 1), some (.ireturn)]
def zq_i30 : List (Option Instr) := [some (.aload_n 0), some (.aload_n 0), some (.getfield 50), none, none, some (.invokevirtual 85), none, none, some (.astore_n 1), some (.aload_n 1), some (.ifnonnull 7), none, none, some (.iconst 0), some (.goto 10), none, none, some (.aload_n 1), some (.getfield 69), none, none, some (.invokevirtual 93), none, none, some (.ireturn)]
def zq_i31 : List (Option Instr) := [some (.iconst 0), some (.istore_n 3), some (.iload_n 3), some (.aload_n 0), some (.getfield 34), none, none, some (.getfield 96), none, none, some (.if_icmp .ge 73), none, none, some (.aload_n 0), some (.aload_n 0), some (.getfield 34), none, none, some (.iload_n 3), some (.invokevirtual 161), none, none, some (.invokevirtual 57), none, none, some (.astore 4), none, some (.aload 4), none, some (.ifnull 48), none, none, some (.aload_n 0), some (.getfield 34), none, none, some (.iload_n 3), some (.invokevirtual 161), none, none, some (.iload_n 2), some (.if_icmp .eq 36), none, none, some (.aload 4), none, some (.getfield 118), none, none, some (.invokestatic 105), none, none, some (.istore 5), none, some (.aload_n 1), some (.getfield 69), none, none, some (.iload 5), none, some (.aload 4), none, some (.getfield 115), none, none, some (.invokevirtual 73), none, none, some (.aload_n 1), some (.getfield 69), none, none, some (.iload 5), none, some (.invokevirtual 204), none, none, some (.iinc 3 1), none, none, some (.goto (-78)), none, none, some (.return_)]
def zq_i32 : List (Option Instr) := [some (.iconst 0), some (.istore_n 2), some (.iload_n 2), some (.aload_n 0), some (.getfield 38), none, none, some (.getfield 96), none, none, some (.if_icmp .ge 45), none, none, some (.aload_n 0), some (.getfield 38), none, none, some (.iload_n 2), some (.invokevirtual 161), none, none, some (.istore_n 3), some (.aload_n 1), some (.iload_n 3), some (.invokevirtual 207), none, none, some (.aload_n 1), some (.getfield 69), none, none, some (.iload_n 3), some (.invokestatic 105), none, none, some (.invokevirtual 210), none, none, some (.aload_n 1), some (.getfield 69), none, none, some (.iload_n 3), some (.invokestatic 105), none, none, some (.invokevirtual 204), none, none, some (.iinc 2 1), none, none, some (.goto (-50)), none, none, some (.return_)]
def zq_i33 : List (Option Instr) := [some (.iconst 0), some (.istore_n 2), some (.iload_n 2), some (.aload_n 0), some (.getfield 41), none, none, some (.getfield 96), none, none, some (.if_icmp .ge 83), none, none, some (.aload_n 0), some (.aload_n 0), some (.getfield 41), none, none, some (.iload_n 2), some (.invokevirtual 161), none, none, some (.invokevirtual 57), none, none, some (.astore_n 3), some (.aload_n 1), some (.getfield 69), none, none, some (.invokevirtual 213), none, none, some (.istore 4), none, some (.aload_n 3), some (.ifnull 51), none, none, some (.iload 4), none, some (.bipush 8), none, some (.if_icmp .ge 44), none, none, some (.aload_n 1), some (.getfield 69), none, none, some (.iload 4), none, some (.invokestatic 105), none, none, some (.aload_n 3), some (.getfield 82), none, none, some (.invokevirtual 73), none, none, some (.aload_n 1), some (.getfield 69), none, none, some (.iload 4), none, some (.invokevirtual 216), none, none, some (.aload_n 1), some (.iload 4), none, some (.invokevirtual 219), none, none, some (.aload_n 3), some (.iload 4), none, some (.aload_n 0), some (.getfield 50), none, none, some (.invokevirtual 79), none, none, some (.iinc 2 1), none, none, some (.goto (-88)), none, none, some (.return_)]
def zq_i34 : List (Option Instr) := [some (.aload_n 1), some (.getfield 222), none, none, some (.istore_n 2), some (.iload_n 2), some (.iconst 1), some (.if_icmp .lt 23), none, none, some (.aload_n 1), some (.getfield 69), none, none, some (.iload_n 2), some (.aload_n 0), some (.invokevirtual 65), none, none, some (.invokevirtual 73), none, none, some (.iload_n 2), some (.invokestatic 225), none, none, some (.istore_n 2), some (.goto (-22)), none, none, some (.return_)]
def zq_i35 : List (Option Instr) := [some (.aload_n 1), some (.getfield 222), none, none, some (.istore_n 2), some (.iload_n 2), some (.iconst 1), some (.if_icmp .le 103), none, none, some (.aload_n 1), some (.getfield 69), none, none, some (.iload_n 2), some (.invokestatic 225), none, none, some (.invokevirtual 173), none, none, some (.istore_n 3), some (.aload_n 0), some (.getfield 44), none, none, some (.invokevirtual 179), none, none, some (.aload_n 1), some (.getfield 69), none, none, some (.iload_n 2), some (.invokestatic 228), none, none, some (.aload_n 0), some (.getfield 44), none, none, some (.invokestatic 182), none, none, some (.iconst 0), some (.istore 4), none, some (.iload 4), none, some (.aload_n 0), some (.getfield 44), none, none, some (.getfield 96), none, none, some (.if_icmp .ge 46), none, none, some (.aload_n 0), some (.getfield 44), none, none, some (.iload 4), none, some (.invokevirtual 161), none, none, some (.istore 5), none, some (.aload_n 1), some (.iload 5), none, some (.bipush 8), none, some (.isub), some (.invokevirtual 231), none, none, some (.ifCond .ne 17), none, none, some (.aload_n 1), some (.aload_n 1), some (.getfield 69), none, none, some (.iload 5), none, some (.invokevirtual 173), none, none, some (.iload_n 3), some (.invokevirtual 234), none, none, some (.iinc 4 1), none, none, some (.goto (-52)), none, none, some (.iload_n 2), some (.invokestatic 225), none, none, some (.istore_n 2), some (.goto (-102)), none, none, some (.return_)]
def zq_i36 : List (Option Instr) := [some (.iconst 0), some (.istore_n 2), some (.iload_n 2), some (.aload_n 0), some (.getfield 41), none, none, some (.getfield 96), none, none, some (.if_icmp .ge 68), none, none, some (.aload_n 0), some (.aload_n 0), some (.getfield 41), none, none, some (.iload_n 2), some (.invokevirtual 161), none, none, some (.invokevirtual 57), none, none, some (.astore_n 3), some (.aload_n 3), some (.ifnull 45), none, none, some (.aload_n 1), some (.getfield 222), none, none, some (.aload_n 3), some (.getfield 118), none, none, some (.invokestatic 105), none, none, some (.invokestatic 237), none, none, some (.istore 4), none, some (.aload_n 1), some (.aload_n 3), some (.getfield 82), none, none, some (.aload_n 1), some (.getfield 69), none, none, some (.iload 4), none, some (.invokevirtual 173), none, none, some (.invokevirtual 234), none, none, some (.aload_n 1), some (.aload_n 3), some (.getfield 82), none, none, some (.iconst 0), some (.invokevirtual 234), none, none, some (.iinc 2 1), none, none, some (.goto (-73)), none, none, some (.return_)]
def zq_i37 : List (Option Instr) := [some (.iload_n 0), some (.invokestatic 225), none, none, some (.istore_n 2), some (.iload_n 1), some (.invokestatic 225), none, none, some (.istore_n 3), some (.iload_n 2), some (.iload_n 3), some (.if_icmp .eq 21), none, none, some (.iload_n 2), some (.iconst 1), some (.if_icmp .le 16), none, none, some (.iload_n 2), some (.invokestatic 225), none, none, some (.istore_n 2), some (.iload_n 3), some (.invokestatic 225), none, none, some (.istore_n 3), some (.goto (-20)), none, none, some (.iload_n 2), some (.ireturn)]
def zq_i38 : List (Option Instr) := [some (.iconst 0), some (.istore_n 1), some (.iload_n 1), some (.aload_n 0), some (.getfield 34), none, none, some (.getfield 96), none, none, some (.if_icmp .ge 31), none, none, some (.aload_n 0), some (.aload_n 0), some (.getfield 34), none, none, some (.iload_n 1), some (.invokevirtual 161), none, none, some (.invokevirtual 57), none, none, some (.astore_n 2), some (.aload_n 2), some (.ifnull 8), none, none, some (.aload_n 2), some (.iconst 0), some (.putfield 115), none, none, some (.iinc 1 1), none, none, some (.goto (-36)), none, none, some (.aload_n 0), some (.getfield 34), none, none, some (.invokevirtual 179), none, none, some (.aload_n 0), some (.getfield 38), none, none, some (.invokevirtual 179), none, none, some (.aload_n 0), some (.getfield 41), none, none, some (.invokevirtual 179), none, none, some (.return_)]
def zq_i39 : List (Option Instr) := [some (.aload_n 0), some (.getfield 47), none, none, some (.invokevirtual 179), none, none, some (.aload_n 1), some (.getfield 61), none, none, some (.iconst 1), some (.if_icmp .ne 14), none, none, some (.aload_n 0), some (.getfield 47), none, none, some (.aload_n 1), some (.getfield 82), none, none, some (.invokevirtual 99), none, none, some (.aload_n 0), some (.aload_n 1), some (.getfield 112), none, none, some (.invokevirtual 85), none, none, some (.astore_n 2), some (.aload_n 1), some (.getfield 61), none, none, some (.iconst 2), some (.if_icmp .ne 37), none, none, some (.aload_n 2), some (.ifnull 33), none, none, some (.aload_n 0), some (.aload_n 2), some (.getfield 69), none, none, some (.aload_n 1), some (.getfield 118), none, none, some (.invokevirtual 241), none, none, some (.aload_n 1), some (.getfield 115), none, none, some (.ifCond .eq 14), none, none, some (.aload_n 0), some (.getfield 47), none, none, some (.aload_n 1), some (.getfield 115), none, none, some (.invokevirtual 99), none, none, some (.return_)]
def zq_i40 : List (Option Instr) := [some (.iload_n 2), some (.invokestatic 105), none, none, some (.istore_n 3), some (.iload_n 3), some (.iconst 1), some (.if_icmp .lt 40), none, none, some (.aload_n 1), some (.iload_n 3), some (.invokevirtual 109), none, none, some (.ifCond .ne 24), none, none, some (.aload_n 1), some (.iload_n 2), some (.iload_n 3), some (.invokevirtual 245), none, none, some (.ifCond .ne 15), none, none, some (.aload_n 0), some (.getfield 47), none, none, some (.aload_n 1), some (.iload_n 3), some (.invokevirtual 173), none, none, some (.invokevirtual 99), none, none, some (.iload_n 3), some (.invokestatic 225), none, none, some (.istore_n 3), some (.goto (-39)), none, none, some (.return_)]
def zq_i41 : List (Option Instr) := [some (.iconst 1), some (.istore_n 1), some (.iload_n 1), some (.aload_n 0), some (.getfield 50), none, none, some (.if_icmp .gt 28), none, none, some (.aload_n 0), some (.iload_n 1), some (.invokevirtual 85), none, none, some (.astore_n 2), some (.aload_n 2), some (.ifnull 12), none, none, some (.aload_n 0), some (.getfield 25), none, none, some (.aload_n 2), some (.iload_n 1), some (.invokevirtual 249), none, none, some (.iinc 1 1), none, none, some (.goto (-30)), none, none, some (.return_)]
def zq_i42 : List (Option Instr) := [some (.iload_n 1), some (.invokestatic 170), none, none, some (.ifCond .ne 4), none, none, some (.return_), some (.aload_n 0), some (.iload_n 1), some (.invokevirtual 109), none, none, some (.ifCond .ne 40), none, none, some (.aload_n 2), some (.iload_n 1), some (.invokevirtual 99), none, none, some (.iconst 0), some (.istore_n 3), some (.iload_n 3), some (.bipush 8), none, some (.if_icmp .ge 26), none, none, some (.aload_n 0), some (.iload_n 3), some (.iload_n 1), some (.invokevirtual 245), none, none, some (.ifCond .eq 11), none, none, some (.aload_n 2), some (.iload_n 3), some (.invokestatic 105), none, none, some (.invokevirtual 99), none, none, some (.iinc 3 1), none, none, some (.goto (-26)), none, none, some (.return_), some (.aload_n 0), some (.iconst 2), some (.iload_n 1), some (.imul), some (.aload_n 2), some (.invokestatic 182), none, none, some (.aload_n 0), some (.iconst 2), some (.iload_n 1), some (.imul), some (.iconst 1), some (.iadd), some (.aload_n 2), some (.invokestatic 182), none, none, some (.return_)]
def zq_i43 : List (Option Instr) := [some (.aload_n 0), some (.invokespecial 3), none, none, some (.aload_n 0), some (.new 9), none, none, some (.dup), some (.invokespecial 11), none, none, some (.putfield 12), none, none, some (.aload_n 0), some (.iload_n 1), some (.putfield 18), none, none, some (.aload_n 0), some (.new 22), none, none, some (.dup), some (.bipush 16), none, some (.invokespecial 24), none, none, some (.putfield 27), none, none, some (.aload_n 0), some (.new 22), none, none, some (.dup), some (.bipush 16), none, some (.invokespecial 24), none, none, some (.putfield 31), none, none, some (.return_)]
def zq_i44 : List (Option Instr) := [some (.aload_n 0), some (.dup), some (.getfield 34), none, none, some (.iconst 1), some (.iload_n 1), some (.ishl), some (.ior), some (.putfield 34), none, none, some (.return_)]
def zq_i45 : List (Option Instr) := [some (.aload_n 0), some (.dup), some (.getfield 37), none, none, some (.iconst 1), some (.iload_n 1), some (.ishl), some (.ior), some (.putfield 37), none, none, some (.return_)]
def zq_i46 : List (Option Instr) := [some (.aload_n 0), some (.getfield 34), none, none, some (.iload_n 1), some (.ishr), some (.iconst 1), some (.iand), some (.iconst 1), some (.if_icmp .ne 7), none, none, some (.iconst 1), some (.goto 4), none, none, some (.iconst 0), some (.ireturn)]
def zq_i47 : List (Option Instr) := [some (.iload_n 1), some (.ifCond .lt 19), none, none, some (.aload_n 0), some (.getfield 37), none, none, some (.iload_n 1), some (.ishr), some (.iconst 1), some (.iand), some (.iconst 1), some (.if_icmp .ne 7), none, none, some (.iconst 1), some (.goto 4), none, none, some (.iconst 0), some (.ireturn)]
def zq_i48 : List (Option Instr) := [some (.aload_n 0), some (.getfield 27), none, none, some (.iload_n 1), some (.invokevirtual 40), none, none, some (.aload_n 0), some (.getfield 31), none, none, some (.iload_n 2), some (.invokevirtual 40), none, none, some (.return_)]
def zq_i49 : List (Option Instr) := [some (.aload_n 0), some (.invokespecial 3), none, none, some (.aload_n 0), some (.bipush 121), none, some (.newarray .boolean), none, some (.putfield 9), none, none, some (.aload_n 0), some (.bipush 21), none, some (.newarray .boolean), none, some (.putfield 15), none, none, some (.return_)]
def zq_i50 : List (Option Instr) := [some (.iload_n 1), some (.ifCond .le 22), none, none, some (.iload_n 1), some (.bipush 120), none, some (.if_icmp .gt 16), none, none, some (.aload_n 0), some (.getfield 9), none, none, some (.iload_n 1), some (.baload), some (.ifCond .eq 7), none, none, some (.iconst 1), some (.goto 4), none, none, some (.iconst 0), some (.ireturn)]
def zq_i51 : List (Option Instr) := [some (.iload_n 1), some (.ifCond .lt 22), none, none, some (.iload_n 1), some (.bipush 20), none, some (.if_icmp .gt 16), none, none, some (.aload_n 0), some (.getfield 15), none, none, some (.iload_n 1), some (.baload), some (.ifCond .eq 7), none, none, some (.iconst 1), some (.goto 4), none, none, some (.iconst 0), some (.ireturn)]
def zq_i52 : List (Option Instr) := [some (.iload_n 1), some (.ifCond .le 35), none, none, some (.iload_n 1), some (.bipush 120), none, some (.if_icmp .gt 29), none, none, some (.aload_n 0), some (.getfield 9), none, none, some (.iload_n 1), some (.baload), some (.ifCond .ne 20), none, none, some (.aload_n 0), some (.getfield 9), none, none, some (.iload_n 1), some (.iconst 1), some (.bastore), some (.aload_n 0), some (.dup), some (.getfield 18), none, none, some (.iconst 1), some (.iadd), some (.putfield 18), none, none, some (.return_)]
def zq_i53 : List (Option Instr) := [some (.iload_n 1), some (.ifCond .lt 35), none, none, some (.iload_n 1), some (.bipush 20), none, some (.if_icmp .gt 29), none, none, some (.aload_n 0), some (.getfield 15), none, none, some (.iload_n 1), some (.baload), some (.ifCond .ne 20), none, none, some (.aload_n 0), some (.getfield 15), none, none, some (.iload_n 1), some (.iconst 1), some (.bastore), some (.aload_n 0), some (.dup), some (.getfield 22), none, none, some (.iconst 1), some (.iadd), some (.putfield 22), none, none, some (.return_)]
def zq_i54 : List (Option Instr) := [some (.aload_n 0), some (.aload_n 1), some (.iload_n 2), some (.invokevirtual 25), none, none, some (.aload_n 0), some (.aload_n 1), some (.invokevirtual 29), none, none, some (.aload_n 0), some (.iload_n 2), some (.iconst 1), some (.isub), some (.invokevirtual 33), none, none, some (.ifCond .eq 23), none, none, some (.aload_n 0), some (.aload_n 1), some (.getfield 37), none, none, some (.iconst 1), some (.invokevirtual 43), none, none, some (.invokevirtual 49), none, none, some (.ifCond .eq 8), none, none, some (.aload_n 0), some (.iload_n 2), some (.invokevirtual 52), none, none, some (.return_)]
def zq_i55 : List (Option Instr) := [some (.iconst 0), some (.istore_n 3), some (.iload_n 3), some (.aload_n 1), some (.getfield 56), none, none, some (.getfield 60), none, none, some (.if_icmp .ge 55), none, none, some (.aload_n 0), some (.aload_n 1), some (.getfield 65), none, none, some (.iload_n 3), some (.invokevirtual 68), none, none, some (.invokevirtual 49), none, none, some (.ifCond .eq 34), none, none, some (.aload_n 1), some (.getfield 56), none, none, some (.iload_n 3), some (.invokevirtual 68), none, none, some (.ifCond .ne 11), none, none, some (.aload_n 0), some (.iload_n 2), some (.invokevirtual 52), none, none, some (.goto 15), none, none, some (.aload_n 0), some (.aload_n 1), some (.getfield 56), none, none, some (.iload_n 3), some (.invokevirtual 68), none, none, some (.invokevirtual 71), none, none, some (.iinc 3 1), none, none, some (.goto (-60)), none, none, some (.return_)]
def zq_i56 : List (Option Instr) := [some (.aload_n 1), some (.getfield 74), none, none, some (.invokestatic 77), none, none, some (.istore_n 2), some (.iload_n 2), some (.iconst 1), some (.if_icmp .le 41), none, none, some (.aload_n 0), some (.aload_n 1), some (.getfield 37), none, none, some (.iload_n 2), some (.invokevirtual 43), none, none, some (.invokevirtual 49), none, none, some (.ifCond .eq 18), none, none, some (.aload_n 0), some (.aload_n 1), some (.getfield 37), none, none, some (.iload_n 2), some (.invokestatic 77), none, none, some (.invokevirtual 43), none, none, some (.invokevirtual 71), none, none, some (.iload_n 2), some (.invokestatic 77), none, none, some (.istore_n 2), some (.goto (-40)), none, none, some (.return_)]
def zq_i57 : List (Option Instr) := [some (.aload_n 0), some (.invokespecial 3), none, none, some (.return_)]
def zq_i58 : List (Option Instr) := [some (.aload_n 0), some (.iconst 2), some (.putfield 9), none, none, some (.aload_n 0), some (.iload_n 1), some (.putfield 15), none, none, some (.aload_n 0), some (.iload_n 2), some (.putfield 18), none, none, some (.return_)]
def zq_i59 : List (Option Instr) := [some (.aload_n 0), some (.invokespecial 1), none, none, some (.aload_n 0), some (.iload_n 1), some (.newarray .int), none, some (.putfield 7), none, none, some (.return_)]
def zq_i60 : List (Option Instr) := [some (.aload_n 0), some (.iconst 0), some (.putfield 13), none, none, some (.return_)]
def zq_i61 : List (Option Instr) := [some (.aload_n 0), some (.getfield 13), none, none, some (.aload_n 0), some (.getfield 7), none, none, some (.arraylength), some (.if_icmp .ge 23), none, none, some (.aload_n 0), some (.getfield 7), none, none, some (.aload_n 0), some (.getfield 13), none, none, some (.iload_n 1), some (.iastore), some (.aload_n 0), some (.dup), some (.getfield 13), none, none, some (.iconst 1), some (.iadd), some (.putfield 13), none, none, some (.return_)]
def zq_i62 : List (Option Instr) := [some (.iload_n 1), some (.ifCond .lt 20), none, none, some (.iload_n 1), some (.aload_n 0), some (.getfield 13), none, none, some (.if_icmp .ge 12), none, none, some (.aload_n 0), some (.getfield 7), none, none, some (.iload_n 1), some (.iaload), some (.goto 4), none, none, some (.iconst (-1)), some (.ireturn)]
def zq_i63 : List (Option Instr) := [some (.iconst 0), some (.istore_n 2), some (.iload_n 2), some (.aload_n 0), some (.getfield 13), none, none, some (.if_icmp .ge 21), none, none, some (.aload_n 0), some (.getfield 7), none, none, some (.iload_n 2), some (.iaload), some (.iload_n 1), some (.if_icmp .ne 5), none, none, some (.iconst 1), some (.ireturn), some (.iinc 2 1), none, none, some (.goto (-23)), none, none, some (.iconst 0), some (.ireturn)]
def zq_i64 : List (Option Instr) := [some (.aload_n 0), some (.invokespecial 3), none, none, some (.aload_n 0), some (.bipush 16), none, some (.newarray .int), none, some (.putfield 9), none, none, some (.aload_n 0), some (.bipush 16), none, some (.newarray .int), none, some (.putfield 15), none, none, some (.return_)]
def zq_i65 : List (Option Instr) := [some (.iconst 1), some (.istore_n 2), some (.iload_n 2), some (.bipush 15), none, some (.if_icmp .gt 33), none, none, some (.aload_n 0), some (.getfield 9), none, none, some (.iload_n 2), some (.aload_n 1), some (.getfield 9), none, none, some (.iload_n 2), some (.iaload), some (.iastore), some (.aload_n 0), some (.getfield 15), none, none, some (.iload_n 2), some (.aload_n 1), some (.getfield 15), none, none, some (.iload_n 2), some (.iaload), some (.iastore), some (.iinc 2 1), none, none, some (.goto (-33)), none, none, some (.return_)]
def zq_i66 : List (Option Instr) := [some (.iload_n 1), some (.invokestatic 18), none, none, some (.ifCond .eq 12), none, none, some (.aload_n 0), some (.getfield 9), none, none, some (.iload_n 1), some (.iaload), some (.goto 4), none, none, some (.iconst 0), some (.ireturn)]
def zq_i67 : List (Option Instr) := [some (.iload_n 1), some (.invokestatic 18), none, none, some (.ifCond .eq 12), none, none, some (.aload_n 0), some (.getfield 15), none, none, some (.iload_n 1), some (.iaload), some (.goto 4), none, none, some (.iconst 0), some (.ireturn)]
def zq_i68 : List (Option Instr) := [some (.aload_n 0), some (.iload_n 1), some (.invokevirtual 22), none, none, some (.ifCond .ne 7), none, none, some (.iconst 1), some (.goto 4), none, none, some (.iconst 0), some (.ireturn)]
def zq_i69 : List (Option Instr) := [some (.aload_n 0), some (.iload_n 2), some (.invokevirtual 26), none, none, some (.iload_n 1), some (.ishr), some (.iconst 1), some (.iand), some (.iconst 1), some (.if_icmp .ne 7), none, none, some (.iconst 1), some (.goto 4), none, none, some (.iconst 0), some (.ireturn)]
def zq_i70 : List (Option Instr) := [some (.iload_n 1), some (.invokestatic 18), none, none, some (.ifCond .eq 17), none, none, some (.aload_n 0), some (.getfield 9), none, none, some (.iload_n 1), some (.iload_n 2), some (.iastore), some (.aload_n 0), some (.getfield 15), none, none, some (.iload_n 1), some (.iconst 0), some (.iastore), some (.return_)]
def zq_i71 : List (Option Instr) := [some (.aload_n 0), some (.iload_n 1), some (.iconst 0), some (.invokevirtual 29), none, none, some (.return_)]
def zq_i72 : List (Option Instr) := [some (.iload_n 1), some (.invokestatic 33), none, none, some (.istore_n 2), some (.iload_n 2), some (.iconst 1), some (.if_icmp .lt 16), none, none, some (.aload_n 0), some (.iload_n 2), some (.invokevirtual 36), none, none, some (.iload_n 2), some (.invokestatic 33), none, none, some (.istore_n 2), some (.goto (-15)), none, none, some (.return_)]
def zq_i73 : List (Option Instr) := [some (.iload_n 1), some (.invokestatic 40), none, none, some (.invokestatic 33), none, none, some (.istore_n 2), some (.iload_n 2), some (.iconst 1), some (.if_icmp .lt 31), none, none, some (.aload_n 0), some (.iload_n 2), some (.invokevirtual 43), none, none, some (.ifCond .ne 15), none, none, some (.aload_n 0), some (.getfield 15), none, none, some (.iload_n 2), some (.dup2), some (.iaload), some (.iconst 1), some (.iload_n 1), some (.ishl), some (.ior), some (.iastore), some (.iload_n 2), some (.invokestatic 33), none, none, some (.istore_n 2), some (.goto (-30)), none, none, some (.return_)]
def zq_i74 : List (Option Instr) := [some (.iconst 0), some (.istore_n 1), some (.iload_n 1), some (.bipush 8), none, some (.if_icmp .ge 20), none, none, some (.aload_n 0), some (.iload_n 1), some (.invokestatic 40), none, none, some (.invokevirtual 43), none, none, some (.ifCond .ne 9), none, none, some (.iinc 1 1), none, none, some (.goto (-20)), none, none, some (.iload_n 1), some (.ireturn)]
def zq_i75 : List (Option Instr) := [some (.iconst 0), some (.istore_n 1), some (.iconst 0), some (.istore_n 2), some (.iload_n 2), some (.bipush 8), none, some (.if_icmp .ge 23), none, none, some (.aload_n 0), some (.iload_n 2), some (.invokestatic 40), none, none, some (.invokevirtual 43), none, none, some (.ifCond .ne 6), none, none, some (.iinc 1 1), none, none, some (.iinc 2 1), none, none, some (.goto (-23)), none, none, some (.iload_n 1), some (.ireturn)]
def zq_i76 : List (Option Instr) := [some (.aload_n 0), some (.invokespecial 1), none, none, some (.aload_n 0), some (.iconst (-1)), some (.putfield 7), none, none, some (.aload_n 0), some (.iconst 0), some (.putfield 13), none, none, some (.aload_n 0), some (.sipush 352), none, none, some (.newarray .int), none, some (.putfield 16), none, none, some (.aload_n 0), some (.sipush 352), none, none, some (.newarray .int), none, some (.putfield 20), none, none, some (.aload_n 0), some (.bipush 21), none, some (.newarray .int), none, some (.putfield 23), none, none, some (.aload_n 0), some (.bipush 21), none, some (.newarray .int), none, some (.putfield 26), none, none, some (.aload_n 0), some (.bipush 21), none, some (.newarray .int), none, some (.putfield 29), none, none, some (.aload_n 0), some (.bipush 10), none, some (.newarray .int), none, some (.putfield 32), none, none, some (.aload_n 0), some (.bipush 10), none, some (.newarray .int), none, some (.putfield 35), none, none, some (.aload_n 0), some (.bipush 10), none, some (.newarray .int), none, some (.putfield 38), none, none, some (.aload_n 0), some (.bipush 10), none, some (.newarray .int), none, some (.putfield 41), none, none, some (.aload_n 0), some (.iconst 0), some (.putfield 44), none, none, some (.aload_n 0), some (.bipush 32), none, some (.newarray .int), none, some (.putfield 47), none, none, some (.aload_n 0), some (.bipush 32), none, some (.newarray .int), none, some (.putfield 50), none, none, some (.aload_n 0), some (.bipush 32), none, some (.newarray .int), none, some (.putfield 53), none, none, some (.aload_n 0), some (.iconst 0), some (.putfield 56), none, none, some (.aload_n 0), some (.sipush 640), none, none, some (.newarray .int), none, some (.putfield 59), none, none, some (.aload_n 0), some (.sipush 640), none, none, some (.newarray .int), none, some (.putfield 62), none, none, some (.aload_n 0), some (.bipush 121), none, some (.newarray .boolean), none, some (.putfield 65), none, none, some (.aload_n 0), some (.bipush 21), none, some (.newarray .boolean), none, some (.putfield 69), none, none, some (.aload_n 0), some (.bipush 16), none, some (.newarray .int), none, some (.putfield 72), none, none, some (.aload_n 0), some (.bipush 16), none, some (.newarray .int), none, some (.putfield 75), none, none, some (.return_)]
def zq_i77 : List (Option Instr) := [some (.iload_n 1), some (.ifCond .lt 8), none, none, some (.iload_n 1), some (.iload_n 2), some (.if_icmp .lt 7), none, none, some (.iconst 1), some (.goto 4), none, none, some (.iconst 0), some (.ireturn)]
def zq_i78 : List (Option Instr) := [some (.aload_n 0), some (.iload_n 1), some (.bipush 10), none, some (.invokevirtual 78), none, none, some (.ifCond .ne 20), none, none, some (.aload_n 0), some (.getfield 7), none, none, some (.ifCond .ge 13), none, none, some (.aload_n 0), some (.getfield 32), none, none, some (.iload_n 1), some (.iaload), some (.iconst 1), some (.if_icmp .ne 5), none, none, some (.iconst (-1)), some (.ireturn), some (.aload_n 0), some (.iconst 0), some (.putfield 7), none, none, some (.aload_n 0), some (.dup), some (.getfield 13), none, none, some (.iconst 1), some (.iadd), some (.putfield 13), none, none, some (.aload_n 0), some (.getfield 16), none, none, some (.bipush 8), none, some (.aload_n 0), some (.getfield 13), none, none, some (.iastore), some (.aload_n 0), some (.getfield 32), none, none, some (.iload_n 1), some (.iconst 2), some (.iastore), some (.aload_n 0), some (.getfield 13), none, none, some (.ireturn)]
def zq_i79 : List (Option Instr) := [some (.aload_n 0), some (.iload_n 1), some (.bipush 10), none, some (.invokevirtual 78), none, none, some (.ifCond .ne 23), none, none, some (.aload_n 0), some (.getfield 32), none, none, some (.iload_n 1), some (.iaload), some (.iconst 1), some (.if_icmp .eq 13), none, none, some (.aload_n 0), some (.getfield 32), none, none, some (.iload_n 1), some (.iaload), some (.iconst 2), some (.if_icmp .ne 5), none, none, some (.iconst (-1)), some (.ireturn), some (.aload_n 0), some (.getfield 13), none, none, some (.bipush 120), none, some (.if_icmp .ne 6), none, none, some (.bipush (-2)), none, some (.ireturn), some (.aload_n 0), some (.dup), some (.getfield 13), none, none, some (.iconst 1), some (.iadd), some (.putfield 13), none, none, some (.aload_n 0), some (.getfield 35), none, none, some (.iload_n 1), some (.aload_n 0), some (.getfield 13), none, none, some (.iastore), some (.aload_n 0), some (.getfield 32), none, none, some (.iload_n 1), some (.iconst 1), some (.iastore), some (.aload_n 0), some (.getfield 13), none, none, some (.ireturn)]
def zq_i80 : List (Option Instr) := [some (.iconst 0), some (.istore_n 3), some (.iload_n 3), some (.aload_n 0), some (.getfield 44), none, none, some (.if_icmp .ge 31), none, none, some (.aload_n 0), some (.getfield 47), none, none, some (.iload_n 3), some (.iaload), some (.iload_n 1), some (.if_icmp .ne 15), none, none, some (.aload_n 0), some (.getfield 50), none, none, some (.iload_n 3), some (.iaload), some (.iload_n 2), some (.if_icmp .ne 5), none, none, some (.iload_n 3), some (.ireturn), some (.iinc 3 1), none, none, some (.goto (-33)), none, none, some (.iconst (-1)), some (.ireturn)]
def zq_i81 : List (Option Instr) := [some (.iconst 0), some (.istore_n 2), some (.iconst 0), some (.istore_n 3), some (.iload_n 3), some (.aload_n 0), some (.getfield 44), none, none, some (.if_icmp .ge 22), none, none, some (.aload_n 0), some (.getfield 47), none, none, some (.iload_n 3), some (.iaload), some (.iload_n 1), some (.if_icmp .ne 6), none, none, some (.iinc 2 1), none, none, some (.iinc 3 1), none, none, some (.goto (-24)), none, none, some (.iload_n 2), some (.ireturn)]
def zq_i82 : List (Option Instr) := [some (.iconst 0), some (.istore_n 2), some (.bipush 8), none, some (.istore_n 3), some (.iload_n 3), some (.bipush 16), none, some (.if_icmp .ge 26), none, none, some (.aload_n 0), some (.getfield 16), none, none, some (.iload_n 1), some (.bipush 16), none, some (.imul), some (.iload_n 3), some (.iadd), some (.iaload), some (.ifCond .ne 6), none, none, some (.iinc 2 1), none, none, some (.iinc 3 1), none, none, some (.goto (-26)), none, none, some (.iload_n 2), some (.ireturn)]
def zq_i83 : List (Option Instr) := [some (.aload_n 0), some (.getfield 47), none, none, some (.aload_n 0), some (.getfield 44), none, none, some (.iload_n 1), some (.iastore), some (.aload_n 0), some (.getfield 50), none, none, some (.aload_n 0), some (.getfield 44), none, none, some (.iload_n 2), some (.iastore), some (.aload_n 0), some (.getfield 53), none, none, some (.aload_n 0), some (.getfield 44), none, none, some (.iload_n 3), some (.iastore), some (.aload_n 0), some (.dup), some (.getfield 44), none, none, some (.iconst 1), some (.iadd), some (.putfield 44), none, none, some (.aload_n 0), some (.getfield 44), none, none, some (.ireturn)]
def zq_i84 : List (Option Instr) := [some (.aload_n 0), some (.iload_n 1), some (.bipush 10), none, some (.invokevirtual 78), none, none, some (.ifCond .ne 29), none, none, some (.aload_n 0), some (.getfield 7), none, none, some (.ifCond .lt 22), none, none, some (.aload_n 0), some (.getfield 32), none, none, some (.iload_n 1), some (.iaload), some (.iconst 1), some (.if_icmp .ne 12), none, none, some (.aload_n 0), some (.iconst 2), some (.iload_n 1), some (.invokevirtual 82), none, none, some (.ifCond .lt 5), none, none, some (.iconst (-1)), some (.ireturn), some (.aload_n 0), some (.aload_n 0), some (.getfield 7), none, none, some (.invokevirtual 86), none, none, some (.aload_n 0), some (.iconst 1), some (.invokevirtual 90), none, none, some (.iadd), some (.aload_n 0), some (.iconst 2), some (.invokevirtual 90), none, none, some (.if_icmp .gt 6), none, none, some (.bipush (-2)), none, some (.ireturn), some (.aload_n 0), some (.iconst 2), some (.iload_n 1), some (.aload_n 0), some (.getfield 35), none, none, some (.iload_n 1), some (.iaload), some (.invokevirtual 93), none, none, some (.ireturn)]
def zq_i85 : List (Option Instr) := [some (.aload_n 0), some (.iload_n 1), some (.bipush 8), none, some (.invokevirtual 78), none, none, some (.ifCond .ne 39), none, none, some (.aload_n 0), some (.getfield 7), none, none, some (.ifCond .lt 32), none, none, some (.aload_n 0), some (.getfield 16), none, none, some (.aload_n 0), some (.getfield 7), none, none, some (.bipush 16), none, some (.imul), some (.bipush 8), none, some (.iadd), some (.iload_n 1), some (.iadd), some (.iaload), some (.ifCond .eq 12), none, none, some (.aload_n 0), some (.iconst 1), some (.iload_n 1), some (.invokevirtual 82), none, none, some (.ifCond .lt 5), none, none, some (.iconst (-1)), some (.ireturn), some (.aload_n 0), some (.iconst 1), some (.iload_n 1), some (.iconst 0), some (.invokevirtual 93), none, none, some (.ireturn)]
def zq_i86 : List (Option Instr) := [some (.aload_n 0), some (.iload_n 1), some (.bipush 10), none, some (.invokevirtual 78), none, none, some (.ifCond .ne 22), none, none, some (.aload_n 0), some (.getfield 32), none, none, some (.iload_n 1), some (.iaload), some (.iconst 2), some (.if_icmp .ne 12), none, none, some (.aload_n 0), some (.iconst 0), some (.iload_n 1), some (.invokevirtual 82), none, none, some (.ifCond .lt 5), none, none, some (.iconst (-1)), some (.ireturn), some (.aload_n 0), some (.getfield 38), none, none, some (.iload_n 1), some (.iaload), some (.aload_n 0), some (.getfield 7), none, none, some (.if_icmp .ge 6), none, none, some (.bipush (-3)), none, some (.ireturn), some (.aload_n 0), some (.getfield 13), none, none, some (.bipush 120), none, some (.if_icmp .ne 6), none, none, some (.bipush (-2)), none, some (.ireturn), some (.aload_n 0), some (.dup), some (.getfield 13), none, none, some (.iconst 1), some (.iadd), some (.putfield 13), none, none, some (.aload_n 0), some (.iconst 0), some (.iload_n 1), some (.aload_n 0), some (.getfield 13), none, none, some (.invokevirtual 93), none, none, some (.pop), some (.aload_n 0), some (.getfield 13), none, none, some (.ireturn)]
def zq_i87 : List (Option Instr) := [some (.iload_n 1), some (.iconst 2), some (.idiv), some (.istore_n 2), some (.iload_n 2), some (.ifCond .le 32), none, none, some (.aload_n 0), some (.getfield 16), none, none, some (.sipush 336), none, none, some (.iload_n 2), some (.iadd), some (.iconst 0), some (.iastore), some (.aload_n 0), some (.getfield 20), none, none, some (.sipush 336), none, none, some (.iload_n 2), some (.iadd), some (.iconst 0), some (.iastore), some (.iload_n 2), some (.iconst 2), some (.idiv), some (.istore_n 2), some (.goto (-30)), none, none, some (.return_)]
def zq_i88 : List (Option Instr) := [some (.iconst 0), some (.istore_n 3), some (.iload_n 3), some (.bipush 7), none, some (.if_icmp .ge 22), none, none, some (.aload_n 0), some (.getfield 16), none, none, some (.sipush 344), none, none, some (.iload_n 3), some (.iadd), some (.iaload), some (.ifCond .eq 9), none, none, some (.iinc 3 1), none, none, some (.goto (-22)), none, none, some (.aload_n 0), some (.getfield 16), none, none, some (.sipush 344), none, none, some (.iload_n 3), some (.iadd), some (.aload_n 0), some (.getfield 35), none, none, some (.iload_n 1), some (.iaload), some (.iastore), some (.bipush 8), none, some (.iload_n 3), some (.iadd), some (.iconst 2), some (.idiv), some (.istore 4), none, some (.iload 4), none, some (.ifCond .le 43), none, none, some (.aload_n 0), some (.getfield 16), none, none, some (.sipush 336), none, none, some (.iload 4), none, some (.iadd), some (.iaload), some (.ifCond .eq 20), none, none, some (.aload_n 0), some (.getfield 20), none, none, some (.sipush 336), none, none, some (.iload 4), none, some (.iadd), some (.dup2), some (.iaload), some (.iconst 1), some (.iload_n 3), some (.ishl), some (.ior), some (.iastore), some (.iload 4), none, some (.iconst 2), some (.idiv), some (.istore 4), none, some (.goto (-42)), none, none, some (.aload_n 0), some (.getfield 32), none, none, some (.iload_n 1), some (.iconst 2), some (.iastore), some (.aload_n 0), some (.getfield 38), none, none, some (.iload_n 1), some (.iload_n 2), some (.iastore), some (.aload_n 0), some (.getfield 41), none, none, some (.iload_n 1), some (.iload_n 3), some (.iastore), some (.return_)]
def zq_i89 : List (Option Instr) := [some (.iconst 0), some (.istore_n 3), some (.iload_n 3), some (.bipush 16), none, some (.if_icmp .ge 57), none, none, some (.aload_n 0), some (.getfield 16), none, none, some (.sipush 336), none, none, some (.iload_n 3), some (.iadd), some (.aload_n 0), some (.getfield 16), none, none, some (.aload_n 0), some (.getfield 7), none, none, some (.bipush 16), none, some (.imul), some (.iload_n 3), some (.iadd), some (.iaload), some (.iastore), some (.aload_n 0), some (.getfield 20), none, none, some (.sipush 336), none, none, some (.iload_n 3), some (.iadd), some (.aload_n 0), some (.getfield 20), none, none, some (.aload_n 0), some (.getfield 7), none, none, some (.bipush 16), none, some (.imul), some (.iload_n 3), some (.iadd), some (.iaload), some (.iastore), some (.iinc 3 1), none, none, some (.goto (-57)), none, none, some (.iconst 0), some (.istore_n 3), some (.iload_n 3), some (.aload_n 0), some (.getfield 44), none, none, some (.if_icmp .ge 75), none, none, some (.aload_n 0), some (.getfield 47), none, none, some (.iload_n 3), some (.iaload), some (.ifCond .ne 60), none, none, some (.aload_n 0), some (.getfield 50), none, none, some (.iload_n 3), some (.iaload), some (.iload_n 1), some (.if_icmp .ne 6), none, none, some (.goto 47), none, none, some (.aload_n 0), some (.getfield 16), none, none, some (.sipush 344), none, none, some (.aload_n 0), some (.getfield 41), none, none, some (.aload_n 0), some (.getfield 50), none, none, some (.iload_n 3), some (.iaload), some (.iaload), some (.iadd), some (.aload_n 0), some (.getfield 53), none, none, some (.iload_n 3), some (.iaload), some (.iastore), some (.aload_n 0), some (.bipush 8), none, some (.aload_n 0), some (.getfield 41), none, none, some (.aload_n 0), some (.getfield 50), none, none, some (.iload_n 3), some (.iaload), some (.iaload), some (.iadd), some (.invokevirtual 97), none, none, some (.iinc 3 1), none, none, some (.goto (-77)), none, none, some (.iconst 0), some (.istore_n 3), some (.iload_n 3), some (.aload_n 0), some (.getfield 44), none, none, some (.if_icmp .ge 68), none, none, some (.aload_n 0), some (.getfield 47), none, none, some (.iload_n 3), some (.iaload), some (.iconst 1), some (.if_icmp .eq 6), none, none, some (.goto 49), none, none, some (.aload_n 0), some (.getfield 16), none, none, some (.sipush 344), none, none, some (.aload_n 0), some (.getfield 50), none, none, some (.iload_n 3), some (.iaload), some (.iadd), some (.iconst 0), some (.iastore), some (.aload_n 0), some (.bipush 8), none, some (.aload_n 0), some (.getfield 50), none, none, some (.iload_n 3), some (.iaload), some (.iadd), some (.invokevirtual 97), none, none, some (.aload_n 0), some (.getfield 23), none, none, some (.iload_n 2), some (.dup2), some (.iaload), some (.iconst 1), some (.aload_n 0), some (.getfield 50), none, none, some (.iload_n 3), some (.iaload), some (.ishl), some (.ior), some (.iastore), some (.iinc 3 1), none, none, some (.goto (-70)), none, none, some (.iconst 0), some (.istore_n 3), some (.iload_n 3), some (.aload_n 0), some (.getfield 44), none, none, some (.if_icmp .ge 30), none, none, some (.aload_n 0), some (.getfield 47), none, none, some (.iload_n 3), some (.iaload), some (.iconst 2), some (.if_icmp .ne 14), none, none, some (.aload_n 0), some (.aload_n 0), some (.getfield 50), none, none, some (.iload_n 3), some (.iaload), some (.iload_n 2), some (.invokevirtual 101), none, none, some (.iinc 3 1), none, none, some (.goto (-32)), none, none, some (.return_)]
def zq_i90 : List (Option Instr) := [some (.iconst 0), some (.istore_n 3), some (.iconst 1), some (.istore 4), none, some (.aload_n 0), some (.getfield 75), none, none, some (.iconst 0), some (.iload_n 2), some (.iastore), some (.iload 4), none, some (.ifCond .le 136), none, none, some (.iinc 4 (-1)), none, none, some (.aload_n 0), some (.getfield 75), none, none, some (.iload 4), none, some (.iaload), some (.istore 5), none, some (.aload_n 0), some (.getfield 16), none, none, some (.iload_n 1), some (.bipush 16), none, some (.imul), some (.iload 5), none, some (.iadd), some (.iaload), some (.ifCond .eq 70), none, none, some (.aload_n 0), some (.getfield 72), none, none, some (.iload_n 3), some (.iload 5), none, some (.iastore), some (.iinc 3 1), none, none, some (.iconst 0), some (.istore 6), none, some (.iload 6), none, some (.bipush 8), none, some (.if_icmp .ge 46), none, none, some (.aload_n 0), some (.getfield 20), none, none, some (.iload_n 1), some (.bipush 16), none, some (.imul), some (.iload 5), none, some (.iadd), some (.iaload), some (.iload 6), none, some (.ishr), some (.iconst 1), some (.iand), some (.ifCond .ne 6), none, none, some (.goto 17), none, none, some (.aload_n 0), some (.getfield 72), none, none, some (.iload_n 3), some (.bipush 8), none, some (.iload 6), none, some (.iadd), some (.iastore), some (.iinc 3 1), none, none, some (.iinc 6 1), none, none, some (.goto (-47)), none, none, some (.goto 39), none, none, some (.iload 5), none, some (.bipush 8), none, some (.if_icmp .ge 32), none, none, some (.aload_n 0), some (.getfield 75), none, none, some (.iload 4), none, some (.iconst 2), some (.iload 5), none, some (.imul), some (.iconst 1), some (.iadd), some (.iastore), some (.aload_n 0), some (.getfield 75), none, none, some (.iload 4), none, some (.iconst 1), some (.iadd), some (.iconst 2), some (.iload 5), none, some (.imul), some (.iastore), some (.iinc 4 2), none, none, some (.goto (-135)), none, none, some (.iload_n 3), some (.ireturn)]
def zq_i91 : List (Option Instr) := [some (.iconst 0), some (.istore_n 2), some (.iload_n 2), some (.aload_n 0), some (.getfield 44), none, none, some (.if_icmp .ge 39), none, none, some (.aload_n 0), some (.getfield 47), none, none, some (.iload_n 2), some (.iaload), some (.iconst 2), some (.if_icmp .ne 23), none, none, some (.aload_n 0), some (.getfield 41), none, none, some (.aload_n 0), some (.getfield 50), none, none, some (.iload_n 2), some (.iaload), some (.iaload), some (.iload_n 1), some (.bipush 8), none, some (.isub), some (.if_icmp .ne 5), none, none, some (.iconst 1), some (.ireturn), some (.iinc 2 1), none, none, some (.goto (-41)), none, none, some (.iconst 0), some (.ireturn)]
def zq_i92 : List (Option Instr) := [some (.aload_n 0), some (.getfield 59), none, none, some (.aload_n 0), some (.getfield 56), none, none, some (.iload_n 1), some (.iastore), some (.aload_n 0), some (.getfield 62), none, none, some (.aload_n 0), some (.getfield 56), none, none, some (.iload_n 2), some (.iastore), some (.aload_n 0), some (.dup), some (.getfield 56), none, none, some (.iconst 1), some (.iadd), some (.putfield 56), none, none, some (.return_)]
def zq_i93 : List (Option Instr) := [some (.iload_n 1), some (.istore_n 2), some (.aload_n 0), some (.getfield 13), none, none, some (.istore_n 3), some (.iload_n 1), some (.iconst 2), some (.idiv), some (.istore 4), none, some (.iload 4), none, some (.ifCond .le 82), none, none, some (.iinc 3 1), none, none, some (.aload_n 0), some (.bipush 21), none, some (.iload_n 2), some (.iconst 1), some (.ixor), some (.invokevirtual 105), none, none, some (.istore 5), none, some (.iconst 0), some (.istore 6), none, some (.iload 6), none, some (.iload 5), none, some (.if_icmp .ge 46), none, none, some (.aload_n 0), some (.aload_n 0), some (.getfield 72), none, none, some (.iload 6), none, some (.iaload), some (.invokevirtual 108), none, none, some (.ifCond .ne 26), none, none, some (.aload_n 0), some (.iload_n 3), some (.iconst 1), some (.iadd), some (.aload_n 0), some (.getfield 16), none, none, some (.sipush 336), none, none, some (.aload_n 0), some (.getfield 72), none, none, some (.iload 6), none, some (.iaload), some (.iadd), some (.iaload), some (.invokevirtual 112), none, none, some (.iinc 6 1), none, none, some (.goto (-47)), none, none, some (.iload 4), none, some (.istore_n 2), some (.iload 4), none, some (.iconst 2), some (.idiv), some (.istore 4), none, some (.goto (-81)), none, none, some (.return_)]
def zq_i94 : List (Option Instr) := [some (.iconst 1), some (.istore_n 3), some (.iload_n 1), some (.iload_n 3), some (.ishr), some (.iload_n 2), some (.iload_n 3), some (.ishr), some (.if_icmp .eq 9), none, none, some (.iinc 3 1), none, none, some (.goto (-12)), none, none, some (.iload_n 3), some (.ireturn)]
def zq_i95 : List (Option Instr) := [some (.aload_n 0), some (.iload_n 1), some (.bipush 10), none, some (.invokevirtual 78), none, none, some (.ifCond .ne 27), none, none, some (.aload_n 0), some (.getfield 32), none, none, some (.iload_n 1), some (.iaload), some (.iconst 2), some (.if_icmp .ne 17), none, none, some (.aload_n 0), some (.iconst 1), some (.aload_n 0), some (.getfield 41), none, none, some (.iload_n 1), some (.iaload), some (.invokevirtual 82), none, none, some (.ifCond .lt 5), none, none, some (.iconst (-1)), some (.ireturn), some (.aload_n 0), some (.getfield 38), none, none, some (.iload_n 1), some (.iaload), some (.aload_n 0), some (.getfield 7), none, none, some (.if_icmp .ge 6), none, none, some (.bipush (-3)), none, some (.ireturn), some (.aload_n 0), some (.getfield 7), none, none, some (.bipush 20), none, some (.if_icmp .eq 12), none, none, some (.aload_n 0), some (.getfield 13), none, none, some (.bipush 116), none, some (.if_icmp .le 6), none, none, some (.bipush (-2)), none, some (.ireturn), some (.aload_n 0), some (.getfield 7), none, none, some (.iconst 1), some (.iadd), some (.istore_n 2), some (.aload_n 0), some (.getfield 56), none, none, some (.istore_n 3), some (.bipush 8), none, some (.aload_n 0), some (.getfield 41), none, none, some (.iload_n 1), some (.iaload), some (.iadd), some (.istore 4), none, some (.aload_n 0), some (.getfield 23), none, none, some (.iload_n 2), some (.iconst 0), some (.iastore), some (.aload_n 0), some (.iload_n 1), some (.iload_n 2), some (.invokevirtual 115), none, none, some (.aload_n 0), some (.iload 4), none, some (.invokevirtual 118), none, none, some (.iconst 0), some (.istore 5), none, some (.iload 5), none, some (.aload_n 0), some (.getfield 44), none, none, some (.if_icmp .ge 85), none, none, some (.aload_n 0), some (.getfield 47), none, none, some (.iload 5), none, some (.iaload), some (.iconst 2), some (.if_icmp .eq 6), none, none, some (.goto 65), none, none, some (.aload_n 0), some (.aload_n 0), some (.getfield 13), none, none, some (.iconst 1), some (.iadd), some (.aload_n 0), some (.iload 4), none, some (.bipush 8), none, some (.aload_n 0), some (.getfield 41), none, none, some (.aload_n 0), some (.getfield 50), none, none, some (.iload 5), none, some (.iaload), some (.iaload), some (.iadd), some (.invokevirtual 121), none, none, some (.iadd), some (.aload_n 0), some (.getfield 35), none, none, some (.aload_n 0), some (.getfield 50), none, none, some (.iload 5), none, some (.iaload), some (.iaload), some (.invokevirtual 112), none, none, some (.aload_n 0), some (.iload_n 2), some (.ineg), some (.aload_n 0), some (.getfield 35), none, none, some (.aload_n 0), some (.getfield 50), none, none, some (.iload 5), none, some (.iaload), some (.iaload), some (.invokevirtual 112), none, none, some (.iinc 5 1), none, none, some (.goto (-88)), none, none, some (.iload 4), none, some (.istore 5), none, some (.iload 5), none, some (.ifCond .le 49), none, none, some (.aload_n 0), some (.dup), some (.getfield 13), none, none, some (.iconst 1), some (.iadd), some (.putfield 13), none, none, some (.aload_n 0), some (.getfield 16), none, none, some (.sipush 336), none, none, some (.iload 5), none, some (.iadd), some (.aload_n 0), some (.getfield 13), none, none, some (.iastore), some (.aload_n 0), some (.getfield 20), none, none, some (.sipush 336), none, none, some (.iload 5), none, some (.iadd), some (.iconst 0), some (.iastore), some (.iload 5), none, some (.iconst 2), some (.idiv), some (.istore 5), none, some (.goto (-48)), none, none, some (.iconst 0), some (.istore 5), none, some (.iload 5), none, some (.bipush 16), none, some (.if_icmp .ge 55), none, none, some (.aload_n 0), some (.getfield 16), none, none, some (.iload_n 2), some (.bipush 16), none, some (.imul), some (.iload 5), none, some (.iadd), some (.aload_n 0), some (.getfield 16), none, none, some (.sipush 336), none, none, some (.iload 5), none, some (.iadd), some (.iaload), some (.iastore), some (.aload_n 0), some (.getfield 20), none, none, some (.iload_n 2), some (.bipush 16), none, some (.imul), some (.iload 5), none, some (.iadd), some (.aload_n 0), some (.getfield 20), none, none, some (.sipush 336), none, none, some (.iload 5), none, some (.iadd), some (.iaload), some (.iastore), some (.iinc 5 1), none, none, some (.goto (-56)), none, none, some (.aload_n 0), some (.getfield 29), none, none, some (.iload_n 2), some (.aload_n 0), some (.getfield 13), none, none, some (.iconst 2), some (.isub), some (.iastore), some (.aload_n 0), some (.getfield 26), none, none, some (.iload_n 2), some (.aload_n 0), some (.getfield 56), none, none, some (.iload_n 3), some (.isub), some (.iastore), some (.aload_n 0), some (.iload_n 2), some (.putfield 7), none, none, some (.aload_n 0), some (.getfield 38), none, none, some (.iload_n 1), some (.iload_n 2), some (.iastore), some (.aload_n 0), some (.iconst 0), some (.putfield 44), none, none, some (.iload_n 2), some (.ireturn)]
def zq_i96 : List (Option Instr) := [some (.aload_n 0), some (.iload_n 1), some (.bipush 10), none, some (.invokevirtual 78), none, none, some (.ifCond .ne 26), none, none, some (.aload_n 0), some (.getfield 32), none, none, some (.iload_n 1), some (.iaload), some (.iconst 2), some (.if_icmp .ne 16), none, none, some (.aload_n 0), some (.getfield 38), none, none, some (.iload_n 1), some (.iaload), some (.aload_n 0), some (.getfield 7), none, none, some (.if_icmp .ne 5), none, none, some (.iconst (-1)), some (.ireturn), some (.aload_n 0), some (.getfield 23), none, none, some (.aload_n 0), some (.getfield 38), none, none, some (.iload_n 1), some (.iaload), some (.iconst 1), some (.iadd), some (.iaload), some (.aload_n 0), some (.getfield 41), none, none, some (.iload_n 1), some (.iaload), some (.ishr), some (.iconst 1), some (.iand), some (.ifCond .eq 12), none, none, some (.aload_n 0), some (.getfield 32), none, none, some (.iload_n 1), some (.iconst 3), some (.iastore), some (.iconst 3), some (.ireturn), some (.aload_n 0), some (.getfield 38), none, none, some (.iload_n 1), some (.dup2), some (.iaload), some (.iconst 1), some (.iadd), some (.iastore), some (.aload_n 0), some (.getfield 38), none, none, some (.iload_n 1), some (.iaload), some (.ireturn)]
def zq_i97 : List (Option Instr) := [some (.aload_n 0), some (.iload_n 1), some (.bipush 10), none, some (.invokevirtual 78), none, none, some (.ifCond .ne 16), none, none, some (.iload_n 2), some (.iconst 1), some (.if_icmp .lt 11), none, none, some (.iload_n 2), some (.aload_n 0), some (.getfield 13), none, none, some (.if_icmp .le 5), none, none, some (.iconst 0), some (.ireturn), some (.aload_n 0), some (.getfield 32), none, none, some (.iload_n 1), some (.iaload), some (.iconst 1), some (.if_icmp .ne 19), none, none, some (.aload_n 0), some (.getfield 35), none, none, some (.iload_n 1), some (.iaload), some (.iload_n 2), some (.if_icmp .ne 7), none, none, some (.iconst 1), some (.goto 4), none, none, some (.iconst 0), some (.ireturn), some (.aload_n 0), some (.getfield 32), none, none, some (.iload_n 1), some (.iaload), some (.iconst 2), some (.if_icmp .eq 5), none, none, some (.iconst 0), some (.ireturn), some (.aload_n 0), some (.iconst 0), some (.iload_n 1), some (.invokevirtual 82), none, none, some (.istore_n 3), some (.iload_n 3), some (.ifCond .lt 15), none, none, some (.aload_n 0), some (.getfield 53), none, none, some (.iload_n 3), some (.iaload), some (.iload_n 2), some (.if_icmp .ne 5), none, none, some (.iconst 1), some (.ireturn), some (.bipush 8), none, some (.aload_n 0), some (.getfield 41), none, none, some (.iload_n 1), some (.iaload), some (.iadd), some (.istore 4), none, some (.iload 4), none, some (.ifCond .le 58), none, none, some (.aload_n 0), some (.getfield 38), none, none, some (.iload_n 1), some (.iaload), some (.bipush 16), none, some (.imul), some (.iload 4), none, some (.iadd), some (.istore 5), none, some (.aload_n 0), some (.getfield 16), none, none, some (.iload 5), none, some (.iaload), some (.iload_n 2), some (.if_icmp .ne 24), none, none, some (.aload_n 0), some (.getfield 20), none, none, some (.iload 5), none, some (.iaload), some (.aload_n 0), some (.getfield 41), none, none, some (.iload_n 1), some (.iaload), some (.ishr), some (.iconst 1), some (.iand), some (.ifCond .ne 5), none, none, some (.iconst 1), some (.ireturn), some (.iload 4), none, some (.iconst 2), some (.idiv), some (.istore 4), none, some (.goto (-57)), none, none, some (.iconst 0), some (.ireturn)]
def zq_i98 : List (Option Instr) := [some (.aload_n 0), some (.iload_n 1), some (.bipush 10), none, some (.invokevirtual 78), none, none, some (.ifCond .eq 5), none, none, some (.iconst (-1)), some (.ireturn), some (.iconst 0), some (.istore_n 2), some (.aload_n 0), some (.invokevirtual 124), none, none, some (.iconst 1), some (.istore_n 3), some (.iload_n 3), some (.aload_n 0), some (.getfield 13), none, none, some (.if_icmp .gt 40), none, none, some (.aload_n 0), some (.iload_n 1), some (.iload_n 3), some (.invokevirtual 127), none, none, some (.ifCond .eq 25), none, none, some (.aload_n 0), some (.getfield 65), none, none, some (.iload_n 3), some (.baload), some (.ifCond .eq 6), none, none, some (.goto 13), none, none, some (.aload_n 0), some (.getfield 65), none, none, some (.iload_n 3), some (.iconst 1), some (.bastore), some (.iinc 2 1), none, none, some (.iinc 3 1), none, none, some (.goto (-42)), none, none, some (.aload_n 0), some (.getfield 32), none, none, some (.iload_n 1), some (.iaload), some (.iconst 2), some (.if_icmp .ne 15), none, none, some (.aload_n 0), some (.getfield 69), none, none, some (.aload_n 0), some (.getfield 38), none, none, some (.iload_n 1), some (.iaload), some (.iconst 1), some (.bastore), some (.iload_n 2), some (.ireturn)]
def zq_i99 : List (Option Instr) := [some (.iconst 0), some (.istore_n 1), some (.iconst 0), some (.istore_n 2), some (.iload_n 2), some (.aload_n 0), some (.getfield 56), none, none, some (.if_icmp .ge 84), none, none, some (.aload_n 0), some (.getfield 65), none, none, some (.aload_n 0), some (.getfield 62), none, none, some (.iload_n 2), some (.iaload), some (.baload), some (.ifCond .ne 6), none, none, some (.goto 61), none, none, some (.aload_n 0), some (.getfield 59), none, none, some (.iload_n 2), some (.iaload), some (.istore_n 3), some (.iload_n 3), some (.ifCond .le 12), none, none, some (.aload_n 0), some (.getfield 65), none, none, some (.iload_n 3), some (.baload), some (.ifCond .eq 17), none, none, some (.iload_n 3), some (.ifCond .gt 15), none, none, some (.aload_n 0), some (.getfield 69), none, none, some (.iload_n 3), some (.ineg), some (.baload), some (.ifCond .ne 5), none, none, some (.iconst 1), some (.istore_n 1), some (.iload_n 3), some (.ifCond .le 13), none, none, some (.aload_n 0), some (.getfield 65), none, none, some (.iload_n 3), some (.iconst 1), some (.bastore), some (.goto 11), none, none, some (.aload_n 0), some (.getfield 69), none, none, some (.iload_n 3), some (.ineg), some (.iconst 1), some (.bastore), some (.iinc 2 1), none, none, some (.goto (-86)), none, none, some (.iconst 1), some (.istore_n 2), some (.iload_n 2), some (.aload_n 0), some (.getfield 7), none, none, some (.if_icmp .gt 117), none, none, some (.aload_n 0), some (.getfield 29), none, none, some (.iload_n 2), some (.iaload), some (.istore_n 3), some (.iload_n 3), some (.istore 4), none, some (.iload 4), none, some (.iload_n 3), some (.iconst 2), some (.iadd), some (.if_icmp .ge 53), none, none, some (.aload_n 0), some (.getfield 65), none, none, some (.iload 4), none, some (.baload), some (.ifCond .eq 17), none, none, some (.aload_n 0), some (.getfield 65), none, none, some (.iload 4), none, some (.iconst 1), some (.iadd), some (.baload), some (.ifCond .ne 5), none, none, some (.iconst 1), some (.istore_n 1), some (.aload_n 0), some (.getfield 65), none, none, some (.iload 4), none, some (.baload), some (.ifCond .eq 13), none, none, some (.aload_n 0), some (.getfield 65), none, none, some (.iload 4), none, some (.iconst 1), some (.iadd), some (.iconst 1), some (.bastore), some (.iinc 4 1), none, none, some (.goto (-55)), none, none, some (.aload_n 0), some (.getfield 69), none, none, some (.iload_n 2), some (.baload), some (.ifCond .ne 34), none, none, some (.aload_n 0), some (.getfield 69), none, none, some (.iload_n 2), some (.iconst 1), some (.isub), some (.baload), some (.ifCond .eq 23), none, none, some (.aload_n 0), some (.getfield 65), none, none, some (.iload_n 3), some (.iconst 2), some (.iadd), some (.baload), some (.ifCond .eq 12), none, none, some (.aload_n 0), some (.getfield 69), none, none, some (.iload_n 2), some (.iconst 1), some (.bastore), some (.iconst 1), some (.istore_n 1), some (.iinc 2 1), none, none, some (.goto (-119)), none, none, some (.iload_n 1), some (.ireturn)]
def zq_i100 : List (Option Instr) := [some (.iconst 0), some (.istore_n 1), some (.iload_n 1), some (.sipush 150), none, none, some (.if_icmp .ge 17), none, none, some (.aload_n 0), some (.invokevirtual 130), none, none, some (.ifCond .ne 4), none, none, some (.return_), some (.iinc 1 1), none, none, some (.goto (-18)), none, none, some (.return_)]
def zq_i101 : List (Option Instr) := [some (.aload_n 0), some (.invokevirtual 124), none, none, some (.iload_n 1), some (.ifCond .le 24), none, none, some (.iload_n 1), some (.aload_n 0), some (.getfield 13), none, none, some (.if_icmp .gt 16), none, none, some (.aload_n 0), some (.getfield 65), none, none, some (.iload_n 1), some (.baload), some (.ifCond .eq 7), none, none, some (.iconst 1), some (.goto 4), none, none, some (.iconst 0), some (.ireturn)]
def zq_i102 : List (Option Instr) := [some (.aload_n 0), some (.invokevirtual 124), none, none, some (.iload_n 1), some (.ifCond .lt 24), none, none, some (.iload_n 1), some (.aload_n 0), some (.getfield 7), none, none, some (.if_icmp .gt 16), none, none, some (.aload_n 0), some (.getfield 69), none, none, some (.iload_n 1), some (.baload), some (.ifCond .eq 7), none, none, some (.iconst 1), some (.goto 4), none, none, some (.iconst 0), some (.ireturn)]
def zq_i103 : List (Option Instr) := [some (.aload_n 0), some (.iload_n 1), some (.bipush 10), none, some (.invokevirtual 78), none, none, some (.ifCond .eq 7), none, none, some (.iconst (-1)), some (.goto 9), none, none, some (.aload_n 0), some (.getfield 32), none, none, some (.iload_n 1), some (.iaload), some (.ireturn)]
def zq_i104 : List (Option Instr) := [some (.aload_n 0), some (.iload_n 1), some (.bipush 10), none, some (.invokevirtual 78), none, none, some (.ifCond .ne 13), none, none, some (.aload_n 0), some (.getfield 32), none, none, some (.iload_n 1), some (.iaload), some (.iconst 2), some (.if_icmp .eq 7), none, none, some (.iconst (-1)), some (.goto 9), none, none, some (.aload_n 0), some (.getfield 38), none, none, some (.iload_n 1), some (.iaload), some (.ireturn)]
def zq_i105 : List (Option Instr) := [some (.aload_n 0), some (.iload_n 1), some (.bipush 10), none, some (.invokevirtual 78), none, none, some (.ifCond .ne 13), none, none, some (.aload_n 0), some (.getfield 32), none, none, some (.iload_n 1), some (.iaload), some (.iconst 2), some (.if_icmp .eq 7), none, none, some (.iconst (-1)), some (.goto 9), none, none, some (.aload_n 0), some (.getfield 41), none, none, some (.iload_n 1), some (.iaload), some (.ireturn)]
def zq_i106 : List (Option Instr) := [some (.iload_n 1), some (.ifCond .lt 22), none, none, some (.iload_n 1), some (.aload_n 0), some (.getfield 7), none, none, some (.if_icmp .gt 14), none, none, some (.iload_n 2), some (.iconst 1), some (.if_icmp .lt 9), none, none, some (.iload_n 2), some (.bipush 15), none, some (.if_icmp .le 7), none, none, some (.iconst 1), some (.goto 4), none, none, some (.iconst 0), some (.ireturn)]
def zq_i107 : List (Option Instr) := [some (.aload_n 0), some (.iload_n 1), some (.iload_n 2), some (.invokevirtual 134), none, none, some (.ifCond .eq 7), none, none, some (.iconst (-1)), some (.goto 14), none, none, some (.aload_n 0), some (.getfield 16), none, none, some (.iload_n 1), some (.bipush 16), none, some (.imul), some (.iload_n 2), some (.iadd), some (.iaload), some (.ireturn)]
def zq_i108 : List (Option Instr) := [some (.aload_n 0), some (.iload_n 1), some (.iload_n 2), some (.invokevirtual 134), none, none, some (.ifCond .eq 7), none, none, some (.iconst (-1)), some (.goto 14), none, none, some (.aload_n 0), some (.getfield 20), none, none, some (.iload_n 1), some (.bipush 16), none, some (.imul), some (.iload_n 2), some (.iadd), some (.iaload), some (.ireturn)]
def zq_i109 : List (Option Instr) := [some (.aload_n 0), some (.iload_n 1), some (.iload_n 2), some (.invokevirtual 134), none, none, some (.ifCond .eq 5), none, none, some (.iconst (-1)), some (.ireturn), some (.aload_n 0), some (.iload_n 1), some (.iload_n 2), some (.invokevirtual 105), none, none, some (.istore 4), none, some (.iload_n 3), some (.iconst (-1)), some (.if_icmp .ne 6), none, none, some (.iload 4), none, some (.ireturn), some (.iload_n 3), some (.ifCond .lt 9), none, none, some (.iload_n 3), some (.iload 4), none, some (.if_icmp .lt 7), none, none, some (.iconst (-1)), some (.goto 9), none, none, some (.aload_n 0), some (.getfield 72), none, none, some (.iload_n 3), some (.iaload), some (.ireturn)]
def zq_i110 : List (Option Instr) := [some (.iload_n 1), some (.iconst 1), some (.if_icmp .lt 11), none, none, some (.iload_n 1), some (.aload_n 0), some (.getfield 7), none, none, some (.if_icmp .le 7), none, none, some (.iconst (-1)), some (.goto 9), none, none, some (.aload_n 0), some (.getfield 26), none, none, some (.iload_n 1), some (.iaload), some (.ireturn)]
def zq_i111 : List (Option Instr) := [some (.aload_n 0), some (.invokevirtual 124), none, none, some (.iconst 0), some (.istore_n 2), some (.iload_n 1), some (.iconst 3), some (.if_icmp .ne 30), none, none, some (.iconst 0), some (.istore_n 3), some (.iload_n 3), some (.bipush 10), none, some (.if_icmp .ge 22), none, none, some (.aload_n 0), some (.getfield 32), none, none, some (.iload_n 3), some (.iaload), some (.iconst 2), some (.if_icmp .ne 6), none, none, some (.iinc 2 1), none, none, some (.iinc 3 1), none, none, some (.goto (-22)), none, none, some (.iload_n 1), some (.iconst 4), some (.if_icmp .ne 31), none, none, some (.iconst 1), some (.istore_n 3), some (.iload_n 3), some (.aload_n 0), some (.getfield 13), none, none, some (.if_icmp .gt 21), none, none, some (.aload_n 0), some (.getfield 65), none, none, some (.iload_n 3), some (.baload), some (.ifCond .eq 6), none, none, some (.iinc 2 1), none, none, some (.iinc 3 1), none, none, some (.goto (-23)), none, none, some (.iload_n 1), some (.iconst 5), some (.if_icmp .ne 31), none, none, some (.iconst 0), some (.istore_n 3), some (.iload_n 3), some (.aload_n 0), some (.getfield 7), none, none, some (.if_icmp .gt 21), none, none, some (.aload_n 0), some (.getfield 69), none, none, some (.iload_n 3), some (.baload), some (.ifCond .eq 6), none, none, some (.iinc 2 1), none, none, some (.iinc 3 1), none, none, some (.goto (-23)), none, none, some (.iload_n 1), some (.bipush 6), none, some (.if_icmp .ne 22), none, none, some (.aload_n 0), some (.getfield 7), none, none, some (.ifCond .lt 15), none, none, some (.bipush 8), none, some (.aload_n 0), some (.aload_n 0), some (.getfield 7), none, none, some (.invokevirtual 86), none, none, some (.isub), some (.istore_n 2), some (.iload_n 1), some (.ifCond .ne 10), none, none, some (.aload_n 0), some (.getfield 7), none, none, some (.goto 44), none, none, some (.iload_n 1), some (.iconst 1), some (.if_icmp .ne 10), none, none, some (.aload_n 0), some (.getfield 13), none, none, some (.goto 32), none, none, some (.iload_n 1), some (.iconst 2), some (.if_icmp .ne 10), none, none, some (.aload_n 0), some (.getfield 44), none, none, some (.goto 20), none, none, some (.iload_n 1), some (.iconst 2), some (.if_icmp .le 13), none, none, some (.iload_n 1), some (.bipush 7), none, some (.if_icmp .ge 7), none, none, some (.iload_n 2), some (.goto 5), none, none, some (.bipush (-2)), none, some (.ireturn)]
def zq_iL : List (List (Option Instr)) := [zq_i0, zq_i1, zq_i2, zq_i3, zq_i4, zq_i5, zq_i6, zq_i7, zq_i8, zq_i9, zq_i10, zq_i11, zq_i12, zq_i13, zq_i14, zq_i15, zq_i16, zq_i17, zq_i18, zq_i19, zq_i20, zq_i21, zq_i22, zq_i23, zq_i24, zq_i25, zq_i26, zq_i27, zq_i28, zq_i29, zq_i30, zq_i31, zq_i32, zq_i33, zq_i34, zq_i35, zq_i36, zq_i37, zq_i38, zq_i39, zq_i40, zq_i41, zq_i42, zq_i43, zq_i44, zq_i45, zq_i46, zq_i47, zq_i48, zq_i49, zq_i50, zq_i51, zq_i52, zq_i53, zq_i54, zq_i55, zq_i56, zq_i57, zq_i58, zq_i59, zq_i60, zq_i61, zq_i62, zq_i63, zq_i64, zq_i65, zq_i66, zq_i67, zq_i68, zq_i69, zq_i70, zq_i71, zq_i72, zq_i73, zq_i74, zq_i75, zq_i76, zq_i77, zq_i78, zq_i79, zq_i80, zq_i81, zq_i82, zq_i83, zq_i84, zq_i85, zq_i86, zq_i87, zq_i88, zq_i89, zq_i90, zq_i91, zq_i92, zq_i93, zq_i94, zq_i95, zq_i96, zq_i97, zq_i98, zq_i99, zq_i100, zq_i101, zq_i102, zq_i103, zq_i104, zq_i105, zq_i106, zq_i107, zq_i108, zq_i109, zq_i110, zq_i111]
def zq_ins (i pc : Nat) : Option Instr := ((zq_iL.getD i [])[pc]?).join
def zq_flT : List (List (Nat × Nat × Nat × Nat)) := [[(11, 0, 0, 116), (18, 0, 1, 117), (25, 0, 2, 118), (34, 0, 3, 119), (38, 0, 4, 120), (41, 0, 5, 121), (44, 0, 6, 122), (47, 0, 7, 123), (50, 0, 8, 124), (54, 0, 9, 125), (61, 3, 0, 58), (69, 1, 0, 176), (82, 3, 3, 63), (96, 4, 1, 108), (112, 3, 1, 60), (115, 3, 4, 64), (118, 3, 2, 62), (154, 2, 2, 87), (186, 1, 3, 185), (198, 2, 3, 89), (222, 1, 1, 180)], [(12, 1, 0, 175), (18, 1, 1, 178), (27, 1, 2, 181), (31, 1, 3, 183), (34, 1, 4, 186), (37, 1, 5, 187)], [(9, 2, 0, 84), (15, 2, 1, 85), (18, 2, 2, 86), (22, 2, 3, 88), (37, 1, 0, 177), (56, 1, 3, 184), (60, 4, 1, 109), (65, 1, 2, 182), (74, 1, 1, 179)], [(9, 3, 0, 57), (15, 3, 2, 61), (18, 3, 1, 59)], [(7, 4, 0, 106), (13, 4, 1, 107)], [(9, 5, 0, 166), (15, 5, 1, 167)], [(7, 6, 0, 485), (13, 6, 1, 486), (16, 6, 2, 487), (20, 6, 3, 488), (23, 6, 4, 489), (26, 6, 5, 490), (29, 6, 6, 491), (32, 6, 7, 492), (35, 6, 8, 493), (38, 6, 9, 494), (41, 6, 10, 495), (44, 6, 11, 496), (47, 6, 12, 497), (50, 6, 13, 498), (53, 6, 14, 499), (56, 6, 15, 500), (59, 6, 16, 501), (62, 6, 17, 502), (65, 6, 18, 503), (69, 6, 19, 504), (72, 6, 20, 505), (75, 6, 21, 506)], []]
def zq_mlT : List (List (Nat × Nat × Nat × Nat × Nat)) := [[(15, 57, 1, 53, 1), (24, 49, 1, 80, 0), (31, 59, 1, 102, 0), (57, 25, 0, 151, 0), (64, 43, 1, 156, 0), (65, 27, 0, 201, 0), (73, 70, 0, 205, 0), (79, 58, 0, 212, 0), (85, 26, 0, 224, 0), (89, 63, 0, 228, 0), (93, 75, 0, 232, 0), (99, 61, 0, 247, 0), (102, 28, 0, 251, 0), (105, 22, 2, 259, 0), (109, 68, 0, 260, 0), (121, 65, 0, 269, 0), (125, 31, 0, 273, 0), (129, 32, 0, 293, 0), (133, 33, 0, 302, 0), (136, 34, 0, 318, 0), (139, 35, 0, 323, 0), (142, 36, 0, 356, 0), (145, 38, 0, 363, 0), (148, 41, 0, 367, 0), (151, 46, 0, 406, 0), (157, 39, 0, 414, 0), (161, 62, 0, 277, 0), (164, 52, 0, 422, 0), (167, 53, 0, 423, 0), (170, 21, 2, 338, 0), (173, 66, 0, 327, 0), (176, 67, 0, 444, 0), (179, 60, 0, 328, 0), (182, 42, 2, 335, 0), (189, 50, 0, 461, 0), (192, 51, 0, 466, 0), (195, 29, 0, 471, 0), (201, 30, 0, 475, 0), (204, 72, 0, 281, 0), (207, 44, 0, 297, 0), (210, 71, 0, 301, 0), (213, 74, 0, 306, 0), (216, 73, 0, 310, 0), (219, 45, 0, 314, 0), (225, 23, 2, 322, 0), (228, 24, 2, 332, 0), (231, 47, 0, 347, 0), (234, 48, 0, 351, 0), (237, 37, 2, 360, 0), (241, 40, 0, 418, 0), (245, 69, 0, 339, 0), (249, 54, 0, 371, 0)], [(11, 64, 1, 162, 0), (24, 59, 1, 174, 0), (40, 61, 0, 355, 0)], [(25, 55, 0, 375, 0), (29, 56, 0, 392, 0), (33, 51, 0, 398, 0), (43, 66, 0, 397, 0), (49, 50, 0, 380, 0), (52, 53, 0, 384, 0), (68, 62, 0, 379, 0), (71, 52, 0, 388, 0), (77, 23, 2, 396, 1)], [], [], [(18, 21, 2, 209, 1), (22, 66, 0, 243, 0), (26, 67, 0, 343, 0), (29, 70, 0, 292, 0), (33, 23, 2, 285, 1), (36, 71, 0, 288, 0), (40, 22, 2, 236, 1), (43, 68, 0, 239, 0)], [(78, 77, 0, 556, 0), (82, 80, 0, 568, 0), (86, 82, 0, 572, 0), (90, 81, 0, 576, 0), (93, 83, 0, 580, 0), (97, 87, 0, 600, 0), (101, 88, 0, 604, 0), (105, 90, 0, 612, 0), (108, 91, 0, 616, 0), (112, 92, 0, 620, 0), (115, 89, 0, 596, 0), (118, 93, 0, 608, 0), (121, 94, 0, 624, 0), (124, 100, 0, 640, 0), (127, 97, 0, 648, 0), (130, 99, 0, 644, 0), (134, 106, 0, 673, 0)], [(9, 1, 1, 44, 0), (12, 76, 1, 481, 0), (13, 2, 0, 147, 0), (17, 78, 0, 552, 0), (18, 3, 0, 216, 0), (21, 79, 0, 560, 0), (22, 4, 0, 220, 0), (25, 84, 0, 564, 0), (26, 5, 0, 255, 0), (29, 85, 0, 584, 0), (30, 6, 0, 261, 0), (33, 86, 0, 588, 0), (34, 7, 0, 265, 0), (37, 95, 0, 592, 0), (38, 8, 0, 402, 0), (41, 96, 0, 628, 0), (42, 9, 0, 410, 0), (45, 98, 0, 636, 0), (46, 10, 0, 424, 0), (49, 103, 0, 657, 0), (50, 11, 0, 428, 0), (53, 104, 0, 661, 0), (54, 12, 0, 432, 0), (57, 105, 0, 665, 0), (58, 13, 0, 436, 0), (62, 107, 0, 669, 0), (63, 14, 0, 440, 0), (66, 108, 0, 677, 0), (67, 15, 0, 445, 0), (71, 109, 0, 681, 0), (72, 16, 0, 449, 0), (75, 110, 0, 685, 0), (76, 17, 0, 453, 0), (80, 97, 0, 632, 0), (81, 18, 0, 457, 0), (85, 101, 0, 649, 0), (86, 19, 0, 462, 0), (89, 102, 0, 653, 0), (90, 20, 0, 467, 0), (93, 111, 0, 689, 0)]]
def zq_obT : List (List (Nat × Nat)) := [[(3, 47)], [(3, 159)], [(3, 83)], [(3, 56)], [(1, 105)], [(3, 165)], [(1, 484)], []]
def zq_clT : List (List (Nat × Nat × Nat)) := [[(9, 3, 50), (16, 1, 76), (22, 2, 78), (29, 4, 100)], [(9, 5, 160), (22, 4, 173)], [], [], [], [], [], [(7, 0, 42), (10, 6, 479)]]
def zq_acT : List (List (Nat × Nat × Nat)) := [[(9, 3, 50), (16, 1, 76)], [], [], [], [], [], [], []]
def zq_fld (i idx : Nat) : Option (Nat × Nat) := ((zq_flT.getD (zq_oc i) []).find? (fun q => q.1 == idx)).map (fun q => (q.2.1, q.2.2.1))
def zq_pok (i idx : Nat) : Bool := match zq_fld i idx with
  | some (ci, k) => !(zq_T ci k).2.2.2 || (zq_ini i && ci == zq_oc i)
  | none => false
def zq_cls (i idx : Nat) : Option Nat := ((zq_clT.getD (zq_oc i) []).find? (fun q => q.1 == idx)).map (fun q => q.2.1)
def zq_acl (i idx : Nat) : Option Nat := ((zq_acT.getD (zq_oc i) []).find? (fun q => q.1 == idx)).map (fun q => q.2.1)
def zq_obj (i idx : Nat) : Bool := ((zq_obT.getD (zq_oc i) []).find? (fun q => q.1 == idx)).isSome
def zq_mlk (kd i idx : Nat) : Option (Nat × Nat) := ((zq_mlT.getD (zq_oc i) []).find? (fun q => q.1 == idx && q.2.2.1 == kd)).map (fun q => (q.2.1, q.2.2.1))
def zq_mth (i : Nat) (ins : Instr) : Option (Nat × Nat) := match ins with
  | .invokevirtual idx => zq_mlk 0 i idx
  | .invokespecial idx => zq_mlk 1 i idx
  | .invokestatic idx => zq_mlk 2 i idx
  | _ => none
def zq_arr : List (Nat × FieldType) := [(1, .int), (2, .int), (3, .boolean), (51, .object "KeyTreeGroup$Epoch"), (53, .object "KeyTreeGroup$Person")]
def zq_ao : List String := ["KeyTreeGroup$Epoch", "KeyTreeGroup$Person"]
def zq_nest : List (String × Nat × MethodName × String) := [(zq_cn 0, 15, zq_nm 57, "KeyTreeGroup"), (zq_cn 5, 18, zq_nm 21, "KeyTreeGroup"), (zq_cn 5, 40, zq_nm 22, "KeyTreeGroup"), (zq_cn 5, 33, zq_nm 23, "KeyTreeGroup"), (zq_cn 2, 77, zq_nm 23, "KeyTreeGroup")]
def zq_nesT : List (List (Nat × Nat)) := [[(15, 0)], [], [(77, 4)], [], [], [(18, 1), (40, 2), (33, 3)], [], []]
def zq_tb : List Jvm.Cond := lw_tbl.filter goodWord
/-- per method: the places of its code, of instanceMethod or static, of selects -/
def zq_wp (j : Nat) : Nat × Nat × Nat := [(99999, 99999, 99999), (46, 45, 99999), (150, 148, 149), (219, 217, 218), (223, 221, 222), (258, 256, 257), (264, 262, 263), (268, 266, 267), (405, 403, 404), (413, 411, 412), (427, 425, 426), (431, 429, 430), (435, 433, 434), (439, 437, 438), (443, 441, 442), (448, 446, 447), (452, 450, 451), (456, 454, 455), (460, 458, 459), (465, 463, 464), (470, 468, 469), (211, 210, 99999), (238, 237, 99999), (287, 286, 99999), (334, 333, 99999), (154, 153, 0), (227, 226, 2), (204, 203, 1), (254, 253, 3), (474, 473, 16), (478, 477, 17), (276, 275, 4), (296, 295, 5), (305, 304, 6), (321, 320, 7), (326, 325, 8), (359, 358, 9), (362, 361, 99999), (366, 365, 10), (417, 416, 14), (421, 420, 15), (370, 369, 11), (337, 336, 99999), (158, 157, 99999), (300, 298, 299), (317, 315, 316), (409, 407, 408), (350, 348, 349), (354, 352, 353), (82, 81, 99999), (383, 381, 382), (401, 399, 400), (391, 389, 390), (387, 385, 386), (374, 372, 373), (378, 377, 12), (395, 394, 13), (55, 54, 99999), (215, 213, 214), (104, 103, 99999), (331, 329, 330), (250, 248, 249), (280, 278, 279), (231, 229, 230), (164, 163, 99999), (272, 270, 271), (246, 244, 245), (346, 344, 345), (242, 240, 241), (342, 340, 341), (208, 206, 207), (291, 289, 290), (284, 282, 283), (313, 311, 312), (309, 307, 308), (235, 233, 234), (483, 482, 99999), (559, 558, 18), (555, 553, 554), (563, 561, 562), (571, 570, 19), (579, 578, 21), (575, 574, 20), (583, 582, 22), (567, 565, 566), (587, 585, 586), (591, 589, 590), (603, 602, 24), (607, 606, 25), (599, 598, 23), (615, 614, 27), (619, 618, 28), (623, 622, 29), (611, 610, 26), (627, 626, 30), (595, 593, 594), (631, 629, 630), (635, 633, 634), (639, 637, 638), (647, 646, 32), (643, 642, 31), (652, 650, 651), (656, 654, 655), (660, 658, 659), (664, 662, 663), (668, 666, 667), (676, 675, 33), (672, 670, 671), (680, 678, 679), (684, 682, 683), (688, 686, 687), (692, 690, 691)].getD j (0, 0, 0)
def zq_NM : Nat := 112
/-- per class: the places of initialized and instantiable -/
def zq_wc (c : Nat) : Nat × Nat := [(35, 43), (40, 155), (37, 79), (36, 52), (38, 101), (41, 161), (39, 480), (34, 99999)].getD c (99999, 99999)
def zq_wo : Nat × Nat := (48, 49)
def zq_wa : Nat × Nat := (115, 99)
end
section
/-! that the tables bear the links out -/
theorem zq_tb_good (w : Jvm.Cond) (h : w ∈ zq_tb) : goodWord w = true := (List.mem_filter.mp h).2
theorem zq_tb_in {n : Nat} {w : Jvm.Cond} (h : lw_tbl[n]? = some w) (g : goodWord w = true) : w ∈ zq_tb := List.mem_filter.mpr ⟨List.mem_of_getElem? h, g⟩
def zq_at (n : Nat) (w : Jvm.Cond) : Bool := decide (lw_tbl[n]? = some w)
theorem zq_at_in {n : Nat} {w : Jvm.Cond} (h : zq_at n w = true) (g : goodWord w = true) : w ∈ zq_tb := zq_tb_in (of_decide_eq_true h) g
-- classes
def zq_cchk (c : Nat) : Bool := zq_at (zq_wc c).1 (.initialized (zq_cn c)) && zq_at (zq_wc c).2 (.instantiable (zq_cn c) (zq_nf c))
theorem zq_cchk_ok : (List.range 7).all zq_cchk = true := by decide +kernel
theorem zq_lawini : zq_at (zq_wc 7).1 (.initialized (zq_cn 7)) = true := by decide +kernel
theorem zq_uws0 : ∀ w ∈ u_ws (zq_cn 0) (zq_T 0) (zq_nf 0), w ∈ lw_tbl ∧ goodWord w = true := by decide +kernel
theorem zq_uws1 : ∀ w ∈ u_ws (zq_cn 1) (zq_T 1) (zq_nf 1), w ∈ lw_tbl ∧ goodWord w = true := by decide +kernel
theorem zq_uws2 : ∀ w ∈ u_ws (zq_cn 2) (zq_T 2) (zq_nf 2), w ∈ lw_tbl ∧ goodWord w = true := by decide +kernel
theorem zq_uws3 : ∀ w ∈ u_ws (zq_cn 3) (zq_T 3) (zq_nf 3), w ∈ lw_tbl ∧ goodWord w = true := by decide +kernel
theorem zq_uws4 : ∀ w ∈ u_ws (zq_cn 4) (zq_T 4) (zq_nf 4), w ∈ lw_tbl ∧ goodWord w = true := by decide +kernel
theorem zq_uws5 : ∀ w ∈ u_ws (zq_cn 5) (zq_T 5) (zq_nf 5), w ∈ lw_tbl ∧ goodWord w = true := by decide +kernel
theorem zq_uws6 : ∀ w ∈ u_ws (zq_cn 6) (zq_T 6) (zq_nf 6), w ∈ lw_tbl ∧ goodWord w = true := by decide +kernel
theorem zq_uws (c : Nat) (h : c < 7) : ∀ w ∈ u_ws (zq_cn c) (zq_T c) (zq_nf c), w ∈ zq_tb := by
  have key : ∀ w ∈ u_ws (zq_cn c) (zq_T c) (zq_nf c), w ∈ lw_tbl ∧ goodWord w = true := by
    rcases (show c = 0 ∨ c = 1 ∨ c = 2 ∨ c = 3 ∨ c = 4 ∨ c = 5 ∨ c = 6 by omega) with rfl | rfl | rfl | rfl | rfl | rfl | rfl
    · exact zq_uws0
    · exact zq_uws1
    · exact zq_uws2
    · exact zq_uws3
    · exact zq_uws4
    · exact zq_uws5
    · exact zq_uws6
  exact fun w hw => List.mem_filter.mpr (key w hw)
theorem zq_vw (c : Nat) (h : c < 7) : vwCl[c]? = some (zq_cn c, zq_T c, zq_nf c) := by
  rcases (show c = 0 ∨ c = 1 ∨ c = 2 ∨ c = 3 ∨ c = 4 ∨ c = 5 ∨ c = 6 by omega) with rfl | rfl | rfl | rfl | rfl | rfl | rfl <;> rfl
theorem zq_tyok : ∀ c, c < 7 → ∀ k, k < zq_nf c → parseFieldDescriptor (zq_T c k).2.2.1 = some (zq_ty c k) := by decide +kernel
theorem zq_nmok : ∀ c, c < 7 → ∀ a, a < zq_nf c → ∀ b, b < zq_nf c → a ≠ b → (zq_T c a).2.1 ≠ (zq_T c b).2.1 := by decide +kernel
def zq_isr (t : FieldType) : Bool := match t with
  | .object _ => true
  | .array _ => true
  | _ => false
theorem zq_ptok : ∀ c, c < 7 → ∀ k, k < zq_nf c → (zq_ptr c k = false ∧ zq_ty c k = .int) ∨ (zq_ptr c k = true ∧ zq_isr (zq_ty c k) = true) := by decide +kernel
theorem zq_isr_of {t : FieldType} (h : zq_isr t = true) : (∃ n, t = .object n) ∨ ∃ u, t = .array u := by
  cases t <;> first | exact Or.inl ⟨_, rfl⟩ | exact Or.inr ⟨_, rfl⟩ | (simp [zq_isr] at h)
def zq_clsOK (ci : Nat) (C : String) (T : u_T) (N : Nat) : Prop := vwCl[ci]? = some (C, T, N) ∧ (∀ w ∈ u_ws C T N, w ∈ zq_tb) ∧ (∀ k, k < N → parseFieldDescriptor (T k).2.2.1 = some (zq_ty ci k)) ∧ (∀ a, a < N → ∀ b, b < N → a ≠ b → (T a).2.1 ≠ (T b).2.1) ∧ ∀ k, k < N → (zq_ptr ci k = false ∧ zq_ty ci k = .int) ∨ (zq_ptr ci k = true ∧ ((∃ n, zq_ty ci k = .object n) ∨ ∃ t, zq_ty ci k = .array t))
theorem zq_clsok (c : Nat) (h : c < 7) : zq_clsOK c (zq_cn c) (zq_T c) (zq_nf c) :=
  ⟨zq_vw c h, zq_uws c h, zq_tyok c h, zq_nmok c h, fun k hk => (zq_ptok c h k hk).imp id (fun q => ⟨q.1, zq_isr_of q.2⟩)⟩
-- fields
def zq_fchk (oc : Nat) (q : Nat × Nat × Nat × Nat) : Bool := decide (q.2.1 < 7) && (decide (q.2.2.1 < zq_nf q.2.1) && (decide ((zq_T q.2.1 q.2.2.1).1 = zq_cn q.2.1) && zq_at q.2.2.2 (.fieldLink (zq_cn oc) q.1 (zq_T q.2.1 q.2.2.1).1 (zq_T q.2.1 q.2.2.1).2.1 (zq_T q.2.1 q.2.2.1).2.2.1)))
theorem zq_fchk_ok : ∀ oc, oc < 8 → (zq_flT.getD oc []).all (zq_fchk oc) = true := by decide +kernel
theorem zq_oc8 : ∀ i, i < zq_NM → zq_oc i < 8 := by decide +kernel
theorem zq_getD_out {α : Type} {l : List α} {n : Nat} {d : α} (h : l.length ≤ n) : l.getD n d = d := by simp [List.getD, h]
theorem zq_oc_any (i : Nat) : zq_oc i < 8 ∨ zq_oc i = 99 := by
  by_cases h : i < zq_NM
  · exact Or.inl (zq_oc8 i h)
  · right
    exact zq_getD_out (Nat.not_lt.mp h)
theorem zq_flT_out : zq_flT.getD 99 [] = [] := rfl
theorem zq_t_fld {i idx ci k : Nat} (h : zq_fld i idx = some (ci, k)) : ∃ C T N, zq_clsOK ci C T N ∧ k < N ∧ Jvm.Cond.fieldLink (zq_own i) idx (T k).1 (T k).2.1 (T k).2.2.1 ∈ zq_tb ∧ (zq_pok i idx = true → (T k).2.2.2 = false ∨ ((T k).2.2.2 = true ∧ zq_ini i = true ∧ (T k).1 = zq_own i)) := by
  have hp : zq_pok i idx = (!(zq_T ci k).2.2.2 || (zq_ini i && ci == zq_oc i)) := by
    unfold zq_pok
    rw [h]
  unfold zq_fld at h
  obtain ⟨q, hq, he⟩ := Option.map_eq_some_iff.mp h
  have hm := List.mem_of_find?_eq_some hq
  have hx := List.find?_some hq
  cases he
  rcases zq_oc_any i with h8 | h8
  · have hc := List.all_eq_true.mp (zq_fchk_ok _ h8) q hm
    simp only [zq_fchk, Bool.and_eq_true, decide_eq_true_eq] at hc
    obtain ⟨h1, h2, h3, h4⟩ := hc
    have hidx : q.1 = idx := by simpa using hx
    refine ⟨_, _, _, zq_clsok _ h1, h2, ?_, fun hk => ?_⟩
    · rw [← hidx]
      exact zq_at_in h4 rfl
    · rw [hp] at hk
      cases hf : (zq_T q.2.1 q.2.2.1).2.2.2 with
      | false => exact Or.inl rfl
      | true =>
        rw [hf] at hk
        simp only [Bool.not_true, Bool.false_or, Bool.and_eq_true, beq_iff_eq] at hk
        refine Or.inr ⟨rfl, hk.1, ?_⟩
        rw [h3]
        unfold zq_own
        rw [← hk.2]
  · rw [h8, zq_flT_out] at hm
    cases hm
-- classes made
def zq_lchk (oc : Nat) (q : Nat × Nat × Nat) : Bool := decide (q.2.1 < 7) && zq_at q.2.2 (.classLink (zq_cn oc) q.1 (zq_cn q.2.1))
theorem zq_lchk_ok : ∀ oc, oc < 8 → (zq_clT.getD oc []).all (zq_lchk oc) = true := by decide +kernel
theorem zq_t_cls {i idx ci : Nat} (h : zq_cls i idx = some ci) : ∃ C T, zq_clsOK ci C T (zq_nf ci) ∧ Jvm.Cond.classLink (zq_own i) idx C ∈ zq_tb ∧ Jvm.Cond.instantiable C (zq_nf ci) ∈ zq_tb ∧ Jvm.Cond.initialized C ∈ zq_tb := by
  unfold zq_cls at h
  obtain ⟨q, hq, he⟩ := Option.map_eq_some_iff.mp h
  have hm := List.mem_of_find?_eq_some hq
  have hx := List.find?_some hq
  subst he
  rcases zq_oc_any i with h8 | h8
  · have hc := List.all_eq_true.mp (zq_lchk_ok _ h8) q hm
    simp only [zq_lchk, Bool.and_eq_true, decide_eq_true_eq] at hc
    have hidx : q.1 = idx := by simpa using hx
    have hcc := List.all_eq_true.mp zq_cchk_ok q.2.1 (List.mem_range.mpr hc.1)
    simp only [zq_cchk, Bool.and_eq_true] at hcc
    refine ⟨_, _, zq_clsok _ hc.1, ?_, zq_at_in hcc.2 rfl, zq_at_in hcc.1 rfl⟩
    rw [← hidx]
    exact zq_at_in hc.2 rfl
  · rw [h8] at hm
    cases hm
-- arrays of objects
def zq_achk (oc : Nat) (q : Nat × Nat × Nat) : Bool := decide (q.2.1 < 7) && (zq_at q.2.2 (.classLink (zq_cn oc) q.1 (zq_cn q.2.1)) && (decide (zq_cn q.2.1 ∈ zq_ao) && decide ((50 + q.2.1, FieldType.object (zq_cn q.2.1)) ∈ zq_arr)))
theorem zq_achk_ok : ∀ oc, oc < 8 → (zq_acT.getD oc []).all (zq_achk oc) = true := by decide +kernel
theorem zq_t_acl {i idx ci : Nat} (h : zq_acl i idx = some ci) : ∃ C, Jvm.Cond.classLink (zq_own i) idx C ∈ zq_tb ∧ C ∈ zq_ao ∧ (50 + ci, FieldType.object C) ∈ zq_arr ∧ ci < 50 := by
  unfold zq_acl at h
  obtain ⟨q, hq, he⟩ := Option.map_eq_some_iff.mp h
  have hm := List.mem_of_find?_eq_some hq
  have hx := List.find?_some hq
  subst he
  rcases zq_oc_any i with h8 | h8
  · have hc := List.all_eq_true.mp (zq_achk_ok _ h8) q hm
    simp only [zq_achk, Bool.and_eq_true, decide_eq_true_eq] at hc
    have hidx : q.1 = idx := by simpa using hx
    refine ⟨_, ?_, hc.2.2.1, hc.2.2.2, by omega⟩
    rw [← hidx]
    exact zq_at_in hc.2.1 rfl
  · rw [h8] at hm
    cases hm
theorem zq_arrchk : ∀ q ∈ zq_arr, 50 ≤ q.1 → q.2 = .object (zq_cn (q.1 - 50)) ∧ q.1 - 50 < 7 := by decide +kernel
theorem zq_t_acls {t : Nat} {ty : FieldType} (h : (t, ty) ∈ zq_arr) (h50 : 50 ≤ t) : ∃ ci, t = 50 + ci ∧ ∃ C T N, ty = .object C ∧ vwCl[ci]? = some (C, T, N) := by
  obtain ⟨h1, h2⟩ := zq_arrchk _ h h50
  exact ⟨t - 50, by omega, _, _, _, h1, zq_vw _ h2⟩
theorem zq_t_aref {t : Nat} {ty : FieldType} (h : (t, ty) ∈ zq_arr) (h50 : 50 ≤ t) : ty.isReference = true := by
  have h1 := (zq_arrchk _ h h50).1
  have h1 : ty = .object (zq_cn (t - 50)) := h1
  rw [h1]
  rfl
theorem zq_t_a1 : (1, FieldType.int) ∈ zq_arr := by decide +kernel
theorem zq_t_a2 : (2, FieldType.int) ∈ zq_arr := by decide +kernel
theorem zq_t_a3 : (3, FieldType.boolean) ∈ zq_arr := by decide +kernel
theorem zq_t_ai : Jvm.Cond.arrayClass .int ∈ zq_tb := zq_at_in (n := zq_wa.1) (by decide +kernel) rfl
theorem zq_t_az : Jvm.Cond.arrayClass .boolean ∈ zq_tb := zq_at_in (n := zq_wa.2) (by decide +kernel) rfl
-- Object()
def zq_ochk (oc : Nat) (q : Nat × Nat) : Bool := zq_at q.2 (.methodLink (zq_cn oc) q.1 Lib.objectInit)
theorem zq_ochk_ok : ∀ oc, oc < 8 → (zq_obT.getD oc []).all (zq_ochk oc) = true := by decide +kernel
theorem zq_t_oi : Jvm.Cond.instanceMethod Lib.objectInit ∈ zq_tb := zq_at_in (n := zq_wo.1) (by decide +kernel) rfl
theorem zq_t_oc : Jvm.Cond.code Lib.objectInit ⟨#[0xb1]⟩ 1 none ∈ zq_tb := zq_at_in (n := zq_wo.2) (by decide +kernel) rfl
theorem zq_t_obj {i idx : Nat} (h : zq_obj i idx = true) : Jvm.Cond.methodLink (zq_own i) idx Lib.objectInit ∈ zq_tb := by
  unfold zq_obj at h
  obtain ⟨q, hq⟩ := Option.isSome_iff_exists.mp h
  have hm := List.mem_of_find?_eq_some hq
  have hx := List.find?_some hq
  rcases zq_oc_any i with h8 | h8
  · have hc := List.all_eq_true.mp (zq_ochk_ok _ h8) q hm
    have hidx : q.1 = idx := by simpa using hx
    rw [← hidx]
    exact zq_at_in hc rfl
  · rw [h8] at hm
    cases hm
end
section
/-! the instructions are those of the bytes -/
def zq_len (ins : Instr) : Nat := match ins with
  | .bipush _ => 2
  | .iload _ => 2
  | .aload _ => 2
  | .istore _ => 2
  | .astore _ => 2
  | .newarray _ => 2
  | .sipush _ => 3
  | .iinc _ _ => 3
  | .ifCond _ _ => 3
  | .if_icmp _ _ => 3
  | .ifnull _ => 3
  | .ifnonnull _ => 3
  | .goto _ => 3
  | .getfield _ => 3
  | .putfield _ => 3
  | .new _ => 3
  | .anewarray _ => 3
  | .invokevirtual _ => 3
  | .invokespecial _ => 3
  | .invokestatic _ => 3
  | _ => 1
def zq_sw (ins : Instr) : Bool := match ins with
  | .tableswitch _ _ _ _ => true
  | _ => false
def zq_dec (cc : ByteArray) (pc : Nat) (ins : Instr) : Prop := ∃ len, decode cc pc = .ok (ins, len) ∧ (zq_sw ins = false → len = zq_len ins)
theorem zq_dec.at {cc : ByteArray} {pc : Nat} {ins : Instr} (h : zq_dec cc pc ins) (hs : zq_sw ins = false) : decode cc pc = .ok (ins, zq_len ins) := by
  obtain ⟨len, h1, h2⟩ := h
  rw [h1, h2 hs]
def zq_dchk (i pc : Nat) : Bool := match zq_ins i pc with
  | none => true
  | some ins => match decode (zq_bc i) pc with
    | .ok (a, l) => decide (a = ins) && (zq_sw ins || l == zq_len ins)
    | _ => false
theorem zq_dchk_of {i pc : Nat} {ins : Instr} (h : zq_dchk i pc = true) (hi : zq_ins i pc = some ins) : zq_dec (zq_bc i) pc ins := by
  unfold zq_dchk at h
  rw [hi] at h
  dsimp only at h
  split at h
  · rename_i a l hd
    simp only [Bool.and_eq_true, decide_eq_true_eq, Bool.or_eq_true, beq_iff_eq] at h
    obtain ⟨h1, h2⟩ := h
    subst h1
    exact ⟨l, hd, fun hs => h2.resolve_left (by rw [hs]; decide)⟩
  · cases h
def zq_dall (i : Nat) : Prop := ∀ pc, pc < (zq_iL.getD i []).length → zq_dchk i pc = true
theorem zq_d0 : zq_dall 0 := by unfold zq_dall; decide +kernel
theorem zq_d1 : zq_dall 1 := by unfold zq_dall; decide +kernel
theorem zq_d2 : zq_dall 2 := by unfold zq_dall; decide +kernel
theorem zq_d3 : zq_dall 3 := by unfold zq_dall; decide +kernel
theorem zq_d4 : zq_dall 4 := by unfold zq_dall; decide +kernel
theorem zq_d5 : zq_dall 5 := by unfold zq_dall; decide +kernel
theorem zq_d6 : zq_dall 6 := by unfold zq_dall; decide +kernel
theorem zq_d7 : zq_dall 7 := by unfold zq_dall; decide +kernel
theorem zq_d8 : zq_dall 8 := by unfold zq_dall; decide +kernel
theorem zq_d9 : zq_dall 9 := by unfold zq_dall; decide +kernel
theorem zq_d10 : zq_dall 10 := by unfold zq_dall; decide +kernel
theorem zq_d11 : zq_dall 11 := by unfold zq_dall; decide +kernel
theorem zq_d12 : zq_dall 12 := by unfold zq_dall; decide +kernel
theorem zq_d13 : zq_dall 13 := by unfold zq_dall; decide +kernel
theorem zq_d14 : zq_dall 14 := by unfold zq_dall; decide +kernel
theorem zq_d15 : zq_dall 15 := by unfold zq_dall; decide +kernel
theorem zq_d16 : zq_dall 16 := by unfold zq_dall; decide +kernel
theorem zq_d17 : zq_dall 17 := by unfold zq_dall; decide +kernel
theorem zq_d18 : zq_dall 18 := by unfold zq_dall; decide +kernel
theorem zq_d19 : zq_dall 19 := by unfold zq_dall; decide +kernel
theorem zq_d20 : zq_dall 20 := by unfold zq_dall; decide +kernel
theorem zq_d21 : zq_dall 21 := by unfold zq_dall; decide +kernel
theorem zq_d22 : zq_dall 22 := by unfold zq_dall; decide +kernel
theorem zq_d23 : zq_dall 23 := by unfold zq_dall; decide +kernel
theorem zq_d24 : zq_dall 24 := by unfold zq_dall; decide +kernel
theorem zq_d25 : zq_dall 25 := by unfold zq_dall; decide +kernel
theorem zq_d26 : zq_dall 26 := by unfold zq_dall; decide +kernel
theorem zq_d27 : zq_dall 27 := by unfold zq_dall; decide +kernel
theorem zq_d28 : zq_dall 28 := by unfold zq_dall; decide +kernel
theorem zq_d29 : zq_dall 29 := by unfold zq_dall; decide +kernel
theorem zq_d30 : zq_dall 30 := by unfold zq_dall; decide +kernel
theorem zq_d31 : zq_dall 31 := by unfold zq_dall; decide +kernel
theorem zq_d32 : zq_dall 32 := by unfold zq_dall; decide +kernel
theorem zq_d33 : zq_dall 33 := by unfold zq_dall; decide +kernel
theorem zq_d34 : zq_dall 34 := by unfold zq_dall; decide +kernel
theorem zq_d35 : zq_dall 35 := by unfold zq_dall; decide +kernel
theorem zq_d36 : zq_dall 36 := by unfold zq_dall; decide +kernel
theorem zq_d37 : zq_dall 37 := by unfold zq_dall; decide +kernel
theorem zq_d38 : zq_dall 38 := by unfold zq_dall; decide +kernel
theorem zq_d39 : zq_dall 39 := by unfold zq_dall; decide +kernel
theorem zq_d40 : zq_dall 40 := by unfold zq_dall; decide +kernel
theorem zq_d41 : zq_dall 41 := by unfold zq_dall; decide +kernel
theorem zq_d42 : zq_dall 42 := by unfold zq_dall; decide +kernel
theorem zq_d43 : zq_dall 43 := by unfold zq_dall; decide +kernel
theorem zq_d44 : zq_dall 44 := by unfold zq_dall; decide +kernel
theorem zq_d45 : zq_dall 45 := by unfold zq_dall; decide +kernel
theorem zq_d46 : zq_dall 46 := by unfold zq_dall; decide +kernel
theorem zq_d47 : zq_dall 47 := by unfold zq_dall; decide +kernel
theorem zq_d48 : zq_dall 48 := by unfold zq_dall; decide +kernel
theorem zq_d49 : zq_dall 49 := by unfold zq_dall; decide +kernel
theorem zq_d50 : zq_dall 50 := by unfold zq_dall; decide +kernel
theorem zq_d51 : zq_dall 51 := by unfold zq_dall; decide +kernel
theorem zq_d52 : zq_dall 52 := by unfold zq_dall; decide +kernel
theorem zq_d53 : zq_dall 53 := by unfold zq_dall; decide +kernel
theorem zq_d54 : zq_dall 54 := by unfold zq_dall; decide +kernel
theorem zq_d55 : zq_dall 55 := by unfold zq_dall; decide +kernel
theorem zq_d56 : zq_dall 56 := by unfold zq_dall; decide +kernel
theorem zq_d57 : zq_dall 57 := by unfold zq_dall; decide +kernel
theorem zq_d58 : zq_dall 58 := by unfold zq_dall; decide +kernel
theorem zq_d59 : zq_dall 59 := by unfold zq_dall; decide +kernel
theorem zq_d60 : zq_dall 60 := by unfold zq_dall; decide +kernel
theorem zq_d61 : zq_dall 61 := by unfold zq_dall; decide +kernel
theorem zq_d62 : zq_dall 62 := by unfold zq_dall; decide +kernel
theorem zq_d63 : zq_dall 63 := by unfold zq_dall; decide +kernel
theorem zq_d64 : zq_dall 64 := by unfold zq_dall; decide +kernel
theorem zq_d65 : zq_dall 65 := by unfold zq_dall; decide +kernel
theorem zq_d66 : zq_dall 66 := by unfold zq_dall; decide +kernel
theorem zq_d67 : zq_dall 67 := by unfold zq_dall; decide +kernel
theorem zq_d68 : zq_dall 68 := by unfold zq_dall; decide +kernel
theorem zq_d69 : zq_dall 69 := by unfold zq_dall; decide +kernel
theorem zq_d70 : zq_dall 70 := by unfold zq_dall; decide +kernel
theorem zq_d71 : zq_dall 71 := by unfold zq_dall; decide +kernel
theorem zq_d72 : zq_dall 72 := by unfold zq_dall; decide +kernel
theorem zq_d73 : zq_dall 73 := by unfold zq_dall; decide +kernel
theorem zq_d74 : zq_dall 74 := by unfold zq_dall; decide +kernel
theorem zq_d75 : zq_dall 75 := by unfold zq_dall; decide +kernel
theorem zq_d76 : zq_dall 76 := by unfold zq_dall; decide +kernel
theorem zq_d77 : zq_dall 77 := by unfold zq_dall; decide +kernel
theorem zq_d78 : zq_dall 78 := by unfold zq_dall; decide +kernel
theorem zq_d79 : zq_dall 79 := by unfold zq_dall; decide +kernel
theorem zq_d80 : zq_dall 80 := by unfold zq_dall; decide +kernel
theorem zq_d81 : zq_dall 81 := by unfold zq_dall; decide +kernel
theorem zq_d82 : zq_dall 82 := by unfold zq_dall; decide +kernel
theorem zq_d83 : zq_dall 83 := by unfold zq_dall; decide +kernel
theorem zq_d84 : zq_dall 84 := by unfold zq_dall; decide +kernel
theorem zq_d85 : zq_dall 85 := by unfold zq_dall; decide +kernel
theorem zq_d86 : zq_dall 86 := by unfold zq_dall; decide +kernel
theorem zq_d87 : zq_dall 87 := by unfold zq_dall; decide +kernel
theorem zq_d88 : zq_dall 88 := by unfold zq_dall; decide +kernel
theorem zq_d89 : zq_dall 89 := by unfold zq_dall; decide +kernel
theorem zq_d90 : zq_dall 90 := by unfold zq_dall; decide +kernel
theorem zq_d91 : zq_dall 91 := by unfold zq_dall; decide +kernel
theorem zq_d92 : zq_dall 92 := by unfold zq_dall; decide +kernel
theorem zq_d93 : zq_dall 93 := by unfold zq_dall; decide +kernel
theorem zq_d94 : zq_dall 94 := by unfold zq_dall; decide +kernel
theorem zq_d95 : zq_dall 95 := by unfold zq_dall; decide +kernel
theorem zq_d96 : zq_dall 96 := by unfold zq_dall; decide +kernel
theorem zq_d97 : zq_dall 97 := by unfold zq_dall; decide +kernel
theorem zq_d98 : zq_dall 98 := by unfold zq_dall; decide +kernel
theorem zq_d99 : zq_dall 99 := by unfold zq_dall; decide +kernel
theorem zq_d100 : zq_dall 100 := by unfold zq_dall; decide +kernel
theorem zq_d101 : zq_dall 101 := by unfold zq_dall; decide +kernel
theorem zq_d102 : zq_dall 102 := by unfold zq_dall; decide +kernel
theorem zq_d103 : zq_dall 103 := by unfold zq_dall; decide +kernel
theorem zq_d104 : zq_dall 104 := by unfold zq_dall; decide +kernel
theorem zq_d105 : zq_dall 105 := by unfold zq_dall; decide +kernel
theorem zq_d106 : zq_dall 106 := by unfold zq_dall; decide +kernel
theorem zq_d107 : zq_dall 107 := by unfold zq_dall; decide +kernel
theorem zq_d108 : zq_dall 108 := by unfold zq_dall; decide +kernel
theorem zq_d109 : zq_dall 109 := by unfold zq_dall; decide +kernel
theorem zq_d110 : zq_dall 110 := by unfold zq_dall; decide +kernel
theorem zq_d111 : zq_dall 111 := by unfold zq_dall; decide +kernel
theorem zq_dall_ok (i : Nat) (h : i < zq_NM) : zq_dall i := match i, h with
  | 0, _ => zq_d0
  | 1, _ => zq_d1
  | 2, _ => zq_d2
  | 3, _ => zq_d3
  | 4, _ => zq_d4
  | 5, _ => zq_d5
  | 6, _ => zq_d6
  | 7, _ => zq_d7
  | 8, _ => zq_d8
  | 9, _ => zq_d9
  | 10, _ => zq_d10
  | 11, _ => zq_d11
  | 12, _ => zq_d12
  | 13, _ => zq_d13
  | 14, _ => zq_d14
  | 15, _ => zq_d15
  | 16, _ => zq_d16
  | 17, _ => zq_d17
  | 18, _ => zq_d18
  | 19, _ => zq_d19
  | 20, _ => zq_d20
  | 21, _ => zq_d21
  | 22, _ => zq_d22
  | 23, _ => zq_d23
  | 24, _ => zq_d24
  | 25, _ => zq_d25
  | 26, _ => zq_d26
  | 27, _ => zq_d27
  | 28, _ => zq_d28
  | 29, _ => zq_d29
  | 30, _ => zq_d30
  | 31, _ => zq_d31
  | 32, _ => zq_d32
  | 33, _ => zq_d33
  | 34, _ => zq_d34
  | 35, _ => zq_d35
  | 36, _ => zq_d36
  | 37, _ => zq_d37
  | 38, _ => zq_d38
  | 39, _ => zq_d39
  | 40, _ => zq_d40
  | 41, _ => zq_d41
  | 42, _ => zq_d42
  | 43, _ => zq_d43
  | 44, _ => zq_d44
  | 45, _ => zq_d45
  | 46, _ => zq_d46
  | 47, _ => zq_d47
  | 48, _ => zq_d48
  | 49, _ => zq_d49
  | 50, _ => zq_d50
  | 51, _ => zq_d51
  | 52, _ => zq_d52
  | 53, _ => zq_d53
  | 54, _ => zq_d54
  | 55, _ => zq_d55
  | 56, _ => zq_d56
  | 57, _ => zq_d57
  | 58, _ => zq_d58
  | 59, _ => zq_d59
  | 60, _ => zq_d60
  | 61, _ => zq_d61
  | 62, _ => zq_d62
  | 63, _ => zq_d63
  | 64, _ => zq_d64
  | 65, _ => zq_d65
  | 66, _ => zq_d66
  | 67, _ => zq_d67
  | 68, _ => zq_d68
  | 69, _ => zq_d69
  | 70, _ => zq_d70
  | 71, _ => zq_d71
  | 72, _ => zq_d72
  | 73, _ => zq_d73
  | 74, _ => zq_d74
  | 75, _ => zq_d75
  | 76, _ => zq_d76
  | 77, _ => zq_d77
  | 78, _ => zq_d78
  | 79, _ => zq_d79
  | 80, _ => zq_d80
  | 81, _ => zq_d81
  | 82, _ => zq_d82
  | 83, _ => zq_d83
  | 84, _ => zq_d84
  | 85, _ => zq_d85
  | 86, _ => zq_d86
  | 87, _ => zq_d87
  | 88, _ => zq_d88
  | 89, _ => zq_d89
  | 90, _ => zq_d90
  | 91, _ => zq_d91
  | 92, _ => zq_d92
  | 93, _ => zq_d93
  | 94, _ => zq_d94
  | 95, _ => zq_d95
  | 96, _ => zq_d96
  | 97, _ => zq_d97
  | 98, _ => zq_d98
  | 99, _ => zq_d99
  | 100, _ => zq_d100
  | 101, _ => zq_d101
  | 102, _ => zq_d102
  | 103, _ => zq_d103
  | 104, _ => zq_d104
  | 105, _ => zq_d105
  | 106, _ => zq_d106
  | 107, _ => zq_d107
  | 108, _ => zq_d108
  | 109, _ => zq_d109
  | 110, _ => zq_d110
  | 111, _ => zq_d111
  | n + 112, h => absurd h (by show ¬ n + 112 < 112; omega)
theorem zq_ins_lt {i pc : Nat} {ins : Instr} (h : zq_ins i pc = some ins) : i < zq_NM ∧ pc < (zq_iL.getD i []).length := by
  unfold zq_ins at h
  have h2 : pc < (zq_iL.getD i []).length := by
    cases hq : (zq_iL.getD i [])[pc]? with
    | none => rw [hq] at h; cases h
    | some x => exact (List.getElem?_eq_some_iff.mp hq).1
  refine ⟨?_, h2⟩
  by_cases hi : i < zq_NM
  · exact hi
  · rw [zq_getD_out (show zq_iL.length ≤ i from Nat.not_lt.mp hi)] at h2
    cases h2
theorem zq_t_ins {i pc : Nat} {ins : Instr} (h : zq_ins i pc = some ins) : zq_dec (zq_bc i) pc ins := zq_dchk_of (zq_dall_ok i (zq_ins_lt h).1 pc (zq_ins_lt h).2) h
end
section
set_option maxRecDepth 100000 in
theorem zq_cw1 : lw_tbl[46]? = some (Jvm.Cond.code (zq_nm 1) (zq_bc 1) (zq_ml 1) (zq_ret 1)) := rfl
set_option maxRecDepth 100000 in
theorem zq_cw2 : lw_tbl[150]? = some (Jvm.Cond.code (zq_nm 2) (zq_bc 2) (zq_ml 2) (zq_ret 2)) := rfl
set_option maxRecDepth 100000 in
theorem zq_cw3 : lw_tbl[219]? = some (Jvm.Cond.code (zq_nm 3) (zq_bc 3) (zq_ml 3) (zq_ret 3)) := rfl
set_option maxRecDepth 100000 in
theorem zq_cw4 : lw_tbl[223]? = some (Jvm.Cond.code (zq_nm 4) (zq_bc 4) (zq_ml 4) (zq_ret 4)) := rfl
set_option maxRecDepth 100000 in
theorem zq_cw5 : lw_tbl[258]? = some (Jvm.Cond.code (zq_nm 5) (zq_bc 5) (zq_ml 5) (zq_ret 5)) := rfl
set_option maxRecDepth 100000 in
theorem zq_cw6 : lw_tbl[264]? = some (Jvm.Cond.code (zq_nm 6) (zq_bc 6) (zq_ml 6) (zq_ret 6)) := rfl
set_option maxRecDepth 100000 in
theorem zq_cw7 : lw_tbl[268]? = some (Jvm.Cond.code (zq_nm 7) (zq_bc 7) (zq_ml 7) (zq_ret 7)) := rfl
set_option maxRecDepth 100000 in
theorem zq_cw8 : lw_tbl[405]? = some (Jvm.Cond.code (zq_nm 8) (zq_bc 8) (zq_ml 8) (zq_ret 8)) := rfl
set_option maxRecDepth 100000 in
theorem zq_cw9 : lw_tbl[413]? = some (Jvm.Cond.code (zq_nm 9) (zq_bc 9) (zq_ml 9) (zq_ret 9)) := rfl
set_option maxRecDepth 100000 in
theorem zq_cw10 : lw_tbl[427]? = some (Jvm.Cond.code (zq_nm 10) (zq_bc 10) (zq_ml 10) (zq_ret 10)) := rfl
set_option maxRecDepth 100000 in
theorem zq_cw11 : lw_tbl[431]? = some (Jvm.Cond.code (zq_nm 11) (zq_bc 11) (zq_ml 11) (zq_ret 11)) := rfl
set_option maxRecDepth 100000 in
theorem zq_cw12 : lw_tbl[435]? = some (Jvm.Cond.code (zq_nm 12) (zq_bc 12) (zq_ml 12) (zq_ret 12)) := rfl
set_option maxRecDepth 100000 in
theorem zq_cw13 : lw_tbl[439]? = some (Jvm.Cond.code (zq_nm 13) (zq_bc 13) (zq_ml 13) (zq_ret 13)) := rfl
set_option maxRecDepth 100000 in
theorem zq_cw14 : lw_tbl[443]? = some (Jvm.Cond.code (zq_nm 14) (zq_bc 14) (zq_ml 14) (zq_ret 14)) := rfl
set_option maxRecDepth 100000 in
theorem zq_cw15 : lw_tbl[448]? = some (Jvm.Cond.code (zq_nm 15) (zq_bc 15) (zq_ml 15) (zq_ret 15)) := rfl
set_option maxRecDepth 100000 in
theorem zq_cw16 : lw_tbl[452]? = some (Jvm.Cond.code (zq_nm 16) (zq_bc 16) (zq_ml 16) (zq_ret 16)) := rfl
set_option maxRecDepth 100000 in
theorem zq_cw17 : lw_tbl[456]? = some (Jvm.Cond.code (zq_nm 17) (zq_bc 17) (zq_ml 17) (zq_ret 17)) := rfl
set_option maxRecDepth 100000 in
theorem zq_cw18 : lw_tbl[460]? = some (Jvm.Cond.code (zq_nm 18) (zq_bc 18) (zq_ml 18) (zq_ret 18)) := rfl
set_option maxRecDepth 100000 in
theorem zq_cw19 : lw_tbl[465]? = some (Jvm.Cond.code (zq_nm 19) (zq_bc 19) (zq_ml 19) (zq_ret 19)) := rfl
set_option maxRecDepth 100000 in
theorem zq_cw20 : lw_tbl[470]? = some (Jvm.Cond.code (zq_nm 20) (zq_bc 20) (zq_ml 20) (zq_ret 20)) := rfl
set_option maxRecDepth 100000 in
theorem zq_cw21 : lw_tbl[211]? = some (Jvm.Cond.code (zq_nm 21) (zq_bc 21) (zq_ml 21) (zq_ret 21)) := rfl
set_option maxRecDepth 100000 in
theorem zq_cw22 : lw_tbl[238]? = some (Jvm.Cond.code (zq_nm 22) (zq_bc 22) (zq_ml 22) (zq_ret 22)) := rfl
set_option maxRecDepth 100000 in
theorem zq_cw23 : lw_tbl[287]? = some (Jvm.Cond.code (zq_nm 23) (zq_bc 23) (zq_ml 23) (zq_ret 23)) := rfl
set_option maxRecDepth 100000 in
theorem zq_cw24 : lw_tbl[334]? = some (Jvm.Cond.code (zq_nm 24) (zq_bc 24) (zq_ml 24) (zq_ret 24)) := rfl
set_option maxRecDepth 100000 in
theorem zq_cw25 : lw_tbl[154]? = some (Jvm.Cond.code (zq_nm 25) (zq_bc 25) (zq_ml 25) (zq_ret 25)) := rfl
set_option maxRecDepth 100000 in
theorem zq_cw26 : lw_tbl[227]? = some (Jvm.Cond.code (zq_nm 26) (zq_bc 26) (zq_ml 26) (zq_ret 26)) := rfl
set_option maxRecDepth 100000 in
theorem zq_cw27 : lw_tbl[204]? = some (Jvm.Cond.code (zq_nm 27) (zq_bc 27) (zq_ml 27) (zq_ret 27)) := rfl
set_option maxRecDepth 100000 in
theorem zq_cw28 : lw_tbl[254]? = some (Jvm.Cond.code (zq_nm 28) (zq_bc 28) (zq_ml 28) (zq_ret 28)) := rfl
set_option maxRecDepth 100000 in
theorem zq_cw29 : lw_tbl[474]? = some (Jvm.Cond.code (zq_nm 29) (zq_bc 29) (zq_ml 29) (zq_ret 29)) := rfl
set_option maxRecDepth 100000 in
theorem zq_cw30 : lw_tbl[478]? = some (Jvm.Cond.code (zq_nm 30) (zq_bc 30) (zq_ml 30) (zq_ret 30)) := rfl
set_option maxRecDepth 100000 in
theorem zq_cw31 : lw_tbl[276]? = some (Jvm.Cond.code (zq_nm 31) (zq_bc 31) (zq_ml 31) (zq_ret 31)) := rfl
set_option maxRecDepth 100000 in
theorem zq_cw32 : lw_tbl[296]? = some (Jvm.Cond.code (zq_nm 32) (zq_bc 32) (zq_ml 32) (zq_ret 32)) := rfl
set_option maxRecDepth 100000 in
theorem zq_cw33 : lw_tbl[305]? = some (Jvm.Cond.code (zq_nm 33) (zq_bc 33) (zq_ml 33) (zq_ret 33)) := rfl
set_option maxRecDepth 100000 in
theorem zq_cw34 : lw_tbl[321]? = some (Jvm.Cond.code (zq_nm 34) (zq_bc 34) (zq_ml 34) (zq_ret 34)) := rfl
set_option maxRecDepth 100000 in
theorem zq_cw35 : lw_tbl[326]? = some (Jvm.Cond.code (zq_nm 35) (zq_bc 35) (zq_ml 35) (zq_ret 35)) := rfl
set_option maxRecDepth 100000 in
theorem zq_cw36 : lw_tbl[359]? = some (Jvm.Cond.code (zq_nm 36) (zq_bc 36) (zq_ml 36) (zq_ret 36)) := rfl
set_option maxRecDepth 100000 in
theorem zq_cw37 : lw_tbl[362]? = some (Jvm.Cond.code (zq_nm 37) (zq_bc 37) (zq_ml 37) (zq_ret 37)) := rfl
set_option maxRecDepth 100000 in
theorem zq_cw38 : lw_tbl[366]? = some (Jvm.Cond.code (zq_nm 38) (zq_bc 38) (zq_ml 38) (zq_ret 38)) := rfl
set_option maxRecDepth 100000 in
theorem zq_cw39 : lw_tbl[417]? = some (Jvm.Cond.code (zq_nm 39) (zq_bc 39) (zq_ml 39) (zq_ret 39)) := rfl
set_option maxRecDepth 100000 in
theorem zq_cw40 : lw_tbl[421]? = some (Jvm.Cond.code (zq_nm 40) (zq_bc 40) (zq_ml 40) (zq_ret 40)) := rfl
set_option maxRecDepth 100000 in
theorem zq_cw41 : lw_tbl[370]? = some (Jvm.Cond.code (zq_nm 41) (zq_bc 41) (zq_ml 41) (zq_ret 41)) := rfl
set_option maxRecDepth 100000 in
theorem zq_cw42 : lw_tbl[337]? = some (Jvm.Cond.code (zq_nm 42) (zq_bc 42) (zq_ml 42) (zq_ret 42)) := rfl
set_option maxRecDepth 100000 in
theorem zq_cw43 : lw_tbl[158]? = some (Jvm.Cond.code (zq_nm 43) (zq_bc 43) (zq_ml 43) (zq_ret 43)) := rfl
set_option maxRecDepth 100000 in
theorem zq_cw44 : lw_tbl[300]? = some (Jvm.Cond.code (zq_nm 44) (zq_bc 44) (zq_ml 44) (zq_ret 44)) := rfl
set_option maxRecDepth 100000 in
theorem zq_cw45 : lw_tbl[317]? = some (Jvm.Cond.code (zq_nm 45) (zq_bc 45) (zq_ml 45) (zq_ret 45)) := rfl
set_option maxRecDepth 100000 in
theorem zq_cw46 : lw_tbl[409]? = some (Jvm.Cond.code (zq_nm 46) (zq_bc 46) (zq_ml 46) (zq_ret 46)) := rfl
set_option maxRecDepth 100000 in
theorem zq_cw47 : lw_tbl[350]? = some (Jvm.Cond.code (zq_nm 47) (zq_bc 47) (zq_ml 47) (zq_ret 47)) := rfl
set_option maxRecDepth 100000 in
theorem zq_cw48 : lw_tbl[354]? = some (Jvm.Cond.code (zq_nm 48) (zq_bc 48) (zq_ml 48) (zq_ret 48)) := rfl
set_option maxRecDepth 100000 in
theorem zq_cw49 : lw_tbl[82]? = some (Jvm.Cond.code (zq_nm 49) (zq_bc 49) (zq_ml 49) (zq_ret 49)) := rfl
set_option maxRecDepth 100000 in
theorem zq_cw50 : lw_tbl[383]? = some (Jvm.Cond.code (zq_nm 50) (zq_bc 50) (zq_ml 50) (zq_ret 50)) := rfl
set_option maxRecDepth 100000 in
theorem zq_cw51 : lw_tbl[401]? = some (Jvm.Cond.code (zq_nm 51) (zq_bc 51) (zq_ml 51) (zq_ret 51)) := rfl
set_option maxRecDepth 100000 in
theorem zq_cw52 : lw_tbl[391]? = some (Jvm.Cond.code (zq_nm 52) (zq_bc 52) (zq_ml 52) (zq_ret 52)) := rfl
set_option maxRecDepth 100000 in
theorem zq_cw53 : lw_tbl[387]? = some (Jvm.Cond.code (zq_nm 53) (zq_bc 53) (zq_ml 53) (zq_ret 53)) := rfl
set_option maxRecDepth 100000 in
theorem zq_cw54 : lw_tbl[374]? = some (Jvm.Cond.code (zq_nm 54) (zq_bc 54) (zq_ml 54) (zq_ret 54)) := rfl
set_option maxRecDepth 100000 in
theorem zq_cw55 : lw_tbl[378]? = some (Jvm.Cond.code (zq_nm 55) (zq_bc 55) (zq_ml 55) (zq_ret 55)) := rfl
set_option maxRecDepth 100000 in
theorem zq_cw56 : lw_tbl[395]? = some (Jvm.Cond.code (zq_nm 56) (zq_bc 56) (zq_ml 56) (zq_ret 56)) := rfl
set_option maxRecDepth 100000 in
theorem zq_cw57 : lw_tbl[55]? = some (Jvm.Cond.code (zq_nm 57) (zq_bc 57) (zq_ml 57) (zq_ret 57)) := rfl
set_option maxRecDepth 100000 in
theorem zq_cw58 : lw_tbl[215]? = some (Jvm.Cond.code (zq_nm 58) (zq_bc 58) (zq_ml 58) (zq_ret 58)) := rfl
set_option maxRecDepth 100000 in
theorem zq_cw59 : lw_tbl[104]? = some (Jvm.Cond.code (zq_nm 59) (zq_bc 59) (zq_ml 59) (zq_ret 59)) := rfl
set_option maxRecDepth 100000 in
theorem zq_cw60 : lw_tbl[331]? = some (Jvm.Cond.code (zq_nm 60) (zq_bc 60) (zq_ml 60) (zq_ret 60)) := rfl
set_option maxRecDepth 100000 in
theorem zq_cw61 : lw_tbl[250]? = some (Jvm.Cond.code (zq_nm 61) (zq_bc 61) (zq_ml 61) (zq_ret 61)) := rfl
set_option maxRecDepth 100000 in
theorem zq_cw62 : lw_tbl[280]? = some (Jvm.Cond.code (zq_nm 62) (zq_bc 62) (zq_ml 62) (zq_ret 62)) := rfl
set_option maxRecDepth 100000 in
theorem zq_cw63 : lw_tbl[231]? = some (Jvm.Cond.code (zq_nm 63) (zq_bc 63) (zq_ml 63) (zq_ret 63)) := rfl
set_option maxRecDepth 100000 in
theorem zq_cw64 : lw_tbl[164]? = some (Jvm.Cond.code (zq_nm 64) (zq_bc 64) (zq_ml 64) (zq_ret 64)) := rfl
set_option maxRecDepth 100000 in
theorem zq_cw65 : lw_tbl[272]? = some (Jvm.Cond.code (zq_nm 65) (zq_bc 65) (zq_ml 65) (zq_ret 65)) := rfl
set_option maxRecDepth 100000 in
theorem zq_cw66 : lw_tbl[246]? = some (Jvm.Cond.code (zq_nm 66) (zq_bc 66) (zq_ml 66) (zq_ret 66)) := rfl
set_option maxRecDepth 100000 in
theorem zq_cw67 : lw_tbl[346]? = some (Jvm.Cond.code (zq_nm 67) (zq_bc 67) (zq_ml 67) (zq_ret 67)) := rfl
set_option maxRecDepth 100000 in
theorem zq_cw68 : lw_tbl[242]? = some (Jvm.Cond.code (zq_nm 68) (zq_bc 68) (zq_ml 68) (zq_ret 68)) := rfl
set_option maxRecDepth 100000 in
theorem zq_cw69 : lw_tbl[342]? = some (Jvm.Cond.code (zq_nm 69) (zq_bc 69) (zq_ml 69) (zq_ret 69)) := rfl
set_option maxRecDepth 100000 in
theorem zq_cw70 : lw_tbl[208]? = some (Jvm.Cond.code (zq_nm 70) (zq_bc 70) (zq_ml 70) (zq_ret 70)) := rfl
set_option maxRecDepth 100000 in
theorem zq_cw71 : lw_tbl[291]? = some (Jvm.Cond.code (zq_nm 71) (zq_bc 71) (zq_ml 71) (zq_ret 71)) := rfl
set_option maxRecDepth 100000 in
theorem zq_cw72 : lw_tbl[284]? = some (Jvm.Cond.code (zq_nm 72) (zq_bc 72) (zq_ml 72) (zq_ret 72)) := rfl
set_option maxRecDepth 100000 in
theorem zq_cw73 : lw_tbl[313]? = some (Jvm.Cond.code (zq_nm 73) (zq_bc 73) (zq_ml 73) (zq_ret 73)) := rfl
set_option maxRecDepth 100000 in
theorem zq_cw74 : lw_tbl[309]? = some (Jvm.Cond.code (zq_nm 74) (zq_bc 74) (zq_ml 74) (zq_ret 74)) := rfl
set_option maxRecDepth 100000 in
theorem zq_cw75 : lw_tbl[235]? = some (Jvm.Cond.code (zq_nm 75) (zq_bc 75) (zq_ml 75) (zq_ret 75)) := rfl
set_option maxRecDepth 100000 in
theorem zq_cw76 : lw_tbl[483]? = some (Jvm.Cond.code (zq_nm 76) (zq_bc 76) (zq_ml 76) (zq_ret 76)) := rfl
set_option maxRecDepth 100000 in
theorem zq_cw77 : lw_tbl[559]? = some (Jvm.Cond.code (zq_nm 77) (zq_bc 77) (zq_ml 77) (zq_ret 77)) := rfl
set_option maxRecDepth 100000 in
theorem zq_cw78 : lw_tbl[555]? = some (Jvm.Cond.code (zq_nm 78) (zq_bc 78) (zq_ml 78) (zq_ret 78)) := rfl
set_option maxRecDepth 100000 in
theorem zq_cw79 : lw_tbl[563]? = some (Jvm.Cond.code (zq_nm 79) (zq_bc 79) (zq_ml 79) (zq_ret 79)) := rfl
set_option maxRecDepth 100000 in
theorem zq_cw80 : lw_tbl[571]? = some (Jvm.Cond.code (zq_nm 80) (zq_bc 80) (zq_ml 80) (zq_ret 80)) := rfl
set_option maxRecDepth 100000 in
theorem zq_cw81 : lw_tbl[579]? = some (Jvm.Cond.code (zq_nm 81) (zq_bc 81) (zq_ml 81) (zq_ret 81)) := rfl
set_option maxRecDepth 100000 in
theorem zq_cw82 : lw_tbl[575]? = some (Jvm.Cond.code (zq_nm 82) (zq_bc 82) (zq_ml 82) (zq_ret 82)) := rfl
set_option maxRecDepth 100000 in
theorem zq_cw83 : lw_tbl[583]? = some (Jvm.Cond.code (zq_nm 83) (zq_bc 83) (zq_ml 83) (zq_ret 83)) := rfl
set_option maxRecDepth 100000 in
theorem zq_cw84 : lw_tbl[567]? = some (Jvm.Cond.code (zq_nm 84) (zq_bc 84) (zq_ml 84) (zq_ret 84)) := rfl
set_option maxRecDepth 100000 in
theorem zq_cw85 : lw_tbl[587]? = some (Jvm.Cond.code (zq_nm 85) (zq_bc 85) (zq_ml 85) (zq_ret 85)) := rfl
set_option maxRecDepth 100000 in
theorem zq_cw86 : lw_tbl[591]? = some (Jvm.Cond.code (zq_nm 86) (zq_bc 86) (zq_ml 86) (zq_ret 86)) := rfl
set_option maxRecDepth 100000 in
theorem zq_cw87 : lw_tbl[603]? = some (Jvm.Cond.code (zq_nm 87) (zq_bc 87) (zq_ml 87) (zq_ret 87)) := rfl
set_option maxRecDepth 100000 in
theorem zq_cw88 : lw_tbl[607]? = some (Jvm.Cond.code (zq_nm 88) (zq_bc 88) (zq_ml 88) (zq_ret 88)) := rfl
set_option maxRecDepth 100000 in
theorem zq_cw89 : lw_tbl[599]? = some (Jvm.Cond.code (zq_nm 89) (zq_bc 89) (zq_ml 89) (zq_ret 89)) := rfl
set_option maxRecDepth 100000 in
theorem zq_cw90 : lw_tbl[615]? = some (Jvm.Cond.code (zq_nm 90) (zq_bc 90) (zq_ml 90) (zq_ret 90)) := rfl
set_option maxRecDepth 100000 in
theorem zq_cw91 : lw_tbl[619]? = some (Jvm.Cond.code (zq_nm 91) (zq_bc 91) (zq_ml 91) (zq_ret 91)) := rfl
set_option maxRecDepth 100000 in
theorem zq_cw92 : lw_tbl[623]? = some (Jvm.Cond.code (zq_nm 92) (zq_bc 92) (zq_ml 92) (zq_ret 92)) := rfl
set_option maxRecDepth 100000 in
theorem zq_cw93 : lw_tbl[611]? = some (Jvm.Cond.code (zq_nm 93) (zq_bc 93) (zq_ml 93) (zq_ret 93)) := rfl
set_option maxRecDepth 100000 in
theorem zq_cw94 : lw_tbl[627]? = some (Jvm.Cond.code (zq_nm 94) (zq_bc 94) (zq_ml 94) (zq_ret 94)) := rfl
set_option maxRecDepth 100000 in
theorem zq_cw95 : lw_tbl[595]? = some (Jvm.Cond.code (zq_nm 95) (zq_bc 95) (zq_ml 95) (zq_ret 95)) := rfl
set_option maxRecDepth 100000 in
theorem zq_cw96 : lw_tbl[631]? = some (Jvm.Cond.code (zq_nm 96) (zq_bc 96) (zq_ml 96) (zq_ret 96)) := rfl
set_option maxRecDepth 100000 in
theorem zq_cw97 : lw_tbl[635]? = some (Jvm.Cond.code (zq_nm 97) (zq_bc 97) (zq_ml 97) (zq_ret 97)) := rfl
set_option maxRecDepth 100000 in
theorem zq_cw98 : lw_tbl[639]? = some (Jvm.Cond.code (zq_nm 98) (zq_bc 98) (zq_ml 98) (zq_ret 98)) := rfl
set_option maxRecDepth 100000 in
theorem zq_cw99 : lw_tbl[647]? = some (Jvm.Cond.code (zq_nm 99) (zq_bc 99) (zq_ml 99) (zq_ret 99)) := rfl
set_option maxRecDepth 100000 in
theorem zq_cw100 : lw_tbl[643]? = some (Jvm.Cond.code (zq_nm 100) (zq_bc 100) (zq_ml 100) (zq_ret 100)) := rfl
set_option maxRecDepth 100000 in
theorem zq_cw101 : lw_tbl[652]? = some (Jvm.Cond.code (zq_nm 101) (zq_bc 101) (zq_ml 101) (zq_ret 101)) := rfl
set_option maxRecDepth 100000 in
theorem zq_cw102 : lw_tbl[656]? = some (Jvm.Cond.code (zq_nm 102) (zq_bc 102) (zq_ml 102) (zq_ret 102)) := rfl
set_option maxRecDepth 100000 in
theorem zq_cw103 : lw_tbl[660]? = some (Jvm.Cond.code (zq_nm 103) (zq_bc 103) (zq_ml 103) (zq_ret 103)) := rfl
set_option maxRecDepth 100000 in
theorem zq_cw104 : lw_tbl[664]? = some (Jvm.Cond.code (zq_nm 104) (zq_bc 104) (zq_ml 104) (zq_ret 104)) := rfl
set_option maxRecDepth 100000 in
theorem zq_cw105 : lw_tbl[668]? = some (Jvm.Cond.code (zq_nm 105) (zq_bc 105) (zq_ml 105) (zq_ret 105)) := rfl
set_option maxRecDepth 100000 in
theorem zq_cw106 : lw_tbl[676]? = some (Jvm.Cond.code (zq_nm 106) (zq_bc 106) (zq_ml 106) (zq_ret 106)) := rfl
set_option maxRecDepth 100000 in
theorem zq_cw107 : lw_tbl[672]? = some (Jvm.Cond.code (zq_nm 107) (zq_bc 107) (zq_ml 107) (zq_ret 107)) := rfl
set_option maxRecDepth 100000 in
theorem zq_cw108 : lw_tbl[680]? = some (Jvm.Cond.code (zq_nm 108) (zq_bc 108) (zq_ml 108) (zq_ret 108)) := rfl
set_option maxRecDepth 100000 in
theorem zq_cw109 : lw_tbl[684]? = some (Jvm.Cond.code (zq_nm 109) (zq_bc 109) (zq_ml 109) (zq_ret 109)) := rfl
set_option maxRecDepth 100000 in
theorem zq_cw110 : lw_tbl[688]? = some (Jvm.Cond.code (zq_nm 110) (zq_bc 110) (zq_ml 110) (zq_ret 110)) := rfl
set_option maxRecDepth 100000 in
theorem zq_cw111 : lw_tbl[692]? = some (Jvm.Cond.code (zq_nm 111) (zq_bc 111) (zq_ml 111) (zq_ret 111)) := rfl
theorem zq_cw_ok (i : Nat) (h0 : 0 < i) (h : i < zq_NM) : lw_tbl[(zq_wp i).1]? = some (Jvm.Cond.code (zq_nm i) (zq_bc i) (zq_ml i) (zq_ret i)) := match i, h0, h with
  | 1, _, _ => zq_cw1
  | 2, _, _ => zq_cw2
  | 3, _, _ => zq_cw3
  | 4, _, _ => zq_cw4
  | 5, _, _ => zq_cw5
  | 6, _, _ => zq_cw6
  | 7, _, _ => zq_cw7
  | 8, _, _ => zq_cw8
  | 9, _, _ => zq_cw9
  | 10, _, _ => zq_cw10
  | 11, _, _ => zq_cw11
  | 12, _, _ => zq_cw12
  | 13, _, _ => zq_cw13
  | 14, _, _ => zq_cw14
  | 15, _, _ => zq_cw15
  | 16, _, _ => zq_cw16
  | 17, _, _ => zq_cw17
  | 18, _, _ => zq_cw18
  | 19, _, _ => zq_cw19
  | 20, _, _ => zq_cw20
  | 21, _, _ => zq_cw21
  | 22, _, _ => zq_cw22
  | 23, _, _ => zq_cw23
  | 24, _, _ => zq_cw24
  | 25, _, _ => zq_cw25
  | 26, _, _ => zq_cw26
  | 27, _, _ => zq_cw27
  | 28, _, _ => zq_cw28
  | 29, _, _ => zq_cw29
  | 30, _, _ => zq_cw30
  | 31, _, _ => zq_cw31
  | 32, _, _ => zq_cw32
  | 33, _, _ => zq_cw33
  | 34, _, _ => zq_cw34
  | 35, _, _ => zq_cw35
  | 36, _, _ => zq_cw36
  | 37, _, _ => zq_cw37
  | 38, _, _ => zq_cw38
  | 39, _, _ => zq_cw39
  | 40, _, _ => zq_cw40
  | 41, _, _ => zq_cw41
  | 42, _, _ => zq_cw42
  | 43, _, _ => zq_cw43
  | 44, _, _ => zq_cw44
  | 45, _, _ => zq_cw45
  | 46, _, _ => zq_cw46
  | 47, _, _ => zq_cw47
  | 48, _, _ => zq_cw48
  | 49, _, _ => zq_cw49
  | 50, _, _ => zq_cw50
  | 51, _, _ => zq_cw51
  | 52, _, _ => zq_cw52
  | 53, _, _ => zq_cw53
  | 54, _, _ => zq_cw54
  | 55, _, _ => zq_cw55
  | 56, _, _ => zq_cw56
  | 57, _, _ => zq_cw57
  | 58, _, _ => zq_cw58
  | 59, _, _ => zq_cw59
  | 60, _, _ => zq_cw60
  | 61, _, _ => zq_cw61
  | 62, _, _ => zq_cw62
  | 63, _, _ => zq_cw63
  | 64, _, _ => zq_cw64
  | 65, _, _ => zq_cw65
  | 66, _, _ => zq_cw66
  | 67, _, _ => zq_cw67
  | 68, _, _ => zq_cw68
  | 69, _, _ => zq_cw69
  | 70, _, _ => zq_cw70
  | 71, _, _ => zq_cw71
  | 72, _, _ => zq_cw72
  | 73, _, _ => zq_cw73
  | 74, _, _ => zq_cw74
  | 75, _, _ => zq_cw75
  | 76, _, _ => zq_cw76
  | 77, _, _ => zq_cw77
  | 78, _, _ => zq_cw78
  | 79, _, _ => zq_cw79
  | 80, _, _ => zq_cw80
  | 81, _, _ => zq_cw81
  | 82, _, _ => zq_cw82
  | 83, _, _ => zq_cw83
  | 84, _, _ => zq_cw84
  | 85, _, _ => zq_cw85
  | 86, _, _ => zq_cw86
  | 87, _, _ => zq_cw87
  | 88, _, _ => zq_cw88
  | 89, _, _ => zq_cw89
  | 90, _, _ => zq_cw90
  | 91, _, _ => zq_cw91
  | 92, _, _ => zq_cw92
  | 93, _, _ => zq_cw93
  | 94, _, _ => zq_cw94
  | 95, _, _ => zq_cw95
  | 96, _, _ => zq_cw96
  | 97, _, _ => zq_cw97
  | 98, _, _ => zq_cw98
  | 99, _, _ => zq_cw99
  | 100, _, _ => zq_cw100
  | 101, _, _ => zq_cw101
  | 102, _, _ => zq_cw102
  | 103, _, _ => zq_cw103
  | 104, _, _ => zq_cw104
  | 105, _, _ => zq_cw105
  | 106, _, _ => zq_cw106
  | 107, _, _ => zq_cw107
  | 108, _, _ => zq_cw108
  | 109, _, _ => zq_cw109
  | 110, _, _ => zq_cw110
  | 111, _, _ => zq_cw111
  | n + 112, _, h => absurd h (by show ¬ n + 112 < 112; omega)
end
section
-- methods
def zq_mj (j : Nat) : Prop := plainName (zq_nm j).cls = true ∧ (zq_nm j).cls = zq_own j ∧ zq_na j ≤ zq_ml j ∧ Jvm.Cond.code (zq_nm j) (zq_bc j) (zq_ml j) (zq_ret j) ∈ zq_tb ∧ zq_ml j ≤ 45 ∧ Jvm.Cond.initialized (zq_own j) ∈ zq_tb ∧ ((zq_nm j).cls ≠ "java/lang/invoke/MethodHandle" ∧ (zq_nm j).cls ≠ "java/lang/invoke/VarHandle")
def zq_mchk (j : Nat) : Bool := plainName (zq_nm j).cls && (decide ((zq_nm j).cls = zq_own j) && (decide (zq_na j ≤ zq_ml j) && (true && (decide (zq_ml j ≤ 45) && (zq_at (zq_wc (zq_oc j)).1 (.initialized (zq_own j)) && (decide ((zq_nm j).cls ≠ "java/lang/invoke/MethodHandle") && (decide ((zq_nm j).cls ≠ "java/lang/invoke/VarHandle") && decide (zq_ini j = true → (zq_nm j).name = "<init>"))))))))
theorem zq_mchk1 : ∀ j, j < 40 → 0 < j → zq_mchk j = true := by decide +kernel
theorem zq_mchk2 : ∀ j, j < 40 → j + 40 < zq_NM → zq_mchk (j + 40) = true := by decide +kernel
theorem zq_mchk3 : ∀ j, j < 40 → j + 80 < zq_NM → zq_mchk (j + 80) = true := by decide +kernel
theorem zq_NM_lt : zq_NM ≤ 120 := by decide
theorem zq_mchk_ok (j : Nat) (h0 : 0 < j) (h : j < zq_NM) : zq_mchk j = true := by
  have := zq_NM_lt
  by_cases h1 : j < 40
  · exact zq_mchk1 j h1 h0
  · by_cases h2 : j < 80
    · have := zq_mchk2 (j - 40) (by omega) (by omega)
      rwa [Nat.sub_add_cancel (by omega)] at this
    · have := zq_mchk3 (j - 80) (by omega) (by omega)
      rwa [Nat.sub_add_cancel (by omega)] at this
theorem zq_t_mj (j : Nat) (h0 : 0 < j) (h : j < zq_NM) : zq_mj j := by
  have hc := zq_mchk_ok j h0 h
  simp only [zq_mchk, Bool.and_eq_true, decide_eq_true_eq] at hc
  exact ⟨hc.1, hc.2.1, hc.2.2.1, zq_tb_in (zq_cw_ok j h0 h) rfl, hc.2.2.2.2.1, zq_at_in hc.2.2.2.2.2.1 rfl, hc.2.2.2.2.2.2.1, hc.2.2.2.2.2.2.2.1⟩
theorem zq_t_ini {i : Nat} (h : zq_ini i = true) : (zq_nm i).name = "<init>" := by
  by_cases hn : i < zq_NM
  · by_cases h0 : 0 < i
    · have hc := zq_mchk_ok i h0 hn
      simp only [zq_mchk, Bool.and_eq_true, decide_eq_true_eq] at hc
      exact hc.2.2.2.2.2.2.2.2 h
    · have : i = 0 := by omega
      subst this
      exact absurd h (by decide)
  · have : zq_ini i = false := zq_getD_out (Nat.not_lt.mp hn)
    rw [this] at h
    cases h
def zq_prm (j : Nat) : Option Nat := (parseMethodDescriptor (zq_nm j).desc).map (fun d => d.parameters.length)
def zq_kchk (oc : Nat) (q : Nat × Nat × Nat × Nat × Nat) : Bool :=
  decide (0 < q.2.1) && (decide (q.2.1 < zq_NM) &&
  ((if q.2.2.2.2 = 0 then zq_at q.2.2.2.1 (.methodLink (zq_cn oc) q.1 (zq_nm q.2.1)) else zq_nest.any (fun r => decide (r.1 = zq_cn oc) && (decide (r.2.1 = q.1) && decide (r.2.2.1 = zq_nm q.2.1)))) &&
  (if q.2.2.1 = 0 then decide (0 < zq_na q.2.1) && (decide (zq_oc q.2.1 < 7) && (zq_at (zq_wp q.2.1).2.1 (.instanceMethod (zq_nm q.2.1)) && (zq_at (zq_wp q.2.1).2.2 (.selects (zq_own q.2.1) (zq_nm q.2.1) (zq_nm q.2.1)) && decide (zq_prm q.2.1 = some (zq_na q.2.1 - 1)))))
   else if q.2.2.1 = 1 then decide (0 < zq_na q.2.1) && (decide (zq_ret q.2.1 = none) && (zq_at (zq_wp q.2.1).2.1 (.instanceMethod (zq_nm q.2.1)) && (decide ((zq_nm q.2.1).name = "<init>") && decide (zq_prm q.2.1 = some (zq_na q.2.1 - 1)))))
   else zq_at (zq_wp q.2.1).2.1 (.static (zq_nm q.2.1)) && (decide (q.2.2.1 = 2) && decide (zq_prm q.2.1 = some (zq_na q.2.1))))))
theorem zq_kchk_ok : ∀ oc, oc < 8 → (zq_mlT.getD oc []).all (zq_kchk oc) = true := by decide +kernel
theorem zq_mlk_of {kd i idx j kd' : Nat} (h : zq_mlk kd i idx = some (j, kd')) : kd' = kd ∧ ∃ q, q ∈ zq_mlT.getD (zq_oc i) [] ∧ q.1 = idx ∧ q.2.1 = j ∧ q.2.2.1 = kd ∧ zq_oc i < 8 ∧ zq_kchk (zq_oc i) q = true := by
  unfold zq_mlk at h
  obtain ⟨q, hq, he⟩ := Option.map_eq_some_iff.mp h
  have hm := List.mem_of_find?_eq_some hq
  have hx := List.find?_some hq
  simp only [Bool.and_eq_true, beq_iff_eq] at hx
  cases he
  rcases zq_oc_any i with h8 | h8
  · exact ⟨hx.2, q, hm, hx.1, rfl, hx.2, h8, List.all_eq_true.mp (zq_kchk_ok _ h8) q hm⟩
  · rw [h8] at hm
    cases hm
def zq_lnk (i idx j : Nat) : Prop := Jvm.Cond.methodLink (zq_own i) idx (zq_nm j) ∈ zq_tb ∨ ∃ host, (zq_own i, idx, zq_nm j, host) ∈ zq_nest
theorem zq_lnk_of {oc n idx j f : Nat} (h : (if f = 0 then zq_at n (.methodLink (zq_cn oc) idx (zq_nm j)) else zq_nest.any (fun r => decide (r.1 = zq_cn oc) && (decide (r.2.1 = idx) && decide (r.2.2.1 = zq_nm j)))) = true) : Jvm.Cond.methodLink (zq_cn oc) idx (zq_nm j) ∈ zq_tb ∨ ∃ host, (zq_cn oc, idx, zq_nm j, host) ∈ zq_nest := by
  split at h
  · exact Or.inl (zq_at_in h rfl)
  · right
    obtain ⟨r, hr, h⟩ := List.any_eq_true.mp h
    simp only [Bool.and_eq_true, decide_eq_true_eq] at h
    refine ⟨r.2.2.2, ?_⟩
    rw [← h.1, ← h.2.1, ← h.2.2]
    exact hr
theorem zq_t_mth {i j kd : Nat} {ins : Instr} (h : zq_mth i ins = some (j, kd)) : zq_mj j ∧
    ((kd = 0 ∧ ∃ idx, ins = .invokevirtual idx ∧ zq_lnk i idx j ∧ Jvm.Cond.instanceMethod (zq_nm j) ∈ zq_tb ∧ Jvm.Cond.selects (zq_own j) (zq_nm j) (zq_nm j) ∈ zq_tb ∧ zq_prm j = some (zq_na j - 1) ∧ ∃ T N, vwCl[zq_oc j]? = some (zq_own j, T, N) ∧ 0 < zq_na j) ∨
     (kd = 1 ∧ ∃ idx, ins = .invokespecial idx ∧ zq_lnk i idx j ∧ Jvm.Cond.instanceMethod (zq_nm j) ∈ zq_tb ∧ zq_ret j = none ∧ zq_prm j = some (zq_na j - 1) ∧ (zq_nm j).name = "<init>" ∧ 0 < zq_na j) ∨
     (kd = 2 ∧ ∃ idx, ins = .invokestatic idx ∧ zq_lnk i idx j ∧ Jvm.Cond.static (zq_nm j) ∈ zq_tb ∧ zq_prm j = some (zq_na j))) := by
  cases ins
  case invokevirtual idx =>
    obtain ⟨rfl, q, hm, h1, h2, h3, h8, hc⟩ := zq_mlk_of (show zq_mlk 0 i idx = some (j, kd) from h)
    simp only [zq_kchk, h1, h2, h3, Bool.and_eq_true, decide_eq_true_eq, if_true] at hc
    obtain ⟨c1, c2, c3, c4, c5, c6, c7, c8⟩ := hc
    exact ⟨zq_t_mj j c1 c2, Or.inl ⟨rfl, idx, rfl, zq_lnk_of c3, zq_at_in c6 rfl, zq_at_in c7 rfl, c8, _, _, zq_vw _ c5, c4⟩⟩
  case invokespecial idx =>
    obtain ⟨rfl, q, hm, h1, h2, h3, h8, hc⟩ := zq_mlk_of (show zq_mlk 1 i idx = some (j, kd) from h)
    simp only [zq_kchk, h1, h2, h3, Bool.and_eq_true, decide_eq_true_eq, if_true, Nat.one_ne_zero, if_false] at hc
    obtain ⟨c1, c2, c3, c4, c5, c6, c7, c8⟩ := hc
    exact ⟨zq_t_mj j c1 c2, Or.inr (Or.inl ⟨rfl, idx, rfl, zq_lnk_of c3, zq_at_in c6 rfl, c5, c8, c7, c4⟩)⟩
  case invokestatic idx =>
    obtain ⟨rfl, q, hm, h1, h2, h3, h8, hc⟩ := zq_mlk_of (show zq_mlk 2 i idx = some (j, kd) from h)
    simp only [zq_kchk, h1, h2, h3, Bool.and_eq_true, decide_eq_true_eq] at hc
    obtain ⟨c1, c2, c3, c4⟩ := hc
    rw [if_neg (by decide), if_neg (by decide)] at c4
    simp only [Bool.and_eq_true, decide_eq_true_eq] at c4
    obtain ⟨c4, -, c5⟩ := c4
    exact ⟨zq_t_mj j c1 c2, Or.inr (Or.inr ⟨rfl, idx, rfl, zq_lnk_of c3, zq_at_in c4 rfl, c5⟩)⟩
  all_goals exact absurd h (fun q => by cases (show (none : Option (Nat × Nat)) = some _ from q))
end
section
/-! THE PURE MACHINE: shapes (tag, length), ints and references by address and place, the next address, the slots used.
Tags: 0 nothing; 1 the script; 2 int[]; 3 boolean[]; 50 + c an array of objects of class c; 100 + c an object of class c. -/
abbrev zq_S : Type := Nat → Nat × Nat
abbrev zq_I : Type := Nat → Nat → Int32
abbrev zq_P : Type := Nat → Nat → Option Nat
abbrev zq_L : Type := List (Option Value)
abbrev zq_O : Type := Option Value × zq_S × zq_I × zq_P × Nat × Nat
abbrev zq_N : Type := Nat × zq_L × List Value × zq_S × zq_I × zq_P × Nat × Nat
abbrev zq_R : Type := Nat → Nat → Nat → zq_L → List Value → zq_S → zq_I → zq_P → Nat → Nat → Option zq_O
def zq_up {α : Type} (f : Nat → Nat → α) (a j : Nat) (v : α) : Nat → Nat → α := fun b k => if b = a ∧ k = j then v else f b k
def zq_us (f : zq_S) (a : Nat) (v : Nat × Nat) : zq_S := fun b => if b = a then v else f b
def zq_row {α : Type} (f : Nat → Nat → α) (a : Nat) (v : α) : Nat → Nat → α := fun b k => if b = a then v else f b k
def zq_ref (v : Value) : Bool := match v with
  | .ref _ => true
  | .null => true
  | _ => false
def zq_cmp (c : Jvm.ClassFile.Cond) (x y : Int32) : Bool := match c with
  | .eq => decide (x = y)
  | .ne => decide (¬ x = y)
  | .lt => decide (x < y)
  | .ge => decide (y ≤ x)
  | .gt => decide (y < x)
  | .le => decide (x ≤ y)
def zq_ok (pc : Nat) (L : zq_L) (st : List Value) : Option (Nat × zq_L × List Value) := some (pc, L, st)
def zq_ldI (v pc : Nat) (L : zq_L) (st : List Value) : Option (Nat × zq_L × List Value) := match L[v]? with
  | some (some (.int x)) => zq_ok pc L (.int x :: st)
  | _ => none
def zq_ldA (v pc : Nat) (L : zq_L) (st : List Value) : Option (Nat × zq_L × List Value) := match L[v]? with
  | some (some w) => if zq_ref w = true then zq_ok pc L (w :: st) else none
  | _ => none
def zq_stI (v pc : Nat) (L : zq_L) (st : List Value) : Option (Nat × zq_L × List Value) := match st with
  | .int x :: r => if v < L.length then zq_ok pc (L.set v (some (.int x))) r else none
  | _ => none
def zq_stA (v pc : Nat) (L : zq_L) (st : List Value) : Option (Nat × zq_L × List Value) := match st with
  | w :: r => if zq_ref w = true ∧ v < L.length then zq_ok pc (L.set v (some w)) r else none
  | _ => none
def zq_inc (v : Nat) (n : Int) (pc : Nat) (L : zq_L) (st : List Value) : Option (Nat × zq_L × List Value) := match L[v]? with
  | some (some (.int x)) => zq_ok pc (L.set v (some (.int (x + Int32.ofInt n)))) st
  | _ => none
def zq_bin (f : Int32 → Int32 → Int32) (pc : Nat) (L : zq_L) (st : List Value) : Option (Nat × zq_L × List Value) := match st with
  | .int y :: .int x :: r => zq_ok pc L (.int (f x y) :: r)
  | _ => none
def zq_div (pc : Nat) (L : zq_L) (st : List Value) : Option (Nat × zq_L × List Value) := match st with
  | .int y :: .int x :: r => if y = 0 then none else zq_ok pc L (.int (x / y) :: r)
  | _ => none
def zq_un (f : Int32 → Int32) (pc : Nat) (L : zq_L) (st : List Value) : Option (Nat × zq_L × List Value) := match st with
  | .int x :: r => zq_ok pc L (.int (f x) :: r)
  | _ => none
def zq_to (t : Int) (L : zq_L) (st : List Value) : Option (Nat × zq_L × List Value) := if 0 ≤ t then zq_ok t.toNat L st else none
def zq_if1 (c : Jvm.ClassFile.Cond) (off : Int) (pc : Nat) (L : zq_L) (st : List Value) : Option (Nat × zq_L × List Value) := match st with
  | .int x :: r => if 0 ≤ (pc : Int) + off then zq_ok (if zq_cmp c x 0 = true then ((pc : Int) + off).toNat else pc + 3) L r else none
  | _ => none
def zq_if2 (c : Jvm.ClassFile.Cond) (off : Int) (pc : Nat) (L : zq_L) (st : List Value) : Option (Nat × zq_L × List Value) := match st with
  | .int y :: .int x :: r => if 0 ≤ (pc : Int) + off then zq_ok (if zq_cmp c x y = true then ((pc : Int) + off).toNat else pc + 3) L r else none
  | _ => none
def zq_ifn (off : Int) (pc : Nat) (L : zq_L) (st : List Value) : Option (Nat × zq_L × List Value) := match st with
  | .null :: r => zq_to ((pc : Int) + off) L r
  | .ref _ :: r => zq_ok (pc + 3) L r
  | _ => none
def zq_ifnn (off : Int) (pc : Nat) (L : zq_L) (st : List Value) : Option (Nat × zq_L × List Value) := match st with
  | .ref _ :: r => zq_to ((pc : Int) + off) L r
  | .null :: r => zq_ok (pc + 3) L r
  | _ => none
def zq_dup (pc : Nat) (L : zq_L) (st : List Value) : Option (Nat × zq_L × List Value) := match st with
  | w :: r => if w.category = 1 then zq_ok (pc + 1) L (w :: w :: r) else none
  | _ => none
def zq_pop (pc : Nat) (L : zq_L) (st : List Value) : Option (Nat × zq_L × List Value) := match st with
  | w :: r => if w.category = 1 then zq_ok (pc + 1) L r else none
  | _ => none
def zq_dupx1 (pc : Nat) (L : zq_L) (st : List Value) : Option (Nat × zq_L × List Value) := match st with
  | w :: v :: r => if w.category = 1 ∧ v.category = 1 then zq_ok (pc + 1) L (w :: v :: w :: r) else none
  | _ => none
def zq_dupx2 (pc : Nat) (L : zq_L) (st : List Value) : Option (Nat × zq_L × List Value) := match st with
  | w :: v :: u :: r => if w.category = 1 ∧ v.category = 1 ∧ u.category = 1 then zq_ok (pc + 1) L (w :: v :: u :: w :: r) else none
  | _ => none
def zq_dup2 (pc : Nat) (L : zq_L) (st : List Value) : Option (Nat × zq_L × List Value) := match st with
  | w :: v :: r => if w.category = 1 ∧ v.category = 1 then zq_ok (pc + 1) L (w :: v :: w :: v :: r) else none
  | _ => none
def zq_tab (dflt lo hi : Int) (offs : Array Int) (pc : Nat) (L : zq_L) (st : List Value) : Option (Nat × zq_L × List Value) := match st with
  | .int x :: r => if x.toInt < lo ∨ hi < x.toInt then zq_to ((pc : Int) + dflt) L r else
    match offs[(x.toInt - lo).toNat]? with
    | some off => zq_to ((pc : Int) + off) L r
    | none => none
  | _ => none
def zq_pure (ins : Instr) (pc : Nat) (L : zq_L) (st : List Value) : Option (Nat × zq_L × List Value) := match ins with
  | .aconst_null => zq_ok (pc + 1) L (.null :: st)
  | .iconst n => zq_ok (pc + 1) L (.int (Int32.ofInt n) :: st)
  | .bipush n => zq_ok (pc + 2) L (.int (Int8.ofInt n).toInt32 :: st)
  | .sipush n => zq_ok (pc + 3) L (.int (Int16.ofInt n).toInt32 :: st)
  | .iload v => zq_ldI v (pc + 2) L st
  | .iload_n v => zq_ldI v.val (pc + 1) L st
  | .aload v => zq_ldA v (pc + 2) L st
  | .aload_n v => zq_ldA v.val (pc + 1) L st
  | .istore v => zq_stI v (pc + 2) L st
  | .istore_n v => zq_stI v.val (pc + 1) L st
  | .astore v => zq_stA v (pc + 2) L st
  | .astore_n v => zq_stA v.val (pc + 1) L st
  | .iinc v n => zq_inc v n (pc + 3) L st
  | .iadd => zq_bin (fun x y => x + y) (pc + 1) L st
  | .isub => zq_bin (fun x y => x - y) (pc + 1) L st
  | .imul => zq_bin (fun x y => x * y) (pc + 1) L st
  | .iand => zq_bin (fun x y => x &&& y) (pc + 1) L st
  | .ior => zq_bin (fun x y => x ||| y) (pc + 1) L st
  | .ixor => zq_bin (fun x y => x ^^^ y) (pc + 1) L st
  | .ishl => zq_bin (fun x y => x <<< (y &&& 31)) (pc + 1) L st
  | .ishr => zq_bin (fun x y => x >>> (y &&& 31)) (pc + 1) L st
  | .idiv => zq_div (pc + 1) L st
  | .ineg => zq_un (fun x => -x) (pc + 1) L st
  | .dup => zq_dup pc L st
  | .pop => zq_pop pc L st
  | .dup_x1 => zq_dupx1 pc L st
  | .dup_x2 => zq_dupx2 pc L st
  | .dup2 => zq_dup2 pc L st
  | .ifCond c off => zq_if1 c off pc L st
  | .if_icmp c off => zq_if2 c off pc L st
  | .ifnull off => zq_ifn off pc L st
  | .ifnonnull off => zq_ifnn off pc L st
  | .goto off => zq_to ((pc : Int) + off) L st
  | .tableswitch dflt lo hi offs => zq_tab dflt lo hi offs pc L st
  | _ => none
/-- heap steps: how long the instruction is, the new stack, and the new memory -/
abbrev zq_M : Type := Nat × List Value × zq_S × zq_I × zq_P × Nat × Nat
def zq_getf (o : Option (Nat × Nat)) (st : List Value) (sh : zq_S) (I : zq_I) (P : zq_P) (nx kx : Nat) : Option zq_M := match o, st with
  | some (ci, k), .ref a :: r => if (sh a).1 = 100 + ci then (if zq_ptr ci k = true then some (3, va_rf (P a k) :: r, sh, I, P, nx, kx) else some (3, .int (I a k) :: r, sh, I, P, nx, kx)) else none
  | _, _ => none
def zq_putf (b : Bool) (o : Option (Nat × Nat)) (st : List Value) (sh : zq_S) (I : zq_I) (P : zq_P) (nx kx : Nat) : Option zq_M := match o, st with
  | some (ci, k), .int x :: .ref a :: r => if (sh a).1 = 100 + ci ∧ zq_ptr ci k = false ∧ b = true then some (3, r, sh, zq_up I a k x, P, nx, kx) else none
  | some (ci, k), .ref y :: .ref a :: r => if (sh a).1 = 100 + ci ∧ zq_ptr ci k = true ∧ b = true then some (3, r, sh, I, zq_up P a k (some y), nx, kx) else none
  | some (ci, k), .null :: .ref a :: r => if (sh a).1 = 100 + ci ∧ zq_ptr ci k = true ∧ b = true then some (3, r, sh, I, zq_up P a k none, nx, kx) else none
  | _, _ => none
def zq_iald (st : List Value) (sh : zq_S) (I : zq_I) (P : zq_P) (nx kx : Nat) : Option zq_M := match st with
  | .int j :: .ref a :: r => if ((sh a).1 = 1 ∨ (sh a).1 = 2) ∧ 0 ≤ j ∧ j.toNatClampNeg < (sh a).2 then some (1, .int (I a j.toNatClampNeg) :: r, sh, I, P, nx, kx) else none
  | _ => none
def zq_bald (st : List Value) (sh : zq_S) (I : zq_I) (P : zq_P) (nx kx : Nat) : Option zq_M := match st with
  | .int j :: .ref a :: r => if (sh a).1 = 3 ∧ 0 ≤ j ∧ j.toNatClampNeg < (sh a).2 then some (1, .int (I a j.toNatClampNeg) :: r, sh, I, P, nx, kx) else none
  | _ => none
def zq_aald (st : List Value) (sh : zq_S) (I : zq_I) (P : zq_P) (nx kx : Nat) : Option zq_M := match st with
  | .int j :: .ref a :: r => if 50 ≤ (sh a).1 ∧ (sh a).1 < 100 ∧ 0 ≤ j ∧ j.toNatClampNeg < (sh a).2 then some (1, va_rf (P a j.toNatClampNeg) :: r, sh, I, P, nx, kx) else none
  | _ => none
def zq_iast (st : List Value) (sh : zq_S) (I : zq_I) (P : zq_P) (nx kx : Nat) : Option zq_M := match st with
  | .int x :: .int j :: .ref a :: r => if (sh a).1 = 2 ∧ 0 ≤ j ∧ j.toNatClampNeg < (sh a).2 then some (1, r, sh, zq_up I a j.toNatClampNeg x, P, nx, kx) else none
  | _ => none
def zq_bast (st : List Value) (sh : zq_S) (I : zq_I) (P : zq_P) (nx kx : Nat) : Option zq_M := match st with
  | .int x :: .int j :: .ref a :: r => if (sh a).1 = 3 ∧ 0 ≤ j ∧ j.toNatClampNeg < (sh a).2 then some (1, r, sh, zq_up I a j.toNatClampNeg (x &&& 1), P, nx, kx) else none
  | _ => none
def zq_aast (st : List Value) (sh : zq_S) (I : zq_I) (P : zq_P) (nx kx : Nat) : Option zq_M := match st with
  | .ref y :: .int j :: .ref a :: r => if 50 ≤ (sh a).1 ∧ (sh a).1 < 100 ∧ (sh y).1 = (sh a).1 + 50 ∧ 0 ≤ j ∧ j.toNatClampNeg < (sh a).2 then some (1, r, sh, I, zq_up P a j.toNatClampNeg (some y), nx, kx) else none
  | _ => none
def zq_alen (st : List Value) (sh : zq_S) (I : zq_I) (P : zq_P) (nx kx : Nat) : Option zq_M := match st with
  | .ref a :: r => if 0 < (sh a).1 ∧ (sh a).1 < 100 then some (1, .int (Int32.ofNat (sh a).2) :: r, sh, I, P, nx, kx) else none
  | _ => none
def zq_new (o : Option Nat) (st : List Value) (sh : zq_S) (I : zq_I) (P : zq_P) (nx kx : Nat) : Option zq_M := match o with
  | some ci => some (3, .ref nx :: st, zq_us sh nx (100 + ci, 0), zq_row I nx 0, zq_row P nx none, nx + 1, kx + zq_nf ci)
  | none => none
def zq_newa (t : Nat) (st : List Value) (sh : zq_S) (I : zq_I) (P : zq_P) (nx kx : Nat) : Option zq_M := match st with
  | .int n :: r => if 0 ≤ n ∧ n.toNatClampNeg ≤ 1000000 then some (2, .ref nx :: r, zq_us sh nx (t, n.toNatClampNeg), zq_row I nx 0, P, nx + 1, kx + n.toNatClampNeg) else none
  | _ => none
def zq_anew (o : Option Nat) (st : List Value) (sh : zq_S) (I : zq_I) (P : zq_P) (nx kx : Nat) : Option zq_M := match o, st with
  | some ci, .int n :: r => if 0 ≤ n ∧ n.toNatClampNeg ≤ 1000000 then some (3, .ref nx :: r, zq_us sh nx (50 + ci, n.toNatClampNeg), I, zq_row P nx none, nx + 1, kx + n.toNatClampNeg) else none
  | _, _ => none
def zq_oini (b : Bool) (st : List Value) (sh : zq_S) (I : zq_I) (P : zq_P) (nx kx : Nat) : Option zq_M := match st with
  | .ref _ :: r => if b = true ∧ (r.map fun v => v.category).sum ≤ 8 then some (3, r, sh, I, P, nx, kx) else none
  | _ => none
def zq_heap (i : Nat) (ins : Instr) (st : List Value) (sh : zq_S) (I : zq_I) (P : zq_P) (nx kx : Nat) : Option zq_M := match ins with
  | .getfield idx => zq_getf (zq_fld i idx) st sh I P nx kx
  | .putfield idx => zq_putf (zq_pok i idx) (zq_fld i idx) st sh I P nx kx
  | .iaload => zq_iald st sh I P nx kx
  | .baload => zq_bald st sh I P nx kx
  | .aaload => zq_aald st sh I P nx kx
  | .iastore => zq_iast st sh I P nx kx
  | .bastore => zq_bast st sh I P nx kx
  | .aastore => zq_aast st sh I P nx kx
  | .arraylength => zq_alen st sh I P nx kx
  | .new idx => zq_new (zq_cls i idx) st sh I P nx kx
  | .newarray .int => zq_newa 2 st sh I P nx kx
  | .newarray .boolean => zq_newa 3 st sh I P nx kx
  | .anewarray idx => zq_anew (zq_acl i idx) st sh I P nx kx
  | .invokespecial idx => zq_oini (zq_obj i idx) st sh I P nx kx
  | _ => none
def zq_next (i : Nat) (ins : Instr) (pc : Nat) (L : zq_L) (st : List Value) (sh : zq_S) (I : zq_I) (P : zq_P) (nx kx : Nat) : Option zq_N := match zq_pure ins pc L st with
  | some q => some (q.1, q.2.1, q.2.2, sh, I, P, nx, kx)
  | none => match zq_heap i ins st sh I P nx kx with
    | some q => some (pc + q.1, L, q.2)
    | none => none
/-- the answer, where the instruction returns -/
def zq_rti (t : Option FieldType) (st : List Value) : Option (Option Value) := match t, st with
  | some .int, [.int x] => some (some (.int x))
  | some .boolean, [.int x] => if x = 0 ∨ x = 1 then some (some (.int x)) else none
  | _, _ => none
def zq_rta (t : Option FieldType) (st : List Value) : Option (Option Value) := match t, st with
  | some (.object _), [w] => if zq_ref w = true then some (some w) else none
  | _, _ => none
def zq_rtv (t : Option FieldType) (st : List Value) : Option (Option Value) := match t, st with
  | none, [] => some none
  | _, _ => none
def zq_rt (i : Nat) (ins : Instr) (st : List Value) : Option (Option Value) := match ins with
  | .ireturn => zq_rti (zq_ret i) st
  | .areturn => zq_rta (zq_ret i) st
  | .return_ => zq_rtv (zq_ret i) st
  | _ => none
/-- the receiver: kinds 0 invokevirtual, 1 invokespecial, 2 invokestatic -/
def zq_rcv (kd j : Nat) (st : List Value) (sh : zq_S) : Bool := match st[zq_na j - 1]? with
  | some (.ref b) => kd == 1 || (sh b).1 == 100 + zq_oc j
  | _ => false
def zq_arg (kd j : Nat) (st : List Value) (sh : zq_S) : Bool :=
  decide (zq_na j ≤ st.length) && (decide (((st.drop (zq_na j)).map fun v => v.category).sum ≤ 8) && ((st.take (zq_na j)).all (fun v => v.category == 1) && (kd == 2 || zq_rcv kd j st sh)))
def zq_ent (j : Nat) (As : List Value) : zq_L := As.map some ++ List.replicate (zq_ml j - As.length) none
def zq_body (rec : zq_R) : zq_R := fun d i pc L st sh I P nx kx => match zq_ins i pc with
  | none => none
  | some ins => match zq_mth i ins with
    | some (j, kd) => match d with
      | 0 => none
      | d' + 1 => if zq_arg kd j st sh = true then (rec d' j 0 (zq_ent j (st.take (zq_na j)).reverse) [] sh I P nx kx).bind fun q => rec (d' + 1) i (pc + 3) L (q.1.toList ++ st.drop (zq_na j)) q.2.1 q.2.2.1 q.2.2.2.1 q.2.2.2.2.1 q.2.2.2.2.2 else none
    | none => match zq_rt i ins st with
      | some v => some (v, sh, I, P, nx, kx)
      | none => match zq_next i ins pc L st sh I P nx kx with
        | some q => rec d i q.1 q.2.1 q.2.2.1 q.2.2.2.1 q.2.2.2.2.1 q.2.2.2.2.2.1 q.2.2.2.2.2.2.1 q.2.2.2.2.2.2.2
        | none => none
def zq_run : Nat → zq_R
  | 0 => fun _ _ _ _ _ _ _ _ _ _ => none
  | n + 1 => zq_body (zq_run n)
/-! the limit: what the machine answers with as many steps as it takes -/
noncomputable def zq_lim {α : Type} (f : Nat → Option α) : Option α := @dite _ (∃ n, ∃ v, f n = some v) (Classical.propDecidable _) (fun h => f (Classical.choose h)) (fun _ => none)
def zq_mo {α : Type} (f : Nat → Option α) : Prop := ∀ n v, f n = some v → f (n + 1) = some v
theorem zq_mo.le {α : Type} {f : Nat → Option α} (h : zq_mo f) {n m : Nat} {v : α} (hn : f n = some v) (hm : n ≤ m) : f m = some v := by
  induction hm with
  | refl => exact hn
  | step _ ih => exact h _ _ ih
theorem zq_lim_of {α : Type} {f : Nat → Option α} (h : zq_mo f) {n : Nat} {v : α} (hn : f n = some v) : zq_lim f = some v := by
  have hx : ∃ n, ∃ v, f n = some v := ⟨n, v, hn⟩
  unfold zq_lim
  rw [dif_pos hx]
  obtain ⟨w, hw⟩ := Classical.choose_spec hx
  rcases Nat.le_total n (Classical.choose hx) with q | q
  · exact h.le hn q
  · have h2 := h.le hw q
    rw [hw, ← h2, hn]
theorem zq_lim_ex {α : Type} {f : Nat → Option α} {v : α} (h : zq_lim f = some v) : ∃ n, f n = some v := by
  unfold zq_lim at h
  split at h
  · exact ⟨_, h⟩
  · cases h
theorem zq_lim_iff {α : Type} {f : Nat → Option α} (h : zq_mo f) (v : α) : zq_lim f = some v ↔ ∃ n, f n = some v := ⟨zq_lim_ex, fun ⟨_, hn⟩ => zq_lim_of h hn⟩
theorem zq_opt {α : Type} {a b : Option α} (h : ∀ v, a = some v ↔ b = some v) : a = b := by
  cases a with
  | none => cases b with
    | none => rfl
    | some y => exact absurd ((h y).mpr rfl) (by simp)
  | some x => exact ((h x).mp rfl).symm
theorem zq_body_mo {r1 r2 : zq_R} (h : ∀ d i pc L st sh I P nx kx v, r1 d i pc L st sh I P nx kx = some v → r2 d i pc L st sh I P nx kx = some v) (d i pc : Nat) (L : zq_L) (st : List Value) (sh : zq_S) (I : zq_I) (P : zq_P) (nx kx : Nat) (v : zq_O) (hv : zq_body r1 d i pc L st sh I P nx kx = some v) : zq_body r2 d i pc L st sh I P nx kx = some v := by
  unfold zq_body at hv ⊢
  split at hv
  · cases hv
  · split at hv
    · split at hv
      · cases hv
      · split at hv
        · rename_i ha
          rw [if_pos ha]
          obtain ⟨q, hq, hv⟩ := Option.bind_eq_some_iff.mp hv
          rw [h _ _ _ _ _ _ _ _ _ _ _ hq]
          exact h _ _ _ _ _ _ _ _ _ _ _ hv
        · cases hv
    · split at hv
      · exact hv
      · split at hv
        · exact h _ _ _ _ _ _ _ _ _ _ _ hv
        · cases hv
theorem zq_run_mo (d i pc : Nat) (L : zq_L) (st : List Value) (sh : zq_S) (I : zq_I) (P : zq_P) (nx kx : Nat) : zq_mo (fun n => zq_run n d i pc L st sh I P nx kx) := by
  intro n
  have key : ∀ d i pc L st sh I P nx kx v, zq_run n d i pc L st sh I P nx kx = some v → zq_run (n + 1) d i pc L st sh I P nx kx = some v := by
    induction n with
    | zero => intro d i pc L st sh I P nx kx v h; cases h
    | succ n ih => intro d i pc L st sh I P nx kx v h; exact zq_body_mo ih d i pc L st sh I P nx kx v h
  exact fun v => key d i pc L st sh I P nx kx v
noncomputable def zq_F (d i pc : Nat) (L : zq_L) (st : List Value) (sh : zq_S) (I : zq_I) (P : zq_P) (nx kx : Nat) : Option zq_O := zq_lim (fun n => zq_run n d i pc L st sh I P nx kx)
noncomputable def zq_C (d j : Nat) (As : List Value) (sh : zq_S) (I : zq_I) (P : zq_P) (nx kx : Nat) : Option zq_O := zq_F d j 0 (zq_ent j As) [] sh I P nx kx
theorem zq_F_ex {d i pc : Nat} {L : zq_L} {st : List Value} {sh : zq_S} {I : zq_I} {P : zq_P} {nx kx : Nat} {v : zq_O} : zq_F d i pc L st sh I P nx kx = some v ↔ ∃ n, zq_run n d i pc L st sh I P nx kx = some v := zq_lim_iff (zq_run_mo d i pc L st sh I P nx kx) v
theorem zq_F_body {d i pc : Nat} {L : zq_L} {st : List Value} {sh : zq_S} {I : zq_I} {P : zq_P} {nx kx : Nat} {v : zq_O} : zq_F d i pc L st sh I P nx kx = some v ↔ ∃ n, zq_body (zq_run n) d i pc L st sh I P nx kx = some v := by
  rw [zq_F_ex]
  constructor
  · rintro ⟨n, h⟩
    cases n with
    | zero => cases h
    | succ n => exact ⟨n, h⟩
  · rintro ⟨n, h⟩
    exact ⟨n + 1, h⟩
/-- one step that is no call and no return -/
theorem zq_F_next {d i pc pc' nx' kx' : Nat} {ins : Instr} {L L' : zq_L} {st st' : List Value} {sh sh' : zq_S} {I I' : zq_I} {P P' : zq_P} {nx kx : Nat} (hi : zq_ins i pc = some ins) (hm : zq_mth i ins = none) (hr : zq_rt i ins st = none) (hn : zq_next i ins pc L st sh I P nx kx = some (pc', L', st', sh', I', P', nx', kx')) :
    zq_F d i pc L st sh I P nx kx = zq_F d i pc' L' st' sh' I' P' nx' kx' := by
  have key : ∀ r : zq_R, zq_body r d i pc L st sh I P nx kx = r d i pc' L' st' sh' I' P' nx' kx' := by
    intro r
    simp only [zq_body, hi, hm, hr, hn]
  refine zq_opt fun v => ?_
  rw [zq_F_body, zq_F_ex]
  simp only [key]
/-- a return -/
theorem zq_F_ret {d i pc : Nat} {ins : Instr} {L : zq_L} {st : List Value} {sh : zq_S} {I : zq_I} {P : zq_P} {nx kx : Nat} {v : Option Value} (hi : zq_ins i pc = some ins) (hm : zq_mth i ins = none) (hr : zq_rt i ins st = some v) :
    zq_F d i pc L st sh I P nx kx = some (v, sh, I, P, nx, kx) := by
  rw [zq_F_body]
  exact ⟨0, by simp only [zq_body, hi, hm, hr]⟩
/-- a call -/
theorem zq_F_call {d i pc j kd : Nat} {ins : Instr} {L : zq_L} {st rest As : List Value} {sh : zq_S} {I : zq_I} {P : zq_P} {nx kx : Nat} (hi : zq_ins i pc = some ins) (hm : zq_mth i ins = some (j, kd)) (ha : zq_arg kd j st sh = true) (hA : (st.take (zq_na j)).reverse = As) (hr : st.drop (zq_na j) = rest) :
    zq_F (d + 1) i pc L st sh I P nx kx = (zq_C d j As sh I P nx kx).bind fun q => zq_F (d + 1) i (pc + 3) L (q.1.toList ++ rest) q.2.1 q.2.2.1 q.2.2.2.1 q.2.2.2.2.1 q.2.2.2.2.2 := by
  subst hA; subst hr
  have key : ∀ r : zq_R, zq_body r (d + 1) i pc L st sh I P nx kx = (r d j 0 (zq_ent j (st.take (zq_na j)).reverse) [] sh I P nx kx).bind fun q => r (d + 1) i (pc + 3) L (q.1.toList ++ st.drop (zq_na j)) q.2.1 q.2.2.1 q.2.2.2.1 q.2.2.2.2.1 q.2.2.2.2.2 := by
    intro r
    simp only [zq_body, hi, hm]
    rw [if_pos ha]
  refine zq_opt fun v => ?_
  rw [zq_F_body]
  simp only [key, Option.bind_eq_some_iff]
  constructor
  · rintro ⟨n, q, h1, h2⟩
    exact ⟨q, zq_F_ex.mpr ⟨n, h1⟩, zq_F_ex.mpr ⟨n, h2⟩⟩
  · rintro ⟨q, h1, h2⟩
    obtain ⟨n1, h1⟩ := zq_F_ex.mp h1
    obtain ⟨n2, h2⟩ := zq_F_ex.mp h2
    refine ⟨max n1 n2, q, ?_, ?_⟩
    · exact (zq_run_mo _ _ _ _ _ _ _ _ _ _).le h1 (Nat.le_max_left _ _)
    · exact (zq_run_mo _ _ _ _ _ _ _ _ _ _).le h2 (Nat.le_max_right _ _)
end
section
/-! SOUNDNESS: what the pure machine answers, the machine does -/
/-- the locals -/
def zq_l (ls : Array Slot) (L : zq_L) (n : Nat) : Prop := ls.size = n ∧ L.length = n ∧ lv_wf ls ∧ ∀ (k : Nat) (w : Value), L[k]? = some (some w) → ls[k]? = some (.val w) ∧ w.category = 1
def zq_prs (L : zq_L) : List (Nat × Value) := (List.range L.length).filterMap (fun k => match L[k]? with
  | some (some w) => some (k, w)
  | _ => none)
theorem zq_prs_mem {L : zq_L} {k : Nat} {w : Value} : (k, w) ∈ zq_prs L ↔ L[k]? = some (some w) := by
  unfold zq_prs
  rw [List.mem_filterMap]
  constructor
  · rintro ⟨j, -, h⟩
    split at h
    · rename_i w' hw
      cases h
      exact hw
    · cases h
  · intro h
    refine ⟨k, List.mem_range.mpr (List.getElem?_eq_some_iff.mp h).1, ?_⟩
    rw [h]
theorem zq_l.has {ls : Array Slot} {L : zq_L} {n : Nat} (h : zq_l ls L n) : lv_has ls n (zq_prs L) :=
  ⟨h.1, h.2.2.1, fun q hq => (h.2.2.2 q.1 q.2 (zq_prs_mem.mp hq)).1⟩
theorem zq_l.stored {ls ls' : Array Slot} {L : zq_L} {n k : Nat} {w : Value} (h : zq_l ls L n) (hk : k < n) (hw : w.category = 1) (hs : lv_has ls' n ((k, w) :: (zq_prs L).filter (fun q => !(q.1 == k) && !(q.1 + 1 == k && q.2.category == 2)))) : zq_l ls' (L.set k (some w)) n := by
  refine ⟨hs.1, by rw [List.length_set]; exact h.2.1, hs.2.1, fun j v hj => ?_⟩
  by_cases hjk : j = k
  · subst hjk
    rw [List.getElem?_set_self (by rw [h.2.1]; exact hk)] at hj
    cases hj
    exact ⟨hs.2.2 (j, w) List.mem_cons_self, hw⟩
  · rw [List.getElem?_set_ne (Ne.symm hjk)] at hj
    have hc := (h.2.2.2 j v hj).2
    refine ⟨hs.2.2 (j, v) (List.mem_cons_of_mem _ (List.mem_filter.mpr ⟨zq_prs_mem.mpr hj, ?_⟩)), hc⟩
    simp [hjk, hc]
theorem zq_ref_cases {w : Value} (h : zq_ref w = true) : w = .null ∨ ∃ a, w = .ref a := by
  cases w <;> first | exact Or.inl rfl | exact Or.inr ⟨_, rfl⟩ | (simp [zq_ref] at h)
theorem zq_ref_cat {w : Value} (h : zq_ref w = true) : w.category = 1 := by
  rcases zq_ref_cases h with rfl | ⟨a, rfl⟩ <;> rfl
/-! what a pure step needs, read off its answer -/
theorem zq_ok_inv {pc pc' : Nat} {L L' : zq_L} {st st' : List Value} (h : zq_ok pc L st = some (pc', L', st')) : pc' = pc ∧ L' = L ∧ st' = st := by
  cases h
  exact ⟨rfl, rfl, rfl⟩
theorem zq_ldI_inv {v pc pc' : Nat} {L L' : zq_L} {st st' : List Value} (h : zq_ldI v pc L st = some (pc', L', st')) : ∃ x : Int32, L[v]? = some (some (.int x)) ∧ pc' = pc ∧ L' = L ∧ st' = .int x :: st := by
  unfold zq_ldI at h
  split at h
  · rename_i x hx
    obtain ⟨h1, h2, h3⟩ := zq_ok_inv h
    exact ⟨x, hx, h1, h2, h3⟩
  · cases h
theorem zq_ldA_inv {v pc pc' : Nat} {L L' : zq_L} {st st' : List Value} (h : zq_ldA v pc L st = some (pc', L', st')) : ∃ w : Value, L[v]? = some (some w) ∧ zq_ref w = true ∧ pc' = pc ∧ L' = L ∧ st' = w :: st := by
  unfold zq_ldA at h
  split at h
  · rename_i w hw
    split at h
    · rename_i hr
      obtain ⟨h1, h2, h3⟩ := zq_ok_inv h
      exact ⟨w, hw, hr, h1, h2, h3⟩
    · cases h
  · cases h
theorem zq_stI_inv {v pc pc' : Nat} {L L' : zq_L} {st st' : List Value} (h : zq_stI v pc L st = some (pc', L', st')) : ∃ (x : Int32) (r : List Value), st = .int x :: r ∧ v < L.length ∧ pc' = pc ∧ L' = L.set v (some (.int x)) ∧ st' = r := by
  unfold zq_stI at h
  split at h
  · rename_i x r
    split at h
    · rename_i hr
      obtain ⟨h1, h2, h3⟩ := zq_ok_inv h
      exact ⟨x, r, rfl, hr, h1, h2, h3⟩
    · cases h
  · cases h
theorem zq_stA_inv {v pc pc' : Nat} {L L' : zq_L} {st st' : List Value} (h : zq_stA v pc L st = some (pc', L', st')) : ∃ (w : Value) (r : List Value), st = w :: r ∧ zq_ref w = true ∧ v < L.length ∧ pc' = pc ∧ L' = L.set v (some w) ∧ st' = r := by
  unfold zq_stA at h
  split at h
  · rename_i w r
    split at h
    · rename_i hr
      obtain ⟨h1, h2, h3⟩ := zq_ok_inv h
      exact ⟨w, r, rfl, hr.1, hr.2, h1, h2, h3⟩
    · cases h
  · cases h
theorem zq_inc_inv {v pc pc' : Nat} {n : Int} {L L' : zq_L} {st st' : List Value} (h : zq_inc v n pc L st = some (pc', L', st')) : ∃ x : Int32, L[v]? = some (some (.int x)) ∧ pc' = pc ∧ L' = L.set v (some (.int (x + Int32.ofInt n))) ∧ st' = st := by
  unfold zq_inc at h
  split at h
  · rename_i x hx
    obtain ⟨h1, h2, h3⟩ := zq_ok_inv h
    exact ⟨x, hx, h1, h2, h3⟩
  · cases h
theorem zq_bin_inv {f : Int32 → Int32 → Int32} {pc pc' : Nat} {L L' : zq_L} {st st' : List Value} (h : zq_bin f pc L st = some (pc', L', st')) : ∃ (x y : Int32) (r : List Value), st = .int y :: .int x :: r ∧ pc' = pc ∧ L' = L ∧ st' = .int (f x y) :: r := by
  unfold zq_bin at h
  split at h
  · rename_i y x r
    obtain ⟨h1, h2, h3⟩ := zq_ok_inv h
    exact ⟨x, y, r, rfl, h1, h2, h3⟩
  · cases h
theorem zq_un_inv {f : Int32 → Int32} {pc pc' : Nat} {L L' : zq_L} {st st' : List Value} (h : zq_un f pc L st = some (pc', L', st')) : ∃ (x : Int32) (r : List Value), st = .int x :: r ∧ pc' = pc ∧ L' = L ∧ st' = .int (f x) :: r := by
  unfold zq_un at h
  split at h
  · rename_i x r
    obtain ⟨h1, h2, h3⟩ := zq_ok_inv h
    exact ⟨x, r, rfl, h1, h2, h3⟩
  · cases h
theorem zq_to_inv {t : Int} {pc' : Nat} {L L' : zq_L} {st st' : List Value} (h : zq_to t L st = some (pc', L', st')) : t = (pc' : Int) ∧ L' = L ∧ st' = st := by
  unfold zq_to at h
  split at h
  · rename_i ht
    obtain ⟨h1, h2, h3⟩ := zq_ok_inv h
    exact ⟨by omega, h2, h3⟩
  · cases h
theorem zq_if1_inv {c : Jvm.ClassFile.Cond} {off : Int} {pc pc' : Nat} {L L' : zq_L} {st st' : List Value} (h : zq_if1 c off pc L st = some (pc', L', st')) : ∃ (x : Int32) (r : List Value) (tgt : Nat), st = .int x :: r ∧ (pc : Int) + off = (tgt : Int) ∧ pc' = (if zq_cmp c x 0 = true then tgt else pc + 3) ∧ L' = L ∧ st' = r := by
  unfold zq_if1 at h
  split at h
  · rename_i x r
    split at h
    · rename_i ht
      obtain ⟨h1, h2, h3⟩ := zq_ok_inv h
      exact ⟨x, r, ((pc : Int) + off).toNat, rfl, by omega, h1, h2, h3⟩
    · cases h
  · cases h
theorem zq_if2_inv {c : Jvm.ClassFile.Cond} {off : Int} {pc pc' : Nat} {L L' : zq_L} {st st' : List Value} (h : zq_if2 c off pc L st = some (pc', L', st')) : ∃ (x y : Int32) (r : List Value) (tgt : Nat), st = .int y :: .int x :: r ∧ (pc : Int) + off = (tgt : Int) ∧ pc' = (if zq_cmp c x y = true then tgt else pc + 3) ∧ L' = L ∧ st' = r := by
  unfold zq_if2 at h
  split at h
  · rename_i y x r
    split at h
    · rename_i ht
      obtain ⟨h1, h2, h3⟩ := zq_ok_inv h
      exact ⟨x, y, r, ((pc : Int) + off).toNat, rfl, by omega, h1, h2, h3⟩
    · cases h
  · cases h
section ZQP
variable {p : Program} {l : Launch} {e : Env} {R : Room} {s : State} {m : MethodId} {args : Array Value} {below : List Frame} {meth : Method} {c : Code} {H : Heap} {locs : List Loc} {cells slots : Nat} {Q : State → Prop}
variable {cc : ByteArray} {pc pc' n : Nat} {L L' : zq_L} {st st' : List Value} {ls : Array Slot}
set_option maxHeartbeats 4000000 in
theorem zq_pure_W {ins : Instr} (hx : p.tables.exec = Jvm.exec) (hb : c.code = cc) (hd : zq_dec cc pc ins) (hl : zq_l ls L n) (h : zq_pure ins pc L st = some (pc', L', st'))
    (k : ∀ ls' : Array Slot, zq_l ls' L' n → W p l e R s m args below meth c H locs cells slots Q (F0 m pc' ls' st')) : W p l e R s m args below meth c H locs cells slots Q (F0 m pc ls st) := by
  cases ins
  case aconst_null =>
    obtain ⟨rfl, rfl, rfl⟩ := zq_ok_inv h
    exact lv_null hx hb (hd.at rfl) (k ls hl)
  case iconst v =>
    obtain ⟨rfl, rfl, rfl⟩ := zq_ok_inv h
    exact lv_iconst hx hb (hd.at rfl) rfl (k ls hl)
  case bipush v =>
    obtain ⟨rfl, rfl, rfl⟩ := zq_ok_inv h
    exact lv_bipush hx hb (hd.at rfl) rfl (k ls hl)
  case sipush v =>
    obtain ⟨rfl, rfl, rfl⟩ := zq_ok_inv h
    exact lv_sipush hx hb (hd.at rfl) rfl (k ls hl)
  case iload v =>
    obtain ⟨x, hv, rfl, rfl, rfl⟩ := zq_ldI_inv h
    exact lv_iload hx hb (hd.at rfl) (hl.2.2.2 _ _ hv).1 (k ls hl)
  case iload_n v =>
    obtain ⟨x, hv, rfl, rfl, rfl⟩ := zq_ldI_inv h
    exact lv_iload_n hx hb (hd.at rfl) rfl (hl.2.2.2 _ _ hv).1 (k ls hl)
  case aload v =>
    obtain ⟨w, hv, hr, rfl, rfl, rfl⟩ := zq_ldA_inv h
    rcases zq_ref_cases hr with rfl | ⟨a, rfl⟩
    · exact lv_aloadN hx hb (hd.at rfl) (hl.2.2.2 _ _ hv).1 (k ls hl)
    · exact lv_aload hx hb (hd.at rfl) (hl.2.2.2 _ _ hv).1 (k ls hl)
  case aload_n v =>
    obtain ⟨w, hv, hr, rfl, rfl, rfl⟩ := zq_ldA_inv h
    rcases zq_ref_cases hr with rfl | ⟨a, rfl⟩
    · exact lv_aload_nN hx hb (hd.at rfl) rfl (hl.2.2.2 _ _ hv).1 (k ls hl)
    · exact lv_aload_n hx hb (hd.at rfl) rfl (hl.2.2.2 _ _ hv).1 (k ls hl)
  case istore v =>
    obtain ⟨x, r, rfl, hv, rfl, rfl, rfl⟩ := zq_stI_inv h
    exact lv_istore hx hb (hd.at rfl) hl.has (hl.2.1 ▸ hv) rfl (fun ls' hs => k ls' (hl.stored (hl.2.1 ▸ hv) rfl hs))
  case istore_n v =>
    obtain ⟨x, r, rfl, hv, rfl, rfl, rfl⟩ := zq_stI_inv h
    exact lv_istore_n hx hb (hd.at rfl) rfl hl.has (hl.2.1 ▸ hv) rfl (fun ls' hs => k ls' (hl.stored (hl.2.1 ▸ hv) rfl hs))
  case astore v =>
    obtain ⟨w, r, rfl, hr, hv, rfl, rfl, rfl⟩ := zq_stA_inv h
    rcases zq_ref_cases hr with rfl | ⟨a, rfl⟩
    · exact lv_astoreN hx hb (hd.at rfl) hl.has (hl.2.1 ▸ hv) rfl (fun ls' hs => k ls' (hl.stored (hl.2.1 ▸ hv) rfl hs))
    · exact lv_astore hx hb (hd.at rfl) hl.has (hl.2.1 ▸ hv) rfl (fun ls' hs => k ls' (hl.stored (hl.2.1 ▸ hv) rfl hs))
  case astore_n v =>
    obtain ⟨w, r, rfl, hr, hv, rfl, rfl, rfl⟩ := zq_stA_inv h
    rcases zq_ref_cases hr with rfl | ⟨a, rfl⟩
    · exact lv_astore_nN hx hb (hd.at rfl) rfl hl.has (hl.2.1 ▸ hv) rfl (fun ls' hs => k ls' (hl.stored (hl.2.1 ▸ hv) rfl hs))
    · exact lv_astore_n hx hb (hd.at rfl) rfl hl.has (hl.2.1 ▸ hv) rfl (fun ls' hs => k ls' (hl.stored (hl.2.1 ▸ hv) rfl hs))
  case iinc v z =>
    obtain ⟨x, hv, rfl, rfl, rfl⟩ := zq_inc_inv h
    have hlt : v < n := by have := (List.getElem?_eq_some_iff.mp hv).1; rw [hl.2.1] at this; exact this
    obtain ⟨j, hj⟩ := List.getElem?_of_mem (zq_prs_mem.mpr hv)
    exact lv_iinc hx hb (hd.at rfl) hl.has hj rfl hlt rfl (fun ls' hs => k ls' (hl.stored hlt rfl hs))
  case iadd =>
    obtain ⟨x, y, r, rfl, rfl, rfl, rfl⟩ := zq_bin_inv h
    exact lv_iadd hx hb (hd.at rfl) (k ls hl)
  case isub =>
    obtain ⟨x, y, r, rfl, rfl, rfl, rfl⟩ := zq_bin_inv h
    exact lv_isub hx hb (hd.at rfl) (k ls hl)
  case imul =>
    obtain ⟨x, y, r, rfl, rfl, rfl, rfl⟩ := zq_bin_inv h
    exact lv_imul hx hb (hd.at rfl) (k ls hl)
  case iand =>
    obtain ⟨x, y, r, rfl, rfl, rfl, rfl⟩ := zq_bin_inv h
    exact lv_iand hx hb (hd.at rfl) (k ls hl)
  case ior =>
    obtain ⟨x, y, r, rfl, rfl, rfl, rfl⟩ := zq_bin_inv h
    exact lv_ior hx hb (hd.at rfl) (k ls hl)
  case ixor =>
    obtain ⟨x, y, r, rfl, rfl, rfl, rfl⟩ := zq_bin_inv h
    exact lv_ixor hx hb (hd.at rfl) (k ls hl)
  case ishl =>
    obtain ⟨x, y, r, rfl, rfl, rfl, rfl⟩ := zq_bin_inv h
    exact lv_ishl hx hb (hd.at rfl) (k ls hl)
  case ishr =>
    obtain ⟨x, y, r, rfl, rfl, rfl, rfl⟩ := zq_bin_inv h
    exact lv_ishr hx hb (hd.at rfl) (k ls hl)
  case idiv =>
    replace h : zq_div (pc + 1) L st = some (pc', L', st') := h
    unfold zq_div at h
    split at h
    · split at h
      · cases h
      · rename_i hc
        obtain ⟨rfl, rfl, rfl⟩ := zq_ok_inv h
        exact lv_idiv hx hb (hd.at rfl) hc (k ls hl)
    · cases h
  case ineg =>
    obtain ⟨x, r, rfl, rfl, rfl, rfl⟩ := zq_un_inv h
    exact lv_ineg hx hb (hd.at rfl) (k ls hl)
  case dup =>
    replace h : zq_dup pc L st = some (pc', L', st') := h
    unfold zq_dup at h
    split at h
    · split at h
      · rename_i hc
        obtain ⟨rfl, rfl, rfl⟩ := zq_ok_inv h
        exact lv_dup hx hb (hd.at rfl) hc (k ls hl)
      · cases h
    · cases h
  case pop =>
    replace h : zq_pop pc L st = some (pc', L', st') := h
    unfold zq_pop at h
    split at h
    · split at h
      · rename_i hc
        obtain ⟨rfl, rfl, rfl⟩ := zq_ok_inv h
        exact lv_pop hx hb (hd.at rfl) hc (k ls hl)
      · cases h
    · cases h
  case dup_x1 =>
    replace h : zq_dupx1 pc L st = some (pc', L', st') := h
    unfold zq_dupx1 at h
    split at h
    · split at h
      · rename_i hc
        obtain ⟨rfl, rfl, rfl⟩ := zq_ok_inv h
        exact lv_dup_x1 hx hb (hd.at rfl) hc.1 hc.2 (k ls hl)
      · cases h
    · cases h
  case dup_x2 =>
    replace h : zq_dupx2 pc L st = some (pc', L', st') := h
    unfold zq_dupx2 at h
    split at h
    · split at h
      · rename_i hc
        obtain ⟨rfl, rfl, rfl⟩ := zq_ok_inv h
        exact lv_dup_x2 hx hb (hd.at rfl) hc.1 hc.2.1 hc.2.2 (k ls hl)
      · cases h
    · cases h
  case dup2 =>
    replace h : zq_dup2 pc L st = some (pc', L', st') := h
    unfold zq_dup2 at h
    split at h
    · split at h
      · rename_i hc
        obtain ⟨rfl, rfl, rfl⟩ := zq_ok_inv h
        exact lv_dup2_11 hx hb (hd.at rfl) hc.1 hc.2 (k ls hl)
      · cases h
    · cases h
  case ifCond c0 off =>
    obtain ⟨x, r, tgt, rfl, ht, hp, rfl, rfl⟩ := zq_if1_inv h
    have k0 := k ls hl
    cases c0
    · refine lv_if_eq hx hb (hd.at rfl) ht (fun q => ?_) (fun q => ?_)
      · rw [hp, if_pos (show zq_cmp .eq x 0 = true from decide_eq_true q)] at k0; exact k0
      · rw [hp, if_neg (show ¬ zq_cmp .eq x 0 = true from fun z => q (of_decide_eq_true z))] at k0; exact k0
    · refine lv_if_ne hx hb (hd.at rfl) ht (fun q => ?_) (fun q => ?_)
      · rw [hp, if_pos (show zq_cmp .ne x 0 = true from decide_eq_true q)] at k0; exact k0
      · rw [hp, if_neg (show ¬ zq_cmp .ne x 0 = true from fun z => of_decide_eq_true z q)] at k0; exact k0
    · refine lv_if_lt hx hb (hd.at rfl) ht (fun q => ?_) (fun q => ?_)
      · rw [hp, if_pos (show zq_cmp .lt x 0 = true from decide_eq_true q)] at k0; exact k0
      · rw [hp, if_neg (show ¬ zq_cmp .lt x 0 = true from fun z => q (of_decide_eq_true z))] at k0; exact k0
    · refine lv_if_ge hx hb (hd.at rfl) ht (fun q => ?_) (fun q => ?_)
      · rw [hp, if_pos (show zq_cmp .ge x 0 = true from decide_eq_true q)] at k0; exact k0
      · rw [hp, if_neg (show ¬ zq_cmp .ge x 0 = true from fun z => q (of_decide_eq_true z))] at k0; exact k0
    · refine lv_if_gt hx hb (hd.at rfl) ht (fun q => ?_) (fun q => ?_)
      · rw [hp, if_pos (show zq_cmp .gt x 0 = true from decide_eq_true q)] at k0; exact k0
      · rw [hp, if_neg (show ¬ zq_cmp .gt x 0 = true from fun z => q (of_decide_eq_true z))] at k0; exact k0
    · refine lv_if_le hx hb (hd.at rfl) ht (fun q => ?_) (fun q => ?_)
      · rw [hp, if_pos (show zq_cmp .le x 0 = true from decide_eq_true q)] at k0; exact k0
      · rw [hp, if_neg (show ¬ zq_cmp .le x 0 = true from fun z => q (of_decide_eq_true z))] at k0; exact k0
  case if_icmp c0 off =>
    obtain ⟨x, y, r, tgt, rfl, ht, hp, rfl, rfl⟩ := zq_if2_inv h
    have k0 := k ls hl
    cases c0
    · refine lv_icmp_eq hx hb (hd.at rfl) ht (fun q => ?_) (fun q => ?_)
      · rw [hp, if_pos (show zq_cmp .eq x y = true from decide_eq_true q)] at k0; exact k0
      · rw [hp, if_neg (show ¬ zq_cmp .eq x y = true from fun z => q (of_decide_eq_true z))] at k0; exact k0
    · refine lv_icmp_ne hx hb (hd.at rfl) ht (fun q => ?_) (fun q => ?_)
      · rw [hp, if_pos (show zq_cmp .ne x y = true from decide_eq_true q)] at k0; exact k0
      · rw [hp, if_neg (show ¬ zq_cmp .ne x y = true from fun z => of_decide_eq_true z q)] at k0; exact k0
    · refine lv_icmp_lt hx hb (hd.at rfl) ht (fun q => ?_) (fun q => ?_)
      · rw [hp, if_pos (show zq_cmp .lt x y = true from decide_eq_true q)] at k0; exact k0
      · rw [hp, if_neg (show ¬ zq_cmp .lt x y = true from fun z => q (of_decide_eq_true z))] at k0; exact k0
    · refine lv_icmp_ge hx hb (hd.at rfl) ht (fun q => ?_) (fun q => ?_)
      · rw [hp, if_pos (show zq_cmp .ge x y = true from decide_eq_true q)] at k0; exact k0
      · rw [hp, if_neg (show ¬ zq_cmp .ge x y = true from fun z => q (of_decide_eq_true z))] at k0; exact k0
    · refine lv_icmp_gt hx hb (hd.at rfl) ht (fun q => ?_) (fun q => ?_)
      · rw [hp, if_pos (show zq_cmp .gt x y = true from decide_eq_true q)] at k0; exact k0
      · rw [hp, if_neg (show ¬ zq_cmp .gt x y = true from fun z => q (of_decide_eq_true z))] at k0; exact k0
    · refine lv_icmp_le hx hb (hd.at rfl) ht (fun q => ?_) (fun q => ?_)
      · rw [hp, if_pos (show zq_cmp .le x y = true from decide_eq_true q)] at k0; exact k0
      · rw [hp, if_neg (show ¬ zq_cmp .le x y = true from fun z => q (of_decide_eq_true z))] at k0; exact k0
  case ifnull off =>
    replace h : zq_ifn off pc L st = some (pc', L', st') := h
    unfold zq_ifn at h
    split at h
    · obtain ⟨ht, rfl, rfl⟩ := zq_to_inv h
      exact lv_ifnullN hx hb (hd.at rfl) ht (k ls hl)
    · obtain ⟨rfl, rfl, rfl⟩ := zq_ok_inv h
      exact lv_ifnull hx hb (hd.at rfl) (k ls hl)
    · cases h
  case ifnonnull off =>
    replace h : zq_ifnn off pc L st = some (pc', L', st') := h
    unfold zq_ifnn at h
    split at h
    · obtain ⟨ht, rfl, rfl⟩ := zq_to_inv h
      exact lv_ifnonnull hx hb (hd.at rfl) ht (k ls hl)
    · obtain ⟨rfl, rfl, rfl⟩ := zq_ok_inv h
      exact lv_ifnonnullN hx hb (hd.at rfl) (k ls hl)
    · cases h
  case goto off =>
    obtain ⟨ht, rfl, rfl⟩ := zq_to_inv h
    exact lv_goto hx hb (hd.at rfl) ht (k ls hl)
  case tableswitch dflt lo hi offs =>
    replace h : zq_tab dflt lo hi offs pc L st = some (pc', L', st') := h
    obtain ⟨len, hd, -⟩ := hd
    unfold zq_tab at h
    split at h
    · split at h
      · rename_i hc
        obtain ⟨ht, rfl, rfl⟩ := zq_to_inv h
        exact lv_tableOut hx hb hd hc ht (k ls hl)
      · rename_i hc
        split at h
        · rename_i off ho
          obtain ⟨ht, rfl, rfl⟩ := zq_to_inv h
          exact lv_tableIn hx hb hd (fun q => hc (Or.inl q)) (fun q => hc (Or.inr q)) ho ht (k ls hl)
        · cases h
    · cases h
  all_goals exact absurd h (fun q => by cases (show (none : Option (Nat × zq_L × List Value)) = some _ from q))
end ZQP
end
section
/-! the worlds of the pure machine -/
def zq_pt (t j : Nat) : Bool := if t < 50 then false else if t < 100 then true else zq_ptr (t - 100) j
def zq_v (t : Nat) (Ia : Nat → Int32) (Pa : Nat → Option Nat) (j : Nat) : Value := if zq_pt t j = true then va_rf (Pa j) else .int (Ia j)
def zq_K (D : va_G) (dA : Nat → ClassId) (U : State) : Prop :=
  (∀ (c : Nat) (q : vw_C), vwCl[c]? = some q → u_Kn U q.1 q.2.1 q.2.2 (D.1 c) (D.2 c)) ∧
  (∀ q ∈ zq_arr, ArrOfT U (dA q.1) q.2 ∧ (q.1 = 1 ∨ va_RA U (dA q.1) q.2)) ∧
  (∀ q ∈ zq_nest, va_Nw (.methodLinkNest q.1 q.2.1 q.2.2.1 q.2.2.2) U) ∧
  ∀ C ∈ zq_ao, va_AO C U
theorem zq_K.moved {D : va_G} {dA : Nat → ClassId} {s U : State} (hW : s.WarmedH U.vm) (h : zq_K D dA s) : zq_K D dA U :=
  ⟨fun c q hq => u_Kn_moved hW.alike (h.1 c q hq), fun q hq => ⟨arrOfT_moved hW.alike (h.2.1 q hq).1, (h.2.1 q hq).2.imp id (fun z => z.moved hW.alike)⟩, fun q hq => va_Nw.warmM hW (h.2.2.1 q hq), fun C hC => (h.2.2.2 C hC).moved hW.alike⟩
theorem zq_K.same {D : va_G} {dA : Nat → ClassId} {s U : State} (hv : s.vm = U.vm) (h : zq_K D dA s) : zq_K D dA U := by
  have ha : s.vm.Alike U.vm := hv ▸ Vm.Alike.refl s.vm
  exact ⟨fun c q hq => u_Kn_moved ha (h.1 c q hq), fun q hq => ⟨arrOfT_moved ha (h.2.1 q hq).1, (h.2.1 q hq).2.imp id (fun z => z.moved ha)⟩, fun q hq => va_Nw.same rfl hv (h.2.2.1 q hq), fun C hC => (h.2.2.2 C hC).moved ha⟩
def zq_cell (D : va_G) (dA : Nat → ClassId) (lo t len : Nat) (Ia : Nat → Int32) (Pa : Nat → Option Nat) (a : Nat) (H : Heap) : Prop :=
  if t = 0 then True else if t = 1 then ∃ scr : Cell, H[a]? = some scr ∧ scr.cls = dA 1 ∧ (∀ k, scr.vm ≠ .statics k) ∧ scr.vm ≠ .unknown ∧ scr.slots.size = len ∧ ∀ j, j < len → scr.slots[j]? = some (.int (Ia j))
  else lo ≤ a ∧ if t < 100 then (∃ ty, (t, ty) ∈ zq_arr) ∧ H[a]? = some (arrV (dA t) len (zq_v t Ia Pa)) else ∃ r : vw_C, vwCl[t - 100]? = some r ∧ t_OB a (D.1 (t - 100)) r.2.2 (D.2 (t - 100)) H (zq_v t Ia Pa)
theorem zq_cell.kept {D : va_G} {dA : Nat → ClassId} {lo t len a : Nat} {Ia : Nat → Int32} {Pa : Nat → Option Nat} {H H1 : Heap} (h : zq_cell D dA lo t len Ia Pa a H) (hq : H1[a]? = H[a]?) : zq_cell D dA lo t len Ia Pa a H1 := by
  unfold zq_cell at h ⊢
  split
  · trivial
  · rename_i h0
    rw [if_neg h0] at h
    split
    · rename_i h1
      rw [if_pos h1] at h
      rw [hq]
      exact h
    · rename_i h1
      rw [if_neg h1] at h
      refine ⟨h.1, ?_⟩
      have h2 := h.2
      split
      · rename_i h3
        rw [if_pos h3] at h2
        rw [hq]
        exact h2
      · rename_i h3
        rw [if_neg h3] at h2
        obtain ⟨r, h4, h5⟩ := h2
        exact ⟨r, h4, h5.kept hq⟩
theorem zq_cell.arr {D : va_G} {dA : Nat → ClassId} {lo t len a : Nat} {Ia : Nat → Int32} {Pa : Nat → Option Nat} {H : Heap} (h : zq_cell D dA lo t len Ia Pa a H) (h1 : 1 < t) (h2 : t < 100) : lo ≤ a ∧ (∃ ty, (t, ty) ∈ zq_arr) ∧ H[a]? = some (arrV (dA t) len (zq_v t Ia Pa)) := by
  unfold zq_cell at h
  rw [if_neg (by omega), if_neg (by omega), if_pos h2] at h
  exact h
theorem zq_cell.obj {D : va_G} {dA : Nat → ClassId} {lo ci len a : Nat} {Ia : Nat → Int32} {Pa : Nat → Option Nat} {H : Heap} (h : zq_cell D dA lo (100 + ci) len Ia Pa a H) : lo ≤ a ∧ ∃ r : vw_C, vwCl[ci]? = some r ∧ t_OB a (D.1 ci) r.2.2 (D.2 ci) H (zq_v (100 + ci) Ia Pa) := by
  unfold zq_cell at h
  rw [if_neg (by omega), if_neg (by omega), if_neg (by omega), Nat.add_sub_cancel_left] at h
  exact h
theorem zq_cell.mkarr {D : va_G} {dA : Nat → ClassId} {lo t len a : Nat} {Ia : Nat → Int32} {Pa : Nat → Option Nat} {H : Heap} (h1 : 1 < t) (h2 : t < 100) (h : lo ≤ a ∧ (∃ ty, (t, ty) ∈ zq_arr) ∧ H[a]? = some (arrV (dA t) len (zq_v t Ia Pa))) : zq_cell D dA lo t len Ia Pa a H := by
  unfold zq_cell
  rw [if_neg (by omega), if_neg (by omega), if_pos h2]
  exact h
theorem zq_cell.mkobj {D : va_G} {dA : Nat → ClassId} {lo ci len a : Nat} {Ia : Nat → Int32} {Pa : Nat → Option Nat} {H : Heap} (h : lo ≤ a ∧ ∃ r : vw_C, vwCl[ci]? = some r ∧ t_OB a (D.1 ci) r.2.2 (D.2 ci) H (zq_v (100 + ci) Ia Pa)) : zq_cell D dA lo (100 + ci) len Ia Pa a H := by
  unfold zq_cell
  rw [if_neg (by omega), if_neg (by omega), if_neg (by omega), Nat.add_sub_cancel_left]
  exact h
theorem zq_cell.lt {D : va_G} {dA : Nat → ClassId} {lo t len a : Nat} {Ia : Nat → Int32} {Pa : Nat → Option Nat} {H : Heap} (h : zq_cell D dA lo t len Ia Pa a H) (ht : t ≠ 0) : a < H.size := by
  unfold zq_cell at h
  rw [if_neg ht] at h
  split at h
  · obtain ⟨scr, h1, -⟩ := h
    exact (Array.getElem?_eq_some_iff.mp h1).1
  · have h2 := h.2
    split at h2
    · exact (Array.getElem?_eq_some_iff.mp h2.2).1
    · obtain ⟨r, -, cell, h3, -⟩ := h2
      exact (Array.getElem?_eq_some_iff.mp h3).1
def zq_W (D : va_G) (dA : Nat → ClassId) (lo : Nat) (sh : zq_S) (I : zq_I) (P : zq_P) (nx : Nat) (H : Heap) : Prop := H.size = nx ∧ ∀ a, zq_cell D dA lo (sh a).1 (sh a).2 (I a) (P a) a H
theorem zq_W.put {D : va_G} {dA : Nat → ClassId} {lo nx a : Nat} {sh : zq_S} {I I' : zq_I} {P P' : zq_P} {H H1 : Heap} (h : zq_W D dA lo sh I P nx H) (z : H1.size = H.size) (o : ∀ q : Nat, q ≠ a → H1[q]? = H[q]?) (hI : ∀ b, b ≠ a → I' b = I b) (hP : ∀ b, b ≠ a → P' b = P b) (hc : zq_cell D dA lo (sh a).1 (sh a).2 (I' a) (P' a) a H1) : zq_W D dA lo sh I' P' nx H1 := by
  refine ⟨z.trans h.1, fun b => ?_⟩
  by_cases hb : b = a
  · rw [hb]; exact hc
  · rw [hI b hb, hP b hb]
    exact (h.2 b).kept (o b hb)
theorem zq_W.push {D : va_G} {dA : Nat → ClassId} {lo nx : Nat} {sh sh' : zq_S} {I I' : zq_I} {P P' : zq_P} {H H1 : Heap} (h : zq_W D dA lo sh I P nx H) (z : H1.size = H.size + 1) (o : ∀ q : Nat, q < H.size → H1[q]? = H[q]?) (hs : ∀ b, b ≠ nx → sh' b = sh b) (hI : ∀ b, b ≠ nx → I' b = I b) (hP : ∀ b, b ≠ nx → P' b = P b) (hc : zq_cell D dA lo (sh' nx).1 (sh' nx).2 (I' nx) (P' nx) nx H1) : zq_W D dA lo sh' I' P' (nx + 1) H1 := by
  refine ⟨by rw [z, h.1], fun b => ?_⟩
  by_cases hb : b = nx
  · rw [hb]; exact hc
  · rw [hs b hb, hI b hb, hP b hb]
    by_cases h0 : (sh b).1 = 0
    · unfold zq_cell
      rw [if_pos h0]
      trivial
    · exact (h.2 b).kept (o b ((h.2 b).lt h0))
theorem zq_up_ne {α : Type} {f : Nat → Nat → α} {a j : Nat} {v : α} (b : Nat) (h : b ≠ a) : zq_up f a j v b = f b := by
  funext k
  simp [zq_up, h]
theorem zq_row_ne {α : Type} {f : Nat → Nat → α} {a : Nat} {v : α} (b : Nat) (h : b ≠ a) : zq_row f a v b = f b := by
  funext k
  simp [zq_row, h]
theorem zq_us_ne {f : zq_S} {a : Nat} {v : Nat × Nat} (b : Nat) (h : b ≠ a) : zq_us f a v b = f b := by simp [zq_us, h]
theorem zq_us_eq {f : zq_S} {a : Nat} {v : Nat × Nat} : zq_us f a v a = v := by simp [zq_us]
theorem zq_v_int {t : Nat} {Ia : Nat → Int32} {Pa : Nat → Option Nat} {j : Nat} (h : zq_pt t j = false) : zq_v t Ia Pa j = .int (Ia j) := by simp [zq_v, h]
theorem zq_v_ptr {t : Nat} {Ia : Nat → Int32} {Pa : Nat → Option Nat} {j : Nat} (h : zq_pt t j = true) : zq_v t Ia Pa j = va_rf (Pa j) := by simp [zq_v, h]
theorem zq_pt_obj (ci k : Nat) : zq_pt (100 + ci) k = zq_ptr ci k := by
  unfold zq_pt
  rw [if_neg (by omega), if_neg (by omega), Nat.add_sub_cancel_left]
theorem zq_pt_lo {t : Nat} (h : t < 50) (k : Nat) : zq_pt t k = false := by
  unfold zq_pt
  rw [if_pos h]
theorem zq_pt_mid {t : Nat} (h : 50 ≤ t) (h2 : t < 100) (k : Nat) : zq_pt t k = true := by
  unfold zq_pt
  rw [if_neg (by omega), if_pos h2]
/-- an int is put: the values behind it -/
theorem zq_v_upI {t a k : Nat} {I : zq_I} {Pa : Nat → Option Nat} {x : Int32} (h : zq_pt t k = false) (j : Nat) : updV (zq_v t (I a) Pa) k (.int x) j = zq_v t (zq_up I a k x a) Pa j := by
  unfold updV zq_v
  by_cases hj : j = k
  · subst hj
    simp [h, zq_up]
  · simp [hj, zq_up]
theorem zq_v_upP {t a k : Nat} {Ia : Nat → Int32} {P : zq_P} {y : Option Nat} (h : zq_pt t k = true) (j : Nat) : updV (zq_v t Ia (P a)) k (va_rf y) j = zq_v t Ia (zq_up P a k y a) j := by
  unfold updV zq_v
  by_cases hj : j = k
  · subst hj
    simp [h, zq_up]
  · simp [hj, zq_up]
/-- a method's frame -/
def zq_X (p : Program) (R : Room) (s : State) (m : MethodId) (args : Array Value) (meth : Method) (c : Code) (i d : Nat) (D : va_G) (dA : Nat → ClassId) : Prop :=
  p.tables.exec = Jvm.exec ∧ c.code = zq_bc i ∧ c.maxLocals = zq_ml i ∧ s.vm.findClass (zq_own i) = some m.cls ∧ (∀ w ∈ zq_tb, w.before args s = true) ∧ (zq_ini i = true → meth.name = "<init>") ∧ zq_K D dA s ∧ d ≤ R.frames ∧ 64 * d ≤ R.locals
theorem zq_fit {ci k : Nat} {v : Value} {C : String} {T : u_T} {N : Nat} (hO : zq_clsOK ci C T N) (hk : k < N) (h : (zq_ptr ci k = false ∧ ∃ x, v = .int x) ∨ (zq_ptr ci k = true ∧ zq_ref v = true)) : narrow (zq_ty ci k) v = v ∧ fits (zq_ty ci k) v = true := by
  rcases hO.2.2.2.2 k hk with ⟨h1, h2⟩ | ⟨h1, h2⟩
  · rcases h with ⟨-, x, rfl⟩ | ⟨h3, -⟩
    · rw [h2]; exact ⟨rfl, rfl⟩
    · rw [h1] at h3; cases h3
  · rcases h with ⟨h3, -⟩ | ⟨-, h3⟩
    · rw [h1] at h3; cases h3
    · rcases zq_ref_cases h3 with rfl | ⟨a, rfl⟩ <;> rcases h2 with ⟨n, h2⟩ | ⟨n, h2⟩ <;> rw [h2] <;> exact ⟨rfl, rfl⟩
section ZQH
variable {p : Program} {l : Launch} {e : Env} {R : Room} {s : State} {m : MethodId} {args : Array Value} {below : List Frame} {meth : Method} {c : Code} {H : Heap} {locs : List Loc} {cells slots : Nat} {Q : State → Prop}
variable {i d pc lo nx kx : Nat} {D : va_G} {dA : Nat → ClassId} {sh : zq_S} {I : zq_I} {P : zq_P} {st rest : List Value} {ls : Array Slot}
set_option maxHeartbeats 4000000 in
theorem zq_get_W {idx ci k a : Nat} (hX : zq_X p R s m args meth c i d D dA) (hd : decode (zq_bc i) pc = .ok (.getfield idx, 3)) (hW : zq_W D dA lo sh I P nx H) (hf : zq_fld i idx = some (ci, k)) (ht : (sh a).1 = 100 + ci)
    (kk : W p l e R s m args below meth c H locs cells slots Q (F0 m (pc + 3) ls (zq_v (100 + ci) (I a) (P a) k :: rest))) : W p l e R s m args below meth c H locs cells slots Q (F0 m pc ls (.ref a :: rest)) := by
  obtain ⟨hx, hb, -, hown, hts, -, hK, -⟩ := hX
  obtain ⟨C, T, N, hO, hk, hlink, -⟩ := zq_t_fld hf
  have hcell := hW.2 a
  rw [ht] at hcell
  obtain ⟨-, r, hr, cell, q1, q2, q3, q4⟩ := hcell.obj
  cases hO.1.symm.trans hr
  obtain ⟨hS, hfc, kC, hkC, hkind⟩ := hK.1 ci _ hO.1
  obtain ⟨cf, kf, fi, f, hi, hsl⟩ := hS k hk
  refine W.getf hx hb hown (hts _ hlink) hi (u_facts hfc hkC (u_lays hts hO.2.1 hk) hi).1 q1 (by rw [q3]; exact fun h => by cases h) (v := zq_v (100 + ci) (I a) (P a) k) ?_ rfl rfl hd kk
  rw [hsl, q4 k hk]
set_option maxHeartbeats 4000000 in
theorem zq_put_W {idx ci k a : Nat} {v : Value} {I' : zq_I} {P' : zq_P} (hX : zq_X p R s m args meth c i d D dA) (hd : decode (zq_bc i) pc = .ok (.putfield idx, 3)) (hW : zq_W D dA lo sh I P nx H) (hS0 : va_S (fun q => lo ≤ q) s.heap H locs) (hf : zq_fld i idx = some (ci, k)) (hpk : zq_pok i idx = true) (ht : (sh a).1 = 100 + ci)
    (hv : (zq_ptr ci k = false ∧ ∃ x, v = .int x) ∨ (zq_ptr ci k = true ∧ zq_ref v = true)) (hI : ∀ b, b ≠ a → I' b = I b) (hP : ∀ b, b ≠ a → P' b = P b) (hu : ∀ j, updV (zq_v (100 + ci) (I a) (P a)) k v j = zq_v (100 + ci) (I' a) (P' a) j)
    (kk : ∀ (H' : Heap) (locs' : List Loc), zq_W D dA lo sh I' P' nx H' → va_S (fun q => lo ≤ q) s.heap H' locs' → W p l e R s m args below meth c H' locs' cells slots Q (F0 m (pc + 3) ls rest)) : W p l e R s m args below meth c H locs cells slots Q (F0 m pc ls (v :: .ref a :: rest)) := by
  obtain ⟨hx, hb, -, hown, hts, hmn, hK, -⟩ := hX
  obtain ⟨C, T, N, hO, hk, hlink, hfin⟩ := zq_t_fld hf
  have hcell := hW.2 a
  rw [ht] at hcell
  obtain ⟨hla, r, hr, cell, q1, q2, q3, q4⟩ := hcell.obj
  cases hO.1.symm.trans hr
  have hap := va_apart (own := C) (tys := []) (D := D) (cl := vwCl) (ci := ci) hts hO.2.1 (zq_ty ci) hO.2.2.1 hO.2.2.2.1 ⟨hK.1, fun k q h => by simp at h⟩ hO.1
  obtain ⟨hS, hfc, kC, hkC, hkind⟩ := hK.1 ci _ hO.1
  obtain ⟨cf, kf, fi, f, hi, hsl⟩ := hS k hk
  have hlay := hts _ (hO.2.1 _ (u_in_lay hk))
  have hst := (u_facts hfc hkC (u_lays hts hO.2.1 hk) hi).1
  obtain ⟨hn, hfit⟩ := zq_fit hO hk hv
  have done : ∀ (H' : Heap), H'[a]? = some (cell.setSlot (D.2 ci k) v) → H'.size = H.size → (∀ q, q ≠ a → H'[q]? = H[q]?) → zq_W D dA lo sh I' P' nx H' := by
    intro H' e1 e2 e3
    refine hW.put e2 e3 hI hP ?_
    rw [ht]
    exact zq_cell.mkobj ⟨hla, _, hO.1, t_OB.to (V := updV (zq_v (100 + ci) (I a) (P a)) k v) ⟨_, e1, q2, q3, t_set q4 hap hk v⟩ (fun j _ => hu j)⟩
  rcases hfin hpk with h0 | ⟨h0, h1, h2⟩
  · unfold u_lay at hlay
    rw [if_neg (by rw [h0]; decide)] at hlay
    have h6 := u_store hfc hkC hkind hlay hi (hO.2.2.1 k hk) hn hfit
    refine W.putK hx hb (f := f) ⟨hown, hts _ hlink, ⟨_, _, _, hi⟩, hst⟩ (by rw [q2]; exact h6) q1 q3 (by rw [hsl]; exact k2_hasslot (q4 k hk)) rfl rfl hd fun H' e1 e2 e3 => ?_
    rw [hsl] at e1 ⊢
    exact kk H' _ (done H' e1 e2 e3) (hS0.put e2 e3 hla)
  · unfold u_lay at hlay
    rw [if_pos h0] at hlay
    have hcf : m.cls = cf := by
      obtain ⟨_, _, c', _, _, _, -, -, hf', -, -, -, hown2, -⟩ := Cond.laysFinal_spec hlay
      have e1 : c' = cf := by have := hi.symm.trans hf'; simp at this; exact this.1.symm
      rw [h2] at hown2
      rw [← e1]; exact Option.some.inj (hown.symm.trans hown2)
    have h6 := u_fits hfc hkC hkind (Or.inr hlay) hi (hO.2.2.1 k hk) hn hfit
    refine W.putFinK hx hb hown (hts _ hlink) hi hst hcf (hmn h1) (by rw [q2]; exact h6) q1 q3 (by rw [hsl]; exact k2_hasslot (q4 k hk)) rfl rfl hd fun H' e1 e2 e3 => ?_
    rw [hsl] at e1 ⊢
    exact kk H' _ (done H' e1 e2 e3) (hS0.put e2 e3 hla)
theorem zq_in {j : Int32} {n : Nat} (h0 : 0 ≤ j) (h1 : j.toNatClampNeg < n) : ¬ (j < 0 ∨ n ≤ j.toNatClampNeg) := by
  rintro (q | q)
  · exact absurd h0 (Int32.not_le.mpr q)
  · omega
theorem zq_arrOf (hK : zq_K D dA s) {t : Nat} {ty : FieldType} (h : (t, ty) ∈ zq_arr) : ArrOfT s (dA t) ty := (hK.2.1 _ h).1
set_option maxHeartbeats 4000000 in
theorem zq_iald_W {a : Nat} {j : Int32} (hX : zq_X p R s m args meth c i d D dA) (hd : decode (zq_bc i) pc = .ok (.iaload, 1)) (hW : zq_W D dA lo sh I P nx H) (ht : (sh a).1 = 1 ∨ (sh a).1 = 2) (h0 : 0 ≤ j) (hj : j.toNatClampNeg < (sh a).2)
    (kk : W p l e R s m args below meth c H locs cells slots Q (F0 m (pc + 1) ls (.int (I a j.toNatClampNeg) :: rest))) : W p l e R s m args below meth c H locs cells slots Q (F0 m pc ls (.int j :: .ref a :: rest)) := by
  obtain ⟨hx, hb, -, hown, hts, hmn, hK, -⟩ := hX
  have hcell := hW.2 a
  rcases ht with ht | ht
  · rw [ht] at hcell
    unfold zq_cell at hcell
    rw [if_neg (by decide), if_pos rfl] at hcell
    obtain ⟨scr, h1, h2, h3, h4, h5, h6⟩ := hcell
    obtain ⟨-, kA, hkA, comp, hcomp⟩ := zq_arrOf hK zq_t_a1 0 (fun _ => .null)
    exact W.iald (v := .int (I a j.toNatClampNeg)) hx hb h1 ⟨h3, kA, by rw [h2]; exact hkA, comp, hcomp⟩ h4 (by rw [h5]; exact zq_in h0 hj) (h6 _ hj) rfl rfl hd kk
  · rw [ht] at hcell
    obtain ⟨-, -, h1⟩ := hcell.arr (by decide) (by decide)
    refine W.iald (v := .int (I a j.toNatClampNeg)) hx hb h1 (zq_arrOf hK zq_t_a2 _ _) (fun q => by cases q) (by rw [arrV_size]; exact zq_in h0 hj) ?_ rfl rfl hd kk
    rw [arrV_read _ _ hj, zq_v_int (zq_pt_lo (by decide) _)]
set_option maxHeartbeats 4000000 in
theorem zq_bald_W {a : Nat} {j : Int32} (hX : zq_X p R s m args meth c i d D dA) (hd : decode (zq_bc i) pc = .ok (.baload, 1)) (hW : zq_W D dA lo sh I P nx H) (ht : (sh a).1 = 3) (h0 : 0 ≤ j) (hj : j.toNatClampNeg < (sh a).2)
    (kk : W p l e R s m args below meth c H locs cells slots Q (F0 m (pc + 1) ls (.int (I a j.toNatClampNeg) :: rest))) : W p l e R s m args below meth c H locs cells slots Q (F0 m pc ls (.int j :: .ref a :: rest)) := by
  obtain ⟨hx, hb, -, hown, hts, hmn, hK, -⟩ := hX
  have hcell := hW.2 a
  rw [ht] at hcell
  obtain ⟨-, -, h1⟩ := hcell.arr (by decide) (by decide)
  refine W.zald (v := .int (I a j.toNatClampNeg)) hx hb h1 (zq_arrOf hK zq_t_a3 _ _) (fun q => by cases q) (by rw [arrV_size]; exact zq_in h0 hj) ?_ rfl rfl hd kk
  rw [arrV_read _ _ hj, zq_v_int (zq_pt_lo (by decide) _)]
set_option maxHeartbeats 4000000 in
theorem zq_aald_W {a : Nat} {j : Int32} (hX : zq_X p R s m args meth c i d D dA) (hd : decode (zq_bc i) pc = .ok (.aaload, 1)) (hW : zq_W D dA lo sh I P nx H) (ht : 50 ≤ (sh a).1) (ht2 : (sh a).1 < 100) (h0 : 0 ≤ j) (hj : j.toNatClampNeg < (sh a).2)
    (kk : W p l e R s m args below meth c H locs cells slots Q (F0 m (pc + 1) ls (va_rf (P a j.toNatClampNeg) :: rest))) : W p l e R s m args below meth c H locs cells slots Q (F0 m pc ls (.int j :: .ref a :: rest)) := by
  obtain ⟨hx, hb, -, hown, hts, hmn, hK, -⟩ := hX
  obtain ⟨-, ⟨ty, hty⟩, h1⟩ := (hW.2 a).arr (by omega) ht2
  refine W.aald (v := va_rf (P a j.toNatClampNeg)) (ty := ty) hx hb h1 (zq_arrOf hK hty _ _) (zq_t_aref hty ht) (fun q => by cases q) (by rw [arrV_size]; exact zq_in h0 hj) ?_ rfl rfl hd kk
  rw [arrV_read _ _ hj, zq_v_ptr (zq_pt_mid ht ht2 _)]
set_option maxHeartbeats 4000000 in
theorem zq_iast_W {a : Nat} {j x : Int32} (hX : zq_X p R s m args meth c i d D dA) (hd : decode (zq_bc i) pc = .ok (.iastore, 1)) (hW : zq_W D dA lo sh I P nx H) (hS0 : va_S (fun q => lo ≤ q) s.heap H locs) (ht : (sh a).1 = 2) (h0 : 0 ≤ j) (hj : j.toNatClampNeg < (sh a).2)
    (kk : ∀ (H' : Heap) (locs' : List Loc), zq_W D dA lo sh (zq_up I a j.toNatClampNeg x) P nx H' → va_S (fun q => lo ≤ q) s.heap H' locs' → W p l e R s m args below meth c H' locs' cells slots Q (F0 m (pc + 1) ls rest)) : W p l e R s m args below meth c H locs cells slots Q (F0 m pc ls (.int x :: .int j :: .ref a :: rest)) := by
  obtain ⟨hx, hb, -, hown, hts, hmn, hK, -⟩ := hX
  have hcell := hW.2 a
  rw [ht] at hcell
  obtain ⟨hla, hex, h1⟩ := hcell.arr (by decide) (by decide)
  refine W.iast hx hb h1 (zq_arrOf hK zq_t_a2 _ _) (fun q => by cases q) (by rw [arrV_size]; exact zq_in h0 hj) rfl rfl hd fun H1 e1 z oq => ?_
  refine kk H1 _ (hW.put z oq (fun b hb => zq_up_ne b hb) (fun b hb => rfl) ?_) (hS0.put z oq hla)
  rw [ht]
  refine zq_cell.mkarr (by decide) (by decide) ⟨hla, hex, ?_⟩
  rw [e1, arrV_store]
  congr 2
  funext q
  exact zq_v_upI (zq_pt_lo (by decide) _) q
set_option maxHeartbeats 4000000 in
theorem zq_bast_W {a : Nat} {j x : Int32} (hX : zq_X p R s m args meth c i d D dA) (hd : decode (zq_bc i) pc = .ok (.bastore, 1)) (hW : zq_W D dA lo sh I P nx H) (hS0 : va_S (fun q => lo ≤ q) s.heap H locs) (ht : (sh a).1 = 3) (h0 : 0 ≤ j) (hj : j.toNatClampNeg < (sh a).2)
    (kk : ∀ (H' : Heap) (locs' : List Loc), zq_W D dA lo sh (zq_up I a j.toNatClampNeg (x &&& 1)) P nx H' → va_S (fun q => lo ≤ q) s.heap H' locs' → W p l e R s m args below meth c H' locs' cells slots Q (F0 m (pc + 1) ls rest)) : W p l e R s m args below meth c H locs cells slots Q (F0 m pc ls (.int x :: .int j :: .ref a :: rest)) := by
  obtain ⟨hx, hb, -, hown, hts, hmn, hK, -⟩ := hX
  have hcell := hW.2 a
  rw [ht] at hcell
  obtain ⟨hla, hex, h1⟩ := hcell.arr (by decide) (by decide)
  refine W.zast hx hb h1 (zq_arrOf hK zq_t_a3 _ _) (fun q => by cases q) (by rw [arrV_size]; exact zq_in h0 hj) rfl rfl hd fun H1 e1 z oq => ?_
  refine kk H1 _ (hW.put z oq (fun b hb => zq_up_ne b hb) (fun b hb => rfl) ?_) (hS0.put z oq hla)
  rw [ht]
  refine zq_cell.mkarr (by decide) (by decide) ⟨hla, hex, ?_⟩
  rw [e1, arrV_store]
  congr 2
  funext q
  exact zq_v_upI (zq_pt_lo (by decide) _) q
set_option maxHeartbeats 4000000 in
theorem zq_aast_W {a y : Nat} {j : Int32} (hX : zq_X p R s m args meth c i d D dA) (hd : decode (zq_bc i) pc = .ok (.aastore, 1)) (hW : zq_W D dA lo sh I P nx H) (hS0 : va_S (fun q => lo ≤ q) s.heap H locs) (ht : 50 ≤ (sh a).1) (ht2 : (sh a).1 < 100) (hy : (sh y).1 = (sh a).1 + 50) (h0 : 0 ≤ j) (hj : j.toNatClampNeg < (sh a).2)
    (kk : ∀ (H' : Heap) (locs' : List Loc), zq_W D dA lo sh I (zq_up P a j.toNatClampNeg (some y)) nx H' → va_S (fun q => lo ≤ q) s.heap H' locs' → W p l e R s m args below meth c H' locs' cells slots Q (F0 m (pc + 1) ls rest)) : W p l e R s m args below meth c H locs cells slots Q (F0 m pc ls (.ref y :: .int j :: .ref a :: rest)) := by
  obtain ⟨hx, hb, -, hown, hts, hmn, hK, -⟩ := hX
  obtain ⟨hla, hex, h1⟩ := (hW.2 a).arr (by omega) ht2
  obtain ⟨ty, hty⟩ := hex
  obtain ⟨ci, hci, C, T, N, hC, hO⟩ := zq_t_acls hty ht
  have hcy := hW.2 y
  rw [hy, show (sh a).1 + 50 = 100 + ci by omega] at hcy
  obtain ⟨-, r, hr, cellV, g1, g2, g3, -⟩ := hcy.obj
  cases hO.symm.trans hr
  have hcls := (hK.1 ci _ hO).2
  have hra : va_RA s (dA (sh a).1) ty := ((hK.2.1 _ hty).2).resolve_left (by show ¬ (sh a).1 = 1; omega)
  rw [hC] at hra
  obtain ⟨kA, comp, k1, k2, k3, -⟩ := hra
  have hcomp : comp = D.1 ci := Option.some.inj (k3.symm.trans hcls.1)
  subst hcomp
  obtain ⟨kC, hkC, -⟩ := hcls.2
  refine W.aast hx hb h1 (fun q h => by cases h) (fun h => by cases h) k1 k2 rfl hkC ⟨fun q => (zq_in h0 hj) (Or.inl q), by rw [arrV_size]; exact hj⟩ g1 (fun q h => by rw [g3] at h; cases h) (by rw [g2]; exact hkC) (by rw [g2]; exact va_assign hcls) rfl rfl hd fun H1 e1 z oq => ?_
  refine kk H1 _ (hW.put z oq (fun b hb => rfl) (fun b hb => zq_up_ne b hb) ?_) (hS0.put z oq hla)
  refine zq_cell.mkarr (by omega) ht2 ⟨hla, ⟨ty, hty⟩, ?_⟩
  rw [e1, arrV_store]
  congr 2
  funext q
  exact zq_v_upP (y := some y) (zq_pt_mid ht ht2 _) q
set_option maxHeartbeats 4000000 in
theorem zq_alen_W {a : Nat} (hX : zq_X p R s m args meth c i d D dA) (hd : decode (zq_bc i) pc = .ok (.arraylength, 1)) (hW : zq_W D dA lo sh I P nx H) (ht : 0 < (sh a).1) (ht2 : (sh a).1 < 100)
    (kk : W p l e R s m args below meth c H locs cells slots Q (F0 m (pc + 1) ls (.int (Int32.ofNat (sh a).2) :: rest))) : W p l e R s m args below meth c H locs cells slots Q (F0 m pc ls (.ref a :: rest)) := by
  obtain ⟨hx, hb, -, hown, hts, hmn, hK, -⟩ := hX
  by_cases h1 : (sh a).1 = 1
  · have hcell := hW.2 a
    rw [h1] at hcell
    unfold zq_cell at hcell
    rw [if_neg (by decide), if_pos rfl] at hcell
    obtain ⟨scr, h1, h2, h3, h4, h5, h6⟩ := hcell
    obtain ⟨-, kA, hkA, comp, hcomp⟩ := zq_arrOf hK zq_t_a1 0 (fun _ => .null)
    exact W.alen (n := Int32.ofNat (sh a).2) hx hb h1 ⟨h3, kA, by rw [h2]; exact hkA, comp, hcomp⟩ (by rw [h5] <;> rfl) rfl rfl hd kk
  · obtain ⟨-, ⟨ty, hty⟩, h2⟩ := (hW.2 a).arr (by omega) ht2
    exact W.alen (n := Int32.ofNat (sh a).2) hx hb h2 (zq_arrOf hK hty _ _) (by rw [arrV_size] <;> rfl) rfl rfl hd kk
set_option maxHeartbeats 4000000 in
theorem zq_new_W {idx ci : Nat} (hX : zq_X p R s m args meth c i d D dA) (hd : decode (zq_bc i) pc = .ok (.new idx, 3)) (hW : zq_W D dA lo sh I P nx H) (hS0 : va_S (fun q => lo ≤ q) s.heap H locs) (hlo : lo ≤ s.heap.size) (hf : zq_cls i idx = some ci) (hc : cells + 1 ≤ R.cells) (hs : slots + zq_nf ci ≤ R.slots)
    (kk : ∀ (H' : Heap) (locs' : List Loc), zq_W D dA lo (zq_us sh nx (100 + ci, 0)) (zq_row I nx 0) (zq_row P nx none) (nx + 1) H' → va_S (fun q => lo ≤ q) s.heap H' locs' → W p l e R s m args below meth c H' locs' (cells + 1) (slots + zq_nf ci) Q (F0 m (pc + 3) ls (.ref nx :: rest))) : W p l e R s m args below meth c H locs cells slots Q (F0 m pc ls rest) := by
  obtain ⟨hx, hb, -, hown, hts, hmn, hK, -⟩ := hX
  obtain ⟨C, T, hO, hcl, hin, hini⟩ := zq_t_cls hf
  have hKn := hK.1 ci _ hO.1
  obtain ⟨hsz, hW2⟩ := id hW
  subst hsz
  refine W.newcK hx hb hown (hts _ hcl) (hts _ hin) (hts _ hini) rfl hd hc hs hKn.2.1 rfl fun H1 kC hkC e1 z1 o1 => ?_
  refine kk H1 locs (hW.push z1 o1 (fun b hb => zq_us_ne b hb) (fun b hb => zq_row_ne b hb) (fun b hb => zq_row_ne b hb) ?_) ⟨Nat.le_trans hS0.1 (by omega), fun x h1 h2 => (o1 x (Nat.lt_of_lt_of_le h1 hS0.1)).trans (hS0.2.1 x h1 h2), hS0.2.2⟩
  rw [zq_us_eq]
  refine zq_cell.mkobj ⟨Nat.le_trans hlo hS0.1, _, hO.1, (u_born (zq_ty ci) hts hO.2.1 hKn hkC e1 hO.2.2.1).to (fun j hj => ?_)⟩
  rcases hO.2.2.2.2 j hj with ⟨h1, h2⟩ | ⟨h1, h2⟩
  · rw [h2, zq_v_int (by rw [zq_pt_obj]; exact h1)]
    simp [zq_row, defaultValue]
  · rw [zq_v_ptr (by rw [zq_pt_obj]; exact h1)]
    rcases h2 with ⟨n, h2⟩ | ⟨n, h2⟩ <;> rw [h2] <;> simp [zq_row, defaultValue, va_rf]
set_option maxHeartbeats 4000000 in
theorem zq_newa_W {t : Nat} {ty : FieldType} {atype : ArrayType} {n : Int32} (hat : newarray.typeOf atype = ty) (htt : (t, ty) ∈ zq_arr) (h1t : 1 < t) (h50 : t < 50) (hdv : defaultValue ty = .int 0) (hsz4 : componentBytes ty ≤ 8) (harr : Cond.arrayClass ty ∈ zq_tb) (hnr : ∀ U cA, va_RA U cA ty → U.vm.findClass ("[" ++ ty.toString) = some cA) (hX : zq_X p R s m args meth c i d D dA) (hd : decode (zq_bc i) pc = .ok (.newarray atype, 2)) (hW : zq_W D dA lo sh I P nx H) (hS0 : va_S (fun q => lo ≤ q) s.heap H locs) (hlo : lo ≤ s.heap.size) (h0 : 0 ≤ n) (hbd : n.toNatClampNeg ≤ 1000000) (hc : cells + 1 ≤ R.cells) (hs : slots + n.toNatClampNeg ≤ R.slots)
    (kk : ∀ (H' : Heap) (locs' : List Loc), zq_W D dA lo (zq_us sh nx (t, n.toNatClampNeg)) (zq_row I nx 0) P (nx + 1) H' → va_S (fun q => lo ≤ q) s.heap H' locs' → W p l e R s m args below meth c H' locs' (cells + 1) (slots + n.toNatClampNeg) Q (F0 m (pc + 2) ls (.ref nx :: rest))) : W p l e R s m args below meth c H locs cells slots Q (F0 m pc ls (.int n :: rest)) := by
  obtain ⟨hx, hb, -, hown, hts, hmn, hK, -⟩ := hX
  obtain ⟨hsz, hW2⟩ := id hW
  subst hsz
  subst hat
  refine va_newaK hx hb (hts _ harr) rfl hd rfl (fun q => absurd h0 (Int32.not_le.mpr q)) rfl (by
    have : n.toNatClampNeg * componentBytes (newarray.typeOf atype) ≤ 1000000 * 8 := Nat.mul_le_mul hbd hsz4
    omega) hc hs rfl fun H1 cA e1 z1 o1 hAr hNm => ?_
  have hcA : cA = dA t := by
    have hra : va_RA s (dA t) (newarray.typeOf atype) := ((hK.2.1 _ htt).2).resolve_left (by show ¬ t = 1; omega)
    exact Option.some.inj (hNm.symm.trans (hnr _ _ hra))
  subst hcA
  refine kk H1 locs (hW.push z1 o1 (fun b hb => zq_us_ne b hb) (fun b hb => zq_row_ne b hb) (fun b hb => rfl) ?_) ⟨Nat.le_trans hS0.1 (by omega), fun x h1 h2 => (o1 x (Nat.lt_of_lt_of_le h1 hS0.1)).trans (hS0.2.1 x h1 h2), hS0.2.2⟩
  rw [zq_us_eq]
  refine zq_cell.mkarr h1t (by omega) ⟨Nat.le_trans hlo hS0.1, ⟨_, htt⟩, ?_⟩
  rw [e1, hdv]
  congr 2
  funext q
  rw [zq_v_int (zq_pt_lo h50 _)]
  simp [zq_row]
set_option maxHeartbeats 4000000 in
theorem zq_anew_W {idx ci : Nat} {n : Int32} (hX : zq_X p R s m args meth c i d D dA) (hd : decode (zq_bc i) pc = .ok (.anewarray idx, 3)) (hW : zq_W D dA lo sh I P nx H) (hS0 : va_S (fun q => lo ≤ q) s.heap H locs) (hlo : lo ≤ s.heap.size) (hf : zq_acl i idx = some ci) (h0 : 0 ≤ n) (hbd : n.toNatClampNeg ≤ 1000000) (hc : cells + 1 ≤ R.cells) (hs : slots + n.toNatClampNeg ≤ R.slots)
    (kk : ∀ (H' : Heap) (locs' : List Loc), zq_W D dA lo (zq_us sh nx (50 + ci, n.toNatClampNeg)) I (zq_row P nx none) (nx + 1) H' → va_S (fun q => lo ≤ q) s.heap H' locs' → W p l e R s m args below meth c H' locs' (cells + 1) (slots + n.toNatClampNeg) Q (F0 m (pc + 3) ls (.ref nx :: rest))) : W p l e R s m args below meth c H locs cells slots Q (F0 m pc ls (.int n :: rest)) := by
  obtain ⟨hx, hb, -, hown, hts, hmn, hK, -⟩ := hX
  obtain ⟨C, hcl, hao, hmem, hci⟩ := zq_t_acl hf
  obtain ⟨hsz, hW2⟩ := id hW
  subst hsz
  refine W.anew hx hb hown (hts _ hcl) (va_AO.use (hK.2.2.2 C hao)) rfl hd rfl (fun q => absurd h0 (Int32.not_le.mpr q)) (by omega) hc hs fun cA kA comp f1 f2 f3 f4 => ?_
  have hcA : cA = dA (50 + ci) := by
    have hra : va_RA s (dA (50 + ci)) (.object C) := ((hK.2.1 _ hmem).2).resolve_left (by show ¬ 50 + ci = 1; omega)
    obtain ⟨_, _, _, _, _, k4⟩ := hra
    exact Option.some.inj (f1.symm.trans k4)
  subst hcA
  generalize hH1 : H.push ({ cls := dA (50 + ci), slots := Array.replicate n.toNatClampNeg .null, vm := .none } : Cell) = H1
  have z1 : H1.size = H.size + 1 := by rw [← hH1, Array.size_push]
  have e1 : H1[H.size]? = some (arrV (dA (50 + ci)) n.toNatClampNeg (fun _ => .null)) := by rw [← hH1, Array.getElem?_push_size, ← arrV_new]
  have o1 : ∀ q : Nat, q < H.size → H1[q]? = H[q]? := fun q hq => by rw [← hH1, Array.getElem?_push, if_neg (Nat.ne_of_lt hq)]
  refine kk H1 locs (hW.push z1 o1 (fun b hb => zq_us_ne b hb) (fun b hb => rfl) (fun b hb => zq_row_ne b hb) ?_) ⟨Nat.le_trans hS0.1 (by omega), fun x h1 h2 => (o1 x (Nat.lt_of_lt_of_le h1 hS0.1)).trans (hS0.2.1 x h1 h2), hS0.2.2⟩
  rw [zq_us_eq]
  refine zq_cell.mkarr (by omega) (by omega) ⟨Nat.le_trans hlo hS0.1, ⟨_, hmem⟩, ?_⟩
  rw [e1]
  congr 2
  funext q
  rw [zq_v_ptr (zq_pt_mid (by omega) (by omega) _)]
  simp [zq_row, va_rf]
set_option maxHeartbeats 4000000 in
theorem zq_heap_le {ins : Instr} {len nx' kx' : Nat} {st' : List Value} {sh' : zq_S} {I' : zq_I} {P' : zq_P} (h : zq_heap i ins st sh I P nx kx = some (len, st', sh', I', P', nx', kx')) : nx ≤ nx' ∧ kx ≤ kx' := by
  cases ins
  case getfield idx =>
    replace h : zq_getf (zq_fld i idx) st sh I P nx kx = _ := h
    unfold zq_getf at h
    split at h
    · split at h
      · split at h <;> (cases h; exact ⟨Nat.le_refl _, Nat.le_refl _⟩)
      · cases h
    · cases h
  case putfield idx =>
    replace h : zq_putf (zq_pok i idx) (zq_fld i idx) st sh I P nx kx = _ := h
    unfold zq_putf at h
    split at h
    · split at h
      · cases h; exact ⟨Nat.le_refl _, Nat.le_refl _⟩
      · cases h
    · split at h
      · cases h; exact ⟨Nat.le_refl _, Nat.le_refl _⟩
      · cases h
    · split at h
      · cases h; exact ⟨Nat.le_refl _, Nat.le_refl _⟩
      · cases h
    · cases h
  case iaload =>
    replace h : zq_iald st sh I P nx kx = _ := h
    unfold zq_iald at h
    split at h
    · split at h
      · cases h; exact ⟨Nat.le_refl _, Nat.le_refl _⟩
      · cases h
    · cases h
  case baload =>
    replace h : zq_bald st sh I P nx kx = _ := h
    unfold zq_bald at h
    split at h
    · split at h
      · cases h; exact ⟨Nat.le_refl _, Nat.le_refl _⟩
      · cases h
    · cases h
  case aaload =>
    replace h : zq_aald st sh I P nx kx = _ := h
    unfold zq_aald at h
    split at h
    · split at h
      · cases h; exact ⟨Nat.le_refl _, Nat.le_refl _⟩
      · cases h
    · cases h
  case iastore =>
    replace h : zq_iast st sh I P nx kx = _ := h
    unfold zq_iast at h
    split at h
    · split at h
      · cases h; exact ⟨Nat.le_refl _, Nat.le_refl _⟩
      · cases h
    · cases h
  case bastore =>
    replace h : zq_bast st sh I P nx kx = _ := h
    unfold zq_bast at h
    split at h
    · split at h
      · cases h; exact ⟨Nat.le_refl _, Nat.le_refl _⟩
      · cases h
    · cases h
  case aastore =>
    replace h : zq_aast st sh I P nx kx = _ := h
    unfold zq_aast at h
    split at h
    · split at h
      · cases h; exact ⟨Nat.le_refl _, Nat.le_refl _⟩
      · cases h
    · cases h
  case arraylength =>
    replace h : zq_alen st sh I P nx kx = _ := h
    unfold zq_alen at h
    split at h
    · split at h
      · cases h; exact ⟨Nat.le_refl _, Nat.le_refl _⟩
      · cases h
    · cases h
  case new idx =>
    replace h : zq_new (zq_cls i idx) st sh I P nx kx = _ := h
    unfold zq_new at h
    split at h
    · cases h; exact ⟨Nat.le_add_right _ _, Nat.le_add_right _ _⟩
    · cases h
  case newarray aty =>
    cases aty
    case int =>
      replace h : zq_newa 2 st sh I P nx kx = _ := h
      unfold zq_newa at h
      split at h
      · split at h
        · cases h; exact ⟨Nat.le_add_right _ _, Nat.le_add_right _ _⟩
        · cases h
      · cases h
    case boolean =>
      replace h : zq_newa 3 st sh I P nx kx = _ := h
      unfold zq_newa at h
      split at h
      · split at h
        · cases h; exact ⟨Nat.le_add_right _ _, Nat.le_add_right _ _⟩
        · cases h
      · cases h
    all_goals exact absurd h (fun q => by cases (show (none : Option zq_M) = some _ from q))
  case anewarray idx =>
    replace h : zq_anew (zq_acl i idx) st sh I P nx kx = _ := h
    unfold zq_anew at h
    split at h
    · split at h
      · cases h; exact ⟨Nat.le_add_right _ _, Nat.le_add_right _ _⟩
      · cases h
    · cases h
  case invokespecial idx =>
    replace h : zq_oini (zq_obj i idx) st sh I P nx kx = _ := h
    unfold zq_oini at h
    split at h
    · split at h
      · cases h; exact ⟨Nat.le_refl _, Nat.le_refl _⟩
      · cases h
    · cases h
  all_goals exact absurd h (fun q => by cases (show (none : Option zq_M) = some _ from q))
set_option maxHeartbeats 8000000 in
theorem zq_heap_W {ins : Instr} {len nx' kx' n : Nat} {L : zq_L} {st' : List Value} {sh' : zq_S} {I' : zq_I} {P' : zq_P} (hX : zq_X p R s m args meth c i d D dA) (hd0 : zq_dec (zq_bc i) pc ins) (hls : ls.size = zq_ml i) (hd1 : 0 < d) (hW : zq_W D dA lo sh I P nx H) (hS0 : va_S (fun q => lo ≤ q) s.heap H locs) (hlo : lo ≤ s.heap.size) (h : zq_heap i ins st sh I P nx kx = some (len, st', sh', I', P', nx', kx')) (hc : cells + (nx' - nx) ≤ R.cells) (hs : slots + (kx' - kx) ≤ R.slots)
    (kk : ∀ (H' : Heap) (locs' : List Loc), zq_W D dA lo sh' I' P' nx' H' → va_S (fun q => lo ≤ q) s.heap H' locs' → W p l e R s m args below meth c H' locs' (cells + (nx' - nx)) (slots + (kx' - kx)) Q (F0 m (pc + len) ls st')) : W p l e R s m args below meth c H locs cells slots Q (F0 m pc ls st) := by
  cases ins
  case getfield idx =>
    have hd := hd0.at rfl
    replace h : zq_getf (zq_fld i idx) st sh I P nx kx = _ := h
    unfold zq_getf at h
    split at h
    · rename_i ci k a r hf
      split at h
      · rename_i ht
        split at h
        · rename_i hp
          cases h
          simp only [Nat.sub_self, Nat.add_zero] at kk
          refine zq_get_W hX hd hW hf ht ?_
          rw [zq_v_ptr (by rw [zq_pt_obj]; exact hp)]
          exact kk H locs hW hS0
        · rename_i hp
          cases h
          simp only [Nat.sub_self, Nat.add_zero] at kk
          refine zq_get_W hX hd hW hf ht ?_
          rw [zq_v_int (by rw [zq_pt_obj]; exact Bool.eq_false_iff.mpr hp)]
          exact kk H locs hW hS0
      · cases h
    · cases h
  case putfield idx =>
    have hd := hd0.at rfl
    replace h : zq_putf (zq_pok i idx) (zq_fld i idx) st sh I P nx kx = _ := h
    unfold zq_putf at h
    split at h
    · rename_i ci k x a r hf
      split at h
      · rename_i hq
        cases h
        simp only [Nat.sub_self, Nat.add_zero] at kk
        exact zq_put_W hX hd hW hS0 hf hq.2.2 hq.1 (Or.inl ⟨hq.2.1, _, rfl⟩) (fun b hb => zq_up_ne b hb) (fun b hb => rfl) (zq_v_upI (by rw [zq_pt_obj]; exact hq.2.1)) kk
      · cases h
    · rename_i ci k y a r hf
      split at h
      · rename_i hq
        cases h
        simp only [Nat.sub_self, Nat.add_zero] at kk
        exact zq_put_W hX hd hW hS0 hf hq.2.2 hq.1 (Or.inr ⟨hq.2.1, rfl⟩) (fun b hb => rfl) (fun b hb => zq_up_ne b hb) (zq_v_upP (y := some y) (by rw [zq_pt_obj]; exact hq.2.1)) kk
      · cases h
    · rename_i ci k a r hf
      split at h
      · rename_i hq
        cases h
        simp only [Nat.sub_self, Nat.add_zero] at kk
        exact zq_put_W hX hd hW hS0 hf hq.2.2 hq.1 (Or.inr ⟨hq.2.1, rfl⟩) (fun b hb => rfl) (fun b hb => zq_up_ne b hb) (zq_v_upP (y := none) (by rw [zq_pt_obj]; exact hq.2.1)) kk
      · cases h
    · cases h
  case iaload =>
    have hd := hd0.at rfl
    replace h : zq_iald st sh I P nx kx = _ := h
    unfold zq_iald at h
    split at h
    · split at h
      · rename_i hq
        cases h
        simp only [Nat.sub_self, Nat.add_zero] at kk
        exact zq_iald_W hX hd hW hq.1 hq.2.1 hq.2.2 (kk H locs hW hS0)
      · cases h
    · cases h
  case baload =>
    have hd := hd0.at rfl
    replace h : zq_bald st sh I P nx kx = _ := h
    unfold zq_bald at h
    split at h
    · split at h
      · rename_i hq
        cases h
        simp only [Nat.sub_self, Nat.add_zero] at kk
        exact zq_bald_W hX hd hW hq.1 hq.2.1 hq.2.2 (kk H locs hW hS0)
      · cases h
    · cases h
  case aaload =>
    have hd := hd0.at rfl
    replace h : zq_aald st sh I P nx kx = _ := h
    unfold zq_aald at h
    split at h
    · split at h
      · rename_i hq
        cases h
        simp only [Nat.sub_self, Nat.add_zero] at kk
        exact zq_aald_W hX hd hW hq.1 hq.2.1 hq.2.2.1 hq.2.2.2 (kk H locs hW hS0)
      · cases h
    · cases h
  case iastore =>
    have hd := hd0.at rfl
    replace h : zq_iast st sh I P nx kx = _ := h
    unfold zq_iast at h
    split at h
    · split at h
      · rename_i hq
        cases h
        simp only [Nat.sub_self, Nat.add_zero] at kk
        exact zq_iast_W hX hd hW hS0 hq.1 hq.2.1 hq.2.2 kk
      · cases h
    · cases h
  case bastore =>
    have hd := hd0.at rfl
    replace h : zq_bast st sh I P nx kx = _ := h
    unfold zq_bast at h
    split at h
    · split at h
      · rename_i hq
        cases h
        simp only [Nat.sub_self, Nat.add_zero] at kk
        exact zq_bast_W hX hd hW hS0 hq.1 hq.2.1 hq.2.2 kk
      · cases h
    · cases h
  case aastore =>
    have hd := hd0.at rfl
    replace h : zq_aast st sh I P nx kx = _ := h
    unfold zq_aast at h
    split at h
    · split at h
      · rename_i hq
        cases h
        simp only [Nat.sub_self, Nat.add_zero] at kk
        exact zq_aast_W hX hd hW hS0 hq.1 hq.2.1 hq.2.2.1 hq.2.2.2.1 hq.2.2.2.2 kk
      · cases h
    · cases h
  case arraylength =>
    have hd := hd0.at rfl
    replace h : zq_alen st sh I P nx kx = _ := h
    unfold zq_alen at h
    split at h
    · split at h
      · rename_i hq
        cases h
        simp only [Nat.sub_self, Nat.add_zero] at kk
        exact zq_alen_W hX hd hW hq.1 hq.2 (kk H locs hW hS0)
      · cases h
    · cases h
  case new idx =>
    have hd := hd0.at rfl
    replace h : zq_new (zq_cls i idx) st sh I P nx kx = _ := h
    unfold zq_new at h
    split at h
    · rename_i ci hf
      cases h
      rw [Nat.add_sub_cancel_left] at hc hs
      simp only [Nat.add_sub_cancel_left] at kk
      exact zq_new_W hX hd hW hS0 hlo hf hc hs kk
    · cases h
  case newarray aty =>
    have hd := hd0.at rfl
    cases aty
    case int =>
      replace h : zq_newa 2 st sh I P nx kx = _ := h
      unfold zq_newa at h
      split at h
      · split at h
        · rename_i hq
          cases h
          rw [Nat.add_sub_cancel_left] at hc hs
          simp only [Nat.add_sub_cancel_left] at kk
          exact zq_newa_W (ty := .int) rfl zq_t_a2 (by decide) (by decide) rfl (by decide) zq_t_ai (fun U cA h => h) hX hd hW hS0 hlo hq.1 hq.2 hc hs kk
        · cases h
      · cases h
    case boolean =>
      replace h : zq_newa 3 st sh I P nx kx = _ := h
      unfold zq_newa at h
      split at h
      · split at h
        · rename_i hq
          cases h
          rw [Nat.add_sub_cancel_left] at hc hs
          simp only [Nat.add_sub_cancel_left] at kk
          exact zq_newa_W (ty := .boolean) rfl zq_t_a3 (by decide) (by decide) rfl (by decide) zq_t_az (fun U cA h => h) hX hd hW hS0 hlo hq.1 hq.2 hc hs kk
        · cases h
      · cases h
    all_goals exact absurd h (fun q => by cases (show (none : Option zq_M) = some _ from q))
  case anewarray idx =>
    have hd := hd0.at rfl
    replace h : zq_anew (zq_acl i idx) st sh I P nx kx = _ := h
    unfold zq_anew at h
    split at h
    · rename_i ci z r hf
      split at h
      · rename_i hq
        cases h
        rw [Nat.add_sub_cancel_left] at hc hs
        simp only [Nat.add_sub_cancel_left] at kk
        exact zq_anew_W hX hd hW hS0 hlo hf hq.1 hq.2 hc hs kk
      · cases h
    · cases h
  case invokespecial idx =>
    have hd := hd0.at rfl
    replace h : zq_oini (zq_obj i idx) st sh I P nx kx = _ := h
    unfold zq_oini at h
    split at h
    · rename_i a r
      split at h
      · rename_i hq
        cases h
        simp only [Nat.sub_self, Nat.add_zero] at kk
        obtain ⟨hx, hb, hml, hown, hts, -, -, hfr, hlc⟩ := hX
        refine W.objInit hx hb hown (hts _ (zq_t_obj hq.1)) (hts _ zq_t_oi) (hts _ zq_t_oc) rfl (by rw [hml]; exact hls) rfl hd (by omega) ?_ (kk H locs hW hS0)
        have := hq.2
        show 2 * 0 + _ + 12 ≤ _
        omega
      · cases h
    · cases h
  all_goals exact absurd h (fun q => by cases (show (none : Option zq_M) = some _ from q))
end ZQH
end
section
/-! calls and the whole run -/
def zq_ws (i : Nat) : List Jvm.Cond := Jvm.Cond.code (zq_nm i) (zq_bc i) (zq_ml i) (zq_ret i) :: zq_tb
def zq_rm (d mc ms : Nat) : Room := { frames := d, cells := mc, slots := ms, locals := 64 * d }
def zq_Pc (D : va_G) (dA : Nat → ClassId) (lo : Nat) (As : List Value) (sh : zq_S) (I : zq_I) (P : zq_P) (nx : Nat) : Array Value → State → Prop := va_Pc As (fun U => zq_K D dA U ∧ zq_W D dA lo sh I P nx U.heap ∧ lo ≤ U.heap.size)
def zq_Qc (D : va_G) (dA : Nat → ClassId) (lo : Nat) (v : Option Value) (sh : zq_S) (I : zq_I) (P : zq_P) (nx : Nat) : Array Value → State → Outcome → State → Prop := fun _ st oc t => oc = .returned v ∧ zq_W D dA lo sh I P nx t.heap ∧ st.heap.size ≤ t.heap.size ∧ ∀ q : Nat, q < st.heap.size → ¬ lo ≤ q → t.heap[q]? = st.heap[q]?
def zq_Snd (D : va_G) (dA : Nat → ClassId) (lo : Nat) (rec : zq_R) : Prop := ∀ (d i pc : Nat) (L : zq_L) (st : List Value) (sh : zq_S) (I : zq_I) (P : zq_P) (nx kx : Nat) (v : Option Value) (sh' : zq_S) (I' : zq_I) (P' : zq_P) (nx' kx' : Nat), rec d i pc L st sh I P nx kx = some (v, sh', I', P', nx', kx') →
  nx ≤ nx' ∧ kx ≤ kx' ∧ ∀ (p : Program) (l : Launch) (e : Env) (R : Room) (s : State) (m : MethodId) (args : Array Value) (below : List Frame) (meth : Method) (c : Code) (H : Heap) (locs : List Loc) (cells slots : Nat) (Q : State → Prop) (ls : Array Slot),
    zq_X p R s m args meth c i (d + 1) D dA → zq_l ls L (zq_ml i) → zq_W D dA lo sh I P nx H → va_S (fun q => lo ≤ q) s.heap H locs → lo ≤ s.heap.size → cells + (nx' - nx) ≤ R.cells → slots + (kx' - kx) ≤ R.slots →
    (∀ (H' : Heap) (locs' : List Loc) (pc' : Nat) (ls' : Array Slot) (ins : Instr), decode (zq_bc i) pc' = .ok (ins, 1) → zq_rt i ins v.toList = some v → zq_W D dA lo sh' I' P' nx' H' → va_S (fun q => lo ≤ q) s.heap H' locs' → W p l e R s m args below meth c H' locs' (cells + (nx' - nx)) (slots + (kx' - kx)) Q (F0 m pc' ls' v.toList)) →
    W p l e R s m args below meth c H locs cells slots Q (F0 m pc ls st)
theorem zq_rt_st {i : Nat} {ins : Instr} {st : List Value} {v : Option Value} (h : zq_rt i ins st = some v) : st = v.toList := by
  cases ins
  case ireturn =>
    replace h : zq_rti (zq_ret i) st = some v := h
    unfold zq_rti at h
    split at h
    · cases h; rfl
    · split at h
      · cases h; rfl
      · cases h
    · cases h
  case areturn =>
    replace h : zq_rta (zq_ret i) st = some v := h
    unfold zq_rta at h
    split at h
    · split at h
      · cases h; rfl
      · cases h
    · cases h
  case return_ =>
    replace h : zq_rtv (zq_ret i) st = some v := h
    unfold zq_rtv at h
    split at h
    · cases h; rfl
    · cases h
  all_goals exact absurd h (fun q => by cases (show (none : Option (Option Value)) = some _ from q))
theorem zq_rt_len {i : Nat} {ins : Instr} {st : List Value} {v : Option Value} (h : zq_rt i ins st = some v) : zq_sw ins = false ∧ zq_len ins = 1 := by
  cases ins
  case ireturn => exact ⟨rfl, rfl⟩
  case areturn => exact ⟨rfl, rfl⟩
  case return_ => exact ⟨rfl, rfl⟩
  all_goals exact absurd h (fun q => by cases (show (none : Option (Option Value)) = some _ from q))
theorem zq_sl_cat : ∀ (vs : List Value), (∀ v ∈ vs, v.category = 1) → lg_sl vs = vs.map Slot.val
  | [], _ => rfl
  | v :: vs, h => by
    have h1 : v.category = 1 := h v List.mem_cons_self
    have h2 := zq_sl_cat vs (fun w hw => h w (List.mem_cons_of_mem _ hw))
    unfold lg_sl at h2 ⊢
    rw [List.flatMap_cons, h2, if_neg (by omega)]
    rfl
theorem zq_args_at : ∀ (vs : List Value) (b k : Nat) (w : Value), (∀ v ∈ vs, v.category = 1) → vs[k]? = some w → (b + k, w) ∈ lv_args b vs
  | [], b, k, w, _, h => by simp at h
  | v :: vs, b, 0, w, _, h => by
    have : v = w := by simpa using h
    subst this
    simp [lv_args]
  | v :: vs, b, k + 1, w, hc, h => by
    have h1 : v.category = 1 := hc v List.mem_cons_self
    have h2 := zq_args_at vs (b + 1) k w (fun u hu => hc u (List.mem_cons_of_mem _ hu)) (by simpa using h)
    have e : b + (k + 1) = b + 1 + k := by omega
    rw [e]
    simp only [lv_args, h1]
    exact List.mem_cons_of_mem _ h2
theorem zq_l_entry {As : List Value} {n : Nat} (hc : ∀ v ∈ As, v.category = 1) (hn : As.length ≤ n) : zq_l ((lg_sl As ++ List.replicate (n - (lg_sl As).length) Slot.unset).toArray) (As.map some ++ List.replicate (n - As.length) none) n := by
  have hs := zq_sl_cat As hc
  have hlen : (lg_sl As).length = As.length := by rw [hs, List.length_map]
  have hl := lv_entry As (n := n) (by rw [hlen]; exact hn)
  refine ⟨hl.1, by simp; omega, hl.2.1, fun k w hk => ?_⟩
  by_cases hkl : k < As.length
  · rw [List.getElem?_append_left (by simpa using hkl), List.getElem?_map] at hk
    have hw : As[k]? = some w := by
      cases hq : As[k]? with
      | none => rw [hq] at hk; cases hk
      | some u => rw [hq] at hk; simp at hk; rw [hk]
    have hm := zq_args_at As 0 k w hc hw
    rw [Nat.zero_add] at hm
    exact ⟨hl.2.2 _ hm, hc w (List.mem_of_getElem? hw)⟩
  · rw [List.getElem?_append_right (by simpa using Nat.not_lt.mp hkl)] at hk
    have := List.mem_of_getElem? hk
    rw [List.mem_replicate] at this
    cases this.2
section ZQC
variable {D : va_G} {dA : Nat → ClassId} {lo : Nat} {rec : zq_R}
set_option maxHeartbeats 4000000 in
theorem zq_met (hrec : zq_Snd D dA lo rec) {d j : Nat} {As : List Value} {sh sh' : zq_S} {I I' : zq_I} {P P' : zq_P} {nx kx nx' kx' : Nat} {v : Option Value} (hj : zq_mj j) (hc : ∀ w ∈ As, w.category = 1) (hn : As.length = zq_na j) (h : rec d j 0 (zq_ent j As) [] sh I P nx kx = some (v, sh', I', P', nx', kx')) (l : Launch) :
    Met l (zq_nm j) (zq_ws j) (zq_rm (d + 1) (nx' - nx) (kx' - kx)) (zq_Pc D dA lo As sh I P nx) (zq_Qc D dA lo v sh' I' P' nx') (nx' - nx) (kx' - kx) (fun q => lo ≤ q) := by
  obtain ⟨hle1, hle2, hgo⟩ := hrec _ _ _ _ _ _ _ _ _ _ _ _ _ _ _ _ h
  refine Met.ofW (cc := zq_bc j) (maxL := zq_ml j) (ret := zq_ret j) hj.1 rfl ?_
  intro p e s m args below meth c s₁ B hml hv
  obtain ⟨rfl, hK, hW, hlo⟩ := hv
  have hts := atoms_spec (ws := zq_ws j) B.pre
  have hown : s.vm.findClass (zq_own j) = some m.cls := by rw [← hj.2.1]; exact findClass_of_methodNamed B.named
  have hnm : zq_ini j = true → meth.name = "<init>" := fun h => (name_of_methodNamed B.named B.method).1.trans (zq_t_ini h)
  rw [lg_entry_eq]
  have hl := zq_l_entry (n := zq_ml j) hc (by rw [hn]; exact hj.2.2.1)
  refine hgo p l e _ s m _ below meth c s.heap [] 0 0 _ _ ⟨B.exec, B.bytes, hml, hown, fun w hw => hts w (List.mem_cons_of_mem _ hw), hnm, hK, Nat.le_refl _, Nat.le_refl _⟩ hl hW va_S.rf hlo (by show 0 + _ ≤ nx' - nx; omega) (by show 0 + _ ≤ kx' - kx; omega) ?_
  intro H' locs' pc' ls' ins hd hr hW' hS'
  have hq : ∀ t : State, t.heap = H' → zq_Qc D dA lo v sh' I' P' nx' As.toArray s (.returned v) t := fun t ht => ⟨rfl, by rw [ht]; exact hW', by rw [ht]; exact hS'.1, fun q h1 h2 => by rw [ht]; exact hS'.2.1 q h1 h2⟩
  have hret := B.returns
  have hlocks := B.notSynchronized
  rw [Nat.zero_add, Nat.zero_add]
  cases ins
  case ireturn =>
    replace hr : zq_rti (zq_ret j) v.toList = some v := hr
    unfold zq_rti at hr
    split at hr
    · rename_i x h1 h2
      cases hr
      exact W.iret B.exec B.bytes (hret.trans h1) (fun t ht _ => hq t ht) hS'.2.2 hd hlocks
    · rename_i x h1 h2
      split at hr
      · rename_i hx
        cases hr
        exact W.zret B.exec B.bytes (hret.trans h1) (by rcases hx with rfl | rfl <;> rfl) (fun t ht _ => hq t ht) hS'.2.2 hd hlocks
      · cases hr
    · cases hr
  case areturn =>
    replace hr : zq_rta (zq_ret j) v.toList = some v := hr
    unfold zq_rta at hr
    split at hr
    · rename_i C w h1 h2
      split at hr
      · rename_i hx
        cases hr
        exact W.aret B.exec B.bytes (hret.trans h1) (Or.inl ⟨_, rfl⟩) (zq_ref_cases hx) (fun t ht _ => hq t ht) hS'.2.2 hd hlocks
      · cases hr
    · cases hr
  case return_ =>
    replace hr : zq_rtv (zq_ret j) v.toList = some v := hr
    unfold zq_rtv at hr
    split at hr
    · rename_i h1 h2
      cases hr
      exact W.vret B.exec B.bytes (hret.trans h1) (fun t ht _ => hq t ht) hS'.2.2 hd hlocks
    · cases hr
  all_goals exact absurd hr (fun q => by cases (show (none : Option (Option Value)) = some _ from q))
theorem zq_blind (As : List Value) (sh : zq_S) (I : zq_I) (P : zq_P) (nx : Nat) : FrameBlind (zq_Pc D dA lo As sh I P nx) := fun a U g mk h => ⟨h.1, zq_K.same rfl h.2.1, h.2.2.1, h.2.2.2⟩
variable {p : Program} {l : Launch} {e : Env} {R : Room} {s : State} {m : MethodId} {args : Array Value} {below : List Frame} {meth : Method} {c : Code} {H : Heap} {locs : List Loc} {cells slots : Nat} {Q : State → Prop}
/-- behind a call -/
theorem zq_after {mc ms pc nx' : Nat} {ls : Array Slot} {st0 rest : List Value} {v : Option Value} {a : Array Value} {sh' : zq_S} {I' : zq_I} {P' : zq_P} (hr : va_Run p l e R s m args below meth c H locs cells slots mc ms (F0 m pc ls st0) rest (zq_Qc D dA lo v sh' I' P' nx' a) (fun q => lo ≤ q)) (hS : va_S (fun q => lo ≤ q) s.heap H locs)
    (kk : ∀ (H1 : Heap) (locs1 : List Loc), zq_W D dA lo sh' I' P' nx' H1 → va_S (fun q => lo ≤ q) s.heap H1 locs1 → W p l e R s m args below meth c H1 locs1 (cells + mc) (slots + ms) Q (F0 m (pc + 3) ls (v.toList ++ rest))) : W p l e R s m args below meth c H locs cells slots Q (F0 m pc ls st0) := by
  intro T hT X
  obtain ⟨v', st₀, t, T', L, h0, X', hL, e1, e2, ⟨hv, hW, hz, hk⟩, st⟩ := hr T hT X
  have hv' : v' = v := by injection hv
  subst hv'
  rw [h0] at hz hk
  obtain ⟨t2, a1, b1⟩ := kk T'.heap (locs ++ L) (by rw [e1]; exact hW)
    ⟨Nat.le_trans hS.1 (by rw [e1]; exact hz), fun q h1 h2 => by rw [e1, hk q (Nat.lt_of_lt_of_le h1 hS.1) h2]; exact hS.2.1 q h1 h2, fun q hq => by
      rcases List.mem_append.mp hq with h | h
      · exact hS.2.2 q h
      · exact hL q h⟩ T' rfl X'
  exact ⟨t2, st t2 a1, b1⟩
theorem zq_good (j : Nat) (hj : zq_mj j) : GoodIn zq_tb (zq_ws j) := by
  intro w hw
  have hm : w ∈ zq_tb := by
    rcases List.mem_cons.mp hw with rfl | h
    · exact hj.2.2.2.1
    · exact h
  exact ⟨hm, good_of_word (zq_tb_good w hm)⟩
set_option maxHeartbeats 8000000 in
theorem zq_call_W (hrec : zq_Snd D dA lo rec) {d i pc j kd nx kx nx1 kx1 : Nat} {ins : Instr} {ls : Array Slot} {st : List Value} {sh sh1 : zq_S} {I I1 : zq_I} {P P1 : zq_P} {v : Option Value} (hX : zq_X p R s m args meth c i (d + 2) D dA) (hd : zq_dec (zq_bc i) pc ins) (hls : ls.size = zq_ml i) (hm : zq_mth i ins = some (j, kd)) (ha : zq_arg kd j st sh = true) (hW : zq_W D dA lo sh I P nx H) (hS : va_S (fun q => lo ≤ q) s.heap H locs) (hlo : lo ≤ s.heap.size)
    (h : rec d j 0 (zq_ent j (st.take (zq_na j)).reverse) [] sh I P nx kx = some (v, sh1, I1, P1, nx1, kx1)) (hc : cells + (nx1 - nx) ≤ R.cells) (hs : slots + (kx1 - kx) ≤ R.slots)
    (kk : ∀ (H1 : Heap) (locs1 : List Loc), zq_W D dA lo sh1 I1 P1 nx1 H1 → va_S (fun q => lo ≤ q) s.heap H1 locs1 → W p l e R s m args below meth c H1 locs1 (cells + (nx1 - nx)) (slots + (kx1 - kx)) Q (F0 m (pc + 3) ls (v.toList ++ st.drop (zq_na j)))) : W p l e R s m args below meth c H locs cells slots Q (F0 m pc ls st) := by
  obtain ⟨hj, hk⟩ := zq_t_mth hm
  obtain ⟨hx, hb, hml, hown, hts, -, hK, hfr, hlc⟩ := hX
  simp only [zq_arg, Bool.and_eq_true, Bool.or_eq_true, decide_eq_true_eq, List.all_eq_true, beq_iff_eq] at ha
  obtain ⟨ha1, ha2, ha3, ha4⟩ := ha
  have hsplit : st.take (zq_na j) ++ st.drop (zq_na j) = st := List.take_append_drop _ _
  have hlt : (st.take (zq_na j)).length = zq_na j := by rw [List.length_take]; omega
  have hcat : ∀ w ∈ (st.take (zq_na j)).reverse, w.category = 1 := fun w hw => ha3 w (List.mem_reverse.mp hw)
  have hM := zq_met hrec hj hcat (by rw [List.length_reverse]; exact hlt) h l
  have hR : (zq_rm (d + 1) (nx1 - nx) (kx1 - kx)).frames + 1 ≤ R.frames ∧ 8 + (zq_ml j + 11) + (zq_rm (d + 1) (nx1 - nx) (kx1 - kx)).locals ≤ R.locals := by
    have := hj.2.2.2.2.1
    show d + 1 + 1 ≤ _ ∧ 8 + (zq_ml j + 11) + 64 * (d + 1) ≤ _
    omega
  have hPc : ∀ U : State, U.heap = H → s.WarmedH U.vm → zq_Pc D dA lo (st.take (zq_na j)).reverse sh I P nx (st.take (zq_na j)).reverse.toArray U := fun U hU hWm => ⟨rfl, hK.moved hWm, by rw [hU]; exact hW, by rw [hU]; exact Nat.le_trans hlo hS.1⟩
  have hini := hts _ hj.2.2.2.2.2.1
  have hini : (Jvm.Cond.initialized (zq_nm j).cls).before args s = true := by rw [hj.2.1]; exact hini
  have hmh := hj.2.2.2.2.2.2
  rcases hk with ⟨rfl, idx, rfl, hlink, hin, hsel, hpar, T, N, hcl, hna⟩ | ⟨rfl, idx, rfl, hlink, hin, hret, hpar, hin1, hna⟩ | ⟨rfl, idx, rfl, hlink, hst, hpar⟩
  · -- invokevirtual
    have ha5 : zq_rcv 0 j st sh = true := by
      rcases ha4 with q | q
      · exact absurd q (by decide)
      · exact q
    unfold zq_rcv at ha5
    split at ha5
    · rename_i b hbq
      have hsb : (sh b).1 = 100 + zq_oc j := by
        simp at ha5
        exact ha5
      have hcell := hW.2 b
      rw [hsb] at hcell
      obtain ⟨-, r, hr, cell, q1, q2, q3, q4⟩ := hcell.obj
      cases hcl.symm.trans hr
      have hrc : ∃ cellB : Cell, H[b]? = some cellB ∧ cellB.vm.isStatics = false ∧ s.vm.findClass (zq_own j) = some cellB.cls := ⟨cell, q1, by rw [q3]; rfl, by rw [q2]; exact (hK.1 _ _ hcl).2.1⟩
      obtain ⟨As, hAs⟩ : ∃ As, (st.take (zq_na j)).reverse = .ref b :: As := by
        have h1 : (st.take (zq_na j))[zq_na j - 1]? = some (.ref b) := by
          rw [List.getElem?_take, if_pos (by omega)]
          exact hbq
        have h2 : (st.take (zq_na j)).reverse[0]? = some (.ref b) := by
          rw [List.getElem?_reverse (by omega), hlt]
          simpa using h1
        cases hq : (st.take (zq_na j)).reverse with
        | nil => rw [hq] at h2; simp at h2
        | cons x As => rw [hq] at h2; simp at h2; exact ⟨As, by rw [h2]⟩
      rw [hAs] at hM hPc
      have hst0 : st = As.reverse ++ .ref b :: st.drop (zq_na j) := by
        have : st.take (zq_na j) = As.reverse ++ [.ref b] := by
          rw [← List.reverse_reverse (st.take (zq_na j)), hAs, List.reverse_cons]
        conv => lhs; rw [← hsplit, this]
        simp
      have hAl : As.length = zq_na j - 1 := by
        have := congrArg List.length hAs
        rw [List.length_reverse, hlt, List.length_cons] at this
        omega
      rcases hlink with hlink | ⟨host, hlink⟩
      · refine zq_after (va_runV (C := zq_own j) (As := As) (b := b) (rest := st.drop (zq_na j)) ⟨hx, hb, hml, hown, hts⟩ hM ⟨callB_of (Ts := zq_tb) (zq_na j - 1) hts (zq_good j hj) rfl rfl rfl hini (hts _ hlink) ⟨hmh.1, hmh.2, hpar⟩ hR, hts _ hin, hts _ hsel⟩ ⟨zq_blind _ _ _ _ _, hrc, hPc⟩ rfl hAl hls hst0 (lv_room ha2) (hd.at rfl) ⟨hc, hs⟩) hS kk
      · refine zq_after (va_runVN (C := zq_own j) (host := host) (As := As) (b := b) (rest := st.drop (zq_na j)) ⟨hx, hb, hml, hown, hts⟩ hM ⟨va_cnB (Ts := zq_tb) (zq_na j - 1) hts (zq_good j hj) rfl rfl rfl (hK.2.2.1 _ hlink) hini ⟨hmh.1, hmh.2, hpar⟩ hR, hts _ hin, hts _ hsel⟩ ⟨zq_blind _ _ _ _ _, hrc, hPc⟩ rfl hAl hls hst0 (lv_room ha2) (hd.at rfl) ⟨hc, hs⟩) hS kk
    · cases ha5
  · -- invokespecial
    have ha5 : zq_rcv 1 j st sh = true := by
      rcases ha4 with q | q
      · exact absurd q (by decide)
      · exact q
    unfold zq_rcv at ha5
    split at ha5
    · rename_i b hbq
      obtain ⟨As, hAs⟩ : ∃ As, (st.take (zq_na j)).reverse = .ref b :: As := by
        have h1 : (st.take (zq_na j))[zq_na j - 1]? = some (.ref b) := by
          rw [List.getElem?_take, if_pos (by omega)]
          exact hbq
        have h2 : (st.take (zq_na j)).reverse[0]? = some (.ref b) := by
          rw [List.getElem?_reverse (by omega), hlt]
          simpa using h1
        cases hq : (st.take (zq_na j)).reverse with
        | nil => rw [hq] at h2; simp at h2
        | cons x As => rw [hq] at h2; simp at h2; exact ⟨As, by rw [h2]⟩
      rw [hAs] at hM hPc
      have hst0 : st = As.reverse ++ .ref b :: st.drop (zq_na j) := by
        have : st.take (zq_na j) = As.reverse ++ [.ref b] := by
          rw [← List.reverse_reverse (st.take (zq_na j)), hAs, List.reverse_cons]
        conv => lhs; rw [← hsplit, this]
        simp
      have hAl : As.length = zq_na j - 1 := by
        have := congrArg List.length hAs
        rw [List.length_reverse, hlt, List.length_cons] at this
        omega
      have hwr : zq_ws j = Jvm.Cond.code (zq_nm j) (zq_bc j) (zq_ml j) none :: zq_tb := by rw [← hret]; rfl
      rcases hlink with hlink | ⟨host, hlink⟩
      · refine zq_after (va_runI (As := As) (b := b) (rest := st.drop (zq_na j)) ⟨hx, hb, hml, hown, hts⟩ hM ⟨callB_of (Ts := zq_tb) (zq_na j - 1) hts (zq_good j hj) hwr rfl rfl hini (hts _ hlink) ⟨hmh.1, hmh.2, hpar⟩ hR, hin1, hts _ hin⟩ ⟨zq_blind _ _ _ _ _, hPc⟩ rfl hAl hls hst0 (lv_room ha2) (hd.at rfl) ⟨hc, hs⟩) hS kk
      · refine zq_after (va_runIN (host := host) (As := As) (b := b) (rest := st.drop (zq_na j)) ⟨hx, hb, hml, hown, hts⟩ hM ⟨va_cnB (Ts := zq_tb) (zq_na j - 1) hts (zq_good j hj) hwr rfl rfl (hK.2.2.1 _ hlink) hini ⟨hmh.1, hmh.2, hpar⟩ hR, hin1, hts _ hin⟩ ⟨zq_blind _ _ _ _ _, hPc⟩ rfl hAl hls hst0 (lv_room ha2) (hd.at rfl) ⟨hc, hs⟩) hS kk
    · cases ha5
  · -- invokestatic
    have hst0 : st = ((st.take (zq_na j)).reverse).reverse ++ st.drop (zq_na j) := by rw [List.reverse_reverse, hsplit]
    rcases hlink with hlink | ⟨host, hlink⟩
    · refine zq_after (va_runS (As := (st.take (zq_na j)).reverse) (rest := st.drop (zq_na j)) ⟨hx, hb, hml, hown, hts⟩ hM ⟨callB_of (Ts := zq_tb) (zq_na j) hts (zq_good j hj) rfl rfl rfl hini (hts _ hlink) ⟨hmh.1, hmh.2, hpar⟩ hR, hts _ hst⟩ ⟨zq_blind _ _ _ _ _, hPc⟩ rfl (by rw [List.length_reverse]; exact hlt) hls hst0 (lv_room ha2) (hd.at rfl) ⟨hc, hs⟩) hS kk
    · refine zq_after (va_runSN (host := host) (As := (st.take (zq_na j)).reverse) (rest := st.drop (zq_na j)) ⟨hx, hb, hml, hown, hts⟩ hM ⟨va_cnB (Ts := zq_tb) (zq_na j) hts (zq_good j hj) rfl rfl rfl (hK.2.2.1 _ hlink) hini ⟨hmh.1, hmh.2, hpar⟩ hR, hts _ hst, trivial⟩ ⟨zq_blind _ _ _ _ _, hPc⟩ rfl (by rw [List.length_reverse]; exact hlt) hls hst0 (lv_room ha2) (hd.at rfl) ⟨hc, hs⟩) hS kk
set_option maxHeartbeats 4000000 in
theorem zq_body_snd (hrec : zq_Snd D dA lo rec) : zq_Snd D dA lo (zq_body rec) := by
  intro d i pc L st sh I P nx kx v sh' I' P' nx' kx' h
  unfold zq_body at h
  split at h
  · cases h
  · rename_i ins hi
    have hd := zq_t_ins hi
    split at h
    · rename_i j kd hm
      split at h
      · cases h
      · rename_i d'
        split at h
        · rename_i ha
          obtain ⟨⟨v1, sh1, I1, P1, nx1, kx1⟩, h1, h2⟩ := Option.bind_eq_some_iff.mp h
          dsimp only at h2
          obtain ⟨a1, a2, -⟩ := hrec _ _ _ _ _ _ _ _ _ _ _ _ _ _ _ _ h1
          obtain ⟨b1, b2, b3⟩ := hrec _ _ _ _ _ _ _ _ _ _ _ _ _ _ _ _ h2
          refine ⟨Nat.le_trans a1 b1, Nat.le_trans a2 b2, ?_⟩
          intro p l e R s m args below meth c H locs cells slots Q ls hX hl hW hS hlo hc hs kk
          refine zq_call_W hrec hX hd hl.1 hm ha hW hS hlo h1 (by omega) (by omega) ?_
          intro H1 locs1 hW1 hS1
          refine b3 p l e R s m args below meth c H1 locs1 _ _ Q ls hX hl hW1 hS1 hlo (by omega) (by omega) ?_
          rw [show cells + (nx1 - nx) + (nx' - nx1) = cells + (nx' - nx) by omega, show slots + (kx1 - kx) + (kx' - kx1) = slots + (kx' - kx) by omega]
          exact kk
        · cases h
    · split at h
      · rename_i w hr
        cases h
        refine ⟨Nat.le_refl _, Nat.le_refl _, ?_⟩
        intro p l e R s m args below meth c H locs cells slots Q ls hX hl hW hS hlo hc hs kk
        simp only [Nat.sub_self, Nat.add_zero] at kk
        have hst := zq_rt_st hr
        subst hst
        obtain ⟨g1, g2⟩ := zq_rt_len hr
        have hd1 := hd.at g1
        rw [g2] at hd1
        exact kk H locs pc ls ins hd1 hr hW hS
      · split at h
        · rename_i q hq
          obtain ⟨pc1, L1, st1, sh1, I1, P1, nx1, kx1⟩ := q
          dsimp only at h
          obtain ⟨b1, b2, b3⟩ := hrec _ _ _ _ _ _ _ _ _ _ _ _ _ _ _ _ h
          unfold zq_next at hq
          split at hq
          · rename_i q1 hp
            obtain ⟨pc2, L2, st2⟩ := q1
            cases hq
            refine ⟨b1, b2, ?_⟩
            intro p l e R s m args below meth c H locs cells slots Q ls hX hl hW hS hlo hc hs kk
            exact zq_pure_W hX.1 hX.2.1 hd hl hp (fun ls' hl' => b3 p l e R s m args below meth c H locs cells slots Q ls' hX hl' hW hS hlo hc hs kk)
          · split at hq
            · rename_i q1 hp
              obtain ⟨len, st2, sh2, I2, P2, nx2, kx2⟩ := q1
              cases hq
              obtain ⟨a1, a2⟩ := zq_heap_le hp
              refine ⟨Nat.le_trans a1 b1, Nat.le_trans a2 b2, ?_⟩
              intro p l e R s m args below meth c H locs cells slots Q ls hX hl hW hS hlo hc hs kk
              refine zq_heap_W (n := 0) (L := []) hX hd hl.1 (Nat.succ_pos _) hW hS hlo hp (by omega) (by omega) ?_
              intro H1 locs1 hW1 hS1
              refine b3 p l e R s m args below meth c H1 locs1 _ _ Q ls hX hl hW1 hS1 hlo (by omega) (by omega) ?_
              rw [show cells + (nx1 - nx) + (nx' - nx1) = cells + (nx' - nx) by omega, show slots + (kx1 - kx) + (kx' - kx1) = slots + (kx' - kx) by omega]
              exact kk
            · cases hq
        · cases h
theorem zq_sound (n : Nat) : zq_Snd D dA lo (zq_run n) := by
  induction n with
  | zero =>
    intro d i pc L st sh I P nx kx v sh' I' P' nx' kx' h
    cases h
  | succ n ih => exact zq_body_snd ih
theorem zq_soundF : zq_Snd D dA lo (fun d i pc L st sh I P nx kx => zq_F d i pc L st sh I P nx kx) := by
  intro d i pc L st sh I P nx kx v sh' I' P' nx' kx' h
  obtain ⟨n, hn⟩ := zq_F_ex.mp h
  exact zq_sound n _ _ _ _ _ _ _ _ _ _ _ _ _ _ _ _ hn
end ZQC
end
section
/-! one rule an instruction that touches memory; the others are by rfl -/
theorem zq_rf_some (a : Nat) : va_rf (some a) = .ref a := rfl
theorem zq_rf_none : va_rf none = .null := rfl
section ZQE
variable {d i pc nx kx : Nat} {L : zq_L} {st : List Value} {sh : zq_S} {I : zq_I} {P : zq_P}
theorem zq_r_int {n : Int} {v : Int32} (hi : zq_ins i pc = some (.iconst n)) (hv : Int32.ofInt n = v) : zq_F d i pc L st sh I P nx kx = zq_F d i (pc + 1) L (.int v :: st) sh I P nx kx := by
  subst hv
  exact zq_F_next hi rfl rfl rfl
theorem zq_r_bip {n : Int} {v : Int32} (hi : zq_ins i pc = some (.bipush n)) (hv : (Int8.ofInt n).toInt32 = v) : zq_F d i pc L st sh I P nx kx = zq_F d i (pc + 2) L (.int v :: st) sh I P nx kx := by
  subst hv
  exact zq_F_next hi rfl rfl rfl
theorem zq_r_sip {n : Int} {v : Int32} (hi : zq_ins i pc = some (.sipush n)) (hv : (Int16.ofInt n).toInt32 = v) : zq_F d i pc L st sh I P nx kx = zq_F d i (pc + 3) L (.int v :: st) sh I P nx kx := by
  subst hv
  exact zq_F_next hi rfl rfl rfl
theorem zq_r_inc {n : Int} {v : Int32} {k : Nat} {x : Int32} {L' : zq_L} (hi : zq_ins i pc = some (.iinc k n)) (hv : Int32.ofInt n = v) (hL : L[k]? = some (some (.int x))) (hL' : L.set k (some (.int (x + v))) = L') : zq_F d i pc L st sh I P nx kx = zq_F d i (pc + 3) L' st sh I P nx kx := by
  subst hv
  subst hL'
  exact zq_F_next hi rfl rfl (by simp [zq_next, zq_pure, zq_inc, zq_ok, hL])
theorem zq_r_if1 {c : Jvm.ClassFile.Cond} {off : Int} {x : Int32} {tgt : Nat} {p : Prop} [Decidable p] (hi : zq_ins i pc = some (.ifCond c off)) (ht : (pc : Int) + off = (tgt : Int)) (hc : zq_cmp c x 0 = true ↔ p) : zq_F d i pc L (.int x :: st) sh I P nx kx = if p then zq_F d i tgt L st sh I P nx kx else zq_F d i (pc + 3) L st sh I P nx kx := by
  have h0 : (0 : Int) ≤ (pc : Int) + off := by omega
  have h1 : ((pc : Int) + off).toNat = tgt := by omega
  split
  · rename_i hp
    exact zq_F_next hi rfl rfl (by simp [zq_next, zq_pure, zq_if1, zq_ok, h0, h1, hc.mpr hp])
  · rename_i hp
    have hf : zq_cmp c x 0 = false := Bool.eq_false_iff.mpr (fun z => hp (hc.mp z))
    exact zq_F_next hi rfl rfl (by simp [zq_next, zq_pure, zq_if1, zq_ok, h0, hf])
theorem zq_r_if2 {c : Jvm.ClassFile.Cond} {off : Int} {x y : Int32} {tgt : Nat} {p : Prop} [Decidable p] (hi : zq_ins i pc = some (.if_icmp c off)) (ht : (pc : Int) + off = (tgt : Int)) (hc : zq_cmp c x y = true ↔ p) : zq_F d i pc L (.int y :: .int x :: st) sh I P nx kx = if p then zq_F d i tgt L st sh I P nx kx else zq_F d i (pc + 3) L st sh I P nx kx := by
  have h0 : (0 : Int) ≤ (pc : Int) + off := by omega
  have h1 : ((pc : Int) + off).toNat = tgt := by omega
  split
  · rename_i hp
    exact zq_F_next hi rfl rfl (by simp [zq_next, zq_pure, zq_if2, zq_ok, h0, h1, hc.mpr hp])
  · rename_i hp
    have hf : zq_cmp c x y = false := Bool.eq_false_iff.mpr (fun z => hp (hc.mp z))
    exact zq_F_next hi rfl rfl (by simp [zq_next, zq_pure, zq_if2, zq_ok, h0, hf])
theorem zq_c_eq (x y : Int32) : zq_cmp .eq x y = true ↔ x = y := decide_eq_true_iff
theorem zq_c_ne (x y : Int32) : zq_cmp .ne x y = true ↔ ¬ x = y := decide_eq_true_iff
theorem zq_c_lt (x y : Int32) : zq_cmp .lt x y = true ↔ x < y := decide_eq_true_iff
theorem zq_c_ge (x y : Int32) : zq_cmp .ge x y = true ↔ y ≤ x := decide_eq_true_iff
theorem zq_c_gt (x y : Int32) : zq_cmp .gt x y = true ↔ y < x := decide_eq_true_iff
theorem zq_c_le (x y : Int32) : zq_cmp .le x y = true ↔ x ≤ y := decide_eq_true_iff
theorem zq_r_goto {off : Int} {tgt : Nat} (hi : zq_ins i pc = some (.goto off)) (ht : (pc : Int) + off = (tgt : Int)) : zq_F d i pc L st sh I P nx kx = zq_F d i tgt L st sh I P nx kx := by
  have h0 : (0 : Int) ≤ (pc : Int) + off := by omega
  have h1 : ((pc : Int) + off).toNat = tgt := by omega
  exact zq_F_next hi rfl rfl (by simp [zq_next, zq_pure, zq_to, zq_ok, h0, h1])
theorem zq_r_ifn_n {off : Int} {tgt : Nat} (hi : zq_ins i pc = some (.ifnull off)) (ht : (pc : Int) + off = (tgt : Int)) : zq_F d i pc L (.null :: st) sh I P nx kx = zq_F d i tgt L st sh I P nx kx := by
  have h0 : (0 : Int) ≤ (pc : Int) + off := by omega
  have h1 : ((pc : Int) + off).toNat = tgt := by omega
  exact zq_F_next hi rfl rfl (by simp [zq_next, zq_pure, zq_ifn, zq_to, zq_ok, h0, h1])
theorem zq_r_ifnn_r {off : Int} {a tgt : Nat} (hi : zq_ins i pc = some (.ifnonnull off)) (ht : (pc : Int) + off = (tgt : Int)) : zq_F d i pc L (.ref a :: st) sh I P nx kx = zq_F d i tgt L st sh I P nx kx := by
  have h0 : (0 : Int) ≤ (pc : Int) + off := by omega
  have h1 : ((pc : Int) + off).toNat = tgt := by omega
  exact zq_F_next hi rfl rfl (by simp [zq_next, zq_pure, zq_ifnn, zq_to, zq_ok, h0, h1])
theorem zq_r_div {x y : Int32} (hi : zq_ins i pc = some .idiv) (hy : ¬ y = 0) : zq_F d i pc L (.int y :: .int x :: st) sh I P nx kx = zq_F d i (pc + 1) L (.int (x / y) :: st) sh I P nx kx :=
  zq_F_next hi rfl rfl (by simp [zq_next, zq_pure, zq_div, zq_ok, hy])
theorem zq_r_getI {idx ci k a t : Nat} (hi : zq_ins i pc = some (.getfield idx)) (hf : zq_fld i idx = some (ci, k)) (hp : zq_ptr ci k = false) (ht : 100 + ci = t) (h : (sh a).1 = t) : zq_F d i pc L (.ref a :: st) sh I P nx kx = zq_F d i (pc + 3) L (.int (I a k) :: st) sh I P nx kx := by
  subst ht
  exact zq_F_next hi rfl rfl (by simp [zq_next, zq_pure, zq_heap, zq_getf, hf, hp, h])
theorem zq_r_getP {idx ci k a t : Nat} (hi : zq_ins i pc = some (.getfield idx)) (hf : zq_fld i idx = some (ci, k)) (hp : zq_ptr ci k = true) (ht : 100 + ci = t) (h : (sh a).1 = t) : zq_F d i pc L (.ref a :: st) sh I P nx kx = zq_F d i (pc + 3) L (va_rf (P a k) :: st) sh I P nx kx := by
  subst ht
  exact zq_F_next hi rfl rfl (by simp [zq_next, zq_pure, zq_heap, zq_getf, hf, hp, h])
theorem zq_r_putI {idx ci k a t : Nat} {x : Int32} (hi : zq_ins i pc = some (.putfield idx)) (hf : zq_fld i idx = some (ci, k)) (hp : zq_ptr ci k = false) (hk : zq_pok i idx = true) (ht : 100 + ci = t) (h : (sh a).1 = t) : zq_F d i pc L (.int x :: .ref a :: st) sh I P nx kx = zq_F d i (pc + 3) L st sh (zq_up I a k x) P nx kx := by
  subst ht
  exact zq_F_next hi rfl rfl (by simp [zq_next, zq_pure, zq_heap, zq_putf, hf, hp, hk, h])
theorem zq_r_putP {idx ci k a t y : Nat} (hi : zq_ins i pc = some (.putfield idx)) (hf : zq_fld i idx = some (ci, k)) (hp : zq_ptr ci k = true) (hk : zq_pok i idx = true) (ht : 100 + ci = t) (h : (sh a).1 = t) : zq_F d i pc L (.ref y :: .ref a :: st) sh I P nx kx = zq_F d i (pc + 3) L st sh I (zq_up P a k (some y)) nx kx := by
  subst ht
  exact zq_F_next hi rfl rfl (by simp [zq_next, zq_pure, zq_heap, zq_putf, hf, hp, hk, h])
theorem zq_r_iald {a : Nat} {j : Int32} (hi : zq_ins i pc = some .iaload) (h : (sh a).1 = 2 ∨ (sh a).1 = 1) (h0 : 0 ≤ j) (h1 : j.toNatClampNeg < (sh a).2) : zq_F d i pc L (.int j :: .ref a :: st) sh I P nx kx = zq_F d i (pc + 1) L (.int (I a j.toNatClampNeg) :: st) sh I P nx kx :=
  zq_F_next hi rfl rfl (by simp [zq_next, zq_pure, zq_heap, zq_iald, h.symm, h0, h1])
theorem zq_r_bald {a : Nat} {j : Int32} (hi : zq_ins i pc = some .baload) (h : (sh a).1 = 3) (h0 : 0 ≤ j) (h1 : j.toNatClampNeg < (sh a).2) : zq_F d i pc L (.int j :: .ref a :: st) sh I P nx kx = zq_F d i (pc + 1) L (.int (I a j.toNatClampNeg) :: st) sh I P nx kx :=
  zq_F_next hi rfl rfl (by simp [zq_next, zq_pure, zq_heap, zq_bald, h, h0, h1])
theorem zq_r_aald {a : Nat} {j : Int32} (hi : zq_ins i pc = some .aaload) (h : 50 ≤ (sh a).1) (h2 : (sh a).1 < 100) (h0 : 0 ≤ j) (h1 : j.toNatClampNeg < (sh a).2) : zq_F d i pc L (.int j :: .ref a :: st) sh I P nx kx = zq_F d i (pc + 1) L (va_rf (P a j.toNatClampNeg) :: st) sh I P nx kx :=
  zq_F_next hi rfl rfl (by simp [zq_next, zq_pure, zq_heap, zq_aald, h, h2, h0, h1])
theorem zq_r_iast {a : Nat} {j x : Int32} (hi : zq_ins i pc = some .iastore) (h : (sh a).1 = 2) (h0 : 0 ≤ j) (h1 : j.toNatClampNeg < (sh a).2) : zq_F d i pc L (.int x :: .int j :: .ref a :: st) sh I P nx kx = zq_F d i (pc + 1) L st sh (zq_up I a j.toNatClampNeg x) P nx kx :=
  zq_F_next hi rfl rfl (by simp [zq_next, zq_pure, zq_heap, zq_iast, h, h0, h1])
theorem zq_r_bast {a : Nat} {j x : Int32} (hi : zq_ins i pc = some .bastore) (h : (sh a).1 = 3) (h0 : 0 ≤ j) (h1 : j.toNatClampNeg < (sh a).2) : zq_F d i pc L (.int x :: .int j :: .ref a :: st) sh I P nx kx = zq_F d i (pc + 1) L st sh (zq_up I a j.toNatClampNeg (x &&& 1)) P nx kx :=
  zq_F_next hi rfl rfl (by simp [zq_next, zq_pure, zq_heap, zq_bast, h, h0, h1])
theorem zq_r_aast {a y : Nat} {j : Int32} (hi : zq_ins i pc = some .aastore) (h : 50 ≤ (sh a).1) (h2 : (sh a).1 < 100) (hy : (sh y).1 = (sh a).1 + 50) (h0 : 0 ≤ j) (h1 : j.toNatClampNeg < (sh a).2) : zq_F d i pc L (.ref y :: .int j :: .ref a :: st) sh I P nx kx = zq_F d i (pc + 1) L st sh I (zq_up P a j.toNatClampNeg (some y)) nx kx :=
  zq_F_next hi rfl rfl (by simp [zq_next, zq_pure, zq_heap, zq_aast, h, h2, hy, h0, h1])
theorem zq_r_alen {a : Nat} (hi : zq_ins i pc = some .arraylength) (h : 0 < (sh a).1) (h2 : (sh a).1 < 100) : zq_F d i pc L (.ref a :: st) sh I P nx kx = zq_F d i (pc + 1) L (.int (nI (sh a).2) :: st) sh I P nx kx :=
  zq_F_next hi rfl rfl (by simp [zq_next, zq_pure, zq_heap, zq_alen, h, h2, nI])
theorem zq_r_new {idx ci t f : Nat} (hi : zq_ins i pc = some (.new idx)) (hf : zq_cls i idx = some ci) (ht : 100 + ci = t) (hn : zq_nf ci = f) : zq_F d i pc L st sh I P nx kx = zq_F d i (pc + 3) L (.ref nx :: st) (zq_us sh nx (t, 0)) (zq_row I nx 0) (zq_row P nx none) (nx + 1) (kx + f) := by
  subst ht
  subst hn
  exact zq_F_next hi rfl rfl (by simp [zq_next, zq_pure, zq_heap, zq_new, hf])
theorem zq_r_newi {n : Int32} (hi : zq_ins i pc = some (.newarray .int)) (h0 : 0 ≤ n) (h1 : n.toNatClampNeg ≤ 1000000) : zq_F d i pc L (.int n :: st) sh I P nx kx = zq_F d i (pc + 2) L (.ref nx :: st) (zq_us sh nx (2, n.toNatClampNeg)) (zq_row I nx 0) P (nx + 1) (kx + n.toNatClampNeg) :=
  zq_F_next hi rfl rfl (by simp [zq_next, zq_pure, zq_heap, zq_newa, h0, h1])
theorem zq_r_newz {n : Int32} (hi : zq_ins i pc = some (.newarray .boolean)) (h0 : 0 ≤ n) (h1 : n.toNatClampNeg ≤ 1000000) : zq_F d i pc L (.int n :: st) sh I P nx kx = zq_F d i (pc + 2) L (.ref nx :: st) (zq_us sh nx (3, n.toNatClampNeg)) (zq_row I nx 0) P (nx + 1) (kx + n.toNatClampNeg) :=
  zq_F_next hi rfl rfl (by simp [zq_next, zq_pure, zq_heap, zq_newa, h0, h1])
theorem zq_r_anew {idx ci t : Nat} {n : Int32} (hi : zq_ins i pc = some (.anewarray idx)) (hf : zq_acl i idx = some ci) (ht : 50 + ci = t) (h0 : 0 ≤ n) (h1 : n.toNatClampNeg ≤ 1000000) : zq_F d i pc L (.int n :: st) sh I P nx kx = zq_F d i (pc + 3) L (.ref nx :: st) (zq_us sh nx (t, n.toNatClampNeg)) I (zq_row P nx none) (nx + 1) (kx + n.toNatClampNeg) := by
  subst ht
  exact zq_F_next hi rfl rfl (by simp [zq_next, zq_pure, zq_heap, zq_anew, hf, h0, h1])
theorem zq_r_oini {idx a : Nat} (hi : zq_ins i pc = some (.invokespecial idx)) (hm : zq_mth i (.invokespecial idx) = none) (hf : zq_obj i idx = true) (hs : (st.map fun v => v.category).sum ≤ 8) : zq_F d i pc L (.ref a :: st) sh I P nx kx = zq_F d i (pc + 3) L st sh I P nx kx :=
  zq_F_next hi hm rfl (by simp [zq_next, zq_pure, zq_heap, zq_oini, hf, hs])
theorem zq_r_reti {x : Int32} (hi : zq_ins i pc = some .ireturn) (hr : zq_ret i = some .int) : zq_F d i pc L [.int x] sh I P nx kx = some (some (.int x), sh, I, P, nx, kx) := zq_F_ret hi rfl (by simp [zq_rt, zq_rti, hr])
theorem zq_r_retz {x : Int32} (hi : zq_ins i pc = some .ireturn) (hr : zq_ret i = some .boolean) (h : x = 0 ∨ x = 1) : zq_F d i pc L [.int x] sh I P nx kx = some (some (.int x), sh, I, P, nx, kx) := zq_F_ret hi rfl (by simp [zq_rt, zq_rti, hr, h])
theorem zq_r_reta {w : Value} {C : String} (hi : zq_ins i pc = some .areturn) (hr : zq_ret i = some (.object C)) (h : zq_ref w = true) : zq_F d i pc L [w] sh I P nx kx = some (some w, sh, I, P, nx, kx) := zq_F_ret hi rfl (by simp [zq_rt, zq_rta, hr, h])
theorem zq_r_retv (hi : zq_ins i pc = some .return_) (hr : zq_ret i = none) : zq_F d i pc L [] sh I P nx kx = some (none, sh, I, P, nx, kx) := zq_F_ret hi rfl (by simp [zq_rt, zq_rtv, hr])
theorem zq_r_tab {dflt lo hi0 : Int} {offs : Array Int} {x : Int32} {tgt : Nat} (hi : zq_ins i pc = some (.tableswitch dflt lo hi0 offs)) (h : (if x.toInt < lo ∨ hi0 < x.toInt then some ((pc : Int) + dflt) else (offs[(x.toInt - lo).toNat]?).map (fun o => (pc : Int) + o)) = some (tgt : Int)) : zq_F d i pc L (.int x :: st) sh I P nx kx = zq_F d i tgt L st sh I P nx kx := by
  refine zq_F_next hi rfl rfl ?_
  have key : zq_tab dflt lo hi0 offs pc L (.int x :: st) = some (tgt, L, st) := by
    unfold zq_tab
    dsimp only
    split at h
    · rename_i hc
      rw [if_pos hc]
      injection h with h
      simp [zq_to, zq_ok, h]
    · rename_i hc
      rw [if_neg hc]
      obtain ⟨o, ho, h⟩ := Option.map_eq_some_iff.mp h
      rw [ho]
      simp [zq_to, zq_ok, h]
  simp [zq_next, zq_pure, key]
end ZQE
theorem zq_sk_of {st : List Value} (h : st.length ≤ 4) : (st.map fun v => v.category).sum ≤ 8 := by
  have key : ∀ l : List Value, (l.map fun v => v.category).sum ≤ 2 * l.length := by
    intro l
    induction l with
    | nil => exact Nat.le_refl 0
    | cons a l ih =>
      have : a.category ≤ 2 := by cases a <;> simp [Value.category]
      simp only [List.map_cons, List.sum_cons, List.length_cons]
      omega
  have := key st
  omega
theorem zq_ag {kd j n : Nat} {as rest : List Value} {sh : zq_S} (hn : zq_na j = n) (hl : as.length = n) (hc : as.all (fun v => v.category == 1) = true) (hs : rest.length ≤ 4) (hr : kd = 2 ∨ ∃ b, as[n - 1]? = some (.ref b) ∧ 0 < n ∧ (kd = 1 ∨ (sh b).1 = 100 + zq_oc j)) : zq_arg kd j (as ++ rest) sh = true := by
  subst hn
  have h1 : (as ++ rest).drop (zq_na j) = rest := by rw [← hl, List.drop_left]
  have h2 : (as ++ rest).take (zq_na j) = as := by rw [← hl, List.take_left]
  simp only [zq_arg, h1, h2, hc, Bool.and_eq_true, decide_eq_true_eq, Bool.or_eq_true, beq_iff_eq, true_and]
  refine ⟨by rw [List.length_append]; omega, zq_sk_of hs, ?_⟩
  rcases hr with hr | ⟨b, hb, h0, hr⟩
  · exact Or.inl hr
  · right
    unfold zq_rcv
    rw [List.getElem?_append_left (by omega), hb]
    rcases hr with hr | hr
    · simp [hr]
    · simp [hr]
theorem zq_nn {j : Nat} (h : j < 2147483648) : (0 : Int32) ≤ nI j ∧ (nI j).toNatClampNeg = j := ⟨nI_pos' h, nI_clamp h⟩
section ZQN
variable {d i pc nx kx : Nat} {L : zq_L} {st : List Value} {sh : zq_S} {I : zq_I} {P : zq_P}
theorem zq_n_iald {a j : Nat} (hi : zq_ins i pc = some .iaload) (h : (sh a).1 = 2 ∨ (sh a).1 = 1) (h1 : j < (sh a).2) (h2 : j < 2147483648) : zq_F d i pc L (.int (nI j) :: .ref a :: st) sh I P nx kx = zq_F d i (pc + 1) L (.int (I a j) :: st) sh I P nx kx := by
  have := zq_r_iald (d := d) (L := L) (st := st) (I := I) (P := P) (nx := nx) (kx := kx) hi h (zq_nn h2).1 (by rw [(zq_nn h2).2]; exact h1)
  rwa [(zq_nn h2).2] at this
theorem zq_n_bald {a j : Nat} (hi : zq_ins i pc = some .baload) (h : (sh a).1 = 3) (h1 : j < (sh a).2) (h2 : j < 2147483648) : zq_F d i pc L (.int (nI j) :: .ref a :: st) sh I P nx kx = zq_F d i (pc + 1) L (.int (I a j) :: st) sh I P nx kx := by
  have := zq_r_bald (d := d) (L := L) (st := st) (I := I) (P := P) (nx := nx) (kx := kx) hi h (zq_nn h2).1 (by rw [(zq_nn h2).2]; exact h1)
  rwa [(zq_nn h2).2] at this
theorem zq_n_aald {a j : Nat} (hi : zq_ins i pc = some .aaload) (h : 50 ≤ (sh a).1) (h3 : (sh a).1 < 100) (h1 : j < (sh a).2) (h2 : j < 2147483648) : zq_F d i pc L (.int (nI j) :: .ref a :: st) sh I P nx kx = zq_F d i (pc + 1) L (va_rf (P a j) :: st) sh I P nx kx := by
  have := zq_r_aald (d := d) (L := L) (st := st) (I := I) (P := P) (nx := nx) (kx := kx) hi h h3 (zq_nn h2).1 (by rw [(zq_nn h2).2]; exact h1)
  rwa [(zq_nn h2).2] at this
theorem zq_n_iast {a j : Nat} {x : Int32} (hi : zq_ins i pc = some .iastore) (h : (sh a).1 = 2) (h1 : j < (sh a).2) (h2 : j < 2147483648) : zq_F d i pc L (.int x :: .int (nI j) :: .ref a :: st) sh I P nx kx = zq_F d i (pc + 1) L st sh (zq_up I a j x) P nx kx := by
  have := zq_r_iast (d := d) (L := L) (st := st) (I := I) (P := P) (nx := nx) (kx := kx) (x := x) hi h (zq_nn h2).1 (by rw [(zq_nn h2).2]; exact h1)
  rwa [(zq_nn h2).2] at this
theorem zq_n_bast {a j : Nat} {x : Int32} (hi : zq_ins i pc = some .bastore) (h : (sh a).1 = 3) (h1 : j < (sh a).2) (h2 : j < 2147483648) : zq_F d i pc L (.int x :: .int (nI j) :: .ref a :: st) sh I P nx kx = zq_F d i (pc + 1) L st sh (zq_up I a j (x &&& 1)) P nx kx := by
  have := zq_r_bast (d := d) (L := L) (st := st) (I := I) (P := P) (nx := nx) (kx := kx) (x := x) hi h (zq_nn h2).1 (by rw [(zq_nn h2).2]; exact h1)
  rwa [(zq_nn h2).2] at this
theorem zq_n_aast {a j y : Nat} (hi : zq_ins i pc = some .aastore) (h : 50 ≤ (sh a).1) (h3 : (sh a).1 < 100) (hy : (sh y).1 = (sh a).1 + 50) (h1 : j < (sh a).2) (h2 : j < 2147483648) : zq_F d i pc L (.ref y :: .int (nI j) :: .ref a :: st) sh I P nx kx = zq_F d i (pc + 1) L st sh I (zq_up P a j (some y)) nx kx := by
  have := zq_r_aast (d := d) (L := L) (st := st) (I := I) (P := P) (nx := nx) (kx := kx) hi h h3 hy (zq_nn h2).1 (by rw [(zq_nn h2).2]; exact h1)
  rwa [(zq_nn h2).2] at this
theorem zq_n_newi {n : Nat} (hi : zq_ins i pc = some (.newarray .int)) (h : n ≤ 1000000) : zq_F d i pc L (.int (nI n) :: st) sh I P nx kx = zq_F d i (pc + 2) L (.ref nx :: st) (zq_us sh nx (2, n)) (zq_row I nx 0) P (nx + 1) (kx + n) := by
  have h2 : n < 2147483648 := by omega
  have := zq_r_newi (d := d) (L := L) (st := st) (sh := sh) (I := I) (P := P) (nx := nx) (kx := kx) hi (zq_nn h2).1 (by rw [(zq_nn h2).2]; exact h)
  rwa [(zq_nn h2).2] at this
theorem zq_n_newz {n : Nat} (hi : zq_ins i pc = some (.newarray .boolean)) (h : n ≤ 1000000) : zq_F d i pc L (.int (nI n) :: st) sh I P nx kx = zq_F d i (pc + 2) L (.ref nx :: st) (zq_us sh nx (3, n)) (zq_row I nx 0) P (nx + 1) (kx + n) := by
  have h2 : n < 2147483648 := by omega
  have := zq_r_newz (d := d) (L := L) (st := st) (sh := sh) (I := I) (P := P) (nx := nx) (kx := kx) hi (zq_nn h2).1 (by rw [(zq_nn h2).2]; exact h)
  rwa [(zq_nn h2).2] at this
theorem zq_n_anew {idx ci t n : Nat} (hi : zq_ins i pc = some (.anewarray idx)) (hf : zq_acl i idx = some ci) (ht : 50 + ci = t) (h : n ≤ 1000000) : zq_F d i pc L (.int (nI n) :: st) sh I P nx kx = zq_F d i (pc + 3) L (.ref nx :: st) (zq_us sh nx (t, n)) I (zq_row P nx none) (nx + 1) (kx + n) := by
  have h2 : n < 2147483648 := by omega
  have := zq_r_anew (d := d) (L := L) (st := st) (sh := sh) (I := I) (P := P) (nx := nx) (kx := kx) hi hf ht (zq_nn h2).1 (by rw [(zq_nn h2).2]; exact h)
  rwa [(zq_nn h2).2] at this
end ZQN
end
