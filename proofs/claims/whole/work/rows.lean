section
-- ===== PART A: goes FIRST, ahead of the names: the tables' words, and 'selects' of the private methods out of them =====
/-- a private method of a class that the tables say can be made, by its rows of tables_1 -/
def lw_okq (q : MethodName × Nat) : Prop := (q.1.cls ≠ "java/lang/invoke/MethodHandle" ∧ q.1.cls ≠ "java/lang/invoke/VarHandle") ∧ Cond.instantiable q.1.cls q.2 ∈ tables_1 ∧ Cond.privateMethod q.1 ∈ tables_1 ∧ Cond.instanceMethod q.1 ∈ tables_1
theorem lw_p0 : lw_okq (⟨"SliceVoting", "isNode", "(I)Z"⟩, 6) := ⟨⟨by decide +kernel, by decide +kernel⟩, List.mem_of_getElem? (i := 8) (by decide +kernel), List.mem_of_getElem? (i := 92) (by decide +kernel), List.mem_of_getElem? (i := 93) (by decide +kernel)⟩
theorem lw_p1 : lw_okq (⟨"SliceVoting", "addTopQuota", "(LSliceVoting$Node;I)I"⟩, 6) := ⟨⟨by decide +kernel, by decide +kernel⟩, List.mem_of_getElem? (i := 8) (by decide +kernel), List.mem_of_getElem? (i := 96) (by decide +kernel), List.mem_of_getElem? (i := 97) (by decide +kernel)⟩
theorem lw_p2 : lw_okq (⟨"SliceVoting", "number", "(LSliceVoting$Quota;)I"⟩, 6) := ⟨⟨by decide +kernel, by decide +kernel⟩, List.mem_of_getElem? (i := 8) (by decide +kernel), List.mem_of_getElem? (i := 130) (by decide +kernel), List.mem_of_getElem? (i := 131) (by decide +kernel)⟩
theorem lw_p3 : lw_okq (⟨"SliceVoting", "addInnerQuota", "(LSliceVoting$Node;II)I"⟩, 6) := ⟨⟨by decide +kernel, by decide +kernel⟩, List.mem_of_getElem? (i := 8) (by decide +kernel), List.mem_of_getElem? (i := 134) (by decide +kernel), List.mem_of_getElem? (i := 135) (by decide +kernel)⟩
theorem lw_p4 : lw_okq (⟨"SliceVoting", "isQuota", "(I)Z"⟩, 6) := ⟨⟨by decide +kernel, by decide +kernel⟩, List.mem_of_getElem? (i := 8) (by decide +kernel), List.mem_of_getElem? (i := 138) (by decide +kernel), List.mem_of_getElem? (i := 139) (by decide +kernel)⟩
theorem lw_p5 : lw_okq (⟨"SliceVoting", "isWellBehaved", "(I)Z"⟩, 6) := ⟨⟨by decide +kernel, by decide +kernel⟩, List.mem_of_getElem? (i := 8) (by decide +kernel), List.mem_of_getElem? (i := 153) (by decide +kernel), List.mem_of_getElem? (i := 154) (by decide +kernel)⟩
theorem lw_p6 : lw_okq (⟨"SliceVoting", "settle", "(LSliceVoting$Node;)V"⟩, 6) := ⟨⟨by decide +kernel, by decide +kernel⟩, List.mem_of_getElem? (i := 8) (by decide +kernel), List.mem_of_getElem? (i := 185) (by decide +kernel), List.mem_of_getElem? (i := 186) (by decide +kernel)⟩
theorem lw_p7 : lw_okq (⟨"SliceVoting", "acceptLeast", "(LSliceVoting$Node;)Z"⟩, 6) := ⟨⟨by decide +kernel, by decide +kernel⟩, List.mem_of_getElem? (i := 8) (by decide +kernel), List.mem_of_getElem? (i := 189) (by decide +kernel), List.mem_of_getElem? (i := 190) (by decide +kernel)⟩
theorem lw_p8 : lw_okq (⟨"SliceVoting", "mayAccept", "(LSliceVoting$Node;I)Z"⟩, 6) := ⟨⟨by decide +kernel, by decide +kernel⟩, List.mem_of_getElem? (i := 8) (by decide +kernel), List.mem_of_getElem? (i := 193) (by decide +kernel), List.mem_of_getElem? (i := 194) (by decide +kernel)⟩
theorem lw_p9 : lw_okq (⟨"SliceVoting", "isInQuorumWithin", "(LSliceVoting$Node;I)Z"⟩, 6) := ⟨⟨by decide +kernel, by decide +kernel⟩, List.mem_of_getElem? (i := 8) (by decide +kernel), List.mem_of_getElem? (i := 200) (by decide +kernel), List.mem_of_getElem? (i := 201) (by decide +kernel)⟩
theorem lw_p10 : lw_okq (⟨"SliceVoting", "unionOfQuorumsIn", "(I)I"⟩, 6) := ⟨⟨by decide +kernel, by decide +kernel⟩, List.mem_of_getElem? (i := 8) (by decide +kernel), List.mem_of_getElem? (i := 204) (by decide +kernel), List.mem_of_getElem? (i := 205) (by decide +kernel)⟩
theorem lw_p11 : lw_okq (⟨"SliceVoting", "isBlockedBy", "(LSliceVoting$Node;I)Z"⟩, 6) := ⟨⟨by decide +kernel, by decide +kernel⟩, List.mem_of_getElem? (i := 8) (by decide +kernel), List.mem_of_getElem? (i := 217) (by decide +kernel), List.mem_of_getElem? (i := 218) (by decide +kernel)⟩
theorem lw_p12 : lw_okq (⟨"SliceVoting", "confirmLeast", "(LSliceVoting$Node;)Z"⟩, 6) := ⟨⟨by decide +kernel, by decide +kernel⟩, List.mem_of_getElem? (i := 8) (by decide +kernel), List.mem_of_getElem? (i := 221) (by decide +kernel), List.mem_of_getElem? (i := 222) (by decide +kernel)⟩
theorem lw_p13 : lw_okq (⟨"SliceVoting", "mayConfirm", "(LSliceVoting$Node;I)Z"⟩, 6) := ⟨⟨by decide +kernel, by decide +kernel⟩, List.mem_of_getElem? (i := 8) (by decide +kernel), List.mem_of_getElem? (i := 225) (by decide +kernel), List.mem_of_getElem? (i := 226) (by decide +kernel)⟩
theorem lw_p14 : lw_okq (⟨"SliceVoting", "hear", "(LSliceVoting$Node;III)V"⟩, 6) := ⟨⟨by decide +kernel, by decide +kernel⟩, List.mem_of_getElem? (i := 8) (by decide +kernel), List.mem_of_getElem? (i := 242) (by decide +kernel), List.mem_of_getElem? (i := 243) (by decide +kernel)⟩
theorem lw_p15 : lw_okq (⟨"SliceVoting", "isSetOfNodes", "(I)Z"⟩, 6) := ⟨⟨by decide +kernel, by decide +kernel⟩, List.mem_of_getElem? (i := 8) (by decide +kernel), List.mem_of_getElem? (i := 284) (by decide +kernel), List.mem_of_getElem? (i := 285) (by decide +kernel)⟩
def lw_privs_1 : List (MethodName × Nat) := [(⟨"SliceVoting", "isNode", "(I)Z"⟩, 6), (⟨"SliceVoting", "addTopQuota", "(LSliceVoting$Node;I)I"⟩, 6), (⟨"SliceVoting", "number", "(LSliceVoting$Quota;)I"⟩, 6), (⟨"SliceVoting", "addInnerQuota", "(LSliceVoting$Node;II)I"⟩, 6), (⟨"SliceVoting", "isQuota", "(I)Z"⟩, 6), (⟨"SliceVoting", "isWellBehaved", "(I)Z"⟩, 6), (⟨"SliceVoting", "settle", "(LSliceVoting$Node;)V"⟩, 6), (⟨"SliceVoting", "acceptLeast", "(LSliceVoting$Node;)Z"⟩, 6), (⟨"SliceVoting", "mayAccept", "(LSliceVoting$Node;I)Z"⟩, 6), (⟨"SliceVoting", "isInQuorumWithin", "(LSliceVoting$Node;I)Z"⟩, 6), (⟨"SliceVoting", "unionOfQuorumsIn", "(I)I"⟩, 6), (⟨"SliceVoting", "isBlockedBy", "(LSliceVoting$Node;I)Z"⟩, 6), (⟨"SliceVoting", "confirmLeast", "(LSliceVoting$Node;)Z"⟩, 6), (⟨"SliceVoting", "mayConfirm", "(LSliceVoting$Node;I)Z"⟩, 6), (⟨"SliceVoting", "hear", "(LSliceVoting$Node;III)V"⟩, 6), (⟨"SliceVoting", "isSetOfNodes", "(I)Z"⟩, 6)]
theorem lw_r1 : ∀ q ∈ lw_privs_1, lw_okq q := List.forall_mem_cons.mpr ⟨lw_p0, List.forall_mem_cons.mpr ⟨lw_p1, List.forall_mem_cons.mpr ⟨lw_p2, List.forall_mem_cons.mpr ⟨lw_p3, List.forall_mem_cons.mpr ⟨lw_p4, List.forall_mem_cons.mpr ⟨lw_p5, List.forall_mem_cons.mpr ⟨lw_p6, List.forall_mem_cons.mpr ⟨lw_p7, List.forall_mem_cons.mpr ⟨lw_p8, List.forall_mem_cons.mpr ⟨lw_p9, List.forall_mem_cons.mpr ⟨lw_p10, List.forall_mem_cons.mpr ⟨lw_p11, List.forall_mem_cons.mpr ⟨lw_p12, List.forall_mem_cons.mpr ⟨lw_p13, List.forall_mem_cons.mpr ⟨lw_p14, List.forall_mem_cons.mpr ⟨lw_p15, fun _ h => absurd h List.not_mem_nil⟩⟩⟩⟩⟩⟩⟩⟩⟩⟩⟩⟩⟩⟩⟩⟩
theorem lw_p16 : lw_okq (⟨"SliceVoting", "isQuorum", "(I)Z"⟩, 6) := ⟨⟨by decide +kernel, by decide +kernel⟩, List.mem_of_getElem? (i := 8) (by decide +kernel), List.mem_of_getElem? (i := 288) (by decide +kernel), List.mem_of_getElem? (i := 289) (by decide +kernel)⟩
theorem lw_p17 : lw_okq (⟨"SliceVotingModel", "isNode", "(I)Z"⟩, 19) := ⟨⟨by decide +kernel, by decide +kernel⟩, List.mem_of_getElem? (i := 307) (by decide +kernel), List.mem_of_getElem? (i := 376) (by decide +kernel), List.mem_of_getElem? (i := 377) (by decide +kernel)⟩
theorem lw_p18 : lw_okq (⟨"SliceVotingModel", "top", "(I)I"⟩, 19) := ⟨⟨by decide +kernel, by decide +kernel⟩, List.mem_of_getElem? (i := 307) (by decide +kernel), List.mem_of_getElem? (i := 380) (by decide +kernel), List.mem_of_getElem? (i := 381) (by decide +kernel)⟩
theorem lw_p19 : lw_okq (⟨"SliceVotingModel", "isSet", "(I)Z"⟩, 19) := ⟨⟨by decide +kernel, by decide +kernel⟩, List.mem_of_getElem? (i := 307) (by decide +kernel), List.mem_of_getElem? (i := 392) (by decide +kernel), List.mem_of_getElem? (i := 393) (by decide +kernel)⟩
theorem lw_p20 : lw_okq (⟨"SliceVotingModel", "meet", "(I)V"⟩, 19) := ⟨⟨by decide +kernel, by decide +kernel⟩, List.mem_of_getElem? (i := 307) (by decide +kernel), List.mem_of_getElem? (i := 396) (by decide +kernel), List.mem_of_getElem? (i := 397) (by decide +kernel)⟩
theorem lw_p21 : lw_okq (⟨"SliceVotingModel", "stops", "(II)Z"⟩, 19) := ⟨⟨by decide +kernel, by decide +kernel⟩, List.mem_of_getElem? (i := 307) (by decide +kernel), List.mem_of_getElem? (i := 409) (by decide +kernel), List.mem_of_getElem? (i := 410) (by decide +kernel)⟩
theorem lw_p22 : lw_okq (⟨"SliceVotingModel", "well", "(I)Z"⟩, 19) := ⟨⟨by decide +kernel, by decide +kernel⟩, List.mem_of_getElem? (i := 307) (by decide +kernel), List.mem_of_getElem? (i := 417) (by decide +kernel), List.mem_of_getElem? (i := 418) (by decide +kernel)⟩
theorem lw_p23 : lw_okq (⟨"SliceVotingModel", "tryAll", "()V"⟩, 19) := ⟨⟨by decide +kernel, by decide +kernel⟩, List.mem_of_getElem? (i := 307) (by decide +kernel), List.mem_of_getElem? (i := 421) (by decide +kernel), List.mem_of_getElem? (i := 422) (by decide +kernel)⟩
theorem lw_p24 : lw_okq (⟨"SliceVotingModel", "choice", "(II)I"⟩, 19) := ⟨⟨by decide +kernel, by decide +kernel⟩, List.mem_of_getElem? (i := 307) (by decide +kernel), List.mem_of_getElem? (i := 433) (by decide +kernel), List.mem_of_getElem? (i := 434) (by decide +kernel)⟩
theorem lw_p25 : lw_okq (⟨"SliceVotingModel", "vote", "(II)Z"⟩, 19) := ⟨⟨by decide +kernel, by decide +kernel⟩, List.mem_of_getElem? (i := 307) (by decide +kernel), List.mem_of_getElem? (i := 437) (by decide +kernel), List.mem_of_getElem? (i := 438) (by decide +kernel)⟩
theorem lw_p26 : lw_okq (⟨"SliceVotingModel", "against", "(II)Z"⟩, 19) := ⟨⟨by decide +kernel, by decide +kernel⟩, List.mem_of_getElem? (i := 307) (by decide +kernel), List.mem_of_getElem? (i := 441) (by decide +kernel), List.mem_of_getElem? (i := 442) (by decide +kernel)⟩
theorem lw_p27 : lw_okq (⟨"SliceVotingModel", "contradict", "(II)Z"⟩, 19) := ⟨⟨by decide +kernel, by decide +kernel⟩, List.mem_of_getElem? (i := 307) (by decide +kernel), List.mem_of_getElem? (i := 445) (by decide +kernel), List.mem_of_getElem? (i := 446) (by decide +kernel)⟩
theorem lw_p28 : lw_okq (⟨"SliceVotingModel", "settle", "(I)V"⟩, 19) := ⟨⟨by decide +kernel, by decide +kernel⟩, List.mem_of_getElem? (i := 307) (by decide +kernel), List.mem_of_getElem? (i := 449) (by decide +kernel), List.mem_of_getElem? (i := 450) (by decide +kernel)⟩
theorem lw_p29 : lw_okq (⟨"SliceVotingModel", "stepAccept", "(I)Z"⟩, 19) := ⟨⟨by decide +kernel, by decide +kernel⟩, List.mem_of_getElem? (i := 307) (by decide +kernel), List.mem_of_getElem? (i := 453) (by decide +kernel), List.mem_of_getElem? (i := 454) (by decide +kernel)⟩
theorem lw_p30 : lw_okq (⟨"SliceVotingModel", "backers", "(IIZ)I"⟩, 19) := ⟨⟨by decide +kernel, by decide +kernel⟩, List.mem_of_getElem? (i := 307) (by decide +kernel), List.mem_of_getElem? (i := 457) (by decide +kernel), List.mem_of_getElem? (i := 458) (by decide +kernel)⟩
theorem lw_p31 : lw_okq (⟨"SliceVotingModel", "acceptsOf", "(II)I"⟩, 19) := ⟨⟨by decide +kernel, by decide +kernel⟩, List.mem_of_getElem? (i := 307) (by decide +kernel), List.mem_of_getElem? (i := 461) (by decide +kernel), List.mem_of_getElem? (i := 462) (by decide +kernel)⟩
def lw_privs_2 : List (MethodName × Nat) := [(⟨"SliceVoting", "isQuorum", "(I)Z"⟩, 6), (⟨"SliceVotingModel", "isNode", "(I)Z"⟩, 19), (⟨"SliceVotingModel", "top", "(I)I"⟩, 19), (⟨"SliceVotingModel", "isSet", "(I)Z"⟩, 19), (⟨"SliceVotingModel", "meet", "(I)V"⟩, 19), (⟨"SliceVotingModel", "stops", "(II)Z"⟩, 19), (⟨"SliceVotingModel", "well", "(I)Z"⟩, 19), (⟨"SliceVotingModel", "tryAll", "()V"⟩, 19), (⟨"SliceVotingModel", "choice", "(II)I"⟩, 19), (⟨"SliceVotingModel", "vote", "(II)Z"⟩, 19), (⟨"SliceVotingModel", "against", "(II)Z"⟩, 19), (⟨"SliceVotingModel", "contradict", "(II)Z"⟩, 19), (⟨"SliceVotingModel", "settle", "(I)V"⟩, 19), (⟨"SliceVotingModel", "stepAccept", "(I)Z"⟩, 19), (⟨"SliceVotingModel", "backers", "(IIZ)I"⟩, 19), (⟨"SliceVotingModel", "acceptsOf", "(II)I"⟩, 19)]
theorem lw_r2 : ∀ q ∈ lw_privs_2, lw_okq q := List.forall_mem_cons.mpr ⟨lw_p16, List.forall_mem_cons.mpr ⟨lw_p17, List.forall_mem_cons.mpr ⟨lw_p18, List.forall_mem_cons.mpr ⟨lw_p19, List.forall_mem_cons.mpr ⟨lw_p20, List.forall_mem_cons.mpr ⟨lw_p21, List.forall_mem_cons.mpr ⟨lw_p22, List.forall_mem_cons.mpr ⟨lw_p23, List.forall_mem_cons.mpr ⟨lw_p24, List.forall_mem_cons.mpr ⟨lw_p25, List.forall_mem_cons.mpr ⟨lw_p26, List.forall_mem_cons.mpr ⟨lw_p27, List.forall_mem_cons.mpr ⟨lw_p28, List.forall_mem_cons.mpr ⟨lw_p29, List.forall_mem_cons.mpr ⟨lw_p30, List.forall_mem_cons.mpr ⟨lw_p31, fun _ h => absurd h List.not_mem_nil⟩⟩⟩⟩⟩⟩⟩⟩⟩⟩⟩⟩⟩⟩⟩⟩
theorem lw_p32 : lw_okq (⟨"SliceVotingModel", "votesOf", "(II)I"⟩, 19) := ⟨⟨by decide +kernel, by decide +kernel⟩, List.mem_of_getElem? (i := 307) (by decide +kernel), List.mem_of_getElem? (i := 465) (by decide +kernel), List.mem_of_getElem? (i := 466) (by decide +kernel)⟩
theorem lw_p33 : lw_okq (⟨"SliceVotingModel", "quorumWithin", "(II)Z"⟩, 19) := ⟨⟨by decide +kernel, by decide +kernel⟩, List.mem_of_getElem? (i := 307) (by decide +kernel), List.mem_of_getElem? (i := 469) (by decide +kernel), List.mem_of_getElem? (i := 470) (by decide +kernel)⟩
theorem lw_p34 : lw_okq (⟨"SliceVotingModel", "stepConfirm", "(I)Z"⟩, 19) := ⟨⟨by decide +kernel, by decide +kernel⟩, List.mem_of_getElem? (i := 307) (by decide +kernel), List.mem_of_getElem? (i := 473) (by decide +kernel), List.mem_of_getElem? (i := 474) (by decide +kernel)⟩
theorem lw_p35 : lw_okq (⟨"SliceVotingModel", "stepCommit", "(I)Z"⟩, 19) := ⟨⟨by decide +kernel, by decide +kernel⟩, List.mem_of_getElem? (i := 307) (by decide +kernel), List.mem_of_getElem? (i := 477) (by decide +kernel), List.mem_of_getElem? (i := 478) (by decide +kernel)⟩
def lw_privs_3 : List (MethodName × Nat) := [(⟨"SliceVotingModel", "votesOf", "(II)I"⟩, 19), (⟨"SliceVotingModel", "quorumWithin", "(II)Z"⟩, 19), (⟨"SliceVotingModel", "stepConfirm", "(I)Z"⟩, 19), (⟨"SliceVotingModel", "stepCommit", "(I)Z"⟩, 19)]
theorem lw_r3 : ∀ q ∈ lw_privs_3, lw_okq q := List.forall_mem_cons.mpr ⟨lw_p32, List.forall_mem_cons.mpr ⟨lw_p33, List.forall_mem_cons.mpr ⟨lw_p34, List.forall_mem_cons.mpr ⟨lw_p35, fun _ h => absurd h List.not_mem_nil⟩⟩⟩⟩
def lw_privs : List (MethodName × Nat) := lw_privs_1 ++ (lw_privs_2 ++ (lw_privs_3))
def lw_tbl : List Cond := k2_sels lw_privs ++ tables_1
theorem lw_privs_ok : ∀ q ∈ lw_privs, lw_okq q := by
  show ∀ q ∈ lw_privs_1 ++ (lw_privs_2 ++ (lw_privs_3)), lw_okq q
  exact List.forall_mem_append.mpr ⟨lw_r1, List.forall_mem_append.mpr ⟨lw_r2, lw_r3⟩⟩
def R_N : String := "SliceVoting$Node"
def T_N : u_T := fun k => match k with
  | 0 => ("SliceVoting$Node", "number", "I", true)
  | 1 => ("SliceVoting$Node", "knownVotes", "[I", true)
  | 2 => ("SliceVoting$Node", "knownAccepts", "[I", true)
  | 3 => ("SliceVoting$Node", "confirmed", "I", false)
  | 4 => ("SliceVoting$Node", "counter", "I", false)
  | 5 => ("SliceVoting$Node", "value", "I", false)
  | 6 => ("SliceVoting$Node", "decision", "I", false)
  | 7 => ("SliceVoting$Node", "top", "LSliceVoting$Quota;", false)
  | _ => ("SliceVoting$Node", "quotaCount", "I", false)
def t_N : Nat → FieldType := fun k => match k with
  | 0 => .int
  | 1 => .array .int
  | 2 => .array .int
  | 3 => .int
  | 4 => .int
  | 5 => .int
  | 6 => .int
  | 7 => .object "SliceVoting$Quota"
  | _ => .int
theorem nm_N : ∀ a, a < 9 → ∀ b, b < 9 → a ≠ b → (T_N a).2.1 ≠ (T_N b).2.1 := by decide +kernel
theorem t_N_ok : ∀ k, k < 9 → parseFieldDescriptor (T_N k).2.2.1 = some (t_N k) := by decide +kernel
def R_Q : String := "SliceVoting$Quota"
def T_Q : u_T := fun k => match k with
  | 0 => ("SliceVoting$Quota", "owner", "LSliceVoting$Node;", true)
  | 1 => ("SliceVoting$Quota", "level", "I", true)
  | 2 => ("SliceVoting$Quota", "need", "I", true)
  | 3 => ("SliceVoting$Quota", "members", "I", false)
  | 4 => ("SliceVoting$Quota", "firstInner", "LSliceVoting$Quota;", false)
  | _ => ("SliceVoting$Quota", "nextInner", "LSliceVoting$Quota;", false)
def t_Q : Nat → FieldType := fun k => match k with
  | 0 => .object "SliceVoting$Node"
  | 1 => .int
  | 2 => .int
  | 3 => .int
  | 4 => .object "SliceVoting$Quota"
  | _ => .object "SliceVoting$Quota"
theorem nm_Q : ∀ a, a < 6 → ∀ b, b < 6 → a ≠ b → (T_Q a).2.1 ≠ (T_Q b).2.1 := by decide +kernel
theorem t_Q_ok : ∀ k, k < 6 → parseFieldDescriptor (T_Q k).2.2.1 = some (t_Q k) := by decide +kernel
def R_S : String := "SliceVoting"
def T_S : u_T := fun k => match k with
  | 0 => ("SliceVoting", "nodes", "[LSliceVoting$Node;", true)
  | 1 => ("SliceVoting", "everyone", "I", true)
  | 2 => ("SliceVoting", "quotas", "[LSliceVoting$Quota;", true)
  | 3 => ("SliceVoting", "quotaCount", "I", false)
  | 4 => ("SliceVoting", "wellBehaved", "I", false)
  | _ => ("SliceVoting", "moving", "Z", false)
def t_S : Nat → FieldType := fun k => match k with
  | 0 => .array (.object "SliceVoting$Node")
  | 1 => .int
  | 2 => .array (.object "SliceVoting$Quota")
  | 3 => .int
  | 4 => .int
  | _ => .boolean
theorem nm_S : ∀ a, a < 6 → ∀ b, b < 6 → a ≠ b → (T_S a).2.1 ≠ (T_S b).2.1 := by decide +kernel
theorem t_S_ok : ∀ k, k < 6 → parseFieldDescriptor (T_S k).2.2.1 = some (t_S k) := by decide +kernel
def R_M : String := "SliceVotingModel"
def T_M : u_T := fun k => match k with
  | 0 => ("SliceVotingModel", "nodes", "I", true)
  | 1 => ("SliceVotingModel", "moves", "Z", false)
  | 2 => ("SliceVotingModel", "quotas", "I", false)
  | 3 => ("SliceVotingModel", "owner", "[I", true)
  | 4 => ("SliceVotingModel", "around", "[I", true)
  | 5 => ("SliceVotingModel", "level", "[I", true)
  | 6 => ("SliceVotingModel", "need", "[I", true)
  | 7 => ("SliceVotingModel", "members", "[I", true)
  | 8 => ("SliceVotingModel", "met", "[Z", true)
  | 9 => ("SliceVotingModel", "ill", "[Z", true)
  | 10 => ("SliceVotingModel", "votes", "[I", true)
  | 11 => ("SliceVotingModel", "accepts", "[I", true)
  | 12 => ("SliceVotingModel", "confirms", "[I", true)
  | 13 => ("SliceVotingModel", "counters", "[I", true)
  | 14 => ("SliceVotingModel", "values", "[I", true)
  | 15 => ("SliceVotingModel", "decisions", "[I", true)
  | 16 => ("SliceVotingModel", "heardVotes", "[I", true)
  | 17 => ("SliceVotingModel", "heardAccepts", "[I", true)
  | _ => ("SliceVotingModel", "quorums", "[Z", true)
def t_M : Nat → FieldType := fun k => match k with
  | 0 => .int
  | 1 => .boolean
  | 2 => .int
  | 3 => .array .int
  | 4 => .array .int
  | 5 => .array .int
  | 6 => .array .int
  | 7 => .array .int
  | 8 => .array .boolean
  | 9 => .array .boolean
  | 10 => .array .int
  | 11 => .array .int
  | 12 => .array .int
  | 13 => .array .int
  | 14 => .array .int
  | 15 => .array .int
  | 16 => .array .int
  | 17 => .array .int
  | _ => .array .boolean
theorem nm_M : ∀ a, a < 19 → ∀ b, b < 19 → a ≠ b → (T_M a).2.1 ≠ (T_M b).2.1 := by decide +kernel
theorem t_M_ok : ∀ k, k < 19 → parseFieldDescriptor (T_M k).2.2.1 = some (t_M k) := by decide +kernel
abbrev vwCl : List vw_C := [(R_N, T_N, 9), (R_Q, T_Q, 6), (R_S, T_S, 6), (R_M, T_M, 19)]
abbrev sv_kN : Nat := 0
abbrev sv_kQ : Nat := 1
abbrev sv_kS : Nat := 2
abbrev sv_kM : Nat := 3
abbrev cS_init : ByteArray := prog_1_method_1_code
def yS_init : MethodName := ⟨"SliceVoting", "<init>", "(I)V"⟩
abbrev cS_quota : ByteArray := prog_1_method_2_code
def yS_quota : MethodName := ⟨"SliceVoting", "quota", "(III)I"⟩
abbrev cS_member : ByteArray := prog_1_method_3_code
def yS_member : MethodName := ⟨"SliceVoting", "member", "(II)Z"⟩
abbrev cS_corrupt : ByteArray := prog_1_method_4_code
def yS_corrupt : MethodName := ⟨"SliceVoting", "corrupt", "(I)Z"⟩
abbrev cS_propose : ByteArray := prog_1_method_5_code
def yS_propose : MethodName := ⟨"SliceVoting", "propose", "(III)I"⟩
abbrev cS_deliver : ByteArray := prog_1_method_6_code
def yS_deliver : MethodName := ⟨"SliceVoting", "deliver", "(II)Z"⟩
abbrev cS_say : ByteArray := prog_1_method_7_code
def yS_say : MethodName := ⟨"SliceVoting", "say", "(IIII)Z"⟩
abbrev cS_voted : ByteArray := prog_1_method_8_code
def yS_voted : MethodName := ⟨"SliceVoting", "voted", "(I)I"⟩
abbrev cS_accepted : ByteArray := prog_1_method_9_code
def yS_accepted : MethodName := ⟨"SliceVoting", "accepted", "(I)I"⟩
abbrev cS_confirmed : ByteArray := prog_1_method_10_code
def yS_confirmed : MethodName := ⟨"SliceVoting", "confirmed", "(I)I"⟩
abbrev cS_counter : ByteArray := prog_1_method_11_code
def yS_counter : MethodName := ⟨"SliceVoting", "counter", "(I)I"⟩
abbrev cS_value : ByteArray := prog_1_method_12_code
def yS_value : MethodName := ⟨"SliceVoting", "value", "(I)I"⟩
abbrev cS_decided : ByteArray := prog_1_method_13_code
def yS_decided : MethodName := ⟨"SliceVoting", "decided", "(I)I"⟩
abbrev cS_known : ByteArray := prog_1_method_14_code
def yS_known : MethodName := ⟨"SliceVoting", "known", "(IIZ)I"⟩
abbrev cS_quorum : ByteArray := prog_1_method_15_code
def yS_quorum : MethodName := ⟨"SliceVoting", "quorum", "(I)Z"⟩
abbrev cS_largest : ByteArray := prog_1_method_16_code
def yS_largest : MethodName := ⟨"SliceVoting", "largest", "(I)I"⟩
abbrev cS_blocks : ByteArray := prog_1_method_17_code
def yS_blocks : MethodName := ⟨"SliceVoting", "blocks", "(II)Z"⟩
abbrev cS_intertwined : ByteArray := prog_1_method_18_code
def yS_intertwined : MethodName := ⟨"SliceVoting", "intertwined", "(II)Z"⟩
abbrev cS_isNode : ByteArray := prog_1_method_19_code
def yS_isNode : MethodName := ⟨"SliceVoting", "isNode", "(I)Z"⟩
abbrev cS_isWellBehaved : ByteArray := prog_1_method_20_code
def yS_isWellBehaved : MethodName := ⟨"SliceVoting", "isWellBehaved", "(I)Z"⟩
abbrev cS_isSetOfNodes : ByteArray := prog_1_method_21_code
def yS_isSetOfNodes : MethodName := ⟨"SliceVoting", "isSetOfNodes", "(I)Z"⟩
abbrev cS_isQuota : ByteArray := prog_1_method_22_code
def yS_isQuota : MethodName := ⟨"SliceVoting", "isQuota", "(I)Z"⟩
abbrev cS_addTopQuota : ByteArray := prog_1_method_23_code
def yS_addTopQuota : MethodName := ⟨"SliceVoting", "addTopQuota", "(LSliceVoting$Node;I)I"⟩
abbrev cS_addInnerQuota : ByteArray := prog_1_method_24_code
def yS_addInnerQuota : MethodName := ⟨"SliceVoting", "addInnerQuota", "(LSliceVoting$Node;II)I"⟩
abbrev cS_number : ByteArray := prog_1_method_25_code
def yS_number : MethodName := ⟨"SliceVoting", "number", "(LSliceVoting$Quota;)I"⟩
abbrev cS_isMet : ByteArray := prog_1_method_26_code
def yS_isMet : MethodName := ⟨"SliceVoting", "isMet", "(LSliceVoting$Quota;II)Z"⟩
abbrev cS_isBlockedBy : ByteArray := prog_1_method_27_code
def yS_isBlockedBy : MethodName := ⟨"SliceVoting", "isBlockedBy", "(LSliceVoting$Node;I)Z"⟩
abbrev cS_isQuorum : ByteArray := prog_1_method_28_code
def yS_isQuorum : MethodName := ⟨"SliceVoting", "isQuorum", "(I)Z"⟩
abbrev cS_unionOfQuorumsIn : ByteArray := prog_1_method_29_code
def yS_unionOfQuorumsIn : MethodName := ⟨"SliceVoting", "unionOfQuorumsIn", "(I)I"⟩
abbrev cS_has : ByteArray := prog_1_method_30_code
def yS_has : MethodName := ⟨"SliceVoting", "has", "(II)Z"⟩
abbrev cS_ballot : ByteArray := prog_1_method_31_code
def yS_ballot : MethodName := ⟨"SliceVoting", "ballot", "(II)I"⟩
abbrev cS_commitOf : ByteArray := prog_1_method_32_code
def yS_commitOf : MethodName := ⟨"SliceVoting", "commitOf", "(I)I"⟩
abbrev cS_isCommit : ByteArray := prog_1_method_33_code
def yS_isCommit : MethodName := ⟨"SliceVoting", "isCommit", "(I)Z"⟩
abbrev cS_ballotOf : ByteArray := prog_1_method_34_code
def yS_ballotOf : MethodName := ⟨"SliceVoting", "ballotOf", "(I)I"⟩
abbrev cS_valueOf : ByteArray := prog_1_method_35_code
def yS_valueOf : MethodName := ⟨"SliceVoting", "valueOf", "(I)I"⟩
abbrev cS_contradict : ByteArray := prog_1_method_36_code
def yS_contradict : MethodName := ⟨"SliceVoting", "contradict", "(II)Z"⟩
abbrev cS_contradictsOneOf : ByteArray := prog_1_method_37_code
def yS_contradictsOneOf : MethodName := ⟨"SliceVoting", "contradictsOneOf", "(II)Z"⟩
abbrev cS_valueToPropose : ByteArray := prog_1_method_38_code
def yS_valueToPropose : MethodName := ⟨"SliceVoting", "valueToPropose", "(LSliceVoting$Node;I)I"⟩
abbrev cS_hear : ByteArray := prog_1_method_39_code
def yS_hear : MethodName := ⟨"SliceVoting", "hear", "(LSliceVoting$Node;III)V"⟩
abbrev cS_voteIfAllowed : ByteArray := prog_1_method_40_code
def yS_voteIfAllowed : MethodName := ⟨"SliceVoting", "voteIfAllowed", "(LSliceVoting$Node;I)Z"⟩
abbrev cS_settle : ByteArray := prog_1_method_41_code
def yS_settle : MethodName := ⟨"SliceVoting", "settle", "(LSliceVoting$Node;)V"⟩
abbrev cS_acceptLeast : ByteArray := prog_1_method_42_code
def yS_acceptLeast : MethodName := ⟨"SliceVoting", "acceptLeast", "(LSliceVoting$Node;)Z"⟩
abbrev cS_mayAccept : ByteArray := prog_1_method_43_code
def yS_mayAccept : MethodName := ⟨"SliceVoting", "mayAccept", "(LSliceVoting$Node;I)Z"⟩
abbrev cS_confirmLeast : ByteArray := prog_1_method_44_code
def yS_confirmLeast : MethodName := ⟨"SliceVoting", "confirmLeast", "(LSliceVoting$Node;)Z"⟩
abbrev cS_mayConfirm : ByteArray := prog_1_method_45_code
def yS_mayConfirm : MethodName := ⟨"SliceVoting", "mayConfirm", "(LSliceVoting$Node;I)Z"⟩
abbrev cS_decideBy : ByteArray := prog_1_method_46_code
def yS_decideBy : MethodName := ⟨"SliceVoting", "decideBy", "(LSliceVoting$Node;I)V"⟩
abbrev cS_voteForCommit : ByteArray := prog_1_method_47_code
def yS_voteForCommit : MethodName := ⟨"SliceVoting", "voteForCommit", "(LSliceVoting$Node;)Z"⟩
abbrev cS_isInQuorumWithin : ByteArray := prog_1_method_48_code
def yS_isInQuorumWithin : MethodName := ⟨"SliceVoting", "isInQuorumWithin", "(LSliceVoting$Node;I)Z"⟩
abbrev cS_nodesThatSaid : ByteArray := prog_1_method_49_code
def yS_nodesThatSaid : MethodName := ⟨"SliceVoting", "nodesThatSaid", "([II)I"⟩
abbrev cM_init : ByteArray := prog_5_method_1_code
def yM_init : MethodName := ⟨"SliceVotingModel", "<init>", "(I)V"⟩
abbrev cM_isNode : ByteArray := prog_5_method_2_code
def yM_isNode : MethodName := ⟨"SliceVotingModel", "isNode", "(I)Z"⟩
abbrev cM_well : ByteArray := prog_5_method_3_code
def yM_well : MethodName := ⟨"SliceVotingModel", "well", "(I)Z"⟩
abbrev cM_isSet : ByteArray := prog_5_method_4_code
def yM_isSet : MethodName := ⟨"SliceVotingModel", "isSet", "(I)Z"⟩
abbrev cM_top : ByteArray := prog_5_method_5_code
def yM_top : MethodName := ⟨"SliceVotingModel", "top", "(I)I"⟩
abbrev cM_quota : ByteArray := prog_5_method_6_code
def yM_quota : MethodName := ⟨"SliceVotingModel", "quota", "(III)I"⟩
abbrev cM_member : ByteArray := prog_5_method_7_code
def yM_member : MethodName := ⟨"SliceVotingModel", "member", "(II)Z"⟩
abbrev cM_meet : ByteArray := prog_5_method_8_code
def yM_meet : MethodName := ⟨"SliceVotingModel", "meet", "(I)V"⟩
abbrev cM_quorum : ByteArray := prog_5_method_9_code
def yM_quorum : MethodName := ⟨"SliceVotingModel", "quorum", "(I)Z"⟩
abbrev cM_largest : ByteArray := prog_5_method_10_code
def yM_largest : MethodName := ⟨"SliceVotingModel", "largest", "(I)I"⟩
abbrev cM_blocks : ByteArray := prog_5_method_11_code
def yM_blocks : MethodName := ⟨"SliceVotingModel", "blocks", "(II)Z"⟩
abbrev cM_stops : ByteArray := prog_5_method_12_code
def yM_stops : MethodName := ⟨"SliceVotingModel", "stops", "(II)Z"⟩
abbrev cM_intertwined : ByteArray := prog_5_method_13_code
def yM_intertwined : MethodName := ⟨"SliceVotingModel", "intertwined", "(II)Z"⟩
abbrev cM_tryAll : ByteArray := prog_5_method_14_code
def yM_tryAll : MethodName := ⟨"SliceVotingModel", "tryAll", "()V"⟩
abbrev cM_contradict : ByteArray := prog_5_method_15_code
def yM_contradict : MethodName := ⟨"SliceVotingModel", "contradict", "(II)Z"⟩
abbrev cM_against : ByteArray := prog_5_method_16_code
def yM_against : MethodName := ⟨"SliceVotingModel", "against", "(II)Z"⟩
abbrev cM_votesOf : ByteArray := prog_5_method_17_code
def yM_votesOf : MethodName := ⟨"SliceVotingModel", "votesOf", "(II)I"⟩
abbrev cM_acceptsOf : ByteArray := prog_5_method_18_code
def yM_acceptsOf : MethodName := ⟨"SliceVotingModel", "acceptsOf", "(II)I"⟩
abbrev cM_backers : ByteArray := prog_5_method_19_code
def yM_backers : MethodName := ⟨"SliceVotingModel", "backers", "(IIZ)I"⟩
abbrev cM_quorumWithin : ByteArray := prog_5_method_20_code
def yM_quorumWithin : MethodName := ⟨"SliceVotingModel", "quorumWithin", "(II)Z"⟩
abbrev cM_stepAccept : ByteArray := prog_5_method_21_code
def yM_stepAccept : MethodName := ⟨"SliceVotingModel", "stepAccept", "(I)Z"⟩
abbrev cM_stepConfirm : ByteArray := prog_5_method_22_code
def yM_stepConfirm : MethodName := ⟨"SliceVotingModel", "stepConfirm", "(I)Z"⟩
abbrev cM_vote : ByteArray := prog_5_method_23_code
def yM_vote : MethodName := ⟨"SliceVotingModel", "vote", "(II)Z"⟩
abbrev cM_stepCommit : ByteArray := prog_5_method_24_code
def yM_stepCommit : MethodName := ⟨"SliceVotingModel", "stepCommit", "(I)Z"⟩
abbrev cM_settle : ByteArray := prog_5_method_25_code
def yM_settle : MethodName := ⟨"SliceVotingModel", "settle", "(I)V"⟩
abbrev cM_corrupt : ByteArray := prog_5_method_26_code
def yM_corrupt : MethodName := ⟨"SliceVotingModel", "corrupt", "(I)Z"⟩
abbrev cM_choice : ByteArray := prog_5_method_27_code
def yM_choice : MethodName := ⟨"SliceVotingModel", "choice", "(II)I"⟩
abbrev cM_propose : ByteArray := prog_5_method_28_code
def yM_propose : MethodName := ⟨"SliceVotingModel", "propose", "(III)I"⟩
abbrev cM_deliver : ByteArray := prog_5_method_29_code
def yM_deliver : MethodName := ⟨"SliceVotingModel", "deliver", "(II)Z"⟩
abbrev cM_say : ByteArray := prog_5_method_30_code
def yM_say : MethodName := ⟨"SliceVotingModel", "say", "(IIII)Z"⟩
abbrev cM_voted : ByteArray := prog_5_method_31_code
def yM_voted : MethodName := ⟨"SliceVotingModel", "voted", "(I)I"⟩
abbrev cM_accepted : ByteArray := prog_5_method_32_code
def yM_accepted : MethodName := ⟨"SliceVotingModel", "accepted", "(I)I"⟩
abbrev cM_confirmed : ByteArray := prog_5_method_33_code
def yM_confirmed : MethodName := ⟨"SliceVotingModel", "confirmed", "(I)I"⟩
abbrev cM_counter : ByteArray := prog_5_method_34_code
def yM_counter : MethodName := ⟨"SliceVotingModel", "counter", "(I)I"⟩
abbrev cM_value : ByteArray := prog_5_method_35_code
def yM_value : MethodName := ⟨"SliceVotingModel", "value", "(I)I"⟩
abbrev cM_decided : ByteArray := prog_5_method_36_code
def yM_decided : MethodName := ⟨"SliceVotingModel", "decided", "(I)I"⟩
abbrev cM_known : ByteArray := prog_5_method_37_code
def yM_known : MethodName := ⟨"SliceVotingModel", "known", "(IIZ)I"⟩
abbrev cN_init : ByteArray := prog_2_method_1_code
def yN_init : MethodName := ⟨"SliceVoting$Node", "<init>", "(II)V"⟩
abbrev cQ_init : ByteArray := prog_3_method_1_code
def yQ_init : MethodName := ⟨"SliceVoting$Quota", "<init>", "(LSliceVoting$Node;II)V"⟩
abbrev cL_cell : ByteArray := method_2_code
def yL_cell : MethodName := ⟨"SliceVotingLaw", "cell", "([II)I"⟩
abbrev cL_law : ByteArray := code
def yL_law : MethodName := ⟨"SliceVotingLaw", "law", "([I)Z"⟩
abbrev cJ_bitCount : ByteArray := prog_6_method_49_code
def yJ_bitCount : MethodName := ⟨"java/lang/Integer", "bitCount", "(I)I"⟩
end
section
theorem dS_init_0 : decode cS_init 0 = .ok (.aload_n 0, 1) := by decide +kernel
theorem dS_init_1 : decode cS_init 1 = .ok (.invokespecial 3, 3) := by decide +kernel
theorem dS_init_4 : decode cS_init 4 = .ok (.iconst 1, 1) := by decide +kernel
theorem dS_init_5 : decode cS_init 5 = .ok (.bipush 6, 2) := by decide +kernel
theorem dS_init_7 : decode cS_init 7 = .ok (.iload_n 1, 1) := by decide +kernel
theorem dS_init_8 : decode cS_init 8 = .ok (.invokestatic 9, 3) := by decide +kernel
theorem dS_init_11 : decode cS_init 11 = .ok (.invokestatic 15, 3) := by decide +kernel
theorem dS_init_14 : decode cS_init 14 = .ok (.istore_n 2, 1) := by decide +kernel
theorem dS_init_15 : decode cS_init 15 = .ok (.aload_n 0, 1) := by decide +kernel
theorem dS_init_16 : decode cS_init 16 = .ok (.iload_n 2, 1) := by decide +kernel
theorem dS_init_17 : decode cS_init 17 = .ok (.anewarray 18, 3) := by decide +kernel
theorem dS_init_20 : decode cS_init 20 = .ok (.putfield 20, 3) := by decide +kernel
theorem dS_init_23 : decode cS_init 23 = .ok (.iconst 0, 1) := by decide +kernel
theorem dS_init_24 : decode cS_init 24 = .ok (.istore_n 3, 1) := by decide +kernel
theorem dS_init_25 : decode cS_init 25 = .ok (.iload_n 3, 1) := by decide +kernel
theorem dS_init_26 : decode cS_init 26 = .ok (.iload_n 2, 1) := by decide +kernel
theorem dS_init_27 : decode cS_init 27 = .ok (.if_icmp .ge 24, 3) := by decide +kernel
theorem dS_init_30 : decode cS_init 30 = .ok (.aload_n 0, 1) := by decide +kernel
theorem dS_init_31 : decode cS_init 31 = .ok (.getfield 20, 3) := by decide +kernel
theorem dS_init_34 : decode cS_init 34 = .ok (.iload_n 3, 1) := by decide +kernel
theorem dS_init_35 : decode cS_init 35 = .ok (.new 18, 3) := by decide +kernel
theorem dS_init_38 : decode cS_init 38 = .ok (.dup, 1) := by decide +kernel
theorem dS_init_39 : decode cS_init 39 = .ok (.iload_n 3, 1) := by decide +kernel
theorem dS_init_40 : decode cS_init 40 = .ok (.iload_n 2, 1) := by decide +kernel
theorem dS_init_41 : decode cS_init 41 = .ok (.invokespecial 24, 3) := by decide +kernel
theorem dS_init_44 : decode cS_init 44 = .ok (.aastore, 1) := by decide +kernel
theorem dS_init_45 : decode cS_init 45 = .ok (.iinc 3 1, 3) := by decide +kernel
theorem dS_init_48 : decode cS_init 48 = .ok (.goto (-23), 3) := by decide +kernel
theorem dS_init_51 : decode cS_init 51 = .ok (.aload_n 0, 1) := by decide +kernel
theorem dS_init_52 : decode cS_init 52 = .ok (.iconst 1, 1) := by decide +kernel
theorem dS_init_53 : decode cS_init 53 = .ok (.iload_n 2, 1) := by decide +kernel
theorem dS_init_54 : decode cS_init 54 = .ok (.ishl, 1) := by decide +kernel
theorem dS_init_55 : decode cS_init 55 = .ok (.iconst 1, 1) := by decide +kernel
theorem dS_init_56 : decode cS_init 56 = .ok (.isub, 1) := by decide +kernel
theorem dS_init_57 : decode cS_init 57 = .ok (.putfield 27, 3) := by decide +kernel
theorem dS_init_60 : decode cS_init 60 = .ok (.aload_n 0, 1) := by decide +kernel
theorem dS_init_61 : decode cS_init 61 = .ok (.iload_n 2, 1) := by decide +kernel
theorem dS_init_62 : decode cS_init 62 = .ok (.iconst 4, 1) := by decide +kernel
theorem dS_init_63 : decode cS_init 63 = .ok (.imul, 1) := by decide +kernel
theorem dS_init_64 : decode cS_init 64 = .ok (.anewarray 31, 3) := by decide +kernel
theorem dS_init_67 : decode cS_init 67 = .ok (.putfield 33, 3) := by decide +kernel
theorem dS_init_70 : decode cS_init 70 = .ok (.aload_n 0, 1) := by decide +kernel
theorem dS_init_71 : decode cS_init 71 = .ok (.iconst 0, 1) := by decide +kernel
theorem dS_init_72 : decode cS_init 72 = .ok (.putfield 37, 3) := by decide +kernel
theorem dS_init_75 : decode cS_init 75 = .ok (.aload_n 0, 1) := by decide +kernel
theorem dS_init_76 : decode cS_init 76 = .ok (.aload_n 0, 1) := by decide +kernel
theorem dS_init_77 : decode cS_init 77 = .ok (.getfield 27, 3) := by decide +kernel
theorem dS_init_80 : decode cS_init 80 = .ok (.putfield 40, 3) := by decide +kernel
theorem dS_init_83 : decode cS_init 83 = .ok (.aload_n 0, 1) := by decide +kernel
theorem dS_init_84 : decode cS_init 84 = .ok (.iconst 0, 1) := by decide +kernel
theorem dS_init_85 : decode cS_init 85 = .ok (.putfield 43, 3) := by decide +kernel
theorem dS_init_88 : decode cS_init 88 = .ok (.return_, 1) := by decide +kernel
theorem dS_quota_0 : decode cS_quota 0 = .ok (.aload_n 0, 1) := by decide +kernel
theorem dS_quota_1 : decode cS_quota 1 = .ok (.getfield 43, 3) := by decide +kernel
theorem dS_quota_4 : decode cS_quota 4 = .ok (.ifCond .ne 22, 3) := by decide +kernel
theorem dS_quota_7 : decode cS_quota 7 = .ok (.aload_n 0, 1) := by decide +kernel
theorem dS_quota_8 : decode cS_quota 8 = .ok (.iload_n 1, 1) := by decide +kernel
theorem dS_quota_9 : decode cS_quota 9 = .ok (.invokevirtual 47, 3) := by decide +kernel
theorem dS_quota_12 : decode cS_quota 12 = .ok (.ifCond .eq 14, 3) := by decide +kernel
theorem dS_quota_15 : decode cS_quota 15 = .ok (.iload_n 3, 1) := by decide +kernel
theorem dS_quota_16 : decode cS_quota 16 = .ok (.iconst 1, 1) := by decide +kernel
theorem dS_quota_17 : decode cS_quota 17 = .ok (.if_icmp .lt 9, 3) := by decide +kernel
theorem dS_quota_20 : decode cS_quota 20 = .ok (.iload_n 3, 1) := by decide +kernel
theorem dS_quota_21 : decode cS_quota 21 = .ok (.bipush 9, 2) := by decide +kernel
theorem dS_quota_23 : decode cS_quota 23 = .ok (.if_icmp .le 5, 3) := by decide +kernel
theorem dS_quota_26 : decode cS_quota 26 = .ok (.iconst (-1), 1) := by decide +kernel
theorem dS_quota_27 : decode cS_quota 27 = .ok (.ireturn, 1) := by decide +kernel
theorem dS_quota_28 : decode cS_quota 28 = .ok (.aload_n 0, 1) := by decide +kernel
theorem dS_quota_29 : decode cS_quota 29 = .ok (.getfield 20, 3) := by decide +kernel
theorem dS_quota_32 : decode cS_quota 32 = .ok (.iload_n 1, 1) := by decide +kernel
theorem dS_quota_33 : decode cS_quota 33 = .ok (.aaload, 1) := by decide +kernel
theorem dS_quota_34 : decode cS_quota 34 = .ok (.astore 4, 2) := by decide +kernel
theorem dS_quota_36 : decode cS_quota 36 = .ok (.aload 4, 2) := by decide +kernel
theorem dS_quota_38 : decode cS_quota 38 = .ok (.getfield 51, 3) := by decide +kernel
theorem dS_quota_41 : decode cS_quota 41 = .ok (.iconst 4, 1) := by decide +kernel
theorem dS_quota_42 : decode cS_quota 42 = .ok (.if_icmp .lt 5, 3) := by decide +kernel
theorem dS_quota_45 : decode cS_quota 45 = .ok (.iconst (-1), 1) := by decide +kernel
theorem dS_quota_46 : decode cS_quota 46 = .ok (.ireturn, 1) := by decide +kernel
theorem dS_quota_47 : decode cS_quota 47 = .ok (.iload_n 2, 1) := by decide +kernel
theorem dS_quota_48 : decode cS_quota 48 = .ok (.iconst (-1), 1) := by decide +kernel
theorem dS_quota_49 : decode cS_quota 49 = .ok (.if_icmp .ne 13, 3) := by decide +kernel
theorem dS_quota_52 : decode cS_quota 52 = .ok (.aload_n 0, 1) := by decide +kernel
theorem dS_quota_53 : decode cS_quota 53 = .ok (.aload 4, 2) := by decide +kernel
theorem dS_quota_55 : decode cS_quota 55 = .ok (.iload_n 3, 1) := by decide +kernel
theorem dS_quota_56 : decode cS_quota 56 = .ok (.invokevirtual 52, 3) := by decide +kernel
theorem dS_quota_59 : decode cS_quota 59 = .ok (.goto 11, 3) := by decide +kernel
theorem dS_quota_62 : decode cS_quota 62 = .ok (.aload_n 0, 1) := by decide +kernel
theorem dS_quota_63 : decode cS_quota 63 = .ok (.aload 4, 2) := by decide +kernel
theorem dS_quota_65 : decode cS_quota 65 = .ok (.iload_n 2, 1) := by decide +kernel
theorem dS_quota_66 : decode cS_quota 66 = .ok (.iload_n 3, 1) := by decide +kernel
theorem dS_quota_67 : decode cS_quota 67 = .ok (.invokevirtual 56, 3) := by decide +kernel
theorem dS_quota_70 : decode cS_quota 70 = .ok (.ireturn, 1) := by decide +kernel
theorem dS_member_0 : decode cS_member 0 = .ok (.aload_n 0, 1) := by decide +kernel
theorem dS_member_1 : decode cS_member 1 = .ok (.getfield 43, 3) := by decide +kernel
theorem dS_member_4 : decode cS_member 4 = .ok (.ifCond .ne 35, 3) := by decide +kernel
theorem dS_member_7 : decode cS_member 7 = .ok (.aload_n 0, 1) := by decide +kernel
theorem dS_member_8 : decode cS_member 8 = .ok (.iload_n 1, 1) := by decide +kernel
theorem dS_member_9 : decode cS_member 9 = .ok (.invokevirtual 60, 3) := by decide +kernel
theorem dS_member_12 : decode cS_member 12 = .ok (.ifCond .eq 27, 3) := by decide +kernel
theorem dS_member_15 : decode cS_member 15 = .ok (.aload_n 0, 1) := by decide +kernel
theorem dS_member_16 : decode cS_member 16 = .ok (.iload_n 2, 1) := by decide +kernel
theorem dS_member_17 : decode cS_member 17 = .ok (.invokevirtual 47, 3) := by decide +kernel
theorem dS_member_20 : decode cS_member 20 = .ok (.ifCond .eq 19, 3) := by decide +kernel
theorem dS_member_23 : decode cS_member 23 = .ok (.aload_n 0, 1) := by decide +kernel
theorem dS_member_24 : decode cS_member 24 = .ok (.getfield 33, 3) := by decide +kernel
theorem dS_member_27 : decode cS_member 27 = .ok (.iload_n 1, 1) := by decide +kernel
theorem dS_member_28 : decode cS_member 28 = .ok (.aaload, 1) := by decide +kernel
theorem dS_member_29 : decode cS_member 29 = .ok (.getfield 63, 3) := by decide +kernel
theorem dS_member_32 : decode cS_member 32 = .ok (.iload_n 2, 1) := by decide +kernel
theorem dS_member_33 : decode cS_member 33 = .ok (.invokestatic 66, 3) := by decide +kernel
theorem dS_member_36 : decode cS_member 36 = .ok (.ifCond .eq 5, 3) := by decide +kernel
theorem dS_member_39 : decode cS_member 39 = .ok (.iconst 0, 1) := by decide +kernel
theorem dS_member_40 : decode cS_member 40 = .ok (.ireturn, 1) := by decide +kernel
theorem dS_member_41 : decode cS_member 41 = .ok (.aload_n 0, 1) := by decide +kernel
theorem dS_member_42 : decode cS_member 42 = .ok (.getfield 33, 3) := by decide +kernel
theorem dS_member_45 : decode cS_member 45 = .ok (.iload_n 1, 1) := by decide +kernel
theorem dS_member_46 : decode cS_member 46 = .ok (.aaload, 1) := by decide +kernel
theorem dS_member_47 : decode cS_member 47 = .ok (.dup, 1) := by decide +kernel
theorem dS_member_48 : decode cS_member 48 = .ok (.getfield 63, 3) := by decide +kernel
theorem dS_member_51 : decode cS_member 51 = .ok (.iconst 1, 1) := by decide +kernel
theorem dS_member_52 : decode cS_member 52 = .ok (.iload_n 2, 1) := by decide +kernel
theorem dS_member_53 : decode cS_member 53 = .ok (.ishl, 1) := by decide +kernel
theorem dS_member_54 : decode cS_member 54 = .ok (.ior, 1) := by decide +kernel
theorem dS_member_55 : decode cS_member 55 = .ok (.putfield 63, 3) := by decide +kernel
theorem dS_member_58 : decode cS_member 58 = .ok (.iconst 1, 1) := by decide +kernel
theorem dS_member_59 : decode cS_member 59 = .ok (.ireturn, 1) := by decide +kernel
theorem dS_corrupt_0 : decode cS_corrupt 0 = .ok (.aload_n 0, 1) := by decide +kernel
theorem dS_corrupt_1 : decode cS_corrupt 1 = .ok (.iload_n 1, 1) := by decide +kernel
theorem dS_corrupt_2 : decode cS_corrupt 2 = .ok (.invokevirtual 70, 3) := by decide +kernel
theorem dS_corrupt_5 : decode cS_corrupt 5 = .ok (.ifCond .ne 5, 3) := by decide +kernel
theorem dS_corrupt_8 : decode cS_corrupt 8 = .ok (.iconst 0, 1) := by decide +kernel
theorem dS_corrupt_9 : decode cS_corrupt 9 = .ok (.ireturn, 1) := by decide +kernel
theorem dS_corrupt_10 : decode cS_corrupt 10 = .ok (.aload_n 0, 1) := by decide +kernel
theorem dS_corrupt_11 : decode cS_corrupt 11 = .ok (.dup, 1) := by decide +kernel
theorem dS_corrupt_12 : decode cS_corrupt 12 = .ok (.getfield 40, 3) := by decide +kernel
theorem dS_corrupt_15 : decode cS_corrupt 15 = .ok (.iconst 1, 1) := by decide +kernel
theorem dS_corrupt_16 : decode cS_corrupt 16 = .ok (.iload_n 1, 1) := by decide +kernel
theorem dS_corrupt_17 : decode cS_corrupt 17 = .ok (.ishl, 1) := by decide +kernel
theorem dS_corrupt_18 : decode cS_corrupt 18 = .ok (.iconst (-1), 1) := by decide +kernel
theorem dS_corrupt_19 : decode cS_corrupt 19 = .ok (.ixor, 1) := by decide +kernel
theorem dS_corrupt_20 : decode cS_corrupt 20 = .ok (.iand, 1) := by decide +kernel
theorem dS_corrupt_21 : decode cS_corrupt 21 = .ok (.putfield 40, 3) := by decide +kernel
theorem dS_corrupt_24 : decode cS_corrupt 24 = .ok (.iconst 1, 1) := by decide +kernel
theorem dS_corrupt_25 : decode cS_corrupt 25 = .ok (.ireturn, 1) := by decide +kernel
theorem dS_propose_0 : decode cS_propose 0 = .ok (.aload_n 0, 1) := by decide +kernel
theorem dS_propose_1 : decode cS_propose 1 = .ok (.iload_n 1, 1) := by decide +kernel
theorem dS_propose_2 : decode cS_propose 2 = .ok (.invokevirtual 70, 3) := by decide +kernel
theorem dS_propose_5 : decode cS_propose 5 = .ok (.ifCond .eq 17, 3) := by decide +kernel
theorem dS_propose_8 : decode cS_propose 8 = .ok (.iload_n 2, 1) := by decide +kernel
theorem dS_propose_9 : decode cS_propose 9 = .ok (.iconst 4, 1) := by decide +kernel
theorem dS_propose_10 : decode cS_propose 10 = .ok (.if_icmp .gt 12, 3) := by decide +kernel
theorem dS_propose_13 : decode cS_propose 13 = .ok (.iload_n 3, 1) := by decide +kernel
theorem dS_propose_14 : decode cS_propose 14 = .ok (.ifCond .lt 8, 3) := by decide +kernel
theorem dS_propose_17 : decode cS_propose 17 = .ok (.iload_n 3, 1) := by decide +kernel
theorem dS_propose_18 : decode cS_propose 18 = .ok (.iconst 3, 1) := by decide +kernel
theorem dS_propose_19 : decode cS_propose 19 = .ok (.if_icmp .lt 5, 3) := by decide +kernel
theorem dS_propose_22 : decode cS_propose 22 = .ok (.iconst (-1), 1) := by decide +kernel
theorem dS_propose_23 : decode cS_propose 23 = .ok (.ireturn, 1) := by decide +kernel
theorem dS_propose_24 : decode cS_propose 24 = .ok (.aload_n 0, 1) := by decide +kernel
theorem dS_propose_25 : decode cS_propose 25 = .ok (.getfield 20, 3) := by decide +kernel
theorem dS_propose_28 : decode cS_propose 28 = .ok (.iload_n 1, 1) := by decide +kernel
theorem dS_propose_29 : decode cS_propose 29 = .ok (.aaload, 1) := by decide +kernel
theorem dS_propose_30 : decode cS_propose 30 = .ok (.astore 4, 2) := by decide +kernel
theorem dS_propose_32 : decode cS_propose 32 = .ok (.iload_n 2, 1) := by decide +kernel
theorem dS_propose_33 : decode cS_propose 33 = .ok (.aload 4, 2) := by decide +kernel
theorem dS_propose_35 : decode cS_propose 35 = .ok (.getfield 73, 3) := by decide +kernel
theorem dS_propose_38 : decode cS_propose 38 = .ok (.if_icmp .gt 5, 3) := by decide +kernel
theorem dS_propose_41 : decode cS_propose 41 = .ok (.iconst (-1), 1) := by decide +kernel
theorem dS_propose_42 : decode cS_propose 42 = .ok (.ireturn, 1) := by decide +kernel
theorem dS_propose_43 : decode cS_propose 43 = .ok (.aload_n 0, 1) := by decide +kernel
theorem dS_propose_44 : decode cS_propose 44 = .ok (.iconst 1, 1) := by decide +kernel
theorem dS_propose_45 : decode cS_propose 45 = .ok (.putfield 43, 3) := by decide +kernel
theorem dS_propose_48 : decode cS_propose 48 = .ok (.aload 4, 2) := by decide +kernel
theorem dS_propose_50 : decode cS_propose 50 = .ok (.aload 4, 2) := by decide +kernel
theorem dS_propose_52 : decode cS_propose 52 = .ok (.iload_n 3, 1) := by decide +kernel
theorem dS_propose_53 : decode cS_propose 53 = .ok (.invokestatic 76, 3) := by decide +kernel
theorem dS_propose_56 : decode cS_propose 56 = .ok (.putfield 79, 3) := by decide +kernel
theorem dS_propose_59 : decode cS_propose 59 = .ok (.aload 4, 2) := by decide +kernel
theorem dS_propose_61 : decode cS_propose 61 = .ok (.iload_n 2, 1) := by decide +kernel
theorem dS_propose_62 : decode cS_propose 62 = .ok (.putfield 73, 3) := by decide +kernel
theorem dS_propose_65 : decode cS_propose 65 = .ok (.iconst 1, 1) := by decide +kernel
theorem dS_propose_66 : decode cS_propose 66 = .ok (.istore 5, 2) := by decide +kernel
theorem dS_propose_68 : decode cS_propose 68 = .ok (.iload 5, 2) := by decide +kernel
theorem dS_propose_70 : decode cS_propose 70 = .ok (.iload_n 2, 1) := by decide +kernel
theorem dS_propose_71 : decode cS_propose 71 = .ok (.if_icmp .gt 25, 3) := by decide +kernel
theorem dS_propose_74 : decode cS_propose 74 = .ok (.aload 4, 2) := by decide +kernel
theorem dS_propose_76 : decode cS_propose 76 = .ok (.iload 5, 2) := by decide +kernel
theorem dS_propose_78 : decode cS_propose 78 = .ok (.aload 4, 2) := by decide +kernel
theorem dS_propose_80 : decode cS_propose 80 = .ok (.getfield 79, 3) := by decide +kernel
theorem dS_propose_83 : decode cS_propose 83 = .ok (.invokestatic 82, 3) := by decide +kernel
theorem dS_propose_86 : decode cS_propose 86 = .ok (.invokestatic 85, 3) := by decide +kernel
theorem dS_propose_89 : decode cS_propose 89 = .ok (.pop, 1) := by decide +kernel
theorem dS_propose_90 : decode cS_propose 90 = .ok (.iinc 5 1, 3) := by decide +kernel
theorem dS_propose_93 : decode cS_propose 93 = .ok (.goto (-25), 3) := by decide +kernel
theorem dS_propose_96 : decode cS_propose 96 = .ok (.aload_n 0, 1) := by decide +kernel
theorem dS_propose_97 : decode cS_propose 97 = .ok (.aload 4, 2) := by decide +kernel
theorem dS_propose_99 : decode cS_propose 99 = .ok (.invokevirtual 89, 3) := by decide +kernel
theorem dS_propose_102 : decode cS_propose 102 = .ok (.aload 4, 2) := by decide +kernel
theorem dS_propose_104 : decode cS_propose 104 = .ok (.getfield 79, 3) := by decide +kernel
theorem dS_propose_107 : decode cS_propose 107 = .ok (.ireturn, 1) := by decide +kernel
theorem dS_deliver_0 : decode cS_deliver 0 = .ok (.aload_n 0, 1) := by decide +kernel
theorem dS_deliver_1 : decode cS_deliver 1 = .ok (.iload_n 1, 1) := by decide +kernel
theorem dS_deliver_2 : decode cS_deliver 2 = .ok (.invokevirtual 70, 3) := by decide +kernel
theorem dS_deliver_5 : decode cS_deliver 5 = .ok (.ifCond .eq 16, 3) := by decide +kernel
theorem dS_deliver_8 : decode cS_deliver 8 = .ok (.aload_n 0, 1) := by decide +kernel
theorem dS_deliver_9 : decode cS_deliver 9 = .ok (.iload_n 2, 1) := by decide +kernel
theorem dS_deliver_10 : decode cS_deliver 10 = .ok (.invokevirtual 70, 3) := by decide +kernel
theorem dS_deliver_13 : decode cS_deliver 13 = .ok (.ifCond .eq 8, 3) := by decide +kernel
theorem dS_deliver_16 : decode cS_deliver 16 = .ok (.iload_n 1, 1) := by decide +kernel
theorem dS_deliver_17 : decode cS_deliver 17 = .ok (.iload_n 2, 1) := by decide +kernel
theorem dS_deliver_18 : decode cS_deliver 18 = .ok (.if_icmp .ne 5, 3) := by decide +kernel
theorem dS_deliver_21 : decode cS_deliver 21 = .ok (.iconst 0, 1) := by decide +kernel
theorem dS_deliver_22 : decode cS_deliver 22 = .ok (.ireturn, 1) := by decide +kernel
theorem dS_deliver_23 : decode cS_deliver 23 = .ok (.aload_n 0, 1) := by decide +kernel
theorem dS_deliver_24 : decode cS_deliver 24 = .ok (.aload_n 0, 1) := by decide +kernel
theorem dS_deliver_25 : decode cS_deliver 25 = .ok (.getfield 20, 3) := by decide +kernel
theorem dS_deliver_28 : decode cS_deliver 28 = .ok (.iload_n 2, 1) := by decide +kernel
theorem dS_deliver_29 : decode cS_deliver 29 = .ok (.aaload, 1) := by decide +kernel
theorem dS_deliver_30 : decode cS_deliver 30 = .ok (.iload_n 1, 1) := by decide +kernel
theorem dS_deliver_31 : decode cS_deliver 31 = .ok (.aload_n 0, 1) := by decide +kernel
theorem dS_deliver_32 : decode cS_deliver 32 = .ok (.getfield 20, 3) := by decide +kernel
theorem dS_deliver_35 : decode cS_deliver 35 = .ok (.iload_n 1, 1) := by decide +kernel
theorem dS_deliver_36 : decode cS_deliver 36 = .ok (.aaload, 1) := by decide +kernel
theorem dS_deliver_37 : decode cS_deliver 37 = .ok (.getfield 93, 3) := by decide +kernel
theorem dS_deliver_40 : decode cS_deliver 40 = .ok (.iload_n 1, 1) := by decide +kernel
theorem dS_deliver_41 : decode cS_deliver 41 = .ok (.iaload, 1) := by decide +kernel
theorem dS_deliver_42 : decode cS_deliver 42 = .ok (.aload_n 0, 1) := by decide +kernel
theorem dS_deliver_43 : decode cS_deliver 43 = .ok (.getfield 20, 3) := by decide +kernel
theorem dS_deliver_46 : decode cS_deliver 46 = .ok (.iload_n 1, 1) := by decide +kernel
theorem dS_deliver_47 : decode cS_deliver 47 = .ok (.aaload, 1) := by decide +kernel
theorem dS_deliver_48 : decode cS_deliver 48 = .ok (.getfield 97, 3) := by decide +kernel
theorem dS_deliver_51 : decode cS_deliver 51 = .ok (.iload_n 1, 1) := by decide +kernel
theorem dS_deliver_52 : decode cS_deliver 52 = .ok (.iaload, 1) := by decide +kernel
theorem dS_deliver_53 : decode cS_deliver 53 = .ok (.invokevirtual 100, 3) := by decide +kernel
theorem dS_deliver_56 : decode cS_deliver 56 = .ok (.aload_n 0, 1) := by decide +kernel
theorem dS_deliver_57 : decode cS_deliver 57 = .ok (.aload_n 0, 1) := by decide +kernel
theorem dS_deliver_58 : decode cS_deliver 58 = .ok (.getfield 20, 3) := by decide +kernel
theorem dS_deliver_61 : decode cS_deliver 61 = .ok (.iload_n 2, 1) := by decide +kernel
theorem dS_deliver_62 : decode cS_deliver 62 = .ok (.aaload, 1) := by decide +kernel
theorem dS_deliver_63 : decode cS_deliver 63 = .ok (.invokevirtual 89, 3) := by decide +kernel
theorem dS_deliver_66 : decode cS_deliver 66 = .ok (.iconst 1, 1) := by decide +kernel
theorem dS_deliver_67 : decode cS_deliver 67 = .ok (.ireturn, 1) := by decide +kernel
theorem dS_say_0 : decode cS_say 0 = .ok (.aload_n 0, 1) := by decide +kernel
theorem dS_say_1 : decode cS_say 1 = .ok (.iload_n 1, 1) := by decide +kernel
theorem dS_say_2 : decode cS_say 2 = .ok (.invokevirtual 47, 3) := by decide +kernel
theorem dS_say_5 : decode cS_say 5 = .ok (.ifCond .eq 19, 3) := by decide +kernel
theorem dS_say_8 : decode cS_say 8 = .ok (.aload_n 0, 1) := by decide +kernel
theorem dS_say_9 : decode cS_say 9 = .ok (.iload_n 1, 1) := by decide +kernel
theorem dS_say_10 : decode cS_say 10 = .ok (.invokevirtual 70, 3) := by decide +kernel
theorem dS_say_13 : decode cS_say 13 = .ok (.ifCond .ne 11, 3) := by decide +kernel
theorem dS_say_16 : decode cS_say 16 = .ok (.aload_n 0, 1) := by decide +kernel
theorem dS_say_17 : decode cS_say 17 = .ok (.iload_n 2, 1) := by decide +kernel
theorem dS_say_18 : decode cS_say 18 = .ok (.invokevirtual 70, 3) := by decide +kernel
theorem dS_say_21 : decode cS_say 21 = .ok (.ifCond .ne 5, 3) := by decide +kernel
theorem dS_say_24 : decode cS_say 24 = .ok (.iconst 0, 1) := by decide +kernel
theorem dS_say_25 : decode cS_say 25 = .ok (.ireturn, 1) := by decide +kernel
theorem dS_say_26 : decode cS_say 26 = .ok (.aload_n 0, 1) := by decide +kernel
theorem dS_say_27 : decode cS_say 27 = .ok (.aload_n 0, 1) := by decide +kernel
theorem dS_say_28 : decode cS_say 28 = .ok (.getfield 20, 3) := by decide +kernel
theorem dS_say_31 : decode cS_say 31 = .ok (.iload_n 2, 1) := by decide +kernel
theorem dS_say_32 : decode cS_say 32 = .ok (.aaload, 1) := by decide +kernel
theorem dS_say_33 : decode cS_say 33 = .ok (.iload_n 1, 1) := by decide +kernel
theorem dS_say_34 : decode cS_say 34 = .ok (.iload_n 3, 1) := by decide +kernel
theorem dS_say_35 : decode cS_say 35 = .ok (.ldc 104, 2) := by decide +kernel
theorem dS_say_37 : decode cS_say 37 = .ok (.iand, 1) := by decide +kernel
theorem dS_say_38 : decode cS_say 38 = .ok (.iload 4, 2) := by decide +kernel
theorem dS_say_40 : decode cS_say 40 = .ok (.ldc 104, 2) := by decide +kernel
theorem dS_say_42 : decode cS_say 42 = .ok (.iand, 1) := by decide +kernel
theorem dS_say_43 : decode cS_say 43 = .ok (.invokevirtual 100, 3) := by decide +kernel
theorem dS_say_46 : decode cS_say 46 = .ok (.aload_n 0, 1) := by decide +kernel
theorem dS_say_47 : decode cS_say 47 = .ok (.aload_n 0, 1) := by decide +kernel
theorem dS_say_48 : decode cS_say 48 = .ok (.getfield 20, 3) := by decide +kernel
theorem dS_say_51 : decode cS_say 51 = .ok (.iload_n 2, 1) := by decide +kernel
theorem dS_say_52 : decode cS_say 52 = .ok (.aaload, 1) := by decide +kernel
theorem dS_say_53 : decode cS_say 53 = .ok (.invokevirtual 89, 3) := by decide +kernel
theorem dS_say_56 : decode cS_say 56 = .ok (.iconst 1, 1) := by decide +kernel
theorem dS_say_57 : decode cS_say 57 = .ok (.ireturn, 1) := by decide +kernel
theorem dS_voted_0 : decode cS_voted 0 = .ok (.aload_n 0, 1) := by decide +kernel
theorem dS_voted_1 : decode cS_voted 1 = .ok (.iload_n 1, 1) := by decide +kernel
theorem dS_voted_2 : decode cS_voted 2 = .ok (.iload_n 1, 1) := by decide +kernel
theorem dS_voted_3 : decode cS_voted 3 = .ok (.iconst 0, 1) := by decide +kernel
theorem dS_voted_4 : decode cS_voted 4 = .ok (.invokevirtual 105, 3) := by decide +kernel
theorem dS_voted_7 : decode cS_voted 7 = .ok (.ireturn, 1) := by decide +kernel
theorem dS_accepted_0 : decode cS_accepted 0 = .ok (.aload_n 0, 1) := by decide +kernel
theorem dS_accepted_1 : decode cS_accepted 1 = .ok (.iload_n 1, 1) := by decide +kernel
theorem dS_accepted_2 : decode cS_accepted 2 = .ok (.iload_n 1, 1) := by decide +kernel
theorem dS_accepted_3 : decode cS_accepted 3 = .ok (.iconst 1, 1) := by decide +kernel
theorem dS_accepted_4 : decode cS_accepted 4 = .ok (.invokevirtual 105, 3) := by decide +kernel
theorem dS_accepted_7 : decode cS_accepted 7 = .ok (.ireturn, 1) := by decide +kernel
theorem dS_confirmed_0 : decode cS_confirmed 0 = .ok (.aload_n 0, 1) := by decide +kernel
theorem dS_confirmed_1 : decode cS_confirmed 1 = .ok (.iload_n 1, 1) := by decide +kernel
theorem dS_confirmed_2 : decode cS_confirmed 2 = .ok (.invokevirtual 47, 3) := by decide +kernel
theorem dS_confirmed_5 : decode cS_confirmed 5 = .ok (.ifCond .eq 15, 3) := by decide +kernel
theorem dS_confirmed_8 : decode cS_confirmed 8 = .ok (.aload_n 0, 1) := by decide +kernel
theorem dS_confirmed_9 : decode cS_confirmed 9 = .ok (.getfield 20, 3) := by decide +kernel
theorem dS_confirmed_12 : decode cS_confirmed 12 = .ok (.iload_n 1, 1) := by decide +kernel
theorem dS_confirmed_13 : decode cS_confirmed 13 = .ok (.aaload, 1) := by decide +kernel
theorem dS_confirmed_14 : decode cS_confirmed 14 = .ok (.getfield 109, 3) := by decide +kernel
theorem dS_confirmed_17 : decode cS_confirmed 17 = .ok (.goto 4, 3) := by decide +kernel
theorem dS_confirmed_20 : decode cS_confirmed 20 = .ok (.iconst 0, 1) := by decide +kernel
theorem dS_confirmed_21 : decode cS_confirmed 21 = .ok (.ireturn, 1) := by decide +kernel
theorem dS_counter_0 : decode cS_counter 0 = .ok (.aload_n 0, 1) := by decide +kernel
theorem dS_counter_1 : decode cS_counter 1 = .ok (.iload_n 1, 1) := by decide +kernel
theorem dS_counter_2 : decode cS_counter 2 = .ok (.invokevirtual 47, 3) := by decide +kernel
theorem dS_counter_5 : decode cS_counter 5 = .ok (.ifCond .eq 15, 3) := by decide +kernel
theorem dS_counter_8 : decode cS_counter 8 = .ok (.aload_n 0, 1) := by decide +kernel
theorem dS_counter_9 : decode cS_counter 9 = .ok (.getfield 20, 3) := by decide +kernel
theorem dS_counter_12 : decode cS_counter 12 = .ok (.iload_n 1, 1) := by decide +kernel
theorem dS_counter_13 : decode cS_counter 13 = .ok (.aaload, 1) := by decide +kernel
theorem dS_counter_14 : decode cS_counter 14 = .ok (.getfield 73, 3) := by decide +kernel
theorem dS_counter_17 : decode cS_counter 17 = .ok (.goto 4, 3) := by decide +kernel
theorem dS_counter_20 : decode cS_counter 20 = .ok (.iconst 0, 1) := by decide +kernel
theorem dS_counter_21 : decode cS_counter 21 = .ok (.ireturn, 1) := by decide +kernel
theorem dS_value_0 : decode cS_value 0 = .ok (.aload_n 0, 1) := by decide +kernel
theorem dS_value_1 : decode cS_value 1 = .ok (.iload_n 1, 1) := by decide +kernel
theorem dS_value_2 : decode cS_value 2 = .ok (.invokevirtual 47, 3) := by decide +kernel
theorem dS_value_5 : decode cS_value 5 = .ok (.ifCond .eq 15, 3) := by decide +kernel
theorem dS_value_8 : decode cS_value 8 = .ok (.aload_n 0, 1) := by decide +kernel
theorem dS_value_9 : decode cS_value 9 = .ok (.getfield 20, 3) := by decide +kernel
theorem dS_value_12 : decode cS_value 12 = .ok (.iload_n 1, 1) := by decide +kernel
theorem dS_value_13 : decode cS_value 13 = .ok (.aaload, 1) := by decide +kernel
theorem dS_value_14 : decode cS_value 14 = .ok (.getfield 79, 3) := by decide +kernel
theorem dS_value_17 : decode cS_value 17 = .ok (.goto 4, 3) := by decide +kernel
theorem dS_value_20 : decode cS_value 20 = .ok (.iconst 0, 1) := by decide +kernel
theorem dS_value_21 : decode cS_value 21 = .ok (.ireturn, 1) := by decide +kernel
theorem dS_decided_0 : decode cS_decided 0 = .ok (.aload_n 0, 1) := by decide +kernel
theorem dS_decided_1 : decode cS_decided 1 = .ok (.iload_n 1, 1) := by decide +kernel
theorem dS_decided_2 : decode cS_decided 2 = .ok (.invokevirtual 47, 3) := by decide +kernel
theorem dS_decided_5 : decode cS_decided 5 = .ok (.ifCond .eq 15, 3) := by decide +kernel
theorem dS_decided_8 : decode cS_decided 8 = .ok (.aload_n 0, 1) := by decide +kernel
theorem dS_decided_9 : decode cS_decided 9 = .ok (.getfield 20, 3) := by decide +kernel
theorem dS_decided_12 : decode cS_decided 12 = .ok (.iload_n 1, 1) := by decide +kernel
theorem dS_decided_13 : decode cS_decided 13 = .ok (.aaload, 1) := by decide +kernel
theorem dS_decided_14 : decode cS_decided 14 = .ok (.getfield 112, 3) := by decide +kernel
theorem dS_decided_17 : decode cS_decided 17 = .ok (.goto 4, 3) := by decide +kernel
theorem dS_decided_20 : decode cS_decided 20 = .ok (.iconst (-1), 1) := by decide +kernel
theorem dS_decided_21 : decode cS_decided 21 = .ok (.ireturn, 1) := by decide +kernel
theorem dS_known_0 : decode cS_known 0 = .ok (.aload_n 0, 1) := by decide +kernel
theorem dS_known_1 : decode cS_known 1 = .ok (.iload_n 1, 1) := by decide +kernel
theorem dS_known_2 : decode cS_known 2 = .ok (.invokevirtual 47, 3) := by decide +kernel
theorem dS_known_5 : decode cS_known 5 = .ok (.ifCond .eq 11, 3) := by decide +kernel
theorem dS_known_8 : decode cS_known 8 = .ok (.aload_n 0, 1) := by decide +kernel
theorem dS_known_9 : decode cS_known 9 = .ok (.iload_n 2, 1) := by decide +kernel
theorem dS_known_10 : decode cS_known 10 = .ok (.invokevirtual 47, 3) := by decide +kernel
theorem dS_known_13 : decode cS_known 13 = .ok (.ifCond .ne 5, 3) := by decide +kernel
theorem dS_known_16 : decode cS_known 16 = .ok (.iconst 0, 1) := by decide +kernel
theorem dS_known_17 : decode cS_known 17 = .ok (.ireturn, 1) := by decide +kernel
theorem dS_known_18 : decode cS_known 18 = .ok (.iload_n 3, 1) := by decide +kernel
theorem dS_known_19 : decode cS_known 19 = .ok (.ifCond .eq 17, 3) := by decide +kernel
theorem dS_known_22 : decode cS_known 22 = .ok (.aload_n 0, 1) := by decide +kernel
theorem dS_known_23 : decode cS_known 23 = .ok (.getfield 20, 3) := by decide +kernel
theorem dS_known_26 : decode cS_known 26 = .ok (.iload_n 1, 1) := by decide +kernel
theorem dS_known_27 : decode cS_known 27 = .ok (.aaload, 1) := by decide +kernel
theorem dS_known_28 : decode cS_known 28 = .ok (.getfield 97, 3) := by decide +kernel
theorem dS_known_31 : decode cS_known 31 = .ok (.iload_n 2, 1) := by decide +kernel
theorem dS_known_32 : decode cS_known 32 = .ok (.iaload, 1) := by decide +kernel
theorem dS_known_33 : decode cS_known 33 = .ok (.goto 14, 3) := by decide +kernel
theorem dS_known_36 : decode cS_known 36 = .ok (.aload_n 0, 1) := by decide +kernel
theorem dS_known_37 : decode cS_known 37 = .ok (.getfield 20, 3) := by decide +kernel
theorem dS_known_40 : decode cS_known 40 = .ok (.iload_n 1, 1) := by decide +kernel
theorem dS_known_41 : decode cS_known 41 = .ok (.aaload, 1) := by decide +kernel
theorem dS_known_42 : decode cS_known 42 = .ok (.getfield 93, 3) := by decide +kernel
theorem dS_known_45 : decode cS_known 45 = .ok (.iload_n 2, 1) := by decide +kernel
theorem dS_known_46 : decode cS_known 46 = .ok (.iaload, 1) := by decide +kernel
theorem dS_known_47 : decode cS_known 47 = .ok (.ireturn, 1) := by decide +kernel
theorem dS_quorum_0 : decode cS_quorum 0 = .ok (.aload_n 0, 1) := by decide +kernel
theorem dS_quorum_1 : decode cS_quorum 1 = .ok (.iload_n 1, 1) := by decide +kernel
theorem dS_quorum_2 : decode cS_quorum 2 = .ok (.invokevirtual 115, 3) := by decide +kernel
theorem dS_quorum_5 : decode cS_quorum 5 = .ok (.ifCond .eq 15, 3) := by decide +kernel
theorem dS_quorum_8 : decode cS_quorum 8 = .ok (.aload_n 0, 1) := by decide +kernel
theorem dS_quorum_9 : decode cS_quorum 9 = .ok (.iload_n 1, 1) := by decide +kernel
theorem dS_quorum_10 : decode cS_quorum 10 = .ok (.invokevirtual 118, 3) := by decide +kernel
theorem dS_quorum_13 : decode cS_quorum 13 = .ok (.ifCond .eq 7, 3) := by decide +kernel
theorem dS_quorum_16 : decode cS_quorum 16 = .ok (.iconst 1, 1) := by decide +kernel
theorem dS_quorum_17 : decode cS_quorum 17 = .ok (.goto 4, 3) := by decide +kernel
theorem dS_quorum_20 : decode cS_quorum 20 = .ok (.iconst 0, 1) := by decide +kernel
theorem dS_quorum_21 : decode cS_quorum 21 = .ok (.ireturn, 1) := by decide +kernel
theorem dS_largest_0 : decode cS_largest 0 = .ok (.aload_n 0, 1) := by decide +kernel
theorem dS_largest_1 : decode cS_largest 1 = .ok (.iload_n 1, 1) := by decide +kernel
theorem dS_largest_2 : decode cS_largest 2 = .ok (.invokevirtual 115, 3) := by decide +kernel
theorem dS_largest_5 : decode cS_largest 5 = .ok (.ifCond .eq 11, 3) := by decide +kernel
theorem dS_largest_8 : decode cS_largest 8 = .ok (.aload_n 0, 1) := by decide +kernel
theorem dS_largest_9 : decode cS_largest 9 = .ok (.iload_n 1, 1) := by decide +kernel
theorem dS_largest_10 : decode cS_largest 10 = .ok (.invokevirtual 121, 3) := by decide +kernel
theorem dS_largest_13 : decode cS_largest 13 = .ok (.goto 4, 3) := by decide +kernel
theorem dS_largest_16 : decode cS_largest 16 = .ok (.iconst (-1), 1) := by decide +kernel
theorem dS_largest_17 : decode cS_largest 17 = .ok (.ireturn, 1) := by decide +kernel
theorem dS_blocks_0 : decode cS_blocks 0 = .ok (.aload_n 0, 1) := by decide +kernel
theorem dS_blocks_1 : decode cS_blocks 1 = .ok (.iload_n 1, 1) := by decide +kernel
theorem dS_blocks_2 : decode cS_blocks 2 = .ok (.invokevirtual 115, 3) := by decide +kernel
theorem dS_blocks_5 : decode cS_blocks 5 = .ok (.ifCond .eq 29, 3) := by decide +kernel
theorem dS_blocks_8 : decode cS_blocks 8 = .ok (.aload_n 0, 1) := by decide +kernel
theorem dS_blocks_9 : decode cS_blocks 9 = .ok (.iload_n 2, 1) := by decide +kernel
theorem dS_blocks_10 : decode cS_blocks 10 = .ok (.invokevirtual 47, 3) := by decide +kernel
theorem dS_blocks_13 : decode cS_blocks 13 = .ok (.ifCond .eq 21, 3) := by decide +kernel
theorem dS_blocks_16 : decode cS_blocks 16 = .ok (.aload_n 0, 1) := by decide +kernel
theorem dS_blocks_17 : decode cS_blocks 17 = .ok (.aload_n 0, 1) := by decide +kernel
theorem dS_blocks_18 : decode cS_blocks 18 = .ok (.getfield 20, 3) := by decide +kernel
theorem dS_blocks_21 : decode cS_blocks 21 = .ok (.iload_n 2, 1) := by decide +kernel
theorem dS_blocks_22 : decode cS_blocks 22 = .ok (.aaload, 1) := by decide +kernel
theorem dS_blocks_23 : decode cS_blocks 23 = .ok (.iload_n 1, 1) := by decide +kernel
theorem dS_blocks_24 : decode cS_blocks 24 = .ok (.invokevirtual 125, 3) := by decide +kernel
theorem dS_blocks_27 : decode cS_blocks 27 = .ok (.ifCond .eq 7, 3) := by decide +kernel
theorem dS_blocks_30 : decode cS_blocks 30 = .ok (.iconst 1, 1) := by decide +kernel
theorem dS_blocks_31 : decode cS_blocks 31 = .ok (.goto 4, 3) := by decide +kernel
theorem dS_blocks_34 : decode cS_blocks 34 = .ok (.iconst 0, 1) := by decide +kernel
theorem dS_blocks_35 : decode cS_blocks 35 = .ok (.ireturn, 1) := by decide +kernel
theorem dS_intertwined_0 : decode cS_intertwined 0 = .ok (.aload_n 0, 1) := by decide +kernel
theorem dS_intertwined_1 : decode cS_intertwined 1 = .ok (.iload_n 1, 1) := by decide +kernel
theorem dS_intertwined_2 : decode cS_intertwined 2 = .ok (.invokevirtual 70, 3) := by decide +kernel
theorem dS_intertwined_5 : decode cS_intertwined 5 = .ok (.ifCond .eq 11, 3) := by decide +kernel
theorem dS_intertwined_8 : decode cS_intertwined 8 = .ok (.aload_n 0, 1) := by decide +kernel
theorem dS_intertwined_9 : decode cS_intertwined 9 = .ok (.iload_n 2, 1) := by decide +kernel
theorem dS_intertwined_10 : decode cS_intertwined 10 = .ok (.invokevirtual 70, 3) := by decide +kernel
theorem dS_intertwined_13 : decode cS_intertwined 13 = .ok (.ifCond .ne 5, 3) := by decide +kernel
theorem dS_intertwined_16 : decode cS_intertwined 16 = .ok (.iconst 0, 1) := by decide +kernel
theorem dS_intertwined_17 : decode cS_intertwined 17 = .ok (.ireturn, 1) := by decide +kernel
theorem dS_intertwined_18 : decode cS_intertwined 18 = .ok (.iconst 1, 1) := by decide +kernel
theorem dS_intertwined_19 : decode cS_intertwined 19 = .ok (.istore_n 3, 1) := by decide +kernel
theorem dS_intertwined_20 : decode cS_intertwined 20 = .ok (.iload_n 3, 1) := by decide +kernel
theorem dS_intertwined_21 : decode cS_intertwined 21 = .ok (.aload_n 0, 1) := by decide +kernel
theorem dS_intertwined_22 : decode cS_intertwined 22 = .ok (.getfield 27, 3) := by decide +kernel
theorem dS_intertwined_25 : decode cS_intertwined 25 = .ok (.if_icmp .gt 55, 3) := by decide +kernel
theorem dS_intertwined_28 : decode cS_intertwined 28 = .ok (.aload_n 0, 1) := by decide +kernel
theorem dS_intertwined_29 : decode cS_intertwined 29 = .ok (.getfield 27, 3) := by decide +kernel
theorem dS_intertwined_32 : decode cS_intertwined 32 = .ok (.iload_n 3, 1) := by decide +kernel
theorem dS_intertwined_33 : decode cS_intertwined 33 = .ok (.aload_n 0, 1) := by decide +kernel
theorem dS_intertwined_34 : decode cS_intertwined 34 = .ok (.getfield 40, 3) := by decide +kernel
theorem dS_intertwined_37 : decode cS_intertwined 37 = .ok (.iand, 1) := by decide +kernel
theorem dS_intertwined_38 : decode cS_intertwined 38 = .ok (.iconst (-1), 1) := by decide +kernel
theorem dS_intertwined_39 : decode cS_intertwined 39 = .ok (.ixor, 1) := by decide +kernel
theorem dS_intertwined_40 : decode cS_intertwined 40 = .ok (.iand, 1) := by decide +kernel
theorem dS_intertwined_41 : decode cS_intertwined 41 = .ok (.istore 4, 2) := by decide +kernel
theorem dS_intertwined_43 : decode cS_intertwined 43 = .ok (.iload_n 3, 1) := by decide +kernel
theorem dS_intertwined_44 : decode cS_intertwined 44 = .ok (.iload_n 1, 1) := by decide +kernel
theorem dS_intertwined_45 : decode cS_intertwined 45 = .ok (.invokestatic 66, 3) := by decide +kernel
theorem dS_intertwined_48 : decode cS_intertwined 48 = .ok (.ifCond .eq 26, 3) := by decide +kernel
theorem dS_intertwined_51 : decode cS_intertwined 51 = .ok (.aload_n 0, 1) := by decide +kernel
theorem dS_intertwined_52 : decode cS_intertwined 52 = .ok (.iload_n 3, 1) := by decide +kernel
theorem dS_intertwined_53 : decode cS_intertwined 53 = .ok (.invokevirtual 118, 3) := by decide +kernel
theorem dS_intertwined_56 : decode cS_intertwined 56 = .ok (.ifCond .eq 18, 3) := by decide +kernel
theorem dS_intertwined_59 : decode cS_intertwined 59 = .ok (.aload_n 0, 1) := by decide +kernel
theorem dS_intertwined_60 : decode cS_intertwined 60 = .ok (.iload 4, 2) := by decide +kernel
theorem dS_intertwined_62 : decode cS_intertwined 62 = .ok (.invokevirtual 121, 3) := by decide +kernel
theorem dS_intertwined_65 : decode cS_intertwined 65 = .ok (.iload_n 2, 1) := by decide +kernel
theorem dS_intertwined_66 : decode cS_intertwined 66 = .ok (.invokestatic 66, 3) := by decide +kernel
theorem dS_intertwined_69 : decode cS_intertwined 69 = .ok (.ifCond .eq 5, 3) := by decide +kernel
theorem dS_intertwined_72 : decode cS_intertwined 72 = .ok (.iconst 0, 1) := by decide +kernel
theorem dS_intertwined_73 : decode cS_intertwined 73 = .ok (.ireturn, 1) := by decide +kernel
theorem dS_intertwined_74 : decode cS_intertwined 74 = .ok (.iinc 3 1, 3) := by decide +kernel
theorem dS_intertwined_77 : decode cS_intertwined 77 = .ok (.goto (-57), 3) := by decide +kernel
theorem dS_intertwined_80 : decode cS_intertwined 80 = .ok (.iconst 1, 1) := by decide +kernel
theorem dS_intertwined_81 : decode cS_intertwined 81 = .ok (.ireturn, 1) := by decide +kernel
theorem dS_isNode_0 : decode cS_isNode 0 = .ok (.iload_n 1, 1) := by decide +kernel
theorem dS_isNode_1 : decode cS_isNode 1 = .ok (.ifCond .lt 16, 3) := by decide +kernel
theorem dS_isNode_4 : decode cS_isNode 4 = .ok (.iload_n 1, 1) := by decide +kernel
theorem dS_isNode_5 : decode cS_isNode 5 = .ok (.aload_n 0, 1) := by decide +kernel
theorem dS_isNode_6 : decode cS_isNode 6 = .ok (.getfield 20, 3) := by decide +kernel
theorem dS_isNode_9 : decode cS_isNode 9 = .ok (.arraylength, 1) := by decide +kernel
theorem dS_isNode_10 : decode cS_isNode 10 = .ok (.if_icmp .ge 7, 3) := by decide +kernel
theorem dS_isNode_13 : decode cS_isNode 13 = .ok (.iconst 1, 1) := by decide +kernel
theorem dS_isNode_14 : decode cS_isNode 14 = .ok (.goto 4, 3) := by decide +kernel
theorem dS_isNode_17 : decode cS_isNode 17 = .ok (.iconst 0, 1) := by decide +kernel
theorem dS_isNode_18 : decode cS_isNode 18 = .ok (.ireturn, 1) := by decide +kernel
theorem dS_isWellBehaved_0 : decode cS_isWellBehaved 0 = .ok (.aload_n 0, 1) := by decide +kernel
theorem dS_isWellBehaved_1 : decode cS_isWellBehaved 1 = .ok (.iload_n 1, 1) := by decide +kernel
theorem dS_isWellBehaved_2 : decode cS_isWellBehaved 2 = .ok (.invokevirtual 47, 3) := by decide +kernel
theorem dS_isWellBehaved_5 : decode cS_isWellBehaved 5 = .ok (.ifCond .eq 18, 3) := by decide +kernel
theorem dS_isWellBehaved_8 : decode cS_isWellBehaved 8 = .ok (.aload_n 0, 1) := by decide +kernel
theorem dS_isWellBehaved_9 : decode cS_isWellBehaved 9 = .ok (.getfield 40, 3) := by decide +kernel
theorem dS_isWellBehaved_12 : decode cS_isWellBehaved 12 = .ok (.iload_n 1, 1) := by decide +kernel
theorem dS_isWellBehaved_13 : decode cS_isWellBehaved 13 = .ok (.invokestatic 66, 3) := by decide +kernel
theorem dS_isWellBehaved_16 : decode cS_isWellBehaved 16 = .ok (.ifCond .eq 7, 3) := by decide +kernel
theorem dS_isWellBehaved_19 : decode cS_isWellBehaved 19 = .ok (.iconst 1, 1) := by decide +kernel
theorem dS_isWellBehaved_20 : decode cS_isWellBehaved 20 = .ok (.goto 4, 3) := by decide +kernel
theorem dS_isWellBehaved_23 : decode cS_isWellBehaved 23 = .ok (.iconst 0, 1) := by decide +kernel
theorem dS_isWellBehaved_24 : decode cS_isWellBehaved 24 = .ok (.ireturn, 1) := by decide +kernel
theorem dS_isSetOfNodes_0 : decode cS_isSetOfNodes 0 = .ok (.iload_n 1, 1) := by decide +kernel
theorem dS_isSetOfNodes_1 : decode cS_isSetOfNodes 1 = .ok (.aload_n 0, 1) := by decide +kernel
theorem dS_isSetOfNodes_2 : decode cS_isSetOfNodes 2 = .ok (.getfield 27, 3) := by decide +kernel
theorem dS_isSetOfNodes_5 : decode cS_isSetOfNodes 5 = .ok (.iconst (-1), 1) := by decide +kernel
theorem dS_isSetOfNodes_6 : decode cS_isSetOfNodes 6 = .ok (.ixor, 1) := by decide +kernel
theorem dS_isSetOfNodes_7 : decode cS_isSetOfNodes 7 = .ok (.iand, 1) := by decide +kernel
theorem dS_isSetOfNodes_8 : decode cS_isSetOfNodes 8 = .ok (.ifCond .ne 7, 3) := by decide +kernel
theorem dS_isSetOfNodes_11 : decode cS_isSetOfNodes 11 = .ok (.iconst 1, 1) := by decide +kernel
theorem dS_isSetOfNodes_12 : decode cS_isSetOfNodes 12 = .ok (.goto 4, 3) := by decide +kernel
theorem dS_isSetOfNodes_15 : decode cS_isSetOfNodes 15 = .ok (.iconst 0, 1) := by decide +kernel
theorem dS_isSetOfNodes_16 : decode cS_isSetOfNodes 16 = .ok (.ireturn, 1) := by decide +kernel
theorem dS_isQuota_0 : decode cS_isQuota 0 = .ok (.iload_n 1, 1) := by decide +kernel
theorem dS_isQuota_1 : decode cS_isQuota 1 = .ok (.ifCond .lt 15, 3) := by decide +kernel
theorem dS_isQuota_4 : decode cS_isQuota 4 = .ok (.iload_n 1, 1) := by decide +kernel
theorem dS_isQuota_5 : decode cS_isQuota 5 = .ok (.aload_n 0, 1) := by decide +kernel
theorem dS_isQuota_6 : decode cS_isQuota 6 = .ok (.getfield 37, 3) := by decide +kernel
theorem dS_isQuota_9 : decode cS_isQuota 9 = .ok (.if_icmp .ge 7, 3) := by decide +kernel
theorem dS_isQuota_12 : decode cS_isQuota 12 = .ok (.iconst 1, 1) := by decide +kernel
theorem dS_isQuota_13 : decode cS_isQuota 13 = .ok (.goto 4, 3) := by decide +kernel
theorem dS_isQuota_16 : decode cS_isQuota 16 = .ok (.iconst 0, 1) := by decide +kernel
theorem dS_isQuota_17 : decode cS_isQuota 17 = .ok (.ireturn, 1) := by decide +kernel
theorem dS_addTopQuota_0 : decode cS_addTopQuota 0 = .ok (.aload_n 1, 1) := by decide +kernel
theorem dS_addTopQuota_1 : decode cS_addTopQuota 1 = .ok (.getfield 128, 3) := by decide +kernel
theorem dS_addTopQuota_4 : decode cS_addTopQuota 4 = .ok (.ifnull 5, 3) := by decide +kernel
theorem dS_addTopQuota_7 : decode cS_addTopQuota 7 = .ok (.iconst (-1), 1) := by decide +kernel
theorem dS_addTopQuota_8 : decode cS_addTopQuota 8 = .ok (.ireturn, 1) := by decide +kernel
theorem dS_addTopQuota_9 : decode cS_addTopQuota 9 = .ok (.aload_n 1, 1) := by decide +kernel
theorem dS_addTopQuota_10 : decode cS_addTopQuota 10 = .ok (.new 31, 3) := by decide +kernel
theorem dS_addTopQuota_13 : decode cS_addTopQuota 13 = .ok (.dup, 1) := by decide +kernel
theorem dS_addTopQuota_14 : decode cS_addTopQuota 14 = .ok (.aload_n 1, 1) := by decide +kernel
theorem dS_addTopQuota_15 : decode cS_addTopQuota 15 = .ok (.iconst 1, 1) := by decide +kernel
theorem dS_addTopQuota_16 : decode cS_addTopQuota 16 = .ok (.iload_n 2, 1) := by decide +kernel
theorem dS_addTopQuota_17 : decode cS_addTopQuota 17 = .ok (.invokespecial 132, 3) := by decide +kernel
theorem dS_addTopQuota_20 : decode cS_addTopQuota 20 = .ok (.putfield 128, 3) := by decide +kernel
theorem dS_addTopQuota_23 : decode cS_addTopQuota 23 = .ok (.aload_n 0, 1) := by decide +kernel
theorem dS_addTopQuota_24 : decode cS_addTopQuota 24 = .ok (.aload_n 1, 1) := by decide +kernel
theorem dS_addTopQuota_25 : decode cS_addTopQuota 25 = .ok (.getfield 128, 3) := by decide +kernel
theorem dS_addTopQuota_28 : decode cS_addTopQuota 28 = .ok (.invokevirtual 135, 3) := by decide +kernel
theorem dS_addTopQuota_31 : decode cS_addTopQuota 31 = .ok (.ireturn, 1) := by decide +kernel
theorem dS_addInnerQuota_0 : decode cS_addInnerQuota 0 = .ok (.aload_n 0, 1) := by decide +kernel
theorem dS_addInnerQuota_1 : decode cS_addInnerQuota 1 = .ok (.iload_n 2, 1) := by decide +kernel
theorem dS_addInnerQuota_2 : decode cS_addInnerQuota 2 = .ok (.invokevirtual 60, 3) := by decide +kernel
theorem dS_addInnerQuota_5 : decode cS_addInnerQuota 5 = .ok (.ifCond .ne 5, 3) := by decide +kernel
theorem dS_addInnerQuota_8 : decode cS_addInnerQuota 8 = .ok (.iconst (-1), 1) := by decide +kernel
theorem dS_addInnerQuota_9 : decode cS_addInnerQuota 9 = .ok (.ireturn, 1) := by decide +kernel
theorem dS_addInnerQuota_10 : decode cS_addInnerQuota 10 = .ok (.aload_n 0, 1) := by decide +kernel
theorem dS_addInnerQuota_11 : decode cS_addInnerQuota 11 = .ok (.getfield 33, 3) := by decide +kernel
theorem dS_addInnerQuota_14 : decode cS_addInnerQuota 14 = .ok (.iload_n 2, 1) := by decide +kernel
theorem dS_addInnerQuota_15 : decode cS_addInnerQuota 15 = .ok (.aaload, 1) := by decide +kernel
theorem dS_addInnerQuota_16 : decode cS_addInnerQuota 16 = .ok (.astore 4, 2) := by decide +kernel
theorem dS_addInnerQuota_18 : decode cS_addInnerQuota 18 = .ok (.aload 4, 2) := by decide +kernel
theorem dS_addInnerQuota_20 : decode cS_addInnerQuota 20 = .ok (.getfield 139, 3) := by decide +kernel
theorem dS_addInnerQuota_23 : decode cS_addInnerQuota 23 = .ok (.aload_n 1, 1) := by decide +kernel
theorem dS_addInnerQuota_24 : decode cS_addInnerQuota 24 = .ok (.if_acmp .ne 12, 3) := by decide +kernel
theorem dS_addInnerQuota_27 : decode cS_addInnerQuota 27 = .ok (.aload 4, 2) := by decide +kernel
theorem dS_addInnerQuota_29 : decode cS_addInnerQuota 29 = .ok (.getfield 143, 3) := by decide +kernel
theorem dS_addInnerQuota_32 : decode cS_addInnerQuota 32 = .ok (.iconst 3, 1) := by decide +kernel
theorem dS_addInnerQuota_33 : decode cS_addInnerQuota 33 = .ok (.if_icmp .lt 5, 3) := by decide +kernel
theorem dS_addInnerQuota_36 : decode cS_addInnerQuota 36 = .ok (.iconst (-1), 1) := by decide +kernel
theorem dS_addInnerQuota_37 : decode cS_addInnerQuota 37 = .ok (.ireturn, 1) := by decide +kernel
theorem dS_addInnerQuota_38 : decode cS_addInnerQuota 38 = .ok (.new 31, 3) := by decide +kernel
theorem dS_addInnerQuota_41 : decode cS_addInnerQuota 41 = .ok (.dup, 1) := by decide +kernel
theorem dS_addInnerQuota_42 : decode cS_addInnerQuota 42 = .ok (.aload_n 1, 1) := by decide +kernel
theorem dS_addInnerQuota_43 : decode cS_addInnerQuota 43 = .ok (.aload 4, 2) := by decide +kernel
theorem dS_addInnerQuota_45 : decode cS_addInnerQuota 45 = .ok (.getfield 143, 3) := by decide +kernel
theorem dS_addInnerQuota_48 : decode cS_addInnerQuota 48 = .ok (.iconst 1, 1) := by decide +kernel
theorem dS_addInnerQuota_49 : decode cS_addInnerQuota 49 = .ok (.iadd, 1) := by decide +kernel
theorem dS_addInnerQuota_50 : decode cS_addInnerQuota 50 = .ok (.iload_n 3, 1) := by decide +kernel
theorem dS_addInnerQuota_51 : decode cS_addInnerQuota 51 = .ok (.invokespecial 132, 3) := by decide +kernel
theorem dS_addInnerQuota_54 : decode cS_addInnerQuota 54 = .ok (.astore 5, 2) := by decide +kernel
theorem dS_addInnerQuota_56 : decode cS_addInnerQuota 56 = .ok (.aload 5, 2) := by decide +kernel
theorem dS_addInnerQuota_58 : decode cS_addInnerQuota 58 = .ok (.aload 4, 2) := by decide +kernel
theorem dS_addInnerQuota_60 : decode cS_addInnerQuota 60 = .ok (.getfield 146, 3) := by decide +kernel
theorem dS_addInnerQuota_63 : decode cS_addInnerQuota 63 = .ok (.putfield 149, 3) := by decide +kernel
theorem dS_addInnerQuota_66 : decode cS_addInnerQuota 66 = .ok (.aload 4, 2) := by decide +kernel
theorem dS_addInnerQuota_68 : decode cS_addInnerQuota 68 = .ok (.aload 5, 2) := by decide +kernel
theorem dS_addInnerQuota_70 : decode cS_addInnerQuota 70 = .ok (.putfield 146, 3) := by decide +kernel
theorem dS_addInnerQuota_73 : decode cS_addInnerQuota 73 = .ok (.aload_n 0, 1) := by decide +kernel
theorem dS_addInnerQuota_74 : decode cS_addInnerQuota 74 = .ok (.aload 5, 2) := by decide +kernel
theorem dS_addInnerQuota_76 : decode cS_addInnerQuota 76 = .ok (.invokevirtual 135, 3) := by decide +kernel
theorem dS_addInnerQuota_79 : decode cS_addInnerQuota 79 = .ok (.ireturn, 1) := by decide +kernel
theorem dS_number_0 : decode cS_number 0 = .ok (.aload_n 1, 1) := by decide +kernel
theorem dS_number_1 : decode cS_number 1 = .ok (.getfield 139, 3) := by decide +kernel
theorem dS_number_4 : decode cS_number 4 = .ok (.dup, 1) := by decide +kernel
theorem dS_number_5 : decode cS_number 5 = .ok (.getfield 51, 3) := by decide +kernel
theorem dS_number_8 : decode cS_number 8 = .ok (.iconst 1, 1) := by decide +kernel
theorem dS_number_9 : decode cS_number 9 = .ok (.iadd, 1) := by decide +kernel
theorem dS_number_10 : decode cS_number 10 = .ok (.putfield 51, 3) := by decide +kernel
theorem dS_number_13 : decode cS_number 13 = .ok (.aload_n 0, 1) := by decide +kernel
theorem dS_number_14 : decode cS_number 14 = .ok (.getfield 33, 3) := by decide +kernel
theorem dS_number_17 : decode cS_number 17 = .ok (.aload_n 0, 1) := by decide +kernel
theorem dS_number_18 : decode cS_number 18 = .ok (.getfield 37, 3) := by decide +kernel
theorem dS_number_21 : decode cS_number 21 = .ok (.aload_n 1, 1) := by decide +kernel
theorem dS_number_22 : decode cS_number 22 = .ok (.aastore, 1) := by decide +kernel
theorem dS_number_23 : decode cS_number 23 = .ok (.aload_n 0, 1) := by decide +kernel
theorem dS_number_24 : decode cS_number 24 = .ok (.dup, 1) := by decide +kernel
theorem dS_number_25 : decode cS_number 25 = .ok (.getfield 37, 3) := by decide +kernel
theorem dS_number_28 : decode cS_number 28 = .ok (.iconst 1, 1) := by decide +kernel
theorem dS_number_29 : decode cS_number 29 = .ok (.iadd, 1) := by decide +kernel
theorem dS_number_30 : decode cS_number 30 = .ok (.putfield 37, 3) := by decide +kernel
theorem dS_number_33 : decode cS_number 33 = .ok (.aload_n 0, 1) := by decide +kernel
theorem dS_number_34 : decode cS_number 34 = .ok (.getfield 37, 3) := by decide +kernel
theorem dS_number_37 : decode cS_number 37 = .ok (.iconst 1, 1) := by decide +kernel
theorem dS_number_38 : decode cS_number 38 = .ok (.isub, 1) := by decide +kernel
theorem dS_number_39 : decode cS_number 39 = .ok (.ireturn, 1) := by decide +kernel
theorem dS_isMet_0 : decode cS_isMet 0 = .ok (.aload_n 0, 1) := by decide +kernel
theorem dS_isMet_1 : decode cS_isMet 1 = .ok (.ifnull 8, 3) := by decide +kernel
theorem dS_isMet_4 : decode cS_isMet 4 = .ok (.iload_n 2, 1) := by decide +kernel
theorem dS_isMet_5 : decode cS_isMet 5 = .ok (.iconst 3, 1) := by decide +kernel
theorem dS_isMet_6 : decode cS_isMet 6 = .ok (.if_icmp .le 5, 3) := by decide +kernel
theorem dS_isMet_9 : decode cS_isMet 9 = .ok (.iconst 0, 1) := by decide +kernel
theorem dS_isMet_10 : decode cS_isMet 10 = .ok (.ireturn, 1) := by decide +kernel
theorem dS_isMet_11 : decode cS_isMet 11 = .ok (.aload_n 0, 1) := by decide +kernel
theorem dS_isMet_12 : decode cS_isMet 12 = .ok (.getfield 63, 3) := by decide +kernel
theorem dS_isMet_15 : decode cS_isMet 15 = .ok (.iload_n 1, 1) := by decide +kernel
theorem dS_isMet_16 : decode cS_isMet 16 = .ok (.iand, 1) := by decide +kernel
theorem dS_isMet_17 : decode cS_isMet 17 = .ok (.invokestatic 152, 3) := by decide +kernel
theorem dS_isMet_20 : decode cS_isMet 20 = .ok (.istore_n 3, 1) := by decide +kernel
theorem dS_isMet_21 : decode cS_isMet 21 = .ok (.aload_n 0, 1) := by decide +kernel
theorem dS_isMet_22 : decode cS_isMet 22 = .ok (.getfield 146, 3) := by decide +kernel
theorem dS_isMet_25 : decode cS_isMet 25 = .ok (.astore 4, 2) := by decide +kernel
theorem dS_isMet_27 : decode cS_isMet 27 = .ok (.aload 4, 2) := by decide +kernel
theorem dS_isMet_29 : decode cS_isMet 29 = .ok (.ifnull 28, 3) := by decide +kernel
theorem dS_isMet_32 : decode cS_isMet 32 = .ok (.aload 4, 2) := by decide +kernel
theorem dS_isMet_34 : decode cS_isMet 34 = .ok (.iload_n 1, 1) := by decide +kernel
theorem dS_isMet_35 : decode cS_isMet 35 = .ok (.iload_n 2, 1) := by decide +kernel
theorem dS_isMet_36 : decode cS_isMet 36 = .ok (.iconst 1, 1) := by decide +kernel
theorem dS_isMet_37 : decode cS_isMet 37 = .ok (.iadd, 1) := by decide +kernel
theorem dS_isMet_38 : decode cS_isMet 38 = .ok (.invokestatic 157, 3) := by decide +kernel
theorem dS_isMet_41 : decode cS_isMet 41 = .ok (.ifCond .eq 6, 3) := by decide +kernel
theorem dS_isMet_44 : decode cS_isMet 44 = .ok (.iinc 3 1, 3) := by decide +kernel
theorem dS_isMet_47 : decode cS_isMet 47 = .ok (.aload 4, 2) := by decide +kernel
theorem dS_isMet_49 : decode cS_isMet 49 = .ok (.getfield 149, 3) := by decide +kernel
theorem dS_isMet_52 : decode cS_isMet 52 = .ok (.astore 4, 2) := by decide +kernel
theorem dS_isMet_54 : decode cS_isMet 54 = .ok (.goto (-27), 3) := by decide +kernel
theorem dS_isMet_57 : decode cS_isMet 57 = .ok (.iload_n 3, 1) := by decide +kernel
theorem dS_isMet_58 : decode cS_isMet 58 = .ok (.aload_n 0, 1) := by decide +kernel
theorem dS_isMet_59 : decode cS_isMet 59 = .ok (.getfield 161, 3) := by decide +kernel
theorem dS_isMet_62 : decode cS_isMet 62 = .ok (.if_icmp .lt 7, 3) := by decide +kernel
theorem dS_isMet_65 : decode cS_isMet 65 = .ok (.iconst 1, 1) := by decide +kernel
theorem dS_isMet_66 : decode cS_isMet 66 = .ok (.goto 4, 3) := by decide +kernel
theorem dS_isMet_69 : decode cS_isMet 69 = .ok (.iconst 0, 1) := by decide +kernel
theorem dS_isMet_70 : decode cS_isMet 70 = .ok (.ireturn, 1) := by decide +kernel
theorem dS_isBlockedBy_0 : decode cS_isBlockedBy 0 = .ok (.aload_n 1, 1) := by decide +kernel
theorem dS_isBlockedBy_1 : decode cS_isBlockedBy 1 = .ok (.getfield 128, 3) := by decide +kernel
theorem dS_isBlockedBy_4 : decode cS_isBlockedBy 4 = .ok (.ifnull 26, 3) := by decide +kernel
theorem dS_isBlockedBy_7 : decode cS_isBlockedBy 7 = .ok (.aload_n 1, 1) := by decide +kernel
theorem dS_isBlockedBy_8 : decode cS_isBlockedBy 8 = .ok (.getfield 128, 3) := by decide +kernel
theorem dS_isBlockedBy_11 : decode cS_isBlockedBy 11 = .ok (.aload_n 0, 1) := by decide +kernel
theorem dS_isBlockedBy_12 : decode cS_isBlockedBy 12 = .ok (.getfield 27, 3) := by decide +kernel
theorem dS_isBlockedBy_15 : decode cS_isBlockedBy 15 = .ok (.iload_n 2, 1) := by decide +kernel
theorem dS_isBlockedBy_16 : decode cS_isBlockedBy 16 = .ok (.iconst (-1), 1) := by decide +kernel
theorem dS_isBlockedBy_17 : decode cS_isBlockedBy 17 = .ok (.ixor, 1) := by decide +kernel
theorem dS_isBlockedBy_18 : decode cS_isBlockedBy 18 = .ok (.iand, 1) := by decide +kernel
theorem dS_isBlockedBy_19 : decode cS_isBlockedBy 19 = .ok (.iconst 1, 1) := by decide +kernel
theorem dS_isBlockedBy_20 : decode cS_isBlockedBy 20 = .ok (.invokestatic 157, 3) := by decide +kernel
theorem dS_isBlockedBy_23 : decode cS_isBlockedBy 23 = .ok (.ifCond .ne 7, 3) := by decide +kernel
theorem dS_isBlockedBy_26 : decode cS_isBlockedBy 26 = .ok (.iconst 1, 1) := by decide +kernel
theorem dS_isBlockedBy_27 : decode cS_isBlockedBy 27 = .ok (.goto 4, 3) := by decide +kernel
theorem dS_isBlockedBy_30 : decode cS_isBlockedBy 30 = .ok (.iconst 0, 1) := by decide +kernel
theorem dS_isBlockedBy_31 : decode cS_isBlockedBy 31 = .ok (.ireturn, 1) := by decide +kernel
theorem dS_isQuorum_0 : decode cS_isQuorum 0 = .ok (.iload_n 1, 1) := by decide +kernel
theorem dS_isQuorum_1 : decode cS_isQuorum 1 = .ok (.ifCond .eq 16, 3) := by decide +kernel
theorem dS_isQuorum_4 : decode cS_isQuorum 4 = .ok (.aload_n 0, 1) := by decide +kernel
theorem dS_isQuorum_5 : decode cS_isQuorum 5 = .ok (.iload_n 1, 1) := by decide +kernel
theorem dS_isQuorum_6 : decode cS_isQuorum 6 = .ok (.invokevirtual 121, 3) := by decide +kernel
theorem dS_isQuorum_9 : decode cS_isQuorum 9 = .ok (.iload_n 1, 1) := by decide +kernel
theorem dS_isQuorum_10 : decode cS_isQuorum 10 = .ok (.if_icmp .ne 7, 3) := by decide +kernel
theorem dS_isQuorum_13 : decode cS_isQuorum 13 = .ok (.iconst 1, 1) := by decide +kernel
theorem dS_isQuorum_14 : decode cS_isQuorum 14 = .ok (.goto 4, 3) := by decide +kernel
theorem dS_isQuorum_17 : decode cS_isQuorum 17 = .ok (.iconst 0, 1) := by decide +kernel
theorem dS_isQuorum_18 : decode cS_isQuorum 18 = .ok (.ireturn, 1) := by decide +kernel
theorem dS_unionOfQuorumsIn_0 : decode cS_unionOfQuorumsIn 0 = .ok (.iload_n 1, 1) := by decide +kernel
theorem dS_unionOfQuorumsIn_1 : decode cS_unionOfQuorumsIn 1 = .ok (.istore_n 2, 1) := by decide +kernel
theorem dS_unionOfQuorumsIn_2 : decode cS_unionOfQuorumsIn 2 = .ok (.iconst 0, 1) := by decide +kernel
theorem dS_unionOfQuorumsIn_3 : decode cS_unionOfQuorumsIn 3 = .ok (.istore_n 3, 1) := by decide +kernel
theorem dS_unionOfQuorumsIn_4 : decode cS_unionOfQuorumsIn 4 = .ok (.iload_n 3, 1) := by decide +kernel
theorem dS_unionOfQuorumsIn_5 : decode cS_unionOfQuorumsIn 5 = .ok (.aload_n 0, 1) := by decide +kernel
theorem dS_unionOfQuorumsIn_6 : decode cS_unionOfQuorumsIn 6 = .ok (.getfield 20, 3) := by decide +kernel
theorem dS_unionOfQuorumsIn_9 : decode cS_unionOfQuorumsIn 9 = .ok (.arraylength, 1) := by decide +kernel
theorem dS_unionOfQuorumsIn_10 : decode cS_unionOfQuorumsIn 10 = .ok (.if_icmp .ge 76, 3) := by decide +kernel
theorem dS_unionOfQuorumsIn_13 : decode cS_unionOfQuorumsIn 13 = .ok (.iload_n 2, 1) := by decide +kernel
theorem dS_unionOfQuorumsIn_14 : decode cS_unionOfQuorumsIn 14 = .ok (.istore 4, 2) := by decide +kernel
theorem dS_unionOfQuorumsIn_16 : decode cS_unionOfQuorumsIn 16 = .ok (.iconst 0, 1) := by decide +kernel
theorem dS_unionOfQuorumsIn_17 : decode cS_unionOfQuorumsIn 17 = .ok (.istore 5, 2) := by decide +kernel
theorem dS_unionOfQuorumsIn_19 : decode cS_unionOfQuorumsIn 19 = .ok (.iload 5, 2) := by decide +kernel
theorem dS_unionOfQuorumsIn_21 : decode cS_unionOfQuorumsIn 21 = .ok (.aload_n 0, 1) := by decide +kernel
theorem dS_unionOfQuorumsIn_22 : decode cS_unionOfQuorumsIn 22 = .ok (.getfield 20, 3) := by decide +kernel
theorem dS_unionOfQuorumsIn_25 : decode cS_unionOfQuorumsIn 25 = .ok (.arraylength, 1) := by decide +kernel
theorem dS_unionOfQuorumsIn_26 : decode cS_unionOfQuorumsIn 26 = .ok (.if_icmp .ge 45, 3) := by decide +kernel
theorem dS_unionOfQuorumsIn_29 : decode cS_unionOfQuorumsIn 29 = .ok (.iload_n 2, 1) := by decide +kernel
theorem dS_unionOfQuorumsIn_30 : decode cS_unionOfQuorumsIn 30 = .ok (.iload 5, 2) := by decide +kernel
theorem dS_unionOfQuorumsIn_32 : decode cS_unionOfQuorumsIn 32 = .ok (.invokestatic 66, 3) := by decide +kernel
theorem dS_unionOfQuorumsIn_35 : decode cS_unionOfQuorumsIn 35 = .ok (.ifCond .eq 30, 3) := by decide +kernel
theorem dS_unionOfQuorumsIn_38 : decode cS_unionOfQuorumsIn 38 = .ok (.aload_n 0, 1) := by decide +kernel
theorem dS_unionOfQuorumsIn_39 : decode cS_unionOfQuorumsIn 39 = .ok (.getfield 20, 3) := by decide +kernel
theorem dS_unionOfQuorumsIn_42 : decode cS_unionOfQuorumsIn 42 = .ok (.iload 5, 2) := by decide +kernel
theorem dS_unionOfQuorumsIn_44 : decode cS_unionOfQuorumsIn 44 = .ok (.aaload, 1) := by decide +kernel
theorem dS_unionOfQuorumsIn_45 : decode cS_unionOfQuorumsIn 45 = .ok (.getfield 128, 3) := by decide +kernel
theorem dS_unionOfQuorumsIn_48 : decode cS_unionOfQuorumsIn 48 = .ok (.iload_n 2, 1) := by decide +kernel
theorem dS_unionOfQuorumsIn_49 : decode cS_unionOfQuorumsIn 49 = .ok (.iconst 1, 1) := by decide +kernel
theorem dS_unionOfQuorumsIn_50 : decode cS_unionOfQuorumsIn 50 = .ok (.invokestatic 157, 3) := by decide +kernel
theorem dS_unionOfQuorumsIn_53 : decode cS_unionOfQuorumsIn 53 = .ok (.ifCond .ne 12, 3) := by decide +kernel
theorem dS_unionOfQuorumsIn_56 : decode cS_unionOfQuorumsIn 56 = .ok (.iload_n 2, 1) := by decide +kernel
theorem dS_unionOfQuorumsIn_57 : decode cS_unionOfQuorumsIn 57 = .ok (.iconst 1, 1) := by decide +kernel
theorem dS_unionOfQuorumsIn_58 : decode cS_unionOfQuorumsIn 58 = .ok (.iload 5, 2) := by decide +kernel
theorem dS_unionOfQuorumsIn_60 : decode cS_unionOfQuorumsIn 60 = .ok (.ishl, 1) := by decide +kernel
theorem dS_unionOfQuorumsIn_61 : decode cS_unionOfQuorumsIn 61 = .ok (.iconst (-1), 1) := by decide +kernel
theorem dS_unionOfQuorumsIn_62 : decode cS_unionOfQuorumsIn 62 = .ok (.ixor, 1) := by decide +kernel
theorem dS_unionOfQuorumsIn_63 : decode cS_unionOfQuorumsIn 63 = .ok (.iand, 1) := by decide +kernel
theorem dS_unionOfQuorumsIn_64 : decode cS_unionOfQuorumsIn 64 = .ok (.istore_n 2, 1) := by decide +kernel
theorem dS_unionOfQuorumsIn_65 : decode cS_unionOfQuorumsIn 65 = .ok (.iinc 5 1, 3) := by decide +kernel
theorem dS_unionOfQuorumsIn_68 : decode cS_unionOfQuorumsIn 68 = .ok (.goto (-49), 3) := by decide +kernel
theorem dS_unionOfQuorumsIn_71 : decode cS_unionOfQuorumsIn 71 = .ok (.iload_n 2, 1) := by decide +kernel
theorem dS_unionOfQuorumsIn_72 : decode cS_unionOfQuorumsIn 72 = .ok (.iload 4, 2) := by decide +kernel
theorem dS_unionOfQuorumsIn_74 : decode cS_unionOfQuorumsIn 74 = .ok (.if_icmp .ne 6, 3) := by decide +kernel
theorem dS_unionOfQuorumsIn_77 : decode cS_unionOfQuorumsIn 77 = .ok (.goto 9, 3) := by decide +kernel
theorem dS_unionOfQuorumsIn_80 : decode cS_unionOfQuorumsIn 80 = .ok (.iinc 3 1, 3) := by decide +kernel
theorem dS_unionOfQuorumsIn_83 : decode cS_unionOfQuorumsIn 83 = .ok (.goto (-79), 3) := by decide +kernel
theorem dS_unionOfQuorumsIn_86 : decode cS_unionOfQuorumsIn 86 = .ok (.iload_n 2, 1) := by decide +kernel
theorem dS_unionOfQuorumsIn_87 : decode cS_unionOfQuorumsIn 87 = .ok (.ireturn, 1) := by decide +kernel
theorem dS_has_0 : decode cS_has 0 = .ok (.iload_n 0, 1) := by decide +kernel
theorem dS_has_1 : decode cS_has 1 = .ok (.iload_n 1, 1) := by decide +kernel
theorem dS_has_2 : decode cS_has 2 = .ok (.iushr, 1) := by decide +kernel
theorem dS_has_3 : decode cS_has 3 = .ok (.iconst 1, 1) := by decide +kernel
theorem dS_has_4 : decode cS_has 4 = .ok (.iand, 1) := by decide +kernel
theorem dS_has_5 : decode cS_has 5 = .ok (.ifCond .eq 7, 3) := by decide +kernel
theorem dS_has_8 : decode cS_has 8 = .ok (.iconst 1, 1) := by decide +kernel
theorem dS_has_9 : decode cS_has 9 = .ok (.goto 4, 3) := by decide +kernel
theorem dS_has_12 : decode cS_has 12 = .ok (.iconst 0, 1) := by decide +kernel
theorem dS_has_13 : decode cS_has 13 = .ok (.ireturn, 1) := by decide +kernel
theorem dS_ballot_0 : decode cS_ballot 0 = .ok (.iconst 3, 1) := by decide +kernel
theorem dS_ballot_1 : decode cS_ballot 1 = .ok (.iload_n 0, 1) := by decide +kernel
theorem dS_ballot_2 : decode cS_ballot 2 = .ok (.iconst 1, 1) := by decide +kernel
theorem dS_ballot_3 : decode cS_ballot 3 = .ok (.isub, 1) := by decide +kernel
theorem dS_ballot_4 : decode cS_ballot 4 = .ok (.imul, 1) := by decide +kernel
theorem dS_ballot_5 : decode cS_ballot 5 = .ok (.iload_n 1, 1) := by decide +kernel
theorem dS_ballot_6 : decode cS_ballot 6 = .ok (.iadd, 1) := by decide +kernel
theorem dS_ballot_7 : decode cS_ballot 7 = .ok (.ireturn, 1) := by decide +kernel
theorem dS_commitOf_0 : decode cS_commitOf 0 = .ok (.bipush 12, 2) := by decide +kernel
theorem dS_commitOf_2 : decode cS_commitOf 2 = .ok (.iload_n 0, 1) := by decide +kernel
theorem dS_commitOf_3 : decode cS_commitOf 3 = .ok (.iadd, 1) := by decide +kernel
theorem dS_commitOf_4 : decode cS_commitOf 4 = .ok (.ireturn, 1) := by decide +kernel
theorem dS_isCommit_0 : decode cS_isCommit 0 = .ok (.iload_n 0, 1) := by decide +kernel
theorem dS_isCommit_1 : decode cS_isCommit 1 = .ok (.bipush 12, 2) := by decide +kernel
theorem dS_isCommit_3 : decode cS_isCommit 3 = .ok (.if_icmp .lt 7, 3) := by decide +kernel
theorem dS_isCommit_6 : decode cS_isCommit 6 = .ok (.iconst 1, 1) := by decide +kernel
theorem dS_isCommit_7 : decode cS_isCommit 7 = .ok (.goto 4, 3) := by decide +kernel
theorem dS_isCommit_10 : decode cS_isCommit 10 = .ok (.iconst 0, 1) := by decide +kernel
theorem dS_isCommit_11 : decode cS_isCommit 11 = .ok (.ireturn, 1) := by decide +kernel
theorem dS_ballotOf_0 : decode cS_ballotOf 0 = .ok (.iload_n 0, 1) := by decide +kernel
theorem dS_ballotOf_1 : decode cS_ballotOf 1 = .ok (.bipush 12, 2) := by decide +kernel
theorem dS_ballotOf_3 : decode cS_ballotOf 3 = .ok (.irem, 1) := by decide +kernel
theorem dS_ballotOf_4 : decode cS_ballotOf 4 = .ok (.ireturn, 1) := by decide +kernel
theorem dS_valueOf_0 : decode cS_valueOf 0 = .ok (.iload_n 0, 1) := by decide +kernel
theorem dS_valueOf_1 : decode cS_valueOf 1 = .ok (.iconst 3, 1) := by decide +kernel
theorem dS_valueOf_2 : decode cS_valueOf 2 = .ok (.irem, 1) := by decide +kernel
theorem dS_valueOf_3 : decode cS_valueOf 3 = .ok (.ireturn, 1) := by decide +kernel
theorem dS_contradict_0 : decode cS_contradict 0 = .ok (.iload_n 0, 1) := by decide +kernel
theorem dS_contradict_1 : decode cS_contradict 1 = .ok (.invokestatic 164, 3) := by decide +kernel
theorem dS_contradict_4 : decode cS_contradict 4 = .ok (.iload_n 1, 1) := by decide +kernel
theorem dS_contradict_5 : decode cS_contradict 5 = .ok (.invokestatic 164, 3) := by decide +kernel
theorem dS_contradict_8 : decode cS_contradict 8 = .ok (.if_icmp .ne 5, 3) := by decide +kernel
theorem dS_contradict_11 : decode cS_contradict 11 = .ok (.iconst 0, 1) := by decide +kernel
theorem dS_contradict_12 : decode cS_contradict 12 = .ok (.ireturn, 1) := by decide +kernel
theorem dS_contradict_13 : decode cS_contradict 13 = .ok (.iload_n 0, 1) := by decide +kernel
theorem dS_contradict_14 : decode cS_contradict 14 = .ok (.invokestatic 167, 3) := by decide +kernel
theorem dS_contradict_17 : decode cS_contradict 17 = .ok (.ifCond .eq 12, 3) := by decide +kernel
theorem dS_contradict_20 : decode cS_contradict 20 = .ok (.iload_n 1, 1) := by decide +kernel
theorem dS_contradict_21 : decode cS_contradict 21 = .ok (.invokestatic 167, 3) := by decide +kernel
theorem dS_contradict_24 : decode cS_contradict 24 = .ok (.ifCond .eq 5, 3) := by decide +kernel
theorem dS_contradict_27 : decode cS_contradict 27 = .ok (.iconst 1, 1) := by decide +kernel
theorem dS_contradict_28 : decode cS_contradict 28 = .ok (.ireturn, 1) := by decide +kernel
theorem dS_contradict_29 : decode cS_contradict 29 = .ok (.iload_n 0, 1) := by decide +kernel
theorem dS_contradict_30 : decode cS_contradict 30 = .ok (.invokestatic 167, 3) := by decide +kernel
theorem dS_contradict_33 : decode cS_contradict 33 = .ok (.ifCond .eq 14, 3) := by decide +kernel
theorem dS_contradict_36 : decode cS_contradict 36 = .ok (.iload_n 1, 1) := by decide +kernel
theorem dS_contradict_37 : decode cS_contradict 37 = .ok (.invokestatic 170, 3) := by decide +kernel
theorem dS_contradict_40 : decode cS_contradict 40 = .ok (.iload_n 0, 1) := by decide +kernel
theorem dS_contradict_41 : decode cS_contradict 41 = .ok (.invokestatic 170, 3) := by decide +kernel
theorem dS_contradict_44 : decode cS_contradict 44 = .ok (.if_icmp .gt 21, 3) := by decide +kernel
theorem dS_contradict_47 : decode cS_contradict 47 = .ok (.iload_n 1, 1) := by decide +kernel
theorem dS_contradict_48 : decode cS_contradict 48 = .ok (.invokestatic 167, 3) := by decide +kernel
theorem dS_contradict_51 : decode cS_contradict 51 = .ok (.ifCond .eq 18, 3) := by decide +kernel
theorem dS_contradict_54 : decode cS_contradict 54 = .ok (.iload_n 0, 1) := by decide +kernel
theorem dS_contradict_55 : decode cS_contradict 55 = .ok (.invokestatic 170, 3) := by decide +kernel
theorem dS_contradict_58 : decode cS_contradict 58 = .ok (.iload_n 1, 1) := by decide +kernel
theorem dS_contradict_59 : decode cS_contradict 59 = .ok (.invokestatic 170, 3) := by decide +kernel
theorem dS_contradict_62 : decode cS_contradict 62 = .ok (.if_icmp .le 7, 3) := by decide +kernel
theorem dS_contradict_65 : decode cS_contradict 65 = .ok (.iconst 1, 1) := by decide +kernel
theorem dS_contradict_66 : decode cS_contradict 66 = .ok (.goto 4, 3) := by decide +kernel
theorem dS_contradict_69 : decode cS_contradict 69 = .ok (.iconst 0, 1) := by decide +kernel
theorem dS_contradict_70 : decode cS_contradict 70 = .ok (.ireturn, 1) := by decide +kernel
theorem dS_contradictsOneOf_0 : decode cS_contradictsOneOf 0 = .ok (.iconst 0, 1) := by decide +kernel
theorem dS_contradictsOneOf_1 : decode cS_contradictsOneOf 1 = .ok (.istore_n 2, 1) := by decide +kernel
theorem dS_contradictsOneOf_2 : decode cS_contradictsOneOf 2 = .ok (.iload_n 2, 1) := by decide +kernel
theorem dS_contradictsOneOf_3 : decode cS_contradictsOneOf 3 = .ok (.bipush 24, 2) := by decide +kernel
theorem dS_contradictsOneOf_5 : decode cS_contradictsOneOf 5 = .ok (.if_icmp .ge 27, 3) := by decide +kernel
theorem dS_contradictsOneOf_8 : decode cS_contradictsOneOf 8 = .ok (.iload_n 1, 1) := by decide +kernel
theorem dS_contradictsOneOf_9 : decode cS_contradictsOneOf 9 = .ok (.iload_n 2, 1) := by decide +kernel
theorem dS_contradictsOneOf_10 : decode cS_contradictsOneOf 10 = .ok (.invokestatic 66, 3) := by decide +kernel
theorem dS_contradictsOneOf_13 : decode cS_contradictsOneOf 13 = .ok (.ifCond .eq 13, 3) := by decide +kernel
theorem dS_contradictsOneOf_16 : decode cS_contradictsOneOf 16 = .ok (.iload_n 0, 1) := by decide +kernel
theorem dS_contradictsOneOf_17 : decode cS_contradictsOneOf 17 = .ok (.iload_n 2, 1) := by decide +kernel
theorem dS_contradictsOneOf_18 : decode cS_contradictsOneOf 18 = .ok (.invokestatic 173, 3) := by decide +kernel
theorem dS_contradictsOneOf_21 : decode cS_contradictsOneOf 21 = .ok (.ifCond .eq 5, 3) := by decide +kernel
theorem dS_contradictsOneOf_24 : decode cS_contradictsOneOf 24 = .ok (.iconst 1, 1) := by decide +kernel
theorem dS_contradictsOneOf_25 : decode cS_contradictsOneOf 25 = .ok (.ireturn, 1) := by decide +kernel
theorem dS_contradictsOneOf_26 : decode cS_contradictsOneOf 26 = .ok (.iinc 2 1, 3) := by decide +kernel
theorem dS_contradictsOneOf_29 : decode cS_contradictsOneOf 29 = .ok (.goto (-27), 3) := by decide +kernel
theorem dS_contradictsOneOf_32 : decode cS_contradictsOneOf 32 = .ok (.iconst 0, 1) := by decide +kernel
theorem dS_contradictsOneOf_33 : decode cS_contradictsOneOf 33 = .ok (.ireturn, 1) := by decide +kernel
theorem dS_valueToPropose_0 : decode cS_valueToPropose 0 = .ok (.bipush 12, 2) := by decide +kernel
theorem dS_valueToPropose_2 : decode cS_valueToPropose 2 = .ok (.istore_n 2, 1) := by decide +kernel
theorem dS_valueToPropose_3 : decode cS_valueToPropose 3 = .ok (.iload_n 2, 1) := by decide +kernel
theorem dS_valueToPropose_4 : decode cS_valueToPropose 4 = .ok (.bipush 24, 2) := by decide +kernel
theorem dS_valueToPropose_6 : decode cS_valueToPropose 6 = .ok (.if_icmp .ge 30, 3) := by decide +kernel
theorem dS_valueToPropose_9 : decode cS_valueToPropose 9 = .ok (.aload_n 0, 1) := by decide +kernel
theorem dS_valueToPropose_10 : decode cS_valueToPropose 10 = .ok (.getfield 97, 3) := by decide +kernel
theorem dS_valueToPropose_13 : decode cS_valueToPropose 13 = .ok (.aload_n 0, 1) := by decide +kernel
theorem dS_valueToPropose_14 : decode cS_valueToPropose 14 = .ok (.getfield 176, 3) := by decide +kernel
theorem dS_valueToPropose_17 : decode cS_valueToPropose 17 = .ok (.iaload, 1) := by decide +kernel
theorem dS_valueToPropose_18 : decode cS_valueToPropose 18 = .ok (.iload_n 2, 1) := by decide +kernel
theorem dS_valueToPropose_19 : decode cS_valueToPropose 19 = .ok (.invokestatic 66, 3) := by decide +kernel
theorem dS_valueToPropose_22 : decode cS_valueToPropose 22 = .ok (.ifCond .eq 8, 3) := by decide +kernel
theorem dS_valueToPropose_25 : decode cS_valueToPropose 25 = .ok (.iload_n 2, 1) := by decide +kernel
theorem dS_valueToPropose_26 : decode cS_valueToPropose 26 = .ok (.invokestatic 164, 3) := by decide +kernel
theorem dS_valueToPropose_29 : decode cS_valueToPropose 29 = .ok (.ireturn, 1) := by decide +kernel
theorem dS_valueToPropose_30 : decode cS_valueToPropose 30 = .ok (.iinc 2 1, 3) := by decide +kernel
theorem dS_valueToPropose_33 : decode cS_valueToPropose 33 = .ok (.goto (-30), 3) := by decide +kernel
theorem dS_valueToPropose_36 : decode cS_valueToPropose 36 = .ok (.bipush 11, 2) := by decide +kernel
theorem dS_valueToPropose_38 : decode cS_valueToPropose 38 = .ok (.istore_n 2, 1) := by decide +kernel
theorem dS_valueToPropose_39 : decode cS_valueToPropose 39 = .ok (.iload_n 2, 1) := by decide +kernel
theorem dS_valueToPropose_40 : decode cS_valueToPropose 40 = .ok (.ifCond .lt 25, 3) := by decide +kernel
theorem dS_valueToPropose_43 : decode cS_valueToPropose 43 = .ok (.aload_n 0, 1) := by decide +kernel
theorem dS_valueToPropose_44 : decode cS_valueToPropose 44 = .ok (.getfield 109, 3) := by decide +kernel
theorem dS_valueToPropose_47 : decode cS_valueToPropose 47 = .ok (.iload_n 2, 1) := by decide +kernel
theorem dS_valueToPropose_48 : decode cS_valueToPropose 48 = .ok (.invokestatic 66, 3) := by decide +kernel
theorem dS_valueToPropose_51 : decode cS_valueToPropose 51 = .ok (.ifCond .eq 8, 3) := by decide +kernel
theorem dS_valueToPropose_54 : decode cS_valueToPropose 54 = .ok (.iload_n 2, 1) := by decide +kernel
theorem dS_valueToPropose_55 : decode cS_valueToPropose 55 = .ok (.invokestatic 164, 3) := by decide +kernel
theorem dS_valueToPropose_58 : decode cS_valueToPropose 58 = .ok (.ireturn, 1) := by decide +kernel
theorem dS_valueToPropose_59 : decode cS_valueToPropose 59 = .ok (.iinc 2 (-1), 3) := by decide +kernel
theorem dS_valueToPropose_62 : decode cS_valueToPropose 62 = .ok (.goto (-23), 3) := by decide +kernel
theorem dS_valueToPropose_65 : decode cS_valueToPropose 65 = .ok (.iload_n 1, 1) := by decide +kernel
theorem dS_valueToPropose_66 : decode cS_valueToPropose 66 = .ok (.ireturn, 1) := by decide +kernel
theorem dS_hear_0 : decode cS_hear 0 = .ok (.aload_n 0, 1) := by decide +kernel
theorem dS_hear_1 : decode cS_hear 1 = .ok (.iconst 1, 1) := by decide +kernel
theorem dS_hear_2 : decode cS_hear 2 = .ok (.putfield 43, 3) := by decide +kernel
theorem dS_hear_5 : decode cS_hear 5 = .ok (.aload_n 1, 1) := by decide +kernel
theorem dS_hear_6 : decode cS_hear 6 = .ok (.getfield 93, 3) := by decide +kernel
theorem dS_hear_9 : decode cS_hear 9 = .ok (.iload_n 2, 1) := by decide +kernel
theorem dS_hear_10 : decode cS_hear 10 = .ok (.iload_n 3, 1) := by decide +kernel
theorem dS_hear_11 : decode cS_hear 11 = .ok (.iastore, 1) := by decide +kernel
theorem dS_hear_12 : decode cS_hear 12 = .ok (.aload_n 1, 1) := by decide +kernel
theorem dS_hear_13 : decode cS_hear 13 = .ok (.getfield 97, 3) := by decide +kernel
theorem dS_hear_16 : decode cS_hear 16 = .ok (.iload_n 2, 1) := by decide +kernel
theorem dS_hear_17 : decode cS_hear 17 = .ok (.iload 4, 2) := by decide +kernel
theorem dS_hear_19 : decode cS_hear 19 = .ok (.iastore, 1) := by decide +kernel
theorem dS_hear_20 : decode cS_hear 20 = .ok (.return_, 1) := by decide +kernel
theorem dS_voteIfAllowed_0 : decode cS_voteIfAllowed 0 = .ok (.aload_n 0, 1) := by decide +kernel
theorem dS_voteIfAllowed_1 : decode cS_voteIfAllowed 1 = .ok (.getfield 176, 3) := by decide +kernel
theorem dS_voteIfAllowed_4 : decode cS_voteIfAllowed 4 = .ok (.istore_n 2, 1) := by decide +kernel
theorem dS_voteIfAllowed_5 : decode cS_voteIfAllowed 5 = .ok (.iload_n 1, 1) := by decide +kernel
theorem dS_voteIfAllowed_6 : decode cS_voteIfAllowed 6 = .ok (.aload_n 0, 1) := by decide +kernel
theorem dS_voteIfAllowed_7 : decode cS_voteIfAllowed 7 = .ok (.getfield 93, 3) := by decide +kernel
theorem dS_voteIfAllowed_10 : decode cS_voteIfAllowed 10 = .ok (.iload_n 2, 1) := by decide +kernel
theorem dS_voteIfAllowed_11 : decode cS_voteIfAllowed 11 = .ok (.iaload, 1) := by decide +kernel
theorem dS_voteIfAllowed_12 : decode cS_voteIfAllowed 12 = .ok (.aload_n 0, 1) := by decide +kernel
theorem dS_voteIfAllowed_13 : decode cS_voteIfAllowed 13 = .ok (.getfield 97, 3) := by decide +kernel
theorem dS_voteIfAllowed_16 : decode cS_voteIfAllowed 16 = .ok (.iload_n 2, 1) := by decide +kernel
theorem dS_voteIfAllowed_17 : decode cS_voteIfAllowed 17 = .ok (.iaload, 1) := by decide +kernel
theorem dS_voteIfAllowed_18 : decode cS_voteIfAllowed 18 = .ok (.ior, 1) := by decide +kernel
theorem dS_voteIfAllowed_19 : decode cS_voteIfAllowed 19 = .ok (.invokestatic 178, 3) := by decide +kernel
theorem dS_voteIfAllowed_22 : decode cS_voteIfAllowed 22 = .ok (.ifCond .eq 5, 3) := by decide +kernel
theorem dS_voteIfAllowed_25 : decode cS_voteIfAllowed 25 = .ok (.iconst 0, 1) := by decide +kernel
theorem dS_voteIfAllowed_26 : decode cS_voteIfAllowed 26 = .ok (.ireturn, 1) := by decide +kernel
theorem dS_voteIfAllowed_27 : decode cS_voteIfAllowed 27 = .ok (.aload_n 0, 1) := by decide +kernel
theorem dS_voteIfAllowed_28 : decode cS_voteIfAllowed 28 = .ok (.getfield 93, 3) := by decide +kernel
theorem dS_voteIfAllowed_31 : decode cS_voteIfAllowed 31 = .ok (.iload_n 2, 1) := by decide +kernel
theorem dS_voteIfAllowed_32 : decode cS_voteIfAllowed 32 = .ok (.dup2, 1) := by decide +kernel
theorem dS_voteIfAllowed_33 : decode cS_voteIfAllowed 33 = .ok (.iaload, 1) := by decide +kernel
theorem dS_voteIfAllowed_34 : decode cS_voteIfAllowed 34 = .ok (.iconst 1, 1) := by decide +kernel
theorem dS_voteIfAllowed_35 : decode cS_voteIfAllowed 35 = .ok (.iload_n 1, 1) := by decide +kernel
theorem dS_voteIfAllowed_36 : decode cS_voteIfAllowed 36 = .ok (.ishl, 1) := by decide +kernel
theorem dS_voteIfAllowed_37 : decode cS_voteIfAllowed 37 = .ok (.ior, 1) := by decide +kernel
theorem dS_voteIfAllowed_38 : decode cS_voteIfAllowed 38 = .ok (.iastore, 1) := by decide +kernel
theorem dS_voteIfAllowed_39 : decode cS_voteIfAllowed 39 = .ok (.iconst 1, 1) := by decide +kernel
theorem dS_voteIfAllowed_40 : decode cS_voteIfAllowed 40 = .ok (.ireturn, 1) := by decide +kernel
theorem dS_settle_0 : decode cS_settle 0 = .ok (.iconst 0, 1) := by decide +kernel
theorem dS_settle_1 : decode cS_settle 1 = .ok (.istore_n 2, 1) := by decide +kernel
theorem dS_settle_2 : decode cS_settle 2 = .ok (.iload_n 2, 1) := by decide +kernel
theorem dS_settle_3 : decode cS_settle 3 = .ok (.bipush 49, 2) := by decide +kernel
theorem dS_settle_5 : decode cS_settle 5 = .ok (.if_icmp .ge 33, 3) := by decide +kernel
theorem dS_settle_8 : decode cS_settle 8 = .ok (.aload_n 0, 1) := by decide +kernel
theorem dS_settle_9 : decode cS_settle 9 = .ok (.aload_n 1, 1) := by decide +kernel
theorem dS_settle_10 : decode cS_settle 10 = .ok (.invokevirtual 181, 3) := by decide +kernel
theorem dS_settle_13 : decode cS_settle 13 = .ok (.ifCond .ne 19, 3) := by decide +kernel
theorem dS_settle_16 : decode cS_settle 16 = .ok (.aload_n 0, 1) := by decide +kernel
theorem dS_settle_17 : decode cS_settle 17 = .ok (.aload_n 1, 1) := by decide +kernel
theorem dS_settle_18 : decode cS_settle 18 = .ok (.invokevirtual 185, 3) := by decide +kernel
theorem dS_settle_21 : decode cS_settle 21 = .ok (.ifCond .ne 11, 3) := by decide +kernel
theorem dS_settle_24 : decode cS_settle 24 = .ok (.aload_n 1, 1) := by decide +kernel
theorem dS_settle_25 : decode cS_settle 25 = .ok (.invokestatic 188, 3) := by decide +kernel
theorem dS_settle_28 : decode cS_settle 28 = .ok (.ifCond .ne 4, 3) := by decide +kernel
theorem dS_settle_31 : decode cS_settle 31 = .ok (.return_, 1) := by decide +kernel
theorem dS_settle_32 : decode cS_settle 32 = .ok (.iinc 2 1, 3) := by decide +kernel
theorem dS_settle_35 : decode cS_settle 35 = .ok (.goto (-33), 3) := by decide +kernel
theorem dS_settle_38 : decode cS_settle 38 = .ok (.return_, 1) := by decide +kernel
theorem dS_acceptLeast_0 : decode cS_acceptLeast 0 = .ok (.iconst 0, 1) := by decide +kernel
theorem dS_acceptLeast_1 : decode cS_acceptLeast 1 = .ok (.istore_n 2, 1) := by decide +kernel
theorem dS_acceptLeast_2 : decode cS_acceptLeast 2 = .ok (.iload_n 2, 1) := by decide +kernel
theorem dS_acceptLeast_3 : decode cS_acceptLeast 3 = .ok (.bipush 24, 2) := by decide +kernel
theorem dS_acceptLeast_5 : decode cS_acceptLeast 5 = .ok (.if_icmp .ge 35, 3) := by decide +kernel
theorem dS_acceptLeast_8 : decode cS_acceptLeast 8 = .ok (.aload_n 0, 1) := by decide +kernel
theorem dS_acceptLeast_9 : decode cS_acceptLeast 9 = .ok (.aload_n 1, 1) := by decide +kernel
theorem dS_acceptLeast_10 : decode cS_acceptLeast 10 = .ok (.iload_n 2, 1) := by decide +kernel
theorem dS_acceptLeast_11 : decode cS_acceptLeast 11 = .ok (.invokevirtual 191, 3) := by decide +kernel
theorem dS_acceptLeast_14 : decode cS_acceptLeast 14 = .ok (.ifCond .eq 20, 3) := by decide +kernel
theorem dS_acceptLeast_17 : decode cS_acceptLeast 17 = .ok (.aload_n 1, 1) := by decide +kernel
theorem dS_acceptLeast_18 : decode cS_acceptLeast 18 = .ok (.getfield 97, 3) := by decide +kernel
theorem dS_acceptLeast_21 : decode cS_acceptLeast 21 = .ok (.aload_n 1, 1) := by decide +kernel
theorem dS_acceptLeast_22 : decode cS_acceptLeast 22 = .ok (.getfield 176, 3) := by decide +kernel
theorem dS_acceptLeast_25 : decode cS_acceptLeast 25 = .ok (.dup2, 1) := by decide +kernel
theorem dS_acceptLeast_26 : decode cS_acceptLeast 26 = .ok (.iaload, 1) := by decide +kernel
theorem dS_acceptLeast_27 : decode cS_acceptLeast 27 = .ok (.iconst 1, 1) := by decide +kernel
theorem dS_acceptLeast_28 : decode cS_acceptLeast 28 = .ok (.iload_n 2, 1) := by decide +kernel
theorem dS_acceptLeast_29 : decode cS_acceptLeast 29 = .ok (.ishl, 1) := by decide +kernel
theorem dS_acceptLeast_30 : decode cS_acceptLeast 30 = .ok (.ior, 1) := by decide +kernel
theorem dS_acceptLeast_31 : decode cS_acceptLeast 31 = .ok (.iastore, 1) := by decide +kernel
theorem dS_acceptLeast_32 : decode cS_acceptLeast 32 = .ok (.iconst 1, 1) := by decide +kernel
theorem dS_acceptLeast_33 : decode cS_acceptLeast 33 = .ok (.ireturn, 1) := by decide +kernel
theorem dS_acceptLeast_34 : decode cS_acceptLeast 34 = .ok (.iinc 2 1, 3) := by decide +kernel
theorem dS_acceptLeast_37 : decode cS_acceptLeast 37 = .ok (.goto (-35), 3) := by decide +kernel
theorem dS_acceptLeast_40 : decode cS_acceptLeast 40 = .ok (.iconst 0, 1) := by decide +kernel
theorem dS_acceptLeast_41 : decode cS_acceptLeast 41 = .ok (.ireturn, 1) := by decide +kernel
theorem dS_mayAccept_0 : decode cS_mayAccept 0 = .ok (.aload_n 1, 1) := by decide +kernel
theorem dS_mayAccept_1 : decode cS_mayAccept 1 = .ok (.getfield 97, 3) := by decide +kernel
theorem dS_mayAccept_4 : decode cS_mayAccept 4 = .ok (.aload_n 1, 1) := by decide +kernel
theorem dS_mayAccept_5 : decode cS_mayAccept 5 = .ok (.getfield 176, 3) := by decide +kernel
theorem dS_mayAccept_8 : decode cS_mayAccept 8 = .ok (.iaload, 1) := by decide +kernel
theorem dS_mayAccept_9 : decode cS_mayAccept 9 = .ok (.istore_n 3, 1) := by decide +kernel
theorem dS_mayAccept_10 : decode cS_mayAccept 10 = .ok (.iload_n 3, 1) := by decide +kernel
theorem dS_mayAccept_11 : decode cS_mayAccept 11 = .ok (.iload_n 2, 1) := by decide +kernel
theorem dS_mayAccept_12 : decode cS_mayAccept 12 = .ok (.invokestatic 66, 3) := by decide +kernel
theorem dS_mayAccept_15 : decode cS_mayAccept 15 = .ok (.ifCond .ne 11, 3) := by decide +kernel
theorem dS_mayAccept_18 : decode cS_mayAccept 18 = .ok (.iload_n 2, 1) := by decide +kernel
theorem dS_mayAccept_19 : decode cS_mayAccept 19 = .ok (.iload_n 3, 1) := by decide +kernel
theorem dS_mayAccept_20 : decode cS_mayAccept 20 = .ok (.invokestatic 178, 3) := by decide +kernel
theorem dS_mayAccept_23 : decode cS_mayAccept 23 = .ok (.ifCond .eq 5, 3) := by decide +kernel
theorem dS_mayAccept_26 : decode cS_mayAccept 26 = .ok (.iconst 0, 1) := by decide +kernel
theorem dS_mayAccept_27 : decode cS_mayAccept 27 = .ok (.ireturn, 1) := by decide +kernel
theorem dS_mayAccept_28 : decode cS_mayAccept 28 = .ok (.aload_n 1, 1) := by decide +kernel
theorem dS_mayAccept_29 : decode cS_mayAccept 29 = .ok (.getfield 97, 3) := by decide +kernel
theorem dS_mayAccept_32 : decode cS_mayAccept 32 = .ok (.iload_n 2, 1) := by decide +kernel
theorem dS_mayAccept_33 : decode cS_mayAccept 33 = .ok (.invokestatic 194, 3) := by decide +kernel
theorem dS_mayAccept_36 : decode cS_mayAccept 36 = .ok (.istore 4, 2) := by decide +kernel
theorem dS_mayAccept_38 : decode cS_mayAccept 38 = .ok (.aload_n 1, 1) := by decide +kernel
theorem dS_mayAccept_39 : decode cS_mayAccept 39 = .ok (.getfield 93, 3) := by decide +kernel
theorem dS_mayAccept_42 : decode cS_mayAccept 42 = .ok (.iload_n 2, 1) := by decide +kernel
theorem dS_mayAccept_43 : decode cS_mayAccept 43 = .ok (.invokestatic 194, 3) := by decide +kernel
theorem dS_mayAccept_46 : decode cS_mayAccept 46 = .ok (.istore 5, 2) := by decide +kernel
theorem dS_mayAccept_48 : decode cS_mayAccept 48 = .ok (.aload_n 0, 1) := by decide +kernel
theorem dS_mayAccept_49 : decode cS_mayAccept 49 = .ok (.aload_n 1, 1) := by decide +kernel
theorem dS_mayAccept_50 : decode cS_mayAccept 50 = .ok (.iload 5, 2) := by decide +kernel
theorem dS_mayAccept_52 : decode cS_mayAccept 52 = .ok (.iload 4, 2) := by decide +kernel
theorem dS_mayAccept_54 : decode cS_mayAccept 54 = .ok (.ior, 1) := by decide +kernel
theorem dS_mayAccept_55 : decode cS_mayAccept 55 = .ok (.invokevirtual 198, 3) := by decide +kernel
theorem dS_mayAccept_58 : decode cS_mayAccept 58 = .ok (.ifCond .ne 13, 3) := by decide +kernel
theorem dS_mayAccept_61 : decode cS_mayAccept 61 = .ok (.aload_n 0, 1) := by decide +kernel
theorem dS_mayAccept_62 : decode cS_mayAccept 62 = .ok (.aload_n 1, 1) := by decide +kernel
theorem dS_mayAccept_63 : decode cS_mayAccept 63 = .ok (.iload 4, 2) := by decide +kernel
theorem dS_mayAccept_65 : decode cS_mayAccept 65 = .ok (.invokevirtual 125, 3) := by decide +kernel
theorem dS_mayAccept_68 : decode cS_mayAccept 68 = .ok (.ifCond .eq 7, 3) := by decide +kernel
theorem dS_mayAccept_71 : decode cS_mayAccept 71 = .ok (.iconst 1, 1) := by decide +kernel
theorem dS_mayAccept_72 : decode cS_mayAccept 72 = .ok (.goto 4, 3) := by decide +kernel
theorem dS_mayAccept_75 : decode cS_mayAccept 75 = .ok (.iconst 0, 1) := by decide +kernel
theorem dS_mayAccept_76 : decode cS_mayAccept 76 = .ok (.ireturn, 1) := by decide +kernel
theorem dS_confirmLeast_0 : decode cS_confirmLeast 0 = .ok (.iconst 0, 1) := by decide +kernel
theorem dS_confirmLeast_1 : decode cS_confirmLeast 1 = .ok (.istore_n 2, 1) := by decide +kernel
theorem dS_confirmLeast_2 : decode cS_confirmLeast 2 = .ok (.iload_n 2, 1) := by decide +kernel
theorem dS_confirmLeast_3 : decode cS_confirmLeast 3 = .ok (.bipush 24, 2) := by decide +kernel
theorem dS_confirmLeast_5 : decode cS_confirmLeast 5 = .ok (.if_icmp .ge 37, 3) := by decide +kernel
theorem dS_confirmLeast_8 : decode cS_confirmLeast 8 = .ok (.aload_n 0, 1) := by decide +kernel
theorem dS_confirmLeast_9 : decode cS_confirmLeast 9 = .ok (.aload_n 1, 1) := by decide +kernel
theorem dS_confirmLeast_10 : decode cS_confirmLeast 10 = .ok (.iload_n 2, 1) := by decide +kernel
theorem dS_confirmLeast_11 : decode cS_confirmLeast 11 = .ok (.invokevirtual 201, 3) := by decide +kernel
theorem dS_confirmLeast_14 : decode cS_confirmLeast 14 = .ok (.ifCond .eq 22, 3) := by decide +kernel
theorem dS_confirmLeast_17 : decode cS_confirmLeast 17 = .ok (.aload_n 1, 1) := by decide +kernel
theorem dS_confirmLeast_18 : decode cS_confirmLeast 18 = .ok (.dup, 1) := by decide +kernel
theorem dS_confirmLeast_19 : decode cS_confirmLeast 19 = .ok (.getfield 109, 3) := by decide +kernel
theorem dS_confirmLeast_22 : decode cS_confirmLeast 22 = .ok (.iconst 1, 1) := by decide +kernel
theorem dS_confirmLeast_23 : decode cS_confirmLeast 23 = .ok (.iload_n 2, 1) := by decide +kernel
theorem dS_confirmLeast_24 : decode cS_confirmLeast 24 = .ok (.ishl, 1) := by decide +kernel
theorem dS_confirmLeast_25 : decode cS_confirmLeast 25 = .ok (.ior, 1) := by decide +kernel
theorem dS_confirmLeast_26 : decode cS_confirmLeast 26 = .ok (.putfield 109, 3) := by decide +kernel
theorem dS_confirmLeast_29 : decode cS_confirmLeast 29 = .ok (.aload_n 1, 1) := by decide +kernel
theorem dS_confirmLeast_30 : decode cS_confirmLeast 30 = .ok (.iload_n 2, 1) := by decide +kernel
theorem dS_confirmLeast_31 : decode cS_confirmLeast 31 = .ok (.invokestatic 204, 3) := by decide +kernel
theorem dS_confirmLeast_34 : decode cS_confirmLeast 34 = .ok (.iconst 1, 1) := by decide +kernel
theorem dS_confirmLeast_35 : decode cS_confirmLeast 35 = .ok (.ireturn, 1) := by decide +kernel
theorem dS_confirmLeast_36 : decode cS_confirmLeast 36 = .ok (.iinc 2 1, 3) := by decide +kernel
theorem dS_confirmLeast_39 : decode cS_confirmLeast 39 = .ok (.goto (-37), 3) := by decide +kernel
theorem dS_confirmLeast_42 : decode cS_confirmLeast 42 = .ok (.iconst 0, 1) := by decide +kernel
theorem dS_confirmLeast_43 : decode cS_confirmLeast 43 = .ok (.ireturn, 1) := by decide +kernel
theorem dS_mayConfirm_0 : decode cS_mayConfirm 0 = .ok (.aload_n 1, 1) := by decide +kernel
theorem dS_mayConfirm_1 : decode cS_mayConfirm 1 = .ok (.getfield 109, 3) := by decide +kernel
theorem dS_mayConfirm_4 : decode cS_mayConfirm 4 = .ok (.iload_n 2, 1) := by decide +kernel
theorem dS_mayConfirm_5 : decode cS_mayConfirm 5 = .ok (.invokestatic 66, 3) := by decide +kernel
theorem dS_mayConfirm_8 : decode cS_mayConfirm 8 = .ok (.ifCond .ne 23, 3) := by decide +kernel
theorem dS_mayConfirm_11 : decode cS_mayConfirm 11 = .ok (.aload_n 0, 1) := by decide +kernel
theorem dS_mayConfirm_12 : decode cS_mayConfirm 12 = .ok (.aload_n 1, 1) := by decide +kernel
theorem dS_mayConfirm_13 : decode cS_mayConfirm 13 = .ok (.aload_n 1, 1) := by decide +kernel
theorem dS_mayConfirm_14 : decode cS_mayConfirm 14 = .ok (.getfield 97, 3) := by decide +kernel
theorem dS_mayConfirm_17 : decode cS_mayConfirm 17 = .ok (.iload_n 2, 1) := by decide +kernel
theorem dS_mayConfirm_18 : decode cS_mayConfirm 18 = .ok (.invokestatic 194, 3) := by decide +kernel
theorem dS_mayConfirm_21 : decode cS_mayConfirm 21 = .ok (.invokevirtual 198, 3) := by decide +kernel
theorem dS_mayConfirm_24 : decode cS_mayConfirm 24 = .ok (.ifCond .eq 7, 3) := by decide +kernel
theorem dS_mayConfirm_27 : decode cS_mayConfirm 27 = .ok (.iconst 1, 1) := by decide +kernel
theorem dS_mayConfirm_28 : decode cS_mayConfirm 28 = .ok (.goto 4, 3) := by decide +kernel
theorem dS_mayConfirm_31 : decode cS_mayConfirm 31 = .ok (.iconst 0, 1) := by decide +kernel
theorem dS_mayConfirm_32 : decode cS_mayConfirm 32 = .ok (.ireturn, 1) := by decide +kernel
theorem dS_decideBy_0 : decode cS_decideBy 0 = .ok (.iload_n 1, 1) := by decide +kernel
theorem dS_decideBy_1 : decode cS_decideBy 1 = .ok (.invokestatic 167, 3) := by decide +kernel
theorem dS_decideBy_4 : decode cS_decideBy 4 = .ok (.ifCond .eq 19, 3) := by decide +kernel
theorem dS_decideBy_7 : decode cS_decideBy 7 = .ok (.aload_n 0, 1) := by decide +kernel
theorem dS_decideBy_8 : decode cS_decideBy 8 = .ok (.getfield 112, 3) := by decide +kernel
theorem dS_decideBy_11 : decode cS_decideBy 11 = .ok (.iconst (-1), 1) := by decide +kernel
theorem dS_decideBy_12 : decode cS_decideBy 12 = .ok (.if_icmp .ne 11, 3) := by decide +kernel
theorem dS_decideBy_15 : decode cS_decideBy 15 = .ok (.aload_n 0, 1) := by decide +kernel
theorem dS_decideBy_16 : decode cS_decideBy 16 = .ok (.iload_n 1, 1) := by decide +kernel
theorem dS_decideBy_17 : decode cS_decideBy 17 = .ok (.invokestatic 164, 3) := by decide +kernel
theorem dS_decideBy_20 : decode cS_decideBy 20 = .ok (.putfield 112, 3) := by decide +kernel
theorem dS_decideBy_23 : decode cS_decideBy 23 = .ok (.return_, 1) := by decide +kernel
theorem dS_voteForCommit_0 : decode cS_voteForCommit 0 = .ok (.aload_n 0, 1) := by decide +kernel
theorem dS_voteForCommit_1 : decode cS_voteForCommit 1 = .ok (.getfield 73, 3) := by decide +kernel
theorem dS_voteForCommit_4 : decode cS_voteForCommit 4 = .ok (.ifCond .ne 5, 3) := by decide +kernel
theorem dS_voteForCommit_7 : decode cS_voteForCommit 7 = .ok (.iconst 0, 1) := by decide +kernel
theorem dS_voteForCommit_8 : decode cS_voteForCommit 8 = .ok (.ireturn, 1) := by decide +kernel
theorem dS_voteForCommit_9 : decode cS_voteForCommit 9 = .ok (.aload_n 0, 1) := by decide +kernel
theorem dS_voteForCommit_10 : decode cS_voteForCommit 10 = .ok (.getfield 73, 3) := by decide +kernel
theorem dS_voteForCommit_13 : decode cS_voteForCommit 13 = .ok (.aload_n 0, 1) := by decide +kernel
theorem dS_voteForCommit_14 : decode cS_voteForCommit 14 = .ok (.getfield 79, 3) := by decide +kernel
theorem dS_voteForCommit_17 : decode cS_voteForCommit 17 = .ok (.invokestatic 82, 3) := by decide +kernel
theorem dS_voteForCommit_20 : decode cS_voteForCommit 20 = .ok (.istore_n 1, 1) := by decide +kernel
theorem dS_voteForCommit_21 : decode cS_voteForCommit 21 = .ok (.iload_n 1, 1) := by decide +kernel
theorem dS_voteForCommit_22 : decode cS_voteForCommit 22 = .ok (.invokestatic 208, 3) := by decide +kernel
theorem dS_voteForCommit_25 : decode cS_voteForCommit 25 = .ok (.istore_n 2, 1) := by decide +kernel
theorem dS_voteForCommit_26 : decode cS_voteForCommit 26 = .ok (.aload_n 0, 1) := by decide +kernel
theorem dS_voteForCommit_27 : decode cS_voteForCommit 27 = .ok (.getfield 93, 3) := by decide +kernel
theorem dS_voteForCommit_30 : decode cS_voteForCommit 30 = .ok (.aload_n 0, 1) := by decide +kernel
theorem dS_voteForCommit_31 : decode cS_voteForCommit 31 = .ok (.getfield 176, 3) := by decide +kernel
theorem dS_voteForCommit_34 : decode cS_voteForCommit 34 = .ok (.iaload, 1) := by decide +kernel
theorem dS_voteForCommit_35 : decode cS_voteForCommit 35 = .ok (.iload_n 2, 1) := by decide +kernel
theorem dS_voteForCommit_36 : decode cS_voteForCommit 36 = .ok (.invokestatic 66, 3) := by decide +kernel
theorem dS_voteForCommit_39 : decode cS_voteForCommit 39 = .ok (.ifCond .ne 26, 3) := by decide +kernel
theorem dS_voteForCommit_42 : decode cS_voteForCommit 42 = .ok (.aload_n 0, 1) := by decide +kernel
theorem dS_voteForCommit_43 : decode cS_voteForCommit 43 = .ok (.getfield 109, 3) := by decide +kernel
theorem dS_voteForCommit_46 : decode cS_voteForCommit 46 = .ok (.iload_n 1, 1) := by decide +kernel
theorem dS_voteForCommit_47 : decode cS_voteForCommit 47 = .ok (.invokestatic 66, 3) := by decide +kernel
theorem dS_voteForCommit_50 : decode cS_voteForCommit 50 = .ok (.ifCond .eq 15, 3) := by decide +kernel
theorem dS_voteForCommit_53 : decode cS_voteForCommit 53 = .ok (.aload_n 0, 1) := by decide +kernel
theorem dS_voteForCommit_54 : decode cS_voteForCommit 54 = .ok (.iload_n 2, 1) := by decide +kernel
theorem dS_voteForCommit_55 : decode cS_voteForCommit 55 = .ok (.invokestatic 85, 3) := by decide +kernel
theorem dS_voteForCommit_58 : decode cS_voteForCommit 58 = .ok (.ifCond .eq 7, 3) := by decide +kernel
theorem dS_voteForCommit_61 : decode cS_voteForCommit 61 = .ok (.iconst 1, 1) := by decide +kernel
theorem dS_voteForCommit_62 : decode cS_voteForCommit 62 = .ok (.goto 4, 3) := by decide +kernel
theorem dS_voteForCommit_65 : decode cS_voteForCommit 65 = .ok (.iconst 0, 1) := by decide +kernel
theorem dS_voteForCommit_66 : decode cS_voteForCommit 66 = .ok (.ireturn, 1) := by decide +kernel
theorem dS_isInQuorumWithin_0 : decode cS_isInQuorumWithin 0 = .ok (.iload_n 2, 1) := by decide +kernel
theorem dS_isInQuorumWithin_1 : decode cS_isInQuorumWithin 1 = .ok (.aload_n 1, 1) := by decide +kernel
theorem dS_isInQuorumWithin_2 : decode cS_isInQuorumWithin 2 = .ok (.getfield 176, 3) := by decide +kernel
theorem dS_isInQuorumWithin_5 : decode cS_isInQuorumWithin 5 = .ok (.invokestatic 66, 3) := by decide +kernel
theorem dS_isInQuorumWithin_8 : decode cS_isInQuorumWithin 8 = .ok (.ifCond .eq 22, 3) := by decide +kernel
theorem dS_isInQuorumWithin_11 : decode cS_isInQuorumWithin 11 = .ok (.aload_n 0, 1) := by decide +kernel
theorem dS_isInQuorumWithin_12 : decode cS_isInQuorumWithin 12 = .ok (.iload_n 2, 1) := by decide +kernel
theorem dS_isInQuorumWithin_13 : decode cS_isInQuorumWithin 13 = .ok (.invokevirtual 121, 3) := by decide +kernel
theorem dS_isInQuorumWithin_16 : decode cS_isInQuorumWithin 16 = .ok (.aload_n 1, 1) := by decide +kernel
theorem dS_isInQuorumWithin_17 : decode cS_isInQuorumWithin 17 = .ok (.getfield 176, 3) := by decide +kernel
theorem dS_isInQuorumWithin_20 : decode cS_isInQuorumWithin 20 = .ok (.invokestatic 66, 3) := by decide +kernel
theorem dS_isInQuorumWithin_23 : decode cS_isInQuorumWithin 23 = .ok (.ifCond .eq 7, 3) := by decide +kernel
theorem dS_isInQuorumWithin_26 : decode cS_isInQuorumWithin 26 = .ok (.iconst 1, 1) := by decide +kernel
theorem dS_isInQuorumWithin_27 : decode cS_isInQuorumWithin 27 = .ok (.goto 4, 3) := by decide +kernel
theorem dS_isInQuorumWithin_30 : decode cS_isInQuorumWithin 30 = .ok (.iconst 0, 1) := by decide +kernel
theorem dS_isInQuorumWithin_31 : decode cS_isInQuorumWithin 31 = .ok (.ireturn, 1) := by decide +kernel
theorem dS_nodesThatSaid_0 : decode cS_nodesThatSaid 0 = .ok (.iconst 0, 1) := by decide +kernel
theorem dS_nodesThatSaid_1 : decode cS_nodesThatSaid 1 = .ok (.istore_n 2, 1) := by decide +kernel
theorem dS_nodesThatSaid_2 : decode cS_nodesThatSaid 2 = .ok (.iconst 0, 1) := by decide +kernel
theorem dS_nodesThatSaid_3 : decode cS_nodesThatSaid 3 = .ok (.istore_n 3, 1) := by decide +kernel
theorem dS_nodesThatSaid_4 : decode cS_nodesThatSaid 4 = .ok (.iload_n 3, 1) := by decide +kernel
theorem dS_nodesThatSaid_5 : decode cS_nodesThatSaid 5 = .ok (.aload_n 0, 1) := by decide +kernel
theorem dS_nodesThatSaid_6 : decode cS_nodesThatSaid 6 = .ok (.arraylength, 1) := by decide +kernel
theorem dS_nodesThatSaid_7 : decode cS_nodesThatSaid 7 = .ok (.if_icmp .ge 25, 3) := by decide +kernel
theorem dS_nodesThatSaid_10 : decode cS_nodesThatSaid 10 = .ok (.aload_n 0, 1) := by decide +kernel
theorem dS_nodesThatSaid_11 : decode cS_nodesThatSaid 11 = .ok (.iload_n 3, 1) := by decide +kernel
theorem dS_nodesThatSaid_12 : decode cS_nodesThatSaid 12 = .ok (.iaload, 1) := by decide +kernel
theorem dS_nodesThatSaid_13 : decode cS_nodesThatSaid 13 = .ok (.iload_n 1, 1) := by decide +kernel
theorem dS_nodesThatSaid_14 : decode cS_nodesThatSaid 14 = .ok (.invokestatic 66, 3) := by decide +kernel
theorem dS_nodesThatSaid_17 : decode cS_nodesThatSaid 17 = .ok (.ifCond .eq 9, 3) := by decide +kernel
theorem dS_nodesThatSaid_20 : decode cS_nodesThatSaid 20 = .ok (.iload_n 2, 1) := by decide +kernel
theorem dS_nodesThatSaid_21 : decode cS_nodesThatSaid 21 = .ok (.iconst 1, 1) := by decide +kernel
theorem dS_nodesThatSaid_22 : decode cS_nodesThatSaid 22 = .ok (.iload_n 3, 1) := by decide +kernel
theorem dS_nodesThatSaid_23 : decode cS_nodesThatSaid 23 = .ok (.ishl, 1) := by decide +kernel
theorem dS_nodesThatSaid_24 : decode cS_nodesThatSaid 24 = .ok (.ior, 1) := by decide +kernel
theorem dS_nodesThatSaid_25 : decode cS_nodesThatSaid 25 = .ok (.istore_n 2, 1) := by decide +kernel
theorem dS_nodesThatSaid_26 : decode cS_nodesThatSaid 26 = .ok (.iinc 3 1, 3) := by decide +kernel
theorem dS_nodesThatSaid_29 : decode cS_nodesThatSaid 29 = .ok (.goto (-25), 3) := by decide +kernel
theorem dS_nodesThatSaid_32 : decode cS_nodesThatSaid 32 = .ok (.iload_n 2, 1) := by decide +kernel
theorem dS_nodesThatSaid_33 : decode cS_nodesThatSaid 33 = .ok (.ireturn, 1) := by decide +kernel
theorem dN_init_0 : decode cN_init 0 = .ok (.aload_n 0, 1) := by decide +kernel
theorem dN_init_1 : decode cN_init 1 = .ok (.invokespecial 3, 3) := by decide +kernel
theorem dN_init_4 : decode cN_init 4 = .ok (.aload_n 0, 1) := by decide +kernel
theorem dN_init_5 : decode cN_init 5 = .ok (.iload_n 1, 1) := by decide +kernel
theorem dN_init_6 : decode cN_init 6 = .ok (.putfield 9, 3) := by decide +kernel
theorem dN_init_9 : decode cN_init 9 = .ok (.aload_n 0, 1) := by decide +kernel
theorem dN_init_10 : decode cN_init 10 = .ok (.iload_n 2, 1) := by decide +kernel
theorem dN_init_11 : decode cN_init 11 = .ok (.newarray .int, 2) := by decide +kernel
theorem dN_init_13 : decode cN_init 13 = .ok (.putfield 15, 3) := by decide +kernel
theorem dN_init_16 : decode cN_init 16 = .ok (.aload_n 0, 1) := by decide +kernel
theorem dN_init_17 : decode cN_init 17 = .ok (.iload_n 2, 1) := by decide +kernel
theorem dN_init_18 : decode cN_init 18 = .ok (.newarray .int, 2) := by decide +kernel
theorem dN_init_20 : decode cN_init 20 = .ok (.putfield 19, 3) := by decide +kernel
theorem dN_init_23 : decode cN_init 23 = .ok (.aload_n 0, 1) := by decide +kernel
theorem dN_init_24 : decode cN_init 24 = .ok (.iconst 0, 1) := by decide +kernel
theorem dN_init_25 : decode cN_init 25 = .ok (.putfield 22, 3) := by decide +kernel
theorem dN_init_28 : decode cN_init 28 = .ok (.aload_n 0, 1) := by decide +kernel
theorem dN_init_29 : decode cN_init 29 = .ok (.iconst 0, 1) := by decide +kernel
theorem dN_init_30 : decode cN_init 30 = .ok (.putfield 25, 3) := by decide +kernel
theorem dN_init_33 : decode cN_init 33 = .ok (.aload_n 0, 1) := by decide +kernel
theorem dN_init_34 : decode cN_init 34 = .ok (.iconst 0, 1) := by decide +kernel
theorem dN_init_35 : decode cN_init 35 = .ok (.putfield 28, 3) := by decide +kernel
theorem dN_init_38 : decode cN_init 38 = .ok (.aload_n 0, 1) := by decide +kernel
theorem dN_init_39 : decode cN_init 39 = .ok (.iconst (-1), 1) := by decide +kernel
theorem dN_init_40 : decode cN_init 40 = .ok (.putfield 31, 3) := by decide +kernel
theorem dN_init_43 : decode cN_init 43 = .ok (.aload_n 0, 1) := by decide +kernel
theorem dN_init_44 : decode cN_init 44 = .ok (.aconst_null, 1) := by decide +kernel
theorem dN_init_45 : decode cN_init 45 = .ok (.putfield 34, 3) := by decide +kernel
theorem dN_init_48 : decode cN_init 48 = .ok (.aload_n 0, 1) := by decide +kernel
theorem dN_init_49 : decode cN_init 49 = .ok (.iconst 0, 1) := by decide +kernel
theorem dN_init_50 : decode cN_init 50 = .ok (.putfield 38, 3) := by decide +kernel
theorem dN_init_53 : decode cN_init 53 = .ok (.return_, 1) := by decide +kernel
theorem dQ_init_0 : decode cQ_init 0 = .ok (.aload_n 0, 1) := by decide +kernel
theorem dQ_init_1 : decode cQ_init 1 = .ok (.invokespecial 1, 3) := by decide +kernel
theorem dQ_init_4 : decode cQ_init 4 = .ok (.aload_n 0, 1) := by decide +kernel
theorem dQ_init_5 : decode cQ_init 5 = .ok (.aload_n 1, 1) := by decide +kernel
theorem dQ_init_6 : decode cQ_init 6 = .ok (.putfield 7, 3) := by decide +kernel
theorem dQ_init_9 : decode cQ_init 9 = .ok (.aload_n 0, 1) := by decide +kernel
theorem dQ_init_10 : decode cQ_init 10 = .ok (.iload_n 2, 1) := by decide +kernel
theorem dQ_init_11 : decode cQ_init 11 = .ok (.putfield 13, 3) := by decide +kernel
theorem dQ_init_14 : decode cQ_init 14 = .ok (.aload_n 0, 1) := by decide +kernel
theorem dQ_init_15 : decode cQ_init 15 = .ok (.iload_n 3, 1) := by decide +kernel
theorem dQ_init_16 : decode cQ_init 16 = .ok (.putfield 17, 3) := by decide +kernel
theorem dQ_init_19 : decode cQ_init 19 = .ok (.aload_n 0, 1) := by decide +kernel
theorem dQ_init_20 : decode cQ_init 20 = .ok (.iconst 0, 1) := by decide +kernel
theorem dQ_init_21 : decode cQ_init 21 = .ok (.putfield 20, 3) := by decide +kernel
theorem dQ_init_24 : decode cQ_init 24 = .ok (.aload_n 0, 1) := by decide +kernel
theorem dQ_init_25 : decode cQ_init 25 = .ok (.aconst_null, 1) := by decide +kernel
theorem dQ_init_26 : decode cQ_init 26 = .ok (.putfield 23, 3) := by decide +kernel
theorem dQ_init_29 : decode cQ_init 29 = .ok (.aload_n 0, 1) := by decide +kernel
theorem dQ_init_30 : decode cQ_init 30 = .ok (.aconst_null, 1) := by decide +kernel
theorem dQ_init_31 : decode cQ_init 31 = .ok (.putfield 27, 3) := by decide +kernel
theorem dQ_init_34 : decode cQ_init 34 = .ok (.return_, 1) := by decide +kernel
theorem dL_cell_0 : decode cL_cell 0 = .ok (.iload_n 1, 1) := by decide +kernel
theorem dL_cell_1 : decode cL_cell 1 = .ok (.aload_n 0, 1) := by decide +kernel
theorem dL_cell_2 : decode cL_cell 2 = .ok (.arraylength, 1) := by decide +kernel
theorem dL_cell_3 : decode cL_cell 3 = .ok (.if_icmp .ge 9, 3) := by decide +kernel
theorem dL_cell_6 : decode cL_cell 6 = .ok (.aload_n 0, 1) := by decide +kernel
theorem dL_cell_7 : decode cL_cell 7 = .ok (.iload_n 1, 1) := by decide +kernel
theorem dL_cell_8 : decode cL_cell 8 = .ok (.iaload, 1) := by decide +kernel
theorem dL_cell_9 : decode cL_cell 9 = .ok (.goto 4, 3) := by decide +kernel
theorem dL_cell_12 : decode cL_cell 12 = .ok (.iconst 0, 1) := by decide +kernel
theorem dL_cell_13 : decode cL_cell 13 = .ok (.ireturn, 1) := by decide +kernel
theorem dJ_bitCount_0 : decode cJ_bitCount 0 = .ok (.iload_n 0, 1) := by decide +kernel
theorem dJ_bitCount_1 : decode cJ_bitCount 1 = .ok (.iload_n 0, 1) := by decide +kernel
theorem dJ_bitCount_2 : decode cJ_bitCount 2 = .ok (.iconst 1, 1) := by decide +kernel
theorem dJ_bitCount_3 : decode cJ_bitCount 3 = .ok (.iushr, 1) := by decide +kernel
theorem dJ_bitCount_4 : decode cJ_bitCount 4 = .ok (.ldc_w 265, 3) := by decide +kernel
theorem dJ_bitCount_7 : decode cJ_bitCount 7 = .ok (.iand, 1) := by decide +kernel
theorem dJ_bitCount_8 : decode cJ_bitCount 8 = .ok (.isub, 1) := by decide +kernel
theorem dJ_bitCount_9 : decode cJ_bitCount 9 = .ok (.istore_n 0, 1) := by decide +kernel
theorem dJ_bitCount_10 : decode cJ_bitCount 10 = .ok (.iload_n 0, 1) := by decide +kernel
theorem dJ_bitCount_11 : decode cJ_bitCount 11 = .ok (.ldc_w 266, 3) := by decide +kernel
theorem dJ_bitCount_14 : decode cJ_bitCount 14 = .ok (.iand, 1) := by decide +kernel
theorem dJ_bitCount_15 : decode cJ_bitCount 15 = .ok (.iload_n 0, 1) := by decide +kernel
theorem dJ_bitCount_16 : decode cJ_bitCount 16 = .ok (.iconst 2, 1) := by decide +kernel
theorem dJ_bitCount_17 : decode cJ_bitCount 17 = .ok (.iushr, 1) := by decide +kernel
theorem dJ_bitCount_18 : decode cJ_bitCount 18 = .ok (.ldc_w 266, 3) := by decide +kernel
theorem dJ_bitCount_21 : decode cJ_bitCount 21 = .ok (.iand, 1) := by decide +kernel
theorem dJ_bitCount_22 : decode cJ_bitCount 22 = .ok (.iadd, 1) := by decide +kernel
theorem dJ_bitCount_23 : decode cJ_bitCount 23 = .ok (.istore_n 0, 1) := by decide +kernel
theorem dJ_bitCount_24 : decode cJ_bitCount 24 = .ok (.iload_n 0, 1) := by decide +kernel
theorem dJ_bitCount_25 : decode cJ_bitCount 25 = .ok (.iload_n 0, 1) := by decide +kernel
theorem dJ_bitCount_26 : decode cJ_bitCount 26 = .ok (.iconst 4, 1) := by decide +kernel
theorem dJ_bitCount_27 : decode cJ_bitCount 27 = .ok (.iushr, 1) := by decide +kernel
theorem dJ_bitCount_28 : decode cJ_bitCount 28 = .ok (.iadd, 1) := by decide +kernel
theorem dJ_bitCount_29 : decode cJ_bitCount 29 = .ok (.ldc_w 267, 3) := by decide +kernel
theorem dJ_bitCount_32 : decode cJ_bitCount 32 = .ok (.iand, 1) := by decide +kernel
theorem dJ_bitCount_33 : decode cJ_bitCount 33 = .ok (.istore_n 0, 1) := by decide +kernel
theorem dJ_bitCount_34 : decode cJ_bitCount 34 = .ok (.iload_n 0, 1) := by decide +kernel
theorem dJ_bitCount_35 : decode cJ_bitCount 35 = .ok (.iload_n 0, 1) := by decide +kernel
theorem dJ_bitCount_36 : decode cJ_bitCount 36 = .ok (.bipush 8, 2) := by decide +kernel
theorem dJ_bitCount_38 : decode cJ_bitCount 38 = .ok (.iushr, 1) := by decide +kernel
theorem dJ_bitCount_39 : decode cJ_bitCount 39 = .ok (.iadd, 1) := by decide +kernel
theorem dJ_bitCount_40 : decode cJ_bitCount 40 = .ok (.istore_n 0, 1) := by decide +kernel
theorem dJ_bitCount_41 : decode cJ_bitCount 41 = .ok (.iload_n 0, 1) := by decide +kernel
theorem dJ_bitCount_42 : decode cJ_bitCount 42 = .ok (.iload_n 0, 1) := by decide +kernel
theorem dJ_bitCount_43 : decode cJ_bitCount 43 = .ok (.bipush 16, 2) := by decide +kernel
theorem dJ_bitCount_45 : decode cJ_bitCount 45 = .ok (.iushr, 1) := by decide +kernel
theorem dJ_bitCount_46 : decode cJ_bitCount 46 = .ok (.iadd, 1) := by decide +kernel
theorem dJ_bitCount_47 : decode cJ_bitCount 47 = .ok (.istore_n 0, 1) := by decide +kernel
theorem dJ_bitCount_48 : decode cJ_bitCount 48 = .ok (.iload_n 0, 1) := by decide +kernel
theorem dJ_bitCount_49 : decode cJ_bitCount 49 = .ok (.bipush 63, 2) := by decide +kernel
theorem dJ_bitCount_51 : decode cJ_bitCount 51 = .ok (.iand, 1) := by decide +kernel
theorem dJ_bitCount_52 : decode cJ_bitCount 52 = .ok (.ireturn, 1) := by decide +kernel
end
section
theorem dM_init_0 : decode cM_init 0 = .ok (.aload_n 0, 1) := by decide +kernel
theorem dM_init_1 : decode cM_init 1 = .ok (.invokespecial 1, 3) := by decide +kernel
theorem dM_init_4 : decode cM_init 4 = .ok (.aload_n 0, 1) := by decide +kernel
theorem dM_init_5 : decode cM_init 5 = .ok (.bipush 24, 2) := by decide +kernel
theorem dM_init_7 : decode cM_init 7 = .ok (.newarray .int, 2) := by decide +kernel
theorem dM_init_9 : decode cM_init 9 = .ok (.putfield 7, 3) := by decide +kernel
theorem dM_init_12 : decode cM_init 12 = .ok (.aload_n 0, 1) := by decide +kernel
theorem dM_init_13 : decode cM_init 13 = .ok (.bipush 24, 2) := by decide +kernel
theorem dM_init_15 : decode cM_init 15 = .ok (.newarray .int, 2) := by decide +kernel
theorem dM_init_17 : decode cM_init 17 = .ok (.putfield 13, 3) := by decide +kernel
theorem dM_init_20 : decode cM_init 20 = .ok (.aload_n 0, 1) := by decide +kernel
theorem dM_init_21 : decode cM_init 21 = .ok (.bipush 24, 2) := by decide +kernel
theorem dM_init_23 : decode cM_init 23 = .ok (.newarray .int, 2) := by decide +kernel
theorem dM_init_25 : decode cM_init 25 = .ok (.putfield 16, 3) := by decide +kernel
theorem dM_init_28 : decode cM_init 28 = .ok (.aload_n 0, 1) := by decide +kernel
theorem dM_init_29 : decode cM_init 29 = .ok (.bipush 24, 2) := by decide +kernel
theorem dM_init_31 : decode cM_init 31 = .ok (.newarray .int, 2) := by decide +kernel
theorem dM_init_33 : decode cM_init 33 = .ok (.putfield 19, 3) := by decide +kernel
theorem dM_init_36 : decode cM_init 36 = .ok (.aload_n 0, 1) := by decide +kernel
theorem dM_init_37 : decode cM_init 37 = .ok (.bipush 24, 2) := by decide +kernel
theorem dM_init_39 : decode cM_init 39 = .ok (.newarray .int, 2) := by decide +kernel
theorem dM_init_41 : decode cM_init 41 = .ok (.putfield 22, 3) := by decide +kernel
theorem dM_init_44 : decode cM_init 44 = .ok (.aload_n 0, 1) := by decide +kernel
theorem dM_init_45 : decode cM_init 45 = .ok (.bipush 24, 2) := by decide +kernel
theorem dM_init_47 : decode cM_init 47 = .ok (.newarray .boolean, 2) := by decide +kernel
theorem dM_init_49 : decode cM_init 49 = .ok (.putfield 25, 3) := by decide +kernel
theorem dM_init_52 : decode cM_init 52 = .ok (.aload_n 0, 1) := by decide +kernel
theorem dM_init_53 : decode cM_init 53 = .ok (.bipush 6, 2) := by decide +kernel
theorem dM_init_55 : decode cM_init 55 = .ok (.newarray .boolean, 2) := by decide +kernel
theorem dM_init_57 : decode cM_init 57 = .ok (.putfield 29, 3) := by decide +kernel
theorem dM_init_60 : decode cM_init 60 = .ok (.aload_n 0, 1) := by decide +kernel
theorem dM_init_61 : decode cM_init 61 = .ok (.bipush 6, 2) := by decide +kernel
theorem dM_init_63 : decode cM_init 63 = .ok (.newarray .int, 2) := by decide +kernel
theorem dM_init_65 : decode cM_init 65 = .ok (.putfield 32, 3) := by decide +kernel
theorem dM_init_68 : decode cM_init 68 = .ok (.aload_n 0, 1) := by decide +kernel
theorem dM_init_69 : decode cM_init 69 = .ok (.bipush 6, 2) := by decide +kernel
theorem dM_init_71 : decode cM_init 71 = .ok (.newarray .int, 2) := by decide +kernel
theorem dM_init_73 : decode cM_init 73 = .ok (.putfield 35, 3) := by decide +kernel
theorem dM_init_76 : decode cM_init 76 = .ok (.aload_n 0, 1) := by decide +kernel
theorem dM_init_77 : decode cM_init 77 = .ok (.bipush 6, 2) := by decide +kernel
theorem dM_init_79 : decode cM_init 79 = .ok (.newarray .int, 2) := by decide +kernel
theorem dM_init_81 : decode cM_init 81 = .ok (.putfield 38, 3) := by decide +kernel
theorem dM_init_84 : decode cM_init 84 = .ok (.aload_n 0, 1) := by decide +kernel
theorem dM_init_85 : decode cM_init 85 = .ok (.bipush 6, 2) := by decide +kernel
theorem dM_init_87 : decode cM_init 87 = .ok (.newarray .int, 2) := by decide +kernel
theorem dM_init_89 : decode cM_init 89 = .ok (.putfield 41, 3) := by decide +kernel
theorem dM_init_92 : decode cM_init 92 = .ok (.aload_n 0, 1) := by decide +kernel
theorem dM_init_93 : decode cM_init 93 = .ok (.bipush 6, 2) := by decide +kernel
theorem dM_init_95 : decode cM_init 95 = .ok (.newarray .int, 2) := by decide +kernel
theorem dM_init_97 : decode cM_init 97 = .ok (.putfield 44, 3) := by decide +kernel
theorem dM_init_100 : decode cM_init 100 = .ok (.aload_n 0, 1) := by decide +kernel
theorem dM_init_101 : decode cM_init 101 = .ok (.bipush 6, 2) := by decide +kernel
theorem dM_init_103 : decode cM_init 103 = .ok (.newarray .int, 2) := by decide +kernel
theorem dM_init_105 : decode cM_init 105 = .ok (.putfield 47, 3) := by decide +kernel
theorem dM_init_108 : decode cM_init 108 = .ok (.aload_n 0, 1) := by decide +kernel
theorem dM_init_109 : decode cM_init 109 = .ok (.bipush 36, 2) := by decide +kernel
theorem dM_init_111 : decode cM_init 111 = .ok (.newarray .int, 2) := by decide +kernel
theorem dM_init_113 : decode cM_init 113 = .ok (.putfield 50, 3) := by decide +kernel
theorem dM_init_116 : decode cM_init 116 = .ok (.aload_n 0, 1) := by decide +kernel
theorem dM_init_117 : decode cM_init 117 = .ok (.bipush 36, 2) := by decide +kernel
theorem dM_init_119 : decode cM_init 119 = .ok (.newarray .int, 2) := by decide +kernel
theorem dM_init_121 : decode cM_init 121 = .ok (.putfield 53, 3) := by decide +kernel
theorem dM_init_124 : decode cM_init 124 = .ok (.aload_n 0, 1) := by decide +kernel
theorem dM_init_125 : decode cM_init 125 = .ok (.bipush 64, 2) := by decide +kernel
theorem dM_init_127 : decode cM_init 127 = .ok (.newarray .boolean, 2) := by decide +kernel
theorem dM_init_129 : decode cM_init 129 = .ok (.putfield 56, 3) := by decide +kernel
theorem dM_init_132 : decode cM_init 132 = .ok (.aload_n 0, 1) := by decide +kernel
theorem dM_init_133 : decode cM_init 133 = .ok (.iload_n 1, 1) := by decide +kernel
theorem dM_init_134 : decode cM_init 134 = .ok (.iconst 1, 1) := by decide +kernel
theorem dM_init_135 : decode cM_init 135 = .ok (.if_icmp .ge 7, 3) := by decide +kernel
theorem dM_init_138 : decode cM_init 138 = .ok (.iconst 1, 1) := by decide +kernel
theorem dM_init_139 : decode cM_init 139 = .ok (.goto 15, 3) := by decide +kernel
theorem dM_init_142 : decode cM_init 142 = .ok (.iload_n 1, 1) := by decide +kernel
theorem dM_init_143 : decode cM_init 143 = .ok (.bipush 6, 2) := by decide +kernel
theorem dM_init_145 : decode cM_init 145 = .ok (.if_icmp .le 8, 3) := by decide +kernel
theorem dM_init_148 : decode cM_init 148 = .ok (.bipush 6, 2) := by decide +kernel
theorem dM_init_150 : decode cM_init 150 = .ok (.goto 4, 3) := by decide +kernel
theorem dM_init_153 : decode cM_init 153 = .ok (.iload_n 1, 1) := by decide +kernel
theorem dM_init_154 : decode cM_init 154 = .ok (.putfield 59, 3) := by decide +kernel
theorem dM_init_157 : decode cM_init 157 = .ok (.iconst 0, 1) := by decide +kernel
theorem dM_init_158 : decode cM_init 158 = .ok (.istore_n 2, 1) := by decide +kernel
theorem dM_init_159 : decode cM_init 159 = .ok (.iload_n 2, 1) := by decide +kernel
theorem dM_init_160 : decode cM_init 160 = .ok (.bipush 6, 2) := by decide +kernel
theorem dM_init_162 : decode cM_init 162 = .ok (.if_icmp .ge 16, 3) := by decide +kernel
theorem dM_init_165 : decode cM_init 165 = .ok (.aload_n 0, 1) := by decide +kernel
theorem dM_init_166 : decode cM_init 166 = .ok (.getfield 47, 3) := by decide +kernel
theorem dM_init_169 : decode cM_init 169 = .ok (.iload_n 2, 1) := by decide +kernel
theorem dM_init_170 : decode cM_init 170 = .ok (.iconst (-1), 1) := by decide +kernel
theorem dM_init_171 : decode cM_init 171 = .ok (.iastore, 1) := by decide +kernel
theorem dM_init_172 : decode cM_init 172 = .ok (.iinc 2 1, 3) := by decide +kernel
theorem dM_init_175 : decode cM_init 175 = .ok (.goto (-16), 3) := by decide +kernel
theorem dM_init_178 : decode cM_init 178 = .ok (.return_, 1) := by decide +kernel
theorem dM_isNode_0 : decode cM_isNode 0 = .ok (.iload_n 1, 1) := by decide +kernel
theorem dM_isNode_1 : decode cM_isNode 1 = .ok (.ifCond .lt 15, 3) := by decide +kernel
theorem dM_isNode_4 : decode cM_isNode 4 = .ok (.iload_n 1, 1) := by decide +kernel
theorem dM_isNode_5 : decode cM_isNode 5 = .ok (.aload_n 0, 1) := by decide +kernel
theorem dM_isNode_6 : decode cM_isNode 6 = .ok (.getfield 59, 3) := by decide +kernel
theorem dM_isNode_9 : decode cM_isNode 9 = .ok (.if_icmp .ge 7, 3) := by decide +kernel
theorem dM_isNode_12 : decode cM_isNode 12 = .ok (.iconst 1, 1) := by decide +kernel
theorem dM_isNode_13 : decode cM_isNode 13 = .ok (.goto 4, 3) := by decide +kernel
theorem dM_isNode_16 : decode cM_isNode 16 = .ok (.iconst 0, 1) := by decide +kernel
theorem dM_isNode_17 : decode cM_isNode 17 = .ok (.ireturn, 1) := by decide +kernel
theorem dM_well_0 : decode cM_well 0 = .ok (.aload_n 0, 1) := by decide +kernel
theorem dM_well_1 : decode cM_well 1 = .ok (.iload_n 1, 1) := by decide +kernel
theorem dM_well_2 : decode cM_well 2 = .ok (.invokevirtual 63, 3) := by decide +kernel
theorem dM_well_5 : decode cM_well 5 = .ok (.ifCond .eq 16, 3) := by decide +kernel
theorem dM_well_8 : decode cM_well 8 = .ok (.aload_n 0, 1) := by decide +kernel
theorem dM_well_9 : decode cM_well 9 = .ok (.getfield 29, 3) := by decide +kernel
theorem dM_well_12 : decode cM_well 12 = .ok (.iload_n 1, 1) := by decide +kernel
theorem dM_well_13 : decode cM_well 13 = .ok (.baload, 1) := by decide +kernel
theorem dM_well_14 : decode cM_well 14 = .ok (.ifCond .ne 7, 3) := by decide +kernel
theorem dM_well_17 : decode cM_well 17 = .ok (.iconst 1, 1) := by decide +kernel
theorem dM_well_18 : decode cM_well 18 = .ok (.goto 4, 3) := by decide +kernel
theorem dM_well_21 : decode cM_well 21 = .ok (.iconst 0, 1) := by decide +kernel
theorem dM_well_22 : decode cM_well 22 = .ok (.ireturn, 1) := by decide +kernel
theorem dM_isSet_0 : decode cM_isSet 0 = .ok (.iload_n 1, 1) := by decide +kernel
theorem dM_isSet_1 : decode cM_isSet 1 = .ok (.ifCond .lt 17, 3) := by decide +kernel
theorem dM_isSet_4 : decode cM_isSet 4 = .ok (.iload_n 1, 1) := by decide +kernel
theorem dM_isSet_5 : decode cM_isSet 5 = .ok (.iconst 1, 1) := by decide +kernel
theorem dM_isSet_6 : decode cM_isSet 6 = .ok (.aload_n 0, 1) := by decide +kernel
theorem dM_isSet_7 : decode cM_isSet 7 = .ok (.getfield 59, 3) := by decide +kernel
theorem dM_isSet_10 : decode cM_isSet 10 = .ok (.ishl, 1) := by decide +kernel
theorem dM_isSet_11 : decode cM_isSet 11 = .ok (.if_icmp .ge 7, 3) := by decide +kernel
theorem dM_isSet_14 : decode cM_isSet 14 = .ok (.iconst 1, 1) := by decide +kernel
theorem dM_isSet_15 : decode cM_isSet 15 = .ok (.goto 4, 3) := by decide +kernel
theorem dM_isSet_18 : decode cM_isSet 18 = .ok (.iconst 0, 1) := by decide +kernel
theorem dM_isSet_19 : decode cM_isSet 19 = .ok (.ireturn, 1) := by decide +kernel
theorem dM_top_0 : decode cM_top 0 = .ok (.iconst (-1), 1) := by decide +kernel
theorem dM_top_1 : decode cM_top 1 = .ok (.istore_n 2, 1) := by decide +kernel
theorem dM_top_2 : decode cM_top 2 = .ok (.iconst 0, 1) := by decide +kernel
theorem dM_top_3 : decode cM_top 3 = .ok (.istore_n 3, 1) := by decide +kernel
theorem dM_top_4 : decode cM_top 4 = .ok (.iload_n 3, 1) := by decide +kernel
theorem dM_top_5 : decode cM_top 5 = .ok (.aload_n 0, 1) := by decide +kernel
theorem dM_top_6 : decode cM_top 6 = .ok (.getfield 67, 3) := by decide +kernel
theorem dM_top_9 : decode cM_top 9 = .ok (.if_icmp .ge 35, 3) := by decide +kernel
theorem dM_top_12 : decode cM_top 12 = .ok (.aload_n 0, 1) := by decide +kernel
theorem dM_top_13 : decode cM_top 13 = .ok (.getfield 7, 3) := by decide +kernel
theorem dM_top_16 : decode cM_top 16 = .ok (.iload_n 3, 1) := by decide +kernel
theorem dM_top_17 : decode cM_top 17 = .ok (.iaload, 1) := by decide +kernel
theorem dM_top_18 : decode cM_top 18 = .ok (.iload_n 1, 1) := by decide +kernel
theorem dM_top_19 : decode cM_top 19 = .ok (.if_icmp .ne 17, 3) := by decide +kernel
theorem dM_top_22 : decode cM_top 22 = .ok (.aload_n 0, 1) := by decide +kernel
theorem dM_top_23 : decode cM_top 23 = .ok (.getfield 13, 3) := by decide +kernel
theorem dM_top_26 : decode cM_top 26 = .ok (.iload_n 3, 1) := by decide +kernel
theorem dM_top_27 : decode cM_top 27 = .ok (.iaload, 1) := by decide +kernel
theorem dM_top_28 : decode cM_top 28 = .ok (.iconst (-1), 1) := by decide +kernel
theorem dM_top_29 : decode cM_top 29 = .ok (.if_icmp .ne 7, 3) := by decide +kernel
theorem dM_top_32 : decode cM_top 32 = .ok (.iload_n 3, 1) := by decide +kernel
theorem dM_top_33 : decode cM_top 33 = .ok (.goto 4, 3) := by decide +kernel
theorem dM_top_36 : decode cM_top 36 = .ok (.iload_n 2, 1) := by decide +kernel
theorem dM_top_37 : decode cM_top 37 = .ok (.istore_n 2, 1) := by decide +kernel
theorem dM_top_38 : decode cM_top 38 = .ok (.iinc 3 1, 3) := by decide +kernel
theorem dM_top_41 : decode cM_top 41 = .ok (.goto (-37), 3) := by decide +kernel
theorem dM_top_44 : decode cM_top 44 = .ok (.iload_n 2, 1) := by decide +kernel
theorem dM_top_45 : decode cM_top 45 = .ok (.ireturn, 1) := by decide +kernel
theorem dM_quota_0 : decode cM_quota 0 = .ok (.aload_n 0, 1) := by decide +kernel
theorem dM_quota_1 : decode cM_quota 1 = .ok (.getfield 70, 3) := by decide +kernel
theorem dM_quota_4 : decode cM_quota 4 = .ok (.ifCond .ne 35, 3) := by decide +kernel
theorem dM_quota_7 : decode cM_quota 7 = .ok (.aload_n 0, 1) := by decide +kernel
theorem dM_quota_8 : decode cM_quota 8 = .ok (.iload_n 1, 1) := by decide +kernel
theorem dM_quota_9 : decode cM_quota 9 = .ok (.invokevirtual 63, 3) := by decide +kernel
theorem dM_quota_12 : decode cM_quota 12 = .ok (.ifCond .eq 27, 3) := by decide +kernel
theorem dM_quota_15 : decode cM_quota 15 = .ok (.iload_n 3, 1) := by decide +kernel
theorem dM_quota_16 : decode cM_quota 16 = .ok (.iconst 1, 1) := by decide +kernel
theorem dM_quota_17 : decode cM_quota 17 = .ok (.if_icmp .lt 22, 3) := by decide +kernel
theorem dM_quota_20 : decode cM_quota 20 = .ok (.iload_n 3, 1) := by decide +kernel
theorem dM_quota_21 : decode cM_quota 21 = .ok (.bipush 9, 2) := by decide +kernel
theorem dM_quota_23 : decode cM_quota 23 = .ok (.if_icmp .gt 16, 3) := by decide +kernel
theorem dM_quota_26 : decode cM_quota 26 = .ok (.iload_n 2, 1) := by decide +kernel
theorem dM_quota_27 : decode cM_quota 27 = .ok (.iconst (-1), 1) := by decide +kernel
theorem dM_quota_28 : decode cM_quota 28 = .ok (.if_icmp .lt 11, 3) := by decide +kernel
theorem dM_quota_31 : decode cM_quota 31 = .ok (.iload_n 2, 1) := by decide +kernel
theorem dM_quota_32 : decode cM_quota 32 = .ok (.aload_n 0, 1) := by decide +kernel
theorem dM_quota_33 : decode cM_quota 33 = .ok (.getfield 67, 3) := by decide +kernel
theorem dM_quota_36 : decode cM_quota 36 = .ok (.if_icmp .lt 5, 3) := by decide +kernel
theorem dM_quota_39 : decode cM_quota 39 = .ok (.iconst (-1), 1) := by decide +kernel
theorem dM_quota_40 : decode cM_quota 40 = .ok (.ireturn, 1) := by decide +kernel
theorem dM_quota_41 : decode cM_quota 41 = .ok (.iconst 0, 1) := by decide +kernel
theorem dM_quota_42 : decode cM_quota 42 = .ok (.istore 4, 2) := by decide +kernel
theorem dM_quota_44 : decode cM_quota 44 = .ok (.iconst 0, 1) := by decide +kernel
theorem dM_quota_45 : decode cM_quota 45 = .ok (.istore 5, 2) := by decide +kernel
theorem dM_quota_47 : decode cM_quota 47 = .ok (.iload 5, 2) := by decide +kernel
theorem dM_quota_49 : decode cM_quota 49 = .ok (.aload_n 0, 1) := by decide +kernel
theorem dM_quota_50 : decode cM_quota 50 = .ok (.getfield 67, 3) := by decide +kernel
theorem dM_quota_53 : decode cM_quota 53 = .ok (.if_icmp .ge 31, 3) := by decide +kernel
theorem dM_quota_56 : decode cM_quota 56 = .ok (.aload_n 0, 1) := by decide +kernel
theorem dM_quota_57 : decode cM_quota 57 = .ok (.getfield 7, 3) := by decide +kernel
theorem dM_quota_60 : decode cM_quota 60 = .ok (.iload 5, 2) := by decide +kernel
theorem dM_quota_62 : decode cM_quota 62 = .ok (.iaload, 1) := by decide +kernel
theorem dM_quota_63 : decode cM_quota 63 = .ok (.iload_n 1, 1) := by decide +kernel
theorem dM_quota_64 : decode cM_quota 64 = .ok (.if_icmp .ne 10, 3) := by decide +kernel
theorem dM_quota_67 : decode cM_quota 67 = .ok (.iload 4, 2) := by decide +kernel
theorem dM_quota_69 : decode cM_quota 69 = .ok (.iconst 1, 1) := by decide +kernel
theorem dM_quota_70 : decode cM_quota 70 = .ok (.iadd, 1) := by decide +kernel
theorem dM_quota_71 : decode cM_quota 71 = .ok (.goto 5, 3) := by decide +kernel
theorem dM_quota_74 : decode cM_quota 74 = .ok (.iload 4, 2) := by decide +kernel
theorem dM_quota_76 : decode cM_quota 76 = .ok (.istore 4, 2) := by decide +kernel
theorem dM_quota_78 : decode cM_quota 78 = .ok (.iinc 5 1, 3) := by decide +kernel
theorem dM_quota_81 : decode cM_quota 81 = .ok (.goto (-34), 3) := by decide +kernel
theorem dM_quota_84 : decode cM_quota 84 = .ok (.iload 4, 2) := by decide +kernel
theorem dM_quota_86 : decode cM_quota 86 = .ok (.iconst 4, 1) := by decide +kernel
theorem dM_quota_87 : decode cM_quota 87 = .ok (.if_icmp .ge 17, 3) := by decide +kernel
theorem dM_quota_90 : decode cM_quota 90 = .ok (.iload_n 2, 1) := by decide +kernel
theorem dM_quota_91 : decode cM_quota 91 = .ok (.iconst (-1), 1) := by decide +kernel
theorem dM_quota_92 : decode cM_quota 92 = .ok (.if_icmp .ne 14, 3) := by decide +kernel
theorem dM_quota_95 : decode cM_quota 95 = .ok (.aload_n 0, 1) := by decide +kernel
theorem dM_quota_96 : decode cM_quota 96 = .ok (.iload_n 1, 1) := by decide +kernel
theorem dM_quota_97 : decode cM_quota 97 = .ok (.invokevirtual 74, 3) := by decide +kernel
theorem dM_quota_100 : decode cM_quota 100 = .ok (.iconst (-1), 1) := by decide +kernel
theorem dM_quota_101 : decode cM_quota 101 = .ok (.if_icmp .eq 5, 3) := by decide +kernel
theorem dM_quota_104 : decode cM_quota 104 = .ok (.iconst (-1), 1) := by decide +kernel
theorem dM_quota_105 : decode cM_quota 105 = .ok (.ireturn, 1) := by decide +kernel
theorem dM_quota_106 : decode cM_quota 106 = .ok (.iload_n 2, 1) := by decide +kernel
theorem dM_quota_107 : decode cM_quota 107 = .ok (.iconst (-1), 1) := by decide +kernel
theorem dM_quota_108 : decode cM_quota 108 = .ok (.if_icmp .eq 25, 3) := by decide +kernel
theorem dM_quota_111 : decode cM_quota 111 = .ok (.aload_n 0, 1) := by decide +kernel
theorem dM_quota_112 : decode cM_quota 112 = .ok (.getfield 7, 3) := by decide +kernel
theorem dM_quota_115 : decode cM_quota 115 = .ok (.iload_n 2, 1) := by decide +kernel
theorem dM_quota_116 : decode cM_quota 116 = .ok (.iaload, 1) := by decide +kernel
theorem dM_quota_117 : decode cM_quota 117 = .ok (.iload_n 1, 1) := by decide +kernel
theorem dM_quota_118 : decode cM_quota 118 = .ok (.if_icmp .ne 13, 3) := by decide +kernel
theorem dM_quota_121 : decode cM_quota 121 = .ok (.aload_n 0, 1) := by decide +kernel
theorem dM_quota_122 : decode cM_quota 122 = .ok (.getfield 16, 3) := by decide +kernel
theorem dM_quota_125 : decode cM_quota 125 = .ok (.iload_n 2, 1) := by decide +kernel
theorem dM_quota_126 : decode cM_quota 126 = .ok (.iaload, 1) := by decide +kernel
theorem dM_quota_127 : decode cM_quota 127 = .ok (.iconst 3, 1) := by decide +kernel
theorem dM_quota_128 : decode cM_quota 128 = .ok (.if_icmp .ne 5, 3) := by decide +kernel
theorem dM_quota_131 : decode cM_quota 131 = .ok (.iconst (-1), 1) := by decide +kernel
theorem dM_quota_132 : decode cM_quota 132 = .ok (.ireturn, 1) := by decide +kernel
theorem dM_quota_133 : decode cM_quota 133 = .ok (.aload_n 0, 1) := by decide +kernel
theorem dM_quota_134 : decode cM_quota 134 = .ok (.getfield 7, 3) := by decide +kernel
theorem dM_quota_137 : decode cM_quota 137 = .ok (.aload_n 0, 1) := by decide +kernel
theorem dM_quota_138 : decode cM_quota 138 = .ok (.getfield 67, 3) := by decide +kernel
theorem dM_quota_141 : decode cM_quota 141 = .ok (.iload_n 1, 1) := by decide +kernel
theorem dM_quota_142 : decode cM_quota 142 = .ok (.iastore, 1) := by decide +kernel
theorem dM_quota_143 : decode cM_quota 143 = .ok (.aload_n 0, 1) := by decide +kernel
theorem dM_quota_144 : decode cM_quota 144 = .ok (.getfield 13, 3) := by decide +kernel
theorem dM_quota_147 : decode cM_quota 147 = .ok (.aload_n 0, 1) := by decide +kernel
theorem dM_quota_148 : decode cM_quota 148 = .ok (.getfield 67, 3) := by decide +kernel
theorem dM_quota_151 : decode cM_quota 151 = .ok (.iload_n 2, 1) := by decide +kernel
theorem dM_quota_152 : decode cM_quota 152 = .ok (.iastore, 1) := by decide +kernel
theorem dM_quota_153 : decode cM_quota 153 = .ok (.aload_n 0, 1) := by decide +kernel
theorem dM_quota_154 : decode cM_quota 154 = .ok (.getfield 16, 3) := by decide +kernel
theorem dM_quota_157 : decode cM_quota 157 = .ok (.aload_n 0, 1) := by decide +kernel
theorem dM_quota_158 : decode cM_quota 158 = .ok (.getfield 67, 3) := by decide +kernel
theorem dM_quota_161 : decode cM_quota 161 = .ok (.iload_n 2, 1) := by decide +kernel
theorem dM_quota_162 : decode cM_quota 162 = .ok (.iconst (-1), 1) := by decide +kernel
theorem dM_quota_163 : decode cM_quota 163 = .ok (.if_icmp .ne 7, 3) := by decide +kernel
theorem dM_quota_166 : decode cM_quota 166 = .ok (.iconst 1, 1) := by decide +kernel
theorem dM_quota_167 : decode cM_quota 167 = .ok (.goto 11, 3) := by decide +kernel
theorem dM_quota_170 : decode cM_quota 170 = .ok (.aload_n 0, 1) := by decide +kernel
theorem dM_quota_171 : decode cM_quota 171 = .ok (.getfield 16, 3) := by decide +kernel
theorem dM_quota_174 : decode cM_quota 174 = .ok (.iload_n 2, 1) := by decide +kernel
theorem dM_quota_175 : decode cM_quota 175 = .ok (.iaload, 1) := by decide +kernel
theorem dM_quota_176 : decode cM_quota 176 = .ok (.iconst 1, 1) := by decide +kernel
theorem dM_quota_177 : decode cM_quota 177 = .ok (.iadd, 1) := by decide +kernel
theorem dM_quota_178 : decode cM_quota 178 = .ok (.iastore, 1) := by decide +kernel
theorem dM_quota_179 : decode cM_quota 179 = .ok (.aload_n 0, 1) := by decide +kernel
theorem dM_quota_180 : decode cM_quota 180 = .ok (.getfield 19, 3) := by decide +kernel
theorem dM_quota_183 : decode cM_quota 183 = .ok (.aload_n 0, 1) := by decide +kernel
theorem dM_quota_184 : decode cM_quota 184 = .ok (.getfield 67, 3) := by decide +kernel
theorem dM_quota_187 : decode cM_quota 187 = .ok (.iload_n 3, 1) := by decide +kernel
theorem dM_quota_188 : decode cM_quota 188 = .ok (.iastore, 1) := by decide +kernel
theorem dM_quota_189 : decode cM_quota 189 = .ok (.aload_n 0, 1) := by decide +kernel
theorem dM_quota_190 : decode cM_quota 190 = .ok (.getfield 22, 3) := by decide +kernel
theorem dM_quota_193 : decode cM_quota 193 = .ok (.aload_n 0, 1) := by decide +kernel
theorem dM_quota_194 : decode cM_quota 194 = .ok (.getfield 67, 3) := by decide +kernel
theorem dM_quota_197 : decode cM_quota 197 = .ok (.iconst 0, 1) := by decide +kernel
theorem dM_quota_198 : decode cM_quota 198 = .ok (.iastore, 1) := by decide +kernel
theorem dM_quota_199 : decode cM_quota 199 = .ok (.aload_n 0, 1) := by decide +kernel
theorem dM_quota_200 : decode cM_quota 200 = .ok (.aload_n 0, 1) := by decide +kernel
theorem dM_quota_201 : decode cM_quota 201 = .ok (.getfield 67, 3) := by decide +kernel
theorem dM_quota_204 : decode cM_quota 204 = .ok (.iconst 1, 1) := by decide +kernel
theorem dM_quota_205 : decode cM_quota 205 = .ok (.iadd, 1) := by decide +kernel
theorem dM_quota_206 : decode cM_quota 206 = .ok (.putfield 67, 3) := by decide +kernel
theorem dM_quota_209 : decode cM_quota 209 = .ok (.aload_n 0, 1) := by decide +kernel
theorem dM_quota_210 : decode cM_quota 210 = .ok (.getfield 67, 3) := by decide +kernel
theorem dM_quota_213 : decode cM_quota 213 = .ok (.iconst 1, 1) := by decide +kernel
theorem dM_quota_214 : decode cM_quota 214 = .ok (.isub, 1) := by decide +kernel
theorem dM_quota_215 : decode cM_quota 215 = .ok (.ireturn, 1) := by decide +kernel
theorem dM_member_0 : decode cM_member 0 = .ok (.aload_n 0, 1) := by decide +kernel
theorem dM_member_1 : decode cM_member 1 = .ok (.getfield 70, 3) := by decide +kernel
theorem dM_member_4 : decode cM_member 4 = .ok (.ifCond .ne 37, 3) := by decide +kernel
theorem dM_member_7 : decode cM_member 7 = .ok (.iload_n 1, 1) := by decide +kernel
theorem dM_member_8 : decode cM_member 8 = .ok (.ifCond .lt 33, 3) := by decide +kernel
theorem dM_member_11 : decode cM_member 11 = .ok (.iload_n 1, 1) := by decide +kernel
theorem dM_member_12 : decode cM_member 12 = .ok (.aload_n 0, 1) := by decide +kernel
theorem dM_member_13 : decode cM_member 13 = .ok (.getfield 67, 3) := by decide +kernel
theorem dM_member_16 : decode cM_member 16 = .ok (.if_icmp .ge 25, 3) := by decide +kernel
theorem dM_member_19 : decode cM_member 19 = .ok (.aload_n 0, 1) := by decide +kernel
theorem dM_member_20 : decode cM_member 20 = .ok (.iload_n 2, 1) := by decide +kernel
theorem dM_member_21 : decode cM_member 21 = .ok (.invokevirtual 63, 3) := by decide +kernel
theorem dM_member_24 : decode cM_member 24 = .ok (.ifCond .eq 17, 3) := by decide +kernel
theorem dM_member_27 : decode cM_member 27 = .ok (.aload_n 0, 1) := by decide +kernel
theorem dM_member_28 : decode cM_member 28 = .ok (.getfield 22, 3) := by decide +kernel
theorem dM_member_31 : decode cM_member 31 = .ok (.iload_n 1, 1) := by decide +kernel
theorem dM_member_32 : decode cM_member 32 = .ok (.iaload, 1) := by decide +kernel
theorem dM_member_33 : decode cM_member 33 = .ok (.iload_n 2, 1) := by decide +kernel
theorem dM_member_34 : decode cM_member 34 = .ok (.ishr, 1) := by decide +kernel
theorem dM_member_35 : decode cM_member 35 = .ok (.iconst 1, 1) := by decide +kernel
theorem dM_member_36 : decode cM_member 36 = .ok (.iand, 1) := by decide +kernel
theorem dM_member_37 : decode cM_member 37 = .ok (.iconst 1, 1) := by decide +kernel
theorem dM_member_38 : decode cM_member 38 = .ok (.if_icmp .ne 5, 3) := by decide +kernel
theorem dM_member_41 : decode cM_member 41 = .ok (.iconst 0, 1) := by decide +kernel
theorem dM_member_42 : decode cM_member 42 = .ok (.ireturn, 1) := by decide +kernel
theorem dM_member_43 : decode cM_member 43 = .ok (.aload_n 0, 1) := by decide +kernel
theorem dM_member_44 : decode cM_member 44 = .ok (.getfield 22, 3) := by decide +kernel
theorem dM_member_47 : decode cM_member 47 = .ok (.iload_n 1, 1) := by decide +kernel
theorem dM_member_48 : decode cM_member 48 = .ok (.aload_n 0, 1) := by decide +kernel
theorem dM_member_49 : decode cM_member 49 = .ok (.getfield 22, 3) := by decide +kernel
theorem dM_member_52 : decode cM_member 52 = .ok (.iload_n 1, 1) := by decide +kernel
theorem dM_member_53 : decode cM_member 53 = .ok (.iaload, 1) := by decide +kernel
theorem dM_member_54 : decode cM_member 54 = .ok (.iconst 1, 1) := by decide +kernel
theorem dM_member_55 : decode cM_member 55 = .ok (.iload_n 2, 1) := by decide +kernel
theorem dM_member_56 : decode cM_member 56 = .ok (.ishl, 1) := by decide +kernel
theorem dM_member_57 : decode cM_member 57 = .ok (.ior, 1) := by decide +kernel
theorem dM_member_58 : decode cM_member 58 = .ok (.iastore, 1) := by decide +kernel
theorem dM_member_59 : decode cM_member 59 = .ok (.iconst 1, 1) := by decide +kernel
theorem dM_member_60 : decode cM_member 60 = .ok (.ireturn, 1) := by decide +kernel
theorem dM_meet_0 : decode cM_meet 0 = .ok (.aload_n 0, 1) := by decide +kernel
theorem dM_meet_1 : decode cM_meet 1 = .ok (.getfield 67, 3) := by decide +kernel
theorem dM_meet_4 : decode cM_meet 4 = .ok (.iconst 1, 1) := by decide +kernel
theorem dM_meet_5 : decode cM_meet 5 = .ok (.isub, 1) := by decide +kernel
theorem dM_meet_6 : decode cM_meet 6 = .ok (.istore_n 2, 1) := by decide +kernel
theorem dM_meet_7 : decode cM_meet 7 = .ok (.iload_n 2, 1) := by decide +kernel
theorem dM_meet_8 : decode cM_meet 8 = .ok (.ifCond .lt 121, 3) := by decide +kernel
theorem dM_meet_11 : decode cM_meet 11 = .ok (.iconst 0, 1) := by decide +kernel
theorem dM_meet_12 : decode cM_meet 12 = .ok (.istore_n 3, 1) := by decide +kernel
theorem dM_meet_13 : decode cM_meet 13 = .ok (.iconst 0, 1) := by decide +kernel
theorem dM_meet_14 : decode cM_meet 14 = .ok (.istore 4, 2) := by decide +kernel
theorem dM_meet_16 : decode cM_meet 16 = .ok (.iload 4, 2) := by decide +kernel
theorem dM_meet_18 : decode cM_meet 18 = .ok (.bipush 6, 2) := by decide +kernel
theorem dM_meet_20 : decode cM_meet 20 = .ok (.if_icmp .ge 33, 3) := by decide +kernel
theorem dM_meet_23 : decode cM_meet 23 = .ok (.aload_n 0, 1) := by decide +kernel
theorem dM_meet_24 : decode cM_meet 24 = .ok (.getfield 22, 3) := by decide +kernel
theorem dM_meet_27 : decode cM_meet 27 = .ok (.iload_n 2, 1) := by decide +kernel
theorem dM_meet_28 : decode cM_meet 28 = .ok (.iaload, 1) := by decide +kernel
theorem dM_meet_29 : decode cM_meet 29 = .ok (.iload_n 1, 1) := by decide +kernel
theorem dM_meet_30 : decode cM_meet 30 = .ok (.iand, 1) := by decide +kernel
theorem dM_meet_31 : decode cM_meet 31 = .ok (.iconst 1, 1) := by decide +kernel
theorem dM_meet_32 : decode cM_meet 32 = .ok (.iload 4, 2) := by decide +kernel
theorem dM_meet_34 : decode cM_meet 34 = .ok (.ishl, 1) := by decide +kernel
theorem dM_meet_35 : decode cM_meet 35 = .ok (.iand, 1) := by decide +kernel
theorem dM_meet_36 : decode cM_meet 36 = .ok (.ifCond .eq 9, 3) := by decide +kernel
theorem dM_meet_39 : decode cM_meet 39 = .ok (.iload_n 3, 1) := by decide +kernel
theorem dM_meet_40 : decode cM_meet 40 = .ok (.iconst 1, 1) := by decide +kernel
theorem dM_meet_41 : decode cM_meet 41 = .ok (.iadd, 1) := by decide +kernel
theorem dM_meet_42 : decode cM_meet 42 = .ok (.goto 4, 3) := by decide +kernel
theorem dM_meet_45 : decode cM_meet 45 = .ok (.iload_n 3, 1) := by decide +kernel
theorem dM_meet_46 : decode cM_meet 46 = .ok (.istore_n 3, 1) := by decide +kernel
theorem dM_meet_47 : decode cM_meet 47 = .ok (.iinc 4 1, 3) := by decide +kernel
theorem dM_meet_50 : decode cM_meet 50 = .ok (.goto (-34), 3) := by decide +kernel
theorem dM_meet_53 : decode cM_meet 53 = .ok (.iload_n 2, 1) := by decide +kernel
theorem dM_meet_54 : decode cM_meet 54 = .ok (.iconst 1, 1) := by decide +kernel
theorem dM_meet_55 : decode cM_meet 55 = .ok (.iadd, 1) := by decide +kernel
theorem dM_meet_56 : decode cM_meet 56 = .ok (.istore 4, 2) := by decide +kernel
theorem dM_meet_58 : decode cM_meet 58 = .ok (.iload 4, 2) := by decide +kernel
theorem dM_meet_60 : decode cM_meet 60 = .ok (.aload_n 0, 1) := by decide +kernel
theorem dM_meet_61 : decode cM_meet 61 = .ok (.getfield 67, 3) := by decide +kernel
theorem dM_meet_64 : decode cM_meet 64 = .ok (.if_icmp .ge 38, 3) := by decide +kernel
theorem dM_meet_67 : decode cM_meet 67 = .ok (.aload_n 0, 1) := by decide +kernel
theorem dM_meet_68 : decode cM_meet 68 = .ok (.getfield 13, 3) := by decide +kernel
theorem dM_meet_71 : decode cM_meet 71 = .ok (.iload 4, 2) := by decide +kernel
theorem dM_meet_73 : decode cM_meet 73 = .ok (.iaload, 1) := by decide +kernel
theorem dM_meet_74 : decode cM_meet 74 = .ok (.iload_n 2, 1) := by decide +kernel
theorem dM_meet_75 : decode cM_meet 75 = .ok (.if_icmp .ne 19, 3) := by decide +kernel
theorem dM_meet_78 : decode cM_meet 78 = .ok (.aload_n 0, 1) := by decide +kernel
theorem dM_meet_79 : decode cM_meet 79 = .ok (.getfield 25, 3) := by decide +kernel
theorem dM_meet_82 : decode cM_meet 82 = .ok (.iload 4, 2) := by decide +kernel
theorem dM_meet_84 : decode cM_meet 84 = .ok (.baload, 1) := by decide +kernel
theorem dM_meet_85 : decode cM_meet 85 = .ok (.ifCond .eq 9, 3) := by decide +kernel
theorem dM_meet_88 : decode cM_meet 88 = .ok (.iload_n 3, 1) := by decide +kernel
theorem dM_meet_89 : decode cM_meet 89 = .ok (.iconst 1, 1) := by decide +kernel
theorem dM_meet_90 : decode cM_meet 90 = .ok (.iadd, 1) := by decide +kernel
theorem dM_meet_91 : decode cM_meet 91 = .ok (.goto 4, 3) := by decide +kernel
theorem dM_meet_94 : decode cM_meet 94 = .ok (.iload_n 3, 1) := by decide +kernel
theorem dM_meet_95 : decode cM_meet 95 = .ok (.istore_n 3, 1) := by decide +kernel
theorem dM_meet_96 : decode cM_meet 96 = .ok (.iinc 4 1, 3) := by decide +kernel
theorem dM_meet_99 : decode cM_meet 99 = .ok (.goto (-41), 3) := by decide +kernel
theorem dM_meet_102 : decode cM_meet 102 = .ok (.aload_n 0, 1) := by decide +kernel
theorem dM_meet_103 : decode cM_meet 103 = .ok (.getfield 25, 3) := by decide +kernel
theorem dM_meet_106 : decode cM_meet 106 = .ok (.iload_n 2, 1) := by decide +kernel
theorem dM_meet_107 : decode cM_meet 107 = .ok (.iload_n 3, 1) := by decide +kernel
theorem dM_meet_108 : decode cM_meet 108 = .ok (.aload_n 0, 1) := by decide +kernel
theorem dM_meet_109 : decode cM_meet 109 = .ok (.getfield 19, 3) := by decide +kernel
theorem dM_meet_112 : decode cM_meet 112 = .ok (.iload_n 2, 1) := by decide +kernel
theorem dM_meet_113 : decode cM_meet 113 = .ok (.iaload, 1) := by decide +kernel
theorem dM_meet_114 : decode cM_meet 114 = .ok (.if_icmp .lt 7, 3) := by decide +kernel
theorem dM_meet_117 : decode cM_meet 117 = .ok (.iconst 1, 1) := by decide +kernel
theorem dM_meet_118 : decode cM_meet 118 = .ok (.goto 4, 3) := by decide +kernel
theorem dM_meet_121 : decode cM_meet 121 = .ok (.iconst 0, 1) := by decide +kernel
theorem dM_meet_122 : decode cM_meet 122 = .ok (.bastore, 1) := by decide +kernel
theorem dM_meet_123 : decode cM_meet 123 = .ok (.iinc 2 (-1), 3) := by decide +kernel
theorem dM_meet_126 : decode cM_meet 126 = .ok (.goto (-119), 3) := by decide +kernel
theorem dM_meet_129 : decode cM_meet 129 = .ok (.return_, 1) := by decide +kernel
theorem dM_quorum_0 : decode cM_quorum 0 = .ok (.aload_n 0, 1) := by decide +kernel
theorem dM_quorum_1 : decode cM_quorum 1 = .ok (.iload_n 1, 1) := by decide +kernel
theorem dM_quorum_2 : decode cM_quorum 2 = .ok (.invokevirtual 78, 3) := by decide +kernel
theorem dM_quorum_5 : decode cM_quorum 5 = .ok (.ifCond .eq 7, 3) := by decide +kernel
theorem dM_quorum_8 : decode cM_quorum 8 = .ok (.iload_n 1, 1) := by decide +kernel
theorem dM_quorum_9 : decode cM_quorum 9 = .ok (.ifCond .ne 5, 3) := by decide +kernel
theorem dM_quorum_12 : decode cM_quorum 12 = .ok (.iconst 0, 1) := by decide +kernel
theorem dM_quorum_13 : decode cM_quorum 13 = .ok (.ireturn, 1) := by decide +kernel
theorem dM_quorum_14 : decode cM_quorum 14 = .ok (.aload_n 0, 1) := by decide +kernel
theorem dM_quorum_15 : decode cM_quorum 15 = .ok (.iload_n 1, 1) := by decide +kernel
theorem dM_quorum_16 : decode cM_quorum 16 = .ok (.invokevirtual 81, 3) := by decide +kernel
theorem dM_quorum_19 : decode cM_quorum 19 = .ok (.iconst 1, 1) := by decide +kernel
theorem dM_quorum_20 : decode cM_quorum 20 = .ok (.istore_n 2, 1) := by decide +kernel
theorem dM_quorum_21 : decode cM_quorum 21 = .ok (.iconst 0, 1) := by decide +kernel
theorem dM_quorum_22 : decode cM_quorum 22 = .ok (.istore_n 3, 1) := by decide +kernel
theorem dM_quorum_23 : decode cM_quorum 23 = .ok (.iload_n 3, 1) := by decide +kernel
theorem dM_quorum_24 : decode cM_quorum 24 = .ok (.aload_n 0, 1) := by decide +kernel
theorem dM_quorum_25 : decode cM_quorum 25 = .ok (.getfield 59, 3) := by decide +kernel
theorem dM_quorum_28 : decode cM_quorum 28 = .ok (.if_icmp .ge 51, 3) := by decide +kernel
theorem dM_quorum_31 : decode cM_quorum 31 = .ok (.iload_n 1, 1) := by decide +kernel
theorem dM_quorum_32 : decode cM_quorum 32 = .ok (.iload_n 3, 1) := by decide +kernel
theorem dM_quorum_33 : decode cM_quorum 33 = .ok (.ishr, 1) := by decide +kernel
theorem dM_quorum_34 : decode cM_quorum 34 = .ok (.iconst 1, 1) := by decide +kernel
theorem dM_quorum_35 : decode cM_quorum 35 = .ok (.iand, 1) := by decide +kernel
theorem dM_quorum_36 : decode cM_quorum 36 = .ok (.iconst 1, 1) := by decide +kernel
theorem dM_quorum_37 : decode cM_quorum 37 = .ok (.if_icmp .ne 36, 3) := by decide +kernel
theorem dM_quorum_40 : decode cM_quorum 40 = .ok (.aload_n 0, 1) := by decide +kernel
theorem dM_quorum_41 : decode cM_quorum 41 = .ok (.iload_n 3, 1) := by decide +kernel
theorem dM_quorum_42 : decode cM_quorum 42 = .ok (.invokevirtual 74, 3) := by decide +kernel
theorem dM_quorum_45 : decode cM_quorum 45 = .ok (.istore 4, 2) := by decide +kernel
theorem dM_quorum_47 : decode cM_quorum 47 = .ok (.iload_n 2, 1) := by decide +kernel
theorem dM_quorum_48 : decode cM_quorum 48 = .ok (.ifCond .eq 23, 3) := by decide +kernel
theorem dM_quorum_51 : decode cM_quorum 51 = .ok (.iload 4, 2) := by decide +kernel
theorem dM_quorum_53 : decode cM_quorum 53 = .ok (.iconst (-1), 1) := by decide +kernel
theorem dM_quorum_54 : decode cM_quorum 54 = .ok (.if_icmp .eq 17, 3) := by decide +kernel
theorem dM_quorum_57 : decode cM_quorum 57 = .ok (.aload_n 0, 1) := by decide +kernel
theorem dM_quorum_58 : decode cM_quorum 58 = .ok (.getfield 25, 3) := by decide +kernel
theorem dM_quorum_61 : decode cM_quorum 61 = .ok (.iload 4, 2) := by decide +kernel
theorem dM_quorum_63 : decode cM_quorum 63 = .ok (.baload, 1) := by decide +kernel
theorem dM_quorum_64 : decode cM_quorum 64 = .ok (.ifCond .eq 7, 3) := by decide +kernel
theorem dM_quorum_67 : decode cM_quorum 67 = .ok (.iconst 1, 1) := by decide +kernel
theorem dM_quorum_68 : decode cM_quorum 68 = .ok (.goto 4, 3) := by decide +kernel
theorem dM_quorum_71 : decode cM_quorum 71 = .ok (.iconst 0, 1) := by decide +kernel
theorem dM_quorum_72 : decode cM_quorum 72 = .ok (.istore_n 2, 1) := by decide +kernel
theorem dM_quorum_73 : decode cM_quorum 73 = .ok (.iinc 3 1, 3) := by decide +kernel
theorem dM_quorum_76 : decode cM_quorum 76 = .ok (.goto (-53), 3) := by decide +kernel
theorem dM_quorum_79 : decode cM_quorum 79 = .ok (.iload_n 2, 1) := by decide +kernel
theorem dM_quorum_80 : decode cM_quorum 80 = .ok (.ireturn, 1) := by decide +kernel
theorem dM_largest_0 : decode cM_largest 0 = .ok (.aload_n 0, 1) := by decide +kernel
theorem dM_largest_1 : decode cM_largest 1 = .ok (.iload_n 1, 1) := by decide +kernel
theorem dM_largest_2 : decode cM_largest 2 = .ok (.invokevirtual 78, 3) := by decide +kernel
theorem dM_largest_5 : decode cM_largest 5 = .ok (.ifCond .ne 5, 3) := by decide +kernel
theorem dM_largest_8 : decode cM_largest 8 = .ok (.iconst (-1), 1) := by decide +kernel
theorem dM_largest_9 : decode cM_largest 9 = .ok (.ireturn, 1) := by decide +kernel
theorem dM_largest_10 : decode cM_largest 10 = .ok (.iconst 0, 1) := by decide +kernel
theorem dM_largest_11 : decode cM_largest 11 = .ok (.istore_n 2, 1) := by decide +kernel
theorem dM_largest_12 : decode cM_largest 12 = .ok (.iconst 1, 1) := by decide +kernel
theorem dM_largest_13 : decode cM_largest 13 = .ok (.istore_n 3, 1) := by decide +kernel
theorem dM_largest_14 : decode cM_largest 14 = .ok (.iload_n 3, 1) := by decide +kernel
theorem dM_largest_15 : decode cM_largest 15 = .ok (.iconst 1, 1) := by decide +kernel
theorem dM_largest_16 : decode cM_largest 16 = .ok (.aload_n 0, 1) := by decide +kernel
theorem dM_largest_17 : decode cM_largest 17 = .ok (.getfield 59, 3) := by decide +kernel
theorem dM_largest_20 : decode cM_largest 20 = .ok (.ishl, 1) := by decide +kernel
theorem dM_largest_21 : decode cM_largest 21 = .ok (.if_icmp .ge 29, 3) := by decide +kernel
theorem dM_largest_24 : decode cM_largest 24 = .ok (.iload_n 3, 1) := by decide +kernel
theorem dM_largest_25 : decode cM_largest 25 = .ok (.iload_n 1, 1) := by decide +kernel
theorem dM_largest_26 : decode cM_largest 26 = .ok (.iconst (-1), 1) := by decide +kernel
theorem dM_largest_27 : decode cM_largest 27 = .ok (.ixor, 1) := by decide +kernel
theorem dM_largest_28 : decode cM_largest 28 = .ok (.iand, 1) := by decide +kernel
theorem dM_largest_29 : decode cM_largest 29 = .ok (.ifCond .ne 15, 3) := by decide +kernel
theorem dM_largest_32 : decode cM_largest 32 = .ok (.aload_n 0, 1) := by decide +kernel
theorem dM_largest_33 : decode cM_largest 33 = .ok (.iload_n 3, 1) := by decide +kernel
theorem dM_largest_34 : decode cM_largest 34 = .ok (.invokevirtual 85, 3) := by decide +kernel
theorem dM_largest_37 : decode cM_largest 37 = .ok (.ifCond .eq 7, 3) := by decide +kernel
theorem dM_largest_40 : decode cM_largest 40 = .ok (.iload_n 2, 1) := by decide +kernel
theorem dM_largest_41 : decode cM_largest 41 = .ok (.iload_n 3, 1) := by decide +kernel
theorem dM_largest_42 : decode cM_largest 42 = .ok (.ior, 1) := by decide +kernel
theorem dM_largest_43 : decode cM_largest 43 = .ok (.istore_n 2, 1) := by decide +kernel
theorem dM_largest_44 : decode cM_largest 44 = .ok (.iinc 3 1, 3) := by decide +kernel
theorem dM_largest_47 : decode cM_largest 47 = .ok (.goto (-33), 3) := by decide +kernel
theorem dM_largest_50 : decode cM_largest 50 = .ok (.iload_n 2, 1) := by decide +kernel
theorem dM_largest_51 : decode cM_largest 51 = .ok (.ireturn, 1) := by decide +kernel
theorem dM_blocks_0 : decode cM_blocks 0 = .ok (.aload_n 0, 1) := by decide +kernel
theorem dM_blocks_1 : decode cM_blocks 1 = .ok (.iload_n 2, 1) := by decide +kernel
theorem dM_blocks_2 : decode cM_blocks 2 = .ok (.invokevirtual 63, 3) := by decide +kernel
theorem dM_blocks_5 : decode cM_blocks 5 = .ok (.ifCond .eq 24, 3) := by decide +kernel
theorem dM_blocks_8 : decode cM_blocks 8 = .ok (.aload_n 0, 1) := by decide +kernel
theorem dM_blocks_9 : decode cM_blocks 9 = .ok (.iload_n 1, 1) := by decide +kernel
theorem dM_blocks_10 : decode cM_blocks 10 = .ok (.invokevirtual 78, 3) := by decide +kernel
theorem dM_blocks_13 : decode cM_blocks 13 = .ok (.ifCond .eq 16, 3) := by decide +kernel
theorem dM_blocks_16 : decode cM_blocks 16 = .ok (.aload_n 0, 1) := by decide +kernel
theorem dM_blocks_17 : decode cM_blocks 17 = .ok (.iload_n 1, 1) := by decide +kernel
theorem dM_blocks_18 : decode cM_blocks 18 = .ok (.iload_n 2, 1) := by decide +kernel
theorem dM_blocks_19 : decode cM_blocks 19 = .ok (.invokevirtual 88, 3) := by decide +kernel
theorem dM_blocks_22 : decode cM_blocks 22 = .ok (.ifCond .eq 7, 3) := by decide +kernel
theorem dM_blocks_25 : decode cM_blocks 25 = .ok (.iconst 1, 1) := by decide +kernel
theorem dM_blocks_26 : decode cM_blocks 26 = .ok (.goto 4, 3) := by decide +kernel
theorem dM_blocks_29 : decode cM_blocks 29 = .ok (.iconst 0, 1) := by decide +kernel
theorem dM_blocks_30 : decode cM_blocks 30 = .ok (.ireturn, 1) := by decide +kernel
theorem dM_stops_0 : decode cM_stops 0 = .ok (.aload_n 0, 1) := by decide +kernel
theorem dM_stops_1 : decode cM_stops 1 = .ok (.iload_n 2, 1) := by decide +kernel
theorem dM_stops_2 : decode cM_stops 2 = .ok (.invokevirtual 74, 3) := by decide +kernel
theorem dM_stops_5 : decode cM_stops 5 = .ok (.istore_n 3, 1) := by decide +kernel
theorem dM_stops_6 : decode cM_stops 6 = .ok (.aload_n 0, 1) := by decide +kernel
theorem dM_stops_7 : decode cM_stops 7 = .ok (.iconst 1, 1) := by decide +kernel
theorem dM_stops_8 : decode cM_stops 8 = .ok (.aload_n 0, 1) := by decide +kernel
theorem dM_stops_9 : decode cM_stops 9 = .ok (.getfield 59, 3) := by decide +kernel
theorem dM_stops_12 : decode cM_stops 12 = .ok (.ishl, 1) := by decide +kernel
theorem dM_stops_13 : decode cM_stops 13 = .ok (.iconst 1, 1) := by decide +kernel
theorem dM_stops_14 : decode cM_stops 14 = .ok (.isub, 1) := by decide +kernel
theorem dM_stops_15 : decode cM_stops 15 = .ok (.iload_n 1, 1) := by decide +kernel
theorem dM_stops_16 : decode cM_stops 16 = .ok (.iconst (-1), 1) := by decide +kernel
theorem dM_stops_17 : decode cM_stops 17 = .ok (.ixor, 1) := by decide +kernel
theorem dM_stops_18 : decode cM_stops 18 = .ok (.iand, 1) := by decide +kernel
theorem dM_stops_19 : decode cM_stops 19 = .ok (.invokevirtual 81, 3) := by decide +kernel
theorem dM_stops_22 : decode cM_stops 22 = .ok (.iload_n 3, 1) := by decide +kernel
theorem dM_stops_23 : decode cM_stops 23 = .ok (.iconst (-1), 1) := by decide +kernel
theorem dM_stops_24 : decode cM_stops 24 = .ok (.if_icmp .eq 16, 3) := by decide +kernel
theorem dM_stops_27 : decode cM_stops 27 = .ok (.aload_n 0, 1) := by decide +kernel
theorem dM_stops_28 : decode cM_stops 28 = .ok (.getfield 25, 3) := by decide +kernel
theorem dM_stops_31 : decode cM_stops 31 = .ok (.iload_n 3, 1) := by decide +kernel
theorem dM_stops_32 : decode cM_stops 32 = .ok (.baload, 1) := by decide +kernel
theorem dM_stops_33 : decode cM_stops 33 = .ok (.ifCond .ne 7, 3) := by decide +kernel
theorem dM_stops_36 : decode cM_stops 36 = .ok (.iconst 1, 1) := by decide +kernel
theorem dM_stops_37 : decode cM_stops 37 = .ok (.goto 4, 3) := by decide +kernel
theorem dM_stops_40 : decode cM_stops 40 = .ok (.iconst 0, 1) := by decide +kernel
theorem dM_stops_41 : decode cM_stops 41 = .ok (.ireturn, 1) := by decide +kernel
theorem dM_intertwined_0 : decode cM_intertwined 0 = .ok (.aload_n 0, 1) := by decide +kernel
theorem dM_intertwined_1 : decode cM_intertwined 1 = .ok (.iload_n 1, 1) := by decide +kernel
theorem dM_intertwined_2 : decode cM_intertwined 2 = .ok (.invokevirtual 92, 3) := by decide +kernel
theorem dM_intertwined_5 : decode cM_intertwined 5 = .ok (.ifCond .eq 11, 3) := by decide +kernel
theorem dM_intertwined_8 : decode cM_intertwined 8 = .ok (.aload_n 0, 1) := by decide +kernel
theorem dM_intertwined_9 : decode cM_intertwined 9 = .ok (.iload_n 2, 1) := by decide +kernel
theorem dM_intertwined_10 : decode cM_intertwined 10 = .ok (.invokevirtual 92, 3) := by decide +kernel
theorem dM_intertwined_13 : decode cM_intertwined 13 = .ok (.ifCond .ne 5, 3) := by decide +kernel
theorem dM_intertwined_16 : decode cM_intertwined 16 = .ok (.iconst 0, 1) := by decide +kernel
theorem dM_intertwined_17 : decode cM_intertwined 17 = .ok (.ireturn, 1) := by decide +kernel
theorem dM_intertwined_18 : decode cM_intertwined 18 = .ok (.aload_n 0, 1) := by decide +kernel
theorem dM_intertwined_19 : decode cM_intertwined 19 = .ok (.invokevirtual 95, 3) := by decide +kernel
theorem dM_intertwined_22 : decode cM_intertwined 22 = .ok (.iconst 0, 1) := by decide +kernel
theorem dM_intertwined_23 : decode cM_intertwined 23 = .ok (.istore_n 3, 1) := by decide +kernel
theorem dM_intertwined_24 : decode cM_intertwined 24 = .ok (.iconst 0, 1) := by decide +kernel
theorem dM_intertwined_25 : decode cM_intertwined 25 = .ok (.istore 4, 2) := by decide +kernel
theorem dM_intertwined_27 : decode cM_intertwined 27 = .ok (.iload 4, 2) := by decide +kernel
theorem dM_intertwined_29 : decode cM_intertwined 29 = .ok (.aload_n 0, 1) := by decide +kernel
theorem dM_intertwined_30 : decode cM_intertwined 30 = .ok (.getfield 59, 3) := by decide +kernel
theorem dM_intertwined_33 : decode cM_intertwined 33 = .ok (.if_icmp .ge 30, 3) := by decide +kernel
theorem dM_intertwined_36 : decode cM_intertwined 36 = .ok (.aload_n 0, 1) := by decide +kernel
theorem dM_intertwined_37 : decode cM_intertwined 37 = .ok (.getfield 29, 3) := by decide +kernel
theorem dM_intertwined_40 : decode cM_intertwined 40 = .ok (.iload 4, 2) := by decide +kernel
theorem dM_intertwined_42 : decode cM_intertwined 42 = .ok (.baload, 1) := by decide +kernel
theorem dM_intertwined_43 : decode cM_intertwined 43 = .ok (.ifCond .eq 7, 3) := by decide +kernel
theorem dM_intertwined_46 : decode cM_intertwined 46 = .ok (.iload_n 3, 1) := by decide +kernel
theorem dM_intertwined_47 : decode cM_intertwined 47 = .ok (.goto 9, 3) := by decide +kernel
theorem dM_intertwined_50 : decode cM_intertwined 50 = .ok (.iload_n 3, 1) := by decide +kernel
theorem dM_intertwined_51 : decode cM_intertwined 51 = .ok (.iconst 1, 1) := by decide +kernel
theorem dM_intertwined_52 : decode cM_intertwined 52 = .ok (.iload 4, 2) := by decide +kernel
theorem dM_intertwined_54 : decode cM_intertwined 54 = .ok (.ishl, 1) := by decide +kernel
theorem dM_intertwined_55 : decode cM_intertwined 55 = .ok (.ior, 1) := by decide +kernel
theorem dM_intertwined_56 : decode cM_intertwined 56 = .ok (.istore_n 3, 1) := by decide +kernel
theorem dM_intertwined_57 : decode cM_intertwined 57 = .ok (.iinc 4 1, 3) := by decide +kernel
theorem dM_intertwined_60 : decode cM_intertwined 60 = .ok (.goto (-33), 3) := by decide +kernel
theorem dM_intertwined_63 : decode cM_intertwined 63 = .ok (.iconst 1, 1) := by decide +kernel
theorem dM_intertwined_64 : decode cM_intertwined 64 = .ok (.istore 4, 2) := by decide +kernel
theorem dM_intertwined_66 : decode cM_intertwined 66 = .ok (.iconst 1, 1) := by decide +kernel
theorem dM_intertwined_67 : decode cM_intertwined 67 = .ok (.istore 5, 2) := by decide +kernel
theorem dM_intertwined_69 : decode cM_intertwined 69 = .ok (.iload 5, 2) := by decide +kernel
theorem dM_intertwined_71 : decode cM_intertwined 71 = .ok (.iconst 1, 1) := by decide +kernel
theorem dM_intertwined_72 : decode cM_intertwined 72 = .ok (.aload_n 0, 1) := by decide +kernel
theorem dM_intertwined_73 : decode cM_intertwined 73 = .ok (.getfield 59, 3) := by decide +kernel
theorem dM_intertwined_76 : decode cM_intertwined 76 = .ok (.ishl, 1) := by decide +kernel
theorem dM_intertwined_77 : decode cM_intertwined 77 = .ok (.if_icmp .ge 103, 3) := by decide +kernel
theorem dM_intertwined_80 : decode cM_intertwined 80 = .ok (.iconst 1, 1) := by decide +kernel
theorem dM_intertwined_81 : decode cM_intertwined 81 = .ok (.istore 6, 2) := by decide +kernel
theorem dM_intertwined_83 : decode cM_intertwined 83 = .ok (.iload 6, 2) := by decide +kernel
theorem dM_intertwined_85 : decode cM_intertwined 85 = .ok (.iconst 1, 1) := by decide +kernel
theorem dM_intertwined_86 : decode cM_intertwined 86 = .ok (.aload_n 0, 1) := by decide +kernel
theorem dM_intertwined_87 : decode cM_intertwined 87 = .ok (.getfield 59, 3) := by decide +kernel
theorem dM_intertwined_90 : decode cM_intertwined 90 = .ok (.ishl, 1) := by decide +kernel
theorem dM_intertwined_91 : decode cM_intertwined 91 = .ok (.if_icmp .ge 83, 3) := by decide +kernel
theorem dM_intertwined_94 : decode cM_intertwined 94 = .ok (.aload_n 0, 1) := by decide +kernel
theorem dM_intertwined_95 : decode cM_intertwined 95 = .ok (.getfield 56, 3) := by decide +kernel
theorem dM_intertwined_98 : decode cM_intertwined 98 = .ok (.iload 5, 2) := by decide +kernel
theorem dM_intertwined_100 : decode cM_intertwined 100 = .ok (.baload, 1) := by decide +kernel
theorem dM_intertwined_101 : decode cM_intertwined 101 = .ok (.ifCond .eq 37, 3) := by decide +kernel
theorem dM_intertwined_104 : decode cM_intertwined 104 = .ok (.aload_n 0, 1) := by decide +kernel
theorem dM_intertwined_105 : decode cM_intertwined 105 = .ok (.getfield 56, 3) := by decide +kernel
theorem dM_intertwined_108 : decode cM_intertwined 108 = .ok (.iload 6, 2) := by decide +kernel
theorem dM_intertwined_110 : decode cM_intertwined 110 = .ok (.baload, 1) := by decide +kernel
theorem dM_intertwined_111 : decode cM_intertwined 111 = .ok (.ifCond .eq 27, 3) := by decide +kernel
theorem dM_intertwined_114 : decode cM_intertwined 114 = .ok (.iload 5, 2) := by decide +kernel
theorem dM_intertwined_116 : decode cM_intertwined 116 = .ok (.iload_n 1, 1) := by decide +kernel
theorem dM_intertwined_117 : decode cM_intertwined 117 = .ok (.ishr, 1) := by decide +kernel
theorem dM_intertwined_118 : decode cM_intertwined 118 = .ok (.iconst 1, 1) := by decide +kernel
theorem dM_intertwined_119 : decode cM_intertwined 119 = .ok (.iand, 1) := by decide +kernel
theorem dM_intertwined_120 : decode cM_intertwined 120 = .ok (.iconst 1, 1) := by decide +kernel
theorem dM_intertwined_121 : decode cM_intertwined 121 = .ok (.if_icmp .ne 17, 3) := by decide +kernel
theorem dM_intertwined_124 : decode cM_intertwined 124 = .ok (.iload 6, 2) := by decide +kernel
theorem dM_intertwined_126 : decode cM_intertwined 126 = .ok (.iload_n 2, 1) := by decide +kernel
theorem dM_intertwined_127 : decode cM_intertwined 127 = .ok (.ishr, 1) := by decide +kernel
theorem dM_intertwined_128 : decode cM_intertwined 128 = .ok (.iconst 1, 1) := by decide +kernel
theorem dM_intertwined_129 : decode cM_intertwined 129 = .ok (.iand, 1) := by decide +kernel
theorem dM_intertwined_130 : decode cM_intertwined 130 = .ok (.iconst 1, 1) := by decide +kernel
theorem dM_intertwined_131 : decode cM_intertwined 131 = .ok (.if_icmp .ne 7, 3) := by decide +kernel
theorem dM_intertwined_134 : decode cM_intertwined 134 = .ok (.iconst 1, 1) := by decide +kernel
theorem dM_intertwined_135 : decode cM_intertwined 135 = .ok (.goto 4, 3) := by decide +kernel
theorem dM_intertwined_138 : decode cM_intertwined 138 = .ok (.iconst 0, 1) := by decide +kernel
theorem dM_intertwined_139 : decode cM_intertwined 139 = .ok (.istore 7, 2) := by decide +kernel
theorem dM_intertwined_141 : decode cM_intertwined 141 = .ok (.iload 4, 2) := by decide +kernel
theorem dM_intertwined_143 : decode cM_intertwined 143 = .ok (.ifCond .eq 22, 3) := by decide +kernel
theorem dM_intertwined_146 : decode cM_intertwined 146 = .ok (.iload 7, 2) := by decide +kernel
theorem dM_intertwined_148 : decode cM_intertwined 148 = .ok (.ifCond .eq 13, 3) := by decide +kernel
theorem dM_intertwined_151 : decode cM_intertwined 151 = .ok (.iload 5, 2) := by decide +kernel
theorem dM_intertwined_153 : decode cM_intertwined 153 = .ok (.iload 6, 2) := by decide +kernel
theorem dM_intertwined_155 : decode cM_intertwined 155 = .ok (.iand, 1) := by decide +kernel
theorem dM_intertwined_156 : decode cM_intertwined 156 = .ok (.iload_n 3, 1) := by decide +kernel
theorem dM_intertwined_157 : decode cM_intertwined 157 = .ok (.iand, 1) := by decide +kernel
theorem dM_intertwined_158 : decode cM_intertwined 158 = .ok (.ifCond .eq 7, 3) := by decide +kernel
theorem dM_intertwined_161 : decode cM_intertwined 161 = .ok (.iconst 1, 1) := by decide +kernel
theorem dM_intertwined_162 : decode cM_intertwined 162 = .ok (.goto 4, 3) := by decide +kernel
theorem dM_intertwined_165 : decode cM_intertwined 165 = .ok (.iconst 0, 1) := by decide +kernel
theorem dM_intertwined_166 : decode cM_intertwined 166 = .ok (.istore 4, 2) := by decide +kernel
theorem dM_intertwined_168 : decode cM_intertwined 168 = .ok (.iinc 6 1, 3) := by decide +kernel
theorem dM_intertwined_171 : decode cM_intertwined 171 = .ok (.goto (-88), 3) := by decide +kernel
theorem dM_intertwined_174 : decode cM_intertwined 174 = .ok (.iinc 5 1, 3) := by decide +kernel
theorem dM_intertwined_177 : decode cM_intertwined 177 = .ok (.goto (-108), 3) := by decide +kernel
theorem dM_intertwined_180 : decode cM_intertwined 180 = .ok (.iload 4, 2) := by decide +kernel
theorem dM_intertwined_182 : decode cM_intertwined 182 = .ok (.ireturn, 1) := by decide +kernel
theorem dM_tryAll_0 : decode cM_tryAll 0 = .ok (.iconst 0, 1) := by decide +kernel
theorem dM_tryAll_1 : decode cM_tryAll 1 = .ok (.istore_n 1, 1) := by decide +kernel
theorem dM_tryAll_2 : decode cM_tryAll 2 = .ok (.iload_n 1, 1) := by decide +kernel
theorem dM_tryAll_3 : decode cM_tryAll 3 = .ok (.iconst 1, 1) := by decide +kernel
theorem dM_tryAll_4 : decode cM_tryAll 4 = .ok (.aload_n 0, 1) := by decide +kernel
theorem dM_tryAll_5 : decode cM_tryAll 5 = .ok (.getfield 59, 3) := by decide +kernel
theorem dM_tryAll_8 : decode cM_tryAll 8 = .ok (.ishl, 1) := by decide +kernel
theorem dM_tryAll_9 : decode cM_tryAll 9 = .ok (.if_icmp .ge 20, 3) := by decide +kernel
theorem dM_tryAll_12 : decode cM_tryAll 12 = .ok (.aload_n 0, 1) := by decide +kernel
theorem dM_tryAll_13 : decode cM_tryAll 13 = .ok (.getfield 56, 3) := by decide +kernel
theorem dM_tryAll_16 : decode cM_tryAll 16 = .ok (.iload_n 1, 1) := by decide +kernel
theorem dM_tryAll_17 : decode cM_tryAll 17 = .ok (.aload_n 0, 1) := by decide +kernel
theorem dM_tryAll_18 : decode cM_tryAll 18 = .ok (.iload_n 1, 1) := by decide +kernel
theorem dM_tryAll_19 : decode cM_tryAll 19 = .ok (.invokevirtual 85, 3) := by decide +kernel
theorem dM_tryAll_22 : decode cM_tryAll 22 = .ok (.bastore, 1) := by decide +kernel
theorem dM_tryAll_23 : decode cM_tryAll 23 = .ok (.iinc 1 1, 3) := by decide +kernel
theorem dM_tryAll_26 : decode cM_tryAll 26 = .ok (.goto (-24), 3) := by decide +kernel
theorem dM_tryAll_29 : decode cM_tryAll 29 = .ok (.return_, 1) := by decide +kernel
theorem dM_contradict_0 : decode cM_contradict 0 = .ok (.iload_n 1, 1) := by decide +kernel
theorem dM_contradict_1 : decode cM_contradict 1 = .ok (.bipush 12, 2) := by decide +kernel
theorem dM_contradict_3 : decode cM_contradict 3 = .ok (.if_icmp .ge 11, 3) := by decide +kernel
theorem dM_contradict_6 : decode cM_contradict 6 = .ok (.iload_n 2, 1) := by decide +kernel
theorem dM_contradict_7 : decode cM_contradict 7 = .ok (.bipush 12, 2) := by decide +kernel
theorem dM_contradict_9 : decode cM_contradict 9 = .ok (.if_icmp .ge 5, 3) := by decide +kernel
theorem dM_contradict_12 : decode cM_contradict 12 = .ok (.iconst 0, 1) := by decide +kernel
theorem dM_contradict_13 : decode cM_contradict 13 = .ok (.ireturn, 1) := by decide +kernel
theorem dM_contradict_14 : decode cM_contradict 14 = .ok (.iload_n 1, 1) := by decide +kernel
theorem dM_contradict_15 : decode cM_contradict 15 = .ok (.bipush 12, 2) := by decide +kernel
theorem dM_contradict_17 : decode cM_contradict 17 = .ok (.if_icmp .lt 24, 3) := by decide +kernel
theorem dM_contradict_20 : decode cM_contradict 20 = .ok (.iload_n 2, 1) := by decide +kernel
theorem dM_contradict_21 : decode cM_contradict 21 = .ok (.bipush 12, 2) := by decide +kernel
theorem dM_contradict_23 : decode cM_contradict 23 = .ok (.if_icmp .lt 18, 3) := by decide +kernel
theorem dM_contradict_26 : decode cM_contradict 26 = .ok (.iload_n 1, 1) := by decide +kernel
theorem dM_contradict_27 : decode cM_contradict 27 = .ok (.iconst 3, 1) := by decide +kernel
theorem dM_contradict_28 : decode cM_contradict 28 = .ok (.irem, 1) := by decide +kernel
theorem dM_contradict_29 : decode cM_contradict 29 = .ok (.iload_n 2, 1) := by decide +kernel
theorem dM_contradict_30 : decode cM_contradict 30 = .ok (.iconst 3, 1) := by decide +kernel
theorem dM_contradict_31 : decode cM_contradict 31 = .ok (.irem, 1) := by decide +kernel
theorem dM_contradict_32 : decode cM_contradict 32 = .ok (.if_icmp .eq 7, 3) := by decide +kernel
theorem dM_contradict_35 : decode cM_contradict 35 = .ok (.iconst 1, 1) := by decide +kernel
theorem dM_contradict_36 : decode cM_contradict 36 = .ok (.goto 4, 3) := by decide +kernel
theorem dM_contradict_39 : decode cM_contradict 39 = .ok (.iconst 0, 1) := by decide +kernel
theorem dM_contradict_40 : decode cM_contradict 40 = .ok (.ireturn, 1) := by decide +kernel
theorem dM_contradict_41 : decode cM_contradict 41 = .ok (.iload_n 1, 1) := by decide +kernel
theorem dM_contradict_42 : decode cM_contradict 42 = .ok (.bipush 12, 2) := by decide +kernel
theorem dM_contradict_44 : decode cM_contradict 44 = .ok (.if_icmp .lt 10, 3) := by decide +kernel
theorem dM_contradict_47 : decode cM_contradict 47 = .ok (.iload_n 1, 1) := by decide +kernel
theorem dM_contradict_48 : decode cM_contradict 48 = .ok (.bipush 12, 2) := by decide +kernel
theorem dM_contradict_50 : decode cM_contradict 50 = .ok (.isub, 1) := by decide +kernel
theorem dM_contradict_51 : decode cM_contradict 51 = .ok (.goto 7, 3) := by decide +kernel
theorem dM_contradict_54 : decode cM_contradict 54 = .ok (.iload_n 2, 1) := by decide +kernel
theorem dM_contradict_55 : decode cM_contradict 55 = .ok (.bipush 12, 2) := by decide +kernel
theorem dM_contradict_57 : decode cM_contradict 57 = .ok (.isub, 1) := by decide +kernel
theorem dM_contradict_58 : decode cM_contradict 58 = .ok (.istore_n 3, 1) := by decide +kernel
theorem dM_contradict_59 : decode cM_contradict 59 = .ok (.iload_n 1, 1) := by decide +kernel
theorem dM_contradict_60 : decode cM_contradict 60 = .ok (.bipush 12, 2) := by decide +kernel
theorem dM_contradict_62 : decode cM_contradict 62 = .ok (.if_icmp .lt 7, 3) := by decide +kernel
theorem dM_contradict_65 : decode cM_contradict 65 = .ok (.iload_n 2, 1) := by decide +kernel
theorem dM_contradict_66 : decode cM_contradict 66 = .ok (.goto 4, 3) := by decide +kernel
theorem dM_contradict_69 : decode cM_contradict 69 = .ok (.iload_n 1, 1) := by decide +kernel
theorem dM_contradict_70 : decode cM_contradict 70 = .ok (.istore 4, 2) := by decide +kernel
theorem dM_contradict_72 : decode cM_contradict 72 = .ok (.iload 4, 2) := by decide +kernel
theorem dM_contradict_74 : decode cM_contradict 74 = .ok (.iload_n 3, 1) := by decide +kernel
theorem dM_contradict_75 : decode cM_contradict 75 = .ok (.if_icmp .le 17, 3) := by decide +kernel
theorem dM_contradict_78 : decode cM_contradict 78 = .ok (.iload 4, 2) := by decide +kernel
theorem dM_contradict_80 : decode cM_contradict 80 = .ok (.iconst 3, 1) := by decide +kernel
theorem dM_contradict_81 : decode cM_contradict 81 = .ok (.irem, 1) := by decide +kernel
theorem dM_contradict_82 : decode cM_contradict 82 = .ok (.iload_n 3, 1) := by decide +kernel
theorem dM_contradict_83 : decode cM_contradict 83 = .ok (.iconst 3, 1) := by decide +kernel
theorem dM_contradict_84 : decode cM_contradict 84 = .ok (.irem, 1) := by decide +kernel
theorem dM_contradict_85 : decode cM_contradict 85 = .ok (.if_icmp .eq 7, 3) := by decide +kernel
theorem dM_contradict_88 : decode cM_contradict 88 = .ok (.iconst 1, 1) := by decide +kernel
theorem dM_contradict_89 : decode cM_contradict 89 = .ok (.goto 4, 3) := by decide +kernel
theorem dM_contradict_92 : decode cM_contradict 92 = .ok (.iconst 0, 1) := by decide +kernel
theorem dM_contradict_93 : decode cM_contradict 93 = .ok (.ireturn, 1) := by decide +kernel
theorem dM_against_0 : decode cM_against 0 = .ok (.iconst 0, 1) := by decide +kernel
theorem dM_against_1 : decode cM_against 1 = .ok (.istore_n 3, 1) := by decide +kernel
theorem dM_against_2 : decode cM_against 2 = .ok (.iconst 0, 1) := by decide +kernel
theorem dM_against_3 : decode cM_against 3 = .ok (.istore 4, 2) := by decide +kernel
theorem dM_against_5 : decode cM_against 5 = .ok (.iload 4, 2) := by decide +kernel
theorem dM_against_7 : decode cM_against 7 = .ok (.bipush 24, 2) := by decide +kernel
theorem dM_against_9 : decode cM_against 9 = .ok (.if_icmp .ge 39, 3) := by decide +kernel
theorem dM_against_12 : decode cM_against 12 = .ok (.iload_n 3, 1) := by decide +kernel
theorem dM_against_13 : decode cM_against 13 = .ok (.ifCond .ne 23, 3) := by decide +kernel
theorem dM_against_16 : decode cM_against 16 = .ok (.iload_n 1, 1) := by decide +kernel
theorem dM_against_17 : decode cM_against 17 = .ok (.iload 4, 2) := by decide +kernel
theorem dM_against_19 : decode cM_against 19 = .ok (.ishr, 1) := by decide +kernel
theorem dM_against_20 : decode cM_against 20 = .ok (.iconst 1, 1) := by decide +kernel
theorem dM_against_21 : decode cM_against 21 = .ok (.iand, 1) := by decide +kernel
theorem dM_against_22 : decode cM_against 22 = .ok (.iconst 1, 1) := by decide +kernel
theorem dM_against_23 : decode cM_against 23 = .ok (.if_icmp .ne 17, 3) := by decide +kernel
theorem dM_against_26 : decode cM_against 26 = .ok (.aload_n 0, 1) := by decide +kernel
theorem dM_against_27 : decode cM_against 27 = .ok (.iload_n 2, 1) := by decide +kernel
theorem dM_against_28 : decode cM_against 28 = .ok (.iload 4, 2) := by decide +kernel
theorem dM_against_30 : decode cM_against 30 = .ok (.invokevirtual 98, 3) := by decide +kernel
theorem dM_against_33 : decode cM_against 33 = .ok (.ifCond .eq 7, 3) := by decide +kernel
theorem dM_against_36 : decode cM_against 36 = .ok (.iconst 1, 1) := by decide +kernel
theorem dM_against_37 : decode cM_against 37 = .ok (.goto 4, 3) := by decide +kernel
theorem dM_against_40 : decode cM_against 40 = .ok (.iconst 0, 1) := by decide +kernel
theorem dM_against_41 : decode cM_against 41 = .ok (.istore_n 3, 1) := by decide +kernel
theorem dM_against_42 : decode cM_against 42 = .ok (.iinc 4 1, 3) := by decide +kernel
theorem dM_against_45 : decode cM_against 45 = .ok (.goto (-40), 3) := by decide +kernel
theorem dM_against_48 : decode cM_against 48 = .ok (.iload_n 3, 1) := by decide +kernel
theorem dM_against_49 : decode cM_against 49 = .ok (.ireturn, 1) := by decide +kernel
theorem dM_votesOf_0 : decode cM_votesOf 0 = .ok (.iload_n 2, 1) := by decide +kernel
theorem dM_votesOf_1 : decode cM_votesOf 1 = .ok (.iload_n 1, 1) := by decide +kernel
theorem dM_votesOf_2 : decode cM_votesOf 2 = .ok (.if_icmp .ne 12, 3) := by decide +kernel
theorem dM_votesOf_5 : decode cM_votesOf 5 = .ok (.aload_n 0, 1) := by decide +kernel
theorem dM_votesOf_6 : decode cM_votesOf 6 = .ok (.getfield 32, 3) := by decide +kernel
theorem dM_votesOf_9 : decode cM_votesOf 9 = .ok (.iload_n 1, 1) := by decide +kernel
theorem dM_votesOf_10 : decode cM_votesOf 10 = .ok (.iaload, 1) := by decide +kernel
theorem dM_votesOf_11 : decode cM_votesOf 11 = .ok (.goto 14, 3) := by decide +kernel
theorem dM_votesOf_14 : decode cM_votesOf 14 = .ok (.aload_n 0, 1) := by decide +kernel
theorem dM_votesOf_15 : decode cM_votesOf 15 = .ok (.getfield 50, 3) := by decide +kernel
theorem dM_votesOf_18 : decode cM_votesOf 18 = .ok (.bipush 6, 2) := by decide +kernel
theorem dM_votesOf_20 : decode cM_votesOf 20 = .ok (.iload_n 2, 1) := by decide +kernel
theorem dM_votesOf_21 : decode cM_votesOf 21 = .ok (.imul, 1) := by decide +kernel
theorem dM_votesOf_22 : decode cM_votesOf 22 = .ok (.iload_n 1, 1) := by decide +kernel
theorem dM_votesOf_23 : decode cM_votesOf 23 = .ok (.iadd, 1) := by decide +kernel
theorem dM_votesOf_24 : decode cM_votesOf 24 = .ok (.iaload, 1) := by decide +kernel
theorem dM_votesOf_25 : decode cM_votesOf 25 = .ok (.ireturn, 1) := by decide +kernel
theorem dM_acceptsOf_0 : decode cM_acceptsOf 0 = .ok (.iload_n 2, 1) := by decide +kernel
theorem dM_acceptsOf_1 : decode cM_acceptsOf 1 = .ok (.iload_n 1, 1) := by decide +kernel
theorem dM_acceptsOf_2 : decode cM_acceptsOf 2 = .ok (.if_icmp .ne 12, 3) := by decide +kernel
theorem dM_acceptsOf_5 : decode cM_acceptsOf 5 = .ok (.aload_n 0, 1) := by decide +kernel
theorem dM_acceptsOf_6 : decode cM_acceptsOf 6 = .ok (.getfield 35, 3) := by decide +kernel
theorem dM_acceptsOf_9 : decode cM_acceptsOf 9 = .ok (.iload_n 1, 1) := by decide +kernel
theorem dM_acceptsOf_10 : decode cM_acceptsOf 10 = .ok (.iaload, 1) := by decide +kernel
theorem dM_acceptsOf_11 : decode cM_acceptsOf 11 = .ok (.goto 14, 3) := by decide +kernel
theorem dM_acceptsOf_14 : decode cM_acceptsOf 14 = .ok (.aload_n 0, 1) := by decide +kernel
theorem dM_acceptsOf_15 : decode cM_acceptsOf 15 = .ok (.getfield 53, 3) := by decide +kernel
theorem dM_acceptsOf_18 : decode cM_acceptsOf 18 = .ok (.bipush 6, 2) := by decide +kernel
theorem dM_acceptsOf_20 : decode cM_acceptsOf 20 = .ok (.iload_n 2, 1) := by decide +kernel
theorem dM_acceptsOf_21 : decode cM_acceptsOf 21 = .ok (.imul, 1) := by decide +kernel
theorem dM_acceptsOf_22 : decode cM_acceptsOf 22 = .ok (.iload_n 1, 1) := by decide +kernel
theorem dM_acceptsOf_23 : decode cM_acceptsOf 23 = .ok (.iadd, 1) := by decide +kernel
theorem dM_acceptsOf_24 : decode cM_acceptsOf 24 = .ok (.iaload, 1) := by decide +kernel
theorem dM_acceptsOf_25 : decode cM_acceptsOf 25 = .ok (.ireturn, 1) := by decide +kernel
theorem dM_backers_0 : decode cM_backers 0 = .ok (.iconst 0, 1) := by decide +kernel
theorem dM_backers_1 : decode cM_backers 1 = .ok (.istore 4, 2) := by decide +kernel
theorem dM_backers_3 : decode cM_backers 3 = .ok (.iconst 0, 1) := by decide +kernel
theorem dM_backers_4 : decode cM_backers 4 = .ok (.istore 5, 2) := by decide +kernel
theorem dM_backers_6 : decode cM_backers 6 = .ok (.iload 5, 2) := by decide +kernel
theorem dM_backers_8 : decode cM_backers 8 = .ok (.aload_n 0, 1) := by decide +kernel
theorem dM_backers_9 : decode cM_backers 9 = .ok (.getfield 59, 3) := by decide +kernel
theorem dM_backers_12 : decode cM_backers 12 = .ok (.if_icmp .ge 63, 3) := by decide +kernel
theorem dM_backers_15 : decode cM_backers 15 = .ok (.aload_n 0, 1) := by decide +kernel
theorem dM_backers_16 : decode cM_backers 16 = .ok (.iload 5, 2) := by decide +kernel
theorem dM_backers_18 : decode cM_backers 18 = .ok (.iload_n 1, 1) := by decide +kernel
theorem dM_backers_19 : decode cM_backers 19 = .ok (.invokevirtual 101, 3) := by decide +kernel
theorem dM_backers_22 : decode cM_backers 22 = .ok (.istore 6, 2) := by decide +kernel
theorem dM_backers_24 : decode cM_backers 24 = .ok (.iload_n 3, 1) := by decide +kernel
theorem dM_backers_25 : decode cM_backers 25 = .ok (.ifCond .eq 16, 3) := by decide +kernel
theorem dM_backers_28 : decode cM_backers 28 = .ok (.iload 6, 2) := by decide +kernel
theorem dM_backers_30 : decode cM_backers 30 = .ok (.aload_n 0, 1) := by decide +kernel
theorem dM_backers_31 : decode cM_backers 31 = .ok (.iload 5, 2) := by decide +kernel
theorem dM_backers_33 : decode cM_backers 33 = .ok (.iload_n 1, 1) := by decide +kernel
theorem dM_backers_34 : decode cM_backers 34 = .ok (.invokevirtual 105, 3) := by decide +kernel
theorem dM_backers_37 : decode cM_backers 37 = .ok (.ior, 1) := by decide +kernel
theorem dM_backers_38 : decode cM_backers 38 = .ok (.goto 5, 3) := by decide +kernel
theorem dM_backers_41 : decode cM_backers 41 = .ok (.iload 6, 2) := by decide +kernel
theorem dM_backers_43 : decode cM_backers 43 = .ok (.istore 6, 2) := by decide +kernel
theorem dM_backers_45 : decode cM_backers 45 = .ok (.iload 6, 2) := by decide +kernel
theorem dM_backers_47 : decode cM_backers 47 = .ok (.iload_n 2, 1) := by decide +kernel
theorem dM_backers_48 : decode cM_backers 48 = .ok (.ishr, 1) := by decide +kernel
theorem dM_backers_49 : decode cM_backers 49 = .ok (.iconst 1, 1) := by decide +kernel
theorem dM_backers_50 : decode cM_backers 50 = .ok (.iand, 1) := by decide +kernel
theorem dM_backers_51 : decode cM_backers 51 = .ok (.iconst 1, 1) := by decide +kernel
theorem dM_backers_52 : decode cM_backers 52 = .ok (.if_icmp .ne 13, 3) := by decide +kernel
theorem dM_backers_55 : decode cM_backers 55 = .ok (.iload 4, 2) := by decide +kernel
theorem dM_backers_57 : decode cM_backers 57 = .ok (.iconst 1, 1) := by decide +kernel
theorem dM_backers_58 : decode cM_backers 58 = .ok (.iload 5, 2) := by decide +kernel
theorem dM_backers_60 : decode cM_backers 60 = .ok (.ishl, 1) := by decide +kernel
theorem dM_backers_61 : decode cM_backers 61 = .ok (.ior, 1) := by decide +kernel
theorem dM_backers_62 : decode cM_backers 62 = .ok (.goto 5, 3) := by decide +kernel
theorem dM_backers_65 : decode cM_backers 65 = .ok (.iload 4, 2) := by decide +kernel
theorem dM_backers_67 : decode cM_backers 67 = .ok (.istore 4, 2) := by decide +kernel
theorem dM_backers_69 : decode cM_backers 69 = .ok (.iinc 5 1, 3) := by decide +kernel
theorem dM_backers_72 : decode cM_backers 72 = .ok (.goto (-66), 3) := by decide +kernel
theorem dM_backers_75 : decode cM_backers 75 = .ok (.iload 4, 2) := by decide +kernel
theorem dM_backers_77 : decode cM_backers 77 = .ok (.ireturn, 1) := by decide +kernel
theorem dM_quorumWithin_0 : decode cM_quorumWithin 0 = .ok (.iconst 0, 1) := by decide +kernel
theorem dM_quorumWithin_1 : decode cM_quorumWithin 1 = .ok (.istore_n 3, 1) := by decide +kernel
theorem dM_quorumWithin_2 : decode cM_quorumWithin 2 = .ok (.iconst 1, 1) := by decide +kernel
theorem dM_quorumWithin_3 : decode cM_quorumWithin 3 = .ok (.istore 4, 2) := by decide +kernel
theorem dM_quorumWithin_5 : decode cM_quorumWithin 5 = .ok (.iload 4, 2) := by decide +kernel
theorem dM_quorumWithin_7 : decode cM_quorumWithin 7 = .ok (.iconst 1, 1) := by decide +kernel
theorem dM_quorumWithin_8 : decode cM_quorumWithin 8 = .ok (.aload_n 0, 1) := by decide +kernel
theorem dM_quorumWithin_9 : decode cM_quorumWithin 9 = .ok (.getfield 59, 3) := by decide +kernel
theorem dM_quorumWithin_12 : decode cM_quorumWithin 12 = .ok (.ishl, 1) := by decide +kernel
theorem dM_quorumWithin_13 : decode cM_quorumWithin 13 = .ok (.if_icmp .ge 48, 3) := by decide +kernel
theorem dM_quorumWithin_16 : decode cM_quorumWithin 16 = .ok (.iload_n 3, 1) := by decide +kernel
theorem dM_quorumWithin_17 : decode cM_quorumWithin 17 = .ok (.ifCond .ne 32, 3) := by decide +kernel
theorem dM_quorumWithin_20 : decode cM_quorumWithin 20 = .ok (.aload_n 0, 1) := by decide +kernel
theorem dM_quorumWithin_21 : decode cM_quorumWithin 21 = .ok (.getfield 56, 3) := by decide +kernel
theorem dM_quorumWithin_24 : decode cM_quorumWithin 24 = .ok (.iload 4, 2) := by decide +kernel
theorem dM_quorumWithin_26 : decode cM_quorumWithin 26 = .ok (.baload, 1) := by decide +kernel
theorem dM_quorumWithin_27 : decode cM_quorumWithin 27 = .ok (.ifCond .eq 26, 3) := by decide +kernel
theorem dM_quorumWithin_30 : decode cM_quorumWithin 30 = .ok (.iload 4, 2) := by decide +kernel
theorem dM_quorumWithin_32 : decode cM_quorumWithin 32 = .ok (.iload_n 1, 1) := by decide +kernel
theorem dM_quorumWithin_33 : decode cM_quorumWithin 33 = .ok (.iconst (-1), 1) := by decide +kernel
theorem dM_quorumWithin_34 : decode cM_quorumWithin 34 = .ok (.ixor, 1) := by decide +kernel
theorem dM_quorumWithin_35 : decode cM_quorumWithin 35 = .ok (.iand, 1) := by decide +kernel
theorem dM_quorumWithin_36 : decode cM_quorumWithin 36 = .ok (.ifCond .ne 17, 3) := by decide +kernel
theorem dM_quorumWithin_39 : decode cM_quorumWithin 39 = .ok (.iload 4, 2) := by decide +kernel
theorem dM_quorumWithin_41 : decode cM_quorumWithin 41 = .ok (.iload_n 2, 1) := by decide +kernel
theorem dM_quorumWithin_42 : decode cM_quorumWithin 42 = .ok (.ishr, 1) := by decide +kernel
theorem dM_quorumWithin_43 : decode cM_quorumWithin 43 = .ok (.iconst 1, 1) := by decide +kernel
theorem dM_quorumWithin_44 : decode cM_quorumWithin 44 = .ok (.iand, 1) := by decide +kernel
theorem dM_quorumWithin_45 : decode cM_quorumWithin 45 = .ok (.iconst 1, 1) := by decide +kernel
theorem dM_quorumWithin_46 : decode cM_quorumWithin 46 = .ok (.if_icmp .ne 7, 3) := by decide +kernel
theorem dM_quorumWithin_49 : decode cM_quorumWithin 49 = .ok (.iconst 1, 1) := by decide +kernel
theorem dM_quorumWithin_50 : decode cM_quorumWithin 50 = .ok (.goto 4, 3) := by decide +kernel
theorem dM_quorumWithin_53 : decode cM_quorumWithin 53 = .ok (.iconst 0, 1) := by decide +kernel
theorem dM_quorumWithin_54 : decode cM_quorumWithin 54 = .ok (.istore_n 3, 1) := by decide +kernel
theorem dM_quorumWithin_55 : decode cM_quorumWithin 55 = .ok (.iinc 4 1, 3) := by decide +kernel
theorem dM_quorumWithin_58 : decode cM_quorumWithin 58 = .ok (.goto (-53), 3) := by decide +kernel
theorem dM_quorumWithin_61 : decode cM_quorumWithin 61 = .ok (.iload_n 3, 1) := by decide +kernel
theorem dM_quorumWithin_62 : decode cM_quorumWithin 62 = .ok (.ireturn, 1) := by decide +kernel
theorem dM_stepAccept_0 : decode cM_stepAccept 0 = .ok (.iconst 0, 1) := by decide +kernel
theorem dM_stepAccept_1 : decode cM_stepAccept 1 = .ok (.istore_n 2, 1) := by decide +kernel
theorem dM_stepAccept_2 : decode cM_stepAccept 2 = .ok (.iload_n 2, 1) := by decide +kernel
theorem dM_stepAccept_3 : decode cM_stepAccept 3 = .ok (.bipush 24, 2) := by decide +kernel
theorem dM_stepAccept_5 : decode cM_stepAccept 5 = .ok (.if_icmp .ge 92, 3) := by decide +kernel
theorem dM_stepAccept_8 : decode cM_stepAccept 8 = .ok (.aload_n 0, 1) := by decide +kernel
theorem dM_stepAccept_9 : decode cM_stepAccept 9 = .ok (.getfield 35, 3) := by decide +kernel
theorem dM_stepAccept_12 : decode cM_stepAccept 12 = .ok (.iload_n 1, 1) := by decide +kernel
theorem dM_stepAccept_13 : decode cM_stepAccept 13 = .ok (.iaload, 1) := by decide +kernel
theorem dM_stepAccept_14 : decode cM_stepAccept 14 = .ok (.iload_n 2, 1) := by decide +kernel
theorem dM_stepAccept_15 : decode cM_stepAccept 15 = .ok (.ishr, 1) := by decide +kernel
theorem dM_stepAccept_16 : decode cM_stepAccept 16 = .ok (.iconst 1, 1) := by decide +kernel
theorem dM_stepAccept_17 : decode cM_stepAccept 17 = .ok (.iand, 1) := by decide +kernel
theorem dM_stepAccept_18 : decode cM_stepAccept 18 = .ok (.ifCond .ne 73, 3) := by decide +kernel
theorem dM_stepAccept_21 : decode cM_stepAccept 21 = .ok (.aload_n 0, 1) := by decide +kernel
theorem dM_stepAccept_22 : decode cM_stepAccept 22 = .ok (.aload_n 0, 1) := by decide +kernel
theorem dM_stepAccept_23 : decode cM_stepAccept 23 = .ok (.getfield 35, 3) := by decide +kernel
theorem dM_stepAccept_26 : decode cM_stepAccept 26 = .ok (.iload_n 1, 1) := by decide +kernel
theorem dM_stepAccept_27 : decode cM_stepAccept 27 = .ok (.iaload, 1) := by decide +kernel
theorem dM_stepAccept_28 : decode cM_stepAccept 28 = .ok (.iload_n 2, 1) := by decide +kernel
theorem dM_stepAccept_29 : decode cM_stepAccept 29 = .ok (.invokevirtual 108, 3) := by decide +kernel
theorem dM_stepAccept_32 : decode cM_stepAccept 32 = .ok (.ifCond .ne 59, 3) := by decide +kernel
theorem dM_stepAccept_35 : decode cM_stepAccept 35 = .ok (.aload_n 0, 1) := by decide +kernel
theorem dM_stepAccept_36 : decode cM_stepAccept 36 = .ok (.iload_n 1, 1) := by decide +kernel
theorem dM_stepAccept_37 : decode cM_stepAccept 37 = .ok (.iload_n 2, 1) := by decide +kernel
theorem dM_stepAccept_38 : decode cM_stepAccept 38 = .ok (.iconst 0, 1) := by decide +kernel
theorem dM_stepAccept_39 : decode cM_stepAccept 39 = .ok (.invokevirtual 111, 3) := by decide +kernel
theorem dM_stepAccept_42 : decode cM_stepAccept 42 = .ok (.iconst 1, 1) := by decide +kernel
theorem dM_stepAccept_43 : decode cM_stepAccept 43 = .ok (.iload_n 1, 1) := by decide +kernel
theorem dM_stepAccept_44 : decode cM_stepAccept 44 = .ok (.ishl, 1) := by decide +kernel
theorem dM_stepAccept_45 : decode cM_stepAccept 45 = .ok (.iconst (-1), 1) := by decide +kernel
theorem dM_stepAccept_46 : decode cM_stepAccept 46 = .ok (.ixor, 1) := by decide +kernel
theorem dM_stepAccept_47 : decode cM_stepAccept 47 = .ok (.iand, 1) := by decide +kernel
theorem dM_stepAccept_48 : decode cM_stepAccept 48 = .ok (.istore_n 3, 1) := by decide +kernel
theorem dM_stepAccept_49 : decode cM_stepAccept 49 = .ok (.aload_n 0, 1) := by decide +kernel
theorem dM_stepAccept_50 : decode cM_stepAccept 50 = .ok (.aload_n 0, 1) := by decide +kernel
theorem dM_stepAccept_51 : decode cM_stepAccept 51 = .ok (.iload_n 1, 1) := by decide +kernel
theorem dM_stepAccept_52 : decode cM_stepAccept 52 = .ok (.iload_n 2, 1) := by decide +kernel
theorem dM_stepAccept_53 : decode cM_stepAccept 53 = .ok (.iconst 1, 1) := by decide +kernel
theorem dM_stepAccept_54 : decode cM_stepAccept 54 = .ok (.invokevirtual 111, 3) := by decide +kernel
theorem dM_stepAccept_57 : decode cM_stepAccept 57 = .ok (.iload_n 1, 1) := by decide +kernel
theorem dM_stepAccept_58 : decode cM_stepAccept 58 = .ok (.invokevirtual 115, 3) := by decide +kernel
theorem dM_stepAccept_61 : decode cM_stepAccept 61 = .ok (.ifCond .ne 12, 3) := by decide +kernel
theorem dM_stepAccept_64 : decode cM_stepAccept 64 = .ok (.aload_n 0, 1) := by decide +kernel
theorem dM_stepAccept_65 : decode cM_stepAccept 65 = .ok (.iload_n 3, 1) := by decide +kernel
theorem dM_stepAccept_66 : decode cM_stepAccept 66 = .ok (.iload_n 1, 1) := by decide +kernel
theorem dM_stepAccept_67 : decode cM_stepAccept 67 = .ok (.invokevirtual 88, 3) := by decide +kernel
theorem dM_stepAccept_70 : decode cM_stepAccept 70 = .ok (.ifCond .eq 21, 3) := by decide +kernel
theorem dM_stepAccept_73 : decode cM_stepAccept 73 = .ok (.aload_n 0, 1) := by decide +kernel
theorem dM_stepAccept_74 : decode cM_stepAccept 74 = .ok (.getfield 35, 3) := by decide +kernel
theorem dM_stepAccept_77 : decode cM_stepAccept 77 = .ok (.iload_n 1, 1) := by decide +kernel
theorem dM_stepAccept_78 : decode cM_stepAccept 78 = .ok (.aload_n 0, 1) := by decide +kernel
theorem dM_stepAccept_79 : decode cM_stepAccept 79 = .ok (.getfield 35, 3) := by decide +kernel
theorem dM_stepAccept_82 : decode cM_stepAccept 82 = .ok (.iload_n 1, 1) := by decide +kernel
theorem dM_stepAccept_83 : decode cM_stepAccept 83 = .ok (.iaload, 1) := by decide +kernel
theorem dM_stepAccept_84 : decode cM_stepAccept 84 = .ok (.iconst 1, 1) := by decide +kernel
theorem dM_stepAccept_85 : decode cM_stepAccept 85 = .ok (.iload_n 2, 1) := by decide +kernel
theorem dM_stepAccept_86 : decode cM_stepAccept 86 = .ok (.ishl, 1) := by decide +kernel
theorem dM_stepAccept_87 : decode cM_stepAccept 87 = .ok (.ior, 1) := by decide +kernel
theorem dM_stepAccept_88 : decode cM_stepAccept 88 = .ok (.iastore, 1) := by decide +kernel
theorem dM_stepAccept_89 : decode cM_stepAccept 89 = .ok (.iconst 1, 1) := by decide +kernel
theorem dM_stepAccept_90 : decode cM_stepAccept 90 = .ok (.ireturn, 1) := by decide +kernel
theorem dM_stepAccept_91 : decode cM_stepAccept 91 = .ok (.iinc 2 1, 3) := by decide +kernel
theorem dM_stepAccept_94 : decode cM_stepAccept 94 = .ok (.goto (-92), 3) := by decide +kernel
theorem dM_stepAccept_97 : decode cM_stepAccept 97 = .ok (.iconst 0, 1) := by decide +kernel
theorem dM_stepAccept_98 : decode cM_stepAccept 98 = .ok (.ireturn, 1) := by decide +kernel
theorem dM_stepConfirm_0 : decode cM_stepConfirm 0 = .ok (.iconst 0, 1) := by decide +kernel
theorem dM_stepConfirm_1 : decode cM_stepConfirm 1 = .ok (.istore_n 2, 1) := by decide +kernel
theorem dM_stepConfirm_2 : decode cM_stepConfirm 2 = .ok (.iload_n 2, 1) := by decide +kernel
theorem dM_stepConfirm_3 : decode cM_stepConfirm 3 = .ok (.bipush 24, 2) := by decide +kernel
theorem dM_stepConfirm_5 : decode cM_stepConfirm 5 = .ok (.if_icmp .ge 104, 3) := by decide +kernel
theorem dM_stepConfirm_8 : decode cM_stepConfirm 8 = .ok (.aload_n 0, 1) := by decide +kernel
theorem dM_stepConfirm_9 : decode cM_stepConfirm 9 = .ok (.getfield 35, 3) := by decide +kernel
theorem dM_stepConfirm_12 : decode cM_stepConfirm 12 = .ok (.iload_n 1, 1) := by decide +kernel
theorem dM_stepConfirm_13 : decode cM_stepConfirm 13 = .ok (.iaload, 1) := by decide +kernel
theorem dM_stepConfirm_14 : decode cM_stepConfirm 14 = .ok (.iload_n 2, 1) := by decide +kernel
theorem dM_stepConfirm_15 : decode cM_stepConfirm 15 = .ok (.ishr, 1) := by decide +kernel
theorem dM_stepConfirm_16 : decode cM_stepConfirm 16 = .ok (.iconst 1, 1) := by decide +kernel
theorem dM_stepConfirm_17 : decode cM_stepConfirm 17 = .ok (.iand, 1) := by decide +kernel
theorem dM_stepConfirm_18 : decode cM_stepConfirm 18 = .ok (.iconst 1, 1) := by decide +kernel
theorem dM_stepConfirm_19 : decode cM_stepConfirm 19 = .ok (.if_icmp .ne 20, 3) := by decide +kernel
theorem dM_stepConfirm_22 : decode cM_stepConfirm 22 = .ok (.aload_n 0, 1) := by decide +kernel
theorem dM_stepConfirm_23 : decode cM_stepConfirm 23 = .ok (.getfield 38, 3) := by decide +kernel
theorem dM_stepConfirm_26 : decode cM_stepConfirm 26 = .ok (.iload_n 1, 1) := by decide +kernel
theorem dM_stepConfirm_27 : decode cM_stepConfirm 27 = .ok (.iaload, 1) := by decide +kernel
theorem dM_stepConfirm_28 : decode cM_stepConfirm 28 = .ok (.iload_n 2, 1) := by decide +kernel
theorem dM_stepConfirm_29 : decode cM_stepConfirm 29 = .ok (.ishr, 1) := by decide +kernel
theorem dM_stepConfirm_30 : decode cM_stepConfirm 30 = .ok (.iconst 1, 1) := by decide +kernel
theorem dM_stepConfirm_31 : decode cM_stepConfirm 31 = .ok (.iand, 1) := by decide +kernel
theorem dM_stepConfirm_32 : decode cM_stepConfirm 32 = .ok (.ifCond .ne 7, 3) := by decide +kernel
theorem dM_stepConfirm_35 : decode cM_stepConfirm 35 = .ok (.iconst 1, 1) := by decide +kernel
theorem dM_stepConfirm_36 : decode cM_stepConfirm 36 = .ok (.goto 4, 3) := by decide +kernel
theorem dM_stepConfirm_39 : decode cM_stepConfirm 39 = .ok (.iconst 0, 1) := by decide +kernel
theorem dM_stepConfirm_40 : decode cM_stepConfirm 40 = .ok (.istore_n 3, 1) := by decide +kernel
theorem dM_stepConfirm_41 : decode cM_stepConfirm 41 = .ok (.iload_n 3, 1) := by decide +kernel
theorem dM_stepConfirm_42 : decode cM_stepConfirm 42 = .ok (.ifCond .eq 61, 3) := by decide +kernel
theorem dM_stepConfirm_45 : decode cM_stepConfirm 45 = .ok (.aload_n 0, 1) := by decide +kernel
theorem dM_stepConfirm_46 : decode cM_stepConfirm 46 = .ok (.aload_n 0, 1) := by decide +kernel
theorem dM_stepConfirm_47 : decode cM_stepConfirm 47 = .ok (.iload_n 1, 1) := by decide +kernel
theorem dM_stepConfirm_48 : decode cM_stepConfirm 48 = .ok (.iload_n 2, 1) := by decide +kernel
theorem dM_stepConfirm_49 : decode cM_stepConfirm 49 = .ok (.iconst 0, 1) := by decide +kernel
theorem dM_stepConfirm_50 : decode cM_stepConfirm 50 = .ok (.invokevirtual 111, 3) := by decide +kernel
theorem dM_stepConfirm_53 : decode cM_stepConfirm 53 = .ok (.iload_n 1, 1) := by decide +kernel
theorem dM_stepConfirm_54 : decode cM_stepConfirm 54 = .ok (.invokevirtual 115, 3) := by decide +kernel
theorem dM_stepConfirm_57 : decode cM_stepConfirm 57 = .ok (.ifCond .eq 46, 3) := by decide +kernel
theorem dM_stepConfirm_60 : decode cM_stepConfirm 60 = .ok (.aload_n 0, 1) := by decide +kernel
theorem dM_stepConfirm_61 : decode cM_stepConfirm 61 = .ok (.getfield 38, 3) := by decide +kernel
theorem dM_stepConfirm_64 : decode cM_stepConfirm 64 = .ok (.iload_n 1, 1) := by decide +kernel
theorem dM_stepConfirm_65 : decode cM_stepConfirm 65 = .ok (.aload_n 0, 1) := by decide +kernel
theorem dM_stepConfirm_66 : decode cM_stepConfirm 66 = .ok (.getfield 38, 3) := by decide +kernel
theorem dM_stepConfirm_69 : decode cM_stepConfirm 69 = .ok (.iload_n 1, 1) := by decide +kernel
theorem dM_stepConfirm_70 : decode cM_stepConfirm 70 = .ok (.iaload, 1) := by decide +kernel
theorem dM_stepConfirm_71 : decode cM_stepConfirm 71 = .ok (.iconst 1, 1) := by decide +kernel
theorem dM_stepConfirm_72 : decode cM_stepConfirm 72 = .ok (.iload_n 2, 1) := by decide +kernel
theorem dM_stepConfirm_73 : decode cM_stepConfirm 73 = .ok (.ishl, 1) := by decide +kernel
theorem dM_stepConfirm_74 : decode cM_stepConfirm 74 = .ok (.ior, 1) := by decide +kernel
theorem dM_stepConfirm_75 : decode cM_stepConfirm 75 = .ok (.iastore, 1) := by decide +kernel
theorem dM_stepConfirm_76 : decode cM_stepConfirm 76 = .ok (.iload_n 2, 1) := by decide +kernel
theorem dM_stepConfirm_77 : decode cM_stepConfirm 77 = .ok (.bipush 12, 2) := by decide +kernel
theorem dM_stepConfirm_79 : decode cM_stepConfirm 79 = .ok (.if_icmp .lt 22, 3) := by decide +kernel
theorem dM_stepConfirm_82 : decode cM_stepConfirm 82 = .ok (.aload_n 0, 1) := by decide +kernel
theorem dM_stepConfirm_83 : decode cM_stepConfirm 83 = .ok (.getfield 47, 3) := by decide +kernel
theorem dM_stepConfirm_86 : decode cM_stepConfirm 86 = .ok (.iload_n 1, 1) := by decide +kernel
theorem dM_stepConfirm_87 : decode cM_stepConfirm 87 = .ok (.iaload, 1) := by decide +kernel
theorem dM_stepConfirm_88 : decode cM_stepConfirm 88 = .ok (.iconst (-1), 1) := by decide +kernel
theorem dM_stepConfirm_89 : decode cM_stepConfirm 89 = .ok (.if_icmp .ne 12, 3) := by decide +kernel
theorem dM_stepConfirm_92 : decode cM_stepConfirm 92 = .ok (.aload_n 0, 1) := by decide +kernel
theorem dM_stepConfirm_93 : decode cM_stepConfirm 93 = .ok (.getfield 47, 3) := by decide +kernel
theorem dM_stepConfirm_96 : decode cM_stepConfirm 96 = .ok (.iload_n 1, 1) := by decide +kernel
theorem dM_stepConfirm_97 : decode cM_stepConfirm 97 = .ok (.iload_n 2, 1) := by decide +kernel
theorem dM_stepConfirm_98 : decode cM_stepConfirm 98 = .ok (.iconst 3, 1) := by decide +kernel
theorem dM_stepConfirm_99 : decode cM_stepConfirm 99 = .ok (.irem, 1) := by decide +kernel
theorem dM_stepConfirm_100 : decode cM_stepConfirm 100 = .ok (.iastore, 1) := by decide +kernel
theorem dM_stepConfirm_101 : decode cM_stepConfirm 101 = .ok (.iconst 1, 1) := by decide +kernel
theorem dM_stepConfirm_102 : decode cM_stepConfirm 102 = .ok (.ireturn, 1) := by decide +kernel
theorem dM_stepConfirm_103 : decode cM_stepConfirm 103 = .ok (.iinc 2 1, 3) := by decide +kernel
theorem dM_stepConfirm_106 : decode cM_stepConfirm 106 = .ok (.goto (-104), 3) := by decide +kernel
theorem dM_stepConfirm_109 : decode cM_stepConfirm 109 = .ok (.iconst 0, 1) := by decide +kernel
theorem dM_stepConfirm_110 : decode cM_stepConfirm 110 = .ok (.ireturn, 1) := by decide +kernel
theorem dM_vote_0 : decode cM_vote 0 = .ok (.aload_n 0, 1) := by decide +kernel
theorem dM_vote_1 : decode cM_vote 1 = .ok (.getfield 32, 3) := by decide +kernel
theorem dM_vote_4 : decode cM_vote 4 = .ok (.iload_n 1, 1) := by decide +kernel
theorem dM_vote_5 : decode cM_vote 5 = .ok (.iaload, 1) := by decide +kernel
theorem dM_vote_6 : decode cM_vote 6 = .ok (.iload_n 2, 1) := by decide +kernel
theorem dM_vote_7 : decode cM_vote 7 = .ok (.ishr, 1) := by decide +kernel
theorem dM_vote_8 : decode cM_vote 8 = .ok (.iconst 1, 1) := by decide +kernel
theorem dM_vote_9 : decode cM_vote 9 = .ok (.iand, 1) := by decide +kernel
theorem dM_vote_10 : decode cM_vote 10 = .ok (.iconst 1, 1) := by decide +kernel
theorem dM_vote_11 : decode cM_vote 11 = .ok (.if_icmp .eq 24, 3) := by decide +kernel
theorem dM_vote_14 : decode cM_vote 14 = .ok (.aload_n 0, 1) := by decide +kernel
theorem dM_vote_15 : decode cM_vote 15 = .ok (.aload_n 0, 1) := by decide +kernel
theorem dM_vote_16 : decode cM_vote 16 = .ok (.getfield 32, 3) := by decide +kernel
theorem dM_vote_19 : decode cM_vote 19 = .ok (.iload_n 1, 1) := by decide +kernel
theorem dM_vote_20 : decode cM_vote 20 = .ok (.iaload, 1) := by decide +kernel
theorem dM_vote_21 : decode cM_vote 21 = .ok (.aload_n 0, 1) := by decide +kernel
theorem dM_vote_22 : decode cM_vote 22 = .ok (.getfield 35, 3) := by decide +kernel
theorem dM_vote_25 : decode cM_vote 25 = .ok (.iload_n 1, 1) := by decide +kernel
theorem dM_vote_26 : decode cM_vote 26 = .ok (.iaload, 1) := by decide +kernel
theorem dM_vote_27 : decode cM_vote 27 = .ok (.ior, 1) := by decide +kernel
theorem dM_vote_28 : decode cM_vote 28 = .ok (.iload_n 2, 1) := by decide +kernel
theorem dM_vote_29 : decode cM_vote 29 = .ok (.invokevirtual 108, 3) := by decide +kernel
theorem dM_vote_32 : decode cM_vote 32 = .ok (.ifCond .eq 5, 3) := by decide +kernel
theorem dM_vote_35 : decode cM_vote 35 = .ok (.iconst 0, 1) := by decide +kernel
theorem dM_vote_36 : decode cM_vote 36 = .ok (.ireturn, 1) := by decide +kernel
theorem dM_vote_37 : decode cM_vote 37 = .ok (.aload_n 0, 1) := by decide +kernel
theorem dM_vote_38 : decode cM_vote 38 = .ok (.getfield 32, 3) := by decide +kernel
theorem dM_vote_41 : decode cM_vote 41 = .ok (.iload_n 1, 1) := by decide +kernel
theorem dM_vote_42 : decode cM_vote 42 = .ok (.aload_n 0, 1) := by decide +kernel
theorem dM_vote_43 : decode cM_vote 43 = .ok (.getfield 32, 3) := by decide +kernel
theorem dM_vote_46 : decode cM_vote 46 = .ok (.iload_n 1, 1) := by decide +kernel
theorem dM_vote_47 : decode cM_vote 47 = .ok (.iaload, 1) := by decide +kernel
theorem dM_vote_48 : decode cM_vote 48 = .ok (.iconst 1, 1) := by decide +kernel
theorem dM_vote_49 : decode cM_vote 49 = .ok (.iload_n 2, 1) := by decide +kernel
theorem dM_vote_50 : decode cM_vote 50 = .ok (.ishl, 1) := by decide +kernel
theorem dM_vote_51 : decode cM_vote 51 = .ok (.ior, 1) := by decide +kernel
theorem dM_vote_52 : decode cM_vote 52 = .ok (.iastore, 1) := by decide +kernel
theorem dM_vote_53 : decode cM_vote 53 = .ok (.iconst 1, 1) := by decide +kernel
theorem dM_vote_54 : decode cM_vote 54 = .ok (.ireturn, 1) := by decide +kernel
theorem dM_stepCommit_0 : decode cM_stepCommit 0 = .ok (.iconst 3, 1) := by decide +kernel
theorem dM_stepCommit_1 : decode cM_stepCommit 1 = .ok (.aload_n 0, 1) := by decide +kernel
theorem dM_stepCommit_2 : decode cM_stepCommit 2 = .ok (.getfield 41, 3) := by decide +kernel
theorem dM_stepCommit_5 : decode cM_stepCommit 5 = .ok (.iload_n 1, 1) := by decide +kernel
theorem dM_stepCommit_6 : decode cM_stepCommit 6 = .ok (.iaload, 1) := by decide +kernel
theorem dM_stepCommit_7 : decode cM_stepCommit 7 = .ok (.iconst 1, 1) := by decide +kernel
theorem dM_stepCommit_8 : decode cM_stepCommit 8 = .ok (.isub, 1) := by decide +kernel
theorem dM_stepCommit_9 : decode cM_stepCommit 9 = .ok (.imul, 1) := by decide +kernel
theorem dM_stepCommit_10 : decode cM_stepCommit 10 = .ok (.aload_n 0, 1) := by decide +kernel
theorem dM_stepCommit_11 : decode cM_stepCommit 11 = .ok (.getfield 44, 3) := by decide +kernel
theorem dM_stepCommit_14 : decode cM_stepCommit 14 = .ok (.iload_n 1, 1) := by decide +kernel
theorem dM_stepCommit_15 : decode cM_stepCommit 15 = .ok (.iaload, 1) := by decide +kernel
theorem dM_stepCommit_16 : decode cM_stepCommit 16 = .ok (.iadd, 1) := by decide +kernel
theorem dM_stepCommit_17 : decode cM_stepCommit 17 = .ok (.istore_n 2, 1) := by decide +kernel
theorem dM_stepCommit_18 : decode cM_stepCommit 18 = .ok (.aload_n 0, 1) := by decide +kernel
theorem dM_stepCommit_19 : decode cM_stepCommit 19 = .ok (.getfield 41, 3) := by decide +kernel
theorem dM_stepCommit_22 : decode cM_stepCommit 22 = .ok (.iload_n 1, 1) := by decide +kernel
theorem dM_stepCommit_23 : decode cM_stepCommit 23 = .ok (.iaload, 1) := by decide +kernel
theorem dM_stepCommit_24 : decode cM_stepCommit 24 = .ok (.ifCond .le 33, 3) := by decide +kernel
theorem dM_stepCommit_27 : decode cM_stepCommit 27 = .ok (.aload_n 0, 1) := by decide +kernel
theorem dM_stepCommit_28 : decode cM_stepCommit 28 = .ok (.getfield 38, 3) := by decide +kernel
theorem dM_stepCommit_31 : decode cM_stepCommit 31 = .ok (.iload_n 1, 1) := by decide +kernel
theorem dM_stepCommit_32 : decode cM_stepCommit 32 = .ok (.iaload, 1) := by decide +kernel
theorem dM_stepCommit_33 : decode cM_stepCommit 33 = .ok (.iload_n 2, 1) := by decide +kernel
theorem dM_stepCommit_34 : decode cM_stepCommit 34 = .ok (.ishr, 1) := by decide +kernel
theorem dM_stepCommit_35 : decode cM_stepCommit 35 = .ok (.iconst 1, 1) := by decide +kernel
theorem dM_stepCommit_36 : decode cM_stepCommit 36 = .ok (.iand, 1) := by decide +kernel
theorem dM_stepCommit_37 : decode cM_stepCommit 37 = .ok (.iconst 1, 1) := by decide +kernel
theorem dM_stepCommit_38 : decode cM_stepCommit 38 = .ok (.if_icmp .ne 19, 3) := by decide +kernel
theorem dM_stepCommit_41 : decode cM_stepCommit 41 = .ok (.aload_n 0, 1) := by decide +kernel
theorem dM_stepCommit_42 : decode cM_stepCommit 42 = .ok (.iload_n 1, 1) := by decide +kernel
theorem dM_stepCommit_43 : decode cM_stepCommit 43 = .ok (.bipush 12, 2) := by decide +kernel
theorem dM_stepCommit_45 : decode cM_stepCommit 45 = .ok (.iload_n 2, 1) := by decide +kernel
theorem dM_stepCommit_46 : decode cM_stepCommit 46 = .ok (.iadd, 1) := by decide +kernel
theorem dM_stepCommit_47 : decode cM_stepCommit 47 = .ok (.invokevirtual 118, 3) := by decide +kernel
theorem dM_stepCommit_50 : decode cM_stepCommit 50 = .ok (.ifCond .eq 7, 3) := by decide +kernel
theorem dM_stepCommit_53 : decode cM_stepCommit 53 = .ok (.iconst 1, 1) := by decide +kernel
theorem dM_stepCommit_54 : decode cM_stepCommit 54 = .ok (.goto 4, 3) := by decide +kernel
theorem dM_stepCommit_57 : decode cM_stepCommit 57 = .ok (.iconst 0, 1) := by decide +kernel
theorem dM_stepCommit_58 : decode cM_stepCommit 58 = .ok (.ireturn, 1) := by decide +kernel
theorem dM_settle_0 : decode cM_settle 0 = .ok (.aload_n 0, 1) := by decide +kernel
theorem dM_settle_1 : decode cM_settle 1 = .ok (.invokevirtual 95, 3) := by decide +kernel
theorem dM_settle_4 : decode cM_settle 4 = .ok (.iconst 1, 1) := by decide +kernel
theorem dM_settle_5 : decode cM_settle 5 = .ok (.istore_n 2, 1) := by decide +kernel
theorem dM_settle_6 : decode cM_settle 6 = .ok (.iconst 0, 1) := by decide +kernel
theorem dM_settle_7 : decode cM_settle 7 = .ok (.istore_n 3, 1) := by decide +kernel
theorem dM_settle_8 : decode cM_settle 8 = .ok (.iload_n 3, 1) := by decide +kernel
theorem dM_settle_9 : decode cM_settle 9 = .ok (.bipush 100, 2) := by decide +kernel
theorem dM_settle_11 : decode cM_settle 11 = .ok (.if_icmp .ge 43, 3) := by decide +kernel
theorem dM_settle_14 : decode cM_settle 14 = .ok (.iload_n 2, 1) := by decide +kernel
theorem dM_settle_15 : decode cM_settle 15 = .ok (.ifCond .eq 39, 3) := by decide +kernel
theorem dM_settle_18 : decode cM_settle 18 = .ok (.aload_n 0, 1) := by decide +kernel
theorem dM_settle_19 : decode cM_settle 19 = .ok (.iload_n 1, 1) := by decide +kernel
theorem dM_settle_20 : decode cM_settle 20 = .ok (.invokevirtual 121, 3) := by decide +kernel
theorem dM_settle_23 : decode cM_settle 23 = .ok (.ifCond .ne 19, 3) := by decide +kernel
theorem dM_settle_26 : decode cM_settle 26 = .ok (.aload_n 0, 1) := by decide +kernel
theorem dM_settle_27 : decode cM_settle 27 = .ok (.iload_n 1, 1) := by decide +kernel
theorem dM_settle_28 : decode cM_settle 28 = .ok (.invokevirtual 124, 3) := by decide +kernel
theorem dM_settle_31 : decode cM_settle 31 = .ok (.ifCond .ne 11, 3) := by decide +kernel
theorem dM_settle_34 : decode cM_settle 34 = .ok (.aload_n 0, 1) := by decide +kernel
theorem dM_settle_35 : decode cM_settle 35 = .ok (.iload_n 1, 1) := by decide +kernel
theorem dM_settle_36 : decode cM_settle 36 = .ok (.invokevirtual 127, 3) := by decide +kernel
theorem dM_settle_39 : decode cM_settle 39 = .ok (.ifCond .eq 7, 3) := by decide +kernel
theorem dM_settle_42 : decode cM_settle 42 = .ok (.iconst 1, 1) := by decide +kernel
theorem dM_settle_43 : decode cM_settle 43 = .ok (.goto 4, 3) := by decide +kernel
theorem dM_settle_46 : decode cM_settle 46 = .ok (.iconst 0, 1) := by decide +kernel
theorem dM_settle_47 : decode cM_settle 47 = .ok (.istore_n 2, 1) := by decide +kernel
theorem dM_settle_48 : decode cM_settle 48 = .ok (.iinc 3 1, 3) := by decide +kernel
theorem dM_settle_51 : decode cM_settle 51 = .ok (.goto (-43), 3) := by decide +kernel
theorem dM_settle_54 : decode cM_settle 54 = .ok (.return_, 1) := by decide +kernel
theorem dM_corrupt_0 : decode cM_corrupt 0 = .ok (.aload_n 0, 1) := by decide +kernel
theorem dM_corrupt_1 : decode cM_corrupt 1 = .ok (.iload_n 1, 1) := by decide +kernel
theorem dM_corrupt_2 : decode cM_corrupt 2 = .ok (.invokevirtual 92, 3) := by decide +kernel
theorem dM_corrupt_5 : decode cM_corrupt 5 = .ok (.ifCond .ne 5, 3) := by decide +kernel
theorem dM_corrupt_8 : decode cM_corrupt 8 = .ok (.iconst 0, 1) := by decide +kernel
theorem dM_corrupt_9 : decode cM_corrupt 9 = .ok (.ireturn, 1) := by decide +kernel
theorem dM_corrupt_10 : decode cM_corrupt 10 = .ok (.aload_n 0, 1) := by decide +kernel
theorem dM_corrupt_11 : decode cM_corrupt 11 = .ok (.getfield 29, 3) := by decide +kernel
theorem dM_corrupt_14 : decode cM_corrupt 14 = .ok (.iload_n 1, 1) := by decide +kernel
theorem dM_corrupt_15 : decode cM_corrupt 15 = .ok (.iconst 1, 1) := by decide +kernel
theorem dM_corrupt_16 : decode cM_corrupt 16 = .ok (.bastore, 1) := by decide +kernel
theorem dM_corrupt_17 : decode cM_corrupt 17 = .ok (.iconst 1, 1) := by decide +kernel
theorem dM_corrupt_18 : decode cM_corrupt 18 = .ok (.ireturn, 1) := by decide +kernel
theorem dM_choice_0 : decode cM_choice 0 = .ok (.iload_n 2, 1) := by decide +kernel
theorem dM_choice_1 : decode cM_choice 1 = .ok (.istore_n 3, 1) := by decide +kernel
theorem dM_choice_2 : decode cM_choice 2 = .ok (.iconst 0, 1) := by decide +kernel
theorem dM_choice_3 : decode cM_choice 3 = .ok (.istore 4, 2) := by decide +kernel
theorem dM_choice_5 : decode cM_choice 5 = .ok (.iload 4, 2) := by decide +kernel
theorem dM_choice_7 : decode cM_choice 7 = .ok (.bipush 12, 2) := by decide +kernel
theorem dM_choice_9 : decode cM_choice 9 = .ok (.if_icmp .ge 33, 3) := by decide +kernel
theorem dM_choice_12 : decode cM_choice 12 = .ok (.aload_n 0, 1) := by decide +kernel
theorem dM_choice_13 : decode cM_choice 13 = .ok (.getfield 38, 3) := by decide +kernel
theorem dM_choice_16 : decode cM_choice 16 = .ok (.iload_n 1, 1) := by decide +kernel
theorem dM_choice_17 : decode cM_choice 17 = .ok (.iaload, 1) := by decide +kernel
theorem dM_choice_18 : decode cM_choice 18 = .ok (.iload 4, 2) := by decide +kernel
theorem dM_choice_20 : decode cM_choice 20 = .ok (.ishr, 1) := by decide +kernel
theorem dM_choice_21 : decode cM_choice 21 = .ok (.iconst 1, 1) := by decide +kernel
theorem dM_choice_22 : decode cM_choice 22 = .ok (.iand, 1) := by decide +kernel
theorem dM_choice_23 : decode cM_choice 23 = .ok (.iconst 1, 1) := by decide +kernel
theorem dM_choice_24 : decode cM_choice 24 = .ok (.if_icmp .ne 10, 3) := by decide +kernel
theorem dM_choice_27 : decode cM_choice 27 = .ok (.iload 4, 2) := by decide +kernel
theorem dM_choice_29 : decode cM_choice 29 = .ok (.iconst 3, 1) := by decide +kernel
theorem dM_choice_30 : decode cM_choice 30 = .ok (.irem, 1) := by decide +kernel
theorem dM_choice_31 : decode cM_choice 31 = .ok (.goto 4, 3) := by decide +kernel
theorem dM_choice_34 : decode cM_choice 34 = .ok (.iload_n 3, 1) := by decide +kernel
theorem dM_choice_35 : decode cM_choice 35 = .ok (.istore_n 3, 1) := by decide +kernel
theorem dM_choice_36 : decode cM_choice 36 = .ok (.iinc 4 1, 3) := by decide +kernel
theorem dM_choice_39 : decode cM_choice 39 = .ok (.goto (-34), 3) := by decide +kernel
theorem dM_choice_42 : decode cM_choice 42 = .ok (.bipush 12, 2) := by decide +kernel
theorem dM_choice_44 : decode cM_choice 44 = .ok (.istore 4, 2) := by decide +kernel
theorem dM_choice_46 : decode cM_choice 46 = .ok (.iload 4, 2) := by decide +kernel
theorem dM_choice_48 : decode cM_choice 48 = .ok (.bipush 24, 2) := by decide +kernel
theorem dM_choice_50 : decode cM_choice 50 = .ok (.if_icmp .ge 33, 3) := by decide +kernel
theorem dM_choice_53 : decode cM_choice 53 = .ok (.aload_n 0, 1) := by decide +kernel
theorem dM_choice_54 : decode cM_choice 54 = .ok (.getfield 35, 3) := by decide +kernel
theorem dM_choice_57 : decode cM_choice 57 = .ok (.iload_n 1, 1) := by decide +kernel
theorem dM_choice_58 : decode cM_choice 58 = .ok (.iaload, 1) := by decide +kernel
theorem dM_choice_59 : decode cM_choice 59 = .ok (.iload 4, 2) := by decide +kernel
theorem dM_choice_61 : decode cM_choice 61 = .ok (.ishr, 1) := by decide +kernel
theorem dM_choice_62 : decode cM_choice 62 = .ok (.iconst 1, 1) := by decide +kernel
theorem dM_choice_63 : decode cM_choice 63 = .ok (.iand, 1) := by decide +kernel
theorem dM_choice_64 : decode cM_choice 64 = .ok (.iconst 1, 1) := by decide +kernel
theorem dM_choice_65 : decode cM_choice 65 = .ok (.if_icmp .ne 10, 3) := by decide +kernel
theorem dM_choice_68 : decode cM_choice 68 = .ok (.iload 4, 2) := by decide +kernel
theorem dM_choice_70 : decode cM_choice 70 = .ok (.iconst 3, 1) := by decide +kernel
theorem dM_choice_71 : decode cM_choice 71 = .ok (.irem, 1) := by decide +kernel
theorem dM_choice_72 : decode cM_choice 72 = .ok (.goto 4, 3) := by decide +kernel
theorem dM_choice_75 : decode cM_choice 75 = .ok (.iload_n 3, 1) := by decide +kernel
theorem dM_choice_76 : decode cM_choice 76 = .ok (.istore_n 3, 1) := by decide +kernel
theorem dM_choice_77 : decode cM_choice 77 = .ok (.iinc 4 1, 3) := by decide +kernel
theorem dM_choice_80 : decode cM_choice 80 = .ok (.goto (-34), 3) := by decide +kernel
theorem dM_choice_83 : decode cM_choice 83 = .ok (.iload_n 3, 1) := by decide +kernel
theorem dM_choice_84 : decode cM_choice 84 = .ok (.ireturn, 1) := by decide +kernel
theorem dM_propose_0 : decode cM_propose 0 = .ok (.aload_n 0, 1) := by decide +kernel
theorem dM_propose_1 : decode cM_propose 1 = .ok (.iload_n 1, 1) := by decide +kernel
theorem dM_propose_2 : decode cM_propose 2 = .ok (.invokevirtual 92, 3) := by decide +kernel
theorem dM_propose_5 : decode cM_propose 5 = .ok (.ifCond .eq 32, 3) := by decide +kernel
theorem dM_propose_8 : decode cM_propose 8 = .ok (.iload_n 2, 1) := by decide +kernel
theorem dM_propose_9 : decode cM_propose 9 = .ok (.iconst 1, 1) := by decide +kernel
theorem dM_propose_10 : decode cM_propose 10 = .ok (.if_icmp .lt 27, 3) := by decide +kernel
theorem dM_propose_13 : decode cM_propose 13 = .ok (.iload_n 2, 1) := by decide +kernel
theorem dM_propose_14 : decode cM_propose 14 = .ok (.iconst 4, 1) := by decide +kernel
theorem dM_propose_15 : decode cM_propose 15 = .ok (.if_icmp .gt 22, 3) := by decide +kernel
theorem dM_propose_18 : decode cM_propose 18 = .ok (.iload_n 2, 1) := by decide +kernel
theorem dM_propose_19 : decode cM_propose 19 = .ok (.aload_n 0, 1) := by decide +kernel
theorem dM_propose_20 : decode cM_propose 20 = .ok (.getfield 41, 3) := by decide +kernel
theorem dM_propose_23 : decode cM_propose 23 = .ok (.iload_n 1, 1) := by decide +kernel
theorem dM_propose_24 : decode cM_propose 24 = .ok (.iaload, 1) := by decide +kernel
theorem dM_propose_25 : decode cM_propose 25 = .ok (.if_icmp .le 12, 3) := by decide +kernel
theorem dM_propose_28 : decode cM_propose 28 = .ok (.iload_n 3, 1) := by decide +kernel
theorem dM_propose_29 : decode cM_propose 29 = .ok (.ifCond .lt 8, 3) := by decide +kernel
theorem dM_propose_32 : decode cM_propose 32 = .ok (.iload_n 3, 1) := by decide +kernel
theorem dM_propose_33 : decode cM_propose 33 = .ok (.iconst 2, 1) := by decide +kernel
theorem dM_propose_34 : decode cM_propose 34 = .ok (.if_icmp .le 5, 3) := by decide +kernel
theorem dM_propose_37 : decode cM_propose 37 = .ok (.iconst (-1), 1) := by decide +kernel
theorem dM_propose_38 : decode cM_propose 38 = .ok (.ireturn, 1) := by decide +kernel
theorem dM_propose_39 : decode cM_propose 39 = .ok (.aload_n 0, 1) := by decide +kernel
theorem dM_propose_40 : decode cM_propose 40 = .ok (.iconst 1, 1) := by decide +kernel
theorem dM_propose_41 : decode cM_propose 41 = .ok (.putfield 70, 3) := by decide +kernel
theorem dM_propose_44 : decode cM_propose 44 = .ok (.aload_n 0, 1) := by decide +kernel
theorem dM_propose_45 : decode cM_propose 45 = .ok (.getfield 44, 3) := by decide +kernel
theorem dM_propose_48 : decode cM_propose 48 = .ok (.iload_n 1, 1) := by decide +kernel
theorem dM_propose_49 : decode cM_propose 49 = .ok (.aload_n 0, 1) := by decide +kernel
theorem dM_propose_50 : decode cM_propose 50 = .ok (.iload_n 1, 1) := by decide +kernel
theorem dM_propose_51 : decode cM_propose 51 = .ok (.iload_n 3, 1) := by decide +kernel
theorem dM_propose_52 : decode cM_propose 52 = .ok (.invokevirtual 130, 3) := by decide +kernel
theorem dM_propose_55 : decode cM_propose 55 = .ok (.iastore, 1) := by decide +kernel
theorem dM_propose_56 : decode cM_propose 56 = .ok (.aload_n 0, 1) := by decide +kernel
theorem dM_propose_57 : decode cM_propose 57 = .ok (.getfield 41, 3) := by decide +kernel
theorem dM_propose_60 : decode cM_propose 60 = .ok (.iload_n 1, 1) := by decide +kernel
theorem dM_propose_61 : decode cM_propose 61 = .ok (.iload_n 2, 1) := by decide +kernel
theorem dM_propose_62 : decode cM_propose 62 = .ok (.iastore, 1) := by decide +kernel
theorem dM_propose_63 : decode cM_propose 63 = .ok (.iconst 1, 1) := by decide +kernel
theorem dM_propose_64 : decode cM_propose 64 = .ok (.istore 4, 2) := by decide +kernel
theorem dM_propose_66 : decode cM_propose 66 = .ok (.iload 4, 2) := by decide +kernel
theorem dM_propose_68 : decode cM_propose 68 = .ok (.iload_n 2, 1) := by decide +kernel
theorem dM_propose_69 : decode cM_propose 69 = .ok (.if_icmp .gt 29, 3) := by decide +kernel
theorem dM_propose_72 : decode cM_propose 72 = .ok (.aload_n 0, 1) := by decide +kernel
theorem dM_propose_73 : decode cM_propose 73 = .ok (.iload_n 1, 1) := by decide +kernel
theorem dM_propose_74 : decode cM_propose 74 = .ok (.iconst 3, 1) := by decide +kernel
theorem dM_propose_75 : decode cM_propose 75 = .ok (.iload 4, 2) := by decide +kernel
theorem dM_propose_77 : decode cM_propose 77 = .ok (.iconst 1, 1) := by decide +kernel
theorem dM_propose_78 : decode cM_propose 78 = .ok (.isub, 1) := by decide +kernel
theorem dM_propose_79 : decode cM_propose 79 = .ok (.imul, 1) := by decide +kernel
theorem dM_propose_80 : decode cM_propose 80 = .ok (.aload_n 0, 1) := by decide +kernel
theorem dM_propose_81 : decode cM_propose 81 = .ok (.getfield 44, 3) := by decide +kernel
theorem dM_propose_84 : decode cM_propose 84 = .ok (.iload_n 1, 1) := by decide +kernel
theorem dM_propose_85 : decode cM_propose 85 = .ok (.iaload, 1) := by decide +kernel
theorem dM_propose_86 : decode cM_propose 86 = .ok (.iadd, 1) := by decide +kernel
theorem dM_propose_87 : decode cM_propose 87 = .ok (.invokevirtual 118, 3) := by decide +kernel
theorem dM_propose_90 : decode cM_propose 90 = .ok (.istore 5, 2) := by decide +kernel
theorem dM_propose_92 : decode cM_propose 92 = .ok (.iinc 4 1, 3) := by decide +kernel
theorem dM_propose_95 : decode cM_propose 95 = .ok (.goto (-29), 3) := by decide +kernel
theorem dM_propose_98 : decode cM_propose 98 = .ok (.aload_n 0, 1) := by decide +kernel
theorem dM_propose_99 : decode cM_propose 99 = .ok (.iload_n 1, 1) := by decide +kernel
theorem dM_propose_100 : decode cM_propose 100 = .ok (.invokevirtual 133, 3) := by decide +kernel
theorem dM_propose_103 : decode cM_propose 103 = .ok (.aload_n 0, 1) := by decide +kernel
theorem dM_propose_104 : decode cM_propose 104 = .ok (.getfield 44, 3) := by decide +kernel
theorem dM_propose_107 : decode cM_propose 107 = .ok (.iload_n 1, 1) := by decide +kernel
theorem dM_propose_108 : decode cM_propose 108 = .ok (.iaload, 1) := by decide +kernel
theorem dM_propose_109 : decode cM_propose 109 = .ok (.ireturn, 1) := by decide +kernel
theorem dM_deliver_0 : decode cM_deliver 0 = .ok (.aload_n 0, 1) := by decide +kernel
theorem dM_deliver_1 : decode cM_deliver 1 = .ok (.iload_n 1, 1) := by decide +kernel
theorem dM_deliver_2 : decode cM_deliver 2 = .ok (.invokevirtual 92, 3) := by decide +kernel
theorem dM_deliver_5 : decode cM_deliver 5 = .ok (.ifCond .eq 16, 3) := by decide +kernel
theorem dM_deliver_8 : decode cM_deliver 8 = .ok (.aload_n 0, 1) := by decide +kernel
theorem dM_deliver_9 : decode cM_deliver 9 = .ok (.iload_n 2, 1) := by decide +kernel
theorem dM_deliver_10 : decode cM_deliver 10 = .ok (.invokevirtual 92, 3) := by decide +kernel
theorem dM_deliver_13 : decode cM_deliver 13 = .ok (.ifCond .eq 8, 3) := by decide +kernel
theorem dM_deliver_16 : decode cM_deliver 16 = .ok (.iload_n 1, 1) := by decide +kernel
theorem dM_deliver_17 : decode cM_deliver 17 = .ok (.iload_n 2, 1) := by decide +kernel
theorem dM_deliver_18 : decode cM_deliver 18 = .ok (.if_icmp .ne 5, 3) := by decide +kernel
theorem dM_deliver_21 : decode cM_deliver 21 = .ok (.iconst 0, 1) := by decide +kernel
theorem dM_deliver_22 : decode cM_deliver 22 = .ok (.ireturn, 1) := by decide +kernel
theorem dM_deliver_23 : decode cM_deliver 23 = .ok (.aload_n 0, 1) := by decide +kernel
theorem dM_deliver_24 : decode cM_deliver 24 = .ok (.iconst 1, 1) := by decide +kernel
theorem dM_deliver_25 : decode cM_deliver 25 = .ok (.putfield 70, 3) := by decide +kernel
theorem dM_deliver_28 : decode cM_deliver 28 = .ok (.aload_n 0, 1) := by decide +kernel
theorem dM_deliver_29 : decode cM_deliver 29 = .ok (.getfield 50, 3) := by decide +kernel
theorem dM_deliver_32 : decode cM_deliver 32 = .ok (.bipush 6, 2) := by decide +kernel
theorem dM_deliver_34 : decode cM_deliver 34 = .ok (.iload_n 2, 1) := by decide +kernel
theorem dM_deliver_35 : decode cM_deliver 35 = .ok (.imul, 1) := by decide +kernel
theorem dM_deliver_36 : decode cM_deliver 36 = .ok (.iload_n 1, 1) := by decide +kernel
theorem dM_deliver_37 : decode cM_deliver 37 = .ok (.iadd, 1) := by decide +kernel
theorem dM_deliver_38 : decode cM_deliver 38 = .ok (.aload_n 0, 1) := by decide +kernel
theorem dM_deliver_39 : decode cM_deliver 39 = .ok (.getfield 32, 3) := by decide +kernel
theorem dM_deliver_42 : decode cM_deliver 42 = .ok (.iload_n 1, 1) := by decide +kernel
theorem dM_deliver_43 : decode cM_deliver 43 = .ok (.iaload, 1) := by decide +kernel
theorem dM_deliver_44 : decode cM_deliver 44 = .ok (.iastore, 1) := by decide +kernel
theorem dM_deliver_45 : decode cM_deliver 45 = .ok (.aload_n 0, 1) := by decide +kernel
theorem dM_deliver_46 : decode cM_deliver 46 = .ok (.getfield 53, 3) := by decide +kernel
theorem dM_deliver_49 : decode cM_deliver 49 = .ok (.bipush 6, 2) := by decide +kernel
theorem dM_deliver_51 : decode cM_deliver 51 = .ok (.iload_n 2, 1) := by decide +kernel
theorem dM_deliver_52 : decode cM_deliver 52 = .ok (.imul, 1) := by decide +kernel
theorem dM_deliver_53 : decode cM_deliver 53 = .ok (.iload_n 1, 1) := by decide +kernel
theorem dM_deliver_54 : decode cM_deliver 54 = .ok (.iadd, 1) := by decide +kernel
theorem dM_deliver_55 : decode cM_deliver 55 = .ok (.aload_n 0, 1) := by decide +kernel
theorem dM_deliver_56 : decode cM_deliver 56 = .ok (.getfield 35, 3) := by decide +kernel
theorem dM_deliver_59 : decode cM_deliver 59 = .ok (.iload_n 1, 1) := by decide +kernel
theorem dM_deliver_60 : decode cM_deliver 60 = .ok (.iaload, 1) := by decide +kernel
theorem dM_deliver_61 : decode cM_deliver 61 = .ok (.iastore, 1) := by decide +kernel
theorem dM_deliver_62 : decode cM_deliver 62 = .ok (.aload_n 0, 1) := by decide +kernel
theorem dM_deliver_63 : decode cM_deliver 63 = .ok (.iload_n 2, 1) := by decide +kernel
theorem dM_deliver_64 : decode cM_deliver 64 = .ok (.invokevirtual 133, 3) := by decide +kernel
theorem dM_deliver_67 : decode cM_deliver 67 = .ok (.iconst 1, 1) := by decide +kernel
theorem dM_deliver_68 : decode cM_deliver 68 = .ok (.ireturn, 1) := by decide +kernel
theorem dM_say_0 : decode cM_say 0 = .ok (.aload_n 0, 1) := by decide +kernel
theorem dM_say_1 : decode cM_say 1 = .ok (.iload_n 1, 1) := by decide +kernel
theorem dM_say_2 : decode cM_say 2 = .ok (.invokevirtual 63, 3) := by decide +kernel
theorem dM_say_5 : decode cM_say 5 = .ok (.ifCond .eq 20, 3) := by decide +kernel
theorem dM_say_8 : decode cM_say 8 = .ok (.aload_n 0, 1) := by decide +kernel
theorem dM_say_9 : decode cM_say 9 = .ok (.getfield 29, 3) := by decide +kernel
theorem dM_say_12 : decode cM_say 12 = .ok (.iload_n 1, 1) := by decide +kernel
theorem dM_say_13 : decode cM_say 13 = .ok (.baload, 1) := by decide +kernel
theorem dM_say_14 : decode cM_say 14 = .ok (.ifCond .eq 11, 3) := by decide +kernel
theorem dM_say_17 : decode cM_say 17 = .ok (.aload_n 0, 1) := by decide +kernel
theorem dM_say_18 : decode cM_say 18 = .ok (.iload_n 2, 1) := by decide +kernel
theorem dM_say_19 : decode cM_say 19 = .ok (.invokevirtual 92, 3) := by decide +kernel
theorem dM_say_22 : decode cM_say 22 = .ok (.ifCond .ne 5, 3) := by decide +kernel
theorem dM_say_25 : decode cM_say 25 = .ok (.iconst 0, 1) := by decide +kernel
theorem dM_say_26 : decode cM_say 26 = .ok (.ireturn, 1) := by decide +kernel
theorem dM_say_27 : decode cM_say 27 = .ok (.aload_n 0, 1) := by decide +kernel
theorem dM_say_28 : decode cM_say 28 = .ok (.iconst 1, 1) := by decide +kernel
theorem dM_say_29 : decode cM_say 29 = .ok (.putfield 70, 3) := by decide +kernel
theorem dM_say_32 : decode cM_say 32 = .ok (.aload_n 0, 1) := by decide +kernel
theorem dM_say_33 : decode cM_say 33 = .ok (.getfield 50, 3) := by decide +kernel
theorem dM_say_36 : decode cM_say 36 = .ok (.bipush 6, 2) := by decide +kernel
theorem dM_say_38 : decode cM_say 38 = .ok (.iload_n 2, 1) := by decide +kernel
theorem dM_say_39 : decode cM_say 39 = .ok (.imul, 1) := by decide +kernel
theorem dM_say_40 : decode cM_say 40 = .ok (.iload_n 1, 1) := by decide +kernel
theorem dM_say_41 : decode cM_say 41 = .ok (.iadd, 1) := by decide +kernel
theorem dM_say_42 : decode cM_say 42 = .ok (.iload_n 3, 1) := by decide +kernel
theorem dM_say_43 : decode cM_say 43 = .ok (.ldc 136, 2) := by decide +kernel
theorem dM_say_45 : decode cM_say 45 = .ok (.iand, 1) := by decide +kernel
theorem dM_say_46 : decode cM_say 46 = .ok (.iastore, 1) := by decide +kernel
theorem dM_say_47 : decode cM_say 47 = .ok (.aload_n 0, 1) := by decide +kernel
theorem dM_say_48 : decode cM_say 48 = .ok (.getfield 53, 3) := by decide +kernel
theorem dM_say_51 : decode cM_say 51 = .ok (.bipush 6, 2) := by decide +kernel
theorem dM_say_53 : decode cM_say 53 = .ok (.iload_n 2, 1) := by decide +kernel
theorem dM_say_54 : decode cM_say 54 = .ok (.imul, 1) := by decide +kernel
theorem dM_say_55 : decode cM_say 55 = .ok (.iload_n 1, 1) := by decide +kernel
theorem dM_say_56 : decode cM_say 56 = .ok (.iadd, 1) := by decide +kernel
theorem dM_say_57 : decode cM_say 57 = .ok (.iload 4, 2) := by decide +kernel
theorem dM_say_59 : decode cM_say 59 = .ok (.ldc 136, 2) := by decide +kernel
theorem dM_say_61 : decode cM_say 61 = .ok (.iand, 1) := by decide +kernel
theorem dM_say_62 : decode cM_say 62 = .ok (.iastore, 1) := by decide +kernel
theorem dM_say_63 : decode cM_say 63 = .ok (.aload_n 0, 1) := by decide +kernel
theorem dM_say_64 : decode cM_say 64 = .ok (.iload_n 2, 1) := by decide +kernel
theorem dM_say_65 : decode cM_say 65 = .ok (.invokevirtual 133, 3) := by decide +kernel
theorem dM_say_68 : decode cM_say 68 = .ok (.iconst 1, 1) := by decide +kernel
theorem dM_say_69 : decode cM_say 69 = .ok (.ireturn, 1) := by decide +kernel
theorem dM_voted_0 : decode cM_voted 0 = .ok (.aload_n 0, 1) := by decide +kernel
theorem dM_voted_1 : decode cM_voted 1 = .ok (.iload_n 1, 1) := by decide +kernel
theorem dM_voted_2 : decode cM_voted 2 = .ok (.invokevirtual 63, 3) := by decide +kernel
theorem dM_voted_5 : decode cM_voted 5 = .ok (.ifCond .eq 12, 3) := by decide +kernel
theorem dM_voted_8 : decode cM_voted 8 = .ok (.aload_n 0, 1) := by decide +kernel
theorem dM_voted_9 : decode cM_voted 9 = .ok (.getfield 32, 3) := by decide +kernel
theorem dM_voted_12 : decode cM_voted 12 = .ok (.iload_n 1, 1) := by decide +kernel
theorem dM_voted_13 : decode cM_voted 13 = .ok (.iaload, 1) := by decide +kernel
theorem dM_voted_14 : decode cM_voted 14 = .ok (.goto 4, 3) := by decide +kernel
theorem dM_voted_17 : decode cM_voted 17 = .ok (.iconst 0, 1) := by decide +kernel
theorem dM_voted_18 : decode cM_voted 18 = .ok (.ireturn, 1) := by decide +kernel
theorem dM_accepted_0 : decode cM_accepted 0 = .ok (.aload_n 0, 1) := by decide +kernel
theorem dM_accepted_1 : decode cM_accepted 1 = .ok (.iload_n 1, 1) := by decide +kernel
theorem dM_accepted_2 : decode cM_accepted 2 = .ok (.invokevirtual 63, 3) := by decide +kernel
theorem dM_accepted_5 : decode cM_accepted 5 = .ok (.ifCond .eq 12, 3) := by decide +kernel
theorem dM_accepted_8 : decode cM_accepted 8 = .ok (.aload_n 0, 1) := by decide +kernel
theorem dM_accepted_9 : decode cM_accepted 9 = .ok (.getfield 35, 3) := by decide +kernel
theorem dM_accepted_12 : decode cM_accepted 12 = .ok (.iload_n 1, 1) := by decide +kernel
theorem dM_accepted_13 : decode cM_accepted 13 = .ok (.iaload, 1) := by decide +kernel
theorem dM_accepted_14 : decode cM_accepted 14 = .ok (.goto 4, 3) := by decide +kernel
theorem dM_accepted_17 : decode cM_accepted 17 = .ok (.iconst 0, 1) := by decide +kernel
theorem dM_accepted_18 : decode cM_accepted 18 = .ok (.ireturn, 1) := by decide +kernel
theorem dM_confirmed_0 : decode cM_confirmed 0 = .ok (.aload_n 0, 1) := by decide +kernel
theorem dM_confirmed_1 : decode cM_confirmed 1 = .ok (.iload_n 1, 1) := by decide +kernel
theorem dM_confirmed_2 : decode cM_confirmed 2 = .ok (.invokevirtual 63, 3) := by decide +kernel
theorem dM_confirmed_5 : decode cM_confirmed 5 = .ok (.ifCond .eq 12, 3) := by decide +kernel
theorem dM_confirmed_8 : decode cM_confirmed 8 = .ok (.aload_n 0, 1) := by decide +kernel
theorem dM_confirmed_9 : decode cM_confirmed 9 = .ok (.getfield 38, 3) := by decide +kernel
theorem dM_confirmed_12 : decode cM_confirmed 12 = .ok (.iload_n 1, 1) := by decide +kernel
theorem dM_confirmed_13 : decode cM_confirmed 13 = .ok (.iaload, 1) := by decide +kernel
theorem dM_confirmed_14 : decode cM_confirmed 14 = .ok (.goto 4, 3) := by decide +kernel
theorem dM_confirmed_17 : decode cM_confirmed 17 = .ok (.iconst 0, 1) := by decide +kernel
theorem dM_confirmed_18 : decode cM_confirmed 18 = .ok (.ireturn, 1) := by decide +kernel
theorem dM_counter_0 : decode cM_counter 0 = .ok (.aload_n 0, 1) := by decide +kernel
theorem dM_counter_1 : decode cM_counter 1 = .ok (.iload_n 1, 1) := by decide +kernel
theorem dM_counter_2 : decode cM_counter 2 = .ok (.invokevirtual 63, 3) := by decide +kernel
theorem dM_counter_5 : decode cM_counter 5 = .ok (.ifCond .eq 12, 3) := by decide +kernel
theorem dM_counter_8 : decode cM_counter 8 = .ok (.aload_n 0, 1) := by decide +kernel
theorem dM_counter_9 : decode cM_counter 9 = .ok (.getfield 41, 3) := by decide +kernel
theorem dM_counter_12 : decode cM_counter 12 = .ok (.iload_n 1, 1) := by decide +kernel
theorem dM_counter_13 : decode cM_counter 13 = .ok (.iaload, 1) := by decide +kernel
theorem dM_counter_14 : decode cM_counter 14 = .ok (.goto 4, 3) := by decide +kernel
theorem dM_counter_17 : decode cM_counter 17 = .ok (.iconst 0, 1) := by decide +kernel
theorem dM_counter_18 : decode cM_counter 18 = .ok (.ireturn, 1) := by decide +kernel
theorem dM_value_0 : decode cM_value 0 = .ok (.aload_n 0, 1) := by decide +kernel
theorem dM_value_1 : decode cM_value 1 = .ok (.iload_n 1, 1) := by decide +kernel
theorem dM_value_2 : decode cM_value 2 = .ok (.invokevirtual 63, 3) := by decide +kernel
theorem dM_value_5 : decode cM_value 5 = .ok (.ifCond .eq 12, 3) := by decide +kernel
theorem dM_value_8 : decode cM_value 8 = .ok (.aload_n 0, 1) := by decide +kernel
theorem dM_value_9 : decode cM_value 9 = .ok (.getfield 44, 3) := by decide +kernel
theorem dM_value_12 : decode cM_value 12 = .ok (.iload_n 1, 1) := by decide +kernel
theorem dM_value_13 : decode cM_value 13 = .ok (.iaload, 1) := by decide +kernel
theorem dM_value_14 : decode cM_value 14 = .ok (.goto 4, 3) := by decide +kernel
theorem dM_value_17 : decode cM_value 17 = .ok (.iconst 0, 1) := by decide +kernel
theorem dM_value_18 : decode cM_value 18 = .ok (.ireturn, 1) := by decide +kernel
theorem dM_decided_0 : decode cM_decided 0 = .ok (.aload_n 0, 1) := by decide +kernel
theorem dM_decided_1 : decode cM_decided 1 = .ok (.iload_n 1, 1) := by decide +kernel
theorem dM_decided_2 : decode cM_decided 2 = .ok (.invokevirtual 63, 3) := by decide +kernel
theorem dM_decided_5 : decode cM_decided 5 = .ok (.ifCond .eq 12, 3) := by decide +kernel
theorem dM_decided_8 : decode cM_decided 8 = .ok (.aload_n 0, 1) := by decide +kernel
theorem dM_decided_9 : decode cM_decided 9 = .ok (.getfield 47, 3) := by decide +kernel
theorem dM_decided_12 : decode cM_decided 12 = .ok (.iload_n 1, 1) := by decide +kernel
theorem dM_decided_13 : decode cM_decided 13 = .ok (.iaload, 1) := by decide +kernel
theorem dM_decided_14 : decode cM_decided 14 = .ok (.goto 4, 3) := by decide +kernel
theorem dM_decided_17 : decode cM_decided 17 = .ok (.iconst (-1), 1) := by decide +kernel
theorem dM_decided_18 : decode cM_decided 18 = .ok (.ireturn, 1) := by decide +kernel
theorem dM_known_0 : decode cM_known 0 = .ok (.aload_n 0, 1) := by decide +kernel
theorem dM_known_1 : decode cM_known 1 = .ok (.iload_n 1, 1) := by decide +kernel
theorem dM_known_2 : decode cM_known 2 = .ok (.invokevirtual 63, 3) := by decide +kernel
theorem dM_known_5 : decode cM_known 5 = .ok (.ifCond .eq 11, 3) := by decide +kernel
theorem dM_known_8 : decode cM_known 8 = .ok (.aload_n 0, 1) := by decide +kernel
theorem dM_known_9 : decode cM_known 9 = .ok (.iload_n 2, 1) := by decide +kernel
theorem dM_known_10 : decode cM_known 10 = .ok (.invokevirtual 63, 3) := by decide +kernel
theorem dM_known_13 : decode cM_known 13 = .ok (.ifCond .ne 5, 3) := by decide +kernel
theorem dM_known_16 : decode cM_known 16 = .ok (.iconst 0, 1) := by decide +kernel
theorem dM_known_17 : decode cM_known 17 = .ok (.ireturn, 1) := by decide +kernel
theorem dM_known_18 : decode cM_known 18 = .ok (.iload_n 3, 1) := by decide +kernel
theorem dM_known_19 : decode cM_known 19 = .ok (.ifCond .eq 12, 3) := by decide +kernel
theorem dM_known_22 : decode cM_known 22 = .ok (.aload_n 0, 1) := by decide +kernel
theorem dM_known_23 : decode cM_known 23 = .ok (.iload_n 2, 1) := by decide +kernel
theorem dM_known_24 : decode cM_known 24 = .ok (.iload_n 1, 1) := by decide +kernel
theorem dM_known_25 : decode cM_known 25 = .ok (.invokevirtual 101, 3) := by decide +kernel
theorem dM_known_28 : decode cM_known 28 = .ok (.goto 9, 3) := by decide +kernel
theorem dM_known_31 : decode cM_known 31 = .ok (.aload_n 0, 1) := by decide +kernel
theorem dM_known_32 : decode cM_known 32 = .ok (.iload_n 2, 1) := by decide +kernel
theorem dM_known_33 : decode cM_known 33 = .ok (.iload_n 1, 1) := by decide +kernel
theorem dM_known_34 : decode cM_known 34 = .ok (.invokevirtual 105, 3) := by decide +kernel
theorem dM_known_37 : decode cM_known 37 = .ok (.ireturn, 1) := by decide +kernel
end
section
/-! ===== Int32 by its bits: bt x i ===== -/
def bt (x : Int32) (i : Nat) : Bool := x.toBitVec.getLsbD i
theorem b_ext {x y : Int32} (h : ∀ i, i < 32 → bt x i = bt y i) : x = y := Int32.toBitVec_inj.mp (BitVec.eq_of_getLsbD_eq (fun i hi => h i hi))
theorem b_or (x y : Int32) (i : Nat) : bt (x ||| y) i = (bt x i || bt y i) := by unfold bt; rw [Int32.toBitVec_or, BitVec.getLsbD_or]
theorem b_and (x y : Int32) (i : Nat) : bt (x &&& y) i = (bt x i && bt y i) := by unfold bt; rw [Int32.toBitVec_and, BitVec.getLsbD_and]
theorem b_xor (x y : Int32) (i : Nat) : bt (x ^^^ y) i = (bt x i ^^ bt y i) := by unfold bt; rw [Int32.toBitVec_xor, BitVec.getLsbD_xor]
theorem b_big {x : Int32} {i : Nat} (h : 32 ≤ i) : bt x i = false := BitVec.getLsbD_of_ge _ _ h
theorem b_255 (i : Nat) : bt 255 i = decide (i < 8) := by
  rcases Nat.lt_or_ge i 32 with h | h
  · exact (by decide +kernel : ∀ i, i < 32 → bt 255 i = decide (i < 8)) i h
  · rw [b_big h, decide_eq_false (by omega)]
theorem b_65535 (i : Nat) : bt 65535 i = decide (i < 16) := by
  rcases Nat.lt_or_ge i 32 with h | h
  · exact (by decide +kernel : ∀ i, i < 32 → bt 65535 i = decide (i < 16)) i h
  · rw [b_big h, decide_eq_false (by omega)]
theorem b_m1 : ∀ i, i < 32 → bt (-1) i = true := by decide +kernel
theorem b_0 (i : Nat) : bt 0 i = false := BitVec.getLsbD_zero
theorem s_l : ∀ n, n < 32 → ((nI n &&& 31).toBitVec.smod 32).toNat = n := by decide +kernel
theorem s_u : ∀ n, n < 32 → (((nI n).toUInt32 &&& Int32.toUInt32 31).toBitVec % 32).toNat = n := by decide +kernel
theorem b_shl (n : Nat) (hn : n < 32) (x : Int32) {i : Nat} (hi : i < 32) : bt (x <<< (nI n &&& 31)) i = (decide (n ≤ i) && bt x (i - n)) := by
  unfold bt
  rw [Int32.toBitVec_shiftLeft]
  show (x.toBitVec <<< ((nI n &&& 31).toBitVec.smod 32).toNat).getLsbD i = _
  rw [s_l n hn, BitVec.getLsbD_shiftLeft]
  rcases Nat.lt_or_ge i n with h | h
  · simp [h, Nat.not_le.mpr h]
  · simp [hi, h, Nat.not_lt.mpr h]
theorem b_ushr (n : Nat) (hn : n < 32) (x : Int32) (i : Nat) : bt ((x.toUInt32 >>> ((nI n).toUInt32 &&& Int32.toUInt32 31)).toInt32) i = bt x (n + i) := by
  show (x.toUInt32 >>> ((nI n).toUInt32 &&& Int32.toUInt32 31)).toBitVec.getLsbD i = x.toUInt32.toBitVec.getLsbD (n + i)
  rw [UInt32.toBitVec_shiftRight]
  show (x.toUInt32.toBitVec >>> (((nI n).toUInt32 &&& Int32.toUInt32 31).toBitVec % 32).toNat).getLsbD i = _
  rw [s_u n hn, BitVec.getLsbD_ushiftRight]
theorem b_sshr (n : Nat) (hn : n < 32) (x : Int32) {i : Nat} (hi : i < 32) : bt (x >>> (nI n &&& 31)) i = if n + i < 32 then bt x (n + i) else bt x 31 := by
  unfold bt
  rw [Int32.toBitVec_shiftRight]
  show (x.toBitVec.sshiftRight ((nI n &&& 31).toBitVec.smod 32).toNat).getLsbD i = _
  rw [s_l n hn, BitVec.getLsbD_sshiftRight, BitVec.msb_eq_getLsbD_last]
  simp [hi]
theorem b_shl8 (x : Int32) {i : Nat} (hi : i < 32) : bt (x <<< ((8 : Int32) &&& 31)) i = (decide (8 ≤ i) && bt x (i - 8)) := b_shl 8 (by omega) x hi
theorem b_shl16 (x : Int32) {i : Nat} (hi : i < 32) : bt (x <<< ((16 : Int32) &&& 31)) i = (decide (16 ≤ i) && bt x (i - 16)) := b_shl 16 (by omega) x hi
theorem b_shl24 (x : Int32) {i : Nat} (hi : i < 32) : bt (x <<< ((24 : Int32) &&& 31)) i = (decide (24 ≤ i) && bt x (i - 24)) := b_shl 24 (by omega) x hi
theorem b_sshr8 (x : Int32) {i : Nat} (hi : i < 32) : bt (x >>> ((8 : Int32) &&& 31)) i = if 8 + i < 32 then bt x (8 + i) else bt x 31 := b_sshr 8 (by omega) x hi
end
section
/-! Own rows: the mathematical value of the two systems. State: a function of a tag (the reference's field, by its place) and a place. -/
section SvPure
abbrev Sg : Type := Nat → Nat → Int32
def sv_b (b : Bool) : Int32 := bif b then 1 else 0
theorem sv_b_t : sv_b true = 1 := rfl
theorem sv_b_f : sv_b false = 0 := rfl
theorem sv_b0 {b : Bool} : sv_b b = 0 ↔ b = false := by cases b <;> decide
theorem sv_bn0 {b : Bool} : ¬ sv_b b = 0 ↔ b = true := by cases b <;> decide
theorem sv_b_dec {c : Prop} (d : Decidable c) (h : c) : (1 : Int32) = sv_b (decide c) := by rw [decide_eq_true h]; rfl
/-- one place of the state is written -/
def sg (s : Sg) (k i : Nat) (v : Int32) : Sg := fun a => if a = k then upd (s k) i v else s a
theorem sg_same (s : Sg) (k i : Nat) (v : Int32) : sg s k i v k = upd (s k) i v := if_pos rfl
theorem sg_ne (s : Sg) {k a : Nat} (i : Nat) (v : Int32) (h : a ≠ k) : sg s k i v a = s a := if_neg h
theorem sg_at (s : Sg) (k i : Nat) (v : Int32) : sg s k i v k i = v := by simp [sg, upd]
theorem sg_off (s : Sg) {k i a j : Nat} (v : Int32) (h : a ≠ k ∨ j ≠ i) : sg s k i v a j = s a j := by
  unfold sg upd
  by_cases h1 : a = k
  · subst h1
    rcases h with h | h
    · exact absurd rfl h
    · simp [h]
  · simp [h1]
theorem sg_self (s : Sg) (k i : Nat) : sg s k i (s k i) = s := by
  funext a j
  by_cases h : a = k ∧ j = i
  · obtain ⟨rfl, rfl⟩ := h
    exact sg_at s a j (s a j)
  · exact sg_off s _ (by rcases Nat.lt_or_ge a k with h1 | h1 <;> omega)
/-- how many places from lo on, below h, hold P -/
def sv_cnt (P : Nat → Bool) (lo : Nat) : Nat → Nat
  | 0 => 0
  | h + 1 => sv_cnt P lo h + (bif decide (lo ≤ h) && P h then 1 else 0)
theorem sv_cnt_s (P : Nat → Bool) (lo h : Nat) : sv_cnt P lo (h + 1) = sv_cnt P lo h + (bif decide (lo ≤ h) && P h then 1 else 0) := rfl
theorem sv_cnt_t {P : Nat → Bool} {lo h : Nat} (hl : lo ≤ h) (hp : P h = true) : sv_cnt P lo (h + 1) = sv_cnt P lo h + 1 := by simp [sv_cnt_s, hl, hp]
theorem sv_cnt_f {P : Nat → Bool} {lo h : Nat} (hp : P h = false) : sv_cnt P lo (h + 1) = sv_cnt P lo h := by simp [sv_cnt_s, hp]
theorem sv_cnt_lo {P : Nat → Bool} {lo : Nat} : ∀ h, h ≤ lo → sv_cnt P lo h = 0
  | 0, _ => rfl
  | h + 1, hh => by rw [sv_cnt_s, sv_cnt_lo h (by omega), decide_eq_false (by omega)]; rfl
theorem sv_cnt_skip {P : Nat → Bool} {lo j : Nat} : ∀ h, j ≤ h → (∀ i, j ≤ i → i < h → P i = false) → sv_cnt P lo h = sv_cnt P lo j
  | 0, hj, _ => by rw [show j = 0 by omega]
  | h + 1, hj, hn => by
    by_cases e : j = h + 1
    · rw [e]
    · rw [sv_cnt_f (hn h (by omega) (by omega)), sv_cnt_skip h (by omega) (fun i h1 h2 => hn i h1 (by omega))]
theorem sv_cnt_le {P : Nat → Bool} {lo : Nat} : ∀ h, sv_cnt P lo h ≤ h
  | 0 => Nat.le_refl _
  | h + 1 => by
    have := sv_cnt_le (P := P) (lo := lo) h
    rw [sv_cnt_s]
    cases (decide (lo ≤ h) && P h) <;> simp <;> omega
theorem sv_cnt_mono {P P' : Nat → Bool} {lo : Nat} : ∀ h, (∀ i, i < h → P i = true → P' i = true) → sv_cnt P lo h ≤ sv_cnt P' lo h
  | 0, _ => Nat.le_refl _
  | h + 1, hp => by
    have h1 := sv_cnt_mono (P := P) (P' := P') (lo := lo) h (fun i hi => hp i (by omega))
    have h2 := hp h (by omega)
    rw [sv_cnt_s, sv_cnt_s]
    cases e1 : P h with
    | false => simp; cases (decide (lo ≤ h) && P' h) <;> simp <;> omega
    | true => rw [h2 e1]; omega
theorem sv_cnt_congr {P P' : Nat → Bool} {lo : Nat} : ∀ h, (∀ i, lo ≤ i → i < h → P i = P' i) → sv_cnt P lo h = sv_cnt P' lo h
  | 0, _ => rfl
  | h + 1, hp => by
    rw [sv_cnt_s, sv_cnt_s, sv_cnt_congr h (fun i h1 h2 => hp i h1 (by omega))]
    by_cases hl : lo ≤ h
    · rw [hp h hl (by omega)]
    · simp [hl]
/-- the last place below k that holds P; the least one -/
def sv_last (P : Nat → Bool) : Nat → Option Nat
  | 0 => none
  | k + 1 => bif P k then some k else sv_last P k
theorem sv_last_t {P : Nat → Bool} {k : Nat} (h : P k = true) : sv_last P (k + 1) = some k := by simp [sv_last, h]
theorem sv_last_f {P : Nat → Bool} {k : Nat} (h : P k = false) : sv_last P (k + 1) = sv_last P k := by simp [sv_last, h]
theorem sv_last_none {P : Nat → Bool} : ∀ k, sv_last P k = none → ∀ j, j < k → P j = false
  | 0, _, j, hj => absurd hj (by omega)
  | k + 1, h, j, hj => by
    cases e : P k with
    | true => rw [sv_last_t e] at h; cases h
    | false =>
      rw [sv_last_f e] at h
      by_cases h1 : j = k
      · rw [h1]; exact e
      · exact sv_last_none k h j (by omega)
theorem sv_last_some {P : Nat → Bool} {i : Nat} : ∀ k, sv_last P k = some i → i < k ∧ P i = true ∧ ∀ j, i < j → j < k → P j = false
  | 0, h => by cases h
  | k + 1, h => by
    cases e : P k with
    | true => rw [sv_last_t e] at h; cases h; exact ⟨by omega, e, fun j h1 h2 => by omega⟩
    | false =>
      rw [sv_last_f e] at h
      obtain ⟨h1, h2, h3⟩ := sv_last_some k h
      refine ⟨by omega, h2, fun j h4 h5 => ?_⟩
      by_cases h6 : j = k
      · rw [h6]; exact e
      · exact h3 j h4 (by omega)
theorem sv_last_is {P : Nat → Bool} {i : Nat} : ∀ k, i < k → P i = true → (∀ j, i < j → j < k → P j = false) → sv_last P k = some i
  | 0, h, _, _ => absurd h (by omega)
  | k + 1, h, hp, hn => by
    by_cases e : i = k
    · rw [← e]; exact sv_last_t hp
    · rw [sv_last_f (hn k (by omega) (by omega))]
      exact sv_last_is k (by omega) hp (fun j h1 h2 => hn j h1 (by omega))
theorem sv_last_no {P : Nat → Bool} : ∀ k, (∀ j, j < k → P j = false) → sv_last P k = none
  | 0, _ => rfl
  | k + 1, hn => by rw [sv_last_f (hn k (by omega))]; exact sv_last_no k (fun j hj => hn j (by omega))
theorem sv_last_congr {P P' : Nat → Bool} : ∀ k, (∀ j, j < k → P j = P' j) → sv_last P k = sv_last P' k
  | 0, _ => rfl
  | k + 1, h => by unfold sv_last; rw [h k (by omega), sv_last_congr k (fun j hj => h j (by omega))]
def sv_least (P : Nat → Bool) : Nat → Option Nat
  | 0 => none
  | k + 1 => match sv_least P k with
    | some s => some s
    | none => bif P k then some k else none
theorem sv_least_no {P : Nat → Bool} : ∀ k, (∀ j, j < k → P j = false) → sv_least P k = none
  | 0, _ => rfl
  | k + 1, hn => by unfold sv_least; rw [sv_least_no k (fun j hj => hn j (by omega)), hn k (by omega)]; rfl
theorem sv_least_is {P : Nat → Bool} {i : Nat} : ∀ k, i < k → P i = true → (∀ j, j < i → P j = false) → sv_least P k = some i
  | 0, h, _, _ => absurd h (by omega)
  | k + 1, h, hp, hn => by
    unfold sv_least
    by_cases e : i = k
    · subst e
      rw [sv_least_no i hn, hp]; rfl
    · rw [sv_least_is k (by omega) hp hn]
theorem sv_least_none {P : Nat → Bool} : ∀ k, sv_least P k = none → ∀ j, j < k → P j = false
  | 0, _, j, hj => absurd hj (by omega)
  | k + 1, h, j, hj => by
    unfold sv_least at h
    cases e : sv_least P k with
    | some s => rw [e] at h; cases h
    | none =>
      rw [e] at h
      cases e2 : P k with
      | true => rw [e2] at h; cases h
      | false =>
        by_cases h1 : j = k
        · rw [h1]; exact e2
        · exact sv_least_none k e j (by omega)
theorem sv_least_some {P : Nat → Bool} {i : Nat} : ∀ k, sv_least P k = some i → i < k ∧ P i = true ∧ ∀ j, j < i → P j = false
  | 0, h => by cases h
  | k + 1, h => by
    unfold sv_least at h
    cases e : sv_least P k with
    | some s =>
      rw [e] at h
      cases h
      obtain ⟨h1, h2, h3⟩ := sv_least_some k e
      exact ⟨by omega, h2, h3⟩
    | none =>
      rw [e] at h
      cases e2 : P k with
      | false => rw [e2] at h; cases h
      | true =>
        rw [e2] at h
        cases h
        refine ⟨by omega, e2, fun j hj => ?_⟩
        exact sv_least_none _ e j hj
def sv_all (P : Nat → Bool) : Nat → Bool
  | 0 => true
  | k + 1 => sv_all P k && P k
theorem sv_all_iff {P : Nat → Bool} : ∀ k, sv_all P k = true ↔ ∀ j, j < k → P j = true
  | 0 => ⟨fun _ j hj => absurd hj (by omega), fun _ => rfl⟩
  | k + 1 => by
    rw [show sv_all P (k + 1) = (sv_all P k && P k) from rfl, Bool.and_eq_true, sv_all_iff k]
    exact ⟨fun h j hj => by
      by_cases e : j = k
      · rw [e]; exact h.2
      · exact h.1 j (by omega), fun h => ⟨fun j hj => h j (by omega), h k (by omega)⟩⟩
def sv_any (P : Nat → Bool) : Nat → Bool
  | 0 => false
  | k + 1 => sv_any P k || P k
theorem sv_any_iff {P : Nat → Bool} : ∀ k, sv_any P k = true ↔ ∃ j, j < k ∧ P j = true
  | 0 => ⟨fun h => Bool.noConfusion h, fun ⟨j, hj, _⟩ => absurd hj (by omega)⟩
  | k + 1 => by
    rw [show sv_any P (k + 1) = (sv_any P k || P k) from rfl, Bool.or_eq_true, sv_any_iff k]
    constructor
    · rintro (⟨j, h1, h2⟩ | h)
      · exact ⟨j, by omega, h2⟩
      · exact ⟨k, by omega, h⟩
    · rintro ⟨j, h1, h2⟩
      by_cases e : j = k
      · rw [e] at h2; exact Or.inr h2
      · exact Or.inl ⟨j, by omega, h2⟩
theorem sv_any_no {P : Nat → Bool} (k : Nat) (h : ∀ j, j < k → P j = false) : sv_any P k = false := by
  cases e : sv_any P k with
  | false => rfl
  | true => obtain ⟨j, h1, h2⟩ := (sv_any_iff k).mp e; rw [h j h1] at h2; cases h2
theorem sv_any_yes {P : Nat → Bool} {j : Nat} (k : Nat) (h : j < k) (hp : P j = true) : sv_any P k = true := (sv_any_iff k).mpr ⟨j, h, hp⟩
theorem sv_any_congr {P P' : Nat → Bool} : ∀ k, (∀ j, j < k → P j = P' j) → sv_any P k = sv_any P' k
  | 0, _ => rfl
  | k + 1, h => by unfold sv_any; rw [h k (by omega), sv_any_congr k (fun j hj => h j (by omega))]
/-- the union of the numbers below k that hold P, as sets of bits -/
def sv_orr (P : Nat → Bool) : Nat → Nat
  | 0 => 0
  | k + 1 => bif P k then sv_orr P k ||| k else sv_orr P k
theorem sv_orr_bit {P : Nat → Bool} {v : Nat} : ∀ k, (sv_orr P k).testBit v = true ↔ ∃ j, j < k ∧ P j = true ∧ j.testBit v = true
  | 0 => by
    constructor
    · intro h
      rw [show sv_orr P 0 = 0 from rfl, Nat.zero_testBit] at h
      cases h
    · rintro ⟨j, h, -⟩
      omega
  | k + 1 => by
    cases e : P k with
    | false =>
      rw [show sv_orr P (k + 1) = sv_orr P k by simp [sv_orr, e], sv_orr_bit k]
      constructor
      · rintro ⟨j, h1, h2⟩
        exact ⟨j, by omega, h2⟩
      · rintro ⟨j, h1, h2, h3⟩
        by_cases e2 : j = k
        · rw [e2, e] at h2; cases h2
        · exact ⟨j, by omega, h2, h3⟩
    | true =>
      rw [show sv_orr P (k + 1) = sv_orr P k ||| k by simp [sv_orr, e], Nat.testBit_or, Bool.or_eq_true, sv_orr_bit k]
      constructor
      · rintro (⟨j, h1, h2⟩ | h)
        · exact ⟨j, by omega, h2⟩
        · exact ⟨k, by omega, e, h⟩
      · rintro ⟨j, h1, h2, h3⟩
        by_cases e2 : j = k
        · rw [e2] at h3; exact Or.inr h3
        · exact Or.inl ⟨j, by omega, h2, h3⟩
/-- the set of the w below k whose word f w has the bit s -/
def sv_said (f : Nat → Int32) (s : Nat) : Nat → Nat
  | 0 => 0
  | k + 1 => bif bt (f k) s then sv_said f s k ||| 2 ^ k else sv_said f s k
theorem sv_said_bit {f : Nat → Int32} {s w : Nat} : ∀ k, (sv_said f s k).testBit w = (decide (w < k) && bt (f w) s)
  | 0 => by simp [sv_said]
  | k + 1 => by
    cases e : bt (f k) s with
    | false =>
      rw [show sv_said f s (k + 1) = sv_said f s k by simp [sv_said, e], sv_said_bit k]
      by_cases h : w = k
      · subst h; simp [e]
      · rw [show decide (w < k + 1) = decide (w < k) from decide_eq_decide.mpr (by omega)]
    | true =>
      rw [show sv_said f s (k + 1) = sv_said f s k ||| 2 ^ k by simp [sv_said, e], Nat.testBit_or, sv_said_bit k, Nat.testBit_two_pow]
      by_cases h : w = k
      · subst h; simp [e]
      · rw [show decide (w < k + 1) = decide (w < k) from decide_eq_decide.mpr (by omega), show decide (k = w) = false from decide_eq_false (fun q => h q.symm), Bool.or_false]
theorem sv_lt_of_bits {x n : Nat} (h : ∀ v, x.testBit v = true → v < n) : x < 2 ^ n := by
  apply Nat.lt_pow_two_of_testBit
  intro i hi
  cases e : x.testBit i with
  | false => rfl
  | true => exact absurd (h i e) (by omega)
theorem sv_bit_lt {x n v : Nat} (h : x < 2 ^ n) (hv : x.testBit v = true) : v < n := by
  apply Decidable.byContradiction
  intro hn
  have h1 : x < 2 ^ v := Nat.lt_of_lt_of_le h (Nat.pow_le_pow_right (by omega) (by omega))
  rw [Nat.testBit_lt_two_pow h1] at hv
  cases hv
theorem sv_said_lt {f : Nat → Int32} {s : Nat} (k : Nat) : sv_said f s k < 2 ^ k := sv_lt_of_bits fun v hv => by
  rw [sv_said_bit] at hv
  simp at hv
  exact hv.1
theorem sv_ext {x y : Nat} (h : ∀ v, x.testBit v = true ↔ y.testBit v = true) : x = y := Nat.eq_of_testBit_eq fun v => by
  have := h v
  cases e1 : x.testBit v <;> cases e2 : y.testBit v <;> simp_all
/-- x lies in y, as sets of bits -/
def sv_sub (x y : Nat) : Prop := ∀ v, x.testBit v = true → y.testBit v = true
theorem sv_sub_and {x y : Nat} : x &&& y = x ↔ sv_sub x y := by
  constructor
  · intro h v hv
    rw [← h, Nat.testBit_and, Bool.and_eq_true] at hv
    exact hv.2
  · intro h
    refine sv_ext fun v => ?_
    rw [Nat.testBit_and, Bool.and_eq_true]
    exact ⟨fun q => q.1, fun q => ⟨q, h v q⟩⟩
def sv_N (x : Int32) : Nat := x.toBitVec.toNat
theorem sv_N_nI {n : Nat} (h : n < 2 ^ 32) : sv_N (nI n) = n := pk_tn h
theorem sv_nI_N (x : Int32) : nI (sv_N x) = x := by
  apply Int32.toBitVec_inj.mp
  show BitVec.ofNat 32 x.toBitVec.toNat = x.toBitVec
  simp
theorem sv_bt_N (x : Int32) (i : Nat) : bt x i = (sv_N x).testBit i := rfl
theorem sv_bt_nI {n : Nat} (h : n < 2 ^ 32) (i : Nat) : bt (nI n) i = n.testBit i := by rw [sv_bt_N, sv_N_nI h]
end SvPure
end
section
section SvSpec
/-! the meaning of quotas: tags 3 owner, 4 around, 5 level, 6 need, 7 members; 9 ill, 10 votes, 11 accepts, 12 confirms, 13 counters, 14 values, 15 decisions, 16 heard votes, 17 heard accepts; 1 moves -/
def sv_pc (x : Nat) : Nat := sv_cnt (fun v => x.testBit v) 0 6
def sv_inn (σ : Sg) (mt : Nat → Bool) (q i : Nat) : Bool := (σ 4 i == nI q) && mt i
def sv_mets (σ : Sg) (qc S : Nat) : Nat → Nat → Bool
  | 0 => fun _ => false
  | k + 1 => fun q => if q + (k + 1) = qc then decide (σ 6 q ≤ nI (sv_pc (sv_N (σ 7 q) &&& S) + sv_cnt (sv_inn σ (sv_mets σ qc S k) q) (q + 1) qc)) else sv_mets σ qc S k q
def sv_met (σ : Sg) (qc S q : Nat) : Bool := sv_mets σ qc S qc q
theorem sv_mets_up (σ : Sg) (qc S : Nat) : ∀ (d k q : Nat), qc ≤ q + k → k + d ≤ qc → sv_mets σ qc S (k + d) q = sv_mets σ qc S k q
  | 0, _, _, _, _ => rfl
  | d + 1, k, q, h1, h2 => by
    show sv_mets σ qc S (k + d + 1) q = _
    rw [show sv_mets σ qc S (k + d + 1) q = if q + (k + d + 1) = qc then decide (σ 6 q ≤ nI (sv_pc (sv_N (σ 7 q) &&& S) + sv_cnt (sv_inn σ (sv_mets σ qc S (k + d)) q) (q + 1) qc)) else sv_mets σ qc S (k + d) q from rfl, if_neg (by omega)]
    exact sv_mets_up σ qc S d k q h1 (by omega)
theorem sv_met_eq (σ : Sg) {qc q : Nat} (S : Nat) (hq : q < qc) : sv_met σ qc S q = decide (σ 6 q ≤ nI (sv_pc (sv_N (σ 7 q) &&& S) + sv_cnt (sv_inn σ (sv_met σ qc S) q) (q + 1) qc)) := by
  obtain ⟨k, hk⟩ : ∃ k, q + (k + 1) = qc := ⟨qc - q - 1, by omega⟩
  have h1 : sv_met σ qc S q = sv_mets σ qc S (k + 1) q := by
    have := sv_mets_up σ qc S q (k + 1) q (by omega) (by omega)
    rw [show k + 1 + q = qc by omega] at this
    exact this
  rw [h1, show sv_mets σ qc S (k + 1) q = if q + (k + 1) = qc then decide (σ 6 q ≤ nI (sv_pc (sv_N (σ 7 q) &&& S) + sv_cnt (sv_inn σ (sv_mets σ qc S k) q) (q + 1) qc)) else sv_mets σ qc S k q from rfl, if_pos hk]
  have h2 : sv_cnt (sv_inn σ (sv_mets σ qc S k) q) (q + 1) qc = sv_cnt (sv_inn σ (sv_met σ qc S) q) (q + 1) qc := sv_cnt_congr qc fun i h3 h4 => by
    unfold sv_inn
    have := sv_mets_up σ qc S (q + 1) k i (by omega) (by omega)
    rw [show k + (q + 1) = qc by omega] at this
    rw [← this]
    rfl
  rw [h2]
def sv_top (σ : Sg) (qc v : Nat) : Option Nat := sv_last (fun q => (σ 3 q == nI v) && (σ 4 q == -1)) qc
def sv_own (σ : Sg) (qc v : Nat) : Nat := sv_cnt (fun q => σ 3 q == nI v) 0 qc
def sv_fst (σ : Sg) (qc q : Nat) : Option Nat := sv_last (fun i => σ 4 i == nI q) qc
def sv_nxt (σ : Sg) (i : Nat) : Option Nat := if σ 4 i = -1 then none else sv_last (fun j => σ 4 j == σ 4 i) i
def sv_sat (σ : Sg) (qc S v : Nat) : Bool := match sv_top σ qc v with
  | none => false
  | some t => sv_met σ qc S t
def sv_quo (σ : Sg) (n qc S : Nat) : Bool := decide (S ≠ 0) && sv_all (fun v => !S.testBit v || sv_sat σ qc S v) n
def sv_un (σ : Sg) (n qc S : Nat) : Nat := sv_orr (fun q => decide (q &&& S = q) && sv_quo σ n qc q) (2 ^ n)
def sv_blk (σ : Sg) (n qc S v : Nat) : Bool := match sv_top σ qc v with
  | none => false
  | some t => !sv_met σ qc ((2 ^ n - 1) ^^^ S) t
/-- what holds of the state at all times, as far as quotas go -/
def sv_IQ (n qc : Nat) (σ : Sg) : Prop := 1 ≤ n ∧ n ≤ 6 ∧ (∀ v, v < n → sv_own σ qc v ≤ 4) ∧ qc ≤ 24 ∧
  ∀ q, q < qc → (∃ v, v < n ∧ σ 3 q = nI v) ∧ (∃ k, 1 ≤ k ∧ k ≤ 9 ∧ σ 6 q = nI k) ∧ sv_N (σ 7 q) < 2 ^ n ∧
    ((σ 4 q = -1 ∧ σ 5 q = 1 ∧ sv_top σ qc (σ 3 q).toNatClampNeg = some q) ∨ ∃ p d, p < q ∧ σ 4 q = nI p ∧ 1 ≤ d ∧ d ≤ 2 ∧ σ 5 p = nI d ∧ σ 5 q = nI (d + 1) ∧ σ 3 p = σ 3 q)
theorem sv_pc_mono {x y : Nat} (h : sv_sub x y) : sv_pc x ≤ sv_pc y := sv_cnt_mono 6 fun i _ hi => h i hi
theorem sv_sub_rf (x : Nat) : sv_sub x x := fun _ h => h
theorem sv_sub_and_l {m x y : Nat} (h : sv_sub x y) : sv_sub (m &&& x) (m &&& y) := fun v hv => by
  rw [Nat.testBit_and, Bool.and_eq_true] at hv ⊢
  exact ⟨hv.1, h v hv.2⟩
theorem sv_met_mono {σ : Sg} {qc S S' : Nat} (h : sv_sub S S') (hq : qc ≤ 24) : ∀ (d q : Nat), qc ≤ q + d → q < qc → sv_met σ qc S q = true → sv_met σ qc S' q = true
  | 0, q, h1, h2, _ => absurd h2 (by omega)
  | d + 1, q, h1, h2, hm => by
    rw [sv_met_eq σ S h2, decide_eq_true_eq] at hm
    rw [sv_met_eq σ S' h2, decide_eq_true_eq]
    have e1 := sv_pc_mono (sv_sub_and_l (m := sv_N (σ 7 q)) h)
    have e2 : sv_cnt (sv_inn σ (sv_met σ qc S) q) (q + 1) qc ≤ sv_cnt (sv_inn σ (sv_met σ qc S') q) (q + 1) qc := by
      rw [sv_cnt_congr (P := sv_inn σ (sv_met σ qc S) q) (P' := fun i => decide (q < i) && sv_inn σ (sv_met σ qc S) q i) qc (fun i h3 h4 => by simp [show q < i by omega])]
      refine sv_cnt_mono qc fun i h3 h4 => ?_
      rw [Bool.and_eq_true, decide_eq_true_eq] at h4
      obtain ⟨h4, h5⟩ := h4
      unfold sv_inn at h5 ⊢
      rw [Bool.and_eq_true] at h5 ⊢
      exact ⟨h5.1, sv_met_mono h hq d i (by omega) h3 h5.2⟩
    have b1 : sv_pc (sv_N (σ 7 q) &&& S') ≤ 6 := sv_cnt_le 6
    have b2 := sv_cnt_le (P := sv_inn σ (sv_met σ qc S') q) (lo := q + 1) qc
    refine Int32.le_trans hm (nI_le (by omega) (by omega))
theorem sv_top_lt {σ : Sg} {qc v t : Nat} (h : sv_top σ qc v = some t) : t < qc := (sv_last_some qc h).1
theorem sv_sat_mono {σ : Sg} {qc S S' v : Nat} (h : sv_sub S S') (hq : qc ≤ 24) (hs : sv_sat σ qc S v = true) : sv_sat σ qc S' v = true := by
  unfold sv_sat at hs ⊢
  cases e : sv_top σ qc v with
  | none => rw [e] at hs; cases hs
  | some t =>
    rw [e] at hs
    exact sv_met_mono h hq qc t (by omega) (sv_top_lt e) hs
theorem sv_quo_iff {σ : Sg} {n qc S : Nat} : sv_quo σ n qc S = true ↔ S ≠ 0 ∧ ∀ v, v < n → S.testBit v = true → sv_sat σ qc S v = true := by
  unfold sv_quo
  rw [Bool.and_eq_true, decide_eq_true_eq, sv_all_iff]
  refine and_congr_right fun _ => forall_congr' fun v => forall_congr' fun _ => ?_
  cases S.testBit v <;> simp
theorem sv_un_bit {σ : Sg} {n qc S v : Nat} : (sv_un σ n qc S).testBit v = true ↔ ∃ q, q < 2 ^ n ∧ sv_sub q S ∧ sv_quo σ n qc q = true ∧ q.testBit v = true := by
  unfold sv_un
  rw [sv_orr_bit]
  refine exists_congr fun q => and_congr_right fun _ => ?_
  rw [Bool.and_eq_true, decide_eq_true_eq, sv_sub_and, and_assoc]
theorem sv_un_sub {σ : Sg} {n qc S : Nat} : sv_sub (sv_un σ n qc S) S := fun v hv => by
  obtain ⟨q, -, h2, -, h4⟩ := sv_un_bit.mp hv
  exact h2 v h4
theorem sv_un_lt {σ : Sg} {n qc S : Nat} : sv_un σ n qc S < 2 ^ n := sv_lt_of_bits fun v hv => by
  obtain ⟨q, h1, -, -, h4⟩ := sv_un_bit.mp hv
  exact sv_bit_lt h1 h4
/-- what stays when unsatisfied nodes leave the set is the union of the quorums in it -/
theorem sv_un_of {σ : Sg} {n qc S T : Nat} (hT : T < 2 ^ n) (h1 : sv_sub T S) (h2 : ∀ q, q < 2 ^ n → sv_sub q S → sv_quo σ n qc q = true → sv_sub q T) (h3 : ∀ v, v < n → T.testBit v = true → sv_sat σ qc T v = true) : T = sv_un σ n qc S := by
  refine sv_ext fun v => ?_
  rw [sv_un_bit]
  constructor
  · intro hv
    refine ⟨T, hT, h1, sv_quo_iff.mpr ⟨fun e => ?_, h3⟩, hv⟩
    rw [e, Nat.zero_testBit] at hv
    cases hv
  · rintro ⟨q, a1, a2, a3, a4⟩
    exact h2 q a1 a2 a3 v a4
/-- a set is the union of its quorums just if all its nodes are satisfied -/
theorem sv_un_self {σ : Sg} {n qc S : Nat} (hq : qc ≤ 24) (hS : S < 2 ^ n) : (decide (S ≠ 0) && decide (sv_un σ n qc S = S)) = sv_quo σ n qc S := by
  by_cases h0 : S = 0
  · simp [h0, sv_quo]
  · have e : sv_un σ n qc S = S ↔ sv_quo σ n qc S = true := by
      constructor
      · intro h
        refine sv_quo_iff.mpr ⟨h0, fun v hv hb => ?_⟩
        rw [← h] at hb
        obtain ⟨q, -, a2, a3, a4⟩ := sv_un_bit.mp hb
        exact sv_sat_mono a2 hq ((sv_quo_iff.mp a3).2 v hv a4)
      · intro h
        exact (sv_un_of hS (sv_sub_rf S) (fun q _ a2 _ => a2) (sv_quo_iff.mp h).2).symm
    cases e2 : sv_quo σ n qc S with
    | true => simp [h0, e.mpr e2]
    | false =>
      have : ¬ sv_un σ n qc S = S := fun q => by rw [e.mp q] at e2; cases e2
      simp [this]
/-! one round of leaving: v leaves T if it is in it and T doesn't satisfy it -/
def sv_lv (σ : Sg) (qc T v : Nat) : Nat := bif T.testBit v && !sv_sat σ qc T v then T ^^^ 2 ^ v else T
def sv_rnd (σ : Sg) (qc T : Nat) : Nat → Nat
  | 0 => T
  | k + 1 => sv_lv σ qc (sv_rnd σ qc T k) k
theorem sv_lv_bit {σ : Sg} {qc T v w : Nat} : (sv_lv σ qc T v).testBit w = (T.testBit w && !(decide (w = v) && (T.testBit v && !sv_sat σ qc T v))) := by
  unfold sv_lv
  cases e : (T.testBit v && !sv_sat σ qc T v) with
  | false => simp
  | true =>
    simp only [cond_true, Nat.testBit_xor, Nat.testBit_two_pow]
    rw [Bool.and_eq_true] at e
    by_cases h : w = v
    · subst h; simp [e.1]
    · simp [h, Ne.symm h]
theorem sv_lv_sub {σ : Sg} {qc T v : Nat} : sv_sub (sv_lv σ qc T v) T := fun w hw => by
  rw [sv_lv_bit, Bool.and_eq_true] at hw
  exact hw.1
theorem sv_rnd_sub {σ : Sg} {qc T : Nat} : ∀ k, sv_sub (sv_rnd σ qc T k) T
  | 0 => sv_sub_rf T
  | k + 1 => fun v hv => sv_rnd_sub k v (sv_lv_sub v hv)
theorem sv_lv_keep {σ : Sg} {n qc T v q : Nat} (hq : qc ≤ 24) (hv : v < n) (h : sv_sub q T) (hQ : sv_quo σ n qc q = true) : sv_sub q (sv_lv σ qc T v) := fun w hw => by
  rw [sv_lv_bit, h w hw, Bool.true_and]
  by_cases e : w = v
  · subst e
    rw [sv_sat_mono h hq ((sv_quo_iff.mp hQ).2 w hv hw)]
    simp
  · simp [e]
theorem sv_rnd_keep {σ : Sg} {n qc T q : Nat} (hq : qc ≤ 24) (h : sv_sub q T) (hQ : sv_quo σ n qc q = true) : ∀ k, k ≤ n → sv_sub q (sv_rnd σ qc T k)
  | 0, _ => h
  | k + 1, hk => sv_lv_keep hq (by omega) (sv_rnd_keep hq h hQ k (by omega)) hQ
theorem sv_lv_fix {σ : Sg} {qc T v : Nat} (h : sv_lv σ qc T v = T) (hb : T.testBit v = true) : sv_sat σ qc T v = true := by
  have h1 := sv_lv_bit (σ := σ) (qc := qc) (T := T) (v := v) (w := v)
  rw [h, hb] at h1
  cases e : sv_sat σ qc T v with
  | true => rfl
  | false => rw [e] at h1; simp at h1
theorem sv_sub_anti {x y : Nat} (h1 : sv_sub x y) (h2 : sv_sub y x) : x = y := sv_ext fun v => ⟨h1 v, h2 v⟩
theorem sv_rnd_fix {σ : Sg} {qc T : Nat} : ∀ k, sv_rnd σ qc T k = T → ∀ v, v < k → T.testBit v = true → sv_sat σ qc T v = true
  | 0, _, v, hv, _ => absurd hv (by omega)
  | k + 1, h, v, hv, hb => by
    have h1 : sv_rnd σ qc T k = T := sv_sub_anti (sv_rnd_sub k) (fun w hw => by
      rw [← h] at hw
      exact sv_lv_sub w hw)
    have h2 : sv_lv σ qc T k = T := by
      have : sv_rnd σ qc T (k + 1) = sv_lv σ qc (sv_rnd σ qc T k) k := rfl
      rw [h1] at this
      rw [← this]; exact h
    by_cases e : v = k
    · rw [e] at hb ⊢; exact sv_lv_fix h2 hb
    · exact sv_rnd_fix k h1 v (by omega) hb
/-- the size of a set of nodes: a strict part is smaller -/
theorem sv_pc_lt {x y : Nat} (h : sv_sub x y) (hne : x ≠ y) (hy : y < 2 ^ 6) : sv_pc x < sv_pc y := by
  have key : ∃ v, v < 6 ∧ y.testBit v = true ∧ x.testBit v = false := by
    apply Decidable.byContradiction
    intro hn
    refine hne (sv_sub_anti h fun v hv => ?_)
    cases e : x.testBit v with
    | true => rfl
    | false => exact absurd ⟨v, sv_bit_lt hy hv, hv, e⟩ hn
  obtain ⟨v, h1, h2, h3⟩ := key
  have aux : ∀ k, v < k → sv_cnt (fun u => x.testBit u) 0 k < sv_cnt (fun u => y.testBit u) 0 k := by
    intro k
    induction k with
    | zero => intro hk; omega
    | succ k ih =>
      intro hk
      by_cases e : v = k
      · subst e
        rw [sv_cnt_f h3, sv_cnt_t (Nat.zero_le _) h2]
        exact Nat.lt_succ_of_le (sv_cnt_mono v fun i _ hi => h i hi)
      · have h4 := ih (by omega)
        rw [sv_cnt_s, sv_cnt_s]
        cases e1 : x.testBit k with
        | false => simp; cases y.testBit k <;> simp <;> omega
        | true => rw [h k e1]; simp; omega
  exact aux 6 h1
theorem sv_pc_0 {x : Nat} (hx : x < 2 ^ 6) (h : sv_pc x = 0) : x = 0 := by
  apply Decidable.byContradiction
  intro hne
  have := sv_pc_lt (x := 0) (y := x) (fun v hv => by rw [Nat.zero_testBit] at hv; cases hv) (Ne.symm hne) hx
  omega
theorem sv_pc_le {x n : Nat} (hx : x < 2 ^ n) (hn : n ≤ 6) : sv_pc x ≤ n := by
  unfold sv_pc
  rw [sv_cnt_skip (j := n) 6 hn (fun i h1 _ => by
    cases e : x.testBit i with
    | false => rfl
    | true => exact absurd (sv_bit_lt hx e) (by omega))]
  exact sv_cnt_le n
end SvSpec
end
section
section SvStep
def sv_bit (i : Nat) : Int32 := (1 : Int32) <<< (nI i &&& 31)
theorem sv_bit_bt {i j : Nat} (hi : i < 32) (hj : j < 32) : bt (sv_bit i) j = decide (j = i) := by
  unfold sv_bit
  rw [b_shl i hi 1 hj]
  have h1 : ∀ k, bt 1 k = decide (k = 0) := fun k => by
    by_cases h : k < 32
    · exact (by decide +kernel : ∀ k, k < 32 → bt 1 k = decide (k = 0)) k h
    · rw [b_big (by omega), decide_eq_false (by omega)]
  rw [h1]
  by_cases h : j = i
  · subst h; simp
  · rcases Nat.lt_or_ge j i with h2 | h2
    · rw [decide_eq_false (show ¬ i ≤ j by omega), decide_eq_false h]; rfl
    · rw [decide_eq_false (show ¬ j - i = 0 by omega), decide_eq_false h, Bool.and_false]
theorem sv_set_bt {x : Int32} {i j : Nat} (hi : i < 32) (hj : j < 32) : bt (x ||| sv_bit i) j = (bt x j || decide (j = i)) := by rw [b_or, sv_bit_bt hi hj]
/-- statements: 0 .. 11 prepare a ballot, 12 .. 23 commit it -/
def sv_con (s t : Nat) : Bool := bif decide (s < 12) && decide (t < 12) then false else bif decide (12 ≤ s) && decide (12 ≤ t) then decide (s % 3 ≠ t % 3) else
  decide ((if 12 ≤ s then s - 12 else t - 12) < (if 12 ≤ s then t else s)) && decide ((if 12 ≤ s then t else s) % 3 ≠ (if 12 ≤ s then s - 12 else t - 12) % 3)
def sv_aga (x : Int32) (s : Nat) : Bool := sv_any (fun t => bt x t && sv_con s t) 24
def sv_kv (σ : Sg) (v w : Nat) : Int32 := if w = v then σ 10 v else if w < 6 then σ 16 (6 * v + w) else 0
def sv_ka (σ : Sg) (v w : Nat) : Int32 := if w = v then σ 11 v else if w < 6 then σ 17 (6 * v + w) else 0
def sv_BA (σ : Sg) (n v s : Nat) : Nat := sv_said (sv_ka σ v) s n
def sv_BV (σ : Sg) (n v s : Nat) : Nat := sv_said (fun w => sv_ka σ v w ||| sv_kv σ v w) s n
def sv_mA (σ : Sg) (n qc v s : Nat) : Bool := !bt (σ 11 v) s && !sv_aga (σ 11 v) s && ((sv_un σ n qc (sv_BV σ n v s)).testBit v || sv_blk σ n qc (sv_BA σ n v s) v)
def sv_mC (σ : Sg) (n qc v s : Nat) : Bool := bt (σ 11 v) s && !bt (σ 12 v) s && (sv_un σ n qc (sv_BA σ n v s)).testBit v
def sv_bal (σ : Sg) (v : Nat) : Nat := 3 * ((σ 13 v).toNatClampNeg - 1) + (σ 14 v).toNatClampNeg
def sv_cC (σ : Sg) (v : Nat) : Bool := decide (0 < (σ 13 v).toNatClampNeg) && bt (σ 12 v) (sv_bal σ v) && !bt (σ 10 v) (12 + sv_bal σ v) && !sv_aga (σ 10 v ||| σ 11 v) (12 + sv_bal σ v)
def sv_cf (σ : Sg) (v s : Nat) : Sg := bif decide (12 ≤ s) && (σ 15 v == -1) then sg (sg σ 12 v (σ 12 v ||| sv_bit s)) 15 v (nI (s % 3)) else sg σ 12 v (σ 12 v ||| sv_bit s)
def sv_step (σ : Sg) (n qc v : Nat) : Option Sg := match sv_least (sv_mA σ n qc v) 24 with
  | some s => some (sg σ 11 v (σ 11 v ||| sv_bit s))
  | none => match sv_least (sv_mC σ n qc v) 24 with
    | some s => some (sv_cf σ v s)
    | none => bif sv_cC σ v then some (sg σ 10 v (σ 10 v ||| sv_bit (12 + sv_bal σ v))) else none
def sv_set (n qc v : Nat) : Nat → Sg → Sg
  | 0, σ => σ
  | k + 1, σ => match sv_step σ n qc v with
    | none => σ
    | some σ' => sv_set n qc v k σ'
theorem sv_set_n {n qc v k : Nat} {σ : Sg} (h : sv_step σ n qc v = none) : sv_set n qc v (k + 1) σ = σ := by
  rw [show sv_set n qc v (k + 1) σ = (match sv_step σ n qc v with | none => σ | some σ' => sv_set n qc v k σ') from rfl, h]
theorem sv_set_s {n qc v k : Nat} {σ τ : Sg} (h : sv_step σ n qc v = some τ) : sv_set n qc v (k + 1) σ = sv_set n qc v k τ := by
  rw [show sv_set n qc v (k + 1) σ = (match sv_step σ n qc v with | none => σ | some σ' => sv_set n qc v k σ') from rfl, h]
/-- how many of 24 bits are still unset -/
def sv_off (x : Int32) : Nat := sv_cnt (fun s => !bt x s) 0 24
theorem sv_off_lt {x : Int32} {s : Nat} (hs : s < 24) (h : bt x s = false) : sv_off (x ||| sv_bit s) < sv_off x := by
  have aux : ∀ k, k ≤ 24 → (sv_cnt (fun t => !bt (x ||| sv_bit s) t) 0 k) + (if s < k then 1 else 0) = sv_cnt (fun t => !bt x t) 0 k := by
    intro k
    induction k with
    | zero => intro _; simp [sv_cnt]
    | succ k ih =>
      intro hk
      have h1 := ih (by omega)
      rw [sv_cnt_s, sv_cnt_s, sv_set_bt (by omega) (by omega)]
      by_cases e : k = s
      · subst e
        simp [h] at h1 ⊢
        exact h1
      · have e2 : (if s < k + 1 then 1 else 0) = (if s < k then 1 else (0 : Nat)) := by
          by_cases q : s < k
          · rw [if_pos q, if_pos (by omega)]
          · rw [if_neg q, if_neg (by omega)]
        rw [e2, ← h1]
        simp [e]
        omega
  have h2 := aux 24 (Nat.le_refl _)
  rw [if_pos hs] at h2
  unfold sv_off
  omega
theorem sv_off_le (x : Int32) : sv_off x ≤ 24 := sv_cnt_le 24
/-- what settling can still do for v -/
def sv_mu (σ : Sg) (v : Nat) : Nat := sv_off (σ 11 v) + sv_off (σ 12 v) + (bif bt (σ 10 v) (12 + sv_bal σ v) then 0 else 1)
theorem sv_mu_le (σ : Sg) (v : Nat) : sv_mu σ v ≤ 49 := by
  have h1 := sv_off_le (σ 11 v)
  have h2 := sv_off_le (σ 12 v)
  unfold sv_mu
  cases bt (σ 10 v) (12 + sv_bal σ v) <;> simp <;> omega
theorem sv_bal_sg {σ : Sg} {v k i : Nat} {x : Int32} (h3 : k ≠ 13) (h4 : k ≠ 14) : sv_bal (sg σ k i x) v = sv_bal σ v := by
  unfold sv_bal
  rw [sg_off σ x (Or.inl (Ne.symm h3)), sg_off σ x (Or.inl (Ne.symm h4))]
theorem sv_cf_11 (σ : Sg) (v s u : Nat) : sv_cf σ v s 11 u = σ 11 u := by
  unfold sv_cf
  cases (decide (12 ≤ s) && (σ 15 v == -1))
  · exact sg_off σ _ (Or.inl (by decide))
  · show sg (sg σ 12 v _) 15 v _ 11 u = _
    rw [sg_off _ _ (Or.inl (by decide)), sg_off _ _ (Or.inl (by decide))]
theorem sv_cf_off (σ : Sg) (v s : Nat) {k u : Nat} (h1 : k ≠ 12) (h2 : k ≠ 15) : sv_cf σ v s k u = σ k u := by
  unfold sv_cf
  cases (decide (12 ≤ s) && (σ 15 v == -1))
  · exact sg_off σ _ (Or.inl h1)
  · show sg (sg σ 12 v _) 15 v _ k u = _
    rw [sg_off _ _ (Or.inl h2), sg_off _ _ (Or.inl h1)]
theorem sv_cf_12 (σ : Sg) (v s : Nat) : sv_cf σ v s 12 v = (σ 12 v ||| sv_bit s) := by
  unfold sv_cf
  cases (decide (12 ≤ s) && (σ 15 v == -1))
  · exact sg_at σ 12 v _
  · show sg (sg σ 12 v _) 15 v _ 12 v = _
    rw [sg_off _ _ (Or.inl (by decide)), sg_at]
theorem sv_step_mu {σ σ' : Sg} {n qc v : Nat} (hb : sv_bal σ v < 12) (h : sv_step σ n qc v = some σ') : sv_mu σ' v < sv_mu σ v ∧ sv_bal σ' v = sv_bal σ v := by
  unfold sv_step at h
  cases e1 : sv_least (sv_mA σ n qc v) 24 with
  | some s =>
    rw [e1] at h
    cases h
    obtain ⟨h1, h2, -⟩ := sv_least_some 24 e1
    have h3 : bt (σ 11 v) s = false := by
      unfold sv_mA at h2
      rw [Bool.and_eq_true, Bool.and_eq_true] at h2
      simpa using h2.1.1
    have hbal := sv_bal_sg (σ := σ) (v := v) (k := 11) (i := v) (x := σ 11 v ||| sv_bit s) (by decide) (by decide)
    refine ⟨?_, hbal⟩
    unfold sv_mu
    rw [hbal, sg_at, sg_off σ _ (Or.inl (by decide : (12 : Nat) ≠ 11)), sg_off σ _ (Or.inl (by decide : (10 : Nat) ≠ 11))]
    have := sv_off_lt h1 h3
    omega
  | none =>
    rw [e1] at h
    cases e2 : sv_least (sv_mC σ n qc v) 24 with
    | some s =>
      rw [e2] at h
      cases h
      obtain ⟨h1, h2, -⟩ := sv_least_some 24 e2
      have h3 : bt (σ 12 v) s = false := by
        unfold sv_mC at h2
        rw [Bool.and_eq_true, Bool.and_eq_true] at h2
        simpa using h2.1.2
      have hbal : sv_bal (sv_cf σ v s) v = sv_bal σ v := by
        unfold sv_bal
        rw [sv_cf_off σ v s (by decide) (by decide), sv_cf_off σ v s (by decide) (by decide)]
      refine ⟨?_, hbal⟩
      unfold sv_mu
      rw [hbal, sv_cf_11, sv_cf_12, sv_cf_off σ v s (by decide) (by decide)]
      have := sv_off_lt h1 h3
      omega
    | none =>
      rw [e2] at h
      cases e3 : sv_cC σ v with
      | false => rw [e3] at h; cases h
      | true =>
        rw [e3] at h
        cases h
        have h3 : bt (σ 10 v) (12 + sv_bal σ v) = false := by
          unfold sv_cC at e3
          rw [Bool.and_eq_true, Bool.and_eq_true] at e3
          simpa using e3.1.2
        have hbal := sv_bal_sg (σ := σ) (v := v) (k := 10) (i := v) (x := σ 10 v ||| sv_bit (12 + sv_bal σ v)) (by decide) (by decide)
        refine ⟨?_, hbal⟩
        unfold sv_mu
        rw [hbal, sg_at, sg_off σ _ (Or.inl (by decide : (11 : Nat) ≠ 10)), sg_off σ _ (Or.inl (by decide : (12 : Nat) ≠ 10)), h3, sv_set_bt (by omega) (by omega)]
        simp
/-- once the measure is used up, more fuel changes nothing -/
theorem sv_set_more {n qc v : Nat} : ∀ (k : Nat) (σ : Sg), sv_bal σ v < 12 → sv_mu σ v ≤ k → ∀ d, sv_set n qc v (k + d) σ = sv_set n qc v k σ
  | 0, σ, hb, hm, d => by
    have : sv_step σ n qc v = none := by
      cases e : sv_step σ n qc v with
      | none => rfl
      | some σ' => have := (sv_step_mu hb e).1; omega
    cases d with
    | zero => rfl
    | succ d => exact sv_set_n (k := 0 + d) this
  | k + 1, σ, hb, hm, d => by
    rw [show k + 1 + d = k + d + 1 by omega]
    cases e : sv_step σ n qc v with
    | none => rw [sv_set_n e, sv_set_n e]
    | some σ' =>
      have h1 := sv_step_mu hb e
      rw [sv_set_s e, sv_set_s e]
      exact sv_set_more k σ' (by rw [h1.2]; exact hb) (by omega) d
theorem sv_set_49 {n qc v : Nat} {σ : Sg} (hb : sv_bal σ v < 12) : sv_set n qc v 100 σ = sv_set n qc v 49 σ := sv_set_more 49 σ hb (sv_mu_le σ v) 51
/-! what propose does -/
def sv_vote (σ : Sg) (v s : Nat) : Sg := bif bt (σ 10 v) s || sv_aga (σ 10 v ||| σ 11 v) s then σ else sg σ 10 v (σ 10 v ||| sv_bit s)
def sv_chr (σ : Sg) (v : Nat) (x : Int32) : Int32 := match sv_last (fun b => decide (12 ≤ b) && bt (σ 11 v) b) 24 with
  | some b => nI (b % 3)
  | none => match sv_last (fun b => bt (σ 12 v) b) 12 with
    | some b => nI (b % 3)
    | none => x
def sv_vts (σ : Sg) (v : Nat) : Nat → Sg
  | 0 => σ
  | k + 1 => sv_vote (sv_vts σ v k) v (3 * k + (σ 14 v).toNatClampNeg)
end SvStep
section SvBits
theorem sv_1bt (k : Nat) : bt 1 k = decide (k = 0) := by
  by_cases h : k < 32
  · exact (by decide +kernel : ∀ k, k < 32 → bt 1 k = decide (k = 0)) k h
  · rw [b_big (by omega), decide_eq_false (by omega)]
theorem sv_and1 (y : Int32) : y &&& 1 = sv_b (bt y 0) := by
  apply b_ext
  intro i hi
  rw [b_and, sv_1bt]
  cases e : bt y 0 with
  | true =>
    rw [show sv_b true = 1 from rfl, sv_1bt]
    by_cases h : i = 0
    · subst h; simp [e]
    · simp [h]
  | false =>
    rw [show sv_b false = 0 from rfl, b_0]
    by_cases h : i = 0
    · subst h; simp [e]
    · simp [h]
theorem sv_ush1 (x : Int32) {i : Nat} (hi : i < 32) : ((x.toUInt32 >>> ((nI i).toUInt32 &&& Int32.toUInt32 31)).toInt32 &&& 1) = sv_b (bt x i) := by
  rw [sv_and1, b_ushr i hi]
  rfl
theorem sv_shr1 (x : Int32) {i : Nat} (hi : i < 32) : ((x >>> (nI i &&& 31)) &&& 1) = sv_b (bt x i) := by
  rw [sv_and1, b_sshr i hi x (by omega), if_pos (by omega)]
  rfl
theorem sv_b1 {b : Bool} : sv_b b = 1 ↔ b = true := by cases b <;> decide
theorem sv_bn1 {b : Bool} : ¬ sv_b b = 1 ↔ b = false := by cases b <;> decide
theorem sv_pow : ∀ n, n < 31 → (1 : Int32) <<< (nI n &&& 31) = nI (2 ^ n) := by decide +kernel
theorem sv_bit_nI {n : Nat} (h : n < 31) : sv_bit n = nI (2 ^ n) := sv_pow n h
theorem sv_nor (a b : Nat) : nI a ||| nI b = nI (a ||| b) := by
  apply Int32.toBitVec_inj.1
  show BitVec.ofNat 32 a ||| BitVec.ofNat 32 b = BitVec.ofNat 32 (a ||| b)
  apply BitVec.eq_of_getLsbD_eq
  intro i hi
  simp [hi]
theorem sv_nand (a b : Nat) : nI a &&& nI b = nI (a &&& b) := by
  apply Int32.toBitVec_inj.1
  show BitVec.ofNat 32 a &&& BitVec.ofNat 32 b = BitVec.ofNat 32 (a &&& b)
  apply BitVec.eq_of_getLsbD_eq
  intro i hi
  simp [hi]
theorem sv_nb {a : Nat} (i : Nat) : bt (nI a) i = (decide (i < 32) && a.testBit i) := by
  unfold bt
  show (BitVec.ofNat 32 a).getLsbD i = _
  rw [BitVec.getLsbD_ofNat]
/-- a and not b, for numbers -/
theorem sv_andn {a b : Nat} (d : Nat) (h : ∀ i, i < 32 → d.testBit i = (a.testBit i && !b.testBit i)) : nI a &&& (nI b ^^^ -1) = nI d := by
  apply b_ext
  intro i hi
  rw [b_and, b_xor, b_m1 i hi, sv_nb, sv_nb, sv_nb, h i hi]
  simp [hi]
theorem sv_p2 (n i : Nat) : (2 ^ n - 1).testBit i = decide (i < n) := Nat.testBit_two_pow_sub_one n i
theorem sv_compl {n S : Nat} (hS : S < 2 ^ n) : nI (2 ^ n - 1) &&& (nI S ^^^ -1) = nI ((2 ^ n - 1) ^^^ S) := sv_andn _ fun i _ => by
  rw [Nat.testBit_xor, sv_p2]
  cases e : S.testBit i with
  | false => simp
  | true => simp [sv_bit_lt hS e]
theorem sv_co_lt {n S : Nat} (hS : S < 2 ^ n) : (2 ^ n - 1) ^^^ S < 2 ^ n := Nat.xor_lt_two_pow (by have := Nat.two_pow_pos n; omega) hS
theorem sv_drop {S v : Nat} (h : S.testBit v = true) : nI S &&& (nI (2 ^ v) ^^^ -1) = nI (S ^^^ 2 ^ v) := sv_andn _ fun i _ => by
  rw [Nat.testBit_xor, Nat.testBit_two_pow]
  by_cases e : v = i
  · subst e; simp [h]
  · simp [e]
theorem sv_xor_lt {S v n : Nat} (hS : S < 2 ^ n) (hv : v < n) : S ^^^ 2 ^ v < 2 ^ n := Nat.xor_lt_two_pow hS (Nat.pow_lt_pow_right (by omega) hv)
theorem sv_or_lt {S T n : Nat} (hS : S < 2 ^ n) (hT : T < 2 ^ n) : S ||| T < 2 ^ n := Nat.or_lt_two_pow hS hT
/-- which ints are sets of the first n nodes -/
theorem sv_setof {n : Nat} (hn : n ≤ 6) (x : Int32) : (x &&& (nI (2 ^ n - 1) ^^^ -1) = 0) ↔ sv_N x < 2 ^ n := by
  constructor
  · intro h
    apply sv_lt_of_bits
    intro v hv
    have hv32 : v < 32 := by
      apply Decidable.byContradiction
      intro hh
      have := b_big (x := x) (i := v) (by omega)
      rw [sv_bt_N, hv] at this
      cases this
    have h1 : bt (x &&& (nI (2 ^ n - 1) ^^^ -1)) v = false := by rw [h, b_0]
    rw [b_and, b_xor, b_m1 v hv32, sv_nb, sv_p2, sv_bt_N, hv] at h1
    simp [hv32] at h1
    exact h1
  · intro h
    apply b_ext
    intro i hi
    rw [b_and, b_xor, b_m1 i hi, sv_nb, sv_p2, b_0, sv_bt_N]
    cases e : (sv_N x).testBit i with
    | false => simp
    | true => simp [hi, sv_bit_lt h e]
theorem sv_p2_64 {n : Nat} (hn : n ≤ 6) : 2 ^ n ≤ 64 := by
  have := Nat.pow_le_pow_right (n := 2) (by omega) hn
  omega
theorem sv_isset {n : Nat} (hn : n ≤ 6) (x : Int32) : (0 ≤ x ∧ x < nI (2 ^ n)) ↔ sv_N x < 2 ^ n := by
  have hp := sv_p2_64 hn
  constructor
  · rintro ⟨h1, h2⟩
    obtain ⟨j, hj, rfl⟩ := nI_of (x := x) (fun q => by rw [Int32.lt_iff_toInt_lt] at q; rw [Int32.le_iff_toInt_le] at h1; omega)
    rw [nI_ltI hj (by omega)] at h2
    rw [sv_N_nI (by omega)]
    exact h2
  · intro h
    rw [← sv_nI_N x]
    exact ⟨nI_pos' (by omega), nI_lt h (by omega)⟩
end SvBits
section SvInv
/-! the quotas alone decide what is met -/
def sv_eqQ (σ τ : Sg) : Prop := ∀ k, 3 ≤ k → k ≤ 7 → τ k = σ k
theorem sv_eqQ_rf (σ : Sg) : sv_eqQ σ σ := fun _ _ _ => rfl
theorem sv_eqQ_tr {σ τ ρ : Sg} (h1 : sv_eqQ σ τ) (h2 : sv_eqQ τ ρ) : sv_eqQ σ ρ := fun k a b => (h2 k a b).trans (h1 k a b)
theorem sv_eqQ_sg {σ : Sg} {k i : Nat} {x : Int32} (h : k < 3 ∨ 7 < k) : sv_eqQ σ (sg σ k i x) := fun a h1 h2 => sg_ne σ i x (by omega)
theorem sv_mets_cg {σ τ : Sg} (h : sv_eqQ σ τ) (qc S : Nat) : ∀ k, sv_mets τ qc S k = sv_mets σ qc S k
  | 0 => rfl
  | k + 1 => by
    funext q
    unfold sv_mets
    rw [sv_mets_cg h qc S k, h 6 (by decide) (by decide), h 7 (by decide) (by decide)]
    have e : sv_inn τ (sv_mets σ qc S k) q = sv_inn σ (sv_mets σ qc S k) q := by
      funext i
      unfold sv_inn
      rw [h 4 (by decide) (by decide)]
    rw [e]
theorem sv_met_cg {σ τ : Sg} (h : sv_eqQ σ τ) (qc S q : Nat) : sv_met τ qc S q = sv_met σ qc S q := by unfold sv_met; rw [sv_mets_cg h]
theorem sv_top_cg {σ τ : Sg} (h : sv_eqQ σ τ) (qc v : Nat) : sv_top τ qc v = sv_top σ qc v := by unfold sv_top; rw [h 3 (by decide) (by decide), h 4 (by decide) (by decide)]
theorem sv_own_cg {σ τ : Sg} (h : sv_eqQ σ τ) (qc v : Nat) : sv_own τ qc v = sv_own σ qc v := by unfold sv_own; rw [h 3 (by decide) (by decide)]
theorem sv_fst_cg {σ τ : Sg} (h : sv_eqQ σ τ) (qc v : Nat) : sv_fst τ qc v = sv_fst σ qc v := by unfold sv_fst; rw [h 4 (by decide) (by decide)]
theorem sv_nxt_cg {σ τ : Sg} (h : sv_eqQ σ τ) (v : Nat) : sv_nxt τ v = sv_nxt σ v := by unfold sv_nxt; rw [h 4 (by decide) (by decide)]
theorem sv_sat_cg {σ τ : Sg} (h : sv_eqQ σ τ) (qc S v : Nat) : sv_sat τ qc S v = sv_sat σ qc S v := by
  unfold sv_sat
  rw [sv_top_cg h]
  cases sv_top σ qc v with
  | none => rfl
  | some t => exact sv_met_cg h qc S t
theorem sv_all_congr {P P' : Nat → Bool} : ∀ k, (∀ j, j < k → P j = P' j) → sv_all P k = sv_all P' k
  | 0, _ => rfl
  | k + 1, h => by unfold sv_all; rw [h k (by omega), sv_all_congr k (fun j hj => h j (by omega))]
theorem sv_quo_cg {σ τ : Sg} (h : sv_eqQ σ τ) (n qc S : Nat) : sv_quo τ n qc S = sv_quo σ n qc S := by
  unfold sv_quo
  rw [sv_all_congr n (fun j _ => by rw [sv_sat_cg h])]
theorem sv_un_cg {σ τ : Sg} (h : sv_eqQ σ τ) (n qc S : Nat) : sv_un τ n qc S = sv_un σ n qc S := by
  refine sv_ext fun v => ?_
  rw [sv_un_bit, sv_un_bit]
  refine exists_congr fun q => ?_
  rw [sv_quo_cg h]
theorem sv_blk_cg {σ τ : Sg} (h : sv_eqQ σ τ) (n qc S v : Nat) : sv_blk τ n qc S v = sv_blk σ n qc S v := by
  unfold sv_blk
  rw [sv_top_cg h]
  cases sv_top σ qc v with
  | none => rfl
  | some t => show (!sv_met τ qc _ t) = _; rw [sv_met_cg h]
theorem sv_IQ_cg {σ τ : Sg} {n qc : Nat} (h : sv_eqQ σ τ) (hI : sv_IQ n qc σ) : sv_IQ n qc τ := by
  obtain ⟨h1, h2, h3, h4, h5⟩ := hI
  refine ⟨h1, h2, fun v hv => by rw [sv_own_cg h]; exact h3 v hv, h4, fun q hq => ?_⟩
  rw [h 3 (by decide) (by decide), h 4 (by decide) (by decide), h 5 (by decide) (by decide), h 6 (by decide) (by decide), h 7 (by decide) (by decide), sv_top_cg h]
  exact h5 q hq
/-- what holds of the state at all times, as far as votes go -/
def sv_IS (n : Nat) (σ : Sg) : Prop := (∃ b, σ 1 0 = sv_b b) ∧ ∀ v, v < n → (∃ b, σ 9 v = sv_b b) ∧ (∃ k, k ≤ 4 ∧ σ 13 v = nI k) ∧ (∃ x, x ≤ 2 ∧ σ 14 v = nI x) ∧
  ∀ s t, 12 ≤ s → s < 24 → 12 ≤ t → t < 24 → bt (σ 11 v) s = true → bt (σ 11 v) t = true → s % 3 = t % 3
theorem sv_bal_lt {n v : Nat} {σ : Sg} (h : sv_IS n σ) (hv : v < n) : sv_bal σ v < 12 := by
  obtain ⟨-, ⟨k, hk, e1⟩, ⟨x, hx, e2⟩, -⟩ := h.2 v hv
  unfold sv_bal
  rw [e1, e2, nI_clamp (by omega), nI_clamp (by omega)]
  omega
theorem sv_IS_sg {n : Nat} {σ : Sg} (h : sv_IS n σ) {k i : Nat} (x : Int32) (h1 : k ≠ 1) (h9 : k ≠ 9) (h11 : k ≠ 11) (h13 : k ≠ 13) (h14 : k ≠ 14) : sv_IS n (sg σ k i x) := by
  unfold sv_IS
  rw [sg_ne σ i x (Ne.symm h1), sg_ne σ i x (Ne.symm h9), sg_ne σ i x (Ne.symm h11), sg_ne σ i x (Ne.symm h13), sg_ne σ i x (Ne.symm h14)]
  exact h
theorem sv_con_hi : ∀ s, s < 24 → ∀ t, t < 24 → 12 ≤ s → 12 ≤ t → sv_con s t = false → s % 3 = t % 3 := by decide +kernel
theorem sv_aga_f {x : Int32} {s : Nat} (h : sv_aga x s = false) {t : Nat} (ht : t < 24) (hb : bt x t = true) : sv_con s t = false := by
  cases e : sv_con s t with
  | false => rfl
  | true =>
    have := sv_any_yes (P := fun t => bt x t && sv_con s t) 24 ht (by simp [hb, e])
    unfold sv_aga at h
    rw [this] at h
    cases h
theorem sv_IS_acc {n v s : Nat} {σ : Sg} (h : sv_IS n σ) (hs : s < 24) (ha : sv_aga (σ 11 v) s = false) : sv_IS n (sg σ 11 v (σ 11 v ||| sv_bit s)) := by
  refine ⟨by rw [sg_ne σ v _ (by decide)]; exact h.1, fun u hu => ?_⟩
  obtain ⟨a1, a2, a3, a4⟩ := h.2 u hu
  refine ⟨by rw [sg_ne σ v _ (by decide)]; exact a1, by rw [sg_ne σ v _ (by decide)]; exact a2, by rw [sg_ne σ v _ (by decide)]; exact a3, fun a b b1 b2 b3 b4 b5 b6 => ?_⟩
  by_cases e : u = v
  · subst e
    rw [sg_at, sv_set_bt (by omega) (by omega), Bool.or_eq_true, decide_eq_true_eq] at b5 b6
    rcases b5 with b5 | b5 <;> rcases b6 with b6 | b6
    · exact a4 a b b1 b2 b3 b4 b5 b6
    · subst b6
      exact (sv_con_hi b hs a b2 b3 b1 (sv_aga_f ha b2 b5)).symm
    · subst b5
      exact sv_con_hi a hs b b4 b1 b3 (sv_aga_f ha b4 b6)
    · rw [b5, b6]
  · rw [sg_off σ _ (Or.inr e)] at b5 b6
    exact a4 a b b1 b2 b3 b4 b5 b6
theorem sv_IS_cf {n v s : Nat} {σ : Sg} (h : sv_IS n σ) : sv_IS n (sv_cf σ v s) := by
  unfold sv_cf
  cases (decide (12 ≤ s) && (σ 15 v == -1))
  · exact sv_IS_sg h _ (by decide) (by decide) (by decide) (by decide) (by decide)
  · exact sv_IS_sg (sv_IS_sg h _ (by decide) (by decide) (by decide) (by decide) (by decide)) _ (by decide) (by decide) (by decide) (by decide) (by decide)
theorem sv_eqQ_cf (σ : Sg) (v s : Nat) : sv_eqQ σ (sv_cf σ v s) := fun k h1 h2 => by
  funext u
  exact sv_cf_off σ v s (by omega) (by omega)
theorem sv_step_ok {n qc v : Nat} {σ τ : Sg} (h : sv_IS n σ) (hs : sv_step σ n qc v = some τ) : sv_IS n τ ∧ sv_eqQ σ τ := by
  unfold sv_step at hs
  cases e1 : sv_least (sv_mA σ n qc v) 24 with
  | some s =>
    rw [e1] at hs
    cases hs
    obtain ⟨h1, h2, -⟩ := sv_least_some 24 e1
    unfold sv_mA at h2
    rw [Bool.and_eq_true, Bool.and_eq_true] at h2
    exact ⟨sv_IS_acc h h1 (by simpa using h2.1.2), sv_eqQ_sg (Or.inr (by decide))⟩
  | none =>
    rw [e1] at hs
    cases e2 : sv_least (sv_mC σ n qc v) 24 with
    | some s =>
      rw [e2] at hs
      cases hs
      exact ⟨sv_IS_cf h, sv_eqQ_cf σ v s⟩
    | none =>
      rw [e2] at hs
      cases e3 : sv_cC σ v with
      | false => rw [e3] at hs; cases hs
      | true =>
        rw [e3] at hs
        cases hs
        exact ⟨sv_IS_sg h _ (by decide) (by decide) (by decide) (by decide) (by decide), sv_eqQ_sg (Or.inr (by decide))⟩
theorem sv_set_ok {n qc v : Nat} : ∀ (k : Nat) {σ : Sg}, sv_IS n σ → sv_IS n (sv_set n qc v k σ) ∧ sv_eqQ σ (sv_set n qc v k σ)
  | 0, σ, h => ⟨h, sv_eqQ_rf σ⟩
  | k + 1, σ, h => by
    cases e : sv_step σ n qc v with
    | none => rw [sv_set_n e]; exact ⟨h, sv_eqQ_rf σ⟩
    | some τ =>
      rw [sv_set_s e]
      obtain ⟨h1, h2⟩ := sv_step_ok h e
      obtain ⟨h3, h4⟩ := sv_set_ok (qc := qc) (v := v) k h1
      exact ⟨h3, sv_eqQ_tr h2 h4⟩
theorem sv_vote_ok {n v s : Nat} {σ : Sg} (h : sv_IS n σ) : sv_IS n (sv_vote σ v s) ∧ sv_eqQ σ (sv_vote σ v s) ∧ (∀ k, k ≠ 10 → sv_vote σ v s k = σ k) := by
  unfold sv_vote
  cases (bt (σ 10 v) s || sv_aga (σ 10 v ||| σ 11 v) s)
  · exact ⟨sv_IS_sg h _ (by decide) (by decide) (by decide) (by decide) (by decide), sv_eqQ_sg (Or.inr (by decide)), fun k hk => sg_ne σ v _ hk⟩
  · exact ⟨h, sv_eqQ_rf σ, fun _ _ => rfl⟩
theorem sv_vts_ok {n v : Nat} {σ : Sg} (h : sv_IS n σ) : ∀ k, sv_IS n (sv_vts σ v k) ∧ sv_eqQ σ (sv_vts σ v k) ∧ (∀ j, j ≠ 10 → sv_vts σ v k j = σ j)
  | 0 => ⟨h, sv_eqQ_rf σ, fun _ _ => rfl⟩
  | k + 1 => by
    obtain ⟨h1, h2, h3⟩ := sv_vts_ok (v := v) h k
    obtain ⟨h4, h5, h6⟩ := sv_vote_ok (v := v) (s := 3 * k + (σ 14 v).toNatClampNeg) h1
    exact ⟨h4, sv_eqQ_tr h2 h5, fun j hj => (h6 j hj).trans (h3 j hj)⟩
/-- which value is proposed: the first accepted commit has the last one's value -/
theorem sv_chr_fst {n v s : Nat} {σ : Sg} (h : sv_IS n σ) (hv : v < n) (x : Int32) (h1 : 12 ≤ s) (h2 : s < 24) (hb : bt (σ 11 v) s = true) : sv_chr σ v x = nI (s % 3) := by
  unfold sv_chr
  cases e : sv_last (fun b => decide (12 ≤ b) && bt (σ 11 v) b) 24 with
  | none =>
    have := sv_last_none 24 e s h2
    simp [h1, hb] at this
  | some b =>
    obtain ⟨a1, a2, -⟩ := sv_last_some 24 e
    rw [Bool.and_eq_true, decide_eq_true_eq] at a2
    show nI (b % 3) = nI (s % 3)
    rw [(h.2 v hv).2.2.2 b s a2.1 a1 h1 h2 a2.2 hb]
theorem sv_chr_none {v : Nat} {σ : Sg} (x : Int32) (h : ∀ s, 12 ≤ s → s < 24 → bt (σ 11 v) s = false) : sv_chr σ v x = match sv_last (fun b => bt (σ 12 v) b) 12 with
  | some b => nI (b % 3)
  | none => x := by
  unfold sv_chr
  rw [sv_last_no 24 (fun j hj => by
    by_cases hl : 12 ≤ j
    · simp [h j hl hj]
    · simp [hl])]
theorem sv_chr_le {n v : Nat} {σ : Sg} {x : Nat} (hx : x ≤ 2) : ∃ y, y ≤ 2 ∧ sv_chr σ v (nI x) = nI y := by
  unfold sv_chr
  cases sv_last (fun b => decide (12 ≤ b) && bt (σ 11 v) b) 24 with
  | some b => exact ⟨b % 3, by omega, rfl⟩
  | none =>
    cases sv_last (fun b => bt (σ 12 v) b) 12 with
    | some b => exact ⟨b % 3, by omega, rfl⟩
    | none => exact ⟨x, hx, rfl⟩
end SvInv
end
section
section SvChain
/-! inner quotas, newest first: what is still to be counted from one on -/
def sv_rem (σ : Sg) (qc S q : Nat) (o : Option Nat) : Nat := match o with
  | none => 0
  | some j => sv_cnt (sv_inn σ (sv_met σ qc S) q) (q + 1) (j + 1)
theorem sv_par {n qc : Nat} {σ : Sg} (hI : sv_IQ n qc σ) {q j : Nat} (hj : j < qc) (hq : q < qc) (h : σ 4 j = nI q) : q < j ∧ σ 3 q = σ 3 j ∧ ∃ d, 1 ≤ d ∧ d ≤ 2 ∧ σ 5 q = nI d ∧ σ 5 j = nI (d + 1) := by
  obtain ⟨-, -, -, h24, h5⟩ := hI
  obtain ⟨-, -, -, h6 | ⟨p, d, a1, a2, a3, a4, a5, a6, a7⟩⟩ := h5 j hj
  · rw [h] at h6
    exact absurd h6.1 (fun e => by
      have := nI_pos (n := q) (by omega)
      rw [e] at this
      exact this (by decide))
  · have e : p = q := (nI_eq (by omega) (by omega)).mp (a2.symm.trans h)
    subst e
    exact ⟨a1, a7, d, a3, a4, a5, a6⟩
theorem sv_fst_in {n qc : Nat} {σ : Sg} {q j : Nat} (h : sv_fst σ qc q = some j) : j < qc ∧ σ 4 j = nI q := by
  obtain ⟨h1, h2, -⟩ := sv_last_some qc h
  exact ⟨h1, eq_of_beq h2⟩
theorem sv_nxt_in {σ : Sg} {i j : Nat} (h : sv_nxt σ j = some i) : i < j ∧ σ 4 i = σ 4 j := by
  unfold sv_nxt at h
  by_cases e : σ 4 j = -1
  · rw [if_pos e] at h; cases h
  · rw [if_neg e] at h
    obtain ⟨h1, h2, -⟩ := sv_last_some j h
    exact ⟨h1, eq_of_beq h2⟩
theorem sv_inn_f {σ : Sg} {mt : Nat → Bool} {q i : Nat} (h : (σ 4 i == nI q) = false) : sv_inn σ mt q i = false := by
  unfold sv_inn
  rw [h]
  rfl
theorem sv_rem_fst {qc : Nat} {σ : Sg} (S q : Nat) : sv_rem σ qc S q (sv_fst σ qc q) = sv_cnt (sv_inn σ (sv_met σ qc S) q) (q + 1) qc := by
  cases e : sv_fst σ qc q with
  | none =>
    have h := sv_last_none qc e
    show 0 = _
    rw [sv_cnt_skip (j := 0) qc (Nat.zero_le _) (fun i _ hi => sv_inn_f (h i hi))]
    rfl
  | some j =>
    obtain ⟨h1, -, h3⟩ := sv_last_some qc e
    exact (sv_cnt_skip (j := j + 1) qc (by omega) (fun i h4 h5 => sv_inn_f (h3 i (by omega) h5))).symm
theorem sv_rem_nxt {n qc : Nat} {σ : Sg} (hI : sv_IQ n qc σ) (S : Nat) {q j : Nat} (hj : j < qc) (hq : q < qc) (h : σ 4 j = nI q) : sv_rem σ qc S q (some j) = sv_rem σ qc S q (sv_nxt σ j) + (bif sv_met σ qc S j then 1 else 0) := by
  obtain ⟨h1, -, d, -⟩ := sv_par hI hj hq h
  have hne : ¬ σ 4 j = -1 := fun e => by
    have := nI_pos (n := q) (by have := hI.2.2.2.1; omega)
    rw [← h, e] at this
    exact this (by decide)
  have e1 : sv_rem σ qc S q (some j) = sv_cnt (sv_inn σ (sv_met σ qc S) q) (q + 1) j + (bif sv_met σ qc S j then 1 else 0) := by
    show sv_cnt _ _ (j + 1) = _
    rw [sv_cnt_s]
    unfold sv_inn
    simp [h, show q + 1 ≤ j by omega]
  rw [e1]
  congr 1
  unfold sv_nxt
  rw [if_neg hne, h]
  cases e : sv_last (fun i => σ 4 i == nI q) j with
  | none =>
    have h2 := sv_last_none j e
    show _ = 0
    rw [sv_cnt_skip (j := 0) j (Nat.zero_le _) (fun i _ hi => sv_inn_f (h2 i hi))]
    rfl
  | some i =>
    obtain ⟨h2, -, h3⟩ := sv_last_some j e
    exact sv_cnt_skip (j := i + 1) j (by omega) (fun i2 h4 h5 => sv_inn_f (h3 i2 (by omega) h5))
/-! the class's cells -/
def sv_rq (ad : Nat → Nat) (n : Nat) (o : Option Nat) : Value := va_rf (o.map fun q => ad (3 + 3 * n + q))
def sv_wbN (σ : Sg) : Nat → Nat
  | 0 => 0
  | k + 1 => bif σ 9 k == 0 then sv_wbN σ k ||| 2 ^ k else sv_wbN σ k
def sv_fS (n qc : Nat) (ad : Nat → Nat) (σ : Sg) : List Value := [.ref (ad 1), .int (nI (2 ^ n - 1)), .ref (ad (2 + 3 * n)), .int (nI qc), .int (nI (sv_wbN σ n)), .int (σ 1 0)]
def sv_fN (n qc : Nat) (ad : Nat → Nat) (σ : Sg) (v : Nat) : List Value := [.int (nI v), .ref (ad (3 + 3 * v)), .ref (ad (4 + 3 * v)), .int (σ 12 v), .int (σ 13 v), .int (σ 14 v), .int (σ 15 v), sv_rq ad n (sv_top σ qc v), .int (nI (sv_own σ qc v))]
def sv_fQ (n qc : Nat) (ad : Nat → Nat) (σ : Sg) (q : Nat) : List Value := [.ref (ad (2 + 3 * (σ 3 q).toNatClampNeg)), .int (σ 5 q), .int (σ 6 q), .int (σ 7 q), sv_rq ad n (sv_fst σ qc q), sv_rq ad n (sv_nxt σ q)]
def sv_ce (cI cN cQ : ClassId) (n qc : Nat) (ad : Nat → Nat) (σ : Sg) (k : Nat) : va_E :=
  if k = 0 then .inr (sv_kS, sv_fS n qc ad σ) else if k = 1 then .inl (cN, n, .inr (.inr (.inr (.inr (fun v => some (ad (2 + 3 * v)))))))
  else if k < 2 + 3 * n then (if (k - 2) % 3 = 0 then .inr (sv_kN, sv_fN n qc ad σ ((k - 2) / 3)) else if (k - 2) % 3 = 1 then .inl (cI, n, .inl (sv_kv σ ((k - 2) / 3))) else .inl (cI, n, .inl (sv_ka σ ((k - 2) / 3))))
  else if k = 2 + 3 * n then .inl (cQ, 4 * n, .inr (.inr (.inr (.inr (fun q => if q < qc then some (ad (3 + 3 * n + q)) else none)))))
  else .inr (sv_kQ, sv_fQ n qc ad σ (k - (3 + 3 * n)))
theorem sv_ce_S {cI cN cQ : ClassId} {n qc : Nat} {ad : Nat → Nat} {σ : Sg} : sv_ce cI cN cQ n qc ad σ 0 = .inr (sv_kS, sv_fS n qc ad σ) := if_pos rfl
theorem sv_ce_A {cI cN cQ : ClassId} {n qc : Nat} {ad : Nat → Nat} {σ : Sg} : sv_ce cI cN cQ n qc ad σ 1 = .inl (cN, n, .inr (.inr (.inr (.inr (fun v => some (ad (2 + 3 * v))))))) := by
  unfold sv_ce
  rw [if_neg (by decide), if_pos rfl]
theorem sv_ce_N {cI cN cQ : ClassId} {n qc : Nat} {ad : Nat → Nat} {σ : Sg} {v : Nat} (hv : v < n) : sv_ce cI cN cQ n qc ad σ (2 + 3 * v) = .inr (sv_kN, sv_fN n qc ad σ v) := by
  unfold sv_ce
  rw [if_neg (by omega), if_neg (by omega), if_pos (by omega), if_pos (by omega), show (2 + 3 * v - 2) / 3 = v by omega]
theorem sv_ce_V {cI cN cQ : ClassId} {n qc : Nat} {ad : Nat → Nat} {σ : Sg} {v : Nat} (hv : v < n) : sv_ce cI cN cQ n qc ad σ (3 + 3 * v) = .inl (cI, n, .inl (sv_kv σ v)) := by
  unfold sv_ce
  rw [if_neg (by omega), if_neg (by omega), if_pos (by omega), if_neg (by omega), if_pos (by omega), show (3 + 3 * v - 2) / 3 = v by omega]
theorem sv_ce_C {cI cN cQ : ClassId} {n qc : Nat} {ad : Nat → Nat} {σ : Sg} {v : Nat} (hv : v < n) : sv_ce cI cN cQ n qc ad σ (4 + 3 * v) = .inl (cI, n, .inl (sv_ka σ v)) := by
  unfold sv_ce
  rw [if_neg (by omega), if_neg (by omega), if_pos (by omega), if_neg (by omega), if_neg (by omega), show (4 + 3 * v - 2) / 3 = v by omega]
theorem sv_ce_B {cI cN cQ : ClassId} {n qc : Nat} {ad : Nat → Nat} {σ : Sg} : sv_ce cI cN cQ n qc ad σ (2 + 3 * n) = .inl (cQ, 4 * n, .inr (.inr (.inr (.inr (fun q => if q < qc then some (ad (3 + 3 * n + q)) else none))))) := by
  unfold sv_ce
  rw [if_neg (by omega), if_neg (by omega), if_neg (by omega), if_pos rfl]
theorem sv_ce_Q {cI cN cQ : ClassId} {n qc : Nat} {ad : Nat → Nat} {σ : Sg} {q : Nat} : sv_ce cI cN cQ n qc ad σ (3 + 3 * n + q) = .inr (sv_kQ, sv_fQ n qc ad σ q) := by
  unfold sv_ce
  rw [if_neg (by omega), if_neg (by omega), if_neg (by omega), if_neg (by omega), show 3 + 3 * n + q - (3 + 3 * n) = q by omega]
/-- what holds of each kind of cell holds of all -/
theorem sv_cells {n qc : Nat} {P : Nat → Prop} (h0 : P 0) (h1 : P 1) (hn : ∀ v, v < n → P (2 + 3 * v) ∧ P (3 + 3 * v) ∧ P (4 + 3 * v)) (hB : P (2 + 3 * n)) (hq : ∀ q, q < qc → P (3 + 3 * n + q)) : ∀ k, k < 3 + 3 * n + qc → P k := by
  intro k hk
  by_cases e0 : k = 0
  · rw [e0]; exact h0
  · by_cases e1 : k = 1
    · rw [e1]; exact h1
    · by_cases e2 : k < 2 + 3 * n
      · obtain ⟨a1, a2, a3⟩ := hn ((k - 2) / 3) (by omega)
        rcases (show k = 2 + 3 * ((k - 2) / 3) ∨ k = 3 + 3 * ((k - 2) / 3) ∨ k = 4 + 3 * ((k - 2) / 3) by omega) with e | e | e
        · rw [e]; exact a1
        · rw [e]; exact a2
        · rw [e]; exact a3
      · by_cases e3 : k = 2 + 3 * n
        · rw [e3]; exact hB
        · rw [show k = 3 + 3 * n + (k - (3 + 3 * n)) by omega]
          exact hq _ (by omega)
end SvChain
section SvPut
variable {cI cN cQ : ClassId} {n qc : Nat} {ad : Nat → Nat} {σ τ : Sg}
theorem sv_wbN_cg (h : τ 9 = σ 9) : ∀ k, sv_wbN τ k = sv_wbN σ k
  | 0 => rfl
  | k + 1 => by unfold sv_wbN; rw [sv_wbN_cg h k, h]
theorem sv_fN_cg (hQ : sv_eqQ σ τ) {v : Nat} (h12 : τ 12 v = σ 12 v) (h13 : τ 13 v = σ 13 v) (h14 : τ 14 v = σ 14 v) (h15 : τ 15 v = σ 15 v) : sv_fN n qc ad τ v = sv_fN n qc ad σ v := by
  unfold sv_fN
  rw [h12, h13, h14, h15, sv_top_cg hQ, sv_own_cg hQ]
theorem sv_fQ_cg (hQ : sv_eqQ σ τ) (q : Nat) : sv_fQ n qc ad τ q = sv_fQ n qc ad σ q := by
  unfold sv_fQ
  rw [hQ 3 (by decide) (by decide), hQ 5 (by decide) (by decide), hQ 6 (by decide) (by decide), hQ 7 (by decide) (by decide), sv_fst_cg hQ, sv_nxt_cg hQ]
/-- one cell is written, and the state goes along -/
theorem sv_ce_upd (hQ : sv_eqQ σ τ) {k0 : Nat} {e0 : va_E} (hk0 : k0 < 2 + 3 * n) (h1 : k0 ≠ 1) (hS : k0 = 0 ∨ (τ 9 = σ 9 ∧ τ 1 0 = σ 1 0)) (hN : ∀ v, v < n → k0 = 2 + 3 * v ∨ (τ 12 v = σ 12 v ∧ τ 13 v = σ 13 v ∧ τ 14 v = σ 14 v ∧ τ 15 v = σ 15 v)) (hV : ∀ v, v < n → k0 = 3 + 3 * v ∨ sv_kv τ v = sv_kv σ v) (hC : ∀ v, v < n → k0 = 4 + 3 * v ∨ sv_ka τ v = sv_ka σ v) (he : sv_ce cI cN cQ n qc ad τ k0 = e0) :
    ∀ k, k < 3 + 3 * n + qc → va_up (sv_ce cI cN cQ n qc ad σ) k0 e0 k = sv_ce cI cN cQ n qc ad τ k := by
  have key : ∀ k, (k = k0 ∨ sv_ce cI cN cQ n qc ad τ k = sv_ce cI cN cQ n qc ad σ k) → va_up (sv_ce cI cN cQ n qc ad σ) k0 e0 k = sv_ce cI cN cQ n qc ad τ k := by
    intro k hk
    by_cases e : k = k0
    · subst e
      rw [he]
      simp [va_up]
    · rw [show va_up (sv_ce cI cN cQ n qc ad σ) k0 e0 k = sv_ce cI cN cQ n qc ad σ k from if_neg e]
      rcases hk with h | h
      · exact absurd h e
      · exact h.symm
  refine sv_cells ?_ ?_ (fun v hv => ⟨?_, ?_, ?_⟩) ?_ (fun q hq => ?_)
  · refine key 0 ?_
    rcases hS with h | ⟨h, h'⟩
    · exact Or.inl h.symm
    · right
      rw [sv_ce_S, sv_ce_S]
      unfold sv_fS
      rw [sv_wbN_cg h, h']
  · refine key 1 (Or.inr ?_)
    rw [sv_ce_A, sv_ce_A]
  · refine key _ ?_
    rcases hN v hv with h | ⟨a, b, c, d⟩
    · exact Or.inl h.symm
    · right
      rw [sv_ce_N hv, sv_ce_N hv, sv_fN_cg hQ a b c d]
  · refine key _ ?_
    rcases hV v hv with h | h
    · exact Or.inl h.symm
    · right
      rw [sv_ce_V hv, sv_ce_V hv, h]
  · refine key _ ?_
    rcases hC v hv with h | h
    · exact Or.inl h.symm
    · right
      rw [sv_ce_C hv, sv_ce_C hv, h]
  · refine key _ (Or.inr ?_)
    rw [sv_ce_B, sv_ce_B]
  · refine key _ (Or.inr ?_)
    rw [sv_ce_Q, sv_ce_Q, sv_fQ_cg hQ]
theorem sv_kv_sg {k i : Nat} {x : Int32} (v : Nat) (h10 : k ≠ 10) (h16 : k ≠ 16) : sv_kv (sg σ k i x) v = sv_kv σ v := by
  funext w
  unfold sv_kv
  rw [sg_ne σ i x (Ne.symm h10), sg_ne σ i x (Ne.symm h16)]
theorem sv_ka_sg {k i : Nat} {x : Int32} (v : Nat) (h11 : k ≠ 11) (h17 : k ≠ 17) : sv_ka (sg σ k i x) v = sv_ka σ v := by
  funext w
  unfold sv_ka
  rw [sg_ne σ i x (Ne.symm h11), sg_ne σ i x (Ne.symm h17)]
/-- a node's own field of the tags 12 to 15 -/
theorem sv_ce_nf {v f t : Nat} {x : Int32} (hv : v < n) (ht : 12 ≤ t) (ht2 : t ≤ 15) (hf : f + 9 = t) : ∀ k, k < 3 + 3 * n + qc → va_up (sv_ce cI cN cQ n qc ad σ) (2 + 3 * v) (.inr (sv_kN, (sv_fN n qc ad σ v).set f (.int x))) k = sv_ce cI cN cQ n qc ad (sg σ t v x) k := by
  have hQ : sv_eqQ σ (sg σ t v x) := sv_eqQ_sg (Or.inr (by omega))
  refine sv_ce_upd hQ (by omega) (by omega) (Or.inr ⟨sg_ne σ v x (by omega), sg_off σ x (Or.inl (by omega))⟩) (fun u hu => ?_) (fun u hu => Or.inr (sv_kv_sg u (by omega) (by omega))) (fun u hu => Or.inr (sv_ka_sg u (by omega) (by omega))) ?_
  · by_cases e : u = v
    · left; omega
    · right
      exact ⟨sg_off σ x (Or.inr e), sg_off σ x (Or.inr e), sg_off σ x (Or.inr e), sg_off σ x (Or.inr e)⟩
  · rw [sv_ce_N hv]
    unfold sv_fN
    rw [sv_top_cg hQ, sv_own_cg hQ]
    rcases (show t = 12 ∨ t = 13 ∨ t = 14 ∨ t = 15 by omega) with rfl | rfl | rfl | rfl
    · obtain rfl : f = 3 := by omega
      rw [sg_at, sg_off σ x (Or.inl (by decide)), sg_off σ x (Or.inl (by decide)), sg_off σ x (Or.inl (by decide))]; rfl
    · obtain rfl : f = 4 := by omega
      rw [sg_at, sg_off σ x (Or.inl (by decide)), sg_off σ x (Or.inl (by decide)), sg_off σ x (Or.inl (by decide))]; rfl
    · obtain rfl : f = 5 := by omega
      rw [sg_at, sg_off σ x (Or.inl (by decide)), sg_off σ x (Or.inl (by decide)), sg_off σ x (Or.inl (by decide))]; rfl
    · obtain rfl : f = 6 := by omega
      rw [sg_at, sg_off σ x (Or.inl (by decide)), sg_off σ x (Or.inl (by decide)), sg_off σ x (Or.inl (by decide))]; rfl
theorem sv_kv_own {v : Nat} {x : Int32} (hv : v < 6) : upd (sv_kv σ v) v x = sv_kv (sg σ 10 v x) v := by
  funext w
  unfold sv_kv upd
  by_cases e : w = v
  · subst e; simp [sg_at]
  · simp only [if_neg e]
    rw [sg_ne σ v x (by decide : (16 : Nat) ≠ 10)]
theorem sv_ka_own {v : Nat} {x : Int32} (hv : v < 6) : upd (sv_ka σ v) v x = sv_ka (sg σ 11 v x) v := by
  funext w
  unfold sv_ka upd
  by_cases e : w = v
  · subst e; simp [sg_at]
  · simp only [if_neg e]
    rw [sg_ne σ v x (by decide : (17 : Nat) ≠ 11)]
theorem sv_kv_her {v w : Nat} {x : Int32} (hw : w < 6) (hne : w ≠ v) : upd (sv_kv σ v) w x = sv_kv (sg σ 16 (6 * v + w) x) v := by
  funext u
  unfold sv_kv upd
  by_cases e : u = w
  · subst e; simp [sg_at, hne, hw]
  · by_cases e2 : u = v
    · subst e2
      simp only [if_neg e, if_true]
      rw [sg_ne σ _ x (by decide : (10 : Nat) ≠ 16)]
    · simp only [if_neg e, if_neg e2]
      by_cases e3 : u < 6
      · rw [if_pos e3, if_pos e3, sg_off σ x (Or.inr (by omega))]
      · rw [if_neg e3, if_neg e3]
theorem sv_ka_her {v w : Nat} {x : Int32} (hw : w < 6) (hne : w ≠ v) : upd (sv_ka σ v) w x = sv_ka (sg σ 17 (6 * v + w) x) v := by
  funext u
  unfold sv_ka upd
  by_cases e : u = w
  · subst e; simp [sg_at, hne, hw]
  · by_cases e2 : u = v
    · subst e2
      simp only [if_neg e, if_true]
      rw [sg_ne σ _ x (by decide : (11 : Nat) ≠ 17)]
    · simp only [if_neg e, if_neg e2]
      by_cases e3 : u < 6
      · rw [if_pos e3, if_pos e3, sg_off σ x (Or.inr (by omega))]
      · rw [if_neg e3, if_neg e3]
theorem sv_kv_ot {u v : Nat} {k i : Nat} {x : Int32} (hu : u ≠ v) (hk : (k = 10 ∧ i = v) ∨ (k = 16 ∧ ∃ w, w < 6 ∧ i = 6 * v + w)) : sv_kv (sg σ k i x) u = sv_kv σ u := by
  funext w
  unfold sv_kv
  rcases hk with ⟨rfl, rfl⟩ | ⟨rfl, w0, hw, rfl⟩
  · rw [sg_off σ x (Or.inr hu), sg_ne σ _ x (by decide : (16 : Nat) ≠ 10)]
  · rw [sg_ne σ _ x (by decide : (10 : Nat) ≠ 16)]
    by_cases e : w < 6
    · rw [sg_off σ x (Or.inr (by omega))]
    · simp [e]
theorem sv_ka_ot {u v : Nat} {k i : Nat} {x : Int32} (hu : u ≠ v) (hk : (k = 11 ∧ i = v) ∨ (k = 17 ∧ ∃ w, w < 6 ∧ i = 6 * v + w)) : sv_ka (sg σ k i x) u = sv_ka σ u := by
  funext w
  unfold sv_ka
  rcases hk with ⟨rfl, rfl⟩ | ⟨rfl, w0, hw, rfl⟩
  · rw [sg_off σ x (Or.inr hu), sg_ne σ _ x (by decide : (17 : Nat) ≠ 11)]
  · rw [sg_ne σ _ x (by decide : (11 : Nat) ≠ 17)]
    by_cases e : w < 6
    · rw [sg_off σ x (Or.inr (by omega))]
    · simp [e]
/-- the tag and the place where v keeps what w said: votes -/
def sv_tv (v w : Nat) : Nat := if w = v then 10 else 16
def sv_ta (v w : Nat) : Nat := if w = v then 11 else 17
def sv_tp (v w : Nat) : Nat := if w = v then v else 6 * v + w
theorem sv_ce_kv {v w : Nat} {x : Int32} (hv : v < n) (hn : n ≤ 6) (hw : w < n) : ∀ k, k < 3 + 3 * n + qc → va_up (sv_ce cI cN cQ n qc ad σ) (3 + 3 * v) (.inl (cI, n, .inl (upd (sv_kv σ v) w x))) k = sv_ce cI cN cQ n qc ad (sg σ (sv_tv v w) (sv_tp v w) x) k := by
  have ht : sv_tv v w = 10 ∨ sv_tv v w = 16 := by unfold sv_tv; split <;> simp
  have hQ : sv_eqQ σ (sg σ (sv_tv v w) (sv_tp v w) x) := sv_eqQ_sg (Or.inr (by omega))
  refine sv_ce_upd hQ (by omega) (by omega) (Or.inr ⟨sg_ne σ _ x (by omega), sg_off σ x (Or.inl (by omega))⟩) (fun u hu => Or.inr ⟨sg_off σ x (Or.inl (by omega)), sg_off σ x (Or.inl (by omega)), sg_off σ x (Or.inl (by omega)), sg_off σ x (Or.inl (by omega))⟩) (fun u hu => ?_) (fun u hu => Or.inr (sv_ka_sg u (by omega) (by omega))) ?_
  · by_cases e : u = v
    · left; omega
    · right
      refine sv_kv_ot (v := v) e ?_
      unfold sv_tv sv_tp
      by_cases e2 : w = v
      · rw [if_pos e2, if_pos e2]; exact Or.inl ⟨rfl, rfl⟩
      · rw [if_neg e2, if_neg e2]; exact Or.inr ⟨rfl, w, by omega, rfl⟩
  · rw [sv_ce_V hv]
    unfold sv_tv sv_tp
    by_cases e2 : w = v
    · subst e2
      rw [if_pos rfl, if_pos rfl, sv_kv_own (by omega)]
    · rw [if_neg e2, if_neg e2, sv_kv_her (by omega) e2]
theorem sv_ce_ka {v w : Nat} {x : Int32} (hv : v < n) (hn : n ≤ 6) (hw : w < n) : ∀ k, k < 3 + 3 * n + qc → va_up (sv_ce cI cN cQ n qc ad σ) (4 + 3 * v) (.inl (cI, n, .inl (upd (sv_ka σ v) w x))) k = sv_ce cI cN cQ n qc ad (sg σ (sv_ta v w) (sv_tp v w) x) k := by
  have ht : sv_ta v w = 11 ∨ sv_ta v w = 17 := by unfold sv_ta; split <;> simp
  have hQ : sv_eqQ σ (sg σ (sv_ta v w) (sv_tp v w) x) := sv_eqQ_sg (Or.inr (by omega))
  refine sv_ce_upd hQ (by omega) (by omega) (Or.inr ⟨sg_ne σ _ x (by omega), sg_off σ x (Or.inl (by omega))⟩) (fun u hu => Or.inr ⟨sg_off σ x (Or.inl (by omega)), sg_off σ x (Or.inl (by omega)), sg_off σ x (Or.inl (by omega)), sg_off σ x (Or.inl (by omega))⟩) (fun u hu => Or.inr (sv_kv_sg u (by omega) (by omega))) (fun u hu => ?_) ?_
  · by_cases e : u = v
    · left; omega
    · right
      refine sv_ka_ot (v := v) e ?_
      unfold sv_ta sv_tp
      by_cases e2 : w = v
      · rw [if_pos e2, if_pos e2]; exact Or.inl ⟨rfl, rfl⟩
      · rw [if_neg e2, if_neg e2]; exact Or.inr ⟨rfl, w, by omega, rfl⟩
  · rw [sv_ce_C hv]
    unfold sv_ta sv_tp
    by_cases e2 : w = v
    · subst e2
      rw [if_pos rfl, if_pos rfl, sv_ka_own (by omega)]
    · rw [if_neg e2, if_neg e2, sv_ka_her (by omega) e2]
theorem sv_ce_mov {x : Int32} : ∀ k, k < 3 + 3 * n + qc → va_up (sv_ce cI cN cQ n qc ad σ) 0 (.inr (sv_kS, (sv_fS n qc ad σ).set 5 (.int x))) k = sv_ce cI cN cQ n qc ad (sg σ 1 0 x) k := by
  have hQ : sv_eqQ σ (sg σ 1 0 x) := sv_eqQ_sg (Or.inl (by omega))
  refine sv_ce_upd hQ (by omega) (by omega) (Or.inl rfl) (fun u hu => Or.inr ⟨sg_off σ x (Or.inl (by decide)), sg_off σ x (Or.inl (by decide)), sg_off σ x (Or.inl (by decide)), sg_off σ x (Or.inl (by decide))⟩) (fun u hu => Or.inr (sv_kv_sg u (by decide) (by decide))) (fun u hu => Or.inr (sv_ka_sg u (by decide) (by decide))) ?_
  rw [sv_ce_S]
  unfold sv_fS
  rw [sv_wbN_cg (sg_ne σ 0 x (by decide)), sg_at]
  rfl
theorem sv_ce_ill {v : Nat} {x : Int32} : ∀ k, k < 3 + 3 * n + qc → va_up (sv_ce cI cN cQ n qc ad σ) 0 (.inr (sv_kS, (sv_fS n qc ad σ).set 4 (.int (nI (sv_wbN (sg σ 9 v x) n))))) k = sv_ce cI cN cQ n qc ad (sg σ 9 v x) k := by
  have hQ : sv_eqQ σ (sg σ 9 v x) := sv_eqQ_sg (Or.inr (by omega))
  refine sv_ce_upd hQ (by omega) (by omega) (Or.inl rfl) (fun u hu => Or.inr ⟨sg_off σ x (Or.inl (by decide)), sg_off σ x (Or.inl (by decide)), sg_off σ x (Or.inl (by decide)), sg_off σ x (Or.inl (by decide))⟩) (fun u hu => Or.inr (sv_kv_sg u (by decide) (by decide))) (fun u hu => Or.inr (sv_ka_sg u (by decide) (by decide))) ?_
  rw [sv_ce_S]
  unfold sv_fS
  rw [sg_off σ x (Or.inl (by decide : (1 : Nat) ≠ 9))]
  rfl
end SvPut
section SvNode
theorem sv_wbN_bit {σ : Sg} {v : Nat} : ∀ k, (sv_wbN σ k).testBit v = (decide (v < k) && (σ 9 v == 0))
  | 0 => by simp [sv_wbN]
  | k + 1 => by
    cases e : σ 9 k == 0 with
    | false =>
      rw [show sv_wbN σ (k + 1) = sv_wbN σ k by simp [sv_wbN, e], sv_wbN_bit k]
      by_cases h : v = k
      · subst h; simp [e]
      · rw [show decide (v < k + 1) = decide (v < k) from decide_eq_decide.mpr (by omega)]
    | true =>
      rw [show sv_wbN σ (k + 1) = sv_wbN σ k ||| 2 ^ k by simp [sv_wbN, e], Nat.testBit_or, sv_wbN_bit k, Nat.testBit_two_pow]
      by_cases h : v = k
      · subst h; simp [e]
      · rw [show decide (v < k + 1) = decide (v < k) from decide_eq_decide.mpr (by omega), show decide (k = v) = false from decide_eq_false (fun q => h q.symm), Bool.or_false]
theorem sv_wbN_lt {σ : Sg} (k : Nat) : sv_wbN σ k < 2 ^ k := sv_lt_of_bits fun v hv => by
  rw [sv_wbN_bit, Bool.and_eq_true, decide_eq_true_eq] at hv
  exact hv.1
def sv_isn (n : Nat) (v : Int32) : Bool := decide (¬ v < 0) && decide (¬ nI n ≤ v)
theorem sv_isn_t {n : Nat} {v : Int32} (hn : n ≤ 24) (h : sv_isn n v = true) : ∃ j, j < n ∧ v = nI j := by
  unfold sv_isn at h
  rw [Bool.and_eq_true, decide_eq_true_eq, decide_eq_true_eq] at h
  rcases pk_ix v (n := n) (by omega) with h1 | h1 | h1
  · exact absurd h1 h.1
  · exact absurd h1 h.2
  · exact h1
theorem sv_isn_nI {n j : Nat} (hn : n ≤ 24) (h : j < n) : sv_isn n (nI j) = true := by
  unfold sv_isn
  rw [decide_eq_true (nI_pos (by omega)), decide_eq_true (nI_ge h (by omega))]
  rfl
def sv_wel (n : Nat) (σ : Sg) (v : Int32) : Bool := sv_isn n v && (σ 9 v.toNatClampNeg == 0)
theorem sv_wel_t {n : Nat} {σ : Sg} {v : Int32} (hn : n ≤ 24) (h : sv_wel n σ v = true) : ∃ j, j < n ∧ v = nI j ∧ σ 9 j = 0 := by
  unfold sv_wel at h
  rw [Bool.and_eq_true] at h
  obtain ⟨j, hj, rfl⟩ := sv_isn_t hn h.1
  refine ⟨j, hj, rfl, ?_⟩
  have := h.2
  rw [nI_clamp (by omega)] at this
  exact eq_of_beq this
theorem sv_wel_nI {n j : Nat} {σ : Sg} (hn : n ≤ 24) (h : j < n) : sv_wel n σ (nI j) = (σ 9 j == 0) := by
  unfold sv_wel
  rw [sv_isn_nI hn h, nI_clamp (by omega)]
  rfl
/-- a node turns ill -/
theorem sv_wb_ill {n v : Nat} {σ : Sg} (hn : n ≤ 6) (hv : v < n) : nI (sv_wbN σ n) &&& (sv_bit v ^^^ -1) = nI (sv_wbN (sg σ 9 v 1) n) := by
  rw [sv_bit_nI (by omega)]
  refine sv_andn _ fun i _ => ?_
  rw [sv_wbN_bit, sv_wbN_bit, Nat.testBit_two_pow]
  by_cases e : i = v
  · subst e
    rw [sg_at]
    simp
  · rw [sg_off σ _ (Or.inr e)]
    simp [Ne.symm e]
end SvNode
section SvModel
/-! the reference's cells: 0 is the object, k from 1 to 16 the array of tag k + 2 -/
def sv_len (k : Nat) : Nat := if k ≤ 6 then 24 else if k ≤ 13 then 6 else if k ≤ 15 then 36 else 64
def sv_fM (n qc : Nat) (ad : Nat → Nat) (σ : Sg) : List Value := [.int (nI n), .int (σ 1 0), .int (nI qc), .ref (ad 1), .ref (ad 2), .ref (ad 3), .ref (ad 4), .ref (ad 5), .ref (ad 6), .ref (ad 7), .ref (ad 8), .ref (ad 9), .ref (ad 10), .ref (ad 11), .ref (ad 12), .ref (ad 13), .ref (ad 14), .ref (ad 15), .ref (ad 16)]
def sv_mc (cI cZ : ClassId) (k : Nat) : ClassId := if k = 6 ∨ k = 7 ∨ k = 16 then cZ else cI
def sv_mf (σ : Sg) (mt qm : Nat → Int32) (k : Nat) : Nat → Int32 := if k = 6 then mt else if k = 16 then qm else σ (k + 2)
def sv_me (cI cZ : ClassId) (n qc : Nat) (ad : Nat → Nat) (σ : Sg) (mt qm : Nat → Int32) (k : Nat) : va_E :=
  if k = 0 then .inr (sv_kM, sv_fM n qc ad σ) else .inl (sv_mc cI cZ k, sv_len k, .inl (sv_mf σ mt qm k))
theorem sv_me_0 {cI cZ : ClassId} {n qc : Nat} {ad : Nat → Nat} {σ : Sg} {mt qm : Nat → Int32} : sv_me cI cZ n qc ad σ mt qm 0 = .inr (sv_kM, sv_fM n qc ad σ) := if_pos rfl
/-- an array is written: the state's place, or a scratch array's -/
theorem sv_me_sg {cI cZ : ClassId} {n qc : Nat} {ad : Nat → Nat} {σ : Sg} {mt qm : Nat → Int32} {k i : Nat} {x : Int32} (h0 : k ≠ 0) (h6 : k ≠ 6) (h16 : k ≠ 16) (k' : Nat) : va_up (sv_me cI cZ n qc ad σ mt qm) k (.inl (sv_mc cI cZ k, sv_len k, .inl (upd (σ (k + 2)) i x))) k' = sv_me cI cZ n qc ad (sg σ (k + 2) i x) mt qm k' := by
  by_cases e : k' = k
  · subst e
    simp only [va_up, if_true]
    unfold sv_me sv_mf
    rw [if_neg h0, if_neg h6, if_neg h16, sg_same]
  · simp only [va_up, if_neg e]
    unfold sv_me sv_mf sv_fM
    rw [sg_off σ x (Or.inl (by omega)), sg_ne σ i x (show k' + 2 ≠ k + 2 by omega)]
theorem sv_me_mt {cI cZ : ClassId} {n qc : Nat} {ad : Nat → Nat} {σ : Sg} {mt mt' qm : Nat → Int32} (k' : Nat) : va_up (sv_me cI cZ n qc ad σ mt qm) 6 (.inl (cZ, 24, .inl mt')) k' = sv_me cI cZ n qc ad σ mt' qm k' := by
  by_cases e : k' = 6
  · subst e; rfl
  · simp only [va_up, if_neg e]
    unfold sv_me sv_mf
    rw [if_neg e, if_neg e]
theorem sv_me_qm {cI cZ : ClassId} {n qc : Nat} {ad : Nat → Nat} {σ : Sg} {mt qm qm' : Nat → Int32} (k' : Nat) : va_up (sv_me cI cZ n qc ad σ mt qm) 16 (.inl (cZ, 64, .inl qm')) k' = sv_me cI cZ n qc ad σ mt qm' k' := by
  by_cases e : k' = 16
  · subst e; rfl
  · simp only [va_up, if_neg e]
    unfold sv_me sv_mf
    rw [if_neg e, if_neg e]
def sv_oI (o : Option Nat) : Int32 := match o with
  | none => -1
  | some q => nI q
end SvModel
end
section
section SvRows
/-! locals by their number -/
def sv_lk (i : Nat) : List (Nat × Value) → Option Value
  | [] => none
  | q :: l => if q.1 = i then some q.2 else sv_lk i l
theorem sv_lk_mem {i : Nat} {v : Value} : ∀ {l : List (Nat × Value)}, sv_lk i l = some v → (i, v) ∈ l
  | [], h => by cases h
  | (j, w) :: l, h => by
    by_cases e : j = i
    · have h2 : sv_lk i ((j, w) :: l) = some w := if_pos e
      rw [h2] at h
      cases h
      rw [e]
      exact List.mem_cons_self
    · have h2 : sv_lk i ((j, w) :: l) = sv_lk i l := if_neg e
      rw [h2] at h
      exact List.mem_cons_of_mem _ (sv_lk_mem h)
theorem sv_at {ls : Array Slot} {nL i : Nat} {l : List (Nat × Value)} {v : Value} (h : lv_has ls nL l) (hk : sv_lk i l = some v) : ls[i]? = some (.val v) := h.2.2 (i, v) (sv_lk_mem hk)
def sv_lks (l : List (Nat × Value)) : List (Nat × Value) → Prop
  | [] => True
  | q :: r => sv_lk q.1 l = some q.2 ∧ sv_lks l r
theorem sv_lks_all {l : List (Nat × Value)} : ∀ {r : List (Nat × Value)}, sv_lks l r → ∀ q ∈ r, sv_lk q.1 l = some q.2
  | [], _, q, hq => by cases hq
  | a :: r, h, q, hq => by
    rcases List.mem_cons.mp hq with e | e
    · rw [e]; exact h.1
    · exact sv_lks_all h.2 q e
theorem sv_re {ls : Array Slot} {nL : Nat} {l r : List (Nat × Value)} (h : lv_has ls nL l) (hk : sv_lks l r) : lv_has ls nL r :=
  ⟨h.1, h.2.1, fun q hq => sv_at h (sv_lks_all hk q hq)⟩
variable {p : Program} {l : Launch} {e : Env} {R : Room} {s : State} {m : MethodId} {args : Array Value} {below : List Frame} {meth : Method} {c : Code} {H : Heap} {locs : List Loc} {cells slots : Nat} {Q : State → Prop}
variable {cc : ByteArray} {pc nL : Nat} {ls : Array Slot} {rest : List Value}
theorem x_tv {x y : Int32} (h : x = y) (k : W p l e R s m args below meth c H locs cells slots Q (F0 m pc ls (.int y :: rest))) : W p l e R s m args below meth c H locs cells slots Q (F0 m pc ls (.int x :: rest)) := h ▸ k
theorem x_tr {x y : Value} (h : x = y) (k : W p l e R s m args below meth c H locs cells slots Q (F0 m pc ls (y :: rest))) : W p l e R s m args below meth c H locs cells slots Q (F0 m pc ls (x :: rest)) := h ▸ k
theorem x_iinc (hx : p.tables.exec = Jvm.exec) (hb : c.code = cc) {i : Nat} {n : Int} {x v : Int32} {lv : List (Nat × Value)} (hd : decode cc pc = .ok (.iinc i n, 3)) (h : lv_has ls nL lv) (hk : sv_lk i lv = some (.int x)) (hv : x + Int32.ofInt n = v) (hn : i < nL)
    (kk : ∀ ls' : Array Slot, lv_has ls' nL ((i, Value.int v) :: lv.filter (fun q => !(q.1 == i) && !(q.1 + 1 == i && q.2.category == 2))) → W p l e R s m args below meth c H locs cells slots Q (F0 m (pc + 3) ls' rest)) : W p l e R s m args below meth c H locs cells slots Q (F0 m pc ls rest) := by
  obtain ⟨k, hk2⟩ := List.getElem?_of_mem (sv_lk_mem hk)
  exact lv_iinc hx hb hd h hk2 hv hn rfl kk
theorem x_ifeqB (hx : p.tables.exec = Jvm.exec) (hb : c.code = cc) {B : Bool} {off : Int} {tgt : Nat} (hd : decode cc pc = .ok (.ifCond .eq off, 3)) (ht : (pc : Int) + off = (tgt : Int))
    (kt : B = false → W p l e R s m args below meth c H locs cells slots Q (F0 m tgt ls rest)) (kf : B = true → W p l e R s m args below meth c H locs cells slots Q (F0 m (pc + 3) ls rest)) : W p l e R s m args below meth c H locs cells slots Q (F0 m pc ls (.int (sv_b B) :: rest)) :=
  lv_if_eq hx hb hd ht (fun h => kt (sv_b0.mp h)) (fun h => kf (sv_bn0.mp h))
theorem x_ifneB (hx : p.tables.exec = Jvm.exec) (hb : c.code = cc) {B : Bool} {off : Int} {tgt : Nat} (hd : decode cc pc = .ok (.ifCond .ne off, 3)) (ht : (pc : Int) + off = (tgt : Int))
    (kt : B = true → W p l e R s m args below meth c H locs cells slots Q (F0 m tgt ls rest)) (kf : B = false → W p l e R s m args below meth c H locs cells slots Q (F0 m (pc + 3) ls rest)) : W p l e R s m args below meth c H locs cells slots Q (F0 m pc ls (.int (sv_b B) :: rest)) :=
  lv_if_ne hx hb hd ht (fun h => kt (sv_bn0.mp h)) (fun h => kf (sv_b0.mp h))
end SvRows
section SvWorld
/-! a world as a table: cell k lies at ad k and holds en k -/
def sv_L (N : Nat) (ad : Nat → Nat) (en : Nat → va_E) : va_W := (List.range N).map (fun k => (ad k, en k))
theorem sv_L_at {N : Nat} {ad : Nat → Nat} {en : Nat → va_E} {k : Nat} (h : k < N) : (sv_L N ad en)[k]? = some (ad k, en k) := by
  unfold sv_L
  rw [List.getElem?_map, List.getElem?_range h]
  rfl
theorem sv_L_some {N : Nat} {ad : Nat → Nat} {en : Nat → va_E} {k : Nat} {q : Nat × va_E} (h : (sv_L N ad en)[k]? = some q) : k < N ∧ q = (ad k, en k) := by
  have hl : k < (sv_L N ad en).length := (List.getElem?_eq_some_iff.mp h).1
  have hk : k < N := by simpa [sv_L] using hl
  rw [sv_L_at hk] at h
  exact ⟨hk, (Option.some.inj h).symm⟩
theorem sv_L_len {N : Nat} {ad : Nat → Nat} {en : Nat → va_E} : (sv_L N ad en).length = N := by simp [sv_L]
theorem sv_L_congr {N : Nat} {ad : Nat → Nat} {en en' : Nat → va_E} (h : ∀ k, k < N → en k = en' k) : sv_L N ad en = sv_L N ad en' := by
  unfold sv_L
  apply List.map_congr_left
  intro k hk
  rw [h k (List.mem_range.mp hk)]
theorem sv_L_set {N : Nat} {ad : Nat → Nat} {en : Nat → va_E} {k : Nat} (h : k < N) (e : va_E) : (sv_L N ad en).set k (ad k, e) = sv_L N ad (va_up en k e) := by
  apply List.ext_getElem?
  intro i
  rw [List.getElem?_set]
  by_cases hi : i < N
  · rw [sv_L_at hi, sv_L_at hi, sv_L_len]
    by_cases e1 : k = i
    · subst e1
      simp [h, va_up]
    · simp [e1, va_up, Ne.symm e1]
  · have h1 : (sv_L N ad en)[i]? = none := by rw [List.getElem?_eq_none_iff, sv_L_len]; omega
    have h2 : (sv_L N ad (va_up en k e))[i]? = none := by rw [List.getElem?_eq_none_iff, sv_L_len]; omega
    rw [h1, h2]
    simp [show ¬ k = i by omega]
theorem sv_L_push {N : Nat} {ad : Nat → Nat} {en : Nat → va_E} (a : Nat) (e : va_E) : sv_L N ad en ++ [(a, e)] = sv_L (N + 1) (va_up ad N a) (va_up en N e) := by
  unfold sv_L
  rw [List.range_succ, List.map_append]
  congr 1
  · apply List.map_congr_left
    intro k hk
    have : k ≠ N := Nat.ne_of_lt (List.mem_range.mp hk)
    simp [va_up, this]
  · simp [va_up]
def sv_inj (N : Nat) (ad : Nat → Nat) : Prop := ∀ i j, i < N → j < N → ad i = ad j → i = j
theorem sv_D {N : Nat} {ad : Nat → Nat} {en : Nat → va_E} {A : Nat → Prop} (hJ : sv_inj N ad) (hA : ∀ k, k < N → A (ad k)) : va_D A (sv_L N ad en) := by
  refine ⟨fun i j x y hi hj hxy => ?_, fun k q hk => ?_⟩
  · obtain ⟨h1, rfl⟩ := sv_L_some hi
    obtain ⟨h2, rfl⟩ := sv_L_some hj
    exact hJ i j h1 h2 hxy
  · obtain ⟨h1, rfl⟩ := sv_L_some hk
    exact hA k h1
theorem sv_D_inj {N : Nat} {ad : Nat → Nat} {en : Nat → va_E} {A : Nat → Prop} (h : va_D A (sv_L N ad en)) : sv_inj N ad ∧ ∀ k, k < N → A (ad k) :=
  ⟨fun i j hi hj e => h.1 i j _ _ (sv_L_at hi) (sv_L_at hj) e, fun k hk => h.2 k _ (sv_L_at hk)⟩
end SvWorld
section SvCall
/-- the words of the tables that hold on, whatever is linked later -/
def sv_tb : List Cond := lw_tbl.filter goodWord
theorem sv_tb_t {w : Cond} (i : Nat) (h : tables_1[i]? = some w) (g : goodWord w = true) : w ∈ sv_tb := List.mem_filter.mpr ⟨List.mem_append_right _ (List.mem_of_getElem? h), g⟩
theorem sv_tb_s {w : Cond} (i : Nat) (h : (k2_sels lw_privs)[i]? = some w) (g : goodWord w = true) : w ∈ sv_tb := List.mem_filter.mpr ⟨List.mem_append_left _ (List.mem_of_getElem? h), g⟩
def sv_ws (y : MethodName) (bytes : ByteArray) (maxL : Nat) (ret : Option FieldType) : List Cond := .code y bytes maxL ret :: sv_tb
theorem sv_good {Ts : List Cond} {y : MethodName} {bytes : ByteArray} {maxL : Nat} {ret : Option FieldType} (hT : ∀ w ∈ sv_tb, w ∈ Ts) (hc : Cond.code y bytes maxL ret ∈ sv_tb) : GoodIn Ts (sv_ws y bytes maxL ret) := by
  intro w hw
  have hw' : w ∈ sv_tb := by
    rcases List.mem_cons.mp hw with e | e
    · rw [e]; exact hc
    · exact e
  exact ⟨hT w hw', good_of_word (List.mem_filter.mp hw').2⟩
/-- links to members of nest mates: they go along with the world -/
def sv_isN : Cond → Bool
  | .fieldLinkNest .. => true
  | .methodLinkNest .. => true
  | _ => false
def sv_nst : List Cond := tables_1.filter sv_isN
theorem sv_nst_t {w : Cond} (i : Nat) (h : tables_1[i]? = some w) (g : sv_isN w = true) : w ∈ sv_nst := List.mem_filter.mpr ⟨List.mem_of_getElem? h, g⟩
theorem sv_Nw_warm {w : Cond} (hw : sv_isN w = true) {s U : State} (hW : s.WarmedH U.vm) (h : va_Nw w s) : va_Nw w U := by
  cases w <;> first | exact va_Nw.warmF hW h | exact va_Nw.warmM hW h | (cases hw)
theorem sv_Nw_same {w : Cond} (hw : sv_isN w = true) {u U : State} (e : u.vm = U.vm) (h : va_Nw w u) : va_Nw w U := by
  cases w <;> first | exact va_Nw.same rfl e h | (cases hw)
abbrev sv_tys (cI cZ cN cQ : ClassId) : List (ClassId × FieldType) := [(cI, .int), (cZ, .boolean), (cN, .object "SliceVoting$Node"), (cQ, .object "SliceVoting$Quota")]
def sv_KK (D : va_G) (cI cZ cN cQ : ClassId) (U : State) : Prop := va_K D vwCl (sv_tys cI cZ cN cQ) U ∧ (∀ w ∈ sv_nst, va_Nw w U) ∧ va_AO "SliceVoting$Node" U ∧ va_AO "SliceVoting$Quota" U
theorem sv_KK_warm {D : va_G} {cI cZ cN cQ : ClassId} {s U : State} (hW : s.WarmedH U.vm) (h : sv_KK D cI cZ cN cQ s) : sv_KK D cI cZ cN cQ U :=
  ⟨va_K.moved hW.alike h.1, fun w hw => sv_Nw_warm (List.mem_filter.mp hw).2 hW (h.2.1 w hw), va_AO.moved hW.alike h.2.2.1, va_AO.moved hW.alike h.2.2.2⟩
theorem sv_KK_same {D : va_G} {cI cZ cN cQ : ClassId} {u U : State} (e : u.vm = U.vm) (h : sv_KK D cI cZ cN cQ u) : sv_KK D cI cZ cN cQ U := by
  have ha : u.vm.Alike U.vm := by rw [e]; exact Vm.Alike.refl U.vm
  exact ⟨va_K.moved ha h.1, fun w hw => sv_Nw_same (List.mem_filter.mp hw).2 e (h.2.1 w hw), va_AO.moved ha h.2.2.1, va_AO.moved ha h.2.2.2⟩
def sv_rm (k : Nat) : Room := { frames := k, cells := 0, slots := 0, locals := 40 * k }
/-- a method's start: its arguments, the tables, and what it needs of the heap -/
abbrev sv_Pc (D : va_G) (cI cZ cN cQ : ClassId) (av : List Value) (G : Heap → Prop) : Array Value → State → Prop := va_Pc av (fun U => sv_KK D cI cZ cN cQ U ∧ G U.heap)
theorem sv_blind {D : va_G} {cI cZ cN cQ : ClassId} {av : List Value} {G : Heap → Prop} : FrameBlind (sv_Pc D cI cZ cN cQ av G) := fun a U g mk h => ⟨h.1, sv_KK_same (u := U) (U := U.calling g mk a) rfl h.2.1, h.2.2⟩
def sv_X (D : va_G) (cI cZ cN cQ : ClassId) (own : String) (cc : ByteArray) (nL k : Nat) (p : Program) (R : Room) (s : State) (m : MethodId) (args : Array Value) (c : Code) : Prop :=
  p.tables.exec = Jvm.exec ∧ c.code = cc ∧ c.maxLocals = nL ∧ s.vm.findClass own = some m.cls ∧ (∀ w ∈ sv_tb, w.before args s = true) ∧ sv_KK D cI cZ cN cQ s ∧ k ≤ R.frames ∧ 40 * k ≤ R.locals
/-- what the tables say of a method that is called -/
def sv_okV (own : String) (index : Nat) (y : MethodName) (bytes : ByteArray) (maxL : Nat) (ret : Option FieldType) (n : Nat) : Prop :=
  Cond.code y bytes maxL ret ∈ sv_tb ∧ Cond.methodLink own index y ∈ sv_tb ∧ Cond.instanceMethod y ∈ sv_tb ∧ Cond.selects y.cls y y ∈ sv_tb ∧ Cond.initialized y.cls ∈ sv_tb ∧ (y.cls ≠ "java/lang/invoke/MethodHandle" ∧ y.cls ≠ "java/lang/invoke/VarHandle" ∧ (parseMethodDescriptor y.desc).map (fun d => d.parameters.length) = some n) ∧ maxL ≤ 21
def sv_okS (own : String) (index : Nat) (y : MethodName) (bytes : ByteArray) (maxL : Nat) (ret : Option FieldType) (n : Nat) : Prop :=
  Cond.code y bytes maxL ret ∈ sv_tb ∧ Cond.methodLink own index y ∈ sv_tb ∧ Cond.static y ∈ sv_tb ∧ Cond.initialized y.cls ∈ sv_tb ∧ (y.cls ≠ "java/lang/invoke/MethodHandle" ∧ y.cls ≠ "java/lang/invoke/VarHandle" ∧ (parseMethodDescriptor y.desc).map (fun d => d.parameters.length) = some n) ∧ maxL ≤ 21
variable {p : Program} {l : Launch} {e : Env} {R : Room} {s : State} {m : MethodId} {args : Array Value} {below : List Frame} {meth : Method} {c : Code} {H : Heap} {locs : List Loc} {cells slots : Nat} {Q : State → Prop}
variable {cc bytes : ByteArray} {pc nL k k2 maxL n index : Nat} {ls : Array Slot} {rest st As : List Value} {D : va_G} {cI cZ cN cQ : ClassId} {own : String} {y : MethodName} {ret : Option FieldType} {G : Heap → Prop} {b : Nat}
theorem sv_cwV (X : sv_X D cI cZ cN cQ own cc nL k p R s m args c) (ok : sv_okV own index y bytes maxL ret n) (hk : k2 + 1 ≤ k) : CallW R s args own y.cls index y bytes maxL ret (sv_ws y bytes maxL ret) (sv_rm k2) 0 0 n := by
  obtain ⟨-, -, -, -, hts, -, hf, hlo⟩ := X
  obtain ⟨h1, h2, h3, h4, h5, h6, h7⟩ := ok
  exact ⟨callB_of (Ts := sv_tb) (rm := sv_rm k2) n hts (sv_good (fun w h => h) h1) rfl rfl rfl (hts _ h5) (hts _ h2) h6 ⟨by show k2 + 1 ≤ _; omega, by show 8 + (maxL + 11) + 40 * k2 ≤ _; omega⟩, hts _ h3, hts _ h4⟩
theorem sv_cwS (X : sv_X D cI cZ cN cQ own cc nL k p R s m args c) (ok : sv_okS own index y bytes maxL ret n) (hk : k2 + 1 ≤ k) : CallB R s args own index y bytes maxL ret (sv_ws y bytes maxL ret) (sv_rm k2) 0 0 n ∧ (Cond.static y).before args s = true := by
  obtain ⟨-, -, -, -, hts, -, hf, hlo⟩ := X
  obtain ⟨h1, h2, h3, h5, h6, h7⟩ := ok
  exact ⟨callB_of (Ts := sv_tb) (rm := sv_rm k2) n hts (sv_good (fun w h => h) h1) rfl rfl rfl (hts _ h5) (hts _ h2) h6 ⟨by show k2 + 1 ≤ _; omega, by show 8 + (maxL + 11) + 40 * k2 ≤ _; omega⟩, hts _ h3⟩
/-- a call that changes nothing -/
theorem sv_cV (X : sv_X D cI cZ cN cQ own cc nL k p R s m args c) (ok : sv_okV own index y bytes maxL ret n) {r : Int32} (hM : Met l y (sv_ws y bytes maxL ret) (sv_rm k2) (sv_Pc D cI cZ cN cQ (.ref b :: As) G) (vp_Si (fun x => x = r)) 0 0 (fun _ => False))
    (hG : G H) (hrec : ∃ cellB : Cell, H[b]? = some cellB ∧ cellB.vm.isStatics = false ∧ s.vm.findClass y.cls = some cellB.cls) (hk : k2 + 1 ≤ k) (hn : As.length = n) (hsz : ls.size = nL) (hst : st = As.reverse ++ .ref b :: rest) (hcat : (rest.map fun v => v.category).sum ≤ 8) (hc : cells ≤ R.cells) (hs : slots ≤ R.slots) (hdg : decode cc pc = .ok (.invokevirtual index, 3))
    (kk : W p l e R s m args below meth c H locs cells slots Q (F0 m (pc + 3) ls (.int r :: rest))) : W p l e R s m args below meth c H locs cells slots Q (F0 m pc ls st) := by
  have cw := sv_cwV (k2 := k2) X ok hk
  obtain ⟨hx, hb, hml, hown, hts, hKK, -⟩ := X
  refine vp_callSi (W.runV (As := As) (rest := rest) (Ts := sv_tb) ⟨hx, hb, hml, hown, hts⟩ hM cw ⟨sv_blind, hrec, fun U hU hW => ⟨rfl, sv_KK_warm hW hKK, by rw [hU]; exact hG⟩⟩ rfl hn hsz hst (lv_room hcat) hdg ⟨hc, hs⟩) (fun r' hr' => ?_)
  rw [hr']
  exact kk
theorem sv_cS (X : sv_X D cI cZ cN cQ own cc nL k p R s m args c) (ok : sv_okS own index y bytes maxL ret n) {r : Int32} (hM : Met l y (sv_ws y bytes maxL ret) (sv_rm k2) (sv_Pc D cI cZ cN cQ As G) (vp_Si (fun x => x = r)) 0 0 (fun _ => False))
    (hG : G H) (hk : k2 + 1 ≤ k) (hn : As.length = n) (hsz : ls.size = nL) (hst : st = As.reverse ++ rest) (hcat : (rest.map fun v => v.category).sum ≤ 8) (hc : cells ≤ R.cells) (hs : slots ≤ R.slots) (hdg : decode cc pc = .ok (.invokestatic index, 3))
    (kk : W p l e R s m args below meth c H locs cells slots Q (F0 m (pc + 3) ls (.int r :: rest))) : W p l e R s m args below meth c H locs cells slots Q (F0 m pc ls st) := by
  have cw := sv_cwS (k2 := k2) X ok hk
  obtain ⟨hx, hb, hml, hown, hts, hKK, -⟩ := X
  refine vp_callSi (W.runS (As := As) (rest := rest) (Ts := sv_tb) ⟨hx, hb, hml, hown, hts⟩ hM cw ⟨sv_blind, fun U hU hW => ⟨rfl, sv_KK_warm hW hKK, by rw [hU]; exact hG⟩⟩ rfl hn hsz hst (lv_room hcat) hdg ⟨hc, hs⟩) (fun r' hr' => ?_)
  rw [hr']
  exact kk
/-- the contract of a method that changes nothing, out of its walk -/
theorem sv_mkR {av : List Value} {r : Int32} {ty : FieldType} (hy : plainName y.cls = true) (hav : (lg_sl av).length ≤ maxL) (hn : narrow ty (.int r) = .int r)
    (body : ∀ (p : Program) (e : Env) (s : State) (m : MethodId) (below : List Frame) (meth : Method) (c : Code) (ls : Array Slot) (Q : State → Prop), sv_X D cI cZ cN cQ y.cls bytes maxL k p (sv_rm k) s m av.toArray c → G s.heap → lv_has ls maxL (lv_args 0 av) →
      (∀ (pc : Nat) (ls : Array Slot), decode bytes pc = .ok (.ireturn, 1) → W p l e (sv_rm k) s m av.toArray below meth c s.heap [] 0 0 Q (F0 m pc ls [.int r])) → W p l e (sv_rm k) s m av.toArray below meth c s.heap [] 0 0 Q (F0 m 0 ls [])) :
    Met l y (sv_ws y bytes maxL (some ty)) (sv_rm k) (sv_Pc D cI cZ cN cQ av G) (vp_Si (fun x => x = r)) 0 0 (fun _ => False) := by
  refine Met.ofW (cc := bytes) (maxL := maxL) (ret := some ty) hy rfl ?_
  intro p e s m args below meth c s₁ B hml hv
  obtain ⟨rfl, hKK, hG⟩ := hv
  have hx := B.exec
  have hb := B.bytes
  have hr := B.returns
  have hts := atoms_spec (ws := sv_ws y bytes maxL (some ty)) B.pre
  have hown : s.vm.findClass y.cls = some m.cls := findClass_of_methodNamed B.named
  have hlocks := B.notSynchronized
  have hl := lv_entry av (n := maxL) hav
  rw [lg_entry_eq]
  generalize (lg_sl av ++ List.replicate (maxL - (lg_sl av).length) Slot.unset).toArray = ls at hl ⊢
  exact body p e s m below meth c ls _ ⟨hx, hb, hml, hown, fun w hw => hts w (List.mem_cons_of_mem _ hw), hKK, Nat.le_refl _, Nat.le_refl _⟩ hG hl (fun pc ls hd => W.zret hx hb hr hn (fun t ht hW => ⟨r, rfl, rfl, ht⟩) (fun _ h => by cases h) hd)
end SvCall
section SvTab
variable {p : Program} {l : Launch} {e : Env} {R : Room} {s : State} {m : MethodId} {args : Array Value} {below : List Frame} {meth : Method} {c : Code} {H : Heap} {locs : List Loc} {cells slots : Nat} {Q : State → Prop}
variable {cc : ByteArray} {pc : Nat} {ls : Array Slot} {rest : List Value} {D : va_G} {cl : List vw_C} {A : Nat → Prop} {tys : List (ClassId × FieldType)} {H0 : Heap} {N : Nat} {ad : Nat → Nat} {en : Nat → va_E}
theorem y_iald (hx : p.tables.exec = Jvm.exec) (hb : c.code = cc) (hK : va_K D cl tys s) (hP : va_P D cl (sv_L N ad en) H) {k : Nat} (hk : k < N) (t0 : Nat) {cA : ClassId} {n : Nat} {f : Nat → Int32} (he : en k = .inl (cA, n, .inl f)) (ht : tys[t0]? = some (cA, .int)) {j : Nat} (hj : j < n) (hn : n < 2 ^ 31) (hd : decode cc pc = .ok (.iaload, 1))
    (kk : W p l e R s m args below meth c H locs cells slots Q (F0 m (pc + 1) ls (.int (f j) :: rest))) : W p l e R s m args below meth c H locs cells slots Q (F0 m pc ls (.int (nI j) :: .ref (ad k) :: rest)) :=
  va_iald hx hb hK hP k t0 (by rw [sv_L_at hk, he]) ht (vp_in_nI hj hn) hd (by rw [nI_clamp (by omega)]; exact kk)
theorem y_zald (hx : p.tables.exec = Jvm.exec) (hb : c.code = cc) (hK : va_K D cl tys s) (hP : va_P D cl (sv_L N ad en) H) {k : Nat} (hk : k < N) (t0 : Nat) {cA : ClassId} {n : Nat} {f : Nat → Int32} (he : en k = .inl (cA, n, .inl f)) (ht : tys[t0]? = some (cA, .boolean)) {j : Nat} (hj : j < n) (hn : n < 2 ^ 31) (hd : decode cc pc = .ok (.baload, 1))
    (kk : W p l e R s m args below meth c H locs cells slots Q (F0 m (pc + 1) ls (.int (f j) :: rest))) : W p l e R s m args below meth c H locs cells slots Q (F0 m pc ls (.int (nI j) :: .ref (ad k) :: rest)) :=
  va_zald hx hb hK hP k t0 (by rw [sv_L_at hk, he]) ht (vp_in_nI hj hn) hd (by rw [nI_clamp (by omega)]; exact kk)
theorem y_aald (hx : p.tables.exec = Jvm.exec) (hb : c.code = cc) (hK : va_K D cl tys s) (hP : va_P D cl (sv_L N ad en) H) {k : Nat} (hk : k < N) (t0 : Nat) {cA : ClassId} {C : String} {n : Nat} {f : Nat → Option Nat} (he : en k = .inl (cA, n, .inr (.inr (.inr (.inr f))))) (ht : tys[t0]? = some (cA, .object C)) {j : Nat} (hj : j < n) (hn : n < 2 ^ 31) {v : Value} (hv : va_rf (f j) = v) (hd : decode cc pc = .ok (.aaload, 1))
    (kk : W p l e R s m args below meth c H locs cells slots Q (F0 m (pc + 1) ls (v :: rest))) : W p l e R s m args below meth c H locs cells slots Q (F0 m pc ls (.int (nI j) :: .ref (ad k) :: rest)) :=
  va_aldq hx hb hK hP k t0 (by rw [sv_L_at hk, he]) ht (vp_in_nI hj hn) hd (by rw [nI_clamp (by omega), hv]; exact kk)
theorem y_alen (hx : p.tables.exec = Jvm.exec) (hb : c.code = cc) (hK : va_K D cl tys s) (hP : va_P D cl (sv_L N ad en) H) {k : Nat} (hk : k < N) (t0 : Nat) {cA : ClassId} {x : vp_A} (he : en k = .inl (cA, x)) {ty : FieldType} (ht : tys[t0]? = some (cA, ty)) (hd : decode cc pc = .ok (.arraylength, 1))
    (kk : W p l e R s m args below meth c H locs cells slots Q (F0 m (pc + 1) ls (.int (nI x.1) :: rest))) : W p l e R s m args below meth c H locs cells slots Q (F0 m pc ls (.ref (ad k) :: rest)) :=
  va_alen hx hb hK hP k t0 (by rw [sv_L_at hk, he]) ht rfl hd kk
theorem y_iast (hx : p.tables.exec = Jvm.exec) (hb : c.code = cc) (hK : va_K D cl tys s) (hP : va_P D cl (sv_L N ad en) H) (hD : va_D A (sv_L N ad en)) (hS : va_S A H0 H locs) {k : Nat} (hk : k < N) (t0 : Nat) {cA : ClassId} {n : Nat} {f : Nat → Int32} (he : en k = .inl (cA, n, .inl f)) (ht : tys[t0]? = some (cA, .int)) {j : Nat} (hj : j < n) (hn : n < 2 ^ 31) {x : Int32} (hd : decode cc pc = .ok (.iastore, 1))
    (kk : ∀ (H1 : Heap) (locs1 : List Loc), va_P D cl (sv_L N ad (va_up en k (.inl (cA, n, .inl (upd f j x))))) H1 → va_S A H0 H1 locs1 → W p l e R s m args below meth c H1 locs1 cells slots Q (F0 m (pc + 1) ls rest)) : W p l e R s m args below meth c H locs cells slots Q (F0 m pc ls (.int x :: .int (nI j) :: .ref (ad k) :: rest)) :=
  va_iast hx hb hK hP hD hS k t0 (by rw [sv_L_at hk, he]) ht (vp_in_nI hj hn) hd (fun H1 locs1 h1 _ h3 => kk H1 locs1 (by rw [nI_clamp (by omega), sv_L_set hk] at h1; exact h1) h3)
theorem sv_nar_b (b : Bool) : vp_nar .boolean (sv_b b) = sv_b b := by cases b <;> rfl
theorem y_zast (hx : p.tables.exec = Jvm.exec) (hb : c.code = cc) (hK : va_K D cl tys s) (hP : va_P D cl (sv_L N ad en) H) (hD : va_D A (sv_L N ad en)) (hS : va_S A H0 H locs) {k : Nat} (hk : k < N) (t0 : Nat) {cA : ClassId} {n : Nat} {f : Nat → Int32} (he : en k = .inl (cA, n, .inl f)) (ht : tys[t0]? = some (cA, .boolean)) {j : Nat} (hj : j < n) (hn : n < 2 ^ 31) {B : Bool} (hd : decode cc pc = .ok (.bastore, 1))
    (kk : ∀ (H1 : Heap) (locs1 : List Loc), va_P D cl (sv_L N ad (va_up en k (.inl (cA, n, .inl (upd f j (sv_b B)))))) H1 → va_S A H0 H1 locs1 → W p l e R s m args below meth c H1 locs1 cells slots Q (F0 m (pc + 1) ls rest)) : W p l e R s m args below meth c H locs cells slots Q (F0 m pc ls (.int (sv_b B) :: .int (nI j) :: .ref (ad k) :: rest)) :=
  va_zast hx hb hK hP hD hS k t0 (by rw [sv_L_at hk, he]) ht (vp_in_nI hj hn) hd (fun H1 locs1 h1 _ h3 => kk H1 locs1 (by rw [nI_clamp (by omega), sv_nar_b, sv_L_set hk] at h1; exact h1) h3)
theorem y_aast (hx : p.tables.exec = Jvm.exec) (hb : c.code = cc) (hK : va_K D cl tys s) (hP : va_P D cl (sv_L N ad en) H) (hD : va_D A (sv_L N ad en)) (hS : va_S A H0 H locs) {k k2 : Nat} (hk : k < N) (hk2 : k2 < N) (t0 ci : Nat) {cA : ClassId} {r : vw_C} {n : Nat} {vs : List Value} {f : Nat → Option Nat} (he : en k = .inl (cA, n, .inr (.inr (.inr (.inr f))))) (ht : tys[t0]? = some (cA, .object r.1)) (he2 : en k2 = .inr (ci, vs)) (hc : cl[ci]? = some r) {j : Nat} (hj : j < n) (hn : n < 2 ^ 31) (hd : decode cc pc = .ok (.aastore, 1))
    (kk : ∀ (H1 : Heap) (locs1 : List Loc), va_P D cl (sv_L N ad (va_up en k (.inl (cA, n, .inr (.inr (.inr (.inr (va_up f j (some (ad k2)))))))))) H1 → va_S A H0 H1 locs1 → W p l e R s m args below meth c H1 locs1 cells slots Q (F0 m (pc + 1) ls rest)) : W p l e R s m args below meth c H locs cells slots Q (F0 m pc ls (.ref (ad k2) :: .int (nI j) :: .ref (ad k) :: rest)) :=
  va_astq hx hb hK hP hD hS k t0 k2 ci (by rw [sv_L_at hk, he]) ht (by rw [sv_L_at hk2, he2]) hc (vp_in_nI hj hn) hd (fun H1 locs1 h1 _ h3 => kk H1 locs1 (by rw [nI_clamp (by omega), sv_L_set hk] at h1; exact h1) h3)
/-! fields: of the method's own class, and of a nest mate -/
theorem y_get (hx : p.tables.exec = Jvm.exec) (hb : c.code = cc) {own C : String} {T : u_T} {M ci index : Nat} {Ts : List Cond} (hts : ∀ w ∈ Ts, w.before args s = true) (hin : ∀ w ∈ u_ws C T M, w ∈ Ts) (hown : s.vm.findClass own = some m.cls) (hK : va_K D cl tys s) (hP : va_P D cl (sv_L N ad en) H) {k : Nat} (hk : k < N) {fs : List Value} (he : en k = .inr (ci, fs)) (hc : cl[ci]? = some (C, T, M)) (f : Nat) (hf : f < M) (hlink : (Cond.fieldLink own index (T f).1 (T f).2.1 (T f).2.2.1) ∈ Ts) {v : Value} (hv : fs[f]? = some v) (hd : decode cc pc = .ok (.getfield index, 3))
    (kk : W p l e R s m args below meth c H locs cells slots Q (F0 m (pc + 3) ls (v :: rest))) : W p l e R s m args below meth c H locs cells slots Q (F0 m pc ls (.ref (ad k) :: rest)) :=
  va_get hx hb hts hin hown hK hP k (by rw [sv_L_at hk, he]) hc f hf (hts _ hlink) (fun _ h => h) hv hd kk
theorem y_getN (hx : p.tables.exec = Jvm.exec) (hb : c.code = cc) {own C host : String} {T : u_T} {M ci index : Nat} {Ts Ns : List Cond} (hts : ∀ w ∈ Ts, w.before args s = true) (hNs : ∀ w ∈ Ns, va_Nw w s) (hin : ∀ w ∈ u_ws C T M, w ∈ Ts) (hown : s.vm.findClass own = some m.cls) (hK : va_K D cl tys s) (hP : va_P D cl (sv_L N ad en) H) {k : Nat} (hk : k < N) {fs : List Value} (he : en k = .inr (ci, fs)) (hc : cl[ci]? = some (C, T, M)) (f : Nat) (hf : f < M) (hlink : (Cond.fieldLinkNest own index (T f).1 (T f).2.1 (T f).2.2.1 host) ∈ Ns) {v : Value} (hv : fs[f]? = some v) (hd : decode cc pc = .ok (.getfield index, 3))
    (kk : W p l e R s m args below meth c H locs cells slots Q (F0 m (pc + 3) ls (v :: rest))) : W p l e R s m args below meth c H locs cells slots Q (F0 m pc ls (.ref (ad k) :: rest)) :=
  va_getN hx hb hts hin hown hK hP k (by rw [sv_L_at hk, he]) hc f hf (va_Nw.use rfl (hNs _ hlink)) (fun _ h => h) hv hd kk
theorem y_put (hx : p.tables.exec = Jvm.exec) (hb : c.code = cc) {own C : String} {T : u_T} {M ci index : Nat} {Ts : List Cond} (hts : ∀ w ∈ Ts, w.before args s = true) (hin : ∀ w ∈ u_ws C T M, w ∈ Ts) (ty0 : Nat → FieldType) (hty : ∀ k, k < M → parseFieldDescriptor (T k).2.2.1 = some (ty0 k)) (hnm : ∀ a, a < M → ∀ b, b < M → a ≠ b → (T a).2.1 ≠ (T b).2.1) (hown : s.vm.findClass own = some m.cls) (hK : va_K D cl tys s) (hP : va_P D cl (sv_L N ad en) H) (hD : va_D A (sv_L N ad en)) (hS : va_S A H0 H locs) {k : Nat} (hk : k < N) {fs : List Value} (he : en k = .inr (ci, fs)) (hc : cl[ci]? = some (C, T, M)) (f : Nat) (hf : f < M) (hlink : (Cond.fieldLink own index (T f).1 (T f).2.1 (T f).2.2.1) ∈ Ts) (hfin : (T f).2.2.2 = false) {ty : FieldType} {v : Value} (hdes : parseFieldDescriptor (T f).2.2.1 = some ty) (hnr : narrow ty v = v) (hfit : fits ty v = true) (hl : f < fs.length) (hd : decode cc pc = .ok (.putfield index, 3))
    (kk : ∀ (H1 : Heap) (locs1 : List Loc), va_P D cl (sv_L N ad (va_up en k (.inr (ci, fs.set f v)))) H1 → va_S A H0 H1 locs1 → W p l e R s m args below meth c H1 locs1 cells slots Q (F0 m (pc + 3) ls rest)) : W p l e R s m args below meth c H locs cells slots Q (F0 m pc ls (v :: .ref (ad k) :: rest)) :=
  va_put hx hb hts hin ty0 hty hnm hown hK hP hD hS k (by rw [sv_L_at hk, he]) hc f hf (hts _ hlink) (fun _ h => h) hfin hdes hnr hfit hl hd (fun H1 locs1 h1 _ h3 => kk H1 locs1 (by rw [sv_L_set hk] at h1; exact h1) h3)
theorem y_putN (hx : p.tables.exec = Jvm.exec) (hb : c.code = cc) {own C host : String} {T : u_T} {M ci index : Nat} {Ts Ns : List Cond} (hts : ∀ w ∈ Ts, w.before args s = true) (hNs : ∀ w ∈ Ns, va_Nw w s) (hin : ∀ w ∈ u_ws C T M, w ∈ Ts) (ty0 : Nat → FieldType) (hty : ∀ k, k < M → parseFieldDescriptor (T k).2.2.1 = some (ty0 k)) (hnm : ∀ a, a < M → ∀ b, b < M → a ≠ b → (T a).2.1 ≠ (T b).2.1) (hown : s.vm.findClass own = some m.cls) (hK : va_K D cl tys s) (hP : va_P D cl (sv_L N ad en) H) (hD : va_D A (sv_L N ad en)) (hS : va_S A H0 H locs) {k : Nat} (hk : k < N) {fs : List Value} (he : en k = .inr (ci, fs)) (hc : cl[ci]? = some (C, T, M)) (f : Nat) (hf : f < M) (hlink : (Cond.fieldLinkNest own index (T f).1 (T f).2.1 (T f).2.2.1 host) ∈ Ns) (hfin : (T f).2.2.2 = false) {ty : FieldType} {v : Value} (hdes : parseFieldDescriptor (T f).2.2.1 = some ty) (hnr : narrow ty v = v) (hfit : fits ty v = true) (hl : f < fs.length) (hd : decode cc pc = .ok (.putfield index, 3))
    (kk : ∀ (H1 : Heap) (locs1 : List Loc), va_P D cl (sv_L N ad (va_up en k (.inr (ci, fs.set f v)))) H1 → va_S A H0 H1 locs1 → W p l e R s m args below meth c H1 locs1 cells slots Q (F0 m (pc + 3) ls rest)) : W p l e R s m args below meth c H locs cells slots Q (F0 m pc ls (v :: .ref (ad k) :: rest)) :=
  va_putN hx hb hts hin ty0 hty hnm hown hK hP hD hS k (by rw [sv_L_at hk, he]) hc f hf (va_Nw.use rfl (hNs _ hlink)) (fun _ h => h) hfin hdes hnr hfit hl hd (fun H1 locs1 h1 _ h3 => kk H1 locs1 (by rw [sv_L_set hk] at h1; exact h1) h3)
theorem y_rec {s : State} {H : Heap} {D : va_G} {cl : List vw_C} {tys : List (ClassId × FieldType)} {N : Nat} {ad : Nat → Nat} {en : Nat → va_E} (hK : va_K D cl tys s) (hP : va_P D cl (sv_L N ad en) H) {k ci : Nat} (hk : k < N) {fs : List Value} {q : vw_C} (he : en k = .inr (ci, fs)) (hc : cl[ci]? = some q) : ∃ cell : Cell, H[ad k]? = some cell ∧ cell.vm.isStatics = false ∧ s.vm.findClass q.1 = some cell.cls :=
  va_recv hK hP hc (q0 := k) (by rw [sv_L_at hk, he])
end SvTab
section SvWr
variable {p : Program} {l : Launch} {e : Env} {R : Room} {s : State} {m : MethodId} {args : Array Value} {below : List Frame} {meth : Method} {c : Code} {H H0 : Heap} {locs : List Loc} {cells slots : Nat} {Q : State → Prop}
variable {cc bytes : ByteArray} {pc nL k k2 maxL n index : Nat} {ls : Array Slot} {rest st As : List Value} {D : va_G} {cI cZ cN cQ : ClassId} {own : String} {y : MethodName} {ret : Option FieldType} {G : Heap → Prop} {b : Nat} {A : Nat → Prop} {S : Type}
/-- calls that write: an int comes back, or nothing -/
theorem sv_wVi (X : sv_X D cI cZ cN cQ own cc nL k p R s m args c) (ok : sv_okV own index y bytes maxL ret n) {post : Int32 → S → Prop} {B : S → Heap → Prop} (hM : Met l y (sv_ws y bytes maxL ret) (sv_rm k2) (sv_Pc D cI cZ cN cQ (.ref b :: As) G) (va_Qi post (fun u t => B u t.heap) A) 0 0 A)
    (hG : G H) (hrec : ∃ cellB : Cell, H[b]? = some cellB ∧ cellB.vm.isStatics = false ∧ s.vm.findClass y.cls = some cellB.cls) (hS : va_S A H0 H locs) (hk : k2 + 1 ≤ k) (hn : As.length = n) (hsz : ls.size = nL) (hst : st = As.reverse ++ .ref b :: rest) (hcat : (rest.map fun v => v.category).sum ≤ 8) (hc : cells ≤ R.cells) (hs : slots ≤ R.slots) (hdg : decode cc pc = .ok (.invokevirtual index, 3))
    (kk : ∀ (r : Int32) (u : S) (H1 : Heap) (locs1 : List Loc), post r u → B u H1 → va_S A H0 H1 locs1 → W p l e R s m args below meth c H1 locs1 cells slots Q (F0 m (pc + 3) ls (.int r :: rest))) : W p l e R s m args below meth c H locs cells slots Q (F0 m pc ls st) := by
  have cw := sv_cwV (k2 := k2) X ok hk
  obtain ⟨hx, hb, hml, hown, hts, hKK, -⟩ := X
  exact va_calli (va_runV (As := As) (rest := rest) (Ts := sv_tb) ⟨hx, hb, hml, hown, hts⟩ hM cw ⟨sv_blind, hrec, fun U hU hW => ⟨rfl, sv_KK_warm hW hKK, by rw [hU]; exact hG⟩⟩ rfl hn hsz hst (lv_room hcat) hdg ⟨hc, hs⟩) hS (fun q _ h => h) (fun q h => h) (fun r u t H1 locs1 ht _ hp hB _ _ hS1 => kk r u H1 locs1 hp (by rw [← ht]; exact hB) hS1)
theorem sv_wVv (X : sv_X D cI cZ cN cQ own cc nL k p R s m args c) (ok : sv_okV own index y bytes maxL ret n) {post : S → Prop} {B : S → Heap → Prop} (hM : Met l y (sv_ws y bytes maxL ret) (sv_rm k2) (sv_Pc D cI cZ cN cQ (.ref b :: As) G) (va_Qv post (fun u t => B u t.heap) A) 0 0 A)
    (hG : G H) (hrec : ∃ cellB : Cell, H[b]? = some cellB ∧ cellB.vm.isStatics = false ∧ s.vm.findClass y.cls = some cellB.cls) (hS : va_S A H0 H locs) (hk : k2 + 1 ≤ k) (hn : As.length = n) (hsz : ls.size = nL) (hst : st = As.reverse ++ .ref b :: rest) (hcat : (rest.map fun v => v.category).sum ≤ 8) (hc : cells ≤ R.cells) (hs : slots ≤ R.slots) (hdg : decode cc pc = .ok (.invokevirtual index, 3))
    (kk : ∀ (u : S) (H1 : Heap) (locs1 : List Loc), post u → B u H1 → va_S A H0 H1 locs1 → W p l e R s m args below meth c H1 locs1 cells slots Q (F0 m (pc + 3) ls rest)) : W p l e R s m args below meth c H locs cells slots Q (F0 m pc ls st) := by
  have cw := sv_cwV (k2 := k2) X ok hk
  obtain ⟨hx, hb, hml, hown, hts, hKK, -⟩ := X
  exact va_callv (va_runV (As := As) (rest := rest) (Ts := sv_tb) ⟨hx, hb, hml, hown, hts⟩ hM cw ⟨sv_blind, hrec, fun U hU hW => ⟨rfl, sv_KK_warm hW hKK, by rw [hU]; exact hG⟩⟩ rfl hn hsz hst (lv_room hcat) hdg ⟨hc, hs⟩) hS (fun q _ h => h) (fun q h => h) (fun u t H1 locs1 ht _ hp hB _ _ hS1 => kk u H1 locs1 hp (by rw [← ht]; exact hB) hS1)
theorem sv_wSi (X : sv_X D cI cZ cN cQ own cc nL k p R s m args c) (ok : sv_okS own index y bytes maxL ret n) {post : Int32 → S → Prop} {B : S → Heap → Prop} (hM : Met l y (sv_ws y bytes maxL ret) (sv_rm k2) (sv_Pc D cI cZ cN cQ As G) (va_Qi post (fun u t => B u t.heap) A) 0 0 A)
    (hG : G H) (hS : va_S A H0 H locs) (hk : k2 + 1 ≤ k) (hn : As.length = n) (hsz : ls.size = nL) (hst : st = As.reverse ++ rest) (hcat : (rest.map fun v => v.category).sum ≤ 8) (hc : cells ≤ R.cells) (hs : slots ≤ R.slots) (hdg : decode cc pc = .ok (.invokestatic index, 3))
    (kk : ∀ (r : Int32) (u : S) (H1 : Heap) (locs1 : List Loc), post r u → B u H1 → va_S A H0 H1 locs1 → W p l e R s m args below meth c H1 locs1 cells slots Q (F0 m (pc + 3) ls (.int r :: rest))) : W p l e R s m args below meth c H locs cells slots Q (F0 m pc ls st) := by
  have cw := sv_cwS (k2 := k2) X ok hk
  obtain ⟨hx, hb, hml, hown, hts, hKK, -⟩ := X
  exact va_calli (va_runS (As := As) (rest := rest) (Ts := sv_tb) ⟨hx, hb, hml, hown, hts⟩ hM cw ⟨sv_blind, fun U hU hW => ⟨rfl, sv_KK_warm hW hKK, by rw [hU]; exact hG⟩⟩ rfl hn hsz hst (lv_room hcat) hdg ⟨hc, hs⟩) hS (fun q _ h => h) (fun q h => h) (fun r u t H1 locs1 ht _ hp hB _ _ hS1 => kk r u H1 locs1 hp (by rw [← ht]; exact hB) hS1)
theorem sv_wSv (X : sv_X D cI cZ cN cQ own cc nL k p R s m args c) (ok : sv_okS own index y bytes maxL ret n) {post : S → Prop} {B : S → Heap → Prop} (hM : Met l y (sv_ws y bytes maxL ret) (sv_rm k2) (sv_Pc D cI cZ cN cQ As G) (va_Qv post (fun u t => B u t.heap) A) 0 0 A)
    (hG : G H) (hS : va_S A H0 H locs) (hk : k2 + 1 ≤ k) (hn : As.length = n) (hsz : ls.size = nL) (hst : st = As.reverse ++ rest) (hcat : (rest.map fun v => v.category).sum ≤ 8) (hc : cells ≤ R.cells) (hs : slots ≤ R.slots) (hdg : decode cc pc = .ok (.invokestatic index, 3))
    (kk : ∀ (u : S) (H1 : Heap) (locs1 : List Loc), post u → B u H1 → va_S A H0 H1 locs1 → W p l e R s m args below meth c H1 locs1 cells slots Q (F0 m (pc + 3) ls rest)) : W p l e R s m args below meth c H locs cells slots Q (F0 m pc ls st) := by
  have cw := sv_cwS (k2 := k2) X ok hk
  obtain ⟨hx, hb, hml, hown, hts, hKK, -⟩ := X
  exact va_callv (va_runS (As := As) (rest := rest) (Ts := sv_tb) ⟨hx, hb, hml, hown, hts⟩ hM cw ⟨sv_blind, fun U hU hW => ⟨rfl, sv_KK_warm hW hKK, by rw [hU]; exact hG⟩⟩ rfl hn hsz hst (lv_room hcat) hdg ⟨hc, hs⟩) hS (fun q _ h => h) (fun q h => h) (fun u t H1 locs1 ht _ hp hB _ _ hS1 => kk u H1 locs1 hp (by rw [← ht]; exact hB) hS1)
/-- the contract of a method that writes, out of its walk -/
theorem sv_mkI {av : List Value} {ty : FieldType} {post : Int32 → S → Prop} {B : S → Heap → Prop} (hy : plainName y.cls = true) (hav : (lg_sl av).length ≤ maxL) (hn : ∀ r u, post r u → narrow ty (.int r) = .int r)
    (body : ∀ (p : Program) (e : Env) (s : State) (m : MethodId) (below : List Frame) (meth : Method) (c : Code) (ls : Array Slot) (Q : State → Prop), sv_X D cI cZ cN cQ y.cls bytes maxL k p (sv_rm k) s m av.toArray c → G s.heap → lv_has ls maxL (lv_args 0 av) →
      (∀ (pc : Nat) (ls : Array Slot) (r : Int32) (u : S) (H : Heap) (locs : List Loc), decode bytes pc = .ok (.ireturn, 1) → va_S A s.heap H locs → post r u → B u H → W p l e (sv_rm k) s m av.toArray below meth c H locs 0 0 Q (F0 m pc ls [.int r])) → W p l e (sv_rm k) s m av.toArray below meth c s.heap [] 0 0 Q (F0 m 0 ls [])) :
    Met l y (sv_ws y bytes maxL (some ty)) (sv_rm k) (sv_Pc D cI cZ cN cQ av G) (va_Qi post (fun u t => B u t.heap) A) 0 0 A := by
  refine Met.ofW (cc := bytes) (maxL := maxL) (ret := some ty) hy rfl ?_
  intro p e s m args below meth c s₁ B0 hml hv
  obtain ⟨rfl, hKK, hG⟩ := hv
  have hx := B0.exec
  have hb := B0.bytes
  have hr := B0.returns
  have hts := atoms_spec (ws := sv_ws y bytes maxL (some ty)) B0.pre
  have hown : s.vm.findClass y.cls = some m.cls := findClass_of_methodNamed B0.named
  have hlocks := B0.notSynchronized
  have hl := lv_entry av (n := maxL) hav
  rw [lg_entry_eq]
  generalize (lg_sl av ++ List.replicate (maxL - (lg_sl av).length) Slot.unset).toArray = ls at hl ⊢
  exact body p e s m below meth c ls _ ⟨hx, hb, hml, hown, fun w hw => hts w (List.mem_cons_of_mem _ hw), hKK, Nat.le_refl _, Nat.le_refl _⟩ hG hl (fun pc ls r u H locs hd hS hp hB => W.zret hx hb hr (hn r u hp) (fun t ht hW => ⟨⟨r, u, rfl, hp, by show B u t.heap; rw [ht]; exact hB⟩, hS.F ht⟩) hS.2.2 hd)
theorem sv_mkV {av : List Value} {post : S → Prop} {B : S → Heap → Prop} (hy : plainName y.cls = true) (hav : (lg_sl av).length ≤ maxL)
    (body : ∀ (p : Program) (e : Env) (s : State) (m : MethodId) (below : List Frame) (meth : Method) (c : Code) (ls : Array Slot) (Q : State → Prop), sv_X D cI cZ cN cQ y.cls bytes maxL k p (sv_rm k) s m av.toArray c → G s.heap → lv_has ls maxL (lv_args 0 av) →
      (∀ (pc : Nat) (ls : Array Slot) (u : S) (H : Heap) (locs : List Loc), decode bytes pc = .ok (.return_, 1) → va_S A s.heap H locs → post u → B u H → W p l e (sv_rm k) s m av.toArray below meth c H locs 0 0 Q (F0 m pc ls [])) → W p l e (sv_rm k) s m av.toArray below meth c s.heap [] 0 0 Q (F0 m 0 ls [])) :
    Met l y (sv_ws y bytes maxL none) (sv_rm k) (sv_Pc D cI cZ cN cQ av G) (va_Qv post (fun u t => B u t.heap) A) 0 0 A := by
  refine Met.ofW (cc := bytes) (maxL := maxL) (ret := none) hy rfl ?_
  intro p e s m args below meth c s₁ B0 hml hv
  obtain ⟨rfl, hKK, hG⟩ := hv
  have hx := B0.exec
  have hb := B0.bytes
  have hr := B0.returns
  have hts := atoms_spec (ws := sv_ws y bytes maxL none) B0.pre
  have hown : s.vm.findClass y.cls = some m.cls := findClass_of_methodNamed B0.named
  have hlocks := B0.notSynchronized
  have hl := lv_entry av (n := maxL) hav
  rw [lg_entry_eq]
  generalize (lg_sl av ++ List.replicate (maxL - (lg_sl av).length) Slot.unset).toArray = ls at hl ⊢
  exact body p e s m below meth c ls _ ⟨hx, hb, hml, hown, fun w hw => hts w (List.mem_cons_of_mem _ hw), hKK, Nat.le_refl _, Nat.le_refl _⟩ hG hl (fun pc ls u H locs hd hS hp hB => W.vret hx hb hr (fun t ht hW => ⟨⟨u, rfl, hp, by show B u t.heap; rw [ht]; exact hB⟩, hS.F ht⟩) hS.2.2 hd)
end SvWr
end
section
theorem in_S : ∀ w ∈ u_ws R_S T_S 6, w ∈ sv_tb := List.forall_mem_cons.mpr ⟨sv_tb_t 74 rfl rfl, List.forall_mem_cons.mpr ⟨sv_tb_t 76 rfl rfl, List.forall_mem_cons.mpr ⟨sv_tb_t 78 rfl rfl, List.forall_mem_cons.mpr ⟨sv_tb_t 80 rfl rfl, List.forall_mem_cons.mpr ⟨sv_tb_t 82 rfl rfl, List.forall_mem_cons.mpr ⟨sv_tb_t 84 rfl rfl, fun _ h => absurd h List.not_mem_nil⟩⟩⟩⟩⟩⟩
theorem in_N : ∀ w ∈ u_ws R_N T_N 9, w ∈ sv_tb := List.forall_mem_cons.mpr ⟨sv_tb_t 46 rfl rfl, List.forall_mem_cons.mpr ⟨sv_tb_t 48 rfl rfl, List.forall_mem_cons.mpr ⟨sv_tb_t 50 rfl rfl, List.forall_mem_cons.mpr ⟨sv_tb_t 52 rfl rfl, List.forall_mem_cons.mpr ⟨sv_tb_t 54 rfl rfl, List.forall_mem_cons.mpr ⟨sv_tb_t 56 rfl rfl, List.forall_mem_cons.mpr ⟨sv_tb_t 58 rfl rfl, List.forall_mem_cons.mpr ⟨sv_tb_t 60 rfl rfl, List.forall_mem_cons.mpr ⟨sv_tb_t 62 rfl rfl, fun _ h => absurd h List.not_mem_nil⟩⟩⟩⟩⟩⟩⟩⟩⟩
theorem in_Q : ∀ w ∈ u_ws R_Q T_Q 6, w ∈ sv_tb := List.forall_mem_cons.mpr ⟨sv_tb_t 116 rfl rfl, List.forall_mem_cons.mpr ⟨sv_tb_t 118 rfl rfl, List.forall_mem_cons.mpr ⟨sv_tb_t 120 rfl rfl, List.forall_mem_cons.mpr ⟨sv_tb_t 122 rfl rfl, List.forall_mem_cons.mpr ⟨sv_tb_t 124 rfl rfl, List.forall_mem_cons.mpr ⟨sv_tb_t 126 rfl rfl, fun _ h => absurd h List.not_mem_nil⟩⟩⟩⟩⟩⟩
theorem in_M : ∀ w ∈ u_ws R_M T_M 19, w ∈ sv_tb := List.forall_mem_cons.mpr ⟨sv_tb_t 331 rfl rfl, List.forall_mem_cons.mpr ⟨sv_tb_t 333 rfl rfl, List.forall_mem_cons.mpr ⟨sv_tb_t 335 rfl rfl, List.forall_mem_cons.mpr ⟨sv_tb_t 337 rfl rfl, List.forall_mem_cons.mpr ⟨sv_tb_t 339 rfl rfl, List.forall_mem_cons.mpr ⟨sv_tb_t 341 rfl rfl, List.forall_mem_cons.mpr ⟨sv_tb_t 343 rfl rfl, List.forall_mem_cons.mpr ⟨sv_tb_t 345 rfl rfl, List.forall_mem_cons.mpr ⟨sv_tb_t 347 rfl rfl, List.forall_mem_cons.mpr ⟨sv_tb_t 349 rfl rfl, List.forall_mem_cons.mpr ⟨sv_tb_t 351 rfl rfl, List.forall_mem_cons.mpr ⟨sv_tb_t 353 rfl rfl, List.forall_mem_cons.mpr ⟨sv_tb_t 355 rfl rfl, List.forall_mem_cons.mpr ⟨sv_tb_t 357 rfl rfl, List.forall_mem_cons.mpr ⟨sv_tb_t 359 rfl rfl, List.forall_mem_cons.mpr ⟨sv_tb_t 361 rfl rfl, List.forall_mem_cons.mpr ⟨sv_tb_t 363 rfl rfl, List.forall_mem_cons.mpr ⟨sv_tb_t 365 rfl rfl, List.forall_mem_cons.mpr ⟨sv_tb_t 367 rfl rfl, fun _ h => absurd h List.not_mem_nil⟩⟩⟩⟩⟩⟩⟩⟩⟩⟩⟩⟩⟩⟩⟩⟩⟩⟩⟩
abbrev sv_cP (D : va_G) (cI cN cQ : ClassId) (n qc : Nat) (ad : Nat → Nat) (σ : Sg) (H : Heap) : Prop := va_P D vwCl (sv_L (3 + 3 * n + qc) ad (sv_ce cI cN cQ n qc ad σ)) H
abbrev sv_mP (D : va_G) (cI cZ : ClassId) (n qc : Nat) (ad : Nat → Nat) (σ : Sg) (mt qm : Nat → Int32) (H : Heap) : Prop := va_P D vwCl (sv_L 17 ad (sv_me cI cZ n qc ad σ mt qm)) H
theorem sv_X.hts {D : va_G} {cI cZ cN cQ : ClassId} {own : String} {cc : ByteArray} {nL k : Nat} {p : Program} {R : Room} {s : State} {m : MethodId} {args : Array Value} {c : Code} (X : sv_X D cI cZ cN cQ own cc nL k p R s m args c) : ∀ w ∈ sv_tb, w.before args s = true := X.2.2.2.2.1
theorem sv_X.K {D : va_G} {cI cZ cN cQ : ClassId} {own : String} {cc : ByteArray} {nL k : Nat} {p : Program} {R : Room} {s : State} {m : MethodId} {args : Array Value} {c : Code} (X : sv_X D cI cZ cN cQ own cc nL k p R s m args c) : va_K D vwCl (sv_tys cI cZ cN cQ) s := X.2.2.2.2.2.1.1
theorem sv_X.Ns {D : va_G} {cI cZ cN cQ : ClassId} {own : String} {cc : ByteArray} {nL k : Nat} {p : Program} {R : Room} {s : State} {m : MethodId} {args : Array Value} {c : Code} (X : sv_X D cI cZ cN cQ own cc nL k p R s m args c) : ∀ w ∈ sv_nst, va_Nw w s := X.2.2.2.2.2.1.2.1
theorem sv_X.own {D : va_G} {cI cZ cN cQ : ClassId} {own : String} {cc : ByteArray} {nL k : Nat} {p : Program} {R : Room} {s : State} {m : MethodId} {args : Array Value} {c : Code} (X : sv_X D cI cZ cN cQ own cc nL k p R s m args c) : s.vm.findClass own = some m.cls := X.2.2.2.1
theorem sv_mP_sg {D : va_G} {cI cZ : ClassId} {n qc : Nat} {ad : Nat → Nat} {σ : Sg} {mt qm : Nat → Int32} {H : Heap} {k i : Nat} {x : Int32} (h0 : k ≠ 0) (h6 : k ≠ 6) (h16 : k ≠ 16) (h : va_P D vwCl (sv_L 17 ad (va_up (sv_me cI cZ n qc ad σ mt qm) k (.inl (sv_mc cI cZ k, sv_len k, .inl (upd (sv_mf σ mt qm k) i x))))) H) : sv_mP D cI cZ n qc ad (sg σ (k + 2) i x) mt qm H := by
  have e : sv_mf σ mt qm k = σ (k + 2) := by
    unfold sv_mf
    rw [if_neg h6, if_neg h16]
  rw [e, sv_L_congr (en' := sv_me cI cZ n qc ad (sg σ (k + 2) i x) mt qm) (fun k' _ => sv_me_sg h0 h6 h16 k')] at h
  exact h
theorem sv_mP_mt {D : va_G} {cI cZ : ClassId} {n qc : Nat} {ad : Nat → Nat} {σ : Sg} {mt qm : Nat → Int32} {H : Heap} {i : Nat} {x : Int32} (h : va_P D vwCl (sv_L 17 ad (va_up (sv_me cI cZ n qc ad σ mt qm) 6 (.inl (sv_mc cI cZ 6, sv_len 6, .inl (upd (sv_mf σ mt qm 6) i x))))) H) : sv_mP D cI cZ n qc ad σ (upd mt i x) qm H := by
  have h2 : va_P D vwCl (sv_L 17 ad (va_up (sv_me cI cZ n qc ad σ mt qm) 6 (.inl (cZ, 24, .inl (upd mt i x))))) H := h
  rw [sv_L_congr (en' := sv_me cI cZ n qc ad σ (upd mt i x) qm) (fun k' _ => sv_me_mt k')] at h2
  exact h2
theorem sv_mP_qm {D : va_G} {cI cZ : ClassId} {n qc : Nat} {ad : Nat → Nat} {σ : Sg} {mt qm : Nat → Int32} {H : Heap} {i : Nat} {x : Int32} (h : va_P D vwCl (sv_L 17 ad (va_up (sv_me cI cZ n qc ad σ mt qm) 16 (.inl (sv_mc cI cZ 16, sv_len 16, .inl (upd (sv_mf σ mt qm 16) i x))))) H) : sv_mP D cI cZ n qc ad σ mt (upd qm i x) H := by
  have h2 : va_P D vwCl (sv_L 17 ad (va_up (sv_me cI cZ n qc ad σ mt qm) 16 (.inl (cZ, 64, .inl (upd qm i x))))) H := h
  rw [sv_L_congr (en' := sv_me cI cZ n qc ad σ mt (upd qm i x)) (fun k' _ => sv_me_qm k')] at h2
  exact h2
section SvFld
variable {p : Program} {l : Launch} {e : Env} {R : Room} {s : State} {m : MethodId} {args : Array Value} {below : List Frame} {meth : Method} {c : Code} {H H0 : Heap} {locs : List Loc} {cells slots : Nat} {Q : State → Prop}
variable {cc : ByteArray} {pc nL k : Nat} {ls : Array Slot} {rest : List Value} {D : va_G} {cI cZ cN cQ : ClassId} {n qc : Nat} {ad : Nat → Nat} {σ : Sg} {A : Nat → Prop} {mt qm : Nat → Int32}
theorem gS_nodes (X : sv_X D cI cZ cN cQ "SliceVoting" cc nL k p R s m args c) (hP : sv_cP D cI cN cQ n qc ad σ H) (hd : decode cc pc = .ok (.getfield 20, 3)) (kk : W p l e R s m args below meth c H locs cells slots Q (F0 m (pc + 3) ls (.ref (ad 1) :: rest))) : W p l e R s m args below meth c H locs cells slots Q (F0 m pc ls (.ref (ad 0) :: rest)) :=
  y_get X.1 X.2.1 X.hts in_S X.own X.K hP (by omega) sv_ce_S rfl 0 (by decide) (sv_tb_t 68 rfl rfl) rfl hd kk
theorem gS_everyone (X : sv_X D cI cZ cN cQ "SliceVoting" cc nL k p R s m args c) (hP : sv_cP D cI cN cQ n qc ad σ H) (hd : decode cc pc = .ok (.getfield 27, 3)) (kk : W p l e R s m args below meth c H locs cells slots Q (F0 m (pc + 3) ls (.int (nI (2 ^ n - 1)) :: rest))) : W p l e R s m args below meth c H locs cells slots Q (F0 m pc ls (.ref (ad 0) :: rest)) :=
  y_get X.1 X.2.1 X.hts in_S X.own X.K hP (by omega) sv_ce_S rfl 1 (by decide) (sv_tb_t 69 rfl rfl) rfl hd kk
theorem gS_quotas (X : sv_X D cI cZ cN cQ "SliceVoting" cc nL k p R s m args c) (hP : sv_cP D cI cN cQ n qc ad σ H) (hd : decode cc pc = .ok (.getfield 33, 3)) (kk : W p l e R s m args below meth c H locs cells slots Q (F0 m (pc + 3) ls (.ref (ad (2 + 3 * n)) :: rest))) : W p l e R s m args below meth c H locs cells slots Q (F0 m pc ls (.ref (ad 0) :: rest)) :=
  y_get X.1 X.2.1 X.hts in_S X.own X.K hP (by omega) sv_ce_S rfl 2 (by decide) (sv_tb_t 70 rfl rfl) rfl hd kk
theorem gS_quotaCount (X : sv_X D cI cZ cN cQ "SliceVoting" cc nL k p R s m args c) (hP : sv_cP D cI cN cQ n qc ad σ H) (hd : decode cc pc = .ok (.getfield 37, 3)) (kk : W p l e R s m args below meth c H locs cells slots Q (F0 m (pc + 3) ls (.int (nI qc) :: rest))) : W p l e R s m args below meth c H locs cells slots Q (F0 m pc ls (.ref (ad 0) :: rest)) :=
  y_get X.1 X.2.1 X.hts in_S X.own X.K hP (by omega) sv_ce_S rfl 3 (by decide) (sv_tb_t 71 rfl rfl) rfl hd kk
theorem gS_wellBehaved (X : sv_X D cI cZ cN cQ "SliceVoting" cc nL k p R s m args c) (hP : sv_cP D cI cN cQ n qc ad σ H) (hd : decode cc pc = .ok (.getfield 40, 3)) (kk : W p l e R s m args below meth c H locs cells slots Q (F0 m (pc + 3) ls (.int (nI (sv_wbN σ n)) :: rest))) : W p l e R s m args below meth c H locs cells slots Q (F0 m pc ls (.ref (ad 0) :: rest)) :=
  y_get X.1 X.2.1 X.hts in_S X.own X.K hP (by omega) sv_ce_S rfl 4 (by decide) (sv_tb_t 72 rfl rfl) rfl hd kk
theorem gS_moving (X : sv_X D cI cZ cN cQ "SliceVoting" cc nL k p R s m args c) (hP : sv_cP D cI cN cQ n qc ad σ H) (hd : decode cc pc = .ok (.getfield 43, 3)) (kk : W p l e R s m args below meth c H locs cells slots Q (F0 m (pc + 3) ls (.int (σ 1 0) :: rest))) : W p l e R s m args below meth c H locs cells slots Q (F0 m pc ls (.ref (ad 0) :: rest)) :=
  y_get X.1 X.2.1 X.hts in_S X.own X.K hP (by omega) sv_ce_S rfl 5 (by decide) (sv_tb_t 73 rfl rfl) rfl hd kk
theorem gN_number (X : sv_X D cI cZ cN cQ "SliceVoting" cc nL k p R s m args c) (hP : sv_cP D cI cN cQ n qc ad σ H) {v : Nat} (hv : v < n) (hd : decode cc pc = .ok (.getfield 176, 3)) (kk : W p l e R s m args below meth c H locs cells slots Q (F0 m (pc + 3) ls (.int (nI v) :: rest))) : W p l e R s m args below meth c H locs cells slots Q (F0 m pc ls (.ref (ad (2 + 3 * v)) :: rest)) :=
  y_getN X.1 X.2.1 X.hts X.Ns in_N X.own X.K hP (by omega) (sv_ce_N hv) rfl 0 (by decide) (sv_nst_t 29 rfl rfl) rfl hd kk
theorem gN_knownVotes (X : sv_X D cI cZ cN cQ "SliceVoting" cc nL k p R s m args c) (hP : sv_cP D cI cN cQ n qc ad σ H) {v : Nat} (hv : v < n) (hd : decode cc pc = .ok (.getfield 93, 3)) (kk : W p l e R s m args below meth c H locs cells slots Q (F0 m (pc + 3) ls (.ref (ad (3 + 3 * v)) :: rest))) : W p l e R s m args below meth c H locs cells slots Q (F0 m pc ls (.ref (ad (2 + 3 * v)) :: rest)) :=
  y_getN X.1 X.2.1 X.hts X.Ns in_N X.own X.K hP (by omega) (sv_ce_N hv) rfl 1 (by decide) (sv_nst_t 31 rfl rfl) rfl hd kk
theorem gN_knownAccepts (X : sv_X D cI cZ cN cQ "SliceVoting" cc nL k p R s m args c) (hP : sv_cP D cI cN cQ n qc ad σ H) {v : Nat} (hv : v < n) (hd : decode cc pc = .ok (.getfield 97, 3)) (kk : W p l e R s m args below meth c H locs cells slots Q (F0 m (pc + 3) ls (.ref (ad (4 + 3 * v)) :: rest))) : W p l e R s m args below meth c H locs cells slots Q (F0 m pc ls (.ref (ad (2 + 3 * v)) :: rest)) :=
  y_getN X.1 X.2.1 X.hts X.Ns in_N X.own X.K hP (by omega) (sv_ce_N hv) rfl 2 (by decide) (sv_nst_t 33 rfl rfl) rfl hd kk
theorem gN_confirmed (X : sv_X D cI cZ cN cQ "SliceVoting" cc nL k p R s m args c) (hP : sv_cP D cI cN cQ n qc ad σ H) {v : Nat} (hv : v < n) (hd : decode cc pc = .ok (.getfield 109, 3)) (kk : W p l e R s m args below meth c H locs cells slots Q (F0 m (pc + 3) ls (.int (σ 12 v) :: rest))) : W p l e R s m args below meth c H locs cells slots Q (F0 m pc ls (.ref (ad (2 + 3 * v)) :: rest)) :=
  y_getN X.1 X.2.1 X.hts X.Ns in_N X.own X.K hP (by omega) (sv_ce_N hv) rfl 3 (by decide) (sv_nst_t 35 rfl rfl) rfl hd kk
theorem gN_counter (X : sv_X D cI cZ cN cQ "SliceVoting" cc nL k p R s m args c) (hP : sv_cP D cI cN cQ n qc ad σ H) {v : Nat} (hv : v < n) (hd : decode cc pc = .ok (.getfield 73, 3)) (kk : W p l e R s m args below meth c H locs cells slots Q (F0 m (pc + 3) ls (.int (σ 13 v) :: rest))) : W p l e R s m args below meth c H locs cells slots Q (F0 m pc ls (.ref (ad (2 + 3 * v)) :: rest)) :=
  y_getN X.1 X.2.1 X.hts X.Ns in_N X.own X.K hP (by omega) (sv_ce_N hv) rfl 4 (by decide) (sv_nst_t 37 rfl rfl) rfl hd kk
theorem gN_value (X : sv_X D cI cZ cN cQ "SliceVoting" cc nL k p R s m args c) (hP : sv_cP D cI cN cQ n qc ad σ H) {v : Nat} (hv : v < n) (hd : decode cc pc = .ok (.getfield 79, 3)) (kk : W p l e R s m args below meth c H locs cells slots Q (F0 m (pc + 3) ls (.int (σ 14 v) :: rest))) : W p l e R s m args below meth c H locs cells slots Q (F0 m pc ls (.ref (ad (2 + 3 * v)) :: rest)) :=
  y_getN X.1 X.2.1 X.hts X.Ns in_N X.own X.K hP (by omega) (sv_ce_N hv) rfl 5 (by decide) (sv_nst_t 39 rfl rfl) rfl hd kk
theorem gN_decision (X : sv_X D cI cZ cN cQ "SliceVoting" cc nL k p R s m args c) (hP : sv_cP D cI cN cQ n qc ad σ H) {v : Nat} (hv : v < n) (hd : decode cc pc = .ok (.getfield 112, 3)) (kk : W p l e R s m args below meth c H locs cells slots Q (F0 m (pc + 3) ls (.int (σ 15 v) :: rest))) : W p l e R s m args below meth c H locs cells slots Q (F0 m pc ls (.ref (ad (2 + 3 * v)) :: rest)) :=
  y_getN X.1 X.2.1 X.hts X.Ns in_N X.own X.K hP (by omega) (sv_ce_N hv) rfl 6 (by decide) (sv_nst_t 41 rfl rfl) rfl hd kk
theorem gN_top (X : sv_X D cI cZ cN cQ "SliceVoting" cc nL k p R s m args c) (hP : sv_cP D cI cN cQ n qc ad σ H) {v : Nat} (hv : v < n) (hd : decode cc pc = .ok (.getfield 128, 3)) (kk : W p l e R s m args below meth c H locs cells slots Q (F0 m (pc + 3) ls (sv_rq ad n (sv_top σ qc v) :: rest))) : W p l e R s m args below meth c H locs cells slots Q (F0 m pc ls (.ref (ad (2 + 3 * v)) :: rest)) :=
  y_getN X.1 X.2.1 X.hts X.Ns in_N X.own X.K hP (by omega) (sv_ce_N hv) rfl 7 (by decide) (sv_nst_t 43 rfl rfl) rfl hd kk
theorem gN_quotaCount (X : sv_X D cI cZ cN cQ "SliceVoting" cc nL k p R s m args c) (hP : sv_cP D cI cN cQ n qc ad σ H) {v : Nat} (hv : v < n) (hd : decode cc pc = .ok (.getfield 51, 3)) (kk : W p l e R s m args below meth c H locs cells slots Q (F0 m (pc + 3) ls (.int (nI (sv_own σ qc v)) :: rest))) : W p l e R s m args below meth c H locs cells slots Q (F0 m pc ls (.ref (ad (2 + 3 * v)) :: rest)) :=
  y_getN X.1 X.2.1 X.hts X.Ns in_N X.own X.K hP (by omega) (sv_ce_N hv) rfl 8 (by decide) (sv_nst_t 45 rfl rfl) rfl hd kk
theorem gQ_owner (X : sv_X D cI cZ cN cQ "SliceVoting" cc nL k p R s m args c) (hP : sv_cP D cI cN cQ n qc ad σ H) {q : Nat} (hq : q < qc) (hd : decode cc pc = .ok (.getfield 139, 3)) (kk : W p l e R s m args below meth c H locs cells slots Q (F0 m (pc + 3) ls (.ref (ad (2 + 3 * (σ 3 q).toNatClampNeg)) :: rest))) : W p l e R s m args below meth c H locs cells slots Q (F0 m pc ls (.ref (ad (3 + 3 * n + q)) :: rest)) :=
  y_getN X.1 X.2.1 X.hts X.Ns in_Q X.own X.K hP (by omega) sv_ce_Q rfl 0 (by decide) (sv_nst_t 105 rfl rfl) rfl hd kk
theorem gQ_level (X : sv_X D cI cZ cN cQ "SliceVoting" cc nL k p R s m args c) (hP : sv_cP D cI cN cQ n qc ad σ H) {q : Nat} (hq : q < qc) (hd : decode cc pc = .ok (.getfield 143, 3)) (kk : W p l e R s m args below meth c H locs cells slots Q (F0 m (pc + 3) ls (.int (σ 5 q) :: rest))) : W p l e R s m args below meth c H locs cells slots Q (F0 m pc ls (.ref (ad (3 + 3 * n + q)) :: rest)) :=
  y_getN X.1 X.2.1 X.hts X.Ns in_Q X.own X.K hP (by omega) sv_ce_Q rfl 1 (by decide) (sv_nst_t 107 rfl rfl) rfl hd kk
theorem gQ_need (X : sv_X D cI cZ cN cQ "SliceVoting" cc nL k p R s m args c) (hP : sv_cP D cI cN cQ n qc ad σ H) {q : Nat} (hq : q < qc) (hd : decode cc pc = .ok (.getfield 161, 3)) (kk : W p l e R s m args below meth c H locs cells slots Q (F0 m (pc + 3) ls (.int (σ 6 q) :: rest))) : W p l e R s m args below meth c H locs cells slots Q (F0 m pc ls (.ref (ad (3 + 3 * n + q)) :: rest)) :=
  y_getN X.1 X.2.1 X.hts X.Ns in_Q X.own X.K hP (by omega) sv_ce_Q rfl 2 (by decide) (sv_nst_t 109 rfl rfl) rfl hd kk
theorem gQ_members (X : sv_X D cI cZ cN cQ "SliceVoting" cc nL k p R s m args c) (hP : sv_cP D cI cN cQ n qc ad σ H) {q : Nat} (hq : q < qc) (hd : decode cc pc = .ok (.getfield 63, 3)) (kk : W p l e R s m args below meth c H locs cells slots Q (F0 m (pc + 3) ls (.int (σ 7 q) :: rest))) : W p l e R s m args below meth c H locs cells slots Q (F0 m pc ls (.ref (ad (3 + 3 * n + q)) :: rest)) :=
  y_getN X.1 X.2.1 X.hts X.Ns in_Q X.own X.K hP (by omega) sv_ce_Q rfl 3 (by decide) (sv_nst_t 111 rfl rfl) rfl hd kk
theorem gQ_firstInner (X : sv_X D cI cZ cN cQ "SliceVoting" cc nL k p R s m args c) (hP : sv_cP D cI cN cQ n qc ad σ H) {q : Nat} (hq : q < qc) (hd : decode cc pc = .ok (.getfield 146, 3)) (kk : W p l e R s m args below meth c H locs cells slots Q (F0 m (pc + 3) ls (sv_rq ad n (sv_fst σ qc q) :: rest))) : W p l e R s m args below meth c H locs cells slots Q (F0 m pc ls (.ref (ad (3 + 3 * n + q)) :: rest)) :=
  y_getN X.1 X.2.1 X.hts X.Ns in_Q X.own X.K hP (by omega) sv_ce_Q rfl 4 (by decide) (sv_nst_t 113 rfl rfl) rfl hd kk
theorem gQ_nextInner (X : sv_X D cI cZ cN cQ "SliceVoting" cc nL k p R s m args c) (hP : sv_cP D cI cN cQ n qc ad σ H) {q : Nat} (hq : q < qc) (hd : decode cc pc = .ok (.getfield 149, 3)) (kk : W p l e R s m args below meth c H locs cells slots Q (F0 m (pc + 3) ls (sv_rq ad n (sv_nxt σ q) :: rest))) : W p l e R s m args below meth c H locs cells slots Q (F0 m pc ls (.ref (ad (3 + 3 * n + q)) :: rest)) :=
  y_getN X.1 X.2.1 X.hts X.Ns in_Q X.own X.K hP (by omega) sv_ce_Q rfl 5 (by decide) (sv_nst_t 115 rfl rfl) rfl hd kk
theorem gA_nodes (X : sv_X D cI cZ cN cQ "SliceVoting" cc nL k p R s m args c) (hP : sv_cP D cI cN cQ n qc ad σ H) (hn : n ≤ 6) {v : Nat} (hv : v < n) (hd : decode cc pc = .ok (.aaload, 1)) (kk : W p l e R s m args below meth c H locs cells slots Q (F0 m (pc + 1) ls (.ref (ad (2 + 3 * v)) :: rest))) : W p l e R s m args below meth c H locs cells slots Q (F0 m pc ls (.int (nI v) :: .ref (ad 1) :: rest)) :=
  y_aald X.1 X.2.1 X.K hP (by omega) 2 sv_ce_A rfl hv (by omega) rfl hd kk
theorem gA_quotas (X : sv_X D cI cZ cN cQ "SliceVoting" cc nL k p R s m args c) (hP : sv_cP D cI cN cQ n qc ad σ H) (hn : n ≤ 6) {q : Nat} (hq : q < qc) (h4 : qc ≤ 4 * n) (hd : decode cc pc = .ok (.aaload, 1)) (kk : W p l e R s m args below meth c H locs cells slots Q (F0 m (pc + 1) ls (.ref (ad (3 + 3 * n + q)) :: rest))) : W p l e R s m args below meth c H locs cells slots Q (F0 m pc ls (.int (nI q) :: .ref (ad (2 + 3 * n)) :: rest)) :=
  y_aald X.1 X.2.1 X.K hP (by omega) 3 sv_ce_B rfl (by omega) (by omega) (by rw [if_pos hq]; rfl) hd kk
theorem gL_nodes (X : sv_X D cI cZ cN cQ "SliceVoting" cc nL k p R s m args c) (hP : sv_cP D cI cN cQ n qc ad σ H) (hd : decode cc pc = .ok (.arraylength, 1)) (kk : W p l e R s m args below meth c H locs cells slots Q (F0 m (pc + 1) ls (.int (nI n) :: rest))) : W p l e R s m args below meth c H locs cells slots Q (F0 m pc ls (.ref (ad 1) :: rest)) :=
  y_alen X.1 X.2.1 X.K hP (by omega) 2 sv_ce_A rfl hd kk
theorem gI_V (X : sv_X D cI cZ cN cQ "SliceVoting" cc nL k p R s m args c) (hP : sv_cP D cI cN cQ n qc ad σ H) (hn : n ≤ 6) {v w : Nat} (hv : v < n) (hw : w < n) (hd : decode cc pc = .ok (.iaload, 1)) (kk : W p l e R s m args below meth c H locs cells slots Q (F0 m (pc + 1) ls (.int (sv_kv σ v w) :: rest))) : W p l e R s m args below meth c H locs cells slots Q (F0 m pc ls (.int (nI w) :: .ref (ad (3 + 3 * v)) :: rest)) :=
  y_iald X.1 X.2.1 X.K hP (by omega) 0 (sv_ce_V hv) rfl hw (by omega) hd kk
theorem gI_C (X : sv_X D cI cZ cN cQ "SliceVoting" cc nL k p R s m args c) (hP : sv_cP D cI cN cQ n qc ad σ H) (hn : n ≤ 6) {v w : Nat} (hv : v < n) (hw : w < n) (hd : decode cc pc = .ok (.iaload, 1)) (kk : W p l e R s m args below meth c H locs cells slots Q (F0 m (pc + 1) ls (.int (sv_ka σ v w) :: rest))) : W p l e R s m args below meth c H locs cells slots Q (F0 m pc ls (.int (nI w) :: .ref (ad (4 + 3 * v)) :: rest)) :=
  y_iald X.1 X.2.1 X.K hP (by omega) 0 (sv_ce_C hv) rfl hw (by omega) hd kk
theorem pI_V (X : sv_X D cI cZ cN cQ "SliceVoting" cc nL k p R s m args c) (hP : sv_cP D cI cN cQ n qc ad σ H) (hJ : sv_inj (3 + 3 * n + qc) ad) (hA : ∀ k, k < 3 + 3 * n + qc → A (ad k)) (hS : va_S A H0 H locs) (hn : n ≤ 6) {v w : Nat} {x : Int32} (hv : v < n) (hw : w < n) (hd : decode cc pc = .ok (.iastore, 1)) (kk : ∀ (H1 : Heap) (locs1 : List Loc), sv_cP D cI cN cQ n qc ad (sg σ (sv_tv v w) (sv_tp v w) x) H1 → va_S A H0 H1 locs1 → W p l e R s m args below meth c H1 locs1 cells slots Q (F0 m (pc + 1) ls rest)) : W p l e R s m args below meth c H locs cells slots Q (F0 m pc ls (.int x :: .int (nI w) :: .ref (ad (3 + 3 * v)) :: rest)) :=
  y_iast X.1 X.2.1 X.K hP (sv_D hJ hA) hS (by omega) 0 (sv_ce_V hv) rfl hw (by omega) hd (fun H1 locs1 h1 h3 => kk H1 locs1 (by rw [sv_L_congr (sv_ce_kv hv hn hw)] at h1; exact h1) h3)
theorem pI_C (X : sv_X D cI cZ cN cQ "SliceVoting" cc nL k p R s m args c) (hP : sv_cP D cI cN cQ n qc ad σ H) (hJ : sv_inj (3 + 3 * n + qc) ad) (hA : ∀ k, k < 3 + 3 * n + qc → A (ad k)) (hS : va_S A H0 H locs) (hn : n ≤ 6) {v w : Nat} {x : Int32} (hv : v < n) (hw : w < n) (hd : decode cc pc = .ok (.iastore, 1)) (kk : ∀ (H1 : Heap) (locs1 : List Loc), sv_cP D cI cN cQ n qc ad (sg σ (sv_ta v w) (sv_tp v w) x) H1 → va_S A H0 H1 locs1 → W p l e R s m args below meth c H1 locs1 cells slots Q (F0 m (pc + 1) ls rest)) : W p l e R s m args below meth c H locs cells slots Q (F0 m pc ls (.int x :: .int (nI w) :: .ref (ad (4 + 3 * v)) :: rest)) :=
  y_iast X.1 X.2.1 X.K hP (sv_D hJ hA) hS (by omega) 0 (sv_ce_C hv) rfl hw (by omega) hd (fun H1 locs1 h1 h3 => kk H1 locs1 (by rw [sv_L_congr (sv_ce_ka hv hn hw)] at h1; exact h1) h3)
theorem pN_confirmed (X : sv_X D cI cZ cN cQ "SliceVoting" cc nL k p R s m args c) (hP : sv_cP D cI cN cQ n qc ad σ H) (hJ : sv_inj (3 + 3 * n + qc) ad) (hA : ∀ k, k < 3 + 3 * n + qc → A (ad k)) (hS : va_S A H0 H locs) {v : Nat} {x : Int32} (hv : v < n) (hd : decode cc pc = .ok (.putfield 109, 3)) (kk : ∀ (H1 : Heap) (locs1 : List Loc), sv_cP D cI cN cQ n qc ad (sg σ 12 v x) H1 → va_S A H0 H1 locs1 → W p l e R s m args below meth c H1 locs1 cells slots Q (F0 m (pc + 3) ls rest)) : W p l e R s m args below meth c H locs cells slots Q (F0 m pc ls (.int x :: .ref (ad (2 + 3 * v)) :: rest)) :=
  y_putN X.1 X.2.1 X.hts X.Ns in_N t_N t_N_ok nm_N X.own X.K hP (sv_D hJ hA) hS (by omega) (sv_ce_N hv) rfl 3 (by decide) (sv_nst_t 35 rfl rfl) rfl (ty := .int) (by decide +kernel) rfl rfl (by show 3 < 9; decide) hd (fun H1 locs1 h1 h3 => kk H1 locs1 (by rw [sv_L_congr (sv_ce_nf (t := 12) hv (by decide) (by decide) rfl)] at h1; exact h1) h3)
theorem pN_counter (X : sv_X D cI cZ cN cQ "SliceVoting" cc nL k p R s m args c) (hP : sv_cP D cI cN cQ n qc ad σ H) (hJ : sv_inj (3 + 3 * n + qc) ad) (hA : ∀ k, k < 3 + 3 * n + qc → A (ad k)) (hS : va_S A H0 H locs) {v : Nat} {x : Int32} (hv : v < n) (hd : decode cc pc = .ok (.putfield 73, 3)) (kk : ∀ (H1 : Heap) (locs1 : List Loc), sv_cP D cI cN cQ n qc ad (sg σ 13 v x) H1 → va_S A H0 H1 locs1 → W p l e R s m args below meth c H1 locs1 cells slots Q (F0 m (pc + 3) ls rest)) : W p l e R s m args below meth c H locs cells slots Q (F0 m pc ls (.int x :: .ref (ad (2 + 3 * v)) :: rest)) :=
  y_putN X.1 X.2.1 X.hts X.Ns in_N t_N t_N_ok nm_N X.own X.K hP (sv_D hJ hA) hS (by omega) (sv_ce_N hv) rfl 4 (by decide) (sv_nst_t 37 rfl rfl) rfl (ty := .int) (by decide +kernel) rfl rfl (by show 4 < 9; decide) hd (fun H1 locs1 h1 h3 => kk H1 locs1 (by rw [sv_L_congr (sv_ce_nf (t := 13) hv (by decide) (by decide) rfl)] at h1; exact h1) h3)
theorem pN_value (X : sv_X D cI cZ cN cQ "SliceVoting" cc nL k p R s m args c) (hP : sv_cP D cI cN cQ n qc ad σ H) (hJ : sv_inj (3 + 3 * n + qc) ad) (hA : ∀ k, k < 3 + 3 * n + qc → A (ad k)) (hS : va_S A H0 H locs) {v : Nat} {x : Int32} (hv : v < n) (hd : decode cc pc = .ok (.putfield 79, 3)) (kk : ∀ (H1 : Heap) (locs1 : List Loc), sv_cP D cI cN cQ n qc ad (sg σ 14 v x) H1 → va_S A H0 H1 locs1 → W p l e R s m args below meth c H1 locs1 cells slots Q (F0 m (pc + 3) ls rest)) : W p l e R s m args below meth c H locs cells slots Q (F0 m pc ls (.int x :: .ref (ad (2 + 3 * v)) :: rest)) :=
  y_putN X.1 X.2.1 X.hts X.Ns in_N t_N t_N_ok nm_N X.own X.K hP (sv_D hJ hA) hS (by omega) (sv_ce_N hv) rfl 5 (by decide) (sv_nst_t 39 rfl rfl) rfl (ty := .int) (by decide +kernel) rfl rfl (by show 5 < 9; decide) hd (fun H1 locs1 h1 h3 => kk H1 locs1 (by rw [sv_L_congr (sv_ce_nf (t := 14) hv (by decide) (by decide) rfl)] at h1; exact h1) h3)
theorem pN_decision (X : sv_X D cI cZ cN cQ "SliceVoting" cc nL k p R s m args c) (hP : sv_cP D cI cN cQ n qc ad σ H) (hJ : sv_inj (3 + 3 * n + qc) ad) (hA : ∀ k, k < 3 + 3 * n + qc → A (ad k)) (hS : va_S A H0 H locs) {v : Nat} {x : Int32} (hv : v < n) (hd : decode cc pc = .ok (.putfield 112, 3)) (kk : ∀ (H1 : Heap) (locs1 : List Loc), sv_cP D cI cN cQ n qc ad (sg σ 15 v x) H1 → va_S A H0 H1 locs1 → W p l e R s m args below meth c H1 locs1 cells slots Q (F0 m (pc + 3) ls rest)) : W p l e R s m args below meth c H locs cells slots Q (F0 m pc ls (.int x :: .ref (ad (2 + 3 * v)) :: rest)) :=
  y_putN X.1 X.2.1 X.hts X.Ns in_N t_N t_N_ok nm_N X.own X.K hP (sv_D hJ hA) hS (by omega) (sv_ce_N hv) rfl 6 (by decide) (sv_nst_t 41 rfl rfl) rfl (ty := .int) (by decide +kernel) rfl rfl (by show 6 < 9; decide) hd (fun H1 locs1 h1 h3 => kk H1 locs1 (by rw [sv_L_congr (sv_ce_nf (t := 15) hv (by decide) (by decide) rfl)] at h1; exact h1) h3)
theorem pS_moving (X : sv_X D cI cZ cN cQ "SliceVoting" cc nL k p R s m args c) (hP : sv_cP D cI cN cQ n qc ad σ H) (hJ : sv_inj (3 + 3 * n + qc) ad) (hA : ∀ k, k < 3 + 3 * n + qc → A (ad k)) (hS : va_S A H0 H locs) (hd : decode cc pc = .ok (.putfield 43, 3)) (kk : ∀ (H1 : Heap) (locs1 : List Loc), sv_cP D cI cN cQ n qc ad (sg σ 1 0 1) H1 → va_S A H0 H1 locs1 → W p l e R s m args below meth c H1 locs1 cells slots Q (F0 m (pc + 3) ls rest)) : W p l e R s m args below meth c H locs cells slots Q (F0 m pc ls (.int 1 :: .ref (ad 0) :: rest)) :=
  y_put X.1 X.2.1 X.hts in_S t_S t_S_ok nm_S X.own X.K hP (sv_D hJ hA) hS (by omega) sv_ce_S rfl 5 (by decide) (sv_tb_t 73 rfl rfl) rfl (ty := .boolean) (by decide +kernel) rfl rfl (by show 5 < 6; decide) hd (fun H1 locs1 h1 h3 => kk H1 locs1 (by rw [sv_L_congr sv_ce_mov] at h1; exact h1) h3)
theorem pS_wellBehaved (X : sv_X D cI cZ cN cQ "SliceVoting" cc nL k p R s m args c) (hP : sv_cP D cI cN cQ n qc ad σ H) (hJ : sv_inj (3 + 3 * n + qc) ad) (hA : ∀ k, k < 3 + 3 * n + qc → A (ad k)) (hS : va_S A H0 H locs) {v : Nat} {x : Int32} (hd : decode cc pc = .ok (.putfield 40, 3)) (kk : ∀ (H1 : Heap) (locs1 : List Loc), sv_cP D cI cN cQ n qc ad (sg σ 9 v x) H1 → va_S A H0 H1 locs1 → W p l e R s m args below meth c H1 locs1 cells slots Q (F0 m (pc + 3) ls rest)) : W p l e R s m args below meth c H locs cells slots Q (F0 m pc ls (.int (nI (sv_wbN (sg σ 9 v x) n)) :: .ref (ad 0) :: rest)) :=
  y_put X.1 X.2.1 X.hts in_S t_S t_S_ok nm_S X.own X.K hP (sv_D hJ hA) hS (by omega) sv_ce_S rfl 4 (by decide) (sv_tb_t 72 rfl rfl) rfl (ty := .int) (by decide +kernel) rfl rfl (by show 4 < 6; decide) hd (fun H1 locs1 h1 h3 => kk H1 locs1 (by rw [sv_L_congr sv_ce_ill] at h1; exact h1) h3)
theorem gM_nodes (X : sv_X D cI cZ cN cQ "SliceVotingModel" cc nL k p R s m args c) (hP : sv_mP D cI cZ n qc ad σ mt qm H) (hd : decode cc pc = .ok (.getfield 59, 3)) (kk : W p l e R s m args below meth c H locs cells slots Q (F0 m (pc + 3) ls (.int (nI n) :: rest))) : W p l e R s m args below meth c H locs cells slots Q (F0 m pc ls (.ref (ad 0) :: rest)) :=
  y_get X.1 X.2.1 X.hts in_M X.own X.K hP (by decide) sv_me_0 rfl 0 (by decide) (sv_tb_t 312 rfl rfl) rfl hd kk
theorem gM_moves (X : sv_X D cI cZ cN cQ "SliceVotingModel" cc nL k p R s m args c) (hP : sv_mP D cI cZ n qc ad σ mt qm H) (hd : decode cc pc = .ok (.getfield 70, 3)) (kk : W p l e R s m args below meth c H locs cells slots Q (F0 m (pc + 3) ls (.int (σ 1 0) :: rest))) : W p l e R s m args below meth c H locs cells slots Q (F0 m pc ls (.ref (ad 0) :: rest)) :=
  y_get X.1 X.2.1 X.hts in_M X.own X.K hP (by decide) sv_me_0 rfl 1 (by decide) (sv_tb_t 313 rfl rfl) rfl hd kk
theorem gM_quotas (X : sv_X D cI cZ cN cQ "SliceVotingModel" cc nL k p R s m args c) (hP : sv_mP D cI cZ n qc ad σ mt qm H) (hd : decode cc pc = .ok (.getfield 67, 3)) (kk : W p l e R s m args below meth c H locs cells slots Q (F0 m (pc + 3) ls (.int (nI qc) :: rest))) : W p l e R s m args below meth c H locs cells slots Q (F0 m pc ls (.ref (ad 0) :: rest)) :=
  y_get X.1 X.2.1 X.hts in_M X.own X.K hP (by decide) sv_me_0 rfl 2 (by decide) (sv_tb_t 314 rfl rfl) rfl hd kk
theorem gM_owner (X : sv_X D cI cZ cN cQ "SliceVotingModel" cc nL k p R s m args c) (hP : sv_mP D cI cZ n qc ad σ mt qm H) (hd : decode cc pc = .ok (.getfield 7, 3)) (kk : W p l e R s m args below meth c H locs cells slots Q (F0 m (pc + 3) ls (.ref (ad 1) :: rest))) : W p l e R s m args below meth c H locs cells slots Q (F0 m pc ls (.ref (ad 0) :: rest)) :=
  y_get X.1 X.2.1 X.hts in_M X.own X.K hP (by decide) sv_me_0 rfl 3 (by decide) (sv_tb_t 315 rfl rfl) rfl hd kk
theorem gM_around (X : sv_X D cI cZ cN cQ "SliceVotingModel" cc nL k p R s m args c) (hP : sv_mP D cI cZ n qc ad σ mt qm H) (hd : decode cc pc = .ok (.getfield 13, 3)) (kk : W p l e R s m args below meth c H locs cells slots Q (F0 m (pc + 3) ls (.ref (ad 2) :: rest))) : W p l e R s m args below meth c H locs cells slots Q (F0 m pc ls (.ref (ad 0) :: rest)) :=
  y_get X.1 X.2.1 X.hts in_M X.own X.K hP (by decide) sv_me_0 rfl 4 (by decide) (sv_tb_t 316 rfl rfl) rfl hd kk
theorem gM_level (X : sv_X D cI cZ cN cQ "SliceVotingModel" cc nL k p R s m args c) (hP : sv_mP D cI cZ n qc ad σ mt qm H) (hd : decode cc pc = .ok (.getfield 16, 3)) (kk : W p l e R s m args below meth c H locs cells slots Q (F0 m (pc + 3) ls (.ref (ad 3) :: rest))) : W p l e R s m args below meth c H locs cells slots Q (F0 m pc ls (.ref (ad 0) :: rest)) :=
  y_get X.1 X.2.1 X.hts in_M X.own X.K hP (by decide) sv_me_0 rfl 5 (by decide) (sv_tb_t 317 rfl rfl) rfl hd kk
theorem gM_need (X : sv_X D cI cZ cN cQ "SliceVotingModel" cc nL k p R s m args c) (hP : sv_mP D cI cZ n qc ad σ mt qm H) (hd : decode cc pc = .ok (.getfield 19, 3)) (kk : W p l e R s m args below meth c H locs cells slots Q (F0 m (pc + 3) ls (.ref (ad 4) :: rest))) : W p l e R s m args below meth c H locs cells slots Q (F0 m pc ls (.ref (ad 0) :: rest)) :=
  y_get X.1 X.2.1 X.hts in_M X.own X.K hP (by decide) sv_me_0 rfl 6 (by decide) (sv_tb_t 318 rfl rfl) rfl hd kk
theorem gM_members (X : sv_X D cI cZ cN cQ "SliceVotingModel" cc nL k p R s m args c) (hP : sv_mP D cI cZ n qc ad σ mt qm H) (hd : decode cc pc = .ok (.getfield 22, 3)) (kk : W p l e R s m args below meth c H locs cells slots Q (F0 m (pc + 3) ls (.ref (ad 5) :: rest))) : W p l e R s m args below meth c H locs cells slots Q (F0 m pc ls (.ref (ad 0) :: rest)) :=
  y_get X.1 X.2.1 X.hts in_M X.own X.K hP (by decide) sv_me_0 rfl 7 (by decide) (sv_tb_t 319 rfl rfl) rfl hd kk
theorem gM_met (X : sv_X D cI cZ cN cQ "SliceVotingModel" cc nL k p R s m args c) (hP : sv_mP D cI cZ n qc ad σ mt qm H) (hd : decode cc pc = .ok (.getfield 25, 3)) (kk : W p l e R s m args below meth c H locs cells slots Q (F0 m (pc + 3) ls (.ref (ad 6) :: rest))) : W p l e R s m args below meth c H locs cells slots Q (F0 m pc ls (.ref (ad 0) :: rest)) :=
  y_get X.1 X.2.1 X.hts in_M X.own X.K hP (by decide) sv_me_0 rfl 8 (by decide) (sv_tb_t 320 rfl rfl) rfl hd kk
theorem gM_ill (X : sv_X D cI cZ cN cQ "SliceVotingModel" cc nL k p R s m args c) (hP : sv_mP D cI cZ n qc ad σ mt qm H) (hd : decode cc pc = .ok (.getfield 29, 3)) (kk : W p l e R s m args below meth c H locs cells slots Q (F0 m (pc + 3) ls (.ref (ad 7) :: rest))) : W p l e R s m args below meth c H locs cells slots Q (F0 m pc ls (.ref (ad 0) :: rest)) :=
  y_get X.1 X.2.1 X.hts in_M X.own X.K hP (by decide) sv_me_0 rfl 9 (by decide) (sv_tb_t 321 rfl rfl) rfl hd kk
theorem gM_votes (X : sv_X D cI cZ cN cQ "SliceVotingModel" cc nL k p R s m args c) (hP : sv_mP D cI cZ n qc ad σ mt qm H) (hd : decode cc pc = .ok (.getfield 32, 3)) (kk : W p l e R s m args below meth c H locs cells slots Q (F0 m (pc + 3) ls (.ref (ad 8) :: rest))) : W p l e R s m args below meth c H locs cells slots Q (F0 m pc ls (.ref (ad 0) :: rest)) :=
  y_get X.1 X.2.1 X.hts in_M X.own X.K hP (by decide) sv_me_0 rfl 10 (by decide) (sv_tb_t 322 rfl rfl) rfl hd kk
theorem gM_accepts (X : sv_X D cI cZ cN cQ "SliceVotingModel" cc nL k p R s m args c) (hP : sv_mP D cI cZ n qc ad σ mt qm H) (hd : decode cc pc = .ok (.getfield 35, 3)) (kk : W p l e R s m args below meth c H locs cells slots Q (F0 m (pc + 3) ls (.ref (ad 9) :: rest))) : W p l e R s m args below meth c H locs cells slots Q (F0 m pc ls (.ref (ad 0) :: rest)) :=
  y_get X.1 X.2.1 X.hts in_M X.own X.K hP (by decide) sv_me_0 rfl 11 (by decide) (sv_tb_t 323 rfl rfl) rfl hd kk
theorem gM_confirms (X : sv_X D cI cZ cN cQ "SliceVotingModel" cc nL k p R s m args c) (hP : sv_mP D cI cZ n qc ad σ mt qm H) (hd : decode cc pc = .ok (.getfield 38, 3)) (kk : W p l e R s m args below meth c H locs cells slots Q (F0 m (pc + 3) ls (.ref (ad 10) :: rest))) : W p l e R s m args below meth c H locs cells slots Q (F0 m pc ls (.ref (ad 0) :: rest)) :=
  y_get X.1 X.2.1 X.hts in_M X.own X.K hP (by decide) sv_me_0 rfl 12 (by decide) (sv_tb_t 324 rfl rfl) rfl hd kk
theorem gM_counters (X : sv_X D cI cZ cN cQ "SliceVotingModel" cc nL k p R s m args c) (hP : sv_mP D cI cZ n qc ad σ mt qm H) (hd : decode cc pc = .ok (.getfield 41, 3)) (kk : W p l e R s m args below meth c H locs cells slots Q (F0 m (pc + 3) ls (.ref (ad 11) :: rest))) : W p l e R s m args below meth c H locs cells slots Q (F0 m pc ls (.ref (ad 0) :: rest)) :=
  y_get X.1 X.2.1 X.hts in_M X.own X.K hP (by decide) sv_me_0 rfl 13 (by decide) (sv_tb_t 325 rfl rfl) rfl hd kk
theorem gM_values (X : sv_X D cI cZ cN cQ "SliceVotingModel" cc nL k p R s m args c) (hP : sv_mP D cI cZ n qc ad σ mt qm H) (hd : decode cc pc = .ok (.getfield 44, 3)) (kk : W p l e R s m args below meth c H locs cells slots Q (F0 m (pc + 3) ls (.ref (ad 12) :: rest))) : W p l e R s m args below meth c H locs cells slots Q (F0 m pc ls (.ref (ad 0) :: rest)) :=
  y_get X.1 X.2.1 X.hts in_M X.own X.K hP (by decide) sv_me_0 rfl 14 (by decide) (sv_tb_t 326 rfl rfl) rfl hd kk
theorem gM_decisions (X : sv_X D cI cZ cN cQ "SliceVotingModel" cc nL k p R s m args c) (hP : sv_mP D cI cZ n qc ad σ mt qm H) (hd : decode cc pc = .ok (.getfield 47, 3)) (kk : W p l e R s m args below meth c H locs cells slots Q (F0 m (pc + 3) ls (.ref (ad 13) :: rest))) : W p l e R s m args below meth c H locs cells slots Q (F0 m pc ls (.ref (ad 0) :: rest)) :=
  y_get X.1 X.2.1 X.hts in_M X.own X.K hP (by decide) sv_me_0 rfl 15 (by decide) (sv_tb_t 327 rfl rfl) rfl hd kk
theorem gM_heardVotes (X : sv_X D cI cZ cN cQ "SliceVotingModel" cc nL k p R s m args c) (hP : sv_mP D cI cZ n qc ad σ mt qm H) (hd : decode cc pc = .ok (.getfield 50, 3)) (kk : W p l e R s m args below meth c H locs cells slots Q (F0 m (pc + 3) ls (.ref (ad 14) :: rest))) : W p l e R s m args below meth c H locs cells slots Q (F0 m pc ls (.ref (ad 0) :: rest)) :=
  y_get X.1 X.2.1 X.hts in_M X.own X.K hP (by decide) sv_me_0 rfl 16 (by decide) (sv_tb_t 328 rfl rfl) rfl hd kk
theorem gM_heardAccepts (X : sv_X D cI cZ cN cQ "SliceVotingModel" cc nL k p R s m args c) (hP : sv_mP D cI cZ n qc ad σ mt qm H) (hd : decode cc pc = .ok (.getfield 53, 3)) (kk : W p l e R s m args below meth c H locs cells slots Q (F0 m (pc + 3) ls (.ref (ad 15) :: rest))) : W p l e R s m args below meth c H locs cells slots Q (F0 m pc ls (.ref (ad 0) :: rest)) :=
  y_get X.1 X.2.1 X.hts in_M X.own X.K hP (by decide) sv_me_0 rfl 17 (by decide) (sv_tb_t 329 rfl rfl) rfl hd kk
theorem gM_quorums (X : sv_X D cI cZ cN cQ "SliceVotingModel" cc nL k p R s m args c) (hP : sv_mP D cI cZ n qc ad σ mt qm H) (hd : decode cc pc = .ok (.getfield 56, 3)) (kk : W p l e R s m args below meth c H locs cells slots Q (F0 m (pc + 3) ls (.ref (ad 16) :: rest))) : W p l e R s m args below meth c H locs cells slots Q (F0 m pc ls (.ref (ad 0) :: rest)) :=
  y_get X.1 X.2.1 X.hts in_M X.own X.K hP (by decide) sv_me_0 rfl 18 (by decide) (sv_tb_t 330 rfl rfl) rfl hd kk
theorem gm_owner (X : sv_X D cI cZ cN cQ "SliceVotingModel" cc nL k p R s m args c) (hP : sv_mP D cI cZ n qc ad σ mt qm H) {j : Nat} (hj : j < 24) (hd : decode cc pc = .ok (.iaload, 1)) (kk : W p l e R s m args below meth c H locs cells slots Q (F0 m (pc + 1) ls (.int (σ 3 j) :: rest))) : W p l e R s m args below meth c H locs cells slots Q (F0 m pc ls (.int (nI j) :: .ref (ad 1) :: rest)) :=
  y_iald (k := 1) X.1 X.2.1 X.K hP (by decide) 0 rfl rfl hj (by decide) hd kk
theorem pm_owner (X : sv_X D cI cZ cN cQ "SliceVotingModel" cc nL k p R s m args c) (hP : sv_mP D cI cZ n qc ad σ mt qm H) (hJ : sv_inj 17 ad) (hA : ∀ k, k < 17 → A (ad k)) (hS : va_S A H0 H locs) {j : Nat} {x : Int32} (hj : j < 24) (hd : decode cc pc = .ok (.iastore, 1)) (kk : ∀ (H1 : Heap) (locs1 : List Loc), sv_mP D cI cZ n qc ad (sg σ 3 j x) mt qm H1 → va_S A H0 H1 locs1 → W p l e R s m args below meth c H1 locs1 cells slots Q (F0 m (pc + 1) ls rest)) : W p l e R s m args below meth c H locs cells slots Q (F0 m pc ls (.int x :: .int (nI j) :: .ref (ad 1) :: rest)) :=
  y_iast (k := 1) X.1 X.2.1 X.K hP (sv_D hJ hA) hS (by decide) 0 rfl rfl hj (by decide) hd (fun H1 locs1 h1 h3 => kk H1 locs1 (sv_mP_sg (k := 1) (by decide) (by decide) (by decide) h1) h3)
theorem gm_around (X : sv_X D cI cZ cN cQ "SliceVotingModel" cc nL k p R s m args c) (hP : sv_mP D cI cZ n qc ad σ mt qm H) {j : Nat} (hj : j < 24) (hd : decode cc pc = .ok (.iaload, 1)) (kk : W p l e R s m args below meth c H locs cells slots Q (F0 m (pc + 1) ls (.int (σ 4 j) :: rest))) : W p l e R s m args below meth c H locs cells slots Q (F0 m pc ls (.int (nI j) :: .ref (ad 2) :: rest)) :=
  y_iald (k := 2) X.1 X.2.1 X.K hP (by decide) 0 rfl rfl hj (by decide) hd kk
theorem pm_around (X : sv_X D cI cZ cN cQ "SliceVotingModel" cc nL k p R s m args c) (hP : sv_mP D cI cZ n qc ad σ mt qm H) (hJ : sv_inj 17 ad) (hA : ∀ k, k < 17 → A (ad k)) (hS : va_S A H0 H locs) {j : Nat} {x : Int32} (hj : j < 24) (hd : decode cc pc = .ok (.iastore, 1)) (kk : ∀ (H1 : Heap) (locs1 : List Loc), sv_mP D cI cZ n qc ad (sg σ 4 j x) mt qm H1 → va_S A H0 H1 locs1 → W p l e R s m args below meth c H1 locs1 cells slots Q (F0 m (pc + 1) ls rest)) : W p l e R s m args below meth c H locs cells slots Q (F0 m pc ls (.int x :: .int (nI j) :: .ref (ad 2) :: rest)) :=
  y_iast (k := 2) X.1 X.2.1 X.K hP (sv_D hJ hA) hS (by decide) 0 rfl rfl hj (by decide) hd (fun H1 locs1 h1 h3 => kk H1 locs1 (sv_mP_sg (k := 2) (by decide) (by decide) (by decide) h1) h3)
theorem gm_level (X : sv_X D cI cZ cN cQ "SliceVotingModel" cc nL k p R s m args c) (hP : sv_mP D cI cZ n qc ad σ mt qm H) {j : Nat} (hj : j < 24) (hd : decode cc pc = .ok (.iaload, 1)) (kk : W p l e R s m args below meth c H locs cells slots Q (F0 m (pc + 1) ls (.int (σ 5 j) :: rest))) : W p l e R s m args below meth c H locs cells slots Q (F0 m pc ls (.int (nI j) :: .ref (ad 3) :: rest)) :=
  y_iald (k := 3) X.1 X.2.1 X.K hP (by decide) 0 rfl rfl hj (by decide) hd kk
theorem pm_level (X : sv_X D cI cZ cN cQ "SliceVotingModel" cc nL k p R s m args c) (hP : sv_mP D cI cZ n qc ad σ mt qm H) (hJ : sv_inj 17 ad) (hA : ∀ k, k < 17 → A (ad k)) (hS : va_S A H0 H locs) {j : Nat} {x : Int32} (hj : j < 24) (hd : decode cc pc = .ok (.iastore, 1)) (kk : ∀ (H1 : Heap) (locs1 : List Loc), sv_mP D cI cZ n qc ad (sg σ 5 j x) mt qm H1 → va_S A H0 H1 locs1 → W p l e R s m args below meth c H1 locs1 cells slots Q (F0 m (pc + 1) ls rest)) : W p l e R s m args below meth c H locs cells slots Q (F0 m pc ls (.int x :: .int (nI j) :: .ref (ad 3) :: rest)) :=
  y_iast (k := 3) X.1 X.2.1 X.K hP (sv_D hJ hA) hS (by decide) 0 rfl rfl hj (by decide) hd (fun H1 locs1 h1 h3 => kk H1 locs1 (sv_mP_sg (k := 3) (by decide) (by decide) (by decide) h1) h3)
theorem gm_need (X : sv_X D cI cZ cN cQ "SliceVotingModel" cc nL k p R s m args c) (hP : sv_mP D cI cZ n qc ad σ mt qm H) {j : Nat} (hj : j < 24) (hd : decode cc pc = .ok (.iaload, 1)) (kk : W p l e R s m args below meth c H locs cells slots Q (F0 m (pc + 1) ls (.int (σ 6 j) :: rest))) : W p l e R s m args below meth c H locs cells slots Q (F0 m pc ls (.int (nI j) :: .ref (ad 4) :: rest)) :=
  y_iald (k := 4) X.1 X.2.1 X.K hP (by decide) 0 rfl rfl hj (by decide) hd kk
theorem pm_need (X : sv_X D cI cZ cN cQ "SliceVotingModel" cc nL k p R s m args c) (hP : sv_mP D cI cZ n qc ad σ mt qm H) (hJ : sv_inj 17 ad) (hA : ∀ k, k < 17 → A (ad k)) (hS : va_S A H0 H locs) {j : Nat} {x : Int32} (hj : j < 24) (hd : decode cc pc = .ok (.iastore, 1)) (kk : ∀ (H1 : Heap) (locs1 : List Loc), sv_mP D cI cZ n qc ad (sg σ 6 j x) mt qm H1 → va_S A H0 H1 locs1 → W p l e R s m args below meth c H1 locs1 cells slots Q (F0 m (pc + 1) ls rest)) : W p l e R s m args below meth c H locs cells slots Q (F0 m pc ls (.int x :: .int (nI j) :: .ref (ad 4) :: rest)) :=
  y_iast (k := 4) X.1 X.2.1 X.K hP (sv_D hJ hA) hS (by decide) 0 rfl rfl hj (by decide) hd (fun H1 locs1 h1 h3 => kk H1 locs1 (sv_mP_sg (k := 4) (by decide) (by decide) (by decide) h1) h3)
theorem gm_members (X : sv_X D cI cZ cN cQ "SliceVotingModel" cc nL k p R s m args c) (hP : sv_mP D cI cZ n qc ad σ mt qm H) {j : Nat} (hj : j < 24) (hd : decode cc pc = .ok (.iaload, 1)) (kk : W p l e R s m args below meth c H locs cells slots Q (F0 m (pc + 1) ls (.int (σ 7 j) :: rest))) : W p l e R s m args below meth c H locs cells slots Q (F0 m pc ls (.int (nI j) :: .ref (ad 5) :: rest)) :=
  y_iald (k := 5) X.1 X.2.1 X.K hP (by decide) 0 rfl rfl hj (by decide) hd kk
theorem pm_members (X : sv_X D cI cZ cN cQ "SliceVotingModel" cc nL k p R s m args c) (hP : sv_mP D cI cZ n qc ad σ mt qm H) (hJ : sv_inj 17 ad) (hA : ∀ k, k < 17 → A (ad k)) (hS : va_S A H0 H locs) {j : Nat} {x : Int32} (hj : j < 24) (hd : decode cc pc = .ok (.iastore, 1)) (kk : ∀ (H1 : Heap) (locs1 : List Loc), sv_mP D cI cZ n qc ad (sg σ 7 j x) mt qm H1 → va_S A H0 H1 locs1 → W p l e R s m args below meth c H1 locs1 cells slots Q (F0 m (pc + 1) ls rest)) : W p l e R s m args below meth c H locs cells slots Q (F0 m pc ls (.int x :: .int (nI j) :: .ref (ad 5) :: rest)) :=
  y_iast (k := 5) X.1 X.2.1 X.K hP (sv_D hJ hA) hS (by decide) 0 rfl rfl hj (by decide) hd (fun H1 locs1 h1 h3 => kk H1 locs1 (sv_mP_sg (k := 5) (by decide) (by decide) (by decide) h1) h3)
theorem gm_met (X : sv_X D cI cZ cN cQ "SliceVotingModel" cc nL k p R s m args c) (hP : sv_mP D cI cZ n qc ad σ mt qm H) {j : Nat} (hj : j < 24) (hd : decode cc pc = .ok (.baload, 1)) (kk : W p l e R s m args below meth c H locs cells slots Q (F0 m (pc + 1) ls (.int (mt j) :: rest))) : W p l e R s m args below meth c H locs cells slots Q (F0 m pc ls (.int (nI j) :: .ref (ad 6) :: rest)) :=
  y_zald (k := 6) X.1 X.2.1 X.K hP (by decide) 1 rfl rfl hj (by decide) hd kk
theorem pm_met (X : sv_X D cI cZ cN cQ "SliceVotingModel" cc nL k p R s m args c) (hP : sv_mP D cI cZ n qc ad σ mt qm H) (hJ : sv_inj 17 ad) (hA : ∀ k, k < 17 → A (ad k)) (hS : va_S A H0 H locs) {j : Nat} {B : Bool} (hj : j < 24) (hd : decode cc pc = .ok (.bastore, 1)) (kk : ∀ (H1 : Heap) (locs1 : List Loc), sv_mP D cI cZ n qc ad σ (upd mt j (sv_b B)) qm H1 → va_S A H0 H1 locs1 → W p l e R s m args below meth c H1 locs1 cells slots Q (F0 m (pc + 1) ls rest)) : W p l e R s m args below meth c H locs cells slots Q (F0 m pc ls (.int (sv_b B) :: .int (nI j) :: .ref (ad 6) :: rest)) :=
  y_zast (k := 6) X.1 X.2.1 X.K hP (sv_D hJ hA) hS (by decide) 1 rfl rfl hj (by decide) hd (fun H1 locs1 h1 h3 => kk H1 locs1 (sv_mP_mt h1) h3)
theorem gm_ill (X : sv_X D cI cZ cN cQ "SliceVotingModel" cc nL k p R s m args c) (hP : sv_mP D cI cZ n qc ad σ mt qm H) {j : Nat} (hj : j < 6) (hd : decode cc pc = .ok (.baload, 1)) (kk : W p l e R s m args below meth c H locs cells slots Q (F0 m (pc + 1) ls (.int (σ 9 j) :: rest))) : W p l e R s m args below meth c H locs cells slots Q (F0 m pc ls (.int (nI j) :: .ref (ad 7) :: rest)) :=
  y_zald (k := 7) X.1 X.2.1 X.K hP (by decide) 1 rfl rfl hj (by decide) hd kk
theorem pm_ill (X : sv_X D cI cZ cN cQ "SliceVotingModel" cc nL k p R s m args c) (hP : sv_mP D cI cZ n qc ad σ mt qm H) (hJ : sv_inj 17 ad) (hA : ∀ k, k < 17 → A (ad k)) (hS : va_S A H0 H locs) {j : Nat} {B : Bool} (hj : j < 6) (hd : decode cc pc = .ok (.bastore, 1)) (kk : ∀ (H1 : Heap) (locs1 : List Loc), sv_mP D cI cZ n qc ad (sg σ 9 j (sv_b B)) mt qm H1 → va_S A H0 H1 locs1 → W p l e R s m args below meth c H1 locs1 cells slots Q (F0 m (pc + 1) ls rest)) : W p l e R s m args below meth c H locs cells slots Q (F0 m pc ls (.int (sv_b B) :: .int (nI j) :: .ref (ad 7) :: rest)) :=
  y_zast (k := 7) X.1 X.2.1 X.K hP (sv_D hJ hA) hS (by decide) 1 rfl rfl hj (by decide) hd (fun H1 locs1 h1 h3 => kk H1 locs1 (sv_mP_sg (k := 7) (by decide) (by decide) (by decide) h1) h3)
theorem gm_votes (X : sv_X D cI cZ cN cQ "SliceVotingModel" cc nL k p R s m args c) (hP : sv_mP D cI cZ n qc ad σ mt qm H) {j : Nat} (hj : j < 6) (hd : decode cc pc = .ok (.iaload, 1)) (kk : W p l e R s m args below meth c H locs cells slots Q (F0 m (pc + 1) ls (.int (σ 10 j) :: rest))) : W p l e R s m args below meth c H locs cells slots Q (F0 m pc ls (.int (nI j) :: .ref (ad 8) :: rest)) :=
  y_iald (k := 8) X.1 X.2.1 X.K hP (by decide) 0 rfl rfl hj (by decide) hd kk
theorem pm_votes (X : sv_X D cI cZ cN cQ "SliceVotingModel" cc nL k p R s m args c) (hP : sv_mP D cI cZ n qc ad σ mt qm H) (hJ : sv_inj 17 ad) (hA : ∀ k, k < 17 → A (ad k)) (hS : va_S A H0 H locs) {j : Nat} {x : Int32} (hj : j < 6) (hd : decode cc pc = .ok (.iastore, 1)) (kk : ∀ (H1 : Heap) (locs1 : List Loc), sv_mP D cI cZ n qc ad (sg σ 10 j x) mt qm H1 → va_S A H0 H1 locs1 → W p l e R s m args below meth c H1 locs1 cells slots Q (F0 m (pc + 1) ls rest)) : W p l e R s m args below meth c H locs cells slots Q (F0 m pc ls (.int x :: .int (nI j) :: .ref (ad 8) :: rest)) :=
  y_iast (k := 8) X.1 X.2.1 X.K hP (sv_D hJ hA) hS (by decide) 0 rfl rfl hj (by decide) hd (fun H1 locs1 h1 h3 => kk H1 locs1 (sv_mP_sg (k := 8) (by decide) (by decide) (by decide) h1) h3)
theorem gm_accepts (X : sv_X D cI cZ cN cQ "SliceVotingModel" cc nL k p R s m args c) (hP : sv_mP D cI cZ n qc ad σ mt qm H) {j : Nat} (hj : j < 6) (hd : decode cc pc = .ok (.iaload, 1)) (kk : W p l e R s m args below meth c H locs cells slots Q (F0 m (pc + 1) ls (.int (σ 11 j) :: rest))) : W p l e R s m args below meth c H locs cells slots Q (F0 m pc ls (.int (nI j) :: .ref (ad 9) :: rest)) :=
  y_iald (k := 9) X.1 X.2.1 X.K hP (by decide) 0 rfl rfl hj (by decide) hd kk
theorem pm_accepts (X : sv_X D cI cZ cN cQ "SliceVotingModel" cc nL k p R s m args c) (hP : sv_mP D cI cZ n qc ad σ mt qm H) (hJ : sv_inj 17 ad) (hA : ∀ k, k < 17 → A (ad k)) (hS : va_S A H0 H locs) {j : Nat} {x : Int32} (hj : j < 6) (hd : decode cc pc = .ok (.iastore, 1)) (kk : ∀ (H1 : Heap) (locs1 : List Loc), sv_mP D cI cZ n qc ad (sg σ 11 j x) mt qm H1 → va_S A H0 H1 locs1 → W p l e R s m args below meth c H1 locs1 cells slots Q (F0 m (pc + 1) ls rest)) : W p l e R s m args below meth c H locs cells slots Q (F0 m pc ls (.int x :: .int (nI j) :: .ref (ad 9) :: rest)) :=
  y_iast (k := 9) X.1 X.2.1 X.K hP (sv_D hJ hA) hS (by decide) 0 rfl rfl hj (by decide) hd (fun H1 locs1 h1 h3 => kk H1 locs1 (sv_mP_sg (k := 9) (by decide) (by decide) (by decide) h1) h3)
theorem gm_confirms (X : sv_X D cI cZ cN cQ "SliceVotingModel" cc nL k p R s m args c) (hP : sv_mP D cI cZ n qc ad σ mt qm H) {j : Nat} (hj : j < 6) (hd : decode cc pc = .ok (.iaload, 1)) (kk : W p l e R s m args below meth c H locs cells slots Q (F0 m (pc + 1) ls (.int (σ 12 j) :: rest))) : W p l e R s m args below meth c H locs cells slots Q (F0 m pc ls (.int (nI j) :: .ref (ad 10) :: rest)) :=
  y_iald (k := 10) X.1 X.2.1 X.K hP (by decide) 0 rfl rfl hj (by decide) hd kk
theorem pm_confirms (X : sv_X D cI cZ cN cQ "SliceVotingModel" cc nL k p R s m args c) (hP : sv_mP D cI cZ n qc ad σ mt qm H) (hJ : sv_inj 17 ad) (hA : ∀ k, k < 17 → A (ad k)) (hS : va_S A H0 H locs) {j : Nat} {x : Int32} (hj : j < 6) (hd : decode cc pc = .ok (.iastore, 1)) (kk : ∀ (H1 : Heap) (locs1 : List Loc), sv_mP D cI cZ n qc ad (sg σ 12 j x) mt qm H1 → va_S A H0 H1 locs1 → W p l e R s m args below meth c H1 locs1 cells slots Q (F0 m (pc + 1) ls rest)) : W p l e R s m args below meth c H locs cells slots Q (F0 m pc ls (.int x :: .int (nI j) :: .ref (ad 10) :: rest)) :=
  y_iast (k := 10) X.1 X.2.1 X.K hP (sv_D hJ hA) hS (by decide) 0 rfl rfl hj (by decide) hd (fun H1 locs1 h1 h3 => kk H1 locs1 (sv_mP_sg (k := 10) (by decide) (by decide) (by decide) h1) h3)
theorem gm_counters (X : sv_X D cI cZ cN cQ "SliceVotingModel" cc nL k p R s m args c) (hP : sv_mP D cI cZ n qc ad σ mt qm H) {j : Nat} (hj : j < 6) (hd : decode cc pc = .ok (.iaload, 1)) (kk : W p l e R s m args below meth c H locs cells slots Q (F0 m (pc + 1) ls (.int (σ 13 j) :: rest))) : W p l e R s m args below meth c H locs cells slots Q (F0 m pc ls (.int (nI j) :: .ref (ad 11) :: rest)) :=
  y_iald (k := 11) X.1 X.2.1 X.K hP (by decide) 0 rfl rfl hj (by decide) hd kk
theorem pm_counters (X : sv_X D cI cZ cN cQ "SliceVotingModel" cc nL k p R s m args c) (hP : sv_mP D cI cZ n qc ad σ mt qm H) (hJ : sv_inj 17 ad) (hA : ∀ k, k < 17 → A (ad k)) (hS : va_S A H0 H locs) {j : Nat} {x : Int32} (hj : j < 6) (hd : decode cc pc = .ok (.iastore, 1)) (kk : ∀ (H1 : Heap) (locs1 : List Loc), sv_mP D cI cZ n qc ad (sg σ 13 j x) mt qm H1 → va_S A H0 H1 locs1 → W p l e R s m args below meth c H1 locs1 cells slots Q (F0 m (pc + 1) ls rest)) : W p l e R s m args below meth c H locs cells slots Q (F0 m pc ls (.int x :: .int (nI j) :: .ref (ad 11) :: rest)) :=
  y_iast (k := 11) X.1 X.2.1 X.K hP (sv_D hJ hA) hS (by decide) 0 rfl rfl hj (by decide) hd (fun H1 locs1 h1 h3 => kk H1 locs1 (sv_mP_sg (k := 11) (by decide) (by decide) (by decide) h1) h3)
theorem gm_values (X : sv_X D cI cZ cN cQ "SliceVotingModel" cc nL k p R s m args c) (hP : sv_mP D cI cZ n qc ad σ mt qm H) {j : Nat} (hj : j < 6) (hd : decode cc pc = .ok (.iaload, 1)) (kk : W p l e R s m args below meth c H locs cells slots Q (F0 m (pc + 1) ls (.int (σ 14 j) :: rest))) : W p l e R s m args below meth c H locs cells slots Q (F0 m pc ls (.int (nI j) :: .ref (ad 12) :: rest)) :=
  y_iald (k := 12) X.1 X.2.1 X.K hP (by decide) 0 rfl rfl hj (by decide) hd kk
theorem pm_values (X : sv_X D cI cZ cN cQ "SliceVotingModel" cc nL k p R s m args c) (hP : sv_mP D cI cZ n qc ad σ mt qm H) (hJ : sv_inj 17 ad) (hA : ∀ k, k < 17 → A (ad k)) (hS : va_S A H0 H locs) {j : Nat} {x : Int32} (hj : j < 6) (hd : decode cc pc = .ok (.iastore, 1)) (kk : ∀ (H1 : Heap) (locs1 : List Loc), sv_mP D cI cZ n qc ad (sg σ 14 j x) mt qm H1 → va_S A H0 H1 locs1 → W p l e R s m args below meth c H1 locs1 cells slots Q (F0 m (pc + 1) ls rest)) : W p l e R s m args below meth c H locs cells slots Q (F0 m pc ls (.int x :: .int (nI j) :: .ref (ad 12) :: rest)) :=
  y_iast (k := 12) X.1 X.2.1 X.K hP (sv_D hJ hA) hS (by decide) 0 rfl rfl hj (by decide) hd (fun H1 locs1 h1 h3 => kk H1 locs1 (sv_mP_sg (k := 12) (by decide) (by decide) (by decide) h1) h3)
theorem gm_decisions (X : sv_X D cI cZ cN cQ "SliceVotingModel" cc nL k p R s m args c) (hP : sv_mP D cI cZ n qc ad σ mt qm H) {j : Nat} (hj : j < 6) (hd : decode cc pc = .ok (.iaload, 1)) (kk : W p l e R s m args below meth c H locs cells slots Q (F0 m (pc + 1) ls (.int (σ 15 j) :: rest))) : W p l e R s m args below meth c H locs cells slots Q (F0 m pc ls (.int (nI j) :: .ref (ad 13) :: rest)) :=
  y_iald (k := 13) X.1 X.2.1 X.K hP (by decide) 0 rfl rfl hj (by decide) hd kk
theorem pm_decisions (X : sv_X D cI cZ cN cQ "SliceVotingModel" cc nL k p R s m args c) (hP : sv_mP D cI cZ n qc ad σ mt qm H) (hJ : sv_inj 17 ad) (hA : ∀ k, k < 17 → A (ad k)) (hS : va_S A H0 H locs) {j : Nat} {x : Int32} (hj : j < 6) (hd : decode cc pc = .ok (.iastore, 1)) (kk : ∀ (H1 : Heap) (locs1 : List Loc), sv_mP D cI cZ n qc ad (sg σ 15 j x) mt qm H1 → va_S A H0 H1 locs1 → W p l e R s m args below meth c H1 locs1 cells slots Q (F0 m (pc + 1) ls rest)) : W p l e R s m args below meth c H locs cells slots Q (F0 m pc ls (.int x :: .int (nI j) :: .ref (ad 13) :: rest)) :=
  y_iast (k := 13) X.1 X.2.1 X.K hP (sv_D hJ hA) hS (by decide) 0 rfl rfl hj (by decide) hd (fun H1 locs1 h1 h3 => kk H1 locs1 (sv_mP_sg (k := 13) (by decide) (by decide) (by decide) h1) h3)
theorem gm_heardVotes (X : sv_X D cI cZ cN cQ "SliceVotingModel" cc nL k p R s m args c) (hP : sv_mP D cI cZ n qc ad σ mt qm H) {j : Nat} (hj : j < 36) (hd : decode cc pc = .ok (.iaload, 1)) (kk : W p l e R s m args below meth c H locs cells slots Q (F0 m (pc + 1) ls (.int (σ 16 j) :: rest))) : W p l e R s m args below meth c H locs cells slots Q (F0 m pc ls (.int (nI j) :: .ref (ad 14) :: rest)) :=
  y_iald (k := 14) X.1 X.2.1 X.K hP (by decide) 0 rfl rfl hj (by decide) hd kk
theorem pm_heardVotes (X : sv_X D cI cZ cN cQ "SliceVotingModel" cc nL k p R s m args c) (hP : sv_mP D cI cZ n qc ad σ mt qm H) (hJ : sv_inj 17 ad) (hA : ∀ k, k < 17 → A (ad k)) (hS : va_S A H0 H locs) {j : Nat} {x : Int32} (hj : j < 36) (hd : decode cc pc = .ok (.iastore, 1)) (kk : ∀ (H1 : Heap) (locs1 : List Loc), sv_mP D cI cZ n qc ad (sg σ 16 j x) mt qm H1 → va_S A H0 H1 locs1 → W p l e R s m args below meth c H1 locs1 cells slots Q (F0 m (pc + 1) ls rest)) : W p l e R s m args below meth c H locs cells slots Q (F0 m pc ls (.int x :: .int (nI j) :: .ref (ad 14) :: rest)) :=
  y_iast (k := 14) X.1 X.2.1 X.K hP (sv_D hJ hA) hS (by decide) 0 rfl rfl hj (by decide) hd (fun H1 locs1 h1 h3 => kk H1 locs1 (sv_mP_sg (k := 14) (by decide) (by decide) (by decide) h1) h3)
theorem gm_heardAccepts (X : sv_X D cI cZ cN cQ "SliceVotingModel" cc nL k p R s m args c) (hP : sv_mP D cI cZ n qc ad σ mt qm H) {j : Nat} (hj : j < 36) (hd : decode cc pc = .ok (.iaload, 1)) (kk : W p l e R s m args below meth c H locs cells slots Q (F0 m (pc + 1) ls (.int (σ 17 j) :: rest))) : W p l e R s m args below meth c H locs cells slots Q (F0 m pc ls (.int (nI j) :: .ref (ad 15) :: rest)) :=
  y_iald (k := 15) X.1 X.2.1 X.K hP (by decide) 0 rfl rfl hj (by decide) hd kk
theorem pm_heardAccepts (X : sv_X D cI cZ cN cQ "SliceVotingModel" cc nL k p R s m args c) (hP : sv_mP D cI cZ n qc ad σ mt qm H) (hJ : sv_inj 17 ad) (hA : ∀ k, k < 17 → A (ad k)) (hS : va_S A H0 H locs) {j : Nat} {x : Int32} (hj : j < 36) (hd : decode cc pc = .ok (.iastore, 1)) (kk : ∀ (H1 : Heap) (locs1 : List Loc), sv_mP D cI cZ n qc ad (sg σ 17 j x) mt qm H1 → va_S A H0 H1 locs1 → W p l e R s m args below meth c H1 locs1 cells slots Q (F0 m (pc + 1) ls rest)) : W p l e R s m args below meth c H locs cells slots Q (F0 m pc ls (.int x :: .int (nI j) :: .ref (ad 15) :: rest)) :=
  y_iast (k := 15) X.1 X.2.1 X.K hP (sv_D hJ hA) hS (by decide) 0 rfl rfl hj (by decide) hd (fun H1 locs1 h1 h3 => kk H1 locs1 (sv_mP_sg (k := 15) (by decide) (by decide) (by decide) h1) h3)
theorem gm_quorums (X : sv_X D cI cZ cN cQ "SliceVotingModel" cc nL k p R s m args c) (hP : sv_mP D cI cZ n qc ad σ mt qm H) {j : Nat} (hj : j < 64) (hd : decode cc pc = .ok (.baload, 1)) (kk : W p l e R s m args below meth c H locs cells slots Q (F0 m (pc + 1) ls (.int (qm j) :: rest))) : W p l e R s m args below meth c H locs cells slots Q (F0 m pc ls (.int (nI j) :: .ref (ad 16) :: rest)) :=
  y_zald (k := 16) X.1 X.2.1 X.K hP (by decide) 1 rfl rfl hj (by decide) hd kk
theorem pm_quorums (X : sv_X D cI cZ cN cQ "SliceVotingModel" cc nL k p R s m args c) (hP : sv_mP D cI cZ n qc ad σ mt qm H) (hJ : sv_inj 17 ad) (hA : ∀ k, k < 17 → A (ad k)) (hS : va_S A H0 H locs) {j : Nat} {B : Bool} (hj : j < 64) (hd : decode cc pc = .ok (.bastore, 1)) (kk : ∀ (H1 : Heap) (locs1 : List Loc), sv_mP D cI cZ n qc ad σ mt (upd qm j (sv_b B)) H1 → va_S A H0 H1 locs1 → W p l e R s m args below meth c H1 locs1 cells slots Q (F0 m (pc + 1) ls rest)) : W p l e R s m args below meth c H locs cells slots Q (F0 m pc ls (.int (sv_b B) :: .int (nI j) :: .ref (ad 16) :: rest)) :=
  y_zast (k := 16) X.1 X.2.1 X.K hP (sv_D hJ hA) hS (by decide) 1 rfl rfl hj (by decide) hd (fun H1 locs1 h1 h3 => kk H1 locs1 (sv_mP_qm h1) h3)
end SvFld
end
section
section SvStat
variable {p : Program} {l : Launch} {e : Env} {R : Room} {s : State} {m : MethodId} {args : Array Value} {below : List Frame} {meth : Method} {c : Code} {H H0 : Heap} {locs : List Loc} {cells slots : Nat} {Q : State → Prop}
variable {cc : ByteArray} {pc nL k : Nat} {ls : Array Slot} {lv : List (Nat × Value)} {rest : List Value} {D : va_G} {cI cZ cN cQ : ClassId} {n qc : Nat} {ad : Nat → Nat} {σ : Sg} {A : Nat → Prop} {mt qm : Nat → Int32}
theorem sv_narb (B : Bool) : narrow .boolean (.int (sv_b B)) = .int (sv_b B) := by cases B <;> rfl
set_option maxHeartbeats 4000000 in
set_option maxRecDepth 100000 in
theorem wS_has (X : sv_X D cI cZ cN cQ "SliceVoting" cS_has 2 1 p R s m args c) {x : Int32} {i : Nat} (hi : i < 32) (hl : lv_has ls 2 [(0, .int x), (1, .int (nI i))]) (ret : ∀ (pc : Nat) (ls : Array Slot), decode cS_has pc = .ok (.ireturn, 1) → W p l e R s m args below meth c H locs 0 0 Q (F0 m pc ls [.int (sv_b (bt x i))])) : W p l e R s m args below meth c H locs 0 0 Q (F0 m 0 ls []) := by
  have hx := X.1
  have hb := X.2.1
  refine lv_iload_n (i := 0) hx hb dS_has_0 rfl (sv_at hl rfl) ?_
  refine lv_iload_n (i := 1) hx hb dS_has_1 rfl (sv_at hl rfl) ?_
  refine lv_iushr hx hb dS_has_2 rfl ?_
  refine lv_iconst (v := 1) hx hb dS_has_3 (by decide) ?_
  refine lv_iand hx hb dS_has_4 ?_
  refine x_tv (sv_ush1 x hi) ?_
  refine x_ifeqB (tgt := 12) hx hb dS_has_5 rfl (fun h5 => ?_) (fun h5 => ?_)
  · skip
    refine lv_iconst (v := 0) hx hb dS_has_12 (by decide) ?_
    exact x_tv (by rw [h5]; rfl) (ret _ _ dS_has_13)
  · skip
    refine lv_iconst (v := 1) hx hb dS_has_8 (by decide) ?_
    refine lv_goto (tgt := 13) hx hb dS_has_9 rfl ?_
    exact x_tv (by rw [h5]; rfl) (ret _ _ dS_has_13)

theorem cS_m_has {x : Int32} {i : Nat} (hi : i < 32) : Met l yS_has (sv_ws yS_has cS_has 2 (some .boolean)) (sv_rm 1) (sv_Pc D cI cZ cN cQ [.int x, .int (nI i)] (fun _ => True)) (vp_Si (fun zz => zz = sv_b (bt x i))) 0 0 (fun _ => False) :=
  sv_mkR (by decide) (by show 2 ≤ 2; decide) (sv_narb _) (fun p e s m below meth c ls Q X _ hl ret => wS_has X  hi hl ret)
set_option maxRecDepth 100000 in
theorem okS_S_has : sv_okS "SliceVoting" 66 yS_has cS_has 2 (some .boolean) 2 := ⟨sv_tb_t 147 rfl rfl, sv_tb_t 145 rfl rfl, sv_tb_t 146 rfl rfl, sv_tb_t 1 rfl rfl, ⟨by decide, by decide, by decide +kernel⟩, by decide⟩
theorem kS_has (X : sv_X D cI cZ cN cQ "SliceVoting" cc nL k p R s m args c) (hk : 1 + 1 ≤ k) {x : Int32} {i : Nat} (hi : i < 32) (hl : lv_has ls nL lv) (hc : cells ≤ R.cells) (hs : slots ≤ R.slots) (hcat : (rest.map fun v => v.category).sum ≤ 8) (hd : decode cc pc = .ok (.invokestatic 66, 3)) (kk : W p l e R s m args below meth c H locs cells slots Q (F0 m (pc + 3) ls (.int (sv_b (bt x i)) :: rest))) : W p l e R s m args below meth c H locs cells slots Q (F0 m pc ls (.int (nI i) :: .int x :: rest)) :=
  sv_cS (G := fun _ => True) X okS_S_has (cS_m_has hi) trivial hk rfl hl.1 rfl hcat hc hs hd kk
set_option maxHeartbeats 4000000 in
set_option maxRecDepth 100000 in
theorem wS_ballot (X : sv_X D cI cZ cN cQ "SliceVoting" cS_ballot 2 1 p R s m args c) {a b : Nat} (ha : 1 ≤ a) (hl : lv_has ls 2 [(0, .int (nI a)), (1, .int (nI b))]) (ret : ∀ (pc : Nat) (ls : Array Slot), decode cS_ballot pc = .ok (.ireturn, 1) → W p l e R s m args below meth c H locs 0 0 Q (F0 m pc ls [.int (nI (3 * (a - 1) + b))])) : W p l e R s m args below meth c H locs 0 0 Q (F0 m 0 ls []) := by
  have hx := X.1
  have hb := X.2.1
  refine lv_iconst (v := nI 3) hx hb dS_ballot_0 (by decide) ?_
  refine lv_iload_n (i := 0) hx hb dS_ballot_1 rfl (sv_at hl rfl) ?_
  refine lv_iconst (v := 1) hx hb dS_ballot_2 (by decide) ?_
  refine lv_isub hx hb dS_ballot_3 ?_
  refine lv_imul hx hb dS_ballot_4 ?_
  refine lv_iload_n (i := 1) hx hb dS_ballot_5 rfl (sv_at hl rfl) ?_
  refine lv_iadd hx hb dS_ballot_6 ?_
  exact x_tv (by rw [show (nI a - 1 : Int32) = nI (a - 1) from pk_sub (b := 1) ha, pk_mul, nI_add]) (ret _ _ dS_ballot_7)

theorem cS_m_ballot {a b : Nat} (ha : 1 ≤ a) : Met l yS_ballot (sv_ws yS_ballot cS_ballot 2 (some .int)) (sv_rm 1) (sv_Pc D cI cZ cN cQ [.int (nI a), .int (nI b)] (fun _ => True)) (vp_Si (fun zz => zz = nI (3 * (a - 1) + b))) 0 0 (fun _ => False) :=
  sv_mkR (by decide) (by show 2 ≤ 2; decide) rfl (fun p e s m below meth c ls Q X _ hl ret => wS_ballot X  ha hl ret)
set_option maxRecDepth 100000 in
theorem okS_S_ballot : sv_okS "SliceVoting" 82 yS_ballot cS_ballot 2 (some .int) 2 := ⟨sv_tb_t 168 rfl rfl, sv_tb_t 166 rfl rfl, sv_tb_t 167 rfl rfl, sv_tb_t 1 rfl rfl, ⟨by decide, by decide, by decide +kernel⟩, by decide⟩
theorem kS_ballot (X : sv_X D cI cZ cN cQ "SliceVoting" cc nL k p R s m args c) (hk : 1 + 1 ≤ k) {a b : Nat} (ha : 1 ≤ a) (hl : lv_has ls nL lv) (hc : cells ≤ R.cells) (hs : slots ≤ R.slots) (hcat : (rest.map fun v => v.category).sum ≤ 8) (hd : decode cc pc = .ok (.invokestatic 82, 3)) (kk : W p l e R s m args below meth c H locs cells slots Q (F0 m (pc + 3) ls (.int (nI (3 * (a - 1) + b)) :: rest))) : W p l e R s m args below meth c H locs cells slots Q (F0 m pc ls (.int (nI b) :: .int (nI a) :: rest)) :=
  sv_cS (G := fun _ => True) X okS_S_ballot (cS_m_ballot ha) trivial hk rfl hl.1 rfl hcat hc hs hd kk
set_option maxHeartbeats 4000000 in
set_option maxRecDepth 100000 in
theorem wS_commitOf (X : sv_X D cI cZ cN cQ "SliceVoting" cS_commitOf 1 1 p R s m args c) {b : Nat}  (hl : lv_has ls 1 [(0, .int (nI b))]) (ret : ∀ (pc : Nat) (ls : Array Slot), decode cS_commitOf pc = .ok (.ireturn, 1) → W p l e R s m args below meth c H locs 0 0 Q (F0 m pc ls [.int (nI (12 + b))])) : W p l e R s m args below meth c H locs 0 0 Q (F0 m 0 ls []) := by
  have hx := X.1
  have hb := X.2.1
  refine lv_bipush (v := nI 12) hx hb dS_commitOf_0 (by decide) ?_
  refine lv_iload_n (i := 0) hx hb dS_commitOf_2 rfl (sv_at hl rfl) ?_
  refine lv_iadd hx hb dS_commitOf_3 ?_
  exact x_tv (by rw [nI_add]) (ret _ _ dS_commitOf_4)

theorem cS_m_commitOf {b : Nat}  : Met l yS_commitOf (sv_ws yS_commitOf cS_commitOf 1 (some .int)) (sv_rm 1) (sv_Pc D cI cZ cN cQ [.int (nI b)] (fun _ => True)) (vp_Si (fun zz => zz = nI (12 + b))) 0 0 (fun _ => False) :=
  sv_mkR (by decide) (by show 1 ≤ 1; decide) rfl (fun p e s m below meth c ls Q X _ hl ret => wS_commitOf X   hl ret)
set_option maxRecDepth 100000 in
theorem okS_S_commitOf : sv_okS "SliceVoting" 208 yS_commitOf cS_commitOf 1 (some .int) 1 := ⟨sv_tb_t 236 rfl rfl, sv_tb_t 234 rfl rfl, sv_tb_t 235 rfl rfl, sv_tb_t 1 rfl rfl, ⟨by decide, by decide, by decide +kernel⟩, by decide⟩
theorem kS_commitOf (X : sv_X D cI cZ cN cQ "SliceVoting" cc nL k p R s m args c) (hk : 1 + 1 ≤ k) {b : Nat}  (hl : lv_has ls nL lv) (hc : cells ≤ R.cells) (hs : slots ≤ R.slots) (hcat : (rest.map fun v => v.category).sum ≤ 8) (hd : decode cc pc = .ok (.invokestatic 208, 3)) (kk : W p l e R s m args below meth c H locs cells slots Q (F0 m (pc + 3) ls (.int (nI (12 + b)) :: rest))) : W p l e R s m args below meth c H locs cells slots Q (F0 m pc ls (.int (nI b) :: rest)) :=
  sv_cS (G := fun _ => True) X okS_S_commitOf (cS_m_commitOf ) trivial hk rfl hl.1 rfl hcat hc hs hd kk
set_option maxHeartbeats 4000000 in
set_option maxRecDepth 100000 in
theorem wS_isCommit (X : sv_X D cI cZ cN cQ "SliceVoting" cS_isCommit 1 1 p R s m args c) {a : Nat} (ha : a < 24) (hl : lv_has ls 1 [(0, .int (nI a))]) (ret : ∀ (pc : Nat) (ls : Array Slot), decode cS_isCommit pc = .ok (.ireturn, 1) → W p l e R s m args below meth c H locs 0 0 Q (F0 m pc ls [.int (sv_b (decide (12 ≤ a)))])) : W p l e R s m args below meth c H locs 0 0 Q (F0 m 0 ls []) := by
  have hx := X.1
  have hb := X.2.1
  refine lv_iload_n (i := 0) hx hb dS_isCommit_0 rfl (sv_at hl rfl) ?_
  refine lv_bipush (v := nI 12) hx hb dS_isCommit_1 (by decide) ?_
  refine lv_icmp_lt (tgt := 10) hx hb dS_isCommit_3 rfl (fun h3 => ?_) (fun h3 => ?_)
  · skip
    refine lv_iconst (v := 0) hx hb dS_isCommit_10 (by decide) ?_
    exact x_tv (by rw [nI_ltI (by omega) (by omega)] at h3; first | (rw [decide_eq_false (by omega)]; rfl) | (rw [decide_eq_true (by omega)]; rfl)) (ret _ _ dS_isCommit_11)
  · skip
    refine lv_iconst (v := 1) hx hb dS_isCommit_6 (by decide) ?_
    refine lv_goto (tgt := 11) hx hb dS_isCommit_7 rfl ?_
    exact x_tv (by rw [nI_ltI (by omega) (by omega)] at h3; first | (rw [decide_eq_false (by omega)]; rfl) | (rw [decide_eq_true (by omega)]; rfl)) (ret _ _ dS_isCommit_11)

theorem cS_m_isCommit {a : Nat} (ha : a < 24) : Met l yS_isCommit (sv_ws yS_isCommit cS_isCommit 1 (some .boolean)) (sv_rm 1) (sv_Pc D cI cZ cN cQ [.int (nI a)] (fun _ => True)) (vp_Si (fun zz => zz = sv_b (decide (12 ≤ a)))) 0 0 (fun _ => False) :=
  sv_mkR (by decide) (by show 1 ≤ 1; decide) (sv_narb _) (fun p e s m below meth c ls Q X _ hl ret => wS_isCommit X  ha hl ret)
set_option maxRecDepth 100000 in
theorem okS_S_isCommit : sv_okS "SliceVoting" 167 yS_isCommit cS_isCommit 1 (some .boolean) 1 := ⟨sv_tb_t 180 rfl rfl, sv_tb_t 178 rfl rfl, sv_tb_t 179 rfl rfl, sv_tb_t 1 rfl rfl, ⟨by decide, by decide, by decide +kernel⟩, by decide⟩
theorem kS_isCommit (X : sv_X D cI cZ cN cQ "SliceVoting" cc nL k p R s m args c) (hk : 1 + 1 ≤ k) {a : Nat} (ha : a < 24) (hl : lv_has ls nL lv) (hc : cells ≤ R.cells) (hs : slots ≤ R.slots) (hcat : (rest.map fun v => v.category).sum ≤ 8) (hd : decode cc pc = .ok (.invokestatic 167, 3)) (kk : W p l e R s m args below meth c H locs cells slots Q (F0 m (pc + 3) ls (.int (sv_b (decide (12 ≤ a))) :: rest))) : W p l e R s m args below meth c H locs cells slots Q (F0 m pc ls (.int (nI a) :: rest)) :=
  sv_cS (G := fun _ => True) X okS_S_isCommit (cS_m_isCommit ha) trivial hk rfl hl.1 rfl hcat hc hs hd kk
set_option maxHeartbeats 4000000 in
set_option maxRecDepth 100000 in
theorem wS_ballotOf (X : sv_X D cI cZ cN cQ "SliceVoting" cS_ballotOf 1 1 p R s m args c) {a : Nat} (ha : a < 24) (hl : lv_has ls 1 [(0, .int (nI a))]) (ret : ∀ (pc : Nat) (ls : Array Slot), decode cS_ballotOf pc = .ok (.ireturn, 1) → W p l e R s m args below meth c H locs 0 0 Q (F0 m pc ls [.int (nI (a % 12))])) : W p l e R s m args below meth c H locs 0 0 Q (F0 m 0 ls []) := by
  have hx := X.1
  have hb := X.2.1
  refine lv_iload_n (i := 0) hx hb dS_ballotOf_0 rfl (sv_at hl rfl) ?_
  refine lv_bipush (v := nI 12) hx hb dS_ballotOf_1 (by decide) ?_
  refine lv_irem hx hb dS_ballotOf_3 (by decide) ?_
  exact x_tv (by rw [pk_rem (by omega) (by decide) (by decide)]) (ret _ _ dS_ballotOf_4)

theorem cS_m_ballotOf {a : Nat} (ha : a < 24) : Met l yS_ballotOf (sv_ws yS_ballotOf cS_ballotOf 1 (some .int)) (sv_rm 1) (sv_Pc D cI cZ cN cQ [.int (nI a)] (fun _ => True)) (vp_Si (fun zz => zz = nI (a % 12))) 0 0 (fun _ => False) :=
  sv_mkR (by decide) (by show 1 ≤ 1; decide) rfl (fun p e s m below meth c ls Q X _ hl ret => wS_ballotOf X  ha hl ret)
set_option maxRecDepth 100000 in
theorem okS_S_ballotOf : sv_okS "SliceVoting" 170 yS_ballotOf cS_ballotOf 1 (some .int) 1 := ⟨sv_tb_t 183 rfl rfl, sv_tb_t 181 rfl rfl, sv_tb_t 182 rfl rfl, sv_tb_t 1 rfl rfl, ⟨by decide, by decide, by decide +kernel⟩, by decide⟩
theorem kS_ballotOf (X : sv_X D cI cZ cN cQ "SliceVoting" cc nL k p R s m args c) (hk : 1 + 1 ≤ k) {a : Nat} (ha : a < 24) (hl : lv_has ls nL lv) (hc : cells ≤ R.cells) (hs : slots ≤ R.slots) (hcat : (rest.map fun v => v.category).sum ≤ 8) (hd : decode cc pc = .ok (.invokestatic 170, 3)) (kk : W p l e R s m args below meth c H locs cells slots Q (F0 m (pc + 3) ls (.int (nI (a % 12)) :: rest))) : W p l e R s m args below meth c H locs cells slots Q (F0 m pc ls (.int (nI a) :: rest)) :=
  sv_cS (G := fun _ => True) X okS_S_ballotOf (cS_m_ballotOf ha) trivial hk rfl hl.1 rfl hcat hc hs hd kk
set_option maxHeartbeats 4000000 in
set_option maxRecDepth 100000 in
theorem wS_valueOf (X : sv_X D cI cZ cN cQ "SliceVoting" cS_valueOf 1 1 p R s m args c) {a : Nat} (ha : a < 24) (hl : lv_has ls 1 [(0, .int (nI a))]) (ret : ∀ (pc : Nat) (ls : Array Slot), decode cS_valueOf pc = .ok (.ireturn, 1) → W p l e R s m args below meth c H locs 0 0 Q (F0 m pc ls [.int (nI (a % 3))])) : W p l e R s m args below meth c H locs 0 0 Q (F0 m 0 ls []) := by
  have hx := X.1
  have hb := X.2.1
  refine lv_iload_n (i := 0) hx hb dS_valueOf_0 rfl (sv_at hl rfl) ?_
  refine lv_iconst (v := nI 3) hx hb dS_valueOf_1 (by decide) ?_
  refine lv_irem hx hb dS_valueOf_2 (by decide) ?_
  exact x_tv (by rw [pk_rem (by omega) (by decide) (by decide)]) (ret _ _ dS_valueOf_3)

theorem cS_m_valueOf {a : Nat} (ha : a < 24) : Met l yS_valueOf (sv_ws yS_valueOf cS_valueOf 1 (some .int)) (sv_rm 1) (sv_Pc D cI cZ cN cQ [.int (nI a)] (fun _ => True)) (vp_Si (fun zz => zz = nI (a % 3))) 0 0 (fun _ => False) :=
  sv_mkR (by decide) (by show 1 ≤ 1; decide) rfl (fun p e s m below meth c ls Q X _ hl ret => wS_valueOf X  ha hl ret)
set_option maxRecDepth 100000 in
theorem okS_S_valueOf : sv_okS "SliceVoting" 164 yS_valueOf cS_valueOf 1 (some .int) 1 := ⟨sv_tb_t 165 rfl rfl, sv_tb_t 163 rfl rfl, sv_tb_t 164 rfl rfl, sv_tb_t 1 rfl rfl, ⟨by decide, by decide, by decide +kernel⟩, by decide⟩
theorem kS_valueOf (X : sv_X D cI cZ cN cQ "SliceVoting" cc nL k p R s m args c) (hk : 1 + 1 ≤ k) {a : Nat} (ha : a < 24) (hl : lv_has ls nL lv) (hc : cells ≤ R.cells) (hs : slots ≤ R.slots) (hcat : (rest.map fun v => v.category).sum ≤ 8) (hd : decode cc pc = .ok (.invokestatic 164, 3)) (kk : W p l e R s m args below meth c H locs cells slots Q (F0 m (pc + 3) ls (.int (nI (a % 3)) :: rest))) : W p l e R s m args below meth c H locs cells slots Q (F0 m pc ls (.int (nI a) :: rest)) :=
  sv_cS (G := fun _ => True) X okS_S_valueOf (cS_m_valueOf ha) trivial hk rfl hl.1 rfl hcat hc hs hd kk
def sv_conC (a b : Nat) : Bool := bif decide (a % 3 = b % 3) then false else bif decide (12 ≤ a) && decide (12 ≤ b) then true else (decide (12 ≤ a) && decide (a % 12 < b % 12)) || (decide (12 ≤ b) && decide (b % 12 < a % 12))
theorem sv_conC_eq : ∀ a, a < 24 → ∀ b, b < 24 → sv_conC a b = sv_con a b := by decide +kernel
set_option maxHeartbeats 4000000 in
set_option maxRecDepth 100000 in
theorem wS_contradict (X : sv_X D cI cZ cN cQ "SliceVoting" cS_contradict 2 2 p R s m args c) {a b : Nat} (ha : a < 24) (hb2 : b < 24) (hl : lv_has ls 2 [(0, .int (nI a)), (1, .int (nI b))]) (ret : ∀ (pc : Nat) (ls : Array Slot), decode cS_contradict pc = .ok (.ireturn, 1) → W p l e R s m args below meth c H locs 0 0 Q (F0 m pc ls [.int (sv_b (sv_con a b))])) : W p l e R s m args below meth c H locs 0 0 Q (F0 m 0 ls []) := by
  have hx := X.1
  have hb := X.2.1
  refine lv_iload_n (i := 0) hx hb dS_contradict_0 rfl (sv_at hl rfl) ?_
  refine kS_valueOf X (by decide) (by omega) hl (Nat.zero_le _) (Nat.zero_le _) (Nat.le_of_ble_eq_true rfl) dS_contradict_1 ?_
  refine lv_iload_n (i := 1) hx hb dS_contradict_4 rfl (sv_at hl rfl) ?_
  refine kS_valueOf X (by decide) (by omega) hl (Nat.zero_le _) (Nat.zero_le _) (Nat.le_of_ble_eq_true rfl) dS_contradict_5 ?_
  refine lv_icmp_ne (tgt := 13) hx hb dS_contradict_8 rfl (fun h8 => ?_) (fun h8 => ?_)
  · skip
    rw [nI_eq (by omega) (by omega)] at h8
    refine lv_iload_n (i := 0) hx hb dS_contradict_13 rfl (sv_at hl rfl) ?_
    refine kS_isCommit X (by decide) (by omega) hl (Nat.zero_le _) (Nat.zero_le _) (Nat.le_of_ble_eq_true rfl) dS_contradict_14 ?_
    refine x_ifeqB (tgt := 29) hx hb dS_contradict_17 rfl (fun h17 => ?_) (fun h17 => ?_)
    · skip
      refine lv_iload_n (i := 0) hx hb dS_contradict_29 rfl (sv_at hl rfl) ?_
      refine kS_isCommit X (by decide) (by omega) hl (Nat.zero_le _) (Nat.zero_le _) (Nat.le_of_ble_eq_true rfl) dS_contradict_30 ?_
      refine x_ifeqB (tgt := 47) hx hb dS_contradict_33 rfl (fun h33 => ?_) (fun h33 => ?_)
      · skip
        refine lv_iload_n (i := 1) hx hb dS_contradict_47 rfl (sv_at hl rfl) ?_
        refine kS_isCommit X (by decide) (by omega) hl (Nat.zero_le _) (Nat.zero_le _) (Nat.le_of_ble_eq_true rfl) dS_contradict_48 ?_
        refine x_ifeqB (tgt := 69) hx hb dS_contradict_51 rfl (fun h51 => ?_) (fun h51 => ?_)
        · skip
          refine lv_iconst (v := 0) hx hb dS_contradict_69 (by decide) ?_
          exact x_tv (by clear ret hl hx hb X; rw [← sv_conC_eq a ha b hb2]; unfold sv_conC; first | (simp_all [sv_b]; done) | (simp_all [sv_b]; grind)) (ret _ _ dS_contradict_70)
        · skip
          refine lv_iload_n (i := 0) hx hb dS_contradict_54 rfl (sv_at hl rfl) ?_
          refine kS_ballotOf X (by decide) (by omega) hl (Nat.zero_le _) (Nat.zero_le _) (Nat.le_of_ble_eq_true rfl) dS_contradict_55 ?_
          refine lv_iload_n (i := 1) hx hb dS_contradict_58 rfl (sv_at hl rfl) ?_
          refine kS_ballotOf X (by decide) (by omega) hl (Nat.zero_le _) (Nat.zero_le _) (Nat.le_of_ble_eq_true rfl) dS_contradict_59 ?_
          refine lv_icmp_le (tgt := 69) hx hb dS_contradict_62 rfl (fun h62 => ?_) (fun h62 => ?_)
          · skip
            rw [nI_leI (by omega) (by omega)] at h62
            refine lv_iconst (v := 0) hx hb dS_contradict_69 (by decide) ?_
            exact x_tv (by clear ret hl hx hb X; rw [← sv_conC_eq a ha b hb2]; unfold sv_conC; first | (simp_all [sv_b]; done) | (simp_all [sv_b]; grind)) (ret _ _ dS_contradict_70)
          · skip
            rw [nI_leI (by omega) (by omega)] at h62
            refine lv_iconst (v := 1) hx hb dS_contradict_65 (by decide) ?_
            refine lv_goto (tgt := 70) hx hb dS_contradict_66 rfl ?_
            exact x_tv (by clear ret hl hx hb X; rw [← sv_conC_eq a ha b hb2]; unfold sv_conC; first | (simp_all [sv_b]; done) | (simp_all [sv_b]; grind)) (ret _ _ dS_contradict_70)
      · skip
        refine lv_iload_n (i := 1) hx hb dS_contradict_36 rfl (sv_at hl rfl) ?_
        refine kS_ballotOf X (by decide) (by omega) hl (Nat.zero_le _) (Nat.zero_le _) (Nat.le_of_ble_eq_true rfl) dS_contradict_37 ?_
        refine lv_iload_n (i := 0) hx hb dS_contradict_40 rfl (sv_at hl rfl) ?_
        refine kS_ballotOf X (by decide) (by omega) hl (Nat.zero_le _) (Nat.zero_le _) (Nat.le_of_ble_eq_true rfl) dS_contradict_41 ?_
        refine lv_icmp_gt (tgt := 65) hx hb dS_contradict_44 rfl (fun h44 => ?_) (fun h44 => ?_)
        · skip
          rw [nI_ltI (by omega) (by omega)] at h44
          refine lv_iconst (v := 1) hx hb dS_contradict_65 (by decide) ?_
          refine lv_goto (tgt := 70) hx hb dS_contradict_66 rfl ?_
          exact x_tv (by clear ret hl hx hb X; rw [← sv_conC_eq a ha b hb2]; unfold sv_conC; first | (simp_all [sv_b]; done) | (simp_all [sv_b]; grind)) (ret _ _ dS_contradict_70)
        · skip
          rw [nI_ltI (by omega) (by omega)] at h44
          refine lv_iload_n (i := 1) hx hb dS_contradict_47 rfl (sv_at hl rfl) ?_
          refine kS_isCommit X (by decide) (by omega) hl (Nat.zero_le _) (Nat.zero_le _) (Nat.le_of_ble_eq_true rfl) dS_contradict_48 ?_
          refine x_ifeqB (tgt := 69) hx hb dS_contradict_51 rfl (fun h51 => ?_) (fun h51 => ?_)
          · skip
            refine lv_iconst (v := 0) hx hb dS_contradict_69 (by decide) ?_
            exact x_tv (by clear ret hl hx hb X; rw [← sv_conC_eq a ha b hb2]; unfold sv_conC; first | (simp_all [sv_b]; done) | (simp_all [sv_b]; grind)) (ret _ _ dS_contradict_70)
          · skip
            refine lv_iload_n (i := 0) hx hb dS_contradict_54 rfl (sv_at hl rfl) ?_
            refine kS_ballotOf X (by decide) (by omega) hl (Nat.zero_le _) (Nat.zero_le _) (Nat.le_of_ble_eq_true rfl) dS_contradict_55 ?_
            refine lv_iload_n (i := 1) hx hb dS_contradict_58 rfl (sv_at hl rfl) ?_
            refine kS_ballotOf X (by decide) (by omega) hl (Nat.zero_le _) (Nat.zero_le _) (Nat.le_of_ble_eq_true rfl) dS_contradict_59 ?_
            refine lv_icmp_le (tgt := 69) hx hb dS_contradict_62 rfl (fun h62 => ?_) (fun h62 => ?_)
            · skip
              rw [nI_leI (by omega) (by omega)] at h62
              refine lv_iconst (v := 0) hx hb dS_contradict_69 (by decide) ?_
              exact x_tv (by clear ret hl hx hb X; rw [← sv_conC_eq a ha b hb2]; unfold sv_conC; first | (simp_all [sv_b]; done) | (simp_all [sv_b]; grind)) (ret _ _ dS_contradict_70)
            · skip
              rw [nI_leI (by omega) (by omega)] at h62
              refine lv_iconst (v := 1) hx hb dS_contradict_65 (by decide) ?_
              refine lv_goto (tgt := 70) hx hb dS_contradict_66 rfl ?_
              exact x_tv (by clear ret hl hx hb X; rw [← sv_conC_eq a ha b hb2]; unfold sv_conC; first | (simp_all [sv_b]; done) | (simp_all [sv_b]; grind)) (ret _ _ dS_contradict_70)
    · skip
      refine lv_iload_n (i := 1) hx hb dS_contradict_20 rfl (sv_at hl rfl) ?_
      refine kS_isCommit X (by decide) (by omega) hl (Nat.zero_le _) (Nat.zero_le _) (Nat.le_of_ble_eq_true rfl) dS_contradict_21 ?_
      refine x_ifeqB (tgt := 29) hx hb dS_contradict_24 rfl (fun h24 => ?_) (fun h24 => ?_)
      · skip
        refine lv_iload_n (i := 0) hx hb dS_contradict_29 rfl (sv_at hl rfl) ?_
        refine kS_isCommit X (by decide) (by omega) hl (Nat.zero_le _) (Nat.zero_le _) (Nat.le_of_ble_eq_true rfl) dS_contradict_30 ?_
        refine x_ifeqB (tgt := 47) hx hb dS_contradict_33 rfl (fun h33 => ?_) (fun h33 => ?_)
        · skip
          refine lv_iload_n (i := 1) hx hb dS_contradict_47 rfl (sv_at hl rfl) ?_
          refine kS_isCommit X (by decide) (by omega) hl (Nat.zero_le _) (Nat.zero_le _) (Nat.le_of_ble_eq_true rfl) dS_contradict_48 ?_
          refine x_ifeqB (tgt := 69) hx hb dS_contradict_51 rfl (fun h51 => ?_) (fun h51 => ?_)
          · skip
            refine lv_iconst (v := 0) hx hb dS_contradict_69 (by decide) ?_
            exact x_tv (by clear ret hl hx hb X; rw [← sv_conC_eq a ha b hb2]; unfold sv_conC; first | (simp_all [sv_b]; done) | (simp_all [sv_b]; grind)) (ret _ _ dS_contradict_70)
          · skip
            refine lv_iload_n (i := 0) hx hb dS_contradict_54 rfl (sv_at hl rfl) ?_
            refine kS_ballotOf X (by decide) (by omega) hl (Nat.zero_le _) (Nat.zero_le _) (Nat.le_of_ble_eq_true rfl) dS_contradict_55 ?_
            refine lv_iload_n (i := 1) hx hb dS_contradict_58 rfl (sv_at hl rfl) ?_
            refine kS_ballotOf X (by decide) (by omega) hl (Nat.zero_le _) (Nat.zero_le _) (Nat.le_of_ble_eq_true rfl) dS_contradict_59 ?_
            refine lv_icmp_le (tgt := 69) hx hb dS_contradict_62 rfl (fun h62 => ?_) (fun h62 => ?_)
            · skip
              rw [nI_leI (by omega) (by omega)] at h62
              refine lv_iconst (v := 0) hx hb dS_contradict_69 (by decide) ?_
              exact x_tv (by clear ret hl hx hb X; rw [← sv_conC_eq a ha b hb2]; unfold sv_conC; first | (simp_all [sv_b]; done) | (simp_all [sv_b]; grind)) (ret _ _ dS_contradict_70)
            · skip
              rw [nI_leI (by omega) (by omega)] at h62
              refine lv_iconst (v := 1) hx hb dS_contradict_65 (by decide) ?_
              refine lv_goto (tgt := 70) hx hb dS_contradict_66 rfl ?_
              exact x_tv (by clear ret hl hx hb X; rw [← sv_conC_eq a ha b hb2]; unfold sv_conC; first | (simp_all [sv_b]; done) | (simp_all [sv_b]; grind)) (ret _ _ dS_contradict_70)
        · skip
          refine lv_iload_n (i := 1) hx hb dS_contradict_36 rfl (sv_at hl rfl) ?_
          refine kS_ballotOf X (by decide) (by omega) hl (Nat.zero_le _) (Nat.zero_le _) (Nat.le_of_ble_eq_true rfl) dS_contradict_37 ?_
          refine lv_iload_n (i := 0) hx hb dS_contradict_40 rfl (sv_at hl rfl) ?_
          refine kS_ballotOf X (by decide) (by omega) hl (Nat.zero_le _) (Nat.zero_le _) (Nat.le_of_ble_eq_true rfl) dS_contradict_41 ?_
          refine lv_icmp_gt (tgt := 65) hx hb dS_contradict_44 rfl (fun h44 => ?_) (fun h44 => ?_)
          · skip
            rw [nI_ltI (by omega) (by omega)] at h44
            refine lv_iconst (v := 1) hx hb dS_contradict_65 (by decide) ?_
            refine lv_goto (tgt := 70) hx hb dS_contradict_66 rfl ?_
            exact x_tv (by clear ret hl hx hb X; rw [← sv_conC_eq a ha b hb2]; unfold sv_conC; first | (simp_all [sv_b]; done) | (simp_all [sv_b]; grind)) (ret _ _ dS_contradict_70)
          · skip
            rw [nI_ltI (by omega) (by omega)] at h44
            refine lv_iload_n (i := 1) hx hb dS_contradict_47 rfl (sv_at hl rfl) ?_
            refine kS_isCommit X (by decide) (by omega) hl (Nat.zero_le _) (Nat.zero_le _) (Nat.le_of_ble_eq_true rfl) dS_contradict_48 ?_
            refine x_ifeqB (tgt := 69) hx hb dS_contradict_51 rfl (fun h51 => ?_) (fun h51 => ?_)
            · skip
              refine lv_iconst (v := 0) hx hb dS_contradict_69 (by decide) ?_
              exact x_tv (by clear ret hl hx hb X; rw [← sv_conC_eq a ha b hb2]; unfold sv_conC; first | (simp_all [sv_b]; done) | (simp_all [sv_b]; grind)) (ret _ _ dS_contradict_70)
            · skip
              refine lv_iload_n (i := 0) hx hb dS_contradict_54 rfl (sv_at hl rfl) ?_
              refine kS_ballotOf X (by decide) (by omega) hl (Nat.zero_le _) (Nat.zero_le _) (Nat.le_of_ble_eq_true rfl) dS_contradict_55 ?_
              refine lv_iload_n (i := 1) hx hb dS_contradict_58 rfl (sv_at hl rfl) ?_
              refine kS_ballotOf X (by decide) (by omega) hl (Nat.zero_le _) (Nat.zero_le _) (Nat.le_of_ble_eq_true rfl) dS_contradict_59 ?_
              refine lv_icmp_le (tgt := 69) hx hb dS_contradict_62 rfl (fun h62 => ?_) (fun h62 => ?_)
              · skip
                rw [nI_leI (by omega) (by omega)] at h62
                refine lv_iconst (v := 0) hx hb dS_contradict_69 (by decide) ?_
                exact x_tv (by clear ret hl hx hb X; rw [← sv_conC_eq a ha b hb2]; unfold sv_conC; first | (simp_all [sv_b]; done) | (simp_all [sv_b]; grind)) (ret _ _ dS_contradict_70)
              · skip
                rw [nI_leI (by omega) (by omega)] at h62
                refine lv_iconst (v := 1) hx hb dS_contradict_65 (by decide) ?_
                refine lv_goto (tgt := 70) hx hb dS_contradict_66 rfl ?_
                exact x_tv (by clear ret hl hx hb X; rw [← sv_conC_eq a ha b hb2]; unfold sv_conC; first | (simp_all [sv_b]; done) | (simp_all [sv_b]; grind)) (ret _ _ dS_contradict_70)
      · skip
        refine lv_iconst (v := 1) hx hb dS_contradict_27 (by decide) ?_
        exact x_tv (by clear ret hl hx hb X; rw [← sv_conC_eq a ha b hb2]; unfold sv_conC; first | (simp_all [sv_b]; done) | (simp_all [sv_b]; grind)) (ret _ _ dS_contradict_28)
  · skip
    rw [nI_eq (by omega) (by omega)] at h8
    refine lv_iconst (v := 0) hx hb dS_contradict_11 (by decide) ?_
    exact x_tv (by clear ret hl hx hb X; rw [← sv_conC_eq a ha b hb2]; unfold sv_conC; first | (simp_all [sv_b]; done) | (simp_all [sv_b]; grind)) (ret _ _ dS_contradict_12)

theorem cS_m_contradict {a b : Nat} (ha : a < 24) (hb2 : b < 24) : Met l yS_contradict (sv_ws yS_contradict cS_contradict 2 (some .boolean)) (sv_rm 2) (sv_Pc D cI cZ cN cQ [.int (nI a), .int (nI b)] (fun _ => True)) (vp_Si (fun zz => zz = sv_b (sv_con a b))) 0 0 (fun _ => False) :=
  sv_mkR (by decide) (by show 2 ≤ 2; decide) (sv_narb _) (fun p e s m below meth c ls Q X _ hl ret => wS_contradict X  ha hb2 hl ret)
set_option maxRecDepth 100000 in
theorem okS_S_contradict : sv_okS "SliceVoting" 173 yS_contradict cS_contradict 2 (some .boolean) 2 := ⟨sv_tb_t 177 rfl rfl, sv_tb_t 175 rfl rfl, sv_tb_t 176 rfl rfl, sv_tb_t 1 rfl rfl, ⟨by decide, by decide, by decide +kernel⟩, by decide⟩
theorem kS_contradict (X : sv_X D cI cZ cN cQ "SliceVoting" cc nL k p R s m args c) (hk : 2 + 1 ≤ k) {a b : Nat} (ha : a < 24) (hb2 : b < 24) (hl : lv_has ls nL lv) (hc : cells ≤ R.cells) (hs : slots ≤ R.slots) (hcat : (rest.map fun v => v.category).sum ≤ 8) (hd : decode cc pc = .ok (.invokestatic 173, 3)) (kk : W p l e R s m args below meth c H locs cells slots Q (F0 m (pc + 3) ls (.int (sv_b (sv_con a b)) :: rest))) : W p l e R s m args below meth c H locs cells slots Q (F0 m pc ls (.int (nI b) :: .int (nI a) :: rest)) :=
  sv_cS (G := fun _ => True) X okS_S_contradict (cS_m_contradict ha hb2) trivial hk rfl hl.1 rfl hcat hc hs hd kk
end SvStat
end
section
section SvClass1
variable {p : Program} {l : Launch} {e : Env} {R : Room} {s : State} {m : MethodId} {args : Array Value} {below : List Frame} {meth : Method} {c : Code} {H H0 : Heap} {locs : List Loc} {cells slots : Nat} {Q : State → Prop}
variable {cc : ByteArray} {pc nL k : Nat} {ls : Array Slot} {lv : List (Nat × Value)} {rest : List Value} {D : va_G} {cI cZ cN cQ : ClassId} {n qc : Nat} {ad : Nat → Nat} {σ : Sg} {A : Nat → Prop} {mt qm : Nat → Int32}
theorem sv_inc (i : Nat) : nI i + Int32.ofInt 1 = nI (i + 1) := by rw [nI_succ]; rfl
theorem sv_dec (i : Nat) : nI (i + 1) + Int32.ofInt (-1) = nI i := pk_m1 i
set_option maxHeartbeats 4000000 in
set_option maxRecDepth 100000 in
theorem wS_contradictsOneOf (X : sv_X D cI cZ cN cQ "SliceVoting" cS_contradictsOneOf 3 3 p R s m args c) {x : Int32} {a : Nat} (ha : a < 24) (hl : lv_has ls 3 [(0, .int (nI a)), (1, .int x)]) (ret : ∀ (pc : Nat) (ls : Array Slot), decode cS_contradictsOneOf pc = .ok (.ireturn, 1) → W p l e R s m args below meth c H locs 0 0 Q (F0 m pc ls [.int (sv_b (sv_aga x a))])) : W p l e R s m args below meth c H locs 0 0 Q (F0 m 0 ls []) := by
  have hx := X.1
  have hb := X.2.1
  have J2 : ∀ (kf : Nat) (i : Nat) (ls : Array Slot), 24 - i < kf → (i ≤ 24) → (∀ t, t < i → (bt x t && sv_con a t) = false) → lv_has ls 3 [(0, .int (nI a)), (1, .int x), (2, .int (nI i))] → W p l e R s m args below meth c H locs 0 0 Q (F0 m 2 ls []) := by
    intro kf
    induction kf with
    | zero => intro i ls hm; exact absurd hm (Nat.not_lt_zero _)
    | succ kf ih =>
      intro i ls hm hi hno hl
      refine lv_iload_n (i := 2) hx hb dS_contradictsOneOf_2 rfl (sv_at hl rfl) ?_
      refine lv_bipush (v := nI 24) hx hb dS_contradictsOneOf_3 (by decide) ?_
      refine lv_icmp_ge (tgt := 32) hx hb dS_contradictsOneOf_5 rfl (fun h5 => ?_) (fun h5 => ?_)
      · skip
        rw [nI_leI (by omega) (by omega)] at h5
        refine lv_iconst (v := 0) hx hb dS_contradictsOneOf_32 (by decide) ?_
        exact x_tv (by unfold sv_aga; rw [sv_any_no 24 (fun j hj => hno j (by omega))]; rfl) (ret _ _ dS_contradictsOneOf_33)
      · skip
        rw [nI_leI (by omega) (by omega)] at h5
        refine lv_iload_n (i := 1) hx hb dS_contradictsOneOf_8 rfl (sv_at hl rfl) ?_
        refine lv_iload_n (i := 2) hx hb dS_contradictsOneOf_9 rfl (sv_at hl rfl) ?_
        refine kS_has X (by decide) (by omega) hl (Nat.zero_le _) (Nat.zero_le _) (Nat.le_of_ble_eq_true rfl) dS_contradictsOneOf_10 ?_
        refine x_ifeqB (tgt := 26) hx hb dS_contradictsOneOf_13 rfl (fun h13 => ?_) (fun h13 => ?_)
        · skip
          refine x_iinc (i := 2) hx hb dS_contradictsOneOf_26 hl rfl (sv_inc i) (by decide) (fun ls hl => ?_)
          refine lv_goto (tgt := 2) hx hb dS_contradictsOneOf_29 rfl ?_
          exact ih (i + 1) ls (by omega) (by omega) (lt_s hno (by first | (simp [h13]; done) | (simp [h21]; done))) (sv_re hl ⟨rfl, rfl, rfl, trivial⟩)
        · skip
          refine lv_iload_n (i := 0) hx hb dS_contradictsOneOf_16 rfl (sv_at hl rfl) ?_
          refine lv_iload_n (i := 2) hx hb dS_contradictsOneOf_17 rfl (sv_at hl rfl) ?_
          refine kS_contradict X (by decide) (by omega) (by omega) hl (Nat.zero_le _) (Nat.zero_le _) (Nat.le_of_ble_eq_true rfl) dS_contradictsOneOf_18 ?_
          refine x_ifeqB (tgt := 26) hx hb dS_contradictsOneOf_21 rfl (fun h21 => ?_) (fun h21 => ?_)
          · skip
            refine x_iinc (i := 2) hx hb dS_contradictsOneOf_26 hl rfl (sv_inc i) (by decide) (fun ls hl => ?_)
            refine lv_goto (tgt := 2) hx hb dS_contradictsOneOf_29 rfl ?_
            exact ih (i + 1) ls (by omega) (by omega) (lt_s hno (by first | (simp [h13]; done) | (simp [h21]; done))) (sv_re hl ⟨rfl, rfl, rfl, trivial⟩)
          · skip
            refine lv_iconst (v := 1) hx hb dS_contradictsOneOf_24 (by decide) ?_
            exact x_tv (by unfold sv_aga; rw [sv_any_yes 24 (show i < 24 by omega) (by simp [h13, h21])]; rfl) (ret _ _ dS_contradictsOneOf_25)
  refine lv_iconst (v := 0) hx hb dS_contradictsOneOf_0 (by decide) ?_
  refine lv_istore_n (i := 2) hx hb dS_contradictsOneOf_1 rfl hl (by decide) rfl (fun ls hl => ?_)
  exact J2 _ 0 ls (Nat.lt_succ_self _) (Nat.zero_le _) lt_0 (sv_re hl ⟨rfl, rfl, rfl, trivial⟩)

theorem cS_m_contradictsOneOf {x : Int32} {a : Nat} (ha : a < 24) : Met l yS_contradictsOneOf (sv_ws yS_contradictsOneOf cS_contradictsOneOf 3 (some .boolean)) (sv_rm 3) (sv_Pc D cI cZ cN cQ [.int (nI a), .int x] (fun _ => True)) (vp_Si (fun zz => zz = sv_b (sv_aga x a))) 0 0 (fun _ => False) :=
  sv_mkR (by decide) (by show 2 ≤ 3; decide) (sv_narb _) (fun p e s m below meth c ls Q X _ hl ret => wS_contradictsOneOf X  ha hl ret)
theorem okS_S_contradictsOneOf : sv_okS "SliceVoting" 178 yS_contradictsOneOf cS_contradictsOneOf 3 (some .boolean) 2 := ⟨sv_tb_t 174 rfl rfl, sv_tb_t 172 rfl rfl, sv_tb_t 173 rfl rfl, sv_tb_t 1 rfl rfl, ⟨by decide, by decide, by decide +kernel⟩, by decide⟩
theorem kS_contradictsOneOf (X : sv_X D cI cZ cN cQ "SliceVoting" cc nL k p R s m args c) (hk : 3 + 1 ≤ k) {x : Int32} {a : Nat} (ha : a < 24) (hl : lv_has ls nL lv) (hc : cells ≤ R.cells) (hs : slots ≤ R.slots) (hcat : (rest.map fun v => v.category).sum ≤ 8) (hd : decode cc pc = .ok (.invokestatic 178, 3)) (kk : W p l e R s m args below meth c H locs cells slots Q (F0 m (pc + 3) ls (.int (sv_b (sv_aga x a)) :: rest))) : W p l e R s m args below meth c H locs cells slots Q (F0 m pc ls (.int x :: .int (nI a) :: rest)) :=
  sv_cS (G := fun _ => True) X okS_S_contradictsOneOf (cS_m_contradictsOneOf ha) trivial hk rfl hl.1 rfl hcat hc hs hd kk
set_option maxHeartbeats 4000000 in
set_option maxRecDepth 100000 in
theorem wS_isNode (X : sv_X D cI cZ cN cQ "SliceVoting" cS_isNode 2 1 p R s m args c) (hP : sv_cP D cI cN cQ n qc ad σ H) {v : Int32}  (hl : lv_has ls 2 [(0, .ref (ad 0)), (1, .int v)]) (ret : ∀ (pc : Nat) (ls : Array Slot), decode cS_isNode pc = .ok (.ireturn, 1) → W p l e R s m args below meth c H locs 0 0 Q (F0 m pc ls [.int (sv_b (sv_isn n v))])) : W p l e R s m args below meth c H locs 0 0 Q (F0 m 0 ls []) := by
  have hx := X.1
  have hb := X.2.1
  refine lv_iload_n (i := 1) hx hb dS_isNode_0 rfl (sv_at hl rfl) ?_
  refine lv_if_lt (tgt := 17) hx hb dS_isNode_1 rfl (fun h1 => ?_) (fun h1 => ?_)
  · skip
    refine lv_iconst (v := 0) hx hb dS_isNode_17 (by decide) ?_
    exact x_tv (by unfold sv_isn; simp_all [sv_b]) (ret _ _ dS_isNode_18)
  · skip
    refine lv_iload_n (i := 1) hx hb dS_isNode_4 rfl (sv_at hl rfl) ?_
    refine lv_aload_n (i := 0) hx hb dS_isNode_5 rfl (sv_at hl rfl) ?_
    refine gS_nodes X hP dS_isNode_6 ?_
    refine gL_nodes X hP dS_isNode_9 ?_
    refine lv_icmp_ge (tgt := 17) hx hb dS_isNode_10 rfl (fun h10 => ?_) (fun h10 => ?_)
    · skip
      refine lv_iconst (v := 0) hx hb dS_isNode_17 (by decide) ?_
      exact x_tv (by unfold sv_isn; simp_all [sv_b]) (ret _ _ dS_isNode_18)
    · skip
      refine lv_iconst (v := 1) hx hb dS_isNode_13 (by decide) ?_
      refine lv_goto (tgt := 18) hx hb dS_isNode_14 rfl ?_
      exact x_tv (by unfold sv_isn; simp_all [sv_b]) (ret _ _ dS_isNode_18)

theorem cS_m_isNode {v : Int32}  : Met l yS_isNode (sv_ws yS_isNode cS_isNode 2 (some .boolean)) (sv_rm 1) (sv_Pc D cI cZ cN cQ [.ref (ad 0), .int v] (fun H => sv_cP D cI cN cQ n qc ad σ H)) (vp_Si (fun zz => zz = sv_b (sv_isn n v))) 0 0 (fun _ => False) :=
  sv_mkR (by decide) (by show 2 ≤ 2; decide) (sv_narb _) (fun p e s m below meth c ls Q X hP hl ret => wS_isNode X hP  hl ret)
theorem okS_S_isNode : sv_okV "SliceVoting" 47 yS_isNode cS_isNode 2 (some .boolean) 1 := ⟨sv_tb_t 94 rfl rfl, sv_tb_t 91 rfl rfl, sv_tb_t 93 rfl rfl, sv_tb_s 0 rfl rfl, sv_tb_t 1 rfl rfl, ⟨by decide, by decide, by decide +kernel⟩, by decide⟩
theorem kS_isNode (X : sv_X D cI cZ cN cQ "SliceVoting" cc nL k p R s m args c) (hk : 1 + 1 ≤ k) (hP : sv_cP D cI cN cQ n qc ad σ H) {v : Int32}  (hl : lv_has ls nL lv) (hc : cells ≤ R.cells) (hs : slots ≤ R.slots) (hcat : (rest.map fun v => v.category).sum ≤ 8) (hd : decode cc pc = .ok (.invokevirtual 47, 3)) (kk : W p l e R s m args below meth c H locs cells slots Q (F0 m (pc + 3) ls (.int (sv_b (sv_isn n v)) :: rest))) : W p l e R s m args below meth c H locs cells slots Q (F0 m pc ls (.int v :: .ref (ad 0) :: rest)) :=
  sv_cV (G := fun H => sv_cP D cI cN cQ n qc ad σ H) X okS_S_isNode (cS_m_isNode ) hP (y_rec X.K hP (by omega) sv_ce_S rfl) hk rfl hl.1 rfl hcat hc hs hd kk
set_option maxHeartbeats 4000000 in
set_option maxRecDepth 100000 in
theorem wS_isQuota (X : sv_X D cI cZ cN cQ "SliceVoting" cS_isQuota 2 1 p R s m args c) (hP : sv_cP D cI cN cQ n qc ad σ H) {v : Int32}  (hl : lv_has ls 2 [(0, .ref (ad 0)), (1, .int v)]) (ret : ∀ (pc : Nat) (ls : Array Slot), decode cS_isQuota pc = .ok (.ireturn, 1) → W p l e R s m args below meth c H locs 0 0 Q (F0 m pc ls [.int (sv_b (sv_isn qc v))])) : W p l e R s m args below meth c H locs 0 0 Q (F0 m 0 ls []) := by
  have hx := X.1
  have hb := X.2.1
  refine lv_iload_n (i := 1) hx hb dS_isQuota_0 rfl (sv_at hl rfl) ?_
  refine lv_if_lt (tgt := 16) hx hb dS_isQuota_1 rfl (fun h1 => ?_) (fun h1 => ?_)
  · skip
    refine lv_iconst (v := 0) hx hb dS_isQuota_16 (by decide) ?_
    exact x_tv (by unfold sv_isn; simp_all [sv_b]) (ret _ _ dS_isQuota_17)
  · skip
    refine lv_iload_n (i := 1) hx hb dS_isQuota_4 rfl (sv_at hl rfl) ?_
    refine lv_aload_n (i := 0) hx hb dS_isQuota_5 rfl (sv_at hl rfl) ?_
    refine gS_quotaCount X hP dS_isQuota_6 ?_
    refine lv_icmp_ge (tgt := 16) hx hb dS_isQuota_9 rfl (fun h9 => ?_) (fun h9 => ?_)
    · skip
      refine lv_iconst (v := 0) hx hb dS_isQuota_16 (by decide) ?_
      exact x_tv (by unfold sv_isn; simp_all [sv_b]) (ret _ _ dS_isQuota_17)
    · skip
      refine lv_iconst (v := 1) hx hb dS_isQuota_12 (by decide) ?_
      refine lv_goto (tgt := 17) hx hb dS_isQuota_13 rfl ?_
      exact x_tv (by unfold sv_isn; simp_all [sv_b]) (ret _ _ dS_isQuota_17)

theorem cS_m_isQuota {v : Int32}  : Met l yS_isQuota (sv_ws yS_isQuota cS_isQuota 2 (some .boolean)) (sv_rm 1) (sv_Pc D cI cZ cN cQ [.ref (ad 0), .int v] (fun H => sv_cP D cI cN cQ n qc ad σ H)) (vp_Si (fun zz => zz = sv_b (sv_isn qc v))) 0 0 (fun _ => False) :=
  sv_mkR (by decide) (by show 2 ≤ 2; decide) (sv_narb _) (fun p e s m below meth c ls Q X hP hl ret => wS_isQuota X hP  hl ret)
theorem okS_S_isQuota : sv_okV "SliceVoting" 60 yS_isQuota cS_isQuota 2 (some .boolean) 1 := ⟨sv_tb_t 140 rfl rfl, sv_tb_t 137 rfl rfl, sv_tb_t 139 rfl rfl, sv_tb_s 4 rfl rfl, sv_tb_t 1 rfl rfl, ⟨by decide, by decide, by decide +kernel⟩, by decide⟩
theorem kS_isQuota (X : sv_X D cI cZ cN cQ "SliceVoting" cc nL k p R s m args c) (hk : 1 + 1 ≤ k) (hP : sv_cP D cI cN cQ n qc ad σ H) {v : Int32}  (hl : lv_has ls nL lv) (hc : cells ≤ R.cells) (hs : slots ≤ R.slots) (hcat : (rest.map fun v => v.category).sum ≤ 8) (hd : decode cc pc = .ok (.invokevirtual 60, 3)) (kk : W p l e R s m args below meth c H locs cells slots Q (F0 m (pc + 3) ls (.int (sv_b (sv_isn qc v)) :: rest))) : W p l e R s m args below meth c H locs cells slots Q (F0 m pc ls (.int v :: .ref (ad 0) :: rest)) :=
  sv_cV (G := fun H => sv_cP D cI cN cQ n qc ad σ H) X okS_S_isQuota (cS_m_isQuota ) hP (y_rec X.K hP (by omega) sv_ce_S rfl) hk rfl hl.1 rfl hcat hc hs hd kk
set_option maxHeartbeats 4000000 in
set_option maxRecDepth 100000 in
theorem wS_isSetOfNodes (X : sv_X D cI cZ cN cQ "SliceVoting" cS_isSetOfNodes 2 1 p R s m args c) (hP : sv_cP D cI cN cQ n qc ad σ H) {x : Int32} (hn : n ≤ 6) (hl : lv_has ls 2 [(0, .ref (ad 0)), (1, .int x)]) (ret : ∀ (pc : Nat) (ls : Array Slot), decode cS_isSetOfNodes pc = .ok (.ireturn, 1) → W p l e R s m args below meth c H locs 0 0 Q (F0 m pc ls [.int (sv_b (decide (sv_N x < 2 ^ n)))])) : W p l e R s m args below meth c H locs 0 0 Q (F0 m 0 ls []) := by
  have hx := X.1
  have hb := X.2.1
  refine lv_iload_n (i := 1) hx hb dS_isSetOfNodes_0 rfl (sv_at hl rfl) ?_
  refine lv_aload_n (i := 0) hx hb dS_isSetOfNodes_1 rfl (sv_at hl rfl) ?_
  refine gS_everyone X hP dS_isSetOfNodes_2 ?_
  refine lv_iconst (v := -1) hx hb dS_isSetOfNodes_5 (by decide) ?_
  refine lv_ixor hx hb dS_isSetOfNodes_6 ?_
  refine lv_iand hx hb dS_isSetOfNodes_7 ?_
  refine lv_if_ne (tgt := 15) hx hb dS_isSetOfNodes_8 rfl (fun h8 => ?_) (fun h8 => ?_)
  · skip
    rw [sv_setof hn] at h8
    refine lv_iconst (v := 0) hx hb dS_isSetOfNodes_15 (by decide) ?_
    exact x_tv (by simp [sv_b, h8]) (ret _ _ dS_isSetOfNodes_16)
  · skip
    rw [sv_setof hn] at h8
    refine lv_iconst (v := 1) hx hb dS_isSetOfNodes_11 (by decide) ?_
    refine lv_goto (tgt := 16) hx hb dS_isSetOfNodes_12 rfl ?_
    exact x_tv (by simp [sv_b, h8]) (ret _ _ dS_isSetOfNodes_16)

theorem cS_m_isSetOfNodes {x : Int32} (hn : n ≤ 6) : Met l yS_isSetOfNodes (sv_ws yS_isSetOfNodes cS_isSetOfNodes 2 (some .boolean)) (sv_rm 1) (sv_Pc D cI cZ cN cQ [.ref (ad 0), .int x] (fun H => sv_cP D cI cN cQ n qc ad σ H)) (vp_Si (fun zz => zz = sv_b (decide (sv_N x < 2 ^ n)))) 0 0 (fun _ => False) :=
  sv_mkR (by decide) (by show 2 ≤ 2; decide) (sv_narb _) (fun p e s m below meth c ls Q X hP hl ret => wS_isSetOfNodes X hP hn hl ret)
theorem okS_S_isSetOfNodes : sv_okV "SliceVoting" 115 yS_isSetOfNodes cS_isSetOfNodes 2 (some .boolean) 1 := ⟨sv_tb_t 286 rfl rfl, sv_tb_t 283 rfl rfl, sv_tb_t 285 rfl rfl, sv_tb_s 15 rfl rfl, sv_tb_t 1 rfl rfl, ⟨by decide, by decide, by decide +kernel⟩, by decide⟩
theorem kS_isSetOfNodes (X : sv_X D cI cZ cN cQ "SliceVoting" cc nL k p R s m args c) (hk : 1 + 1 ≤ k) (hP : sv_cP D cI cN cQ n qc ad σ H) {x : Int32} (hn : n ≤ 6) (hl : lv_has ls nL lv) (hc : cells ≤ R.cells) (hs : slots ≤ R.slots) (hcat : (rest.map fun v => v.category).sum ≤ 8) (hd : decode cc pc = .ok (.invokevirtual 115, 3)) (kk : W p l e R s m args below meth c H locs cells slots Q (F0 m (pc + 3) ls (.int (sv_b (decide (sv_N x < 2 ^ n))) :: rest))) : W p l e R s m args below meth c H locs cells slots Q (F0 m pc ls (.int x :: .ref (ad 0) :: rest)) :=
  sv_cV (G := fun H => sv_cP D cI cN cQ n qc ad σ H) X okS_S_isSetOfNodes (cS_m_isSetOfNodes hn) hP (y_rec X.K hP (by omega) sv_ce_S rfl) hk rfl hl.1 rfl hcat hc hs hd kk
set_option maxHeartbeats 4000000 in
set_option maxRecDepth 100000 in
theorem wS_isWellBehaved (X : sv_X D cI cZ cN cQ "SliceVoting" cS_isWellBehaved 2 2 p R s m args c) (hP : sv_cP D cI cN cQ n qc ad σ H) {v : Int32} (hn : n ≤ 6) (hl : lv_has ls 2 [(0, .ref (ad 0)), (1, .int v)]) (ret : ∀ (pc : Nat) (ls : Array Slot), decode cS_isWellBehaved pc = .ok (.ireturn, 1) → W p l e R s m args below meth c H locs 0 0 Q (F0 m pc ls [.int (sv_b (sv_wel n σ v))])) : W p l e R s m args below meth c H locs 0 0 Q (F0 m 0 ls []) := by
  have hx := X.1
  have hb := X.2.1
  refine lv_aload_n (i := 0) hx hb dS_isWellBehaved_0 rfl (sv_at hl rfl) ?_
  refine lv_iload_n (i := 1) hx hb dS_isWellBehaved_1 rfl (sv_at hl rfl) ?_
  refine kS_isNode X (by decide) hP  hl (Nat.zero_le _) (Nat.zero_le _) (Nat.le_of_ble_eq_true rfl) dS_isWellBehaved_2 ?_
  refine x_ifeqB (tgt := 23) hx hb dS_isWellBehaved_5 rfl (fun h5 => ?_) (fun h5 => ?_)
  · skip
    refine lv_iconst (v := 0) hx hb dS_isWellBehaved_23 (by decide) ?_
    exact x_tv (by unfold sv_wel; first | (rw [h5]; rfl) | (rw [h5, nI_clamp (by omega), h16]; rfl)) (ret _ _ dS_isWellBehaved_24)
  · skip
    obtain ⟨j, hj, rfl⟩ := sv_isn_t (by omega) h5
    refine lv_aload_n (i := 0) hx hb dS_isWellBehaved_8 rfl (sv_at hl rfl) ?_
    refine gS_wellBehaved X hP dS_isWellBehaved_9 ?_
    refine lv_iload_n (i := 1) hx hb dS_isWellBehaved_12 rfl (sv_at hl rfl) ?_
    refine kS_has X (by decide) (by omega) hl (Nat.zero_le _) (Nat.zero_le _) (Nat.le_of_ble_eq_true rfl) dS_isWellBehaved_13 ?_
    refine x_tv (y := sv_b (σ 9 j == 0)) (by rw [sv_nb, sv_wbN_bit]; simp [hj, show j < 32 by omega]) ?_
    refine x_ifeqB (tgt := 23) hx hb dS_isWellBehaved_16 rfl (fun h16 => ?_) (fun h16 => ?_)
    · skip
      refine lv_iconst (v := 0) hx hb dS_isWellBehaved_23 (by decide) ?_
      exact x_tv (by unfold sv_wel; first | (rw [h5]; rfl) | (rw [h5, nI_clamp (by omega), h16]; rfl)) (ret _ _ dS_isWellBehaved_24)
    · skip
      refine lv_iconst (v := 1) hx hb dS_isWellBehaved_19 (by decide) ?_
      refine lv_goto (tgt := 24) hx hb dS_isWellBehaved_20 rfl ?_
      exact x_tv (by unfold sv_wel; first | (rw [h5]; rfl) | (rw [h5, nI_clamp (by omega), h16]; rfl)) (ret _ _ dS_isWellBehaved_24)

theorem cS_m_isWellBehaved {v : Int32} (hn : n ≤ 6) : Met l yS_isWellBehaved (sv_ws yS_isWellBehaved cS_isWellBehaved 2 (some .boolean)) (sv_rm 2) (sv_Pc D cI cZ cN cQ [.ref (ad 0), .int v] (fun H => sv_cP D cI cN cQ n qc ad σ H)) (vp_Si (fun zz => zz = sv_b (sv_wel n σ v))) 0 0 (fun _ => False) :=
  sv_mkR (by decide) (by show 2 ≤ 2; decide) (sv_narb _) (fun p e s m below meth c ls Q X hP hl ret => wS_isWellBehaved X hP hn hl ret)
theorem okS_S_isWellBehaved : sv_okV "SliceVoting" 70 yS_isWellBehaved cS_isWellBehaved 2 (some .boolean) 1 := ⟨sv_tb_t 155 rfl rfl, sv_tb_t 152 rfl rfl, sv_tb_t 154 rfl rfl, sv_tb_s 5 rfl rfl, sv_tb_t 1 rfl rfl, ⟨by decide, by decide, by decide +kernel⟩, by decide⟩
theorem kS_isWellBehaved (X : sv_X D cI cZ cN cQ "SliceVoting" cc nL k p R s m args c) (hk : 2 + 1 ≤ k) (hP : sv_cP D cI cN cQ n qc ad σ H) {v : Int32} (hn : n ≤ 6) (hl : lv_has ls nL lv) (hc : cells ≤ R.cells) (hs : slots ≤ R.slots) (hcat : (rest.map fun v => v.category).sum ≤ 8) (hd : decode cc pc = .ok (.invokevirtual 70, 3)) (kk : W p l e R s m args below meth c H locs cells slots Q (F0 m (pc + 3) ls (.int (sv_b (sv_wel n σ v)) :: rest))) : W p l e R s m args below meth c H locs cells slots Q (F0 m pc ls (.int v :: .ref (ad 0) :: rest)) :=
  sv_cV (G := fun H => sv_cP D cI cN cQ n qc ad σ H) X okS_S_isWellBehaved (cS_m_isWellBehaved hn) hP (y_rec X.K hP (by omega) sv_ce_S rfl) hk rfl hl.1 rfl hcat hc hs hd kk
end SvClass1
end
section
section SvRef
variable {p : Program} {l : Launch} {e : Env} {R : Room} {s : State} {m : MethodId} {args : Array Value} {below : List Frame} {meth : Method} {c : Code} {H : Heap} {locs : List Loc} {cells slots : Nat} {Q : State → Prop}
variable {cc : ByteArray} {pc nL n : Nat} {ls : Array Slot} {rest : List Value} {ad : Nat → Nat} {lv : List (Nat × Value)}
/-! a reference that may be null: a quota's number, or none -/
theorem x_aloadR (hx : p.tables.exec = Jvm.exec) (hb : c.code = cc) {i : Nat} {o : Option Nat} (hd : decode cc pc = .ok (.aload i, 2)) (hl : ls[i]? = some (.val (sv_rq ad n o))) (kk : W p l e R s m args below meth c H locs cells slots Q (F0 m (pc + 2) ls (sv_rq ad n o :: rest))) : W p l e R s m args below meth c H locs cells slots Q (F0 m pc ls rest) := by
  cases o with
  | none => exact lv_aloadN hx hb hd hl kk
  | some j => exact lv_aload hx hb hd hl kk
theorem x_aload_nR (hx : p.tables.exec = Jvm.exec) (hb : c.code = cc) {k : Fin 4} {i : Nat} {o : Option Nat} (hd : decode cc pc = .ok (.aload_n k, 1)) (hi : (k : Nat) = i) (hl : ls[i]? = some (.val (sv_rq ad n o))) (kk : W p l e R s m args below meth c H locs cells slots Q (F0 m (pc + 1) ls (sv_rq ad n o :: rest))) : W p l e R s m args below meth c H locs cells slots Q (F0 m pc ls rest) := by
  cases o with
  | none => exact lv_aload_nN hx hb hd hi hl kk
  | some j => exact lv_aload_n hx hb hd hi hl kk
theorem x_astoreR (hx : p.tables.exec = Jvm.exec) (hb : c.code = cc) {i : Nat} {o : Option Nat} (hd : decode cc pc = .ok (.astore i, 2)) (h : lv_has ls nL lv) (hn : i < nL) (kk : ∀ ls' : Array Slot, lv_has ls' nL ((i, sv_rq ad n o) :: lv.filter (fun q => !(q.1 == i) && !(q.1 + 1 == i && q.2.category == 2))) → W p l e R s m args below meth c H locs cells slots Q (F0 m (pc + 2) ls' rest)) : W p l e R s m args below meth c H locs cells slots Q (F0 m pc ls (sv_rq ad n o :: rest)) := by
  cases o with
  | none => exact lv_astoreN hx hb hd h hn rfl kk
  | some j => exact lv_astore hx hb hd h hn rfl kk
theorem x_ifnullR (hx : p.tables.exec = Jvm.exec) (hb : c.code = cc) {o : Option Nat} {off : Int} {tgt : Nat} (hd : decode cc pc = .ok (.ifnull off, 3)) (ht : (pc : Int) + off = (tgt : Int)) (kt : o = none → W p l e R s m args below meth c H locs cells slots Q (F0 m tgt ls rest)) (kf : ∀ j, o = some j → W p l e R s m args below meth c H locs cells slots Q (F0 m (pc + 3) ls rest)) : W p l e R s m args below meth c H locs cells slots Q (F0 m pc ls (sv_rq ad n o :: rest)) := by
  cases o with
  | none => exact lv_ifnullN hx hb hd ht (kt rfl)
  | some j => exact lv_ifnull hx hb hd (kf j rfl)
def sv_mo (o : Option Nat) : Nat := match o with
  | none => 0
  | some j => j + 1
/-! the JDK's count of bits -/
def sv_bc (i : Int32) : Int32 :=
  let a := i - ((i.toUInt32 >>> ((1 : Int32).toUInt32 &&& Int32.toUInt32 31)).toInt32 &&& 1431655765)
  let b := (a &&& 858993459) + ((a.toUInt32 >>> ((nI 2).toUInt32 &&& Int32.toUInt32 31)).toInt32 &&& 858993459)
  let c := (b + (b.toUInt32 >>> ((nI 4).toUInt32 &&& Int32.toUInt32 31)).toInt32) &&& 252645135
  let d := c + (c.toUInt32 >>> ((nI 8).toUInt32 &&& Int32.toUInt32 31)).toInt32
  let e := d + (d.toUInt32 >>> ((nI 16).toUInt32 &&& Int32.toUInt32 31)).toInt32
  e &&& nI 63
theorem sv_bc_ok : ∀ x, x < 64 → sv_bc (nI x) = nI (sv_pc x) := by decide +kernel
end SvRef
end
section
section SvIsMet
variable {p : Program} {l : Launch} {e : Env} {R : Room} {s : State} {m : MethodId} {args : Array Value} {below : List Frame} {meth : Method} {c : Code} {H H0 : Heap} {locs : List Loc} {cells slots : Nat} {Q : State → Prop}
variable {cc : ByteArray} {pc nL k : Nat} {ls : Array Slot} {lv : List (Nat × Value)} {rest : List Value} {D : va_G} {cI cZ cN cQ : ClassId} {n qc : Nat} {ad : Nat → Nat} {σ : Sg} {A : Nat → Prop} {mt qm : Nat → Int32}
set_option maxHeartbeats 4000000 in
set_option maxRecDepth 100000 in
theorem wJ_bitCount (X : sv_X D cI cZ cN cQ "java/lang/Integer" cJ_bitCount 1 1 p R s m args c) {x : Nat} (hx2 : x < 64) (hl : lv_has ls 1 [(0, .int (nI x))]) (ret : ∀ (pc : Nat) (ls : Array Slot), decode cJ_bitCount pc = .ok (.ireturn, 1) → W p l e R s m args below meth c H locs 0 0 Q (F0 m pc ls [.int (nI (sv_pc x))])) : W p l e R s m args below meth c H locs 0 0 Q (F0 m 0 ls []) := by
  have hx := X.1
  have hb := X.2.1
  refine lv_iload_n (i := 0) hx hb dJ_bitCount_0 rfl (sv_at hl rfl) ?_
  refine lv_iload_n (i := 0) hx hb dJ_bitCount_1 rfl (sv_at hl rfl) ?_
  refine lv_iconst (v := 1) hx hb dJ_bitCount_2 (by decide) ?_
  refine lv_iushr hx hb dJ_bitCount_3 rfl ?_
  refine lv_ldcw (v := 1431655765) hx hb X.own (X.hts _ (sv_tb_t 213 rfl rfl)) dJ_bitCount_4 ?_
  refine lv_iand hx hb dJ_bitCount_7 ?_
  refine lv_isub hx hb dJ_bitCount_8 ?_
  refine lv_istore_n (i := 0) hx hb dJ_bitCount_9 rfl hl (by decide) rfl (fun ls hl => ?_)
  refine lv_iload_n (i := 0) hx hb dJ_bitCount_10 rfl (sv_at hl rfl) ?_
  refine lv_ldcw (v := 858993459) hx hb X.own (X.hts _ (sv_tb_t 214 rfl rfl)) dJ_bitCount_11 ?_
  refine lv_iand hx hb dJ_bitCount_14 ?_
  refine lv_iload_n (i := 0) hx hb dJ_bitCount_15 rfl (sv_at hl rfl) ?_
  refine lv_iconst (v := nI 2) hx hb dJ_bitCount_16 (by decide) ?_
  refine lv_iushr hx hb dJ_bitCount_17 rfl ?_
  refine lv_ldcw (v := 858993459) hx hb X.own (X.hts _ (sv_tb_t 214 rfl rfl)) dJ_bitCount_18 ?_
  refine lv_iand hx hb dJ_bitCount_21 ?_
  refine lv_iadd hx hb dJ_bitCount_22 ?_
  refine lv_istore_n (i := 0) hx hb dJ_bitCount_23 rfl hl (by decide) rfl (fun ls hl => ?_)
  refine lv_iload_n (i := 0) hx hb dJ_bitCount_24 rfl (sv_at hl rfl) ?_
  refine lv_iload_n (i := 0) hx hb dJ_bitCount_25 rfl (sv_at hl rfl) ?_
  refine lv_iconst (v := nI 4) hx hb dJ_bitCount_26 (by decide) ?_
  refine lv_iushr hx hb dJ_bitCount_27 rfl ?_
  refine lv_iadd hx hb dJ_bitCount_28 ?_
  refine lv_ldcw (v := 252645135) hx hb X.own (X.hts _ (sv_tb_t 215 rfl rfl)) dJ_bitCount_29 ?_
  refine lv_iand hx hb dJ_bitCount_32 ?_
  refine lv_istore_n (i := 0) hx hb dJ_bitCount_33 rfl hl (by decide) rfl (fun ls hl => ?_)
  refine lv_iload_n (i := 0) hx hb dJ_bitCount_34 rfl (sv_at hl rfl) ?_
  refine lv_iload_n (i := 0) hx hb dJ_bitCount_35 rfl (sv_at hl rfl) ?_
  refine lv_bipush (v := nI 8) hx hb dJ_bitCount_36 (by decide) ?_
  refine lv_iushr hx hb dJ_bitCount_38 rfl ?_
  refine lv_iadd hx hb dJ_bitCount_39 ?_
  refine lv_istore_n (i := 0) hx hb dJ_bitCount_40 rfl hl (by decide) rfl (fun ls hl => ?_)
  refine lv_iload_n (i := 0) hx hb dJ_bitCount_41 rfl (sv_at hl rfl) ?_
  refine lv_iload_n (i := 0) hx hb dJ_bitCount_42 rfl (sv_at hl rfl) ?_
  refine lv_bipush (v := nI 16) hx hb dJ_bitCount_43 (by decide) ?_
  refine lv_iushr hx hb dJ_bitCount_45 rfl ?_
  refine lv_iadd hx hb dJ_bitCount_46 ?_
  refine lv_istore_n (i := 0) hx hb dJ_bitCount_47 rfl hl (by decide) rfl (fun ls hl => ?_)
  refine lv_iload_n (i := 0) hx hb dJ_bitCount_48 rfl (sv_at hl rfl) ?_
  refine lv_bipush (v := nI 63) hx hb dJ_bitCount_49 (by decide) ?_
  refine lv_iand hx hb dJ_bitCount_51 ?_
  exact x_tv (show _ = _ from sv_bc_ok x hx2) (ret _ _ dJ_bitCount_52)

theorem cJ_m_bitCount {x : Nat} (hx2 : x < 64) : Met l yJ_bitCount (sv_ws yJ_bitCount cJ_bitCount 1 (some .int)) (sv_rm 1) (sv_Pc D cI cZ cN cQ [.int (nI x)] (fun _ => True)) (vp_Si (fun zz => zz = nI (sv_pc x))) 0 0 (fun _ => False) :=
  sv_mkR (by decide) (by show 1 ≤ 1; decide) rfl (fun p e s m below meth c ls Q X _ hl ret => wJ_bitCount X  hx2 hl ret)
theorem okS_J_bitCount : sv_okS "SliceVoting" 152 yJ_bitCount cJ_bitCount 1 (some .int) 1 := ⟨sv_tb_t 212 rfl rfl, sv_tb_t 210 rfl rfl, sv_tb_t 211 rfl rfl, sv_tb_t 6 rfl rfl, ⟨by decide, by decide, by decide +kernel⟩, by decide⟩
theorem kS_bitCount (X : sv_X D cI cZ cN cQ "SliceVoting" cc nL k p R s m args c) (hk : 1 + 1 ≤ k) {x : Nat} (hx2 : x < 64) (hl : lv_has ls nL lv) (hc : cells ≤ R.cells) (hs : slots ≤ R.slots) (hcat : (rest.map fun v => v.category).sum ≤ 8) (hd : decode cc pc = .ok (.invokestatic 152, 3)) (kk : W p l e R s m args below meth c H locs cells slots Q (F0 m (pc + 3) ls (.int (nI (sv_pc x)) :: rest))) : W p l e R s m args below meth c H locs cells slots Q (F0 m pc ls (.int (nI x) :: rest)) :=
  sv_cS (G := fun _ => True) X okS_J_bitCount (cJ_m_bitCount hx2) trivial hk rfl hl.1 rfl hcat hc hs hd kk
theorem sv_and64 {n a S : Nat} (hn : n ≤ 6) (hS : S < 2 ^ n) : a &&& S < 64 := Nat.lt_of_lt_of_le (Nat.and_lt_two_pow a hS) (sv_p2_64 hn)
theorem sv_mo_nxt (σ : Sg) (j : Nat) : sv_mo (sv_nxt σ j) ≤ j := by
  cases e : sv_nxt σ j with
  | none => exact Nat.zero_le _
  | some i => exact (sv_nxt_in e).1
theorem okS_S_isMet : sv_okS "SliceVoting" 157 yS_isMet cS_isMet 5 (some .boolean) 3 := ⟨sv_tb_t 209 rfl rfl, sv_tb_t 207 rfl rfl, sv_tb_t 208 rfl rfl, sv_tb_t 1 rfl rfl, ⟨by decide, by decide, by decide +kernel⟩, by decide⟩
set_option maxHeartbeats 4000000 in
set_option maxRecDepth 100000 in
theorem wS_isMet (X : sv_X D cI cZ cN cQ "SliceVoting" cS_isMet 5 k p R s m args c) (hP : sv_cP D cI cN cQ n qc ad σ H) {q d S k2 : Nat} (hn : n ≤ 6) (hI : sv_IQ n qc σ) (hq : q < qc) (h1d : 1 ≤ d) (hd3 : d ≤ 3) (hS : S < 2 ^ n) (hkk : 2 ≤ k) (hk2 : k2 + 1 ≤ k) (rec : ∀ j, j < qc → σ 4 j = nI q → Met l yS_isMet (sv_ws yS_isMet cS_isMet 5 (some .boolean)) (sv_rm k2) (sv_Pc D cI cZ cN cQ [.ref (ad (3 + 3 * n + j)), .int (nI S), .int (nI (d + 1))] (fun H => sv_cP D cI cN cQ n qc ad σ H)) (vp_Si (fun zz => zz = sv_b (sv_met σ qc S j))) 0 0 (fun _ => False)) (hl : lv_has ls 5 [(0, .ref (ad (3 + 3 * n + q))), (1, .int (nI S)), (2, .int (nI d))]) (ret : ∀ (pc : Nat) (ls : Array Slot), decode cS_isMet pc = .ok (.ireturn, 1) → W p l e R s m args below meth c H locs 0 0 Q (F0 m pc ls [.int (sv_b (sv_met σ qc S q))])) : W p l e R s m args below meth c H locs 0 0 Q (F0 m 0 ls []) := by
  have hx := X.1
  have hb := X.2.1
  have J27 : ∀ (kf : Nat) (a : Nat) (o : Option Nat) (ls : Array Slot), sv_mo o < kf → (∀ j, o = some j → j < qc ∧ σ 4 j = nI q) → (a + sv_rem σ qc S q o = sv_pc (sv_N (σ 7 q) &&& S) + sv_cnt (sv_inn σ (sv_met σ qc S) q) (q + 1) qc) → lv_has ls 5 [(0, .ref (ad (3 + 3 * n + q))), (1, .int (nI S)), (2, .int (nI d)), (3, .int (nI a)), (4, sv_rq ad n o)] → W p l e R s m args below meth c H locs 0 0 Q (F0 m 27 ls []) := by
    intro kf
    induction kf with
    | zero => intro a o ls hm; exact absurd hm (Nat.not_lt_zero _)
    | succ kf ih =>
      intro a o ls hm ho hcnt hl
      refine x_aloadR (i := 4) hx hb dS_isMet_27 (sv_at hl rfl) ?_
      refine x_ifnullR (tgt := 57) hx hb dS_isMet_29 rfl (fun h29 => ?_) (fun j29 h29 => ?_)
      · skip
        subst h29
        refine lv_iload_n (i := 3) hx hb dS_isMet_57 rfl (sv_at hl rfl) ?_
        refine lv_aload_n (i := 0) hx hb dS_isMet_58 rfl (sv_at hl rfl) ?_
        refine gQ_need X hP (by omega) dS_isMet_59 ?_
        refine lv_icmp_lt (tgt := 69) hx hb dS_isMet_62 rfl (fun h62 => ?_) (fun h62 => ?_)
        · skip
          refine lv_iconst (v := 0) hx hb dS_isMet_69 (by decide) ?_
          exact x_tv (by rw [sv_met_eq σ S hq, ← hcnt]; show _ = sv_b (decide (σ 6 q ≤ nI a)); first | (rw [decide_eq_true (Int32.not_lt.mp h62)]; rfl) | (rw [decide_eq_false (Int32.not_le.mpr h62)]; rfl)) (ret _ _ dS_isMet_70)
        · skip
          refine lv_iconst (v := 1) hx hb dS_isMet_65 (by decide) ?_
          refine lv_goto (tgt := 70) hx hb dS_isMet_66 rfl ?_
          exact x_tv (by rw [sv_met_eq σ S hq, ← hcnt]; show _ = sv_b (decide (σ 6 q ≤ nI a)); first | (rw [decide_eq_true (Int32.not_lt.mp h62)]; rfl) | (rw [decide_eq_false (Int32.not_le.mpr h62)]; rfl)) (ret _ _ dS_isMet_70)
      · skip
        subst h29
        obtain ⟨hj1, hj2⟩ := ho _ rfl
        refine lv_aload (i := 4) hx hb dS_isMet_32 (sv_at hl rfl) ?_
        refine lv_iload_n (i := 1) hx hb dS_isMet_34 rfl (sv_at hl rfl) ?_
        refine lv_iload_n (i := 2) hx hb dS_isMet_35 rfl (sv_at hl rfl) ?_
        refine lv_iconst (v := 1) hx hb dS_isMet_36 (by decide) ?_
        refine lv_iadd hx hb dS_isMet_37 ?_
        refine x_tv (nI_1 d) ?_
        refine sv_cS (G := fun H => sv_cP D cI cN cQ n qc ad σ H) X okS_S_isMet (rec j29 hj1 hj2) hP hk2 rfl hl.1 rfl (Nat.le_of_ble_eq_true rfl) (Nat.zero_le _) (Nat.zero_le _) dS_isMet_38 ?_
        refine x_ifeqB (tgt := 47) hx hb dS_isMet_41 rfl (fun h41 => ?_) (fun h41 => ?_)
        · skip
          refine lv_aload (i := 4) hx hb dS_isMet_47 (sv_at hl rfl) ?_
          refine gQ_nextInner X hP (by omega) dS_isMet_49 ?_
          refine x_astoreR (i := 4) hx hb dS_isMet_52 hl (by decide) (fun ls hl => ?_)
          refine lv_goto (tgt := 27) hx hb dS_isMet_54 rfl ?_
          exact ih _ _ ls (Nat.lt_of_le_of_lt (sv_mo_nxt _ _) (Nat.lt_of_succ_lt_succ hm)) (fun i hi => ⟨by have := (sv_nxt_in hi).1; omega, (sv_nxt_in hi).2.trans hj2⟩) (by have e := sv_rem_nxt hI S hj1 hq hj2; rw [h41] at e; simp only [cond_true, cond_false] at e; omega) (sv_re hl ⟨rfl, rfl, rfl, rfl, rfl, trivial⟩)
        · skip
          refine x_iinc (i := 3) hx hb dS_isMet_44 hl rfl (sv_inc a) (by decide) (fun ls hl => ?_)
          refine lv_aload (i := 4) hx hb dS_isMet_47 (sv_at hl rfl) ?_
          refine gQ_nextInner X hP (by omega) dS_isMet_49 ?_
          refine x_astoreR (i := 4) hx hb dS_isMet_52 hl (by decide) (fun ls hl => ?_)
          refine lv_goto (tgt := 27) hx hb dS_isMet_54 rfl ?_
          exact ih _ _ ls (Nat.lt_of_le_of_lt (sv_mo_nxt _ _) (Nat.lt_of_succ_lt_succ hm)) (fun i hi => ⟨by have := (sv_nxt_in hi).1; omega, (sv_nxt_in hi).2.trans hj2⟩) (by have e := sv_rem_nxt hI S hj1 hq hj2; rw [h41] at e; simp only [cond_true, cond_false] at e; omega) (sv_re hl ⟨rfl, rfl, rfl, rfl, rfl, trivial⟩)
  refine lv_aload_n (i := 0) hx hb dS_isMet_0 rfl (sv_at hl rfl) ?_
  refine lv_ifnull hx hb dS_isMet_1 ?_
  refine lv_iload_n (i := 2) hx hb dS_isMet_4 rfl (sv_at hl rfl) ?_
  refine lv_iconst (v := nI 3) hx hb dS_isMet_5 (by decide) ?_
  refine lv_icmp_le (tgt := 11) hx hb dS_isMet_6 rfl (fun h6 => ?_) (fun h6 => ?_)
  · skip
    refine lv_aload_n (i := 0) hx hb dS_isMet_11 rfl (sv_at hl rfl) ?_
    refine gQ_members X hP (by omega) dS_isMet_12 ?_
    refine lv_iload_n (i := 1) hx hb dS_isMet_15 rfl (sv_at hl rfl) ?_
    refine lv_iand hx hb dS_isMet_16 ?_
    refine x_tv (y := nI (sv_N (σ 7 q) &&& S)) (by rw [← sv_nand, sv_nI_N]) ?_
    refine kS_bitCount X hkk (sv_and64 hn hS) hl (Nat.zero_le _) (Nat.zero_le _) (Nat.le_of_ble_eq_true rfl) dS_isMet_17 ?_
    refine lv_istore_n (i := 3) hx hb dS_isMet_20 rfl hl (by decide) rfl (fun ls hl => ?_)
    refine lv_aload_n (i := 0) hx hb dS_isMet_21 rfl (sv_at hl rfl) ?_
    refine gQ_firstInner X hP (by omega) dS_isMet_22 ?_
    refine x_astoreR (i := 4) hx hb dS_isMet_25 hl (by decide) (fun ls hl => ?_)
    exact J27 _ _ _ ls (Nat.lt_succ_self _) (fun j hj => sv_fst_in (n := n) hj) (by rw [sv_rem_fst]) (sv_re hl ⟨rfl, rfl, rfl, rfl, rfl, trivial⟩)
  · skip
    exact absurd (nI_le (by omega) (by omega)) h6

theorem cS_m_isMet (hI : sv_IQ n qc σ) {S : Nat} (hS : S < 2 ^ n) : ∀ (f q d : Nat), q < qc → σ 5 q = nI d → 1 ≤ d → d ≤ 3 → 3 ≤ d + f → Met l yS_isMet (sv_ws yS_isMet cS_isMet 5 (some .boolean)) (sv_rm (f + 2)) (sv_Pc D cI cZ cN cQ [.ref (ad (3 + 3 * n + q)), .int (nI S), .int (nI d)] (fun H => sv_cP D cI cN cQ n qc ad σ H)) (vp_Si (fun zz => zz = sv_b (sv_met σ qc S q))) 0 0 (fun _ => False)
  | 0, q, d, hq, h5, h1, h3, hf => sv_mkR (by decide) (by show 3 ≤ 5; decide) (sv_narb _) (fun p e s m below meth c ls Q X hP hl ret => wS_isMet (k := 0 + 2) (k2 := 0) X hP hI.2.1 hI hq h1 h3 hS (by decide) (by decide) (fun j hj h4 => by
      obtain ⟨-, -, d', a1, a2, a3, -⟩ := sv_par hI hj hq h4
      have e := (nI_eq (by omega) (by omega)).mp (h5.symm.trans a3)
      omega) hl ret)
  | f + 1, q, d, hq, h5, h1, h3, hf => sv_mkR (by decide) (by show 3 ≤ 5; decide) (sv_narb _) (fun p e s m below meth c ls Q X hP hl ret => wS_isMet (k := f + 1 + 2) (k2 := f + 2) X hP hI.2.1 hI hq h1 h3 hS (by omega) (by omega) (fun j hj h4 => by
      obtain ⟨-, -, d', a1, a2, a3, a4⟩ := sv_par hI hj hq h4
      have e := (nI_eq (by omega) (by omega)).mp (h5.symm.trans a3)
      subst e
      exact cS_m_isMet hI hS f j (d + 1) hj a4 (by omega) (by omega) (by omega)) hl ret)
theorem cS_m_isMetN {x : Int32} : Met l yS_isMet (sv_ws yS_isMet cS_isMet 5 (some .boolean)) (sv_rm 1) (sv_Pc D cI cZ cN cQ [.null, .int x, .int 1] (fun _ => True)) (vp_Si (fun zz => zz = sv_b false)) 0 0 (fun _ => False) :=
  sv_mkR (by decide) (by show 3 ≤ 5; decide) (sv_narb _) (fun p e s m below meth c ls Q X _ hl ret => by
    have hx := X.1
    have hb := X.2.1
    have hl : lv_has ls 5 [(0, .null), (1, .int x), (2, .int 1)] := hl
    refine lv_aload_nN (i := 0) hx hb dS_isMet_0 rfl (sv_at hl rfl) ?_
    refine lv_ifnullN (tgt := 9) hx hb dS_isMet_1 rfl ?_
    refine lv_iconst (v := 0) hx hb dS_isMet_9 (by decide) ?_
    exact ret _ _ dS_isMet_10)
theorem sv_top_lvl (hI : sv_IQ n qc σ) {v t : Nat} (h : sv_top σ qc v = some t) : t < qc ∧ σ 5 t = nI 1 ∧ σ 3 t = nI v := by
  obtain ⟨h1, h2, -⟩ := sv_last_some qc h
  rw [Bool.and_eq_true] at h2
  refine ⟨h1, ?_, eq_of_beq h2.1⟩
  obtain ⟨-, -, -, h3 | ⟨p, d, hp, h4, -⟩⟩ := hI.2.2.2.2 t h1
  · exact h3.2.1
  · rw [eq_of_beq h2.2] at h4
    exact absurd h4 (fun e => by
      have hq := hI.2.2.2.1
      have := nI_pos (n := p) (by omega)
      rw [← e] at this
      exact this (by decide))
/-- the top quota of v, if it has one, met by S -/
theorem kS_isMetT (X : sv_X D cI cZ cN cQ "SliceVoting" cc nL k p R s m args c) (hk : 4 + 1 ≤ k) (hP : sv_cP D cI cN cQ n qc ad σ H) (hI : sv_IQ n qc σ) {v S : Nat} (hS : S < 2 ^ n) (hl : lv_has ls nL lv) (hc : cells ≤ R.cells) (hs : slots ≤ R.slots) (hcat : (rest.map fun v => v.category).sum ≤ 8) (hd : decode cc pc = .ok (.invokestatic 157, 3)) (kk : W p l e R s m args below meth c H locs cells slots Q (F0 m (pc + 3) ls (.int (sv_b (sv_sat σ qc S v)) :: rest))) : W p l e R s m args below meth c H locs cells slots Q (F0 m pc ls (.int 1 :: .int (nI S) :: sv_rq ad n (sv_top σ qc v) :: rest)) := by
  unfold sv_sat at kk
  cases h : sv_top σ qc v with
  | none =>
    rw [h] at kk
    exact sv_cS (G := fun _ => True) (As := [.null, .int (nI S), .int 1]) X okS_S_isMet cS_m_isMetN trivial (by omega) rfl hl.1 rfl hcat hc hs hd kk
  | some t =>
    rw [h] at kk
    obtain ⟨h1, h2, -⟩ := sv_top_lvl hI h
    exact sv_cS (G := fun H => sv_cP D cI cN cQ n qc ad σ H) (As := [.ref (ad (3 + 3 * n + t)), .int (nI S), .int (nI 1)]) X okS_S_isMet (cS_m_isMet hI hS 2 t 1 h1 h2 (by decide) (by decide) (by decide)) hP hk rfl hl.1 rfl hcat hc hs hd kk
end SvIsMet
end
section
section SvQuor
variable {p : Program} {l : Launch} {e : Env} {R : Room} {s : State} {m : MethodId} {args : Array Value} {below : List Frame} {meth : Method} {c : Code} {H H0 : Heap} {locs : List Loc} {cells slots : Nat} {Q : State → Prop}
variable {cc : ByteArray} {pc nL k : Nat} {ls : Array Slot} {lv : List (Nat × Value)} {rest : List Value} {D : va_G} {cI cZ cN cQ : ClassId} {n qc : Nat} {ad : Nat → Nat} {σ : Sg} {A : Nat → Prop} {mt qm : Nat → Int32}
set_option maxHeartbeats 4000000 in
set_option maxRecDepth 100000 in
theorem wS_isBlockedBy (X : sv_X D cI cZ cN cQ "SliceVoting" cS_isBlockedBy 3 5 p R s m args c) (hP : sv_cP D cI cN cQ n qc ad σ H) {v S : Nat} (hn : n ≤ 6) (hI : sv_IQ n qc σ) (hv : v < n) (hS : S < 2 ^ n) (hl : lv_has ls 3 [(0, .ref (ad 0)), (1, .ref (ad (2 + 3 * v))), (2, .int (nI S))]) (ret : ∀ (pc : Nat) (ls : Array Slot), decode cS_isBlockedBy pc = .ok (.ireturn, 1) → W p l e R s m args below meth c H locs 0 0 Q (F0 m pc ls [.int (sv_b (sv_blk σ n qc S v))])) : W p l e R s m args below meth c H locs 0 0 Q (F0 m 0 ls []) := by
  have hx := X.1
  have hb := X.2.1
  refine lv_aload_n (i := 1) hx hb dS_isBlockedBy_0 rfl (sv_at hl rfl) ?_
  refine gN_top X hP (by omega) dS_isBlockedBy_1 ?_
  refine x_ifnullR (tgt := 30) hx hb dS_isBlockedBy_4 rfl (fun h4 => ?_) (fun j4 h4 => ?_)
  · skip
    refine lv_iconst (v := 0) hx hb dS_isBlockedBy_30 (by decide) ?_
    exact x_tv (by unfold sv_blk; first | (rw [h4]; rfl) | (unfold sv_sat at h23; rw [h4] at h23 ⊢; dsimp only at h23 ⊢; rw [h23]; rfl)) (ret _ _ dS_isBlockedBy_31)
  · skip
    refine lv_aload_n (i := 1) hx hb dS_isBlockedBy_7 rfl (sv_at hl rfl) ?_
    refine gN_top X hP (by omega) dS_isBlockedBy_8 ?_
    refine lv_aload_n (i := 0) hx hb dS_isBlockedBy_11 rfl (sv_at hl rfl) ?_
    refine gS_everyone X hP dS_isBlockedBy_12 ?_
    refine lv_iload_n (i := 2) hx hb dS_isBlockedBy_15 rfl (sv_at hl rfl) ?_
    refine lv_iconst (v := -1) hx hb dS_isBlockedBy_16 (by decide) ?_
    refine lv_ixor hx hb dS_isBlockedBy_17 ?_
    refine lv_iand hx hb dS_isBlockedBy_18 ?_
    refine x_tv (sv_compl hS) ?_
    refine lv_iconst (v := 1) hx hb dS_isBlockedBy_19 (by decide) ?_
    refine kS_isMetT X (by decide) hP hI (sv_co_lt hS) hl (Nat.zero_le _) (Nat.zero_le _) (Nat.le_of_ble_eq_true rfl) dS_isBlockedBy_20 ?_
    refine x_ifneB (tgt := 30) hx hb dS_isBlockedBy_23 rfl (fun h23 => ?_) (fun h23 => ?_)
    · skip
      refine lv_iconst (v := 0) hx hb dS_isBlockedBy_30 (by decide) ?_
      exact x_tv (by unfold sv_blk; first | (rw [h4]; rfl) | (unfold sv_sat at h23; rw [h4] at h23 ⊢; dsimp only at h23 ⊢; rw [h23]; rfl)) (ret _ _ dS_isBlockedBy_31)
    · skip
      refine lv_iconst (v := 1) hx hb dS_isBlockedBy_26 (by decide) ?_
      refine lv_goto (tgt := 31) hx hb dS_isBlockedBy_27 rfl ?_
      exact x_tv (by unfold sv_blk; first | (rw [h4]; rfl) | (unfold sv_sat at h23; rw [h4] at h23 ⊢; dsimp only at h23 ⊢; rw [h23]; rfl)) (ret _ _ dS_isBlockedBy_31)

theorem cS_m_isBlockedBy {v S : Nat} (hn : n ≤ 6) (hI : sv_IQ n qc σ) (hv : v < n) (hS : S < 2 ^ n) : Met l yS_isBlockedBy (sv_ws yS_isBlockedBy cS_isBlockedBy 3 (some .boolean)) (sv_rm 5) (sv_Pc D cI cZ cN cQ [.ref (ad 0), .ref (ad (2 + 3 * v)), .int (nI S)] (fun H => sv_cP D cI cN cQ n qc ad σ H)) (vp_Si (fun zz => zz = sv_b (sv_blk σ n qc S v))) 0 0 (fun _ => False) :=
  sv_mkR (by decide) (by show 3 ≤ 3; decide) (sv_narb _) (fun p e s m below meth c ls Q X hP hl ret => wS_isBlockedBy X hP hn hI hv hS hl ret)
theorem okS_S_isBlockedBy : sv_okV "SliceVoting" 125 yS_isBlockedBy cS_isBlockedBy 3 (some .boolean) 2 := ⟨sv_tb_t 219 rfl rfl, sv_tb_t 216 rfl rfl, sv_tb_t 218 rfl rfl, sv_tb_s 11 rfl rfl, sv_tb_t 1 rfl rfl, ⟨by decide, by decide, by decide +kernel⟩, by decide⟩
theorem kS_isBlockedBy (X : sv_X D cI cZ cN cQ "SliceVoting" cc nL k p R s m args c) (hk : 5 + 1 ≤ k) (hP : sv_cP D cI cN cQ n qc ad σ H) {v S : Nat} (hn : n ≤ 6) (hI : sv_IQ n qc σ) (hv : v < n) (hS : S < 2 ^ n) (hl : lv_has ls nL lv) (hc : cells ≤ R.cells) (hs : slots ≤ R.slots) (hcat : (rest.map fun v => v.category).sum ≤ 8) (hd : decode cc pc = .ok (.invokevirtual 125, 3)) (kk : W p l e R s m args below meth c H locs cells slots Q (F0 m (pc + 3) ls (.int (sv_b (sv_blk σ n qc S v)) :: rest))) : W p l e R s m args below meth c H locs cells slots Q (F0 m pc ls (.int (nI S) :: .ref (ad (2 + 3 * v)) :: .ref (ad 0) :: rest)) :=
  sv_cV (G := fun H => sv_cP D cI cN cQ n qc ad σ H) X okS_S_isBlockedBy (cS_m_isBlockedBy hn hI hv hS) hP (y_rec X.K hP (by omega) sv_ce_S rfl) hk rfl hl.1 rfl hcat hc hs hd kk
theorem sv_rnd_lt {σ : Sg} {n qc T : Nat} (hT : T < 2 ^ n) (k : Nat) : sv_rnd σ qc T k < 2 ^ n := sv_lt_of_bits fun v hv => sv_bit_lt hT (sv_rnd_sub k v hv)
theorem sv_big {n T : Nat} (hn : n ≤ 6) (h : T < 2 ^ n) : T < 64 := Nat.lt_of_lt_of_le h (sv_p2_64 hn)
theorem sv_rnd_f {σ : Sg} {qc T v : Nat} (h : (sv_rnd σ qc T v).testBit v = false) : sv_rnd σ qc T (v + 1) = sv_rnd σ qc T v := by
  show sv_lv _ _ _ _ = _
  unfold sv_lv
  rw [h]
  rfl
theorem sv_rnd_s {σ : Sg} {qc T v : Nat} (h : sv_sat σ qc (sv_rnd σ qc T v) v = true) : sv_rnd σ qc T (v + 1) = sv_rnd σ qc T v := by
  show sv_lv _ _ _ _ = _
  unfold sv_lv
  rw [h]
  simp
theorem sv_rnd_x {σ : Sg} {qc T v : Nat} (h : (sv_rnd σ qc T v).testBit v = true) (h2 : sv_sat σ qc (sv_rnd σ qc T v) v = false) : sv_rnd σ qc T (v + 1) = sv_rnd σ qc T v ^^^ 2 ^ v := by
  show sv_lv _ _ _ _ = _
  unfold sv_lv
  rw [h, h2]
  rfl
set_option maxHeartbeats 4000000 in
set_option maxRecDepth 100000 in
theorem wS_unionOfQuorumsIn (X : sv_X D cI cZ cN cQ "SliceVoting" cS_unionOfQuorumsIn 6 5 p R s m args c) (hP : sv_cP D cI cN cQ n qc ad σ H) {S : Nat} (hn : n ≤ 6) (hI : sv_IQ n qc σ) (hS : S < 2 ^ n) (hl : lv_has ls 6 [(0, .ref (ad 0)), (1, .int (nI S))]) (ret : ∀ (pc : Nat) (ls : Array Slot), decode cS_unionOfQuorumsIn pc = .ok (.ireturn, 1) → W p l e R s m args below meth c H locs 0 0 Q (F0 m pc ls [.int (nI (sv_un σ n qc S))])) : W p l e R s m args below meth c H locs 0 0 Q (F0 m 0 ls []) := by
  have hx := X.1
  have hb := X.2.1
  have J19 : ∀ (kf : Nat) (T : Nat) (r : Nat) (v : Nat) (ls : Array Slot), n - v < kf → (T < 2 ^ n) → (v ≤ n) → (∀ ls : Array Slot, lv_has ls 6 [(0, .ref (ad 0)), (1, .int (nI S)), (2, .int (nI (sv_rnd σ qc T n))), (3, .int (nI r)), (4, .int (nI T)), (5, .int (nI n))] → W p l e R s m args below meth c H locs 0 0 Q (F0 m 71 ls [])) → lv_has ls 6 [(0, .ref (ad 0)), (1, .int (nI S)), (2, .int (nI (sv_rnd σ qc T v))), (3, .int (nI r)), (4, .int (nI T)), (5, .int (nI v))] → W p l e R s m args below meth c H locs 0 0 Q (F0 m 19 ls []) := by
    intro kf
    induction kf with
    | zero => intro T r v ls hm; exact absurd hm (Nat.not_lt_zero _)
    | succ kf ih =>
      intro T r v ls hm hT hv hout hl
      refine lv_iload (i := 5) hx hb dS_unionOfQuorumsIn_19 (sv_at hl rfl) ?_
      refine lv_aload_n (i := 0) hx hb dS_unionOfQuorumsIn_21 rfl (sv_at hl rfl) ?_
      refine gS_nodes X hP dS_unionOfQuorumsIn_22 ?_
      refine gL_nodes X hP dS_unionOfQuorumsIn_25 ?_
      refine lv_icmp_ge (tgt := 71) hx hb dS_unionOfQuorumsIn_26 rfl (fun h26 => ?_) (fun h26 => ?_)
      · skip
        rw [nI_leI (by omega) (by omega)] at h26
        obtain rfl : v = n := by omega
        exact hout ls (sv_re hl ⟨rfl, rfl, rfl, rfl, rfl, rfl, trivial⟩)
      · skip
        rw [nI_leI (by omega) (by omega)] at h26
        refine lv_iload_n (i := 2) hx hb dS_unionOfQuorumsIn_29 rfl (sv_at hl rfl) ?_
        refine lv_iload (i := 5) hx hb dS_unionOfQuorumsIn_30 (sv_at hl rfl) ?_
        refine kS_has X (by decide) (by omega) hl (Nat.zero_le _) (Nat.zero_le _) (Nat.le_of_ble_eq_true rfl) dS_unionOfQuorumsIn_32 ?_
        refine x_tv (y := sv_b ((sv_rnd σ qc T v).testBit v)) (by rw [sv_bt_nI (Nat.lt_trans (sv_big hn (sv_rnd_lt hT v)) (by decide))]) ?_
        refine x_ifeqB (tgt := 65) hx hb dS_unionOfQuorumsIn_35 rfl (fun h35 => ?_) (fun h35 => ?_)
        · skip
          rw [← sv_rnd_f h35] at hl
          refine x_iinc (i := 5) hx hb dS_unionOfQuorumsIn_65 hl rfl (sv_inc v) (by decide) (fun ls hl => ?_)
          refine lv_goto (tgt := 19) hx hb dS_unionOfQuorumsIn_68 rfl ?_
          exact ih T r (v + 1) ls (by omega) hT (by omega) hout (sv_re hl ⟨rfl, rfl, rfl, rfl, rfl, rfl, trivial⟩)
        · skip
          refine lv_aload_n (i := 0) hx hb dS_unionOfQuorumsIn_38 rfl (sv_at hl rfl) ?_
          refine gS_nodes X hP dS_unionOfQuorumsIn_39 ?_
          refine lv_iload (i := 5) hx hb dS_unionOfQuorumsIn_42 (sv_at hl rfl) ?_
          refine gA_nodes X hP hn (by omega) dS_unionOfQuorumsIn_44 ?_
          refine gN_top X hP (by omega) dS_unionOfQuorumsIn_45 ?_
          refine lv_iload_n (i := 2) hx hb dS_unionOfQuorumsIn_48 rfl (sv_at hl rfl) ?_
          refine lv_iconst (v := 1) hx hb dS_unionOfQuorumsIn_49 (by decide) ?_
          refine kS_isMetT X (by decide) hP hI (sv_rnd_lt hT v) hl (Nat.zero_le _) (Nat.zero_le _) (Nat.le_of_ble_eq_true rfl) dS_unionOfQuorumsIn_50 ?_
          refine x_ifneB (tgt := 65) hx hb dS_unionOfQuorumsIn_53 rfl (fun h53 => ?_) (fun h53 => ?_)
          · skip
            rw [← sv_rnd_s h53] at hl
            refine x_iinc (i := 5) hx hb dS_unionOfQuorumsIn_65 hl rfl (sv_inc v) (by decide) (fun ls hl => ?_)
            refine lv_goto (tgt := 19) hx hb dS_unionOfQuorumsIn_68 rfl ?_
            exact ih T r (v + 1) ls (by omega) hT (by omega) hout (sv_re hl ⟨rfl, rfl, rfl, rfl, rfl, rfl, trivial⟩)
          · skip
            refine lv_iload_n (i := 2) hx hb dS_unionOfQuorumsIn_56 rfl (sv_at hl rfl) ?_
            refine lv_iconst (v := 1) hx hb dS_unionOfQuorumsIn_57 (by decide) ?_
            refine lv_iload (i := 5) hx hb dS_unionOfQuorumsIn_58 (sv_at hl rfl) ?_
            refine lv_ishl hx hb dS_unionOfQuorumsIn_60 ?_
            refine lv_iconst (v := -1) hx hb dS_unionOfQuorumsIn_61 (by decide) ?_
            refine lv_ixor hx hb dS_unionOfQuorumsIn_62 ?_
            refine lv_iand hx hb dS_unionOfQuorumsIn_63 ?_
            refine x_tv (y := nI (sv_rnd σ qc T (v + 1))) (by rw [sv_pow v (by omega), sv_drop h35, sv_rnd_x h35 h53]) ?_
            refine lv_istore_n (i := 2) hx hb dS_unionOfQuorumsIn_64 rfl hl (by decide) rfl (fun ls hl => ?_)
            refine x_iinc (i := 5) hx hb dS_unionOfQuorumsIn_65 hl rfl (sv_inc v) (by decide) (fun ls hl => ?_)
            refine lv_goto (tgt := 19) hx hb dS_unionOfQuorumsIn_68 rfl ?_
            exact ih T r (v + 1) ls (by omega) hT (by omega) hout (sv_re hl ⟨rfl, rfl, rfl, rfl, rfl, rfl, trivial⟩)
  have J4 : ∀ (kf : Nat) (T : Nat) (r : Nat) (ls : Array Slot), n - r < kf → (T < 2 ^ n) → (sv_sub T S) → (∀ q, q < 2 ^ n → sv_sub q S → sv_quo σ n qc q = true → sv_sub q T) → (sv_pc T + r ≤ n) → lv_has ls 6 [(0, .ref (ad 0)), (1, .int (nI S)), (2, .int (nI T)), (3, .int (nI r))] → W p l e R s m args below meth c H locs 0 0 Q (F0 m 4 ls []) := by
    intro kf
    induction kf with
    | zero => intro T r ls hm; exact absurd hm (Nat.not_lt_zero _)
    | succ kf ih =>
      intro T r ls hm hT h1 h2 hr hl
      refine lv_iload_n (i := 3) hx hb dS_unionOfQuorumsIn_4 rfl (sv_at hl rfl) ?_
      refine lv_aload_n (i := 0) hx hb dS_unionOfQuorumsIn_5 rfl (sv_at hl rfl) ?_
      refine gS_nodes X hP dS_unionOfQuorumsIn_6 ?_
      refine gL_nodes X hP dS_unionOfQuorumsIn_9 ?_
      refine lv_icmp_ge (tgt := 86) hx hb dS_unionOfQuorumsIn_10 rfl (fun h10 => ?_) (fun h10 => ?_)
      · skip
        rw [nI_leI (by omega) (by omega)] at h10
        refine lv_iload_n (i := 2) hx hb dS_unionOfQuorumsIn_86 rfl (sv_at hl rfl) ?_
        exact x_tv (by first | (rw [h74, ← sv_un_of hT h1 h2 (sv_rnd_fix n ((nI_eq (by have := sv_big hn (sv_rnd_lt (σ := σ) (qc := qc) hT n); omega) (by have := sv_big hn hT; omega)).mp h74))]) | (rw [← sv_un_of hT h1 h2 (fun v hv hb => by rw [sv_pc_0 (sv_big hn hT) (by omega), Nat.zero_testBit] at hb; cases hb)])) (ret _ _ dS_unionOfQuorumsIn_87)
      · skip
        rw [nI_leI (by omega) (by omega)] at h10
        refine lv_iload_n (i := 2) hx hb dS_unionOfQuorumsIn_13 rfl (sv_at hl rfl) ?_
        refine lv_istore (i := 4) hx hb dS_unionOfQuorumsIn_14 hl (by decide) rfl (fun ls hl => ?_)
        refine lv_iconst (v := 0) hx hb dS_unionOfQuorumsIn_16 (by decide) ?_
        refine lv_istore (i := 5) hx hb dS_unionOfQuorumsIn_17 hl (by decide) rfl (fun ls hl => ?_)
        refine J19 _ T r 0 ls (Nat.lt_succ_self _) hT (Nat.zero_le _) (fun ls hl => ?_) (sv_re hl ⟨rfl, rfl, rfl, rfl, rfl, rfl, trivial⟩)
        refine lv_iload_n (i := 2) hx hb dS_unionOfQuorumsIn_71 rfl (sv_at hl rfl) ?_
        refine lv_iload (i := 4) hx hb dS_unionOfQuorumsIn_72 (sv_at hl rfl) ?_
        refine lv_icmp_ne (tgt := 80) hx hb dS_unionOfQuorumsIn_74 rfl (fun h74 => ?_) (fun h74 => ?_)
        · skip
          refine x_iinc (i := 3) hx hb dS_unionOfQuorumsIn_80 hl rfl (sv_inc r) (by decide) (fun ls hl => ?_)
          refine lv_goto (tgt := 4) hx hb dS_unionOfQuorumsIn_83 rfl ?_
          exact ih (sv_rnd σ qc T n) (r + 1) ls (by omega) (sv_rnd_lt hT n) (fun v hv => h1 v (sv_rnd_sub n v hv)) (fun q a b c => sv_rnd_keep hI.2.2.2.1 (h2 q a b c) c n (Nat.le_refl _)) (by have := sv_pc_lt (sv_rnd_sub (σ := σ) (qc := qc) (T := T) n) (fun q => h74 (by rw [q])) (sv_big hn hT); omega) (sv_re hl ⟨rfl, rfl, rfl, rfl, trivial⟩)
        · skip
          refine lv_goto (tgt := 86) hx hb dS_unionOfQuorumsIn_77 rfl ?_
          refine lv_iload_n (i := 2) hx hb dS_unionOfQuorumsIn_86 rfl (sv_at hl rfl) ?_
          exact x_tv (by first | (rw [h74, ← sv_un_of hT h1 h2 (sv_rnd_fix n ((nI_eq (by have := sv_big hn (sv_rnd_lt (σ := σ) (qc := qc) hT n); omega) (by have := sv_big hn hT; omega)).mp h74))]) | (rw [← sv_un_of hT h1 h2 (fun v hv hb => by rw [sv_pc_0 (sv_big hn hT) (by omega), Nat.zero_testBit] at hb; cases hb)])) (ret _ _ dS_unionOfQuorumsIn_87)
  refine lv_iload_n (i := 1) hx hb dS_unionOfQuorumsIn_0 rfl (sv_at hl rfl) ?_
  refine lv_istore_n (i := 2) hx hb dS_unionOfQuorumsIn_1 rfl hl (by decide) rfl (fun ls hl => ?_)
  refine lv_iconst (v := 0) hx hb dS_unionOfQuorumsIn_2 (by decide) ?_
  refine lv_istore_n (i := 3) hx hb dS_unionOfQuorumsIn_3 rfl hl (by decide) rfl (fun ls hl => ?_)
  exact J4 _ S 0 ls (Nat.lt_succ_self _) hS (sv_sub_rf S) (fun q _ h _ => h) (sv_pc_le hS hn) (sv_re hl ⟨rfl, rfl, rfl, rfl, trivial⟩)

theorem cS_m_unionOfQuorumsIn {S : Nat} (hn : n ≤ 6) (hI : sv_IQ n qc σ) (hS : S < 2 ^ n) : Met l yS_unionOfQuorumsIn (sv_ws yS_unionOfQuorumsIn cS_unionOfQuorumsIn 6 (some .int)) (sv_rm 5) (sv_Pc D cI cZ cN cQ [.ref (ad 0), .int (nI S)] (fun H => sv_cP D cI cN cQ n qc ad σ H)) (vp_Si (fun zz => zz = nI (sv_un σ n qc S))) 0 0 (fun _ => False) :=
  sv_mkR (by decide) (by show 2 ≤ 6; decide) rfl (fun p e s m below meth c ls Q X hP hl ret => wS_unionOfQuorumsIn X hP hn hI hS hl ret)
theorem okS_S_unionOfQuorumsIn : sv_okV "SliceVoting" 121 yS_unionOfQuorumsIn cS_unionOfQuorumsIn 6 (some .int) 1 := ⟨sv_tb_t 206 rfl rfl, sv_tb_t 203 rfl rfl, sv_tb_t 205 rfl rfl, sv_tb_s 10 rfl rfl, sv_tb_t 1 rfl rfl, ⟨by decide, by decide, by decide +kernel⟩, by decide⟩
theorem kS_unionOfQuorumsIn (X : sv_X D cI cZ cN cQ "SliceVoting" cc nL k p R s m args c) (hk : 5 + 1 ≤ k) (hP : sv_cP D cI cN cQ n qc ad σ H) {S : Nat} (hn : n ≤ 6) (hI : sv_IQ n qc σ) (hS : S < 2 ^ n) (hl : lv_has ls nL lv) (hc : cells ≤ R.cells) (hs : slots ≤ R.slots) (hcat : (rest.map fun v => v.category).sum ≤ 8) (hd : decode cc pc = .ok (.invokevirtual 121, 3)) (kk : W p l e R s m args below meth c H locs cells slots Q (F0 m (pc + 3) ls (.int (nI (sv_un σ n qc S)) :: rest))) : W p l e R s m args below meth c H locs cells slots Q (F0 m pc ls (.int (nI S) :: .ref (ad 0) :: rest)) :=
  sv_cV (G := fun H => sv_cP D cI cN cQ n qc ad σ H) X okS_S_unionOfQuorumsIn (cS_m_unionOfQuorumsIn hn hI hS) hP (y_rec X.K hP (by omega) sv_ce_S rfl) hk rfl hl.1 rfl hcat hc hs hd kk
set_option maxHeartbeats 4000000 in
set_option maxRecDepth 100000 in
theorem wS_isQuorum (X : sv_X D cI cZ cN cQ "SliceVoting" cS_isQuorum 2 6 p R s m args c) (hP : sv_cP D cI cN cQ n qc ad σ H) {S : Nat} (hn : n ≤ 6) (hI : sv_IQ n qc σ) (hS : S < 2 ^ n) (hl : lv_has ls 2 [(0, .ref (ad 0)), (1, .int (nI S))]) (ret : ∀ (pc : Nat) (ls : Array Slot), decode cS_isQuorum pc = .ok (.ireturn, 1) → W p l e R s m args below meth c H locs 0 0 Q (F0 m pc ls [.int (sv_b (sv_quo σ n qc S))])) : W p l e R s m args below meth c H locs 0 0 Q (F0 m 0 ls []) := by
  have hx := X.1
  have hb := X.2.1
  refine lv_iload_n (i := 1) hx hb dS_isQuorum_0 rfl (sv_at hl rfl) ?_
  refine lv_if_eq (tgt := 17) hx hb dS_isQuorum_1 rfl (fun h1 => ?_) (fun h1 => ?_)
  · skip
    have e0 : S = 0 := (nI_eq (b := 0) (by have := sv_big hn hS; omega) (by decide)).mp h1
    refine lv_iconst (v := 0) hx hb dS_isQuorum_17 (by decide) ?_
    exact x_tv (by rw [← sv_un_self hI.2.2.2.1 hS]; first | (rw [decide_eq_true e0, decide_eq_true e1]; rfl) | (rw [decide_eq_false e1, Bool.and_false]; rfl) | (rw [decide_eq_false (fun q => q e0)]; rfl)) (ret _ _ dS_isQuorum_18)
  · skip
    have e0 : S ≠ 0 := fun q => h1 (by rw [q]; rfl)
    refine lv_aload_n (i := 0) hx hb dS_isQuorum_4 rfl (sv_at hl rfl) ?_
    refine lv_iload_n (i := 1) hx hb dS_isQuorum_5 rfl (sv_at hl rfl) ?_
    refine kS_unionOfQuorumsIn X (by decide) hP hn hI (by omega) hl (Nat.zero_le _) (Nat.zero_le _) (Nat.le_of_ble_eq_true rfl) dS_isQuorum_6 ?_
    refine lv_iload_n (i := 1) hx hb dS_isQuorum_9 rfl (sv_at hl rfl) ?_
    refine lv_icmp_ne (tgt := 17) hx hb dS_isQuorum_10 rfl (fun h10 => ?_) (fun h10 => ?_)
    · skip
      have e1 : ¬ sv_un σ n qc S = S := fun q => h10 (by rw [q])
      refine lv_iconst (v := 0) hx hb dS_isQuorum_17 (by decide) ?_
      exact x_tv (by rw [← sv_un_self hI.2.2.2.1 hS]; first | (rw [decide_eq_true e0, decide_eq_true e1]; rfl) | (rw [decide_eq_false e1, Bool.and_false]; rfl) | (rw [decide_eq_false (fun q => q e0)]; rfl)) (ret _ _ dS_isQuorum_18)
    · skip
      have e1 : sv_un σ n qc S = S := (nI_eq (by have := sv_big hn (sv_un_lt (σ := σ) (qc := qc) (S := S) (n := n)); omega) (by have := sv_big hn hS; omega)).mp h10
      refine lv_iconst (v := 1) hx hb dS_isQuorum_13 (by decide) ?_
      refine lv_goto (tgt := 18) hx hb dS_isQuorum_14 rfl ?_
      exact x_tv (by rw [← sv_un_self hI.2.2.2.1 hS]; first | (rw [decide_eq_true e0, decide_eq_true e1]; rfl) | (rw [decide_eq_false e1, Bool.and_false]; rfl) | (rw [decide_eq_false (fun q => q e0)]; rfl)) (ret _ _ dS_isQuorum_18)

theorem cS_m_isQuorum {S : Nat} (hn : n ≤ 6) (hI : sv_IQ n qc σ) (hS : S < 2 ^ n) : Met l yS_isQuorum (sv_ws yS_isQuorum cS_isQuorum 2 (some .boolean)) (sv_rm 6) (sv_Pc D cI cZ cN cQ [.ref (ad 0), .int (nI S)] (fun H => sv_cP D cI cN cQ n qc ad σ H)) (vp_Si (fun zz => zz = sv_b (sv_quo σ n qc S))) 0 0 (fun _ => False) :=
  sv_mkR (by decide) (by show 2 ≤ 2; decide) (sv_narb _) (fun p e s m below meth c ls Q X hP hl ret => wS_isQuorum X hP hn hI hS hl ret)
theorem okS_S_isQuorum : sv_okV "SliceVoting" 118 yS_isQuorum cS_isQuorum 2 (some .boolean) 1 := ⟨sv_tb_t 290 rfl rfl, sv_tb_t 287 rfl rfl, sv_tb_t 289 rfl rfl, sv_tb_s 16 rfl rfl, sv_tb_t 1 rfl rfl, ⟨by decide, by decide, by decide +kernel⟩, by decide⟩
theorem kS_isQuorum (X : sv_X D cI cZ cN cQ "SliceVoting" cc nL k p R s m args c) (hk : 6 + 1 ≤ k) (hP : sv_cP D cI cN cQ n qc ad σ H) {S : Nat} (hn : n ≤ 6) (hI : sv_IQ n qc σ) (hS : S < 2 ^ n) (hl : lv_has ls nL lv) (hc : cells ≤ R.cells) (hs : slots ≤ R.slots) (hcat : (rest.map fun v => v.category).sum ≤ 8) (hd : decode cc pc = .ok (.invokevirtual 118, 3)) (kk : W p l e R s m args below meth c H locs cells slots Q (F0 m (pc + 3) ls (.int (sv_b (sv_quo σ n qc S)) :: rest))) : W p l e R s m args below meth c H locs cells slots Q (F0 m pc ls (.int (nI S) :: .ref (ad 0) :: rest)) :=
  sv_cV (G := fun H => sv_cP D cI cN cQ n qc ad σ H) X okS_S_isQuorum (cS_m_isQuorum hn hI hS) hP (y_rec X.K hP (by omega) sv_ce_S rfl) hk rfl hl.1 rfl hcat hc hs hd kk
theorem sv_said_t {f : Nat → Int32} {s k : Nat} (h : bt (f k) s = true) : sv_said f s (k + 1) = sv_said f s k ||| 2 ^ k := by simp [sv_said, h]
theorem sv_said_f {f : Nat → Int32} {s k : Nat} (h : bt (f k) s = false) : sv_said f s (k + 1) = sv_said f s k := by simp [sv_said, h]
set_option maxHeartbeats 4000000 in
set_option maxRecDepth 100000 in
theorem wS_nodesThatSaid (X : sv_X D cI cZ cN cQ "SliceVoting" cS_nodesThatSaid 4 2 p R s m args c) (hP : sv_cP D cI cN cQ n qc ad σ H) {ka t : Nat} {f : Nat → Int32} (hn : n ≤ 6) (hka : ka < 3 + 3 * n + qc) (he : sv_ce cI cN cQ n qc ad σ ka = .inl (cI, n, .inl f)) (ht : t < 24) (hl : lv_has ls 4 [(0, .ref (ad ka)), (1, .int (nI t))]) (ret : ∀ (pc : Nat) (ls : Array Slot), decode cS_nodesThatSaid pc = .ok (.ireturn, 1) → W p l e R s m args below meth c H locs 0 0 Q (F0 m pc ls [.int (nI (sv_said f t n))])) : W p l e R s m args below meth c H locs 0 0 Q (F0 m 0 ls []) := by
  have hx := X.1
  have hb := X.2.1
  have J4 : ∀ (kf : Nat) (w : Nat) (ls : Array Slot), n - w < kf → (w ≤ n) → lv_has ls 4 [(0, .ref (ad ka)), (1, .int (nI t)), (2, .int (nI (sv_said f t w))), (3, .int (nI w))] → W p l e R s m args below meth c H locs 0 0 Q (F0 m 4 ls []) := by
    intro kf
    induction kf with
    | zero => intro w ls hm; exact absurd hm (Nat.not_lt_zero _)
    | succ kf ih =>
      intro w ls hm hw hl
      refine lv_iload_n (i := 3) hx hb dS_nodesThatSaid_4 rfl (sv_at hl rfl) ?_
      refine lv_aload_n (i := 0) hx hb dS_nodesThatSaid_5 rfl (sv_at hl rfl) ?_
      refine y_alen hx hb X.K hP hka 0 he rfl dS_nodesThatSaid_6 ?_
      refine lv_icmp_ge (tgt := 32) hx hb dS_nodesThatSaid_7 rfl (fun h7 => ?_) (fun h7 => ?_)
      · skip
        rw [nI_leI (by omega) (by omega)] at h7
        obtain rfl : w = n := by omega
        refine lv_iload_n (i := 2) hx hb dS_nodesThatSaid_32 rfl (sv_at hl rfl) ?_
        exact ret _ _ dS_nodesThatSaid_33
      · skip
        rw [nI_leI (by omega) (by omega)] at h7
        refine lv_aload_n (i := 0) hx hb dS_nodesThatSaid_10 rfl (sv_at hl rfl) ?_
        refine lv_iload_n (i := 3) hx hb dS_nodesThatSaid_11 rfl (sv_at hl rfl) ?_
        refine y_iald hx hb X.K hP hka 0 he rfl (by omega) (by omega) dS_nodesThatSaid_12 ?_
        refine lv_iload_n (i := 1) hx hb dS_nodesThatSaid_13 rfl (sv_at hl rfl) ?_
        refine kS_has X (by decide) (by omega) hl (Nat.zero_le _) (Nat.zero_le _) (Nat.le_of_ble_eq_true rfl) dS_nodesThatSaid_14 ?_
        refine x_ifeqB (tgt := 26) hx hb dS_nodesThatSaid_17 rfl (fun h17 => ?_) (fun h17 => ?_)
        · skip
          rw [← sv_said_f h17] at hl
          refine x_iinc (i := 3) hx hb dS_nodesThatSaid_26 hl rfl (sv_inc w) (by decide) (fun ls hl => ?_)
          refine lv_goto (tgt := 4) hx hb dS_nodesThatSaid_29 rfl ?_
          exact ih (w + 1) ls (by omega) (by omega) (sv_re hl ⟨rfl, rfl, rfl, rfl, trivial⟩)
        · skip
          refine lv_iload_n (i := 2) hx hb dS_nodesThatSaid_20 rfl (sv_at hl rfl) ?_
          refine lv_iconst (v := 1) hx hb dS_nodesThatSaid_21 (by decide) ?_
          refine lv_iload_n (i := 3) hx hb dS_nodesThatSaid_22 rfl (sv_at hl rfl) ?_
          refine lv_ishl hx hb dS_nodesThatSaid_23 ?_
          refine lv_ior hx hb dS_nodesThatSaid_24 ?_
          refine x_tv (y := nI (sv_said f t (w + 1))) (by rw [sv_pow w (by omega), sv_nor, sv_said_t h17]) ?_
          refine lv_istore_n (i := 2) hx hb dS_nodesThatSaid_25 rfl hl (by decide) rfl (fun ls hl => ?_)
          refine x_iinc (i := 3) hx hb dS_nodesThatSaid_26 hl rfl (sv_inc w) (by decide) (fun ls hl => ?_)
          refine lv_goto (tgt := 4) hx hb dS_nodesThatSaid_29 rfl ?_
          exact ih (w + 1) ls (by omega) (by omega) (sv_re hl ⟨rfl, rfl, rfl, rfl, trivial⟩)
  refine lv_iconst (v := 0) hx hb dS_nodesThatSaid_0 (by decide) ?_
  refine lv_istore_n (i := 2) hx hb dS_nodesThatSaid_1 rfl hl (by decide) rfl (fun ls hl => ?_)
  refine lv_iconst (v := 0) hx hb dS_nodesThatSaid_2 (by decide) ?_
  refine lv_istore_n (i := 3) hx hb dS_nodesThatSaid_3 rfl hl (by decide) rfl (fun ls hl => ?_)
  exact J4 _ 0 ls (Nat.lt_succ_self _) (Nat.zero_le _) (sv_re hl ⟨rfl, rfl, rfl, rfl, trivial⟩)

theorem cS_m_nodesThatSaid {ka t : Nat} {f : Nat → Int32} (hn : n ≤ 6) (hka : ka < 3 + 3 * n + qc) (he : sv_ce cI cN cQ n qc ad σ ka = .inl (cI, n, .inl f)) (ht : t < 24) : Met l yS_nodesThatSaid (sv_ws yS_nodesThatSaid cS_nodesThatSaid 4 (some .int)) (sv_rm 2) (sv_Pc D cI cZ cN cQ [.ref (ad ka), .int (nI t)] (fun H => sv_cP D cI cN cQ n qc ad σ H)) (vp_Si (fun zz => zz = nI (sv_said f t n))) 0 0 (fun _ => False) :=
  sv_mkR (by decide) (by show 2 ≤ 4; decide) rfl (fun p e s m below meth c ls Q X hP hl ret => wS_nodesThatSaid X hP hn hka he ht hl ret)
theorem okS_S_nodesThatSaid : sv_okS "SliceVoting" 194 yS_nodesThatSaid cS_nodesThatSaid 4 (some .int) 2 := ⟨sv_tb_t 198 rfl rfl, sv_tb_t 196 rfl rfl, sv_tb_t 197 rfl rfl, sv_tb_t 1 rfl rfl, ⟨by decide, by decide, by decide +kernel⟩, by decide⟩
theorem kS_nodesThatSaid (X : sv_X D cI cZ cN cQ "SliceVoting" cc nL k p R s m args c) (hk : 2 + 1 ≤ k) (hP : sv_cP D cI cN cQ n qc ad σ H) {ka t : Nat} {f : Nat → Int32} (hn : n ≤ 6) (hka : ka < 3 + 3 * n + qc) (he : sv_ce cI cN cQ n qc ad σ ka = .inl (cI, n, .inl f)) (ht : t < 24) (hl : lv_has ls nL lv) (hc : cells ≤ R.cells) (hs : slots ≤ R.slots) (hcat : (rest.map fun v => v.category).sum ≤ 8) (hd : decode cc pc = .ok (.invokestatic 194, 3)) (kk : W p l e R s m args below meth c H locs cells slots Q (F0 m (pc + 3) ls (.int (nI (sv_said f t n)) :: rest))) : W p l e R s m args below meth c H locs cells slots Q (F0 m pc ls (.int (nI t) :: .ref (ad ka) :: rest)) :=
  sv_cS (G := fun H => sv_cP D cI cN cQ n qc ad σ H) X okS_S_nodesThatSaid (cS_m_nodesThatSaid hn hka he ht) hP hk rfl hl.1 rfl hcat hc hs hd kk
set_option maxHeartbeats 4000000 in
set_option maxRecDepth 100000 in
theorem wS_isInQuorumWithin (X : sv_X D cI cZ cN cQ "SliceVoting" cS_isInQuorumWithin 3 6 p R s m args c) (hP : sv_cP D cI cN cQ n qc ad σ H) {v S : Nat} (hn : n ≤ 6) (hI : sv_IQ n qc σ) (hv : v < n) (hS : S < 2 ^ n) (hl : lv_has ls 3 [(0, .ref (ad 0)), (1, .ref (ad (2 + 3 * v))), (2, .int (nI S))]) (ret : ∀ (pc : Nat) (ls : Array Slot), decode cS_isInQuorumWithin pc = .ok (.ireturn, 1) → W p l e R s m args below meth c H locs 0 0 Q (F0 m pc ls [.int (sv_b ((sv_un σ n qc S).testBit v))])) : W p l e R s m args below meth c H locs 0 0 Q (F0 m 0 ls []) := by
  have hx := X.1
  have hb := X.2.1
  refine lv_iload_n (i := 2) hx hb dS_isInQuorumWithin_0 rfl (sv_at hl rfl) ?_
  refine lv_aload_n (i := 1) hx hb dS_isInQuorumWithin_1 rfl (sv_at hl rfl) ?_
  refine gN_number X hP (by omega) dS_isInQuorumWithin_2 ?_
  refine kS_has X (by decide) (by omega) hl (Nat.zero_le _) (Nat.zero_le _) (Nat.le_of_ble_eq_true rfl) dS_isInQuorumWithin_5 ?_
  refine x_tv (y := sv_b (S.testBit v)) (by rw [sv_bt_nI (Nat.lt_trans (sv_big hn hS) (by decide))]) ?_
  refine x_ifeqB (tgt := 30) hx hb dS_isInQuorumWithin_8 rfl (fun h8 => ?_) (fun h8 => ?_)
  · skip
    refine lv_iconst (v := 0) hx hb dS_isInQuorumWithin_30 (by decide) ?_
    exact x_tv (by first | (rw [h23]; rfl) | (cases e : (sv_un σ n qc S).testBit v with | false => rfl | true => rw [sv_un_sub v e] at h8; cases h8)) (ret _ _ dS_isInQuorumWithin_31)
  · skip
    refine lv_aload_n (i := 0) hx hb dS_isInQuorumWithin_11 rfl (sv_at hl rfl) ?_
    refine lv_iload_n (i := 2) hx hb dS_isInQuorumWithin_12 rfl (sv_at hl rfl) ?_
    refine kS_unionOfQuorumsIn X (by decide) hP hn hI (by omega) hl (Nat.zero_le _) (Nat.zero_le _) (Nat.le_of_ble_eq_true rfl) dS_isInQuorumWithin_13 ?_
    refine lv_aload_n (i := 1) hx hb dS_isInQuorumWithin_16 rfl (sv_at hl rfl) ?_
    refine gN_number X hP (by omega) dS_isInQuorumWithin_17 ?_
    refine kS_has X (by decide) (by omega) hl (Nat.zero_le _) (Nat.zero_le _) (Nat.le_of_ble_eq_true rfl) dS_isInQuorumWithin_20 ?_
    refine x_tv (y := sv_b ((sv_un σ n qc S).testBit v)) (by rw [sv_bt_nI (Nat.lt_trans (sv_big hn sv_un_lt) (by decide))]) ?_
    refine x_ifeqB (tgt := 30) hx hb dS_isInQuorumWithin_23 rfl (fun h23 => ?_) (fun h23 => ?_)
    · skip
      refine lv_iconst (v := 0) hx hb dS_isInQuorumWithin_30 (by decide) ?_
      exact x_tv (by first | (rw [h23]; rfl) | (cases e : (sv_un σ n qc S).testBit v with | false => rfl | true => rw [sv_un_sub v e] at h8; cases h8)) (ret _ _ dS_isInQuorumWithin_31)
    · skip
      refine lv_iconst (v := 1) hx hb dS_isInQuorumWithin_26 (by decide) ?_
      refine lv_goto (tgt := 31) hx hb dS_isInQuorumWithin_27 rfl ?_
      exact x_tv (by first | (rw [h23]; rfl) | (cases e : (sv_un σ n qc S).testBit v with | false => rfl | true => rw [sv_un_sub v e] at h8; cases h8)) (ret _ _ dS_isInQuorumWithin_31)

theorem cS_m_isInQuorumWithin {v S : Nat} (hn : n ≤ 6) (hI : sv_IQ n qc σ) (hv : v < n) (hS : S < 2 ^ n) : Met l yS_isInQuorumWithin (sv_ws yS_isInQuorumWithin cS_isInQuorumWithin 3 (some .boolean)) (sv_rm 6) (sv_Pc D cI cZ cN cQ [.ref (ad 0), .ref (ad (2 + 3 * v)), .int (nI S)] (fun H => sv_cP D cI cN cQ n qc ad σ H)) (vp_Si (fun zz => zz = sv_b ((sv_un σ n qc S).testBit v))) 0 0 (fun _ => False) :=
  sv_mkR (by decide) (by show 3 ≤ 3; decide) (sv_narb _) (fun p e s m below meth c ls Q X hP hl ret => wS_isInQuorumWithin X hP hn hI hv hS hl ret)
theorem okS_S_isInQuorumWithin : sv_okV "SliceVoting" 198 yS_isInQuorumWithin cS_isInQuorumWithin 3 (some .boolean) 2 := ⟨sv_tb_t 202 rfl rfl, sv_tb_t 199 rfl rfl, sv_tb_t 201 rfl rfl, sv_tb_s 9 rfl rfl, sv_tb_t 1 rfl rfl, ⟨by decide, by decide, by decide +kernel⟩, by decide⟩
theorem kS_isInQuorumWithin (X : sv_X D cI cZ cN cQ "SliceVoting" cc nL k p R s m args c) (hk : 6 + 1 ≤ k) (hP : sv_cP D cI cN cQ n qc ad σ H) {v S : Nat} (hn : n ≤ 6) (hI : sv_IQ n qc σ) (hv : v < n) (hS : S < 2 ^ n) (hl : lv_has ls nL lv) (hc : cells ≤ R.cells) (hs : slots ≤ R.slots) (hcat : (rest.map fun v => v.category).sum ≤ 8) (hd : decode cc pc = .ok (.invokevirtual 198, 3)) (kk : W p l e R s m args below meth c H locs cells slots Q (F0 m (pc + 3) ls (.int (sv_b ((sv_un σ n qc S).testBit v)) :: rest))) : W p l e R s m args below meth c H locs cells slots Q (F0 m pc ls (.int (nI S) :: .ref (ad (2 + 3 * v)) :: .ref (ad 0) :: rest)) :=
  sv_cV (G := fun H => sv_cP D cI cN cQ n qc ad σ H) X okS_S_isInQuorumWithin (cS_m_isInQuorumWithin hn hI hv hS) hP (y_rec X.K hP (by omega) sv_ce_S rfl) hk rfl hl.1 rfl hcat hc hs hd kk
end SvQuor
end
section
section SvReads
variable {p : Program} {l : Launch} {e : Env} {R : Room} {s : State} {m : MethodId} {args : Array Value} {below : List Frame} {meth : Method} {c : Code} {H H0 : Heap} {locs : List Loc} {cells slots : Nat} {Q : State → Prop}
variable {cc : ByteArray} {pc nL k : Nat} {ls : Array Slot} {lv : List (Nat × Value)} {rest : List Value} {D : va_G} {cI cZ cN cQ : ClassId} {n qc : Nat} {ad : Nat → Nat} {σ : Sg} {A : Nat → Prop} {mt qm : Nat → Int32}
theorem sv_ka_self (σ : Sg) (v : Nat) : sv_ka σ v v = σ 11 v := if_pos rfl
theorem sv_kv_self (σ : Sg) (v : Nat) : sv_kv σ v v = σ 10 v := if_pos rfl
theorem sv_BV_or (σ : Sg) (n v t : Nat) : sv_said (sv_kv σ v) t n ||| sv_said (sv_ka σ v) t n = sv_BV σ n v t := by
  apply Nat.eq_of_testBit_eq
  intro w
  unfold sv_BV
  rw [Nat.testBit_or, sv_said_bit, sv_said_bit, sv_said_bit, b_or]
  cases decide (w < n) <;> cases bt (sv_ka σ v w) t <;> cases bt (sv_kv σ v w) t <;> rfl
theorem sv_mC_eq {σ : Sg} {n qc v t : Nat} : sv_mC σ n qc v t = (!bt (σ 12 v) t && (sv_un σ n qc (sv_BA σ n v t)).testBit v) := by
  unfold sv_mC
  cases e : (sv_un σ n qc (sv_BA σ n v t)).testBit v with
  | false => simp
  | true =>
    have h := sv_un_sub v e
    unfold sv_BA at h
    rw [sv_said_bit, Bool.and_eq_true, sv_ka_self] at h
    rw [h.2]
    simp
theorem sv_m1lt {j : Nat} (hj : j ≤ 24) : nI j - 1 < 0 ↔ j = 0 := by
  constructor
  · intro h
    cases j with
    | zero => rfl
    | succ i => rw [nI_pred] at h; exact absurd h (nI_pos (by omega))
  · rintro rfl
    decide
theorem sv_dec1 (i : Nat) : nI i + Int32.ofInt (-1) = nI i - 1 := by rw [Int32.sub_eq_add_neg]; rfl
/-- what a reader answers: f of a node, else d -/
def sv_rd (n : Nat) (f : Nat → Int32) (d v : Int32) : Int32 := bif sv_isn n v then f v.toNatClampNeg else d
theorem sv_rd_t {n j : Nat} {f : Nat → Int32} {d : Int32} (hn : n ≤ 24) (h : j < n) : sv_rd n f d (nI j) = f j := by
  unfold sv_rd
  rw [sv_isn_nI hn h, nI_clamp (by omega)]
  rfl
theorem sv_rd_f {n : Nat} {f : Nat → Int32} {d v : Int32} (h : sv_isn n v = false) : sv_rd n f d v = d := by
  unfold sv_rd
  rw [h]
  rfl
def sv_knw (n : Nat) (σ : Sg) (v w : Int32) (B : Bool) : Int32 := bif sv_isn n v && sv_isn n w then (bif B then sv_ka σ v.toNatClampNeg w.toNatClampNeg else sv_kv σ v.toNatClampNeg w.toNatClampNeg) else 0
theorem sv_set_of {n : Nat} {x : Int32} (h : decide (sv_N x < 2 ^ n) = true) : ∃ S, S < 2 ^ n ∧ x = nI S := ⟨sv_N x, of_decide_eq_true h, (sv_nI_N x).symm⟩
theorem sv_N_of {n S : Nat} (hn : n ≤ 6) (h : S < 2 ^ n) : sv_N (nI S) = S := sv_N_nI (Nat.lt_trans (sv_big hn h) (by decide))
def sv_itw (σ : Sg) (n qc v w : Nat) : Bool := sv_all (fun p => sv_all (fun q => !(sv_quo σ n qc p && sv_quo σ n qc q && p.testBit v && q.testBit w) || decide (p &&& q &&& sv_wbN σ n ≠ 0)) (2 ^ n)) (2 ^ n)
theorem sv_itw_f {σ : Sg} {n qc v w p : Nat} (hp : p < 2 ^ n) (h1 : p.testBit v = true) (h2 : sv_quo σ n qc p = true) (h3 : (sv_un σ n qc ((2 ^ n - 1) ^^^ (p &&& sv_wbN σ n))).testBit w = true) : sv_itw σ n qc v w = false := by
  obtain ⟨q, a1, a2, a3, a4⟩ := sv_un_bit.mp h3
  cases e : sv_itw σ n qc v w with
  | false => rfl
  | true =>
    unfold sv_itw at e
    have e2 := (sv_all_iff _).mp ((sv_all_iff _).mp e p hp) q a1
    rw [h2, a3, h1, a4] at e2
    simp only [Bool.and_self, Bool.not_true, Bool.false_or, decide_eq_true_eq] at e2
    refine absurd ?_ e2
    refine Nat.eq_of_testBit_eq fun i => ?_
    rw [Nat.testBit_and, Nat.testBit_and, Nat.zero_testBit]
    cases b1 : q.testBit i with
    | false => simp
    | true =>
      have b2 := a2 i b1
      rw [Nat.testBit_xor, sv_p2, Nat.testBit_and] at b2
      have hi := sv_bit_lt a1 b1
      rw [decide_eq_true hi] at b2
      cases b3 : p.testBit i <;> cases b4 : (sv_wbN σ n).testBit i <;> simp_all
theorem sv_itw_t {σ : Sg} {n qc v w : Nat} (h : ∀ p, p < 2 ^ n → (p.testBit v && sv_quo σ n qc p && (sv_un σ n qc ((2 ^ n - 1) ^^^ (p &&& sv_wbN σ n))).testBit w) = false) : sv_itw σ n qc v w = true := by
  unfold sv_itw
  refine (sv_all_iff _).mpr fun p hp => (sv_all_iff _).mpr fun q hq => ?_
  cases e1 : sv_quo σ n qc p with
  | false => rfl
  | true =>
    cases e2 : sv_quo σ n qc q with
    | false => rfl
    | true =>
      cases e3 : p.testBit v with
      | false => rfl
      | true =>
        cases e4 : q.testBit w with
        | false => rfl
        | true =>
          have h0 := h p hp
          rw [e1, e3] at h0
          simp only [Bool.and_self, Bool.not_true, Bool.false_or, decide_eq_true_eq, Bool.true_and]
          intro hz
          have : (sv_un σ n qc ((2 ^ n - 1) ^^^ (p &&& sv_wbN σ n))).testBit w = true := sv_un_bit.mpr ⟨q, hq, fun i hi => by
            have hin := sv_bit_lt hq hi
            rw [Nat.testBit_xor, sv_p2, Nat.testBit_and, decide_eq_true hin]
            have hz2 : (p &&& q &&& sv_wbN σ n).testBit i = false := by rw [hz, Nat.zero_testBit]
            rw [Nat.testBit_and, Nat.testBit_and, hi] at hz2
            cases b3 : p.testBit i <;> cases b4 : (sv_wbN σ n).testBit i <;> simp_all, e2, e4⟩
          rw [this] at h0
          cases h0
set_option maxHeartbeats 4000000 in
set_option maxRecDepth 100000 in
theorem wS_mayAccept (X : sv_X D cI cZ cN cQ "SliceVoting" cS_mayAccept 6 7 p R s m args c) (hP : sv_cP D cI cN cQ n qc ad σ H) {v t : Nat} (hn : n ≤ 6) (hI : sv_IQ n qc σ) (hv : v < n) (ht : t < 24) (hl : lv_has ls 6 [(0, .ref (ad 0)), (1, .ref (ad (2 + 3 * v))), (2, .int (nI t))]) (ret : ∀ (pc : Nat) (ls : Array Slot), decode cS_mayAccept pc = .ok (.ireturn, 1) → W p l e R s m args below meth c H locs 0 0 Q (F0 m pc ls [.int (sv_b (sv_mA σ n qc v t))])) : W p l e R s m args below meth c H locs 0 0 Q (F0 m 0 ls []) := by
  have hx := X.1
  have hb := X.2.1
  refine lv_aload_n (i := 1) hx hb dS_mayAccept_0 rfl (sv_at hl rfl) ?_
  refine gN_knownAccepts X hP (by omega) dS_mayAccept_1 ?_
  refine lv_aload_n (i := 1) hx hb dS_mayAccept_4 rfl (sv_at hl rfl) ?_
  refine gN_number X hP (by omega) dS_mayAccept_5 ?_
  refine gI_C X hP hn (by omega) (by omega) dS_mayAccept_8 ?_
  refine x_tv (sv_ka_self σ v) ?_
  refine lv_istore_n (i := 3) hx hb dS_mayAccept_9 rfl hl (by decide) rfl (fun ls hl => ?_)
  refine lv_iload_n (i := 3) hx hb dS_mayAccept_10 rfl (sv_at hl rfl) ?_
  refine lv_iload_n (i := 2) hx hb dS_mayAccept_11 rfl (sv_at hl rfl) ?_
  refine kS_has X (by decide) (by omega) hl (Nat.zero_le _) (Nat.zero_le _) (Nat.le_of_ble_eq_true rfl) dS_mayAccept_12 ?_
  refine x_ifneB (tgt := 26) hx hb dS_mayAccept_15 rfl (fun h15 => ?_) (fun h15 => ?_)
  · skip
    refine lv_iconst (v := 0) hx hb dS_mayAccept_26 (by decide) ?_
    exact x_tv (by unfold sv_mA; first | (rw [h68, h58, h15, h23]; rfl) | (rw [h58, h15, h23]; rfl) | (rw [h23, h15]; rfl) | (rw [h15]; rfl)) (ret _ _ dS_mayAccept_27)
  · skip
    refine lv_iload_n (i := 2) hx hb dS_mayAccept_18 rfl (sv_at hl rfl) ?_
    refine lv_iload_n (i := 3) hx hb dS_mayAccept_19 rfl (sv_at hl rfl) ?_
    refine kS_contradictsOneOf X (by decide) (by omega) hl (Nat.zero_le _) (Nat.zero_le _) (Nat.le_of_ble_eq_true rfl) dS_mayAccept_20 ?_
    refine x_ifeqB (tgt := 28) hx hb dS_mayAccept_23 rfl (fun h23 => ?_) (fun h23 => ?_)
    · skip
      refine lv_aload_n (i := 1) hx hb dS_mayAccept_28 rfl (sv_at hl rfl) ?_
      refine gN_knownAccepts X hP (by omega) dS_mayAccept_29 ?_
      refine lv_iload_n (i := 2) hx hb dS_mayAccept_32 rfl (sv_at hl rfl) ?_
      refine kS_nodesThatSaid X (by decide) hP hn (by omega) (sv_ce_C hv) ht hl (Nat.zero_le _) (Nat.zero_le _) (Nat.le_of_ble_eq_true rfl) dS_mayAccept_33 ?_
      refine lv_istore (i := 4) hx hb dS_mayAccept_36 hl (by decide) rfl (fun ls hl => ?_)
      refine lv_aload_n (i := 1) hx hb dS_mayAccept_38 rfl (sv_at hl rfl) ?_
      refine gN_knownVotes X hP (by omega) dS_mayAccept_39 ?_
      refine lv_iload_n (i := 2) hx hb dS_mayAccept_42 rfl (sv_at hl rfl) ?_
      refine kS_nodesThatSaid X (by decide) hP hn (by omega) (sv_ce_V hv) ht hl (Nat.zero_le _) (Nat.zero_le _) (Nat.le_of_ble_eq_true rfl) dS_mayAccept_43 ?_
      refine lv_istore (i := 5) hx hb dS_mayAccept_46 hl (by decide) rfl (fun ls hl => ?_)
      refine lv_aload_n (i := 0) hx hb dS_mayAccept_48 rfl (sv_at hl rfl) ?_
      refine lv_aload_n (i := 1) hx hb dS_mayAccept_49 rfl (sv_at hl rfl) ?_
      refine lv_iload (i := 5) hx hb dS_mayAccept_50 (sv_at hl rfl) ?_
      refine lv_iload (i := 4) hx hb dS_mayAccept_52 (sv_at hl rfl) ?_
      refine lv_ior hx hb dS_mayAccept_54 ?_
      refine x_tv (y := nI (sv_BV σ n v t)) (by rw [sv_nor, sv_BV_or]) ?_
      refine kS_isInQuorumWithin X (by decide) hP hn hI (by omega) (sv_said_lt n) hl (Nat.zero_le _) (Nat.zero_le _) (Nat.le_of_ble_eq_true rfl) dS_mayAccept_55 ?_
      refine x_ifneB (tgt := 71) hx hb dS_mayAccept_58 rfl (fun h58 => ?_) (fun h58 => ?_)
      · skip
        refine lv_iconst (v := 1) hx hb dS_mayAccept_71 (by decide) ?_
        refine lv_goto (tgt := 76) hx hb dS_mayAccept_72 rfl ?_
        exact x_tv (by unfold sv_mA; first | (rw [h68, h58, h15, h23]; rfl) | (rw [h58, h15, h23]; rfl) | (rw [h23, h15]; rfl) | (rw [h15]; rfl)) (ret _ _ dS_mayAccept_76)
      · skip
        refine lv_aload_n (i := 0) hx hb dS_mayAccept_61 rfl (sv_at hl rfl) ?_
        refine lv_aload_n (i := 1) hx hb dS_mayAccept_62 rfl (sv_at hl rfl) ?_
        refine lv_iload (i := 4) hx hb dS_mayAccept_63 (sv_at hl rfl) ?_
        refine kS_isBlockedBy X (by decide) hP hn hI (by omega) (sv_said_lt n) hl (Nat.zero_le _) (Nat.zero_le _) (Nat.le_of_ble_eq_true rfl) dS_mayAccept_65 ?_
        refine x_ifeqB (tgt := 75) hx hb dS_mayAccept_68 rfl (fun h68 => ?_) (fun h68 => ?_)
        · skip
          have h68 : sv_blk σ n qc (sv_BA σ n v t) v = false := h68
          refine lv_iconst (v := 0) hx hb dS_mayAccept_75 (by decide) ?_
          exact x_tv (by unfold sv_mA; first | (rw [h68, h58, h15, h23]; rfl) | (rw [h58, h15, h23]; rfl) | (rw [h23, h15]; rfl) | (rw [h15]; rfl)) (ret _ _ dS_mayAccept_76)
        · skip
          have h68 : sv_blk σ n qc (sv_BA σ n v t) v = true := h68
          refine lv_iconst (v := 1) hx hb dS_mayAccept_71 (by decide) ?_
          refine lv_goto (tgt := 76) hx hb dS_mayAccept_72 rfl ?_
          exact x_tv (by unfold sv_mA; first | (rw [h68, h58, h15, h23]; rfl) | (rw [h58, h15, h23]; rfl) | (rw [h23, h15]; rfl) | (rw [h15]; rfl)) (ret _ _ dS_mayAccept_76)
    · skip
      refine lv_iconst (v := 0) hx hb dS_mayAccept_26 (by decide) ?_
      exact x_tv (by unfold sv_mA; first | (rw [h68, h58, h15, h23]; rfl) | (rw [h58, h15, h23]; rfl) | (rw [h23, h15]; rfl) | (rw [h15]; rfl)) (ret _ _ dS_mayAccept_27)

theorem cS_m_mayAccept {v t : Nat} (hn : n ≤ 6) (hI : sv_IQ n qc σ) (hv : v < n) (ht : t < 24) : Met l yS_mayAccept (sv_ws yS_mayAccept cS_mayAccept 6 (some .boolean)) (sv_rm 7) (sv_Pc D cI cZ cN cQ [.ref (ad 0), .ref (ad (2 + 3 * v)), .int (nI t)] (fun H => sv_cP D cI cN cQ n qc ad σ H)) (vp_Si (fun zz => zz = sv_b (sv_mA σ n qc v t))) 0 0 (fun _ => False) :=
  sv_mkR (by decide) (by show 3 ≤ 6; decide) (sv_narb _) (fun p e s m below meth c ls Q X hP hl ret => wS_mayAccept X hP hn hI hv ht hl ret)
theorem okS_S_mayAccept : sv_okV "SliceVoting" 191 yS_mayAccept cS_mayAccept 6 (some .boolean) 2 := ⟨sv_tb_t 195 rfl rfl, sv_tb_t 192 rfl rfl, sv_tb_t 194 rfl rfl, sv_tb_s 8 rfl rfl, sv_tb_t 1 rfl rfl, ⟨by decide, by decide, by decide +kernel⟩, by decide⟩
theorem kS_mayAccept (X : sv_X D cI cZ cN cQ "SliceVoting" cc nL k p R s m args c) (hk : 7 + 1 ≤ k) (hP : sv_cP D cI cN cQ n qc ad σ H) {v t : Nat} (hn : n ≤ 6) (hI : sv_IQ n qc σ) (hv : v < n) (ht : t < 24) (hl : lv_has ls nL lv) (hc : cells ≤ R.cells) (hs : slots ≤ R.slots) (hcat : (rest.map fun v => v.category).sum ≤ 8) (hd : decode cc pc = .ok (.invokevirtual 191, 3)) (kk : W p l e R s m args below meth c H locs cells slots Q (F0 m (pc + 3) ls (.int (sv_b (sv_mA σ n qc v t)) :: rest))) : W p l e R s m args below meth c H locs cells slots Q (F0 m pc ls (.int (nI t) :: .ref (ad (2 + 3 * v)) :: .ref (ad 0) :: rest)) :=
  sv_cV (G := fun H => sv_cP D cI cN cQ n qc ad σ H) X okS_S_mayAccept (cS_m_mayAccept hn hI hv ht) hP (y_rec X.K hP (by omega) sv_ce_S rfl) hk rfl hl.1 rfl hcat hc hs hd kk
set_option maxHeartbeats 4000000 in
set_option maxRecDepth 100000 in
theorem wS_mayConfirm (X : sv_X D cI cZ cN cQ "SliceVoting" cS_mayConfirm 3 7 p R s m args c) (hP : sv_cP D cI cN cQ n qc ad σ H) {v t : Nat} (hn : n ≤ 6) (hI : sv_IQ n qc σ) (hv : v < n) (ht : t < 24) (hl : lv_has ls 3 [(0, .ref (ad 0)), (1, .ref (ad (2 + 3 * v))), (2, .int (nI t))]) (ret : ∀ (pc : Nat) (ls : Array Slot), decode cS_mayConfirm pc = .ok (.ireturn, 1) → W p l e R s m args below meth c H locs 0 0 Q (F0 m pc ls [.int (sv_b (sv_mC σ n qc v t))])) : W p l e R s m args below meth c H locs 0 0 Q (F0 m 0 ls []) := by
  have hx := X.1
  have hb := X.2.1
  refine lv_aload_n (i := 1) hx hb dS_mayConfirm_0 rfl (sv_at hl rfl) ?_
  refine gN_confirmed X hP (by omega) dS_mayConfirm_1 ?_
  refine lv_iload_n (i := 2) hx hb dS_mayConfirm_4 rfl (sv_at hl rfl) ?_
  refine kS_has X (by decide) (by omega) hl (Nat.zero_le _) (Nat.zero_le _) (Nat.le_of_ble_eq_true rfl) dS_mayConfirm_5 ?_
  refine x_ifneB (tgt := 31) hx hb dS_mayConfirm_8 rfl (fun h8 => ?_) (fun h8 => ?_)
  · skip
    refine lv_iconst (v := 0) hx hb dS_mayConfirm_31 (by decide) ?_
    exact x_tv (by rw [sv_mC_eq]; first | (rw [h24, h8]; rfl) | (rw [h8]; rfl)) (ret _ _ dS_mayConfirm_32)
  · skip
    refine lv_aload_n (i := 0) hx hb dS_mayConfirm_11 rfl (sv_at hl rfl) ?_
    refine lv_aload_n (i := 1) hx hb dS_mayConfirm_12 rfl (sv_at hl rfl) ?_
    refine lv_aload_n (i := 1) hx hb dS_mayConfirm_13 rfl (sv_at hl rfl) ?_
    refine gN_knownAccepts X hP (by omega) dS_mayConfirm_14 ?_
    refine lv_iload_n (i := 2) hx hb dS_mayConfirm_17 rfl (sv_at hl rfl) ?_
    refine kS_nodesThatSaid X (by decide) hP hn (by omega) (sv_ce_C hv) ht hl (Nat.zero_le _) (Nat.zero_le _) (Nat.le_of_ble_eq_true rfl) dS_mayConfirm_18 ?_
    refine kS_isInQuorumWithin X (by decide) hP hn hI (by omega) (sv_said_lt n) hl (Nat.zero_le _) (Nat.zero_le _) (Nat.le_of_ble_eq_true rfl) dS_mayConfirm_21 ?_
    refine x_ifeqB (tgt := 31) hx hb dS_mayConfirm_24 rfl (fun h24 => ?_) (fun h24 => ?_)
    · skip
      have h24 : (sv_un σ n qc (sv_BA σ n v t)).testBit v = false := h24
      refine lv_iconst (v := 0) hx hb dS_mayConfirm_31 (by decide) ?_
      exact x_tv (by rw [sv_mC_eq]; first | (rw [h24, h8]; rfl) | (rw [h8]; rfl)) (ret _ _ dS_mayConfirm_32)
    · skip
      have h24 : (sv_un σ n qc (sv_BA σ n v t)).testBit v = true := h24
      refine lv_iconst (v := 1) hx hb dS_mayConfirm_27 (by decide) ?_
      refine lv_goto (tgt := 32) hx hb dS_mayConfirm_28 rfl ?_
      exact x_tv (by rw [sv_mC_eq]; first | (rw [h24, h8]; rfl) | (rw [h8]; rfl)) (ret _ _ dS_mayConfirm_32)

theorem cS_m_mayConfirm {v t : Nat} (hn : n ≤ 6) (hI : sv_IQ n qc σ) (hv : v < n) (ht : t < 24) : Met l yS_mayConfirm (sv_ws yS_mayConfirm cS_mayConfirm 3 (some .boolean)) (sv_rm 7) (sv_Pc D cI cZ cN cQ [.ref (ad 0), .ref (ad (2 + 3 * v)), .int (nI t)] (fun H => sv_cP D cI cN cQ n qc ad σ H)) (vp_Si (fun zz => zz = sv_b (sv_mC σ n qc v t))) 0 0 (fun _ => False) :=
  sv_mkR (by decide) (by show 3 ≤ 3; decide) (sv_narb _) (fun p e s m below meth c ls Q X hP hl ret => wS_mayConfirm X hP hn hI hv ht hl ret)
theorem okS_S_mayConfirm : sv_okV "SliceVoting" 201 yS_mayConfirm cS_mayConfirm 3 (some .boolean) 2 := ⟨sv_tb_t 227 rfl rfl, sv_tb_t 224 rfl rfl, sv_tb_t 226 rfl rfl, sv_tb_s 13 rfl rfl, sv_tb_t 1 rfl rfl, ⟨by decide, by decide, by decide +kernel⟩, by decide⟩
theorem kS_mayConfirm (X : sv_X D cI cZ cN cQ "SliceVoting" cc nL k p R s m args c) (hk : 7 + 1 ≤ k) (hP : sv_cP D cI cN cQ n qc ad σ H) {v t : Nat} (hn : n ≤ 6) (hI : sv_IQ n qc σ) (hv : v < n) (ht : t < 24) (hl : lv_has ls nL lv) (hc : cells ≤ R.cells) (hs : slots ≤ R.slots) (hcat : (rest.map fun v => v.category).sum ≤ 8) (hd : decode cc pc = .ok (.invokevirtual 201, 3)) (kk : W p l e R s m args below meth c H locs cells slots Q (F0 m (pc + 3) ls (.int (sv_b (sv_mC σ n qc v t)) :: rest))) : W p l e R s m args below meth c H locs cells slots Q (F0 m pc ls (.int (nI t) :: .ref (ad (2 + 3 * v)) :: .ref (ad 0) :: rest)) :=
  sv_cV (G := fun H => sv_cP D cI cN cQ n qc ad σ H) X okS_S_mayConfirm (cS_m_mayConfirm hn hI hv ht) hP (y_rec X.K hP (by omega) sv_ce_S rfl) hk rfl hl.1 rfl hcat hc hs hd kk
set_option maxHeartbeats 4000000 in
set_option maxRecDepth 100000 in
theorem wS_valueToPropose (X : sv_X D cI cZ cN cQ "SliceVoting" cS_valueToPropose 3 2 p R s m args c) (hP : sv_cP D cI cN cQ n qc ad σ H) {v : Nat} {x : Int32} (hn : n ≤ 6) (hIS : sv_IS n σ) (hv : v < n) (hl : lv_has ls 3 [(0, .ref (ad (2 + 3 * v))), (1, .int x)]) (ret : ∀ (pc : Nat) (ls : Array Slot), decode cS_valueToPropose pc = .ok (.ireturn, 1) → W p l e R s m args below meth c H locs 0 0 Q (F0 m pc ls [.int (sv_chr σ v x)])) : W p l e R s m args below meth c H locs 0 0 Q (F0 m 0 ls []) := by
  have hx := X.1
  have hb := X.2.1
  have J39 : ∀ (kf : Nat) (j : Nat) (ls : Array Slot), j < kf → (j ≤ 12) → (∀ t, 12 ≤ t → t < 24 → bt (σ 11 v) t = false) → (∀ t, j ≤ t → t < 12 → bt (σ 12 v) t = false) → lv_has ls 3 [(0, .ref (ad (2 + 3 * v))), (1, .int x), (2, .int (nI j - 1))] → W p l e R s m args below meth c H locs 0 0 Q (F0 m 39 ls []) := by
    intro kf
    induction kf with
    | zero => intro j ls hm; exact absurd hm (Nat.not_lt_zero _)
    | succ kf ih =>
      intro j ls hm hj hno hnc hl
      refine lv_iload_n (i := 2) hx hb dS_valueToPropose_39 rfl (sv_at hl rfl) ?_
      refine lv_if_lt (tgt := 65) hx hb dS_valueToPropose_40 rfl (fun h40 => ?_) (fun h40 => ?_)
      · skip
        rw [sv_m1lt (by omega)] at h40
        subst h40
        refine lv_iload_n (i := 1) hx hb dS_valueToPropose_65 rfl (sv_at hl rfl) ?_
        exact x_tv (by rw [sv_chr_none x hno, sv_last_no 12 (fun t h => hnc t (Nat.zero_le _) h)]) (ret _ _ dS_valueToPropose_66)
      · skip
        rw [sv_m1lt (by omega)] at h40
        obtain ⟨i, rfl⟩ : ∃ i, j = i + 1 := ⟨j - 1, by omega⟩
        rw [nI_pred] at hl
        refine lv_aload_n (i := 0) hx hb dS_valueToPropose_43 rfl (sv_at hl rfl) ?_
        refine gN_confirmed X hP (by omega) dS_valueToPropose_44 ?_
        refine lv_iload_n (i := 2) hx hb dS_valueToPropose_47 rfl (sv_at hl rfl) ?_
        refine kS_has X (by decide) (by omega) hl (Nat.zero_le _) (Nat.zero_le _) (Nat.le_of_ble_eq_true rfl) dS_valueToPropose_48 ?_
        refine x_ifeqB (tgt := 59) hx hb dS_valueToPropose_51 rfl (fun h51 => ?_) (fun h51 => ?_)
        · skip
          refine x_iinc (i := 2) hx hb dS_valueToPropose_59 hl rfl (sv_dec1 i) (by decide) (fun ls hl => ?_)
          refine lv_goto (tgt := 39) hx hb dS_valueToPropose_62 rfl ?_
          exact ih i ls (by omega) (by omega) hno (fun t a b => by by_cases q : t = i; (rw [q]; exact h51); exact hnc t (by omega) b) (sv_re hl ⟨rfl, rfl, rfl, trivial⟩)
        · skip
          refine lv_iload_n (i := 2) hx hb dS_valueToPropose_54 rfl (sv_at hl rfl) ?_
          refine kS_valueOf X (by decide) (by omega) hl (Nat.zero_le _) (Nat.zero_le _) (Nat.le_of_ble_eq_true rfl) dS_valueToPropose_55 ?_
          exact x_tv (by rw [sv_chr_none x hno, sv_last_is 12 (show i < 12 by omega) h51 (fun t a b => hnc t (by omega) b)]) (ret _ _ dS_valueToPropose_58)
  have J3 : ∀ (kf : Nat) (i : Nat) (ls : Array Slot), 24 - i < kf → (12 ≤ i ∧ i ≤ 24) → (∀ t, 12 ≤ t → t < i → bt (σ 11 v) t = false) → lv_has ls 3 [(0, .ref (ad (2 + 3 * v))), (1, .int x), (2, .int (nI i))] → W p l e R s m args below meth c H locs 0 0 Q (F0 m 3 ls []) := by
    intro kf
    induction kf with
    | zero => intro i ls hm; exact absurd hm (Nat.not_lt_zero _)
    | succ kf ih =>
      intro i ls hm hi hno hl
      refine lv_iload_n (i := 2) hx hb dS_valueToPropose_3 rfl (sv_at hl rfl) ?_
      refine lv_bipush (v := nI 24) hx hb dS_valueToPropose_4 (by decide) ?_
      refine lv_icmp_ge (tgt := 36) hx hb dS_valueToPropose_6 rfl (fun h6 => ?_) (fun h6 => ?_)
      · skip
        rw [nI_leI (by omega) (by omega)] at h6
        refine lv_bipush (v := nI 11) hx hb dS_valueToPropose_36 (by decide) ?_
        refine lv_istore_n (i := 2) hx hb dS_valueToPropose_38 rfl hl (by decide) rfl (fun ls hl => ?_)
        exact J39 _ 12 ls (Nat.lt_succ_self _) (by decide) (fun t a b => hno t a (by omega)) (fun t a b => by omega) (sv_re hl ⟨rfl, rfl, rfl, trivial⟩)
      · skip
        rw [nI_leI (by omega) (by omega)] at h6
        refine lv_aload_n (i := 0) hx hb dS_valueToPropose_9 rfl (sv_at hl rfl) ?_
        refine gN_knownAccepts X hP (by omega) dS_valueToPropose_10 ?_
        refine lv_aload_n (i := 0) hx hb dS_valueToPropose_13 rfl (sv_at hl rfl) ?_
        refine gN_number X hP (by omega) dS_valueToPropose_14 ?_
        refine gI_C X hP hn (by omega) (by omega) dS_valueToPropose_17 ?_
        refine x_tv (sv_ka_self σ v) ?_
        refine lv_iload_n (i := 2) hx hb dS_valueToPropose_18 rfl (sv_at hl rfl) ?_
        refine kS_has X (by decide) (by omega) hl (Nat.zero_le _) (Nat.zero_le _) (Nat.le_of_ble_eq_true rfl) dS_valueToPropose_19 ?_
        refine x_ifeqB (tgt := 30) hx hb dS_valueToPropose_22 rfl (fun h22 => ?_) (fun h22 => ?_)
        · skip
          refine x_iinc (i := 2) hx hb dS_valueToPropose_30 hl rfl (sv_inc i) (by decide) (fun ls hl => ?_)
          refine lv_goto (tgt := 3) hx hb dS_valueToPropose_33 rfl ?_
          exact ih (i + 1) ls (by omega) ⟨by omega, by omega⟩ (fun t a b => by by_cases q : t = i; (rw [q]; exact h22); exact hno t a (by omega)) (sv_re hl ⟨rfl, rfl, rfl, trivial⟩)
        · skip
          refine lv_iload_n (i := 2) hx hb dS_valueToPropose_25 rfl (sv_at hl rfl) ?_
          refine kS_valueOf X (by decide) (by omega) hl (Nat.zero_le _) (Nat.zero_le _) (Nat.le_of_ble_eq_true rfl) dS_valueToPropose_26 ?_
          exact x_tv (by rw [sv_chr_fst hIS hv x hi.1 (by omega) h22]) (ret _ _ dS_valueToPropose_29)
  refine lv_bipush (v := nI 12) hx hb dS_valueToPropose_0 (by decide) ?_
  refine lv_istore_n (i := 2) hx hb dS_valueToPropose_2 rfl hl (by decide) rfl (fun ls hl => ?_)
  exact J3 _ 12 ls (Nat.lt_succ_self _) ⟨by decide, by decide⟩ (fun t a b => by omega) (sv_re hl ⟨rfl, rfl, rfl, trivial⟩)

theorem cS_m_valueToPropose {v : Nat} {x : Int32} (hn : n ≤ 6) (hIS : sv_IS n σ) (hv : v < n) : Met l yS_valueToPropose (sv_ws yS_valueToPropose cS_valueToPropose 3 (some .int)) (sv_rm 2) (sv_Pc D cI cZ cN cQ [.ref (ad (2 + 3 * v)), .int x] (fun H => sv_cP D cI cN cQ n qc ad σ H)) (vp_Si (fun zz => zz = sv_chr σ v x)) 0 0 (fun _ => False) :=
  sv_mkR (by decide) (by show 2 ≤ 3; decide) rfl (fun p e s m below meth c ls Q X hP hl ret => wS_valueToPropose X hP hn hIS hv hl ret)
theorem okS_S_valueToPropose : sv_okS "SliceVoting" 76 yS_valueToPropose cS_valueToPropose 3 (some .int) 2 := ⟨sv_tb_t 162 rfl rfl, sv_tb_t 160 rfl rfl, sv_tb_t 161 rfl rfl, sv_tb_t 1 rfl rfl, ⟨by decide, by decide, by decide +kernel⟩, by decide⟩
theorem kS_valueToPropose (X : sv_X D cI cZ cN cQ "SliceVoting" cc nL k p R s m args c) (hk : 2 + 1 ≤ k) (hP : sv_cP D cI cN cQ n qc ad σ H) {v : Nat} {x : Int32} (hn : n ≤ 6) (hIS : sv_IS n σ) (hv : v < n) (hl : lv_has ls nL lv) (hc : cells ≤ R.cells) (hs : slots ≤ R.slots) (hcat : (rest.map fun v => v.category).sum ≤ 8) (hd : decode cc pc = .ok (.invokestatic 76, 3)) (kk : W p l e R s m args below meth c H locs cells slots Q (F0 m (pc + 3) ls (.int (sv_chr σ v x) :: rest))) : W p l e R s m args below meth c H locs cells slots Q (F0 m pc ls (.int x :: .ref (ad (2 + 3 * v)) :: rest)) :=
  sv_cS (G := fun H => sv_cP D cI cN cQ n qc ad σ H) X okS_S_valueToPropose (cS_m_valueToPropose hn hIS hv) hP hk rfl hl.1 rfl hcat hc hs hd kk
set_option maxHeartbeats 4000000 in
set_option maxRecDepth 100000 in
theorem wS_confirmed (X : sv_X D cI cZ cN cQ "SliceVoting" cS_confirmed 2 2 p R s m args c) (hP : sv_cP D cI cN cQ n qc ad σ H) {v : Int32} (hn : n ≤ 6) (hl : lv_has ls 2 [(0, .ref (ad 0)), (1, .int v)]) (ret : ∀ (pc : Nat) (ls : Array Slot), decode cS_confirmed pc = .ok (.ireturn, 1) → W p l e R s m args below meth c H locs 0 0 Q (F0 m pc ls [.int (sv_rd n (σ 12) 0 v)])) : W p l e R s m args below meth c H locs 0 0 Q (F0 m 0 ls []) := by
  have hx := X.1
  have hb := X.2.1
  refine lv_aload_n (i := 0) hx hb dS_confirmed_0 rfl (sv_at hl rfl) ?_
  refine lv_iload_n (i := 1) hx hb dS_confirmed_1 rfl (sv_at hl rfl) ?_
  refine kS_isNode X (by decide) hP  hl (Nat.zero_le _) (Nat.zero_le _) (Nat.le_of_ble_eq_true rfl) dS_confirmed_2 ?_
  refine x_ifeqB (tgt := 20) hx hb dS_confirmed_5 rfl (fun h5 => ?_) (fun h5 => ?_)
  · skip
    refine lv_iconst (v := 0) hx hb dS_confirmed_20 (by decide) ?_
    exact x_tv (by first | (rw [sv_rd_f h5]) | (rw [sv_rd_t (by omega) hj])) (ret _ _ dS_confirmed_21)
  · skip
    obtain ⟨j, hj, rfl⟩ := sv_isn_t (by omega) h5
    refine lv_aload_n (i := 0) hx hb dS_confirmed_8 rfl (sv_at hl rfl) ?_
    refine gS_nodes X hP dS_confirmed_9 ?_
    refine lv_iload_n (i := 1) hx hb dS_confirmed_12 rfl (sv_at hl rfl) ?_
    refine gA_nodes X hP hn (by omega) dS_confirmed_13 ?_
    refine gN_confirmed X hP (by omega) dS_confirmed_14 ?_
    refine lv_goto (tgt := 21) hx hb dS_confirmed_17 rfl ?_
    exact x_tv (by first | (rw [sv_rd_f h5]) | (rw [sv_rd_t (by omega) hj])) (ret _ _ dS_confirmed_21)

theorem cS_m_confirmed {v : Int32} (hn : n ≤ 6) : Met l yS_confirmed (sv_ws yS_confirmed cS_confirmed 2 (some .int)) (sv_rm 2) (sv_Pc D cI cZ cN cQ [.ref (ad 0), .int v] (fun H => sv_cP D cI cN cQ n qc ad σ H)) (vp_Si (fun zz => zz = sv_rd n (σ 12) 0 v)) 0 0 (fun _ => False) :=
  sv_mkR (by decide) (by show 2 ≤ 2; decide) rfl (fun p e s m below meth c ls Q X hP hl ret => wS_confirmed X hP hn hl ret)
theorem okL_S_confirmed : sv_okV "SliceVotingLaw" 58 yS_confirmed cS_confirmed 2 (some .int) 1 := ⟨sv_tb_t 265 rfl rfl, sv_tb_t 262 rfl rfl, sv_tb_t 263 rfl rfl, sv_tb_t 264 rfl rfl, sv_tb_t 1 rfl rfl, ⟨by decide, by decide, by decide +kernel⟩, by decide⟩
theorem kL_confirmed (X : sv_X D cI cZ cN cQ "SliceVotingLaw" cc nL k p R s m args c) (hk : 2 + 1 ≤ k) (hP : sv_cP D cI cN cQ n qc ad σ H) {v : Int32} (hn : n ≤ 6) (hl : lv_has ls nL lv) (hc : cells ≤ R.cells) (hs : slots ≤ R.slots) (hcat : (rest.map fun v => v.category).sum ≤ 8) (hd : decode cc pc = .ok (.invokevirtual 58, 3)) (kk : W p l e R s m args below meth c H locs cells slots Q (F0 m (pc + 3) ls (.int (sv_rd n (σ 12) 0 v) :: rest))) : W p l e R s m args below meth c H locs cells slots Q (F0 m pc ls (.int v :: .ref (ad 0) :: rest)) :=
  sv_cV (G := fun H => sv_cP D cI cN cQ n qc ad σ H) X okL_S_confirmed (cS_m_confirmed hn) hP (y_rec X.K hP (by omega) sv_ce_S rfl) hk rfl hl.1 rfl hcat hc hs hd kk
set_option maxHeartbeats 4000000 in
set_option maxRecDepth 100000 in
theorem wS_counter (X : sv_X D cI cZ cN cQ "SliceVoting" cS_counter 2 2 p R s m args c) (hP : sv_cP D cI cN cQ n qc ad σ H) {v : Int32} (hn : n ≤ 6) (hl : lv_has ls 2 [(0, .ref (ad 0)), (1, .int v)]) (ret : ∀ (pc : Nat) (ls : Array Slot), decode cS_counter pc = .ok (.ireturn, 1) → W p l e R s m args below meth c H locs 0 0 Q (F0 m pc ls [.int (sv_rd n (σ 13) 0 v)])) : W p l e R s m args below meth c H locs 0 0 Q (F0 m 0 ls []) := by
  have hx := X.1
  have hb := X.2.1
  refine lv_aload_n (i := 0) hx hb dS_counter_0 rfl (sv_at hl rfl) ?_
  refine lv_iload_n (i := 1) hx hb dS_counter_1 rfl (sv_at hl rfl) ?_
  refine kS_isNode X (by decide) hP  hl (Nat.zero_le _) (Nat.zero_le _) (Nat.le_of_ble_eq_true rfl) dS_counter_2 ?_
  refine x_ifeqB (tgt := 20) hx hb dS_counter_5 rfl (fun h5 => ?_) (fun h5 => ?_)
  · skip
    refine lv_iconst (v := 0) hx hb dS_counter_20 (by decide) ?_
    exact x_tv (by first | (rw [sv_rd_f h5]) | (rw [sv_rd_t (by omega) hj])) (ret _ _ dS_counter_21)
  · skip
    obtain ⟨j, hj, rfl⟩ := sv_isn_t (by omega) h5
    refine lv_aload_n (i := 0) hx hb dS_counter_8 rfl (sv_at hl rfl) ?_
    refine gS_nodes X hP dS_counter_9 ?_
    refine lv_iload_n (i := 1) hx hb dS_counter_12 rfl (sv_at hl rfl) ?_
    refine gA_nodes X hP hn (by omega) dS_counter_13 ?_
    refine gN_counter X hP (by omega) dS_counter_14 ?_
    refine lv_goto (tgt := 21) hx hb dS_counter_17 rfl ?_
    exact x_tv (by first | (rw [sv_rd_f h5]) | (rw [sv_rd_t (by omega) hj])) (ret _ _ dS_counter_21)

theorem cS_m_counter {v : Int32} (hn : n ≤ 6) : Met l yS_counter (sv_ws yS_counter cS_counter 2 (some .int)) (sv_rm 2) (sv_Pc D cI cZ cN cQ [.ref (ad 0), .int v] (fun H => sv_cP D cI cN cQ n qc ad σ H)) (vp_Si (fun zz => zz = sv_rd n (σ 13) 0 v)) 0 0 (fun _ => False) :=
  sv_mkR (by decide) (by show 2 ≤ 2; decide) rfl (fun p e s m below meth c ls Q X hP hl ret => wS_counter X hP hn hl ret)
theorem okL_S_counter : sv_okV "SliceVotingLaw" 62 yS_counter cS_counter 2 (some .int) 1 := ⟨sv_tb_t 269 rfl rfl, sv_tb_t 266 rfl rfl, sv_tb_t 267 rfl rfl, sv_tb_t 268 rfl rfl, sv_tb_t 1 rfl rfl, ⟨by decide, by decide, by decide +kernel⟩, by decide⟩
theorem kL_counter (X : sv_X D cI cZ cN cQ "SliceVotingLaw" cc nL k p R s m args c) (hk : 2 + 1 ≤ k) (hP : sv_cP D cI cN cQ n qc ad σ H) {v : Int32} (hn : n ≤ 6) (hl : lv_has ls nL lv) (hc : cells ≤ R.cells) (hs : slots ≤ R.slots) (hcat : (rest.map fun v => v.category).sum ≤ 8) (hd : decode cc pc = .ok (.invokevirtual 62, 3)) (kk : W p l e R s m args below meth c H locs cells slots Q (F0 m (pc + 3) ls (.int (sv_rd n (σ 13) 0 v) :: rest))) : W p l e R s m args below meth c H locs cells slots Q (F0 m pc ls (.int v :: .ref (ad 0) :: rest)) :=
  sv_cV (G := fun H => sv_cP D cI cN cQ n qc ad σ H) X okL_S_counter (cS_m_counter hn) hP (y_rec X.K hP (by omega) sv_ce_S rfl) hk rfl hl.1 rfl hcat hc hs hd kk
set_option maxHeartbeats 4000000 in
set_option maxRecDepth 100000 in
theorem wS_value (X : sv_X D cI cZ cN cQ "SliceVoting" cS_value 2 2 p R s m args c) (hP : sv_cP D cI cN cQ n qc ad σ H) {v : Int32} (hn : n ≤ 6) (hl : lv_has ls 2 [(0, .ref (ad 0)), (1, .int v)]) (ret : ∀ (pc : Nat) (ls : Array Slot), decode cS_value pc = .ok (.ireturn, 1) → W p l e R s m args below meth c H locs 0 0 Q (F0 m pc ls [.int (sv_rd n (σ 14) 0 v)])) : W p l e R s m args below meth c H locs 0 0 Q (F0 m 0 ls []) := by
  have hx := X.1
  have hb := X.2.1
  refine lv_aload_n (i := 0) hx hb dS_value_0 rfl (sv_at hl rfl) ?_
  refine lv_iload_n (i := 1) hx hb dS_value_1 rfl (sv_at hl rfl) ?_
  refine kS_isNode X (by decide) hP  hl (Nat.zero_le _) (Nat.zero_le _) (Nat.le_of_ble_eq_true rfl) dS_value_2 ?_
  refine x_ifeqB (tgt := 20) hx hb dS_value_5 rfl (fun h5 => ?_) (fun h5 => ?_)
  · skip
    refine lv_iconst (v := 0) hx hb dS_value_20 (by decide) ?_
    exact x_tv (by first | (rw [sv_rd_f h5]) | (rw [sv_rd_t (by omega) hj])) (ret _ _ dS_value_21)
  · skip
    obtain ⟨j, hj, rfl⟩ := sv_isn_t (by omega) h5
    refine lv_aload_n (i := 0) hx hb dS_value_8 rfl (sv_at hl rfl) ?_
    refine gS_nodes X hP dS_value_9 ?_
    refine lv_iload_n (i := 1) hx hb dS_value_12 rfl (sv_at hl rfl) ?_
    refine gA_nodes X hP hn (by omega) dS_value_13 ?_
    refine gN_value X hP (by omega) dS_value_14 ?_
    refine lv_goto (tgt := 21) hx hb dS_value_17 rfl ?_
    exact x_tv (by first | (rw [sv_rd_f h5]) | (rw [sv_rd_t (by omega) hj])) (ret _ _ dS_value_21)

theorem cS_m_value {v : Int32} (hn : n ≤ 6) : Met l yS_value (sv_ws yS_value cS_value 2 (some .int)) (sv_rm 2) (sv_Pc D cI cZ cN cQ [.ref (ad 0), .int v] (fun H => sv_cP D cI cN cQ n qc ad σ H)) (vp_Si (fun zz => zz = sv_rd n (σ 14) 0 v)) 0 0 (fun _ => False) :=
  sv_mkR (by decide) (by show 2 ≤ 2; decide) rfl (fun p e s m below meth c ls Q X hP hl ret => wS_value X hP hn hl ret)
theorem okL_S_value : sv_okV "SliceVotingLaw" 66 yS_value cS_value 2 (some .int) 1 := ⟨sv_tb_t 273 rfl rfl, sv_tb_t 270 rfl rfl, sv_tb_t 271 rfl rfl, sv_tb_t 272 rfl rfl, sv_tb_t 1 rfl rfl, ⟨by decide, by decide, by decide +kernel⟩, by decide⟩
theorem kL_value (X : sv_X D cI cZ cN cQ "SliceVotingLaw" cc nL k p R s m args c) (hk : 2 + 1 ≤ k) (hP : sv_cP D cI cN cQ n qc ad σ H) {v : Int32} (hn : n ≤ 6) (hl : lv_has ls nL lv) (hc : cells ≤ R.cells) (hs : slots ≤ R.slots) (hcat : (rest.map fun v => v.category).sum ≤ 8) (hd : decode cc pc = .ok (.invokevirtual 66, 3)) (kk : W p l e R s m args below meth c H locs cells slots Q (F0 m (pc + 3) ls (.int (sv_rd n (σ 14) 0 v) :: rest))) : W p l e R s m args below meth c H locs cells slots Q (F0 m pc ls (.int v :: .ref (ad 0) :: rest)) :=
  sv_cV (G := fun H => sv_cP D cI cN cQ n qc ad σ H) X okL_S_value (cS_m_value hn) hP (y_rec X.K hP (by omega) sv_ce_S rfl) hk rfl hl.1 rfl hcat hc hs hd kk
set_option maxHeartbeats 4000000 in
set_option maxRecDepth 100000 in
theorem wS_decided (X : sv_X D cI cZ cN cQ "SliceVoting" cS_decided 2 2 p R s m args c) (hP : sv_cP D cI cN cQ n qc ad σ H) {v : Int32} (hn : n ≤ 6) (hl : lv_has ls 2 [(0, .ref (ad 0)), (1, .int v)]) (ret : ∀ (pc : Nat) (ls : Array Slot), decode cS_decided pc = .ok (.ireturn, 1) → W p l e R s m args below meth c H locs 0 0 Q (F0 m pc ls [.int (sv_rd n (σ 15) (-1) v)])) : W p l e R s m args below meth c H locs 0 0 Q (F0 m 0 ls []) := by
  have hx := X.1
  have hb := X.2.1
  refine lv_aload_n (i := 0) hx hb dS_decided_0 rfl (sv_at hl rfl) ?_
  refine lv_iload_n (i := 1) hx hb dS_decided_1 rfl (sv_at hl rfl) ?_
  refine kS_isNode X (by decide) hP  hl (Nat.zero_le _) (Nat.zero_le _) (Nat.le_of_ble_eq_true rfl) dS_decided_2 ?_
  refine x_ifeqB (tgt := 20) hx hb dS_decided_5 rfl (fun h5 => ?_) (fun h5 => ?_)
  · skip
    refine lv_iconst (v := -1) hx hb dS_decided_20 (by decide) ?_
    exact x_tv (by first | (rw [sv_rd_f h5]) | (rw [sv_rd_t (by omega) hj])) (ret _ _ dS_decided_21)
  · skip
    obtain ⟨j, hj, rfl⟩ := sv_isn_t (by omega) h5
    refine lv_aload_n (i := 0) hx hb dS_decided_8 rfl (sv_at hl rfl) ?_
    refine gS_nodes X hP dS_decided_9 ?_
    refine lv_iload_n (i := 1) hx hb dS_decided_12 rfl (sv_at hl rfl) ?_
    refine gA_nodes X hP hn (by omega) dS_decided_13 ?_
    refine gN_decision X hP (by omega) dS_decided_14 ?_
    refine lv_goto (tgt := 21) hx hb dS_decided_17 rfl ?_
    exact x_tv (by first | (rw [sv_rd_f h5]) | (rw [sv_rd_t (by omega) hj])) (ret _ _ dS_decided_21)

theorem cS_m_decided {v : Int32} (hn : n ≤ 6) : Met l yS_decided (sv_ws yS_decided cS_decided 2 (some .int)) (sv_rm 2) (sv_Pc D cI cZ cN cQ [.ref (ad 0), .int v] (fun H => sv_cP D cI cN cQ n qc ad σ H)) (vp_Si (fun zz => zz = sv_rd n (σ 15) (-1) v)) 0 0 (fun _ => False) :=
  sv_mkR (by decide) (by show 2 ≤ 2; decide) rfl (fun p e s m below meth c ls Q X hP hl ret => wS_decided X hP hn hl ret)
theorem okL_S_decided : sv_okV "SliceVotingLaw" 70 yS_decided cS_decided 2 (some .int) 1 := ⟨sv_tb_t 277 rfl rfl, sv_tb_t 274 rfl rfl, sv_tb_t 275 rfl rfl, sv_tb_t 276 rfl rfl, sv_tb_t 1 rfl rfl, ⟨by decide, by decide, by decide +kernel⟩, by decide⟩
theorem kL_decided (X : sv_X D cI cZ cN cQ "SliceVotingLaw" cc nL k p R s m args c) (hk : 2 + 1 ≤ k) (hP : sv_cP D cI cN cQ n qc ad σ H) {v : Int32} (hn : n ≤ 6) (hl : lv_has ls nL lv) (hc : cells ≤ R.cells) (hs : slots ≤ R.slots) (hcat : (rest.map fun v => v.category).sum ≤ 8) (hd : decode cc pc = .ok (.invokevirtual 70, 3)) (kk : W p l e R s m args below meth c H locs cells slots Q (F0 m (pc + 3) ls (.int (sv_rd n (σ 15) (-1) v) :: rest))) : W p l e R s m args below meth c H locs cells slots Q (F0 m pc ls (.int v :: .ref (ad 0) :: rest)) :=
  sv_cV (G := fun H => sv_cP D cI cN cQ n qc ad σ H) X okL_S_decided (cS_m_decided hn) hP (y_rec X.K hP (by omega) sv_ce_S rfl) hk rfl hl.1 rfl hcat hc hs hd kk
set_option maxHeartbeats 4000000 in
set_option maxRecDepth 100000 in
theorem wS_known (X : sv_X D cI cZ cN cQ "SliceVoting" cS_known 4 2 p R s m args c) (hP : sv_cP D cI cN cQ n qc ad σ H) {v w : Int32} {B : Bool} (hn : n ≤ 6) (hl : lv_has ls 4 [(0, .ref (ad 0)), (1, .int v), (2, .int w), (3, .int (sv_b B))]) (ret : ∀ (pc : Nat) (ls : Array Slot), decode cS_known pc = .ok (.ireturn, 1) → W p l e R s m args below meth c H locs 0 0 Q (F0 m pc ls [.int (sv_knw n σ v w B)])) : W p l e R s m args below meth c H locs 0 0 Q (F0 m 0 ls []) := by
  have hx := X.1
  have hb := X.2.1
  refine lv_aload_n (i := 0) hx hb dS_known_0 rfl (sv_at hl rfl) ?_
  refine lv_iload_n (i := 1) hx hb dS_known_1 rfl (sv_at hl rfl) ?_
  refine kS_isNode X (by decide) hP  hl (Nat.zero_le _) (Nat.zero_le _) (Nat.le_of_ble_eq_true rfl) dS_known_2 ?_
  refine x_ifeqB (tgt := 16) hx hb dS_known_5 rfl (fun h5 => ?_) (fun h5 => ?_)
  · skip
    refine lv_iconst (v := 0) hx hb dS_known_16 (by decide) ?_
    exact x_tv (by unfold sv_knw; first | (rw [h5]; rfl) | (rw [h13, Bool.and_false]; rfl) | (rw [h5, h13, h19, nI_clamp (by omega), nI_clamp (by omega)]; rfl)) (ret _ _ dS_known_17)
  · skip
    refine lv_aload_n (i := 0) hx hb dS_known_8 rfl (sv_at hl rfl) ?_
    refine lv_iload_n (i := 2) hx hb dS_known_9 rfl (sv_at hl rfl) ?_
    refine kS_isNode X (by decide) hP  hl (Nat.zero_le _) (Nat.zero_le _) (Nat.le_of_ble_eq_true rfl) dS_known_10 ?_
    refine x_ifneB (tgt := 18) hx hb dS_known_13 rfl (fun h13 => ?_) (fun h13 => ?_)
    · skip
      obtain ⟨j, hj, rfl⟩ := sv_isn_t (by omega) h5
      obtain ⟨i, hi, rfl⟩ := sv_isn_t (by omega) h13
      refine lv_iload_n (i := 3) hx hb dS_known_18 rfl (sv_at hl rfl) ?_
      refine x_ifeqB (tgt := 36) hx hb dS_known_19 rfl (fun h19 => ?_) (fun h19 => ?_)
      · skip
        refine lv_aload_n (i := 0) hx hb dS_known_36 rfl (sv_at hl rfl) ?_
        refine gS_nodes X hP dS_known_37 ?_
        refine lv_iload_n (i := 1) hx hb dS_known_40 rfl (sv_at hl rfl) ?_
        refine gA_nodes X hP hn (by omega) dS_known_41 ?_
        refine gN_knownVotes X hP (by omega) dS_known_42 ?_
        refine lv_iload_n (i := 2) hx hb dS_known_45 rfl (sv_at hl rfl) ?_
        refine gI_V X hP hn (by omega) (by omega) dS_known_46 ?_
        exact x_tv (by unfold sv_knw; first | (rw [h5]; rfl) | (rw [h13, Bool.and_false]; rfl) | (rw [h5, h13, h19, nI_clamp (by omega), nI_clamp (by omega)]; rfl)) (ret _ _ dS_known_47)
      · skip
        refine lv_aload_n (i := 0) hx hb dS_known_22 rfl (sv_at hl rfl) ?_
        refine gS_nodes X hP dS_known_23 ?_
        refine lv_iload_n (i := 1) hx hb dS_known_26 rfl (sv_at hl rfl) ?_
        refine gA_nodes X hP hn (by omega) dS_known_27 ?_
        refine gN_knownAccepts X hP (by omega) dS_known_28 ?_
        refine lv_iload_n (i := 2) hx hb dS_known_31 rfl (sv_at hl rfl) ?_
        refine gI_C X hP hn (by omega) (by omega) dS_known_32 ?_
        refine lv_goto (tgt := 47) hx hb dS_known_33 rfl ?_
        exact x_tv (by unfold sv_knw; first | (rw [h5]; rfl) | (rw [h13, Bool.and_false]; rfl) | (rw [h5, h13, h19, nI_clamp (by omega), nI_clamp (by omega)]; rfl)) (ret _ _ dS_known_47)
    · skip
      refine lv_iconst (v := 0) hx hb dS_known_16 (by decide) ?_
      exact x_tv (by unfold sv_knw; first | (rw [h5]; rfl) | (rw [h13, Bool.and_false]; rfl) | (rw [h5, h13, h19, nI_clamp (by omega), nI_clamp (by omega)]; rfl)) (ret _ _ dS_known_17)

theorem cS_m_known {v w : Int32} {B : Bool} (hn : n ≤ 6) : Met l yS_known (sv_ws yS_known cS_known 4 (some .int)) (sv_rm 2) (sv_Pc D cI cZ cN cQ [.ref (ad 0), .int v, .int w, .int (sv_b B)] (fun H => sv_cP D cI cN cQ n qc ad σ H)) (vp_Si (fun zz => zz = sv_knw n σ v w B)) 0 0 (fun _ => False) :=
  sv_mkR (by decide) (by show 4 ≤ 4; decide) rfl (fun p e s m below meth c ls Q X hP hl ret => wS_known X hP hn hl ret)
theorem okS_S_known : sv_okV "SliceVoting" 105 yS_known cS_known 4 (some .int) 3 := ⟨sv_tb_t 257 rfl rfl, sv_tb_t 254 rfl rfl, sv_tb_t 255 rfl rfl, sv_tb_t 256 rfl rfl, sv_tb_t 1 rfl rfl, ⟨by decide, by decide, by decide +kernel⟩, by decide⟩
theorem kS_known (X : sv_X D cI cZ cN cQ "SliceVoting" cc nL k p R s m args c) (hk : 2 + 1 ≤ k) (hP : sv_cP D cI cN cQ n qc ad σ H) {v w : Int32} {B : Bool} (hn : n ≤ 6) (hl : lv_has ls nL lv) (hc : cells ≤ R.cells) (hs : slots ≤ R.slots) (hcat : (rest.map fun v => v.category).sum ≤ 8) (hd : decode cc pc = .ok (.invokevirtual 105, 3)) (kk : W p l e R s m args below meth c H locs cells slots Q (F0 m (pc + 3) ls (.int (sv_knw n σ v w B) :: rest))) : W p l e R s m args below meth c H locs cells slots Q (F0 m pc ls (.int (sv_b B) :: .int w :: .int v :: .ref (ad 0) :: rest)) :=
  sv_cV (G := fun H => sv_cP D cI cN cQ n qc ad σ H) X okS_S_known (cS_m_known hn) hP (y_rec X.K hP (by omega) sv_ce_S rfl) hk rfl hl.1 rfl hcat hc hs hd kk
set_option maxHeartbeats 4000000 in
set_option maxRecDepth 100000 in
theorem wS_voted (X : sv_X D cI cZ cN cQ "SliceVoting" cS_voted 2 3 p R s m args c) (hP : sv_cP D cI cN cQ n qc ad σ H) {v : Int32} (hn : n ≤ 6) (hl : lv_has ls 2 [(0, .ref (ad 0)), (1, .int v)]) (ret : ∀ (pc : Nat) (ls : Array Slot), decode cS_voted pc = .ok (.ireturn, 1) → W p l e R s m args below meth c H locs 0 0 Q (F0 m pc ls [.int (sv_rd n (σ 10) 0 v)])) : W p l e R s m args below meth c H locs 0 0 Q (F0 m 0 ls []) := by
  have hx := X.1
  have hb := X.2.1
  refine lv_aload_n (i := 0) hx hb dS_voted_0 rfl (sv_at hl rfl) ?_
  refine lv_iload_n (i := 1) hx hb dS_voted_1 rfl (sv_at hl rfl) ?_
  refine lv_iload_n (i := 1) hx hb dS_voted_2 rfl (sv_at hl rfl) ?_
  refine lv_iconst (v := 0) hx hb dS_voted_3 (by decide) ?_
  refine x_tv (y := sv_b false) rfl ?_
  refine kS_known X (by decide) hP hn hl (Nat.zero_le _) (Nat.zero_le _) (Nat.le_of_ble_eq_true rfl) dS_voted_4 ?_
  exact x_tv (by unfold sv_knw sv_rd; rw [Bool.and_self]; cases sv_isn n v with | false => rfl | true => exact sv_kv_self σ _) (ret _ _ dS_voted_7)

theorem cS_m_voted {v : Int32} (hn : n ≤ 6) : Met l yS_voted (sv_ws yS_voted cS_voted 2 (some .int)) (sv_rm 3) (sv_Pc D cI cZ cN cQ [.ref (ad 0), .int v] (fun H => sv_cP D cI cN cQ n qc ad σ H)) (vp_Si (fun zz => zz = sv_rd n (σ 10) 0 v)) 0 0 (fun _ => False) :=
  sv_mkR (by decide) (by show 2 ≤ 2; decide) rfl (fun p e s m below meth c ls Q X hP hl ret => wS_voted X hP hn hl ret)
theorem okL_S_voted : sv_okV "SliceVotingLaw" 49 yS_voted cS_voted 2 (some .int) 1 := ⟨sv_tb_t 253 rfl rfl, sv_tb_t 250 rfl rfl, sv_tb_t 251 rfl rfl, sv_tb_t 252 rfl rfl, sv_tb_t 1 rfl rfl, ⟨by decide, by decide, by decide +kernel⟩, by decide⟩
theorem kL_voted (X : sv_X D cI cZ cN cQ "SliceVotingLaw" cc nL k p R s m args c) (hk : 3 + 1 ≤ k) (hP : sv_cP D cI cN cQ n qc ad σ H) {v : Int32} (hn : n ≤ 6) (hl : lv_has ls nL lv) (hc : cells ≤ R.cells) (hs : slots ≤ R.slots) (hcat : (rest.map fun v => v.category).sum ≤ 8) (hd : decode cc pc = .ok (.invokevirtual 49, 3)) (kk : W p l e R s m args below meth c H locs cells slots Q (F0 m (pc + 3) ls (.int (sv_rd n (σ 10) 0 v) :: rest))) : W p l e R s m args below meth c H locs cells slots Q (F0 m pc ls (.int v :: .ref (ad 0) :: rest)) :=
  sv_cV (G := fun H => sv_cP D cI cN cQ n qc ad σ H) X okL_S_voted (cS_m_voted hn) hP (y_rec X.K hP (by omega) sv_ce_S rfl) hk rfl hl.1 rfl hcat hc hs hd kk
set_option maxHeartbeats 4000000 in
set_option maxRecDepth 100000 in
theorem wS_accepted (X : sv_X D cI cZ cN cQ "SliceVoting" cS_accepted 2 3 p R s m args c) (hP : sv_cP D cI cN cQ n qc ad σ H) {v : Int32} (hn : n ≤ 6) (hl : lv_has ls 2 [(0, .ref (ad 0)), (1, .int v)]) (ret : ∀ (pc : Nat) (ls : Array Slot), decode cS_accepted pc = .ok (.ireturn, 1) → W p l e R s m args below meth c H locs 0 0 Q (F0 m pc ls [.int (sv_rd n (σ 11) 0 v)])) : W p l e R s m args below meth c H locs 0 0 Q (F0 m 0 ls []) := by
  have hx := X.1
  have hb := X.2.1
  refine lv_aload_n (i := 0) hx hb dS_accepted_0 rfl (sv_at hl rfl) ?_
  refine lv_iload_n (i := 1) hx hb dS_accepted_1 rfl (sv_at hl rfl) ?_
  refine lv_iload_n (i := 1) hx hb dS_accepted_2 rfl (sv_at hl rfl) ?_
  refine lv_iconst (v := 1) hx hb dS_accepted_3 (by decide) ?_
  refine x_tv (y := sv_b true) rfl ?_
  refine kS_known X (by decide) hP hn hl (Nat.zero_le _) (Nat.zero_le _) (Nat.le_of_ble_eq_true rfl) dS_accepted_4 ?_
  exact x_tv (by unfold sv_knw sv_rd; rw [Bool.and_self]; cases sv_isn n v with | false => rfl | true => exact sv_ka_self σ _) (ret _ _ dS_accepted_7)

theorem cS_m_accepted {v : Int32} (hn : n ≤ 6) : Met l yS_accepted (sv_ws yS_accepted cS_accepted 2 (some .int)) (sv_rm 3) (sv_Pc D cI cZ cN cQ [.ref (ad 0), .int v] (fun H => sv_cP D cI cN cQ n qc ad σ H)) (vp_Si (fun zz => zz = sv_rd n (σ 11) 0 v)) 0 0 (fun _ => False) :=
  sv_mkR (by decide) (by show 2 ≤ 2; decide) rfl (fun p e s m below meth c ls Q X hP hl ret => wS_accepted X hP hn hl ret)
theorem okL_S_accepted : sv_okV "SliceVotingLaw" 54 yS_accepted cS_accepted 2 (some .int) 1 := ⟨sv_tb_t 261 rfl rfl, sv_tb_t 258 rfl rfl, sv_tb_t 259 rfl rfl, sv_tb_t 260 rfl rfl, sv_tb_t 1 rfl rfl, ⟨by decide, by decide, by decide +kernel⟩, by decide⟩
theorem kL_accepted (X : sv_X D cI cZ cN cQ "SliceVotingLaw" cc nL k p R s m args c) (hk : 3 + 1 ≤ k) (hP : sv_cP D cI cN cQ n qc ad σ H) {v : Int32} (hn : n ≤ 6) (hl : lv_has ls nL lv) (hc : cells ≤ R.cells) (hs : slots ≤ R.slots) (hcat : (rest.map fun v => v.category).sum ≤ 8) (hd : decode cc pc = .ok (.invokevirtual 54, 3)) (kk : W p l e R s m args below meth c H locs cells slots Q (F0 m (pc + 3) ls (.int (sv_rd n (σ 11) 0 v) :: rest))) : W p l e R s m args below meth c H locs cells slots Q (F0 m pc ls (.int v :: .ref (ad 0) :: rest)) :=
  sv_cV (G := fun H => sv_cP D cI cN cQ n qc ad σ H) X okL_S_accepted (cS_m_accepted hn) hP (y_rec X.K hP (by omega) sv_ce_S rfl) hk rfl hl.1 rfl hcat hc hs hd kk
set_option maxHeartbeats 4000000 in
set_option maxRecDepth 100000 in
theorem wS_quorum (X : sv_X D cI cZ cN cQ "SliceVoting" cS_quorum 2 7 p R s m args c) (hP : sv_cP D cI cN cQ n qc ad σ H) {x : Int32} (hn : n ≤ 6) (hI : sv_IQ n qc σ) (hl : lv_has ls 2 [(0, .ref (ad 0)), (1, .int x)]) (ret : ∀ (pc : Nat) (ls : Array Slot), decode cS_quorum pc = .ok (.ireturn, 1) → W p l e R s m args below meth c H locs 0 0 Q (F0 m pc ls [.int (sv_b (decide (sv_N x < 2 ^ n) && sv_quo σ n qc (sv_N x)))])) : W p l e R s m args below meth c H locs 0 0 Q (F0 m 0 ls []) := by
  have hx := X.1
  have hb := X.2.1
  refine lv_aload_n (i := 0) hx hb dS_quorum_0 rfl (sv_at hl rfl) ?_
  refine lv_iload_n (i := 1) hx hb dS_quorum_1 rfl (sv_at hl rfl) ?_
  refine kS_isSetOfNodes X (by decide) hP hn hl (Nat.zero_le _) (Nat.zero_le _) (Nat.le_of_ble_eq_true rfl) dS_quorum_2 ?_
  refine x_ifeqB (tgt := 20) hx hb dS_quorum_5 rfl (fun h5 => ?_) (fun h5 => ?_)
  · skip
    refine lv_iconst (v := 0) hx hb dS_quorum_20 (by decide) ?_
    exact x_tv (by first | (rw [h5]; rfl) | (rw [decide_eq_true hS, h13]; rfl)) (ret _ _ dS_quorum_21)
  · skip
    obtain ⟨S, hS, rfl⟩ := sv_set_of h5
    rw [sv_N_of hn hS] at ret
    refine lv_aload_n (i := 0) hx hb dS_quorum_8 rfl (sv_at hl rfl) ?_
    refine lv_iload_n (i := 1) hx hb dS_quorum_9 rfl (sv_at hl rfl) ?_
    refine kS_isQuorum X (by decide) hP hn hI (by omega) hl (Nat.zero_le _) (Nat.zero_le _) (Nat.le_of_ble_eq_true rfl) dS_quorum_10 ?_
    refine x_ifeqB (tgt := 20) hx hb dS_quorum_13 rfl (fun h13 => ?_) (fun h13 => ?_)
    · skip
      refine lv_iconst (v := 0) hx hb dS_quorum_20 (by decide) ?_
      exact x_tv (by first | (rw [h5]; rfl) | (rw [decide_eq_true hS, h13]; rfl)) (ret _ _ dS_quorum_21)
    · skip
      refine lv_iconst (v := 1) hx hb dS_quorum_16 (by decide) ?_
      refine lv_goto (tgt := 21) hx hb dS_quorum_17 rfl ?_
      exact x_tv (by first | (rw [h5]; rfl) | (rw [decide_eq_true hS, h13]; rfl)) (ret _ _ dS_quorum_21)

theorem cS_m_quorum {x : Int32} (hn : n ≤ 6) (hI : sv_IQ n qc σ) : Met l yS_quorum (sv_ws yS_quorum cS_quorum 2 (some .boolean)) (sv_rm 7) (sv_Pc D cI cZ cN cQ [.ref (ad 0), .int x] (fun H => sv_cP D cI cN cQ n qc ad σ H)) (vp_Si (fun zz => zz = sv_b (decide (sv_N x < 2 ^ n) && sv_quo σ n qc (sv_N x)))) 0 0 (fun _ => False) :=
  sv_mkR (by decide) (by show 2 ≤ 2; decide) (sv_narb _) (fun p e s m below meth c ls Q X hP hl ret => wS_quorum X hP hn hI hl ret)
theorem okL_S_quorum : sv_okV "SliceVotingLaw" 79 yS_quorum cS_quorum 2 (some .boolean) 1 := ⟨sv_tb_t 282 rfl rfl, sv_tb_t 279 rfl rfl, sv_tb_t 280 rfl rfl, sv_tb_t 281 rfl rfl, sv_tb_t 1 rfl rfl, ⟨by decide, by decide, by decide +kernel⟩, by decide⟩
theorem kL_quorum (X : sv_X D cI cZ cN cQ "SliceVotingLaw" cc nL k p R s m args c) (hk : 7 + 1 ≤ k) (hP : sv_cP D cI cN cQ n qc ad σ H) {x : Int32} (hn : n ≤ 6) (hI : sv_IQ n qc σ) (hl : lv_has ls nL lv) (hc : cells ≤ R.cells) (hs : slots ≤ R.slots) (hcat : (rest.map fun v => v.category).sum ≤ 8) (hd : decode cc pc = .ok (.invokevirtual 79, 3)) (kk : W p l e R s m args below meth c H locs cells slots Q (F0 m (pc + 3) ls (.int (sv_b (decide (sv_N x < 2 ^ n) && sv_quo σ n qc (sv_N x))) :: rest))) : W p l e R s m args below meth c H locs cells slots Q (F0 m pc ls (.int x :: .ref (ad 0) :: rest)) :=
  sv_cV (G := fun H => sv_cP D cI cN cQ n qc ad σ H) X okL_S_quorum (cS_m_quorum hn hI) hP (y_rec X.K hP (by omega) sv_ce_S rfl) hk rfl hl.1 rfl hcat hc hs hd kk
set_option maxHeartbeats 4000000 in
set_option maxRecDepth 100000 in
theorem wS_largest (X : sv_X D cI cZ cN cQ "SliceVoting" cS_largest 2 6 p R s m args c) (hP : sv_cP D cI cN cQ n qc ad σ H) {x : Int32} (hn : n ≤ 6) (hI : sv_IQ n qc σ) (hl : lv_has ls 2 [(0, .ref (ad 0)), (1, .int x)]) (ret : ∀ (pc : Nat) (ls : Array Slot), decode cS_largest pc = .ok (.ireturn, 1) → W p l e R s m args below meth c H locs 0 0 Q (F0 m pc ls [.int ((bif decide (sv_N x < 2 ^ n) then nI (sv_un σ n qc (sv_N x)) else -1))])) : W p l e R s m args below meth c H locs 0 0 Q (F0 m 0 ls []) := by
  have hx := X.1
  have hb := X.2.1
  refine lv_aload_n (i := 0) hx hb dS_largest_0 rfl (sv_at hl rfl) ?_
  refine lv_iload_n (i := 1) hx hb dS_largest_1 rfl (sv_at hl rfl) ?_
  refine kS_isSetOfNodes X (by decide) hP hn hl (Nat.zero_le _) (Nat.zero_le _) (Nat.le_of_ble_eq_true rfl) dS_largest_2 ?_
  refine x_ifeqB (tgt := 16) hx hb dS_largest_5 rfl (fun h5 => ?_) (fun h5 => ?_)
  · skip
    refine lv_iconst (v := -1) hx hb dS_largest_16 (by decide) ?_
    exact x_tv (by first | (rw [h5]; rfl) | (rw [decide_eq_true hS]; rfl)) (ret _ _ dS_largest_17)
  · skip
    obtain ⟨S, hS, rfl⟩ := sv_set_of h5
    rw [sv_N_of hn hS] at ret
    refine lv_aload_n (i := 0) hx hb dS_largest_8 rfl (sv_at hl rfl) ?_
    refine lv_iload_n (i := 1) hx hb dS_largest_9 rfl (sv_at hl rfl) ?_
    refine kS_unionOfQuorumsIn X (by decide) hP hn hI (by omega) hl (Nat.zero_le _) (Nat.zero_le _) (Nat.le_of_ble_eq_true rfl) dS_largest_10 ?_
    refine lv_goto (tgt := 17) hx hb dS_largest_13 rfl ?_
    exact x_tv (by first | (rw [h5]; rfl) | (rw [decide_eq_true hS]; rfl)) (ret _ _ dS_largest_17)

theorem cS_m_largest {x : Int32} (hn : n ≤ 6) (hI : sv_IQ n qc σ) : Met l yS_largest (sv_ws yS_largest cS_largest 2 (some .int)) (sv_rm 6) (sv_Pc D cI cZ cN cQ [.ref (ad 0), .int x] (fun H => sv_cP D cI cN cQ n qc ad σ H)) (vp_Si (fun zz => zz = (bif decide (sv_N x < 2 ^ n) then nI (sv_un σ n qc (sv_N x)) else -1))) 0 0 (fun _ => False) :=
  sv_mkR (by decide) (by show 2 ≤ 2; decide) rfl (fun p e s m below meth c ls Q X hP hl ret => wS_largest X hP hn hI hl ret)
theorem okL_S_largest : sv_okV "SliceVotingLaw" 83 yS_largest cS_largest 2 (some .int) 1 := ⟨sv_tb_t 294 rfl rfl, sv_tb_t 291 rfl rfl, sv_tb_t 292 rfl rfl, sv_tb_t 293 rfl rfl, sv_tb_t 1 rfl rfl, ⟨by decide, by decide, by decide +kernel⟩, by decide⟩
theorem kL_largest (X : sv_X D cI cZ cN cQ "SliceVotingLaw" cc nL k p R s m args c) (hk : 6 + 1 ≤ k) (hP : sv_cP D cI cN cQ n qc ad σ H) {x : Int32} (hn : n ≤ 6) (hI : sv_IQ n qc σ) (hl : lv_has ls nL lv) (hc : cells ≤ R.cells) (hs : slots ≤ R.slots) (hcat : (rest.map fun v => v.category).sum ≤ 8) (hd : decode cc pc = .ok (.invokevirtual 83, 3)) (kk : W p l e R s m args below meth c H locs cells slots Q (F0 m (pc + 3) ls (.int ((bif decide (sv_N x < 2 ^ n) then nI (sv_un σ n qc (sv_N x)) else -1)) :: rest))) : W p l e R s m args below meth c H locs cells slots Q (F0 m pc ls (.int x :: .ref (ad 0) :: rest)) :=
  sv_cV (G := fun H => sv_cP D cI cN cQ n qc ad σ H) X okL_S_largest (cS_m_largest hn hI) hP (y_rec X.K hP (by omega) sv_ce_S rfl) hk rfl hl.1 rfl hcat hc hs hd kk
set_option maxHeartbeats 4000000 in
set_option maxRecDepth 100000 in
theorem wS_blocks (X : sv_X D cI cZ cN cQ "SliceVoting" cS_blocks 3 6 p R s m args c) (hP : sv_cP D cI cN cQ n qc ad σ H) {x v : Int32} (hn : n ≤ 6) (hI : sv_IQ n qc σ) (hl : lv_has ls 3 [(0, .ref (ad 0)), (1, .int x), (2, .int v)]) (ret : ∀ (pc : Nat) (ls : Array Slot), decode cS_blocks pc = .ok (.ireturn, 1) → W p l e R s m args below meth c H locs 0 0 Q (F0 m pc ls [.int (sv_b (decide (sv_N x < 2 ^ n) && (sv_isn n v && sv_blk σ n qc (sv_N x) v.toNatClampNeg)))])) : W p l e R s m args below meth c H locs 0 0 Q (F0 m 0 ls []) := by
  have hx := X.1
  have hb := X.2.1
  refine lv_aload_n (i := 0) hx hb dS_blocks_0 rfl (sv_at hl rfl) ?_
  refine lv_iload_n (i := 1) hx hb dS_blocks_1 rfl (sv_at hl rfl) ?_
  refine kS_isSetOfNodes X (by decide) hP hn hl (Nat.zero_le _) (Nat.zero_le _) (Nat.le_of_ble_eq_true rfl) dS_blocks_2 ?_
  refine x_ifeqB (tgt := 34) hx hb dS_blocks_5 rfl (fun h5 => ?_) (fun h5 => ?_)
  · skip
    refine lv_iconst (v := 0) hx hb dS_blocks_34 (by decide) ?_
    exact x_tv (by first | (rw [h5]; rfl) | (rw [h13, Bool.false_and, Bool.and_false]; rfl) | (rw [decide_eq_true hS, h13, h27]; rfl)) (ret _ _ dS_blocks_35)
  · skip
    obtain ⟨S, hS, rfl⟩ := sv_set_of h5
    rw [sv_N_of hn hS] at ret
    refine lv_aload_n (i := 0) hx hb dS_blocks_8 rfl (sv_at hl rfl) ?_
    refine lv_iload_n (i := 2) hx hb dS_blocks_9 rfl (sv_at hl rfl) ?_
    refine kS_isNode X (by decide) hP  hl (Nat.zero_le _) (Nat.zero_le _) (Nat.le_of_ble_eq_true rfl) dS_blocks_10 ?_
    refine x_ifeqB (tgt := 34) hx hb dS_blocks_13 rfl (fun h13 => ?_) (fun h13 => ?_)
    · skip
      refine lv_iconst (v := 0) hx hb dS_blocks_34 (by decide) ?_
      exact x_tv (by first | (rw [h5]; rfl) | (rw [h13, Bool.false_and, Bool.and_false]; rfl) | (rw [decide_eq_true hS, h13, h27]; rfl)) (ret _ _ dS_blocks_35)
    · skip
      obtain ⟨j, hj, rfl⟩ := sv_isn_t (by omega) h13
      rw [nI_clamp (by omega)] at ret
      refine lv_aload_n (i := 0) hx hb dS_blocks_16 rfl (sv_at hl rfl) ?_
      refine lv_aload_n (i := 0) hx hb dS_blocks_17 rfl (sv_at hl rfl) ?_
      refine gS_nodes X hP dS_blocks_18 ?_
      refine lv_iload_n (i := 2) hx hb dS_blocks_21 rfl (sv_at hl rfl) ?_
      refine gA_nodes X hP hn (by omega) dS_blocks_22 ?_
      refine lv_iload_n (i := 1) hx hb dS_blocks_23 rfl (sv_at hl rfl) ?_
      refine kS_isBlockedBy X (by decide) hP hn hI (by omega) (by omega) hl (Nat.zero_le _) (Nat.zero_le _) (Nat.le_of_ble_eq_true rfl) dS_blocks_24 ?_
      refine x_ifeqB (tgt := 34) hx hb dS_blocks_27 rfl (fun h27 => ?_) (fun h27 => ?_)
      · skip
        refine lv_iconst (v := 0) hx hb dS_blocks_34 (by decide) ?_
        exact x_tv (by first | (rw [h5]; rfl) | (rw [h13, Bool.false_and, Bool.and_false]; rfl) | (rw [decide_eq_true hS, h13, h27]; rfl)) (ret _ _ dS_blocks_35)
      · skip
        refine lv_iconst (v := 1) hx hb dS_blocks_30 (by decide) ?_
        refine lv_goto (tgt := 35) hx hb dS_blocks_31 rfl ?_
        exact x_tv (by first | (rw [h5]; rfl) | (rw [h13, Bool.false_and, Bool.and_false]; rfl) | (rw [decide_eq_true hS, h13, h27]; rfl)) (ret _ _ dS_blocks_35)

theorem cS_m_blocks {x v : Int32} (hn : n ≤ 6) (hI : sv_IQ n qc σ) : Met l yS_blocks (sv_ws yS_blocks cS_blocks 3 (some .boolean)) (sv_rm 6) (sv_Pc D cI cZ cN cQ [.ref (ad 0), .int x, .int v] (fun H => sv_cP D cI cN cQ n qc ad σ H)) (vp_Si (fun zz => zz = sv_b (decide (sv_N x < 2 ^ n) && (sv_isn n v && sv_blk σ n qc (sv_N x) v.toNatClampNeg)))) 0 0 (fun _ => False) :=
  sv_mkR (by decide) (by show 3 ≤ 3; decide) (sv_narb _) (fun p e s m below meth c ls Q X hP hl ret => wS_blocks X hP hn hI hl ret)
theorem okL_S_blocks : sv_okV "SliceVotingLaw" 87 yS_blocks cS_blocks 3 (some .boolean) 2 := ⟨sv_tb_t 298 rfl rfl, sv_tb_t 295 rfl rfl, sv_tb_t 296 rfl rfl, sv_tb_t 297 rfl rfl, sv_tb_t 1 rfl rfl, ⟨by decide, by decide, by decide +kernel⟩, by decide⟩
theorem kL_blocks (X : sv_X D cI cZ cN cQ "SliceVotingLaw" cc nL k p R s m args c) (hk : 6 + 1 ≤ k) (hP : sv_cP D cI cN cQ n qc ad σ H) {x v : Int32} (hn : n ≤ 6) (hI : sv_IQ n qc σ) (hl : lv_has ls nL lv) (hc : cells ≤ R.cells) (hs : slots ≤ R.slots) (hcat : (rest.map fun v => v.category).sum ≤ 8) (hd : decode cc pc = .ok (.invokevirtual 87, 3)) (kk : W p l e R s m args below meth c H locs cells slots Q (F0 m (pc + 3) ls (.int (sv_b (decide (sv_N x < 2 ^ n) && (sv_isn n v && sv_blk σ n qc (sv_N x) v.toNatClampNeg))) :: rest))) : W p l e R s m args below meth c H locs cells slots Q (F0 m pc ls (.int v :: .int x :: .ref (ad 0) :: rest)) :=
  sv_cV (G := fun H => sv_cP D cI cN cQ n qc ad σ H) X okL_S_blocks (cS_m_blocks hn hI) hP (y_rec X.K hP (by omega) sv_ce_S rfl) hk rfl hl.1 rfl hcat hc hs hd kk
set_option maxHeartbeats 4000000 in
set_option maxRecDepth 100000 in
theorem wS_intertwined_J (X : sv_X D cI cZ cN cQ "SliceVoting" cS_intertwined 5 7 p R s m args c) (hP : sv_cP D cI cN cQ n qc ad σ H) (hn : n ≤ 6) (hI : sv_IQ n qc σ) {a b : Nat} (ha : a < n) (hb9 : b < n) (ret : ∀ (pc : Nat) (ls : Array Slot), decode cS_intertwined pc = .ok (.ireturn, 1) → W p l e R s m args below meth c H locs 0 0 Q (F0 m pc ls [.int (sv_b (sv_itw σ n qc a b))])) : ∀ (kf i : Nat) (ls : Array Slot), 2 ^ n - i < kf → 1 ≤ i → i ≤ 2 ^ n → (∀ p, p < i → (p.testBit a && sv_quo σ n qc p && (sv_un σ n qc ((2 ^ n - 1) ^^^ (p &&& sv_wbN σ n))).testBit b) = false) → lv_has ls 5 [(0, .ref (ad 0)), (1, .int (nI a)), (2, .int (nI b)), (3, .int (nI i))] → W p l e R s m args below meth c H locs 0 0 Q (F0 m 20 ls []) := by
  have hx := X.1
  have hb := X.2.1
  intro kf
  induction kf with
  | zero => intro i ls hm; exact absurd hm (Nat.not_lt_zero _)
  | succ kf ih =>
    intro i ls hm hi1 hi hno hl
    refine lv_iload_n (i := 3) hx hb dS_intertwined_20 rfl (sv_at hl rfl) ?_
    refine lv_aload_n (i := 0) hx hb dS_intertwined_21 rfl (sv_at hl rfl) ?_
    refine gS_everyone X hP dS_intertwined_22 ?_
    refine lv_icmp_gt (tgt := 80) hx hb dS_intertwined_25 rfl (fun h25 => ?_) (fun h25 => ?_)
    · skip
      rw [nI_ltI (by have := sv_p2_64 hn; omega) (by have := sv_p2_64 hn; omega)] at h25
      refine lv_iconst (v := 1) hx hb dS_intertwined_80 (by decide) ?_
      exact x_tv (by rw [sv_itw_t (fun p hp => hno p (by omega))]; rfl) (ret _ _ dS_intertwined_81)
    · skip
      rw [nI_ltI (by have := sv_p2_64 hn; omega) (by have := sv_p2_64 hn; omega)] at h25
      have hi2 : i < 2 ^ n := by omega
      refine lv_aload_n (i := 0) hx hb dS_intertwined_28 rfl (sv_at hl rfl) ?_
      refine gS_everyone X hP dS_intertwined_29 ?_
      refine lv_iload_n (i := 3) hx hb dS_intertwined_32 rfl (sv_at hl rfl) ?_
      refine lv_aload_n (i := 0) hx hb dS_intertwined_33 rfl (sv_at hl rfl) ?_
      refine gS_wellBehaved X hP dS_intertwined_34 ?_
      refine lv_iand hx hb dS_intertwined_37 ?_
      refine lv_iconst (v := -1) hx hb dS_intertwined_38 (by decide) ?_
      refine lv_ixor hx hb dS_intertwined_39 ?_
      refine lv_iand hx hb dS_intertwined_40 ?_
      refine x_tv (y := nI ((2 ^ n - 1) ^^^ (i &&& sv_wbN σ n))) (by rw [sv_nand, sv_compl (Nat.lt_of_le_of_lt (Nat.and_le_left) hi2)]) ?_
      refine lv_istore (i := 4) hx hb dS_intertwined_41 hl (by decide) rfl (fun ls hl => ?_)
      refine lv_iload_n (i := 3) hx hb dS_intertwined_43 rfl (sv_at hl rfl) ?_
      refine lv_iload_n (i := 1) hx hb dS_intertwined_44 rfl (sv_at hl rfl) ?_
      refine kS_has X (by decide) (by omega) hl (Nat.zero_le _) (Nat.zero_le _) (Nat.le_of_ble_eq_true rfl) dS_intertwined_45 ?_
      refine x_tv (y := sv_b (i.testBit a)) (by rw [sv_bt_nI (Nat.lt_trans (sv_big hn hi2) (by decide))]) ?_
      refine x_ifeqB (tgt := 74) hx hb dS_intertwined_48 rfl (fun h48 => ?_) (fun h48 => ?_)
      · skip
        refine x_iinc (i := 3) hx hb dS_intertwined_74 hl rfl (sv_inc i) (by decide) (fun ls hl => ?_)
        refine lv_goto (tgt := 20) hx hb dS_intertwined_77 rfl ?_
        exact ih (i + 1) ls (by omega) (by omega) (by omega) (lt_s hno (by first | (rw [h69, Bool.and_false]) | (rw [h56, Bool.and_false]; rfl) | (rw [h48]; rfl))) (sv_re hl ⟨rfl, rfl, rfl, rfl, trivial⟩)
      · skip
        refine lv_aload_n (i := 0) hx hb dS_intertwined_51 rfl (sv_at hl rfl) ?_
        refine lv_iload_n (i := 3) hx hb dS_intertwined_52 rfl (sv_at hl rfl) ?_
        refine kS_isQuorum X (by decide) hP hn hI hi2 hl (Nat.zero_le _) (Nat.zero_le _) (Nat.le_of_ble_eq_true rfl) dS_intertwined_53 ?_
        refine x_ifeqB (tgt := 74) hx hb dS_intertwined_56 rfl (fun h56 => ?_) (fun h56 => ?_)
        · skip
          refine x_iinc (i := 3) hx hb dS_intertwined_74 hl rfl (sv_inc i) (by decide) (fun ls hl => ?_)
          refine lv_goto (tgt := 20) hx hb dS_intertwined_77 rfl ?_
          exact ih (i + 1) ls (by omega) (by omega) (by omega) (lt_s hno (by first | (rw [h69, Bool.and_false]) | (rw [h56, Bool.and_false]; rfl) | (rw [h48]; rfl))) (sv_re hl ⟨rfl, rfl, rfl, rfl, trivial⟩)
        · skip
          refine lv_aload_n (i := 0) hx hb dS_intertwined_59 rfl (sv_at hl rfl) ?_
          refine lv_iload (i := 4) hx hb dS_intertwined_60 (sv_at hl rfl) ?_
          refine kS_unionOfQuorumsIn X (by decide) hP hn hI (sv_co_lt (Nat.lt_of_le_of_lt (Nat.and_le_left) hi2)) hl (Nat.zero_le _) (Nat.zero_le _) (Nat.le_of_ble_eq_true rfl) dS_intertwined_62 ?_
          refine lv_iload_n (i := 2) hx hb dS_intertwined_65 rfl (sv_at hl rfl) ?_
          refine kS_has X (by decide) (by omega) hl (Nat.zero_le _) (Nat.zero_le _) (Nat.le_of_ble_eq_true rfl) dS_intertwined_66 ?_
          refine x_tv (y := sv_b ((sv_un σ n qc ((2 ^ n - 1) ^^^ (i &&& sv_wbN σ n))).testBit b)) (by rw [sv_bt_nI (Nat.lt_trans (sv_big hn sv_un_lt) (by decide))]) ?_
          refine x_ifeqB (tgt := 74) hx hb dS_intertwined_69 rfl (fun h69 => ?_) (fun h69 => ?_)
          · skip
            refine x_iinc (i := 3) hx hb dS_intertwined_74 hl rfl (sv_inc i) (by decide) (fun ls hl => ?_)
            refine lv_goto (tgt := 20) hx hb dS_intertwined_77 rfl ?_
            exact ih (i + 1) ls (by omega) (by omega) (by omega) (lt_s hno (by first | (rw [h69, Bool.and_false]) | (rw [h56, Bool.and_false]; rfl) | (rw [h48]; rfl))) (sv_re hl ⟨rfl, rfl, rfl, rfl, trivial⟩)
          · skip
            refine lv_iconst (v := 0) hx hb dS_intertwined_72 (by decide) ?_
            exact x_tv (by rw [sv_itw_f hi2 h48 h56 h69]; rfl) (ret _ _ dS_intertwined_73)

set_option maxHeartbeats 4000000 in
set_option maxRecDepth 100000 in
theorem wS_intertwined (X : sv_X D cI cZ cN cQ "SliceVoting" cS_intertwined 5 7 p R s m args c) (hP : sv_cP D cI cN cQ n qc ad σ H) {v w : Int32} (hn : n ≤ 6) (hI : sv_IQ n qc σ) (hl : lv_has ls 5 [(0, .ref (ad 0)), (1, .int v), (2, .int w)]) (ret : ∀ (pc : Nat) (ls : Array Slot), decode cS_intertwined pc = .ok (.ireturn, 1) → W p l e R s m args below meth c H locs 0 0 Q (F0 m pc ls [.int (sv_b (sv_wel n σ v && sv_wel n σ w && sv_itw σ n qc v.toNatClampNeg w.toNatClampNeg))])) : W p l e R s m args below meth c H locs 0 0 Q (F0 m 0 ls []) := by
  have hx := X.1
  have hb := X.2.1
  refine lv_aload_n (i := 0) hx hb dS_intertwined_0 rfl (sv_at hl rfl) ?_
  refine lv_iload_n (i := 1) hx hb dS_intertwined_1 rfl (sv_at hl rfl) ?_
  refine kS_isWellBehaved X (by decide) hP hn hl (Nat.zero_le _) (Nat.zero_le _) (Nat.le_of_ble_eq_true rfl) dS_intertwined_2 ?_
  refine x_ifeqB (tgt := 16) hx hb dS_intertwined_5 rfl (fun h5 => ?_) (fun h5 => ?_)
  · skip
    refine lv_iconst (v := 0) hx hb dS_intertwined_16 (by decide) ?_
    exact x_tv (by first | (rw [h5]; rfl) | (rw [h13, Bool.and_false]; rfl)) (ret _ _ dS_intertwined_17)
  · skip
    refine lv_aload_n (i := 0) hx hb dS_intertwined_8 rfl (sv_at hl rfl) ?_
    refine lv_iload_n (i := 2) hx hb dS_intertwined_9 rfl (sv_at hl rfl) ?_
    refine kS_isWellBehaved X (by decide) hP hn hl (Nat.zero_le _) (Nat.zero_le _) (Nat.le_of_ble_eq_true rfl) dS_intertwined_10 ?_
    refine x_ifneB (tgt := 18) hx hb dS_intertwined_13 rfl (fun h13 => ?_) (fun h13 => ?_)
    · skip
      obtain ⟨a, ha, rfl, ha9⟩ := sv_wel_t (by omega) h5
      obtain ⟨b, hb9, rfl, hb0⟩ := sv_wel_t (by omega) h13
      rw [h5, h13, nI_clamp (by omega), nI_clamp (by omega), Bool.and_self, Bool.true_and] at ret
      refine lv_iconst (v := 1) hx hb dS_intertwined_18 (by decide) ?_
      refine lv_istore_n (i := 3) hx hb dS_intertwined_19 rfl hl (by decide) rfl (fun ls hl => ?_)
      exact wS_intertwined_J X hP hn hI ha hb9 ret _ 1 ls (Nat.lt_succ_self _) (by decide) (Nat.one_le_two_pow) (fun p hp => by have e : p = 0 := (by omega); rw [e, Nat.zero_testBit]; rfl) (sv_re hl ⟨rfl, rfl, rfl, rfl, trivial⟩)
    · skip
      refine lv_iconst (v := 0) hx hb dS_intertwined_16 (by decide) ?_
      exact x_tv (by first | (rw [h5]; rfl) | (rw [h13, Bool.and_false]; rfl)) (ret _ _ dS_intertwined_17)

theorem cS_m_intertwined {v w : Int32} (hn : n ≤ 6) (hI : sv_IQ n qc σ) : Met l yS_intertwined (sv_ws yS_intertwined cS_intertwined 5 (some .boolean)) (sv_rm 7) (sv_Pc D cI cZ cN cQ [.ref (ad 0), .int v, .int w] (fun H => sv_cP D cI cN cQ n qc ad σ H)) (vp_Si (fun zz => zz = sv_b (sv_wel n σ v && sv_wel n σ w && sv_itw σ n qc v.toNatClampNeg w.toNatClampNeg))) 0 0 (fun _ => False) :=
  sv_mkR (by decide) (by show 3 ≤ 5; decide) (sv_narb _) (fun p e s m below meth c ls Q X hP hl ret => wS_intertwined X hP hn hI hl ret)
theorem okL_S_intertwined : sv_okV "SliceVotingLaw" 91 yS_intertwined cS_intertwined 5 (some .boolean) 2 := ⟨sv_tb_t 302 rfl rfl, sv_tb_t 299 rfl rfl, sv_tb_t 300 rfl rfl, sv_tb_t 301 rfl rfl, sv_tb_t 1 rfl rfl, ⟨by decide, by decide, by decide +kernel⟩, by decide⟩
theorem kL_intertwined (X : sv_X D cI cZ cN cQ "SliceVotingLaw" cc nL k p R s m args c) (hk : 7 + 1 ≤ k) (hP : sv_cP D cI cN cQ n qc ad σ H) {v w : Int32} (hn : n ≤ 6) (hI : sv_IQ n qc σ) (hl : lv_has ls nL lv) (hc : cells ≤ R.cells) (hs : slots ≤ R.slots) (hcat : (rest.map fun v => v.category).sum ≤ 8) (hd : decode cc pc = .ok (.invokevirtual 91, 3)) (kk : W p l e R s m args below meth c H locs cells slots Q (F0 m (pc + 3) ls (.int (sv_b (sv_wel n σ v && sv_wel n σ w && sv_itw σ n qc v.toNatClampNeg w.toNatClampNeg)) :: rest))) : W p l e R s m args below meth c H locs cells slots Q (F0 m pc ls (.int w :: .int v :: .ref (ad 0) :: rest)) :=
  sv_cV (G := fun H => sv_cP D cI cN cQ n qc ad σ H) X okL_S_intertwined (cS_m_intertwined hn hI) hP (y_rec X.K hP (by omega) sv_ce_S rfl) hk rfl hl.1 rfl hcat hc hs hd kk
end SvReads
end
section
section SvVotes
variable {p : Program} {l : Launch} {e : Env} {R : Room} {s : State} {m : MethodId} {args : Array Value} {below : List Frame} {meth : Method} {c : Code} {H H0 : Heap} {locs : List Loc} {cells slots : Nat} {Q : State → Prop}
variable {cc : ByteArray} {pc nL k : Nat} {ls : Array Slot} {lv : List (Nat × Value)} {rest : List Value} {D : va_G} {cI cZ cN cQ : ClassId} {n qc : Nat} {ad : Nat → Nat} {σ : Sg} {A : Nat → Prop} {mt qm : Nat → Int32}
theorem sv_tv_self (v : Nat) : sv_tv v v = 10 := if_pos rfl
theorem sv_ta_self (v : Nat) : sv_ta v v = 11 := if_pos rfl
theorem sv_tp_self (v : Nat) : sv_tp v v = v := if_pos rfl
def sv_vS (σ : Sg) (v t : Nat) : Sg := bif sv_aga (σ 10 v ||| σ 11 v) t then σ else sg σ 10 v (σ 10 v ||| sv_bit t)
theorem sv_or_bit {x : Int32} {t : Nat} (ht : t < 32) (h : bt x t = true) : x ||| sv_bit t = x := b_ext fun i hi => by
  rw [sv_set_bt ht hi]
  by_cases e : i = t
  · rw [e, h]; rfl
  · rw [decide_eq_false e, Bool.or_false]
theorem sv_vS_eq {σ : Sg} {v t : Nat} (ht : t < 32) : sv_vS σ v t = sv_vote σ v t := by
  unfold sv_vS sv_vote
  cases e : sv_aga (σ 10 v ||| σ 11 v) t with
  | true => rw [Bool.or_true]
  | false =>
    cases e2 : bt (σ 10 v) t with
    | false => rfl
    | true =>
      show sg σ 10 v (σ 10 v ||| sv_bit t) = σ
      rw [sv_or_bit ht e2, sg_self]
def sv_aO (σ : Sg) (n qc v : Nat) : Option Sg := (sv_least (sv_mA σ n qc v) 24).map fun s => sg σ 11 v (σ 11 v ||| sv_bit s)
def sv_cO (σ : Sg) (n qc v : Nat) : Option Sg := (sv_least (sv_mC σ n qc v) 24).map fun s => sv_cf σ v s
def sv_vO (σ : Sg) (v : Nat) : Option Sg := bif sv_cC σ v then some (sg σ 10 v (σ 10 v ||| sv_bit (12 + sv_bal σ v))) else none
theorem sv_step_a {σ τ : Sg} {n qc v : Nat} (h : sv_aO σ n qc v = some τ) : sv_step σ n qc v = some τ := by
  unfold sv_aO at h
  unfold sv_step
  cases e : sv_least (sv_mA σ n qc v) 24 with
  | none => rw [e] at h; cases h
  | some s => rw [e] at h; exact h
theorem sv_step_c {σ τ : Sg} {n qc v : Nat} (h0 : sv_aO σ n qc v = none) (h : sv_cO σ n qc v = some τ) : sv_step σ n qc v = some τ := by
  unfold sv_aO at h0
  unfold sv_cO at h
  unfold sv_step
  cases e : sv_least (sv_mA σ n qc v) 24 with
  | some s => rw [e] at h0; cases h0
  | none =>
    cases e2 : sv_least (sv_mC σ n qc v) 24 with
    | none => rw [e2] at h; cases h
    | some s => rw [e2] at h; exact h
theorem sv_step_v {σ : Sg} {n qc v : Nat} (h0 : sv_aO σ n qc v = none) (h1 : sv_cO σ n qc v = none) : sv_step σ n qc v = sv_vO σ v := by
  unfold sv_aO at h0
  unfold sv_cO at h1
  unfold sv_step
  cases e : sv_least (sv_mA σ n qc v) 24 with
  | some s => rw [e] at h0; cases h0
  | none =>
    cases e2 : sv_least (sv_mC σ n qc v) 24 with
    | some s => rw [e2] at h1; cases h1
    | none => rfl
theorem sv_isSome_f {α : Type} {o : Option α} (h : o.isSome = false) : o = none := by cases o with | none => rfl | some _ => cases h
theorem sv_isSome_t {α : Type} {o : Option α} (h : o.isSome = true) : ∃ a, o = some a := by cases o with | none => cases h | some a => exact ⟨a, rfl⟩
theorem sv_vO_0 {σ : Sg} {v : Nat} (h : σ 13 v = 0) : sv_vO σ v = none := by
  unfold sv_vO sv_cC
  rw [h]
  rfl
theorem sv_vO_1 {σ : Sg} {v : Nat} (h : bt (σ 10 v) (12 + sv_bal σ v) = true) : sv_vO σ v = none := by
  unfold sv_vO sv_cC
  rw [h]
  simp
theorem sv_vO_2 {σ : Sg} {v : Nat} (h : bt (σ 12 v) (sv_bal σ v) = false) : sv_vO σ v = none := by
  unfold sv_vO sv_cC
  rw [h]
  simp
theorem sv_vO_3 {σ : Sg} {v : Nat} (h : (!sv_aga (σ 10 v ||| σ 11 v) (12 + sv_bal σ v)) = false) : sv_vO σ v = none := by
  unfold sv_vO sv_cC
  rw [h]
  simp
theorem sv_vO_y {σ : Sg} {v : Nat} (h0 : 0 < (σ 13 v).toNatClampNeg) (h1 : bt (σ 10 v) (12 + sv_bal σ v) = false) (h2 : bt (σ 12 v) (sv_bal σ v) = true) (h3 : (!sv_aga (σ 10 v ||| σ 11 v) (12 + sv_bal σ v)) = true) : sv_vO σ v = some (sv_vS σ v (12 + sv_bal σ v)) := by
  unfold sv_vO sv_cC sv_vS
  rw [h1, h2, h3, decide_eq_true h0]
  rw [Bool.not_eq_true'] at h3
  rw [h3]
  rfl
theorem sv_vS_n {σ : Sg} {v t : Nat} (h : (!sv_aga (σ 10 v ||| σ 11 v) t) = false) : sv_vS σ v t = σ := by
  unfold sv_vS
  rw [Bool.not_eq_false'] at h
  rw [h]
  rfl
def sv_dB (σ : Sg) (v t : Nat) : Sg := bif decide (12 ≤ t) && (σ 15 v == -1) then sg σ 15 v (nI (t % 3)) else σ
theorem sv_dB_cf (σ : Sg) (v t : Nat) : sv_dB (sg σ 12 v (σ 12 v ||| sv_bit t)) v t = sv_cf σ v t := by
  unfold sv_dB sv_cf
  rw [sg_off σ _ (Or.inl (by decide : (15 : Nat) ≠ 12))]
def sv_her (σ : Sg) (v w : Nat) (x y : Int32) : Sg := sg (sg (sg σ 1 0 1) (sv_tv v w) (sv_tp v w) x) (sv_ta v w) (sv_tp v w) y
set_option maxHeartbeats 4000000 in
set_option maxRecDepth 100000 in
theorem wS_voteIfAllowed (X : sv_X D cI cZ cN cQ "SliceVoting" cS_voteIfAllowed 3 4 p R s m args c) (hP : sv_cP D cI cN cQ n qc ad σ H) (hJ : sv_inj (3 + 3 * n + qc) ad) (hA : ∀ k, k < (3 + 3 * n + qc) → A (ad k)) (hS : va_S A H0 H locs) {v t : Nat} (hn : n ≤ 6) (hv : v < n) (ht : t < 24) (hl : lv_has ls 3 [(0, .ref (ad (2 + 3 * v))), (1, .int (nI t))]) (ret : ∀ (pc : Nat) (ls : Array Slot) (H : Heap) (locs : List Loc), decode cS_voteIfAllowed pc = .ok (.ireturn, 1) → va_S A H0 H locs → sv_cP D cI cN cQ n qc ad (sv_vS σ v t) H → W p l e R s m args below meth c H locs 0 0 Q (F0 m pc ls [.int (sv_b (!sv_aga (σ 10 v ||| σ 11 v) t))])) : W p l e R s m args below meth c H locs 0 0 Q (F0 m 0 ls []) := by
  have hx := X.1
  have hb := X.2.1
  refine lv_aload_n (i := 0) hx hb dS_voteIfAllowed_0 rfl (sv_at hl rfl) ?_
  refine gN_number X hP (by omega) dS_voteIfAllowed_1 ?_
  refine lv_istore_n (i := 2) hx hb dS_voteIfAllowed_4 rfl hl (by decide) rfl (fun ls hl => ?_)
  refine lv_iload_n (i := 1) hx hb dS_voteIfAllowed_5 rfl (sv_at hl rfl) ?_
  refine lv_aload_n (i := 0) hx hb dS_voteIfAllowed_6 rfl (sv_at hl rfl) ?_
  refine gN_knownVotes X hP (by omega) dS_voteIfAllowed_7 ?_
  refine lv_iload_n (i := 2) hx hb dS_voteIfAllowed_10 rfl (sv_at hl rfl) ?_
  refine gI_V X hP hn (by omega) (by omega) dS_voteIfAllowed_11 ?_
  refine lv_aload_n (i := 0) hx hb dS_voteIfAllowed_12 rfl (sv_at hl rfl) ?_
  refine gN_knownAccepts X hP (by omega) dS_voteIfAllowed_13 ?_
  refine lv_iload_n (i := 2) hx hb dS_voteIfAllowed_16 rfl (sv_at hl rfl) ?_
  refine gI_C X hP hn (by omega) (by omega) dS_voteIfAllowed_17 ?_
  refine lv_ior hx hb dS_voteIfAllowed_18 ?_
  refine x_tv (y := σ 10 v ||| σ 11 v) (by rw [sv_kv_self, sv_ka_self]) ?_
  refine kS_contradictsOneOf X (by decide) (by omega) hl (Nat.zero_le _) (Nat.zero_le _) (Nat.le_of_ble_eq_true rfl) dS_voteIfAllowed_19 ?_
  refine x_ifeqB (tgt := 27) hx hb dS_voteIfAllowed_22 rfl (fun h22 => ?_) (fun h22 => ?_)
  · skip
    refine lv_aload_n (i := 0) hx hb dS_voteIfAllowed_27 rfl (sv_at hl rfl) ?_
    refine gN_knownVotes X hP (by omega) dS_voteIfAllowed_28 ?_
    refine lv_iload_n (i := 2) hx hb dS_voteIfAllowed_31 rfl (sv_at hl rfl) ?_
    refine lv_dup2_11 hx hb dS_voteIfAllowed_32 rfl rfl ?_
    refine gI_V X hP hn (by omega) (by omega) dS_voteIfAllowed_33 ?_
    refine lv_iconst (v := 1) hx hb dS_voteIfAllowed_34 (by decide) ?_
    refine lv_iload_n (i := 1) hx hb dS_voteIfAllowed_35 rfl (sv_at hl rfl) ?_
    refine lv_ishl hx hb dS_voteIfAllowed_36 ?_
    refine lv_ior hx hb dS_voteIfAllowed_37 ?_
    refine x_tv (y := σ 10 v ||| sv_bit t) (by rw [sv_kv_self]; rfl) ?_
    refine pI_V X hP hJ hA hS hn (by omega) (by omega) dS_voteIfAllowed_38 (fun H locs hP hS => ?_)
    rw [sv_tv_self, sv_tp_self] at hP
    refine lv_iconst (v := 1) hx hb dS_voteIfAllowed_39 (by decide) ?_
    exact x_tv (by rw [h22]; rfl) (ret _ _ _ _ dS_voteIfAllowed_40 hS (by unfold sv_vS; rw [h22]; exact hP))
  · skip
    refine lv_iconst (v := 0) hx hb dS_voteIfAllowed_25 (by decide) ?_
    exact x_tv (by rw [h22]; rfl) (ret _ _ _ _ dS_voteIfAllowed_26 hS (by unfold sv_vS; rw [h22]; exact hP))

theorem cS_m_voteIfAllowed (hJ : sv_inj (3 + 3 * n + qc) ad) (hA : ∀ k, k < (3 + 3 * n + qc) → A (ad k)) {v t : Nat} (hn : n ≤ 6) (hv : v < n) (ht : t < 24) : Met l yS_voteIfAllowed (sv_ws yS_voteIfAllowed cS_voteIfAllowed 3 (some .boolean)) (sv_rm 4) (sv_Pc D cI cZ cN cQ [.ref (ad (2 + 3 * v)), .int (nI t)] (fun H => sv_cP D cI cN cQ n qc ad σ H)) (va_Qi (fun r u => r = sv_b (!sv_aga (σ 10 v ||| σ 11 v) t) ∧ u = sv_vS σ v t) (fun u t => sv_cP D cI cN cQ n qc ad u t.heap) A) 0 0 A :=
  sv_mkI (S := Sg) (B := fun u H => sv_cP D cI cN cQ n qc ad u H) (by decide) (by show 2 ≤ 3; decide) (fun _ _ h => by rw [h.1]; exact sv_narb _) (fun p e s m below meth c ls Q X hP hl ret => wS_voteIfAllowed X hP hJ hA va_S.rf hn hv ht hl (fun pc ls H locs hd hS hP => ret pc ls _ _ H locs hd hS ⟨rfl, rfl⟩ hP))
theorem okS_S_voteIfAllowed : sv_okS "SliceVoting" 85 yS_voteIfAllowed cS_voteIfAllowed 3 (some .boolean) 2 := ⟨sv_tb_t 171 rfl rfl, sv_tb_t 169 rfl rfl, sv_tb_t 170 rfl rfl, sv_tb_t 1 rfl rfl, ⟨by decide, by decide, by decide +kernel⟩, by decide⟩
theorem kS_voteIfAllowed (X : sv_X D cI cZ cN cQ "SliceVoting" cc nL k p R s m args c) (hk : 4 + 1 ≤ k) (hP : sv_cP D cI cN cQ n qc ad σ H) (hJ : sv_inj (3 + 3 * n + qc) ad) (hA : ∀ k, k < (3 + 3 * n + qc) → A (ad k)) (hS : va_S A H0 H locs) {v t : Nat} (hn : n ≤ 6) (hv : v < n) (ht : t < 24) (hl : lv_has ls nL lv) (hc : cells ≤ R.cells) (hs : slots ≤ R.slots) (hcat : (rest.map fun v => v.category).sum ≤ 8) (hd : decode cc pc = .ok (.invokestatic 85, 3)) (kk : ∀ (H1 : Heap) (locs1 : List Loc), sv_cP D cI cN cQ n qc ad (sv_vS σ v t) H1 → va_S A H0 H1 locs1 → W p l e R s m args below meth c H1 locs1 cells slots Q (F0 m (pc + 3) ls (.int (sv_b (!sv_aga (σ 10 v ||| σ 11 v) t)) :: rest))) : W p l e R s m args below meth c H locs cells slots Q (F0 m pc ls (.int (nI t) :: .ref (ad (2 + 3 * v)) :: rest)) :=
  sv_wSi (S := Sg) (G := fun H => sv_cP D cI cN cQ n qc ad σ H) (B := fun u H => sv_cP D cI cN cQ n qc ad u H) X okS_S_voteIfAllowed (cS_m_voteIfAllowed hJ hA hn hv ht) hP hS hk rfl hl.1 rfl hcat hc hs hd (fun r u H1 locs1 hp hB hS => by obtain ⟨rfl, rfl⟩ := hp; exact kk H1 locs1 hB hS)
set_option maxHeartbeats 4000000 in
set_option maxRecDepth 100000 in
theorem wS_hear (X : sv_X D cI cZ cN cQ "SliceVoting" cS_hear 5 1 p R s m args c) (hP : sv_cP D cI cN cQ n qc ad σ H) (hJ : sv_inj (3 + 3 * n + qc) ad) (hA : ∀ k, k < (3 + 3 * n + qc) → A (ad k)) (hS : va_S A H0 H locs) {v w : Nat} {x z : Int32} (hn : n ≤ 6) (hv : v < n) (hw : w < n) (hl : lv_has ls 5 [(0, .ref (ad 0)), (1, .ref (ad (2 + 3 * v))), (2, .int (nI w)), (3, .int x), (4, .int z)]) (ret : ∀ (pc : Nat) (ls : Array Slot) (H : Heap) (locs : List Loc), decode cS_hear pc = .ok (.return_, 1) → va_S A H0 H locs → sv_cP D cI cN cQ n qc ad (sv_her σ v w x z) H → W p l e R s m args below meth c H locs 0 0 Q (F0 m pc ls [])) : W p l e R s m args below meth c H locs 0 0 Q (F0 m 0 ls []) := by
  have hx := X.1
  have hb := X.2.1
  refine lv_aload_n (i := 0) hx hb dS_hear_0 rfl (sv_at hl rfl) ?_
  refine lv_iconst (v := 1) hx hb dS_hear_1 (by decide) ?_
  refine pS_moving X hP hJ hA hS dS_hear_2 (fun H locs hP hS => ?_)
  refine lv_aload_n (i := 1) hx hb dS_hear_5 rfl (sv_at hl rfl) ?_
  refine gN_knownVotes X hP (by omega) dS_hear_6 ?_
  refine lv_iload_n (i := 2) hx hb dS_hear_9 rfl (sv_at hl rfl) ?_
  refine lv_iload_n (i := 3) hx hb dS_hear_10 rfl (sv_at hl rfl) ?_
  refine pI_V X hP hJ hA hS hn (by omega) (by omega) dS_hear_11 (fun H locs hP hS => ?_)
  refine lv_aload_n (i := 1) hx hb dS_hear_12 rfl (sv_at hl rfl) ?_
  refine gN_knownAccepts X hP (by omega) dS_hear_13 ?_
  refine lv_iload_n (i := 2) hx hb dS_hear_16 rfl (sv_at hl rfl) ?_
  refine lv_iload (i := 4) hx hb dS_hear_17 (sv_at hl rfl) ?_
  refine pI_C X hP hJ hA hS hn (by omega) (by omega) dS_hear_19 (fun H locs hP hS => ?_)
  exact ret _ _ _ _ dS_hear_20 hS hP

theorem cS_m_hear (hJ : sv_inj (3 + 3 * n + qc) ad) (hA : ∀ k, k < (3 + 3 * n + qc) → A (ad k)) {v w : Nat} {x z : Int32} (hn : n ≤ 6) (hv : v < n) (hw : w < n) : Met l yS_hear (sv_ws yS_hear cS_hear 5 none) (sv_rm 1) (sv_Pc D cI cZ cN cQ [.ref (ad 0), .ref (ad (2 + 3 * v)), .int (nI w), .int x, .int z] (fun H => sv_cP D cI cN cQ n qc ad σ H)) (va_Qv (fun u => u = sv_her σ v w x z) (fun u t => sv_cP D cI cN cQ n qc ad u t.heap) A) 0 0 A :=
  sv_mkV (S := Sg) (B := fun u H => sv_cP D cI cN cQ n qc ad u H) (by decide) (by show 5 ≤ 5; decide) (fun p e s m below meth c ls Q X hP hl ret => wS_hear X hP hJ hA va_S.rf hn hv hw hl (fun pc ls H locs hd hS hP => ret pc ls _ H locs hd hS rfl hP))
theorem okS_S_hear : sv_okV "SliceVoting" 100 yS_hear cS_hear 5 none 4 := ⟨sv_tb_t 244 rfl rfl, sv_tb_t 241 rfl rfl, sv_tb_t 243 rfl rfl, sv_tb_s 14 rfl rfl, sv_tb_t 1 rfl rfl, ⟨by decide, by decide, by decide +kernel⟩, by decide⟩
theorem kS_hear (X : sv_X D cI cZ cN cQ "SliceVoting" cc nL k p R s m args c) (hk : 1 + 1 ≤ k) (hP : sv_cP D cI cN cQ n qc ad σ H) (hJ : sv_inj (3 + 3 * n + qc) ad) (hA : ∀ k, k < (3 + 3 * n + qc) → A (ad k)) (hS : va_S A H0 H locs) {v w : Nat} {x z : Int32} (hn : n ≤ 6) (hv : v < n) (hw : w < n) (hl : lv_has ls nL lv) (hc : cells ≤ R.cells) (hs : slots ≤ R.slots) (hcat : (rest.map fun v => v.category).sum ≤ 8) (hd : decode cc pc = .ok (.invokevirtual 100, 3)) (kk : ∀ (H1 : Heap) (locs1 : List Loc), sv_cP D cI cN cQ n qc ad (sv_her σ v w x z) H1 → va_S A H0 H1 locs1 → W p l e R s m args below meth c H1 locs1 cells slots Q (F0 m (pc + 3) ls rest)) : W p l e R s m args below meth c H locs cells slots Q (F0 m pc ls (.int z :: .int x :: .int (nI w) :: .ref (ad (2 + 3 * v)) :: .ref (ad 0) :: rest)) :=
  sv_wVv (S := Sg) (G := fun H => sv_cP D cI cN cQ n qc ad σ H) (B := fun u H => sv_cP D cI cN cQ n qc ad u H) X okS_S_hear (cS_m_hear hJ hA hn hv hw) hP (y_rec X.K hP (by omega) sv_ce_S rfl) hS hk rfl hl.1 rfl hcat hc hs hd (fun u H1 locs1 hp hB hS => by subst hp; exact kk H1 locs1 hB hS)
set_option maxHeartbeats 4000000 in
set_option maxRecDepth 100000 in
theorem wS_decideBy (X : sv_X D cI cZ cN cQ "SliceVoting" cS_decideBy 2 2 p R s m args c) (hP : sv_cP D cI cN cQ n qc ad σ H) (hJ : sv_inj (3 + 3 * n + qc) ad) (hA : ∀ k, k < (3 + 3 * n + qc) → A (ad k)) (hS : va_S A H0 H locs) {v t : Nat} (hn : n ≤ 6) (hv : v < n) (ht : t < 24) (hl : lv_has ls 2 [(0, .ref (ad (2 + 3 * v))), (1, .int (nI t))]) (ret : ∀ (pc : Nat) (ls : Array Slot) (H : Heap) (locs : List Loc), decode cS_decideBy pc = .ok (.return_, 1) → va_S A H0 H locs → sv_cP D cI cN cQ n qc ad (sv_dB σ v t) H → W p l e R s m args below meth c H locs 0 0 Q (F0 m pc ls [])) : W p l e R s m args below meth c H locs 0 0 Q (F0 m 0 ls []) := by
  have hx := X.1
  have hb := X.2.1
  refine lv_iload_n (i := 1) hx hb dS_decideBy_0 rfl (sv_at hl rfl) ?_
  refine kS_isCommit X (by decide) (by omega) hl (Nat.zero_le _) (Nat.zero_le _) (Nat.le_of_ble_eq_true rfl) dS_decideBy_1 ?_
  refine x_ifeqB (tgt := 23) hx hb dS_decideBy_4 rfl (fun h4 => ?_) (fun h4 => ?_)
  · skip
    exact ret _ _ _ _ dS_decideBy_23 hS (by unfold sv_dB; first | (rw [h12, h4]; exact hP) | (rw [h4, show (σ 15 v == -1) = false from beq_eq_false_iff_ne.mpr h12, Bool.and_false]; exact hP) | (rw [h4]; exact hP))
  · skip
    refine lv_aload_n (i := 0) hx hb dS_decideBy_7 rfl (sv_at hl rfl) ?_
    refine gN_decision X hP (by omega) dS_decideBy_8 ?_
    refine lv_iconst (v := -1) hx hb dS_decideBy_11 (by decide) ?_
    refine lv_icmp_ne (tgt := 23) hx hb dS_decideBy_12 rfl (fun h12 => ?_) (fun h12 => ?_)
    · skip
      exact ret _ _ _ _ dS_decideBy_23 hS (by unfold sv_dB; first | (rw [h12, h4]; exact hP) | (rw [h4, show (σ 15 v == -1) = false from beq_eq_false_iff_ne.mpr h12, Bool.and_false]; exact hP) | (rw [h4]; exact hP))
    · skip
      refine lv_aload_n (i := 0) hx hb dS_decideBy_15 rfl (sv_at hl rfl) ?_
      refine lv_iload_n (i := 1) hx hb dS_decideBy_16 rfl (sv_at hl rfl) ?_
      refine kS_valueOf X (by decide) (by omega) hl (Nat.zero_le _) (Nat.zero_le _) (Nat.le_of_ble_eq_true rfl) dS_decideBy_17 ?_
      refine pN_decision X hP hJ hA hS (by omega) dS_decideBy_20 (fun H locs hP hS => ?_)
      exact ret _ _ _ _ dS_decideBy_23 hS (by unfold sv_dB; first | (rw [h12, h4]; exact hP) | (rw [h4, show (σ 15 v == -1) = false from beq_eq_false_iff_ne.mpr h12, Bool.and_false]; exact hP) | (rw [h4]; exact hP))

theorem cS_m_decideBy (hJ : sv_inj (3 + 3 * n + qc) ad) (hA : ∀ k, k < (3 + 3 * n + qc) → A (ad k)) {v t : Nat} (hn : n ≤ 6) (hv : v < n) (ht : t < 24) : Met l yS_decideBy (sv_ws yS_decideBy cS_decideBy 2 none) (sv_rm 2) (sv_Pc D cI cZ cN cQ [.ref (ad (2 + 3 * v)), .int (nI t)] (fun H => sv_cP D cI cN cQ n qc ad σ H)) (va_Qv (fun u => u = sv_dB σ v t) (fun u t => sv_cP D cI cN cQ n qc ad u t.heap) A) 0 0 A :=
  sv_mkV (S := Sg) (B := fun u H => sv_cP D cI cN cQ n qc ad u H) (by decide) (by show 2 ≤ 2; decide) (fun p e s m below meth c ls Q X hP hl ret => wS_decideBy X hP hJ hA va_S.rf hn hv ht hl (fun pc ls H locs hd hS hP => ret pc ls _ H locs hd hS rfl hP))
theorem okS_S_decideBy : sv_okS "SliceVoting" 204 yS_decideBy cS_decideBy 2 none 2 := ⟨sv_tb_t 230 rfl rfl, sv_tb_t 228 rfl rfl, sv_tb_t 229 rfl rfl, sv_tb_t 1 rfl rfl, ⟨by decide, by decide, by decide +kernel⟩, by decide⟩
theorem kS_decideBy (X : sv_X D cI cZ cN cQ "SliceVoting" cc nL k p R s m args c) (hk : 2 + 1 ≤ k) (hP : sv_cP D cI cN cQ n qc ad σ H) (hJ : sv_inj (3 + 3 * n + qc) ad) (hA : ∀ k, k < (3 + 3 * n + qc) → A (ad k)) (hS : va_S A H0 H locs) {v t : Nat} (hn : n ≤ 6) (hv : v < n) (ht : t < 24) (hl : lv_has ls nL lv) (hc : cells ≤ R.cells) (hs : slots ≤ R.slots) (hcat : (rest.map fun v => v.category).sum ≤ 8) (hd : decode cc pc = .ok (.invokestatic 204, 3)) (kk : ∀ (H1 : Heap) (locs1 : List Loc), sv_cP D cI cN cQ n qc ad (sv_dB σ v t) H1 → va_S A H0 H1 locs1 → W p l e R s m args below meth c H1 locs1 cells slots Q (F0 m (pc + 3) ls rest)) : W p l e R s m args below meth c H locs cells slots Q (F0 m pc ls (.int (nI t) :: .ref (ad (2 + 3 * v)) :: rest)) :=
  sv_wSv (S := Sg) (G := fun H => sv_cP D cI cN cQ n qc ad σ H) (B := fun u H => sv_cP D cI cN cQ n qc ad u H) X okS_S_decideBy (cS_m_decideBy hJ hA hn hv ht) hP hS hk rfl hl.1 rfl hcat hc hs hd (fun u H1 locs1 hp hB hS => by subst hp; exact kk H1 locs1 hB hS)
set_option maxHeartbeats 4000000 in
set_option maxRecDepth 100000 in
theorem wS_acceptLeast (X : sv_X D cI cZ cN cQ "SliceVoting" cS_acceptLeast 3 8 p R s m args c) (hP : sv_cP D cI cN cQ n qc ad σ H) (hJ : sv_inj (3 + 3 * n + qc) ad) (hA : ∀ k, k < (3 + 3 * n + qc) → A (ad k)) (hS : va_S A H0 H locs) {v : Nat} (hn : n ≤ 6) (hI : sv_IQ n qc σ) (hv : v < n) (hl : lv_has ls 3 [(0, .ref (ad 0)), (1, .ref (ad (2 + 3 * v)))]) (ret : ∀ (pc : Nat) (ls : Array Slot) (H : Heap) (locs : List Loc), decode cS_acceptLeast pc = .ok (.ireturn, 1) → va_S A H0 H locs → sv_cP D cI cN cQ n qc ad ((sv_aO σ n qc v).getD σ) H → W p l e R s m args below meth c H locs 0 0 Q (F0 m pc ls [.int (sv_b (sv_aO σ n qc v).isSome)])) : W p l e R s m args below meth c H locs 0 0 Q (F0 m 0 ls []) := by
  have hx := X.1
  have hb := X.2.1
  have J2 : ∀ (kf : Nat) (i : Nat) (ls : Array Slot), 24 - i < kf → (i ≤ 24) → (∀ t, t < i → sv_mA σ n qc v t = false) → lv_has ls 3 [(0, .ref (ad 0)), (1, .ref (ad (2 + 3 * v))), (2, .int (nI i))] → W p l e R s m args below meth c H locs 0 0 Q (F0 m 2 ls []) := by
    intro kf
    induction kf with
    | zero => intro i ls hm; exact absurd hm (Nat.not_lt_zero _)
    | succ kf ih =>
      intro i ls hm hi hno hl
      refine lv_iload_n (i := 2) hx hb dS_acceptLeast_2 rfl (sv_at hl rfl) ?_
      refine lv_bipush (v := nI 24) hx hb dS_acceptLeast_3 (by decide) ?_
      refine lv_icmp_ge (tgt := 40) hx hb dS_acceptLeast_5 rfl (fun h5 => ?_) (fun h5 => ?_)
      · skip
        rw [nI_leI (by omega) (by omega)] at h5
        refine lv_iconst (v := 0) hx hb dS_acceptLeast_40 (by decide) ?_
        exact x_tv (by unfold sv_aO; rw [sv_least_no 24 (fun j hj => hno j (by omega))]; rfl) (ret _ _ _ _ dS_acceptLeast_41 hS (by unfold sv_aO; rw [sv_least_no 24 (fun j hj => hno j (by omega))]; exact hP))
      · skip
        rw [nI_leI (by omega) (by omega)] at h5
        refine lv_aload_n (i := 0) hx hb dS_acceptLeast_8 rfl (sv_at hl rfl) ?_
        refine lv_aload_n (i := 1) hx hb dS_acceptLeast_9 rfl (sv_at hl rfl) ?_
        refine lv_iload_n (i := 2) hx hb dS_acceptLeast_10 rfl (sv_at hl rfl) ?_
        refine kS_mayAccept X (by decide) hP hn hI (by omega) (by omega) hl (Nat.zero_le _) (Nat.zero_le _) (Nat.le_of_ble_eq_true rfl) dS_acceptLeast_11 ?_
        refine x_ifeqB (tgt := 34) hx hb dS_acceptLeast_14 rfl (fun h14 => ?_) (fun h14 => ?_)
        · skip
          refine x_iinc (i := 2) hx hb dS_acceptLeast_34 hl rfl (sv_inc i) (by decide) (fun ls hl => ?_)
          refine lv_goto (tgt := 2) hx hb dS_acceptLeast_37 rfl ?_
          exact ih (i + 1) ls (by omega) (by omega) (lt_s hno h14) (sv_re hl ⟨rfl, rfl, rfl, trivial⟩)
        · skip
          refine lv_aload_n (i := 1) hx hb dS_acceptLeast_17 rfl (sv_at hl rfl) ?_
          refine gN_knownAccepts X hP (by omega) dS_acceptLeast_18 ?_
          refine lv_aload_n (i := 1) hx hb dS_acceptLeast_21 rfl (sv_at hl rfl) ?_
          refine gN_number X hP (by omega) dS_acceptLeast_22 ?_
          refine lv_dup2_11 hx hb dS_acceptLeast_25 rfl rfl ?_
          refine gI_C X hP hn (by omega) (by omega) dS_acceptLeast_26 ?_
          refine lv_iconst (v := 1) hx hb dS_acceptLeast_27 (by decide) ?_
          refine lv_iload_n (i := 2) hx hb dS_acceptLeast_28 rfl (sv_at hl rfl) ?_
          refine lv_ishl hx hb dS_acceptLeast_29 ?_
          refine lv_ior hx hb dS_acceptLeast_30 ?_
          refine x_tv (y := σ 11 v ||| sv_bit i) (by rw [sv_ka_self]; rfl) ?_
          refine pI_C X hP hJ hA hS hn (by omega) (by omega) dS_acceptLeast_31 (fun H locs hP hS => ?_)
          rw [sv_ta_self, sv_tp_self] at hP
          refine lv_iconst (v := 1) hx hb dS_acceptLeast_32 (by decide) ?_
          exact x_tv (by unfold sv_aO; rw [sv_least_is 24 (show i < 24 by omega) h14 hno]; rfl) (ret _ _ _ _ dS_acceptLeast_33 hS (by unfold sv_aO; rw [sv_least_is 24 (show i < 24 by omega) h14 hno]; exact hP))
  refine lv_iconst (v := 0) hx hb dS_acceptLeast_0 (by decide) ?_
  refine lv_istore_n (i := 2) hx hb dS_acceptLeast_1 rfl hl (by decide) rfl (fun ls hl => ?_)
  exact J2 _ 0 ls (Nat.lt_succ_self _) (Nat.zero_le _) lt_0 (sv_re hl ⟨rfl, rfl, rfl, trivial⟩)

theorem cS_m_acceptLeast (hJ : sv_inj (3 + 3 * n + qc) ad) (hA : ∀ k, k < (3 + 3 * n + qc) → A (ad k)) {v : Nat} (hn : n ≤ 6) (hI : sv_IQ n qc σ) (hv : v < n) : Met l yS_acceptLeast (sv_ws yS_acceptLeast cS_acceptLeast 3 (some .boolean)) (sv_rm 8) (sv_Pc D cI cZ cN cQ [.ref (ad 0), .ref (ad (2 + 3 * v))] (fun H => sv_cP D cI cN cQ n qc ad σ H)) (va_Qi (fun r u => r = sv_b (sv_aO σ n qc v).isSome ∧ u = (sv_aO σ n qc v).getD σ) (fun u t => sv_cP D cI cN cQ n qc ad u t.heap) A) 0 0 A :=
  sv_mkI (S := Sg) (B := fun u H => sv_cP D cI cN cQ n qc ad u H) (by decide) (by show 2 ≤ 3; decide) (fun _ _ h => by rw [h.1]; exact sv_narb _) (fun p e s m below meth c ls Q X hP hl ret => wS_acceptLeast X hP hJ hA va_S.rf hn hI hv hl (fun pc ls H locs hd hS hP => ret pc ls _ _ H locs hd hS ⟨rfl, rfl⟩ hP))
theorem okS_S_acceptLeast : sv_okV "SliceVoting" 181 yS_acceptLeast cS_acceptLeast 3 (some .boolean) 1 := ⟨sv_tb_t 191 rfl rfl, sv_tb_t 188 rfl rfl, sv_tb_t 190 rfl rfl, sv_tb_s 7 rfl rfl, sv_tb_t 1 rfl rfl, ⟨by decide, by decide, by decide +kernel⟩, by decide⟩
theorem kS_acceptLeast (X : sv_X D cI cZ cN cQ "SliceVoting" cc nL k p R s m args c) (hk : 8 + 1 ≤ k) (hP : sv_cP D cI cN cQ n qc ad σ H) (hJ : sv_inj (3 + 3 * n + qc) ad) (hA : ∀ k, k < (3 + 3 * n + qc) → A (ad k)) (hS : va_S A H0 H locs) {v : Nat} (hn : n ≤ 6) (hI : sv_IQ n qc σ) (hv : v < n) (hl : lv_has ls nL lv) (hc : cells ≤ R.cells) (hs : slots ≤ R.slots) (hcat : (rest.map fun v => v.category).sum ≤ 8) (hd : decode cc pc = .ok (.invokevirtual 181, 3)) (kk : ∀ (H1 : Heap) (locs1 : List Loc), sv_cP D cI cN cQ n qc ad ((sv_aO σ n qc v).getD σ) H1 → va_S A H0 H1 locs1 → W p l e R s m args below meth c H1 locs1 cells slots Q (F0 m (pc + 3) ls (.int (sv_b (sv_aO σ n qc v).isSome) :: rest))) : W p l e R s m args below meth c H locs cells slots Q (F0 m pc ls (.ref (ad (2 + 3 * v)) :: .ref (ad 0) :: rest)) :=
  sv_wVi (S := Sg) (G := fun H => sv_cP D cI cN cQ n qc ad σ H) (B := fun u H => sv_cP D cI cN cQ n qc ad u H) X okS_S_acceptLeast (cS_m_acceptLeast hJ hA hn hI hv) hP (y_rec X.K hP (by omega) sv_ce_S rfl) hS hk rfl hl.1 rfl hcat hc hs hd (fun r u H1 locs1 hp hB hS => by obtain ⟨rfl, rfl⟩ := hp; exact kk H1 locs1 hB hS)
set_option maxHeartbeats 4000000 in
set_option maxRecDepth 100000 in
theorem wS_confirmLeast (X : sv_X D cI cZ cN cQ "SliceVoting" cS_confirmLeast 3 8 p R s m args c) (hP : sv_cP D cI cN cQ n qc ad σ H) (hJ : sv_inj (3 + 3 * n + qc) ad) (hA : ∀ k, k < (3 + 3 * n + qc) → A (ad k)) (hS : va_S A H0 H locs) {v : Nat} (hn : n ≤ 6) (hI : sv_IQ n qc σ) (hv : v < n) (hl : lv_has ls 3 [(0, .ref (ad 0)), (1, .ref (ad (2 + 3 * v)))]) (ret : ∀ (pc : Nat) (ls : Array Slot) (H : Heap) (locs : List Loc), decode cS_confirmLeast pc = .ok (.ireturn, 1) → va_S A H0 H locs → sv_cP D cI cN cQ n qc ad ((sv_cO σ n qc v).getD σ) H → W p l e R s m args below meth c H locs 0 0 Q (F0 m pc ls [.int (sv_b (sv_cO σ n qc v).isSome)])) : W p l e R s m args below meth c H locs 0 0 Q (F0 m 0 ls []) := by
  have hx := X.1
  have hb := X.2.1
  have J2 : ∀ (kf : Nat) (i : Nat) (ls : Array Slot), 24 - i < kf → (i ≤ 24) → (∀ t, t < i → sv_mC σ n qc v t = false) → lv_has ls 3 [(0, .ref (ad 0)), (1, .ref (ad (2 + 3 * v))), (2, .int (nI i))] → W p l e R s m args below meth c H locs 0 0 Q (F0 m 2 ls []) := by
    intro kf
    induction kf with
    | zero => intro i ls hm; exact absurd hm (Nat.not_lt_zero _)
    | succ kf ih =>
      intro i ls hm hi hno hl
      refine lv_iload_n (i := 2) hx hb dS_confirmLeast_2 rfl (sv_at hl rfl) ?_
      refine lv_bipush (v := nI 24) hx hb dS_confirmLeast_3 (by decide) ?_
      refine lv_icmp_ge (tgt := 42) hx hb dS_confirmLeast_5 rfl (fun h5 => ?_) (fun h5 => ?_)
      · skip
        rw [nI_leI (by omega) (by omega)] at h5
        refine lv_iconst (v := 0) hx hb dS_confirmLeast_42 (by decide) ?_
        exact x_tv (by unfold sv_cO; rw [sv_least_no 24 (fun j hj => hno j (by omega))]; rfl) (ret _ _ _ _ dS_confirmLeast_43 hS (by unfold sv_cO; rw [sv_least_no 24 (fun j hj => hno j (by omega))]; exact hP))
      · skip
        rw [nI_leI (by omega) (by omega)] at h5
        refine lv_aload_n (i := 0) hx hb dS_confirmLeast_8 rfl (sv_at hl rfl) ?_
        refine lv_aload_n (i := 1) hx hb dS_confirmLeast_9 rfl (sv_at hl rfl) ?_
        refine lv_iload_n (i := 2) hx hb dS_confirmLeast_10 rfl (sv_at hl rfl) ?_
        refine kS_mayConfirm X (by decide) hP hn hI (by omega) (by omega) hl (Nat.zero_le _) (Nat.zero_le _) (Nat.le_of_ble_eq_true rfl) dS_confirmLeast_11 ?_
        refine x_ifeqB (tgt := 36) hx hb dS_confirmLeast_14 rfl (fun h14 => ?_) (fun h14 => ?_)
        · skip
          refine x_iinc (i := 2) hx hb dS_confirmLeast_36 hl rfl (sv_inc i) (by decide) (fun ls hl => ?_)
          refine lv_goto (tgt := 2) hx hb dS_confirmLeast_39 rfl ?_
          exact ih (i + 1) ls (by omega) (by omega) (lt_s hno h14) (sv_re hl ⟨rfl, rfl, rfl, trivial⟩)
        · skip
          refine lv_aload_n (i := 1) hx hb dS_confirmLeast_17 rfl (sv_at hl rfl) ?_
          refine lv_dup hx hb dS_confirmLeast_18 rfl ?_
          refine gN_confirmed X hP (by omega) dS_confirmLeast_19 ?_
          refine lv_iconst (v := 1) hx hb dS_confirmLeast_22 (by decide) ?_
          refine lv_iload_n (i := 2) hx hb dS_confirmLeast_23 rfl (sv_at hl rfl) ?_
          refine lv_ishl hx hb dS_confirmLeast_24 ?_
          refine lv_ior hx hb dS_confirmLeast_25 ?_
          refine pN_confirmed X hP hJ hA hS (by omega) dS_confirmLeast_26 (fun H locs hP hS => ?_)
          refine lv_aload_n (i := 1) hx hb dS_confirmLeast_29 rfl (sv_at hl rfl) ?_
          refine lv_iload_n (i := 2) hx hb dS_confirmLeast_30 rfl (sv_at hl rfl) ?_
          refine kS_decideBy X (by decide) hP hJ hA hS hn (by omega) (by omega) hl (Nat.zero_le _) (Nat.zero_le _) (Nat.le_of_ble_eq_true rfl) dS_confirmLeast_31 (fun H locs hP hS => ?_)
          rw [show sv_dB (sg σ 12 v (σ 12 v ||| 1 <<< (nI i &&& 31))) v i = sv_cf σ v i from sv_dB_cf σ v i] at hP
          refine lv_iconst (v := 1) hx hb dS_confirmLeast_34 (by decide) ?_
          exact x_tv (by unfold sv_cO; rw [sv_least_is 24 (show i < 24 by omega) h14 hno]; rfl) (ret _ _ _ _ dS_confirmLeast_35 hS (by unfold sv_cO; rw [sv_least_is 24 (show i < 24 by omega) h14 hno]; exact hP))
  refine lv_iconst (v := 0) hx hb dS_confirmLeast_0 (by decide) ?_
  refine lv_istore_n (i := 2) hx hb dS_confirmLeast_1 rfl hl (by decide) rfl (fun ls hl => ?_)
  exact J2 _ 0 ls (Nat.lt_succ_self _) (Nat.zero_le _) lt_0 (sv_re hl ⟨rfl, rfl, rfl, trivial⟩)

theorem cS_m_confirmLeast (hJ : sv_inj (3 + 3 * n + qc) ad) (hA : ∀ k, k < (3 + 3 * n + qc) → A (ad k)) {v : Nat} (hn : n ≤ 6) (hI : sv_IQ n qc σ) (hv : v < n) : Met l yS_confirmLeast (sv_ws yS_confirmLeast cS_confirmLeast 3 (some .boolean)) (sv_rm 8) (sv_Pc D cI cZ cN cQ [.ref (ad 0), .ref (ad (2 + 3 * v))] (fun H => sv_cP D cI cN cQ n qc ad σ H)) (va_Qi (fun r u => r = sv_b (sv_cO σ n qc v).isSome ∧ u = (sv_cO σ n qc v).getD σ) (fun u t => sv_cP D cI cN cQ n qc ad u t.heap) A) 0 0 A :=
  sv_mkI (S := Sg) (B := fun u H => sv_cP D cI cN cQ n qc ad u H) (by decide) (by show 2 ≤ 3; decide) (fun _ _ h => by rw [h.1]; exact sv_narb _) (fun p e s m below meth c ls Q X hP hl ret => wS_confirmLeast X hP hJ hA va_S.rf hn hI hv hl (fun pc ls H locs hd hS hP => ret pc ls _ _ H locs hd hS ⟨rfl, rfl⟩ hP))
theorem okS_S_confirmLeast : sv_okV "SliceVoting" 185 yS_confirmLeast cS_confirmLeast 3 (some .boolean) 1 := ⟨sv_tb_t 223 rfl rfl, sv_tb_t 220 rfl rfl, sv_tb_t 222 rfl rfl, sv_tb_s 12 rfl rfl, sv_tb_t 1 rfl rfl, ⟨by decide, by decide, by decide +kernel⟩, by decide⟩
theorem kS_confirmLeast (X : sv_X D cI cZ cN cQ "SliceVoting" cc nL k p R s m args c) (hk : 8 + 1 ≤ k) (hP : sv_cP D cI cN cQ n qc ad σ H) (hJ : sv_inj (3 + 3 * n + qc) ad) (hA : ∀ k, k < (3 + 3 * n + qc) → A (ad k)) (hS : va_S A H0 H locs) {v : Nat} (hn : n ≤ 6) (hI : sv_IQ n qc σ) (hv : v < n) (hl : lv_has ls nL lv) (hc : cells ≤ R.cells) (hs : slots ≤ R.slots) (hcat : (rest.map fun v => v.category).sum ≤ 8) (hd : decode cc pc = .ok (.invokevirtual 185, 3)) (kk : ∀ (H1 : Heap) (locs1 : List Loc), sv_cP D cI cN cQ n qc ad ((sv_cO σ n qc v).getD σ) H1 → va_S A H0 H1 locs1 → W p l e R s m args below meth c H1 locs1 cells slots Q (F0 m (pc + 3) ls (.int (sv_b (sv_cO σ n qc v).isSome) :: rest))) : W p l e R s m args below meth c H locs cells slots Q (F0 m pc ls (.ref (ad (2 + 3 * v)) :: .ref (ad 0) :: rest)) :=
  sv_wVi (S := Sg) (G := fun H => sv_cP D cI cN cQ n qc ad σ H) (B := fun u H => sv_cP D cI cN cQ n qc ad u H) X okS_S_confirmLeast (cS_m_confirmLeast hJ hA hn hI hv) hP (y_rec X.K hP (by omega) sv_ce_S rfl) hS hk rfl hl.1 rfl hcat hc hs hd (fun r u H1 locs1 hp hB hS => by obtain ⟨rfl, rfl⟩ := hp; exact kk H1 locs1 hB hS)
set_option maxHeartbeats 4000000 in
set_option maxRecDepth 100000 in
theorem wS_voteForCommit (X : sv_X D cI cZ cN cQ "SliceVoting" cS_voteForCommit 3 5 p R s m args c) (hP : sv_cP D cI cN cQ n qc ad σ H) (hJ : sv_inj (3 + 3 * n + qc) ad) (hA : ∀ k, k < (3 + 3 * n + qc) → A (ad k)) (hS : va_S A H0 H locs) {v : Nat} (hn : n ≤ 6) (hIS : sv_IS n σ) (hv : v < n) (hl : lv_has ls 3 [(0, .ref (ad (2 + 3 * v)))]) (ret : ∀ (pc : Nat) (ls : Array Slot) (H : Heap) (locs : List Loc), decode cS_voteForCommit pc = .ok (.ireturn, 1) → va_S A H0 H locs → sv_cP D cI cN cQ n qc ad ((sv_vO σ v).getD σ) H → W p l e R s m args below meth c H locs 0 0 Q (F0 m pc ls [.int (sv_b (sv_vO σ v).isSome)])) : W p l e R s m args below meth c H locs 0 0 Q (F0 m 0 ls []) := by
  have hx := X.1
  have hb := X.2.1
  obtain ⟨-, ⟨kq, hk4, e13⟩, ⟨xq, hx2, e14⟩, -⟩ := hIS.2 v hv
  have hbl := sv_bal_lt hIS hv
  refine lv_aload_n (i := 0) hx hb dS_voteForCommit_0 rfl (sv_at hl rfl) ?_
  refine gN_counter X hP (by omega) dS_voteForCommit_1 ?_
  refine lv_if_ne (tgt := 9) hx hb dS_voteForCommit_4 rfl (fun h4 => ?_) (fun h4 => ?_)
  · skip
    have hk0 : ¬ kq = 0 := fun q => h4 (by rw [e13, q]; rfl)
    refine lv_aload_n (i := 0) hx hb dS_voteForCommit_9 rfl (sv_at hl rfl) ?_
    refine gN_counter X hP (by omega) dS_voteForCommit_10 ?_
    refine lv_aload_n (i := 0) hx hb dS_voteForCommit_13 rfl (sv_at hl rfl) ?_
    refine gN_value X hP (by omega) dS_voteForCommit_14 ?_
    rw [e13, e14]
    refine kS_ballot X (by decide) (by omega) hl (Nat.zero_le _) (Nat.zero_le _) (Nat.le_of_ble_eq_true rfl) dS_voteForCommit_17 ?_
    refine lv_istore_n (i := 1) hx hb dS_voteForCommit_20 rfl hl (by decide) rfl (fun ls hl => ?_)
    refine lv_iload_n (i := 1) hx hb dS_voteForCommit_21 rfl (sv_at hl rfl) ?_
    refine kS_commitOf X (by decide)  hl (Nat.zero_le _) (Nat.zero_le _) (Nat.le_of_ble_eq_true rfl) dS_voteForCommit_22 ?_
    refine lv_istore_n (i := 2) hx hb dS_voteForCommit_25 rfl hl (by decide) rfl (fun ls hl => ?_)
    have hbe : 3 * (kq - 1) + xq = sv_bal σ v := by unfold sv_bal; rw [e13, e14, nI_clamp (by omega), nI_clamp (by omega)]
    rw [hbe] at hl
    refine lv_aload_n (i := 0) hx hb dS_voteForCommit_26 rfl (sv_at hl rfl) ?_
    refine gN_knownVotes X hP (by omega) dS_voteForCommit_27 ?_
    refine lv_aload_n (i := 0) hx hb dS_voteForCommit_30 rfl (sv_at hl rfl) ?_
    refine gN_number X hP (by omega) dS_voteForCommit_31 ?_
    refine gI_V X hP hn (by omega) (by omega) dS_voteForCommit_34 ?_
    refine lv_iload_n (i := 2) hx hb dS_voteForCommit_35 rfl (sv_at hl rfl) ?_
    refine kS_has X (by decide) (by omega) hl (Nat.zero_le _) (Nat.zero_le _) (Nat.le_of_ble_eq_true rfl) dS_voteForCommit_36 ?_
    refine x_ifneB (tgt := 65) hx hb dS_voteForCommit_39 rfl (fun h39 => ?_) (fun h39 => ?_)
    · skip
      rw [sv_kv_self] at h39
      refine lv_iconst (v := 0) hx hb dS_voteForCommit_65 (by decide) ?_
      first | exact x_tv (by rw [sv_vO_y (by rw [e13, nI_clamp (by omega)]; omega) h39 h50 h58]; rfl) (ret _ _ _ _ dS_voteForCommit_66 hS (by rw [sv_vO_y (by rw [e13, nI_clamp (by omega)]; omega) h39 h50 h58]; exact hP)) | exact x_tv (by rw [sv_vO_3 h58]; rfl) (ret _ _ _ _ dS_voteForCommit_66 hS (by rw [sv_vO_3 h58]; rw [sv_vS_n h58] at hP; exact hP)) | exact x_tv (by rw [sv_vO_2 h50]; rfl) (ret _ _ _ _ dS_voteForCommit_66 hS (by rw [sv_vO_2 h50]; exact hP)) | exact x_tv (by rw [sv_vO_1 h39]; rfl) (ret _ _ _ _ dS_voteForCommit_66 hS (by rw [sv_vO_1 h39]; exact hP)) | exact x_tv (by rw [sv_vO_0 h4]; rfl) (ret _ _ _ _ dS_voteForCommit_66 hS (by rw [sv_vO_0 h4]; exact hP))
    · skip
      rw [sv_kv_self] at h39
      refine lv_aload_n (i := 0) hx hb dS_voteForCommit_42 rfl (sv_at hl rfl) ?_
      refine gN_confirmed X hP (by omega) dS_voteForCommit_43 ?_
      refine lv_iload_n (i := 1) hx hb dS_voteForCommit_46 rfl (sv_at hl rfl) ?_
      refine kS_has X (by decide) (by omega) hl (Nat.zero_le _) (Nat.zero_le _) (Nat.le_of_ble_eq_true rfl) dS_voteForCommit_47 ?_
      refine x_ifeqB (tgt := 65) hx hb dS_voteForCommit_50 rfl (fun h50 => ?_) (fun h50 => ?_)
      · skip
        refine lv_iconst (v := 0) hx hb dS_voteForCommit_65 (by decide) ?_
        first | exact x_tv (by rw [sv_vO_y (by rw [e13, nI_clamp (by omega)]; omega) h39 h50 h58]; rfl) (ret _ _ _ _ dS_voteForCommit_66 hS (by rw [sv_vO_y (by rw [e13, nI_clamp (by omega)]; omega) h39 h50 h58]; exact hP)) | exact x_tv (by rw [sv_vO_3 h58]; rfl) (ret _ _ _ _ dS_voteForCommit_66 hS (by rw [sv_vO_3 h58]; rw [sv_vS_n h58] at hP; exact hP)) | exact x_tv (by rw [sv_vO_2 h50]; rfl) (ret _ _ _ _ dS_voteForCommit_66 hS (by rw [sv_vO_2 h50]; exact hP)) | exact x_tv (by rw [sv_vO_1 h39]; rfl) (ret _ _ _ _ dS_voteForCommit_66 hS (by rw [sv_vO_1 h39]; exact hP)) | exact x_tv (by rw [sv_vO_0 h4]; rfl) (ret _ _ _ _ dS_voteForCommit_66 hS (by rw [sv_vO_0 h4]; exact hP))
      · skip
        refine lv_aload_n (i := 0) hx hb dS_voteForCommit_53 rfl (sv_at hl rfl) ?_
        refine lv_iload_n (i := 2) hx hb dS_voteForCommit_54 rfl (sv_at hl rfl) ?_
        refine kS_voteIfAllowed X (by decide) hP hJ hA hS hn (by omega) (by omega) hl (Nat.zero_le _) (Nat.zero_le _) (Nat.le_of_ble_eq_true rfl) dS_voteForCommit_55 (fun H locs hP hS => ?_)
        refine x_ifeqB (tgt := 65) hx hb dS_voteForCommit_58 rfl (fun h58 => ?_) (fun h58 => ?_)
        · skip
          refine lv_iconst (v := 0) hx hb dS_voteForCommit_65 (by decide) ?_
          first | exact x_tv (by rw [sv_vO_y (by rw [e13, nI_clamp (by omega)]; omega) h39 h50 h58]; rfl) (ret _ _ _ _ dS_voteForCommit_66 hS (by rw [sv_vO_y (by rw [e13, nI_clamp (by omega)]; omega) h39 h50 h58]; exact hP)) | exact x_tv (by rw [sv_vO_3 h58]; rfl) (ret _ _ _ _ dS_voteForCommit_66 hS (by rw [sv_vO_3 h58]; rw [sv_vS_n h58] at hP; exact hP)) | exact x_tv (by rw [sv_vO_2 h50]; rfl) (ret _ _ _ _ dS_voteForCommit_66 hS (by rw [sv_vO_2 h50]; exact hP)) | exact x_tv (by rw [sv_vO_1 h39]; rfl) (ret _ _ _ _ dS_voteForCommit_66 hS (by rw [sv_vO_1 h39]; exact hP)) | exact x_tv (by rw [sv_vO_0 h4]; rfl) (ret _ _ _ _ dS_voteForCommit_66 hS (by rw [sv_vO_0 h4]; exact hP))
        · skip
          refine lv_iconst (v := 1) hx hb dS_voteForCommit_61 (by decide) ?_
          refine lv_goto (tgt := 66) hx hb dS_voteForCommit_62 rfl ?_
          first | exact x_tv (by rw [sv_vO_y (by rw [e13, nI_clamp (by omega)]; omega) h39 h50 h58]; rfl) (ret _ _ _ _ dS_voteForCommit_66 hS (by rw [sv_vO_y (by rw [e13, nI_clamp (by omega)]; omega) h39 h50 h58]; exact hP)) | exact x_tv (by rw [sv_vO_3 h58]; rfl) (ret _ _ _ _ dS_voteForCommit_66 hS (by rw [sv_vO_3 h58]; rw [sv_vS_n h58] at hP; exact hP)) | exact x_tv (by rw [sv_vO_2 h50]; rfl) (ret _ _ _ _ dS_voteForCommit_66 hS (by rw [sv_vO_2 h50]; exact hP)) | exact x_tv (by rw [sv_vO_1 h39]; rfl) (ret _ _ _ _ dS_voteForCommit_66 hS (by rw [sv_vO_1 h39]; exact hP)) | exact x_tv (by rw [sv_vO_0 h4]; rfl) (ret _ _ _ _ dS_voteForCommit_66 hS (by rw [sv_vO_0 h4]; exact hP))
  · skip
    refine lv_iconst (v := 0) hx hb dS_voteForCommit_7 (by decide) ?_
    first | exact x_tv (by rw [sv_vO_y (by rw [e13, nI_clamp (by omega)]; omega) h39 h50 h58]; rfl) (ret _ _ _ _ dS_voteForCommit_8 hS (by rw [sv_vO_y (by rw [e13, nI_clamp (by omega)]; omega) h39 h50 h58]; exact hP)) | exact x_tv (by rw [sv_vO_3 h58]; rfl) (ret _ _ _ _ dS_voteForCommit_8 hS (by rw [sv_vO_3 h58]; rw [sv_vS_n h58] at hP; exact hP)) | exact x_tv (by rw [sv_vO_2 h50]; rfl) (ret _ _ _ _ dS_voteForCommit_8 hS (by rw [sv_vO_2 h50]; exact hP)) | exact x_tv (by rw [sv_vO_1 h39]; rfl) (ret _ _ _ _ dS_voteForCommit_8 hS (by rw [sv_vO_1 h39]; exact hP)) | exact x_tv (by rw [sv_vO_0 h4]; rfl) (ret _ _ _ _ dS_voteForCommit_8 hS (by rw [sv_vO_0 h4]; exact hP))

theorem cS_m_voteForCommit (hJ : sv_inj (3 + 3 * n + qc) ad) (hA : ∀ k, k < (3 + 3 * n + qc) → A (ad k)) {v : Nat} (hn : n ≤ 6) (hIS : sv_IS n σ) (hv : v < n) : Met l yS_voteForCommit (sv_ws yS_voteForCommit cS_voteForCommit 3 (some .boolean)) (sv_rm 5) (sv_Pc D cI cZ cN cQ [.ref (ad (2 + 3 * v))] (fun H => sv_cP D cI cN cQ n qc ad σ H)) (va_Qi (fun r u => r = sv_b (sv_vO σ v).isSome ∧ u = (sv_vO σ v).getD σ) (fun u t => sv_cP D cI cN cQ n qc ad u t.heap) A) 0 0 A :=
  sv_mkI (S := Sg) (B := fun u H => sv_cP D cI cN cQ n qc ad u H) (by decide) (by show 1 ≤ 3; decide) (fun _ _ h => by rw [h.1]; exact sv_narb _) (fun p e s m below meth c ls Q X hP hl ret => wS_voteForCommit X hP hJ hA va_S.rf hn hIS hv hl (fun pc ls H locs hd hS hP => ret pc ls _ _ H locs hd hS ⟨rfl, rfl⟩ hP))
theorem okS_S_voteForCommit : sv_okS "SliceVoting" 188 yS_voteForCommit cS_voteForCommit 3 (some .boolean) 1 := ⟨sv_tb_t 233 rfl rfl, sv_tb_t 231 rfl rfl, sv_tb_t 232 rfl rfl, sv_tb_t 1 rfl rfl, ⟨by decide, by decide, by decide +kernel⟩, by decide⟩
theorem kS_voteForCommit (X : sv_X D cI cZ cN cQ "SliceVoting" cc nL k p R s m args c) (hk : 5 + 1 ≤ k) (hP : sv_cP D cI cN cQ n qc ad σ H) (hJ : sv_inj (3 + 3 * n + qc) ad) (hA : ∀ k, k < (3 + 3 * n + qc) → A (ad k)) (hS : va_S A H0 H locs) {v : Nat} (hn : n ≤ 6) (hIS : sv_IS n σ) (hv : v < n) (hl : lv_has ls nL lv) (hc : cells ≤ R.cells) (hs : slots ≤ R.slots) (hcat : (rest.map fun v => v.category).sum ≤ 8) (hd : decode cc pc = .ok (.invokestatic 188, 3)) (kk : ∀ (H1 : Heap) (locs1 : List Loc), sv_cP D cI cN cQ n qc ad ((sv_vO σ v).getD σ) H1 → va_S A H0 H1 locs1 → W p l e R s m args below meth c H1 locs1 cells slots Q (F0 m (pc + 3) ls (.int (sv_b (sv_vO σ v).isSome) :: rest))) : W p l e R s m args below meth c H locs cells slots Q (F0 m pc ls (.ref (ad (2 + 3 * v)) :: rest)) :=
  sv_wSi (S := Sg) (G := fun H => sv_cP D cI cN cQ n qc ad σ H) (B := fun u H => sv_cP D cI cN cQ n qc ad u H) X okS_S_voteForCommit (cS_m_voteForCommit hJ hA hn hIS hv) hP hS hk rfl hl.1 rfl hcat hc hs hd (fun r u H1 locs1 hp hB hS => by obtain ⟨rfl, rfl⟩ := hp; exact kk H1 locs1 hB hS)
end SvVotes
end
section
section SvMoves
variable {p : Program} {l : Launch} {e : Env} {R : Room} {s : State} {m : MethodId} {args : Array Value} {below : List Frame} {meth : Method} {c : Code} {H H0 : Heap} {locs : List Loc} {cells slots : Nat} {Q : State → Prop}
variable {cc : ByteArray} {pc nL k : Nat} {ls : Array Slot} {lv : List (Nat × Value)} {rest : List Value} {D : va_G} {cI cZ cN cQ : ClassId} {n qc : Nat} {ad : Nat → Nat} {σ : Sg} {A : Nat → Prop} {mt qm : Nat → Int32}
set_option maxHeartbeats 4000000 in
set_option maxRecDepth 100000 in
theorem wS_settle (X : sv_X D cI cZ cN cQ "SliceVoting" cS_settle 3 9 p R s m args c) (hP : sv_cP D cI cN cQ n qc ad σ H) (hJ : sv_inj (3 + 3 * n + qc) ad) (hA : ∀ k, k < (3 + 3 * n + qc) → A (ad k)) (hS : va_S A H0 H locs) {v : Nat} (hn : n ≤ 6) (hI : sv_IQ n qc σ) (hIS : sv_IS n σ) (hv : v < n) (hl : lv_has ls 3 [(0, .ref (ad 0)), (1, .ref (ad (2 + 3 * v)))]) (ret : ∀ (pc : Nat) (ls : Array Slot) (H : Heap) (locs : List Loc), decode cS_settle pc = .ok (.return_, 1) → va_S A H0 H locs → sv_cP D cI cN cQ n qc ad (sv_set n qc v 49 σ) H → W p l e R s m args below meth c H locs 0 0 Q (F0 m pc ls [])) : W p l e R s m args below meth c H locs 0 0 Q (F0 m 0 ls []) := by
  have hx := X.1
  have hb := X.2.1
  have J2 : ∀ (kf : Nat) (i : Nat) (τ : Sg) (H : Heap) (locs : List Loc) (ls : Array Slot), 49 - i < kf → (i ≤ 49) → (sv_set n qc v (49 - i) τ = sv_set n qc v 49 σ) → (sv_IQ n qc τ) → (sv_IS n τ) → (sv_cP D cI cN cQ n qc ad τ H) → (va_S A H0 H locs) → lv_has ls 3 [(0, .ref (ad 0)), (1, .ref (ad (2 + 3 * v))), (2, .int (nI i))] → W p l e R s m args below meth c H locs 0 0 Q (F0 m 2 ls []) := by
    intro kf
    induction kf with
    | zero => intro i τ H locs ls hm; exact absurd hm (Nat.not_lt_zero _)
    | succ kf ih =>
      intro i τ H locs ls hm hi he hQ hT hP hS hl
      refine lv_iload_n (i := 2) hx hb dS_settle_2 rfl (sv_at hl rfl) ?_
      refine lv_bipush (v := nI 49) hx hb dS_settle_3 (by decide) ?_
      refine lv_icmp_ge (tgt := 38) hx hb dS_settle_5 rfl (fun h5 => ?_) (fun h5 => ?_)
      · skip
        rw [nI_leI (by omega) (by omega)] at h5
        exact ret _ _ _ _ dS_settle_38 hS (by rw [← he, show 49 - i = 0 by omega]; exact hP)
      · skip
        rw [nI_leI (by omega) (by omega)] at h5
        refine lv_aload_n (i := 0) hx hb dS_settle_8 rfl (sv_at hl rfl) ?_
        refine lv_aload_n (i := 1) hx hb dS_settle_9 rfl (sv_at hl rfl) ?_
        refine kS_acceptLeast X (by decide) hP hJ hA hS hn hQ hv hl (Nat.zero_le _) (Nat.zero_le _) (Nat.le_of_ble_eq_true rfl) dS_settle_10 (fun H locs hP hS => ?_)
        refine x_ifneB (tgt := 32) hx hb dS_settle_13 rfl (fun h13 => ?_) (fun h13 => ?_)
        · skip
          obtain ⟨τ1, e1⟩ := sv_isSome_t h13
          rw [e1] at hP
          simp only [Option.getD_some] at hP
          have est := sv_step_a e1
          refine x_iinc (i := 2) hx hb dS_settle_32 hl rfl (sv_inc i) (by decide) (fun ls hl => ?_)
          refine lv_goto (tgt := 2) hx hb dS_settle_35 rfl ?_
          exact ih (i + 1) τ1 H locs ls (by omega) (by omega) (by rw [← he, show 49 - i = 49 - (i + 1) + 1 by omega, sv_set_s est]) (sv_IQ_cg (sv_step_ok hT est).2 hQ) (sv_step_ok hT est).1 hP hS (sv_re hl ⟨rfl, rfl, rfl, trivial⟩)
        · skip
          have e1 := sv_isSome_f h13
          rw [e1] at hP
          simp only [Option.getD_none] at hP
          refine lv_aload_n (i := 0) hx hb dS_settle_16 rfl (sv_at hl rfl) ?_
          refine lv_aload_n (i := 1) hx hb dS_settle_17 rfl (sv_at hl rfl) ?_
          refine kS_confirmLeast X (by decide) hP hJ hA hS hn hQ hv hl (Nat.zero_le _) (Nat.zero_le _) (Nat.le_of_ble_eq_true rfl) dS_settle_18 (fun H locs hP hS => ?_)
          refine x_ifneB (tgt := 32) hx hb dS_settle_21 rfl (fun h21 => ?_) (fun h21 => ?_)
          · skip
            obtain ⟨τ1, e2⟩ := sv_isSome_t h21
            rw [e2] at hP
            simp only [Option.getD_some] at hP
            have est := sv_step_c e1 e2
            refine x_iinc (i := 2) hx hb dS_settle_32 hl rfl (sv_inc i) (by decide) (fun ls hl => ?_)
            refine lv_goto (tgt := 2) hx hb dS_settle_35 rfl ?_
            exact ih (i + 1) τ1 H locs ls (by omega) (by omega) (by rw [← he, show 49 - i = 49 - (i + 1) + 1 by omega, sv_set_s est]) (sv_IQ_cg (sv_step_ok hT est).2 hQ) (sv_step_ok hT est).1 hP hS (sv_re hl ⟨rfl, rfl, rfl, trivial⟩)
          · skip
            have e2 := sv_isSome_f h21
            rw [e2] at hP
            simp only [Option.getD_none] at hP
            refine lv_aload_n (i := 1) hx hb dS_settle_24 rfl (sv_at hl rfl) ?_
            refine kS_voteForCommit X (by decide) hP hJ hA hS hn hT hv hl (Nat.zero_le _) (Nat.zero_le _) (Nat.le_of_ble_eq_true rfl) dS_settle_25 (fun H locs hP hS => ?_)
            refine x_ifneB (tgt := 32) hx hb dS_settle_28 rfl (fun h28 => ?_) (fun h28 => ?_)
            · skip
              obtain ⟨τ1, e3⟩ := sv_isSome_t h28
              rw [e3] at hP
              simp only [Option.getD_some] at hP
              have est := (sv_step_v e1 e2).trans e3
              refine x_iinc (i := 2) hx hb dS_settle_32 hl rfl (sv_inc i) (by decide) (fun ls hl => ?_)
              refine lv_goto (tgt := 2) hx hb dS_settle_35 rfl ?_
              exact ih (i + 1) τ1 H locs ls (by omega) (by omega) (by rw [← he, show 49 - i = 49 - (i + 1) + 1 by omega, sv_set_s est]) (sv_IQ_cg (sv_step_ok hT est).2 hQ) (sv_step_ok hT est).1 hP hS (sv_re hl ⟨rfl, rfl, rfl, trivial⟩)
            · skip
              have e3 := sv_isSome_f h28
              rw [e3] at hP
              simp only [Option.getD_none] at hP
              have est := (sv_step_v e1 e2).trans e3
              exact ret _ _ _ _ dS_settle_31 hS (by rw [← he, show 49 - i = 49 - (i + 1) + 1 by omega, sv_set_n est]; exact hP)
  refine lv_iconst (v := 0) hx hb dS_settle_0 (by decide) ?_
  refine lv_istore_n (i := 2) hx hb dS_settle_1 rfl hl (by decide) rfl (fun ls hl => ?_)
  exact J2 _ 0 σ H locs ls (Nat.lt_succ_self _) (Nat.zero_le _) rfl hI hIS hP hS (sv_re hl ⟨rfl, rfl, rfl, trivial⟩)

theorem cS_m_settle (hJ : sv_inj (3 + 3 * n + qc) ad) (hA : ∀ k, k < (3 + 3 * n + qc) → A (ad k)) {v : Nat} (hn : n ≤ 6) (hI : sv_IQ n qc σ) (hIS : sv_IS n σ) (hv : v < n) : Met l yS_settle (sv_ws yS_settle cS_settle 3 none) (sv_rm 9) (sv_Pc D cI cZ cN cQ [.ref (ad 0), .ref (ad (2 + 3 * v))] (fun H => sv_cP D cI cN cQ n qc ad σ H)) (va_Qv (fun u => u = sv_set n qc v 49 σ) (fun u t => sv_cP D cI cN cQ n qc ad u t.heap) A) 0 0 A :=
  sv_mkV (S := Sg) (B := fun u H => sv_cP D cI cN cQ n qc ad u H) (by decide) (by show 2 ≤ 3; decide) (fun p e s m below meth c ls Q X hP hl ret => wS_settle X hP hJ hA va_S.rf hn hI hIS hv hl (fun pc ls H locs hd hS hP => ret pc ls _ H locs hd hS rfl hP))
theorem okS_S_settle : sv_okV "SliceVoting" 89 yS_settle cS_settle 3 none 1 := ⟨sv_tb_t 187 rfl rfl, sv_tb_t 184 rfl rfl, sv_tb_t 186 rfl rfl, sv_tb_s 6 rfl rfl, sv_tb_t 1 rfl rfl, ⟨by decide, by decide, by decide +kernel⟩, by decide⟩
theorem kS_settle (X : sv_X D cI cZ cN cQ "SliceVoting" cc nL k p R s m args c) (hk : 9 + 1 ≤ k) (hP : sv_cP D cI cN cQ n qc ad σ H) (hJ : sv_inj (3 + 3 * n + qc) ad) (hA : ∀ k, k < (3 + 3 * n + qc) → A (ad k)) (hS : va_S A H0 H locs) {v : Nat} (hn : n ≤ 6) (hI : sv_IQ n qc σ) (hIS : sv_IS n σ) (hv : v < n) (hl : lv_has ls nL lv) (hc : cells ≤ R.cells) (hs : slots ≤ R.slots) (hcat : (rest.map fun v => v.category).sum ≤ 8) (hd : decode cc pc = .ok (.invokevirtual 89, 3)) (kk : ∀ (H1 : Heap) (locs1 : List Loc), sv_cP D cI cN cQ n qc ad (sv_set n qc v 49 σ) H1 → va_S A H0 H1 locs1 → W p l e R s m args below meth c H1 locs1 cells slots Q (F0 m (pc + 3) ls rest)) : W p l e R s m args below meth c H locs cells slots Q (F0 m pc ls (.ref (ad (2 + 3 * v)) :: .ref (ad 0) :: rest)) :=
  sv_wVv (S := Sg) (G := fun H => sv_cP D cI cN cQ n qc ad σ H) (B := fun u H => sv_cP D cI cN cQ n qc ad u H) X okS_S_settle (cS_m_settle hJ hA hn hI hIS hv) hP (y_rec X.K hP (by omega) sv_ce_S rfl) hS hk rfl hl.1 rfl hcat hc hs hd (fun u H1 locs1 hp hB hS => by subst hp; exact kk H1 locs1 hB hS)
set_option maxHeartbeats 4000000 in
set_option maxRecDepth 100000 in
theorem wS_corrupt (X : sv_X D cI cZ cN cQ "SliceVoting" cS_corrupt 2 3 p R s m args c) (hP : sv_cP D cI cN cQ n qc ad σ H) (hJ : sv_inj (3 + 3 * n + qc) ad) (hA : ∀ k, k < (3 + 3 * n + qc) → A (ad k)) (hS : va_S A H0 H locs) {v : Int32} (hn : n ≤ 6) (hl : lv_has ls 2 [(0, .ref (ad 0)), (1, .int v)]) (ret : ∀ (pc : Nat) (ls : Array Slot) (H : Heap) (locs : List Loc), decode cS_corrupt pc = .ok (.ireturn, 1) → va_S A H0 H locs → sv_cP D cI cN cQ n qc ad ((bif sv_wel n σ v then sg σ 9 v.toNatClampNeg 1 else σ)) H → W p l e R s m args below meth c H locs 0 0 Q (F0 m pc ls [.int (sv_b (sv_wel n σ v))])) : W p l e R s m args below meth c H locs 0 0 Q (F0 m 0 ls []) := by
  have hx := X.1
  have hb := X.2.1
  refine lv_aload_n (i := 0) hx hb dS_corrupt_0 rfl (sv_at hl rfl) ?_
  refine lv_iload_n (i := 1) hx hb dS_corrupt_1 rfl (sv_at hl rfl) ?_
  refine kS_isWellBehaved X (by decide) hP hn hl (Nat.zero_le _) (Nat.zero_le _) (Nat.le_of_ble_eq_true rfl) dS_corrupt_2 ?_
  refine x_ifneB (tgt := 10) hx hb dS_corrupt_5 rfl (fun h5 => ?_) (fun h5 => ?_)
  · skip
    obtain ⟨j, hj, rfl, hj9⟩ := sv_wel_t (by omega) h5
    refine lv_aload_n (i := 0) hx hb dS_corrupt_10 rfl (sv_at hl rfl) ?_
    refine lv_dup hx hb dS_corrupt_11 rfl ?_
    refine gS_wellBehaved X hP dS_corrupt_12 ?_
    refine lv_iconst (v := 1) hx hb dS_corrupt_15 (by decide) ?_
    refine lv_iload_n (i := 1) hx hb dS_corrupt_16 rfl (sv_at hl rfl) ?_
    refine lv_ishl hx hb dS_corrupt_17 ?_
    refine lv_iconst (v := -1) hx hb dS_corrupt_18 (by decide) ?_
    refine lv_ixor hx hb dS_corrupt_19 ?_
    refine lv_iand hx hb dS_corrupt_20 ?_
    refine x_tv (y := nI (sv_wbN (sg σ 9 j 1) n)) (sv_wb_ill hn hj) ?_
    refine pS_wellBehaved X hP hJ hA hS dS_corrupt_21 (fun H locs hP hS => ?_)
    refine lv_iconst (v := 1) hx hb dS_corrupt_24 (by decide) ?_
    exact x_tv (by rw [h5]; rfl) (ret _ _ _ _ dS_corrupt_25 hS (by rw [h5]; first | exact hP | (rw [nI_clamp (by omega)]; exact hP)))
  · skip
    refine lv_iconst (v := 0) hx hb dS_corrupt_8 (by decide) ?_
    exact x_tv (by rw [h5]; rfl) (ret _ _ _ _ dS_corrupt_9 hS (by rw [h5]; first | exact hP | (rw [nI_clamp (by omega)]; exact hP)))

theorem cS_m_corrupt (hJ : sv_inj (3 + 3 * n + qc) ad) (hA : ∀ k, k < (3 + 3 * n + qc) → A (ad k)) {v : Int32} (hn : n ≤ 6) : Met l yS_corrupt (sv_ws yS_corrupt cS_corrupt 2 (some .boolean)) (sv_rm 3) (sv_Pc D cI cZ cN cQ [.ref (ad 0), .int v] (fun H => sv_cP D cI cN cQ n qc ad σ H)) (va_Qi (fun r u => r = sv_b (sv_wel n σ v) ∧ u = (bif sv_wel n σ v then sg σ 9 v.toNatClampNeg 1 else σ)) (fun u t => sv_cP D cI cN cQ n qc ad u t.heap) A) 0 0 A :=
  sv_mkI (S := Sg) (B := fun u H => sv_cP D cI cN cQ n qc ad u H) (by decide) (by show 2 ≤ 2; decide) (fun _ _ h => by rw [h.1]; exact sv_narb _) (fun p e s m below meth c ls Q X hP hl ret => wS_corrupt X hP hJ hA va_S.rf hn hl (fun pc ls H locs hd hS hP => ret pc ls _ _ H locs hd hS ⟨rfl, rfl⟩ hP))
theorem okL_S_corrupt : sv_okV "SliceVotingLaw" 31 yS_corrupt cS_corrupt 2 (some .boolean) 1 := ⟨sv_tb_t 151 rfl rfl, sv_tb_t 148 rfl rfl, sv_tb_t 149 rfl rfl, sv_tb_t 150 rfl rfl, sv_tb_t 1 rfl rfl, ⟨by decide, by decide, by decide +kernel⟩, by decide⟩
theorem kL_corrupt (X : sv_X D cI cZ cN cQ "SliceVotingLaw" cc nL k p R s m args c) (hk : 3 + 1 ≤ k) (hP : sv_cP D cI cN cQ n qc ad σ H) (hJ : sv_inj (3 + 3 * n + qc) ad) (hA : ∀ k, k < (3 + 3 * n + qc) → A (ad k)) (hS : va_S A H0 H locs) {v : Int32} (hn : n ≤ 6) (hl : lv_has ls nL lv) (hc : cells ≤ R.cells) (hs : slots ≤ R.slots) (hcat : (rest.map fun v => v.category).sum ≤ 8) (hd : decode cc pc = .ok (.invokevirtual 31, 3)) (kk : ∀ (H1 : Heap) (locs1 : List Loc), sv_cP D cI cN cQ n qc ad ((bif sv_wel n σ v then sg σ 9 v.toNatClampNeg 1 else σ)) H1 → va_S A H0 H1 locs1 → W p l e R s m args below meth c H1 locs1 cells slots Q (F0 m (pc + 3) ls (.int (sv_b (sv_wel n σ v)) :: rest))) : W p l e R s m args below meth c H locs cells slots Q (F0 m pc ls (.int v :: .ref (ad 0) :: rest)) :=
  sv_wVi (S := Sg) (G := fun H => sv_cP D cI cN cQ n qc ad σ H) (B := fun u H => sv_cP D cI cN cQ n qc ad u H) X okL_S_corrupt (cS_m_corrupt hJ hA hn) hP (y_rec X.K hP (by omega) sv_ce_S rfl) hS hk rfl hl.1 rfl hcat hc hs hd (fun r u H1 locs1 hp hB hS => by obtain ⟨rfl, rfl⟩ := hp; exact kk H1 locs1 hB hS)
theorem sv_her_eq {σ : Sg} {v w : Nat} {x y : Int32} (h : w ≠ v) : sv_her σ v w x y = sg (sg (sg σ 1 0 1) 16 (6 * v + w) x) 17 (6 * v + w) y := by
  unfold sv_her sv_tv sv_ta sv_tp
  rw [if_neg h, if_neg h, if_neg h]
theorem sv_IS_1 {n : Nat} {σ : Sg} (h : sv_IS n σ) : sv_IS n (sg σ 1 0 1) := by
  refine ⟨⟨true, by rw [sg_at]; rfl⟩, ?_⟩
  rw [sg_ne σ 0 1 (by decide : (9 : Nat) ≠ 1), sg_ne σ 0 1 (by decide : (11 : Nat) ≠ 1), sg_ne σ 0 1 (by decide : (13 : Nat) ≠ 1), sg_ne σ 0 1 (by decide : (14 : Nat) ≠ 1)]
  exact h.2
theorem sv_her_ok {σ : Sg} {n qc v w : Nat} {x y : Int32} (h : w ≠ v) (hI : sv_IQ n qc σ) (hS : sv_IS n σ) : sv_IQ n qc (sv_her σ v w x y) ∧ sv_IS n (sv_her σ v w x y) := by
  rw [sv_her_eq h]
  exact ⟨sv_IQ_cg (sv_eqQ_tr (sv_eqQ_tr (sv_eqQ_sg (Or.inl (by decide))) (sv_eqQ_sg (Or.inr (by decide)))) (sv_eqQ_sg (Or.inr (by decide)))) hI,
    sv_IS_sg (sv_IS_sg (sv_IS_1 hS) _ (by decide) (by decide) (by decide) (by decide) (by decide)) _ (by decide) (by decide) (by decide) (by decide) (by decide)⟩
def sv_dlC (n : Nat) (σ : Sg) (v w : Int32) : Bool := sv_wel n σ v && (sv_wel n σ w && decide (¬ v = w))
def sv_dlS (n qc : Nat) (σ : Sg) (v w : Int32) : Sg := bif sv_dlC n σ v w then sv_set n qc w.toNatClampNeg 49 (sv_her σ w.toNatClampNeg v.toNatClampNeg (σ 10 v.toNatClampNeg) (σ 11 v.toNatClampNeg)) else σ
def sv_syC (n : Nat) (σ : Sg) (v w : Int32) : Bool := sv_isn n v && (!sv_wel n σ v && sv_wel n σ w)
def sv_syS (n qc : Nat) (σ : Sg) (v w x y : Int32) : Sg := bif sv_syC n σ v w then sv_set n qc w.toNatClampNeg 49 (sv_her σ w.toNatClampNeg v.toNatClampNeg (x &&& 16777215) (y &&& 16777215)) else σ
set_option maxHeartbeats 4000000 in
set_option maxRecDepth 100000 in
theorem wS_deliver (X : sv_X D cI cZ cN cQ "SliceVoting" cS_deliver 3 10 p R s m args c) (hP : sv_cP D cI cN cQ n qc ad σ H) (hJ : sv_inj (3 + 3 * n + qc) ad) (hA : ∀ k, k < (3 + 3 * n + qc) → A (ad k)) (hS : va_S A H0 H locs) {v w : Int32} (hn : n ≤ 6) (hI : sv_IQ n qc σ) (hIS : sv_IS n σ) (hl : lv_has ls 3 [(0, .ref (ad 0)), (1, .int v), (2, .int w)]) (ret : ∀ (pc : Nat) (ls : Array Slot) (H : Heap) (locs : List Loc), decode cS_deliver pc = .ok (.ireturn, 1) → va_S A H0 H locs → sv_cP D cI cN cQ n qc ad (sv_dlS n qc σ v w) H → W p l e R s m args below meth c H locs 0 0 Q (F0 m pc ls [.int (sv_b (sv_dlC n σ v w))])) : W p l e R s m args below meth c H locs 0 0 Q (F0 m 0 ls []) := by
  have hx := X.1
  have hb := X.2.1
  refine lv_aload_n (i := 0) hx hb dS_deliver_0 rfl (sv_at hl rfl) ?_
  refine lv_iload_n (i := 1) hx hb dS_deliver_1 rfl (sv_at hl rfl) ?_
  refine kS_isWellBehaved X (by decide) hP hn hl (Nat.zero_le _) (Nat.zero_le _) (Nat.le_of_ble_eq_true rfl) dS_deliver_2 ?_
  refine x_ifeqB (tgt := 21) hx hb dS_deliver_5 rfl (fun h5 => ?_) (fun h5 => ?_)
  · skip
    refine lv_iconst (v := 0) hx hb dS_deliver_21 (by decide) ?_
    first | exact x_tv (by unfold sv_dlC; rw [h18, decide_eq_false (fun q => q rfl), Bool.and_false, Bool.and_false]; rfl) (ret _ _ _ _ dS_deliver_22 hS (by unfold sv_dlS sv_dlC; rw [h18, decide_eq_false (fun q => q rfl), Bool.and_false, Bool.and_false]; exact hP)) | exact x_tv (by unfold sv_dlC; rw [h13, Bool.false_and, Bool.and_false]; rfl) (ret _ _ _ _ dS_deliver_22 hS (by unfold sv_dlS sv_dlC; rw [h13, Bool.false_and, Bool.and_false]; exact hP)) | exact x_tv (by unfold sv_dlC; rw [h5]; rfl) (ret _ _ _ _ dS_deliver_22 hS (by unfold sv_dlS sv_dlC; rw [h5]; exact hP))
  · skip
    refine lv_aload_n (i := 0) hx hb dS_deliver_8 rfl (sv_at hl rfl) ?_
    refine lv_iload_n (i := 2) hx hb dS_deliver_9 rfl (sv_at hl rfl) ?_
    refine kS_isWellBehaved X (by decide) hP hn hl (Nat.zero_le _) (Nat.zero_le _) (Nat.le_of_ble_eq_true rfl) dS_deliver_10 ?_
    refine x_ifeqB (tgt := 21) hx hb dS_deliver_13 rfl (fun h13 => ?_) (fun h13 => ?_)
    · skip
      refine lv_iconst (v := 0) hx hb dS_deliver_21 (by decide) ?_
      first | exact x_tv (by unfold sv_dlC; rw [h18, decide_eq_false (fun q => q rfl), Bool.and_false, Bool.and_false]; rfl) (ret _ _ _ _ dS_deliver_22 hS (by unfold sv_dlS sv_dlC; rw [h18, decide_eq_false (fun q => q rfl), Bool.and_false, Bool.and_false]; exact hP)) | exact x_tv (by unfold sv_dlC; rw [h13, Bool.false_and, Bool.and_false]; rfl) (ret _ _ _ _ dS_deliver_22 hS (by unfold sv_dlS sv_dlC; rw [h13, Bool.false_and, Bool.and_false]; exact hP)) | exact x_tv (by unfold sv_dlC; rw [h5]; rfl) (ret _ _ _ _ dS_deliver_22 hS (by unfold sv_dlS sv_dlC; rw [h5]; exact hP))
    · skip
      refine lv_iload_n (i := 1) hx hb dS_deliver_16 rfl (sv_at hl rfl) ?_
      refine lv_iload_n (i := 2) hx hb dS_deliver_17 rfl (sv_at hl rfl) ?_
      refine lv_icmp_ne (tgt := 23) hx hb dS_deliver_18 rfl (fun h18 => ?_) (fun h18 => ?_)
      · skip
        obtain ⟨a, ha, rfl, ha9⟩ := sv_wel_t (by omega) h5
        obtain ⟨b, hb9, rfl, hb0⟩ := sv_wel_t (by omega) h13
        have hab : a ≠ b := fun q => h18 (by rw [q])
        refine lv_aload_n (i := 0) hx hb dS_deliver_23 rfl (sv_at hl rfl) ?_
        refine lv_aload_n (i := 0) hx hb dS_deliver_24 rfl (sv_at hl rfl) ?_
        refine gS_nodes X hP dS_deliver_25 ?_
        refine lv_iload_n (i := 2) hx hb dS_deliver_28 rfl (sv_at hl rfl) ?_
        refine gA_nodes X hP hn (by omega) dS_deliver_29 ?_
        refine lv_iload_n (i := 1) hx hb dS_deliver_30 rfl (sv_at hl rfl) ?_
        refine lv_aload_n (i := 0) hx hb dS_deliver_31 rfl (sv_at hl rfl) ?_
        refine gS_nodes X hP dS_deliver_32 ?_
        refine lv_iload_n (i := 1) hx hb dS_deliver_35 rfl (sv_at hl rfl) ?_
        refine gA_nodes X hP hn (by omega) dS_deliver_36 ?_
        refine gN_knownVotes X hP (by omega) dS_deliver_37 ?_
        refine lv_iload_n (i := 1) hx hb dS_deliver_40 rfl (sv_at hl rfl) ?_
        refine gI_V X hP hn (by omega) (by omega) dS_deliver_41 ?_
        refine lv_aload_n (i := 0) hx hb dS_deliver_42 rfl (sv_at hl rfl) ?_
        refine gS_nodes X hP dS_deliver_43 ?_
        refine lv_iload_n (i := 1) hx hb dS_deliver_46 rfl (sv_at hl rfl) ?_
        refine gA_nodes X hP hn (by omega) dS_deliver_47 ?_
        refine gN_knownAccepts X hP (by omega) dS_deliver_48 ?_
        refine lv_iload_n (i := 1) hx hb dS_deliver_51 rfl (sv_at hl rfl) ?_
        refine gI_C X hP hn (by omega) (by omega) dS_deliver_52 ?_
        refine kS_hear X (by decide) hP hJ hA hS hn hb9 ha hl (Nat.zero_le _) (Nat.zero_le _) (Nat.le_of_ble_eq_true rfl) dS_deliver_53 (fun H locs hP hS => ?_)
        rw [sv_kv_self, sv_ka_self] at hP
        refine lv_aload_n (i := 0) hx hb dS_deliver_56 rfl (sv_at hl rfl) ?_
        refine lv_aload_n (i := 0) hx hb dS_deliver_57 rfl (sv_at hl rfl) ?_
        refine gS_nodes X hP dS_deliver_58 ?_
        refine lv_iload_n (i := 2) hx hb dS_deliver_61 rfl (sv_at hl rfl) ?_
        refine gA_nodes X hP hn (by omega) dS_deliver_62 ?_
        refine kS_settle X (by decide) hP hJ hA hS hn (sv_her_ok hab hI hIS).1 (sv_her_ok hab hI hIS).2 hb9 hl (Nat.zero_le _) (Nat.zero_le _) (Nat.le_of_ble_eq_true rfl) dS_deliver_63 (fun H locs hP hS => ?_)
        refine lv_iconst (v := 1) hx hb dS_deliver_66 (by decide) ?_
        exact x_tv (by unfold sv_dlC; rw [h5, h13, decide_eq_true h18]; rfl) (ret _ _ _ _ dS_deliver_67 hS (by unfold sv_dlS sv_dlC; rw [h5, h13, decide_eq_true h18, nI_clamp (by omega), nI_clamp (by omega)]; exact hP))
      · skip
        refine lv_iconst (v := 0) hx hb dS_deliver_21 (by decide) ?_
        first | exact x_tv (by unfold sv_dlC; rw [h18, decide_eq_false (fun q => q rfl), Bool.and_false, Bool.and_false]; rfl) (ret _ _ _ _ dS_deliver_22 hS (by unfold sv_dlS sv_dlC; rw [h18, decide_eq_false (fun q => q rfl), Bool.and_false, Bool.and_false]; exact hP)) | exact x_tv (by unfold sv_dlC; rw [h13, Bool.false_and, Bool.and_false]; rfl) (ret _ _ _ _ dS_deliver_22 hS (by unfold sv_dlS sv_dlC; rw [h13, Bool.false_and, Bool.and_false]; exact hP)) | exact x_tv (by unfold sv_dlC; rw [h5]; rfl) (ret _ _ _ _ dS_deliver_22 hS (by unfold sv_dlS sv_dlC; rw [h5]; exact hP))

theorem cS_m_deliver (hJ : sv_inj (3 + 3 * n + qc) ad) (hA : ∀ k, k < (3 + 3 * n + qc) → A (ad k)) {v w : Int32} (hn : n ≤ 6) (hI : sv_IQ n qc σ) (hIS : sv_IS n σ) : Met l yS_deliver (sv_ws yS_deliver cS_deliver 3 (some .boolean)) (sv_rm 10) (sv_Pc D cI cZ cN cQ [.ref (ad 0), .int v, .int w] (fun H => sv_cP D cI cN cQ n qc ad σ H)) (va_Qi (fun r u => r = sv_b (sv_dlC n σ v w) ∧ u = sv_dlS n qc σ v w) (fun u t => sv_cP D cI cN cQ n qc ad u t.heap) A) 0 0 A :=
  sv_mkI (S := Sg) (B := fun u H => sv_cP D cI cN cQ n qc ad u H) (by decide) (by show 3 ≤ 3; decide) (fun _ _ h => by rw [h.1]; exact sv_narb _) (fun p e s m below meth c ls Q X hP hl ret => wS_deliver X hP hJ hA va_S.rf hn hI hIS hl (fun pc ls H locs hd hS hP => ret pc ls _ _ H locs hd hS ⟨rfl, rfl⟩ hP))
theorem okL_S_deliver : sv_okV "SliceVotingLaw" 40 yS_deliver cS_deliver 3 (some .boolean) 2 := ⟨sv_tb_t 240 rfl rfl, sv_tb_t 237 rfl rfl, sv_tb_t 238 rfl rfl, sv_tb_t 239 rfl rfl, sv_tb_t 1 rfl rfl, ⟨by decide, by decide, by decide +kernel⟩, by decide⟩
theorem kL_deliver (X : sv_X D cI cZ cN cQ "SliceVotingLaw" cc nL k p R s m args c) (hk : 10 + 1 ≤ k) (hP : sv_cP D cI cN cQ n qc ad σ H) (hJ : sv_inj (3 + 3 * n + qc) ad) (hA : ∀ k, k < (3 + 3 * n + qc) → A (ad k)) (hS : va_S A H0 H locs) {v w : Int32} (hn : n ≤ 6) (hI : sv_IQ n qc σ) (hIS : sv_IS n σ) (hl : lv_has ls nL lv) (hc : cells ≤ R.cells) (hs : slots ≤ R.slots) (hcat : (rest.map fun v => v.category).sum ≤ 8) (hd : decode cc pc = .ok (.invokevirtual 40, 3)) (kk : ∀ (H1 : Heap) (locs1 : List Loc), sv_cP D cI cN cQ n qc ad (sv_dlS n qc σ v w) H1 → va_S A H0 H1 locs1 → W p l e R s m args below meth c H1 locs1 cells slots Q (F0 m (pc + 3) ls (.int (sv_b (sv_dlC n σ v w)) :: rest))) : W p l e R s m args below meth c H locs cells slots Q (F0 m pc ls (.int w :: .int v :: .ref (ad 0) :: rest)) :=
  sv_wVi (S := Sg) (G := fun H => sv_cP D cI cN cQ n qc ad σ H) (B := fun u H => sv_cP D cI cN cQ n qc ad u H) X okL_S_deliver (cS_m_deliver hJ hA hn hI hIS) hP (y_rec X.K hP (by omega) sv_ce_S rfl) hS hk rfl hl.1 rfl hcat hc hs hd (fun r u H1 locs1 hp hB hS => by obtain ⟨rfl, rfl⟩ := hp; exact kk H1 locs1 hB hS)
set_option maxHeartbeats 4000000 in
set_option maxRecDepth 100000 in
theorem wS_say (X : sv_X D cI cZ cN cQ "SliceVoting" cS_say 5 10 p R s m args c) (hP : sv_cP D cI cN cQ n qc ad σ H) (hJ : sv_inj (3 + 3 * n + qc) ad) (hA : ∀ k, k < (3 + 3 * n + qc) → A (ad k)) (hS : va_S A H0 H locs) {v w x z : Int32} (hn : n ≤ 6) (hI : sv_IQ n qc σ) (hIS : sv_IS n σ) (hl : lv_has ls 5 [(0, .ref (ad 0)), (1, .int v), (2, .int w), (3, .int x), (4, .int z)]) (ret : ∀ (pc : Nat) (ls : Array Slot) (H : Heap) (locs : List Loc), decode cS_say pc = .ok (.ireturn, 1) → va_S A H0 H locs → sv_cP D cI cN cQ n qc ad (sv_syS n qc σ v w x z) H → W p l e R s m args below meth c H locs 0 0 Q (F0 m pc ls [.int (sv_b (sv_syC n σ v w))])) : W p l e R s m args below meth c H locs 0 0 Q (F0 m 0 ls []) := by
  have hx := X.1
  have hb := X.2.1
  refine lv_aload_n (i := 0) hx hb dS_say_0 rfl (sv_at hl rfl) ?_
  refine lv_iload_n (i := 1) hx hb dS_say_1 rfl (sv_at hl rfl) ?_
  refine kS_isNode X (by decide) hP  hl (Nat.zero_le _) (Nat.zero_le _) (Nat.le_of_ble_eq_true rfl) dS_say_2 ?_
  refine x_ifeqB (tgt := 24) hx hb dS_say_5 rfl (fun h5 => ?_) (fun h5 => ?_)
  · skip
    refine lv_iconst (v := 0) hx hb dS_say_24 (by decide) ?_
    first | exact x_tv (by unfold sv_syC; rw [h21, Bool.and_false, Bool.and_false]; rfl) (ret _ _ _ _ dS_say_25 hS (by unfold sv_syS sv_syC; rw [h21, Bool.and_false, Bool.and_false]; exact hP)) | exact x_tv (by unfold sv_syC; rw [h13, Bool.not_true, Bool.false_and, Bool.and_false]; rfl) (ret _ _ _ _ dS_say_25 hS (by unfold sv_syS sv_syC; rw [h13, Bool.not_true, Bool.false_and, Bool.and_false]; exact hP)) | exact x_tv (by unfold sv_syC; rw [h5]; rfl) (ret _ _ _ _ dS_say_25 hS (by unfold sv_syS sv_syC; rw [h5]; exact hP))
  · skip
    refine lv_aload_n (i := 0) hx hb dS_say_8 rfl (sv_at hl rfl) ?_
    refine lv_iload_n (i := 1) hx hb dS_say_9 rfl (sv_at hl rfl) ?_
    refine kS_isWellBehaved X (by decide) hP hn hl (Nat.zero_le _) (Nat.zero_le _) (Nat.le_of_ble_eq_true rfl) dS_say_10 ?_
    refine x_ifneB (tgt := 24) hx hb dS_say_13 rfl (fun h13 => ?_) (fun h13 => ?_)
    · skip
      refine lv_iconst (v := 0) hx hb dS_say_24 (by decide) ?_
      first | exact x_tv (by unfold sv_syC; rw [h21, Bool.and_false, Bool.and_false]; rfl) (ret _ _ _ _ dS_say_25 hS (by unfold sv_syS sv_syC; rw [h21, Bool.and_false, Bool.and_false]; exact hP)) | exact x_tv (by unfold sv_syC; rw [h13, Bool.not_true, Bool.false_and, Bool.and_false]; rfl) (ret _ _ _ _ dS_say_25 hS (by unfold sv_syS sv_syC; rw [h13, Bool.not_true, Bool.false_and, Bool.and_false]; exact hP)) | exact x_tv (by unfold sv_syC; rw [h5]; rfl) (ret _ _ _ _ dS_say_25 hS (by unfold sv_syS sv_syC; rw [h5]; exact hP))
    · skip
      refine lv_aload_n (i := 0) hx hb dS_say_16 rfl (sv_at hl rfl) ?_
      refine lv_iload_n (i := 2) hx hb dS_say_17 rfl (sv_at hl rfl) ?_
      refine kS_isWellBehaved X (by decide) hP hn hl (Nat.zero_le _) (Nat.zero_le _) (Nat.le_of_ble_eq_true rfl) dS_say_18 ?_
      refine x_ifneB (tgt := 26) hx hb dS_say_21 rfl (fun h21 => ?_) (fun h21 => ?_)
      · skip
        obtain ⟨a, ha, rfl⟩ := sv_isn_t (by omega) h5
        obtain ⟨b, hb9, rfl, hb0⟩ := sv_wel_t (by omega) h21
        have hab : a ≠ b := fun q => by rw [q, h21] at h13; cases h13
        refine lv_aload_n (i := 0) hx hb dS_say_26 rfl (sv_at hl rfl) ?_
        refine lv_aload_n (i := 0) hx hb dS_say_27 rfl (sv_at hl rfl) ?_
        refine gS_nodes X hP dS_say_28 ?_
        refine lv_iload_n (i := 2) hx hb dS_say_31 rfl (sv_at hl rfl) ?_
        refine gA_nodes X hP hn (by omega) dS_say_32 ?_
        refine lv_iload_n (i := 1) hx hb dS_say_33 rfl (sv_at hl rfl) ?_
        refine lv_iload_n (i := 3) hx hb dS_say_34 rfl (sv_at hl rfl) ?_
        refine lv_ldc (v := 16777215) hx hb X.own (X.hts _ (sv_tb_t 249 rfl rfl)) dS_say_35 ?_
        refine lv_iand hx hb dS_say_37 ?_
        refine lv_iload (i := 4) hx hb dS_say_38 (sv_at hl rfl) ?_
        refine lv_ldc (v := 16777215) hx hb X.own (X.hts _ (sv_tb_t 249 rfl rfl)) dS_say_40 ?_
        refine lv_iand hx hb dS_say_42 ?_
        refine kS_hear X (by decide) hP hJ hA hS hn hb9 ha hl (Nat.zero_le _) (Nat.zero_le _) (Nat.le_of_ble_eq_true rfl) dS_say_43 (fun H locs hP hS => ?_)
        refine lv_aload_n (i := 0) hx hb dS_say_46 rfl (sv_at hl rfl) ?_
        refine lv_aload_n (i := 0) hx hb dS_say_47 rfl (sv_at hl rfl) ?_
        refine gS_nodes X hP dS_say_48 ?_
        refine lv_iload_n (i := 2) hx hb dS_say_51 rfl (sv_at hl rfl) ?_
        refine gA_nodes X hP hn (by omega) dS_say_52 ?_
        refine kS_settle X (by decide) hP hJ hA hS hn (sv_her_ok hab hI hIS).1 (sv_her_ok hab hI hIS).2 hb9 hl (Nat.zero_le _) (Nat.zero_le _) (Nat.le_of_ble_eq_true rfl) dS_say_53 (fun H locs hP hS => ?_)
        refine lv_iconst (v := 1) hx hb dS_say_56 (by decide) ?_
        exact x_tv (by unfold sv_syC; rw [h5, h13, h21]; rfl) (ret _ _ _ _ dS_say_57 hS (by unfold sv_syS sv_syC; rw [h5, h13, h21, nI_clamp (by omega), nI_clamp (by omega)]; exact hP))
      · skip
        refine lv_iconst (v := 0) hx hb dS_say_24 (by decide) ?_
        first | exact x_tv (by unfold sv_syC; rw [h21, Bool.and_false, Bool.and_false]; rfl) (ret _ _ _ _ dS_say_25 hS (by unfold sv_syS sv_syC; rw [h21, Bool.and_false, Bool.and_false]; exact hP)) | exact x_tv (by unfold sv_syC; rw [h13, Bool.not_true, Bool.false_and, Bool.and_false]; rfl) (ret _ _ _ _ dS_say_25 hS (by unfold sv_syS sv_syC; rw [h13, Bool.not_true, Bool.false_and, Bool.and_false]; exact hP)) | exact x_tv (by unfold sv_syC; rw [h5]; rfl) (ret _ _ _ _ dS_say_25 hS (by unfold sv_syS sv_syC; rw [h5]; exact hP))

theorem cS_m_say (hJ : sv_inj (3 + 3 * n + qc) ad) (hA : ∀ k, k < (3 + 3 * n + qc) → A (ad k)) {v w x z : Int32} (hn : n ≤ 6) (hI : sv_IQ n qc σ) (hIS : sv_IS n σ) : Met l yS_say (sv_ws yS_say cS_say 5 (some .boolean)) (sv_rm 10) (sv_Pc D cI cZ cN cQ [.ref (ad 0), .int v, .int w, .int x, .int z] (fun H => sv_cP D cI cN cQ n qc ad σ H)) (va_Qi (fun r u => r = sv_b (sv_syC n σ v w) ∧ u = sv_syS n qc σ v w x z) (fun u t => sv_cP D cI cN cQ n qc ad u t.heap) A) 0 0 A :=
  sv_mkI (S := Sg) (B := fun u H => sv_cP D cI cN cQ n qc ad u H) (by decide) (by show 5 ≤ 5; decide) (fun _ _ h => by rw [h.1]; exact sv_narb _) (fun p e s m below meth c ls Q X hP hl ret => wS_say X hP hJ hA va_S.rf hn hI hIS hl (fun pc ls H locs hd hS hP => ret pc ls _ _ H locs hd hS ⟨rfl, rfl⟩ hP))
theorem okL_S_say : sv_okV "SliceVotingLaw" 44 yS_say cS_say 5 (some .boolean) 4 := ⟨sv_tb_t 248 rfl rfl, sv_tb_t 245 rfl rfl, sv_tb_t 246 rfl rfl, sv_tb_t 247 rfl rfl, sv_tb_t 1 rfl rfl, ⟨by decide, by decide, by decide +kernel⟩, by decide⟩
theorem kL_say (X : sv_X D cI cZ cN cQ "SliceVotingLaw" cc nL k p R s m args c) (hk : 10 + 1 ≤ k) (hP : sv_cP D cI cN cQ n qc ad σ H) (hJ : sv_inj (3 + 3 * n + qc) ad) (hA : ∀ k, k < (3 + 3 * n + qc) → A (ad k)) (hS : va_S A H0 H locs) {v w x z : Int32} (hn : n ≤ 6) (hI : sv_IQ n qc σ) (hIS : sv_IS n σ) (hl : lv_has ls nL lv) (hc : cells ≤ R.cells) (hs : slots ≤ R.slots) (hcat : (rest.map fun v => v.category).sum ≤ 8) (hd : decode cc pc = .ok (.invokevirtual 44, 3)) (kk : ∀ (H1 : Heap) (locs1 : List Loc), sv_cP D cI cN cQ n qc ad (sv_syS n qc σ v w x z) H1 → va_S A H0 H1 locs1 → W p l e R s m args below meth c H1 locs1 cells slots Q (F0 m (pc + 3) ls (.int (sv_b (sv_syC n σ v w)) :: rest))) : W p l e R s m args below meth c H locs cells slots Q (F0 m pc ls (.int z :: .int x :: .int w :: .int v :: .ref (ad 0) :: rest)) :=
  sv_wVi (S := Sg) (G := fun H => sv_cP D cI cN cQ n qc ad σ H) (B := fun u H => sv_cP D cI cN cQ n qc ad u H) X okL_S_say (cS_m_say hJ hA hn hI hIS) hP (y_rec X.K hP (by omega) sv_ce_S rfl) hS hk rfl hl.1 rfl hcat hc hs hd (fun r u H1 locs1 hp hB hS => by obtain ⟨rfl, rfl⟩ := hp; exact kk H1 locs1 hB hS)
end SvMoves
end
section
section SvPropose
variable {p : Program} {l : Launch} {e : Env} {R : Room} {s : State} {m : MethodId} {args : Array Value} {below : List Frame} {meth : Method} {c : Code} {H H0 : Heap} {locs : List Loc} {cells slots : Nat} {Q : State → Prop}
variable {cc : ByteArray} {pc nL k : Nat} {ls : Array Slot} {lv : List (Nat × Value)} {rest : List Value} {D : va_G} {cI cZ cN cQ : ClassId} {n qc : Nat} {ad : Nat → Nat} {σ : Sg} {A : Nat → Prop} {mt qm : Nat → Int32}
/-! members of a quota -/
theorem sv_eq7 {σ : Sg} {q : Nat} {x : Int32} {k : Nat} (h : k ≠ 7) : sg σ 7 q x k = σ k := sg_ne σ q x h
theorem sv_ce_mem {cI cN cQ : ClassId} {n qc : Nat} {ad : Nat → Nat} {σ : Sg} {q : Nat} {x : Int32} (hq : q < qc) : ∀ k, k < 3 + 3 * n + qc → va_up (sv_ce cI cN cQ n qc ad σ) (3 + 3 * n + q) (.inr (sv_kQ, (sv_fQ n qc ad σ q).set 3 (.int x))) k = sv_ce cI cN cQ n qc ad (sg σ 7 q x) k := by
  have e3 : sg σ 7 q x 3 = σ 3 := sv_eq7 (by decide)
  have e4 : sg σ 7 q x 4 = σ 4 := sv_eq7 (by decide)
  have ne : ∀ k, k ≠ 3 + 3 * n + q → va_up (sv_ce cI cN cQ n qc ad σ) (3 + 3 * n + q) (.inr (sv_kQ, (sv_fQ n qc ad σ q).set 3 (.int x))) k = sv_ce cI cN cQ n qc ad σ k := fun k h => if_neg h
  refine sv_cells ?_ ?_ (fun v hv => ⟨?_, ?_, ?_⟩) ?_ (fun p hp => ?_)
  · rw [ne _ (by omega), sv_ce_S, sv_ce_S]
    unfold sv_fS
    rw [sv_wbN_cg (sv_eq7 (by decide)), sv_eq7 (by decide)]
  · rw [ne _ (by omega), sv_ce_A, sv_ce_A]
  · rw [ne _ (by omega), sv_ce_N hv, sv_ce_N hv]
    unfold sv_fN sv_top sv_own
    rw [e3, e4, sv_eq7 (by decide), sv_eq7 (by decide), sv_eq7 (by decide), sv_eq7 (by decide)]
  · rw [ne _ (by omega), sv_ce_V hv, sv_ce_V hv, sv_kv_sg v (by decide) (by decide)]
  · rw [ne _ (by omega), sv_ce_C hv, sv_ce_C hv, sv_ka_sg v (by decide) (by decide)]
  · rw [ne _ (by omega), sv_ce_B, sv_ce_B]
  · by_cases e : p = q
    · subst e
      rw [show va_up (sv_ce cI cN cQ n qc ad σ) (3 + 3 * n + p) (.inr (sv_kQ, (sv_fQ n qc ad σ p).set 3 (.int x))) (3 + 3 * n + p) = .inr (sv_kQ, (sv_fQ n qc ad σ p).set 3 (.int x)) from if_pos rfl, sv_ce_Q]
      unfold sv_fQ sv_fst sv_nxt
      rw [e3, e4, sv_eq7 (by decide), sv_eq7 (by decide), sg_at]
      rfl
    · rw [ne _ (by omega), sv_ce_Q, sv_ce_Q]
      unfold sv_fQ sv_fst sv_nxt
      rw [e3, e4, sv_eq7 (by decide), sv_eq7 (by decide), sg_off σ x (Or.inr e)]
theorem pQ_members (X : sv_X D cI cZ cN cQ "SliceVoting" cc nL k p R s m args c) (hP : sv_cP D cI cN cQ n qc ad σ H) (hJ : sv_inj (3 + 3 * n + qc) ad) (hA : ∀ k, k < 3 + 3 * n + qc → A (ad k)) (hS : va_S A H0 H locs) {q : Nat} {x : Int32} (hq : q < qc) (hd : decode cc pc = .ok (.putfield 63, 3)) (kk : ∀ (H1 : Heap) (locs1 : List Loc), sv_cP D cI cN cQ n qc ad (sg σ 7 q x) H1 → va_S A H0 H1 locs1 → W p l e R s m args below meth c H1 locs1 cells slots Q (F0 m (pc + 3) ls rest)) : W p l e R s m args below meth c H locs cells slots Q (F0 m pc ls (.int x :: .ref (ad (3 + 3 * n + q)) :: rest)) :=
  y_putN X.1 X.2.1 X.hts X.Ns in_Q t_Q t_Q_ok nm_Q X.own X.K hP (sv_D hJ hA) hS (by omega) sv_ce_Q rfl 3 (by decide) (sv_nst_t 111 rfl rfl) rfl (ty := .int) (by decide +kernel) rfl rfl (by show 3 < 6; decide) hd (fun H1 locs1 h1 h3 => kk H1 locs1 (by rw [sv_L_congr (sv_ce_mem hq)] at h1; exact h1) h3)
def sv_mbC (n qc : Nat) (σ : Sg) (q w : Int32) : Bool := decide (σ 1 0 = 0) && (sv_isn qc q && (sv_isn n w && !bt (σ 7 q.toNatClampNeg) w.toNatClampNeg))
def sv_mbS (n qc : Nat) (σ : Sg) (q w : Int32) : Sg := bif sv_mbC n qc σ q w then sg σ 7 q.toNatClampNeg (σ 7 q.toNatClampNeg ||| sv_bit w.toNatClampNeg) else σ
set_option maxHeartbeats 4000000 in
set_option maxRecDepth 100000 in
theorem wS_member (X : sv_X D cI cZ cN cQ "SliceVoting" cS_member 3 2 p R s m args c) (hP : sv_cP D cI cN cQ n qc ad σ H) (hJ : sv_inj (3 + 3 * n + qc) ad) (hA : ∀ k, k < (3 + 3 * n + qc) → A (ad k)) (hS : va_S A H0 H locs) {v w : Int32} (hn : n ≤ 6) (hq24 : qc ≤ 24) (h4n : qc ≤ 4 * n) (hl : lv_has ls 3 [(0, .ref (ad 0)), (1, .int v), (2, .int w)]) (ret : ∀ (pc : Nat) (ls : Array Slot) (H : Heap) (locs : List Loc), decode cS_member pc = .ok (.ireturn, 1) → va_S A H0 H locs → sv_cP D cI cN cQ n qc ad (sv_mbS n qc σ v w) H → W p l e R s m args below meth c H locs 0 0 Q (F0 m pc ls [.int (sv_b (sv_mbC n qc σ v w))])) : W p l e R s m args below meth c H locs 0 0 Q (F0 m 0 ls []) := by
  have hx := X.1
  have hb := X.2.1
  refine lv_aload_n (i := 0) hx hb dS_member_0 rfl (sv_at hl rfl) ?_
  refine gS_moving X hP dS_member_1 ?_
  refine lv_if_ne (tgt := 39) hx hb dS_member_4 rfl (fun h4 => ?_) (fun h4 => ?_)
  · skip
    refine lv_iconst (v := 0) hx hb dS_member_39 (by decide) ?_
    first | exact x_tv (by unfold sv_mbC; rw [nI_clamp (by omega), nI_clamp (by omega), h36, Bool.not_true, Bool.and_false, Bool.and_false, Bool.and_false]; rfl) (ret _ _ _ _ dS_member_40 hS (by unfold sv_mbS sv_mbC; rw [nI_clamp (by omega), nI_clamp (by omega), h36, Bool.not_true, Bool.and_false, Bool.and_false, Bool.and_false]; exact hP)) | exact x_tv (by unfold sv_mbC; rw [h20, Bool.false_and, Bool.and_false, Bool.and_false]; rfl) (ret _ _ _ _ dS_member_40 hS (by unfold sv_mbS sv_mbC; rw [h20, Bool.false_and, Bool.and_false, Bool.and_false]; exact hP)) | exact x_tv (by unfold sv_mbC; rw [h12, Bool.false_and, Bool.and_false]; rfl) (ret _ _ _ _ dS_member_40 hS (by unfold sv_mbS sv_mbC; rw [h12, Bool.false_and, Bool.and_false]; exact hP)) | exact x_tv (by unfold sv_mbC; rw [decide_eq_false h4]; rfl) (ret _ _ _ _ dS_member_40 hS (by unfold sv_mbS sv_mbC; rw [decide_eq_false h4]; exact hP))
  · skip
    refine lv_aload_n (i := 0) hx hb dS_member_7 rfl (sv_at hl rfl) ?_
    refine lv_iload_n (i := 1) hx hb dS_member_8 rfl (sv_at hl rfl) ?_
    refine kS_isQuota X (by decide) hP  hl (Nat.zero_le _) (Nat.zero_le _) (Nat.le_of_ble_eq_true rfl) dS_member_9 ?_
    refine x_ifeqB (tgt := 39) hx hb dS_member_12 rfl (fun h12 => ?_) (fun h12 => ?_)
    · skip
      refine lv_iconst (v := 0) hx hb dS_member_39 (by decide) ?_
      first | exact x_tv (by unfold sv_mbC; rw [nI_clamp (by omega), nI_clamp (by omega), h36, Bool.not_true, Bool.and_false, Bool.and_false, Bool.and_false]; rfl) (ret _ _ _ _ dS_member_40 hS (by unfold sv_mbS sv_mbC; rw [nI_clamp (by omega), nI_clamp (by omega), h36, Bool.not_true, Bool.and_false, Bool.and_false, Bool.and_false]; exact hP)) | exact x_tv (by unfold sv_mbC; rw [h20, Bool.false_and, Bool.and_false, Bool.and_false]; rfl) (ret _ _ _ _ dS_member_40 hS (by unfold sv_mbS sv_mbC; rw [h20, Bool.false_and, Bool.and_false, Bool.and_false]; exact hP)) | exact x_tv (by unfold sv_mbC; rw [h12, Bool.false_and, Bool.and_false]; rfl) (ret _ _ _ _ dS_member_40 hS (by unfold sv_mbS sv_mbC; rw [h12, Bool.false_and, Bool.and_false]; exact hP)) | exact x_tv (by unfold sv_mbC; rw [decide_eq_false h4]; rfl) (ret _ _ _ _ dS_member_40 hS (by unfold sv_mbS sv_mbC; rw [decide_eq_false h4]; exact hP))
    · skip
      obtain ⟨a, ha, rfl⟩ := sv_isn_t (by omega) h12
      refine lv_aload_n (i := 0) hx hb dS_member_15 rfl (sv_at hl rfl) ?_
      refine lv_iload_n (i := 2) hx hb dS_member_16 rfl (sv_at hl rfl) ?_
      refine kS_isNode X (by decide) hP  hl (Nat.zero_le _) (Nat.zero_le _) (Nat.le_of_ble_eq_true rfl) dS_member_17 ?_
      refine x_ifeqB (tgt := 39) hx hb dS_member_20 rfl (fun h20 => ?_) (fun h20 => ?_)
      · skip
        refine lv_iconst (v := 0) hx hb dS_member_39 (by decide) ?_
        first | exact x_tv (by unfold sv_mbC; rw [nI_clamp (by omega), nI_clamp (by omega), h36, Bool.not_true, Bool.and_false, Bool.and_false, Bool.and_false]; rfl) (ret _ _ _ _ dS_member_40 hS (by unfold sv_mbS sv_mbC; rw [nI_clamp (by omega), nI_clamp (by omega), h36, Bool.not_true, Bool.and_false, Bool.and_false, Bool.and_false]; exact hP)) | exact x_tv (by unfold sv_mbC; rw [h20, Bool.false_and, Bool.and_false, Bool.and_false]; rfl) (ret _ _ _ _ dS_member_40 hS (by unfold sv_mbS sv_mbC; rw [h20, Bool.false_and, Bool.and_false, Bool.and_false]; exact hP)) | exact x_tv (by unfold sv_mbC; rw [h12, Bool.false_and, Bool.and_false]; rfl) (ret _ _ _ _ dS_member_40 hS (by unfold sv_mbS sv_mbC; rw [h12, Bool.false_and, Bool.and_false]; exact hP)) | exact x_tv (by unfold sv_mbC; rw [decide_eq_false h4]; rfl) (ret _ _ _ _ dS_member_40 hS (by unfold sv_mbS sv_mbC; rw [decide_eq_false h4]; exact hP))
      · skip
        obtain ⟨b, hb9, rfl⟩ := sv_isn_t (by omega) h20
        refine lv_aload_n (i := 0) hx hb dS_member_23 rfl (sv_at hl rfl) ?_
        refine gS_quotas X hP dS_member_24 ?_
        refine lv_iload_n (i := 1) hx hb dS_member_27 rfl (sv_at hl rfl) ?_
        refine gA_quotas X hP hn (by omega) (by omega) dS_member_28 ?_
        refine gQ_members X hP (by omega) dS_member_29 ?_
        refine lv_iload_n (i := 2) hx hb dS_member_32 rfl (sv_at hl rfl) ?_
        refine kS_has X (by decide) (by omega) hl (Nat.zero_le _) (Nat.zero_le _) (Nat.le_of_ble_eq_true rfl) dS_member_33 ?_
        refine x_ifeqB (tgt := 41) hx hb dS_member_36 rfl (fun h36 => ?_) (fun h36 => ?_)
        · skip
          refine lv_aload_n (i := 0) hx hb dS_member_41 rfl (sv_at hl rfl) ?_
          refine gS_quotas X hP dS_member_42 ?_
          refine lv_iload_n (i := 1) hx hb dS_member_45 rfl (sv_at hl rfl) ?_
          refine gA_quotas X hP hn (by omega) (by omega) dS_member_46 ?_
          refine lv_dup hx hb dS_member_47 rfl ?_
          refine gQ_members X hP (by omega) dS_member_48 ?_
          refine lv_iconst (v := 1) hx hb dS_member_51 (by decide) ?_
          refine lv_iload_n (i := 2) hx hb dS_member_52 rfl (sv_at hl rfl) ?_
          refine lv_ishl hx hb dS_member_53 ?_
          refine lv_ior hx hb dS_member_54 ?_
          refine pQ_members X hP hJ hA hS ha dS_member_55 (fun H locs hP hS => ?_)
          refine lv_iconst (v := 1) hx hb dS_member_58 (by decide) ?_
          exact x_tv (by unfold sv_mbC; rw [decide_eq_true h4, h12, h20, nI_clamp (by omega), nI_clamp (by omega), h36]; rfl) (ret _ _ _ _ dS_member_59 hS (by unfold sv_mbS sv_mbC; rw [decide_eq_true h4, h12, h20, nI_clamp (by omega), nI_clamp (by omega), h36]; exact hP))
        · skip
          refine lv_iconst (v := 0) hx hb dS_member_39 (by decide) ?_
          first | exact x_tv (by unfold sv_mbC; rw [nI_clamp (by omega), nI_clamp (by omega), h36, Bool.not_true, Bool.and_false, Bool.and_false, Bool.and_false]; rfl) (ret _ _ _ _ dS_member_40 hS (by unfold sv_mbS sv_mbC; rw [nI_clamp (by omega), nI_clamp (by omega), h36, Bool.not_true, Bool.and_false, Bool.and_false, Bool.and_false]; exact hP)) | exact x_tv (by unfold sv_mbC; rw [h20, Bool.false_and, Bool.and_false, Bool.and_false]; rfl) (ret _ _ _ _ dS_member_40 hS (by unfold sv_mbS sv_mbC; rw [h20, Bool.false_and, Bool.and_false, Bool.and_false]; exact hP)) | exact x_tv (by unfold sv_mbC; rw [h12, Bool.false_and, Bool.and_false]; rfl) (ret _ _ _ _ dS_member_40 hS (by unfold sv_mbS sv_mbC; rw [h12, Bool.false_and, Bool.and_false]; exact hP)) | exact x_tv (by unfold sv_mbC; rw [decide_eq_false h4]; rfl) (ret _ _ _ _ dS_member_40 hS (by unfold sv_mbS sv_mbC; rw [decide_eq_false h4]; exact hP))

theorem cS_m_member (hJ : sv_inj (3 + 3 * n + qc) ad) (hA : ∀ k, k < (3 + 3 * n + qc) → A (ad k)) {v w : Int32} (hn : n ≤ 6) (hq24 : qc ≤ 24) (h4n : qc ≤ 4 * n) : Met l yS_member (sv_ws yS_member cS_member 3 (some .boolean)) (sv_rm 2) (sv_Pc D cI cZ cN cQ [.ref (ad 0), .int v, .int w] (fun H => sv_cP D cI cN cQ n qc ad σ H)) (va_Qi (fun r u => r = sv_b (sv_mbC n qc σ v w) ∧ u = sv_mbS n qc σ v w) (fun u t => sv_cP D cI cN cQ n qc ad u t.heap) A) 0 0 A :=
  sv_mkI (S := Sg) (B := fun u H => sv_cP D cI cN cQ n qc ad u H) (by decide) (by show 3 ≤ 3; decide) (fun _ _ h => by rw [h.1]; exact sv_narb _) (fun p e s m below meth c ls Q X hP hl ret => wS_member X hP hJ hA va_S.rf hn hq24 h4n hl (fun pc ls H locs hd hS hP => ret pc ls _ _ H locs hd hS ⟨rfl, rfl⟩ hP))
theorem okL_S_member : sv_okV "SliceVotingLaw" 26 yS_member cS_member 3 (some .boolean) 2 := ⟨sv_tb_t 144 rfl rfl, sv_tb_t 141 rfl rfl, sv_tb_t 142 rfl rfl, sv_tb_t 143 rfl rfl, sv_tb_t 1 rfl rfl, ⟨by decide, by decide, by decide +kernel⟩, by decide⟩
theorem kL_member (X : sv_X D cI cZ cN cQ "SliceVotingLaw" cc nL k p R s m args c) (hk : 2 + 1 ≤ k) (hP : sv_cP D cI cN cQ n qc ad σ H) (hJ : sv_inj (3 + 3 * n + qc) ad) (hA : ∀ k, k < (3 + 3 * n + qc) → A (ad k)) (hS : va_S A H0 H locs) {v w : Int32} (hn : n ≤ 6) (hq24 : qc ≤ 24) (h4n : qc ≤ 4 * n) (hl : lv_has ls nL lv) (hc : cells ≤ R.cells) (hs : slots ≤ R.slots) (hcat : (rest.map fun v => v.category).sum ≤ 8) (hd : decode cc pc = .ok (.invokevirtual 26, 3)) (kk : ∀ (H1 : Heap) (locs1 : List Loc), sv_cP D cI cN cQ n qc ad (sv_mbS n qc σ v w) H1 → va_S A H0 H1 locs1 → W p l e R s m args below meth c H1 locs1 cells slots Q (F0 m (pc + 3) ls (.int (sv_b (sv_mbC n qc σ v w)) :: rest))) : W p l e R s m args below meth c H locs cells slots Q (F0 m pc ls (.int w :: .int v :: .ref (ad 0) :: rest)) :=
  sv_wVi (S := Sg) (G := fun H => sv_cP D cI cN cQ n qc ad σ H) (B := fun u H => sv_cP D cI cN cQ n qc ad u H) X okL_S_member (cS_m_member hJ hA hn hq24 h4n) hP (y_rec X.K hP (by omega) sv_ce_S rfl) hS hk rfl hl.1 rfl hcat hc hs hd (fun r u H1 locs1 hp hB hS => by obtain ⟨rfl, rfl⟩ := hp; exact kk H1 locs1 hB hS)
def sv_prC (n : Nat) (σ : Sg) (v c x : Int32) : Bool := sv_wel n σ v && (decide (¬ nI 4 < c) && (decide (¬ x < 0) && (decide (x < nI 3) && decide (σ 13 v.toNatClampNeg < c))))
def sv_pr1 (σ : Sg) (j : Nat) (c x : Int32) : Sg := sg (sg (sg σ 1 0 1) 14 j (sv_chr (sg σ 1 0 1) j x)) 13 j c
def sv_prS (n qc : Nat) (σ : Sg) (v c x : Int32) : Sg := bif sv_prC n σ v c x then sv_set n qc v.toNatClampNeg 49 (sv_vts (sv_pr1 σ v.toNatClampNeg c x) v.toNatClampNeg c.toNatClampNeg) else σ
def sv_prR (n qc : Nat) (σ : Sg) (v c x : Int32) : Int32 := bif sv_prC n σ v c x then sv_prS n qc σ v c x 14 v.toNatClampNeg else -1
theorem sv_pr1_Q {σ : Sg} {j : Nat} {c x : Int32} : sv_eqQ σ (sv_pr1 σ j c x) := sv_eqQ_tr (sv_eqQ_tr (sv_eqQ_sg (Or.inl (by decide))) (sv_eqQ_sg (Or.inr (by decide)))) (sv_eqQ_sg (Or.inr (by decide)))
theorem sv_pr1_ok {n : Nat} {σ : Sg} {j cN x0 : Nat} (h : sv_IS n σ) (hc : cN ≤ 4) (hx : x0 ≤ 2) : sv_IS n (sv_pr1 σ j (nI cN) (nI x0)) ∧ ∃ y, y ≤ 2 ∧ sv_pr1 σ j (nI cN) (nI x0) 14 j = nI y := by
  obtain ⟨y, hy, ey⟩ := sv_chr_le (n := n) (v := j) (σ := sg σ 1 0 1) hx
  have h1 := sv_IS_1 h
  have e14 : sv_pr1 σ j (nI cN) (nI x0) 14 j = nI y := by
    unfold sv_pr1
    rw [sg_off _ _ (Or.inl (by decide)), sg_at, ey]
  refine ⟨⟨?_, fun u hu => ?_⟩, y, hy, e14⟩
  · unfold sv_pr1
    rw [sg_off _ _ (Or.inl (by decide)), sg_off _ _ (Or.inl (by decide))]
    exact h1.1
  · obtain ⟨a1, a2, a3, a4⟩ := h1.2 u hu
    refine ⟨?_, ?_, ?_, ?_⟩
    · unfold sv_pr1
      rw [sg_off _ _ (Or.inl (by decide)), sg_off _ _ (Or.inl (by decide))]
      exact a1
    · by_cases e : u = j
      · subst e
        exact ⟨cN, hc, sg_at _ _ _ _⟩
      · unfold sv_pr1
        rw [sg_off _ _ (Or.inr e), sg_off _ _ (Or.inr e)]
        exact a2
    · by_cases e : u = j
      · subst e
        exact ⟨y, hy, e14⟩
      · unfold sv_pr1
        rw [sg_off _ _ (Or.inr e), sg_off _ _ (Or.inr e)]
        exact a3
    · unfold sv_pr1
      rw [sg_off _ _ (Or.inl (by decide)), sg_off _ _ (Or.inl (by decide))]
      exact a4
theorem sv_cpos {c : Int32} {k : Nat} (hk : k ≤ 4) (h1 : nI k < c) (h2 : ¬ nI 4 < c) : ∃ cN, c = nI cN ∧ k < cN ∧ cN ≤ 4 := by
  rw [Int32.not_lt] at h2
  obtain ⟨j, hj, rfl⟩ := nI_of (x := c) (fun q => by
    have a := nI_pos' (n := k) (by omega)
    rw [Int32.lt_iff_toInt_lt] at q h1
    rw [Int32.le_iff_toInt_le] at a
    omega)
  rw [nI_ltI (by omega) hj] at h1
  rw [nI_leI hj (by decide)] at h2
  exact ⟨j, rfl, h1, h2⟩
theorem sv_xsm {x : Int32} (h1 : ¬ x < 0) (h2 : x < nI 3) : ∃ x0, x = nI x0 ∧ x0 ≤ 2 := by
  obtain ⟨j, hj, rfl⟩ := nI_of h1
  rw [nI_ltI hj (by decide)] at h2
  exact ⟨j, rfl, by omega⟩
theorem sv_vts_s {σ : Sg} {v k y : Nat} (hy : y < 2 ^ 31) (h : σ 14 v = nI y) (hk : 3 * k + y < 32) : sv_vS (sv_vts σ v k) v (3 * k + y) = sv_vts σ v (k + 1) := by
  rw [sv_vS_eq hk]
  show _ = sv_vote _ _ _
  rw [h, nI_clamp hy]
set_option maxHeartbeats 4000000 in
set_option maxRecDepth 100000 in
theorem wS_propose_J (X : sv_X D cI cZ cN cQ "SliceVoting" cS_propose 6 10 p R s m args c) (hJ : sv_inj (3 + 3 * n + qc) ad) (hA : ∀ k, k < 3 + 3 * n + qc → A (ad k)) (hn : n ≤ 6) (hI : sv_IQ n qc σ) {j cM x0 y0 : Nat} (hj : j < n) (hc4 : cM ≤ 4) (hy2 : y0 ≤ 2) (h1S : sv_IS n (sv_pr1 σ j (nI cM) (nI x0))) (e14 : (sv_pr1 σ j (nI cM) (nI x0)) 14 j = nI y0) (ret : ∀ (pc : Nat) (ls : Array Slot) (H : Heap) (locs : List Loc), decode cS_propose pc = .ok (.ireturn, 1) → va_S A H0 H locs → sv_cP D cI cN cQ n qc ad (sv_set n qc j 49 (sv_vts (sv_pr1 σ j (nI cM) (nI x0)) j cM)) H → W p l e R s m args below meth c H locs 0 0 Q (F0 m pc ls [.int (sv_set n qc j 49 (sv_vts (sv_pr1 σ j (nI cM) (nI x0)) j cM) 14 j)])) : ∀ (kf i : Nat) (H : Heap) (locs : List Loc) (ls : Array Slot), cM - i < kf → i ≤ cM → sv_cP D cI cN cQ n qc ad (sv_vts (sv_pr1 σ j (nI cM) (nI x0)) j i) H → va_S A H0 H locs → lv_has ls 6 [(0, .ref (ad 0)), (1, .int (nI j)), (2, .int (nI cM)), (3, .int (nI x0)), (4, .ref (ad (2 + 3 * j))), (5, .int (nI (i + 1)))] → W p l e R s m args below meth c H locs 0 0 Q (F0 m 68 ls []) := by
  have hx := X.1
  have hb := X.2.1
  intro kf
  induction kf with
  | zero => intro i H locs ls hm; exact absurd hm (Nat.not_lt_zero _)
  | succ kf ih =>
    intro i H locs ls hm hi hP hS hl
    refine lv_iload (i := 5) hx hb dS_propose_68 (sv_at hl rfl) ?_
    refine lv_iload_n (i := 2) hx hb dS_propose_70 rfl (sv_at hl rfl) ?_
    refine lv_icmp_gt (tgt := 96) hx hb dS_propose_71 rfl (fun h71 => ?_) (fun h71 => ?_)
    · skip
      rw [nI_ltI (by omega) (by omega)] at h71
      obtain rfl : i = cM := by omega
      refine lv_aload_n (i := 0) hx hb dS_propose_96 rfl (sv_at hl rfl) ?_
      refine lv_aload (i := 4) hx hb dS_propose_97 (sv_at hl rfl) ?_
      refine kS_settle X (by decide) hP hJ hA hS hn (sv_IQ_cg (sv_vts_ok h1S _).2.1 (sv_IQ_cg sv_pr1_Q hI)) (sv_vts_ok h1S _).1 hj hl (Nat.zero_le _) (Nat.zero_le _) (Nat.le_of_ble_eq_true rfl) dS_propose_99 (fun H locs hP hS => ?_)
      refine lv_aload (i := 4) hx hb dS_propose_102 (sv_at hl rfl) ?_
      refine gN_value X hP (by omega) dS_propose_104 ?_
      exact ret _ _ _ _ dS_propose_107 hS hP
    · skip
      rw [nI_ltI (by omega) (by omega)] at h71
      refine lv_aload (i := 4) hx hb dS_propose_74 (sv_at hl rfl) ?_
      refine lv_iload (i := 5) hx hb dS_propose_76 (sv_at hl rfl) ?_
      refine lv_aload (i := 4) hx hb dS_propose_78 (sv_at hl rfl) ?_
      refine gN_value X hP (by omega) dS_propose_80 ?_
      refine x_tv (y := nI y0) (by rw [(sv_vts_ok (v := j) h1S i).2.2 14 (by decide)]; exact e14) ?_
      refine kS_ballot X (by decide) (by omega) hl (Nat.zero_le _) (Nat.zero_le _) (Nat.le_of_ble_eq_true rfl) dS_propose_83 ?_
      refine x_tv (y := nI (3 * i + y0)) (by rw [show i + 1 - 1 = i by omega]) ?_
      refine kS_voteIfAllowed X (by decide) hP hJ hA hS hn hj (by omega) hl (Nat.zero_le _) (Nat.zero_le _) (Nat.le_of_ble_eq_true rfl) dS_propose_86 (fun H locs hP hS => ?_)
      rw [sv_vts_s (by omega) e14 (by omega)] at hP
      refine lv_pop hx hb dS_propose_89 rfl ?_
      refine x_iinc (i := 5) hx hb dS_propose_90 hl rfl (sv_inc (i + 1)) (by decide) (fun ls hl => ?_)
      refine lv_goto (tgt := 68) hx hb dS_propose_93 rfl ?_
      exact ih (i + 1) H locs ls (by omega) (by omega) hP hS (sv_re hl ⟨rfl, rfl, rfl, rfl, rfl, rfl, trivial⟩)

set_option maxHeartbeats 4000000 in
set_option maxRecDepth 100000 in
theorem wS_propose (X : sv_X D cI cZ cN cQ "SliceVoting" cS_propose 6 10 p R s m args c) (hP : sv_cP D cI cN cQ n qc ad σ H) (hJ : sv_inj (3 + 3 * n + qc) ad) (hA : ∀ k, k < (3 + 3 * n + qc) → A (ad k)) (hS : va_S A H0 H locs) {v w x : Int32} (hn : n ≤ 6) (hI : sv_IQ n qc σ) (hIS : sv_IS n σ) (hl : lv_has ls 6 [(0, .ref (ad 0)), (1, .int v), (2, .int w), (3, .int x)]) (ret : ∀ (pc : Nat) (ls : Array Slot) (H : Heap) (locs : List Loc), decode cS_propose pc = .ok (.ireturn, 1) → va_S A H0 H locs → sv_cP D cI cN cQ n qc ad (sv_prS n qc σ v w x) H → W p l e R s m args below meth c H locs 0 0 Q (F0 m pc ls [.int (sv_prR n qc σ v w x)])) : W p l e R s m args below meth c H locs 0 0 Q (F0 m 0 ls []) := by
  have hx := X.1
  have hb := X.2.1
  refine lv_aload_n (i := 0) hx hb dS_propose_0 rfl (sv_at hl rfl) ?_
  refine lv_iload_n (i := 1) hx hb dS_propose_1 rfl (sv_at hl rfl) ?_
  refine kS_isWellBehaved X (by decide) hP hn hl (Nat.zero_le _) (Nat.zero_le _) (Nat.le_of_ble_eq_true rfl) dS_propose_2 ?_
  refine x_ifeqB (tgt := 22) hx hb dS_propose_5 rfl (fun h5 => ?_) (fun h5 => ?_)
  · skip
    refine lv_iconst (v := -1) hx hb dS_propose_22 (by decide) ?_
    first | (have ee : ¬ σ 13 j < w := h38; exact x_tv (by unfold sv_prR sv_prC; rw [nI_clamp (by omega), decide_eq_false h38, Bool.and_false, Bool.and_false, Bool.and_false, Bool.and_false]; rfl) (ret _ _ _ _ dS_propose_23 hS (by unfold sv_prS sv_prC; rw [nI_clamp (by omega), decide_eq_false h38, Bool.and_false, Bool.and_false, Bool.and_false, Bool.and_false]; exact hP))) | (have ee : ¬ x < nI 3 := h19; exact x_tv (by unfold sv_prR sv_prC; rw [decide_eq_false h19, Bool.false_and, Bool.and_false, Bool.and_false, Bool.and_false]; rfl) (ret _ _ _ _ dS_propose_23 hS (by unfold sv_prS sv_prC; rw [decide_eq_false h19, Bool.false_and, Bool.and_false, Bool.and_false, Bool.and_false]; exact hP))) | (have ee : x < 0 := h14; exact x_tv (by unfold sv_prR sv_prC; rw [decide_eq_false (show ¬ ¬ x < 0 from fun q => q h14), Bool.false_and, Bool.and_false, Bool.and_false]; rfl) (ret _ _ _ _ dS_propose_23 hS (by unfold sv_prS sv_prC; rw [decide_eq_false (show ¬ ¬ x < 0 from fun q => q h14), Bool.false_and, Bool.and_false, Bool.and_false]; exact hP))) | (have ee : nI 4 < w := h10; exact x_tv (by unfold sv_prR sv_prC; rw [decide_eq_false (show ¬ ¬ nI 4 < w from fun q => q h10), Bool.false_and, Bool.and_false]; rfl) (ret _ _ _ _ dS_propose_23 hS (by unfold sv_prS sv_prC; rw [decide_eq_false (show ¬ ¬ nI 4 < w from fun q => q h10), Bool.false_and, Bool.and_false]; exact hP))) | (have ee : sv_wel n σ v = false := h5; exact x_tv (by unfold sv_prR sv_prC; rw [h5]; rfl) (ret _ _ _ _ dS_propose_23 hS (by unfold sv_prS sv_prC; rw [h5]; exact hP)))
  · skip
    obtain ⟨j, hj, rfl, hj9⟩ := sv_wel_t (by omega) h5
    obtain ⟨-, ⟨kq, hk4, e13⟩, -, -⟩ := hIS.2 j hj
    refine lv_iload_n (i := 2) hx hb dS_propose_8 rfl (sv_at hl rfl) ?_
    refine lv_iconst (v := nI 4) hx hb dS_propose_9 (by decide) ?_
    refine lv_icmp_gt (tgt := 22) hx hb dS_propose_10 rfl (fun h10 => ?_) (fun h10 => ?_)
    · skip
      refine lv_iconst (v := -1) hx hb dS_propose_22 (by decide) ?_
      first | (have ee : ¬ σ 13 j < w := h38; exact x_tv (by unfold sv_prR sv_prC; rw [nI_clamp (by omega), decide_eq_false h38, Bool.and_false, Bool.and_false, Bool.and_false, Bool.and_false]; rfl) (ret _ _ _ _ dS_propose_23 hS (by unfold sv_prS sv_prC; rw [nI_clamp (by omega), decide_eq_false h38, Bool.and_false, Bool.and_false, Bool.and_false, Bool.and_false]; exact hP))) | (have ee : ¬ x < nI 3 := h19; exact x_tv (by unfold sv_prR sv_prC; rw [decide_eq_false h19, Bool.false_and, Bool.and_false, Bool.and_false, Bool.and_false]; rfl) (ret _ _ _ _ dS_propose_23 hS (by unfold sv_prS sv_prC; rw [decide_eq_false h19, Bool.false_and, Bool.and_false, Bool.and_false, Bool.and_false]; exact hP))) | (have ee : x < 0 := h14; exact x_tv (by unfold sv_prR sv_prC; rw [decide_eq_false (show ¬ ¬ x < 0 from fun q => q h14), Bool.false_and, Bool.and_false, Bool.and_false]; rfl) (ret _ _ _ _ dS_propose_23 hS (by unfold sv_prS sv_prC; rw [decide_eq_false (show ¬ ¬ x < 0 from fun q => q h14), Bool.false_and, Bool.and_false, Bool.and_false]; exact hP))) | (have ee : nI 4 < w := h10; exact x_tv (by unfold sv_prR sv_prC; rw [decide_eq_false (show ¬ ¬ nI 4 < w from fun q => q h10), Bool.false_and, Bool.and_false]; rfl) (ret _ _ _ _ dS_propose_23 hS (by unfold sv_prS sv_prC; rw [decide_eq_false (show ¬ ¬ nI 4 < w from fun q => q h10), Bool.false_and, Bool.and_false]; exact hP))) | (have ee : sv_wel n σ v = false := h5; exact x_tv (by unfold sv_prR sv_prC; rw [h5]; rfl) (ret _ _ _ _ dS_propose_23 hS (by unfold sv_prS sv_prC; rw [h5]; exact hP)))
    · skip
      refine lv_iload_n (i := 3) hx hb dS_propose_13 rfl (sv_at hl rfl) ?_
      refine lv_if_lt (tgt := 22) hx hb dS_propose_14 rfl (fun h14 => ?_) (fun h14 => ?_)
      · skip
        refine lv_iconst (v := -1) hx hb dS_propose_22 (by decide) ?_
        first | (have ee : ¬ σ 13 j < w := h38; exact x_tv (by unfold sv_prR sv_prC; rw [nI_clamp (by omega), decide_eq_false h38, Bool.and_false, Bool.and_false, Bool.and_false, Bool.and_false]; rfl) (ret _ _ _ _ dS_propose_23 hS (by unfold sv_prS sv_prC; rw [nI_clamp (by omega), decide_eq_false h38, Bool.and_false, Bool.and_false, Bool.and_false, Bool.and_false]; exact hP))) | (have ee : ¬ x < nI 3 := h19; exact x_tv (by unfold sv_prR sv_prC; rw [decide_eq_false h19, Bool.false_and, Bool.and_false, Bool.and_false, Bool.and_false]; rfl) (ret _ _ _ _ dS_propose_23 hS (by unfold sv_prS sv_prC; rw [decide_eq_false h19, Bool.false_and, Bool.and_false, Bool.and_false, Bool.and_false]; exact hP))) | (have ee : x < 0 := h14; exact x_tv (by unfold sv_prR sv_prC; rw [decide_eq_false (show ¬ ¬ x < 0 from fun q => q h14), Bool.false_and, Bool.and_false, Bool.and_false]; rfl) (ret _ _ _ _ dS_propose_23 hS (by unfold sv_prS sv_prC; rw [decide_eq_false (show ¬ ¬ x < 0 from fun q => q h14), Bool.false_and, Bool.and_false, Bool.and_false]; exact hP))) | (have ee : nI 4 < w := h10; exact x_tv (by unfold sv_prR sv_prC; rw [decide_eq_false (show ¬ ¬ nI 4 < w from fun q => q h10), Bool.false_and, Bool.and_false]; rfl) (ret _ _ _ _ dS_propose_23 hS (by unfold sv_prS sv_prC; rw [decide_eq_false (show ¬ ¬ nI 4 < w from fun q => q h10), Bool.false_and, Bool.and_false]; exact hP))) | (have ee : sv_wel n σ v = false := h5; exact x_tv (by unfold sv_prR sv_prC; rw [h5]; rfl) (ret _ _ _ _ dS_propose_23 hS (by unfold sv_prS sv_prC; rw [h5]; exact hP)))
      · skip
        refine lv_iload_n (i := 3) hx hb dS_propose_17 rfl (sv_at hl rfl) ?_
        refine lv_iconst (v := nI 3) hx hb dS_propose_18 (by decide) ?_
        refine lv_icmp_lt (tgt := 24) hx hb dS_propose_19 rfl (fun h19 => ?_) (fun h19 => ?_)
        · skip
          refine lv_aload_n (i := 0) hx hb dS_propose_24 rfl (sv_at hl rfl) ?_
          refine gS_nodes X hP dS_propose_25 ?_
          refine lv_iload_n (i := 1) hx hb dS_propose_28 rfl (sv_at hl rfl) ?_
          refine gA_nodes X hP hn (by omega) dS_propose_29 ?_
          refine lv_astore (i := 4) hx hb dS_propose_30 hl (by decide) rfl (fun ls hl => ?_)
          refine lv_iload_n (i := 2) hx hb dS_propose_32 rfl (sv_at hl rfl) ?_
          refine lv_aload (i := 4) hx hb dS_propose_33 (sv_at hl rfl) ?_
          refine gN_counter X hP (by omega) dS_propose_35 ?_
          refine lv_icmp_gt (tgt := 43) hx hb dS_propose_38 rfl (fun h38 => ?_) (fun h38 => ?_)
          · skip
            have h38b := h38
            rw [e13] at h38b
            obtain ⟨cM, rfl, hc1, hc4⟩ := sv_cpos hk4 h38b h10
            obtain ⟨x0, rfl, hx2⟩ := sv_xsm h14 h19
            obtain ⟨h1S, y0, hy2, e14⟩ := sv_pr1_ok (j := j) hIS hc4 hx2
            refine lv_aload_n (i := 0) hx hb dS_propose_43 rfl (sv_at hl rfl) ?_
            refine lv_iconst (v := 1) hx hb dS_propose_44 (by decide) ?_
            refine pS_moving X hP hJ hA hS dS_propose_45 (fun H locs hP hS => ?_)
            refine lv_aload (i := 4) hx hb dS_propose_48 (sv_at hl rfl) ?_
            refine lv_aload (i := 4) hx hb dS_propose_50 (sv_at hl rfl) ?_
            refine lv_iload_n (i := 3) hx hb dS_propose_52 rfl (sv_at hl rfl) ?_
            refine kS_valueToPropose X (by decide) hP hn (sv_IS_1 hIS) hj hl (Nat.zero_le _) (Nat.zero_le _) (Nat.le_of_ble_eq_true rfl) dS_propose_53 ?_
            refine pN_value X hP hJ hA hS (by omega) dS_propose_56 (fun H locs hP hS => ?_)
            refine lv_aload (i := 4) hx hb dS_propose_59 (sv_at hl rfl) ?_
            refine lv_iload_n (i := 2) hx hb dS_propose_61 rfl (sv_at hl rfl) ?_
            refine pN_counter X hP hJ hA hS (by omega) dS_propose_62 (fun H locs hP hS => ?_)
            refine lv_iconst (v := 1) hx hb dS_propose_65 (by decide) ?_
            refine lv_istore (i := 5) hx hb dS_propose_66 hl (by decide) rfl (fun ls hl => ?_)
            refine wS_propose_J X hJ hA hn hI hj hc4 hy2 h1S e14 (fun pc ls H locs hd hS hP => ?_) _ 0 H locs ls (Nat.lt_succ_self _) (Nat.zero_le _) hP hS (sv_re hl ⟨rfl, rfl, rfl, rfl, rfl, rfl, trivial⟩)
            have eC : sv_prC n σ (nI j) (nI cM) (nI x0) = true := by unfold sv_prC; rw [h5, decide_eq_true h10, decide_eq_true h14, decide_eq_true h19, nI_clamp (by omega), decide_eq_true h38]; rfl
            have eS : sv_prS n qc σ (nI j) (nI cM) (nI x0) = sv_set n qc j 49 (sv_vts (sv_pr1 σ j (nI cM) (nI x0)) j cM) := by unfold sv_prS; rw [eC, nI_clamp (by omega), nI_clamp (by omega)]; rfl
            exact x_tv (by unfold sv_prR; rw [eC, eS, nI_clamp (by omega)]; rfl) (ret _ _ _ _ hd hS (by rw [eS]; exact hP))
          · skip
            refine lv_iconst (v := -1) hx hb dS_propose_41 (by decide) ?_
            first | (have ee : ¬ σ 13 j < w := h38; exact x_tv (by unfold sv_prR sv_prC; rw [nI_clamp (by omega), decide_eq_false h38, Bool.and_false, Bool.and_false, Bool.and_false, Bool.and_false]; rfl) (ret _ _ _ _ dS_propose_42 hS (by unfold sv_prS sv_prC; rw [nI_clamp (by omega), decide_eq_false h38, Bool.and_false, Bool.and_false, Bool.and_false, Bool.and_false]; exact hP))) | (have ee : ¬ x < nI 3 := h19; exact x_tv (by unfold sv_prR sv_prC; rw [decide_eq_false h19, Bool.false_and, Bool.and_false, Bool.and_false, Bool.and_false]; rfl) (ret _ _ _ _ dS_propose_42 hS (by unfold sv_prS sv_prC; rw [decide_eq_false h19, Bool.false_and, Bool.and_false, Bool.and_false, Bool.and_false]; exact hP))) | (have ee : x < 0 := h14; exact x_tv (by unfold sv_prR sv_prC; rw [decide_eq_false (show ¬ ¬ x < 0 from fun q => q h14), Bool.false_and, Bool.and_false, Bool.and_false]; rfl) (ret _ _ _ _ dS_propose_42 hS (by unfold sv_prS sv_prC; rw [decide_eq_false (show ¬ ¬ x < 0 from fun q => q h14), Bool.false_and, Bool.and_false, Bool.and_false]; exact hP))) | (have ee : nI 4 < w := h10; exact x_tv (by unfold sv_prR sv_prC; rw [decide_eq_false (show ¬ ¬ nI 4 < w from fun q => q h10), Bool.false_and, Bool.and_false]; rfl) (ret _ _ _ _ dS_propose_42 hS (by unfold sv_prS sv_prC; rw [decide_eq_false (show ¬ ¬ nI 4 < w from fun q => q h10), Bool.false_and, Bool.and_false]; exact hP))) | (have ee : sv_wel n σ v = false := h5; exact x_tv (by unfold sv_prR sv_prC; rw [h5]; rfl) (ret _ _ _ _ dS_propose_42 hS (by unfold sv_prS sv_prC; rw [h5]; exact hP)))
        · skip
          refine lv_iconst (v := -1) hx hb dS_propose_22 (by decide) ?_
          first | (have ee : ¬ σ 13 j < w := h38; exact x_tv (by unfold sv_prR sv_prC; rw [nI_clamp (by omega), decide_eq_false h38, Bool.and_false, Bool.and_false, Bool.and_false, Bool.and_false]; rfl) (ret _ _ _ _ dS_propose_23 hS (by unfold sv_prS sv_prC; rw [nI_clamp (by omega), decide_eq_false h38, Bool.and_false, Bool.and_false, Bool.and_false, Bool.and_false]; exact hP))) | (have ee : ¬ x < nI 3 := h19; exact x_tv (by unfold sv_prR sv_prC; rw [decide_eq_false h19, Bool.false_and, Bool.and_false, Bool.and_false, Bool.and_false]; rfl) (ret _ _ _ _ dS_propose_23 hS (by unfold sv_prS sv_prC; rw [decide_eq_false h19, Bool.false_and, Bool.and_false, Bool.and_false, Bool.and_false]; exact hP))) | (have ee : x < 0 := h14; exact x_tv (by unfold sv_prR sv_prC; rw [decide_eq_false (show ¬ ¬ x < 0 from fun q => q h14), Bool.false_and, Bool.and_false, Bool.and_false]; rfl) (ret _ _ _ _ dS_propose_23 hS (by unfold sv_prS sv_prC; rw [decide_eq_false (show ¬ ¬ x < 0 from fun q => q h14), Bool.false_and, Bool.and_false, Bool.and_false]; exact hP))) | (have ee : nI 4 < w := h10; exact x_tv (by unfold sv_prR sv_prC; rw [decide_eq_false (show ¬ ¬ nI 4 < w from fun q => q h10), Bool.false_and, Bool.and_false]; rfl) (ret _ _ _ _ dS_propose_23 hS (by unfold sv_prS sv_prC; rw [decide_eq_false (show ¬ ¬ nI 4 < w from fun q => q h10), Bool.false_and, Bool.and_false]; exact hP))) | (have ee : sv_wel n σ v = false := h5; exact x_tv (by unfold sv_prR sv_prC; rw [h5]; rfl) (ret _ _ _ _ dS_propose_23 hS (by unfold sv_prS sv_prC; rw [h5]; exact hP)))

theorem cS_m_propose (hJ : sv_inj (3 + 3 * n + qc) ad) (hA : ∀ k, k < (3 + 3 * n + qc) → A (ad k)) {v w x : Int32} (hn : n ≤ 6) (hI : sv_IQ n qc σ) (hIS : sv_IS n σ) : Met l yS_propose (sv_ws yS_propose cS_propose 6 (some .int)) (sv_rm 10) (sv_Pc D cI cZ cN cQ [.ref (ad 0), .int v, .int w, .int x] (fun H => sv_cP D cI cN cQ n qc ad σ H)) (va_Qi (fun r u => r = sv_prR n qc σ v w x ∧ u = sv_prS n qc σ v w x) (fun u t => sv_cP D cI cN cQ n qc ad u t.heap) A) 0 0 A :=
  sv_mkI (S := Sg) (B := fun u H => sv_cP D cI cN cQ n qc ad u H) (by decide) (by show 4 ≤ 6; decide) (fun _ _ _ => rfl) (fun p e s m below meth c ls Q X hP hl ret => wS_propose X hP hJ hA va_S.rf hn hI hIS hl (fun pc ls H locs hd hS hP => ret pc ls _ _ H locs hd hS ⟨rfl, rfl⟩ hP))
theorem okL_S_propose : sv_okV "SliceVotingLaw" 36 yS_propose cS_propose 6 (some .int) 3 := ⟨sv_tb_t 159 rfl rfl, sv_tb_t 156 rfl rfl, sv_tb_t 157 rfl rfl, sv_tb_t 158 rfl rfl, sv_tb_t 1 rfl rfl, ⟨by decide, by decide, by decide +kernel⟩, by decide⟩
theorem kL_propose (X : sv_X D cI cZ cN cQ "SliceVotingLaw" cc nL k p R s m args c) (hk : 10 + 1 ≤ k) (hP : sv_cP D cI cN cQ n qc ad σ H) (hJ : sv_inj (3 + 3 * n + qc) ad) (hA : ∀ k, k < (3 + 3 * n + qc) → A (ad k)) (hS : va_S A H0 H locs) {v w x : Int32} (hn : n ≤ 6) (hI : sv_IQ n qc σ) (hIS : sv_IS n σ) (hl : lv_has ls nL lv) (hc : cells ≤ R.cells) (hs : slots ≤ R.slots) (hcat : (rest.map fun v => v.category).sum ≤ 8) (hd : decode cc pc = .ok (.invokevirtual 36, 3)) (kk : ∀ (H1 : Heap) (locs1 : List Loc), sv_cP D cI cN cQ n qc ad (sv_prS n qc σ v w x) H1 → va_S A H0 H1 locs1 → W p l e R s m args below meth c H1 locs1 cells slots Q (F0 m (pc + 3) ls (.int (sv_prR n qc σ v w x) :: rest))) : W p l e R s m args below meth c H locs cells slots Q (F0 m pc ls (.int x :: .int w :: .int v :: .ref (ad 0) :: rest)) :=
  sv_wVi (S := Sg) (G := fun H => sv_cP D cI cN cQ n qc ad σ H) (B := fun u H => sv_cP D cI cN cQ n qc ad u H) X okL_S_propose (cS_m_propose hJ hA hn hI hIS) hP (y_rec X.K hP (by omega) sv_ce_S rfl) hS hk rfl hl.1 rfl hcat hc hs hd (fun r u H1 locs1 hp hB hS => by obtain ⟨rfl, rfl⟩ := hp; exact kk H1 locs1 hB hS)
end SvPropose
end
section
section SvModel1
variable {p : Program} {l : Launch} {e : Env} {R : Room} {s : State} {m : MethodId} {args : Array Value} {below : List Frame} {meth : Method} {c : Code} {H H0 : Heap} {locs : List Loc} {cells slots : Nat} {Q : State → Prop}
variable {cc : ByteArray} {pc nL k : Nat} {ls : Array Slot} {lv : List (Nat × Value)} {rest : List Value} {D : va_G} {cI cZ cN cQ : ClassId} {n qc : Nat} {ad : Nat → Nat} {σ : Sg} {A : Nat → Prop} {mt qm : Nat → Int32}
set_option maxHeartbeats 4000000 in
set_option maxRecDepth 100000 in
theorem wM_isNode (X : sv_X D cI cZ cN cQ "SliceVotingModel" cM_isNode 2 1 p R s m args c) (hP : sv_mP D cI cZ n qc ad σ mt qm H) {v : Int32}  (hl : lv_has ls 2 [(0, .ref (ad 0)), (1, .int v)]) (ret : ∀ (pc : Nat) (ls : Array Slot), decode cM_isNode pc = .ok (.ireturn, 1) → W p l e R s m args below meth c H locs 0 0 Q (F0 m pc ls [.int (sv_b (sv_isn n v))])) : W p l e R s m args below meth c H locs 0 0 Q (F0 m 0 ls []) := by
  have hx := X.1
  have hb := X.2.1
  refine lv_iload_n (i := 1) hx hb dM_isNode_0 rfl (sv_at hl rfl) ?_
  refine lv_if_lt (tgt := 16) hx hb dM_isNode_1 rfl (fun h1 => ?_) (fun h1 => ?_)
  · skip
    refine lv_iconst (v := 0) hx hb dM_isNode_16 (by decide) ?_
    exact x_tv (by unfold sv_isn; simp_all [sv_b]) (ret _ _ dM_isNode_17)
  · skip
    refine lv_iload_n (i := 1) hx hb dM_isNode_4 rfl (sv_at hl rfl) ?_
    refine lv_aload_n (i := 0) hx hb dM_isNode_5 rfl (sv_at hl rfl) ?_
    refine gM_nodes X hP dM_isNode_6 ?_
    refine lv_icmp_ge (tgt := 16) hx hb dM_isNode_9 rfl (fun h9 => ?_) (fun h9 => ?_)
    · skip
      refine lv_iconst (v := 0) hx hb dM_isNode_16 (by decide) ?_
      exact x_tv (by unfold sv_isn; simp_all [sv_b]) (ret _ _ dM_isNode_17)
    · skip
      refine lv_iconst (v := 1) hx hb dM_isNode_12 (by decide) ?_
      refine lv_goto (tgt := 17) hx hb dM_isNode_13 rfl ?_
      exact x_tv (by unfold sv_isn; simp_all [sv_b]) (ret _ _ dM_isNode_17)

theorem cM_m_isNode {v : Int32}  : Met l yM_isNode (sv_ws yM_isNode cM_isNode 2 (some .boolean)) (sv_rm 1) (sv_Pc D cI cZ cN cQ [.ref (ad 0), .int v] (fun H => sv_mP D cI cZ n qc ad σ mt qm H)) (vp_Si (fun zz => zz = sv_b (sv_isn n v))) 0 0 (fun _ => False) :=
  sv_mkR (by decide) (by show 2 ≤ 2; decide) (sv_narb _) (fun p e s m below meth c ls Q X hP hl ret => wM_isNode X hP  hl ret)
theorem okM_M_isNode : sv_okV "SliceVotingModel" 63 yM_isNode cM_isNode 2 (some .boolean) 1 := ⟨sv_tb_t 378 rfl rfl, sv_tb_t 375 rfl rfl, sv_tb_t 377 rfl rfl, sv_tb_s 17 rfl rfl, sv_tb_t 4 rfl rfl, ⟨by decide, by decide, by decide +kernel⟩, by decide⟩
theorem kM_isNode (X : sv_X D cI cZ cN cQ "SliceVotingModel" cc nL k p R s m args c) (hk : 1 + 1 ≤ k) (hP : sv_mP D cI cZ n qc ad σ mt qm H) {v : Int32}  (hl : lv_has ls nL lv) (hc : cells ≤ R.cells) (hs : slots ≤ R.slots) (hcat : (rest.map fun v => v.category).sum ≤ 8) (hd : decode cc pc = .ok (.invokevirtual 63, 3)) (kk : W p l e R s m args below meth c H locs cells slots Q (F0 m (pc + 3) ls (.int (sv_b (sv_isn n v)) :: rest))) : W p l e R s m args below meth c H locs cells slots Q (F0 m pc ls (.int v :: .ref (ad 0) :: rest)) :=
  sv_cV (G := fun H => sv_mP D cI cZ n qc ad σ mt qm H) X okM_M_isNode (cM_m_isNode ) hP (y_rec X.K hP (by decide) sv_me_0 rfl) hk rfl hl.1 rfl hcat hc hs hd kk
theorem sv_wel_9 {n : Nat} {σ : Sg} {j : Nat} (hn : n ≤ 24) (h : j < n) (h9 : ¬ σ 9 j = 0) : sv_wel n σ (nI j) = false := by
  rw [sv_wel_nI hn h]
  exact beq_eq_false_iff_ne.mpr h9
theorem sv_wel_8 {n : Nat} {σ : Sg} {j : Nat} (hn : n ≤ 24) (h : j < n) (h9 : σ 9 j = 0) : sv_wel n σ (nI j) = true := by
  rw [sv_wel_nI hn h, h9]
  rfl
theorem sv_wel_7 {n : Nat} {σ : Sg} {v : Int32} (h : sv_isn n v = false) : sv_wel n σ v = false := by
  unfold sv_wel
  rw [h]
  rfl
set_option maxHeartbeats 4000000 in
set_option maxRecDepth 100000 in
theorem wM_well (X : sv_X D cI cZ cN cQ "SliceVotingModel" cM_well 2 2 p R s m args c) (hP : sv_mP D cI cZ n qc ad σ mt qm H) {v : Int32} (hn : n ≤ 6) (hl : lv_has ls 2 [(0, .ref (ad 0)), (1, .int v)]) (ret : ∀ (pc : Nat) (ls : Array Slot), decode cM_well pc = .ok (.ireturn, 1) → W p l e R s m args below meth c H locs 0 0 Q (F0 m pc ls [.int (sv_b (sv_wel n σ v))])) : W p l e R s m args below meth c H locs 0 0 Q (F0 m 0 ls []) := by
  have hx := X.1
  have hb := X.2.1
  refine lv_aload_n (i := 0) hx hb dM_well_0 rfl (sv_at hl rfl) ?_
  refine lv_iload_n (i := 1) hx hb dM_well_1 rfl (sv_at hl rfl) ?_
  refine kM_isNode X (by decide) hP  hl (Nat.zero_le _) (Nat.zero_le _) (Nat.le_of_ble_eq_true rfl) dM_well_2 ?_
  refine x_ifeqB (tgt := 21) hx hb dM_well_5 rfl (fun h5 => ?_) (fun h5 => ?_)
  · skip
    refine lv_iconst (v := 0) hx hb dM_well_21 (by decide) ?_
    first | (have ee : ¬ σ 9 j = 0 := h14; exact x_tv (by rw [sv_wel_9 (by omega) hj ee]; rfl) (ret _ _ dM_well_22)) | (have ee : σ 9 j = 0 := h14; exact x_tv (by rw [sv_wel_8 (by omega) hj ee]; rfl) (ret _ _ dM_well_22)) | exact x_tv (by rw [sv_wel_7 h5]; rfl) (ret _ _ dM_well_22)
  · skip
    obtain ⟨j, hj, rfl⟩ := sv_isn_t (by omega) h5
    refine lv_aload_n (i := 0) hx hb dM_well_8 rfl (sv_at hl rfl) ?_
    refine gM_ill X hP dM_well_9 ?_
    refine lv_iload_n (i := 1) hx hb dM_well_12 rfl (sv_at hl rfl) ?_
    refine gm_ill X hP (by omega) dM_well_13 ?_
    refine lv_if_ne (tgt := 21) hx hb dM_well_14 rfl (fun h14 => ?_) (fun h14 => ?_)
    · skip
      refine lv_iconst (v := 0) hx hb dM_well_21 (by decide) ?_
      first | (have ee : ¬ σ 9 j = 0 := h14; exact x_tv (by rw [sv_wel_9 (by omega) hj ee]; rfl) (ret _ _ dM_well_22)) | (have ee : σ 9 j = 0 := h14; exact x_tv (by rw [sv_wel_8 (by omega) hj ee]; rfl) (ret _ _ dM_well_22)) | exact x_tv (by rw [sv_wel_7 h5]; rfl) (ret _ _ dM_well_22)
    · skip
      refine lv_iconst (v := 1) hx hb dM_well_17 (by decide) ?_
      refine lv_goto (tgt := 22) hx hb dM_well_18 rfl ?_
      first | (have ee : ¬ σ 9 j = 0 := h14; exact x_tv (by rw [sv_wel_9 (by omega) hj ee]; rfl) (ret _ _ dM_well_22)) | (have ee : σ 9 j = 0 := h14; exact x_tv (by rw [sv_wel_8 (by omega) hj ee]; rfl) (ret _ _ dM_well_22)) | exact x_tv (by rw [sv_wel_7 h5]; rfl) (ret _ _ dM_well_22)

theorem cM_m_well {v : Int32} (hn : n ≤ 6) : Met l yM_well (sv_ws yM_well cM_well 2 (some .boolean)) (sv_rm 2) (sv_Pc D cI cZ cN cQ [.ref (ad 0), .int v] (fun H => sv_mP D cI cZ n qc ad σ mt qm H)) (vp_Si (fun zz => zz = sv_b (sv_wel n σ v))) 0 0 (fun _ => False) :=
  sv_mkR (by decide) (by show 2 ≤ 2; decide) (sv_narb _) (fun p e s m below meth c ls Q X hP hl ret => wM_well X hP hn hl ret)
theorem okM_M_well : sv_okV "SliceVotingModel" 92 yM_well cM_well 2 (some .boolean) 1 := ⟨sv_tb_t 419 rfl rfl, sv_tb_t 416 rfl rfl, sv_tb_t 418 rfl rfl, sv_tb_s 22 rfl rfl, sv_tb_t 4 rfl rfl, ⟨by decide, by decide, by decide +kernel⟩, by decide⟩
theorem kM_well (X : sv_X D cI cZ cN cQ "SliceVotingModel" cc nL k p R s m args c) (hk : 2 + 1 ≤ k) (hP : sv_mP D cI cZ n qc ad σ mt qm H) {v : Int32} (hn : n ≤ 6) (hl : lv_has ls nL lv) (hc : cells ≤ R.cells) (hs : slots ≤ R.slots) (hcat : (rest.map fun v => v.category).sum ≤ 8) (hd : decode cc pc = .ok (.invokevirtual 92, 3)) (kk : W p l e R s m args below meth c H locs cells slots Q (F0 m (pc + 3) ls (.int (sv_b (sv_wel n σ v)) :: rest))) : W p l e R s m args below meth c H locs cells slots Q (F0 m pc ls (.int v :: .ref (ad 0) :: rest)) :=
  sv_cV (G := fun H => sv_mP D cI cZ n qc ad σ mt qm H) X okM_M_well (cM_m_well hn) hP (y_rec X.K hP (by decide) sv_me_0 rfl) hk rfl hl.1 rfl hcat hc hs hd kk
set_option maxHeartbeats 4000000 in
set_option maxRecDepth 100000 in
theorem wM_isSet (X : sv_X D cI cZ cN cQ "SliceVotingModel" cM_isSet 2 1 p R s m args c) (hP : sv_mP D cI cZ n qc ad σ mt qm H) {x : Int32} (hn : n ≤ 6) (hl : lv_has ls 2 [(0, .ref (ad 0)), (1, .int x)]) (ret : ∀ (pc : Nat) (ls : Array Slot), decode cM_isSet pc = .ok (.ireturn, 1) → W p l e R s m args below meth c H locs 0 0 Q (F0 m pc ls [.int (sv_b (decide (sv_N x < 2 ^ n)))])) : W p l e R s m args below meth c H locs 0 0 Q (F0 m 0 ls []) := by
  have hx := X.1
  have hb := X.2.1
  refine lv_iload_n (i := 1) hx hb dM_isSet_0 rfl (sv_at hl rfl) ?_
  refine lv_if_lt (tgt := 18) hx hb dM_isSet_1 rfl (fun h1 => ?_) (fun h1 => ?_)
  · skip
    refine lv_iconst (v := 0) hx hb dM_isSet_18 (by decide) ?_
    first | (have ee : nI (2 ^ n) ≤ x := h11; exact x_tv (by rw [decide_eq_false (fun q => Int32.not_lt.mpr ee ((sv_isset hn x).mpr q).2)]; rfl) (ret _ _ dM_isSet_19)) | (have ee : ¬ nI (2 ^ n) ≤ x := h11; exact x_tv (by rw [decide_eq_true ((sv_isset hn x).mp ⟨Int32.not_lt.mp h1, Int32.not_le.mp ee⟩)]; rfl) (ret _ _ dM_isSet_19)) | (have ee : x < 0 := h1; exact x_tv (by rw [decide_eq_false (fun q => Int32.not_lt.mpr ((sv_isset hn x).mpr q).1 ee)]; rfl) (ret _ _ dM_isSet_19))
  · skip
    refine lv_iload_n (i := 1) hx hb dM_isSet_4 rfl (sv_at hl rfl) ?_
    refine lv_iconst (v := 1) hx hb dM_isSet_5 (by decide) ?_
    refine lv_aload_n (i := 0) hx hb dM_isSet_6 rfl (sv_at hl rfl) ?_
    refine gM_nodes X hP dM_isSet_7 ?_
    refine lv_ishl hx hb dM_isSet_10 ?_
    refine x_tv (sv_pow n (by omega)) ?_
    refine lv_icmp_ge (tgt := 18) hx hb dM_isSet_11 rfl (fun h11 => ?_) (fun h11 => ?_)
    · skip
      refine lv_iconst (v := 0) hx hb dM_isSet_18 (by decide) ?_
      first | (have ee : nI (2 ^ n) ≤ x := h11; exact x_tv (by rw [decide_eq_false (fun q => Int32.not_lt.mpr ee ((sv_isset hn x).mpr q).2)]; rfl) (ret _ _ dM_isSet_19)) | (have ee : ¬ nI (2 ^ n) ≤ x := h11; exact x_tv (by rw [decide_eq_true ((sv_isset hn x).mp ⟨Int32.not_lt.mp h1, Int32.not_le.mp ee⟩)]; rfl) (ret _ _ dM_isSet_19)) | (have ee : x < 0 := h1; exact x_tv (by rw [decide_eq_false (fun q => Int32.not_lt.mpr ((sv_isset hn x).mpr q).1 ee)]; rfl) (ret _ _ dM_isSet_19))
    · skip
      refine lv_iconst (v := 1) hx hb dM_isSet_14 (by decide) ?_
      refine lv_goto (tgt := 19) hx hb dM_isSet_15 rfl ?_
      first | (have ee : nI (2 ^ n) ≤ x := h11; exact x_tv (by rw [decide_eq_false (fun q => Int32.not_lt.mpr ee ((sv_isset hn x).mpr q).2)]; rfl) (ret _ _ dM_isSet_19)) | (have ee : ¬ nI (2 ^ n) ≤ x := h11; exact x_tv (by rw [decide_eq_true ((sv_isset hn x).mp ⟨Int32.not_lt.mp h1, Int32.not_le.mp ee⟩)]; rfl) (ret _ _ dM_isSet_19)) | (have ee : x < 0 := h1; exact x_tv (by rw [decide_eq_false (fun q => Int32.not_lt.mpr ((sv_isset hn x).mpr q).1 ee)]; rfl) (ret _ _ dM_isSet_19))

theorem cM_m_isSet {x : Int32} (hn : n ≤ 6) : Met l yM_isSet (sv_ws yM_isSet cM_isSet 2 (some .boolean)) (sv_rm 1) (sv_Pc D cI cZ cN cQ [.ref (ad 0), .int x] (fun H => sv_mP D cI cZ n qc ad σ mt qm H)) (vp_Si (fun zz => zz = sv_b (decide (sv_N x < 2 ^ n)))) 0 0 (fun _ => False) :=
  sv_mkR (by decide) (by show 2 ≤ 2; decide) (sv_narb _) (fun p e s m below meth c ls Q X hP hl ret => wM_isSet X hP hn hl ret)
theorem okM_M_isSet : sv_okV "SliceVotingModel" 78 yM_isSet cM_isSet 2 (some .boolean) 1 := ⟨sv_tb_t 394 rfl rfl, sv_tb_t 391 rfl rfl, sv_tb_t 393 rfl rfl, sv_tb_s 19 rfl rfl, sv_tb_t 4 rfl rfl, ⟨by decide, by decide, by decide +kernel⟩, by decide⟩
theorem kM_isSet (X : sv_X D cI cZ cN cQ "SliceVotingModel" cc nL k p R s m args c) (hk : 1 + 1 ≤ k) (hP : sv_mP D cI cZ n qc ad σ mt qm H) {x : Int32} (hn : n ≤ 6) (hl : lv_has ls nL lv) (hc : cells ≤ R.cells) (hs : slots ≤ R.slots) (hcat : (rest.map fun v => v.category).sum ≤ 8) (hd : decode cc pc = .ok (.invokevirtual 78, 3)) (kk : W p l e R s m args below meth c H locs cells slots Q (F0 m (pc + 3) ls (.int (sv_b (decide (sv_N x < 2 ^ n))) :: rest))) : W p l e R s m args below meth c H locs cells slots Q (F0 m pc ls (.int x :: .ref (ad 0) :: rest)) :=
  sv_cV (G := fun H => sv_mP D cI cZ n qc ad σ mt qm H) X okM_M_isSet (cM_m_isSet hn) hP (y_rec X.K hP (by decide) sv_me_0 rfl) hk rfl hl.1 rfl hcat hc hs hd kk
set_option maxHeartbeats 4000000 in
set_option maxRecDepth 100000 in
theorem wM_top (X : sv_X D cI cZ cN cQ "SliceVotingModel" cM_top 4 1 p R s m args c) (hP : sv_mP D cI cZ n qc ad σ mt qm H) {v : Nat} (hq24 : qc ≤ 24) (hl : lv_has ls 4 [(0, .ref (ad 0)), (1, .int (nI v))]) (ret : ∀ (pc : Nat) (ls : Array Slot), decode cM_top pc = .ok (.ireturn, 1) → W p l e R s m args below meth c H locs 0 0 Q (F0 m pc ls [.int (sv_oI (sv_top σ qc v))])) : W p l e R s m args below meth c H locs 0 0 Q (F0 m 0 ls []) := by
  have hx := X.1
  have hb := X.2.1
  have J4 : ∀ (kf : Nat) (i : Nat) (ls : Array Slot), qc - i < kf → (i ≤ qc) → lv_has ls 4 [(0, .ref (ad 0)), (1, .int (nI v)), (2, .int (sv_oI (sv_last (fun q => (σ 3 q == nI v) && (σ 4 q == -1)) i))), (3, .int (nI i))] → W p l e R s m args below meth c H locs 0 0 Q (F0 m 4 ls []) := by
    intro kf
    induction kf with
    | zero => intro i ls hm; exact absurd hm (Nat.not_lt_zero _)
    | succ kf ih =>
      intro i ls hm hi hl
      refine lv_iload_n (i := 3) hx hb dM_top_4 rfl (sv_at hl rfl) ?_
      refine lv_aload_n (i := 0) hx hb dM_top_5 rfl (sv_at hl rfl) ?_
      refine gM_quotas X hP dM_top_6 ?_
      refine lv_icmp_ge (tgt := 44) hx hb dM_top_9 rfl (fun h9 => ?_) (fun h9 => ?_)
      · skip
        rw [nI_leI (by omega) (by omega)] at h9
        obtain rfl : i = qc := by omega
        refine lv_iload_n (i := 2) hx hb dM_top_44 rfl (sv_at hl rfl) ?_
        exact ret _ _ dM_top_45
      · skip
        rw [nI_leI (by omega) (by omega)] at h9
        refine lv_aload_n (i := 0) hx hb dM_top_12 rfl (sv_at hl rfl) ?_
        refine gM_owner X hP dM_top_13 ?_
        refine lv_iload_n (i := 3) hx hb dM_top_16 rfl (sv_at hl rfl) ?_
        refine gm_owner X hP (by omega) dM_top_17 ?_
        refine lv_iload_n (i := 1) hx hb dM_top_18 rfl (sv_at hl rfl) ?_
        refine lv_icmp_ne (tgt := 36) hx hb dM_top_19 rfl (fun h19 => ?_) (fun h19 => ?_)
        · skip
          refine lv_iload_n (i := 2) hx hb dM_top_36 rfl (sv_at hl rfl) ?_
          refine x_tv (y := sv_oI (sv_last (fun q => (σ 3 q == nI v) && (σ 4 q == -1)) (i + 1))) (by first | (have ee : ¬ σ 4 i = -1 := h29; rw [sv_last_f (by rw [show (σ 4 i == -1) = false from beq_eq_false_iff_ne.mpr ee, Bool.and_false])]) | (have ee : σ 4 i = -1 := h29; rw [sv_last_t (by rw [show (σ 3 i == nI v) = true from beq_iff_eq.mpr h19, show (σ 4 i == -1) = true from beq_iff_eq.mpr ee]; rfl)]; rfl) | (have ee : ¬ σ 3 i = nI v := h19; rw [sv_last_f (by rw [show (σ 3 i == nI v) = false from beq_eq_false_iff_ne.mpr ee]; rfl)])) ?_
          refine lv_istore_n (i := 2) hx hb dM_top_37 rfl hl (by decide) rfl (fun ls hl => ?_)
          refine x_iinc (i := 3) hx hb dM_top_38 hl rfl (sv_inc i) (by decide) (fun ls hl => ?_)
          refine lv_goto (tgt := 4) hx hb dM_top_41 rfl ?_
          exact ih (i + 1) ls (by omega) (by omega) (sv_re hl ⟨rfl, rfl, rfl, rfl, trivial⟩)
        · skip
          refine lv_aload_n (i := 0) hx hb dM_top_22 rfl (sv_at hl rfl) ?_
          refine gM_around X hP dM_top_23 ?_
          refine lv_iload_n (i := 3) hx hb dM_top_26 rfl (sv_at hl rfl) ?_
          refine gm_around X hP (by omega) dM_top_27 ?_
          refine lv_iconst (v := -1) hx hb dM_top_28 (by decide) ?_
          refine lv_icmp_ne (tgt := 36) hx hb dM_top_29 rfl (fun h29 => ?_) (fun h29 => ?_)
          · skip
            refine lv_iload_n (i := 2) hx hb dM_top_36 rfl (sv_at hl rfl) ?_
            refine x_tv (y := sv_oI (sv_last (fun q => (σ 3 q == nI v) && (σ 4 q == -1)) (i + 1))) (by first | (have ee : ¬ σ 4 i = -1 := h29; rw [sv_last_f (by rw [show (σ 4 i == -1) = false from beq_eq_false_iff_ne.mpr ee, Bool.and_false])]) | (have ee : σ 4 i = -1 := h29; rw [sv_last_t (by rw [show (σ 3 i == nI v) = true from beq_iff_eq.mpr h19, show (σ 4 i == -1) = true from beq_iff_eq.mpr ee]; rfl)]; rfl) | (have ee : ¬ σ 3 i = nI v := h19; rw [sv_last_f (by rw [show (σ 3 i == nI v) = false from beq_eq_false_iff_ne.mpr ee]; rfl)])) ?_
            refine lv_istore_n (i := 2) hx hb dM_top_37 rfl hl (by decide) rfl (fun ls hl => ?_)
            refine x_iinc (i := 3) hx hb dM_top_38 hl rfl (sv_inc i) (by decide) (fun ls hl => ?_)
            refine lv_goto (tgt := 4) hx hb dM_top_41 rfl ?_
            exact ih (i + 1) ls (by omega) (by omega) (sv_re hl ⟨rfl, rfl, rfl, rfl, trivial⟩)
          · skip
            refine lv_iload_n (i := 3) hx hb dM_top_32 rfl (sv_at hl rfl) ?_
            refine lv_goto (tgt := 37) hx hb dM_top_33 rfl ?_
            refine x_tv (y := sv_oI (sv_last (fun q => (σ 3 q == nI v) && (σ 4 q == -1)) (i + 1))) (by first | (have ee : ¬ σ 4 i = -1 := h29; rw [sv_last_f (by rw [show (σ 4 i == -1) = false from beq_eq_false_iff_ne.mpr ee, Bool.and_false])]) | (have ee : σ 4 i = -1 := h29; rw [sv_last_t (by rw [show (σ 3 i == nI v) = true from beq_iff_eq.mpr h19, show (σ 4 i == -1) = true from beq_iff_eq.mpr ee]; rfl)]; rfl) | (have ee : ¬ σ 3 i = nI v := h19; rw [sv_last_f (by rw [show (σ 3 i == nI v) = false from beq_eq_false_iff_ne.mpr ee]; rfl)])) ?_
            refine lv_istore_n (i := 2) hx hb dM_top_37 rfl hl (by decide) rfl (fun ls hl => ?_)
            refine x_iinc (i := 3) hx hb dM_top_38 hl rfl (sv_inc i) (by decide) (fun ls hl => ?_)
            refine lv_goto (tgt := 4) hx hb dM_top_41 rfl ?_
            exact ih (i + 1) ls (by omega) (by omega) (sv_re hl ⟨rfl, rfl, rfl, rfl, trivial⟩)
  refine lv_iconst (v := -1) hx hb dM_top_0 (by decide) ?_
  refine lv_istore_n (i := 2) hx hb dM_top_1 rfl hl (by decide) rfl (fun ls hl => ?_)
  refine lv_iconst (v := 0) hx hb dM_top_2 (by decide) ?_
  refine lv_istore_n (i := 3) hx hb dM_top_3 rfl hl (by decide) rfl (fun ls hl => ?_)
  exact J4 _ 0 ls (Nat.lt_succ_self _) (Nat.zero_le _) (sv_re hl ⟨rfl, rfl, rfl, rfl, trivial⟩)

theorem cM_m_top {v : Nat} (hq24 : qc ≤ 24) : Met l yM_top (sv_ws yM_top cM_top 4 (some .int)) (sv_rm 1) (sv_Pc D cI cZ cN cQ [.ref (ad 0), .int (nI v)] (fun H => sv_mP D cI cZ n qc ad σ mt qm H)) (vp_Si (fun zz => zz = sv_oI (sv_top σ qc v))) 0 0 (fun _ => False) :=
  sv_mkR (by decide) (by show 2 ≤ 4; decide) rfl (fun p e s m below meth c ls Q X hP hl ret => wM_top X hP hq24 hl ret)
theorem okM_M_top : sv_okV "SliceVotingModel" 74 yM_top cM_top 4 (some .int) 1 := ⟨sv_tb_t 382 rfl rfl, sv_tb_t 379 rfl rfl, sv_tb_t 381 rfl rfl, sv_tb_s 18 rfl rfl, sv_tb_t 4 rfl rfl, ⟨by decide, by decide, by decide +kernel⟩, by decide⟩
theorem kM_top (X : sv_X D cI cZ cN cQ "SliceVotingModel" cc nL k p R s m args c) (hk : 1 + 1 ≤ k) (hP : sv_mP D cI cZ n qc ad σ mt qm H) {v : Nat} (hq24 : qc ≤ 24) (hl : lv_has ls nL lv) (hc : cells ≤ R.cells) (hs : slots ≤ R.slots) (hcat : (rest.map fun v => v.category).sum ≤ 8) (hd : decode cc pc = .ok (.invokevirtual 74, 3)) (kk : W p l e R s m args below meth c H locs cells slots Q (F0 m (pc + 3) ls (.int (sv_oI (sv_top σ qc v)) :: rest))) : W p l e R s m args below meth c H locs cells slots Q (F0 m pc ls (.int (nI v) :: .ref (ad 0) :: rest)) :=
  sv_cV (G := fun H => sv_mP D cI cZ n qc ad σ mt qm H) X okM_M_top (cM_m_top hq24) hP (y_rec X.K hP (by decide) sv_me_0 rfl) hk rfl hl.1 rfl hcat hc hs hd kk
theorem sv_con_1 : ∀ s, s < 24 → ∀ t, t < 24 → s < 12 → t < 12 → sv_con s t = false := by decide +kernel
theorem sv_con_2 : ∀ s, s < 24 → ∀ t, t < 24 → 12 ≤ s → 12 ≤ t → sv_con s t = decide (s % 3 ≠ t % 3) := by decide +kernel
theorem sv_con_3 : ∀ s, s < 24 → ∀ t, t < 24 → 12 ≤ s → t < 12 → sv_con s t = (decide (s - 12 < t) && decide (t % 3 ≠ (s - 12) % 3)) := by decide +kernel
theorem sv_con_4 : ∀ s, s < 24 → ∀ t, t < 24 → s < 12 → 12 ≤ t → sv_con s t = (decide (t - 12 < s) && decide (s % 3 ≠ (t - 12) % 3)) := by decide +kernel
set_option maxHeartbeats 4000000 in
set_option maxRecDepth 100000 in
theorem wM_contradict (X : sv_X D cI cZ cN cQ "SliceVotingModel" cM_contradict 5 1 p R s m args c) (hP : sv_mP D cI cZ n qc ad σ mt qm H) {a b : Nat} (ha : a < 24) (hb2 : b < 24) (hl : lv_has ls 5 [(0, .ref (ad 0)), (1, .int (nI a)), (2, .int (nI b))]) (ret : ∀ (pc : Nat) (ls : Array Slot), decode cM_contradict pc = .ok (.ireturn, 1) → W p l e R s m args below meth c H locs 0 0 Q (F0 m pc ls [.int (sv_b (sv_con a b))])) : W p l e R s m args below meth c H locs 0 0 Q (F0 m 0 ls []) := by
  have hx := X.1
  have hb := X.2.1
  refine lv_iload_n (i := 1) hx hb dM_contradict_0 rfl (sv_at hl rfl) ?_
  refine lv_bipush (v := nI 12) hx hb dM_contradict_1 (by decide) ?_
  refine lv_icmp_ge (tgt := 14) hx hb dM_contradict_3 rfl (fun h3 => ?_) (fun h3 => ?_)
  · skip
    rw [nI_leI (by omega) (by omega)] at h3
    refine lv_iload_n (i := 1) hx hb dM_contradict_14 rfl (sv_at hl rfl) ?_
    refine lv_bipush (v := nI 12) hx hb dM_contradict_15 (by decide) ?_
    refine lv_icmp_lt (tgt := 41) hx hb dM_contradict_17 rfl (fun h17 => ?_) (fun h17 => ?_)
    · skip
      rw [nI_ltI (by omega) (by omega)] at h17
      refine lv_iload_n (i := 1) hx hb dM_contradict_41 rfl (sv_at hl rfl) ?_
      refine lv_bipush (v := nI 12) hx hb dM_contradict_42 (by decide) ?_
      refine lv_icmp_lt (tgt := 54) hx hb dM_contradict_44 rfl (fun h44 => ?_) (fun h44 => ?_)
      · skip
        rw [nI_ltI (by omega) (by omega)] at h44
        refine lv_iload_n (i := 2) hx hb dM_contradict_54 rfl (sv_at hl rfl) ?_
        refine lv_bipush (v := nI 12) hx hb dM_contradict_55 (by decide) ?_
        refine lv_isub hx hb dM_contradict_57 ?_
        first | refine x_tv (pk_sub (a := a) (b := 12) (by omega)) ?_ | refine x_tv (pk_sub (a := b) (b := 12) (by omega)) ?_
        refine lv_istore_n (i := 3) hx hb dM_contradict_58 rfl hl (by decide) rfl (fun ls hl => ?_)
        refine lv_iload_n (i := 1) hx hb dM_contradict_59 rfl (sv_at hl rfl) ?_
        refine lv_bipush (v := nI 12) hx hb dM_contradict_60 (by decide) ?_
        refine lv_icmp_lt (tgt := 69) hx hb dM_contradict_62 rfl (fun h62 => ?_) (fun h62 => ?_)
        · skip
          rw [nI_ltI (by omega) (by omega)] at h62
          refine lv_iload_n (i := 1) hx hb dM_contradict_69 rfl (sv_at hl rfl) ?_
          refine lv_istore (i := 4) hx hb dM_contradict_70 hl (by decide) rfl (fun ls hl => ?_)
          refine lv_iload (i := 4) hx hb dM_contradict_72 (sv_at hl rfl) ?_
          refine lv_iload_n (i := 3) hx hb dM_contradict_74 rfl (sv_at hl rfl) ?_
          refine lv_icmp_le (tgt := 92) hx hb dM_contradict_75 rfl (fun h75 => ?_) (fun h75 => ?_)
          · skip
            rw [nI_leI (by omega) (by omega)] at h75
            refine lv_iconst (v := 0) hx hb dM_contradict_92 (by decide) ?_
            exact x_tv (by clear ret hl hx hb X hP; rcases Nat.lt_or_ge a 12 with q1 | q1 <;> rcases Nat.lt_or_ge b 12 with q2 | q2 <;> first | omega | (rw [sv_con_1 a ha b hb2 q1 q2]; first | rfl | omega) | (rw [sv_con_2 a ha b hb2 q1 q2]; first | (rw [decide_eq_true (by omega)]; rfl) | (rw [decide_eq_false (by omega)]; rfl)) | (rw [sv_con_3 a ha b hb2 q1 q2]; first | (rw [decide_eq_true (by omega), decide_eq_true (by omega)]; rfl) | (rw [decide_eq_false (show ¬ a - 12 < b by omega)]; rfl) | (rw [decide_eq_false (show ¬ b % 3 ≠ (a - 12) % 3 by omega), Bool.and_false]; rfl)) | (rw [sv_con_4 a ha b hb2 q1 q2]; first | (rw [decide_eq_true (by omega), decide_eq_true (by omega)]; rfl) | (rw [decide_eq_false (show ¬ b - 12 < a by omega)]; rfl) | (rw [decide_eq_false (show ¬ a % 3 ≠ (b - 12) % 3 by omega), Bool.and_false]; rfl))) (ret _ _ dM_contradict_93)
          · skip
            rw [nI_leI (by omega) (by omega)] at h75
            refine lv_iload (i := 4) hx hb dM_contradict_78 (sv_at hl rfl) ?_
            refine lv_iconst (v := nI 3) hx hb dM_contradict_80 (by decide) ?_
            refine lv_irem hx hb dM_contradict_81 (by decide) ?_
            refine lv_iload_n (i := 3) hx hb dM_contradict_82 rfl (sv_at hl rfl) ?_
            refine lv_iconst (v := nI 3) hx hb dM_contradict_83 (by decide) ?_
            refine lv_irem hx hb dM_contradict_84 (by decide) ?_
            refine lv_icmp_eq (tgt := 92) hx hb dM_contradict_85 rfl (fun h85 => ?_) (fun h85 => ?_)
            · skip
              rw [pk_rem (by omega) (by decide) (by decide), pk_rem (by omega) (by decide) (by decide), nI_eq (by omega) (by omega)] at h85
              refine lv_iconst (v := 0) hx hb dM_contradict_92 (by decide) ?_
              exact x_tv (by clear ret hl hx hb X hP; rcases Nat.lt_or_ge a 12 with q1 | q1 <;> rcases Nat.lt_or_ge b 12 with q2 | q2 <;> first | omega | (rw [sv_con_1 a ha b hb2 q1 q2]; first | rfl | omega) | (rw [sv_con_2 a ha b hb2 q1 q2]; first | (rw [decide_eq_true (by omega)]; rfl) | (rw [decide_eq_false (by omega)]; rfl)) | (rw [sv_con_3 a ha b hb2 q1 q2]; first | (rw [decide_eq_true (by omega), decide_eq_true (by omega)]; rfl) | (rw [decide_eq_false (show ¬ a - 12 < b by omega)]; rfl) | (rw [decide_eq_false (show ¬ b % 3 ≠ (a - 12) % 3 by omega), Bool.and_false]; rfl)) | (rw [sv_con_4 a ha b hb2 q1 q2]; first | (rw [decide_eq_true (by omega), decide_eq_true (by omega)]; rfl) | (rw [decide_eq_false (show ¬ b - 12 < a by omega)]; rfl) | (rw [decide_eq_false (show ¬ a % 3 ≠ (b - 12) % 3 by omega), Bool.and_false]; rfl))) (ret _ _ dM_contradict_93)
            · skip
              rw [pk_rem (by omega) (by decide) (by decide), pk_rem (by omega) (by decide) (by decide), nI_eq (by omega) (by omega)] at h85
              refine lv_iconst (v := 1) hx hb dM_contradict_88 (by decide) ?_
              refine lv_goto (tgt := 93) hx hb dM_contradict_89 rfl ?_
              exact x_tv (by clear ret hl hx hb X hP; rcases Nat.lt_or_ge a 12 with q1 | q1 <;> rcases Nat.lt_or_ge b 12 with q2 | q2 <;> first | omega | (rw [sv_con_1 a ha b hb2 q1 q2]; first | rfl | omega) | (rw [sv_con_2 a ha b hb2 q1 q2]; first | (rw [decide_eq_true (by omega)]; rfl) | (rw [decide_eq_false (by omega)]; rfl)) | (rw [sv_con_3 a ha b hb2 q1 q2]; first | (rw [decide_eq_true (by omega), decide_eq_true (by omega)]; rfl) | (rw [decide_eq_false (show ¬ a - 12 < b by omega)]; rfl) | (rw [decide_eq_false (show ¬ b % 3 ≠ (a - 12) % 3 by omega), Bool.and_false]; rfl)) | (rw [sv_con_4 a ha b hb2 q1 q2]; first | (rw [decide_eq_true (by omega), decide_eq_true (by omega)]; rfl) | (rw [decide_eq_false (show ¬ b - 12 < a by omega)]; rfl) | (rw [decide_eq_false (show ¬ a % 3 ≠ (b - 12) % 3 by omega), Bool.and_false]; rfl))) (ret _ _ dM_contradict_93)
        · skip
          rw [nI_ltI (by omega) (by omega)] at h62
          refine lv_iload_n (i := 2) hx hb dM_contradict_65 rfl (sv_at hl rfl) ?_
          refine lv_goto (tgt := 70) hx hb dM_contradict_66 rfl ?_
          refine lv_istore (i := 4) hx hb dM_contradict_70 hl (by decide) rfl (fun ls hl => ?_)
          refine lv_iload (i := 4) hx hb dM_contradict_72 (sv_at hl rfl) ?_
          refine lv_iload_n (i := 3) hx hb dM_contradict_74 rfl (sv_at hl rfl) ?_
          refine lv_icmp_le (tgt := 92) hx hb dM_contradict_75 rfl (fun h75 => ?_) (fun h75 => ?_)
          · skip
            rw [nI_leI (by omega) (by omega)] at h75
            refine lv_iconst (v := 0) hx hb dM_contradict_92 (by decide) ?_
            exact x_tv (by clear ret hl hx hb X hP; rcases Nat.lt_or_ge a 12 with q1 | q1 <;> rcases Nat.lt_or_ge b 12 with q2 | q2 <;> first | omega | (rw [sv_con_1 a ha b hb2 q1 q2]; first | rfl | omega) | (rw [sv_con_2 a ha b hb2 q1 q2]; first | (rw [decide_eq_true (by omega)]; rfl) | (rw [decide_eq_false (by omega)]; rfl)) | (rw [sv_con_3 a ha b hb2 q1 q2]; first | (rw [decide_eq_true (by omega), decide_eq_true (by omega)]; rfl) | (rw [decide_eq_false (show ¬ a - 12 < b by omega)]; rfl) | (rw [decide_eq_false (show ¬ b % 3 ≠ (a - 12) % 3 by omega), Bool.and_false]; rfl)) | (rw [sv_con_4 a ha b hb2 q1 q2]; first | (rw [decide_eq_true (by omega), decide_eq_true (by omega)]; rfl) | (rw [decide_eq_false (show ¬ b - 12 < a by omega)]; rfl) | (rw [decide_eq_false (show ¬ a % 3 ≠ (b - 12) % 3 by omega), Bool.and_false]; rfl))) (ret _ _ dM_contradict_93)
          · skip
            rw [nI_leI (by omega) (by omega)] at h75
            refine lv_iload (i := 4) hx hb dM_contradict_78 (sv_at hl rfl) ?_
            refine lv_iconst (v := nI 3) hx hb dM_contradict_80 (by decide) ?_
            refine lv_irem hx hb dM_contradict_81 (by decide) ?_
            refine lv_iload_n (i := 3) hx hb dM_contradict_82 rfl (sv_at hl rfl) ?_
            refine lv_iconst (v := nI 3) hx hb dM_contradict_83 (by decide) ?_
            refine lv_irem hx hb dM_contradict_84 (by decide) ?_
            refine lv_icmp_eq (tgt := 92) hx hb dM_contradict_85 rfl (fun h85 => ?_) (fun h85 => ?_)
            · skip
              rw [pk_rem (by omega) (by decide) (by decide), pk_rem (by omega) (by decide) (by decide), nI_eq (by omega) (by omega)] at h85
              refine lv_iconst (v := 0) hx hb dM_contradict_92 (by decide) ?_
              exact x_tv (by clear ret hl hx hb X hP; rcases Nat.lt_or_ge a 12 with q1 | q1 <;> rcases Nat.lt_or_ge b 12 with q2 | q2 <;> first | omega | (rw [sv_con_1 a ha b hb2 q1 q2]; first | rfl | omega) | (rw [sv_con_2 a ha b hb2 q1 q2]; first | (rw [decide_eq_true (by omega)]; rfl) | (rw [decide_eq_false (by omega)]; rfl)) | (rw [sv_con_3 a ha b hb2 q1 q2]; first | (rw [decide_eq_true (by omega), decide_eq_true (by omega)]; rfl) | (rw [decide_eq_false (show ¬ a - 12 < b by omega)]; rfl) | (rw [decide_eq_false (show ¬ b % 3 ≠ (a - 12) % 3 by omega), Bool.and_false]; rfl)) | (rw [sv_con_4 a ha b hb2 q1 q2]; first | (rw [decide_eq_true (by omega), decide_eq_true (by omega)]; rfl) | (rw [decide_eq_false (show ¬ b - 12 < a by omega)]; rfl) | (rw [decide_eq_false (show ¬ a % 3 ≠ (b - 12) % 3 by omega), Bool.and_false]; rfl))) (ret _ _ dM_contradict_93)
            · skip
              rw [pk_rem (by omega) (by decide) (by decide), pk_rem (by omega) (by decide) (by decide), nI_eq (by omega) (by omega)] at h85
              refine lv_iconst (v := 1) hx hb dM_contradict_88 (by decide) ?_
              refine lv_goto (tgt := 93) hx hb dM_contradict_89 rfl ?_
              exact x_tv (by clear ret hl hx hb X hP; rcases Nat.lt_or_ge a 12 with q1 | q1 <;> rcases Nat.lt_or_ge b 12 with q2 | q2 <;> first | omega | (rw [sv_con_1 a ha b hb2 q1 q2]; first | rfl | omega) | (rw [sv_con_2 a ha b hb2 q1 q2]; first | (rw [decide_eq_true (by omega)]; rfl) | (rw [decide_eq_false (by omega)]; rfl)) | (rw [sv_con_3 a ha b hb2 q1 q2]; first | (rw [decide_eq_true (by omega), decide_eq_true (by omega)]; rfl) | (rw [decide_eq_false (show ¬ a - 12 < b by omega)]; rfl) | (rw [decide_eq_false (show ¬ b % 3 ≠ (a - 12) % 3 by omega), Bool.and_false]; rfl)) | (rw [sv_con_4 a ha b hb2 q1 q2]; first | (rw [decide_eq_true (by omega), decide_eq_true (by omega)]; rfl) | (rw [decide_eq_false (show ¬ b - 12 < a by omega)]; rfl) | (rw [decide_eq_false (show ¬ a % 3 ≠ (b - 12) % 3 by omega), Bool.and_false]; rfl))) (ret _ _ dM_contradict_93)
      · skip
        rw [nI_ltI (by omega) (by omega)] at h44
        refine lv_iload_n (i := 1) hx hb dM_contradict_47 rfl (sv_at hl rfl) ?_
        refine lv_bipush (v := nI 12) hx hb dM_contradict_48 (by decide) ?_
        refine lv_isub hx hb dM_contradict_50 ?_
        refine lv_goto (tgt := 58) hx hb dM_contradict_51 rfl ?_
        first | refine x_tv (pk_sub (a := a) (b := 12) (by omega)) ?_ | refine x_tv (pk_sub (a := b) (b := 12) (by omega)) ?_
        refine lv_istore_n (i := 3) hx hb dM_contradict_58 rfl hl (by decide) rfl (fun ls hl => ?_)
        refine lv_iload_n (i := 1) hx hb dM_contradict_59 rfl (sv_at hl rfl) ?_
        refine lv_bipush (v := nI 12) hx hb dM_contradict_60 (by decide) ?_
        refine lv_icmp_lt (tgt := 69) hx hb dM_contradict_62 rfl (fun h62 => ?_) (fun h62 => ?_)
        · skip
          rw [nI_ltI (by omega) (by omega)] at h62
          refine lv_iload_n (i := 1) hx hb dM_contradict_69 rfl (sv_at hl rfl) ?_
          refine lv_istore (i := 4) hx hb dM_contradict_70 hl (by decide) rfl (fun ls hl => ?_)
          refine lv_iload (i := 4) hx hb dM_contradict_72 (sv_at hl rfl) ?_
          refine lv_iload_n (i := 3) hx hb dM_contradict_74 rfl (sv_at hl rfl) ?_
          refine lv_icmp_le (tgt := 92) hx hb dM_contradict_75 rfl (fun h75 => ?_) (fun h75 => ?_)
          · skip
            rw [nI_leI (by omega) (by omega)] at h75
            refine lv_iconst (v := 0) hx hb dM_contradict_92 (by decide) ?_
            exact x_tv (by clear ret hl hx hb X hP; rcases Nat.lt_or_ge a 12 with q1 | q1 <;> rcases Nat.lt_or_ge b 12 with q2 | q2 <;> first | omega | (rw [sv_con_1 a ha b hb2 q1 q2]; first | rfl | omega) | (rw [sv_con_2 a ha b hb2 q1 q2]; first | (rw [decide_eq_true (by omega)]; rfl) | (rw [decide_eq_false (by omega)]; rfl)) | (rw [sv_con_3 a ha b hb2 q1 q2]; first | (rw [decide_eq_true (by omega), decide_eq_true (by omega)]; rfl) | (rw [decide_eq_false (show ¬ a - 12 < b by omega)]; rfl) | (rw [decide_eq_false (show ¬ b % 3 ≠ (a - 12) % 3 by omega), Bool.and_false]; rfl)) | (rw [sv_con_4 a ha b hb2 q1 q2]; first | (rw [decide_eq_true (by omega), decide_eq_true (by omega)]; rfl) | (rw [decide_eq_false (show ¬ b - 12 < a by omega)]; rfl) | (rw [decide_eq_false (show ¬ a % 3 ≠ (b - 12) % 3 by omega), Bool.and_false]; rfl))) (ret _ _ dM_contradict_93)
          · skip
            rw [nI_leI (by omega) (by omega)] at h75
            refine lv_iload (i := 4) hx hb dM_contradict_78 (sv_at hl rfl) ?_
            refine lv_iconst (v := nI 3) hx hb dM_contradict_80 (by decide) ?_
            refine lv_irem hx hb dM_contradict_81 (by decide) ?_
            refine lv_iload_n (i := 3) hx hb dM_contradict_82 rfl (sv_at hl rfl) ?_
            refine lv_iconst (v := nI 3) hx hb dM_contradict_83 (by decide) ?_
            refine lv_irem hx hb dM_contradict_84 (by decide) ?_
            refine lv_icmp_eq (tgt := 92) hx hb dM_contradict_85 rfl (fun h85 => ?_) (fun h85 => ?_)
            · skip
              rw [pk_rem (by omega) (by decide) (by decide), pk_rem (by omega) (by decide) (by decide), nI_eq (by omega) (by omega)] at h85
              refine lv_iconst (v := 0) hx hb dM_contradict_92 (by decide) ?_
              exact x_tv (by clear ret hl hx hb X hP; rcases Nat.lt_or_ge a 12 with q1 | q1 <;> rcases Nat.lt_or_ge b 12 with q2 | q2 <;> first | omega | (rw [sv_con_1 a ha b hb2 q1 q2]; first | rfl | omega) | (rw [sv_con_2 a ha b hb2 q1 q2]; first | (rw [decide_eq_true (by omega)]; rfl) | (rw [decide_eq_false (by omega)]; rfl)) | (rw [sv_con_3 a ha b hb2 q1 q2]; first | (rw [decide_eq_true (by omega), decide_eq_true (by omega)]; rfl) | (rw [decide_eq_false (show ¬ a - 12 < b by omega)]; rfl) | (rw [decide_eq_false (show ¬ b % 3 ≠ (a - 12) % 3 by omega), Bool.and_false]; rfl)) | (rw [sv_con_4 a ha b hb2 q1 q2]; first | (rw [decide_eq_true (by omega), decide_eq_true (by omega)]; rfl) | (rw [decide_eq_false (show ¬ b - 12 < a by omega)]; rfl) | (rw [decide_eq_false (show ¬ a % 3 ≠ (b - 12) % 3 by omega), Bool.and_false]; rfl))) (ret _ _ dM_contradict_93)
            · skip
              rw [pk_rem (by omega) (by decide) (by decide), pk_rem (by omega) (by decide) (by decide), nI_eq (by omega) (by omega)] at h85
              refine lv_iconst (v := 1) hx hb dM_contradict_88 (by decide) ?_
              refine lv_goto (tgt := 93) hx hb dM_contradict_89 rfl ?_
              exact x_tv (by clear ret hl hx hb X hP; rcases Nat.lt_or_ge a 12 with q1 | q1 <;> rcases Nat.lt_or_ge b 12 with q2 | q2 <;> first | omega | (rw [sv_con_1 a ha b hb2 q1 q2]; first | rfl | omega) | (rw [sv_con_2 a ha b hb2 q1 q2]; first | (rw [decide_eq_true (by omega)]; rfl) | (rw [decide_eq_false (by omega)]; rfl)) | (rw [sv_con_3 a ha b hb2 q1 q2]; first | (rw [decide_eq_true (by omega), decide_eq_true (by omega)]; rfl) | (rw [decide_eq_false (show ¬ a - 12 < b by omega)]; rfl) | (rw [decide_eq_false (show ¬ b % 3 ≠ (a - 12) % 3 by omega), Bool.and_false]; rfl)) | (rw [sv_con_4 a ha b hb2 q1 q2]; first | (rw [decide_eq_true (by omega), decide_eq_true (by omega)]; rfl) | (rw [decide_eq_false (show ¬ b - 12 < a by omega)]; rfl) | (rw [decide_eq_false (show ¬ a % 3 ≠ (b - 12) % 3 by omega), Bool.and_false]; rfl))) (ret _ _ dM_contradict_93)
        · skip
          rw [nI_ltI (by omega) (by omega)] at h62
          refine lv_iload_n (i := 2) hx hb dM_contradict_65 rfl (sv_at hl rfl) ?_
          refine lv_goto (tgt := 70) hx hb dM_contradict_66 rfl ?_
          refine lv_istore (i := 4) hx hb dM_contradict_70 hl (by decide) rfl (fun ls hl => ?_)
          refine lv_iload (i := 4) hx hb dM_contradict_72 (sv_at hl rfl) ?_
          refine lv_iload_n (i := 3) hx hb dM_contradict_74 rfl (sv_at hl rfl) ?_
          refine lv_icmp_le (tgt := 92) hx hb dM_contradict_75 rfl (fun h75 => ?_) (fun h75 => ?_)
          · skip
            rw [nI_leI (by omega) (by omega)] at h75
            refine lv_iconst (v := 0) hx hb dM_contradict_92 (by decide) ?_
            exact x_tv (by clear ret hl hx hb X hP; rcases Nat.lt_or_ge a 12 with q1 | q1 <;> rcases Nat.lt_or_ge b 12 with q2 | q2 <;> first | omega | (rw [sv_con_1 a ha b hb2 q1 q2]; first | rfl | omega) | (rw [sv_con_2 a ha b hb2 q1 q2]; first | (rw [decide_eq_true (by omega)]; rfl) | (rw [decide_eq_false (by omega)]; rfl)) | (rw [sv_con_3 a ha b hb2 q1 q2]; first | (rw [decide_eq_true (by omega), decide_eq_true (by omega)]; rfl) | (rw [decide_eq_false (show ¬ a - 12 < b by omega)]; rfl) | (rw [decide_eq_false (show ¬ b % 3 ≠ (a - 12) % 3 by omega), Bool.and_false]; rfl)) | (rw [sv_con_4 a ha b hb2 q1 q2]; first | (rw [decide_eq_true (by omega), decide_eq_true (by omega)]; rfl) | (rw [decide_eq_false (show ¬ b - 12 < a by omega)]; rfl) | (rw [decide_eq_false (show ¬ a % 3 ≠ (b - 12) % 3 by omega), Bool.and_false]; rfl))) (ret _ _ dM_contradict_93)
          · skip
            rw [nI_leI (by omega) (by omega)] at h75
            refine lv_iload (i := 4) hx hb dM_contradict_78 (sv_at hl rfl) ?_
            refine lv_iconst (v := nI 3) hx hb dM_contradict_80 (by decide) ?_
            refine lv_irem hx hb dM_contradict_81 (by decide) ?_
            refine lv_iload_n (i := 3) hx hb dM_contradict_82 rfl (sv_at hl rfl) ?_
            refine lv_iconst (v := nI 3) hx hb dM_contradict_83 (by decide) ?_
            refine lv_irem hx hb dM_contradict_84 (by decide) ?_
            refine lv_icmp_eq (tgt := 92) hx hb dM_contradict_85 rfl (fun h85 => ?_) (fun h85 => ?_)
            · skip
              rw [pk_rem (by omega) (by decide) (by decide), pk_rem (by omega) (by decide) (by decide), nI_eq (by omega) (by omega)] at h85
              refine lv_iconst (v := 0) hx hb dM_contradict_92 (by decide) ?_
              exact x_tv (by clear ret hl hx hb X hP; rcases Nat.lt_or_ge a 12 with q1 | q1 <;> rcases Nat.lt_or_ge b 12 with q2 | q2 <;> first | omega | (rw [sv_con_1 a ha b hb2 q1 q2]; first | rfl | omega) | (rw [sv_con_2 a ha b hb2 q1 q2]; first | (rw [decide_eq_true (by omega)]; rfl) | (rw [decide_eq_false (by omega)]; rfl)) | (rw [sv_con_3 a ha b hb2 q1 q2]; first | (rw [decide_eq_true (by omega), decide_eq_true (by omega)]; rfl) | (rw [decide_eq_false (show ¬ a - 12 < b by omega)]; rfl) | (rw [decide_eq_false (show ¬ b % 3 ≠ (a - 12) % 3 by omega), Bool.and_false]; rfl)) | (rw [sv_con_4 a ha b hb2 q1 q2]; first | (rw [decide_eq_true (by omega), decide_eq_true (by omega)]; rfl) | (rw [decide_eq_false (show ¬ b - 12 < a by omega)]; rfl) | (rw [decide_eq_false (show ¬ a % 3 ≠ (b - 12) % 3 by omega), Bool.and_false]; rfl))) (ret _ _ dM_contradict_93)
            · skip
              rw [pk_rem (by omega) (by decide) (by decide), pk_rem (by omega) (by decide) (by decide), nI_eq (by omega) (by omega)] at h85
              refine lv_iconst (v := 1) hx hb dM_contradict_88 (by decide) ?_
              refine lv_goto (tgt := 93) hx hb dM_contradict_89 rfl ?_
              exact x_tv (by clear ret hl hx hb X hP; rcases Nat.lt_or_ge a 12 with q1 | q1 <;> rcases Nat.lt_or_ge b 12 with q2 | q2 <;> first | omega | (rw [sv_con_1 a ha b hb2 q1 q2]; first | rfl | omega) | (rw [sv_con_2 a ha b hb2 q1 q2]; first | (rw [decide_eq_true (by omega)]; rfl) | (rw [decide_eq_false (by omega)]; rfl)) | (rw [sv_con_3 a ha b hb2 q1 q2]; first | (rw [decide_eq_true (by omega), decide_eq_true (by omega)]; rfl) | (rw [decide_eq_false (show ¬ a - 12 < b by omega)]; rfl) | (rw [decide_eq_false (show ¬ b % 3 ≠ (a - 12) % 3 by omega), Bool.and_false]; rfl)) | (rw [sv_con_4 a ha b hb2 q1 q2]; first | (rw [decide_eq_true (by omega), decide_eq_true (by omega)]; rfl) | (rw [decide_eq_false (show ¬ b - 12 < a by omega)]; rfl) | (rw [decide_eq_false (show ¬ a % 3 ≠ (b - 12) % 3 by omega), Bool.and_false]; rfl))) (ret _ _ dM_contradict_93)
    · skip
      rw [nI_ltI (by omega) (by omega)] at h17
      refine lv_iload_n (i := 2) hx hb dM_contradict_20 rfl (sv_at hl rfl) ?_
      refine lv_bipush (v := nI 12) hx hb dM_contradict_21 (by decide) ?_
      refine lv_icmp_lt (tgt := 41) hx hb dM_contradict_23 rfl (fun h23 => ?_) (fun h23 => ?_)
      · skip
        rw [nI_ltI (by omega) (by omega)] at h23
        refine lv_iload_n (i := 1) hx hb dM_contradict_41 rfl (sv_at hl rfl) ?_
        refine lv_bipush (v := nI 12) hx hb dM_contradict_42 (by decide) ?_
        refine lv_icmp_lt (tgt := 54) hx hb dM_contradict_44 rfl (fun h44 => ?_) (fun h44 => ?_)
        · skip
          rw [nI_ltI (by omega) (by omega)] at h44
          refine lv_iload_n (i := 2) hx hb dM_contradict_54 rfl (sv_at hl rfl) ?_
          refine lv_bipush (v := nI 12) hx hb dM_contradict_55 (by decide) ?_
          refine lv_isub hx hb dM_contradict_57 ?_
          first | refine x_tv (pk_sub (a := a) (b := 12) (by omega)) ?_ | refine x_tv (pk_sub (a := b) (b := 12) (by omega)) ?_
          refine lv_istore_n (i := 3) hx hb dM_contradict_58 rfl hl (by decide) rfl (fun ls hl => ?_)
          refine lv_iload_n (i := 1) hx hb dM_contradict_59 rfl (sv_at hl rfl) ?_
          refine lv_bipush (v := nI 12) hx hb dM_contradict_60 (by decide) ?_
          refine lv_icmp_lt (tgt := 69) hx hb dM_contradict_62 rfl (fun h62 => ?_) (fun h62 => ?_)
          · skip
            rw [nI_ltI (by omega) (by omega)] at h62
            refine lv_iload_n (i := 1) hx hb dM_contradict_69 rfl (sv_at hl rfl) ?_
            refine lv_istore (i := 4) hx hb dM_contradict_70 hl (by decide) rfl (fun ls hl => ?_)
            refine lv_iload (i := 4) hx hb dM_contradict_72 (sv_at hl rfl) ?_
            refine lv_iload_n (i := 3) hx hb dM_contradict_74 rfl (sv_at hl rfl) ?_
            refine lv_icmp_le (tgt := 92) hx hb dM_contradict_75 rfl (fun h75 => ?_) (fun h75 => ?_)
            · skip
              rw [nI_leI (by omega) (by omega)] at h75
              refine lv_iconst (v := 0) hx hb dM_contradict_92 (by decide) ?_
              exact x_tv (by clear ret hl hx hb X hP; rcases Nat.lt_or_ge a 12 with q1 | q1 <;> rcases Nat.lt_or_ge b 12 with q2 | q2 <;> first | omega | (rw [sv_con_1 a ha b hb2 q1 q2]; first | rfl | omega) | (rw [sv_con_2 a ha b hb2 q1 q2]; first | (rw [decide_eq_true (by omega)]; rfl) | (rw [decide_eq_false (by omega)]; rfl)) | (rw [sv_con_3 a ha b hb2 q1 q2]; first | (rw [decide_eq_true (by omega), decide_eq_true (by omega)]; rfl) | (rw [decide_eq_false (show ¬ a - 12 < b by omega)]; rfl) | (rw [decide_eq_false (show ¬ b % 3 ≠ (a - 12) % 3 by omega), Bool.and_false]; rfl)) | (rw [sv_con_4 a ha b hb2 q1 q2]; first | (rw [decide_eq_true (by omega), decide_eq_true (by omega)]; rfl) | (rw [decide_eq_false (show ¬ b - 12 < a by omega)]; rfl) | (rw [decide_eq_false (show ¬ a % 3 ≠ (b - 12) % 3 by omega), Bool.and_false]; rfl))) (ret _ _ dM_contradict_93)
            · skip
              rw [nI_leI (by omega) (by omega)] at h75
              refine lv_iload (i := 4) hx hb dM_contradict_78 (sv_at hl rfl) ?_
              refine lv_iconst (v := nI 3) hx hb dM_contradict_80 (by decide) ?_
              refine lv_irem hx hb dM_contradict_81 (by decide) ?_
              refine lv_iload_n (i := 3) hx hb dM_contradict_82 rfl (sv_at hl rfl) ?_
              refine lv_iconst (v := nI 3) hx hb dM_contradict_83 (by decide) ?_
              refine lv_irem hx hb dM_contradict_84 (by decide) ?_
              refine lv_icmp_eq (tgt := 92) hx hb dM_contradict_85 rfl (fun h85 => ?_) (fun h85 => ?_)
              · skip
                rw [pk_rem (by omega) (by decide) (by decide), pk_rem (by omega) (by decide) (by decide), nI_eq (by omega) (by omega)] at h85
                refine lv_iconst (v := 0) hx hb dM_contradict_92 (by decide) ?_
                exact x_tv (by clear ret hl hx hb X hP; rcases Nat.lt_or_ge a 12 with q1 | q1 <;> rcases Nat.lt_or_ge b 12 with q2 | q2 <;> first | omega | (rw [sv_con_1 a ha b hb2 q1 q2]; first | rfl | omega) | (rw [sv_con_2 a ha b hb2 q1 q2]; first | (rw [decide_eq_true (by omega)]; rfl) | (rw [decide_eq_false (by omega)]; rfl)) | (rw [sv_con_3 a ha b hb2 q1 q2]; first | (rw [decide_eq_true (by omega), decide_eq_true (by omega)]; rfl) | (rw [decide_eq_false (show ¬ a - 12 < b by omega)]; rfl) | (rw [decide_eq_false (show ¬ b % 3 ≠ (a - 12) % 3 by omega), Bool.and_false]; rfl)) | (rw [sv_con_4 a ha b hb2 q1 q2]; first | (rw [decide_eq_true (by omega), decide_eq_true (by omega)]; rfl) | (rw [decide_eq_false (show ¬ b - 12 < a by omega)]; rfl) | (rw [decide_eq_false (show ¬ a % 3 ≠ (b - 12) % 3 by omega), Bool.and_false]; rfl))) (ret _ _ dM_contradict_93)
              · skip
                rw [pk_rem (by omega) (by decide) (by decide), pk_rem (by omega) (by decide) (by decide), nI_eq (by omega) (by omega)] at h85
                refine lv_iconst (v := 1) hx hb dM_contradict_88 (by decide) ?_
                refine lv_goto (tgt := 93) hx hb dM_contradict_89 rfl ?_
                exact x_tv (by clear ret hl hx hb X hP; rcases Nat.lt_or_ge a 12 with q1 | q1 <;> rcases Nat.lt_or_ge b 12 with q2 | q2 <;> first | omega | (rw [sv_con_1 a ha b hb2 q1 q2]; first | rfl | omega) | (rw [sv_con_2 a ha b hb2 q1 q2]; first | (rw [decide_eq_true (by omega)]; rfl) | (rw [decide_eq_false (by omega)]; rfl)) | (rw [sv_con_3 a ha b hb2 q1 q2]; first | (rw [decide_eq_true (by omega), decide_eq_true (by omega)]; rfl) | (rw [decide_eq_false (show ¬ a - 12 < b by omega)]; rfl) | (rw [decide_eq_false (show ¬ b % 3 ≠ (a - 12) % 3 by omega), Bool.and_false]; rfl)) | (rw [sv_con_4 a ha b hb2 q1 q2]; first | (rw [decide_eq_true (by omega), decide_eq_true (by omega)]; rfl) | (rw [decide_eq_false (show ¬ b - 12 < a by omega)]; rfl) | (rw [decide_eq_false (show ¬ a % 3 ≠ (b - 12) % 3 by omega), Bool.and_false]; rfl))) (ret _ _ dM_contradict_93)
          · skip
            rw [nI_ltI (by omega) (by omega)] at h62
            refine lv_iload_n (i := 2) hx hb dM_contradict_65 rfl (sv_at hl rfl) ?_
            refine lv_goto (tgt := 70) hx hb dM_contradict_66 rfl ?_
            refine lv_istore (i := 4) hx hb dM_contradict_70 hl (by decide) rfl (fun ls hl => ?_)
            refine lv_iload (i := 4) hx hb dM_contradict_72 (sv_at hl rfl) ?_
            refine lv_iload_n (i := 3) hx hb dM_contradict_74 rfl (sv_at hl rfl) ?_
            refine lv_icmp_le (tgt := 92) hx hb dM_contradict_75 rfl (fun h75 => ?_) (fun h75 => ?_)
            · skip
              rw [nI_leI (by omega) (by omega)] at h75
              refine lv_iconst (v := 0) hx hb dM_contradict_92 (by decide) ?_
              exact x_tv (by clear ret hl hx hb X hP; rcases Nat.lt_or_ge a 12 with q1 | q1 <;> rcases Nat.lt_or_ge b 12 with q2 | q2 <;> first | omega | (rw [sv_con_1 a ha b hb2 q1 q2]; first | rfl | omega) | (rw [sv_con_2 a ha b hb2 q1 q2]; first | (rw [decide_eq_true (by omega)]; rfl) | (rw [decide_eq_false (by omega)]; rfl)) | (rw [sv_con_3 a ha b hb2 q1 q2]; first | (rw [decide_eq_true (by omega), decide_eq_true (by omega)]; rfl) | (rw [decide_eq_false (show ¬ a - 12 < b by omega)]; rfl) | (rw [decide_eq_false (show ¬ b % 3 ≠ (a - 12) % 3 by omega), Bool.and_false]; rfl)) | (rw [sv_con_4 a ha b hb2 q1 q2]; first | (rw [decide_eq_true (by omega), decide_eq_true (by omega)]; rfl) | (rw [decide_eq_false (show ¬ b - 12 < a by omega)]; rfl) | (rw [decide_eq_false (show ¬ a % 3 ≠ (b - 12) % 3 by omega), Bool.and_false]; rfl))) (ret _ _ dM_contradict_93)
            · skip
              rw [nI_leI (by omega) (by omega)] at h75
              refine lv_iload (i := 4) hx hb dM_contradict_78 (sv_at hl rfl) ?_
              refine lv_iconst (v := nI 3) hx hb dM_contradict_80 (by decide) ?_
              refine lv_irem hx hb dM_contradict_81 (by decide) ?_
              refine lv_iload_n (i := 3) hx hb dM_contradict_82 rfl (sv_at hl rfl) ?_
              refine lv_iconst (v := nI 3) hx hb dM_contradict_83 (by decide) ?_
              refine lv_irem hx hb dM_contradict_84 (by decide) ?_
              refine lv_icmp_eq (tgt := 92) hx hb dM_contradict_85 rfl (fun h85 => ?_) (fun h85 => ?_)
              · skip
                rw [pk_rem (by omega) (by decide) (by decide), pk_rem (by omega) (by decide) (by decide), nI_eq (by omega) (by omega)] at h85
                refine lv_iconst (v := 0) hx hb dM_contradict_92 (by decide) ?_
                exact x_tv (by clear ret hl hx hb X hP; rcases Nat.lt_or_ge a 12 with q1 | q1 <;> rcases Nat.lt_or_ge b 12 with q2 | q2 <;> first | omega | (rw [sv_con_1 a ha b hb2 q1 q2]; first | rfl | omega) | (rw [sv_con_2 a ha b hb2 q1 q2]; first | (rw [decide_eq_true (by omega)]; rfl) | (rw [decide_eq_false (by omega)]; rfl)) | (rw [sv_con_3 a ha b hb2 q1 q2]; first | (rw [decide_eq_true (by omega), decide_eq_true (by omega)]; rfl) | (rw [decide_eq_false (show ¬ a - 12 < b by omega)]; rfl) | (rw [decide_eq_false (show ¬ b % 3 ≠ (a - 12) % 3 by omega), Bool.and_false]; rfl)) | (rw [sv_con_4 a ha b hb2 q1 q2]; first | (rw [decide_eq_true (by omega), decide_eq_true (by omega)]; rfl) | (rw [decide_eq_false (show ¬ b - 12 < a by omega)]; rfl) | (rw [decide_eq_false (show ¬ a % 3 ≠ (b - 12) % 3 by omega), Bool.and_false]; rfl))) (ret _ _ dM_contradict_93)
              · skip
                rw [pk_rem (by omega) (by decide) (by decide), pk_rem (by omega) (by decide) (by decide), nI_eq (by omega) (by omega)] at h85
                refine lv_iconst (v := 1) hx hb dM_contradict_88 (by decide) ?_
                refine lv_goto (tgt := 93) hx hb dM_contradict_89 rfl ?_
                exact x_tv (by clear ret hl hx hb X hP; rcases Nat.lt_or_ge a 12 with q1 | q1 <;> rcases Nat.lt_or_ge b 12 with q2 | q2 <;> first | omega | (rw [sv_con_1 a ha b hb2 q1 q2]; first | rfl | omega) | (rw [sv_con_2 a ha b hb2 q1 q2]; first | (rw [decide_eq_true (by omega)]; rfl) | (rw [decide_eq_false (by omega)]; rfl)) | (rw [sv_con_3 a ha b hb2 q1 q2]; first | (rw [decide_eq_true (by omega), decide_eq_true (by omega)]; rfl) | (rw [decide_eq_false (show ¬ a - 12 < b by omega)]; rfl) | (rw [decide_eq_false (show ¬ b % 3 ≠ (a - 12) % 3 by omega), Bool.and_false]; rfl)) | (rw [sv_con_4 a ha b hb2 q1 q2]; first | (rw [decide_eq_true (by omega), decide_eq_true (by omega)]; rfl) | (rw [decide_eq_false (show ¬ b - 12 < a by omega)]; rfl) | (rw [decide_eq_false (show ¬ a % 3 ≠ (b - 12) % 3 by omega), Bool.and_false]; rfl))) (ret _ _ dM_contradict_93)
        · skip
          rw [nI_ltI (by omega) (by omega)] at h44
          refine lv_iload_n (i := 1) hx hb dM_contradict_47 rfl (sv_at hl rfl) ?_
          refine lv_bipush (v := nI 12) hx hb dM_contradict_48 (by decide) ?_
          refine lv_isub hx hb dM_contradict_50 ?_
          refine lv_goto (tgt := 58) hx hb dM_contradict_51 rfl ?_
          first | refine x_tv (pk_sub (a := a) (b := 12) (by omega)) ?_ | refine x_tv (pk_sub (a := b) (b := 12) (by omega)) ?_
          refine lv_istore_n (i := 3) hx hb dM_contradict_58 rfl hl (by decide) rfl (fun ls hl => ?_)
          refine lv_iload_n (i := 1) hx hb dM_contradict_59 rfl (sv_at hl rfl) ?_
          refine lv_bipush (v := nI 12) hx hb dM_contradict_60 (by decide) ?_
          refine lv_icmp_lt (tgt := 69) hx hb dM_contradict_62 rfl (fun h62 => ?_) (fun h62 => ?_)
          · skip
            rw [nI_ltI (by omega) (by omega)] at h62
            refine lv_iload_n (i := 1) hx hb dM_contradict_69 rfl (sv_at hl rfl) ?_
            refine lv_istore (i := 4) hx hb dM_contradict_70 hl (by decide) rfl (fun ls hl => ?_)
            refine lv_iload (i := 4) hx hb dM_contradict_72 (sv_at hl rfl) ?_
            refine lv_iload_n (i := 3) hx hb dM_contradict_74 rfl (sv_at hl rfl) ?_
            refine lv_icmp_le (tgt := 92) hx hb dM_contradict_75 rfl (fun h75 => ?_) (fun h75 => ?_)
            · skip
              rw [nI_leI (by omega) (by omega)] at h75
              refine lv_iconst (v := 0) hx hb dM_contradict_92 (by decide) ?_
              exact x_tv (by clear ret hl hx hb X hP; rcases Nat.lt_or_ge a 12 with q1 | q1 <;> rcases Nat.lt_or_ge b 12 with q2 | q2 <;> first | omega | (rw [sv_con_1 a ha b hb2 q1 q2]; first | rfl | omega) | (rw [sv_con_2 a ha b hb2 q1 q2]; first | (rw [decide_eq_true (by omega)]; rfl) | (rw [decide_eq_false (by omega)]; rfl)) | (rw [sv_con_3 a ha b hb2 q1 q2]; first | (rw [decide_eq_true (by omega), decide_eq_true (by omega)]; rfl) | (rw [decide_eq_false (show ¬ a - 12 < b by omega)]; rfl) | (rw [decide_eq_false (show ¬ b % 3 ≠ (a - 12) % 3 by omega), Bool.and_false]; rfl)) | (rw [sv_con_4 a ha b hb2 q1 q2]; first | (rw [decide_eq_true (by omega), decide_eq_true (by omega)]; rfl) | (rw [decide_eq_false (show ¬ b - 12 < a by omega)]; rfl) | (rw [decide_eq_false (show ¬ a % 3 ≠ (b - 12) % 3 by omega), Bool.and_false]; rfl))) (ret _ _ dM_contradict_93)
            · skip
              rw [nI_leI (by omega) (by omega)] at h75
              refine lv_iload (i := 4) hx hb dM_contradict_78 (sv_at hl rfl) ?_
              refine lv_iconst (v := nI 3) hx hb dM_contradict_80 (by decide) ?_
              refine lv_irem hx hb dM_contradict_81 (by decide) ?_
              refine lv_iload_n (i := 3) hx hb dM_contradict_82 rfl (sv_at hl rfl) ?_
              refine lv_iconst (v := nI 3) hx hb dM_contradict_83 (by decide) ?_
              refine lv_irem hx hb dM_contradict_84 (by decide) ?_
              refine lv_icmp_eq (tgt := 92) hx hb dM_contradict_85 rfl (fun h85 => ?_) (fun h85 => ?_)
              · skip
                rw [pk_rem (by omega) (by decide) (by decide), pk_rem (by omega) (by decide) (by decide), nI_eq (by omega) (by omega)] at h85
                refine lv_iconst (v := 0) hx hb dM_contradict_92 (by decide) ?_
                exact x_tv (by clear ret hl hx hb X hP; rcases Nat.lt_or_ge a 12 with q1 | q1 <;> rcases Nat.lt_or_ge b 12 with q2 | q2 <;> first | omega | (rw [sv_con_1 a ha b hb2 q1 q2]; first | rfl | omega) | (rw [sv_con_2 a ha b hb2 q1 q2]; first | (rw [decide_eq_true (by omega)]; rfl) | (rw [decide_eq_false (by omega)]; rfl)) | (rw [sv_con_3 a ha b hb2 q1 q2]; first | (rw [decide_eq_true (by omega), decide_eq_true (by omega)]; rfl) | (rw [decide_eq_false (show ¬ a - 12 < b by omega)]; rfl) | (rw [decide_eq_false (show ¬ b % 3 ≠ (a - 12) % 3 by omega), Bool.and_false]; rfl)) | (rw [sv_con_4 a ha b hb2 q1 q2]; first | (rw [decide_eq_true (by omega), decide_eq_true (by omega)]; rfl) | (rw [decide_eq_false (show ¬ b - 12 < a by omega)]; rfl) | (rw [decide_eq_false (show ¬ a % 3 ≠ (b - 12) % 3 by omega), Bool.and_false]; rfl))) (ret _ _ dM_contradict_93)
              · skip
                rw [pk_rem (by omega) (by decide) (by decide), pk_rem (by omega) (by decide) (by decide), nI_eq (by omega) (by omega)] at h85
                refine lv_iconst (v := 1) hx hb dM_contradict_88 (by decide) ?_
                refine lv_goto (tgt := 93) hx hb dM_contradict_89 rfl ?_
                exact x_tv (by clear ret hl hx hb X hP; rcases Nat.lt_or_ge a 12 with q1 | q1 <;> rcases Nat.lt_or_ge b 12 with q2 | q2 <;> first | omega | (rw [sv_con_1 a ha b hb2 q1 q2]; first | rfl | omega) | (rw [sv_con_2 a ha b hb2 q1 q2]; first | (rw [decide_eq_true (by omega)]; rfl) | (rw [decide_eq_false (by omega)]; rfl)) | (rw [sv_con_3 a ha b hb2 q1 q2]; first | (rw [decide_eq_true (by omega), decide_eq_true (by omega)]; rfl) | (rw [decide_eq_false (show ¬ a - 12 < b by omega)]; rfl) | (rw [decide_eq_false (show ¬ b % 3 ≠ (a - 12) % 3 by omega), Bool.and_false]; rfl)) | (rw [sv_con_4 a ha b hb2 q1 q2]; first | (rw [decide_eq_true (by omega), decide_eq_true (by omega)]; rfl) | (rw [decide_eq_false (show ¬ b - 12 < a by omega)]; rfl) | (rw [decide_eq_false (show ¬ a % 3 ≠ (b - 12) % 3 by omega), Bool.and_false]; rfl))) (ret _ _ dM_contradict_93)
          · skip
            rw [nI_ltI (by omega) (by omega)] at h62
            refine lv_iload_n (i := 2) hx hb dM_contradict_65 rfl (sv_at hl rfl) ?_
            refine lv_goto (tgt := 70) hx hb dM_contradict_66 rfl ?_
            refine lv_istore (i := 4) hx hb dM_contradict_70 hl (by decide) rfl (fun ls hl => ?_)
            refine lv_iload (i := 4) hx hb dM_contradict_72 (sv_at hl rfl) ?_
            refine lv_iload_n (i := 3) hx hb dM_contradict_74 rfl (sv_at hl rfl) ?_
            refine lv_icmp_le (tgt := 92) hx hb dM_contradict_75 rfl (fun h75 => ?_) (fun h75 => ?_)
            · skip
              rw [nI_leI (by omega) (by omega)] at h75
              refine lv_iconst (v := 0) hx hb dM_contradict_92 (by decide) ?_
              exact x_tv (by clear ret hl hx hb X hP; rcases Nat.lt_or_ge a 12 with q1 | q1 <;> rcases Nat.lt_or_ge b 12 with q2 | q2 <;> first | omega | (rw [sv_con_1 a ha b hb2 q1 q2]; first | rfl | omega) | (rw [sv_con_2 a ha b hb2 q1 q2]; first | (rw [decide_eq_true (by omega)]; rfl) | (rw [decide_eq_false (by omega)]; rfl)) | (rw [sv_con_3 a ha b hb2 q1 q2]; first | (rw [decide_eq_true (by omega), decide_eq_true (by omega)]; rfl) | (rw [decide_eq_false (show ¬ a - 12 < b by omega)]; rfl) | (rw [decide_eq_false (show ¬ b % 3 ≠ (a - 12) % 3 by omega), Bool.and_false]; rfl)) | (rw [sv_con_4 a ha b hb2 q1 q2]; first | (rw [decide_eq_true (by omega), decide_eq_true (by omega)]; rfl) | (rw [decide_eq_false (show ¬ b - 12 < a by omega)]; rfl) | (rw [decide_eq_false (show ¬ a % 3 ≠ (b - 12) % 3 by omega), Bool.and_false]; rfl))) (ret _ _ dM_contradict_93)
            · skip
              rw [nI_leI (by omega) (by omega)] at h75
              refine lv_iload (i := 4) hx hb dM_contradict_78 (sv_at hl rfl) ?_
              refine lv_iconst (v := nI 3) hx hb dM_contradict_80 (by decide) ?_
              refine lv_irem hx hb dM_contradict_81 (by decide) ?_
              refine lv_iload_n (i := 3) hx hb dM_contradict_82 rfl (sv_at hl rfl) ?_
              refine lv_iconst (v := nI 3) hx hb dM_contradict_83 (by decide) ?_
              refine lv_irem hx hb dM_contradict_84 (by decide) ?_
              refine lv_icmp_eq (tgt := 92) hx hb dM_contradict_85 rfl (fun h85 => ?_) (fun h85 => ?_)
              · skip
                rw [pk_rem (by omega) (by decide) (by decide), pk_rem (by omega) (by decide) (by decide), nI_eq (by omega) (by omega)] at h85
                refine lv_iconst (v := 0) hx hb dM_contradict_92 (by decide) ?_
                exact x_tv (by clear ret hl hx hb X hP; rcases Nat.lt_or_ge a 12 with q1 | q1 <;> rcases Nat.lt_or_ge b 12 with q2 | q2 <;> first | omega | (rw [sv_con_1 a ha b hb2 q1 q2]; first | rfl | omega) | (rw [sv_con_2 a ha b hb2 q1 q2]; first | (rw [decide_eq_true (by omega)]; rfl) | (rw [decide_eq_false (by omega)]; rfl)) | (rw [sv_con_3 a ha b hb2 q1 q2]; first | (rw [decide_eq_true (by omega), decide_eq_true (by omega)]; rfl) | (rw [decide_eq_false (show ¬ a - 12 < b by omega)]; rfl) | (rw [decide_eq_false (show ¬ b % 3 ≠ (a - 12) % 3 by omega), Bool.and_false]; rfl)) | (rw [sv_con_4 a ha b hb2 q1 q2]; first | (rw [decide_eq_true (by omega), decide_eq_true (by omega)]; rfl) | (rw [decide_eq_false (show ¬ b - 12 < a by omega)]; rfl) | (rw [decide_eq_false (show ¬ a % 3 ≠ (b - 12) % 3 by omega), Bool.and_false]; rfl))) (ret _ _ dM_contradict_93)
              · skip
                rw [pk_rem (by omega) (by decide) (by decide), pk_rem (by omega) (by decide) (by decide), nI_eq (by omega) (by omega)] at h85
                refine lv_iconst (v := 1) hx hb dM_contradict_88 (by decide) ?_
                refine lv_goto (tgt := 93) hx hb dM_contradict_89 rfl ?_
                exact x_tv (by clear ret hl hx hb X hP; rcases Nat.lt_or_ge a 12 with q1 | q1 <;> rcases Nat.lt_or_ge b 12 with q2 | q2 <;> first | omega | (rw [sv_con_1 a ha b hb2 q1 q2]; first | rfl | omega) | (rw [sv_con_2 a ha b hb2 q1 q2]; first | (rw [decide_eq_true (by omega)]; rfl) | (rw [decide_eq_false (by omega)]; rfl)) | (rw [sv_con_3 a ha b hb2 q1 q2]; first | (rw [decide_eq_true (by omega), decide_eq_true (by omega)]; rfl) | (rw [decide_eq_false (show ¬ a - 12 < b by omega)]; rfl) | (rw [decide_eq_false (show ¬ b % 3 ≠ (a - 12) % 3 by omega), Bool.and_false]; rfl)) | (rw [sv_con_4 a ha b hb2 q1 q2]; first | (rw [decide_eq_true (by omega), decide_eq_true (by omega)]; rfl) | (rw [decide_eq_false (show ¬ b - 12 < a by omega)]; rfl) | (rw [decide_eq_false (show ¬ a % 3 ≠ (b - 12) % 3 by omega), Bool.and_false]; rfl))) (ret _ _ dM_contradict_93)
      · skip
        rw [nI_ltI (by omega) (by omega)] at h23
        refine lv_iload_n (i := 1) hx hb dM_contradict_26 rfl (sv_at hl rfl) ?_
        refine lv_iconst (v := nI 3) hx hb dM_contradict_27 (by decide) ?_
        refine lv_irem hx hb dM_contradict_28 (by decide) ?_
        refine lv_iload_n (i := 2) hx hb dM_contradict_29 rfl (sv_at hl rfl) ?_
        refine lv_iconst (v := nI 3) hx hb dM_contradict_30 (by decide) ?_
        refine lv_irem hx hb dM_contradict_31 (by decide) ?_
        refine lv_icmp_eq (tgt := 39) hx hb dM_contradict_32 rfl (fun h32 => ?_) (fun h32 => ?_)
        · skip
          rw [pk_rem (by omega) (by decide) (by decide), pk_rem (by omega) (by decide) (by decide), nI_eq (by omega) (by omega)] at h32
          refine lv_iconst (v := 0) hx hb dM_contradict_39 (by decide) ?_
          exact x_tv (by clear ret hl hx hb X hP; rcases Nat.lt_or_ge a 12 with q1 | q1 <;> rcases Nat.lt_or_ge b 12 with q2 | q2 <;> first | omega | (rw [sv_con_1 a ha b hb2 q1 q2]; first | rfl | omega) | (rw [sv_con_2 a ha b hb2 q1 q2]; first | (rw [decide_eq_true (by omega)]; rfl) | (rw [decide_eq_false (by omega)]; rfl)) | (rw [sv_con_3 a ha b hb2 q1 q2]; first | (rw [decide_eq_true (by omega), decide_eq_true (by omega)]; rfl) | (rw [decide_eq_false (show ¬ a - 12 < b by omega)]; rfl) | (rw [decide_eq_false (show ¬ b % 3 ≠ (a - 12) % 3 by omega), Bool.and_false]; rfl)) | (rw [sv_con_4 a ha b hb2 q1 q2]; first | (rw [decide_eq_true (by omega), decide_eq_true (by omega)]; rfl) | (rw [decide_eq_false (show ¬ b - 12 < a by omega)]; rfl) | (rw [decide_eq_false (show ¬ a % 3 ≠ (b - 12) % 3 by omega), Bool.and_false]; rfl))) (ret _ _ dM_contradict_40)
        · skip
          rw [pk_rem (by omega) (by decide) (by decide), pk_rem (by omega) (by decide) (by decide), nI_eq (by omega) (by omega)] at h32
          refine lv_iconst (v := 1) hx hb dM_contradict_35 (by decide) ?_
          refine lv_goto (tgt := 40) hx hb dM_contradict_36 rfl ?_
          exact x_tv (by clear ret hl hx hb X hP; rcases Nat.lt_or_ge a 12 with q1 | q1 <;> rcases Nat.lt_or_ge b 12 with q2 | q2 <;> first | omega | (rw [sv_con_1 a ha b hb2 q1 q2]; first | rfl | omega) | (rw [sv_con_2 a ha b hb2 q1 q2]; first | (rw [decide_eq_true (by omega)]; rfl) | (rw [decide_eq_false (by omega)]; rfl)) | (rw [sv_con_3 a ha b hb2 q1 q2]; first | (rw [decide_eq_true (by omega), decide_eq_true (by omega)]; rfl) | (rw [decide_eq_false (show ¬ a - 12 < b by omega)]; rfl) | (rw [decide_eq_false (show ¬ b % 3 ≠ (a - 12) % 3 by omega), Bool.and_false]; rfl)) | (rw [sv_con_4 a ha b hb2 q1 q2]; first | (rw [decide_eq_true (by omega), decide_eq_true (by omega)]; rfl) | (rw [decide_eq_false (show ¬ b - 12 < a by omega)]; rfl) | (rw [decide_eq_false (show ¬ a % 3 ≠ (b - 12) % 3 by omega), Bool.and_false]; rfl))) (ret _ _ dM_contradict_40)
  · skip
    rw [nI_leI (by omega) (by omega)] at h3
    refine lv_iload_n (i := 2) hx hb dM_contradict_6 rfl (sv_at hl rfl) ?_
    refine lv_bipush (v := nI 12) hx hb dM_contradict_7 (by decide) ?_
    refine lv_icmp_ge (tgt := 14) hx hb dM_contradict_9 rfl (fun h9 => ?_) (fun h9 => ?_)
    · skip
      rw [nI_leI (by omega) (by omega)] at h9
      refine lv_iload_n (i := 1) hx hb dM_contradict_14 rfl (sv_at hl rfl) ?_
      refine lv_bipush (v := nI 12) hx hb dM_contradict_15 (by decide) ?_
      refine lv_icmp_lt (tgt := 41) hx hb dM_contradict_17 rfl (fun h17 => ?_) (fun h17 => ?_)
      · skip
        rw [nI_ltI (by omega) (by omega)] at h17
        refine lv_iload_n (i := 1) hx hb dM_contradict_41 rfl (sv_at hl rfl) ?_
        refine lv_bipush (v := nI 12) hx hb dM_contradict_42 (by decide) ?_
        refine lv_icmp_lt (tgt := 54) hx hb dM_contradict_44 rfl (fun h44 => ?_) (fun h44 => ?_)
        · skip
          rw [nI_ltI (by omega) (by omega)] at h44
          refine lv_iload_n (i := 2) hx hb dM_contradict_54 rfl (sv_at hl rfl) ?_
          refine lv_bipush (v := nI 12) hx hb dM_contradict_55 (by decide) ?_
          refine lv_isub hx hb dM_contradict_57 ?_
          first | refine x_tv (pk_sub (a := a) (b := 12) (by omega)) ?_ | refine x_tv (pk_sub (a := b) (b := 12) (by omega)) ?_
          refine lv_istore_n (i := 3) hx hb dM_contradict_58 rfl hl (by decide) rfl (fun ls hl => ?_)
          refine lv_iload_n (i := 1) hx hb dM_contradict_59 rfl (sv_at hl rfl) ?_
          refine lv_bipush (v := nI 12) hx hb dM_contradict_60 (by decide) ?_
          refine lv_icmp_lt (tgt := 69) hx hb dM_contradict_62 rfl (fun h62 => ?_) (fun h62 => ?_)
          · skip
            rw [nI_ltI (by omega) (by omega)] at h62
            refine lv_iload_n (i := 1) hx hb dM_contradict_69 rfl (sv_at hl rfl) ?_
            refine lv_istore (i := 4) hx hb dM_contradict_70 hl (by decide) rfl (fun ls hl => ?_)
            refine lv_iload (i := 4) hx hb dM_contradict_72 (sv_at hl rfl) ?_
            refine lv_iload_n (i := 3) hx hb dM_contradict_74 rfl (sv_at hl rfl) ?_
            refine lv_icmp_le (tgt := 92) hx hb dM_contradict_75 rfl (fun h75 => ?_) (fun h75 => ?_)
            · skip
              rw [nI_leI (by omega) (by omega)] at h75
              refine lv_iconst (v := 0) hx hb dM_contradict_92 (by decide) ?_
              exact x_tv (by clear ret hl hx hb X hP; rcases Nat.lt_or_ge a 12 with q1 | q1 <;> rcases Nat.lt_or_ge b 12 with q2 | q2 <;> first | omega | (rw [sv_con_1 a ha b hb2 q1 q2]; first | rfl | omega) | (rw [sv_con_2 a ha b hb2 q1 q2]; first | (rw [decide_eq_true (by omega)]; rfl) | (rw [decide_eq_false (by omega)]; rfl)) | (rw [sv_con_3 a ha b hb2 q1 q2]; first | (rw [decide_eq_true (by omega), decide_eq_true (by omega)]; rfl) | (rw [decide_eq_false (show ¬ a - 12 < b by omega)]; rfl) | (rw [decide_eq_false (show ¬ b % 3 ≠ (a - 12) % 3 by omega), Bool.and_false]; rfl)) | (rw [sv_con_4 a ha b hb2 q1 q2]; first | (rw [decide_eq_true (by omega), decide_eq_true (by omega)]; rfl) | (rw [decide_eq_false (show ¬ b - 12 < a by omega)]; rfl) | (rw [decide_eq_false (show ¬ a % 3 ≠ (b - 12) % 3 by omega), Bool.and_false]; rfl))) (ret _ _ dM_contradict_93)
            · skip
              rw [nI_leI (by omega) (by omega)] at h75
              refine lv_iload (i := 4) hx hb dM_contradict_78 (sv_at hl rfl) ?_
              refine lv_iconst (v := nI 3) hx hb dM_contradict_80 (by decide) ?_
              refine lv_irem hx hb dM_contradict_81 (by decide) ?_
              refine lv_iload_n (i := 3) hx hb dM_contradict_82 rfl (sv_at hl rfl) ?_
              refine lv_iconst (v := nI 3) hx hb dM_contradict_83 (by decide) ?_
              refine lv_irem hx hb dM_contradict_84 (by decide) ?_
              refine lv_icmp_eq (tgt := 92) hx hb dM_contradict_85 rfl (fun h85 => ?_) (fun h85 => ?_)
              · skip
                rw [pk_rem (by omega) (by decide) (by decide), pk_rem (by omega) (by decide) (by decide), nI_eq (by omega) (by omega)] at h85
                refine lv_iconst (v := 0) hx hb dM_contradict_92 (by decide) ?_
                exact x_tv (by clear ret hl hx hb X hP; rcases Nat.lt_or_ge a 12 with q1 | q1 <;> rcases Nat.lt_or_ge b 12 with q2 | q2 <;> first | omega | (rw [sv_con_1 a ha b hb2 q1 q2]; first | rfl | omega) | (rw [sv_con_2 a ha b hb2 q1 q2]; first | (rw [decide_eq_true (by omega)]; rfl) | (rw [decide_eq_false (by omega)]; rfl)) | (rw [sv_con_3 a ha b hb2 q1 q2]; first | (rw [decide_eq_true (by omega), decide_eq_true (by omega)]; rfl) | (rw [decide_eq_false (show ¬ a - 12 < b by omega)]; rfl) | (rw [decide_eq_false (show ¬ b % 3 ≠ (a - 12) % 3 by omega), Bool.and_false]; rfl)) | (rw [sv_con_4 a ha b hb2 q1 q2]; first | (rw [decide_eq_true (by omega), decide_eq_true (by omega)]; rfl) | (rw [decide_eq_false (show ¬ b - 12 < a by omega)]; rfl) | (rw [decide_eq_false (show ¬ a % 3 ≠ (b - 12) % 3 by omega), Bool.and_false]; rfl))) (ret _ _ dM_contradict_93)
              · skip
                rw [pk_rem (by omega) (by decide) (by decide), pk_rem (by omega) (by decide) (by decide), nI_eq (by omega) (by omega)] at h85
                refine lv_iconst (v := 1) hx hb dM_contradict_88 (by decide) ?_
                refine lv_goto (tgt := 93) hx hb dM_contradict_89 rfl ?_
                exact x_tv (by clear ret hl hx hb X hP; rcases Nat.lt_or_ge a 12 with q1 | q1 <;> rcases Nat.lt_or_ge b 12 with q2 | q2 <;> first | omega | (rw [sv_con_1 a ha b hb2 q1 q2]; first | rfl | omega) | (rw [sv_con_2 a ha b hb2 q1 q2]; first | (rw [decide_eq_true (by omega)]; rfl) | (rw [decide_eq_false (by omega)]; rfl)) | (rw [sv_con_3 a ha b hb2 q1 q2]; first | (rw [decide_eq_true (by omega), decide_eq_true (by omega)]; rfl) | (rw [decide_eq_false (show ¬ a - 12 < b by omega)]; rfl) | (rw [decide_eq_false (show ¬ b % 3 ≠ (a - 12) % 3 by omega), Bool.and_false]; rfl)) | (rw [sv_con_4 a ha b hb2 q1 q2]; first | (rw [decide_eq_true (by omega), decide_eq_true (by omega)]; rfl) | (rw [decide_eq_false (show ¬ b - 12 < a by omega)]; rfl) | (rw [decide_eq_false (show ¬ a % 3 ≠ (b - 12) % 3 by omega), Bool.and_false]; rfl))) (ret _ _ dM_contradict_93)
          · skip
            rw [nI_ltI (by omega) (by omega)] at h62
            refine lv_iload_n (i := 2) hx hb dM_contradict_65 rfl (sv_at hl rfl) ?_
            refine lv_goto (tgt := 70) hx hb dM_contradict_66 rfl ?_
            refine lv_istore (i := 4) hx hb dM_contradict_70 hl (by decide) rfl (fun ls hl => ?_)
            refine lv_iload (i := 4) hx hb dM_contradict_72 (sv_at hl rfl) ?_
            refine lv_iload_n (i := 3) hx hb dM_contradict_74 rfl (sv_at hl rfl) ?_
            refine lv_icmp_le (tgt := 92) hx hb dM_contradict_75 rfl (fun h75 => ?_) (fun h75 => ?_)
            · skip
              rw [nI_leI (by omega) (by omega)] at h75
              refine lv_iconst (v := 0) hx hb dM_contradict_92 (by decide) ?_
              exact x_tv (by clear ret hl hx hb X hP; rcases Nat.lt_or_ge a 12 with q1 | q1 <;> rcases Nat.lt_or_ge b 12 with q2 | q2 <;> first | omega | (rw [sv_con_1 a ha b hb2 q1 q2]; first | rfl | omega) | (rw [sv_con_2 a ha b hb2 q1 q2]; first | (rw [decide_eq_true (by omega)]; rfl) | (rw [decide_eq_false (by omega)]; rfl)) | (rw [sv_con_3 a ha b hb2 q1 q2]; first | (rw [decide_eq_true (by omega), decide_eq_true (by omega)]; rfl) | (rw [decide_eq_false (show ¬ a - 12 < b by omega)]; rfl) | (rw [decide_eq_false (show ¬ b % 3 ≠ (a - 12) % 3 by omega), Bool.and_false]; rfl)) | (rw [sv_con_4 a ha b hb2 q1 q2]; first | (rw [decide_eq_true (by omega), decide_eq_true (by omega)]; rfl) | (rw [decide_eq_false (show ¬ b - 12 < a by omega)]; rfl) | (rw [decide_eq_false (show ¬ a % 3 ≠ (b - 12) % 3 by omega), Bool.and_false]; rfl))) (ret _ _ dM_contradict_93)
            · skip
              rw [nI_leI (by omega) (by omega)] at h75
              refine lv_iload (i := 4) hx hb dM_contradict_78 (sv_at hl rfl) ?_
              refine lv_iconst (v := nI 3) hx hb dM_contradict_80 (by decide) ?_
              refine lv_irem hx hb dM_contradict_81 (by decide) ?_
              refine lv_iload_n (i := 3) hx hb dM_contradict_82 rfl (sv_at hl rfl) ?_
              refine lv_iconst (v := nI 3) hx hb dM_contradict_83 (by decide) ?_
              refine lv_irem hx hb dM_contradict_84 (by decide) ?_
              refine lv_icmp_eq (tgt := 92) hx hb dM_contradict_85 rfl (fun h85 => ?_) (fun h85 => ?_)
              · skip
                rw [pk_rem (by omega) (by decide) (by decide), pk_rem (by omega) (by decide) (by decide), nI_eq (by omega) (by omega)] at h85
                refine lv_iconst (v := 0) hx hb dM_contradict_92 (by decide) ?_
                exact x_tv (by clear ret hl hx hb X hP; rcases Nat.lt_or_ge a 12 with q1 | q1 <;> rcases Nat.lt_or_ge b 12 with q2 | q2 <;> first | omega | (rw [sv_con_1 a ha b hb2 q1 q2]; first | rfl | omega) | (rw [sv_con_2 a ha b hb2 q1 q2]; first | (rw [decide_eq_true (by omega)]; rfl) | (rw [decide_eq_false (by omega)]; rfl)) | (rw [sv_con_3 a ha b hb2 q1 q2]; first | (rw [decide_eq_true (by omega), decide_eq_true (by omega)]; rfl) | (rw [decide_eq_false (show ¬ a - 12 < b by omega)]; rfl) | (rw [decide_eq_false (show ¬ b % 3 ≠ (a - 12) % 3 by omega), Bool.and_false]; rfl)) | (rw [sv_con_4 a ha b hb2 q1 q2]; first | (rw [decide_eq_true (by omega), decide_eq_true (by omega)]; rfl) | (rw [decide_eq_false (show ¬ b - 12 < a by omega)]; rfl) | (rw [decide_eq_false (show ¬ a % 3 ≠ (b - 12) % 3 by omega), Bool.and_false]; rfl))) (ret _ _ dM_contradict_93)
              · skip
                rw [pk_rem (by omega) (by decide) (by decide), pk_rem (by omega) (by decide) (by decide), nI_eq (by omega) (by omega)] at h85
                refine lv_iconst (v := 1) hx hb dM_contradict_88 (by decide) ?_
                refine lv_goto (tgt := 93) hx hb dM_contradict_89 rfl ?_
                exact x_tv (by clear ret hl hx hb X hP; rcases Nat.lt_or_ge a 12 with q1 | q1 <;> rcases Nat.lt_or_ge b 12 with q2 | q2 <;> first | omega | (rw [sv_con_1 a ha b hb2 q1 q2]; first | rfl | omega) | (rw [sv_con_2 a ha b hb2 q1 q2]; first | (rw [decide_eq_true (by omega)]; rfl) | (rw [decide_eq_false (by omega)]; rfl)) | (rw [sv_con_3 a ha b hb2 q1 q2]; first | (rw [decide_eq_true (by omega), decide_eq_true (by omega)]; rfl) | (rw [decide_eq_false (show ¬ a - 12 < b by omega)]; rfl) | (rw [decide_eq_false (show ¬ b % 3 ≠ (a - 12) % 3 by omega), Bool.and_false]; rfl)) | (rw [sv_con_4 a ha b hb2 q1 q2]; first | (rw [decide_eq_true (by omega), decide_eq_true (by omega)]; rfl) | (rw [decide_eq_false (show ¬ b - 12 < a by omega)]; rfl) | (rw [decide_eq_false (show ¬ a % 3 ≠ (b - 12) % 3 by omega), Bool.and_false]; rfl))) (ret _ _ dM_contradict_93)
        · skip
          rw [nI_ltI (by omega) (by omega)] at h44
          refine lv_iload_n (i := 1) hx hb dM_contradict_47 rfl (sv_at hl rfl) ?_
          refine lv_bipush (v := nI 12) hx hb dM_contradict_48 (by decide) ?_
          refine lv_isub hx hb dM_contradict_50 ?_
          refine lv_goto (tgt := 58) hx hb dM_contradict_51 rfl ?_
          first | refine x_tv (pk_sub (a := a) (b := 12) (by omega)) ?_ | refine x_tv (pk_sub (a := b) (b := 12) (by omega)) ?_
          refine lv_istore_n (i := 3) hx hb dM_contradict_58 rfl hl (by decide) rfl (fun ls hl => ?_)
          refine lv_iload_n (i := 1) hx hb dM_contradict_59 rfl (sv_at hl rfl) ?_
          refine lv_bipush (v := nI 12) hx hb dM_contradict_60 (by decide) ?_
          refine lv_icmp_lt (tgt := 69) hx hb dM_contradict_62 rfl (fun h62 => ?_) (fun h62 => ?_)
          · skip
            rw [nI_ltI (by omega) (by omega)] at h62
            refine lv_iload_n (i := 1) hx hb dM_contradict_69 rfl (sv_at hl rfl) ?_
            refine lv_istore (i := 4) hx hb dM_contradict_70 hl (by decide) rfl (fun ls hl => ?_)
            refine lv_iload (i := 4) hx hb dM_contradict_72 (sv_at hl rfl) ?_
            refine lv_iload_n (i := 3) hx hb dM_contradict_74 rfl (sv_at hl rfl) ?_
            refine lv_icmp_le (tgt := 92) hx hb dM_contradict_75 rfl (fun h75 => ?_) (fun h75 => ?_)
            · skip
              rw [nI_leI (by omega) (by omega)] at h75
              refine lv_iconst (v := 0) hx hb dM_contradict_92 (by decide) ?_
              exact x_tv (by clear ret hl hx hb X hP; rcases Nat.lt_or_ge a 12 with q1 | q1 <;> rcases Nat.lt_or_ge b 12 with q2 | q2 <;> first | omega | (rw [sv_con_1 a ha b hb2 q1 q2]; first | rfl | omega) | (rw [sv_con_2 a ha b hb2 q1 q2]; first | (rw [decide_eq_true (by omega)]; rfl) | (rw [decide_eq_false (by omega)]; rfl)) | (rw [sv_con_3 a ha b hb2 q1 q2]; first | (rw [decide_eq_true (by omega), decide_eq_true (by omega)]; rfl) | (rw [decide_eq_false (show ¬ a - 12 < b by omega)]; rfl) | (rw [decide_eq_false (show ¬ b % 3 ≠ (a - 12) % 3 by omega), Bool.and_false]; rfl)) | (rw [sv_con_4 a ha b hb2 q1 q2]; first | (rw [decide_eq_true (by omega), decide_eq_true (by omega)]; rfl) | (rw [decide_eq_false (show ¬ b - 12 < a by omega)]; rfl) | (rw [decide_eq_false (show ¬ a % 3 ≠ (b - 12) % 3 by omega), Bool.and_false]; rfl))) (ret _ _ dM_contradict_93)
            · skip
              rw [nI_leI (by omega) (by omega)] at h75
              refine lv_iload (i := 4) hx hb dM_contradict_78 (sv_at hl rfl) ?_
              refine lv_iconst (v := nI 3) hx hb dM_contradict_80 (by decide) ?_
              refine lv_irem hx hb dM_contradict_81 (by decide) ?_
              refine lv_iload_n (i := 3) hx hb dM_contradict_82 rfl (sv_at hl rfl) ?_
              refine lv_iconst (v := nI 3) hx hb dM_contradict_83 (by decide) ?_
              refine lv_irem hx hb dM_contradict_84 (by decide) ?_
              refine lv_icmp_eq (tgt := 92) hx hb dM_contradict_85 rfl (fun h85 => ?_) (fun h85 => ?_)
              · skip
                rw [pk_rem (by omega) (by decide) (by decide), pk_rem (by omega) (by decide) (by decide), nI_eq (by omega) (by omega)] at h85
                refine lv_iconst (v := 0) hx hb dM_contradict_92 (by decide) ?_
                exact x_tv (by clear ret hl hx hb X hP; rcases Nat.lt_or_ge a 12 with q1 | q1 <;> rcases Nat.lt_or_ge b 12 with q2 | q2 <;> first | omega | (rw [sv_con_1 a ha b hb2 q1 q2]; first | rfl | omega) | (rw [sv_con_2 a ha b hb2 q1 q2]; first | (rw [decide_eq_true (by omega)]; rfl) | (rw [decide_eq_false (by omega)]; rfl)) | (rw [sv_con_3 a ha b hb2 q1 q2]; first | (rw [decide_eq_true (by omega), decide_eq_true (by omega)]; rfl) | (rw [decide_eq_false (show ¬ a - 12 < b by omega)]; rfl) | (rw [decide_eq_false (show ¬ b % 3 ≠ (a - 12) % 3 by omega), Bool.and_false]; rfl)) | (rw [sv_con_4 a ha b hb2 q1 q2]; first | (rw [decide_eq_true (by omega), decide_eq_true (by omega)]; rfl) | (rw [decide_eq_false (show ¬ b - 12 < a by omega)]; rfl) | (rw [decide_eq_false (show ¬ a % 3 ≠ (b - 12) % 3 by omega), Bool.and_false]; rfl))) (ret _ _ dM_contradict_93)
              · skip
                rw [pk_rem (by omega) (by decide) (by decide), pk_rem (by omega) (by decide) (by decide), nI_eq (by omega) (by omega)] at h85
                refine lv_iconst (v := 1) hx hb dM_contradict_88 (by decide) ?_
                refine lv_goto (tgt := 93) hx hb dM_contradict_89 rfl ?_
                exact x_tv (by clear ret hl hx hb X hP; rcases Nat.lt_or_ge a 12 with q1 | q1 <;> rcases Nat.lt_or_ge b 12 with q2 | q2 <;> first | omega | (rw [sv_con_1 a ha b hb2 q1 q2]; first | rfl | omega) | (rw [sv_con_2 a ha b hb2 q1 q2]; first | (rw [decide_eq_true (by omega)]; rfl) | (rw [decide_eq_false (by omega)]; rfl)) | (rw [sv_con_3 a ha b hb2 q1 q2]; first | (rw [decide_eq_true (by omega), decide_eq_true (by omega)]; rfl) | (rw [decide_eq_false (show ¬ a - 12 < b by omega)]; rfl) | (rw [decide_eq_false (show ¬ b % 3 ≠ (a - 12) % 3 by omega), Bool.and_false]; rfl)) | (rw [sv_con_4 a ha b hb2 q1 q2]; first | (rw [decide_eq_true (by omega), decide_eq_true (by omega)]; rfl) | (rw [decide_eq_false (show ¬ b - 12 < a by omega)]; rfl) | (rw [decide_eq_false (show ¬ a % 3 ≠ (b - 12) % 3 by omega), Bool.and_false]; rfl))) (ret _ _ dM_contradict_93)
          · skip
            rw [nI_ltI (by omega) (by omega)] at h62
            refine lv_iload_n (i := 2) hx hb dM_contradict_65 rfl (sv_at hl rfl) ?_
            refine lv_goto (tgt := 70) hx hb dM_contradict_66 rfl ?_
            refine lv_istore (i := 4) hx hb dM_contradict_70 hl (by decide) rfl (fun ls hl => ?_)
            refine lv_iload (i := 4) hx hb dM_contradict_72 (sv_at hl rfl) ?_
            refine lv_iload_n (i := 3) hx hb dM_contradict_74 rfl (sv_at hl rfl) ?_
            refine lv_icmp_le (tgt := 92) hx hb dM_contradict_75 rfl (fun h75 => ?_) (fun h75 => ?_)
            · skip
              rw [nI_leI (by omega) (by omega)] at h75
              refine lv_iconst (v := 0) hx hb dM_contradict_92 (by decide) ?_
              exact x_tv (by clear ret hl hx hb X hP; rcases Nat.lt_or_ge a 12 with q1 | q1 <;> rcases Nat.lt_or_ge b 12 with q2 | q2 <;> first | omega | (rw [sv_con_1 a ha b hb2 q1 q2]; first | rfl | omega) | (rw [sv_con_2 a ha b hb2 q1 q2]; first | (rw [decide_eq_true (by omega)]; rfl) | (rw [decide_eq_false (by omega)]; rfl)) | (rw [sv_con_3 a ha b hb2 q1 q2]; first | (rw [decide_eq_true (by omega), decide_eq_true (by omega)]; rfl) | (rw [decide_eq_false (show ¬ a - 12 < b by omega)]; rfl) | (rw [decide_eq_false (show ¬ b % 3 ≠ (a - 12) % 3 by omega), Bool.and_false]; rfl)) | (rw [sv_con_4 a ha b hb2 q1 q2]; first | (rw [decide_eq_true (by omega), decide_eq_true (by omega)]; rfl) | (rw [decide_eq_false (show ¬ b - 12 < a by omega)]; rfl) | (rw [decide_eq_false (show ¬ a % 3 ≠ (b - 12) % 3 by omega), Bool.and_false]; rfl))) (ret _ _ dM_contradict_93)
            · skip
              rw [nI_leI (by omega) (by omega)] at h75
              refine lv_iload (i := 4) hx hb dM_contradict_78 (sv_at hl rfl) ?_
              refine lv_iconst (v := nI 3) hx hb dM_contradict_80 (by decide) ?_
              refine lv_irem hx hb dM_contradict_81 (by decide) ?_
              refine lv_iload_n (i := 3) hx hb dM_contradict_82 rfl (sv_at hl rfl) ?_
              refine lv_iconst (v := nI 3) hx hb dM_contradict_83 (by decide) ?_
              refine lv_irem hx hb dM_contradict_84 (by decide) ?_
              refine lv_icmp_eq (tgt := 92) hx hb dM_contradict_85 rfl (fun h85 => ?_) (fun h85 => ?_)
              · skip
                rw [pk_rem (by omega) (by decide) (by decide), pk_rem (by omega) (by decide) (by decide), nI_eq (by omega) (by omega)] at h85
                refine lv_iconst (v := 0) hx hb dM_contradict_92 (by decide) ?_
                exact x_tv (by clear ret hl hx hb X hP; rcases Nat.lt_or_ge a 12 with q1 | q1 <;> rcases Nat.lt_or_ge b 12 with q2 | q2 <;> first | omega | (rw [sv_con_1 a ha b hb2 q1 q2]; first | rfl | omega) | (rw [sv_con_2 a ha b hb2 q1 q2]; first | (rw [decide_eq_true (by omega)]; rfl) | (rw [decide_eq_false (by omega)]; rfl)) | (rw [sv_con_3 a ha b hb2 q1 q2]; first | (rw [decide_eq_true (by omega), decide_eq_true (by omega)]; rfl) | (rw [decide_eq_false (show ¬ a - 12 < b by omega)]; rfl) | (rw [decide_eq_false (show ¬ b % 3 ≠ (a - 12) % 3 by omega), Bool.and_false]; rfl)) | (rw [sv_con_4 a ha b hb2 q1 q2]; first | (rw [decide_eq_true (by omega), decide_eq_true (by omega)]; rfl) | (rw [decide_eq_false (show ¬ b - 12 < a by omega)]; rfl) | (rw [decide_eq_false (show ¬ a % 3 ≠ (b - 12) % 3 by omega), Bool.and_false]; rfl))) (ret _ _ dM_contradict_93)
              · skip
                rw [pk_rem (by omega) (by decide) (by decide), pk_rem (by omega) (by decide) (by decide), nI_eq (by omega) (by omega)] at h85
                refine lv_iconst (v := 1) hx hb dM_contradict_88 (by decide) ?_
                refine lv_goto (tgt := 93) hx hb dM_contradict_89 rfl ?_
                exact x_tv (by clear ret hl hx hb X hP; rcases Nat.lt_or_ge a 12 with q1 | q1 <;> rcases Nat.lt_or_ge b 12 with q2 | q2 <;> first | omega | (rw [sv_con_1 a ha b hb2 q1 q2]; first | rfl | omega) | (rw [sv_con_2 a ha b hb2 q1 q2]; first | (rw [decide_eq_true (by omega)]; rfl) | (rw [decide_eq_false (by omega)]; rfl)) | (rw [sv_con_3 a ha b hb2 q1 q2]; first | (rw [decide_eq_true (by omega), decide_eq_true (by omega)]; rfl) | (rw [decide_eq_false (show ¬ a - 12 < b by omega)]; rfl) | (rw [decide_eq_false (show ¬ b % 3 ≠ (a - 12) % 3 by omega), Bool.and_false]; rfl)) | (rw [sv_con_4 a ha b hb2 q1 q2]; first | (rw [decide_eq_true (by omega), decide_eq_true (by omega)]; rfl) | (rw [decide_eq_false (show ¬ b - 12 < a by omega)]; rfl) | (rw [decide_eq_false (show ¬ a % 3 ≠ (b - 12) % 3 by omega), Bool.and_false]; rfl))) (ret _ _ dM_contradict_93)
      · skip
        rw [nI_ltI (by omega) (by omega)] at h17
        refine lv_iload_n (i := 2) hx hb dM_contradict_20 rfl (sv_at hl rfl) ?_
        refine lv_bipush (v := nI 12) hx hb dM_contradict_21 (by decide) ?_
        refine lv_icmp_lt (tgt := 41) hx hb dM_contradict_23 rfl (fun h23 => ?_) (fun h23 => ?_)
        · skip
          rw [nI_ltI (by omega) (by omega)] at h23
          refine lv_iload_n (i := 1) hx hb dM_contradict_41 rfl (sv_at hl rfl) ?_
          refine lv_bipush (v := nI 12) hx hb dM_contradict_42 (by decide) ?_
          refine lv_icmp_lt (tgt := 54) hx hb dM_contradict_44 rfl (fun h44 => ?_) (fun h44 => ?_)
          · skip
            rw [nI_ltI (by omega) (by omega)] at h44
            refine lv_iload_n (i := 2) hx hb dM_contradict_54 rfl (sv_at hl rfl) ?_
            refine lv_bipush (v := nI 12) hx hb dM_contradict_55 (by decide) ?_
            refine lv_isub hx hb dM_contradict_57 ?_
            first | refine x_tv (pk_sub (a := a) (b := 12) (by omega)) ?_ | refine x_tv (pk_sub (a := b) (b := 12) (by omega)) ?_
            refine lv_istore_n (i := 3) hx hb dM_contradict_58 rfl hl (by decide) rfl (fun ls hl => ?_)
            refine lv_iload_n (i := 1) hx hb dM_contradict_59 rfl (sv_at hl rfl) ?_
            refine lv_bipush (v := nI 12) hx hb dM_contradict_60 (by decide) ?_
            refine lv_icmp_lt (tgt := 69) hx hb dM_contradict_62 rfl (fun h62 => ?_) (fun h62 => ?_)
            · skip
              rw [nI_ltI (by omega) (by omega)] at h62
              refine lv_iload_n (i := 1) hx hb dM_contradict_69 rfl (sv_at hl rfl) ?_
              refine lv_istore (i := 4) hx hb dM_contradict_70 hl (by decide) rfl (fun ls hl => ?_)
              refine lv_iload (i := 4) hx hb dM_contradict_72 (sv_at hl rfl) ?_
              refine lv_iload_n (i := 3) hx hb dM_contradict_74 rfl (sv_at hl rfl) ?_
              refine lv_icmp_le (tgt := 92) hx hb dM_contradict_75 rfl (fun h75 => ?_) (fun h75 => ?_)
              · skip
                rw [nI_leI (by omega) (by omega)] at h75
                refine lv_iconst (v := 0) hx hb dM_contradict_92 (by decide) ?_
                exact x_tv (by clear ret hl hx hb X hP; rcases Nat.lt_or_ge a 12 with q1 | q1 <;> rcases Nat.lt_or_ge b 12 with q2 | q2 <;> first | omega | (rw [sv_con_1 a ha b hb2 q1 q2]; first | rfl | omega) | (rw [sv_con_2 a ha b hb2 q1 q2]; first | (rw [decide_eq_true (by omega)]; rfl) | (rw [decide_eq_false (by omega)]; rfl)) | (rw [sv_con_3 a ha b hb2 q1 q2]; first | (rw [decide_eq_true (by omega), decide_eq_true (by omega)]; rfl) | (rw [decide_eq_false (show ¬ a - 12 < b by omega)]; rfl) | (rw [decide_eq_false (show ¬ b % 3 ≠ (a - 12) % 3 by omega), Bool.and_false]; rfl)) | (rw [sv_con_4 a ha b hb2 q1 q2]; first | (rw [decide_eq_true (by omega), decide_eq_true (by omega)]; rfl) | (rw [decide_eq_false (show ¬ b - 12 < a by omega)]; rfl) | (rw [decide_eq_false (show ¬ a % 3 ≠ (b - 12) % 3 by omega), Bool.and_false]; rfl))) (ret _ _ dM_contradict_93)
              · skip
                rw [nI_leI (by omega) (by omega)] at h75
                refine lv_iload (i := 4) hx hb dM_contradict_78 (sv_at hl rfl) ?_
                refine lv_iconst (v := nI 3) hx hb dM_contradict_80 (by decide) ?_
                refine lv_irem hx hb dM_contradict_81 (by decide) ?_
                refine lv_iload_n (i := 3) hx hb dM_contradict_82 rfl (sv_at hl rfl) ?_
                refine lv_iconst (v := nI 3) hx hb dM_contradict_83 (by decide) ?_
                refine lv_irem hx hb dM_contradict_84 (by decide) ?_
                refine lv_icmp_eq (tgt := 92) hx hb dM_contradict_85 rfl (fun h85 => ?_) (fun h85 => ?_)
                · skip
                  rw [pk_rem (by omega) (by decide) (by decide), pk_rem (by omega) (by decide) (by decide), nI_eq (by omega) (by omega)] at h85
                  refine lv_iconst (v := 0) hx hb dM_contradict_92 (by decide) ?_
                  exact x_tv (by clear ret hl hx hb X hP; rcases Nat.lt_or_ge a 12 with q1 | q1 <;> rcases Nat.lt_or_ge b 12 with q2 | q2 <;> first | omega | (rw [sv_con_1 a ha b hb2 q1 q2]; first | rfl | omega) | (rw [sv_con_2 a ha b hb2 q1 q2]; first | (rw [decide_eq_true (by omega)]; rfl) | (rw [decide_eq_false (by omega)]; rfl)) | (rw [sv_con_3 a ha b hb2 q1 q2]; first | (rw [decide_eq_true (by omega), decide_eq_true (by omega)]; rfl) | (rw [decide_eq_false (show ¬ a - 12 < b by omega)]; rfl) | (rw [decide_eq_false (show ¬ b % 3 ≠ (a - 12) % 3 by omega), Bool.and_false]; rfl)) | (rw [sv_con_4 a ha b hb2 q1 q2]; first | (rw [decide_eq_true (by omega), decide_eq_true (by omega)]; rfl) | (rw [decide_eq_false (show ¬ b - 12 < a by omega)]; rfl) | (rw [decide_eq_false (show ¬ a % 3 ≠ (b - 12) % 3 by omega), Bool.and_false]; rfl))) (ret _ _ dM_contradict_93)
                · skip
                  rw [pk_rem (by omega) (by decide) (by decide), pk_rem (by omega) (by decide) (by decide), nI_eq (by omega) (by omega)] at h85
                  refine lv_iconst (v := 1) hx hb dM_contradict_88 (by decide) ?_
                  refine lv_goto (tgt := 93) hx hb dM_contradict_89 rfl ?_
                  exact x_tv (by clear ret hl hx hb X hP; rcases Nat.lt_or_ge a 12 with q1 | q1 <;> rcases Nat.lt_or_ge b 12 with q2 | q2 <;> first | omega | (rw [sv_con_1 a ha b hb2 q1 q2]; first | rfl | omega) | (rw [sv_con_2 a ha b hb2 q1 q2]; first | (rw [decide_eq_true (by omega)]; rfl) | (rw [decide_eq_false (by omega)]; rfl)) | (rw [sv_con_3 a ha b hb2 q1 q2]; first | (rw [decide_eq_true (by omega), decide_eq_true (by omega)]; rfl) | (rw [decide_eq_false (show ¬ a - 12 < b by omega)]; rfl) | (rw [decide_eq_false (show ¬ b % 3 ≠ (a - 12) % 3 by omega), Bool.and_false]; rfl)) | (rw [sv_con_4 a ha b hb2 q1 q2]; first | (rw [decide_eq_true (by omega), decide_eq_true (by omega)]; rfl) | (rw [decide_eq_false (show ¬ b - 12 < a by omega)]; rfl) | (rw [decide_eq_false (show ¬ a % 3 ≠ (b - 12) % 3 by omega), Bool.and_false]; rfl))) (ret _ _ dM_contradict_93)
            · skip
              rw [nI_ltI (by omega) (by omega)] at h62
              refine lv_iload_n (i := 2) hx hb dM_contradict_65 rfl (sv_at hl rfl) ?_
              refine lv_goto (tgt := 70) hx hb dM_contradict_66 rfl ?_
              refine lv_istore (i := 4) hx hb dM_contradict_70 hl (by decide) rfl (fun ls hl => ?_)
              refine lv_iload (i := 4) hx hb dM_contradict_72 (sv_at hl rfl) ?_
              refine lv_iload_n (i := 3) hx hb dM_contradict_74 rfl (sv_at hl rfl) ?_
              refine lv_icmp_le (tgt := 92) hx hb dM_contradict_75 rfl (fun h75 => ?_) (fun h75 => ?_)
              · skip
                rw [nI_leI (by omega) (by omega)] at h75
                refine lv_iconst (v := 0) hx hb dM_contradict_92 (by decide) ?_
                exact x_tv (by clear ret hl hx hb X hP; rcases Nat.lt_or_ge a 12 with q1 | q1 <;> rcases Nat.lt_or_ge b 12 with q2 | q2 <;> first | omega | (rw [sv_con_1 a ha b hb2 q1 q2]; first | rfl | omega) | (rw [sv_con_2 a ha b hb2 q1 q2]; first | (rw [decide_eq_true (by omega)]; rfl) | (rw [decide_eq_false (by omega)]; rfl)) | (rw [sv_con_3 a ha b hb2 q1 q2]; first | (rw [decide_eq_true (by omega), decide_eq_true (by omega)]; rfl) | (rw [decide_eq_false (show ¬ a - 12 < b by omega)]; rfl) | (rw [decide_eq_false (show ¬ b % 3 ≠ (a - 12) % 3 by omega), Bool.and_false]; rfl)) | (rw [sv_con_4 a ha b hb2 q1 q2]; first | (rw [decide_eq_true (by omega), decide_eq_true (by omega)]; rfl) | (rw [decide_eq_false (show ¬ b - 12 < a by omega)]; rfl) | (rw [decide_eq_false (show ¬ a % 3 ≠ (b - 12) % 3 by omega), Bool.and_false]; rfl))) (ret _ _ dM_contradict_93)
              · skip
                rw [nI_leI (by omega) (by omega)] at h75
                refine lv_iload (i := 4) hx hb dM_contradict_78 (sv_at hl rfl) ?_
                refine lv_iconst (v := nI 3) hx hb dM_contradict_80 (by decide) ?_
                refine lv_irem hx hb dM_contradict_81 (by decide) ?_
                refine lv_iload_n (i := 3) hx hb dM_contradict_82 rfl (sv_at hl rfl) ?_
                refine lv_iconst (v := nI 3) hx hb dM_contradict_83 (by decide) ?_
                refine lv_irem hx hb dM_contradict_84 (by decide) ?_
                refine lv_icmp_eq (tgt := 92) hx hb dM_contradict_85 rfl (fun h85 => ?_) (fun h85 => ?_)
                · skip
                  rw [pk_rem (by omega) (by decide) (by decide), pk_rem (by omega) (by decide) (by decide), nI_eq (by omega) (by omega)] at h85
                  refine lv_iconst (v := 0) hx hb dM_contradict_92 (by decide) ?_
                  exact x_tv (by clear ret hl hx hb X hP; rcases Nat.lt_or_ge a 12 with q1 | q1 <;> rcases Nat.lt_or_ge b 12 with q2 | q2 <;> first | omega | (rw [sv_con_1 a ha b hb2 q1 q2]; first | rfl | omega) | (rw [sv_con_2 a ha b hb2 q1 q2]; first | (rw [decide_eq_true (by omega)]; rfl) | (rw [decide_eq_false (by omega)]; rfl)) | (rw [sv_con_3 a ha b hb2 q1 q2]; first | (rw [decide_eq_true (by omega), decide_eq_true (by omega)]; rfl) | (rw [decide_eq_false (show ¬ a - 12 < b by omega)]; rfl) | (rw [decide_eq_false (show ¬ b % 3 ≠ (a - 12) % 3 by omega), Bool.and_false]; rfl)) | (rw [sv_con_4 a ha b hb2 q1 q2]; first | (rw [decide_eq_true (by omega), decide_eq_true (by omega)]; rfl) | (rw [decide_eq_false (show ¬ b - 12 < a by omega)]; rfl) | (rw [decide_eq_false (show ¬ a % 3 ≠ (b - 12) % 3 by omega), Bool.and_false]; rfl))) (ret _ _ dM_contradict_93)
                · skip
                  rw [pk_rem (by omega) (by decide) (by decide), pk_rem (by omega) (by decide) (by decide), nI_eq (by omega) (by omega)] at h85
                  refine lv_iconst (v := 1) hx hb dM_contradict_88 (by decide) ?_
                  refine lv_goto (tgt := 93) hx hb dM_contradict_89 rfl ?_
                  exact x_tv (by clear ret hl hx hb X hP; rcases Nat.lt_or_ge a 12 with q1 | q1 <;> rcases Nat.lt_or_ge b 12 with q2 | q2 <;> first | omega | (rw [sv_con_1 a ha b hb2 q1 q2]; first | rfl | omega) | (rw [sv_con_2 a ha b hb2 q1 q2]; first | (rw [decide_eq_true (by omega)]; rfl) | (rw [decide_eq_false (by omega)]; rfl)) | (rw [sv_con_3 a ha b hb2 q1 q2]; first | (rw [decide_eq_true (by omega), decide_eq_true (by omega)]; rfl) | (rw [decide_eq_false (show ¬ a - 12 < b by omega)]; rfl) | (rw [decide_eq_false (show ¬ b % 3 ≠ (a - 12) % 3 by omega), Bool.and_false]; rfl)) | (rw [sv_con_4 a ha b hb2 q1 q2]; first | (rw [decide_eq_true (by omega), decide_eq_true (by omega)]; rfl) | (rw [decide_eq_false (show ¬ b - 12 < a by omega)]; rfl) | (rw [decide_eq_false (show ¬ a % 3 ≠ (b - 12) % 3 by omega), Bool.and_false]; rfl))) (ret _ _ dM_contradict_93)
          · skip
            rw [nI_ltI (by omega) (by omega)] at h44
            refine lv_iload_n (i := 1) hx hb dM_contradict_47 rfl (sv_at hl rfl) ?_
            refine lv_bipush (v := nI 12) hx hb dM_contradict_48 (by decide) ?_
            refine lv_isub hx hb dM_contradict_50 ?_
            refine lv_goto (tgt := 58) hx hb dM_contradict_51 rfl ?_
            first | refine x_tv (pk_sub (a := a) (b := 12) (by omega)) ?_ | refine x_tv (pk_sub (a := b) (b := 12) (by omega)) ?_
            refine lv_istore_n (i := 3) hx hb dM_contradict_58 rfl hl (by decide) rfl (fun ls hl => ?_)
            refine lv_iload_n (i := 1) hx hb dM_contradict_59 rfl (sv_at hl rfl) ?_
            refine lv_bipush (v := nI 12) hx hb dM_contradict_60 (by decide) ?_
            refine lv_icmp_lt (tgt := 69) hx hb dM_contradict_62 rfl (fun h62 => ?_) (fun h62 => ?_)
            · skip
              rw [nI_ltI (by omega) (by omega)] at h62
              refine lv_iload_n (i := 1) hx hb dM_contradict_69 rfl (sv_at hl rfl) ?_
              refine lv_istore (i := 4) hx hb dM_contradict_70 hl (by decide) rfl (fun ls hl => ?_)
              refine lv_iload (i := 4) hx hb dM_contradict_72 (sv_at hl rfl) ?_
              refine lv_iload_n (i := 3) hx hb dM_contradict_74 rfl (sv_at hl rfl) ?_
              refine lv_icmp_le (tgt := 92) hx hb dM_contradict_75 rfl (fun h75 => ?_) (fun h75 => ?_)
              · skip
                rw [nI_leI (by omega) (by omega)] at h75
                refine lv_iconst (v := 0) hx hb dM_contradict_92 (by decide) ?_
                exact x_tv (by clear ret hl hx hb X hP; rcases Nat.lt_or_ge a 12 with q1 | q1 <;> rcases Nat.lt_or_ge b 12 with q2 | q2 <;> first | omega | (rw [sv_con_1 a ha b hb2 q1 q2]; first | rfl | omega) | (rw [sv_con_2 a ha b hb2 q1 q2]; first | (rw [decide_eq_true (by omega)]; rfl) | (rw [decide_eq_false (by omega)]; rfl)) | (rw [sv_con_3 a ha b hb2 q1 q2]; first | (rw [decide_eq_true (by omega), decide_eq_true (by omega)]; rfl) | (rw [decide_eq_false (show ¬ a - 12 < b by omega)]; rfl) | (rw [decide_eq_false (show ¬ b % 3 ≠ (a - 12) % 3 by omega), Bool.and_false]; rfl)) | (rw [sv_con_4 a ha b hb2 q1 q2]; first | (rw [decide_eq_true (by omega), decide_eq_true (by omega)]; rfl) | (rw [decide_eq_false (show ¬ b - 12 < a by omega)]; rfl) | (rw [decide_eq_false (show ¬ a % 3 ≠ (b - 12) % 3 by omega), Bool.and_false]; rfl))) (ret _ _ dM_contradict_93)
              · skip
                rw [nI_leI (by omega) (by omega)] at h75
                refine lv_iload (i := 4) hx hb dM_contradict_78 (sv_at hl rfl) ?_
                refine lv_iconst (v := nI 3) hx hb dM_contradict_80 (by decide) ?_
                refine lv_irem hx hb dM_contradict_81 (by decide) ?_
                refine lv_iload_n (i := 3) hx hb dM_contradict_82 rfl (sv_at hl rfl) ?_
                refine lv_iconst (v := nI 3) hx hb dM_contradict_83 (by decide) ?_
                refine lv_irem hx hb dM_contradict_84 (by decide) ?_
                refine lv_icmp_eq (tgt := 92) hx hb dM_contradict_85 rfl (fun h85 => ?_) (fun h85 => ?_)
                · skip
                  rw [pk_rem (by omega) (by decide) (by decide), pk_rem (by omega) (by decide) (by decide), nI_eq (by omega) (by omega)] at h85
                  refine lv_iconst (v := 0) hx hb dM_contradict_92 (by decide) ?_
                  exact x_tv (by clear ret hl hx hb X hP; rcases Nat.lt_or_ge a 12 with q1 | q1 <;> rcases Nat.lt_or_ge b 12 with q2 | q2 <;> first | omega | (rw [sv_con_1 a ha b hb2 q1 q2]; first | rfl | omega) | (rw [sv_con_2 a ha b hb2 q1 q2]; first | (rw [decide_eq_true (by omega)]; rfl) | (rw [decide_eq_false (by omega)]; rfl)) | (rw [sv_con_3 a ha b hb2 q1 q2]; first | (rw [decide_eq_true (by omega), decide_eq_true (by omega)]; rfl) | (rw [decide_eq_false (show ¬ a - 12 < b by omega)]; rfl) | (rw [decide_eq_false (show ¬ b % 3 ≠ (a - 12) % 3 by omega), Bool.and_false]; rfl)) | (rw [sv_con_4 a ha b hb2 q1 q2]; first | (rw [decide_eq_true (by omega), decide_eq_true (by omega)]; rfl) | (rw [decide_eq_false (show ¬ b - 12 < a by omega)]; rfl) | (rw [decide_eq_false (show ¬ a % 3 ≠ (b - 12) % 3 by omega), Bool.and_false]; rfl))) (ret _ _ dM_contradict_93)
                · skip
                  rw [pk_rem (by omega) (by decide) (by decide), pk_rem (by omega) (by decide) (by decide), nI_eq (by omega) (by omega)] at h85
                  refine lv_iconst (v := 1) hx hb dM_contradict_88 (by decide) ?_
                  refine lv_goto (tgt := 93) hx hb dM_contradict_89 rfl ?_
                  exact x_tv (by clear ret hl hx hb X hP; rcases Nat.lt_or_ge a 12 with q1 | q1 <;> rcases Nat.lt_or_ge b 12 with q2 | q2 <;> first | omega | (rw [sv_con_1 a ha b hb2 q1 q2]; first | rfl | omega) | (rw [sv_con_2 a ha b hb2 q1 q2]; first | (rw [decide_eq_true (by omega)]; rfl) | (rw [decide_eq_false (by omega)]; rfl)) | (rw [sv_con_3 a ha b hb2 q1 q2]; first | (rw [decide_eq_true (by omega), decide_eq_true (by omega)]; rfl) | (rw [decide_eq_false (show ¬ a - 12 < b by omega)]; rfl) | (rw [decide_eq_false (show ¬ b % 3 ≠ (a - 12) % 3 by omega), Bool.and_false]; rfl)) | (rw [sv_con_4 a ha b hb2 q1 q2]; first | (rw [decide_eq_true (by omega), decide_eq_true (by omega)]; rfl) | (rw [decide_eq_false (show ¬ b - 12 < a by omega)]; rfl) | (rw [decide_eq_false (show ¬ a % 3 ≠ (b - 12) % 3 by omega), Bool.and_false]; rfl))) (ret _ _ dM_contradict_93)
            · skip
              rw [nI_ltI (by omega) (by omega)] at h62
              refine lv_iload_n (i := 2) hx hb dM_contradict_65 rfl (sv_at hl rfl) ?_
              refine lv_goto (tgt := 70) hx hb dM_contradict_66 rfl ?_
              refine lv_istore (i := 4) hx hb dM_contradict_70 hl (by decide) rfl (fun ls hl => ?_)
              refine lv_iload (i := 4) hx hb dM_contradict_72 (sv_at hl rfl) ?_
              refine lv_iload_n (i := 3) hx hb dM_contradict_74 rfl (sv_at hl rfl) ?_
              refine lv_icmp_le (tgt := 92) hx hb dM_contradict_75 rfl (fun h75 => ?_) (fun h75 => ?_)
              · skip
                rw [nI_leI (by omega) (by omega)] at h75
                refine lv_iconst (v := 0) hx hb dM_contradict_92 (by decide) ?_
                exact x_tv (by clear ret hl hx hb X hP; rcases Nat.lt_or_ge a 12 with q1 | q1 <;> rcases Nat.lt_or_ge b 12 with q2 | q2 <;> first | omega | (rw [sv_con_1 a ha b hb2 q1 q2]; first | rfl | omega) | (rw [sv_con_2 a ha b hb2 q1 q2]; first | (rw [decide_eq_true (by omega)]; rfl) | (rw [decide_eq_false (by omega)]; rfl)) | (rw [sv_con_3 a ha b hb2 q1 q2]; first | (rw [decide_eq_true (by omega), decide_eq_true (by omega)]; rfl) | (rw [decide_eq_false (show ¬ a - 12 < b by omega)]; rfl) | (rw [decide_eq_false (show ¬ b % 3 ≠ (a - 12) % 3 by omega), Bool.and_false]; rfl)) | (rw [sv_con_4 a ha b hb2 q1 q2]; first | (rw [decide_eq_true (by omega), decide_eq_true (by omega)]; rfl) | (rw [decide_eq_false (show ¬ b - 12 < a by omega)]; rfl) | (rw [decide_eq_false (show ¬ a % 3 ≠ (b - 12) % 3 by omega), Bool.and_false]; rfl))) (ret _ _ dM_contradict_93)
              · skip
                rw [nI_leI (by omega) (by omega)] at h75
                refine lv_iload (i := 4) hx hb dM_contradict_78 (sv_at hl rfl) ?_
                refine lv_iconst (v := nI 3) hx hb dM_contradict_80 (by decide) ?_
                refine lv_irem hx hb dM_contradict_81 (by decide) ?_
                refine lv_iload_n (i := 3) hx hb dM_contradict_82 rfl (sv_at hl rfl) ?_
                refine lv_iconst (v := nI 3) hx hb dM_contradict_83 (by decide) ?_
                refine lv_irem hx hb dM_contradict_84 (by decide) ?_
                refine lv_icmp_eq (tgt := 92) hx hb dM_contradict_85 rfl (fun h85 => ?_) (fun h85 => ?_)
                · skip
                  rw [pk_rem (by omega) (by decide) (by decide), pk_rem (by omega) (by decide) (by decide), nI_eq (by omega) (by omega)] at h85
                  refine lv_iconst (v := 0) hx hb dM_contradict_92 (by decide) ?_
                  exact x_tv (by clear ret hl hx hb X hP; rcases Nat.lt_or_ge a 12 with q1 | q1 <;> rcases Nat.lt_or_ge b 12 with q2 | q2 <;> first | omega | (rw [sv_con_1 a ha b hb2 q1 q2]; first | rfl | omega) | (rw [sv_con_2 a ha b hb2 q1 q2]; first | (rw [decide_eq_true (by omega)]; rfl) | (rw [decide_eq_false (by omega)]; rfl)) | (rw [sv_con_3 a ha b hb2 q1 q2]; first | (rw [decide_eq_true (by omega), decide_eq_true (by omega)]; rfl) | (rw [decide_eq_false (show ¬ a - 12 < b by omega)]; rfl) | (rw [decide_eq_false (show ¬ b % 3 ≠ (a - 12) % 3 by omega), Bool.and_false]; rfl)) | (rw [sv_con_4 a ha b hb2 q1 q2]; first | (rw [decide_eq_true (by omega), decide_eq_true (by omega)]; rfl) | (rw [decide_eq_false (show ¬ b - 12 < a by omega)]; rfl) | (rw [decide_eq_false (show ¬ a % 3 ≠ (b - 12) % 3 by omega), Bool.and_false]; rfl))) (ret _ _ dM_contradict_93)
                · skip
                  rw [pk_rem (by omega) (by decide) (by decide), pk_rem (by omega) (by decide) (by decide), nI_eq (by omega) (by omega)] at h85
                  refine lv_iconst (v := 1) hx hb dM_contradict_88 (by decide) ?_
                  refine lv_goto (tgt := 93) hx hb dM_contradict_89 rfl ?_
                  exact x_tv (by clear ret hl hx hb X hP; rcases Nat.lt_or_ge a 12 with q1 | q1 <;> rcases Nat.lt_or_ge b 12 with q2 | q2 <;> first | omega | (rw [sv_con_1 a ha b hb2 q1 q2]; first | rfl | omega) | (rw [sv_con_2 a ha b hb2 q1 q2]; first | (rw [decide_eq_true (by omega)]; rfl) | (rw [decide_eq_false (by omega)]; rfl)) | (rw [sv_con_3 a ha b hb2 q1 q2]; first | (rw [decide_eq_true (by omega), decide_eq_true (by omega)]; rfl) | (rw [decide_eq_false (show ¬ a - 12 < b by omega)]; rfl) | (rw [decide_eq_false (show ¬ b % 3 ≠ (a - 12) % 3 by omega), Bool.and_false]; rfl)) | (rw [sv_con_4 a ha b hb2 q1 q2]; first | (rw [decide_eq_true (by omega), decide_eq_true (by omega)]; rfl) | (rw [decide_eq_false (show ¬ b - 12 < a by omega)]; rfl) | (rw [decide_eq_false (show ¬ a % 3 ≠ (b - 12) % 3 by omega), Bool.and_false]; rfl))) (ret _ _ dM_contradict_93)
        · skip
          rw [nI_ltI (by omega) (by omega)] at h23
          refine lv_iload_n (i := 1) hx hb dM_contradict_26 rfl (sv_at hl rfl) ?_
          refine lv_iconst (v := nI 3) hx hb dM_contradict_27 (by decide) ?_
          refine lv_irem hx hb dM_contradict_28 (by decide) ?_
          refine lv_iload_n (i := 2) hx hb dM_contradict_29 rfl (sv_at hl rfl) ?_
          refine lv_iconst (v := nI 3) hx hb dM_contradict_30 (by decide) ?_
          refine lv_irem hx hb dM_contradict_31 (by decide) ?_
          refine lv_icmp_eq (tgt := 39) hx hb dM_contradict_32 rfl (fun h32 => ?_) (fun h32 => ?_)
          · skip
            rw [pk_rem (by omega) (by decide) (by decide), pk_rem (by omega) (by decide) (by decide), nI_eq (by omega) (by omega)] at h32
            refine lv_iconst (v := 0) hx hb dM_contradict_39 (by decide) ?_
            exact x_tv (by clear ret hl hx hb X hP; rcases Nat.lt_or_ge a 12 with q1 | q1 <;> rcases Nat.lt_or_ge b 12 with q2 | q2 <;> first | omega | (rw [sv_con_1 a ha b hb2 q1 q2]; first | rfl | omega) | (rw [sv_con_2 a ha b hb2 q1 q2]; first | (rw [decide_eq_true (by omega)]; rfl) | (rw [decide_eq_false (by omega)]; rfl)) | (rw [sv_con_3 a ha b hb2 q1 q2]; first | (rw [decide_eq_true (by omega), decide_eq_true (by omega)]; rfl) | (rw [decide_eq_false (show ¬ a - 12 < b by omega)]; rfl) | (rw [decide_eq_false (show ¬ b % 3 ≠ (a - 12) % 3 by omega), Bool.and_false]; rfl)) | (rw [sv_con_4 a ha b hb2 q1 q2]; first | (rw [decide_eq_true (by omega), decide_eq_true (by omega)]; rfl) | (rw [decide_eq_false (show ¬ b - 12 < a by omega)]; rfl) | (rw [decide_eq_false (show ¬ a % 3 ≠ (b - 12) % 3 by omega), Bool.and_false]; rfl))) (ret _ _ dM_contradict_40)
          · skip
            rw [pk_rem (by omega) (by decide) (by decide), pk_rem (by omega) (by decide) (by decide), nI_eq (by omega) (by omega)] at h32
            refine lv_iconst (v := 1) hx hb dM_contradict_35 (by decide) ?_
            refine lv_goto (tgt := 40) hx hb dM_contradict_36 rfl ?_
            exact x_tv (by clear ret hl hx hb X hP; rcases Nat.lt_or_ge a 12 with q1 | q1 <;> rcases Nat.lt_or_ge b 12 with q2 | q2 <;> first | omega | (rw [sv_con_1 a ha b hb2 q1 q2]; first | rfl | omega) | (rw [sv_con_2 a ha b hb2 q1 q2]; first | (rw [decide_eq_true (by omega)]; rfl) | (rw [decide_eq_false (by omega)]; rfl)) | (rw [sv_con_3 a ha b hb2 q1 q2]; first | (rw [decide_eq_true (by omega), decide_eq_true (by omega)]; rfl) | (rw [decide_eq_false (show ¬ a - 12 < b by omega)]; rfl) | (rw [decide_eq_false (show ¬ b % 3 ≠ (a - 12) % 3 by omega), Bool.and_false]; rfl)) | (rw [sv_con_4 a ha b hb2 q1 q2]; first | (rw [decide_eq_true (by omega), decide_eq_true (by omega)]; rfl) | (rw [decide_eq_false (show ¬ b - 12 < a by omega)]; rfl) | (rw [decide_eq_false (show ¬ a % 3 ≠ (b - 12) % 3 by omega), Bool.and_false]; rfl))) (ret _ _ dM_contradict_40)
    · skip
      rw [nI_leI (by omega) (by omega)] at h9
      refine lv_iconst (v := 0) hx hb dM_contradict_12 (by decide) ?_
      exact x_tv (by clear ret hl hx hb X hP; rcases Nat.lt_or_ge a 12 with q1 | q1 <;> rcases Nat.lt_or_ge b 12 with q2 | q2 <;> first | omega | (rw [sv_con_1 a ha b hb2 q1 q2]; first | rfl | omega) | (rw [sv_con_2 a ha b hb2 q1 q2]; first | (rw [decide_eq_true (by omega)]; rfl) | (rw [decide_eq_false (by omega)]; rfl)) | (rw [sv_con_3 a ha b hb2 q1 q2]; first | (rw [decide_eq_true (by omega), decide_eq_true (by omega)]; rfl) | (rw [decide_eq_false (show ¬ a - 12 < b by omega)]; rfl) | (rw [decide_eq_false (show ¬ b % 3 ≠ (a - 12) % 3 by omega), Bool.and_false]; rfl)) | (rw [sv_con_4 a ha b hb2 q1 q2]; first | (rw [decide_eq_true (by omega), decide_eq_true (by omega)]; rfl) | (rw [decide_eq_false (show ¬ b - 12 < a by omega)]; rfl) | (rw [decide_eq_false (show ¬ a % 3 ≠ (b - 12) % 3 by omega), Bool.and_false]; rfl))) (ret _ _ dM_contradict_13)

theorem cM_m_contradict {a b : Nat} (ha : a < 24) (hb2 : b < 24) : Met l yM_contradict (sv_ws yM_contradict cM_contradict 5 (some .boolean)) (sv_rm 1) (sv_Pc D cI cZ cN cQ [.ref (ad 0), .int (nI a), .int (nI b)] (fun H => sv_mP D cI cZ n qc ad σ mt qm H)) (vp_Si (fun zz => zz = sv_b (sv_con a b))) 0 0 (fun _ => False) :=
  sv_mkR (by decide) (by show 3 ≤ 5; decide) (sv_narb _) (fun p e s m below meth c ls Q X hP hl ret => wM_contradict X hP ha hb2 hl ret)
theorem okM_M_contradict : sv_okV "SliceVotingModel" 98 yM_contradict cM_contradict 5 (some .boolean) 2 := ⟨sv_tb_t 447 rfl rfl, sv_tb_t 444 rfl rfl, sv_tb_t 446 rfl rfl, sv_tb_s 27 rfl rfl, sv_tb_t 4 rfl rfl, ⟨by decide, by decide, by decide +kernel⟩, by decide⟩
theorem kM_contradict (X : sv_X D cI cZ cN cQ "SliceVotingModel" cc nL k p R s m args c) (hk : 1 + 1 ≤ k) (hP : sv_mP D cI cZ n qc ad σ mt qm H) {a b : Nat} (ha : a < 24) (hb2 : b < 24) (hl : lv_has ls nL lv) (hc : cells ≤ R.cells) (hs : slots ≤ R.slots) (hcat : (rest.map fun v => v.category).sum ≤ 8) (hd : decode cc pc = .ok (.invokevirtual 98, 3)) (kk : W p l e R s m args below meth c H locs cells slots Q (F0 m (pc + 3) ls (.int (sv_b (sv_con a b)) :: rest))) : W p l e R s m args below meth c H locs cells slots Q (F0 m pc ls (.int (nI b) :: .int (nI a) :: .ref (ad 0) :: rest)) :=
  sv_cV (G := fun H => sv_mP D cI cZ n qc ad σ mt qm H) X okM_M_contradict (cM_m_contradict ha hb2) hP (y_rec X.K hP (by decide) sv_me_0 rfl) hk rfl hl.1 rfl hcat hc hs hd kk
set_option maxHeartbeats 4000000 in
set_option maxRecDepth 100000 in
theorem wM_against (X : sv_X D cI cZ cN cQ "SliceVotingModel" cM_against 5 2 p R s m args c) (hP : sv_mP D cI cZ n qc ad σ mt qm H) {x : Int32} {a : Nat} (ha : a < 24) (hl : lv_has ls 5 [(0, .ref (ad 0)), (1, .int x), (2, .int (nI a))]) (ret : ∀ (pc : Nat) (ls : Array Slot), decode cM_against pc = .ok (.ireturn, 1) → W p l e R s m args below meth c H locs 0 0 Q (F0 m pc ls [.int (sv_b (sv_aga x a))])) : W p l e R s m args below meth c H locs 0 0 Q (F0 m 0 ls []) := by
  have hx := X.1
  have hb := X.2.1
  have J5 : ∀ (kf : Nat) (i : Nat) (ls : Array Slot), 24 - i < kf → (i ≤ 24) → lv_has ls 5 [(0, .ref (ad 0)), (1, .int x), (2, .int (nI a)), (3, .int (sv_b (sv_any (fun t => bt x t && sv_con a t) i))), (4, .int (nI i))] → W p l e R s m args below meth c H locs 0 0 Q (F0 m 5 ls []) := by
    intro kf
    induction kf with
    | zero => intro i ls hm; exact absurd hm (Nat.not_lt_zero _)
    | succ kf ih =>
      intro i ls hm hi hl
      refine lv_iload (i := 4) hx hb dM_against_5 (sv_at hl rfl) ?_
      refine lv_bipush (v := nI 24) hx hb dM_against_7 (by decide) ?_
      refine lv_icmp_ge (tgt := 48) hx hb dM_against_9 rfl (fun h9 => ?_) (fun h9 => ?_)
      · skip
        rw [nI_leI (by omega) (by omega)] at h9
        obtain rfl : i = 24 := by omega
        refine lv_iload_n (i := 3) hx hb dM_against_48 rfl (sv_at hl rfl) ?_
        exact ret _ _ dM_against_49
      · skip
        rw [nI_leI (by omega) (by omega)] at h9
        refine lv_iload_n (i := 3) hx hb dM_against_12 rfl (sv_at hl rfl) ?_
        refine x_ifneB (tgt := 36) hx hb dM_against_13 rfl (fun h13 => ?_) (fun h13 => ?_)
        · skip
          refine lv_iconst (v := 1) hx hb dM_against_36 (by decide) ?_
          refine lv_goto (tgt := 41) hx hb dM_against_37 rfl ?_
          refine x_tv (y := sv_b (sv_any (fun t => bt x t && sv_con a t) (i + 1))) (by show _ = sv_b (sv_any (fun t => bt x t && sv_con a t) i || (bt x i && sv_con a i)); first | (have ee : sv_any (fun t => bt x t && sv_con a t) i = true := h13; rw [ee]; rfl) | (have ee := h33; rw [h13, h23, h33]; rfl) | (rw [h13, h23]; rfl)) ?_
          refine lv_istore_n (i := 3) hx hb dM_against_41 rfl hl (by decide) rfl (fun ls hl => ?_)
          refine x_iinc (i := 4) hx hb dM_against_42 hl rfl (sv_inc i) (by decide) (fun ls hl => ?_)
          refine lv_goto (tgt := 5) hx hb dM_against_45 rfl ?_
          exact ih (i + 1) ls (by omega) (by omega) (sv_re hl ⟨rfl, rfl, rfl, rfl, rfl, trivial⟩)
        · skip
          refine lv_iload_n (i := 1) hx hb dM_against_16 rfl (sv_at hl rfl) ?_
          refine lv_iload (i := 4) hx hb dM_against_17 (sv_at hl rfl) ?_
          refine lv_ishr hx hb dM_against_19 ?_
          refine lv_iconst (v := 1) hx hb dM_against_20 (by decide) ?_
          refine lv_iand hx hb dM_against_21 ?_
          refine x_tv (sv_shr1 x (by omega)) ?_
          refine lv_iconst (v := 1) hx hb dM_against_22 (by decide) ?_
          refine lv_icmp_ne (tgt := 40) hx hb dM_against_23 rfl (fun h23 => ?_) (fun h23 => ?_)
          · skip
            rw [sv_bn1] at h23
            refine lv_iconst (v := 0) hx hb dM_against_40 (by decide) ?_
            refine x_tv (y := sv_b (sv_any (fun t => bt x t && sv_con a t) (i + 1))) (by show _ = sv_b (sv_any (fun t => bt x t && sv_con a t) i || (bt x i && sv_con a i)); first | (have ee : sv_any (fun t => bt x t && sv_con a t) i = true := h13; rw [ee]; rfl) | (have ee := h33; rw [h13, h23, h33]; rfl) | (rw [h13, h23]; rfl)) ?_
            refine lv_istore_n (i := 3) hx hb dM_against_41 rfl hl (by decide) rfl (fun ls hl => ?_)
            refine x_iinc (i := 4) hx hb dM_against_42 hl rfl (sv_inc i) (by decide) (fun ls hl => ?_)
            refine lv_goto (tgt := 5) hx hb dM_against_45 rfl ?_
            exact ih (i + 1) ls (by omega) (by omega) (sv_re hl ⟨rfl, rfl, rfl, rfl, rfl, trivial⟩)
          · skip
            rw [sv_b1] at h23
            refine lv_aload_n (i := 0) hx hb dM_against_26 rfl (sv_at hl rfl) ?_
            refine lv_iload_n (i := 2) hx hb dM_against_27 rfl (sv_at hl rfl) ?_
            refine lv_iload (i := 4) hx hb dM_against_28 (sv_at hl rfl) ?_
            refine kM_contradict X (by decide) hP (by omega) (by omega) hl (Nat.zero_le _) (Nat.zero_le _) (Nat.le_of_ble_eq_true rfl) dM_against_30 ?_
            refine x_ifeqB (tgt := 40) hx hb dM_against_33 rfl (fun h33 => ?_) (fun h33 => ?_)
            · skip
              refine lv_iconst (v := 0) hx hb dM_against_40 (by decide) ?_
              refine x_tv (y := sv_b (sv_any (fun t => bt x t && sv_con a t) (i + 1))) (by show _ = sv_b (sv_any (fun t => bt x t && sv_con a t) i || (bt x i && sv_con a i)); first | (have ee : sv_any (fun t => bt x t && sv_con a t) i = true := h13; rw [ee]; rfl) | (have ee := h33; rw [h13, h23, h33]; rfl) | (rw [h13, h23]; rfl)) ?_
              refine lv_istore_n (i := 3) hx hb dM_against_41 rfl hl (by decide) rfl (fun ls hl => ?_)
              refine x_iinc (i := 4) hx hb dM_against_42 hl rfl (sv_inc i) (by decide) (fun ls hl => ?_)
              refine lv_goto (tgt := 5) hx hb dM_against_45 rfl ?_
              exact ih (i + 1) ls (by omega) (by omega) (sv_re hl ⟨rfl, rfl, rfl, rfl, rfl, trivial⟩)
            · skip
              refine lv_iconst (v := 1) hx hb dM_against_36 (by decide) ?_
              refine lv_goto (tgt := 41) hx hb dM_against_37 rfl ?_
              refine x_tv (y := sv_b (sv_any (fun t => bt x t && sv_con a t) (i + 1))) (by show _ = sv_b (sv_any (fun t => bt x t && sv_con a t) i || (bt x i && sv_con a i)); first | (have ee : sv_any (fun t => bt x t && sv_con a t) i = true := h13; rw [ee]; rfl) | (have ee := h33; rw [h13, h23, h33]; rfl) | (rw [h13, h23]; rfl)) ?_
              refine lv_istore_n (i := 3) hx hb dM_against_41 rfl hl (by decide) rfl (fun ls hl => ?_)
              refine x_iinc (i := 4) hx hb dM_against_42 hl rfl (sv_inc i) (by decide) (fun ls hl => ?_)
              refine lv_goto (tgt := 5) hx hb dM_against_45 rfl ?_
              exact ih (i + 1) ls (by omega) (by omega) (sv_re hl ⟨rfl, rfl, rfl, rfl, rfl, trivial⟩)
  refine lv_iconst (v := 0) hx hb dM_against_0 (by decide) ?_
  refine lv_istore_n (i := 3) hx hb dM_against_1 rfl hl (by decide) rfl (fun ls hl => ?_)
  refine lv_iconst (v := 0) hx hb dM_against_2 (by decide) ?_
  refine lv_istore (i := 4) hx hb dM_against_3 hl (by decide) rfl (fun ls hl => ?_)
  exact J5 _ 0 ls (Nat.lt_succ_self _) (Nat.zero_le _) (sv_re hl ⟨rfl, rfl, rfl, rfl, rfl, trivial⟩)

theorem cM_m_against {x : Int32} {a : Nat} (ha : a < 24) : Met l yM_against (sv_ws yM_against cM_against 5 (some .boolean)) (sv_rm 2) (sv_Pc D cI cZ cN cQ [.ref (ad 0), .int x, .int (nI a)] (fun H => sv_mP D cI cZ n qc ad σ mt qm H)) (vp_Si (fun zz => zz = sv_b (sv_aga x a))) 0 0 (fun _ => False) :=
  sv_mkR (by decide) (by show 3 ≤ 5; decide) (sv_narb _) (fun p e s m below meth c ls Q X hP hl ret => wM_against X hP ha hl ret)
theorem okM_M_against : sv_okV "SliceVotingModel" 108 yM_against cM_against 5 (some .boolean) 2 := ⟨sv_tb_t 443 rfl rfl, sv_tb_t 440 rfl rfl, sv_tb_t 442 rfl rfl, sv_tb_s 26 rfl rfl, sv_tb_t 4 rfl rfl, ⟨by decide, by decide, by decide +kernel⟩, by decide⟩
theorem kM_against (X : sv_X D cI cZ cN cQ "SliceVotingModel" cc nL k p R s m args c) (hk : 2 + 1 ≤ k) (hP : sv_mP D cI cZ n qc ad σ mt qm H) {x : Int32} {a : Nat} (ha : a < 24) (hl : lv_has ls nL lv) (hc : cells ≤ R.cells) (hs : slots ≤ R.slots) (hcat : (rest.map fun v => v.category).sum ≤ 8) (hd : decode cc pc = .ok (.invokevirtual 108, 3)) (kk : W p l e R s m args below meth c H locs cells slots Q (F0 m (pc + 3) ls (.int (sv_b (sv_aga x a)) :: rest))) : W p l e R s m args below meth c H locs cells slots Q (F0 m pc ls (.int (nI a) :: .int x :: .ref (ad 0) :: rest)) :=
  sv_cV (G := fun H => sv_mP D cI cZ n qc ad σ mt qm H) X okM_M_against (cM_m_against ha) hP (y_rec X.K hP (by decide) sv_me_0 rfl) hk rfl hl.1 rfl hcat hc hs hd kk
end SvModel1
end
section
section SvModel2
variable {p : Program} {l : Launch} {e : Env} {R : Room} {s : State} {m : MethodId} {args : Array Value} {below : List Frame} {meth : Method} {c : Code} {H H0 : Heap} {locs : List Loc} {cells slots : Nat} {Q : State → Prop}
variable {cc : ByteArray} {pc nL k : Nat} {ls : Array Slot} {lv : List (Nat × Value)} {rest : List Value} {D : va_G} {cI cZ cN cQ : ClassId} {n qc : Nat} {ad : Nat → Nat} {σ : Sg} {A : Nat → Prop} {mt qm : Nat → Int32}
set_option maxHeartbeats 4000000 in
set_option maxRecDepth 100000 in
theorem wM_votesOf (X : sv_X D cI cZ cN cQ "SliceVotingModel" cM_votesOf 3 1 p R s m args c) (hP : sv_mP D cI cZ n qc ad σ mt qm H) {w v : Nat} (hv : v < 6) (hw : w < 6) (hl : lv_has ls 3 [(0, .ref (ad 0)), (1, .int (nI w)), (2, .int (nI v))]) (ret : ∀ (pc : Nat) (ls : Array Slot), decode cM_votesOf pc = .ok (.ireturn, 1) → W p l e R s m args below meth c H locs 0 0 Q (F0 m pc ls [.int (sv_kv σ v w)])) : W p l e R s m args below meth c H locs 0 0 Q (F0 m 0 ls []) := by
  have hx := X.1
  have hb := X.2.1
  refine lv_iload_n (i := 2) hx hb dM_votesOf_0 rfl (sv_at hl rfl) ?_
  refine lv_iload_n (i := 1) hx hb dM_votesOf_1 rfl (sv_at hl rfl) ?_
  refine lv_icmp_ne (tgt := 14) hx hb dM_votesOf_2 rfl (fun h2 => ?_) (fun h2 => ?_)
  · skip
    rw [nI_eq (by omega) (by omega)] at h2
    refine lv_aload_n (i := 0) hx hb dM_votesOf_14 rfl (sv_at hl rfl) ?_
    refine gM_heardVotes X hP dM_votesOf_15 ?_
    refine lv_bipush (v := nI 6) hx hb dM_votesOf_18 (by decide) ?_
    refine lv_iload_n (i := 2) hx hb dM_votesOf_20 rfl (sv_at hl rfl) ?_
    refine lv_imul hx hb dM_votesOf_21 ?_
    refine lv_iload_n (i := 1) hx hb dM_votesOf_22 rfl (sv_at hl rfl) ?_
    refine lv_iadd hx hb dM_votesOf_23 ?_
    refine x_tv (y := nI (6 * v + w)) (by rw [pk_mul, nI_add]) ?_
    refine gm_heardVotes X hP (by omega) dM_votesOf_24 ?_
    first | (have ee : v = w := h2; exact x_tv (by subst ee; exact (if_pos rfl).symm) (ret _ _ dM_votesOf_25)) | exact x_tv (by unfold sv_kv; rw [if_neg (fun q => h2 q.symm), if_pos (by omega)]) (ret _ _ dM_votesOf_25)
  · skip
    rw [nI_eq (by omega) (by omega)] at h2
    refine lv_aload_n (i := 0) hx hb dM_votesOf_5 rfl (sv_at hl rfl) ?_
    refine gM_votes X hP dM_votesOf_6 ?_
    refine lv_iload_n (i := 1) hx hb dM_votesOf_9 rfl (sv_at hl rfl) ?_
    refine gm_votes X hP (by omega) dM_votesOf_10 ?_
    refine lv_goto (tgt := 25) hx hb dM_votesOf_11 rfl ?_
    first | (have ee : v = w := h2; exact x_tv (by subst ee; exact (if_pos rfl).symm) (ret _ _ dM_votesOf_25)) | exact x_tv (by unfold sv_kv; rw [if_neg (fun q => h2 q.symm), if_pos (by omega)]) (ret _ _ dM_votesOf_25)

theorem cM_m_votesOf {w v : Nat} (hv : v < 6) (hw : w < 6) : Met l yM_votesOf (sv_ws yM_votesOf cM_votesOf 3 (some .int)) (sv_rm 1) (sv_Pc D cI cZ cN cQ [.ref (ad 0), .int (nI w), .int (nI v)] (fun H => sv_mP D cI cZ n qc ad σ mt qm H)) (vp_Si (fun zz => zz = sv_kv σ v w)) 0 0 (fun _ => False) :=
  sv_mkR (by decide) (by show 3 ≤ 3; decide) rfl (fun p e s m below meth c ls Q X hP hl ret => wM_votesOf X hP hv hw hl ret)
set_option maxRecDepth 100000 in
theorem okM_M_votesOf : sv_okV "SliceVotingModel" 105 yM_votesOf cM_votesOf 3 (some .int) 2 := ⟨sv_tb_t 467 rfl rfl, sv_tb_t 464 rfl rfl, sv_tb_t 466 rfl rfl, sv_tb_s 32 rfl rfl, sv_tb_t 4 rfl rfl, ⟨by decide, by decide, by decide +kernel⟩, by decide⟩
theorem kM_votesOf (X : sv_X D cI cZ cN cQ "SliceVotingModel" cc nL k p R s m args c) (hk : 1 + 1 ≤ k) (hP : sv_mP D cI cZ n qc ad σ mt qm H) {w v : Nat} (hv : v < 6) (hw : w < 6) (hl : lv_has ls nL lv) (hc : cells ≤ R.cells) (hs : slots ≤ R.slots) (hcat : (rest.map fun v => v.category).sum ≤ 8) (hd : decode cc pc = .ok (.invokevirtual 105, 3)) (kk : W p l e R s m args below meth c H locs cells slots Q (F0 m (pc + 3) ls (.int (sv_kv σ v w) :: rest))) : W p l e R s m args below meth c H locs cells slots Q (F0 m pc ls (.int (nI v) :: .int (nI w) :: .ref (ad 0) :: rest)) :=
  sv_cV (G := fun H => sv_mP D cI cZ n qc ad σ mt qm H) X okM_M_votesOf (cM_m_votesOf hv hw) hP (y_rec X.K hP (by decide) sv_me_0 rfl) hk rfl hl.1 rfl hcat hc hs hd kk
set_option maxHeartbeats 4000000 in
set_option maxRecDepth 100000 in
theorem wM_acceptsOf (X : sv_X D cI cZ cN cQ "SliceVotingModel" cM_acceptsOf 3 1 p R s m args c) (hP : sv_mP D cI cZ n qc ad σ mt qm H) {w v : Nat} (hv : v < 6) (hw : w < 6) (hl : lv_has ls 3 [(0, .ref (ad 0)), (1, .int (nI w)), (2, .int (nI v))]) (ret : ∀ (pc : Nat) (ls : Array Slot), decode cM_acceptsOf pc = .ok (.ireturn, 1) → W p l e R s m args below meth c H locs 0 0 Q (F0 m pc ls [.int (sv_ka σ v w)])) : W p l e R s m args below meth c H locs 0 0 Q (F0 m 0 ls []) := by
  have hx := X.1
  have hb := X.2.1
  refine lv_iload_n (i := 2) hx hb dM_acceptsOf_0 rfl (sv_at hl rfl) ?_
  refine lv_iload_n (i := 1) hx hb dM_acceptsOf_1 rfl (sv_at hl rfl) ?_
  refine lv_icmp_ne (tgt := 14) hx hb dM_acceptsOf_2 rfl (fun h2 => ?_) (fun h2 => ?_)
  · skip
    rw [nI_eq (by omega) (by omega)] at h2
    refine lv_aload_n (i := 0) hx hb dM_acceptsOf_14 rfl (sv_at hl rfl) ?_
    refine gM_heardAccepts X hP dM_acceptsOf_15 ?_
    refine lv_bipush (v := nI 6) hx hb dM_acceptsOf_18 (by decide) ?_
    refine lv_iload_n (i := 2) hx hb dM_acceptsOf_20 rfl (sv_at hl rfl) ?_
    refine lv_imul hx hb dM_acceptsOf_21 ?_
    refine lv_iload_n (i := 1) hx hb dM_acceptsOf_22 rfl (sv_at hl rfl) ?_
    refine lv_iadd hx hb dM_acceptsOf_23 ?_
    refine x_tv (y := nI (6 * v + w)) (by rw [pk_mul, nI_add]) ?_
    refine gm_heardAccepts X hP (by omega) dM_acceptsOf_24 ?_
    first | (have ee : v = w := h2; exact x_tv (by subst ee; exact (if_pos rfl).symm) (ret _ _ dM_acceptsOf_25)) | exact x_tv (by unfold sv_ka; rw [if_neg (fun q => h2 q.symm), if_pos (by omega)]) (ret _ _ dM_acceptsOf_25)
  · skip
    rw [nI_eq (by omega) (by omega)] at h2
    refine lv_aload_n (i := 0) hx hb dM_acceptsOf_5 rfl (sv_at hl rfl) ?_
    refine gM_accepts X hP dM_acceptsOf_6 ?_
    refine lv_iload_n (i := 1) hx hb dM_acceptsOf_9 rfl (sv_at hl rfl) ?_
    refine gm_accepts X hP (by omega) dM_acceptsOf_10 ?_
    refine lv_goto (tgt := 25) hx hb dM_acceptsOf_11 rfl ?_
    first | (have ee : v = w := h2; exact x_tv (by subst ee; exact (if_pos rfl).symm) (ret _ _ dM_acceptsOf_25)) | exact x_tv (by unfold sv_ka; rw [if_neg (fun q => h2 q.symm), if_pos (by omega)]) (ret _ _ dM_acceptsOf_25)

theorem cM_m_acceptsOf {w v : Nat} (hv : v < 6) (hw : w < 6) : Met l yM_acceptsOf (sv_ws yM_acceptsOf cM_acceptsOf 3 (some .int)) (sv_rm 1) (sv_Pc D cI cZ cN cQ [.ref (ad 0), .int (nI w), .int (nI v)] (fun H => sv_mP D cI cZ n qc ad σ mt qm H)) (vp_Si (fun zz => zz = sv_ka σ v w)) 0 0 (fun _ => False) :=
  sv_mkR (by decide) (by show 3 ≤ 3; decide) rfl (fun p e s m below meth c ls Q X hP hl ret => wM_acceptsOf X hP hv hw hl ret)
set_option maxRecDepth 100000 in
theorem okM_M_acceptsOf : sv_okV "SliceVotingModel" 101 yM_acceptsOf cM_acceptsOf 3 (some .int) 2 := ⟨sv_tb_t 463 rfl rfl, sv_tb_t 460 rfl rfl, sv_tb_t 462 rfl rfl, sv_tb_s 31 rfl rfl, sv_tb_t 4 rfl rfl, ⟨by decide, by decide, by decide +kernel⟩, by decide⟩
theorem kM_acceptsOf (X : sv_X D cI cZ cN cQ "SliceVotingModel" cc nL k p R s m args c) (hk : 1 + 1 ≤ k) (hP : sv_mP D cI cZ n qc ad σ mt qm H) {w v : Nat} (hv : v < 6) (hw : w < 6) (hl : lv_has ls nL lv) (hc : cells ≤ R.cells) (hs : slots ≤ R.slots) (hcat : (rest.map fun v => v.category).sum ≤ 8) (hd : decode cc pc = .ok (.invokevirtual 101, 3)) (kk : W p l e R s m args below meth c H locs cells slots Q (F0 m (pc + 3) ls (.int (sv_ka σ v w) :: rest))) : W p l e R s m args below meth c H locs cells slots Q (F0 m pc ls (.int (nI v) :: .int (nI w) :: .ref (ad 0) :: rest)) :=
  sv_cV (G := fun H => sv_mP D cI cZ n qc ad σ mt qm H) X okM_M_acceptsOf (cM_m_acceptsOf hv hw) hP (y_rec X.K hP (by decide) sv_me_0 rfl) hk rfl hl.1 rfl hcat hc hs hd kk
set_option maxHeartbeats 4000000 in
set_option maxRecDepth 100000 in
theorem wM_backers (X : sv_X D cI cZ cN cQ "SliceVotingModel" cM_backers 7 2 p R s m args c) (hP : sv_mP D cI cZ n qc ad σ mt qm H) {v t : Nat} {B : Bool} (hn : n ≤ 6) (hv : v < n) (ht : t < 24) (hl : lv_has ls 7 [(0, .ref (ad 0)), (1, .int (nI v)), (2, .int (nI t)), (3, .int (sv_b B))]) (ret : ∀ (pc : Nat) (ls : Array Slot), decode cM_backers pc = .ok (.ireturn, 1) → W p l e R s m args below meth c H locs 0 0 Q (F0 m pc ls [.int (nI (sv_said (fun w => bif B then sv_ka σ v w ||| sv_kv σ v w else sv_ka σ v w) t n))])) : W p l e R s m args below meth c H locs 0 0 Q (F0 m 0 ls []) := by
  have hx := X.1
  have hb := X.2.1
  have J6 : ∀ (kf : Nat) (w : Nat) (ls : Array Slot), n - w < kf → (w ≤ n) → lv_has ls 7 [(0, .ref (ad 0)), (1, .int (nI v)), (2, .int (nI t)), (3, .int (sv_b B)), (4, .int (nI (sv_said (fun w => bif B then sv_ka σ v w ||| sv_kv σ v w else sv_ka σ v w) t w))), (5, .int (nI w))] → W p l e R s m args below meth c H locs 0 0 Q (F0 m 6 ls []) := by
    intro kf
    induction kf with
    | zero => intro w ls hm; exact absurd hm (Nat.not_lt_zero _)
    | succ kf ih =>
      intro w ls hm hw hl
      refine lv_iload (i := 5) hx hb dM_backers_6 (sv_at hl rfl) ?_
      refine lv_aload_n (i := 0) hx hb dM_backers_8 rfl (sv_at hl rfl) ?_
      refine gM_nodes X hP dM_backers_9 ?_
      refine lv_icmp_ge (tgt := 75) hx hb dM_backers_12 rfl (fun h12 => ?_) (fun h12 => ?_)
      · skip
        rw [nI_leI (by omega) (by omega)] at h12
        obtain rfl : w = n := by omega
        refine lv_iload (i := 4) hx hb dM_backers_75 (sv_at hl rfl) ?_
        exact ret _ _ dM_backers_77
      · skip
        rw [nI_leI (by omega) (by omega)] at h12
        refine lv_aload_n (i := 0) hx hb dM_backers_15 rfl (sv_at hl rfl) ?_
        refine lv_iload (i := 5) hx hb dM_backers_16 (sv_at hl rfl) ?_
        refine lv_iload_n (i := 1) hx hb dM_backers_18 rfl (sv_at hl rfl) ?_
        refine kM_acceptsOf X (by decide) hP (by omega) (by omega) hl (Nat.zero_le _) (Nat.zero_le _) (Nat.le_of_ble_eq_true rfl) dM_backers_19 ?_
        refine lv_istore (i := 6) hx hb dM_backers_22 hl (by decide) rfl (fun ls hl => ?_)
        refine lv_iload_n (i := 3) hx hb dM_backers_24 rfl (sv_at hl rfl) ?_
        refine x_ifeqB (tgt := 41) hx hb dM_backers_25 rfl (fun h25 => ?_) (fun h25 => ?_)
        · skip
          refine lv_iload (i := 6) hx hb dM_backers_41 (sv_at hl rfl) ?_
          refine x_tv (y := bif B then sv_ka σ v w ||| sv_kv σ v w else sv_ka σ v w) (by rw [h25]; rfl) ?_
          refine lv_istore (i := 6) hx hb dM_backers_43 hl (by decide) rfl (fun ls hl => ?_)
          refine lv_iload (i := 6) hx hb dM_backers_45 (sv_at hl rfl) ?_
          refine lv_iload_n (i := 2) hx hb dM_backers_47 rfl (sv_at hl rfl) ?_
          refine lv_ishr hx hb dM_backers_48 ?_
          refine lv_iconst (v := 1) hx hb dM_backers_49 (by decide) ?_
          refine lv_iand hx hb dM_backers_50 ?_
          refine x_tv (sv_shr1 _ (by omega)) ?_
          refine lv_iconst (v := 1) hx hb dM_backers_51 (by decide) ?_
          refine lv_icmp_ne (tgt := 65) hx hb dM_backers_52 rfl (fun h52 => ?_) (fun h52 => ?_)
          · skip
            rw [sv_bn1] at h52
            refine lv_iload (i := 4) hx hb dM_backers_65 (sv_at hl rfl) ?_
            refine x_tv (y := nI (sv_said (fun w => bif B then sv_ka σ v w ||| sv_kv σ v w else sv_ka σ v w) t (w + 1))) (by first | (have ee := h52; rw [sv_said_f (f := (fun w => bif B then sv_ka σ v w ||| sv_kv σ v w else sv_ka σ v w)) h52]) | (rw [sv_pow w (by omega), sv_nor, sv_said_t (f := (fun w => bif B then sv_ka σ v w ||| sv_kv σ v w else sv_ka σ v w)) h52])) ?_
            refine lv_istore (i := 4) hx hb dM_backers_67 hl (by decide) rfl (fun ls hl => ?_)
            refine x_iinc (i := 5) hx hb dM_backers_69 hl rfl (sv_inc w) (by decide) (fun ls hl => ?_)
            refine lv_goto (tgt := 6) hx hb dM_backers_72 rfl ?_
            exact ih (w + 1) ls (by omega) (by omega) (sv_re hl ⟨rfl, rfl, rfl, rfl, rfl, rfl, trivial⟩)
          · skip
            rw [sv_b1] at h52
            refine lv_iload (i := 4) hx hb dM_backers_55 (sv_at hl rfl) ?_
            refine lv_iconst (v := 1) hx hb dM_backers_57 (by decide) ?_
            refine lv_iload (i := 5) hx hb dM_backers_58 (sv_at hl rfl) ?_
            refine lv_ishl hx hb dM_backers_60 ?_
            refine lv_ior hx hb dM_backers_61 ?_
            refine lv_goto (tgt := 67) hx hb dM_backers_62 rfl ?_
            refine x_tv (y := nI (sv_said (fun w => bif B then sv_ka σ v w ||| sv_kv σ v w else sv_ka σ v w) t (w + 1))) (by first | (have ee := h52; rw [sv_said_f (f := (fun w => bif B then sv_ka σ v w ||| sv_kv σ v w else sv_ka σ v w)) h52]) | (rw [sv_pow w (by omega), sv_nor, sv_said_t (f := (fun w => bif B then sv_ka σ v w ||| sv_kv σ v w else sv_ka σ v w)) h52])) ?_
            refine lv_istore (i := 4) hx hb dM_backers_67 hl (by decide) rfl (fun ls hl => ?_)
            refine x_iinc (i := 5) hx hb dM_backers_69 hl rfl (sv_inc w) (by decide) (fun ls hl => ?_)
            refine lv_goto (tgt := 6) hx hb dM_backers_72 rfl ?_
            exact ih (w + 1) ls (by omega) (by omega) (sv_re hl ⟨rfl, rfl, rfl, rfl, rfl, rfl, trivial⟩)
        · skip
          refine lv_iload (i := 6) hx hb dM_backers_28 (sv_at hl rfl) ?_
          refine lv_aload_n (i := 0) hx hb dM_backers_30 rfl (sv_at hl rfl) ?_
          refine lv_iload (i := 5) hx hb dM_backers_31 (sv_at hl rfl) ?_
          refine lv_iload_n (i := 1) hx hb dM_backers_33 rfl (sv_at hl rfl) ?_
          refine kM_votesOf X (by decide) hP (by omega) (by omega) hl (Nat.zero_le _) (Nat.zero_le _) (Nat.le_of_ble_eq_true rfl) dM_backers_34 ?_
          refine lv_ior hx hb dM_backers_37 ?_
          refine lv_goto (tgt := 43) hx hb dM_backers_38 rfl ?_
          refine x_tv (y := bif B then sv_ka σ v w ||| sv_kv σ v w else sv_ka σ v w) (by rw [h25]; rfl) ?_
          refine lv_istore (i := 6) hx hb dM_backers_43 hl (by decide) rfl (fun ls hl => ?_)
          refine lv_iload (i := 6) hx hb dM_backers_45 (sv_at hl rfl) ?_
          refine lv_iload_n (i := 2) hx hb dM_backers_47 rfl (sv_at hl rfl) ?_
          refine lv_ishr hx hb dM_backers_48 ?_
          refine lv_iconst (v := 1) hx hb dM_backers_49 (by decide) ?_
          refine lv_iand hx hb dM_backers_50 ?_
          refine x_tv (sv_shr1 _ (by omega)) ?_
          refine lv_iconst (v := 1) hx hb dM_backers_51 (by decide) ?_
          refine lv_icmp_ne (tgt := 65) hx hb dM_backers_52 rfl (fun h52 => ?_) (fun h52 => ?_)
          · skip
            rw [sv_bn1] at h52
            refine lv_iload (i := 4) hx hb dM_backers_65 (sv_at hl rfl) ?_
            refine x_tv (y := nI (sv_said (fun w => bif B then sv_ka σ v w ||| sv_kv σ v w else sv_ka σ v w) t (w + 1))) (by first | (have ee := h52; rw [sv_said_f (f := (fun w => bif B then sv_ka σ v w ||| sv_kv σ v w else sv_ka σ v w)) h52]) | (rw [sv_pow w (by omega), sv_nor, sv_said_t (f := (fun w => bif B then sv_ka σ v w ||| sv_kv σ v w else sv_ka σ v w)) h52])) ?_
            refine lv_istore (i := 4) hx hb dM_backers_67 hl (by decide) rfl (fun ls hl => ?_)
            refine x_iinc (i := 5) hx hb dM_backers_69 hl rfl (sv_inc w) (by decide) (fun ls hl => ?_)
            refine lv_goto (tgt := 6) hx hb dM_backers_72 rfl ?_
            exact ih (w + 1) ls (by omega) (by omega) (sv_re hl ⟨rfl, rfl, rfl, rfl, rfl, rfl, trivial⟩)
          · skip
            rw [sv_b1] at h52
            refine lv_iload (i := 4) hx hb dM_backers_55 (sv_at hl rfl) ?_
            refine lv_iconst (v := 1) hx hb dM_backers_57 (by decide) ?_
            refine lv_iload (i := 5) hx hb dM_backers_58 (sv_at hl rfl) ?_
            refine lv_ishl hx hb dM_backers_60 ?_
            refine lv_ior hx hb dM_backers_61 ?_
            refine lv_goto (tgt := 67) hx hb dM_backers_62 rfl ?_
            refine x_tv (y := nI (sv_said (fun w => bif B then sv_ka σ v w ||| sv_kv σ v w else sv_ka σ v w) t (w + 1))) (by first | (have ee := h52; rw [sv_said_f (f := (fun w => bif B then sv_ka σ v w ||| sv_kv σ v w else sv_ka σ v w)) h52]) | (rw [sv_pow w (by omega), sv_nor, sv_said_t (f := (fun w => bif B then sv_ka σ v w ||| sv_kv σ v w else sv_ka σ v w)) h52])) ?_
            refine lv_istore (i := 4) hx hb dM_backers_67 hl (by decide) rfl (fun ls hl => ?_)
            refine x_iinc (i := 5) hx hb dM_backers_69 hl rfl (sv_inc w) (by decide) (fun ls hl => ?_)
            refine lv_goto (tgt := 6) hx hb dM_backers_72 rfl ?_
            exact ih (w + 1) ls (by omega) (by omega) (sv_re hl ⟨rfl, rfl, rfl, rfl, rfl, rfl, trivial⟩)
  refine lv_iconst (v := 0) hx hb dM_backers_0 (by decide) ?_
  refine lv_istore (i := 4) hx hb dM_backers_1 hl (by decide) rfl (fun ls hl => ?_)
  refine lv_iconst (v := 0) hx hb dM_backers_3 (by decide) ?_
  refine lv_istore (i := 5) hx hb dM_backers_4 hl (by decide) rfl (fun ls hl => ?_)
  exact J6 _ 0 ls (Nat.lt_succ_self _) (Nat.zero_le _) (sv_re hl ⟨rfl, rfl, rfl, rfl, rfl, rfl, trivial⟩)

theorem cM_m_backers {v t : Nat} {B : Bool} (hn : n ≤ 6) (hv : v < n) (ht : t < 24) : Met l yM_backers (sv_ws yM_backers cM_backers 7 (some .int)) (sv_rm 2) (sv_Pc D cI cZ cN cQ [.ref (ad 0), .int (nI v), .int (nI t), .int (sv_b B)] (fun H => sv_mP D cI cZ n qc ad σ mt qm H)) (vp_Si (fun zz => zz = nI (sv_said (fun w => bif B then sv_ka σ v w ||| sv_kv σ v w else sv_ka σ v w) t n))) 0 0 (fun _ => False) :=
  sv_mkR (by decide) (by show 4 ≤ 7; decide) rfl (fun p e s m below meth c ls Q X hP hl ret => wM_backers X hP hn hv ht hl ret)
set_option maxRecDepth 100000 in
theorem okM_M_backers : sv_okV "SliceVotingModel" 111 yM_backers cM_backers 7 (some .int) 3 := ⟨sv_tb_t 459 rfl rfl, sv_tb_t 456 rfl rfl, sv_tb_t 458 rfl rfl, sv_tb_s 30 rfl rfl, sv_tb_t 4 rfl rfl, ⟨by decide, by decide, by decide +kernel⟩, by decide⟩
theorem kM_backers (X : sv_X D cI cZ cN cQ "SliceVotingModel" cc nL k p R s m args c) (hk : 2 + 1 ≤ k) (hP : sv_mP D cI cZ n qc ad σ mt qm H) {v t : Nat} {B : Bool} (hn : n ≤ 6) (hv : v < n) (ht : t < 24) (hl : lv_has ls nL lv) (hc : cells ≤ R.cells) (hs : slots ≤ R.slots) (hcat : (rest.map fun v => v.category).sum ≤ 8) (hd : decode cc pc = .ok (.invokevirtual 111, 3)) (kk : W p l e R s m args below meth c H locs cells slots Q (F0 m (pc + 3) ls (.int (nI (sv_said (fun w => bif B then sv_ka σ v w ||| sv_kv σ v w else sv_ka σ v w) t n)) :: rest))) : W p l e R s m args below meth c H locs cells slots Q (F0 m pc ls (.int (sv_b B) :: .int (nI t) :: .int (nI v) :: .ref (ad 0) :: rest)) :=
  sv_cV (G := fun H => sv_mP D cI cZ n qc ad σ mt qm H) X okM_M_backers (cM_m_backers hn hv ht) hP (y_rec X.K hP (by decide) sv_me_0 rfl) hk rfl hl.1 rfl hcat hc hs hd kk
theorem sv_un_any {σ : Sg} {n qc S v : Nat} : sv_any (fun q => sv_quo σ n qc q && decide (q &&& S = q) && q.testBit v) (2 ^ n) = (sv_un σ n qc S).testBit v := by
  rw [Bool.eq_iff_iff, sv_any_iff, sv_un_bit]
  refine exists_congr fun q => and_congr_right fun _ => ?_
  rw [Bool.and_eq_true, Bool.and_eq_true, decide_eq_true_eq, sv_sub_and]
  constructor
  · rintro ⟨⟨a, b⟩, c⟩; exact ⟨b, a, c⟩
  · rintro ⟨a, b, c⟩; exact ⟨⟨b, a⟩, c⟩
theorem sv_andz {q S : Nat} (hq : q < 64) : (nI q &&& (nI S ^^^ -1) = 0) ↔ q &&& S = q := by
  rw [sv_andn (q ^^^ (q &&& S)) (fun i _ => by rw [Nat.testBit_xor, Nat.testBit_and]; cases q.testBit i <;> cases S.testBit i <;> rfl)]
  have hl : q ^^^ (q &&& S) < 2 ^ 6 := Nat.xor_lt_two_pow hq (Nat.lt_of_le_of_lt Nat.and_le_left hq)
  rw [← nI_0, nI_eq (by omega) (by decide)]
  constructor
  · intro h
    refine Nat.eq_of_testBit_eq fun i => ?_
    have h1 : (q ^^^ (q &&& S)).testBit i = false := by rw [h, Nat.zero_testBit]
    rw [Nat.testBit_xor] at h1
    cases e1 : q.testBit i <;> cases e2 : (q &&& S).testBit i <;> simp_all
  · intro h
    rw [h, Nat.xor_self]
theorem sv_any_1 {P : Nat → Bool} (h : P 0 = false) : sv_any P 1 = false := by
  show (sv_any P 0 || P 0) = false
  rw [h]
  rfl
theorem sv_quo_0 {σ : Sg} {n qc : Nat} : sv_quo σ n qc 0 = false := rfl
set_option maxHeartbeats 4000000 in
set_option maxRecDepth 100000 in
theorem wM_quorumWithin (X : sv_X D cI cZ cN cQ "SliceVotingModel" cM_quorumWithin 5 1 p R s m args c) (hP : sv_mP D cI cZ n qc ad σ mt qm H) {S v : Nat} (hn : n ≤ 6) (hv : v < n) (hqm : ∀ q, q < 2 ^ n → qm q = sv_b (sv_quo σ n qc q)) (hl : lv_has ls 5 [(0, .ref (ad 0)), (1, .int (nI S)), (2, .int (nI v))]) (ret : ∀ (pc : Nat) (ls : Array Slot), decode cM_quorumWithin pc = .ok (.ireturn, 1) → W p l e R s m args below meth c H locs 0 0 Q (F0 m pc ls [.int (sv_b ((sv_un σ n qc S).testBit v))])) : W p l e R s m args below meth c H locs 0 0 Q (F0 m 0 ls []) := by
  have hx := X.1
  have hb := X.2.1
  have h64 := sv_p2_64 hn
  have J5 : ∀ (kf : Nat) (i : Nat) (ls : Array Slot), 2 ^ n - i < kf → (1 ≤ i) → (i ≤ 2 ^ n) → lv_has ls 5 [(0, .ref (ad 0)), (1, .int (nI S)), (2, .int (nI v)), (3, .int (sv_b (sv_any (fun q => sv_quo σ n qc q && decide (q &&& S = q) && q.testBit v) i))), (4, .int (nI i))] → W p l e R s m args below meth c H locs 0 0 Q (F0 m 5 ls []) := by
    intro kf
    induction kf with
    | zero => intro i ls hm; exact absurd hm (Nat.not_lt_zero _)
    | succ kf ih =>
      intro i ls hm hi1 hi hl
      refine lv_iload (i := 4) hx hb dM_quorumWithin_5 (sv_at hl rfl) ?_
      refine lv_iconst (v := 1) hx hb dM_quorumWithin_7 (by decide) ?_
      refine lv_aload_n (i := 0) hx hb dM_quorumWithin_8 rfl (sv_at hl rfl) ?_
      refine gM_nodes X hP dM_quorumWithin_9 ?_
      refine lv_ishl hx hb dM_quorumWithin_12 ?_
      refine x_tv (sv_pow n (by omega)) ?_
      refine lv_icmp_ge (tgt := 61) hx hb dM_quorumWithin_13 rfl (fun h13 => ?_) (fun h13 => ?_)
      · skip
        rw [nI_leI (by omega) (by omega)] at h13
        obtain rfl : i = 2 ^ n := by omega
        refine lv_iload_n (i := 3) hx hb dM_quorumWithin_61 rfl (sv_at hl rfl) ?_
        exact x_tv (by rw [sv_un_any]) (ret _ _ dM_quorumWithin_62)
      · skip
        rw [nI_leI (by omega) (by omega)] at h13
        have hi64 : i < 64 := by omega
        refine lv_iload_n (i := 3) hx hb dM_quorumWithin_16 rfl (sv_at hl rfl) ?_
        refine x_ifneB (tgt := 49) hx hb dM_quorumWithin_17 rfl (fun h17 => ?_) (fun h17 => ?_)
        · skip
          refine lv_iconst (v := 1) hx hb dM_quorumWithin_49 (by decide) ?_
          refine lv_goto (tgt := 54) hx hb dM_quorumWithin_50 rfl ?_
          refine x_tv (y := sv_b (sv_any (fun q => sv_quo σ n qc q && decide (q &&& S = q) && q.testBit v) (i + 1))) (by show _ = sv_b (sv_any (fun q => sv_quo σ n qc q && decide (q &&& S = q) && q.testBit v) i || (sv_quo σ n qc i && decide (i &&& S = i) && i.testBit v)); first | (have ee : sv_any (fun q => sv_quo σ n qc q && decide (q &&& S = q) && q.testBit v) i = true := h17; rw [ee]; rfl) | (have ee : i.testBit v = true := h46; rw [h17, h27, decide_eq_true h36, h46]; rfl) | (have ee : i.testBit v = false := h46; rw [h17, h46, Bool.and_false]; rfl) | (have ee : ¬ i &&& S = i := h36; rw [h17, h27, decide_eq_false h36]; rfl) | (rw [h17, h27]; rfl)) ?_
          refine lv_istore_n (i := 3) hx hb dM_quorumWithin_54 rfl hl (by decide) rfl (fun ls hl => ?_)
          refine x_iinc (i := 4) hx hb dM_quorumWithin_55 hl rfl (sv_inc i) (by decide) (fun ls hl => ?_)
          refine lv_goto (tgt := 5) hx hb dM_quorumWithin_58 rfl ?_
          exact ih (i + 1) ls (by omega) (by omega) (by omega) (sv_re hl ⟨rfl, rfl, rfl, rfl, rfl, trivial⟩)
        · skip
          refine lv_aload_n (i := 0) hx hb dM_quorumWithin_20 rfl (sv_at hl rfl) ?_
          refine gM_quorums X hP dM_quorumWithin_21 ?_
          refine lv_iload (i := 4) hx hb dM_quorumWithin_24 (sv_at hl rfl) ?_
          refine gm_quorums X hP (by omega) dM_quorumWithin_26 ?_
          refine x_tv (hqm i (by omega)) ?_
          refine x_ifeqB (tgt := 53) hx hb dM_quorumWithin_27 rfl (fun h27 => ?_) (fun h27 => ?_)
          · skip
            refine lv_iconst (v := 0) hx hb dM_quorumWithin_53 (by decide) ?_
            refine x_tv (y := sv_b (sv_any (fun q => sv_quo σ n qc q && decide (q &&& S = q) && q.testBit v) (i + 1))) (by show _ = sv_b (sv_any (fun q => sv_quo σ n qc q && decide (q &&& S = q) && q.testBit v) i || (sv_quo σ n qc i && decide (i &&& S = i) && i.testBit v)); first | (have ee : sv_any (fun q => sv_quo σ n qc q && decide (q &&& S = q) && q.testBit v) i = true := h17; rw [ee]; rfl) | (have ee : i.testBit v = true := h46; rw [h17, h27, decide_eq_true h36, h46]; rfl) | (have ee : i.testBit v = false := h46; rw [h17, h46, Bool.and_false]; rfl) | (have ee : ¬ i &&& S = i := h36; rw [h17, h27, decide_eq_false h36]; rfl) | (rw [h17, h27]; rfl)) ?_
            refine lv_istore_n (i := 3) hx hb dM_quorumWithin_54 rfl hl (by decide) rfl (fun ls hl => ?_)
            refine x_iinc (i := 4) hx hb dM_quorumWithin_55 hl rfl (sv_inc i) (by decide) (fun ls hl => ?_)
            refine lv_goto (tgt := 5) hx hb dM_quorumWithin_58 rfl ?_
            exact ih (i + 1) ls (by omega) (by omega) (by omega) (sv_re hl ⟨rfl, rfl, rfl, rfl, rfl, trivial⟩)
          · skip
            refine lv_iload (i := 4) hx hb dM_quorumWithin_30 (sv_at hl rfl) ?_
            refine lv_iload_n (i := 1) hx hb dM_quorumWithin_32 rfl (sv_at hl rfl) ?_
            refine lv_iconst (v := -1) hx hb dM_quorumWithin_33 (by decide) ?_
            refine lv_ixor hx hb dM_quorumWithin_34 ?_
            refine lv_iand hx hb dM_quorumWithin_35 ?_
            refine lv_if_ne (tgt := 53) hx hb dM_quorumWithin_36 rfl (fun h36 => ?_) (fun h36 => ?_)
            · skip
              rw [sv_andz hi64] at h36
              refine lv_iconst (v := 0) hx hb dM_quorumWithin_53 (by decide) ?_
              refine x_tv (y := sv_b (sv_any (fun q => sv_quo σ n qc q && decide (q &&& S = q) && q.testBit v) (i + 1))) (by show _ = sv_b (sv_any (fun q => sv_quo σ n qc q && decide (q &&& S = q) && q.testBit v) i || (sv_quo σ n qc i && decide (i &&& S = i) && i.testBit v)); first | (have ee : sv_any (fun q => sv_quo σ n qc q && decide (q &&& S = q) && q.testBit v) i = true := h17; rw [ee]; rfl) | (have ee : i.testBit v = true := h46; rw [h17, h27, decide_eq_true h36, h46]; rfl) | (have ee : i.testBit v = false := h46; rw [h17, h46, Bool.and_false]; rfl) | (have ee : ¬ i &&& S = i := h36; rw [h17, h27, decide_eq_false h36]; rfl) | (rw [h17, h27]; rfl)) ?_
              refine lv_istore_n (i := 3) hx hb dM_quorumWithin_54 rfl hl (by decide) rfl (fun ls hl => ?_)
              refine x_iinc (i := 4) hx hb dM_quorumWithin_55 hl rfl (sv_inc i) (by decide) (fun ls hl => ?_)
              refine lv_goto (tgt := 5) hx hb dM_quorumWithin_58 rfl ?_
              exact ih (i + 1) ls (by omega) (by omega) (by omega) (sv_re hl ⟨rfl, rfl, rfl, rfl, rfl, trivial⟩)
            · skip
              rw [sv_andz hi64] at h36
              refine lv_iload (i := 4) hx hb dM_quorumWithin_39 (sv_at hl rfl) ?_
              refine lv_iload_n (i := 2) hx hb dM_quorumWithin_41 rfl (sv_at hl rfl) ?_
              refine lv_ishr hx hb dM_quorumWithin_42 ?_
              refine lv_iconst (v := 1) hx hb dM_quorumWithin_43 (by decide) ?_
              refine lv_iand hx hb dM_quorumWithin_44 ?_
              refine x_tv (sv_shr1 _ (by omega)) ?_
              rw [sv_bt_nI (by omega)]
              refine lv_iconst (v := 1) hx hb dM_quorumWithin_45 (by decide) ?_
              refine lv_icmp_ne (tgt := 53) hx hb dM_quorumWithin_46 rfl (fun h46 => ?_) (fun h46 => ?_)
              · skip
                rw [sv_bn1] at h46
                refine lv_iconst (v := 0) hx hb dM_quorumWithin_53 (by decide) ?_
                refine x_tv (y := sv_b (sv_any (fun q => sv_quo σ n qc q && decide (q &&& S = q) && q.testBit v) (i + 1))) (by show _ = sv_b (sv_any (fun q => sv_quo σ n qc q && decide (q &&& S = q) && q.testBit v) i || (sv_quo σ n qc i && decide (i &&& S = i) && i.testBit v)); first | (have ee : sv_any (fun q => sv_quo σ n qc q && decide (q &&& S = q) && q.testBit v) i = true := h17; rw [ee]; rfl) | (have ee : i.testBit v = true := h46; rw [h17, h27, decide_eq_true h36, h46]; rfl) | (have ee : i.testBit v = false := h46; rw [h17, h46, Bool.and_false]; rfl) | (have ee : ¬ i &&& S = i := h36; rw [h17, h27, decide_eq_false h36]; rfl) | (rw [h17, h27]; rfl)) ?_
                refine lv_istore_n (i := 3) hx hb dM_quorumWithin_54 rfl hl (by decide) rfl (fun ls hl => ?_)
                refine x_iinc (i := 4) hx hb dM_quorumWithin_55 hl rfl (sv_inc i) (by decide) (fun ls hl => ?_)
                refine lv_goto (tgt := 5) hx hb dM_quorumWithin_58 rfl ?_
                exact ih (i + 1) ls (by omega) (by omega) (by omega) (sv_re hl ⟨rfl, rfl, rfl, rfl, rfl, trivial⟩)
              · skip
                rw [sv_b1] at h46
                refine lv_iconst (v := 1) hx hb dM_quorumWithin_49 (by decide) ?_
                refine lv_goto (tgt := 54) hx hb dM_quorumWithin_50 rfl ?_
                refine x_tv (y := sv_b (sv_any (fun q => sv_quo σ n qc q && decide (q &&& S = q) && q.testBit v) (i + 1))) (by show _ = sv_b (sv_any (fun q => sv_quo σ n qc q && decide (q &&& S = q) && q.testBit v) i || (sv_quo σ n qc i && decide (i &&& S = i) && i.testBit v)); first | (have ee : sv_any (fun q => sv_quo σ n qc q && decide (q &&& S = q) && q.testBit v) i = true := h17; rw [ee]; rfl) | (have ee : i.testBit v = true := h46; rw [h17, h27, decide_eq_true h36, h46]; rfl) | (have ee : i.testBit v = false := h46; rw [h17, h46, Bool.and_false]; rfl) | (have ee : ¬ i &&& S = i := h36; rw [h17, h27, decide_eq_false h36]; rfl) | (rw [h17, h27]; rfl)) ?_
                refine lv_istore_n (i := 3) hx hb dM_quorumWithin_54 rfl hl (by decide) rfl (fun ls hl => ?_)
                refine x_iinc (i := 4) hx hb dM_quorumWithin_55 hl rfl (sv_inc i) (by decide) (fun ls hl => ?_)
                refine lv_goto (tgt := 5) hx hb dM_quorumWithin_58 rfl ?_
                exact ih (i + 1) ls (by omega) (by omega) (by omega) (sv_re hl ⟨rfl, rfl, rfl, rfl, rfl, trivial⟩)
  refine lv_iconst (v := 0) hx hb dM_quorumWithin_0 (by decide) ?_
  refine lv_istore_n (i := 3) hx hb dM_quorumWithin_1 rfl hl (by decide) rfl (fun ls hl => ?_)
  refine lv_iconst (v := 1) hx hb dM_quorumWithin_2 (by decide) ?_
  refine lv_istore (i := 4) hx hb dM_quorumWithin_3 hl (by decide) rfl (fun ls hl => ?_)
  exact J5 _ 1 ls (Nat.lt_succ_self _) (by decide) Nat.one_le_two_pow (sv_re hl ⟨rfl, rfl, rfl, by rw [sv_any_1 (by rw [sv_quo_0]; rfl)]; rfl, rfl, trivial⟩)

theorem cM_m_quorumWithin {S v : Nat} (hn : n ≤ 6) (hv : v < n) (hqm : ∀ q, q < 2 ^ n → qm q = sv_b (sv_quo σ n qc q)) : Met l yM_quorumWithin (sv_ws yM_quorumWithin cM_quorumWithin 5 (some .boolean)) (sv_rm 1) (sv_Pc D cI cZ cN cQ [.ref (ad 0), .int (nI S), .int (nI v)] (fun H => sv_mP D cI cZ n qc ad σ mt qm H)) (vp_Si (fun zz => zz = sv_b ((sv_un σ n qc S).testBit v))) 0 0 (fun _ => False) :=
  sv_mkR (by decide) (by show 3 ≤ 5; decide) (sv_narb _) (fun p e s m below meth c ls Q X hP hl ret => wM_quorumWithin X hP hn hv hqm hl ret)
set_option maxRecDepth 100000 in
theorem okM_M_quorumWithin : sv_okV "SliceVotingModel" 115 yM_quorumWithin cM_quorumWithin 5 (some .boolean) 2 := ⟨sv_tb_t 471 rfl rfl, sv_tb_t 468 rfl rfl, sv_tb_t 470 rfl rfl, sv_tb_s 33 rfl rfl, sv_tb_t 4 rfl rfl, ⟨by decide, by decide, by decide +kernel⟩, by decide⟩
theorem kM_quorumWithin (X : sv_X D cI cZ cN cQ "SliceVotingModel" cc nL k p R s m args c) (hk : 1 + 1 ≤ k) (hP : sv_mP D cI cZ n qc ad σ mt qm H) {S v : Nat} (hn : n ≤ 6) (hv : v < n) (hqm : ∀ q, q < 2 ^ n → qm q = sv_b (sv_quo σ n qc q)) (hl : lv_has ls nL lv) (hc : cells ≤ R.cells) (hs : slots ≤ R.slots) (hcat : (rest.map fun v => v.category).sum ≤ 8) (hd : decode cc pc = .ok (.invokevirtual 115, 3)) (kk : W p l e R s m args below meth c H locs cells slots Q (F0 m (pc + 3) ls (.int (sv_b ((sv_un σ n qc S).testBit v)) :: rest))) : W p l e R s m args below meth c H locs cells slots Q (F0 m pc ls (.int (nI v) :: .int (nI S) :: .ref (ad 0) :: rest)) :=
  sv_cV (G := fun H => sv_mP D cI cZ n qc ad σ mt qm H) X okM_M_quorumWithin (cM_m_quorumWithin hn hv hqm) hP (y_rec X.K hP (by decide) sv_me_0 rfl) hk rfl hl.1 rfl hcat hc hs hd kk
theorem sv_chr_at {σ : Sg} {v : Nat} {x : Int32} {i : Nat} : True := trivial
def sv_c1 (σ : Sg) (v : Nat) (x : Int32) (i : Nat) : Int32 := match sv_last (fun b => bt (σ 12 v) b) i with
  | some b => nI (b % 3)
  | none => x
def sv_c2 (σ : Sg) (v : Nat) (x : Int32) (i : Nat) : Int32 := match sv_last (fun b => decide (12 ≤ b) && bt (σ 11 v) b) i with
  | some b => nI (b % 3)
  | none => sv_c1 σ v x 12
theorem sv_c2_24 (σ : Sg) (v : Nat) (x : Int32) : sv_c2 σ v x 24 = sv_chr σ v x := rfl
theorem sv_c2_12 (σ : Sg) (v : Nat) (x : Int32) : sv_c2 σ v x 12 = sv_c1 σ v x 12 := by
  unfold sv_c2
  rw [sv_last_no 12 (fun j hj => by rw [decide_eq_false (by omega)]; rfl)]
theorem sv_c1_t {σ : Sg} {v : Nat} {x : Int32} {i : Nat} (h : bt (σ 12 v) i = true) : sv_c1 σ v x (i + 1) = nI (i % 3) := by
  unfold sv_c1
  rw [sv_last_t h]
theorem sv_c1_f {σ : Sg} {v : Nat} {x : Int32} {i : Nat} (h : bt (σ 12 v) i = false) : sv_c1 σ v x (i + 1) = sv_c1 σ v x i := by
  unfold sv_c1
  rw [sv_last_f h]
theorem sv_c2_t {σ : Sg} {v : Nat} {x : Int32} {i : Nat} (hi : 12 ≤ i) (h : bt (σ 11 v) i = true) : sv_c2 σ v x (i + 1) = nI (i % 3) := by
  unfold sv_c2
  rw [sv_last_t (by rw [h, decide_eq_true hi]; rfl)]
theorem sv_c2_f {σ : Sg} {v : Nat} {x : Int32} {i : Nat} (h : bt (σ 11 v) i = false) : sv_c2 σ v x (i + 1) = sv_c2 σ v x i := by
  unfold sv_c2
  rw [sv_last_f (by rw [h, Bool.and_false])]
set_option maxHeartbeats 4000000 in
set_option maxRecDepth 100000 in
theorem wM_choice (X : sv_X D cI cZ cN cQ "SliceVotingModel" cM_choice 5 1 p R s m args c) (hP : sv_mP D cI cZ n qc ad σ mt qm H) {v : Nat} {x : Int32} (hv : v < 6) (hl : lv_has ls 5 [(0, .ref (ad 0)), (1, .int (nI v)), (2, .int x)]) (ret : ∀ (pc : Nat) (ls : Array Slot), decode cM_choice pc = .ok (.ireturn, 1) → W p l e R s m args below meth c H locs 0 0 Q (F0 m pc ls [.int (sv_chr σ v x)])) : W p l e R s m args below meth c H locs 0 0 Q (F0 m 0 ls []) := by
  have hx := X.1
  have hb := X.2.1
  have J46 : ∀ (kf : Nat) (i : Nat) (ls : Array Slot), 24 - i < kf → (12 ≤ i) → (i ≤ 24) → lv_has ls 5 [(0, .ref (ad 0)), (1, .int (nI v)), (2, .int x), (3, .int (sv_c2 σ v x i)), (4, .int (nI i))] → W p l e R s m args below meth c H locs 0 0 Q (F0 m 46 ls []) := by
    intro kf
    induction kf with
    | zero => intro i ls hm; exact absurd hm (Nat.not_lt_zero _)
    | succ kf ih =>
      intro i ls hm hi1 hi hl
      refine lv_iload (i := 4) hx hb dM_choice_46 (sv_at hl rfl) ?_
      refine lv_bipush (v := nI 24) hx hb dM_choice_48 (by decide) ?_
      refine lv_icmp_ge (tgt := 83) hx hb dM_choice_50 rfl (fun h50 => ?_) (fun h50 => ?_)
      · skip
        rw [nI_leI (by omega) (by omega)] at h50
        obtain rfl : i = 24 := by omega
        refine lv_iload_n (i := 3) hx hb dM_choice_83 rfl (sv_at hl rfl) ?_
        exact ret _ _ dM_choice_84
      · skip
        rw [nI_leI (by omega) (by omega)] at h50
        refine lv_aload_n (i := 0) hx hb dM_choice_53 rfl (sv_at hl rfl) ?_
        refine gM_accepts X hP dM_choice_54 ?_
        refine lv_iload_n (i := 1) hx hb dM_choice_57 rfl (sv_at hl rfl) ?_
        refine gm_accepts X hP (by omega) dM_choice_58 ?_
        refine lv_iload (i := 4) hx hb dM_choice_59 (sv_at hl rfl) ?_
        refine lv_ishr hx hb dM_choice_61 ?_
        refine lv_iconst (v := 1) hx hb dM_choice_62 (by decide) ?_
        refine lv_iand hx hb dM_choice_63 ?_
        refine x_tv (sv_shr1 _ (by omega)) ?_
        refine lv_iconst (v := 1) hx hb dM_choice_64 (by decide) ?_
        refine lv_icmp_ne (tgt := 75) hx hb dM_choice_65 rfl (fun h65 => ?_) (fun h65 => ?_)
        · skip
          rw [sv_bn1] at h65
          refine lv_iload_n (i := 3) hx hb dM_choice_75 rfl (sv_at hl rfl) ?_
          first | (have ee : bt (σ 11 v) i = true := h65; refine x_tv (y := sv_c2 σ v x (i + 1)) (by rw [sv_c2_t hi1 ee, pk_rem (by omega) (by decide) (by decide)]) ?_) | refine x_tv (y := sv_c2 σ v x (i + 1)) (by rw [sv_c2_f h65]) ?_
          refine lv_istore_n (i := 3) hx hb dM_choice_76 rfl hl (by decide) rfl (fun ls hl => ?_)
          refine x_iinc (i := 4) hx hb dM_choice_77 hl rfl (sv_inc i) (by decide) (fun ls hl => ?_)
          refine lv_goto (tgt := 46) hx hb dM_choice_80 rfl ?_
          exact ih (i + 1) ls (by omega) (by omega) (by omega) (sv_re hl ⟨rfl, rfl, rfl, rfl, rfl, trivial⟩)
        · skip
          rw [sv_b1] at h65
          refine lv_iload (i := 4) hx hb dM_choice_68 (sv_at hl rfl) ?_
          refine lv_iconst (v := nI 3) hx hb dM_choice_70 (by decide) ?_
          refine lv_irem hx hb dM_choice_71 (by decide) ?_
          refine lv_goto (tgt := 76) hx hb dM_choice_72 rfl ?_
          first | (have ee : bt (σ 11 v) i = true := h65; refine x_tv (y := sv_c2 σ v x (i + 1)) (by rw [sv_c2_t hi1 ee, pk_rem (by omega) (by decide) (by decide)]) ?_) | refine x_tv (y := sv_c2 σ v x (i + 1)) (by rw [sv_c2_f h65]) ?_
          refine lv_istore_n (i := 3) hx hb dM_choice_76 rfl hl (by decide) rfl (fun ls hl => ?_)
          refine x_iinc (i := 4) hx hb dM_choice_77 hl rfl (sv_inc i) (by decide) (fun ls hl => ?_)
          refine lv_goto (tgt := 46) hx hb dM_choice_80 rfl ?_
          exact ih (i + 1) ls (by omega) (by omega) (by omega) (sv_re hl ⟨rfl, rfl, rfl, rfl, rfl, trivial⟩)
  have J5 : ∀ (kf : Nat) (i : Nat) (ls : Array Slot), 12 - i < kf → (i ≤ 12) → lv_has ls 5 [(0, .ref (ad 0)), (1, .int (nI v)), (2, .int x), (3, .int (sv_c1 σ v x i)), (4, .int (nI i))] → W p l e R s m args below meth c H locs 0 0 Q (F0 m 5 ls []) := by
    intro kf
    induction kf with
    | zero => intro i ls hm; exact absurd hm (Nat.not_lt_zero _)
    | succ kf ih =>
      intro i ls hm hi hl
      refine lv_iload (i := 4) hx hb dM_choice_5 (sv_at hl rfl) ?_
      refine lv_bipush (v := nI 12) hx hb dM_choice_7 (by decide) ?_
      refine lv_icmp_ge (tgt := 42) hx hb dM_choice_9 rfl (fun h9 => ?_) (fun h9 => ?_)
      · skip
        rw [nI_leI (by omega) (by omega)] at h9
        obtain rfl : i = 12 := by omega
        rw [← sv_c2_12] at hl
        refine lv_bipush (v := nI 12) hx hb dM_choice_42 (by decide) ?_
        refine lv_istore (i := 4) hx hb dM_choice_44 hl (by decide) rfl (fun ls hl => ?_)
        exact J46 _ 12 ls (Nat.lt_succ_self _) (by decide) (by decide) (sv_re hl ⟨rfl, rfl, rfl, rfl, rfl, trivial⟩)
      · skip
        rw [nI_leI (by omega) (by omega)] at h9
        refine lv_aload_n (i := 0) hx hb dM_choice_12 rfl (sv_at hl rfl) ?_
        refine gM_confirms X hP dM_choice_13 ?_
        refine lv_iload_n (i := 1) hx hb dM_choice_16 rfl (sv_at hl rfl) ?_
        refine gm_confirms X hP (by omega) dM_choice_17 ?_
        refine lv_iload (i := 4) hx hb dM_choice_18 (sv_at hl rfl) ?_
        refine lv_ishr hx hb dM_choice_20 ?_
        refine lv_iconst (v := 1) hx hb dM_choice_21 (by decide) ?_
        refine lv_iand hx hb dM_choice_22 ?_
        refine x_tv (sv_shr1 _ (by omega)) ?_
        refine lv_iconst (v := 1) hx hb dM_choice_23 (by decide) ?_
        refine lv_icmp_ne (tgt := 34) hx hb dM_choice_24 rfl (fun h24 => ?_) (fun h24 => ?_)
        · skip
          rw [sv_bn1] at h24
          refine lv_iload_n (i := 3) hx hb dM_choice_34 rfl (sv_at hl rfl) ?_
          first | (have ee : bt (σ 12 v) i = true := h24; refine x_tv (y := sv_c1 σ v x (i + 1)) (by rw [sv_c1_t ee, pk_rem (by omega) (by decide) (by decide)]) ?_) | refine x_tv (y := sv_c1 σ v x (i + 1)) (by rw [sv_c1_f h24]) ?_
          refine lv_istore_n (i := 3) hx hb dM_choice_35 rfl hl (by decide) rfl (fun ls hl => ?_)
          refine x_iinc (i := 4) hx hb dM_choice_36 hl rfl (sv_inc i) (by decide) (fun ls hl => ?_)
          refine lv_goto (tgt := 5) hx hb dM_choice_39 rfl ?_
          exact ih (i + 1) ls (by omega) (by omega) (sv_re hl ⟨rfl, rfl, rfl, rfl, rfl, trivial⟩)
        · skip
          rw [sv_b1] at h24
          refine lv_iload (i := 4) hx hb dM_choice_27 (sv_at hl rfl) ?_
          refine lv_iconst (v := nI 3) hx hb dM_choice_29 (by decide) ?_
          refine lv_irem hx hb dM_choice_30 (by decide) ?_
          refine lv_goto (tgt := 35) hx hb dM_choice_31 rfl ?_
          first | (have ee : bt (σ 12 v) i = true := h24; refine x_tv (y := sv_c1 σ v x (i + 1)) (by rw [sv_c1_t ee, pk_rem (by omega) (by decide) (by decide)]) ?_) | refine x_tv (y := sv_c1 σ v x (i + 1)) (by rw [sv_c1_f h24]) ?_
          refine lv_istore_n (i := 3) hx hb dM_choice_35 rfl hl (by decide) rfl (fun ls hl => ?_)
          refine x_iinc (i := 4) hx hb dM_choice_36 hl rfl (sv_inc i) (by decide) (fun ls hl => ?_)
          refine lv_goto (tgt := 5) hx hb dM_choice_39 rfl ?_
          exact ih (i + 1) ls (by omega) (by omega) (sv_re hl ⟨rfl, rfl, rfl, rfl, rfl, trivial⟩)
  refine lv_iload_n (i := 2) hx hb dM_choice_0 rfl (sv_at hl rfl) ?_
  refine lv_istore_n (i := 3) hx hb dM_choice_1 rfl hl (by decide) rfl (fun ls hl => ?_)
  refine lv_iconst (v := 0) hx hb dM_choice_2 (by decide) ?_
  refine lv_istore (i := 4) hx hb dM_choice_3 hl (by decide) rfl (fun ls hl => ?_)
  exact J5 _ 0 ls (Nat.lt_succ_self _) (Nat.zero_le _) (sv_re hl ⟨rfl, rfl, rfl, rfl, rfl, trivial⟩)

theorem cM_m_choice {v : Nat} {x : Int32} (hv : v < 6) : Met l yM_choice (sv_ws yM_choice cM_choice 5 (some .int)) (sv_rm 1) (sv_Pc D cI cZ cN cQ [.ref (ad 0), .int (nI v), .int x] (fun H => sv_mP D cI cZ n qc ad σ mt qm H)) (vp_Si (fun zz => zz = sv_chr σ v x)) 0 0 (fun _ => False) :=
  sv_mkR (by decide) (by show 3 ≤ 5; decide) rfl (fun p e s m below meth c ls Q X hP hl ret => wM_choice X hP hv hl ret)
set_option maxRecDepth 100000 in
theorem okM_M_choice : sv_okV "SliceVotingModel" 130 yM_choice cM_choice 5 (some .int) 2 := ⟨sv_tb_t 435 rfl rfl, sv_tb_t 432 rfl rfl, sv_tb_t 434 rfl rfl, sv_tb_s 24 rfl rfl, sv_tb_t 4 rfl rfl, ⟨by decide, by decide, by decide +kernel⟩, by decide⟩
theorem kM_choice (X : sv_X D cI cZ cN cQ "SliceVotingModel" cc nL k p R s m args c) (hk : 1 + 1 ≤ k) (hP : sv_mP D cI cZ n qc ad σ mt qm H) {v : Nat} {x : Int32} (hv : v < 6) (hl : lv_has ls nL lv) (hc : cells ≤ R.cells) (hs : slots ≤ R.slots) (hcat : (rest.map fun v => v.category).sum ≤ 8) (hd : decode cc pc = .ok (.invokevirtual 130, 3)) (kk : W p l e R s m args below meth c H locs cells slots Q (F0 m (pc + 3) ls (.int (sv_chr σ v x) :: rest))) : W p l e R s m args below meth c H locs cells slots Q (F0 m pc ls (.int x :: .int (nI v) :: .ref (ad 0) :: rest)) :=
  sv_cV (G := fun H => sv_mP D cI cZ n qc ad σ mt qm H) X okM_M_choice (cM_m_choice hv) hP (y_rec X.K hP (by decide) sv_me_0 rfl) hk rfl hl.1 rfl hcat hc hs hd kk
set_option maxHeartbeats 4000000 in
set_option maxRecDepth 100000 in
theorem wM_voted (X : sv_X D cI cZ cN cQ "SliceVotingModel" cM_voted 2 2 p R s m args c) (hP : sv_mP D cI cZ n qc ad σ mt qm H) {v : Int32} (hn : n ≤ 6) (hl : lv_has ls 2 [(0, .ref (ad 0)), (1, .int v)]) (ret : ∀ (pc : Nat) (ls : Array Slot), decode cM_voted pc = .ok (.ireturn, 1) → W p l e R s m args below meth c H locs 0 0 Q (F0 m pc ls [.int (sv_rd n (σ 10) 0 v)])) : W p l e R s m args below meth c H locs 0 0 Q (F0 m 0 ls []) := by
  have hx := X.1
  have hb := X.2.1
  refine lv_aload_n (i := 0) hx hb dM_voted_0 rfl (sv_at hl rfl) ?_
  refine lv_iload_n (i := 1) hx hb dM_voted_1 rfl (sv_at hl rfl) ?_
  refine kM_isNode X (by decide) hP  hl (Nat.zero_le _) (Nat.zero_le _) (Nat.le_of_ble_eq_true rfl) dM_voted_2 ?_
  refine x_ifeqB (tgt := 17) hx hb dM_voted_5 rfl (fun h5 => ?_) (fun h5 => ?_)
  · skip
    refine lv_iconst (v := 0) hx hb dM_voted_17 (by decide) ?_
    first | (have ee : sv_isn n v = false := h5; exact x_tv (by rw [sv_rd_f h5]) (ret _ _ dM_voted_18)) | exact x_tv (by rw [sv_rd_t (by omega) hj]) (ret _ _ dM_voted_18)
  · skip
    obtain ⟨j, hj, rfl⟩ := sv_isn_t (by omega) h5
    refine lv_aload_n (i := 0) hx hb dM_voted_8 rfl (sv_at hl rfl) ?_
    refine gM_votes X hP dM_voted_9 ?_
    refine lv_iload_n (i := 1) hx hb dM_voted_12 rfl (sv_at hl rfl) ?_
    refine gm_votes X hP (by omega) dM_voted_13 ?_
    refine lv_goto (tgt := 18) hx hb dM_voted_14 rfl ?_
    first | (have ee : sv_isn n v = false := h5; exact x_tv (by rw [sv_rd_f h5]) (ret _ _ dM_voted_18)) | exact x_tv (by rw [sv_rd_t (by omega) hj]) (ret _ _ dM_voted_18)

theorem cM_m_voted {v : Int32} (hn : n ≤ 6) : Met l yM_voted (sv_ws yM_voted cM_voted 2 (some .int)) (sv_rm 2) (sv_Pc D cI cZ cN cQ [.ref (ad 0), .int v] (fun H => sv_mP D cI cZ n qc ad σ mt qm H)) (vp_Si (fun zz => zz = sv_rd n (σ 10) 0 v)) 0 0 (fun _ => False) :=
  sv_mkR (by decide) (by show 2 ≤ 2; decide) rfl (fun p e s m below meth c ls Q X hP hl ret => wM_voted X hP hn hl ret)
set_option maxRecDepth 100000 in
theorem okL_M_voted : sv_okV "SliceVotingLaw" 53 yM_voted cM_voted 2 (some .int) 1 := ⟨sv_tb_t 492 rfl rfl, sv_tb_t 489 rfl rfl, sv_tb_t 490 rfl rfl, sv_tb_t 491 rfl rfl, sv_tb_t 4 rfl rfl, ⟨by decide, by decide, by decide +kernel⟩, by decide⟩
theorem kL_m_voted (X : sv_X D cI cZ cN cQ "SliceVotingLaw" cc nL k p R s m args c) (hk : 2 + 1 ≤ k) (hP : sv_mP D cI cZ n qc ad σ mt qm H) {v : Int32} (hn : n ≤ 6) (hl : lv_has ls nL lv) (hc : cells ≤ R.cells) (hs : slots ≤ R.slots) (hcat : (rest.map fun v => v.category).sum ≤ 8) (hd : decode cc pc = .ok (.invokevirtual 53, 3)) (kk : W p l e R s m args below meth c H locs cells slots Q (F0 m (pc + 3) ls (.int (sv_rd n (σ 10) 0 v) :: rest))) : W p l e R s m args below meth c H locs cells slots Q (F0 m pc ls (.int v :: .ref (ad 0) :: rest)) :=
  sv_cV (G := fun H => sv_mP D cI cZ n qc ad σ mt qm H) X okL_M_voted (cM_m_voted hn) hP (y_rec X.K hP (by decide) sv_me_0 rfl) hk rfl hl.1 rfl hcat hc hs hd kk
set_option maxHeartbeats 4000000 in
set_option maxRecDepth 100000 in
theorem wM_accepted (X : sv_X D cI cZ cN cQ "SliceVotingModel" cM_accepted 2 2 p R s m args c) (hP : sv_mP D cI cZ n qc ad σ mt qm H) {v : Int32} (hn : n ≤ 6) (hl : lv_has ls 2 [(0, .ref (ad 0)), (1, .int v)]) (ret : ∀ (pc : Nat) (ls : Array Slot), decode cM_accepted pc = .ok (.ireturn, 1) → W p l e R s m args below meth c H locs 0 0 Q (F0 m pc ls [.int (sv_rd n (σ 11) 0 v)])) : W p l e R s m args below meth c H locs 0 0 Q (F0 m 0 ls []) := by
  have hx := X.1
  have hb := X.2.1
  refine lv_aload_n (i := 0) hx hb dM_accepted_0 rfl (sv_at hl rfl) ?_
  refine lv_iload_n (i := 1) hx hb dM_accepted_1 rfl (sv_at hl rfl) ?_
  refine kM_isNode X (by decide) hP  hl (Nat.zero_le _) (Nat.zero_le _) (Nat.le_of_ble_eq_true rfl) dM_accepted_2 ?_
  refine x_ifeqB (tgt := 17) hx hb dM_accepted_5 rfl (fun h5 => ?_) (fun h5 => ?_)
  · skip
    refine lv_iconst (v := 0) hx hb dM_accepted_17 (by decide) ?_
    first | (have ee : sv_isn n v = false := h5; exact x_tv (by rw [sv_rd_f h5]) (ret _ _ dM_accepted_18)) | exact x_tv (by rw [sv_rd_t (by omega) hj]) (ret _ _ dM_accepted_18)
  · skip
    obtain ⟨j, hj, rfl⟩ := sv_isn_t (by omega) h5
    refine lv_aload_n (i := 0) hx hb dM_accepted_8 rfl (sv_at hl rfl) ?_
    refine gM_accepts X hP dM_accepted_9 ?_
    refine lv_iload_n (i := 1) hx hb dM_accepted_12 rfl (sv_at hl rfl) ?_
    refine gm_accepts X hP (by omega) dM_accepted_13 ?_
    refine lv_goto (tgt := 18) hx hb dM_accepted_14 rfl ?_
    first | (have ee : sv_isn n v = false := h5; exact x_tv (by rw [sv_rd_f h5]) (ret _ _ dM_accepted_18)) | exact x_tv (by rw [sv_rd_t (by omega) hj]) (ret _ _ dM_accepted_18)

theorem cM_m_accepted {v : Int32} (hn : n ≤ 6) : Met l yM_accepted (sv_ws yM_accepted cM_accepted 2 (some .int)) (sv_rm 2) (sv_Pc D cI cZ cN cQ [.ref (ad 0), .int v] (fun H => sv_mP D cI cZ n qc ad σ mt qm H)) (vp_Si (fun zz => zz = sv_rd n (σ 11) 0 v)) 0 0 (fun _ => False) :=
  sv_mkR (by decide) (by show 2 ≤ 2; decide) rfl (fun p e s m below meth c ls Q X hP hl ret => wM_accepted X hP hn hl ret)
set_option maxRecDepth 100000 in
theorem okL_M_accepted : sv_okV "SliceVotingLaw" 57 yM_accepted cM_accepted 2 (some .int) 1 := ⟨sv_tb_t 496 rfl rfl, sv_tb_t 493 rfl rfl, sv_tb_t 494 rfl rfl, sv_tb_t 495 rfl rfl, sv_tb_t 4 rfl rfl, ⟨by decide, by decide, by decide +kernel⟩, by decide⟩
theorem kL_m_accepted (X : sv_X D cI cZ cN cQ "SliceVotingLaw" cc nL k p R s m args c) (hk : 2 + 1 ≤ k) (hP : sv_mP D cI cZ n qc ad σ mt qm H) {v : Int32} (hn : n ≤ 6) (hl : lv_has ls nL lv) (hc : cells ≤ R.cells) (hs : slots ≤ R.slots) (hcat : (rest.map fun v => v.category).sum ≤ 8) (hd : decode cc pc = .ok (.invokevirtual 57, 3)) (kk : W p l e R s m args below meth c H locs cells slots Q (F0 m (pc + 3) ls (.int (sv_rd n (σ 11) 0 v) :: rest))) : W p l e R s m args below meth c H locs cells slots Q (F0 m pc ls (.int v :: .ref (ad 0) :: rest)) :=
  sv_cV (G := fun H => sv_mP D cI cZ n qc ad σ mt qm H) X okL_M_accepted (cM_m_accepted hn) hP (y_rec X.K hP (by decide) sv_me_0 rfl) hk rfl hl.1 rfl hcat hc hs hd kk
set_option maxHeartbeats 4000000 in
set_option maxRecDepth 100000 in
theorem wM_confirmed (X : sv_X D cI cZ cN cQ "SliceVotingModel" cM_confirmed 2 2 p R s m args c) (hP : sv_mP D cI cZ n qc ad σ mt qm H) {v : Int32} (hn : n ≤ 6) (hl : lv_has ls 2 [(0, .ref (ad 0)), (1, .int v)]) (ret : ∀ (pc : Nat) (ls : Array Slot), decode cM_confirmed pc = .ok (.ireturn, 1) → W p l e R s m args below meth c H locs 0 0 Q (F0 m pc ls [.int (sv_rd n (σ 12) 0 v)])) : W p l e R s m args below meth c H locs 0 0 Q (F0 m 0 ls []) := by
  have hx := X.1
  have hb := X.2.1
  refine lv_aload_n (i := 0) hx hb dM_confirmed_0 rfl (sv_at hl rfl) ?_
  refine lv_iload_n (i := 1) hx hb dM_confirmed_1 rfl (sv_at hl rfl) ?_
  refine kM_isNode X (by decide) hP  hl (Nat.zero_le _) (Nat.zero_le _) (Nat.le_of_ble_eq_true rfl) dM_confirmed_2 ?_
  refine x_ifeqB (tgt := 17) hx hb dM_confirmed_5 rfl (fun h5 => ?_) (fun h5 => ?_)
  · skip
    refine lv_iconst (v := 0) hx hb dM_confirmed_17 (by decide) ?_
    first | (have ee : sv_isn n v = false := h5; exact x_tv (by rw [sv_rd_f h5]) (ret _ _ dM_confirmed_18)) | exact x_tv (by rw [sv_rd_t (by omega) hj]) (ret _ _ dM_confirmed_18)
  · skip
    obtain ⟨j, hj, rfl⟩ := sv_isn_t (by omega) h5
    refine lv_aload_n (i := 0) hx hb dM_confirmed_8 rfl (sv_at hl rfl) ?_
    refine gM_confirms X hP dM_confirmed_9 ?_
    refine lv_iload_n (i := 1) hx hb dM_confirmed_12 rfl (sv_at hl rfl) ?_
    refine gm_confirms X hP (by omega) dM_confirmed_13 ?_
    refine lv_goto (tgt := 18) hx hb dM_confirmed_14 rfl ?_
    first | (have ee : sv_isn n v = false := h5; exact x_tv (by rw [sv_rd_f h5]) (ret _ _ dM_confirmed_18)) | exact x_tv (by rw [sv_rd_t (by omega) hj]) (ret _ _ dM_confirmed_18)

theorem cM_m_confirmed {v : Int32} (hn : n ≤ 6) : Met l yM_confirmed (sv_ws yM_confirmed cM_confirmed 2 (some .int)) (sv_rm 2) (sv_Pc D cI cZ cN cQ [.ref (ad 0), .int v] (fun H => sv_mP D cI cZ n qc ad σ mt qm H)) (vp_Si (fun zz => zz = sv_rd n (σ 12) 0 v)) 0 0 (fun _ => False) :=
  sv_mkR (by decide) (by show 2 ≤ 2; decide) rfl (fun p e s m below meth c ls Q X hP hl ret => wM_confirmed X hP hn hl ret)
set_option maxRecDepth 100000 in
theorem okL_M_confirmed : sv_okV "SliceVotingLaw" 61 yM_confirmed cM_confirmed 2 (some .int) 1 := ⟨sv_tb_t 500 rfl rfl, sv_tb_t 497 rfl rfl, sv_tb_t 498 rfl rfl, sv_tb_t 499 rfl rfl, sv_tb_t 4 rfl rfl, ⟨by decide, by decide, by decide +kernel⟩, by decide⟩
theorem kL_m_confirmed (X : sv_X D cI cZ cN cQ "SliceVotingLaw" cc nL k p R s m args c) (hk : 2 + 1 ≤ k) (hP : sv_mP D cI cZ n qc ad σ mt qm H) {v : Int32} (hn : n ≤ 6) (hl : lv_has ls nL lv) (hc : cells ≤ R.cells) (hs : slots ≤ R.slots) (hcat : (rest.map fun v => v.category).sum ≤ 8) (hd : decode cc pc = .ok (.invokevirtual 61, 3)) (kk : W p l e R s m args below meth c H locs cells slots Q (F0 m (pc + 3) ls (.int (sv_rd n (σ 12) 0 v) :: rest))) : W p l e R s m args below meth c H locs cells slots Q (F0 m pc ls (.int v :: .ref (ad 0) :: rest)) :=
  sv_cV (G := fun H => sv_mP D cI cZ n qc ad σ mt qm H) X okL_M_confirmed (cM_m_confirmed hn) hP (y_rec X.K hP (by decide) sv_me_0 rfl) hk rfl hl.1 rfl hcat hc hs hd kk
set_option maxHeartbeats 4000000 in
set_option maxRecDepth 100000 in
theorem wM_counter (X : sv_X D cI cZ cN cQ "SliceVotingModel" cM_counter 2 2 p R s m args c) (hP : sv_mP D cI cZ n qc ad σ mt qm H) {v : Int32} (hn : n ≤ 6) (hl : lv_has ls 2 [(0, .ref (ad 0)), (1, .int v)]) (ret : ∀ (pc : Nat) (ls : Array Slot), decode cM_counter pc = .ok (.ireturn, 1) → W p l e R s m args below meth c H locs 0 0 Q (F0 m pc ls [.int (sv_rd n (σ 13) 0 v)])) : W p l e R s m args below meth c H locs 0 0 Q (F0 m 0 ls []) := by
  have hx := X.1
  have hb := X.2.1
  refine lv_aload_n (i := 0) hx hb dM_counter_0 rfl (sv_at hl rfl) ?_
  refine lv_iload_n (i := 1) hx hb dM_counter_1 rfl (sv_at hl rfl) ?_
  refine kM_isNode X (by decide) hP  hl (Nat.zero_le _) (Nat.zero_le _) (Nat.le_of_ble_eq_true rfl) dM_counter_2 ?_
  refine x_ifeqB (tgt := 17) hx hb dM_counter_5 rfl (fun h5 => ?_) (fun h5 => ?_)
  · skip
    refine lv_iconst (v := 0) hx hb dM_counter_17 (by decide) ?_
    first | (have ee : sv_isn n v = false := h5; exact x_tv (by rw [sv_rd_f h5]) (ret _ _ dM_counter_18)) | exact x_tv (by rw [sv_rd_t (by omega) hj]) (ret _ _ dM_counter_18)
  · skip
    obtain ⟨j, hj, rfl⟩ := sv_isn_t (by omega) h5
    refine lv_aload_n (i := 0) hx hb dM_counter_8 rfl (sv_at hl rfl) ?_
    refine gM_counters X hP dM_counter_9 ?_
    refine lv_iload_n (i := 1) hx hb dM_counter_12 rfl (sv_at hl rfl) ?_
    refine gm_counters X hP (by omega) dM_counter_13 ?_
    refine lv_goto (tgt := 18) hx hb dM_counter_14 rfl ?_
    first | (have ee : sv_isn n v = false := h5; exact x_tv (by rw [sv_rd_f h5]) (ret _ _ dM_counter_18)) | exact x_tv (by rw [sv_rd_t (by omega) hj]) (ret _ _ dM_counter_18)

theorem cM_m_counter {v : Int32} (hn : n ≤ 6) : Met l yM_counter (sv_ws yM_counter cM_counter 2 (some .int)) (sv_rm 2) (sv_Pc D cI cZ cN cQ [.ref (ad 0), .int v] (fun H => sv_mP D cI cZ n qc ad σ mt qm H)) (vp_Si (fun zz => zz = sv_rd n (σ 13) 0 v)) 0 0 (fun _ => False) :=
  sv_mkR (by decide) (by show 2 ≤ 2; decide) rfl (fun p e s m below meth c ls Q X hP hl ret => wM_counter X hP hn hl ret)
set_option maxRecDepth 100000 in
theorem okL_M_counter : sv_okV "SliceVotingLaw" 65 yM_counter cM_counter 2 (some .int) 1 := ⟨sv_tb_t 504 rfl rfl, sv_tb_t 501 rfl rfl, sv_tb_t 502 rfl rfl, sv_tb_t 503 rfl rfl, sv_tb_t 4 rfl rfl, ⟨by decide, by decide, by decide +kernel⟩, by decide⟩
theorem kL_m_counter (X : sv_X D cI cZ cN cQ "SliceVotingLaw" cc nL k p R s m args c) (hk : 2 + 1 ≤ k) (hP : sv_mP D cI cZ n qc ad σ mt qm H) {v : Int32} (hn : n ≤ 6) (hl : lv_has ls nL lv) (hc : cells ≤ R.cells) (hs : slots ≤ R.slots) (hcat : (rest.map fun v => v.category).sum ≤ 8) (hd : decode cc pc = .ok (.invokevirtual 65, 3)) (kk : W p l e R s m args below meth c H locs cells slots Q (F0 m (pc + 3) ls (.int (sv_rd n (σ 13) 0 v) :: rest))) : W p l e R s m args below meth c H locs cells slots Q (F0 m pc ls (.int v :: .ref (ad 0) :: rest)) :=
  sv_cV (G := fun H => sv_mP D cI cZ n qc ad σ mt qm H) X okL_M_counter (cM_m_counter hn) hP (y_rec X.K hP (by decide) sv_me_0 rfl) hk rfl hl.1 rfl hcat hc hs hd kk
set_option maxHeartbeats 4000000 in
set_option maxRecDepth 100000 in
theorem wM_value (X : sv_X D cI cZ cN cQ "SliceVotingModel" cM_value 2 2 p R s m args c) (hP : sv_mP D cI cZ n qc ad σ mt qm H) {v : Int32} (hn : n ≤ 6) (hl : lv_has ls 2 [(0, .ref (ad 0)), (1, .int v)]) (ret : ∀ (pc : Nat) (ls : Array Slot), decode cM_value pc = .ok (.ireturn, 1) → W p l e R s m args below meth c H locs 0 0 Q (F0 m pc ls [.int (sv_rd n (σ 14) 0 v)])) : W p l e R s m args below meth c H locs 0 0 Q (F0 m 0 ls []) := by
  have hx := X.1
  have hb := X.2.1
  refine lv_aload_n (i := 0) hx hb dM_value_0 rfl (sv_at hl rfl) ?_
  refine lv_iload_n (i := 1) hx hb dM_value_1 rfl (sv_at hl rfl) ?_
  refine kM_isNode X (by decide) hP  hl (Nat.zero_le _) (Nat.zero_le _) (Nat.le_of_ble_eq_true rfl) dM_value_2 ?_
  refine x_ifeqB (tgt := 17) hx hb dM_value_5 rfl (fun h5 => ?_) (fun h5 => ?_)
  · skip
    refine lv_iconst (v := 0) hx hb dM_value_17 (by decide) ?_
    first | (have ee : sv_isn n v = false := h5; exact x_tv (by rw [sv_rd_f h5]) (ret _ _ dM_value_18)) | exact x_tv (by rw [sv_rd_t (by omega) hj]) (ret _ _ dM_value_18)
  · skip
    obtain ⟨j, hj, rfl⟩ := sv_isn_t (by omega) h5
    refine lv_aload_n (i := 0) hx hb dM_value_8 rfl (sv_at hl rfl) ?_
    refine gM_values X hP dM_value_9 ?_
    refine lv_iload_n (i := 1) hx hb dM_value_12 rfl (sv_at hl rfl) ?_
    refine gm_values X hP (by omega) dM_value_13 ?_
    refine lv_goto (tgt := 18) hx hb dM_value_14 rfl ?_
    first | (have ee : sv_isn n v = false := h5; exact x_tv (by rw [sv_rd_f h5]) (ret _ _ dM_value_18)) | exact x_tv (by rw [sv_rd_t (by omega) hj]) (ret _ _ dM_value_18)

theorem cM_m_value {v : Int32} (hn : n ≤ 6) : Met l yM_value (sv_ws yM_value cM_value 2 (some .int)) (sv_rm 2) (sv_Pc D cI cZ cN cQ [.ref (ad 0), .int v] (fun H => sv_mP D cI cZ n qc ad σ mt qm H)) (vp_Si (fun zz => zz = sv_rd n (σ 14) 0 v)) 0 0 (fun _ => False) :=
  sv_mkR (by decide) (by show 2 ≤ 2; decide) rfl (fun p e s m below meth c ls Q X hP hl ret => wM_value X hP hn hl ret)
set_option maxRecDepth 100000 in
theorem okL_M_value : sv_okV "SliceVotingLaw" 69 yM_value cM_value 2 (some .int) 1 := ⟨sv_tb_t 508 rfl rfl, sv_tb_t 505 rfl rfl, sv_tb_t 506 rfl rfl, sv_tb_t 507 rfl rfl, sv_tb_t 4 rfl rfl, ⟨by decide, by decide, by decide +kernel⟩, by decide⟩
theorem kL_m_value (X : sv_X D cI cZ cN cQ "SliceVotingLaw" cc nL k p R s m args c) (hk : 2 + 1 ≤ k) (hP : sv_mP D cI cZ n qc ad σ mt qm H) {v : Int32} (hn : n ≤ 6) (hl : lv_has ls nL lv) (hc : cells ≤ R.cells) (hs : slots ≤ R.slots) (hcat : (rest.map fun v => v.category).sum ≤ 8) (hd : decode cc pc = .ok (.invokevirtual 69, 3)) (kk : W p l e R s m args below meth c H locs cells slots Q (F0 m (pc + 3) ls (.int (sv_rd n (σ 14) 0 v) :: rest))) : W p l e R s m args below meth c H locs cells slots Q (F0 m pc ls (.int v :: .ref (ad 0) :: rest)) :=
  sv_cV (G := fun H => sv_mP D cI cZ n qc ad σ mt qm H) X okL_M_value (cM_m_value hn) hP (y_rec X.K hP (by decide) sv_me_0 rfl) hk rfl hl.1 rfl hcat hc hs hd kk
set_option maxHeartbeats 4000000 in
set_option maxRecDepth 100000 in
theorem wM_decided (X : sv_X D cI cZ cN cQ "SliceVotingModel" cM_decided 2 2 p R s m args c) (hP : sv_mP D cI cZ n qc ad σ mt qm H) {v : Int32} (hn : n ≤ 6) (hl : lv_has ls 2 [(0, .ref (ad 0)), (1, .int v)]) (ret : ∀ (pc : Nat) (ls : Array Slot), decode cM_decided pc = .ok (.ireturn, 1) → W p l e R s m args below meth c H locs 0 0 Q (F0 m pc ls [.int (sv_rd n (σ 15) (-1) v)])) : W p l e R s m args below meth c H locs 0 0 Q (F0 m 0 ls []) := by
  have hx := X.1
  have hb := X.2.1
  refine lv_aload_n (i := 0) hx hb dM_decided_0 rfl (sv_at hl rfl) ?_
  refine lv_iload_n (i := 1) hx hb dM_decided_1 rfl (sv_at hl rfl) ?_
  refine kM_isNode X (by decide) hP  hl (Nat.zero_le _) (Nat.zero_le _) (Nat.le_of_ble_eq_true rfl) dM_decided_2 ?_
  refine x_ifeqB (tgt := 17) hx hb dM_decided_5 rfl (fun h5 => ?_) (fun h5 => ?_)
  · skip
    refine lv_iconst (v := -1) hx hb dM_decided_17 (by decide) ?_
    first | (have ee : sv_isn n v = false := h5; exact x_tv (by rw [sv_rd_f h5]) (ret _ _ dM_decided_18)) | exact x_tv (by rw [sv_rd_t (by omega) hj]) (ret _ _ dM_decided_18)
  · skip
    obtain ⟨j, hj, rfl⟩ := sv_isn_t (by omega) h5
    refine lv_aload_n (i := 0) hx hb dM_decided_8 rfl (sv_at hl rfl) ?_
    refine gM_decisions X hP dM_decided_9 ?_
    refine lv_iload_n (i := 1) hx hb dM_decided_12 rfl (sv_at hl rfl) ?_
    refine gm_decisions X hP (by omega) dM_decided_13 ?_
    refine lv_goto (tgt := 18) hx hb dM_decided_14 rfl ?_
    first | (have ee : sv_isn n v = false := h5; exact x_tv (by rw [sv_rd_f h5]) (ret _ _ dM_decided_18)) | exact x_tv (by rw [sv_rd_t (by omega) hj]) (ret _ _ dM_decided_18)

theorem cM_m_decided {v : Int32} (hn : n ≤ 6) : Met l yM_decided (sv_ws yM_decided cM_decided 2 (some .int)) (sv_rm 2) (sv_Pc D cI cZ cN cQ [.ref (ad 0), .int v] (fun H => sv_mP D cI cZ n qc ad σ mt qm H)) (vp_Si (fun zz => zz = sv_rd n (σ 15) (-1) v)) 0 0 (fun _ => False) :=
  sv_mkR (by decide) (by show 2 ≤ 2; decide) rfl (fun p e s m below meth c ls Q X hP hl ret => wM_decided X hP hn hl ret)
set_option maxRecDepth 100000 in
theorem okL_M_decided : sv_okV "SliceVotingLaw" 73 yM_decided cM_decided 2 (some .int) 1 := ⟨sv_tb_t 512 rfl rfl, sv_tb_t 509 rfl rfl, sv_tb_t 510 rfl rfl, sv_tb_t 511 rfl rfl, sv_tb_t 4 rfl rfl, ⟨by decide, by decide, by decide +kernel⟩, by decide⟩
theorem kL_m_decided (X : sv_X D cI cZ cN cQ "SliceVotingLaw" cc nL k p R s m args c) (hk : 2 + 1 ≤ k) (hP : sv_mP D cI cZ n qc ad σ mt qm H) {v : Int32} (hn : n ≤ 6) (hl : lv_has ls nL lv) (hc : cells ≤ R.cells) (hs : slots ≤ R.slots) (hcat : (rest.map fun v => v.category).sum ≤ 8) (hd : decode cc pc = .ok (.invokevirtual 73, 3)) (kk : W p l e R s m args below meth c H locs cells slots Q (F0 m (pc + 3) ls (.int (sv_rd n (σ 15) (-1) v) :: rest))) : W p l e R s m args below meth c H locs cells slots Q (F0 m pc ls (.int v :: .ref (ad 0) :: rest)) :=
  sv_cV (G := fun H => sv_mP D cI cZ n qc ad σ mt qm H) X okL_M_decided (cM_m_decided hn) hP (y_rec X.K hP (by decide) sv_me_0 rfl) hk rfl hl.1 rfl hcat hc hs hd kk
set_option maxHeartbeats 4000000 in
set_option maxRecDepth 100000 in
theorem wM_known (X : sv_X D cI cZ cN cQ "SliceVotingModel" cM_known 4 2 p R s m args c) (hP : sv_mP D cI cZ n qc ad σ mt qm H) {v w : Int32} {B : Bool} (hn : n ≤ 6) (hl : lv_has ls 4 [(0, .ref (ad 0)), (1, .int v), (2, .int w), (3, .int (sv_b B))]) (ret : ∀ (pc : Nat) (ls : Array Slot), decode cM_known pc = .ok (.ireturn, 1) → W p l e R s m args below meth c H locs 0 0 Q (F0 m pc ls [.int (sv_knw n σ v w B)])) : W p l e R s m args below meth c H locs 0 0 Q (F0 m 0 ls []) := by
  have hx := X.1
  have hb := X.2.1
  refine lv_aload_n (i := 0) hx hb dM_known_0 rfl (sv_at hl rfl) ?_
  refine lv_iload_n (i := 1) hx hb dM_known_1 rfl (sv_at hl rfl) ?_
  refine kM_isNode X (by decide) hP  hl (Nat.zero_le _) (Nat.zero_le _) (Nat.le_of_ble_eq_true rfl) dM_known_2 ?_
  refine x_ifeqB (tgt := 16) hx hb dM_known_5 rfl (fun h5 => ?_) (fun h5 => ?_)
  · skip
    refine lv_iconst (v := 0) hx hb dM_known_16 (by decide) ?_
    first | (have ee := h19; exact x_tv (by unfold sv_knw; rw [h5, h13, h19, nI_clamp (by omega), nI_clamp (by omega)]; rfl) (ret _ _ dM_known_17)) | (have ee := h13; exact x_tv (by unfold sv_knw; rw [h13, Bool.and_false]; rfl) (ret _ _ dM_known_17)) | exact x_tv (by unfold sv_knw; rw [h5]; rfl) (ret _ _ dM_known_17)
  · skip
    refine lv_aload_n (i := 0) hx hb dM_known_8 rfl (sv_at hl rfl) ?_
    refine lv_iload_n (i := 2) hx hb dM_known_9 rfl (sv_at hl rfl) ?_
    refine kM_isNode X (by decide) hP  hl (Nat.zero_le _) (Nat.zero_le _) (Nat.le_of_ble_eq_true rfl) dM_known_10 ?_
    refine x_ifneB (tgt := 18) hx hb dM_known_13 rfl (fun h13 => ?_) (fun h13 => ?_)
    · skip
      obtain ⟨j, hj, rfl⟩ := sv_isn_t (by omega) h5
      obtain ⟨i, hi, rfl⟩ := sv_isn_t (by omega) h13
      refine lv_iload_n (i := 3) hx hb dM_known_18 rfl (sv_at hl rfl) ?_
      refine x_ifeqB (tgt := 31) hx hb dM_known_19 rfl (fun h19 => ?_) (fun h19 => ?_)
      · skip
        refine lv_aload_n (i := 0) hx hb dM_known_31 rfl (sv_at hl rfl) ?_
        refine lv_iload_n (i := 2) hx hb dM_known_32 rfl (sv_at hl rfl) ?_
        refine lv_iload_n (i := 1) hx hb dM_known_33 rfl (sv_at hl rfl) ?_
        refine kM_votesOf X (by decide) hP (by omega) (by omega) hl (Nat.zero_le _) (Nat.zero_le _) (Nat.le_of_ble_eq_true rfl) dM_known_34 ?_
        first | (have ee := h19; exact x_tv (by unfold sv_knw; rw [h5, h13, h19, nI_clamp (by omega), nI_clamp (by omega)]; rfl) (ret _ _ dM_known_37)) | (have ee := h13; exact x_tv (by unfold sv_knw; rw [h13, Bool.and_false]; rfl) (ret _ _ dM_known_37)) | exact x_tv (by unfold sv_knw; rw [h5]; rfl) (ret _ _ dM_known_37)
      · skip
        refine lv_aload_n (i := 0) hx hb dM_known_22 rfl (sv_at hl rfl) ?_
        refine lv_iload_n (i := 2) hx hb dM_known_23 rfl (sv_at hl rfl) ?_
        refine lv_iload_n (i := 1) hx hb dM_known_24 rfl (sv_at hl rfl) ?_
        refine kM_acceptsOf X (by decide) hP (by omega) (by omega) hl (Nat.zero_le _) (Nat.zero_le _) (Nat.le_of_ble_eq_true rfl) dM_known_25 ?_
        refine lv_goto (tgt := 37) hx hb dM_known_28 rfl ?_
        first | (have ee := h19; exact x_tv (by unfold sv_knw; rw [h5, h13, h19, nI_clamp (by omega), nI_clamp (by omega)]; rfl) (ret _ _ dM_known_37)) | (have ee := h13; exact x_tv (by unfold sv_knw; rw [h13, Bool.and_false]; rfl) (ret _ _ dM_known_37)) | exact x_tv (by unfold sv_knw; rw [h5]; rfl) (ret _ _ dM_known_37)
    · skip
      refine lv_iconst (v := 0) hx hb dM_known_16 (by decide) ?_
      first | (have ee := h19; exact x_tv (by unfold sv_knw; rw [h5, h13, h19, nI_clamp (by omega), nI_clamp (by omega)]; rfl) (ret _ _ dM_known_17)) | (have ee := h13; exact x_tv (by unfold sv_knw; rw [h13, Bool.and_false]; rfl) (ret _ _ dM_known_17)) | exact x_tv (by unfold sv_knw; rw [h5]; rfl) (ret _ _ dM_known_17)

theorem cM_m_known {v w : Int32} {B : Bool} (hn : n ≤ 6) : Met l yM_known (sv_ws yM_known cM_known 4 (some .int)) (sv_rm 2) (sv_Pc D cI cZ cN cQ [.ref (ad 0), .int v, .int w, .int (sv_b B)] (fun H => sv_mP D cI cZ n qc ad σ mt qm H)) (vp_Si (fun zz => zz = sv_knw n σ v w B)) 0 0 (fun _ => False) :=
  sv_mkR (by decide) (by show 4 ≤ 4; decide) rfl (fun p e s m below meth c ls Q X hP hl ret => wM_known X hP hn hl ret)
set_option maxRecDepth 100000 in
theorem okL_M_known : sv_okV "SliceVotingLaw" 78 yM_known cM_known 4 (some .int) 3 := ⟨sv_tb_t 516 rfl rfl, sv_tb_t 513 rfl rfl, sv_tb_t 514 rfl rfl, sv_tb_t 515 rfl rfl, sv_tb_t 4 rfl rfl, ⟨by decide, by decide, by decide +kernel⟩, by decide⟩
theorem kL_m_known (X : sv_X D cI cZ cN cQ "SliceVotingLaw" cc nL k p R s m args c) (hk : 2 + 1 ≤ k) (hP : sv_mP D cI cZ n qc ad σ mt qm H) {v w : Int32} {B : Bool} (hn : n ≤ 6) (hl : lv_has ls nL lv) (hc : cells ≤ R.cells) (hs : slots ≤ R.slots) (hcat : (rest.map fun v => v.category).sum ≤ 8) (hd : decode cc pc = .ok (.invokevirtual 78, 3)) (kk : W p l e R s m args below meth c H locs cells slots Q (F0 m (pc + 3) ls (.int (sv_knw n σ v w B) :: rest))) : W p l e R s m args below meth c H locs cells slots Q (F0 m pc ls (.int (sv_b B) :: .int w :: .int v :: .ref (ad 0) :: rest)) :=
  sv_cV (G := fun H => sv_mP D cI cZ n qc ad σ mt qm H) X okL_M_known (cM_m_known hn) hP (y_rec X.K hP (by decide) sv_me_0 rfl) hk rfl hl.1 rfl hcat hc hs hd kk
end SvModel2
end
section
section SvModel3
variable {p : Program} {l : Launch} {e : Env} {R : Room} {s : State} {m : MethodId} {args : Array Value} {below : List Frame} {meth : Method} {c : Code} {H H0 : Heap} {locs : List Loc} {cells slots : Nat} {Q : State → Prop}
variable {cc : ByteArray} {pc nL k : Nat} {ls : Array Slot} {lv : List (Nat × Value)} {rest : List Value} {D : va_G} {cI cZ cN cQ : ClassId} {n qc : Nat} {ad : Nat → Nat} {σ : Sg} {A : Nat → Prop} {mt qm : Nat → Int32}
theorem sv_bitz {M S v : Nat} (hM : M < 64) (hv : v < 6) : (nI M &&& nI S &&& (1 : Int32) <<< (nI v &&& 31) = 0) ↔ (M &&& S).testBit v = false := by
  rw [sv_pow v (by omega), sv_nand, sv_nand]
  have hl : (M &&& S) &&& 2 ^ v < 64 := Nat.lt_of_le_of_lt Nat.and_le_left (Nat.lt_of_le_of_lt Nat.and_le_left hM)
  rw [← nI_0, nI_eq (by omega) (by decide)]
  constructor
  · intro h
    have h1 : ((M &&& S) &&& 2 ^ v).testBit v = false := by rw [h, Nat.zero_testBit]
    rw [Nat.testBit_and, Nat.testBit_two_pow] at h1
    simpa using h1
  · intro h
    refine Nat.eq_of_testBit_eq fun i => ?_
    rw [Nat.testBit_and, Nat.testBit_two_pow, Nat.zero_testBit]
    by_cases e : v = i
    · subst e; rw [h]; rfl
    · rw [decide_eq_false e, Bool.and_false]
def sv_cq (σ : Sg) (S q i : Nat) : Nat := sv_cnt (fun v => (sv_N (σ 7 q) &&& S).testBit v) 0 i
theorem sv_mtup {mt : Nat → Int32} {σ : Sg} {qc S q : Nat} (h : ∀ i, q < i → i < qc → mt i = sv_b (sv_met σ qc S i)) : ∀ i, q ≤ i → i < qc → upd mt q (sv_b (sv_met σ qc S q)) i = sv_b (sv_met σ qc S i) := by
  intro i h1 h2
  unfold upd
  by_cases e : i = q
  · rw [if_pos e, e]
  · rw [if_neg e]; exact h i (by omega) h2
set_option maxHeartbeats 4000000 in
set_option maxRecDepth 100000 in
theorem wM_meet (X : sv_X D cI cZ cN cQ "SliceVotingModel" cM_meet 5 1 p R s m args c) (hP : sv_mP D cI cZ n qc ad σ mt qm H) (hJ : sv_inj 17 ad) (hA : ∀ k, k < 17 → A (ad k)) (hS : va_S A H0 H locs) {S : Nat} (hI : sv_IQ n qc σ) (hS2 : S < 2 ^ n) (hl : lv_has ls 5 [(0, .ref (ad 0)), (1, .int (nI S))]) (ret : ∀ (pc : Nat) (ls : Array Slot) (H : Heap) (locs : List Loc) (mt' qm' : Nat → Int32), decode cM_meet pc = .ok (.return_, 1) → va_S A H0 H locs → ((∀ q, q < qc → mt' q = sv_b (sv_met σ qc S q)) ∧ qm' = qm) → sv_mP D cI cZ n qc ad (σ) mt' qm' H → W p l e R s m args below meth c H locs 0 0 Q (F0 m pc ls [])) : W p l e R s m args below meth c H locs 0 0 Q (F0 m 0 ls []) := by
  have hx := X.1
  have hb := X.2.1
  have hq24 := hI.2.2.2.1
  have J16 : ∀ (kf : Nat) (q : Nat) (mt : Nat → Int32) (H : Heap) (locs : List Loc) (i : Nat) (ls : Array Slot), 6 - i < kf → (q < qc) → (sv_mP D cI cZ n qc ad σ mt qm H) → (i ≤ 6) → (∀ ls : Array Slot, lv_has ls 5 [(0, .ref (ad 0)), (1, .int (nI S)), (2, .int (nI q)), (3, .int (nI (sv_pc (sv_N (σ 7 q) &&& S)))), (4, .int (nI 6))] → W p l e R s m args below meth c H locs 0 0 Q (F0 m 53 ls [])) → lv_has ls 5 [(0, .ref (ad 0)), (1, .int (nI S)), (2, .int (nI q)), (3, .int (nI (sv_cq σ S q i))), (4, .int (nI i))] → W p l e R s m args below meth c H locs 0 0 Q (F0 m 16 ls []) := by
    intro kf
    induction kf with
    | zero => intro q mt H locs i ls hm; exact absurd hm (Nat.not_lt_zero _)
    | succ kf ih =>
      intro q mt H locs i ls hm hq hP hi hout hl
      have h7q : sv_N (σ 7 q) < 64 := sv_big hI.2.1 (hI.2.2.2.2 q hq).2.2.1
      refine lv_iload (i := 4) hx hb dM_meet_16 (sv_at hl rfl) ?_
      refine lv_bipush (v := nI 6) hx hb dM_meet_18 (by decide) ?_
      refine lv_icmp_ge (tgt := 53) hx hb dM_meet_20 rfl (fun h20 => ?_) (fun h20 => ?_)
      · skip
        rw [nI_leI (by omega) (by omega)] at h20
        obtain rfl : i = 6 := by omega
        exact hout ls (sv_re hl ⟨rfl, rfl, rfl, rfl, rfl, trivial⟩)
      · skip
        rw [nI_leI (by omega) (by omega)] at h20
        refine lv_aload_n (i := 0) hx hb dM_meet_23 rfl (sv_at hl rfl) ?_
        refine gM_members X hP dM_meet_24 ?_
        refine lv_iload_n (i := 2) hx hb dM_meet_27 rfl (sv_at hl rfl) ?_
        refine gm_members X hP (by omega) dM_meet_28 ?_
        refine x_tv (sv_nI_N (σ 7 q)).symm ?_
        refine lv_iload_n (i := 1) hx hb dM_meet_29 rfl (sv_at hl rfl) ?_
        refine lv_iand hx hb dM_meet_30 ?_
        refine lv_iconst (v := 1) hx hb dM_meet_31 (by decide) ?_
        refine lv_iload (i := 4) hx hb dM_meet_32 (sv_at hl rfl) ?_
        refine lv_ishl hx hb dM_meet_34 ?_
        refine lv_iand hx hb dM_meet_35 ?_
        refine lv_if_eq (tgt := 45) hx hb dM_meet_36 rfl (fun h36 => ?_) (fun h36 => ?_)
        · skip
          rw [sv_bitz h7q (by omega)] at h36
          refine lv_iload_n (i := 3) hx hb dM_meet_45 rfl (sv_at hl rfl) ?_
          first | (have ee : (sv_N (σ 7 q) &&& S).testBit i = true := h36; refine x_tv (y := nI (sv_cq σ S q (i + 1))) (by rw [show sv_cq σ S q (i + 1) = sv_cq σ S q i + 1 from sv_cnt_t (Nat.zero_le _) ee]; exact nI_1 _) ?_) | refine x_tv (y := nI (sv_cq σ S q (i + 1))) (by rw [show sv_cq σ S q (i + 1) = sv_cq σ S q i from sv_cnt_f h36]) ?_
          refine lv_istore_n (i := 3) hx hb dM_meet_46 rfl hl (by decide) rfl (fun ls hl => ?_)
          refine x_iinc (i := 4) hx hb dM_meet_47 hl rfl (sv_inc i) (by decide) (fun ls hl => ?_)
          refine lv_goto (tgt := 16) hx hb dM_meet_50 rfl ?_
          exact ih q mt H locs (i + 1) ls (by omega) hq hP (by omega) hout (sv_re hl ⟨rfl, rfl, rfl, rfl, rfl, trivial⟩)
        · skip
          rw [sv_bitz h7q (by omega), Bool.not_eq_false] at h36
          refine lv_iload_n (i := 3) hx hb dM_meet_39 rfl (sv_at hl rfl) ?_
          refine lv_iconst (v := 1) hx hb dM_meet_40 (by decide) ?_
          refine lv_iadd hx hb dM_meet_41 ?_
          refine lv_goto (tgt := 46) hx hb dM_meet_42 rfl ?_
          first | (have ee : (sv_N (σ 7 q) &&& S).testBit i = true := h36; refine x_tv (y := nI (sv_cq σ S q (i + 1))) (by rw [show sv_cq σ S q (i + 1) = sv_cq σ S q i + 1 from sv_cnt_t (Nat.zero_le _) ee]; exact nI_1 _) ?_) | refine x_tv (y := nI (sv_cq σ S q (i + 1))) (by rw [show sv_cq σ S q (i + 1) = sv_cq σ S q i from sv_cnt_f h36]) ?_
          refine lv_istore_n (i := 3) hx hb dM_meet_46 rfl hl (by decide) rfl (fun ls hl => ?_)
          refine x_iinc (i := 4) hx hb dM_meet_47 hl rfl (sv_inc i) (by decide) (fun ls hl => ?_)
          refine lv_goto (tgt := 16) hx hb dM_meet_50 rfl ?_
          exact ih q mt H locs (i + 1) ls (by omega) hq hP (by omega) hout (sv_re hl ⟨rfl, rfl, rfl, rfl, rfl, trivial⟩)
  have J58 : ∀ (kf : Nat) (q : Nat) (mt : Nat → Int32) (H : Heap) (locs : List Loc) (i : Nat) (ls : Array Slot), qc - i < kf → (q < qc) → (sv_mP D cI cZ n qc ad σ mt qm H) → (∀ i, q < i → i < qc → mt i = sv_b (sv_met σ qc S i)) → (q < i) → (i ≤ qc) → (∀ ls : Array Slot, lv_has ls 5 [(0, .ref (ad 0)), (1, .int (nI S)), (2, .int (nI q)), (3, .int (nI (sv_pc (sv_N (σ 7 q) &&& S) + sv_cnt (sv_inn σ (sv_met σ qc S) q) (q + 1) qc))), (4, .int (nI qc))] → W p l e R s m args below meth c H locs 0 0 Q (F0 m 102 ls [])) → lv_has ls 5 [(0, .ref (ad 0)), (1, .int (nI S)), (2, .int (nI q)), (3, .int (nI (sv_pc (sv_N (σ 7 q) &&& S) + sv_cnt (sv_inn σ (sv_met σ qc S) q) (q + 1) i))), (4, .int (nI i))] → W p l e R s m args below meth c H locs 0 0 Q (F0 m 58 ls []) := by
    intro kf
    induction kf with
    | zero => intro q mt H locs i ls hm; exact absurd hm (Nat.not_lt_zero _)
    | succ kf ih =>
      intro q mt H locs i ls hm hq hP hm9 hi1 hi hout hl
      refine lv_iload (i := 4) hx hb dM_meet_58 (sv_at hl rfl) ?_
      refine lv_aload_n (i := 0) hx hb dM_meet_60 rfl (sv_at hl rfl) ?_
      refine gM_quotas X hP dM_meet_61 ?_
      refine lv_icmp_ge (tgt := 102) hx hb dM_meet_64 rfl (fun h64 => ?_) (fun h64 => ?_)
      · skip
        rw [nI_leI (by omega) (by omega)] at h64
        obtain rfl : i = qc := by omega
        exact hout ls (sv_re hl ⟨rfl, rfl, rfl, rfl, rfl, trivial⟩)
      · skip
        rw [nI_leI (by omega) (by omega)] at h64
        refine lv_aload_n (i := 0) hx hb dM_meet_67 rfl (sv_at hl rfl) ?_
        refine gM_around X hP dM_meet_68 ?_
        refine lv_iload (i := 4) hx hb dM_meet_71 (sv_at hl rfl) ?_
        refine gm_around X hP (by omega) dM_meet_73 ?_
        refine lv_iload_n (i := 2) hx hb dM_meet_74 rfl (sv_at hl rfl) ?_
        refine lv_icmp_ne (tgt := 94) hx hb dM_meet_75 rfl (fun h75 => ?_) (fun h75 => ?_)
        · skip
          refine lv_iload_n (i := 3) hx hb dM_meet_94 rfl (sv_at hl rfl) ?_
          first | (have ee : sv_met σ qc S i = true := h85; refine x_tv (y := nI (sv_pc (sv_N (σ 7 q) &&& S) + sv_cnt (sv_inn σ (sv_met σ qc S) q) (q + 1) (i + 1))) (by rw [sv_cnt_t (P := (sv_inn σ (sv_met σ qc S) q)) (lo := q + 1) (by omega) (by unfold sv_inn; rw [h75, ee]; simp)]; exact nI_1 _) ?_) | (have ee : sv_met σ qc S i = false := h85; refine x_tv (y := nI (sv_pc (sv_N (σ 7 q) &&& S) + sv_cnt (sv_inn σ (sv_met σ qc S) q) (q + 1) (i + 1))) (by rw [sv_cnt_f (P := (sv_inn σ (sv_met σ qc S) q)) (by unfold sv_inn; rw [ee, Bool.and_false])]) ?_) | refine x_tv (y := nI (sv_pc (sv_N (σ 7 q) &&& S) + sv_cnt (sv_inn σ (sv_met σ qc S) q) (q + 1) (i + 1))) (by rw [sv_cnt_f (P := (sv_inn σ (sv_met σ qc S) q)) (by unfold sv_inn; rw [show (σ 4 i == nI q) = false from beq_eq_false_iff_ne.mpr h75]; rfl)]) ?_
          refine lv_istore_n (i := 3) hx hb dM_meet_95 rfl hl (by decide) rfl (fun ls hl => ?_)
          refine x_iinc (i := 4) hx hb dM_meet_96 hl rfl (sv_inc i) (by decide) (fun ls hl => ?_)
          refine lv_goto (tgt := 58) hx hb dM_meet_99 rfl ?_
          exact ih q mt H locs (i + 1) ls (by omega) hq hP hm9 (by omega) (by omega) hout (sv_re hl ⟨rfl, rfl, rfl, rfl, rfl, trivial⟩)
        · skip
          refine lv_aload_n (i := 0) hx hb dM_meet_78 rfl (sv_at hl rfl) ?_
          refine gM_met X hP dM_meet_79 ?_
          refine lv_iload (i := 4) hx hb dM_meet_82 (sv_at hl rfl) ?_
          refine gm_met X hP (by omega) dM_meet_84 ?_
          refine x_tv (hm9 i hi1 (by omega)) ?_
          refine x_ifeqB (tgt := 94) hx hb dM_meet_85 rfl (fun h85 => ?_) (fun h85 => ?_)
          · skip
            refine lv_iload_n (i := 3) hx hb dM_meet_94 rfl (sv_at hl rfl) ?_
            first | (have ee : sv_met σ qc S i = true := h85; refine x_tv (y := nI (sv_pc (sv_N (σ 7 q) &&& S) + sv_cnt (sv_inn σ (sv_met σ qc S) q) (q + 1) (i + 1))) (by rw [sv_cnt_t (P := (sv_inn σ (sv_met σ qc S) q)) (lo := q + 1) (by omega) (by unfold sv_inn; rw [h75, ee]; simp)]; exact nI_1 _) ?_) | (have ee : sv_met σ qc S i = false := h85; refine x_tv (y := nI (sv_pc (sv_N (σ 7 q) &&& S) + sv_cnt (sv_inn σ (sv_met σ qc S) q) (q + 1) (i + 1))) (by rw [sv_cnt_f (P := (sv_inn σ (sv_met σ qc S) q)) (by unfold sv_inn; rw [ee, Bool.and_false])]) ?_) | refine x_tv (y := nI (sv_pc (sv_N (σ 7 q) &&& S) + sv_cnt (sv_inn σ (sv_met σ qc S) q) (q + 1) (i + 1))) (by rw [sv_cnt_f (P := (sv_inn σ (sv_met σ qc S) q)) (by unfold sv_inn; rw [show (σ 4 i == nI q) = false from beq_eq_false_iff_ne.mpr h75]; rfl)]) ?_
            refine lv_istore_n (i := 3) hx hb dM_meet_95 rfl hl (by decide) rfl (fun ls hl => ?_)
            refine x_iinc (i := 4) hx hb dM_meet_96 hl rfl (sv_inc i) (by decide) (fun ls hl => ?_)
            refine lv_goto (tgt := 58) hx hb dM_meet_99 rfl ?_
            exact ih q mt H locs (i + 1) ls (by omega) hq hP hm9 (by omega) (by omega) hout (sv_re hl ⟨rfl, rfl, rfl, rfl, rfl, trivial⟩)
          · skip
            refine lv_iload_n (i := 3) hx hb dM_meet_88 rfl (sv_at hl rfl) ?_
            refine lv_iconst (v := 1) hx hb dM_meet_89 (by decide) ?_
            refine lv_iadd hx hb dM_meet_90 ?_
            refine lv_goto (tgt := 95) hx hb dM_meet_91 rfl ?_
            first | (have ee : sv_met σ qc S i = true := h85; refine x_tv (y := nI (sv_pc (sv_N (σ 7 q) &&& S) + sv_cnt (sv_inn σ (sv_met σ qc S) q) (q + 1) (i + 1))) (by rw [sv_cnt_t (P := (sv_inn σ (sv_met σ qc S) q)) (lo := q + 1) (by omega) (by unfold sv_inn; rw [h75, ee]; simp)]; exact nI_1 _) ?_) | (have ee : sv_met σ qc S i = false := h85; refine x_tv (y := nI (sv_pc (sv_N (σ 7 q) &&& S) + sv_cnt (sv_inn σ (sv_met σ qc S) q) (q + 1) (i + 1))) (by rw [sv_cnt_f (P := (sv_inn σ (sv_met σ qc S) q)) (by unfold sv_inn; rw [ee, Bool.and_false])]) ?_) | refine x_tv (y := nI (sv_pc (sv_N (σ 7 q) &&& S) + sv_cnt (sv_inn σ (sv_met σ qc S) q) (q + 1) (i + 1))) (by rw [sv_cnt_f (P := (sv_inn σ (sv_met σ qc S) q)) (by unfold sv_inn; rw [show (σ 4 i == nI q) = false from beq_eq_false_iff_ne.mpr h75]; rfl)]) ?_
            refine lv_istore_n (i := 3) hx hb dM_meet_95 rfl hl (by decide) rfl (fun ls hl => ?_)
            refine x_iinc (i := 4) hx hb dM_meet_96 hl rfl (sv_inc i) (by decide) (fun ls hl => ?_)
            refine lv_goto (tgt := 58) hx hb dM_meet_99 rfl ?_
            exact ih q mt H locs (i + 1) ls (by omega) hq hP hm9 (by omega) (by omega) hout (sv_re hl ⟨rfl, rfl, rfl, rfl, rfl, trivial⟩)
  have J7 : ∀ (kf : Nat) (j : Nat) (mt : Nat → Int32) (H : Heap) (locs : List Loc) (ls : Array Slot), j < kf → (j ≤ qc) → (sv_mP D cI cZ n qc ad σ mt qm H) → (va_S A H0 H locs) → (∀ i, j ≤ i → i < qc → mt i = sv_b (sv_met σ qc S i)) → lv_has ls 5 [(0, .ref (ad 0)), (1, .int (nI S)), (2, .int (nI j - 1))] → W p l e R s m args below meth c H locs 0 0 Q (F0 m 7 ls []) := by
    intro kf
    induction kf with
    | zero => intro j mt H locs ls hm; exact absurd hm (Nat.not_lt_zero _)
    | succ kf ih =>
      intro j mt H locs ls hm hj hP hS hm9 hl
      refine lv_iload_n (i := 2) hx hb dM_meet_7 rfl (sv_at hl rfl) ?_
      refine lv_if_lt (tgt := 129) hx hb dM_meet_8 rfl (fun h8 => ?_) (fun h8 => ?_)
      · skip
        rw [sv_m1lt (by omega)] at h8
        subst h8
        exact ret _ _ _ _ _ _ dM_meet_129 hS ⟨fun q h => hm9 q (Nat.zero_le _) h, rfl⟩ hP
      · skip
        rw [sv_m1lt (by omega)] at h8
        obtain ⟨q, rfl⟩ : ∃ q, j = q + 1 := ⟨j - 1, by omega⟩
        rw [nI_pred] at hl
        have hq : q < qc := by omega
        have hm9 : ∀ i, q < i → i < qc → mt i = sv_b (sv_met σ qc S i) := fun i a b => hm9 i (by omega) b
        refine lv_iconst (v := 0) hx hb dM_meet_11 (by decide) ?_
        refine lv_istore_n (i := 3) hx hb dM_meet_12 rfl hl (by decide) rfl (fun ls hl => ?_)
        refine lv_iconst (v := 0) hx hb dM_meet_13 (by decide) ?_
        refine lv_istore (i := 4) hx hb dM_meet_14 hl (by decide) rfl (fun ls hl => ?_)
        refine J16 _ q mt H locs 0 ls (Nat.lt_succ_self _) hq hP (Nat.zero_le _) (fun ls hl => ?_) (sv_re hl ⟨rfl, rfl, rfl, rfl, rfl, trivial⟩)
        refine lv_iload_n (i := 2) hx hb dM_meet_53 rfl (sv_at hl rfl) ?_
        refine lv_iconst (v := 1) hx hb dM_meet_54 (by decide) ?_
        refine lv_iadd hx hb dM_meet_55 ?_
        refine x_tv (nI_1 q) ?_
        refine lv_istore (i := 4) hx hb dM_meet_56 hl (by decide) rfl (fun ls hl => ?_)
        refine J58 _ q mt H locs (q + 1) ls (Nat.lt_succ_self _) hq hP hm9 (by omega) (by omega) (fun ls hl => ?_) (sv_re hl ⟨rfl, rfl, rfl, by rw [sv_cnt_lo _ (Nat.le_refl _)]; rfl, rfl, trivial⟩)
        refine lv_aload_n (i := 0) hx hb dM_meet_102 rfl (sv_at hl rfl) ?_
        refine gM_met X hP dM_meet_103 ?_
        refine lv_iload_n (i := 2) hx hb dM_meet_106 rfl (sv_at hl rfl) ?_
        refine lv_iload_n (i := 3) hx hb dM_meet_107 rfl (sv_at hl rfl) ?_
        refine lv_aload_n (i := 0) hx hb dM_meet_108 rfl (sv_at hl rfl) ?_
        refine gM_need X hP dM_meet_109 ?_
        refine lv_iload_n (i := 2) hx hb dM_meet_112 rfl (sv_at hl rfl) ?_
        refine gm_need X hP (by omega) dM_meet_113 ?_
        refine lv_icmp_lt (tgt := 121) hx hb dM_meet_114 rfl (fun h114 => ?_) (fun h114 => ?_)
        · skip
          refine lv_iconst (v := 0) hx hb dM_meet_121 (by decide) ?_
          first | (have ee : nI (sv_pc (sv_N (σ 7 q) &&& S) + sv_cnt (sv_inn σ (sv_met σ qc S) q) (q + 1) qc) < σ 6 q := h114; refine x_tv (y := sv_b (sv_met σ qc S q)) (by rw [sv_met_eq σ S hq, decide_eq_false (Int32.not_le.mpr ee)]; rfl) ?_) | refine x_tv (y := sv_b (sv_met σ qc S q)) (by rw [sv_met_eq σ S hq, decide_eq_true (Int32.not_lt.mp h114)]; rfl) ?_
          refine pm_met X hP hJ hA hS (by omega) dM_meet_122 (fun H locs hP hS => ?_)
          refine x_iinc (i := 2) hx hb dM_meet_123 hl rfl (sv_dec1 q) (by decide) (fun ls hl => ?_)
          refine lv_goto (tgt := 7) hx hb dM_meet_126 rfl ?_
          exact ih q _ H locs ls (by omega) (by omega) hP hS (sv_mtup (fun i a b => hm9 i (by omega) b)) (sv_re hl ⟨rfl, rfl, rfl, trivial⟩)
        · skip
          refine lv_iconst (v := 1) hx hb dM_meet_117 (by decide) ?_
          refine lv_goto (tgt := 122) hx hb dM_meet_118 rfl ?_
          first | (have ee : nI (sv_pc (sv_N (σ 7 q) &&& S) + sv_cnt (sv_inn σ (sv_met σ qc S) q) (q + 1) qc) < σ 6 q := h114; refine x_tv (y := sv_b (sv_met σ qc S q)) (by rw [sv_met_eq σ S hq, decide_eq_false (Int32.not_le.mpr ee)]; rfl) ?_) | refine x_tv (y := sv_b (sv_met σ qc S q)) (by rw [sv_met_eq σ S hq, decide_eq_true (Int32.not_lt.mp h114)]; rfl) ?_
          refine pm_met X hP hJ hA hS (by omega) dM_meet_122 (fun H locs hP hS => ?_)
          refine x_iinc (i := 2) hx hb dM_meet_123 hl rfl (sv_dec1 q) (by decide) (fun ls hl => ?_)
          refine lv_goto (tgt := 7) hx hb dM_meet_126 rfl ?_
          exact ih q _ H locs ls (by omega) (by omega) hP hS (sv_mtup (fun i a b => hm9 i (by omega) b)) (sv_re hl ⟨rfl, rfl, rfl, trivial⟩)
  refine lv_aload_n (i := 0) hx hb dM_meet_0 rfl (sv_at hl rfl) ?_
  refine gM_quotas X hP dM_meet_1 ?_
  refine lv_iconst (v := 1) hx hb dM_meet_4 (by decide) ?_
  refine lv_isub hx hb dM_meet_5 ?_
  refine lv_istore_n (i := 2) hx hb dM_meet_6 rfl hl (by decide) rfl (fun ls hl => ?_)
  exact J7 _ qc mt H locs ls (Nat.lt_succ_self _) (Nat.le_refl _) hP hS (fun i a b => by omega) (sv_re hl ⟨rfl, rfl, rfl, trivial⟩)

theorem cM_m_meet (hJ : sv_inj 17 ad) (hA : ∀ k, k < 17 → A (ad k)) {S : Nat} (hI : sv_IQ n qc σ) (hS2 : S < 2 ^ n) : Met l yM_meet (sv_ws yM_meet cM_meet 5 none) (sv_rm 1) (sv_Pc D cI cZ cN cQ [.ref (ad 0), .int (nI S)] (fun H => sv_mP D cI cZ n qc ad σ mt qm H)) (va_Qv (fun u : Sg × (Nat → Int32) × (Nat → Int32) => u.1 = σ ∧ ((∀ q, q < qc → u.2.1 q = sv_b (sv_met σ qc S q)) ∧ u.2.2 = qm)) (fun u t => sv_mP D cI cZ n qc ad u.1 u.2.1 u.2.2 t.heap) A) 0 0 A :=
  sv_mkV (S := Sg × (Nat → Int32) × (Nat → Int32)) (B := fun u H => sv_mP D cI cZ n qc ad u.1 u.2.1 u.2.2 H) (by decide) (by show 2 ≤ 5; decide) (fun p e s m below meth c ls Q X hP hl ret => wM_meet X hP hJ hA va_S.rf hI hS2 hl (fun pc ls H locs mt' qm' hd hS hX hP => ret pc ls (_, mt', qm') H locs hd hS ⟨rfl, hX⟩ hP))
set_option maxRecDepth 100000 in
theorem okM_M_meet : sv_okV "SliceVotingModel" 81 yM_meet cM_meet 5 none 1 := ⟨sv_tb_t 398 rfl rfl, sv_tb_t 395 rfl rfl, sv_tb_t 397 rfl rfl, sv_tb_s 20 rfl rfl, sv_tb_t 4 rfl rfl, ⟨by decide, by decide, by decide +kernel⟩, by decide⟩
theorem kM_meet (X : sv_X D cI cZ cN cQ "SliceVotingModel" cc nL k p R s m args c) (hk : 1 + 1 ≤ k) (hP : sv_mP D cI cZ n qc ad σ mt qm H) (hJ : sv_inj 17 ad) (hA : ∀ k, k < 17 → A (ad k)) (hS : va_S A H0 H locs) {S : Nat} (hI : sv_IQ n qc σ) (hS2 : S < 2 ^ n) (hl : lv_has ls nL lv) (hc : cells ≤ R.cells) (hs : slots ≤ R.slots) (hcat : (rest.map fun v => v.category).sum ≤ 8) (hd : decode cc pc = .ok (.invokevirtual 81, 3)) (kk : ∀ (H1 : Heap) (locs1 : List Loc) (mt' qm' : Nat → Int32), ((∀ q, q < qc → mt' q = sv_b (sv_met σ qc S q)) ∧ qm' = qm) → sv_mP D cI cZ n qc ad (σ) mt' qm' H1 → va_S A H0 H1 locs1 → W p l e R s m args below meth c H1 locs1 cells slots Q (F0 m (pc + 3) ls rest)) : W p l e R s m args below meth c H locs cells slots Q (F0 m pc ls (.int (nI S) :: .ref (ad 0) :: rest)) :=
  sv_wVv (S := Sg × (Nat → Int32) × (Nat → Int32)) (G := fun H => sv_mP D cI cZ n qc ad σ mt qm H) (B := fun u H => sv_mP D cI cZ n qc ad u.1 u.2.1 u.2.2 H) X okM_M_meet (cM_m_meet hJ hA hI hS2) hP (y_rec X.K hP (by decide) sv_me_0 rfl) hS hk rfl hl.1 rfl hcat hc hs hd (fun u H1 locs1 hp hB hS => by obtain ⟨τ, a, b⟩ := u; obtain ⟨h1, h2⟩ := hp; dsimp only at h1 h2 hB; subst h1; exact kk H1 locs1 a b h2 hB hS)
end SvModel3
end
section
section SvModel4
variable {p : Program} {l : Launch} {e : Env} {R : Room} {s : State} {m : MethodId} {args : Array Value} {below : List Frame} {meth : Method} {c : Code} {H H0 : Heap} {locs : List Loc} {cells slots : Nat} {Q : State → Prop}
variable {cc : ByteArray} {pc nL k : Nat} {ls : Array Slot} {lv : List (Nat × Value)} {rest : List Value} {D : va_G} {cI cZ cN cQ : ClassId} {n qc : Nat} {ad : Nat → Nat} {σ : Sg} {A : Nat → Prop} {mt qm : Nat → Int32}
theorem sv_oI_ne {o : Option Nat} (h : ¬ sv_oI o = -1) : ∃ t, o = some t := by
  cases o with
  | none => exact absurd rfl h
  | some t => exact ⟨t, rfl⟩
theorem sv_oI_eq {o : Option Nat} (hq : ∀ t, o = some t → t < 24) (h : sv_oI o = -1) : o = none := by
  cases o with
  | none => rfl
  | some t =>
    have h0 := nI_pos (n := t) (by have := hq t rfl; omega)
    have h1 : nI t = -1 := h
    rw [h1] at h0
    exact absurd (by decide) h0
def sv_Pq (σ : Sg) (qc S v : Nat) : Bool := !S.testBit v || sv_sat σ qc S v
theorem sv_quo_P {σ : Sg} {n qc S : Nat} (h : S ≠ 0) : sv_quo σ n qc S = sv_all (sv_Pq σ qc S) n := by
  unfold sv_quo
  rw [decide_eq_true h]
  rfl
theorem sv_all_s (P : Nat → Bool) (k : Nat) : sv_all P (k + 1) = (sv_all P k && P k) := rfl
theorem sv_sat_n {σ : Sg} {qc S v : Nat} (h : sv_top σ qc v = none) : sv_sat σ qc S v = false := by unfold sv_sat; rw [h]
theorem sv_sat_s {σ : Sg} {qc S v t : Nat} (h : sv_top σ qc v = some t) : sv_sat σ qc S v = sv_met σ qc S t := by unfold sv_sat; rw [h]
theorem sv_p2m1 : ∀ n, n ≤ 6 → (1 : Int32) <<< (nI n &&& 31) - 1 = nI (2 ^ n - 1) := by decide +kernel
set_option maxHeartbeats 4000000 in
set_option maxRecDepth 100000 in
theorem wM_quorum_J (X : sv_X D cI cZ cN cQ "SliceVotingModel" cM_quorum 5 2 p R s m args c) (hJ : sv_inj 17 ad) (hA : ∀ k, k < 17 → A (ad k)) (hn : n ≤ 6) (hI : sv_IQ n qc σ) {S : Nat} (hS2 : S < 2 ^ n) (h0 : S ≠ 0) (ret : ∀ (pc : Nat) (ls : Array Slot) (H : Heap) (locs : List Loc) (mt' qm' : Nat → Int32), decode cM_quorum pc = .ok (.ireturn, 1) → va_S A H0 H locs → qm' = qm → sv_mP D cI cZ n qc ad σ mt' qm' H → W p l e R s m args below meth c H locs 0 0 Q (F0 m pc ls [.int (sv_b (sv_quo σ n qc S))])) : ∀ (kf i : Nat) (mt : Nat → Int32) (H : Heap) (locs : List Loc) (ls : Array Slot), n - i < kf → i ≤ n → (∀ q, q < qc → mt q = sv_b (sv_met σ qc S q)) → sv_mP D cI cZ n qc ad σ mt qm H → va_S A H0 H locs → lv_has ls 5 [(0, .ref (ad 0)), (1, .int (nI S)), (2, .int (sv_b (sv_all (sv_Pq σ qc S) i))), (3, .int (nI i))] → W p l e R s m args below meth c H locs 0 0 Q (F0 m 23 ls []) := by
  have hx := X.1
  have hb := X.2.1
  have hq24 := hI.2.2.2.1
  intro kf
  induction kf with
  | zero => intro i mt H locs ls hm; exact absurd hm (Nat.not_lt_zero _)
  | succ kf ih =>
    intro i mt H locs ls hm hi hX hP hS hl
    refine lv_iload_n (i := 3) hx hb dM_quorum_23 rfl (sv_at hl rfl) ?_
    refine lv_aload_n (i := 0) hx hb dM_quorum_24 rfl (sv_at hl rfl) ?_
    refine gM_nodes X hP dM_quorum_25 ?_
    refine lv_icmp_ge (tgt := 79) hx hb dM_quorum_28 rfl (fun h28 => ?_) (fun h28 => ?_)
    · skip
      rw [nI_leI (by omega) (by omega)] at h28
      obtain rfl : i = n := by omega
      refine lv_iload_n (i := 2) hx hb dM_quorum_79 rfl (sv_at hl rfl) ?_
      exact x_tv (by rw [sv_quo_P h0]) (ret _ _ _ _ _ _ dM_quorum_80 hS rfl hP)
    · skip
      rw [nI_leI (by omega) (by omega)] at h28
      refine lv_iload_n (i := 1) hx hb dM_quorum_31 rfl (sv_at hl rfl) ?_
      refine lv_iload_n (i := 3) hx hb dM_quorum_32 rfl (sv_at hl rfl) ?_
      refine lv_ishr hx hb dM_quorum_33 ?_
      refine lv_iconst (v := 1) hx hb dM_quorum_34 (by decide) ?_
      refine lv_iand hx hb dM_quorum_35 ?_
      refine x_tv (sv_shr1 _ (by omega)) ?_
      rw [sv_bt_nI (by have := sv_big hn hS2; omega)]
      refine lv_iconst (v := 1) hx hb dM_quorum_36 (by decide) ?_
      refine lv_icmp_ne (tgt := 73) hx hb dM_quorum_37 rfl (fun h37 => ?_) (fun h37 => ?_)
      · skip
        rw [sv_bn1] at h37
        rw [show sv_all (sv_Pq σ qc S) i = sv_all (sv_Pq σ qc S) (i + 1) by rw [sv_all_s]; unfold sv_Pq; rw [h37]; simp] at hl
        refine x_iinc (i := 3) hx hb dM_quorum_73 hl rfl (sv_inc i) (by decide) (fun ls hl => ?_)
        refine lv_goto (tgt := 23) hx hb dM_quorum_76 rfl ?_
        exact ih (i + 1) mt H locs ls (by omega) (by omega) hX hP hS (sv_re hl ⟨rfl, rfl, rfl, rfl, trivial⟩)
      · skip
        rw [sv_b1] at h37
        refine lv_aload_n (i := 0) hx hb dM_quorum_40 rfl (sv_at hl rfl) ?_
        refine lv_iload_n (i := 3) hx hb dM_quorum_41 rfl (sv_at hl rfl) ?_
        refine kM_top X (by decide) hP hq24 hl (Nat.zero_le _) (Nat.zero_le _) (Nat.le_of_ble_eq_true rfl) dM_quorum_42 ?_
        refine lv_istore (i := 4) hx hb dM_quorum_45 hl (by decide) rfl (fun ls hl => ?_)
        refine lv_iload_n (i := 2) hx hb dM_quorum_47 rfl (sv_at hl rfl) ?_
        refine x_ifeqB (tgt := 71) hx hb dM_quorum_48 rfl (fun h48 => ?_) (fun h48 => ?_)
        · skip
          refine lv_iconst (v := 0) hx hb dM_quorum_71 (by decide) ?_
          refine x_tv (y := sv_b (sv_all (sv_Pq σ qc S) (i + 1))) (by rw [sv_all_s]; first | (have ee := h64; rw [h48]; unfold sv_Pq; rw [h37, sv_sat_s et, h64]; rfl) | (have ee := et; rw [h48]; unfold sv_Pq; rw [h37, sv_sat_n et]; rfl) | (rw [h48]; rfl)) ?_
          refine lv_istore_n (i := 2) hx hb dM_quorum_72 rfl hl (by decide) rfl (fun ls hl => ?_)
          refine x_iinc (i := 3) hx hb dM_quorum_73 hl rfl (sv_inc i) (by decide) (fun ls hl => ?_)
          refine lv_goto (tgt := 23) hx hb dM_quorum_76 rfl ?_
          exact ih (i + 1) mt H locs ls (by omega) (by omega) hX hP hS (sv_re hl ⟨rfl, rfl, rfl, rfl, trivial⟩)
        · skip
          refine lv_iload (i := 4) hx hb dM_quorum_51 (sv_at hl rfl) ?_
          refine lv_iconst (v := -1) hx hb dM_quorum_53 (by decide) ?_
          refine lv_icmp_eq (tgt := 71) hx hb dM_quorum_54 rfl (fun h54 => ?_) (fun h54 => ?_)
          · skip
            have et := sv_oI_eq (fun t ht => by have := sv_top_lt ht; omega) h54
            refine lv_iconst (v := 0) hx hb dM_quorum_71 (by decide) ?_
            refine x_tv (y := sv_b (sv_all (sv_Pq σ qc S) (i + 1))) (by rw [sv_all_s]; first | (have ee := h64; rw [h48]; unfold sv_Pq; rw [h37, sv_sat_s et, h64]; rfl) | (have ee := et; rw [h48]; unfold sv_Pq; rw [h37, sv_sat_n et]; rfl) | (rw [h48]; rfl)) ?_
            refine lv_istore_n (i := 2) hx hb dM_quorum_72 rfl hl (by decide) rfl (fun ls hl => ?_)
            refine x_iinc (i := 3) hx hb dM_quorum_73 hl rfl (sv_inc i) (by decide) (fun ls hl => ?_)
            refine lv_goto (tgt := 23) hx hb dM_quorum_76 rfl ?_
            exact ih (i + 1) mt H locs ls (by omega) (by omega) hX hP hS (sv_re hl ⟨rfl, rfl, rfl, rfl, trivial⟩)
          · skip
            obtain ⟨t, et⟩ := sv_oI_ne h54
            have ht := sv_top_lt et
            rw [et] at hl
            refine lv_aload_n (i := 0) hx hb dM_quorum_57 rfl (sv_at hl rfl) ?_
            refine gM_met X hP dM_quorum_58 ?_
            refine lv_iload (i := 4) hx hb dM_quorum_61 (sv_at hl rfl) ?_
            refine x_tv (y := nI t) rfl ?_
            refine gm_met X hP (by omega) dM_quorum_63 ?_
            refine x_tv (hX t ht) ?_
            refine x_ifeqB (tgt := 71) hx hb dM_quorum_64 rfl (fun h64 => ?_) (fun h64 => ?_)
            · skip
              refine lv_iconst (v := 0) hx hb dM_quorum_71 (by decide) ?_
              refine x_tv (y := sv_b (sv_all (sv_Pq σ qc S) (i + 1))) (by rw [sv_all_s]; first | (have ee := h64; rw [h48]; unfold sv_Pq; rw [h37, sv_sat_s et, h64]; rfl) | (have ee := et; rw [h48]; unfold sv_Pq; rw [h37, sv_sat_n et]; rfl) | (rw [h48]; rfl)) ?_
              refine lv_istore_n (i := 2) hx hb dM_quorum_72 rfl hl (by decide) rfl (fun ls hl => ?_)
              refine x_iinc (i := 3) hx hb dM_quorum_73 hl rfl (sv_inc i) (by decide) (fun ls hl => ?_)
              refine lv_goto (tgt := 23) hx hb dM_quorum_76 rfl ?_
              exact ih (i + 1) mt H locs ls (by omega) (by omega) hX hP hS (sv_re hl ⟨rfl, rfl, rfl, rfl, trivial⟩)
            · skip
              refine lv_iconst (v := 1) hx hb dM_quorum_67 (by decide) ?_
              refine lv_goto (tgt := 72) hx hb dM_quorum_68 rfl ?_
              refine x_tv (y := sv_b (sv_all (sv_Pq σ qc S) (i + 1))) (by rw [sv_all_s]; first | (have ee := h64; rw [h48]; unfold sv_Pq; rw [h37, sv_sat_s et, h64]; rfl) | (have ee := et; rw [h48]; unfold sv_Pq; rw [h37, sv_sat_n et]; rfl) | (rw [h48]; rfl)) ?_
              refine lv_istore_n (i := 2) hx hb dM_quorum_72 rfl hl (by decide) rfl (fun ls hl => ?_)
              refine x_iinc (i := 3) hx hb dM_quorum_73 hl rfl (sv_inc i) (by decide) (fun ls hl => ?_)
              refine lv_goto (tgt := 23) hx hb dM_quorum_76 rfl ?_
              exact ih (i + 1) mt H locs ls (by omega) (by omega) hX hP hS (sv_re hl ⟨rfl, rfl, rfl, rfl, trivial⟩)

set_option maxHeartbeats 4000000 in
set_option maxRecDepth 100000 in
theorem wM_quorum (X : sv_X D cI cZ cN cQ "SliceVotingModel" cM_quorum 5 2 p R s m args c) (hP : sv_mP D cI cZ n qc ad σ mt qm H) (hJ : sv_inj 17 ad) (hA : ∀ k, k < 17 → A (ad k)) (hS : va_S A H0 H locs) {x : Int32} (hn : n ≤ 6) (hI : sv_IQ n qc σ) (hl : lv_has ls 5 [(0, .ref (ad 0)), (1, .int x)]) (ret : ∀ (pc : Nat) (ls : Array Slot) (H : Heap) (locs : List Loc) (mt' qm' : Nat → Int32), decode cM_quorum pc = .ok (.ireturn, 1) → va_S A H0 H locs → (qm' = qm) → sv_mP D cI cZ n qc ad (σ) mt' qm' H → W p l e R s m args below meth c H locs 0 0 Q (F0 m pc ls [.int (sv_b (decide (sv_N x < 2 ^ n) && sv_quo σ n qc (sv_N x)))])) : W p l e R s m args below meth c H locs 0 0 Q (F0 m 0 ls []) := by
  have hx := X.1
  have hb := X.2.1
  refine lv_aload_n (i := 0) hx hb dM_quorum_0 rfl (sv_at hl rfl) ?_
  refine lv_iload_n (i := 1) hx hb dM_quorum_1 rfl (sv_at hl rfl) ?_
  refine kM_isSet X (by decide) hP hn hl (Nat.zero_le _) (Nat.zero_le _) (Nat.le_of_ble_eq_true rfl) dM_quorum_2 ?_
  refine x_ifeqB (tgt := 12) hx hb dM_quorum_5 rfl (fun h5 => ?_) (fun h5 => ?_)
  · skip
    refine lv_iconst (v := 0) hx hb dM_quorum_12 (by decide) ?_
    first | (have ee := h9; exact x_tv (by rw [show S = 0 from (nI_eq (b := 0) (by have := sv_big hn hS2; omega) (by decide)).mp ee]; rfl) (ret _ _ _ _ _ _ dM_quorum_13 hS rfl hP)) | exact x_tv (by rw [h5]; rfl) (ret _ _ _ _ _ _ dM_quorum_13 hS rfl hP)
  · skip
    obtain ⟨S, hS2, rfl⟩ := sv_set_of h5
    rw [sv_N_of hn hS2, decide_eq_true hS2, Bool.true_and] at ret
    refine lv_iload_n (i := 1) hx hb dM_quorum_8 rfl (sv_at hl rfl) ?_
    refine lv_if_ne (tgt := 14) hx hb dM_quorum_9 rfl (fun h9 => ?_) (fun h9 => ?_)
    · skip
      refine lv_aload_n (i := 0) hx hb dM_quorum_14 rfl (sv_at hl rfl) ?_
      refine lv_iload_n (i := 1) hx hb dM_quorum_15 rfl (sv_at hl rfl) ?_
      refine kM_meet X (by decide) hP hJ hA hS hI hS2 hl (Nat.zero_le _) (Nat.zero_le _) (Nat.le_of_ble_eq_true rfl) dM_quorum_16 (fun H locs mt qm hX hP hS => ?_)
      refine lv_iconst (v := 1) hx hb dM_quorum_19 (by decide) ?_
      refine lv_istore_n (i := 2) hx hb dM_quorum_20 rfl hl (by decide) rfl (fun ls hl => ?_)
      refine lv_iconst (v := 0) hx hb dM_quorum_21 (by decide) ?_
      refine lv_istore_n (i := 3) hx hb dM_quorum_22 rfl hl (by decide) rfl (fun ls hl => ?_)
      rw [hX.2] at hP
      exact wM_quorum_J X hJ hA hn hI hS2 (fun q => h9 (by rw [q]; rfl)) ret _ 0 mt H locs ls (Nat.lt_succ_self _) (Nat.zero_le _) hX.1 hP hS (sv_re hl ⟨rfl, rfl, rfl, rfl, trivial⟩)
    · skip
      refine lv_iconst (v := 0) hx hb dM_quorum_12 (by decide) ?_
      first | (have ee := h9; exact x_tv (by rw [show S = 0 from (nI_eq (b := 0) (by have := sv_big hn hS2; omega) (by decide)).mp ee]; rfl) (ret _ _ _ _ _ _ dM_quorum_13 hS rfl hP)) | exact x_tv (by rw [h5]; rfl) (ret _ _ _ _ _ _ dM_quorum_13 hS rfl hP)

theorem cM_m_quorum (hJ : sv_inj 17 ad) (hA : ∀ k, k < 17 → A (ad k)) {x : Int32} (hn : n ≤ 6) (hI : sv_IQ n qc σ) : Met l yM_quorum (sv_ws yM_quorum cM_quorum 5 (some .boolean)) (sv_rm 2) (sv_Pc D cI cZ cN cQ [.ref (ad 0), .int x] (fun H => sv_mP D cI cZ n qc ad σ mt qm H)) (va_Qi (fun (r : Int32) (u : Sg × (Nat → Int32) × (Nat → Int32)) => r = sv_b (decide (sv_N x < 2 ^ n) && sv_quo σ n qc (sv_N x)) ∧ u.1 = σ ∧ (u.2.2 = qm)) (fun u t => sv_mP D cI cZ n qc ad u.1 u.2.1 u.2.2 t.heap) A) 0 0 A :=
  sv_mkI (S := Sg × (Nat → Int32) × (Nat → Int32)) (B := fun u H => sv_mP D cI cZ n qc ad u.1 u.2.1 u.2.2 H) (by decide) (by show 2 ≤ 5; decide) (fun _ _ h => by rw [h.1]; exact sv_narb _) (fun p e s m below meth c ls Q X hP hl ret => wM_quorum X hP hJ hA va_S.rf hn hI hl (fun pc ls H locs mt' qm' hd hS hX hP => ret pc ls _ (_, mt', qm') H locs hd hS ⟨rfl, rfl, hX⟩ hP))
set_option maxRecDepth 100000 in
theorem okM_M_quorum : sv_okV "SliceVotingModel" 85 yM_quorum cM_quorum 5 (some .boolean) 1 := ⟨sv_tb_t 390 rfl rfl, sv_tb_t 403 rfl rfl, sv_tb_t 388 rfl rfl, sv_tb_t 389 rfl rfl, sv_tb_t 4 rfl rfl, ⟨by decide, by decide, by decide +kernel⟩, by decide⟩
theorem kM_quorum (X : sv_X D cI cZ cN cQ "SliceVotingModel" cc nL k p R s m args c) (hk : 2 + 1 ≤ k) (hP : sv_mP D cI cZ n qc ad σ mt qm H) (hJ : sv_inj 17 ad) (hA : ∀ k, k < 17 → A (ad k)) (hS : va_S A H0 H locs) {x : Int32} (hn : n ≤ 6) (hI : sv_IQ n qc σ) (hl : lv_has ls nL lv) (hc : cells ≤ R.cells) (hs : slots ≤ R.slots) (hcat : (rest.map fun v => v.category).sum ≤ 8) (hd : decode cc pc = .ok (.invokevirtual 85, 3)) (kk : ∀ (H1 : Heap) (locs1 : List Loc) (mt' qm' : Nat → Int32), (qm' = qm) → sv_mP D cI cZ n qc ad (σ) mt' qm' H1 → va_S A H0 H1 locs1 → W p l e R s m args below meth c H1 locs1 cells slots Q (F0 m (pc + 3) ls (.int (sv_b (decide (sv_N x < 2 ^ n) && sv_quo σ n qc (sv_N x))) :: rest))) : W p l e R s m args below meth c H locs cells slots Q (F0 m pc ls (.int x :: .ref (ad 0) :: rest)) :=
  sv_wVi (S := Sg × (Nat → Int32) × (Nat → Int32)) (G := fun H => sv_mP D cI cZ n qc ad σ mt qm H) (B := fun u H => sv_mP D cI cZ n qc ad u.1 u.2.1 u.2.2 H) X okM_M_quorum (cM_m_quorum hJ hA hn hI) hP (y_rec X.K hP (by decide) sv_me_0 rfl) hS hk rfl hl.1 rfl hcat hc hs hd (fun r u H1 locs1 hp hB hS => by obtain ⟨τ, a, b⟩ := u; obtain ⟨rfl, h1, h2⟩ := hp; dsimp only at h1 h2 hB; subst h1; exact kk H1 locs1 a b h2 hB hS)
theorem sv_orr_t {P : Nat → Bool} {k : Nat} (h : P k = true) : sv_orr P (k + 1) = sv_orr P k ||| k := by simp [sv_orr, h]
theorem sv_orr_f {P : Nat → Bool} {k : Nat} (h : P k = false) : sv_orr P (k + 1) = sv_orr P k := by simp [sv_orr, h]
theorem sv_orr_1 (P : Nat → Bool) : sv_orr P 1 = 0 := by
  show (bif P 0 then sv_orr P 0 ||| 0 else sv_orr P 0) = 0
  cases P 0 <;> simp [sv_orr]
theorem sv_quoN {σ : Sg} {n qc i : Nat} (hn : n ≤ 6) (h : i < 2 ^ n) : (decide (sv_N (nI i) < 2 ^ n) && sv_quo σ n qc (sv_N (nI i))) = sv_quo σ n qc i := by
  rw [sv_N_of hn h, decide_eq_true h]
  rfl
set_option maxHeartbeats 4000000 in
set_option maxRecDepth 100000 in
theorem wM_largest_J (X : sv_X D cI cZ cN cQ "SliceVotingModel" cM_largest 4 3 p R s m args c) (hJ : sv_inj 17 ad) (hA : ∀ k, k < 17 → A (ad k)) (hn : n ≤ 6) (hI : sv_IQ n qc σ) {S : Nat} (ret : ∀ (pc : Nat) (ls : Array Slot) (H : Heap) (locs : List Loc) (mt' qm' : Nat → Int32), decode cM_largest pc = .ok (.ireturn, 1) → va_S A H0 H locs → qm' = qm → sv_mP D cI cZ n qc ad σ mt' qm' H → W p l e R s m args below meth c H locs 0 0 Q (F0 m pc ls [.int (nI (sv_un σ n qc S))])) : ∀ (kf i : Nat) (mt : Nat → Int32) (H : Heap) (locs : List Loc) (ls : Array Slot), 2 ^ n - i < kf → 1 ≤ i → i ≤ 2 ^ n → sv_mP D cI cZ n qc ad σ mt qm H → va_S A H0 H locs → lv_has ls 4 [(0, .ref (ad 0)), (1, .int (nI S)), (2, .int (nI (sv_orr (fun q => decide (q &&& S = q) && sv_quo σ n qc q) i))), (3, .int (nI i))] → W p l e R s m args below meth c H locs 0 0 Q (F0 m 14 ls []) := by
  have hx := X.1
  have hb := X.2.1
  have h64 := sv_p2_64 hn
  intro kf
  induction kf with
  | zero => intro i mt H locs ls hm; exact absurd hm (Nat.not_lt_zero _)
  | succ kf ih =>
    intro i mt H locs ls hm hi1 hi hP hS hl
    refine lv_iload_n (i := 3) hx hb dM_largest_14 rfl (sv_at hl rfl) ?_
    refine lv_iconst (v := 1) hx hb dM_largest_15 (by decide) ?_
    refine lv_aload_n (i := 0) hx hb dM_largest_16 rfl (sv_at hl rfl) ?_
    refine gM_nodes X hP dM_largest_17 ?_
    refine lv_ishl hx hb dM_largest_20 ?_
    refine x_tv (sv_pow n (by omega)) ?_
    refine lv_icmp_ge (tgt := 50) hx hb dM_largest_21 rfl (fun h21 => ?_) (fun h21 => ?_)
    · skip
      rw [nI_leI (by omega) (by omega)] at h21
      obtain rfl : i = 2 ^ n := by omega
      refine lv_iload_n (i := 2) hx hb dM_largest_50 rfl (sv_at hl rfl) ?_
      exact ret _ _ _ _ _ _ dM_largest_51 hS rfl hP
    · skip
      rw [nI_leI (by omega) (by omega)] at h21
      have hi64 : i < 64 := by omega
      have hi2 : i < 2 ^ n := by omega
      refine lv_iload_n (i := 3) hx hb dM_largest_24 rfl (sv_at hl rfl) ?_
      refine lv_iload_n (i := 1) hx hb dM_largest_25 rfl (sv_at hl rfl) ?_
      refine lv_iconst (v := -1) hx hb dM_largest_26 (by decide) ?_
      refine lv_ixor hx hb dM_largest_27 ?_
      refine lv_iand hx hb dM_largest_28 ?_
      refine lv_if_ne (tgt := 44) hx hb dM_largest_29 rfl (fun h29 => ?_) (fun h29 => ?_)
      · skip
        rw [sv_andz hi64] at h29
        rw [show sv_orr (fun q => decide (q &&& S = q) && sv_quo σ n qc q) i = sv_orr (fun q => decide (q &&& S = q) && sv_quo σ n qc q) (i + 1) from (sv_orr_f (by rw [decide_eq_false h29]; rfl)).symm] at hl
        refine x_iinc (i := 3) hx hb dM_largest_44 hl rfl (sv_inc i) (by decide) (fun ls hl => ?_)
        refine lv_goto (tgt := 14) hx hb dM_largest_47 rfl ?_
        exact ih (i + 1) mt H locs ls (by omega) (by omega) (by omega) hP hS (sv_re hl ⟨rfl, rfl, rfl, rfl, trivial⟩)
      · skip
        rw [sv_andz hi64] at h29
        refine lv_aload_n (i := 0) hx hb dM_largest_32 rfl (sv_at hl rfl) ?_
        refine lv_iload_n (i := 3) hx hb dM_largest_33 rfl (sv_at hl rfl) ?_
        refine kM_quorum X (by decide) hP hJ hA hS hn hI hl (Nat.zero_le _) (Nat.zero_le _) (Nat.le_of_ble_eq_true rfl) dM_largest_34 (fun H locs mt qm hX hP hS => ?_)
        rw [sv_quoN hn hi2]
        rw [hX] at hP
        refine x_ifeqB (tgt := 44) hx hb dM_largest_37 rfl (fun h37 => ?_) (fun h37 => ?_)
        · skip
          rw [show sv_orr (fun q => decide (q &&& S = q) && sv_quo σ n qc q) i = sv_orr (fun q => decide (q &&& S = q) && sv_quo σ n qc q) (i + 1) from (sv_orr_f (by rw [h37, Bool.and_false])).symm] at hl
          refine x_iinc (i := 3) hx hb dM_largest_44 hl rfl (sv_inc i) (by decide) (fun ls hl => ?_)
          refine lv_goto (tgt := 14) hx hb dM_largest_47 rfl ?_
          exact ih (i + 1) mt H locs ls (by omega) (by omega) (by omega) hP hS (sv_re hl ⟨rfl, rfl, rfl, rfl, trivial⟩)
        · skip
          refine lv_iload_n (i := 2) hx hb dM_largest_40 rfl (sv_at hl rfl) ?_
          refine lv_iload_n (i := 3) hx hb dM_largest_41 rfl (sv_at hl rfl) ?_
          refine lv_ior hx hb dM_largest_42 ?_
          refine x_tv (y := nI (sv_orr (fun q => decide (q &&& S = q) && sv_quo σ n qc q) (i + 1))) (by rw [sv_nor, sv_orr_t (P := (fun q => decide (q &&& S = q) && sv_quo σ n qc q)) (by rw [decide_eq_true h29, h37]; rfl)]) ?_
          refine lv_istore_n (i := 2) hx hb dM_largest_43 rfl hl (by decide) rfl (fun ls hl => ?_)
          refine x_iinc (i := 3) hx hb dM_largest_44 hl rfl (sv_inc i) (by decide) (fun ls hl => ?_)
          refine lv_goto (tgt := 14) hx hb dM_largest_47 rfl ?_
          exact ih (i + 1) mt H locs ls (by omega) (by omega) (by omega) hP hS (sv_re hl ⟨rfl, rfl, rfl, rfl, trivial⟩)

set_option maxHeartbeats 4000000 in
set_option maxRecDepth 100000 in
theorem wM_largest (X : sv_X D cI cZ cN cQ "SliceVotingModel" cM_largest 4 3 p R s m args c) (hP : sv_mP D cI cZ n qc ad σ mt qm H) (hJ : sv_inj 17 ad) (hA : ∀ k, k < 17 → A (ad k)) (hS : va_S A H0 H locs) {x : Int32} (hn : n ≤ 6) (hI : sv_IQ n qc σ) (hl : lv_has ls 4 [(0, .ref (ad 0)), (1, .int x)]) (ret : ∀ (pc : Nat) (ls : Array Slot) (H : Heap) (locs : List Loc) (mt' qm' : Nat → Int32), decode cM_largest pc = .ok (.ireturn, 1) → va_S A H0 H locs → (qm' = qm) → sv_mP D cI cZ n qc ad (σ) mt' qm' H → W p l e R s m args below meth c H locs 0 0 Q (F0 m pc ls [.int ((bif decide (sv_N x < 2 ^ n) then nI (sv_un σ n qc (sv_N x)) else -1))])) : W p l e R s m args below meth c H locs 0 0 Q (F0 m 0 ls []) := by
  have hx := X.1
  have hb := X.2.1
  refine lv_aload_n (i := 0) hx hb dM_largest_0 rfl (sv_at hl rfl) ?_
  refine lv_iload_n (i := 1) hx hb dM_largest_1 rfl (sv_at hl rfl) ?_
  refine kM_isSet X (by decide) hP hn hl (Nat.zero_le _) (Nat.zero_le _) (Nat.le_of_ble_eq_true rfl) dM_largest_2 ?_
  refine x_ifneB (tgt := 10) hx hb dM_largest_5 rfl (fun h5 => ?_) (fun h5 => ?_)
  · skip
    obtain ⟨S, hS2, rfl⟩ := sv_set_of h5
    rw [sv_N_of hn hS2, decide_eq_true hS2] at ret
    dsimp only [cond_true] at ret
    refine lv_iconst (v := 0) hx hb dM_largest_10 (by decide) ?_
    refine lv_istore_n (i := 2) hx hb dM_largest_11 rfl hl (by decide) rfl (fun ls hl => ?_)
    refine lv_iconst (v := 1) hx hb dM_largest_12 (by decide) ?_
    refine lv_istore_n (i := 3) hx hb dM_largest_13 rfl hl (by decide) rfl (fun ls hl => ?_)
    exact wM_largest_J X hJ hA hn hI ret _ 1 mt H locs ls (Nat.lt_succ_self _) (by decide) Nat.one_le_two_pow hP hS (sv_re hl ⟨rfl, rfl, by rw [sv_orr_1]; rfl, rfl, trivial⟩)
  · skip
    refine lv_iconst (v := -1) hx hb dM_largest_8 (by decide) ?_
    exact x_tv (by rw [h5]; rfl) (ret _ _ _ _ _ _ dM_largest_9 hS rfl hP)

theorem cM_m_largest (hJ : sv_inj 17 ad) (hA : ∀ k, k < 17 → A (ad k)) {x : Int32} (hn : n ≤ 6) (hI : sv_IQ n qc σ) : Met l yM_largest (sv_ws yM_largest cM_largest 4 (some .int)) (sv_rm 3) (sv_Pc D cI cZ cN cQ [.ref (ad 0), .int x] (fun H => sv_mP D cI cZ n qc ad σ mt qm H)) (va_Qi (fun (r : Int32) (u : Sg × (Nat → Int32) × (Nat → Int32)) => r = (bif decide (sv_N x < 2 ^ n) then nI (sv_un σ n qc (sv_N x)) else -1) ∧ u.1 = σ ∧ (u.2.2 = qm)) (fun u t => sv_mP D cI cZ n qc ad u.1 u.2.1 u.2.2 t.heap) A) 0 0 A :=
  sv_mkI (S := Sg × (Nat → Int32) × (Nat → Int32)) (B := fun u H => sv_mP D cI cZ n qc ad u.1 u.2.1 u.2.2 H) (by decide) (by show 2 ≤ 4; decide) (fun _ _ _ => rfl) (fun p e s m below meth c ls Q X hP hl ret => wM_largest X hP hJ hA va_S.rf hn hI hl (fun pc ls H locs mt' qm' hd hS hX hP => ret pc ls _ (_, mt', qm') H locs hd hS ⟨rfl, rfl, hX⟩ hP))
set_option maxRecDepth 100000 in
theorem okL_M_largest : sv_okV "SliceVotingLaw" 86 yM_largest cM_largest 4 (some .int) 1 := ⟨sv_tb_t 402 rfl rfl, sv_tb_t 399 rfl rfl, sv_tb_t 400 rfl rfl, sv_tb_t 401 rfl rfl, sv_tb_t 4 rfl rfl, ⟨by decide, by decide, by decide +kernel⟩, by decide⟩
theorem kL_m_largest (X : sv_X D cI cZ cN cQ "SliceVotingLaw" cc nL k p R s m args c) (hk : 3 + 1 ≤ k) (hP : sv_mP D cI cZ n qc ad σ mt qm H) (hJ : sv_inj 17 ad) (hA : ∀ k, k < 17 → A (ad k)) (hS : va_S A H0 H locs) {x : Int32} (hn : n ≤ 6) (hI : sv_IQ n qc σ) (hl : lv_has ls nL lv) (hc : cells ≤ R.cells) (hs : slots ≤ R.slots) (hcat : (rest.map fun v => v.category).sum ≤ 8) (hd : decode cc pc = .ok (.invokevirtual 86, 3)) (kk : ∀ (H1 : Heap) (locs1 : List Loc) (mt' qm' : Nat → Int32), (qm' = qm) → sv_mP D cI cZ n qc ad (σ) mt' qm' H1 → va_S A H0 H1 locs1 → W p l e R s m args below meth c H1 locs1 cells slots Q (F0 m (pc + 3) ls (.int ((bif decide (sv_N x < 2 ^ n) then nI (sv_un σ n qc (sv_N x)) else -1)) :: rest))) : W p l e R s m args below meth c H locs cells slots Q (F0 m pc ls (.int x :: .ref (ad 0) :: rest)) :=
  sv_wVi (S := Sg × (Nat → Int32) × (Nat → Int32)) (G := fun H => sv_mP D cI cZ n qc ad σ mt qm H) (B := fun u H => sv_mP D cI cZ n qc ad u.1 u.2.1 u.2.2 H) X okL_M_largest (cM_m_largest hJ hA hn hI) hP (y_rec X.K hP (by decide) sv_me_0 rfl) hS hk rfl hl.1 rfl hcat hc hs hd (fun r u H1 locs1 hp hB hS => by obtain ⟨τ, a, b⟩ := u; obtain ⟨rfl, h1, h2⟩ := hp; dsimp only at h1 h2 hB; subst h1; exact kk H1 locs1 a b h2 hB hS)
set_option maxHeartbeats 4000000 in
set_option maxRecDepth 100000 in
theorem wM_stops (X : sv_X D cI cZ cN cQ "SliceVotingModel" cM_stops 4 2 p R s m args c) (hP : sv_mP D cI cZ n qc ad σ mt qm H) (hJ : sv_inj 17 ad) (hA : ∀ k, k < 17 → A (ad k)) (hS : va_S A H0 H locs) {S v : Nat} (hn : n ≤ 6) (hI : sv_IQ n qc σ) (hS2 : S < 2 ^ n) (hl : lv_has ls 4 [(0, .ref (ad 0)), (1, .int (nI S)), (2, .int (nI v))]) (ret : ∀ (pc : Nat) (ls : Array Slot) (H : Heap) (locs : List Loc) (mt' qm' : Nat → Int32), decode cM_stops pc = .ok (.ireturn, 1) → va_S A H0 H locs → (qm' = qm) → sv_mP D cI cZ n qc ad (σ) mt' qm' H → W p l e R s m args below meth c H locs 0 0 Q (F0 m pc ls [.int (sv_b (sv_blk σ n qc S v))])) : W p l e R s m args below meth c H locs 0 0 Q (F0 m 0 ls []) := by
  have hx := X.1
  have hb := X.2.1
  have hq24 := hI.2.2.2.1
  refine lv_aload_n (i := 0) hx hb dM_stops_0 rfl (sv_at hl rfl) ?_
  refine lv_iload_n (i := 2) hx hb dM_stops_1 rfl (sv_at hl rfl) ?_
  refine kM_top X (by decide) hP hq24 hl (Nat.zero_le _) (Nat.zero_le _) (Nat.le_of_ble_eq_true rfl) dM_stops_2 ?_
  refine lv_istore_n (i := 3) hx hb dM_stops_5 rfl hl (by decide) rfl (fun ls hl => ?_)
  refine lv_aload_n (i := 0) hx hb dM_stops_6 rfl (sv_at hl rfl) ?_
  refine lv_iconst (v := 1) hx hb dM_stops_7 (by decide) ?_
  refine lv_aload_n (i := 0) hx hb dM_stops_8 rfl (sv_at hl rfl) ?_
  refine gM_nodes X hP dM_stops_9 ?_
  refine lv_ishl hx hb dM_stops_12 ?_
  refine lv_iconst (v := 1) hx hb dM_stops_13 (by decide) ?_
  refine lv_isub hx hb dM_stops_14 ?_
  refine x_tv (sv_p2m1 n hn) ?_
  refine lv_iload_n (i := 1) hx hb dM_stops_15 rfl (sv_at hl rfl) ?_
  refine lv_iconst (v := -1) hx hb dM_stops_16 (by decide) ?_
  refine lv_ixor hx hb dM_stops_17 ?_
  refine lv_iand hx hb dM_stops_18 ?_
  refine x_tv (sv_compl hS2) ?_
  refine kM_meet X (by decide) hP hJ hA hS hI (sv_co_lt hS2) hl (Nat.zero_le _) (Nat.zero_le _) (Nat.le_of_ble_eq_true rfl) dM_stops_19 (fun H locs mt qm hX hP hS => ?_)
  refine lv_iload_n (i := 3) hx hb dM_stops_22 rfl (sv_at hl rfl) ?_
  refine lv_iconst (v := -1) hx hb dM_stops_23 (by decide) ?_
  refine lv_icmp_eq (tgt := 40) hx hb dM_stops_24 rfl (fun h24 => ?_) (fun h24 => ?_)
  · skip
    have et := sv_oI_eq (fun t ht => by have := sv_top_lt ht; omega) h24
    refine lv_iconst (v := 0) hx hb dM_stops_40 (by decide) ?_
    first | (have ee := h33; exact x_tv (by unfold sv_blk; rw [et]; dsimp only; rw [h33]; rfl) (ret _ _ _ _ _ _ dM_stops_41 hS hX.2 hP)) | exact x_tv (by unfold sv_blk; rw [et]; rfl) (ret _ _ _ _ _ _ dM_stops_41 hS hX.2 hP)
  · skip
    obtain ⟨t, et⟩ := sv_oI_ne h24
    have ht := sv_top_lt et
    rw [et] at hl
    refine lv_aload_n (i := 0) hx hb dM_stops_27 rfl (sv_at hl rfl) ?_
    refine gM_met X hP dM_stops_28 ?_
    refine lv_iload_n (i := 3) hx hb dM_stops_31 rfl (sv_at hl rfl) ?_
    refine x_tv (y := nI t) rfl ?_
    refine gm_met X hP (by omega) dM_stops_32 ?_
    refine x_tv (hX.1 t ht) ?_
    refine x_ifneB (tgt := 40) hx hb dM_stops_33 rfl (fun h33 => ?_) (fun h33 => ?_)
    · skip
      refine lv_iconst (v := 0) hx hb dM_stops_40 (by decide) ?_
      first | (have ee := h33; exact x_tv (by unfold sv_blk; rw [et]; dsimp only; rw [h33]; rfl) (ret _ _ _ _ _ _ dM_stops_41 hS hX.2 hP)) | exact x_tv (by unfold sv_blk; rw [et]; rfl) (ret _ _ _ _ _ _ dM_stops_41 hS hX.2 hP)
    · skip
      refine lv_iconst (v := 1) hx hb dM_stops_36 (by decide) ?_
      refine lv_goto (tgt := 41) hx hb dM_stops_37 rfl ?_
      first | (have ee := h33; exact x_tv (by unfold sv_blk; rw [et]; dsimp only; rw [h33]; rfl) (ret _ _ _ _ _ _ dM_stops_41 hS hX.2 hP)) | exact x_tv (by unfold sv_blk; rw [et]; rfl) (ret _ _ _ _ _ _ dM_stops_41 hS hX.2 hP)

theorem cM_m_stops (hJ : sv_inj 17 ad) (hA : ∀ k, k < 17 → A (ad k)) {S v : Nat} (hn : n ≤ 6) (hI : sv_IQ n qc σ) (hS2 : S < 2 ^ n) : Met l yM_stops (sv_ws yM_stops cM_stops 4 (some .boolean)) (sv_rm 2) (sv_Pc D cI cZ cN cQ [.ref (ad 0), .int (nI S), .int (nI v)] (fun H => sv_mP D cI cZ n qc ad σ mt qm H)) (va_Qi (fun (r : Int32) (u : Sg × (Nat → Int32) × (Nat → Int32)) => r = sv_b (sv_blk σ n qc S v) ∧ u.1 = σ ∧ (u.2.2 = qm)) (fun u t => sv_mP D cI cZ n qc ad u.1 u.2.1 u.2.2 t.heap) A) 0 0 A :=
  sv_mkI (S := Sg × (Nat → Int32) × (Nat → Int32)) (B := fun u H => sv_mP D cI cZ n qc ad u.1 u.2.1 u.2.2 H) (by decide) (by show 3 ≤ 4; decide) (fun _ _ h => by rw [h.1]; exact sv_narb _) (fun p e s m below meth c ls Q X hP hl ret => wM_stops X hP hJ hA va_S.rf hn hI hS2 hl (fun pc ls H locs mt' qm' hd hS hX hP => ret pc ls _ (_, mt', qm') H locs hd hS ⟨rfl, rfl, hX⟩ hP))
set_option maxRecDepth 100000 in
theorem okM_M_stops : sv_okV "SliceVotingModel" 88 yM_stops cM_stops 4 (some .boolean) 2 := ⟨sv_tb_t 411 rfl rfl, sv_tb_t 408 rfl rfl, sv_tb_t 410 rfl rfl, sv_tb_s 21 rfl rfl, sv_tb_t 4 rfl rfl, ⟨by decide, by decide, by decide +kernel⟩, by decide⟩
theorem kM_stops (X : sv_X D cI cZ cN cQ "SliceVotingModel" cc nL k p R s m args c) (hk : 2 + 1 ≤ k) (hP : sv_mP D cI cZ n qc ad σ mt qm H) (hJ : sv_inj 17 ad) (hA : ∀ k, k < 17 → A (ad k)) (hS : va_S A H0 H locs) {S v : Nat} (hn : n ≤ 6) (hI : sv_IQ n qc σ) (hS2 : S < 2 ^ n) (hl : lv_has ls nL lv) (hc : cells ≤ R.cells) (hs : slots ≤ R.slots) (hcat : (rest.map fun v => v.category).sum ≤ 8) (hd : decode cc pc = .ok (.invokevirtual 88, 3)) (kk : ∀ (H1 : Heap) (locs1 : List Loc) (mt' qm' : Nat → Int32), (qm' = qm) → sv_mP D cI cZ n qc ad (σ) mt' qm' H1 → va_S A H0 H1 locs1 → W p l e R s m args below meth c H1 locs1 cells slots Q (F0 m (pc + 3) ls (.int (sv_b (sv_blk σ n qc S v)) :: rest))) : W p l e R s m args below meth c H locs cells slots Q (F0 m pc ls (.int (nI v) :: .int (nI S) :: .ref (ad 0) :: rest)) :=
  sv_wVi (S := Sg × (Nat → Int32) × (Nat → Int32)) (G := fun H => sv_mP D cI cZ n qc ad σ mt qm H) (B := fun u H => sv_mP D cI cZ n qc ad u.1 u.2.1 u.2.2 H) X okM_M_stops (cM_m_stops hJ hA hn hI hS2) hP (y_rec X.K hP (by decide) sv_me_0 rfl) hS hk rfl hl.1 rfl hcat hc hs hd (fun r u H1 locs1 hp hB hS => by obtain ⟨τ, a, b⟩ := u; obtain ⟨rfl, h1, h2⟩ := hp; dsimp only at h1 h2 hB; subst h1; exact kk H1 locs1 a b h2 hB hS)
set_option maxHeartbeats 4000000 in
set_option maxRecDepth 100000 in
theorem wM_blocks (X : sv_X D cI cZ cN cQ "SliceVotingModel" cM_blocks 3 3 p R s m args c) (hP : sv_mP D cI cZ n qc ad σ mt qm H) (hJ : sv_inj 17 ad) (hA : ∀ k, k < 17 → A (ad k)) (hS : va_S A H0 H locs) {x v : Int32} (hn : n ≤ 6) (hI : sv_IQ n qc σ) (hl : lv_has ls 3 [(0, .ref (ad 0)), (1, .int x), (2, .int v)]) (ret : ∀ (pc : Nat) (ls : Array Slot) (H : Heap) (locs : List Loc) (mt' qm' : Nat → Int32), decode cM_blocks pc = .ok (.ireturn, 1) → va_S A H0 H locs → (qm' = qm) → sv_mP D cI cZ n qc ad (σ) mt' qm' H → W p l e R s m args below meth c H locs 0 0 Q (F0 m pc ls [.int (sv_b (decide (sv_N x < 2 ^ n) && (sv_isn n v && sv_blk σ n qc (sv_N x) v.toNatClampNeg)))])) : W p l e R s m args below meth c H locs 0 0 Q (F0 m 0 ls []) := by
  have hx := X.1
  have hb := X.2.1
  refine lv_aload_n (i := 0) hx hb dM_blocks_0 rfl (sv_at hl rfl) ?_
  refine lv_iload_n (i := 2) hx hb dM_blocks_1 rfl (sv_at hl rfl) ?_
  refine kM_isNode X (by decide) hP  hl (Nat.zero_le _) (Nat.zero_le _) (Nat.le_of_ble_eq_true rfl) dM_blocks_2 ?_
  refine x_ifeqB (tgt := 29) hx hb dM_blocks_5 rfl (fun h5 => ?_) (fun h5 => ?_)
  · skip
    refine lv_iconst (v := 0) hx hb dM_blocks_29 (by decide) ?_
    first | (have ee := h22; exact x_tv (by rw [decide_eq_true hS2, h5, h22]; rfl) (ret _ _ _ _ _ _ dM_blocks_30 hS hX hP)) | (have ee := h13; exact x_tv (by rw [h13]; rfl) (ret _ _ _ _ _ _ dM_blocks_30 hS rfl hP)) | exact x_tv (by rw [h5, Bool.false_and, Bool.and_false]; rfl) (ret _ _ _ _ _ _ dM_blocks_30 hS rfl hP)
  · skip
    obtain ⟨j, hj, rfl⟩ := sv_isn_t (by omega) h5
    rw [nI_clamp (by omega)] at ret
    refine lv_aload_n (i := 0) hx hb dM_blocks_8 rfl (sv_at hl rfl) ?_
    refine lv_iload_n (i := 1) hx hb dM_blocks_9 rfl (sv_at hl rfl) ?_
    refine kM_isSet X (by decide) hP hn hl (Nat.zero_le _) (Nat.zero_le _) (Nat.le_of_ble_eq_true rfl) dM_blocks_10 ?_
    refine x_ifeqB (tgt := 29) hx hb dM_blocks_13 rfl (fun h13 => ?_) (fun h13 => ?_)
    · skip
      refine lv_iconst (v := 0) hx hb dM_blocks_29 (by decide) ?_
      first | (have ee := h22; exact x_tv (by rw [decide_eq_true hS2, h5, h22]; rfl) (ret _ _ _ _ _ _ dM_blocks_30 hS hX hP)) | (have ee := h13; exact x_tv (by rw [h13]; rfl) (ret _ _ _ _ _ _ dM_blocks_30 hS rfl hP)) | exact x_tv (by rw [h5, Bool.false_and, Bool.and_false]; rfl) (ret _ _ _ _ _ _ dM_blocks_30 hS rfl hP)
    · skip
      obtain ⟨S, hS2, rfl⟩ := sv_set_of h13
      rw [sv_N_of hn hS2] at ret
      refine lv_aload_n (i := 0) hx hb dM_blocks_16 rfl (sv_at hl rfl) ?_
      refine lv_iload_n (i := 1) hx hb dM_blocks_17 rfl (sv_at hl rfl) ?_
      refine lv_iload_n (i := 2) hx hb dM_blocks_18 rfl (sv_at hl rfl) ?_
      refine kM_stops X (by decide) hP hJ hA hS hn hI hS2 hl (Nat.zero_le _) (Nat.zero_le _) (Nat.le_of_ble_eq_true rfl) dM_blocks_19 (fun H locs mt qm hX hP hS => ?_)
      refine x_ifeqB (tgt := 29) hx hb dM_blocks_22 rfl (fun h22 => ?_) (fun h22 => ?_)
      · skip
        refine lv_iconst (v := 0) hx hb dM_blocks_29 (by decide) ?_
        first | (have ee := h22; exact x_tv (by rw [decide_eq_true hS2, h5, h22]; rfl) (ret _ _ _ _ _ _ dM_blocks_30 hS hX hP)) | (have ee := h13; exact x_tv (by rw [h13]; rfl) (ret _ _ _ _ _ _ dM_blocks_30 hS rfl hP)) | exact x_tv (by rw [h5, Bool.false_and, Bool.and_false]; rfl) (ret _ _ _ _ _ _ dM_blocks_30 hS rfl hP)
      · skip
        refine lv_iconst (v := 1) hx hb dM_blocks_25 (by decide) ?_
        refine lv_goto (tgt := 30) hx hb dM_blocks_26 rfl ?_
        first | (have ee := h22; exact x_tv (by rw [decide_eq_true hS2, h5, h22]; rfl) (ret _ _ _ _ _ _ dM_blocks_30 hS hX hP)) | (have ee := h13; exact x_tv (by rw [h13]; rfl) (ret _ _ _ _ _ _ dM_blocks_30 hS rfl hP)) | exact x_tv (by rw [h5, Bool.false_and, Bool.and_false]; rfl) (ret _ _ _ _ _ _ dM_blocks_30 hS rfl hP)

theorem cM_m_blocks (hJ : sv_inj 17 ad) (hA : ∀ k, k < 17 → A (ad k)) {x v : Int32} (hn : n ≤ 6) (hI : sv_IQ n qc σ) : Met l yM_blocks (sv_ws yM_blocks cM_blocks 3 (some .boolean)) (sv_rm 3) (sv_Pc D cI cZ cN cQ [.ref (ad 0), .int x, .int v] (fun H => sv_mP D cI cZ n qc ad σ mt qm H)) (va_Qi (fun (r : Int32) (u : Sg × (Nat → Int32) × (Nat → Int32)) => r = sv_b (decide (sv_N x < 2 ^ n) && (sv_isn n v && sv_blk σ n qc (sv_N x) v.toNatClampNeg)) ∧ u.1 = σ ∧ (u.2.2 = qm)) (fun u t => sv_mP D cI cZ n qc ad u.1 u.2.1 u.2.2 t.heap) A) 0 0 A :=
  sv_mkI (S := Sg × (Nat → Int32) × (Nat → Int32)) (B := fun u H => sv_mP D cI cZ n qc ad u.1 u.2.1 u.2.2 H) (by decide) (by show 3 ≤ 3; decide) (fun _ _ h => by rw [h.1]; exact sv_narb _) (fun p e s m below meth c ls Q X hP hl ret => wM_blocks X hP hJ hA va_S.rf hn hI hl (fun pc ls H locs mt' qm' hd hS hX hP => ret pc ls _ (_, mt', qm') H locs hd hS ⟨rfl, rfl, hX⟩ hP))
set_option maxRecDepth 100000 in
theorem okL_M_blocks : sv_okV "SliceVotingLaw" 90 yM_blocks cM_blocks 3 (some .boolean) 2 := ⟨sv_tb_t 407 rfl rfl, sv_tb_t 404 rfl rfl, sv_tb_t 405 rfl rfl, sv_tb_t 406 rfl rfl, sv_tb_t 4 rfl rfl, ⟨by decide, by decide, by decide +kernel⟩, by decide⟩
theorem kL_m_blocks (X : sv_X D cI cZ cN cQ "SliceVotingLaw" cc nL k p R s m args c) (hk : 3 + 1 ≤ k) (hP : sv_mP D cI cZ n qc ad σ mt qm H) (hJ : sv_inj 17 ad) (hA : ∀ k, k < 17 → A (ad k)) (hS : va_S A H0 H locs) {x v : Int32} (hn : n ≤ 6) (hI : sv_IQ n qc σ) (hl : lv_has ls nL lv) (hc : cells ≤ R.cells) (hs : slots ≤ R.slots) (hcat : (rest.map fun v => v.category).sum ≤ 8) (hd : decode cc pc = .ok (.invokevirtual 90, 3)) (kk : ∀ (H1 : Heap) (locs1 : List Loc) (mt' qm' : Nat → Int32), (qm' = qm) → sv_mP D cI cZ n qc ad (σ) mt' qm' H1 → va_S A H0 H1 locs1 → W p l e R s m args below meth c H1 locs1 cells slots Q (F0 m (pc + 3) ls (.int (sv_b (decide (sv_N x < 2 ^ n) && (sv_isn n v && sv_blk σ n qc (sv_N x) v.toNatClampNeg))) :: rest))) : W p l e R s m args below meth c H locs cells slots Q (F0 m pc ls (.int v :: .int x :: .ref (ad 0) :: rest)) :=
  sv_wVi (S := Sg × (Nat → Int32) × (Nat → Int32)) (G := fun H => sv_mP D cI cZ n qc ad σ mt qm H) (B := fun u H => sv_mP D cI cZ n qc ad u.1 u.2.1 u.2.2 H) X okL_M_blocks (cM_m_blocks hJ hA hn hI) hP (y_rec X.K hP (by decide) sv_me_0 rfl) hS hk rfl hl.1 rfl hcat hc hs hd (fun r u H1 locs1 hp hB hS => by obtain ⟨τ, a, b⟩ := u; obtain ⟨rfl, h1, h2⟩ := hp; dsimp only at h1 h2 hB; subst h1; exact kk H1 locs1 a b h2 hB hS)
theorem sv_qmup {qm : Nat → Int32} {σ : Sg} {n qc i : Nat} (h : ∀ q, q < i → qm q = sv_b (sv_quo σ n qc q)) : ∀ q, q < i + 1 → upd qm i (sv_b (sv_quo σ n qc i)) q = sv_b (sv_quo σ n qc q) := by
  intro q hq
  unfold upd
  by_cases e : q = i
  · rw [if_pos e, e]
  · rw [if_neg e]; exact h q (by omega)
set_option maxHeartbeats 4000000 in
set_option maxRecDepth 100000 in
theorem wM_tryAll (X : sv_X D cI cZ cN cQ "SliceVotingModel" cM_tryAll 2 3 p R s m args c) (hP : sv_mP D cI cZ n qc ad σ mt qm H) (hJ : sv_inj 17 ad) (hA : ∀ k, k < 17 → A (ad k)) (hS : va_S A H0 H locs)  (hn : n ≤ 6) (hI : sv_IQ n qc σ) (hl : lv_has ls 2 [(0, .ref (ad 0))]) (ret : ∀ (pc : Nat) (ls : Array Slot) (H : Heap) (locs : List Loc) (mt' qm' : Nat → Int32), decode cM_tryAll pc = .ok (.return_, 1) → va_S A H0 H locs → (∀ q, q < 2 ^ n → qm' q = sv_b (sv_quo σ n qc q)) → sv_mP D cI cZ n qc ad (σ) mt' qm' H → W p l e R s m args below meth c H locs 0 0 Q (F0 m pc ls [])) : W p l e R s m args below meth c H locs 0 0 Q (F0 m 0 ls []) := by
  have hx := X.1
  have hb := X.2.1
  have h64 := sv_p2_64 hn
  have J2 : ∀ (kf : Nat) (i : Nat) (mt : Nat → Int32) (qm : Nat → Int32) (H : Heap) (locs : List Loc) (ls : Array Slot), 2 ^ n - i < kf → (i ≤ 2 ^ n) → (∀ q, q < i → qm q = sv_b (sv_quo σ n qc q)) → (sv_mP D cI cZ n qc ad σ mt qm H) → (va_S A H0 H locs) → lv_has ls 2 [(0, .ref (ad 0)), (1, .int (nI i))] → W p l e R s m args below meth c H locs 0 0 Q (F0 m 2 ls []) := by
    intro kf
    induction kf with
    | zero => intro i mt qm H locs ls hm; exact absurd hm (Nat.not_lt_zero _)
    | succ kf ih =>
      intro i mt qm H locs ls hm hi hq9 hP hS hl
      refine lv_iload_n (i := 1) hx hb dM_tryAll_2 rfl (sv_at hl rfl) ?_
      refine lv_iconst (v := 1) hx hb dM_tryAll_3 (by decide) ?_
      refine lv_aload_n (i := 0) hx hb dM_tryAll_4 rfl (sv_at hl rfl) ?_
      refine gM_nodes X hP dM_tryAll_5 ?_
      refine lv_ishl hx hb dM_tryAll_8 ?_
      refine x_tv (sv_pow n (by omega)) ?_
      refine lv_icmp_ge (tgt := 29) hx hb dM_tryAll_9 rfl (fun h9 => ?_) (fun h9 => ?_)
      · skip
        rw [nI_leI (by omega) (by omega)] at h9
        obtain rfl : i = 2 ^ n := by omega
        exact ret _ _ _ _ _ _ dM_tryAll_29 hS hq9 hP
      · skip
        rw [nI_leI (by omega) (by omega)] at h9
        have hi2 : i < 2 ^ n := by omega
        refine lv_aload_n (i := 0) hx hb dM_tryAll_12 rfl (sv_at hl rfl) ?_
        refine gM_quorums X hP dM_tryAll_13 ?_
        refine lv_iload_n (i := 1) hx hb dM_tryAll_16 rfl (sv_at hl rfl) ?_
        refine lv_aload_n (i := 0) hx hb dM_tryAll_17 rfl (sv_at hl rfl) ?_
        refine lv_iload_n (i := 1) hx hb dM_tryAll_18 rfl (sv_at hl rfl) ?_
        refine kM_quorum X (by decide) hP hJ hA hS hn hI hl (Nat.zero_le _) (Nat.zero_le _) (Nat.le_of_ble_eq_true rfl) dM_tryAll_19 (fun H locs mt qm hX hP hS => ?_)
        rw [sv_quoN hn hi2]
        rw [hX] at hP
        refine pm_quorums X hP hJ hA hS (by omega) dM_tryAll_22 (fun H locs hP hS => ?_)
        refine x_iinc (i := 1) hx hb dM_tryAll_23 hl rfl (sv_inc i) (by decide) (fun ls hl => ?_)
        refine lv_goto (tgt := 2) hx hb dM_tryAll_26 rfl ?_
        exact ih (i + 1) mt _ H locs ls (by omega) (by omega) (sv_qmup hq9) hP hS (sv_re hl ⟨rfl, rfl, trivial⟩)
  refine lv_iconst (v := 0) hx hb dM_tryAll_0 (by decide) ?_
  refine lv_istore_n (i := 1) hx hb dM_tryAll_1 rfl hl (by decide) rfl (fun ls hl => ?_)
  exact J2 _ 0 mt qm H locs ls (Nat.lt_succ_self _) (Nat.zero_le _) lt_0 hP hS (sv_re hl ⟨rfl, rfl, trivial⟩)

theorem cM_m_tryAll (hJ : sv_inj 17 ad) (hA : ∀ k, k < 17 → A (ad k))  (hn : n ≤ 6) (hI : sv_IQ n qc σ) : Met l yM_tryAll (sv_ws yM_tryAll cM_tryAll 2 none) (sv_rm 3) (sv_Pc D cI cZ cN cQ [.ref (ad 0)] (fun H => sv_mP D cI cZ n qc ad σ mt qm H)) (va_Qv (fun u : Sg × (Nat → Int32) × (Nat → Int32) => u.1 = σ ∧ (∀ q, q < 2 ^ n → u.2.2 q = sv_b (sv_quo σ n qc q))) (fun u t => sv_mP D cI cZ n qc ad u.1 u.2.1 u.2.2 t.heap) A) 0 0 A :=
  sv_mkV (S := Sg × (Nat → Int32) × (Nat → Int32)) (B := fun u H => sv_mP D cI cZ n qc ad u.1 u.2.1 u.2.2 H) (by decide) (by show 1 ≤ 2; decide) (fun p e s m below meth c ls Q X hP hl ret => wM_tryAll X hP hJ hA va_S.rf hn hI hl (fun pc ls H locs mt' qm' hd hS hX hP => ret pc ls (_, mt', qm') H locs hd hS ⟨rfl, hX⟩ hP))
set_option maxRecDepth 100000 in
theorem okM_M_tryAll : sv_okV "SliceVotingModel" 95 yM_tryAll cM_tryAll 2 none 0 := ⟨sv_tb_t 423 rfl rfl, sv_tb_t 420 rfl rfl, sv_tb_t 422 rfl rfl, sv_tb_s 23 rfl rfl, sv_tb_t 4 rfl rfl, ⟨by decide, by decide, by decide +kernel⟩, by decide⟩
theorem kM_tryAll (X : sv_X D cI cZ cN cQ "SliceVotingModel" cc nL k p R s m args c) (hk : 3 + 1 ≤ k) (hP : sv_mP D cI cZ n qc ad σ mt qm H) (hJ : sv_inj 17 ad) (hA : ∀ k, k < 17 → A (ad k)) (hS : va_S A H0 H locs)  (hn : n ≤ 6) (hI : sv_IQ n qc σ) (hl : lv_has ls nL lv) (hc : cells ≤ R.cells) (hs : slots ≤ R.slots) (hcat : (rest.map fun v => v.category).sum ≤ 8) (hd : decode cc pc = .ok (.invokevirtual 95, 3)) (kk : ∀ (H1 : Heap) (locs1 : List Loc) (mt' qm' : Nat → Int32), (∀ q, q < 2 ^ n → qm' q = sv_b (sv_quo σ n qc q)) → sv_mP D cI cZ n qc ad (σ) mt' qm' H1 → va_S A H0 H1 locs1 → W p l e R s m args below meth c H1 locs1 cells slots Q (F0 m (pc + 3) ls rest)) : W p l e R s m args below meth c H locs cells slots Q (F0 m pc ls (.ref (ad 0) :: rest)) :=
  sv_wVv (S := Sg × (Nat → Int32) × (Nat → Int32)) (G := fun H => sv_mP D cI cZ n qc ad σ mt qm H) (B := fun u H => sv_mP D cI cZ n qc ad u.1 u.2.1 u.2.2 H) X okM_M_tryAll (cM_m_tryAll hJ hA hn hI) hP (y_rec X.K hP (by decide) sv_me_0 rfl) hS hk rfl hl.1 rfl hcat hc hs hd (fun u H1 locs1 hp hB hS => by obtain ⟨τ, a, b⟩ := u; obtain ⟨h1, h2⟩ := hp; dsimp only at h1 h2 hB; subst h1; exact kk H1 locs1 a b h2 hB hS)
end SvModel4
end
