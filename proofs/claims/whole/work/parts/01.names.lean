-- ===== PART A: goes FIRST, ahead of the names: the tables' words, and 'selects' of the private methods out of them =====
/-- a private method of a class that the tables say can be made, by its rows of tables_1 -/
def lw_okq (q : MethodName × Nat) : Prop := (q.1.cls ≠ "java/lang/invoke/MethodHandle" ∧ q.1.cls ≠ "java/lang/invoke/VarHandle") ∧ Cond.instantiable q.1.cls q.2 ∈ tables_1 ∧ Cond.privateMethod q.1 ∈ tables_1 ∧ Cond.instanceMethod q.1 ∈ tables_1
theorem lw_p0 : lw_okq (⟨"SliceVoting", "isNode", "(I)Z"⟩, 6) := ⟨⟨by decide +kernel, by decide +kernel⟩, List.mem_of_getElem? (i := 8) (by decide +kernel), List.mem_of_getElem? (i := 92) (by decide +kernel), List.mem_of_getElem? (i := 93) (by decide +kernel)⟩
theorem lw_p1 : lw_okq (⟨"SliceVoting", "addTopQuota", "(LSliceVoting$Node;I)I"⟩, 6) := ⟨⟨by decide +kernel, by decide +kernel⟩, List.mem_of_getElem? (i := 8) (by decide +kernel), List.mem_of_getElem? (i := 96) (by decide +kernel), List.mem_of_getElem? (i := 97) (by decide +kernel)⟩
theorem lw_p2 : lw_okq (⟨"SliceVoting", "number", "(LSliceVoting$Quota;)I"⟩, 6) := ⟨⟨by decide +kernel, by decide +kernel⟩, List.mem_of_getElem? (i := 8) (by decide +kernel), List.mem_of_getElem? (i := 130) (by decide +kernel), List.mem_of_getElem? (i := 131) (by decide +kernel)⟩
theorem lw_p3 : lw_okq (⟨"SliceVoting", "addInnerQuota", "(LSliceVoting$Node;II)I"⟩, 6) := ⟨⟨by decide +kernel, by decide +kernel⟩, List.mem_of_getElem? (i := 8) (by decide +kernel), List.mem_of_getElem? (i := 134) (by decide +kernel), List.mem_of_getElem? (i := 135) (by decide +kernel)⟩
theorem lw_p4 : lw_okq (⟨"SliceVoting", "isQuota", "(I)Z"⟩, 6) := ⟨⟨by decide +kernel, by decide +kernel⟩, List.mem_of_getElem? (i := 8) (by decide +kernel), List.mem_of_getElem? (i := 138) (by decide +kernel), List.mem_of_getElem? (i := 139) (by decide +kernel)⟩
theorem lw_p5 : lw_okq (⟨"SliceVoting", "isWellBehaved", "(I)Z"⟩, 6) := ⟨⟨by decide +kernel, by decide +kernel⟩, List.mem_of_getElem? (i := 8) (by decide +kernel), List.mem_of_getElem? (i := 153) (by decide +kernel), List.mem_of_getElem? (i := 154) (by decide +kernel)⟩
theorem lw_p6 : lw_okq (⟨"SliceVoting", "settle", "(LSliceVoting$Node;)V"⟩, 6) := ⟨⟨by decide +kernel, by decide +kernel⟩, List.mem_of_getElem? (i := 8) (by decide +kernel), List.mem_of_getElem? (i := 185) (by decide +kernel), List.mem_of_getElem? (i := 186) (by decide +kernel)⟩
theorem lw_p7 : lw_okq (⟨"SliceVoting", "acceptLeast", "(LSliceVoting$Node;)Z"⟩, 6) := ⟨⟨by decide +kernel, by decide +kernel⟩, List.mem_of_getElem? (i := 8) (by decide +kernel), List.mem_of_getElem? (i := 189) (by decide +kernel), List.mem_of_getElem? (i := 190) (by decide +kernel)⟩
theorem lw_p8 : lw_okq (⟨"SliceVoting", "mayAccept", "(LSliceVoting$Node;I)Z"⟩, 6) := ⟨⟨by decide +kernel, by decide +kernel⟩, List.mem_of_getElem? (i := 8) (by decide +kernel), List.mem_of_getElem? (i := 193) (by decide +kernel), List.mem_of_getElem? (i := 194) (by decide +kernel)⟩
theorem lw_p9 : lw_okq (⟨"SliceVoting", "isInQuorumWithin", "(LSliceVoting$Node;I)Z"⟩, 6) := ⟨⟨by decide +kernel, by decide +kernel⟩, List.mem_of_getElem? (i := 8) (by decide +kernel), List.mem_of_getElem? (i := 200) (by decide +kernel), List.mem_of_getElem? (i := 201) (by decide +kernel)⟩
theorem lw_p10 : lw_okq (⟨"SliceVoting", "unionOfQuorumsIn", "(I)I"⟩, 6) := ⟨⟨by decide +kernel, by decide +kernel⟩, List.mem_of_getElem? (i := 8) (by decide +kernel), List.mem_of_getElem? (i := 204) (by decide +kernel), List.mem_of_getElem? (i := 205) (by decide +kernel)⟩
theorem lw_p11 : lw_okq (⟨"SliceVoting", "isBlockedBy", "(LSliceVoting$Node;I)Z"⟩, 6) := ⟨⟨by decide +kernel, by decide +kernel⟩, List.mem_of_getElem? (i := 8) (by decide +kernel), List.mem_of_getElem? (i := 217) (by decide +kernel), List.mem_of_getElem? (i := 218) (by decide +kernel)⟩
theorem lw_p12 : lw_okq (⟨"SliceVoting", "confirmLeast", "(LSliceVoting$Node;)Z"⟩, 6) := ⟨⟨by decide +kernel, by decide +kernel⟩, List.mem_of_getElem? (i := 8) (by decide +kernel), List.mem_of_getElem? (i := 221) (by decide +kernel), List.mem_of_getElem? (i := 222) (by decide +kernel)⟩
theorem lw_p13 : lw_okq (⟨"SliceVoting", "mayConfirm", "(LSliceVoting$Node;I)Z"⟩, 6) := ⟨⟨by decide +kernel, by decide +kernel⟩, List.mem_of_getElem? (i := 8) (by decide +kernel), List.mem_of_getElem? (i := 225) (by decide +kernel), List.mem_of_getElem? (i := 226) (by decide +kernel)⟩
theorem lw_p14 : lw_okq (⟨"SliceVoting", "hear", "(LSliceVoting$Node;III)V"⟩, 6) := ⟨⟨by decide +kernel, by decide +kernel⟩, List.mem_of_getElem? (i := 8) (by decide +kernel), List.mem_of_getElem? (i := 242) (by decide +kernel), List.mem_of_getElem? (i := 243) (by decide +kernel)⟩
theorem lw_p15 : lw_okq (⟨"SliceVoting", "isSetOfNodes", "(I)Z"⟩, 6) := ⟨⟨by decide +kernel, by decide +kernel⟩, List.mem_of_getElem? (i := 8) (by decide +kernel), List.mem_of_getElem? (i := 284) (by decide +kernel), List.mem_of_getElem? (i := 285) (by decide +kernel)⟩
def lw_privs_1 : List (MethodName × Nat) := [(⟨"SliceVoting", "isNode", "(I)Z"⟩, 6), (⟨"SliceVoting", "addTopQuota", "(LSliceVoting$Node;I)I"⟩, 6), (⟨"SliceVoting", "number", "(LSliceVoting$Quota;)I"⟩, 6), (⟨"SliceVoting", "addInnerQuota", "(LSliceVoting$Node;II)I"⟩, 6), (⟨"SliceVoting", "isQuota", "(I)Z"⟩, 6), (⟨"SliceVoting", "isWellBehaved", "(I)Z"⟩, 6), (⟨"SliceVoting", "settle", "(LSliceVoting$Node;)V"⟩, 6), (⟨"SliceVoting", "acceptLeast", "(LSliceVoting$Node;)Z"⟩, 6), (⟨"SliceVoting", "mayAccept", "(LSliceVoting$Node;I)Z"⟩, 6), (⟨"SliceVoting", "isInQuorumWithin", "(LSliceVoting$Node;I)Z"⟩, 6), (⟨"SliceVoting", "unionOfQuorumsIn", "(I)I"⟩, 6), (⟨"SliceVoting", "isBlockedBy", "(LSliceVoting$Node;I)Z"⟩, 6), (⟨"SliceVoting", "confirmLeast", "(LSliceVoting$Node;)Z"⟩, 6), (⟨"SliceVoting", "mayConfirm", "(LSliceVoting$Node;I)Z"⟩, 6), (⟨"SliceVoting", "hear", "(LSliceVoting$Node;III)V"⟩, 6), (⟨"SliceVoting", "isSetOfNodes", "(I)Z"⟩, 6)]
theorem lw_r1 : ∀ q ∈ lw_privs_1, lw_okq q := List.forall_mem_cons.mpr ⟨lw_p0, List.forall_mem_cons.mpr ⟨lw_p1, List.forall_mem_cons.mpr ⟨lw_p2, List.forall_mem_cons.mpr ⟨lw_p3, List.forall_mem_cons.mpr ⟨lw_p4, List.forall_mem_cons.mpr ⟨lw_p5, List.forall_mem_cons.mpr ⟨lw_p6, List.forall_mem_cons.mpr ⟨lw_p7, List.forall_mem_cons.mpr ⟨lw_p8, List.forall_mem_cons.mpr ⟨lw_p9, List.forall_mem_cons.mpr ⟨lw_p10, List.forall_mem_cons.mpr ⟨lw_p11, List.forall_mem_cons.mpr ⟨lw_p12, List.forall_mem_cons.mpr ⟨lw_p13, List.forall_mem_cons.mpr ⟨lw_p14, List.forall_mem_cons.mpr ⟨lw_p15, fun _ h => absurd h List.not_mem_nil⟩⟩⟩⟩⟩⟩⟩⟩⟩⟩⟩⟩⟩⟩⟩⟩
theorem lw_p16 : lw_okq (⟨"SliceVoting", "isQuorum", "(I)Z"⟩, 6) := ⟨⟨by decide +kernel, by decide +kernel⟩, List.mem_of_getElem? (i := 8) (by decide +kernel), List.mem_of_getElem? (i := 288) (by decide +kernel), List.mem_of_getElem? (i := 289) (by decide +kernel)⟩
theorem lw_p17 : lw_okq (⟨"SliceVotingModel", "isNode", "(I)Z"⟩, 19) := ⟨⟨by decide +kernel, by decide +kernel⟩, List.mem_of_getElem? (i := 307) (by decide +kernel), List.mem_of_getElem? (i := 376) (by decide +kernel), List.mem_of_getElem? (i := 377) (by decide +kernel)⟩
theorem lw_p18 : lw_okq (⟨"SliceVotingModel", "top", "(I)I"⟩, 19) := ⟨⟨by decide +kernel, by decide +kernel⟩, List.mem_of_getElem? (i := 307) (by decide +kernel), List.mem_of_getElem? (i := 380) (by decide +kernel), List.mem_of_getElem? (i := 381) (by decide +kernel)⟩
theorem lw_p19 : lw_okq (⟨"SliceVotingModel", "isSet", "(I)Z"⟩, 19) := ⟨⟨by decide +kernel, by decide +kernel⟩, List.mem_of_getElem? (i := 307) (by decide +kernel), List.mem_of_getElem? (i := 392) (by decide +kernel), List.mem_of_getElem? (i := 393) (by decide +kernel)⟩
theorem lw_p20 : lw_okq (⟨"SliceVotingModel", "meet", "(I)V"⟩, 19) := ⟨⟨by decide +kernel, by decide +kernel⟩, List.mem_of_getElem? (i := 307) (by decide +kernel), List.mem_of_getElem? (i := 396) (by decide +kernel), List.mem_of_getElem? (i := 397) (by decide +kernel)⟩
theorem lw_p21 : lw_okq (⟨"SliceVotingModel", "stops", "(II)Z"⟩, 19) := ⟨⟨by decide +kernel, by decide +kernel⟩, List.mem_of_getElem? (i := 307) (by decide +kernel), List.mem_of_getElem? (i := 409) (by decide +kernel), List.mem_of_getElem? (i := 410) (by decide +kernel)⟩
theorem lw_p22 : lw_okq (⟨"SliceVotingModel", "well", "(I)Z"⟩, 19) := ⟨⟨by decide +kernel, by decide +kernel⟩, List.mem_of_getElem? (i := 307) (by decide +kernel), List.mem_of_getElem? (i := 417) (by decide +kernel), List.mem_of_getElem? (i := 418) (by decide +kernel)⟩
theorem lw_p23 : lw_okq (⟨"SliceVotingModel", "tryAll", "()V"⟩, 19) := ⟨⟨by decide +kernel, by decide +kernel⟩, List.mem_of_getElem? (i := 307) (by decide +kernel), List.mem_of_getElem? (i := 421) (by decide +kernel), List.mem_of_getElem? (i := 422) (by decide +kernel)⟩
theorem lw_p24 : lw_okq (⟨"SliceVotingModel", "choice", "(II)I"⟩, 19) := ⟨⟨by decide +kernel, by decide +kernel⟩, List.mem_of_getElem? (i := 307) (by decide +kernel), List.mem_of_getElem? (i := 433) (by decide +kernel), List.mem_of_getElem? (i := 434) (by decide +kernel)⟩
theorem lw_p25 : lw_okq (⟨"SliceVotingModel", "vote", "(II)Z"⟩, 19) := ⟨⟨by decide +kernel, by decide +kernel⟩, List.mem_of_getElem? (i := 307) (by decide +kernel), List.mem_of_getElem? (i := 437) (by decide +kernel), List.mem_of_getElem? (i := 438) (by decide +kernel)⟩
theorem lw_p26 : lw_okq (⟨"SliceVotingModel", "against", "(II)Z"⟩, 19) := ⟨⟨by decide +kernel, by decide +kernel⟩, List.mem_of_getElem? (i := 307) (by decide +kernel), List.mem_of_getElem? (i := 441) (by decide +kernel), List.mem_of_getElem? (i := 442) (by decide +kernel)⟩
theorem lw_p27 : lw_okq (⟨"SliceVotingModel", "contradict", "(II)Z"⟩, 19) := ⟨⟨by decide +kernel, by decide +kernel⟩, List.mem_of_getElem? (i := 307) (by decide +kernel), List.mem_of_getElem? (i := 445) (by decide +kernel), List.mem_of_getElem? (i := 446) (by decide +kernel)⟩
theorem lw_p28 : lw_okq (⟨"SliceVotingModel", "settle", "(I)V"⟩, 19) := ⟨⟨by decide +kernel, by decide +kernel⟩, List.mem_of_getElem? (i := 307) (by decide +kernel), List.mem_of_getElem? (i := 449) (by decide +kernel), List.mem_of_getElem? (i := 450) (by decide +kernel)⟩
theorem lw_p29 : lw_okq (⟨"SliceVotingModel", "stepAccept", "(I)Z"⟩, 19) := ⟨⟨by decide +kernel, by decide +kernel⟩, List.mem_of_getElem? (i := 307) (by decide +kernel), List.mem_of_getElem? (i := 453) (by decide +kernel), List.mem_of_getElem? (i := 454) (by decide +kernel)⟩
theorem lw_p30 : lw_okq (⟨"SliceVotingModel", "backers", "(IIZ)I"⟩, 19) := ⟨⟨by decide +kernel, by decide +kernel⟩, List.mem_of_getElem? (i := 307) (by decide +kernel), List.mem_of_getElem? (i := 457) (by decide +kernel), List.mem_of_getElem? (i := 458) (by decide +kernel)⟩
theorem lw_p31 : lw_okq (⟨"SliceVotingModel", "acceptsOf", "(II)I"⟩, 19) := ⟨⟨by decide +kernel, by decide +kernel⟩, List.mem_of_getElem? (i := 307) (by decide +kernel), List.mem_of_getElem? (i := 461) (by decide +kernel), List.mem_of_getElem? (i := 462) (by decide +kernel)⟩
def lw_privs_2 : List (MethodName × Nat) := [(⟨"SliceVoting", "isQuorum", "(I)Z"⟩, 6), (⟨"SliceVotingModel", "isNode", "(I)Z"⟩, 19), (⟨"SliceVotingModel", "top", "(I)I"⟩, 19), (⟨"SliceVotingModel", "isSet", "(I)Z"⟩, 19), (⟨"SliceVotingModel", "meet", "(I)V"⟩, 19), (⟨"SliceVotingModel", "stops", "(II)Z"⟩, 19), (⟨"SliceVotingModel", "well", "(I)Z"⟩, 19), (⟨"SliceVotingModel", "tryAll", "()V"⟩, 19), (⟨"SliceVotingModel", "choice", "(II)I"⟩, 19), (⟨"SliceVotingModel", "vote", "(II)Z"⟩, 19), (⟨"SliceVotingModel", "against", "(II)Z"⟩, 19), (⟨"SliceVotingModel", "contradict", "(II)Z"⟩, 19), (⟨"SliceVotingModel", "settle", "(I)V"⟩, 19), (⟨"SliceVotingModel", "stepAccept", "(I)Z"⟩, 19), (⟨"SliceVotingModel", "backers", "(IIZ)I"⟩, 19), (⟨"SliceVotingModel", "acceptsOf", "(II)I"⟩, 19)]
theorem lw_r2 : ∀ q ∈ lw_privs_2, lw_okq q := List.forall_mem_cons.mpr ⟨lw_p16, List.forall_mem_cons.mpr ⟨lw_p17, List.forall_mem_cons.mpr ⟨lw_p18, List.forall_mem_cons.mpr ⟨lw_p19, List.forall_mem_cons.mpr ⟨lw_p20, List.forall_mem_cons.mpr ⟨lw_p21, List.forall_mem_cons.mpr ⟨lw_p22, List.forall_mem_cons.mpr ⟨lw_p23, List.forall_mem_cons.mpr ⟨lw_p24, List.forall_mem_cons.mpr ⟨lw_p25, List.forall_mem_cons.mpr ⟨lw_p26, List.forall_mem_cons.mpr ⟨lw_p27, List.forall_mem_cons.mpr ⟨lw_p28, List.forall_mem_cons.mpr ⟨lw_p29, List.forall_mem_cons.mpr ⟨lw_p30, List.forall_mem_cons.mpr ⟨lw_p31, fun _ h => absurd h List.not_mem_nil⟩⟩⟩⟩⟩⟩⟩⟩⟩⟩⟩⟩⟩⟩⟩⟩
theorem lw_p32 : lw_okq (⟨"SliceVotingModel", "votesOf", "(II)I"⟩, 19) := ⟨⟨by decide +kernel, by decide +kernel⟩, List.mem_of_getElem? (i := 307) (by decide +kernel), List.mem_of_getElem? (i := 465) (by decide +kernel), List.mem_of_getElem? (i := 466) (by decide +kernel)⟩
theorem lw_p33 : lw_okq (⟨"SliceVotingModel", "quorumWithin", "(II)Z"⟩, 19) := ⟨⟨by decide +kernel, by decide +kernel⟩, List.mem_of_getElem? (i := 307) (by decide +kernel), List.mem_of_getElem? (i := 469) (by decide +kernel), List.mem_of_getElem? (i := 470) (by decide +kernel)⟩
theorem lw_p34 : lw_okq (⟨"SliceVotingModel", "stepConfirm", "(I)Z"⟩, 19) := ⟨⟨by decide +kernel, by decide +kernel⟩, List.mem_of_getElem? (i := 307) (by decide +kernel), List.mem_of_getElem? (i := 473) (by decide +kernel), List.mem_of_getElem? (i := 474) (by decide +kernel)⟩
theorem lw_p35 : lw_okq (⟨"SliceVotingModel", "stepCommit", "(I)Z"⟩, 19) := ⟨⟨by decide +kernel, by decide +kernel⟩, List.mem_of_getElem? (i := 307) (by decide +kernel), List.mem_of_getElem? (i := 477) (by decide +kernel), List.mem_of_getElem? (i := 478) (by decide +kernel)⟩
def lw_privs_3 : List (MethodName × Nat) := [(⟨"SliceVotingModel", "votesOf", "(II)I"⟩, 19), (⟨"SliceVotingModel", "quorumWithin", "(II)Z"⟩, 19), (⟨"SliceVotingModel", "stepConfirm", "(I)Z"⟩, 19), (⟨"SliceVotingModel", "stepCommit", "(I)Z"⟩, 19)]
theorem lw_r3 : ∀ q ∈ lw_privs_3, lw_okq q := List.forall_mem_cons.mpr ⟨lw_p32, List.forall_mem_cons.mpr ⟨lw_p33, List.forall_mem_cons.mpr ⟨lw_p34, List.forall_mem_cons.mpr ⟨lw_p35, fun _ h => absurd h List.not_mem_nil⟩⟩⟩⟩
def lw_privs : List (MethodName × Nat) := lw_privs_1 ++ (lw_privs_2 ++ (lw_privs_3))
def lw_tbl : List Cond := k2_sels lw_privs ++ tables_1
theorem lw_privs_ok : ∀ q ∈ lw_privs, lw_okq q := by
  show ∀ q ∈ lw_privs_1 ++ (lw_privs_2 ++ (lw_privs_3)), lw_okq q
  exact List.forall_mem_append.mpr ⟨lw_r1, List.forall_mem_append.mpr ⟨lw_r2, lw_r3⟩⟩
def R_N : String := "SliceVoting$Node"
def T_N : u_T := fun k => match k with
  | 0 => ("SliceVoting$Node", "number", "I", true)
  | 1 => ("SliceVoting$Node", "knownVotes", "[I", true)
  | 2 => ("SliceVoting$Node", "knownAccepts", "[I", true)
  | 3 => ("SliceVoting$Node", "confirmed", "I", false)
  | 4 => ("SliceVoting$Node", "counter", "I", false)
  | 5 => ("SliceVoting$Node", "value", "I", false)
  | 6 => ("SliceVoting$Node", "decision", "I", false)
  | 7 => ("SliceVoting$Node", "top", "LSliceVoting$Quota;", false)
  | _ => ("SliceVoting$Node", "quotaCount", "I", false)
def t_N : Nat → FieldType := fun k => match k with
  | 0 => .int
  | 1 => .array .int
  | 2 => .array .int
  | 3 => .int
  | 4 => .int
  | 5 => .int
  | 6 => .int
  | 7 => .object "SliceVoting$Quota"
  | _ => .int
theorem nm_N : ∀ a, a < 9 → ∀ b, b < 9 → a ≠ b → (T_N a).2.1 ≠ (T_N b).2.1 := by decide +kernel
theorem t_N_ok : ∀ k, k < 9 → parseFieldDescriptor (T_N k).2.2.1 = some (t_N k) := by decide +kernel
def R_Q : String := "SliceVoting$Quota"
def T_Q : u_T := fun k => match k with
  | 0 => ("SliceVoting$Quota", "owner", "LSliceVoting$Node;", true)
  | 1 => ("SliceVoting$Quota", "level", "I", true)
  | 2 => ("SliceVoting$Quota", "need", "I", true)
  | 3 => ("SliceVoting$Quota", "members", "I", false)
  | 4 => ("SliceVoting$Quota", "firstInner", "LSliceVoting$Quota;", false)
  | _ => ("SliceVoting$Quota", "nextInner", "LSliceVoting$Quota;", false)
def t_Q : Nat → FieldType := fun k => match k with
  | 0 => .object "SliceVoting$Node"
  | 1 => .int
  | 2 => .int
  | 3 => .int
  | 4 => .object "SliceVoting$Quota"
  | _ => .object "SliceVoting$Quota"
theorem nm_Q : ∀ a, a < 6 → ∀ b, b < 6 → a ≠ b → (T_Q a).2.1 ≠ (T_Q b).2.1 := by decide +kernel
theorem t_Q_ok : ∀ k, k < 6 → parseFieldDescriptor (T_Q k).2.2.1 = some (t_Q k) := by decide +kernel
def R_S : String := "SliceVoting"
def T_S : u_T := fun k => match k with
  | 0 => ("SliceVoting", "nodes", "[LSliceVoting$Node;", true)
  | 1 => ("SliceVoting", "everyone", "I", true)
  | 2 => ("SliceVoting", "quotas", "[LSliceVoting$Quota;", true)
  | 3 => ("SliceVoting", "quotaCount", "I", false)
  | 4 => ("SliceVoting", "wellBehaved", "I", false)
  | _ => ("SliceVoting", "moving", "Z", false)
def t_S : Nat → FieldType := fun k => match k with
  | 0 => .array (.object "SliceVoting$Node")
  | 1 => .int
  | 2 => .array (.object "SliceVoting$Quota")
  | 3 => .int
  | 4 => .int
  | _ => .boolean
theorem nm_S : ∀ a, a < 6 → ∀ b, b < 6 → a ≠ b → (T_S a).2.1 ≠ (T_S b).2.1 := by decide +kernel
theorem t_S_ok : ∀ k, k < 6 → parseFieldDescriptor (T_S k).2.2.1 = some (t_S k) := by decide +kernel
def R_M : String := "SliceVotingModel"
def T_M : u_T := fun k => match k with
  | 0 => ("SliceVotingModel", "nodes", "I", true)
  | 1 => ("SliceVotingModel", "moves", "Z", false)
  | 2 => ("SliceVotingModel", "quotas", "I", false)
  | 3 => ("SliceVotingModel", "owner", "[I", true)
  | 4 => ("SliceVotingModel", "around", "[I", true)
  | 5 => ("SliceVotingModel", "level", "[I", true)
  | 6 => ("SliceVotingModel", "need", "[I", true)
  | 7 => ("SliceVotingModel", "members", "[I", true)
  | 8 => ("SliceVotingModel", "met", "[Z", true)
  | 9 => ("SliceVotingModel", "ill", "[Z", true)
  | 10 => ("SliceVotingModel", "votes", "[I", true)
  | 11 => ("SliceVotingModel", "accepts", "[I", true)
  | 12 => ("SliceVotingModel", "confirms", "[I", true)
  | 13 => ("SliceVotingModel", "counters", "[I", true)
  | 14 => ("SliceVotingModel", "values", "[I", true)
  | 15 => ("SliceVotingModel", "decisions", "[I", true)
  | 16 => ("SliceVotingModel", "heardVotes", "[I", true)
  | 17 => ("SliceVotingModel", "heardAccepts", "[I", true)
  | _ => ("SliceVotingModel", "quorums", "[Z", true)
def t_M : Nat → FieldType := fun k => match k with
  | 0 => .int
  | 1 => .boolean
  | 2 => .int
  | 3 => .array .int
  | 4 => .array .int
  | 5 => .array .int
  | 6 => .array .int
  | 7 => .array .int
  | 8 => .array .boolean
  | 9 => .array .boolean
  | 10 => .array .int
  | 11 => .array .int
  | 12 => .array .int
  | 13 => .array .int
  | 14 => .array .int
  | 15 => .array .int
  | 16 => .array .int
  | 17 => .array .int
  | _ => .array .boolean
theorem nm_M : ∀ a, a < 19 → ∀ b, b < 19 → a ≠ b → (T_M a).2.1 ≠ (T_M b).2.1 := by decide +kernel
theorem t_M_ok : ∀ k, k < 19 → parseFieldDescriptor (T_M k).2.2.1 = some (t_M k) := by decide +kernel
abbrev vwCl : List vw_C := [(R_N, T_N, 9), (R_Q, T_Q, 6), (R_S, T_S, 6), (R_M, T_M, 19)]
abbrev sv_kN : Nat := 0
abbrev sv_kQ : Nat := 1
abbrev sv_kS : Nat := 2
abbrev sv_kM : Nat := 3
abbrev cS_init : ByteArray := prog_1_method_1_code
def yS_init : MethodName := ⟨"SliceVoting", "<init>", "(I)V"⟩
abbrev cS_quota : ByteArray := prog_1_method_2_code
def yS_quota : MethodName := ⟨"SliceVoting", "quota", "(III)I"⟩
abbrev cS_member : ByteArray := prog_1_method_3_code
def yS_member : MethodName := ⟨"SliceVoting", "member", "(II)Z"⟩
abbrev cS_corrupt : ByteArray := prog_1_method_4_code
def yS_corrupt : MethodName := ⟨"SliceVoting", "corrupt", "(I)Z"⟩
abbrev cS_propose : ByteArray := prog_1_method_5_code
def yS_propose : MethodName := ⟨"SliceVoting", "propose", "(III)I"⟩
abbrev cS_deliver : ByteArray := prog_1_method_6_code
def yS_deliver : MethodName := ⟨"SliceVoting", "deliver", "(II)Z"⟩
abbrev cS_say : ByteArray := prog_1_method_7_code
def yS_say : MethodName := ⟨"SliceVoting", "say", "(IIII)Z"⟩
abbrev cS_voted : ByteArray := prog_1_method_8_code
def yS_voted : MethodName := ⟨"SliceVoting", "voted", "(I)I"⟩
abbrev cS_accepted : ByteArray := prog_1_method_9_code
def yS_accepted : MethodName := ⟨"SliceVoting", "accepted", "(I)I"⟩
abbrev cS_confirmed : ByteArray := prog_1_method_10_code
def yS_confirmed : MethodName := ⟨"SliceVoting", "confirmed", "(I)I"⟩
abbrev cS_counter : ByteArray := prog_1_method_11_code
def yS_counter : MethodName := ⟨"SliceVoting", "counter", "(I)I"⟩
abbrev cS_value : ByteArray := prog_1_method_12_code
def yS_value : MethodName := ⟨"SliceVoting", "value", "(I)I"⟩
abbrev cS_decided : ByteArray := prog_1_method_13_code
def yS_decided : MethodName := ⟨"SliceVoting", "decided", "(I)I"⟩
abbrev cS_known : ByteArray := prog_1_method_14_code
def yS_known : MethodName := ⟨"SliceVoting", "known", "(IIZ)I"⟩
abbrev cS_quorum : ByteArray := prog_1_method_15_code
def yS_quorum : MethodName := ⟨"SliceVoting", "quorum", "(I)Z"⟩
abbrev cS_largest : ByteArray := prog_1_method_16_code
def yS_largest : MethodName := ⟨"SliceVoting", "largest", "(I)I"⟩
abbrev cS_blocks : ByteArray := prog_1_method_17_code
def yS_blocks : MethodName := ⟨"SliceVoting", "blocks", "(II)Z"⟩
abbrev cS_intertwined : ByteArray := prog_1_method_18_code
def yS_intertwined : MethodName := ⟨"SliceVoting", "intertwined", "(II)Z"⟩
abbrev cS_isNode : ByteArray := prog_1_method_19_code
def yS_isNode : MethodName := ⟨"SliceVoting", "isNode", "(I)Z"⟩
abbrev cS_isWellBehaved : ByteArray := prog_1_method_20_code
def yS_isWellBehaved : MethodName := ⟨"SliceVoting", "isWellBehaved", "(I)Z"⟩
abbrev cS_isSetOfNodes : ByteArray := prog_1_method_21_code
def yS_isSetOfNodes : MethodName := ⟨"SliceVoting", "isSetOfNodes", "(I)Z"⟩
abbrev cS_isQuota : ByteArray := prog_1_method_22_code
def yS_isQuota : MethodName := ⟨"SliceVoting", "isQuota", "(I)Z"⟩
abbrev cS_addTopQuota : ByteArray := prog_1_method_23_code
def yS_addTopQuota : MethodName := ⟨"SliceVoting", "addTopQuota", "(LSliceVoting$Node;I)I"⟩
abbrev cS_addInnerQuota : ByteArray := prog_1_method_24_code
def yS_addInnerQuota : MethodName := ⟨"SliceVoting", "addInnerQuota", "(LSliceVoting$Node;II)I"⟩
abbrev cS_number : ByteArray := prog_1_method_25_code
def yS_number : MethodName := ⟨"SliceVoting", "number", "(LSliceVoting$Quota;)I"⟩
abbrev cS_isMet : ByteArray := prog_1_method_26_code
def yS_isMet : MethodName := ⟨"SliceVoting", "isMet", "(LSliceVoting$Quota;II)Z"⟩
abbrev cS_isBlockedBy : ByteArray := prog_1_method_27_code
def yS_isBlockedBy : MethodName := ⟨"SliceVoting", "isBlockedBy", "(LSliceVoting$Node;I)Z"⟩
abbrev cS_isQuorum : ByteArray := prog_1_method_28_code
def yS_isQuorum : MethodName := ⟨"SliceVoting", "isQuorum", "(I)Z"⟩
abbrev cS_unionOfQuorumsIn : ByteArray := prog_1_method_29_code
def yS_unionOfQuorumsIn : MethodName := ⟨"SliceVoting", "unionOfQuorumsIn", "(I)I"⟩
abbrev cS_has : ByteArray := prog_1_method_30_code
def yS_has : MethodName := ⟨"SliceVoting", "has", "(II)Z"⟩
abbrev cS_ballot : ByteArray := prog_1_method_31_code
def yS_ballot : MethodName := ⟨"SliceVoting", "ballot", "(II)I"⟩
abbrev cS_commitOf : ByteArray := prog_1_method_32_code
def yS_commitOf : MethodName := ⟨"SliceVoting", "commitOf", "(I)I"⟩
abbrev cS_isCommit : ByteArray := prog_1_method_33_code
def yS_isCommit : MethodName := ⟨"SliceVoting", "isCommit", "(I)Z"⟩
abbrev cS_ballotOf : ByteArray := prog_1_method_34_code
def yS_ballotOf : MethodName := ⟨"SliceVoting", "ballotOf", "(I)I"⟩
abbrev cS_valueOf : ByteArray := prog_1_method_35_code
def yS_valueOf : MethodName := ⟨"SliceVoting", "valueOf", "(I)I"⟩
abbrev cS_contradict : ByteArray := prog_1_method_36_code
def yS_contradict : MethodName := ⟨"SliceVoting", "contradict", "(II)Z"⟩
abbrev cS_contradictsOneOf : ByteArray := prog_1_method_37_code
def yS_contradictsOneOf : MethodName := ⟨"SliceVoting", "contradictsOneOf", "(II)Z"⟩
abbrev cS_valueToPropose : ByteArray := prog_1_method_38_code
def yS_valueToPropose : MethodName := ⟨"SliceVoting", "valueToPropose", "(LSliceVoting$Node;I)I"⟩
abbrev cS_hear : ByteArray := prog_1_method_39_code
def yS_hear : MethodName := ⟨"SliceVoting", "hear", "(LSliceVoting$Node;III)V"⟩
abbrev cS_voteIfAllowed : ByteArray := prog_1_method_40_code
def yS_voteIfAllowed : MethodName := ⟨"SliceVoting", "voteIfAllowed", "(LSliceVoting$Node;I)Z"⟩
abbrev cS_settle : ByteArray := prog_1_method_41_code
def yS_settle : MethodName := ⟨"SliceVoting", "settle", "(LSliceVoting$Node;)V"⟩
abbrev cS_acceptLeast : ByteArray := prog_1_method_42_code
def yS_acceptLeast : MethodName := ⟨"SliceVoting", "acceptLeast", "(LSliceVoting$Node;)Z"⟩
abbrev cS_mayAccept : ByteArray := prog_1_method_43_code
def yS_mayAccept : MethodName := ⟨"SliceVoting", "mayAccept", "(LSliceVoting$Node;I)Z"⟩
abbrev cS_confirmLeast : ByteArray := prog_1_method_44_code
def yS_confirmLeast : MethodName := ⟨"SliceVoting", "confirmLeast", "(LSliceVoting$Node;)Z"⟩
abbrev cS_mayConfirm : ByteArray := prog_1_method_45_code
def yS_mayConfirm : MethodName := ⟨"SliceVoting", "mayConfirm", "(LSliceVoting$Node;I)Z"⟩
abbrev cS_decideBy : ByteArray := prog_1_method_46_code
def yS_decideBy : MethodName := ⟨"SliceVoting", "decideBy", "(LSliceVoting$Node;I)V"⟩
abbrev cS_voteForCommit : ByteArray := prog_1_method_47_code
def yS_voteForCommit : MethodName := ⟨"SliceVoting", "voteForCommit", "(LSliceVoting$Node;)Z"⟩
abbrev cS_isInQuorumWithin : ByteArray := prog_1_method_48_code
def yS_isInQuorumWithin : MethodName := ⟨"SliceVoting", "isInQuorumWithin", "(LSliceVoting$Node;I)Z"⟩
abbrev cS_nodesThatSaid : ByteArray := prog_1_method_49_code
def yS_nodesThatSaid : MethodName := ⟨"SliceVoting", "nodesThatSaid", "([II)I"⟩
abbrev cM_init : ByteArray := prog_5_method_1_code
def yM_init : MethodName := ⟨"SliceVotingModel", "<init>", "(I)V"⟩
abbrev cM_isNode : ByteArray := prog_5_method_2_code
def yM_isNode : MethodName := ⟨"SliceVotingModel", "isNode", "(I)Z"⟩
abbrev cM_well : ByteArray := prog_5_method_3_code
def yM_well : MethodName := ⟨"SliceVotingModel", "well", "(I)Z"⟩
abbrev cM_isSet : ByteArray := prog_5_method_4_code
def yM_isSet : MethodName := ⟨"SliceVotingModel", "isSet", "(I)Z"⟩
abbrev cM_top : ByteArray := prog_5_method_5_code
def yM_top : MethodName := ⟨"SliceVotingModel", "top", "(I)I"⟩
abbrev cM_quota : ByteArray := prog_5_method_6_code
def yM_quota : MethodName := ⟨"SliceVotingModel", "quota", "(III)I"⟩
abbrev cM_member : ByteArray := prog_5_method_7_code
def yM_member : MethodName := ⟨"SliceVotingModel", "member", "(II)Z"⟩
abbrev cM_meet : ByteArray := prog_5_method_8_code
def yM_meet : MethodName := ⟨"SliceVotingModel", "meet", "(I)V"⟩
abbrev cM_quorum : ByteArray := prog_5_method_9_code
def yM_quorum : MethodName := ⟨"SliceVotingModel", "quorum", "(I)Z"⟩
abbrev cM_largest : ByteArray := prog_5_method_10_code
def yM_largest : MethodName := ⟨"SliceVotingModel", "largest", "(I)I"⟩
abbrev cM_blocks : ByteArray := prog_5_method_11_code
def yM_blocks : MethodName := ⟨"SliceVotingModel", "blocks", "(II)Z"⟩
abbrev cM_stops : ByteArray := prog_5_method_12_code
def yM_stops : MethodName := ⟨"SliceVotingModel", "stops", "(II)Z"⟩
abbrev cM_intertwined : ByteArray := prog_5_method_13_code
def yM_intertwined : MethodName := ⟨"SliceVotingModel", "intertwined", "(II)Z"⟩
abbrev cM_tryAll : ByteArray := prog_5_method_14_code
def yM_tryAll : MethodName := ⟨"SliceVotingModel", "tryAll", "()V"⟩
abbrev cM_contradict : ByteArray := prog_5_method_15_code
def yM_contradict : MethodName := ⟨"SliceVotingModel", "contradict", "(II)Z"⟩
abbrev cM_against : ByteArray := prog_5_method_16_code
def yM_against : MethodName := ⟨"SliceVotingModel", "against", "(II)Z"⟩
abbrev cM_votesOf : ByteArray := prog_5_method_17_code
def yM_votesOf : MethodName := ⟨"SliceVotingModel", "votesOf", "(II)I"⟩
abbrev cM_acceptsOf : ByteArray := prog_5_method_18_code
def yM_acceptsOf : MethodName := ⟨"SliceVotingModel", "acceptsOf", "(II)I"⟩
abbrev cM_backers : ByteArray := prog_5_method_19_code
def yM_backers : MethodName := ⟨"SliceVotingModel", "backers", "(IIZ)I"⟩
abbrev cM_quorumWithin : ByteArray := prog_5_method_20_code
def yM_quorumWithin : MethodName := ⟨"SliceVotingModel", "quorumWithin", "(II)Z"⟩
abbrev cM_stepAccept : ByteArray := prog_5_method_21_code
def yM_stepAccept : MethodName := ⟨"SliceVotingModel", "stepAccept", "(I)Z"⟩
abbrev cM_stepConfirm : ByteArray := prog_5_method_22_code
def yM_stepConfirm : MethodName := ⟨"SliceVotingModel", "stepConfirm", "(I)Z"⟩
abbrev cM_vote : ByteArray := prog_5_method_23_code
def yM_vote : MethodName := ⟨"SliceVotingModel", "vote", "(II)Z"⟩
abbrev cM_stepCommit : ByteArray := prog_5_method_24_code
def yM_stepCommit : MethodName := ⟨"SliceVotingModel", "stepCommit", "(I)Z"⟩
abbrev cM_settle : ByteArray := prog_5_method_25_code
def yM_settle : MethodName := ⟨"SliceVotingModel", "settle", "(I)V"⟩
abbrev cM_corrupt : ByteArray := prog_5_method_26_code
def yM_corrupt : MethodName := ⟨"SliceVotingModel", "corrupt", "(I)Z"⟩
abbrev cM_choice : ByteArray := prog_5_method_27_code
def yM_choice : MethodName := ⟨"SliceVotingModel", "choice", "(II)I"⟩
abbrev cM_propose : ByteArray := prog_5_method_28_code
def yM_propose : MethodName := ⟨"SliceVotingModel", "propose", "(III)I"⟩
abbrev cM_deliver : ByteArray := prog_5_method_29_code
def yM_deliver : MethodName := ⟨"SliceVotingModel", "deliver", "(II)Z"⟩
abbrev cM_say : ByteArray := prog_5_method_30_code
def yM_say : MethodName := ⟨"SliceVotingModel", "say", "(IIII)Z"⟩
abbrev cM_voted : ByteArray := prog_5_method_31_code
def yM_voted : MethodName := ⟨"SliceVotingModel", "voted", "(I)I"⟩
abbrev cM_accepted : ByteArray := prog_5_method_32_code
def yM_accepted : MethodName := ⟨"SliceVotingModel", "accepted", "(I)I"⟩
abbrev cM_confirmed : ByteArray := prog_5_method_33_code
def yM_confirmed : MethodName := ⟨"SliceVotingModel", "confirmed", "(I)I"⟩
abbrev cM_counter : ByteArray := prog_5_method_34_code
def yM_counter : MethodName := ⟨"SliceVotingModel", "counter", "(I)I"⟩
abbrev cM_value : ByteArray := prog_5_method_35_code
def yM_value : MethodName := ⟨"SliceVotingModel", "value", "(I)I"⟩
abbrev cM_decided : ByteArray := prog_5_method_36_code
def yM_decided : MethodName := ⟨"SliceVotingModel", "decided", "(I)I"⟩
abbrev cM_known : ByteArray := prog_5_method_37_code
def yM_known : MethodName := ⟨"SliceVotingModel", "known", "(IIZ)I"⟩
abbrev cN_init : ByteArray := prog_2_method_1_code
def yN_init : MethodName := ⟨"SliceVoting$Node", "<init>", "(II)V"⟩
abbrev cQ_init : ByteArray := prog_3_method_1_code
def yQ_init : MethodName := ⟨"SliceVoting$Quota", "<init>", "(LSliceVoting$Node;II)V"⟩
abbrev cL_cell : ByteArray := method_2_code
def yL_cell : MethodName := ⟨"SliceVotingLaw", "cell", "([II)I"⟩
abbrev cL_law : ByteArray := code
def yL_law : MethodName := ⟨"SliceVotingLaw", "law", "([I)Z"⟩
abbrev cJ_bitCount : ByteArray := prog_6_method_49_code
def yJ_bitCount : MethodName := ⟨"java/lang/Integer", "bitCount", "(I)I"⟩
