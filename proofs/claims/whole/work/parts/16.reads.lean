section SvReads
variable {p : Program} {l : Launch} {e : Env} {R : Room} {s : State} {m : MethodId} {args : Array Value} {below : List Frame} {meth : Method} {c : Code} {H H0 : Heap} {locs : List Loc} {cells slots : Nat} {Q : State → Prop}
variable {cc : ByteArray} {pc nL k : Nat} {ls : Array Slot} {lv : List (Nat × Value)} {rest : List Value} {D : va_G} {cI cZ cN cQ : ClassId} {n qc : Nat} {ad : Nat → Nat} {σ : Sg} {A : Nat → Prop} {mt qm : Nat → Int32}
theorem sv_ka_self (σ : Sg) (v : Nat) : sv_ka σ v v = σ 11 v := if_pos rfl
theorem sv_kv_self (σ : Sg) (v : Nat) : sv_kv σ v v = σ 10 v := if_pos rfl
theorem sv_BV_or (σ : Sg) (n v t : Nat) : sv_said (sv_kv σ v) t n ||| sv_said (sv_ka σ v) t n = sv_BV σ n v t := by
  apply Nat.eq_of_testBit_eq
  intro w
  unfold sv_BV
  rw [Nat.testBit_or, sv_said_bit, sv_said_bit, sv_said_bit, b_or]
  cases decide (w < n) <;> cases bt (sv_ka σ v w) t <;> cases bt (sv_kv σ v w) t <;> rfl
theorem sv_mC_eq {σ : Sg} {n qc v t : Nat} : sv_mC σ n qc v t = (!bt (σ 12 v) t && (sv_un σ n qc (sv_BA σ n v t)).testBit v) := by
  unfold sv_mC
  cases e : (sv_un σ n qc (sv_BA σ n v t)).testBit v with
  | false => simp
  | true =>
    have h := sv_un_sub v e
    unfold sv_BA at h
    rw [sv_said_bit, Bool.and_eq_true, sv_ka_self] at h
    rw [h.2]
    simp
theorem sv_m1lt {j : Nat} (hj : j ≤ 24) : nI j - 1 < 0 ↔ j = 0 := by
  constructor
  · intro h
    cases j with
    | zero => rfl
    | succ i => rw [nI_pred] at h; exact absurd h (nI_pos (by omega))
  · rintro rfl
    decide
theorem sv_dec1 (i : Nat) : nI i + Int32.ofInt (-1) = nI i - 1 := by rw [Int32.sub_eq_add_neg]; rfl
/-- what a reader answers: f of a node, else d -/
def sv_rd (n : Nat) (f : Nat → Int32) (d v : Int32) : Int32 := bif sv_isn n v then f v.toNatClampNeg else d
theorem sv_rd_t {n j : Nat} {f : Nat → Int32} {d : Int32} (hn : n ≤ 24) (h : j < n) : sv_rd n f d (nI j) = f j := by
  unfold sv_rd
  rw [sv_isn_nI hn h, nI_clamp (by omega)]
  rfl
theorem sv_rd_f {n : Nat} {f : Nat → Int32} {d v : Int32} (h : sv_isn n v = false) : sv_rd n f d v = d := by
  unfold sv_rd
  rw [h]
  rfl
def sv_knw (n : Nat) (σ : Sg) (v w : Int32) (B : Bool) : Int32 := bif sv_isn n v && sv_isn n w then (bif B then sv_ka σ v.toNatClampNeg w.toNatClampNeg else sv_kv σ v.toNatClampNeg w.toNatClampNeg) else 0
theorem sv_set_of {n : Nat} {x : Int32} (h : decide (sv_N x < 2 ^ n) = true) : ∃ S, S < 2 ^ n ∧ x = nI S := ⟨sv_N x, of_decide_eq_true h, (sv_nI_N x).symm⟩
theorem sv_N_of {n S : Nat} (hn : n ≤ 6) (h : S < 2 ^ n) : sv_N (nI S) = S := sv_N_nI (Nat.lt_trans (sv_big hn h) (by decide))
def sv_itw (σ : Sg) (n qc v w : Nat) : Bool := sv_all (fun p => sv_all (fun q => !(sv_quo σ n qc p && sv_quo σ n qc q && p.testBit v && q.testBit w) || decide (p &&& q &&& sv_wbN σ n ≠ 0)) (2 ^ n)) (2 ^ n)
theorem sv_itw_f {σ : Sg} {n qc v w p : Nat} (hp : p < 2 ^ n) (h1 : p.testBit v = true) (h2 : sv_quo σ n qc p = true) (h3 : (sv_un σ n qc ((2 ^ n - 1) ^^^ (p &&& sv_wbN σ n))).testBit w = true) : sv_itw σ n qc v w = false := by
  obtain ⟨q, a1, a2, a3, a4⟩ := sv_un_bit.mp h3
  cases e : sv_itw σ n qc v w with
  | false => rfl
  | true =>
    unfold sv_itw at e
    have e2 := (sv_all_iff _).mp ((sv_all_iff _).mp e p hp) q a1
    rw [h2, a3, h1, a4] at e2
    simp only [Bool.and_self, Bool.not_true, Bool.false_or, decide_eq_true_eq] at e2
    refine absurd ?_ e2
    refine Nat.eq_of_testBit_eq fun i => ?_
    rw [Nat.testBit_and, Nat.testBit_and, Nat.zero_testBit]
    cases b1 : q.testBit i with
    | false => simp
    | true =>
      have b2 := a2 i b1
      rw [Nat.testBit_xor, sv_p2, Nat.testBit_and] at b2
      have hi := sv_bit_lt a1 b1
      rw [decide_eq_true hi] at b2
      cases b3 : p.testBit i <;> cases b4 : (sv_wbN σ n).testBit i <;> simp_all
theorem sv_itw_t {σ : Sg} {n qc v w : Nat} (h : ∀ p, p < 2 ^ n → (p.testBit v && sv_quo σ n qc p && (sv_un σ n qc ((2 ^ n - 1) ^^^ (p &&& sv_wbN σ n))).testBit w) = false) : sv_itw σ n qc v w = true := by
  unfold sv_itw
  refine (sv_all_iff _).mpr fun p hp => (sv_all_iff _).mpr fun q hq => ?_
  cases e1 : sv_quo σ n qc p with
  | false => rfl
  | true =>
    cases e2 : sv_quo σ n qc q with
    | false => rfl
    | true =>
      cases e3 : p.testBit v with
      | false => rfl
      | true =>
        cases e4 : q.testBit w with
        | false => rfl
        | true =>
          have h0 := h p hp
          rw [e1, e3] at h0
          simp only [Bool.and_self, Bool.not_true, Bool.false_or, decide_eq_true_eq, Bool.true_and]
          intro hz
          have : (sv_un σ n qc ((2 ^ n - 1) ^^^ (p &&& sv_wbN σ n))).testBit w = true := sv_un_bit.mpr ⟨q, hq, fun i hi => by
            have hin := sv_bit_lt hq hi
            rw [Nat.testBit_xor, sv_p2, Nat.testBit_and, decide_eq_true hin]
            have hz2 : (p &&& q &&& sv_wbN σ n).testBit i = false := by rw [hz, Nat.zero_testBit]
            rw [Nat.testBit_and, Nat.testBit_and, hi] at hz2
            cases b3 : p.testBit i <;> cases b4 : (sv_wbN σ n).testBit i <;> simp_all, e2, e4⟩
          rw [this] at h0
          cases h0
set_option maxHeartbeats 4000000 in
set_option maxRecDepth 100000 in
theorem wS_mayAccept (X : sv_X D cI cZ cN cQ "SliceVoting" cS_mayAccept 6 7 p R s m args c) (hP : sv_cP D cI cN cQ n qc ad σ H) {v t : Nat} (hn : n ≤ 6) (hI : sv_IQ n qc σ) (hv : v < n) (ht : t < 24) (hl : lv_has ls 6 [(0, .ref (ad 0)), (1, .ref (ad (2 + 3 * v))), (2, .int (nI t))]) (ret : ∀ (pc : Nat) (ls : Array Slot), decode cS_mayAccept pc = .ok (.ireturn, 1) → W p l e R s m args below meth c H locs 0 0 Q (F0 m pc ls [.int (sv_b (sv_mA σ n qc v t))])) : W p l e R s m args below meth c H locs 0 0 Q (F0 m 0 ls []) := by
  have hx := X.1
  have hb := X.2.1
  refine lv_aload_n (i := 1) hx hb dS_mayAccept_0 rfl (sv_at hl rfl) ?_
  refine gN_knownAccepts X hP (by omega) dS_mayAccept_1 ?_
  refine lv_aload_n (i := 1) hx hb dS_mayAccept_4 rfl (sv_at hl rfl) ?_
  refine gN_number X hP (by omega) dS_mayAccept_5 ?_
  refine gI_C X hP hn (by omega) (by omega) dS_mayAccept_8 ?_
  refine x_tv (sv_ka_self σ v) ?_
  refine lv_istore_n (i := 3) hx hb dS_mayAccept_9 rfl hl (by decide) rfl (fun ls hl => ?_)
  refine lv_iload_n (i := 3) hx hb dS_mayAccept_10 rfl (sv_at hl rfl) ?_
  refine lv_iload_n (i := 2) hx hb dS_mayAccept_11 rfl (sv_at hl rfl) ?_
  refine kS_has X (by decide) (by omega) hl (Nat.zero_le _) (Nat.zero_le _) (Nat.le_of_ble_eq_true rfl) dS_mayAccept_12 ?_
  refine x_ifneB (tgt := 26) hx hb dS_mayAccept_15 rfl (fun h15 => ?_) (fun h15 => ?_)
  · skip
    refine lv_iconst (v := 0) hx hb dS_mayAccept_26 (by decide) ?_
    exact x_tv (by unfold sv_mA; first | (rw [h68, h58, h15, h23]; rfl) | (rw [h58, h15, h23]; rfl) | (rw [h23, h15]; rfl) | (rw [h15]; rfl)) (ret _ _ dS_mayAccept_27)
  · skip
    refine lv_iload_n (i := 2) hx hb dS_mayAccept_18 rfl (sv_at hl rfl) ?_
    refine lv_iload_n (i := 3) hx hb dS_mayAccept_19 rfl (sv_at hl rfl) ?_
    refine kS_contradictsOneOf X (by decide) (by omega) hl (Nat.zero_le _) (Nat.zero_le _) (Nat.le_of_ble_eq_true rfl) dS_mayAccept_20 ?_
    refine x_ifeqB (tgt := 28) hx hb dS_mayAccept_23 rfl (fun h23 => ?_) (fun h23 => ?_)
    · skip
      refine lv_aload_n (i := 1) hx hb dS_mayAccept_28 rfl (sv_at hl rfl) ?_
      refine gN_knownAccepts X hP (by omega) dS_mayAccept_29 ?_
      refine lv_iload_n (i := 2) hx hb dS_mayAccept_32 rfl (sv_at hl rfl) ?_
      refine kS_nodesThatSaid X (by decide) hP hn (by omega) (sv_ce_C hv) ht hl (Nat.zero_le _) (Nat.zero_le _) (Nat.le_of_ble_eq_true rfl) dS_mayAccept_33 ?_
      refine lv_istore (i := 4) hx hb dS_mayAccept_36 hl (by decide) rfl (fun ls hl => ?_)
      refine lv_aload_n (i := 1) hx hb dS_mayAccept_38 rfl (sv_at hl rfl) ?_
      refine gN_knownVotes X hP (by omega) dS_mayAccept_39 ?_
      refine lv_iload_n (i := 2) hx hb dS_mayAccept_42 rfl (sv_at hl rfl) ?_
      refine kS_nodesThatSaid X (by decide) hP hn (by omega) (sv_ce_V hv) ht hl (Nat.zero_le _) (Nat.zero_le _) (Nat.le_of_ble_eq_true rfl) dS_mayAccept_43 ?_
      refine lv_istore (i := 5) hx hb dS_mayAccept_46 hl (by decide) rfl (fun ls hl => ?_)
      refine lv_aload_n (i := 0) hx hb dS_mayAccept_48 rfl (sv_at hl rfl) ?_
      refine lv_aload_n (i := 1) hx hb dS_mayAccept_49 rfl (sv_at hl rfl) ?_
      refine lv_iload (i := 5) hx hb dS_mayAccept_50 (sv_at hl rfl) ?_
      refine lv_iload (i := 4) hx hb dS_mayAccept_52 (sv_at hl rfl) ?_
      refine lv_ior hx hb dS_mayAccept_54 ?_
      refine x_tv (y := nI (sv_BV σ n v t)) (by rw [sv_nor, sv_BV_or]) ?_
      refine kS_isInQuorumWithin X (by decide) hP hn hI (by omega) (sv_said_lt n) hl (Nat.zero_le _) (Nat.zero_le _) (Nat.le_of_ble_eq_true rfl) dS_mayAccept_55 ?_
      refine x_ifneB (tgt := 71) hx hb dS_mayAccept_58 rfl (fun h58 => ?_) (fun h58 => ?_)
      · skip
        refine lv_iconst (v := 1) hx hb dS_mayAccept_71 (by decide) ?_
        refine lv_goto (tgt := 76) hx hb dS_mayAccept_72 rfl ?_
        exact x_tv (by unfold sv_mA; first | (rw [h68, h58, h15, h23]; rfl) | (rw [h58, h15, h23]; rfl) | (rw [h23, h15]; rfl) | (rw [h15]; rfl)) (ret _ _ dS_mayAccept_76)
      · skip
        refine lv_aload_n (i := 0) hx hb dS_mayAccept_61 rfl (sv_at hl rfl) ?_
        refine lv_aload_n (i := 1) hx hb dS_mayAccept_62 rfl (sv_at hl rfl) ?_
        refine lv_iload (i := 4) hx hb dS_mayAccept_63 (sv_at hl rfl) ?_
        refine kS_isBlockedBy X (by decide) hP hn hI (by omega) (sv_said_lt n) hl (Nat.zero_le _) (Nat.zero_le _) (Nat.le_of_ble_eq_true rfl) dS_mayAccept_65 ?_
        refine x_ifeqB (tgt := 75) hx hb dS_mayAccept_68 rfl (fun h68 => ?_) (fun h68 => ?_)
        · skip
          have h68 : sv_blk σ n qc (sv_BA σ n v t) v = false := h68
          refine lv_iconst (v := 0) hx hb dS_mayAccept_75 (by decide) ?_
          exact x_tv (by unfold sv_mA; first | (rw [h68, h58, h15, h23]; rfl) | (rw [h58, h15, h23]; rfl) | (rw [h23, h15]; rfl) | (rw [h15]; rfl)) (ret _ _ dS_mayAccept_76)
        · skip
          have h68 : sv_blk σ n qc (sv_BA σ n v t) v = true := h68
          refine lv_iconst (v := 1) hx hb dS_mayAccept_71 (by decide) ?_
          refine lv_goto (tgt := 76) hx hb dS_mayAccept_72 rfl ?_
          exact x_tv (by unfold sv_mA; first | (rw [h68, h58, h15, h23]; rfl) | (rw [h58, h15, h23]; rfl) | (rw [h23, h15]; rfl) | (rw [h15]; rfl)) (ret _ _ dS_mayAccept_76)
    · skip
      refine lv_iconst (v := 0) hx hb dS_mayAccept_26 (by decide) ?_
      exact x_tv (by unfold sv_mA; first | (rw [h68, h58, h15, h23]; rfl) | (rw [h58, h15, h23]; rfl) | (rw [h23, h15]; rfl) | (rw [h15]; rfl)) (ret _ _ dS_mayAccept_27)

theorem cS_m_mayAccept {v t : Nat} (hn : n ≤ 6) (hI : sv_IQ n qc σ) (hv : v < n) (ht : t < 24) : Met l yS_mayAccept (sv_ws yS_mayAccept cS_mayAccept 6 (some .boolean)) (sv_rm 7) (sv_Pc D cI cZ cN cQ [.ref (ad 0), .ref (ad (2 + 3 * v)), .int (nI t)] (fun H => sv_cP D cI cN cQ n qc ad σ H)) (vp_Si (fun zz => zz = sv_b (sv_mA σ n qc v t))) 0 0 (fun _ => False) :=
  sv_mkR (by decide) (by show 3 ≤ 6; decide) (sv_narb _) (fun p e s m below meth c ls Q X hP hl ret => wS_mayAccept X hP hn hI hv ht hl ret)
theorem okS_S_mayAccept : sv_okV "SliceVoting" 191 yS_mayAccept cS_mayAccept 6 (some .boolean) 2 := ⟨sv_tb_t 195 rfl rfl, sv_tb_t 192 rfl rfl, sv_tb_t 194 rfl rfl, sv_tb_s 8 rfl rfl, sv_tb_t 1 rfl rfl, ⟨by decide, by decide, by decide +kernel⟩, by decide⟩
theorem kS_mayAccept (X : sv_X D cI cZ cN cQ "SliceVoting" cc nL k p R s m args c) (hk : 7 + 1 ≤ k) (hP : sv_cP D cI cN cQ n qc ad σ H) {v t : Nat} (hn : n ≤ 6) (hI : sv_IQ n qc σ) (hv : v < n) (ht : t < 24) (hl : lv_has ls nL lv) (hc : cells ≤ R.cells) (hs : slots ≤ R.slots) (hcat : (rest.map fun v => v.category).sum ≤ 8) (hd : decode cc pc = .ok (.invokevirtual 191, 3)) (kk : W p l e R s m args below meth c H locs cells slots Q (F0 m (pc + 3) ls (.int (sv_b (sv_mA σ n qc v t)) :: rest))) : W p l e R s m args below meth c H locs cells slots Q (F0 m pc ls (.int (nI t) :: .ref (ad (2 + 3 * v)) :: .ref (ad 0) :: rest)) :=
  sv_cV (G := fun H => sv_cP D cI cN cQ n qc ad σ H) X okS_S_mayAccept (cS_m_mayAccept hn hI hv ht) hP (y_rec X.K hP (by omega) sv_ce_S rfl) hk rfl hl.1 rfl hcat hc hs hd kk
set_option maxHeartbeats 4000000 in
set_option maxRecDepth 100000 in
theorem wS_mayConfirm (X : sv_X D cI cZ cN cQ "SliceVoting" cS_mayConfirm 3 7 p R s m args c) (hP : sv_cP D cI cN cQ n qc ad σ H) {v t : Nat} (hn : n ≤ 6) (hI : sv_IQ n qc σ) (hv : v < n) (ht : t < 24) (hl : lv_has ls 3 [(0, .ref (ad 0)), (1, .ref (ad (2 + 3 * v))), (2, .int (nI t))]) (ret : ∀ (pc : Nat) (ls : Array Slot), decode cS_mayConfirm pc = .ok (.ireturn, 1) → W p l e R s m args below meth c H locs 0 0 Q (F0 m pc ls [.int (sv_b (sv_mC σ n qc v t))])) : W p l e R s m args below meth c H locs 0 0 Q (F0 m 0 ls []) := by
  have hx := X.1
  have hb := X.2.1
  refine lv_aload_n (i := 1) hx hb dS_mayConfirm_0 rfl (sv_at hl rfl) ?_
  refine gN_confirmed X hP (by omega) dS_mayConfirm_1 ?_
  refine lv_iload_n (i := 2) hx hb dS_mayConfirm_4 rfl (sv_at hl rfl) ?_
  refine kS_has X (by decide) (by omega) hl (Nat.zero_le _) (Nat.zero_le _) (Nat.le_of_ble_eq_true rfl) dS_mayConfirm_5 ?_
  refine x_ifneB (tgt := 31) hx hb dS_mayConfirm_8 rfl (fun h8 => ?_) (fun h8 => ?_)
  · skip
    refine lv_iconst (v := 0) hx hb dS_mayConfirm_31 (by decide) ?_
    exact x_tv (by rw [sv_mC_eq]; first | (rw [h24, h8]; rfl) | (rw [h8]; rfl)) (ret _ _ dS_mayConfirm_32)
  · skip
    refine lv_aload_n (i := 0) hx hb dS_mayConfirm_11 rfl (sv_at hl rfl) ?_
    refine lv_aload_n (i := 1) hx hb dS_mayConfirm_12 rfl (sv_at hl rfl) ?_
    refine lv_aload_n (i := 1) hx hb dS_mayConfirm_13 rfl (sv_at hl rfl) ?_
    refine gN_knownAccepts X hP (by omega) dS_mayConfirm_14 ?_
    refine lv_iload_n (i := 2) hx hb dS_mayConfirm_17 rfl (sv_at hl rfl) ?_
    refine kS_nodesThatSaid X (by decide) hP hn (by omega) (sv_ce_C hv) ht hl (Nat.zero_le _) (Nat.zero_le _) (Nat.le_of_ble_eq_true rfl) dS_mayConfirm_18 ?_
    refine kS_isInQuorumWithin X (by decide) hP hn hI (by omega) (sv_said_lt n) hl (Nat.zero_le _) (Nat.zero_le _) (Nat.le_of_ble_eq_true rfl) dS_mayConfirm_21 ?_
    refine x_ifeqB (tgt := 31) hx hb dS_mayConfirm_24 rfl (fun h24 => ?_) (fun h24 => ?_)
    · skip
      have h24 : (sv_un σ n qc (sv_BA σ n v t)).testBit v = false := h24
      refine lv_iconst (v := 0) hx hb dS_mayConfirm_31 (by decide) ?_
      exact x_tv (by rw [sv_mC_eq]; first | (rw [h24, h8]; rfl) | (rw [h8]; rfl)) (ret _ _ dS_mayConfirm_32)
    · skip
      have h24 : (sv_un σ n qc (sv_BA σ n v t)).testBit v = true := h24
      refine lv_iconst (v := 1) hx hb dS_mayConfirm_27 (by decide) ?_
      refine lv_goto (tgt := 32) hx hb dS_mayConfirm_28 rfl ?_
      exact x_tv (by rw [sv_mC_eq]; first | (rw [h24, h8]; rfl) | (rw [h8]; rfl)) (ret _ _ dS_mayConfirm_32)

theorem cS_m_mayConfirm {v t : Nat} (hn : n ≤ 6) (hI : sv_IQ n qc σ) (hv : v < n) (ht : t < 24) : Met l yS_mayConfirm (sv_ws yS_mayConfirm cS_mayConfirm 3 (some .boolean)) (sv_rm 7) (sv_Pc D cI cZ cN cQ [.ref (ad 0), .ref (ad (2 + 3 * v)), .int (nI t)] (fun H => sv_cP D cI cN cQ n qc ad σ H)) (vp_Si (fun zz => zz = sv_b (sv_mC σ n qc v t))) 0 0 (fun _ => False) :=
  sv_mkR (by decide) (by show 3 ≤ 3; decide) (sv_narb _) (fun p e s m below meth c ls Q X hP hl ret => wS_mayConfirm X hP hn hI hv ht hl ret)
theorem okS_S_mayConfirm : sv_okV "SliceVoting" 201 yS_mayConfirm cS_mayConfirm 3 (some .boolean) 2 := ⟨sv_tb_t 227 rfl rfl, sv_tb_t 224 rfl rfl, sv_tb_t 226 rfl rfl, sv_tb_s 13 rfl rfl, sv_tb_t 1 rfl rfl, ⟨by decide, by decide, by decide +kernel⟩, by decide⟩
theorem kS_mayConfirm (X : sv_X D cI cZ cN cQ "SliceVoting" cc nL k p R s m args c) (hk : 7 + 1 ≤ k) (hP : sv_cP D cI cN cQ n qc ad σ H) {v t : Nat} (hn : n ≤ 6) (hI : sv_IQ n qc σ) (hv : v < n) (ht : t < 24) (hl : lv_has ls nL lv) (hc : cells ≤ R.cells) (hs : slots ≤ R.slots) (hcat : (rest.map fun v => v.category).sum ≤ 8) (hd : decode cc pc = .ok (.invokevirtual 201, 3)) (kk : W p l e R s m args below meth c H locs cells slots Q (F0 m (pc + 3) ls (.int (sv_b (sv_mC σ n qc v t)) :: rest))) : W p l e R s m args below meth c H locs cells slots Q (F0 m pc ls (.int (nI t) :: .ref (ad (2 + 3 * v)) :: .ref (ad 0) :: rest)) :=
  sv_cV (G := fun H => sv_cP D cI cN cQ n qc ad σ H) X okS_S_mayConfirm (cS_m_mayConfirm hn hI hv ht) hP (y_rec X.K hP (by omega) sv_ce_S rfl) hk rfl hl.1 rfl hcat hc hs hd kk
set_option maxHeartbeats 4000000 in
set_option maxRecDepth 100000 in
theorem wS_valueToPropose (X : sv_X D cI cZ cN cQ "SliceVoting" cS_valueToPropose 3 2 p R s m args c) (hP : sv_cP D cI cN cQ n qc ad σ H) {v : Nat} {x : Int32} (hn : n ≤ 6) (hIS : sv_IS n σ) (hv : v < n) (hl : lv_has ls 3 [(0, .ref (ad (2 + 3 * v))), (1, .int x)]) (ret : ∀ (pc : Nat) (ls : Array Slot), decode cS_valueToPropose pc = .ok (.ireturn, 1) → W p l e R s m args below meth c H locs 0 0 Q (F0 m pc ls [.int (sv_chr σ v x)])) : W p l e R s m args below meth c H locs 0 0 Q (F0 m 0 ls []) := by
  have hx := X.1
  have hb := X.2.1
  have J39 : ∀ (kf : Nat) (j : Nat) (ls : Array Slot), j < kf → (j ≤ 12) → (∀ t, 12 ≤ t → t < 24 → bt (σ 11 v) t = false) → (∀ t, j ≤ t → t < 12 → bt (σ 12 v) t = false) → lv_has ls 3 [(0, .ref (ad (2 + 3 * v))), (1, .int x), (2, .int (nI j - 1))] → W p l e R s m args below meth c H locs 0 0 Q (F0 m 39 ls []) := by
    intro kf
    induction kf with
    | zero => intro j ls hm; exact absurd hm (Nat.not_lt_zero _)
    | succ kf ih =>
      intro j ls hm hj hno hnc hl
      refine lv_iload_n (i := 2) hx hb dS_valueToPropose_39 rfl (sv_at hl rfl) ?_
      refine lv_if_lt (tgt := 65) hx hb dS_valueToPropose_40 rfl (fun h40 => ?_) (fun h40 => ?_)
      · skip
        rw [sv_m1lt (by omega)] at h40
        subst h40
        refine lv_iload_n (i := 1) hx hb dS_valueToPropose_65 rfl (sv_at hl rfl) ?_
        exact x_tv (by rw [sv_chr_none x hno, sv_last_no 12 (fun t h => hnc t (Nat.zero_le _) h)]) (ret _ _ dS_valueToPropose_66)
      · skip
        rw [sv_m1lt (by omega)] at h40
        obtain ⟨i, rfl⟩ : ∃ i, j = i + 1 := ⟨j - 1, by omega⟩
        rw [nI_pred] at hl
        refine lv_aload_n (i := 0) hx hb dS_valueToPropose_43 rfl (sv_at hl rfl) ?_
        refine gN_confirmed X hP (by omega) dS_valueToPropose_44 ?_
        refine lv_iload_n (i := 2) hx hb dS_valueToPropose_47 rfl (sv_at hl rfl) ?_
        refine kS_has X (by decide) (by omega) hl (Nat.zero_le _) (Nat.zero_le _) (Nat.le_of_ble_eq_true rfl) dS_valueToPropose_48 ?_
        refine x_ifeqB (tgt := 59) hx hb dS_valueToPropose_51 rfl (fun h51 => ?_) (fun h51 => ?_)
        · skip
          refine x_iinc (i := 2) hx hb dS_valueToPropose_59 hl rfl (sv_dec1 i) (by decide) (fun ls hl => ?_)
          refine lv_goto (tgt := 39) hx hb dS_valueToPropose_62 rfl ?_
          exact ih i ls (by omega) (by omega) hno (fun t a b => by by_cases q : t = i; (rw [q]; exact h51); exact hnc t (by omega) b) (sv_re hl ⟨rfl, rfl, rfl, trivial⟩)
        · skip
          refine lv_iload_n (i := 2) hx hb dS_valueToPropose_54 rfl (sv_at hl rfl) ?_
          refine kS_valueOf X (by decide) (by omega) hl (Nat.zero_le _) (Nat.zero_le _) (Nat.le_of_ble_eq_true rfl) dS_valueToPropose_55 ?_
          exact x_tv (by rw [sv_chr_none x hno, sv_last_is 12 (show i < 12 by omega) h51 (fun t a b => hnc t (by omega) b)]) (ret _ _ dS_valueToPropose_58)
  have J3 : ∀ (kf : Nat) (i : Nat) (ls : Array Slot), 24 - i < kf → (12 ≤ i ∧ i ≤ 24) → (∀ t, 12 ≤ t → t < i → bt (σ 11 v) t = false) → lv_has ls 3 [(0, .ref (ad (2 + 3 * v))), (1, .int x), (2, .int (nI i))] → W p l e R s m args below meth c H locs 0 0 Q (F0 m 3 ls []) := by
    intro kf
    induction kf with
    | zero => intro i ls hm; exact absurd hm (Nat.not_lt_zero _)
    | succ kf ih =>
      intro i ls hm hi hno hl
      refine lv_iload_n (i := 2) hx hb dS_valueToPropose_3 rfl (sv_at hl rfl) ?_
      refine lv_bipush (v := nI 24) hx hb dS_valueToPropose_4 (by decide) ?_
      refine lv_icmp_ge (tgt := 36) hx hb dS_valueToPropose_6 rfl (fun h6 => ?_) (fun h6 => ?_)
      · skip
        rw [nI_leI (by omega) (by omega)] at h6
        refine lv_bipush (v := nI 11) hx hb dS_valueToPropose_36 (by decide) ?_
        refine lv_istore_n (i := 2) hx hb dS_valueToPropose_38 rfl hl (by decide) rfl (fun ls hl => ?_)
        exact J39 _ 12 ls (Nat.lt_succ_self _) (by decide) (fun t a b => hno t a (by omega)) (fun t a b => by omega) (sv_re hl ⟨rfl, rfl, rfl, trivial⟩)
      · skip
        rw [nI_leI (by omega) (by omega)] at h6
        refine lv_aload_n (i := 0) hx hb dS_valueToPropose_9 rfl (sv_at hl rfl) ?_
        refine gN_knownAccepts X hP (by omega) dS_valueToPropose_10 ?_
        refine lv_aload_n (i := 0) hx hb dS_valueToPropose_13 rfl (sv_at hl rfl) ?_
        refine gN_number X hP (by omega) dS_valueToPropose_14 ?_
        refine gI_C X hP hn (by omega) (by omega) dS_valueToPropose_17 ?_
        refine x_tv (sv_ka_self σ v) ?_
        refine lv_iload_n (i := 2) hx hb dS_valueToPropose_18 rfl (sv_at hl rfl) ?_
        refine kS_has X (by decide) (by omega) hl (Nat.zero_le _) (Nat.zero_le _) (Nat.le_of_ble_eq_true rfl) dS_valueToPropose_19 ?_
        refine x_ifeqB (tgt := 30) hx hb dS_valueToPropose_22 rfl (fun h22 => ?_) (fun h22 => ?_)
        · skip
          refine x_iinc (i := 2) hx hb dS_valueToPropose_30 hl rfl (sv_inc i) (by decide) (fun ls hl => ?_)
          refine lv_goto (tgt := 3) hx hb dS_valueToPropose_33 rfl ?_
          exact ih (i + 1) ls (by omega) ⟨by omega, by omega⟩ (fun t a b => by by_cases q : t = i; (rw [q]; exact h22); exact hno t a (by omega)) (sv_re hl ⟨rfl, rfl, rfl, trivial⟩)
        · skip
          refine lv_iload_n (i := 2) hx hb dS_valueToPropose_25 rfl (sv_at hl rfl) ?_
          refine kS_valueOf X (by decide) (by omega) hl (Nat.zero_le _) (Nat.zero_le _) (Nat.le_of_ble_eq_true rfl) dS_valueToPropose_26 ?_
          exact x_tv (by rw [sv_chr_fst hIS hv x hi.1 (by omega) h22]) (ret _ _ dS_valueToPropose_29)
  refine lv_bipush (v := nI 12) hx hb dS_valueToPropose_0 (by decide) ?_
  refine lv_istore_n (i := 2) hx hb dS_valueToPropose_2 rfl hl (by decide) rfl (fun ls hl => ?_)
  exact J3 _ 12 ls (Nat.lt_succ_self _) ⟨by decide, by decide⟩ (fun t a b => by omega) (sv_re hl ⟨rfl, rfl, rfl, trivial⟩)

theorem cS_m_valueToPropose {v : Nat} {x : Int32} (hn : n ≤ 6) (hIS : sv_IS n σ) (hv : v < n) : Met l yS_valueToPropose (sv_ws yS_valueToPropose cS_valueToPropose 3 (some .int)) (sv_rm 2) (sv_Pc D cI cZ cN cQ [.ref (ad (2 + 3 * v)), .int x] (fun H => sv_cP D cI cN cQ n qc ad σ H)) (vp_Si (fun zz => zz = sv_chr σ v x)) 0 0 (fun _ => False) :=
  sv_mkR (by decide) (by show 2 ≤ 3; decide) rfl (fun p e s m below meth c ls Q X hP hl ret => wS_valueToPropose X hP hn hIS hv hl ret)
theorem okS_S_valueToPropose : sv_okS "SliceVoting" 76 yS_valueToPropose cS_valueToPropose 3 (some .int) 2 := ⟨sv_tb_t 162 rfl rfl, sv_tb_t 160 rfl rfl, sv_tb_t 161 rfl rfl, sv_tb_t 1 rfl rfl, ⟨by decide, by decide, by decide +kernel⟩, by decide⟩
theorem kS_valueToPropose (X : sv_X D cI cZ cN cQ "SliceVoting" cc nL k p R s m args c) (hk : 2 + 1 ≤ k) (hP : sv_cP D cI cN cQ n qc ad σ H) {v : Nat} {x : Int32} (hn : n ≤ 6) (hIS : sv_IS n σ) (hv : v < n) (hl : lv_has ls nL lv) (hc : cells ≤ R.cells) (hs : slots ≤ R.slots) (hcat : (rest.map fun v => v.category).sum ≤ 8) (hd : decode cc pc = .ok (.invokestatic 76, 3)) (kk : W p l e R s m args below meth c H locs cells slots Q (F0 m (pc + 3) ls (.int (sv_chr σ v x) :: rest))) : W p l e R s m args below meth c H locs cells slots Q (F0 m pc ls (.int x :: .ref (ad (2 + 3 * v)) :: rest)) :=
  sv_cS (G := fun H => sv_cP D cI cN cQ n qc ad σ H) X okS_S_valueToPropose (cS_m_valueToPropose hn hIS hv) hP hk rfl hl.1 rfl hcat hc hs hd kk
set_option maxHeartbeats 4000000 in
set_option maxRecDepth 100000 in
theorem wS_confirmed (X : sv_X D cI cZ cN cQ "SliceVoting" cS_confirmed 2 2 p R s m args c) (hP : sv_cP D cI cN cQ n qc ad σ H) {v : Int32} (hn : n ≤ 6) (hl : lv_has ls 2 [(0, .ref (ad 0)), (1, .int v)]) (ret : ∀ (pc : Nat) (ls : Array Slot), decode cS_confirmed pc = .ok (.ireturn, 1) → W p l e R s m args below meth c H locs 0 0 Q (F0 m pc ls [.int (sv_rd n (σ 12) 0 v)])) : W p l e R s m args below meth c H locs 0 0 Q (F0 m 0 ls []) := by
  have hx := X.1
  have hb := X.2.1
  refine lv_aload_n (i := 0) hx hb dS_confirmed_0 rfl (sv_at hl rfl) ?_
  refine lv_iload_n (i := 1) hx hb dS_confirmed_1 rfl (sv_at hl rfl) ?_
  refine kS_isNode X (by decide) hP  hl (Nat.zero_le _) (Nat.zero_le _) (Nat.le_of_ble_eq_true rfl) dS_confirmed_2 ?_
  refine x_ifeqB (tgt := 20) hx hb dS_confirmed_5 rfl (fun h5 => ?_) (fun h5 => ?_)
  · skip
    refine lv_iconst (v := 0) hx hb dS_confirmed_20 (by decide) ?_
    exact x_tv (by first | (rw [sv_rd_f h5]) | (rw [sv_rd_t (by omega) hj])) (ret _ _ dS_confirmed_21)
  · skip
    obtain ⟨j, hj, rfl⟩ := sv_isn_t (by omega) h5
    refine lv_aload_n (i := 0) hx hb dS_confirmed_8 rfl (sv_at hl rfl) ?_
    refine gS_nodes X hP dS_confirmed_9 ?_
    refine lv_iload_n (i := 1) hx hb dS_confirmed_12 rfl (sv_at hl rfl) ?_
    refine gA_nodes X hP hn (by omega) dS_confirmed_13 ?_
    refine gN_confirmed X hP (by omega) dS_confirmed_14 ?_
    refine lv_goto (tgt := 21) hx hb dS_confirmed_17 rfl ?_
    exact x_tv (by first | (rw [sv_rd_f h5]) | (rw [sv_rd_t (by omega) hj])) (ret _ _ dS_confirmed_21)

theorem cS_m_confirmed {v : Int32} (hn : n ≤ 6) : Met l yS_confirmed (sv_ws yS_confirmed cS_confirmed 2 (some .int)) (sv_rm 2) (sv_Pc D cI cZ cN cQ [.ref (ad 0), .int v] (fun H => sv_cP D cI cN cQ n qc ad σ H)) (vp_Si (fun zz => zz = sv_rd n (σ 12) 0 v)) 0 0 (fun _ => False) :=
  sv_mkR (by decide) (by show 2 ≤ 2; decide) rfl (fun p e s m below meth c ls Q X hP hl ret => wS_confirmed X hP hn hl ret)
theorem okL_S_confirmed : sv_okV "SliceVotingLaw" 58 yS_confirmed cS_confirmed 2 (some .int) 1 := ⟨sv_tb_t 265 rfl rfl, sv_tb_t 262 rfl rfl, sv_tb_t 263 rfl rfl, sv_tb_t 264 rfl rfl, sv_tb_t 1 rfl rfl, ⟨by decide, by decide, by decide +kernel⟩, by decide⟩
theorem kL_confirmed (X : sv_X D cI cZ cN cQ "SliceVotingLaw" cc nL k p R s m args c) (hk : 2 + 1 ≤ k) (hP : sv_cP D cI cN cQ n qc ad σ H) {v : Int32} (hn : n ≤ 6) (hl : lv_has ls nL lv) (hc : cells ≤ R.cells) (hs : slots ≤ R.slots) (hcat : (rest.map fun v => v.category).sum ≤ 8) (hd : decode cc pc = .ok (.invokevirtual 58, 3)) (kk : W p l e R s m args below meth c H locs cells slots Q (F0 m (pc + 3) ls (.int (sv_rd n (σ 12) 0 v) :: rest))) : W p l e R s m args below meth c H locs cells slots Q (F0 m pc ls (.int v :: .ref (ad 0) :: rest)) :=
  sv_cV (G := fun H => sv_cP D cI cN cQ n qc ad σ H) X okL_S_confirmed (cS_m_confirmed hn) hP (y_rec X.K hP (by omega) sv_ce_S rfl) hk rfl hl.1 rfl hcat hc hs hd kk
set_option maxHeartbeats 4000000 in
set_option maxRecDepth 100000 in
theorem wS_counter (X : sv_X D cI cZ cN cQ "SliceVoting" cS_counter 2 2 p R s m args c) (hP : sv_cP D cI cN cQ n qc ad σ H) {v : Int32} (hn : n ≤ 6) (hl : lv_has ls 2 [(0, .ref (ad 0)), (1, .int v)]) (ret : ∀ (pc : Nat) (ls : Array Slot), decode cS_counter pc = .ok (.ireturn, 1) → W p l e R s m args below meth c H locs 0 0 Q (F0 m pc ls [.int (sv_rd n (σ 13) 0 v)])) : W p l e R s m args below meth c H locs 0 0 Q (F0 m 0 ls []) := by
  have hx := X.1
  have hb := X.2.1
  refine lv_aload_n (i := 0) hx hb dS_counter_0 rfl (sv_at hl rfl) ?_
  refine lv_iload_n (i := 1) hx hb dS_counter_1 rfl (sv_at hl rfl) ?_
  refine kS_isNode X (by decide) hP  hl (Nat.zero_le _) (Nat.zero_le _) (Nat.le_of_ble_eq_true rfl) dS_counter_2 ?_
  refine x_ifeqB (tgt := 20) hx hb dS_counter_5 rfl (fun h5 => ?_) (fun h5 => ?_)
  · skip
    refine lv_iconst (v := 0) hx hb dS_counter_20 (by decide) ?_
    exact x_tv (by first | (rw [sv_rd_f h5]) | (rw [sv_rd_t (by omega) hj])) (ret _ _ dS_counter_21)
  · skip
    obtain ⟨j, hj, rfl⟩ := sv_isn_t (by omega) h5
    refine lv_aload_n (i := 0) hx hb dS_counter_8 rfl (sv_at hl rfl) ?_
    refine gS_nodes X hP dS_counter_9 ?_
    refine lv_iload_n (i := 1) hx hb dS_counter_12 rfl (sv_at hl rfl) ?_
    refine gA_nodes X hP hn (by omega) dS_counter_13 ?_
    refine gN_counter X hP (by omega) dS_counter_14 ?_
    refine lv_goto (tgt := 21) hx hb dS_counter_17 rfl ?_
    exact x_tv (by first | (rw [sv_rd_f h5]) | (rw [sv_rd_t (by omega) hj])) (ret _ _ dS_counter_21)

theorem cS_m_counter {v : Int32} (hn : n ≤ 6) : Met l yS_counter (sv_ws yS_counter cS_counter 2 (some .int)) (sv_rm 2) (sv_Pc D cI cZ cN cQ [.ref (ad 0), .int v] (fun H => sv_cP D cI cN cQ n qc ad σ H)) (vp_Si (fun zz => zz = sv_rd n (σ 13) 0 v)) 0 0 (fun _ => False) :=
  sv_mkR (by decide) (by show 2 ≤ 2; decide) rfl (fun p e s m below meth c ls Q X hP hl ret => wS_counter X hP hn hl ret)
theorem okL_S_counter : sv_okV "SliceVotingLaw" 62 yS_counter cS_counter 2 (some .int) 1 := ⟨sv_tb_t 269 rfl rfl, sv_tb_t 266 rfl rfl, sv_tb_t 267 rfl rfl, sv_tb_t 268 rfl rfl, sv_tb_t 1 rfl rfl, ⟨by decide, by decide, by decide +kernel⟩, by decide⟩
theorem kL_counter (X : sv_X D cI cZ cN cQ "SliceVotingLaw" cc nL k p R s m args c) (hk : 2 + 1 ≤ k) (hP : sv_cP D cI cN cQ n qc ad σ H) {v : Int32} (hn : n ≤ 6) (hl : lv_has ls nL lv) (hc : cells ≤ R.cells) (hs : slots ≤ R.slots) (hcat : (rest.map fun v => v.category).sum ≤ 8) (hd : decode cc pc = .ok (.invokevirtual 62, 3)) (kk : W p l e R s m args below meth c H locs cells slots Q (F0 m (pc + 3) ls (.int (sv_rd n (σ 13) 0 v) :: rest))) : W p l e R s m args below meth c H locs cells slots Q (F0 m pc ls (.int v :: .ref (ad 0) :: rest)) :=
  sv_cV (G := fun H => sv_cP D cI cN cQ n qc ad σ H) X okL_S_counter (cS_m_counter hn) hP (y_rec X.K hP (by omega) sv_ce_S rfl) hk rfl hl.1 rfl hcat hc hs hd kk
set_option maxHeartbeats 4000000 in
set_option maxRecDepth 100000 in
theorem wS_value (X : sv_X D cI cZ cN cQ "SliceVoting" cS_value 2 2 p R s m args c) (hP : sv_cP D cI cN cQ n qc ad σ H) {v : Int32} (hn : n ≤ 6) (hl : lv_has ls 2 [(0, .ref (ad 0)), (1, .int v)]) (ret : ∀ (pc : Nat) (ls : Array Slot), decode cS_value pc = .ok (.ireturn, 1) → W p l e R s m args below meth c H locs 0 0 Q (F0 m pc ls [.int (sv_rd n (σ 14) 0 v)])) : W p l e R s m args below meth c H locs 0 0 Q (F0 m 0 ls []) := by
  have hx := X.1
  have hb := X.2.1
  refine lv_aload_n (i := 0) hx hb dS_value_0 rfl (sv_at hl rfl) ?_
  refine lv_iload_n (i := 1) hx hb dS_value_1 rfl (sv_at hl rfl) ?_
  refine kS_isNode X (by decide) hP  hl (Nat.zero_le _) (Nat.zero_le _) (Nat.le_of_ble_eq_true rfl) dS_value_2 ?_
  refine x_ifeqB (tgt := 20) hx hb dS_value_5 rfl (fun h5 => ?_) (fun h5 => ?_)
  · skip
    refine lv_iconst (v := 0) hx hb dS_value_20 (by decide) ?_
    exact x_tv (by first | (rw [sv_rd_f h5]) | (rw [sv_rd_t (by omega) hj])) (ret _ _ dS_value_21)
  · skip
    obtain ⟨j, hj, rfl⟩ := sv_isn_t (by omega) h5
    refine lv_aload_n (i := 0) hx hb dS_value_8 rfl (sv_at hl rfl) ?_
    refine gS_nodes X hP dS_value_9 ?_
    refine lv_iload_n (i := 1) hx hb dS_value_12 rfl (sv_at hl rfl) ?_
    refine gA_nodes X hP hn (by omega) dS_value_13 ?_
    refine gN_value X hP (by omega) dS_value_14 ?_
    refine lv_goto (tgt := 21) hx hb dS_value_17 rfl ?_
    exact x_tv (by first | (rw [sv_rd_f h5]) | (rw [sv_rd_t (by omega) hj])) (ret _ _ dS_value_21)

theorem cS_m_value {v : Int32} (hn : n ≤ 6) : Met l yS_value (sv_ws yS_value cS_value 2 (some .int)) (sv_rm 2) (sv_Pc D cI cZ cN cQ [.ref (ad 0), .int v] (fun H => sv_cP D cI cN cQ n qc ad σ H)) (vp_Si (fun zz => zz = sv_rd n (σ 14) 0 v)) 0 0 (fun _ => False) :=
  sv_mkR (by decide) (by show 2 ≤ 2; decide) rfl (fun p e s m below meth c ls Q X hP hl ret => wS_value X hP hn hl ret)
theorem okL_S_value : sv_okV "SliceVotingLaw" 66 yS_value cS_value 2 (some .int) 1 := ⟨sv_tb_t 273 rfl rfl, sv_tb_t 270 rfl rfl, sv_tb_t 271 rfl rfl, sv_tb_t 272 rfl rfl, sv_tb_t 1 rfl rfl, ⟨by decide, by decide, by decide +kernel⟩, by decide⟩
theorem kL_value (X : sv_X D cI cZ cN cQ "SliceVotingLaw" cc nL k p R s m args c) (hk : 2 + 1 ≤ k) (hP : sv_cP D cI cN cQ n qc ad σ H) {v : Int32} (hn : n ≤ 6) (hl : lv_has ls nL lv) (hc : cells ≤ R.cells) (hs : slots ≤ R.slots) (hcat : (rest.map fun v => v.category).sum ≤ 8) (hd : decode cc pc = .ok (.invokevirtual 66, 3)) (kk : W p l e R s m args below meth c H locs cells slots Q (F0 m (pc + 3) ls (.int (sv_rd n (σ 14) 0 v) :: rest))) : W p l e R s m args below meth c H locs cells slots Q (F0 m pc ls (.int v :: .ref (ad 0) :: rest)) :=
  sv_cV (G := fun H => sv_cP D cI cN cQ n qc ad σ H) X okL_S_value (cS_m_value hn) hP (y_rec X.K hP (by omega) sv_ce_S rfl) hk rfl hl.1 rfl hcat hc hs hd kk
set_option maxHeartbeats 4000000 in
set_option maxRecDepth 100000 in
theorem wS_decided (X : sv_X D cI cZ cN cQ "SliceVoting" cS_decided 2 2 p R s m args c) (hP : sv_cP D cI cN cQ n qc ad σ H) {v : Int32} (hn : n ≤ 6) (hl : lv_has ls 2 [(0, .ref (ad 0)), (1, .int v)]) (ret : ∀ (pc : Nat) (ls : Array Slot), decode cS_decided pc = .ok (.ireturn, 1) → W p l e R s m args below meth c H locs 0 0 Q (F0 m pc ls [.int (sv_rd n (σ 15) (-1) v)])) : W p l e R s m args below meth c H locs 0 0 Q (F0 m 0 ls []) := by
  have hx := X.1
  have hb := X.2.1
  refine lv_aload_n (i := 0) hx hb dS_decided_0 rfl (sv_at hl rfl) ?_
  refine lv_iload_n (i := 1) hx hb dS_decided_1 rfl (sv_at hl rfl) ?_
  refine kS_isNode X (by decide) hP  hl (Nat.zero_le _) (Nat.zero_le _) (Nat.le_of_ble_eq_true rfl) dS_decided_2 ?_
  refine x_ifeqB (tgt := 20) hx hb dS_decided_5 rfl (fun h5 => ?_) (fun h5 => ?_)
  · skip
    refine lv_iconst (v := -1) hx hb dS_decided_20 (by decide) ?_
    exact x_tv (by first | (rw [sv_rd_f h5]) | (rw [sv_rd_t (by omega) hj])) (ret _ _ dS_decided_21)
  · skip
    obtain ⟨j, hj, rfl⟩ := sv_isn_t (by omega) h5
    refine lv_aload_n (i := 0) hx hb dS_decided_8 rfl (sv_at hl rfl) ?_
    refine gS_nodes X hP dS_decided_9 ?_
    refine lv_iload_n (i := 1) hx hb dS_decided_12 rfl (sv_at hl rfl) ?_
    refine gA_nodes X hP hn (by omega) dS_decided_13 ?_
    refine gN_decision X hP (by omega) dS_decided_14 ?_
    refine lv_goto (tgt := 21) hx hb dS_decided_17 rfl ?_
    exact x_tv (by first | (rw [sv_rd_f h5]) | (rw [sv_rd_t (by omega) hj])) (ret _ _ dS_decided_21)

theorem cS_m_decided {v : Int32} (hn : n ≤ 6) : Met l yS_decided (sv_ws yS_decided cS_decided 2 (some .int)) (sv_rm 2) (sv_Pc D cI cZ cN cQ [.ref (ad 0), .int v] (fun H => sv_cP D cI cN cQ n qc ad σ H)) (vp_Si (fun zz => zz = sv_rd n (σ 15) (-1) v)) 0 0 (fun _ => False) :=
  sv_mkR (by decide) (by show 2 ≤ 2; decide) rfl (fun p e s m below meth c ls Q X hP hl ret => wS_decided X hP hn hl ret)
theorem okL_S_decided : sv_okV "SliceVotingLaw" 70 yS_decided cS_decided 2 (some .int) 1 := ⟨sv_tb_t 277 rfl rfl, sv_tb_t 274 rfl rfl, sv_tb_t 275 rfl rfl, sv_tb_t 276 rfl rfl, sv_tb_t 1 rfl rfl, ⟨by decide, by decide, by decide +kernel⟩, by decide⟩
theorem kL_decided (X : sv_X D cI cZ cN cQ "SliceVotingLaw" cc nL k p R s m args c) (hk : 2 + 1 ≤ k) (hP : sv_cP D cI cN cQ n qc ad σ H) {v : Int32} (hn : n ≤ 6) (hl : lv_has ls nL lv) (hc : cells ≤ R.cells) (hs : slots ≤ R.slots) (hcat : (rest.map fun v => v.category).sum ≤ 8) (hd : decode cc pc = .ok (.invokevirtual 70, 3)) (kk : W p l e R s m args below meth c H locs cells slots Q (F0 m (pc + 3) ls (.int (sv_rd n (σ 15) (-1) v) :: rest))) : W p l e R s m args below meth c H locs cells slots Q (F0 m pc ls (.int v :: .ref (ad 0) :: rest)) :=
  sv_cV (G := fun H => sv_cP D cI cN cQ n qc ad σ H) X okL_S_decided (cS_m_decided hn) hP (y_rec X.K hP (by omega) sv_ce_S rfl) hk rfl hl.1 rfl hcat hc hs hd kk
set_option maxHeartbeats 4000000 in
set_option maxRecDepth 100000 in
theorem wS_known (X : sv_X D cI cZ cN cQ "SliceVoting" cS_known 4 2 p R s m args c) (hP : sv_cP D cI cN cQ n qc ad σ H) {v w : Int32} {B : Bool} (hn : n ≤ 6) (hl : lv_has ls 4 [(0, .ref (ad 0)), (1, .int v), (2, .int w), (3, .int (sv_b B))]) (ret : ∀ (pc : Nat) (ls : Array Slot), decode cS_known pc = .ok (.ireturn, 1) → W p l e R s m args below meth c H locs 0 0 Q (F0 m pc ls [.int (sv_knw n σ v w B)])) : W p l e R s m args below meth c H locs 0 0 Q (F0 m 0 ls []) := by
  have hx := X.1
  have hb := X.2.1
  refine lv_aload_n (i := 0) hx hb dS_known_0 rfl (sv_at hl rfl) ?_
  refine lv_iload_n (i := 1) hx hb dS_known_1 rfl (sv_at hl rfl) ?_
  refine kS_isNode X (by decide) hP  hl (Nat.zero_le _) (Nat.zero_le _) (Nat.le_of_ble_eq_true rfl) dS_known_2 ?_
  refine x_ifeqB (tgt := 16) hx hb dS_known_5 rfl (fun h5 => ?_) (fun h5 => ?_)
  · skip
    refine lv_iconst (v := 0) hx hb dS_known_16 (by decide) ?_
    exact x_tv (by unfold sv_knw; first | (rw [h5]; rfl) | (rw [h13, Bool.and_false]; rfl) | (rw [h5, h13, h19, nI_clamp (by omega), nI_clamp (by omega)]; rfl)) (ret _ _ dS_known_17)
  · skip
    refine lv_aload_n (i := 0) hx hb dS_known_8 rfl (sv_at hl rfl) ?_
    refine lv_iload_n (i := 2) hx hb dS_known_9 rfl (sv_at hl rfl) ?_
    refine kS_isNode X (by decide) hP  hl (Nat.zero_le _) (Nat.zero_le _) (Nat.le_of_ble_eq_true rfl) dS_known_10 ?_
    refine x_ifneB (tgt := 18) hx hb dS_known_13 rfl (fun h13 => ?_) (fun h13 => ?_)
    · skip
      obtain ⟨j, hj, rfl⟩ := sv_isn_t (by omega) h5
      obtain ⟨i, hi, rfl⟩ := sv_isn_t (by omega) h13
      refine lv_iload_n (i := 3) hx hb dS_known_18 rfl (sv_at hl rfl) ?_
      refine x_ifeqB (tgt := 36) hx hb dS_known_19 rfl (fun h19 => ?_) (fun h19 => ?_)
      · skip
        refine lv_aload_n (i := 0) hx hb dS_known_36 rfl (sv_at hl rfl) ?_
        refine gS_nodes X hP dS_known_37 ?_
        refine lv_iload_n (i := 1) hx hb dS_known_40 rfl (sv_at hl rfl) ?_
        refine gA_nodes X hP hn (by omega) dS_known_41 ?_
        refine gN_knownVotes X hP (by omega) dS_known_42 ?_
        refine lv_iload_n (i := 2) hx hb dS_known_45 rfl (sv_at hl rfl) ?_
        refine gI_V X hP hn (by omega) (by omega) dS_known_46 ?_
        exact x_tv (by unfold sv_knw; first | (rw [h5]; rfl) | (rw [h13, Bool.and_false]; rfl) | (rw [h5, h13, h19, nI_clamp (by omega), nI_clamp (by omega)]; rfl)) (ret _ _ dS_known_47)
      · skip
        refine lv_aload_n (i := 0) hx hb dS_known_22 rfl (sv_at hl rfl) ?_
        refine gS_nodes X hP dS_known_23 ?_
        refine lv_iload_n (i := 1) hx hb dS_known_26 rfl (sv_at hl rfl) ?_
        refine gA_nodes X hP hn (by omega) dS_known_27 ?_
        refine gN_knownAccepts X hP (by omega) dS_known_28 ?_
        refine lv_iload_n (i := 2) hx hb dS_known_31 rfl (sv_at hl rfl) ?_
        refine gI_C X hP hn (by omega) (by omega) dS_known_32 ?_
        refine lv_goto (tgt := 47) hx hb dS_known_33 rfl ?_
        exact x_tv (by unfold sv_knw; first | (rw [h5]; rfl) | (rw [h13, Bool.and_false]; rfl) | (rw [h5, h13, h19, nI_clamp (by omega), nI_clamp (by omega)]; rfl)) (ret _ _ dS_known_47)
    · skip
      refine lv_iconst (v := 0) hx hb dS_known_16 (by decide) ?_
      exact x_tv (by unfold sv_knw; first | (rw [h5]; rfl) | (rw [h13, Bool.and_false]; rfl) | (rw [h5, h13, h19, nI_clamp (by omega), nI_clamp (by omega)]; rfl)) (ret _ _ dS_known_17)

theorem cS_m_known {v w : Int32} {B : Bool} (hn : n ≤ 6) : Met l yS_known (sv_ws yS_known cS_known 4 (some .int)) (sv_rm 2) (sv_Pc D cI cZ cN cQ [.ref (ad 0), .int v, .int w, .int (sv_b B)] (fun H => sv_cP D cI cN cQ n qc ad σ H)) (vp_Si (fun zz => zz = sv_knw n σ v w B)) 0 0 (fun _ => False) :=
  sv_mkR (by decide) (by show 4 ≤ 4; decide) rfl (fun p e s m below meth c ls Q X hP hl ret => wS_known X hP hn hl ret)
theorem okS_S_known : sv_okV "SliceVoting" 105 yS_known cS_known 4 (some .int) 3 := ⟨sv_tb_t 257 rfl rfl, sv_tb_t 254 rfl rfl, sv_tb_t 255 rfl rfl, sv_tb_t 256 rfl rfl, sv_tb_t 1 rfl rfl, ⟨by decide, by decide, by decide +kernel⟩, by decide⟩
theorem kS_known (X : sv_X D cI cZ cN cQ "SliceVoting" cc nL k p R s m args c) (hk : 2 + 1 ≤ k) (hP : sv_cP D cI cN cQ n qc ad σ H) {v w : Int32} {B : Bool} (hn : n ≤ 6) (hl : lv_has ls nL lv) (hc : cells ≤ R.cells) (hs : slots ≤ R.slots) (hcat : (rest.map fun v => v.category).sum ≤ 8) (hd : decode cc pc = .ok (.invokevirtual 105, 3)) (kk : W p l e R s m args below meth c H locs cells slots Q (F0 m (pc + 3) ls (.int (sv_knw n σ v w B) :: rest))) : W p l e R s m args below meth c H locs cells slots Q (F0 m pc ls (.int (sv_b B) :: .int w :: .int v :: .ref (ad 0) :: rest)) :=
  sv_cV (G := fun H => sv_cP D cI cN cQ n qc ad σ H) X okS_S_known (cS_m_known hn) hP (y_rec X.K hP (by omega) sv_ce_S rfl) hk rfl hl.1 rfl hcat hc hs hd kk
set_option maxHeartbeats 4000000 in
set_option maxRecDepth 100000 in
theorem wS_voted (X : sv_X D cI cZ cN cQ "SliceVoting" cS_voted 2 3 p R s m args c) (hP : sv_cP D cI cN cQ n qc ad σ H) {v : Int32} (hn : n ≤ 6) (hl : lv_has ls 2 [(0, .ref (ad 0)), (1, .int v)]) (ret : ∀ (pc : Nat) (ls : Array Slot), decode cS_voted pc = .ok (.ireturn, 1) → W p l e R s m args below meth c H locs 0 0 Q (F0 m pc ls [.int (sv_rd n (σ 10) 0 v)])) : W p l e R s m args below meth c H locs 0 0 Q (F0 m 0 ls []) := by
  have hx := X.1
  have hb := X.2.1
  refine lv_aload_n (i := 0) hx hb dS_voted_0 rfl (sv_at hl rfl) ?_
  refine lv_iload_n (i := 1) hx hb dS_voted_1 rfl (sv_at hl rfl) ?_
  refine lv_iload_n (i := 1) hx hb dS_voted_2 rfl (sv_at hl rfl) ?_
  refine lv_iconst (v := 0) hx hb dS_voted_3 (by decide) ?_
  refine x_tv (y := sv_b false) rfl ?_
  refine kS_known X (by decide) hP hn hl (Nat.zero_le _) (Nat.zero_le _) (Nat.le_of_ble_eq_true rfl) dS_voted_4 ?_
  exact x_tv (by unfold sv_knw sv_rd; rw [Bool.and_self]; cases sv_isn n v with | false => rfl | true => exact sv_kv_self σ _) (ret _ _ dS_voted_7)

theorem cS_m_voted {v : Int32} (hn : n ≤ 6) : Met l yS_voted (sv_ws yS_voted cS_voted 2 (some .int)) (sv_rm 3) (sv_Pc D cI cZ cN cQ [.ref (ad 0), .int v] (fun H => sv_cP D cI cN cQ n qc ad σ H)) (vp_Si (fun zz => zz = sv_rd n (σ 10) 0 v)) 0 0 (fun _ => False) :=
  sv_mkR (by decide) (by show 2 ≤ 2; decide) rfl (fun p e s m below meth c ls Q X hP hl ret => wS_voted X hP hn hl ret)
theorem okL_S_voted : sv_okV "SliceVotingLaw" 49 yS_voted cS_voted 2 (some .int) 1 := ⟨sv_tb_t 253 rfl rfl, sv_tb_t 250 rfl rfl, sv_tb_t 251 rfl rfl, sv_tb_t 252 rfl rfl, sv_tb_t 1 rfl rfl, ⟨by decide, by decide, by decide +kernel⟩, by decide⟩
theorem kL_voted (X : sv_X D cI cZ cN cQ "SliceVotingLaw" cc nL k p R s m args c) (hk : 3 + 1 ≤ k) (hP : sv_cP D cI cN cQ n qc ad σ H) {v : Int32} (hn : n ≤ 6) (hl : lv_has ls nL lv) (hc : cells ≤ R.cells) (hs : slots ≤ R.slots) (hcat : (rest.map fun v => v.category).sum ≤ 8) (hd : decode cc pc = .ok (.invokevirtual 49, 3)) (kk : W p l e R s m args below meth c H locs cells slots Q (F0 m (pc + 3) ls (.int (sv_rd n (σ 10) 0 v) :: rest))) : W p l e R s m args below meth c H locs cells slots Q (F0 m pc ls (.int v :: .ref (ad 0) :: rest)) :=
  sv_cV (G := fun H => sv_cP D cI cN cQ n qc ad σ H) X okL_S_voted (cS_m_voted hn) hP (y_rec X.K hP (by omega) sv_ce_S rfl) hk rfl hl.1 rfl hcat hc hs hd kk
set_option maxHeartbeats 4000000 in
set_option maxRecDepth 100000 in
theorem wS_accepted (X : sv_X D cI cZ cN cQ "SliceVoting" cS_accepted 2 3 p R s m args c) (hP : sv_cP D cI cN cQ n qc ad σ H) {v : Int32} (hn : n ≤ 6) (hl : lv_has ls 2 [(0, .ref (ad 0)), (1, .int v)]) (ret : ∀ (pc : Nat) (ls : Array Slot), decode cS_accepted pc = .ok (.ireturn, 1) → W p l e R s m args below meth c H locs 0 0 Q (F0 m pc ls [.int (sv_rd n (σ 11) 0 v)])) : W p l e R s m args below meth c H locs 0 0 Q (F0 m 0 ls []) := by
  have hx := X.1
  have hb := X.2.1
  refine lv_aload_n (i := 0) hx hb dS_accepted_0 rfl (sv_at hl rfl) ?_
  refine lv_iload_n (i := 1) hx hb dS_accepted_1 rfl (sv_at hl rfl) ?_
  refine lv_iload_n (i := 1) hx hb dS_accepted_2 rfl (sv_at hl rfl) ?_
  refine lv_iconst (v := 1) hx hb dS_accepted_3 (by decide) ?_
  refine x_tv (y := sv_b true) rfl ?_
  refine kS_known X (by decide) hP hn hl (Nat.zero_le _) (Nat.zero_le _) (Nat.le_of_ble_eq_true rfl) dS_accepted_4 ?_
  exact x_tv (by unfold sv_knw sv_rd; rw [Bool.and_self]; cases sv_isn n v with | false => rfl | true => exact sv_ka_self σ _) (ret _ _ dS_accepted_7)

theorem cS_m_accepted {v : Int32} (hn : n ≤ 6) : Met l yS_accepted (sv_ws yS_accepted cS_accepted 2 (some .int)) (sv_rm 3) (sv_Pc D cI cZ cN cQ [.ref (ad 0), .int v] (fun H => sv_cP D cI cN cQ n qc ad σ H)) (vp_Si (fun zz => zz = sv_rd n (σ 11) 0 v)) 0 0 (fun _ => False) :=
  sv_mkR (by decide) (by show 2 ≤ 2; decide) rfl (fun p e s m below meth c ls Q X hP hl ret => wS_accepted X hP hn hl ret)
theorem okL_S_accepted : sv_okV "SliceVotingLaw" 54 yS_accepted cS_accepted 2 (some .int) 1 := ⟨sv_tb_t 261 rfl rfl, sv_tb_t 258 rfl rfl, sv_tb_t 259 rfl rfl, sv_tb_t 260 rfl rfl, sv_tb_t 1 rfl rfl, ⟨by decide, by decide, by decide +kernel⟩, by decide⟩
theorem kL_accepted (X : sv_X D cI cZ cN cQ "SliceVotingLaw" cc nL k p R s m args c) (hk : 3 + 1 ≤ k) (hP : sv_cP D cI cN cQ n qc ad σ H) {v : Int32} (hn : n ≤ 6) (hl : lv_has ls nL lv) (hc : cells ≤ R.cells) (hs : slots ≤ R.slots) (hcat : (rest.map fun v => v.category).sum ≤ 8) (hd : decode cc pc = .ok (.invokevirtual 54, 3)) (kk : W p l e R s m args below meth c H locs cells slots Q (F0 m (pc + 3) ls (.int (sv_rd n (σ 11) 0 v) :: rest))) : W p l e R s m args below meth c H locs cells slots Q (F0 m pc ls (.int v :: .ref (ad 0) :: rest)) :=
  sv_cV (G := fun H => sv_cP D cI cN cQ n qc ad σ H) X okL_S_accepted (cS_m_accepted hn) hP (y_rec X.K hP (by omega) sv_ce_S rfl) hk rfl hl.1 rfl hcat hc hs hd kk
set_option maxHeartbeats 4000000 in
set_option maxRecDepth 100000 in
theorem wS_quorum (X : sv_X D cI cZ cN cQ "SliceVoting" cS_quorum 2 7 p R s m args c) (hP : sv_cP D cI cN cQ n qc ad σ H) {x : Int32} (hn : n ≤ 6) (hI : sv_IQ n qc σ) (hl : lv_has ls 2 [(0, .ref (ad 0)), (1, .int x)]) (ret : ∀ (pc : Nat) (ls : Array Slot), decode cS_quorum pc = .ok (.ireturn, 1) → W p l e R s m args below meth c H locs 0 0 Q (F0 m pc ls [.int (sv_b (decide (sv_N x < 2 ^ n) && sv_quo σ n qc (sv_N x)))])) : W p l e R s m args below meth c H locs 0 0 Q (F0 m 0 ls []) := by
  have hx := X.1
  have hb := X.2.1
  refine lv_aload_n (i := 0) hx hb dS_quorum_0 rfl (sv_at hl rfl) ?_
  refine lv_iload_n (i := 1) hx hb dS_quorum_1 rfl (sv_at hl rfl) ?_
  refine kS_isSetOfNodes X (by decide) hP hn hl (Nat.zero_le _) (Nat.zero_le _) (Nat.le_of_ble_eq_true rfl) dS_quorum_2 ?_
  refine x_ifeqB (tgt := 20) hx hb dS_quorum_5 rfl (fun h5 => ?_) (fun h5 => ?_)
  · skip
    refine lv_iconst (v := 0) hx hb dS_quorum_20 (by decide) ?_
    exact x_tv (by first | (rw [h5]; rfl) | (rw [decide_eq_true hS, h13]; rfl)) (ret _ _ dS_quorum_21)
  · skip
    obtain ⟨S, hS, rfl⟩ := sv_set_of h5
    rw [sv_N_of hn hS] at ret
    refine lv_aload_n (i := 0) hx hb dS_quorum_8 rfl (sv_at hl rfl) ?_
    refine lv_iload_n (i := 1) hx hb dS_quorum_9 rfl (sv_at hl rfl) ?_
    refine kS_isQuorum X (by decide) hP hn hI (by omega) hl (Nat.zero_le _) (Nat.zero_le _) (Nat.le_of_ble_eq_true rfl) dS_quorum_10 ?_
    refine x_ifeqB (tgt := 20) hx hb dS_quorum_13 rfl (fun h13 => ?_) (fun h13 => ?_)
    · skip
      refine lv_iconst (v := 0) hx hb dS_quorum_20 (by decide) ?_
      exact x_tv (by first | (rw [h5]; rfl) | (rw [decide_eq_true hS, h13]; rfl)) (ret _ _ dS_quorum_21)
    · skip
      refine lv_iconst (v := 1) hx hb dS_quorum_16 (by decide) ?_
      refine lv_goto (tgt := 21) hx hb dS_quorum_17 rfl ?_
      exact x_tv (by first | (rw [h5]; rfl) | (rw [decide_eq_true hS, h13]; rfl)) (ret _ _ dS_quorum_21)

theorem cS_m_quorum {x : Int32} (hn : n ≤ 6) (hI : sv_IQ n qc σ) : Met l yS_quorum (sv_ws yS_quorum cS_quorum 2 (some .boolean)) (sv_rm 7) (sv_Pc D cI cZ cN cQ [.ref (ad 0), .int x] (fun H => sv_cP D cI cN cQ n qc ad σ H)) (vp_Si (fun zz => zz = sv_b (decide (sv_N x < 2 ^ n) && sv_quo σ n qc (sv_N x)))) 0 0 (fun _ => False) :=
  sv_mkR (by decide) (by show 2 ≤ 2; decide) (sv_narb _) (fun p e s m below meth c ls Q X hP hl ret => wS_quorum X hP hn hI hl ret)
theorem okL_S_quorum : sv_okV "SliceVotingLaw" 79 yS_quorum cS_quorum 2 (some .boolean) 1 := ⟨sv_tb_t 282 rfl rfl, sv_tb_t 279 rfl rfl, sv_tb_t 280 rfl rfl, sv_tb_t 281 rfl rfl, sv_tb_t 1 rfl rfl, ⟨by decide, by decide, by decide +kernel⟩, by decide⟩
theorem kL_quorum (X : sv_X D cI cZ cN cQ "SliceVotingLaw" cc nL k p R s m args c) (hk : 7 + 1 ≤ k) (hP : sv_cP D cI cN cQ n qc ad σ H) {x : Int32} (hn : n ≤ 6) (hI : sv_IQ n qc σ) (hl : lv_has ls nL lv) (hc : cells ≤ R.cells) (hs : slots ≤ R.slots) (hcat : (rest.map fun v => v.category).sum ≤ 8) (hd : decode cc pc = .ok (.invokevirtual 79, 3)) (kk : W p l e R s m args below meth c H locs cells slots Q (F0 m (pc + 3) ls (.int (sv_b (decide (sv_N x < 2 ^ n) && sv_quo σ n qc (sv_N x))) :: rest))) : W p l e R s m args below meth c H locs cells slots Q (F0 m pc ls (.int x :: .ref (ad 0) :: rest)) :=
  sv_cV (G := fun H => sv_cP D cI cN cQ n qc ad σ H) X okL_S_quorum (cS_m_quorum hn hI) hP (y_rec X.K hP (by omega) sv_ce_S rfl) hk rfl hl.1 rfl hcat hc hs hd kk
set_option maxHeartbeats 4000000 in
set_option maxRecDepth 100000 in
theorem wS_largest (X : sv_X D cI cZ cN cQ "SliceVoting" cS_largest 2 6 p R s m args c) (hP : sv_cP D cI cN cQ n qc ad σ H) {x : Int32} (hn : n ≤ 6) (hI : sv_IQ n qc σ) (hl : lv_has ls 2 [(0, .ref (ad 0)), (1, .int x)]) (ret : ∀ (pc : Nat) (ls : Array Slot), decode cS_largest pc = .ok (.ireturn, 1) → W p l e R s m args below meth c H locs 0 0 Q (F0 m pc ls [.int ((bif decide (sv_N x < 2 ^ n) then nI (sv_un σ n qc (sv_N x)) else -1))])) : W p l e R s m args below meth c H locs 0 0 Q (F0 m 0 ls []) := by
  have hx := X.1
  have hb := X.2.1
  refine lv_aload_n (i := 0) hx hb dS_largest_0 rfl (sv_at hl rfl) ?_
  refine lv_iload_n (i := 1) hx hb dS_largest_1 rfl (sv_at hl rfl) ?_
  refine kS_isSetOfNodes X (by decide) hP hn hl (Nat.zero_le _) (Nat.zero_le _) (Nat.le_of_ble_eq_true rfl) dS_largest_2 ?_
  refine x_ifeqB (tgt := 16) hx hb dS_largest_5 rfl (fun h5 => ?_) (fun h5 => ?_)
  · skip
    refine lv_iconst (v := -1) hx hb dS_largest_16 (by decide) ?_
    exact x_tv (by first | (rw [h5]; rfl) | (rw [decide_eq_true hS]; rfl)) (ret _ _ dS_largest_17)
  · skip
    obtain ⟨S, hS, rfl⟩ := sv_set_of h5
    rw [sv_N_of hn hS] at ret
    refine lv_aload_n (i := 0) hx hb dS_largest_8 rfl (sv_at hl rfl) ?_
    refine lv_iload_n (i := 1) hx hb dS_largest_9 rfl (sv_at hl rfl) ?_
    refine kS_unionOfQuorumsIn X (by decide) hP hn hI (by omega) hl (Nat.zero_le _) (Nat.zero_le _) (Nat.le_of_ble_eq_true rfl) dS_largest_10 ?_
    refine lv_goto (tgt := 17) hx hb dS_largest_13 rfl ?_
    exact x_tv (by first | (rw [h5]; rfl) | (rw [decide_eq_true hS]; rfl)) (ret _ _ dS_largest_17)

theorem cS_m_largest {x : Int32} (hn : n ≤ 6) (hI : sv_IQ n qc σ) : Met l yS_largest (sv_ws yS_largest cS_largest 2 (some .int)) (sv_rm 6) (sv_Pc D cI cZ cN cQ [.ref (ad 0), .int x] (fun H => sv_cP D cI cN cQ n qc ad σ H)) (vp_Si (fun zz => zz = (bif decide (sv_N x < 2 ^ n) then nI (sv_un σ n qc (sv_N x)) else -1))) 0 0 (fun _ => False) :=
  sv_mkR (by decide) (by show 2 ≤ 2; decide) rfl (fun p e s m below meth c ls Q X hP hl ret => wS_largest X hP hn hI hl ret)
theorem okL_S_largest : sv_okV "SliceVotingLaw" 83 yS_largest cS_largest 2 (some .int) 1 := ⟨sv_tb_t 294 rfl rfl, sv_tb_t 291 rfl rfl, sv_tb_t 292 rfl rfl, sv_tb_t 293 rfl rfl, sv_tb_t 1 rfl rfl, ⟨by decide, by decide, by decide +kernel⟩, by decide⟩
theorem kL_largest (X : sv_X D cI cZ cN cQ "SliceVotingLaw" cc nL k p R s m args c) (hk : 6 + 1 ≤ k) (hP : sv_cP D cI cN cQ n qc ad σ H) {x : Int32} (hn : n ≤ 6) (hI : sv_IQ n qc σ) (hl : lv_has ls nL lv) (hc : cells ≤ R.cells) (hs : slots ≤ R.slots) (hcat : (rest.map fun v => v.category).sum ≤ 8) (hd : decode cc pc = .ok (.invokevirtual 83, 3)) (kk : W p l e R s m args below meth c H locs cells slots Q (F0 m (pc + 3) ls (.int ((bif decide (sv_N x < 2 ^ n) then nI (sv_un σ n qc (sv_N x)) else -1)) :: rest))) : W p l e R s m args below meth c H locs cells slots Q (F0 m pc ls (.int x :: .ref (ad 0) :: rest)) :=
  sv_cV (G := fun H => sv_cP D cI cN cQ n qc ad σ H) X okL_S_largest (cS_m_largest hn hI) hP (y_rec X.K hP (by omega) sv_ce_S rfl) hk rfl hl.1 rfl hcat hc hs hd kk
set_option maxHeartbeats 4000000 in
set_option maxRecDepth 100000 in
theorem wS_blocks (X : sv_X D cI cZ cN cQ "SliceVoting" cS_blocks 3 6 p R s m args c) (hP : sv_cP D cI cN cQ n qc ad σ H) {x v : Int32} (hn : n ≤ 6) (hI : sv_IQ n qc σ) (hl : lv_has ls 3 [(0, .ref (ad 0)), (1, .int x), (2, .int v)]) (ret : ∀ (pc : Nat) (ls : Array Slot), decode cS_blocks pc = .ok (.ireturn, 1) → W p l e R s m args below meth c H locs 0 0 Q (F0 m pc ls [.int (sv_b (decide (sv_N x < 2 ^ n) && (sv_isn n v && sv_blk σ n qc (sv_N x) v.toNatClampNeg)))])) : W p l e R s m args below meth c H locs 0 0 Q (F0 m 0 ls []) := by
  have hx := X.1
  have hb := X.2.1
  refine lv_aload_n (i := 0) hx hb dS_blocks_0 rfl (sv_at hl rfl) ?_
  refine lv_iload_n (i := 1) hx hb dS_blocks_1 rfl (sv_at hl rfl) ?_
  refine kS_isSetOfNodes X (by decide) hP hn hl (Nat.zero_le _) (Nat.zero_le _) (Nat.le_of_ble_eq_true rfl) dS_blocks_2 ?_
  refine x_ifeqB (tgt := 34) hx hb dS_blocks_5 rfl (fun h5 => ?_) (fun h5 => ?_)
  · skip
    refine lv_iconst (v := 0) hx hb dS_blocks_34 (by decide) ?_
    exact x_tv (by first | (rw [h5]; rfl) | (rw [h13, Bool.false_and, Bool.and_false]; rfl) | (rw [decide_eq_true hS, h13, h27]; rfl)) (ret _ _ dS_blocks_35)
  · skip
    obtain ⟨S, hS, rfl⟩ := sv_set_of h5
    rw [sv_N_of hn hS] at ret
    refine lv_aload_n (i := 0) hx hb dS_blocks_8 rfl (sv_at hl rfl) ?_
    refine lv_iload_n (i := 2) hx hb dS_blocks_9 rfl (sv_at hl rfl) ?_
    refine kS_isNode X (by decide) hP  hl (Nat.zero_le _) (Nat.zero_le _) (Nat.le_of_ble_eq_true rfl) dS_blocks_10 ?_
    refine x_ifeqB (tgt := 34) hx hb dS_blocks_13 rfl (fun h13 => ?_) (fun h13 => ?_)
    · skip
      refine lv_iconst (v := 0) hx hb dS_blocks_34 (by decide) ?_
      exact x_tv (by first | (rw [h5]; rfl) | (rw [h13, Bool.false_and, Bool.and_false]; rfl) | (rw [decide_eq_true hS, h13, h27]; rfl)) (ret _ _ dS_blocks_35)
    · skip
      obtain ⟨j, hj, rfl⟩ := sv_isn_t (by omega) h13
      rw [nI_clamp (by omega)] at ret
      refine lv_aload_n (i := 0) hx hb dS_blocks_16 rfl (sv_at hl rfl) ?_
      refine lv_aload_n (i := 0) hx hb dS_blocks_17 rfl (sv_at hl rfl) ?_
      refine gS_nodes X hP dS_blocks_18 ?_
      refine lv_iload_n (i := 2) hx hb dS_blocks_21 rfl (sv_at hl rfl) ?_
      refine gA_nodes X hP hn (by omega) dS_blocks_22 ?_
      refine lv_iload_n (i := 1) hx hb dS_blocks_23 rfl (sv_at hl rfl) ?_
      refine kS_isBlockedBy X (by decide) hP hn hI (by omega) (by omega) hl (Nat.zero_le _) (Nat.zero_le _) (Nat.le_of_ble_eq_true rfl) dS_blocks_24 ?_
      refine x_ifeqB (tgt := 34) hx hb dS_blocks_27 rfl (fun h27 => ?_) (fun h27 => ?_)
      · skip
        refine lv_iconst (v := 0) hx hb dS_blocks_34 (by decide) ?_
        exact x_tv (by first | (rw [h5]; rfl) | (rw [h13, Bool.false_and, Bool.and_false]; rfl) | (rw [decide_eq_true hS, h13, h27]; rfl)) (ret _ _ dS_blocks_35)
      · skip
        refine lv_iconst (v := 1) hx hb dS_blocks_30 (by decide) ?_
        refine lv_goto (tgt := 35) hx hb dS_blocks_31 rfl ?_
        exact x_tv (by first | (rw [h5]; rfl) | (rw [h13, Bool.false_and, Bool.and_false]; rfl) | (rw [decide_eq_true hS, h13, h27]; rfl)) (ret _ _ dS_blocks_35)

theorem cS_m_blocks {x v : Int32} (hn : n ≤ 6) (hI : sv_IQ n qc σ) : Met l yS_blocks (sv_ws yS_blocks cS_blocks 3 (some .boolean)) (sv_rm 6) (sv_Pc D cI cZ cN cQ [.ref (ad 0), .int x, .int v] (fun H => sv_cP D cI cN cQ n qc ad σ H)) (vp_Si (fun zz => zz = sv_b (decide (sv_N x < 2 ^ n) && (sv_isn n v && sv_blk σ n qc (sv_N x) v.toNatClampNeg)))) 0 0 (fun _ => False) :=
  sv_mkR (by decide) (by show 3 ≤ 3; decide) (sv_narb _) (fun p e s m below meth c ls Q X hP hl ret => wS_blocks X hP hn hI hl ret)
theorem okL_S_blocks : sv_okV "SliceVotingLaw" 87 yS_blocks cS_blocks 3 (some .boolean) 2 := ⟨sv_tb_t 298 rfl rfl, sv_tb_t 295 rfl rfl, sv_tb_t 296 rfl rfl, sv_tb_t 297 rfl rfl, sv_tb_t 1 rfl rfl, ⟨by decide, by decide, by decide +kernel⟩, by decide⟩
theorem kL_blocks (X : sv_X D cI cZ cN cQ "SliceVotingLaw" cc nL k p R s m args c) (hk : 6 + 1 ≤ k) (hP : sv_cP D cI cN cQ n qc ad σ H) {x v : Int32} (hn : n ≤ 6) (hI : sv_IQ n qc σ) (hl : lv_has ls nL lv) (hc : cells ≤ R.cells) (hs : slots ≤ R.slots) (hcat : (rest.map fun v => v.category).sum ≤ 8) (hd : decode cc pc = .ok (.invokevirtual 87, 3)) (kk : W p l e R s m args below meth c H locs cells slots Q (F0 m (pc + 3) ls (.int (sv_b (decide (sv_N x < 2 ^ n) && (sv_isn n v && sv_blk σ n qc (sv_N x) v.toNatClampNeg))) :: rest))) : W p l e R s m args below meth c H locs cells slots Q (F0 m pc ls (.int v :: .int x :: .ref (ad 0) :: rest)) :=
  sv_cV (G := fun H => sv_cP D cI cN cQ n qc ad σ H) X okL_S_blocks (cS_m_blocks hn hI) hP (y_rec X.K hP (by omega) sv_ce_S rfl) hk rfl hl.1 rfl hcat hc hs hd kk
set_option maxHeartbeats 4000000 in
set_option maxRecDepth 100000 in
theorem wS_intertwined_J (X : sv_X D cI cZ cN cQ "SliceVoting" cS_intertwined 5 7 p R s m args c) (hP : sv_cP D cI cN cQ n qc ad σ H) (hn : n ≤ 6) (hI : sv_IQ n qc σ) {a b : Nat} (ha : a < n) (hb9 : b < n) (ret : ∀ (pc : Nat) (ls : Array Slot), decode cS_intertwined pc = .ok (.ireturn, 1) → W p l e R s m args below meth c H locs 0 0 Q (F0 m pc ls [.int (sv_b (sv_itw σ n qc a b))])) : ∀ (kf i : Nat) (ls : Array Slot), 2 ^ n - i < kf → 1 ≤ i → i ≤ 2 ^ n → (∀ p, p < i → (p.testBit a && sv_quo σ n qc p && (sv_un σ n qc ((2 ^ n - 1) ^^^ (p &&& sv_wbN σ n))).testBit b) = false) → lv_has ls 5 [(0, .ref (ad 0)), (1, .int (nI a)), (2, .int (nI b)), (3, .int (nI i))] → W p l e R s m args below meth c H locs 0 0 Q (F0 m 20 ls []) := by
  have hx := X.1
  have hb := X.2.1
  intro kf
  induction kf with
  | zero => intro i ls hm; exact absurd hm (Nat.not_lt_zero _)
  | succ kf ih =>
    intro i ls hm hi1 hi hno hl
    refine lv_iload_n (i := 3) hx hb dS_intertwined_20 rfl (sv_at hl rfl) ?_
    refine lv_aload_n (i := 0) hx hb dS_intertwined_21 rfl (sv_at hl rfl) ?_
    refine gS_everyone X hP dS_intertwined_22 ?_
    refine lv_icmp_gt (tgt := 80) hx hb dS_intertwined_25 rfl (fun h25 => ?_) (fun h25 => ?_)
    · skip
      rw [nI_ltI (by have := sv_p2_64 hn; omega) (by have := sv_p2_64 hn; omega)] at h25
      refine lv_iconst (v := 1) hx hb dS_intertwined_80 (by decide) ?_
      exact x_tv (by rw [sv_itw_t (fun p hp => hno p (by omega))]; rfl) (ret _ _ dS_intertwined_81)
    · skip
      rw [nI_ltI (by have := sv_p2_64 hn; omega) (by have := sv_p2_64 hn; omega)] at h25
      have hi2 : i < 2 ^ n := by omega
      refine lv_aload_n (i := 0) hx hb dS_intertwined_28 rfl (sv_at hl rfl) ?_
      refine gS_everyone X hP dS_intertwined_29 ?_
      refine lv_iload_n (i := 3) hx hb dS_intertwined_32 rfl (sv_at hl rfl) ?_
      refine lv_aload_n (i := 0) hx hb dS_intertwined_33 rfl (sv_at hl rfl) ?_
      refine gS_wellBehaved X hP dS_intertwined_34 ?_
      refine lv_iand hx hb dS_intertwined_37 ?_
      refine lv_iconst (v := -1) hx hb dS_intertwined_38 (by decide) ?_
      refine lv_ixor hx hb dS_intertwined_39 ?_
      refine lv_iand hx hb dS_intertwined_40 ?_
      refine x_tv (y := nI ((2 ^ n - 1) ^^^ (i &&& sv_wbN σ n))) (by rw [sv_nand, sv_compl (Nat.lt_of_le_of_lt (Nat.and_le_left) hi2)]) ?_
      refine lv_istore (i := 4) hx hb dS_intertwined_41 hl (by decide) rfl (fun ls hl => ?_)
      refine lv_iload_n (i := 3) hx hb dS_intertwined_43 rfl (sv_at hl rfl) ?_
      refine lv_iload_n (i := 1) hx hb dS_intertwined_44 rfl (sv_at hl rfl) ?_
      refine kS_has X (by decide) (by omega) hl (Nat.zero_le _) (Nat.zero_le _) (Nat.le_of_ble_eq_true rfl) dS_intertwined_45 ?_
      refine x_tv (y := sv_b (i.testBit a)) (by rw [sv_bt_nI (Nat.lt_trans (sv_big hn hi2) (by decide))]) ?_
      refine x_ifeqB (tgt := 74) hx hb dS_intertwined_48 rfl (fun h48 => ?_) (fun h48 => ?_)
      · skip
        refine x_iinc (i := 3) hx hb dS_intertwined_74 hl rfl (sv_inc i) (by decide) (fun ls hl => ?_)
        refine lv_goto (tgt := 20) hx hb dS_intertwined_77 rfl ?_
        exact ih (i + 1) ls (by omega) (by omega) (by omega) (lt_s hno (by first | (rw [h69, Bool.and_false]) | (rw [h56, Bool.and_false]; rfl) | (rw [h48]; rfl))) (sv_re hl ⟨rfl, rfl, rfl, rfl, trivial⟩)
      · skip
        refine lv_aload_n (i := 0) hx hb dS_intertwined_51 rfl (sv_at hl rfl) ?_
        refine lv_iload_n (i := 3) hx hb dS_intertwined_52 rfl (sv_at hl rfl) ?_
        refine kS_isQuorum X (by decide) hP hn hI hi2 hl (Nat.zero_le _) (Nat.zero_le _) (Nat.le_of_ble_eq_true rfl) dS_intertwined_53 ?_
        refine x_ifeqB (tgt := 74) hx hb dS_intertwined_56 rfl (fun h56 => ?_) (fun h56 => ?_)
        · skip
          refine x_iinc (i := 3) hx hb dS_intertwined_74 hl rfl (sv_inc i) (by decide) (fun ls hl => ?_)
          refine lv_goto (tgt := 20) hx hb dS_intertwined_77 rfl ?_
          exact ih (i + 1) ls (by omega) (by omega) (by omega) (lt_s hno (by first | (rw [h69, Bool.and_false]) | (rw [h56, Bool.and_false]; rfl) | (rw [h48]; rfl))) (sv_re hl ⟨rfl, rfl, rfl, rfl, trivial⟩)
        · skip
          refine lv_aload_n (i := 0) hx hb dS_intertwined_59 rfl (sv_at hl rfl) ?_
          refine lv_iload (i := 4) hx hb dS_intertwined_60 (sv_at hl rfl) ?_
          refine kS_unionOfQuorumsIn X (by decide) hP hn hI (sv_co_lt (Nat.lt_of_le_of_lt (Nat.and_le_left) hi2)) hl (Nat.zero_le _) (Nat.zero_le _) (Nat.le_of_ble_eq_true rfl) dS_intertwined_62 ?_
          refine lv_iload_n (i := 2) hx hb dS_intertwined_65 rfl (sv_at hl rfl) ?_
          refine kS_has X (by decide) (by omega) hl (Nat.zero_le _) (Nat.zero_le _) (Nat.le_of_ble_eq_true rfl) dS_intertwined_66 ?_
          refine x_tv (y := sv_b ((sv_un σ n qc ((2 ^ n - 1) ^^^ (i &&& sv_wbN σ n))).testBit b)) (by rw [sv_bt_nI (Nat.lt_trans (sv_big hn sv_un_lt) (by decide))]) ?_
          refine x_ifeqB (tgt := 74) hx hb dS_intertwined_69 rfl (fun h69 => ?_) (fun h69 => ?_)
          · skip
            refine x_iinc (i := 3) hx hb dS_intertwined_74 hl rfl (sv_inc i) (by decide) (fun ls hl => ?_)
            refine lv_goto (tgt := 20) hx hb dS_intertwined_77 rfl ?_
            exact ih (i + 1) ls (by omega) (by omega) (by omega) (lt_s hno (by first | (rw [h69, Bool.and_false]) | (rw [h56, Bool.and_false]; rfl) | (rw [h48]; rfl))) (sv_re hl ⟨rfl, rfl, rfl, rfl, trivial⟩)
          · skip
            refine lv_iconst (v := 0) hx hb dS_intertwined_72 (by decide) ?_
            exact x_tv (by rw [sv_itw_f hi2 h48 h56 h69]; rfl) (ret _ _ dS_intertwined_73)

set_option maxHeartbeats 4000000 in
set_option maxRecDepth 100000 in
theorem wS_intertwined (X : sv_X D cI cZ cN cQ "SliceVoting" cS_intertwined 5 7 p R s m args c) (hP : sv_cP D cI cN cQ n qc ad σ H) {v w : Int32} (hn : n ≤ 6) (hI : sv_IQ n qc σ) (hl : lv_has ls 5 [(0, .ref (ad 0)), (1, .int v), (2, .int w)]) (ret : ∀ (pc : Nat) (ls : Array Slot), decode cS_intertwined pc = .ok (.ireturn, 1) → W p l e R s m args below meth c H locs 0 0 Q (F0 m pc ls [.int (sv_b (sv_wel n σ v && sv_wel n σ w && sv_itw σ n qc v.toNatClampNeg w.toNatClampNeg))])) : W p l e R s m args below meth c H locs 0 0 Q (F0 m 0 ls []) := by
  have hx := X.1
  have hb := X.2.1
  refine lv_aload_n (i := 0) hx hb dS_intertwined_0 rfl (sv_at hl rfl) ?_
  refine lv_iload_n (i := 1) hx hb dS_intertwined_1 rfl (sv_at hl rfl) ?_
  refine kS_isWellBehaved X (by decide) hP hn hl (Nat.zero_le _) (Nat.zero_le _) (Nat.le_of_ble_eq_true rfl) dS_intertwined_2 ?_
  refine x_ifeqB (tgt := 16) hx hb dS_intertwined_5 rfl (fun h5 => ?_) (fun h5 => ?_)
  · skip
    refine lv_iconst (v := 0) hx hb dS_intertwined_16 (by decide) ?_
    exact x_tv (by first | (rw [h5]; rfl) | (rw [h13, Bool.and_false]; rfl)) (ret _ _ dS_intertwined_17)
  · skip
    refine lv_aload_n (i := 0) hx hb dS_intertwined_8 rfl (sv_at hl rfl) ?_
    refine lv_iload_n (i := 2) hx hb dS_intertwined_9 rfl (sv_at hl rfl) ?_
    refine kS_isWellBehaved X (by decide) hP hn hl (Nat.zero_le _) (Nat.zero_le _) (Nat.le_of_ble_eq_true rfl) dS_intertwined_10 ?_
    refine x_ifneB (tgt := 18) hx hb dS_intertwined_13 rfl (fun h13 => ?_) (fun h13 => ?_)
    · skip
      obtain ⟨a, ha, rfl, ha9⟩ := sv_wel_t (by omega) h5
      obtain ⟨b, hb9, rfl, hb0⟩ := sv_wel_t (by omega) h13
      rw [h5, h13, nI_clamp (by omega), nI_clamp (by omega), Bool.and_self, Bool.true_and] at ret
      refine lv_iconst (v := 1) hx hb dS_intertwined_18 (by decide) ?_
      refine lv_istore_n (i := 3) hx hb dS_intertwined_19 rfl hl (by decide) rfl (fun ls hl => ?_)
      exact wS_intertwined_J X hP hn hI ha hb9 ret _ 1 ls (Nat.lt_succ_self _) (by decide) (Nat.one_le_two_pow) (fun p hp => by have e : p = 0 := (by omega); rw [e, Nat.zero_testBit]; rfl) (sv_re hl ⟨rfl, rfl, rfl, rfl, trivial⟩)
    · skip
      refine lv_iconst (v := 0) hx hb dS_intertwined_16 (by decide) ?_
      exact x_tv (by first | (rw [h5]; rfl) | (rw [h13, Bool.and_false]; rfl)) (ret _ _ dS_intertwined_17)

theorem cS_m_intertwined {v w : Int32} (hn : n ≤ 6) (hI : sv_IQ n qc σ) : Met l yS_intertwined (sv_ws yS_intertwined cS_intertwined 5 (some .boolean)) (sv_rm 7) (sv_Pc D cI cZ cN cQ [.ref (ad 0), .int v, .int w] (fun H => sv_cP D cI cN cQ n qc ad σ H)) (vp_Si (fun zz => zz = sv_b (sv_wel n σ v && sv_wel n σ w && sv_itw σ n qc v.toNatClampNeg w.toNatClampNeg))) 0 0 (fun _ => False) :=
  sv_mkR (by decide) (by show 3 ≤ 5; decide) (sv_narb _) (fun p e s m below meth c ls Q X hP hl ret => wS_intertwined X hP hn hI hl ret)
theorem okL_S_intertwined : sv_okV "SliceVotingLaw" 91 yS_intertwined cS_intertwined 5 (some .boolean) 2 := ⟨sv_tb_t 302 rfl rfl, sv_tb_t 299 rfl rfl, sv_tb_t 300 rfl rfl, sv_tb_t 301 rfl rfl, sv_tb_t 1 rfl rfl, ⟨by decide, by decide, by decide +kernel⟩, by decide⟩
theorem kL_intertwined (X : sv_X D cI cZ cN cQ "SliceVotingLaw" cc nL k p R s m args c) (hk : 7 + 1 ≤ k) (hP : sv_cP D cI cN cQ n qc ad σ H) {v w : Int32} (hn : n ≤ 6) (hI : sv_IQ n qc σ) (hl : lv_has ls nL lv) (hc : cells ≤ R.cells) (hs : slots ≤ R.slots) (hcat : (rest.map fun v => v.category).sum ≤ 8) (hd : decode cc pc = .ok (.invokevirtual 91, 3)) (kk : W p l e R s m args below meth c H locs cells slots Q (F0 m (pc + 3) ls (.int (sv_b (sv_wel n σ v && sv_wel n σ w && sv_itw σ n qc v.toNatClampNeg w.toNatClampNeg)) :: rest))) : W p l e R s m args below meth c H locs cells slots Q (F0 m pc ls (.int w :: .int v :: .ref (ad 0) :: rest)) :=
  sv_cV (G := fun H => sv_cP D cI cN cQ n qc ad σ H) X okL_S_intertwined (cS_m_intertwined hn hI) hP (y_rec X.K hP (by omega) sv_ce_S rfl) hk rfl hl.1 rfl hcat hc hs hd kk
end SvReads
