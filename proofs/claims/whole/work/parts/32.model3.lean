section SvModel3
variable {p : Program} {l : Launch} {e : Env} {R : Room} {s : State} {m : MethodId} {args : Array Value} {below : List Frame} {meth : Method} {c : Code} {H H0 : Heap} {locs : List Loc} {cells slots : Nat} {Q : State → Prop}
variable {cc : ByteArray} {pc nL k : Nat} {ls : Array Slot} {lv : List (Nat × Value)} {rest : List Value} {D : va_G} {cI cZ cN cQ : ClassId} {n qc : Nat} {ad : Nat → Nat} {σ : Sg} {A : Nat → Prop} {mt qm : Nat → Int32}
theorem sv_bitz {M S v : Nat} (hM : M < 64) (hv : v < 6) : (nI M &&& nI S &&& (1 : Int32) <<< (nI v &&& 31) = 0) ↔ (M &&& S).testBit v = false := by
  rw [sv_pow v (by omega), sv_nand, sv_nand]
  have hl : (M &&& S) &&& 2 ^ v < 64 := Nat.lt_of_le_of_lt Nat.and_le_left (Nat.lt_of_le_of_lt Nat.and_le_left hM)
  rw [← nI_0, nI_eq (by omega) (by decide)]
  constructor
  · intro h
    have h1 : ((M &&& S) &&& 2 ^ v).testBit v = false := by rw [h, Nat.zero_testBit]
    rw [Nat.testBit_and, Nat.testBit_two_pow] at h1
    simpa using h1
  · intro h
    refine Nat.eq_of_testBit_eq fun i => ?_
    rw [Nat.testBit_and, Nat.testBit_two_pow, Nat.zero_testBit]
    by_cases e : v = i
    · subst e; rw [h]; rfl
    · rw [decide_eq_false e, Bool.and_false]
def sv_cq (σ : Sg) (S q i : Nat) : Nat := sv_cnt (fun v => (sv_N (σ 7 q) &&& S).testBit v) 0 i
theorem sv_mtup {mt : Nat → Int32} {σ : Sg} {qc S q : Nat} (h : ∀ i, q < i → i < qc → mt i = sv_b (sv_met σ qc S i)) : ∀ i, q ≤ i → i < qc → upd mt q (sv_b (sv_met σ qc S q)) i = sv_b (sv_met σ qc S i) := by
  intro i h1 h2
  unfold upd
  by_cases e : i = q
  · rw [if_pos e, e]
  · rw [if_neg e]; exact h i (by omega) h2
set_option maxHeartbeats 4000000 in
set_option maxRecDepth 100000 in
theorem wM_meet (X : sv_X D cI cZ cN cQ "SliceVotingModel" cM_meet 5 1 p R s m args c) (hP : sv_mP D cI cZ n qc ad σ mt qm H) (hJ : sv_inj 17 ad) (hA : ∀ k, k < 17 → A (ad k)) (hS : va_S A H0 H locs) {S : Nat} (hI : sv_IQ n qc σ) (hS2 : S < 2 ^ n) (hl : lv_has ls 5 [(0, .ref (ad 0)), (1, .int (nI S))]) (ret : ∀ (pc : Nat) (ls : Array Slot) (H : Heap) (locs : List Loc) (mt' qm' : Nat → Int32), decode cM_meet pc = .ok (.return_, 1) → va_S A H0 H locs → ((∀ q, q < qc → mt' q = sv_b (sv_met σ qc S q)) ∧ qm' = qm) → sv_mP D cI cZ n qc ad (σ) mt' qm' H → W p l e R s m args below meth c H locs 0 0 Q (F0 m pc ls [])) : W p l e R s m args below meth c H locs 0 0 Q (F0 m 0 ls []) := by
  have hx := X.1
  have hb := X.2.1
  have hq24 := hI.2.2.2.1
  have J16 : ∀ (kf : Nat) (q : Nat) (mt : Nat → Int32) (H : Heap) (locs : List Loc) (i : Nat) (ls : Array Slot), 6 - i < kf → (q < qc) → (sv_mP D cI cZ n qc ad σ mt qm H) → (i ≤ 6) → (∀ ls : Array Slot, lv_has ls 5 [(0, .ref (ad 0)), (1, .int (nI S)), (2, .int (nI q)), (3, .int (nI (sv_pc (sv_N (σ 7 q) &&& S)))), (4, .int (nI 6))] → W p l e R s m args below meth c H locs 0 0 Q (F0 m 53 ls [])) → lv_has ls 5 [(0, .ref (ad 0)), (1, .int (nI S)), (2, .int (nI q)), (3, .int (nI (sv_cq σ S q i))), (4, .int (nI i))] → W p l e R s m args below meth c H locs 0 0 Q (F0 m 16 ls []) := by
    intro kf
    induction kf with
    | zero => intro q mt H locs i ls hm; exact absurd hm (Nat.not_lt_zero _)
    | succ kf ih =>
      intro q mt H locs i ls hm hq hP hi hout hl
      have h7q : sv_N (σ 7 q) < 64 := sv_big hI.2.1 (hI.2.2.2.2 q hq).2.2.1
      refine lv_iload (i := 4) hx hb dM_meet_16 (sv_at hl rfl) ?_
      refine lv_bipush (v := nI 6) hx hb dM_meet_18 (by decide) ?_
      refine lv_icmp_ge (tgt := 53) hx hb dM_meet_20 rfl (fun h20 => ?_) (fun h20 => ?_)
      · skip
        rw [nI_leI (by omega) (by omega)] at h20
        obtain rfl : i = 6 := by omega
        exact hout ls (sv_re hl ⟨rfl, rfl, rfl, rfl, rfl, trivial⟩)
      · skip
        rw [nI_leI (by omega) (by omega)] at h20
        refine lv_aload_n (i := 0) hx hb dM_meet_23 rfl (sv_at hl rfl) ?_
        refine gM_members X hP dM_meet_24 ?_
        refine lv_iload_n (i := 2) hx hb dM_meet_27 rfl (sv_at hl rfl) ?_
        refine gm_members X hP (by omega) dM_meet_28 ?_
        refine x_tv (sv_nI_N (σ 7 q)).symm ?_
        refine lv_iload_n (i := 1) hx hb dM_meet_29 rfl (sv_at hl rfl) ?_
        refine lv_iand hx hb dM_meet_30 ?_
        refine lv_iconst (v := 1) hx hb dM_meet_31 (by decide) ?_
        refine lv_iload (i := 4) hx hb dM_meet_32 (sv_at hl rfl) ?_
        refine lv_ishl hx hb dM_meet_34 ?_
        refine lv_iand hx hb dM_meet_35 ?_
        refine lv_if_eq (tgt := 45) hx hb dM_meet_36 rfl (fun h36 => ?_) (fun h36 => ?_)
        · skip
          rw [sv_bitz h7q (by omega)] at h36
          refine lv_iload_n (i := 3) hx hb dM_meet_45 rfl (sv_at hl rfl) ?_
          first | (have ee : (sv_N (σ 7 q) &&& S).testBit i = true := h36; refine x_tv (y := nI (sv_cq σ S q (i + 1))) (by rw [show sv_cq σ S q (i + 1) = sv_cq σ S q i + 1 from sv_cnt_t (Nat.zero_le _) ee]; exact nI_1 _) ?_) | refine x_tv (y := nI (sv_cq σ S q (i + 1))) (by rw [show sv_cq σ S q (i + 1) = sv_cq σ S q i from sv_cnt_f h36]) ?_
          refine lv_istore_n (i := 3) hx hb dM_meet_46 rfl hl (by decide) rfl (fun ls hl => ?_)
          refine x_iinc (i := 4) hx hb dM_meet_47 hl rfl (sv_inc i) (by decide) (fun ls hl => ?_)
          refine lv_goto (tgt := 16) hx hb dM_meet_50 rfl ?_
          exact ih q mt H locs (i + 1) ls (by omega) hq hP (by omega) hout (sv_re hl ⟨rfl, rfl, rfl, rfl, rfl, trivial⟩)
        · skip
          rw [sv_bitz h7q (by omega), Bool.not_eq_false] at h36
          refine lv_iload_n (i := 3) hx hb dM_meet_39 rfl (sv_at hl rfl) ?_
          refine lv_iconst (v := 1) hx hb dM_meet_40 (by decide) ?_
          refine lv_iadd hx hb dM_meet_41 ?_
          refine lv_goto (tgt := 46) hx hb dM_meet_42 rfl ?_
          first | (have ee : (sv_N (σ 7 q) &&& S).testBit i = true := h36; refine x_tv (y := nI (sv_cq σ S q (i + 1))) (by rw [show sv_cq σ S q (i + 1) = sv_cq σ S q i + 1 from sv_cnt_t (Nat.zero_le _) ee]; exact nI_1 _) ?_) | refine x_tv (y := nI (sv_cq σ S q (i + 1))) (by rw [show sv_cq σ S q (i + 1) = sv_cq σ S q i from sv_cnt_f h36]) ?_
          refine lv_istore_n (i := 3) hx hb dM_meet_46 rfl hl (by decide) rfl (fun ls hl => ?_)
          refine x_iinc (i := 4) hx hb dM_meet_47 hl rfl (sv_inc i) (by decide) (fun ls hl => ?_)
          refine lv_goto (tgt := 16) hx hb dM_meet_50 rfl ?_
          exact ih q mt H locs (i + 1) ls (by omega) hq hP (by omega) hout (sv_re hl ⟨rfl, rfl, rfl, rfl, rfl, trivial⟩)
  have J58 : ∀ (kf : Nat) (q : Nat) (mt : Nat → Int32) (H : Heap) (locs : List Loc) (i : Nat) (ls : Array Slot), qc - i < kf → (q < qc) → (sv_mP D cI cZ n qc ad σ mt qm H) → (∀ i, q < i → i < qc → mt i = sv_b (sv_met σ qc S i)) → (q < i) → (i ≤ qc) → (∀ ls : Array Slot, lv_has ls 5 [(0, .ref (ad 0)), (1, .int (nI S)), (2, .int (nI q)), (3, .int (nI (sv_pc (sv_N (σ 7 q) &&& S) + sv_cnt (sv_inn σ (sv_met σ qc S) q) (q + 1) qc))), (4, .int (nI qc))] → W p l e R s m args below meth c H locs 0 0 Q (F0 m 102 ls [])) → lv_has ls 5 [(0, .ref (ad 0)), (1, .int (nI S)), (2, .int (nI q)), (3, .int (nI (sv_pc (sv_N (σ 7 q) &&& S) + sv_cnt (sv_inn σ (sv_met σ qc S) q) (q + 1) i))), (4, .int (nI i))] → W p l e R s m args below meth c H locs 0 0 Q (F0 m 58 ls []) := by
    intro kf
    induction kf with
    | zero => intro q mt H locs i ls hm; exact absurd hm (Nat.not_lt_zero _)
    | succ kf ih =>
      intro q mt H locs i ls hm hq hP hm9 hi1 hi hout hl
      refine lv_iload (i := 4) hx hb dM_meet_58 (sv_at hl rfl) ?_
      refine lv_aload_n (i := 0) hx hb dM_meet_60 rfl (sv_at hl rfl) ?_
      refine gM_quotas X hP dM_meet_61 ?_
      refine lv_icmp_ge (tgt := 102) hx hb dM_meet_64 rfl (fun h64 => ?_) (fun h64 => ?_)
      · skip
        rw [nI_leI (by omega) (by omega)] at h64
        obtain rfl : i = qc := by omega
        exact hout ls (sv_re hl ⟨rfl, rfl, rfl, rfl, rfl, trivial⟩)
      · skip
        rw [nI_leI (by omega) (by omega)] at h64
        refine lv_aload_n (i := 0) hx hb dM_meet_67 rfl (sv_at hl rfl) ?_
        refine gM_around X hP dM_meet_68 ?_
        refine lv_iload (i := 4) hx hb dM_meet_71 (sv_at hl rfl) ?_
        refine gm_around X hP (by omega) dM_meet_73 ?_
        refine lv_iload_n (i := 2) hx hb dM_meet_74 rfl (sv_at hl rfl) ?_
        refine lv_icmp_ne (tgt := 94) hx hb dM_meet_75 rfl (fun h75 => ?_) (fun h75 => ?_)
        · skip
          refine lv_iload_n (i := 3) hx hb dM_meet_94 rfl (sv_at hl rfl) ?_
          first | (have ee : sv_met σ qc S i = true := h85; refine x_tv (y := nI (sv_pc (sv_N (σ 7 q) &&& S) + sv_cnt (sv_inn σ (sv_met σ qc S) q) (q + 1) (i + 1))) (by rw [sv_cnt_t (P := (sv_inn σ (sv_met σ qc S) q)) (lo := q + 1) (by omega) (by unfold sv_inn; rw [h75, ee]; simp)]; exact nI_1 _) ?_) | (have ee : sv_met σ qc S i = false := h85; refine x_tv (y := nI (sv_pc (sv_N (σ 7 q) &&& S) + sv_cnt (sv_inn σ (sv_met σ qc S) q) (q + 1) (i + 1))) (by rw [sv_cnt_f (P := (sv_inn σ (sv_met σ qc S) q)) (by unfold sv_inn; rw [ee, Bool.and_false])]) ?_) | refine x_tv (y := nI (sv_pc (sv_N (σ 7 q) &&& S) + sv_cnt (sv_inn σ (sv_met σ qc S) q) (q + 1) (i + 1))) (by rw [sv_cnt_f (P := (sv_inn σ (sv_met σ qc S) q)) (by unfold sv_inn; rw [show (σ 4 i == nI q) = false from beq_eq_false_iff_ne.mpr h75]; rfl)]) ?_
          refine lv_istore_n (i := 3) hx hb dM_meet_95 rfl hl (by decide) rfl (fun ls hl => ?_)
          refine x_iinc (i := 4) hx hb dM_meet_96 hl rfl (sv_inc i) (by decide) (fun ls hl => ?_)
          refine lv_goto (tgt := 58) hx hb dM_meet_99 rfl ?_
          exact ih q mt H locs (i + 1) ls (by omega) hq hP hm9 (by omega) (by omega) hout (sv_re hl ⟨rfl, rfl, rfl, rfl, rfl, trivial⟩)
        · skip
          refine lv_aload_n (i := 0) hx hb dM_meet_78 rfl (sv_at hl rfl) ?_
          refine gM_met X hP dM_meet_79 ?_
          refine lv_iload (i := 4) hx hb dM_meet_82 (sv_at hl rfl) ?_
          refine gm_met X hP (by omega) dM_meet_84 ?_
          refine x_tv (hm9 i hi1 (by omega)) ?_
          refine x_ifeqB (tgt := 94) hx hb dM_meet_85 rfl (fun h85 => ?_) (fun h85 => ?_)
          · skip
            refine lv_iload_n (i := 3) hx hb dM_meet_94 rfl (sv_at hl rfl) ?_
            first | (have ee : sv_met σ qc S i = true := h85; refine x_tv (y := nI (sv_pc (sv_N (σ 7 q) &&& S) + sv_cnt (sv_inn σ (sv_met σ qc S) q) (q + 1) (i + 1))) (by rw [sv_cnt_t (P := (sv_inn σ (sv_met σ qc S) q)) (lo := q + 1) (by omega) (by unfold sv_inn; rw [h75, ee]; simp)]; exact nI_1 _) ?_) | (have ee : sv_met σ qc S i = false := h85; refine x_tv (y := nI (sv_pc (sv_N (σ 7 q) &&& S) + sv_cnt (sv_inn σ (sv_met σ qc S) q) (q + 1) (i + 1))) (by rw [sv_cnt_f (P := (sv_inn σ (sv_met σ qc S) q)) (by unfold sv_inn; rw [ee, Bool.and_false])]) ?_) | refine x_tv (y := nI (sv_pc (sv_N (σ 7 q) &&& S) + sv_cnt (sv_inn σ (sv_met σ qc S) q) (q + 1) (i + 1))) (by rw [sv_cnt_f (P := (sv_inn σ (sv_met σ qc S) q)) (by unfold sv_inn; rw [show (σ 4 i == nI q) = false from beq_eq_false_iff_ne.mpr h75]; rfl)]) ?_
            refine lv_istore_n (i := 3) hx hb dM_meet_95 rfl hl (by decide) rfl (fun ls hl => ?_)
            refine x_iinc (i := 4) hx hb dM_meet_96 hl rfl (sv_inc i) (by decide) (fun ls hl => ?_)
            refine lv_goto (tgt := 58) hx hb dM_meet_99 rfl ?_
            exact ih q mt H locs (i + 1) ls (by omega) hq hP hm9 (by omega) (by omega) hout (sv_re hl ⟨rfl, rfl, rfl, rfl, rfl, trivial⟩)
          · skip
            refine lv_iload_n (i := 3) hx hb dM_meet_88 rfl (sv_at hl rfl) ?_
            refine lv_iconst (v := 1) hx hb dM_meet_89 (by decide) ?_
            refine lv_iadd hx hb dM_meet_90 ?_
            refine lv_goto (tgt := 95) hx hb dM_meet_91 rfl ?_
            first | (have ee : sv_met σ qc S i = true := h85; refine x_tv (y := nI (sv_pc (sv_N (σ 7 q) &&& S) + sv_cnt (sv_inn σ (sv_met σ qc S) q) (q + 1) (i + 1))) (by rw [sv_cnt_t (P := (sv_inn σ (sv_met σ qc S) q)) (lo := q + 1) (by omega) (by unfold sv_inn; rw [h75, ee]; simp)]; exact nI_1 _) ?_) | (have ee : sv_met σ qc S i = false := h85; refine x_tv (y := nI (sv_pc (sv_N (σ 7 q) &&& S) + sv_cnt (sv_inn σ (sv_met σ qc S) q) (q + 1) (i + 1))) (by rw [sv_cnt_f (P := (sv_inn σ (sv_met σ qc S) q)) (by unfold sv_inn; rw [ee, Bool.and_false])]) ?_) | refine x_tv (y := nI (sv_pc (sv_N (σ 7 q) &&& S) + sv_cnt (sv_inn σ (sv_met σ qc S) q) (q + 1) (i + 1))) (by rw [sv_cnt_f (P := (sv_inn σ (sv_met σ qc S) q)) (by unfold sv_inn; rw [show (σ 4 i == nI q) = false from beq_eq_false_iff_ne.mpr h75]; rfl)]) ?_
            refine lv_istore_n (i := 3) hx hb dM_meet_95 rfl hl (by decide) rfl (fun ls hl => ?_)
            refine x_iinc (i := 4) hx hb dM_meet_96 hl rfl (sv_inc i) (by decide) (fun ls hl => ?_)
            refine lv_goto (tgt := 58) hx hb dM_meet_99 rfl ?_
            exact ih q mt H locs (i + 1) ls (by omega) hq hP hm9 (by omega) (by omega) hout (sv_re hl ⟨rfl, rfl, rfl, rfl, rfl, trivial⟩)
  have J7 : ∀ (kf : Nat) (j : Nat) (mt : Nat → Int32) (H : Heap) (locs : List Loc) (ls : Array Slot), j < kf → (j ≤ qc) → (sv_mP D cI cZ n qc ad σ mt qm H) → (va_S A H0 H locs) → (∀ i, j ≤ i → i < qc → mt i = sv_b (sv_met σ qc S i)) → lv_has ls 5 [(0, .ref (ad 0)), (1, .int (nI S)), (2, .int (nI j - 1))] → W p l e R s m args below meth c H locs 0 0 Q (F0 m 7 ls []) := by
    intro kf
    induction kf with
    | zero => intro j mt H locs ls hm; exact absurd hm (Nat.not_lt_zero _)
    | succ kf ih =>
      intro j mt H locs ls hm hj hP hS hm9 hl
      refine lv_iload_n (i := 2) hx hb dM_meet_7 rfl (sv_at hl rfl) ?_
      refine lv_if_lt (tgt := 129) hx hb dM_meet_8 rfl (fun h8 => ?_) (fun h8 => ?_)
      · skip
        rw [sv_m1lt (by omega)] at h8
        subst h8
        exact ret _ _ _ _ _ _ dM_meet_129 hS ⟨fun q h => hm9 q (Nat.zero_le _) h, rfl⟩ hP
      · skip
        rw [sv_m1lt (by omega)] at h8
        obtain ⟨q, rfl⟩ : ∃ q, j = q + 1 := ⟨j - 1, by omega⟩
        rw [nI_pred] at hl
        have hq : q < qc := by omega
        have hm9 : ∀ i, q < i → i < qc → mt i = sv_b (sv_met σ qc S i) := fun i a b => hm9 i (by omega) b
        refine lv_iconst (v := 0) hx hb dM_meet_11 (by decide) ?_
        refine lv_istore_n (i := 3) hx hb dM_meet_12 rfl hl (by decide) rfl (fun ls hl => ?_)
        refine lv_iconst (v := 0) hx hb dM_meet_13 (by decide) ?_
        refine lv_istore (i := 4) hx hb dM_meet_14 hl (by decide) rfl (fun ls hl => ?_)
        refine J16 _ q mt H locs 0 ls (Nat.lt_succ_self _) hq hP (Nat.zero_le _) (fun ls hl => ?_) (sv_re hl ⟨rfl, rfl, rfl, rfl, rfl, trivial⟩)
        refine lv_iload_n (i := 2) hx hb dM_meet_53 rfl (sv_at hl rfl) ?_
        refine lv_iconst (v := 1) hx hb dM_meet_54 (by decide) ?_
        refine lv_iadd hx hb dM_meet_55 ?_
        refine x_tv (nI_1 q) ?_
        refine lv_istore (i := 4) hx hb dM_meet_56 hl (by decide) rfl (fun ls hl => ?_)
        refine J58 _ q mt H locs (q + 1) ls (Nat.lt_succ_self _) hq hP hm9 (by omega) (by omega) (fun ls hl => ?_) (sv_re hl ⟨rfl, rfl, rfl, by rw [sv_cnt_lo _ (Nat.le_refl _)]; rfl, rfl, trivial⟩)
        refine lv_aload_n (i := 0) hx hb dM_meet_102 rfl (sv_at hl rfl) ?_
        refine gM_met X hP dM_meet_103 ?_
        refine lv_iload_n (i := 2) hx hb dM_meet_106 rfl (sv_at hl rfl) ?_
        refine lv_iload_n (i := 3) hx hb dM_meet_107 rfl (sv_at hl rfl) ?_
        refine lv_aload_n (i := 0) hx hb dM_meet_108 rfl (sv_at hl rfl) ?_
        refine gM_need X hP dM_meet_109 ?_
        refine lv_iload_n (i := 2) hx hb dM_meet_112 rfl (sv_at hl rfl) ?_
        refine gm_need X hP (by omega) dM_meet_113 ?_
        refine lv_icmp_lt (tgt := 121) hx hb dM_meet_114 rfl (fun h114 => ?_) (fun h114 => ?_)
        · skip
          refine lv_iconst (v := 0) hx hb dM_meet_121 (by decide) ?_
          first | (have ee : nI (sv_pc (sv_N (σ 7 q) &&& S) + sv_cnt (sv_inn σ (sv_met σ qc S) q) (q + 1) qc) < σ 6 q := h114; refine x_tv (y := sv_b (sv_met σ qc S q)) (by rw [sv_met_eq σ S hq, decide_eq_false (Int32.not_le.mpr ee)]; rfl) ?_) | refine x_tv (y := sv_b (sv_met σ qc S q)) (by rw [sv_met_eq σ S hq, decide_eq_true (Int32.not_lt.mp h114)]; rfl) ?_
          refine pm_met X hP hJ hA hS (by omega) dM_meet_122 (fun H locs hP hS => ?_)
          refine x_iinc (i := 2) hx hb dM_meet_123 hl rfl (sv_dec1 q) (by decide) (fun ls hl => ?_)
          refine lv_goto (tgt := 7) hx hb dM_meet_126 rfl ?_
          exact ih q _ H locs ls (by omega) (by omega) hP hS (sv_mtup (fun i a b => hm9 i (by omega) b)) (sv_re hl ⟨rfl, rfl, rfl, trivial⟩)
        · skip
          refine lv_iconst (v := 1) hx hb dM_meet_117 (by decide) ?_
          refine lv_goto (tgt := 122) hx hb dM_meet_118 rfl ?_
          first | (have ee : nI (sv_pc (sv_N (σ 7 q) &&& S) + sv_cnt (sv_inn σ (sv_met σ qc S) q) (q + 1) qc) < σ 6 q := h114; refine x_tv (y := sv_b (sv_met σ qc S q)) (by rw [sv_met_eq σ S hq, decide_eq_false (Int32.not_le.mpr ee)]; rfl) ?_) | refine x_tv (y := sv_b (sv_met σ qc S q)) (by rw [sv_met_eq σ S hq, decide_eq_true (Int32.not_lt.mp h114)]; rfl) ?_
          refine pm_met X hP hJ hA hS (by omega) dM_meet_122 (fun H locs hP hS => ?_)
          refine x_iinc (i := 2) hx hb dM_meet_123 hl rfl (sv_dec1 q) (by decide) (fun ls hl => ?_)
          refine lv_goto (tgt := 7) hx hb dM_meet_126 rfl ?_
          exact ih q _ H locs ls (by omega) (by omega) hP hS (sv_mtup (fun i a b => hm9 i (by omega) b)) (sv_re hl ⟨rfl, rfl, rfl, trivial⟩)
  refine lv_aload_n (i := 0) hx hb dM_meet_0 rfl (sv_at hl rfl) ?_
  refine gM_quotas X hP dM_meet_1 ?_
  refine lv_iconst (v := 1) hx hb dM_meet_4 (by decide) ?_
  refine lv_isub hx hb dM_meet_5 ?_
  refine lv_istore_n (i := 2) hx hb dM_meet_6 rfl hl (by decide) rfl (fun ls hl => ?_)
  exact J7 _ qc mt H locs ls (Nat.lt_succ_self _) (Nat.le_refl _) hP hS (fun i a b => by omega) (sv_re hl ⟨rfl, rfl, rfl, trivial⟩)

theorem cM_m_meet (hJ : sv_inj 17 ad) (hA : ∀ k, k < 17 → A (ad k)) {S : Nat} (hI : sv_IQ n qc σ) (hS2 : S < 2 ^ n) : Met l yM_meet (sv_ws yM_meet cM_meet 5 none) (sv_rm 1) (sv_Pc D cI cZ cN cQ [.ref (ad 0), .int (nI S)] (fun H => sv_mP D cI cZ n qc ad σ mt qm H)) (va_Qv (fun u : Sg × (Nat → Int32) × (Nat → Int32) => u.1 = σ ∧ ((∀ q, q < qc → u.2.1 q = sv_b (sv_met σ qc S q)) ∧ u.2.2 = qm)) (fun u t => sv_mP D cI cZ n qc ad u.1 u.2.1 u.2.2 t.heap) A) 0 0 A :=
  sv_mkV (S := Sg × (Nat → Int32) × (Nat → Int32)) (B := fun u H => sv_mP D cI cZ n qc ad u.1 u.2.1 u.2.2 H) (by decide) (by show 2 ≤ 5; decide) (fun p e s m below meth c ls Q X hP hl ret => wM_meet X hP hJ hA va_S.rf hI hS2 hl (fun pc ls H locs mt' qm' hd hS hX hP => ret pc ls (_, mt', qm') H locs hd hS ⟨rfl, hX⟩ hP))
set_option maxRecDepth 100000 in
theorem okM_M_meet : sv_okV "SliceVotingModel" 81 yM_meet cM_meet 5 none 1 := ⟨sv_tb_t 398 rfl rfl, sv_tb_t 395 rfl rfl, sv_tb_t 397 rfl rfl, sv_tb_s 20 rfl rfl, sv_tb_t 4 rfl rfl, ⟨by decide, by decide, by decide +kernel⟩, by decide⟩
theorem kM_meet (X : sv_X D cI cZ cN cQ "SliceVotingModel" cc nL k p R s m args c) (hk : 1 + 1 ≤ k) (hP : sv_mP D cI cZ n qc ad σ mt qm H) (hJ : sv_inj 17 ad) (hA : ∀ k, k < 17 → A (ad k)) (hS : va_S A H0 H locs) {S : Nat} (hI : sv_IQ n qc σ) (hS2 : S < 2 ^ n) (hl : lv_has ls nL lv) (hc : cells ≤ R.cells) (hs : slots ≤ R.slots) (hcat : (rest.map fun v => v.category).sum ≤ 8) (hd : decode cc pc = .ok (.invokevirtual 81, 3)) (kk : ∀ (H1 : Heap) (locs1 : List Loc) (mt' qm' : Nat → Int32), ((∀ q, q < qc → mt' q = sv_b (sv_met σ qc S q)) ∧ qm' = qm) → sv_mP D cI cZ n qc ad (σ) mt' qm' H1 → va_S A H0 H1 locs1 → W p l e R s m args below meth c H1 locs1 cells slots Q (F0 m (pc + 3) ls rest)) : W p l e R s m args below meth c H locs cells slots Q (F0 m pc ls (.int (nI S) :: .ref (ad 0) :: rest)) :=
  sv_wVv (S := Sg × (Nat → Int32) × (Nat → Int32)) (G := fun H => sv_mP D cI cZ n qc ad σ mt qm H) (B := fun u H => sv_mP D cI cZ n qc ad u.1 u.2.1 u.2.2 H) X okM_M_meet (cM_m_meet hJ hA hI hS2) hP (y_rec X.K hP (by decide) sv_me_0 rfl) hS hk rfl hl.1 rfl hcat hc hs hd (fun u H1 locs1 hp hB hS => by obtain ⟨τ, a, b⟩ := u; obtain ⟨h1, h2⟩ := hp; dsimp only at h1 h2 hB; subst h1; exact kk H1 locs1 a b h2 hB hS)
end SvModel3
