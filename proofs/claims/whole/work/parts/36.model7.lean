section SvModel7
variable {p : Program} {l : Launch} {e : Env} {R : Room} {s : State} {m : MethodId} {args : Array Value} {below : List Frame} {meth : Method} {c : Code} {H H0 : Heap} {locs : List Loc} {cells slots : Nat} {Q : State → Prop}
variable {cc : ByteArray} {pc nL k : Nat} {ls : Array Slot} {lv : List (Nat × Value)} {rest : List Value} {D : va_G} {cI cZ cN cQ : ClassId} {n qc : Nat} {ad : Nat → Nat} {σ : Sg} {A : Nat → Prop} {mt qm : Nat → Int32}
theorem sv_vts_v {σ : Sg} {v k y : Nat} (hy : y < 2 ^ 31) (h : σ 14 v = nI y) : sv_vote (sv_vts σ v k) v (3 * k + y) = sv_vts σ v (k + 1) := by
  show _ = sv_vote _ _ _
  rw [h, nI_clamp hy]
theorem sv_x23 {x : Int32} (h : x ≤ nI 2) : x < nI 3 := by
  rw [Int32.le_iff_toInt_le] at h
  rw [Int32.lt_iff_toInt_lt]
  have h2 : (nI 2).toInt = 2 := rfl
  have h3 : (nI 3).toInt = 3 := rfl
  omega
theorem sv_x32 {x : Int32} (h : ¬ x ≤ nI 2) : ¬ x < nI 3 := by
  rw [Int32.le_iff_toInt_le] at h
  rw [Int32.lt_iff_toInt_lt]
  have h2 : (nI 2).toInt = 2 := rfl
  have h3 : (nI 3).toInt = 3 := rfl
  omega
theorem sv_c1n {c : Int32} {k : Nat} (hk : k ≤ 4) (h : c < 1) : ¬ nI k < c := by
  rw [Int32.lt_iff_toInt_lt] at h
  rw [Int32.lt_iff_toInt_lt, nI_toInt (by omega)]
  have h1 : (1 : Int32).toInt = 1 := rfl
  omega
set_option maxHeartbeats 4000000 in
set_option maxRecDepth 100000 in
theorem wM_propose_J (X : sv_X D cI cZ cN cQ "SliceVotingModel" cM_propose 6 6 p R s m args c) (hJ : sv_inj 17 ad) (hA : ∀ k, k < 17 → A (ad k)) (hn : n ≤ 6) (hI : sv_IQ n qc σ) {j cM x0 y0 : Nat} (hj : j < n) (hc4 : cM ≤ 4) (hy2 : y0 ≤ 2) (h1S : sv_IS n (sv_pr1 σ j (nI cM) (nI x0))) (e14 : (sv_pr1 σ j (nI cM) (nI x0)) 14 j = nI y0) (ret : ∀ (pc : Nat) (ls : Array Slot) (H : Heap) (locs : List Loc) (mt' qm' : Nat → Int32), decode cM_propose pc = .ok (.ireturn, 1) → va_S A H0 H locs → True → sv_mP D cI cZ n qc ad (sv_set n qc j 49 (sv_vts (sv_pr1 σ j (nI cM) (nI x0)) j cM)) mt' qm' H → W p l e R s m args below meth c H locs 0 0 Q (F0 m pc ls [.int (sv_set n qc j 49 (sv_vts (sv_pr1 σ j (nI cM) (nI x0)) j cM) 14 j)])) : ∀ (kf i : Nat) (H : Heap) (locs : List Loc) (ls : Array Slot), cM - i < kf → i ≤ cM → sv_mP D cI cZ n qc ad (sv_vts (sv_pr1 σ j (nI cM) (nI x0)) j i) mt qm H → va_S A H0 H locs → lv_has ls 6 [(0, .ref (ad 0)), (1, .int (nI j)), (2, .int (nI cM)), (3, .int (nI x0)), (4, .int (nI (i + 1)))] → W p l e R s m args below meth c H locs 0 0 Q (F0 m 66 ls []) := by
  have hx := X.1
  have hb := X.2.1
  intro kf
  induction kf with
  | zero => intro i H locs ls hm; exact absurd hm (Nat.not_lt_zero _)
  | succ kf ih =>
    intro i H locs ls hm hi hP hS hl
    refine lv_iload (i := 4) hx hb dM_propose_66 (sv_at hl rfl) ?_
    refine lv_iload_n (i := 2) hx hb dM_propose_68 rfl (sv_at hl rfl) ?_
    refine lv_icmp_gt (tgt := 98) hx hb dM_propose_69 rfl (fun h69 => ?_) (fun h69 => ?_)
    · skip
      rw [nI_ltI (by omega) (by omega)] at h69
      obtain rfl : i = cM := by omega
      refine lv_aload_n (i := 0) hx hb dM_propose_98 rfl (sv_at hl rfl) ?_
      refine lv_iload_n (i := 1) hx hb dM_propose_99 rfl (sv_at hl rfl) ?_
      refine kM_settle X (by decide) hP hJ hA hS hn (sv_IQ_cg (sv_vts_ok h1S _).2.1 (sv_IQ_cg sv_pr1_Q hI)) (sv_vts_ok h1S _).1 hj hl (Nat.zero_le _) (Nat.zero_le _) (Nat.le_of_ble_eq_true rfl) dM_propose_100 (fun H locs mt qm hX hP hS => ?_)
      refine lv_aload_n (i := 0) hx hb dM_propose_103 rfl (sv_at hl rfl) ?_
      refine gM_values X hP dM_propose_104 ?_
      refine lv_iload_n (i := 1) hx hb dM_propose_107 rfl (sv_at hl rfl) ?_
      refine gm_values X hP (by omega) dM_propose_108 ?_
      exact ret _ _ _ _ _ _ dM_propose_109 hS trivial hP
    · skip
      rw [nI_ltI (by omega) (by omega)] at h69
      refine lv_aload_n (i := 0) hx hb dM_propose_72 rfl (sv_at hl rfl) ?_
      refine lv_iload_n (i := 1) hx hb dM_propose_73 rfl (sv_at hl rfl) ?_
      refine lv_iconst (v := nI 3) hx hb dM_propose_74 (by decide) ?_
      refine lv_iload (i := 4) hx hb dM_propose_75 (sv_at hl rfl) ?_
      refine lv_iconst (v := 1) hx hb dM_propose_77 (by decide) ?_
      refine lv_isub hx hb dM_propose_78 ?_
      refine lv_imul hx hb dM_propose_79 ?_
      refine lv_aload_n (i := 0) hx hb dM_propose_80 rfl (sv_at hl rfl) ?_
      refine gM_values X hP dM_propose_81 ?_
      refine lv_iload_n (i := 1) hx hb dM_propose_84 rfl (sv_at hl rfl) ?_
      refine gm_values X hP (by omega) dM_propose_85 ?_
      refine x_tv (y := nI y0) (by rw [(sv_vts_ok (v := j) h1S i).2.2 14 (by decide)]; exact e14) ?_
      refine lv_iadd hx hb dM_propose_86 ?_
      refine x_tv (y := nI (3 * i + y0)) (by rw [nI_pred, pk_mul, nI_add]) ?_
      refine kM_vote X (by decide) hP hJ hA hS (by omega) (by omega) hl (Nat.zero_le _) (Nat.zero_le _) (Nat.le_of_ble_eq_true rfl) dM_propose_87 (fun H locs mt qm hX hP hS => ?_)
      rw [hX.1, hX.2, sv_vts_v (by omega) e14] at hP
      refine lv_istore (i := 5) hx hb dM_propose_90 hl (by decide) rfl (fun ls hl => ?_)
      refine x_iinc (i := 4) hx hb dM_propose_92 hl rfl (sv_inc (i + 1)) (by decide) (fun ls hl => ?_)
      refine lv_goto (tgt := 66) hx hb dM_propose_95 rfl ?_
      exact ih (i + 1) H locs ls (by omega) (by omega) hP hS (sv_re hl ⟨rfl, rfl, rfl, rfl, rfl, trivial⟩)

set_option maxHeartbeats 4000000 in
set_option maxRecDepth 100000 in
theorem wM_propose (X : sv_X D cI cZ cN cQ "SliceVotingModel" cM_propose 6 6 p R s m args c) (hP : sv_mP D cI cZ n qc ad σ mt qm H) (hJ : sv_inj 17 ad) (hA : ∀ k, k < 17 → A (ad k)) (hS : va_S A H0 H locs) {v w x : Int32} (hn : n ≤ 6) (hI : sv_IQ n qc σ) (hIS : sv_IS n σ) (hl : lv_has ls 6 [(0, .ref (ad 0)), (1, .int v), (2, .int w), (3, .int x)]) (ret : ∀ (pc : Nat) (ls : Array Slot) (H : Heap) (locs : List Loc) (mt' qm' : Nat → Int32), decode cM_propose pc = .ok (.ireturn, 1) → va_S A H0 H locs → (True) → sv_mP D cI cZ n qc ad (sv_prS n qc σ v w x) mt' qm' H → W p l e R s m args below meth c H locs 0 0 Q (F0 m pc ls [.int (sv_prR n qc σ v w x)])) : W p l e R s m args below meth c H locs 0 0 Q (F0 m 0 ls []) := by
  have hx := X.1
  have hb := X.2.1
  refine lv_aload_n (i := 0) hx hb dM_propose_0 rfl (sv_at hl rfl) ?_
  refine lv_iload_n (i := 1) hx hb dM_propose_1 rfl (sv_at hl rfl) ?_
  refine kM_well X (by decide) hP hn hl (Nat.zero_le _) (Nat.zero_le _) (Nat.le_of_ble_eq_true rfl) dM_propose_2 ?_
  refine x_ifeqB (tgt := 37) hx hb dM_propose_5 rfl (fun h5 => ?_) (fun h5 => ?_)
  · skip
    refine lv_iconst (v := -1) hx hb dM_propose_37 (by decide) ?_
    first | (have ee : ¬ x ≤ nI 2 := h34; exact x_tv (by unfold sv_prR sv_prC; rw [decide_eq_false (sv_x32 h34), Bool.false_and, Bool.and_false, Bool.and_false, Bool.and_false]; rfl) (ret _ _ _ _ _ _ dM_propose_38 hS trivial (by unfold sv_prS sv_prC; rw [decide_eq_false (sv_x32 h34), Bool.false_and, Bool.and_false, Bool.and_false, Bool.and_false]; exact hP))) | (have ee : x < 0 := h29; exact x_tv (by unfold sv_prR sv_prC; rw [decide_eq_false (show ¬ ¬ x < 0 from fun q => q h29), Bool.false_and, Bool.and_false, Bool.and_false]; rfl) (ret _ _ _ _ _ _ dM_propose_38 hS trivial (by unfold sv_prS sv_prC; rw [decide_eq_false (show ¬ ¬ x < 0 from fun q => q h29), Bool.false_and, Bool.and_false, Bool.and_false]; exact hP))) | (have ee : w ≤ σ 13 j := h25; exact x_tv (by unfold sv_prR sv_prC; rw [nI_clamp (by omega), decide_eq_false (Int32.not_lt.mpr h25), Bool.and_false, Bool.and_false, Bool.and_false, Bool.and_false]; rfl) (ret _ _ _ _ _ _ dM_propose_38 hS trivial (by unfold sv_prS sv_prC; rw [nI_clamp (by omega), decide_eq_false (Int32.not_lt.mpr h25), Bool.and_false, Bool.and_false, Bool.and_false, Bool.and_false]; exact hP))) | (have ee : nI 4 < w := h15; exact x_tv (by unfold sv_prR sv_prC; rw [decide_eq_false (show ¬ ¬ nI 4 < w from fun q => q h15), Bool.false_and, Bool.and_false]; rfl) (ret _ _ _ _ _ _ dM_propose_38 hS trivial (by unfold sv_prS sv_prC; rw [decide_eq_false (show ¬ ¬ nI 4 < w from fun q => q h15), Bool.false_and, Bool.and_false]; exact hP))) | (have ee : w < 1 := h10; exact x_tv (by unfold sv_prR sv_prC; rw [nI_clamp (by omega), e13, decide_eq_false (sv_c1n hk4 h10), Bool.and_false, Bool.and_false, Bool.and_false, Bool.and_false]; rfl) (ret _ _ _ _ _ _ dM_propose_38 hS trivial (by unfold sv_prS sv_prC; rw [nI_clamp (by omega), e13, decide_eq_false (sv_c1n hk4 h10), Bool.and_false, Bool.and_false, Bool.and_false, Bool.and_false]; exact hP))) | (have ee : sv_wel n σ v = false := h5; exact x_tv (by unfold sv_prR sv_prC; rw [h5]; rfl) (ret _ _ _ _ _ _ dM_propose_38 hS trivial (by unfold sv_prS sv_prC; rw [h5]; exact hP)))
  · skip
    obtain ⟨j, hj, rfl, hj9⟩ := sv_wel_t (by omega) h5
    obtain ⟨-, ⟨kq, hk4, e13⟩, -, -⟩ := hIS.2 j hj
    refine lv_iload_n (i := 2) hx hb dM_propose_8 rfl (sv_at hl rfl) ?_
    refine lv_iconst (v := 1) hx hb dM_propose_9 (by decide) ?_
    refine lv_icmp_lt (tgt := 37) hx hb dM_propose_10 rfl (fun h10 => ?_) (fun h10 => ?_)
    · skip
      refine lv_iconst (v := -1) hx hb dM_propose_37 (by decide) ?_
      first | (have ee : ¬ x ≤ nI 2 := h34; exact x_tv (by unfold sv_prR sv_prC; rw [decide_eq_false (sv_x32 h34), Bool.false_and, Bool.and_false, Bool.and_false, Bool.and_false]; rfl) (ret _ _ _ _ _ _ dM_propose_38 hS trivial (by unfold sv_prS sv_prC; rw [decide_eq_false (sv_x32 h34), Bool.false_and, Bool.and_false, Bool.and_false, Bool.and_false]; exact hP))) | (have ee : x < 0 := h29; exact x_tv (by unfold sv_prR sv_prC; rw [decide_eq_false (show ¬ ¬ x < 0 from fun q => q h29), Bool.false_and, Bool.and_false, Bool.and_false]; rfl) (ret _ _ _ _ _ _ dM_propose_38 hS trivial (by unfold sv_prS sv_prC; rw [decide_eq_false (show ¬ ¬ x < 0 from fun q => q h29), Bool.false_and, Bool.and_false, Bool.and_false]; exact hP))) | (have ee : w ≤ σ 13 j := h25; exact x_tv (by unfold sv_prR sv_prC; rw [nI_clamp (by omega), decide_eq_false (Int32.not_lt.mpr h25), Bool.and_false, Bool.and_false, Bool.and_false, Bool.and_false]; rfl) (ret _ _ _ _ _ _ dM_propose_38 hS trivial (by unfold sv_prS sv_prC; rw [nI_clamp (by omega), decide_eq_false (Int32.not_lt.mpr h25), Bool.and_false, Bool.and_false, Bool.and_false, Bool.and_false]; exact hP))) | (have ee : nI 4 < w := h15; exact x_tv (by unfold sv_prR sv_prC; rw [decide_eq_false (show ¬ ¬ nI 4 < w from fun q => q h15), Bool.false_and, Bool.and_false]; rfl) (ret _ _ _ _ _ _ dM_propose_38 hS trivial (by unfold sv_prS sv_prC; rw [decide_eq_false (show ¬ ¬ nI 4 < w from fun q => q h15), Bool.false_and, Bool.and_false]; exact hP))) | (have ee : w < 1 := h10; exact x_tv (by unfold sv_prR sv_prC; rw [nI_clamp (by omega), e13, decide_eq_false (sv_c1n hk4 h10), Bool.and_false, Bool.and_false, Bool.and_false, Bool.and_false]; rfl) (ret _ _ _ _ _ _ dM_propose_38 hS trivial (by unfold sv_prS sv_prC; rw [nI_clamp (by omega), e13, decide_eq_false (sv_c1n hk4 h10), Bool.and_false, Bool.and_false, Bool.and_false, Bool.and_false]; exact hP))) | (have ee : sv_wel n σ v = false := h5; exact x_tv (by unfold sv_prR sv_prC; rw [h5]; rfl) (ret _ _ _ _ _ _ dM_propose_38 hS trivial (by unfold sv_prS sv_prC; rw [h5]; exact hP)))
    · skip
      refine lv_iload_n (i := 2) hx hb dM_propose_13 rfl (sv_at hl rfl) ?_
      refine lv_iconst (v := nI 4) hx hb dM_propose_14 (by decide) ?_
      refine lv_icmp_gt (tgt := 37) hx hb dM_propose_15 rfl (fun h15 => ?_) (fun h15 => ?_)
      · skip
        refine lv_iconst (v := -1) hx hb dM_propose_37 (by decide) ?_
        first | (have ee : ¬ x ≤ nI 2 := h34; exact x_tv (by unfold sv_prR sv_prC; rw [decide_eq_false (sv_x32 h34), Bool.false_and, Bool.and_false, Bool.and_false, Bool.and_false]; rfl) (ret _ _ _ _ _ _ dM_propose_38 hS trivial (by unfold sv_prS sv_prC; rw [decide_eq_false (sv_x32 h34), Bool.false_and, Bool.and_false, Bool.and_false, Bool.and_false]; exact hP))) | (have ee : x < 0 := h29; exact x_tv (by unfold sv_prR sv_prC; rw [decide_eq_false (show ¬ ¬ x < 0 from fun q => q h29), Bool.false_and, Bool.and_false, Bool.and_false]; rfl) (ret _ _ _ _ _ _ dM_propose_38 hS trivial (by unfold sv_prS sv_prC; rw [decide_eq_false (show ¬ ¬ x < 0 from fun q => q h29), Bool.false_and, Bool.and_false, Bool.and_false]; exact hP))) | (have ee : w ≤ σ 13 j := h25; exact x_tv (by unfold sv_prR sv_prC; rw [nI_clamp (by omega), decide_eq_false (Int32.not_lt.mpr h25), Bool.and_false, Bool.and_false, Bool.and_false, Bool.and_false]; rfl) (ret _ _ _ _ _ _ dM_propose_38 hS trivial (by unfold sv_prS sv_prC; rw [nI_clamp (by omega), decide_eq_false (Int32.not_lt.mpr h25), Bool.and_false, Bool.and_false, Bool.and_false, Bool.and_false]; exact hP))) | (have ee : nI 4 < w := h15; exact x_tv (by unfold sv_prR sv_prC; rw [decide_eq_false (show ¬ ¬ nI 4 < w from fun q => q h15), Bool.false_and, Bool.and_false]; rfl) (ret _ _ _ _ _ _ dM_propose_38 hS trivial (by unfold sv_prS sv_prC; rw [decide_eq_false (show ¬ ¬ nI 4 < w from fun q => q h15), Bool.false_and, Bool.and_false]; exact hP))) | (have ee : w < 1 := h10; exact x_tv (by unfold sv_prR sv_prC; rw [nI_clamp (by omega), e13, decide_eq_false (sv_c1n hk4 h10), Bool.and_false, Bool.and_false, Bool.and_false, Bool.and_false]; rfl) (ret _ _ _ _ _ _ dM_propose_38 hS trivial (by unfold sv_prS sv_prC; rw [nI_clamp (by omega), e13, decide_eq_false (sv_c1n hk4 h10), Bool.and_false, Bool.and_false, Bool.and_false, Bool.and_false]; exact hP))) | (have ee : sv_wel n σ v = false := h5; exact x_tv (by unfold sv_prR sv_prC; rw [h5]; rfl) (ret _ _ _ _ _ _ dM_propose_38 hS trivial (by unfold sv_prS sv_prC; rw [h5]; exact hP)))
      · skip
        refine lv_iload_n (i := 2) hx hb dM_propose_18 rfl (sv_at hl rfl) ?_
        refine lv_aload_n (i := 0) hx hb dM_propose_19 rfl (sv_at hl rfl) ?_
        refine gM_counters X hP dM_propose_20 ?_
        refine lv_iload_n (i := 1) hx hb dM_propose_23 rfl (sv_at hl rfl) ?_
        refine gm_counters X hP (by omega) dM_propose_24 ?_
        refine lv_icmp_le (tgt := 37) hx hb dM_propose_25 rfl (fun h25 => ?_) (fun h25 => ?_)
        · skip
          refine lv_iconst (v := -1) hx hb dM_propose_37 (by decide) ?_
          first | (have ee : ¬ x ≤ nI 2 := h34; exact x_tv (by unfold sv_prR sv_prC; rw [decide_eq_false (sv_x32 h34), Bool.false_and, Bool.and_false, Bool.and_false, Bool.and_false]; rfl) (ret _ _ _ _ _ _ dM_propose_38 hS trivial (by unfold sv_prS sv_prC; rw [decide_eq_false (sv_x32 h34), Bool.false_and, Bool.and_false, Bool.and_false, Bool.and_false]; exact hP))) | (have ee : x < 0 := h29; exact x_tv (by unfold sv_prR sv_prC; rw [decide_eq_false (show ¬ ¬ x < 0 from fun q => q h29), Bool.false_and, Bool.and_false, Bool.and_false]; rfl) (ret _ _ _ _ _ _ dM_propose_38 hS trivial (by unfold sv_prS sv_prC; rw [decide_eq_false (show ¬ ¬ x < 0 from fun q => q h29), Bool.false_and, Bool.and_false, Bool.and_false]; exact hP))) | (have ee : w ≤ σ 13 j := h25; exact x_tv (by unfold sv_prR sv_prC; rw [nI_clamp (by omega), decide_eq_false (Int32.not_lt.mpr h25), Bool.and_false, Bool.and_false, Bool.and_false, Bool.and_false]; rfl) (ret _ _ _ _ _ _ dM_propose_38 hS trivial (by unfold sv_prS sv_prC; rw [nI_clamp (by omega), decide_eq_false (Int32.not_lt.mpr h25), Bool.and_false, Bool.and_false, Bool.and_false, Bool.and_false]; exact hP))) | (have ee : nI 4 < w := h15; exact x_tv (by unfold sv_prR sv_prC; rw [decide_eq_false (show ¬ ¬ nI 4 < w from fun q => q h15), Bool.false_and, Bool.and_false]; rfl) (ret _ _ _ _ _ _ dM_propose_38 hS trivial (by unfold sv_prS sv_prC; rw [decide_eq_false (show ¬ ¬ nI 4 < w from fun q => q h15), Bool.false_and, Bool.and_false]; exact hP))) | (have ee : w < 1 := h10; exact x_tv (by unfold sv_prR sv_prC; rw [nI_clamp (by omega), e13, decide_eq_false (sv_c1n hk4 h10), Bool.and_false, Bool.and_false, Bool.and_false, Bool.and_false]; rfl) (ret _ _ _ _ _ _ dM_propose_38 hS trivial (by unfold sv_prS sv_prC; rw [nI_clamp (by omega), e13, decide_eq_false (sv_c1n hk4 h10), Bool.and_false, Bool.and_false, Bool.and_false, Bool.and_false]; exact hP))) | (have ee : sv_wel n σ v = false := h5; exact x_tv (by unfold sv_prR sv_prC; rw [h5]; rfl) (ret _ _ _ _ _ _ dM_propose_38 hS trivial (by unfold sv_prS sv_prC; rw [h5]; exact hP)))
        · skip
          refine lv_iload_n (i := 3) hx hb dM_propose_28 rfl (sv_at hl rfl) ?_
          refine lv_if_lt (tgt := 37) hx hb dM_propose_29 rfl (fun h29 => ?_) (fun h29 => ?_)
          · skip
            refine lv_iconst (v := -1) hx hb dM_propose_37 (by decide) ?_
            first | (have ee : ¬ x ≤ nI 2 := h34; exact x_tv (by unfold sv_prR sv_prC; rw [decide_eq_false (sv_x32 h34), Bool.false_and, Bool.and_false, Bool.and_false, Bool.and_false]; rfl) (ret _ _ _ _ _ _ dM_propose_38 hS trivial (by unfold sv_prS sv_prC; rw [decide_eq_false (sv_x32 h34), Bool.false_and, Bool.and_false, Bool.and_false, Bool.and_false]; exact hP))) | (have ee : x < 0 := h29; exact x_tv (by unfold sv_prR sv_prC; rw [decide_eq_false (show ¬ ¬ x < 0 from fun q => q h29), Bool.false_and, Bool.and_false, Bool.and_false]; rfl) (ret _ _ _ _ _ _ dM_propose_38 hS trivial (by unfold sv_prS sv_prC; rw [decide_eq_false (show ¬ ¬ x < 0 from fun q => q h29), Bool.false_and, Bool.and_false, Bool.and_false]; exact hP))) | (have ee : w ≤ σ 13 j := h25; exact x_tv (by unfold sv_prR sv_prC; rw [nI_clamp (by omega), decide_eq_false (Int32.not_lt.mpr h25), Bool.and_false, Bool.and_false, Bool.and_false, Bool.and_false]; rfl) (ret _ _ _ _ _ _ dM_propose_38 hS trivial (by unfold sv_prS sv_prC; rw [nI_clamp (by omega), decide_eq_false (Int32.not_lt.mpr h25), Bool.and_false, Bool.and_false, Bool.and_false, Bool.and_false]; exact hP))) | (have ee : nI 4 < w := h15; exact x_tv (by unfold sv_prR sv_prC; rw [decide_eq_false (show ¬ ¬ nI 4 < w from fun q => q h15), Bool.false_and, Bool.and_false]; rfl) (ret _ _ _ _ _ _ dM_propose_38 hS trivial (by unfold sv_prS sv_prC; rw [decide_eq_false (show ¬ ¬ nI 4 < w from fun q => q h15), Bool.false_and, Bool.and_false]; exact hP))) | (have ee : w < 1 := h10; exact x_tv (by unfold sv_prR sv_prC; rw [nI_clamp (by omega), e13, decide_eq_false (sv_c1n hk4 h10), Bool.and_false, Bool.and_false, Bool.and_false, Bool.and_false]; rfl) (ret _ _ _ _ _ _ dM_propose_38 hS trivial (by unfold sv_prS sv_prC; rw [nI_clamp (by omega), e13, decide_eq_false (sv_c1n hk4 h10), Bool.and_false, Bool.and_false, Bool.and_false, Bool.and_false]; exact hP))) | (have ee : sv_wel n σ v = false := h5; exact x_tv (by unfold sv_prR sv_prC; rw [h5]; rfl) (ret _ _ _ _ _ _ dM_propose_38 hS trivial (by unfold sv_prS sv_prC; rw [h5]; exact hP)))
          · skip
            refine lv_iload_n (i := 3) hx hb dM_propose_32 rfl (sv_at hl rfl) ?_
            refine lv_iconst (v := nI 2) hx hb dM_propose_33 (by decide) ?_
            refine lv_icmp_le (tgt := 39) hx hb dM_propose_34 rfl (fun h34 => ?_) (fun h34 => ?_)
            · skip
              have h38b : σ 13 j < w := Int32.not_le.mp h25
              have h38 := h38b
              have h19 := sv_x23 h34
              rw [e13] at h38b
              obtain ⟨cM, rfl, hc1, hc4⟩ := sv_cpos hk4 h38b h15
              obtain ⟨x0, rfl, hx2⟩ := sv_xsm h29 h19
              obtain ⟨h1S, y0, hy2, e14⟩ := sv_pr1_ok (j := j) hIS hc4 hx2
              refine lv_aload_n (i := 0) hx hb dM_propose_39 rfl (sv_at hl rfl) ?_
              refine lv_iconst (v := 1) hx hb dM_propose_40 (by decide) ?_
              refine pM_moves X hP hJ hA hS dM_propose_41 (fun H locs hP hS => ?_)
              refine lv_aload_n (i := 0) hx hb dM_propose_44 rfl (sv_at hl rfl) ?_
              refine gM_values X hP dM_propose_45 ?_
              refine lv_iload_n (i := 1) hx hb dM_propose_48 rfl (sv_at hl rfl) ?_
              refine lv_aload_n (i := 0) hx hb dM_propose_49 rfl (sv_at hl rfl) ?_
              refine lv_iload_n (i := 1) hx hb dM_propose_50 rfl (sv_at hl rfl) ?_
              refine lv_iload_n (i := 3) hx hb dM_propose_51 rfl (sv_at hl rfl) ?_
              refine kM_choice X (by decide) hP (by omega) hl (Nat.zero_le _) (Nat.zero_le _) (Nat.le_of_ble_eq_true rfl) dM_propose_52 ?_
              refine pm_values X hP hJ hA hS (by omega) dM_propose_55 (fun H locs hP hS => ?_)
              refine lv_aload_n (i := 0) hx hb dM_propose_56 rfl (sv_at hl rfl) ?_
              refine gM_counters X hP dM_propose_57 ?_
              refine lv_iload_n (i := 1) hx hb dM_propose_60 rfl (sv_at hl rfl) ?_
              refine lv_iload_n (i := 2) hx hb dM_propose_61 rfl (sv_at hl rfl) ?_
              refine pm_counters X hP hJ hA hS (by omega) dM_propose_62 (fun H locs hP hS => ?_)
              refine lv_iconst (v := 1) hx hb dM_propose_63 (by decide) ?_
              refine lv_istore (i := 4) hx hb dM_propose_64 hl (by decide) rfl (fun ls hl => ?_)
              refine wM_propose_J X hJ hA hn hI hj hc4 hy2 h1S e14 (fun pc ls H locs mt' qm' hd hS hX hP => ?_) _ 0 H locs ls (Nat.lt_succ_self _) (Nat.zero_le _) hP hS (sv_re hl ⟨rfl, rfl, rfl, rfl, rfl, trivial⟩)
              have eC : sv_prC n σ (nI j) (nI cM) (nI x0) = true := by unfold sv_prC; rw [h5, decide_eq_true h15, decide_eq_true h29, decide_eq_true h19, nI_clamp (by omega), decide_eq_true h38]; rfl
              have eS : sv_prS n qc σ (nI j) (nI cM) (nI x0) = sv_set n qc j 49 (sv_vts (sv_pr1 σ j (nI cM) (nI x0)) j cM) := by unfold sv_prS; rw [eC, nI_clamp (by omega), nI_clamp (by omega)]; rfl
              exact x_tv (by unfold sv_prR; rw [eC, eS, nI_clamp (by omega)]; rfl) (ret _ _ _ _ _ _ hd hS trivial (by rw [eS]; exact hP))
            · skip
              refine lv_iconst (v := -1) hx hb dM_propose_37 (by decide) ?_
              first | (have ee : ¬ x ≤ nI 2 := h34; exact x_tv (by unfold sv_prR sv_prC; rw [decide_eq_false (sv_x32 h34), Bool.false_and, Bool.and_false, Bool.and_false, Bool.and_false]; rfl) (ret _ _ _ _ _ _ dM_propose_38 hS trivial (by unfold sv_prS sv_prC; rw [decide_eq_false (sv_x32 h34), Bool.false_and, Bool.and_false, Bool.and_false, Bool.and_false]; exact hP))) | (have ee : x < 0 := h29; exact x_tv (by unfold sv_prR sv_prC; rw [decide_eq_false (show ¬ ¬ x < 0 from fun q => q h29), Bool.false_and, Bool.and_false, Bool.and_false]; rfl) (ret _ _ _ _ _ _ dM_propose_38 hS trivial (by unfold sv_prS sv_prC; rw [decide_eq_false (show ¬ ¬ x < 0 from fun q => q h29), Bool.false_and, Bool.and_false, Bool.and_false]; exact hP))) | (have ee : w ≤ σ 13 j := h25; exact x_tv (by unfold sv_prR sv_prC; rw [nI_clamp (by omega), decide_eq_false (Int32.not_lt.mpr h25), Bool.and_false, Bool.and_false, Bool.and_false, Bool.and_false]; rfl) (ret _ _ _ _ _ _ dM_propose_38 hS trivial (by unfold sv_prS sv_prC; rw [nI_clamp (by omega), decide_eq_false (Int32.not_lt.mpr h25), Bool.and_false, Bool.and_false, Bool.and_false, Bool.and_false]; exact hP))) | (have ee : nI 4 < w := h15; exact x_tv (by unfold sv_prR sv_prC; rw [decide_eq_false (show ¬ ¬ nI 4 < w from fun q => q h15), Bool.false_and, Bool.and_false]; rfl) (ret _ _ _ _ _ _ dM_propose_38 hS trivial (by unfold sv_prS sv_prC; rw [decide_eq_false (show ¬ ¬ nI 4 < w from fun q => q h15), Bool.false_and, Bool.and_false]; exact hP))) | (have ee : w < 1 := h10; exact x_tv (by unfold sv_prR sv_prC; rw [nI_clamp (by omega), e13, decide_eq_false (sv_c1n hk4 h10), Bool.and_false, Bool.and_false, Bool.and_false, Bool.and_false]; rfl) (ret _ _ _ _ _ _ dM_propose_38 hS trivial (by unfold sv_prS sv_prC; rw [nI_clamp (by omega), e13, decide_eq_false (sv_c1n hk4 h10), Bool.and_false, Bool.and_false, Bool.and_false, Bool.and_false]; exact hP))) | (have ee : sv_wel n σ v = false := h5; exact x_tv (by unfold sv_prR sv_prC; rw [h5]; rfl) (ret _ _ _ _ _ _ dM_propose_38 hS trivial (by unfold sv_prS sv_prC; rw [h5]; exact hP)))

theorem cM_m_propose (hJ : sv_inj 17 ad) (hA : ∀ k, k < 17 → A (ad k)) {v w x : Int32} (hn : n ≤ 6) (hI : sv_IQ n qc σ) (hIS : sv_IS n σ) : Met l yM_propose (sv_ws yM_propose cM_propose 6 (some .int)) (sv_rm 6) (sv_Pc D cI cZ cN cQ [.ref (ad 0), .int v, .int w, .int x] (fun H => sv_mP D cI cZ n qc ad σ mt qm H)) (va_Qi (fun (r : Int32) (u : Sg × (Nat → Int32) × (Nat → Int32)) => r = sv_prR n qc σ v w x ∧ u.1 = sv_prS n qc σ v w x ∧ (True)) (fun u t => sv_mP D cI cZ n qc ad u.1 u.2.1 u.2.2 t.heap) A) 0 0 A :=
  sv_mkI (S := Sg × (Nat → Int32) × (Nat → Int32)) (B := fun u H => sv_mP D cI cZ n qc ad u.1 u.2.1 u.2.2 H) (by decide) (by show 4 ≤ 6; decide) (fun _ _ _ => rfl) (fun p e s m below meth c ls Q X hP hl ret => wM_propose X hP hJ hA va_S.rf hn hI hIS hl (fun pc ls H locs mt' qm' hd hS hX hP => ret pc ls _ (_, mt', qm') H locs hd hS ⟨rfl, rfl, hX⟩ hP))
set_option maxRecDepth 100000 in
theorem okL_M_propose : sv_okV "SliceVotingLaw" 39 yM_propose cM_propose 6 (some .int) 3 := ⟨sv_tb_t 431 rfl rfl, sv_tb_t 428 rfl rfl, sv_tb_t 429 rfl rfl, sv_tb_t 430 rfl rfl, sv_tb_t 4 rfl rfl, ⟨by decide, by decide, by decide +kernel⟩, by decide⟩
theorem kL_m_propose (X : sv_X D cI cZ cN cQ "SliceVotingLaw" cc nL k p R s m args c) (hk : 6 + 1 ≤ k) (hP : sv_mP D cI cZ n qc ad σ mt qm H) (hJ : sv_inj 17 ad) (hA : ∀ k, k < 17 → A (ad k)) (hS : va_S A H0 H locs) {v w x : Int32} (hn : n ≤ 6) (hI : sv_IQ n qc σ) (hIS : sv_IS n σ) (hl : lv_has ls nL lv) (hc : cells ≤ R.cells) (hs : slots ≤ R.slots) (hcat : (rest.map fun v => v.category).sum ≤ 8) (hd : decode cc pc = .ok (.invokevirtual 39, 3)) (kk : ∀ (H1 : Heap) (locs1 : List Loc) (mt' qm' : Nat → Int32), (True) → sv_mP D cI cZ n qc ad (sv_prS n qc σ v w x) mt' qm' H1 → va_S A H0 H1 locs1 → W p l e R s m args below meth c H1 locs1 cells slots Q (F0 m (pc + 3) ls (.int (sv_prR n qc σ v w x) :: rest))) : W p l e R s m args below meth c H locs cells slots Q (F0 m pc ls (.int x :: .int w :: .int v :: .ref (ad 0) :: rest)) :=
  sv_wVi (S := Sg × (Nat → Int32) × (Nat → Int32)) (G := fun H => sv_mP D cI cZ n qc ad σ mt qm H) (B := fun u H => sv_mP D cI cZ n qc ad u.1 u.2.1 u.2.2 H) X okL_M_propose (cM_m_propose hJ hA hn hI hIS) hP (y_rec X.K hP (by decide) sv_me_0 rfl) hS hk rfl hl.1 rfl hcat hc hs hd (fun r u H1 locs1 hp hB hS => by obtain ⟨τ, a, b⟩ := u; obtain ⟨rfl, h1, h2⟩ := hp; dsimp only at h1 h2 hB; subst h1; exact kk H1 locs1 a b h2 hB hS)
def sv_sm (f : Nat → Nat) : Nat → Nat
  | 0 => 0
  | k + 1 => sv_sm f k + f k
theorem sv_sm_add {f h : Nat → Nat} {v : Nat} : ∀ k, (∀ u, u < k → h u = f u + (if u = v then 1 else 0)) → sv_sm h k = sv_sm f k + (if v < k then 1 else 0)
  | 0, _ => rfl
  | k + 1, hh => by
    show sv_sm h k + h k = sv_sm f k + f k + _
    rw [sv_sm_add k (fun u hu => hh u (by omega)), hh k (by omega)]
    by_cases e : k = v
    · rw [if_pos e, if_neg (by omega), if_pos (by omega)]; omega
    · rw [if_neg e]
      by_cases e2 : v < k
      · rw [if_pos e2, if_pos (by omega)]; omega
      · rw [if_neg e2, if_neg (by omega)]; omega
theorem sv_sm_own {σ : Sg} {n qc : Nat} (hn : n ≤ 6) (h : ∀ q, q < qc → ∃ v, v < n ∧ σ 3 q = nI v) : ∀ m, m ≤ qc → sv_sm (fun v => sv_cnt (fun q => σ 3 q == nI v) 0 m) n = m
  | 0, _ => by
    have : ∀ k, sv_sm (fun v => sv_cnt (fun q => σ 3 q == nI v) 0 0) k = 0 := by
      intro k
      induction k with
      | zero => rfl
      | succ k ih => show sv_sm _ k + 0 = 0; rw [ih]
    exact this n
  | m + 1, hm => by
    obtain ⟨v, hv, e⟩ := h m (by omega)
    have h1 := sv_sm_add (f := fun u => sv_cnt (fun q => σ 3 q == nI u) 0 m) (h := fun u => sv_cnt (fun q => σ 3 q == nI u) 0 (m + 1)) (v := v) n (fun u hu => by
      show sv_cnt _ 0 (m + 1) = _
      by_cases eu : u = v
      · rw [if_pos eu, sv_cnt_t (Nat.zero_le _) (by rw [e, eu]; simp)]
      · rw [if_neg eu, sv_cnt_f (by rw [e]; exact beq_eq_false_iff_ne.mpr (fun q => eu ((nI_eq (by omega) (by omega)).mp q).symm))]
        rfl)
    rw [h1, sv_sm_own hn h m (by omega), if_pos hv]
theorem sv_sm_lt {f : Nat → Nat} {v : Nat} : ∀ n, (∀ u, u < n → f u ≤ 4) → v < n → f v < 4 → sv_sm f n < 4 * n
  | 0, _, h, _ => absurd h (by omega)
  | n + 1, hf, hv, h4 => by
    show sv_sm f n + f n < _
    by_cases e : v = n
    · have : ∀ k, k ≤ n → sv_sm f k ≤ 4 * k := by
        intro k
        induction k with
        | zero => intro _; exact Nat.le_refl _
        | succ k ih => intro hk; have := ih (by omega); have := hf k (by omega); show sv_sm f k + f k ≤ _; omega
      have := this n (Nat.le_refl _)
      rw [e] at h4
      omega
    · have := sv_sm_lt n (fun u hu => hf u (by omega)) (show v < n by omega) h4
      have := hf n (by omega)
      omega
theorem sv_qc_lt {σ : Sg} {n qc v : Nat} (hI : sv_IQ n qc σ) (hv : v < n) (h : sv_own σ qc v < 4) : qc < 4 * n := by
  have h1 := sv_sm_own hI.2.1 (fun q hq => (hI.2.2.2.2 q hq).1) qc (Nat.le_refl _)
  have h2 := sv_sm_lt (f := fun v => sv_cnt (fun q => σ 3 q == nI v) 0 qc) (v := v) n (fun u hu => hI.2.2.1 u hu) hv h
  omega
/-- may a quota be made, and what it does to the state -/
def sv_qtC (n qc : Nat) (σ : Sg) (v w x : Int32) : Bool := decide (σ 1 0 = 0) && (sv_isn n v && (decide (¬ x < 1) && (decide (¬ nI 9 < x) && (decide (sv_own σ qc v.toNatClampNeg < 4) &&
  (bif decide (w = -1) then (sv_top σ qc v.toNatClampNeg).isNone else sv_isn qc w && (decide (σ 3 w.toNatClampNeg = v) && decide (σ 5 w.toNatClampNeg < nI 3)))))))
def sv_qS (σ : Sg) (qc : Nat) (v w lv x : Int32) : Sg := sg (sg (sg (sg (sg σ 3 qc v) 4 qc w) 5 qc lv) 6 qc x) 7 qc 0
def sv_qtS (n qc : Nat) (σ : Sg) (v w x : Int32) : Sg := bif sv_qtC n qc σ v w x then sv_qS σ qc v w (bif decide (w = -1) then 1 else σ 5 w.toNatClampNeg + 1) x else σ
def sv_qtQ (n qc : Nat) (σ : Sg) (v w x : Int32) : Nat := bif sv_qtC n qc σ v w x then qc + 1 else qc
def sv_qtR (n qc : Nat) (σ : Sg) (v w x : Int32) : Int32 := bif sv_qtC n qc σ v w x then nI qc else -1
theorem pM_quotas (X : sv_X D cI cZ cN cQ "SliceVotingModel" cc nL k p R s m args c) (hP : sv_mP D cI cZ n qc ad σ mt qm H) (hJ : sv_inj 17 ad) (hA : ∀ k, k < 17 → A (ad k)) (hS : va_S A H0 H locs) {qc' : Nat} (hd : decode cc pc = .ok (.putfield 67, 3)) (kk : ∀ (H1 : Heap) (locs1 : List Loc), sv_mP D cI cZ n qc' ad σ mt qm H1 → va_S A H0 H1 locs1 → W p l e R s m args below meth c H1 locs1 cells slots Q (F0 m (pc + 3) ls rest)) : W p l e R s m args below meth c H locs cells slots Q (F0 m pc ls (.int (nI qc') :: .ref (ad 0) :: rest)) :=
  y_put X.1 X.2.1 X.hts in_M t_M t_M_ok nm_M X.own X.K hP (sv_D hJ hA) hS (by decide) sv_me_0 rfl 2 (by decide) (sv_tb_t 314 rfl rfl) rfl (ty := .int) (by decide +kernel) rfl rfl (by show 2 < 19; decide) hd (fun H1 locs1 h1 h3 => kk H1 locs1 (by
    rw [sv_L_congr (en' := sv_me cI cZ n qc' ad σ mt qm) (fun k' _ => by
      by_cases e : k' = 0
      · subst e; rw [sv_me_0]; rfl
      · simp only [va_up, if_neg e]
        unfold sv_me
        rw [if_neg e, if_neg e])] at h1
    exact h1) h3)
theorem sv_qt_1 {n qc : Nat} {σ : Sg} {v w x : Int32} (h : ¬ σ 1 0 = 0) : sv_qtC n qc σ v w x = false := by unfold sv_qtC; rw [decide_eq_false h]; rfl
theorem sv_qt_2 {n qc : Nat} {σ : Sg} {v w x : Int32} (h : sv_isn n v = false) : sv_qtC n qc σ v w x = false := by unfold sv_qtC; rw [h, Bool.false_and, Bool.and_false]
theorem sv_qt_3 {n qc : Nat} {σ : Sg} {v w x : Int32} (h : x < 1) : sv_qtC n qc σ v w x = false := by unfold sv_qtC; rw [decide_eq_false (show ¬ ¬ x < 1 from fun q => q h), Bool.false_and, Bool.and_false, Bool.and_false]
theorem sv_qt_4 {n qc : Nat} {σ : Sg} {v w x : Int32} (h : nI 9 < x) : sv_qtC n qc σ v w x = false := by unfold sv_qtC; rw [decide_eq_false (show ¬ ¬ nI 9 < x from fun q => q h), Bool.false_and, Bool.and_false, Bool.and_false, Bool.and_false]
theorem sv_qt_5 {n qc : Nat} {σ : Sg} {v w x : Int32} (h : ¬ sv_own σ qc v.toNatClampNeg < 4) : sv_qtC n qc σ v w x = false := by unfold sv_qtC; rw [decide_eq_false h, Bool.false_and, Bool.and_false, Bool.and_false, Bool.and_false, Bool.and_false]
theorem sv_qt_6 {n qc : Nat} {σ : Sg} {v w x : Int32} {t : Nat} (hw : w = -1) (h : sv_top σ qc v.toNatClampNeg = some t) : sv_qtC n qc σ v w x = false := by unfold sv_qtC; rw [decide_eq_true hw, h]; simp
theorem sv_qt_7 {n qc : Nat} {σ : Sg} {v w x : Int32} (hw : ¬ w = -1) (h : sv_isn qc w = false) : sv_qtC n qc σ v w x = false := by unfold sv_qtC; rw [decide_eq_false hw, h]; simp
theorem sv_qt_8 {n qc : Nat} {σ : Sg} {v w x : Int32} (hw : ¬ w = -1) (h : ¬ σ 3 w.toNatClampNeg = v) : sv_qtC n qc σ v w x = false := by unfold sv_qtC; rw [decide_eq_false hw, decide_eq_false h]; simp
theorem sv_qt_9 {n qc : Nat} {σ : Sg} {v w x : Int32} (hw : ¬ w = -1) (h : ¬ σ 5 w.toNatClampNeg < nI 3) : sv_qtC n qc σ v w x = false := by unfold sv_qtC; rw [decide_eq_false hw, decide_eq_false h]; simp
theorem sv_qt_y1 {n qc : Nat} {σ : Sg} {v w x : Int32} (h1 : σ 1 0 = 0) (h2 : sv_isn n v = true) (h3 : ¬ x < 1) (h4 : ¬ nI 9 < x) (h5 : sv_own σ qc v.toNatClampNeg < 4) (hw : w = -1) (h : sv_top σ qc v.toNatClampNeg = none) : sv_qtC n qc σ v w x = true := by unfold sv_qtC; rw [decide_eq_true h1, h2, decide_eq_true h3, decide_eq_true h4, decide_eq_true h5, decide_eq_true hw, h]; rfl
theorem sv_qt_y2 {n qc : Nat} {σ : Sg} {v w x : Int32} (h1 : σ 1 0 = 0) (h2 : sv_isn n v = true) (h3 : ¬ x < 1) (h4 : ¬ nI 9 < x) (h5 : sv_own σ qc v.toNatClampNeg < 4) (hw : ¬ w = -1) (h6 : sv_isn qc w = true) (h7 : σ 3 w.toNatClampNeg = v) (h8 : σ 5 w.toNatClampNeg < nI 3) : sv_qtC n qc σ v w x = true := by unfold sv_qtC; rw [decide_eq_true h1, h2, decide_eq_true h3, decide_eq_true h4, decide_eq_true h5, decide_eq_false hw, h6, decide_eq_true h7, decide_eq_true h8]; rfl
theorem sv_par1 {w : Int32} (h1 : ¬ w < -1) (h2 : ¬ w = -1) : ¬ w < 0 := by
  rw [Int32.lt_iff_toInt_lt] at h1 ⊢
  have e1 : (-1 : Int32).toInt = -1 := rfl
  have e0 : (0 : Int32).toInt = 0 := rfl
  have h3 : ¬ w.toInt = -1 := fun q => h2 (Int32.toInt_inj.mp (by rw [q]; rfl))
  omega
theorem sv_lvl3 {n qc b : Nat} {σ : Sg} (hI : sv_IQ n qc σ) (hb : b < qc) : ∃ d, 1 ≤ d ∧ d ≤ 3 ∧ σ 5 b = nI d := by
  obtain ⟨-, -, -, h | ⟨p, d, -, -, h1, h2, -, h3, -⟩⟩ := hI.2.2.2.2 b hb
  · exact ⟨1, by decide, by decide, h.2.1⟩
  · exact ⟨d + 1, by omega, by omega, h3⟩
set_option maxHeartbeats 4000000 in
set_option maxRecDepth 100000 in
theorem wM_quota_J (X : sv_X D cI cZ cN cQ "SliceVotingModel" cM_quota 6 2 p R s m args c) (hP : sv_mP D cI cZ n qc ad σ mt qm H) (hI : sv_IQ n qc σ) {a : Nat} {w x : Int32} (ha : a < n) : ∀ (kf i : Nat) (ls : Array Slot), qc - i < kf → i ≤ qc → (∀ ls : Array Slot, lv_has ls 6 [(0, .ref (ad 0)), (1, .int (nI a)), (2, .int w), (3, .int x), (4, .int (nI (sv_cnt (fun q => σ 3 q == nI a) 0 qc)))] → W p l e R s m args below meth c H locs 0 0 Q (F0 m 84 ls [])) → lv_has ls 6 [(0, .ref (ad 0)), (1, .int (nI a)), (2, .int w), (3, .int x), (4, .int (nI (sv_cnt (fun q => σ 3 q == nI a) 0 i))), (5, .int (nI i))] → W p l e R s m args below meth c H locs 0 0 Q (F0 m 47 ls []) := by
  have hx := X.1
  have hb := X.2.1
  have hq24 := hI.2.2.2.1
  intro kf
  induction kf with
  | zero => intro i ls hm; exact absurd hm (Nat.not_lt_zero _)
  | succ kf ih =>
    intro i ls hm hi hout hl
    refine lv_iload (i := 5) hx hb dM_quota_47 (sv_at hl rfl) ?_
    refine lv_aload_n (i := 0) hx hb dM_quota_49 rfl (sv_at hl rfl) ?_
    refine gM_quotas X hP dM_quota_50 ?_
    refine lv_icmp_ge (tgt := 84) hx hb dM_quota_53 rfl (fun h53 => ?_) (fun h53 => ?_)
    · skip
      rw [nI_leI (by omega) (by omega)] at h53
      obtain rfl : i = qc := by omega
      exact hout ls (sv_re hl ⟨rfl, rfl, rfl, rfl, rfl, trivial⟩)
    · skip
      rw [nI_leI (by omega) (by omega)] at h53
      refine lv_aload_n (i := 0) hx hb dM_quota_56 rfl (sv_at hl rfl) ?_
      refine gM_owner X hP dM_quota_57 ?_
      refine lv_iload (i := 5) hx hb dM_quota_60 (sv_at hl rfl) ?_
      refine gm_owner X hP (by omega) dM_quota_62 ?_
      refine lv_iload_n (i := 1) hx hb dM_quota_63 rfl (sv_at hl rfl) ?_
      refine lv_icmp_ne (tgt := 74) hx hb dM_quota_64 rfl (fun h64 => ?_) (fun h64 => ?_)
      · skip
        refine lv_iload (i := 4) hx hb dM_quota_74 (sv_at hl rfl) ?_
        first | (have ee : ¬ σ 3 i = nI a := h64; refine x_tv (y := nI (sv_cnt (fun q => σ 3 q == nI a) 0 (i + 1))) (by rw [sv_cnt_f (P := (fun q => σ 3 q == nI a)) (beq_eq_false_iff_ne.mpr ee)]) ?_) | refine x_tv (y := nI (sv_cnt (fun q => σ 3 q == nI a) 0 (i + 1))) (by rw [sv_cnt_t (P := (fun q => σ 3 q == nI a)) (Nat.zero_le _) (beq_iff_eq.mpr h64)]; exact nI_1 _) ?_
        refine lv_istore (i := 4) hx hb dM_quota_76 hl (by decide) rfl (fun ls hl => ?_)
        refine x_iinc (i := 5) hx hb dM_quota_78 hl rfl (sv_inc i) (by decide) (fun ls hl => ?_)
        refine lv_goto (tgt := 47) hx hb dM_quota_81 rfl ?_
        exact ih (i + 1) ls (by omega) (by omega) hout (sv_re hl ⟨rfl, rfl, rfl, rfl, rfl, rfl, trivial⟩)
      · skip
        refine lv_iload (i := 4) hx hb dM_quota_67 (sv_at hl rfl) ?_
        refine lv_iconst (v := 1) hx hb dM_quota_69 (by decide) ?_
        refine lv_iadd hx hb dM_quota_70 ?_
        refine lv_goto (tgt := 76) hx hb dM_quota_71 rfl ?_
        first | (have ee : ¬ σ 3 i = nI a := h64; refine x_tv (y := nI (sv_cnt (fun q => σ 3 q == nI a) 0 (i + 1))) (by rw [sv_cnt_f (P := (fun q => σ 3 q == nI a)) (beq_eq_false_iff_ne.mpr ee)]) ?_) | refine x_tv (y := nI (sv_cnt (fun q => σ 3 q == nI a) 0 (i + 1))) (by rw [sv_cnt_t (P := (fun q => σ 3 q == nI a)) (Nat.zero_le _) (beq_iff_eq.mpr h64)]; exact nI_1 _) ?_
        refine lv_istore (i := 4) hx hb dM_quota_76 hl (by decide) rfl (fun ls hl => ?_)
        refine x_iinc (i := 5) hx hb dM_quota_78 hl rfl (sv_inc i) (by decide) (fun ls hl => ?_)
        refine lv_goto (tgt := 47) hx hb dM_quota_81 rfl ?_
        exact ih (i + 1) ls (by omega) (by omega) hout (sv_re hl ⟨rfl, rfl, rfl, rfl, rfl, rfl, trivial⟩)

set_option maxHeartbeats 4000000 in
set_option maxRecDepth 100000 in
theorem wM_quota (X : sv_X D cI cZ cN cQ "SliceVotingModel" cM_quota 6 2 p R s m args c) (hP : sv_mP D cI cZ n qc ad σ mt qm H) (hJ : sv_inj 17 ad) (hA : ∀ k, k < 17 → A (ad k)) (hS : va_S A H0 H locs) {v w x : Int32} (hn : n ≤ 6) (hI : sv_IQ n qc σ) (hl : lv_has ls 6 [(0, .ref (ad 0)), (1, .int v), (2, .int w), (3, .int x)]) (ret : ∀ (pc : Nat) (ls : Array Slot) (H : Heap) (locs : List Loc) (mt' qm' : Nat → Int32), decode cM_quota pc = .ok (.ireturn, 1) → va_S A H0 H locs → (mt' = mt ∧ qm' = qm) → sv_mP D cI cZ n (sv_qtQ n qc σ v w x) ad (sv_qtS n qc σ v w x) mt' qm' H → W p l e R s m args below meth c H locs 0 0 Q (F0 m pc ls [.int (sv_qtR n qc σ v w x)])) : W p l e R s m args below meth c H locs 0 0 Q (F0 m 0 ls []) := by
  have hx := X.1
  have hb := X.2.1
  have hq24 := hI.2.2.2.1
  refine lv_aload_n (i := 0) hx hb dM_quota_0 rfl (sv_at hl rfl) ?_
  refine gM_moves X hP dM_quota_1 ?_
  refine lv_if_ne (tgt := 39) hx hb dM_quota_4 rfl (fun h4 => ?_) (fun h4 => ?_)
  · skip
    refine lv_iconst (v := -1) hx hb dM_quota_39 (by decide) ?_
    first | (have ee : ¬ w < nI qc := h36; exact x_tv (by unfold sv_qtR; rw [sv_qt_7 (fun q => by rw [q] at ee; exact ee (Int32.lt_of_lt_of_le (by decide) (nI_pos' (n := qc) (by omega)))) (by unfold sv_isn; rw [decide_eq_false (show ¬ ¬ nI qc ≤ w from fun q => q (Int32.not_lt.mp ee)), Bool.and_false])]; rfl) (ret _ _ _ _ _ _ dM_quota_40 hS ⟨rfl, rfl⟩ (by unfold sv_qtS sv_qtQ; rw [sv_qt_7 (fun q => by rw [q] at ee; exact ee (Int32.lt_of_lt_of_le (by decide) (nI_pos' (n := qc) (by omega)))) (by unfold sv_isn; rw [decide_eq_false (show ¬ ¬ nI qc ≤ w from fun q => q (Int32.not_lt.mp ee)), Bool.and_false])]; exact hP))) | (have ee : w < -1 := h28; have e9 : sv_qtC n qc σ (nI a) w x = false := (sv_qt_7 (fun q => by rw [q] at ee; exact absurd ee (by decide)) (by unfold sv_isn; rw [decide_eq_false (show ¬ ¬ w < 0 from fun q => q (Int32.lt_trans ee (by decide)))]; rfl)); exact x_tv (by unfold sv_qtR; rw [e9]; rfl) (ret _ _ _ _ _ _ dM_quota_40 hS ⟨rfl, rfl⟩ (by unfold sv_qtS sv_qtQ; rw [e9]; exact hP))) | (have ee : nI 9 < x := h23; exact x_tv (by unfold sv_qtR; rw [sv_qt_4 ee]; rfl) (ret _ _ _ _ _ _ dM_quota_40 hS ⟨rfl, rfl⟩ (by unfold sv_qtS sv_qtQ; rw [sv_qt_4 ee]; exact hP))) | (have ee : x < 1 := h17; exact x_tv (by unfold sv_qtR; rw [sv_qt_3 ee]; rfl) (ret _ _ _ _ _ _ dM_quota_40 hS ⟨rfl, rfl⟩ (by unfold sv_qtS sv_qtQ; rw [sv_qt_3 ee]; exact hP))) | (have ee : sv_isn n v = false := h12; exact x_tv (by unfold sv_qtR; rw [sv_qt_2 ee]; rfl) (ret _ _ _ _ _ _ dM_quota_40 hS ⟨rfl, rfl⟩ (by unfold sv_qtS sv_qtQ; rw [sv_qt_2 ee]; exact hP))) | (have ee : ¬ σ 1 0 = 0 := h4; exact x_tv (by unfold sv_qtR; rw [sv_qt_1 ee]; rfl) (ret _ _ _ _ _ _ dM_quota_40 hS ⟨rfl, rfl⟩ (by unfold sv_qtS sv_qtQ; rw [sv_qt_1 ee]; exact hP)))
  · skip
    refine lv_aload_n (i := 0) hx hb dM_quota_7 rfl (sv_at hl rfl) ?_
    refine lv_iload_n (i := 1) hx hb dM_quota_8 rfl (sv_at hl rfl) ?_
    refine kM_isNode X (by decide) hP  hl (Nat.zero_le _) (Nat.zero_le _) (Nat.le_of_ble_eq_true rfl) dM_quota_9 ?_
    refine x_ifeqB (tgt := 39) hx hb dM_quota_12 rfl (fun h12 => ?_) (fun h12 => ?_)
    · skip
      refine lv_iconst (v := -1) hx hb dM_quota_39 (by decide) ?_
      first | (have ee : ¬ w < nI qc := h36; exact x_tv (by unfold sv_qtR; rw [sv_qt_7 (fun q => by rw [q] at ee; exact ee (Int32.lt_of_lt_of_le (by decide) (nI_pos' (n := qc) (by omega)))) (by unfold sv_isn; rw [decide_eq_false (show ¬ ¬ nI qc ≤ w from fun q => q (Int32.not_lt.mp ee)), Bool.and_false])]; rfl) (ret _ _ _ _ _ _ dM_quota_40 hS ⟨rfl, rfl⟩ (by unfold sv_qtS sv_qtQ; rw [sv_qt_7 (fun q => by rw [q] at ee; exact ee (Int32.lt_of_lt_of_le (by decide) (nI_pos' (n := qc) (by omega)))) (by unfold sv_isn; rw [decide_eq_false (show ¬ ¬ nI qc ≤ w from fun q => q (Int32.not_lt.mp ee)), Bool.and_false])]; exact hP))) | (have ee : w < -1 := h28; have e9 : sv_qtC n qc σ (nI a) w x = false := (sv_qt_7 (fun q => by rw [q] at ee; exact absurd ee (by decide)) (by unfold sv_isn; rw [decide_eq_false (show ¬ ¬ w < 0 from fun q => q (Int32.lt_trans ee (by decide)))]; rfl)); exact x_tv (by unfold sv_qtR; rw [e9]; rfl) (ret _ _ _ _ _ _ dM_quota_40 hS ⟨rfl, rfl⟩ (by unfold sv_qtS sv_qtQ; rw [e9]; exact hP))) | (have ee : nI 9 < x := h23; exact x_tv (by unfold sv_qtR; rw [sv_qt_4 ee]; rfl) (ret _ _ _ _ _ _ dM_quota_40 hS ⟨rfl, rfl⟩ (by unfold sv_qtS sv_qtQ; rw [sv_qt_4 ee]; exact hP))) | (have ee : x < 1 := h17; exact x_tv (by unfold sv_qtR; rw [sv_qt_3 ee]; rfl) (ret _ _ _ _ _ _ dM_quota_40 hS ⟨rfl, rfl⟩ (by unfold sv_qtS sv_qtQ; rw [sv_qt_3 ee]; exact hP))) | (have ee : sv_isn n v = false := h12; exact x_tv (by unfold sv_qtR; rw [sv_qt_2 ee]; rfl) (ret _ _ _ _ _ _ dM_quota_40 hS ⟨rfl, rfl⟩ (by unfold sv_qtS sv_qtQ; rw [sv_qt_2 ee]; exact hP))) | (have ee : ¬ σ 1 0 = 0 := h4; exact x_tv (by unfold sv_qtR; rw [sv_qt_1 ee]; rfl) (ret _ _ _ _ _ _ dM_quota_40 hS ⟨rfl, rfl⟩ (by unfold sv_qtS sv_qtQ; rw [sv_qt_1 ee]; exact hP)))
    · skip
      obtain ⟨a, ha, rfl⟩ := sv_isn_t (by omega) h12
      have eca : (nI a).toNatClampNeg = a := nI_clamp (by omega)
      refine lv_iload_n (i := 3) hx hb dM_quota_15 rfl (sv_at hl rfl) ?_
      refine lv_iconst (v := 1) hx hb dM_quota_16 (by decide) ?_
      refine lv_icmp_lt (tgt := 39) hx hb dM_quota_17 rfl (fun h17 => ?_) (fun h17 => ?_)
      · skip
        refine lv_iconst (v := -1) hx hb dM_quota_39 (by decide) ?_
        first | (have ee : ¬ w < nI qc := h36; exact x_tv (by unfold sv_qtR; rw [sv_qt_7 (fun q => by rw [q] at ee; exact ee (Int32.lt_of_lt_of_le (by decide) (nI_pos' (n := qc) (by omega)))) (by unfold sv_isn; rw [decide_eq_false (show ¬ ¬ nI qc ≤ w from fun q => q (Int32.not_lt.mp ee)), Bool.and_false])]; rfl) (ret _ _ _ _ _ _ dM_quota_40 hS ⟨rfl, rfl⟩ (by unfold sv_qtS sv_qtQ; rw [sv_qt_7 (fun q => by rw [q] at ee; exact ee (Int32.lt_of_lt_of_le (by decide) (nI_pos' (n := qc) (by omega)))) (by unfold sv_isn; rw [decide_eq_false (show ¬ ¬ nI qc ≤ w from fun q => q (Int32.not_lt.mp ee)), Bool.and_false])]; exact hP))) | (have ee : w < -1 := h28; have e9 : sv_qtC n qc σ (nI a) w x = false := (sv_qt_7 (fun q => by rw [q] at ee; exact absurd ee (by decide)) (by unfold sv_isn; rw [decide_eq_false (show ¬ ¬ w < 0 from fun q => q (Int32.lt_trans ee (by decide)))]; rfl)); exact x_tv (by unfold sv_qtR; rw [e9]; rfl) (ret _ _ _ _ _ _ dM_quota_40 hS ⟨rfl, rfl⟩ (by unfold sv_qtS sv_qtQ; rw [e9]; exact hP))) | (have ee : nI 9 < x := h23; exact x_tv (by unfold sv_qtR; rw [sv_qt_4 ee]; rfl) (ret _ _ _ _ _ _ dM_quota_40 hS ⟨rfl, rfl⟩ (by unfold sv_qtS sv_qtQ; rw [sv_qt_4 ee]; exact hP))) | (have ee : x < 1 := h17; exact x_tv (by unfold sv_qtR; rw [sv_qt_3 ee]; rfl) (ret _ _ _ _ _ _ dM_quota_40 hS ⟨rfl, rfl⟩ (by unfold sv_qtS sv_qtQ; rw [sv_qt_3 ee]; exact hP))) | (have ee : sv_isn n v = false := h12; exact x_tv (by unfold sv_qtR; rw [sv_qt_2 ee]; rfl) (ret _ _ _ _ _ _ dM_quota_40 hS ⟨rfl, rfl⟩ (by unfold sv_qtS sv_qtQ; rw [sv_qt_2 ee]; exact hP))) | (have ee : ¬ σ 1 0 = 0 := h4; exact x_tv (by unfold sv_qtR; rw [sv_qt_1 ee]; rfl) (ret _ _ _ _ _ _ dM_quota_40 hS ⟨rfl, rfl⟩ (by unfold sv_qtS sv_qtQ; rw [sv_qt_1 ee]; exact hP)))
      · skip
        refine lv_iload_n (i := 3) hx hb dM_quota_20 rfl (sv_at hl rfl) ?_
        refine lv_bipush (v := nI 9) hx hb dM_quota_21 (by decide) ?_
        refine lv_icmp_gt (tgt := 39) hx hb dM_quota_23 rfl (fun h23 => ?_) (fun h23 => ?_)
        · skip
          refine lv_iconst (v := -1) hx hb dM_quota_39 (by decide) ?_
          first | (have ee : ¬ w < nI qc := h36; exact x_tv (by unfold sv_qtR; rw [sv_qt_7 (fun q => by rw [q] at ee; exact ee (Int32.lt_of_lt_of_le (by decide) (nI_pos' (n := qc) (by omega)))) (by unfold sv_isn; rw [decide_eq_false (show ¬ ¬ nI qc ≤ w from fun q => q (Int32.not_lt.mp ee)), Bool.and_false])]; rfl) (ret _ _ _ _ _ _ dM_quota_40 hS ⟨rfl, rfl⟩ (by unfold sv_qtS sv_qtQ; rw [sv_qt_7 (fun q => by rw [q] at ee; exact ee (Int32.lt_of_lt_of_le (by decide) (nI_pos' (n := qc) (by omega)))) (by unfold sv_isn; rw [decide_eq_false (show ¬ ¬ nI qc ≤ w from fun q => q (Int32.not_lt.mp ee)), Bool.and_false])]; exact hP))) | (have ee : w < -1 := h28; have e9 : sv_qtC n qc σ (nI a) w x = false := (sv_qt_7 (fun q => by rw [q] at ee; exact absurd ee (by decide)) (by unfold sv_isn; rw [decide_eq_false (show ¬ ¬ w < 0 from fun q => q (Int32.lt_trans ee (by decide)))]; rfl)); exact x_tv (by unfold sv_qtR; rw [e9]; rfl) (ret _ _ _ _ _ _ dM_quota_40 hS ⟨rfl, rfl⟩ (by unfold sv_qtS sv_qtQ; rw [e9]; exact hP))) | (have ee : nI 9 < x := h23; exact x_tv (by unfold sv_qtR; rw [sv_qt_4 ee]; rfl) (ret _ _ _ _ _ _ dM_quota_40 hS ⟨rfl, rfl⟩ (by unfold sv_qtS sv_qtQ; rw [sv_qt_4 ee]; exact hP))) | (have ee : x < 1 := h17; exact x_tv (by unfold sv_qtR; rw [sv_qt_3 ee]; rfl) (ret _ _ _ _ _ _ dM_quota_40 hS ⟨rfl, rfl⟩ (by unfold sv_qtS sv_qtQ; rw [sv_qt_3 ee]; exact hP))) | (have ee : sv_isn n v = false := h12; exact x_tv (by unfold sv_qtR; rw [sv_qt_2 ee]; rfl) (ret _ _ _ _ _ _ dM_quota_40 hS ⟨rfl, rfl⟩ (by unfold sv_qtS sv_qtQ; rw [sv_qt_2 ee]; exact hP))) | (have ee : ¬ σ 1 0 = 0 := h4; exact x_tv (by unfold sv_qtR; rw [sv_qt_1 ee]; rfl) (ret _ _ _ _ _ _ dM_quota_40 hS ⟨rfl, rfl⟩ (by unfold sv_qtS sv_qtQ; rw [sv_qt_1 ee]; exact hP)))
        · skip
          refine lv_iload_n (i := 2) hx hb dM_quota_26 rfl (sv_at hl rfl) ?_
          refine lv_iconst (v := -1) hx hb dM_quota_27 (by decide) ?_
          refine lv_icmp_lt (tgt := 39) hx hb dM_quota_28 rfl (fun h28 => ?_) (fun h28 => ?_)
          · skip
            refine lv_iconst (v := -1) hx hb dM_quota_39 (by decide) ?_
            first | (have ee : ¬ w < nI qc := h36; exact x_tv (by unfold sv_qtR; rw [sv_qt_7 (fun q => by rw [q] at ee; exact ee (Int32.lt_of_lt_of_le (by decide) (nI_pos' (n := qc) (by omega)))) (by unfold sv_isn; rw [decide_eq_false (show ¬ ¬ nI qc ≤ w from fun q => q (Int32.not_lt.mp ee)), Bool.and_false])]; rfl) (ret _ _ _ _ _ _ dM_quota_40 hS ⟨rfl, rfl⟩ (by unfold sv_qtS sv_qtQ; rw [sv_qt_7 (fun q => by rw [q] at ee; exact ee (Int32.lt_of_lt_of_le (by decide) (nI_pos' (n := qc) (by omega)))) (by unfold sv_isn; rw [decide_eq_false (show ¬ ¬ nI qc ≤ w from fun q => q (Int32.not_lt.mp ee)), Bool.and_false])]; exact hP))) | (have ee : w < -1 := h28; have e9 : sv_qtC n qc σ (nI a) w x = false := (sv_qt_7 (fun q => by rw [q] at ee; exact absurd ee (by decide)) (by unfold sv_isn; rw [decide_eq_false (show ¬ ¬ w < 0 from fun q => q (Int32.lt_trans ee (by decide)))]; rfl)); exact x_tv (by unfold sv_qtR; rw [e9]; rfl) (ret _ _ _ _ _ _ dM_quota_40 hS ⟨rfl, rfl⟩ (by unfold sv_qtS sv_qtQ; rw [e9]; exact hP))) | (have ee : nI 9 < x := h23; exact x_tv (by unfold sv_qtR; rw [sv_qt_4 ee]; rfl) (ret _ _ _ _ _ _ dM_quota_40 hS ⟨rfl, rfl⟩ (by unfold sv_qtS sv_qtQ; rw [sv_qt_4 ee]; exact hP))) | (have ee : x < 1 := h17; exact x_tv (by unfold sv_qtR; rw [sv_qt_3 ee]; rfl) (ret _ _ _ _ _ _ dM_quota_40 hS ⟨rfl, rfl⟩ (by unfold sv_qtS sv_qtQ; rw [sv_qt_3 ee]; exact hP))) | (have ee : sv_isn n v = false := h12; exact x_tv (by unfold sv_qtR; rw [sv_qt_2 ee]; rfl) (ret _ _ _ _ _ _ dM_quota_40 hS ⟨rfl, rfl⟩ (by unfold sv_qtS sv_qtQ; rw [sv_qt_2 ee]; exact hP))) | (have ee : ¬ σ 1 0 = 0 := h4; exact x_tv (by unfold sv_qtR; rw [sv_qt_1 ee]; rfl) (ret _ _ _ _ _ _ dM_quota_40 hS ⟨rfl, rfl⟩ (by unfold sv_qtS sv_qtQ; rw [sv_qt_1 ee]; exact hP)))
          · skip
            refine lv_iload_n (i := 2) hx hb dM_quota_31 rfl (sv_at hl rfl) ?_
            refine lv_aload_n (i := 0) hx hb dM_quota_32 rfl (sv_at hl rfl) ?_
            refine gM_quotas X hP dM_quota_33 ?_
            refine lv_icmp_lt (tgt := 41) hx hb dM_quota_36 rfl (fun h36 => ?_) (fun h36 => ?_)
            · skip
              refine lv_iconst (v := 0) hx hb dM_quota_41 (by decide) ?_
              refine lv_istore (i := 4) hx hb dM_quota_42 hl (by decide) rfl (fun ls hl => ?_)
              refine lv_iconst (v := 0) hx hb dM_quota_44 (by decide) ?_
              refine lv_istore (i := 5) hx hb dM_quota_45 hl (by decide) rfl (fun ls hl => ?_)
              refine wM_quota_J X hP hI ha _ 0 ls (Nat.lt_succ_self _) (Nat.zero_le _) (fun ls hl => ?_) (sv_re hl ⟨rfl, rfl, rfl, rfl, rfl, rfl, trivial⟩)
              refine lv_iload (i := 4) hx hb dM_quota_84 (sv_at hl rfl) ?_
              refine lv_iconst (v := nI 4) hx hb dM_quota_86 (by decide) ?_
              refine lv_icmp_ge (tgt := 104) hx hb dM_quota_87 rfl (fun h87 => ?_) (fun h87 => ?_)
              · skip
                have hcl := sv_cnt_le (P := fun q => σ 3 q == nI a) (lo := 0) qc
                rw [nI_leI (by omega) (by omega)] at h87
                refine lv_iconst (v := -1) hx hb dM_quota_104 (by decide) ?_
                first | (have e9 : sv_qtC n qc σ (nI a) w x = false := sv_qt_6 h92 (by rw [eca]; exact et); exact x_tv (by unfold sv_qtR; rw [e9]; rfl) (ret _ _ _ _ _ _ dM_quota_105 hS ⟨rfl, rfl⟩ (by unfold sv_qtS sv_qtQ; rw [e9]; exact hP))) | (have e9 : sv_qtC n qc σ (nI a) w x = false := sv_qt_5 (by rw [eca]; unfold sv_own; omega); exact x_tv (by unfold sv_qtR; rw [e9]; rfl) (ret _ _ _ _ _ _ dM_quota_105 hS ⟨rfl, rfl⟩ (by unfold sv_qtS sv_qtQ; rw [e9]; exact hP)))
              · skip
                have hcl := sv_cnt_le (P := fun q => σ 3 q == nI a) (lo := 0) qc
                rw [nI_leI (by omega) (by omega)] at h87
                have ho4 : sv_own σ qc a < 4 := by unfold sv_own; omega
                have hqn := sv_qc_lt hI ha ho4
                refine lv_iload_n (i := 2) hx hb dM_quota_90 rfl (sv_at hl rfl) ?_
                refine lv_iconst (v := -1) hx hb dM_quota_91 (by decide) ?_
                refine lv_icmp_ne (tgt := 106) hx hb dM_quota_92 rfl (fun h92 => ?_) (fun h92 => ?_)
                · skip
                  have hw0 : ¬ w < 0 := sv_par1 h28 h92
                  have hwi : sv_isn qc w = true := by unfold sv_isn; rw [decide_eq_true hw0, decide_eq_true (Int32.not_le.mpr h36)]; rfl
                  obtain ⟨b, hb9, rfl⟩ := sv_isn_t (by omega) hwi
                  have ecb : (nI b).toNatClampNeg = b := nI_clamp (by omega)
                  obtain ⟨dl, hd1, hd3, e5⟩ := sv_lvl3 hI hb9
                  refine lv_iload_n (i := 2) hx hb dM_quota_106 rfl (sv_at hl rfl) ?_
                  refine lv_iconst (v := -1) hx hb dM_quota_107 (by decide) ?_
                  refine lv_icmp_eq (tgt := 133) hx hb dM_quota_108 rfl (fun h108 => ?_) (fun h108 => ?_)
                  · skip
                    exact absurd h108 h92
                  · skip
                    refine lv_aload_n (i := 0) hx hb dM_quota_111 rfl (sv_at hl rfl) ?_
                    refine gM_owner X hP dM_quota_112 ?_
                    refine lv_iload_n (i := 2) hx hb dM_quota_115 rfl (sv_at hl rfl) ?_
                    refine gm_owner X hP (by omega) dM_quota_116 ?_
                    refine lv_iload_n (i := 1) hx hb dM_quota_117 rfl (sv_at hl rfl) ?_
                    refine lv_icmp_ne (tgt := 131) hx hb dM_quota_118 rfl (fun h118 => ?_) (fun h118 => ?_)
                    · skip
                      refine lv_iconst (v := -1) hx hb dM_quota_131 (by decide) ?_
                      first | (have e9 : sv_qtC n qc σ (nI a) (nI b) x = false := sv_qt_9 h92 (by rw [ecb, h128]; decide); exact x_tv (by unfold sv_qtR; rw [e9]; rfl) (ret _ _ _ _ _ _ dM_quota_132 hS ⟨rfl, rfl⟩ (by unfold sv_qtS sv_qtQ; rw [e9]; exact hP))) | (have e9 : sv_qtC n qc σ (nI a) (nI b) x = false := sv_qt_8 h92 (by rw [ecb]; exact h118); exact x_tv (by unfold sv_qtR; rw [e9]; rfl) (ret _ _ _ _ _ _ dM_quota_132 hS ⟨rfl, rfl⟩ (by unfold sv_qtS sv_qtQ; rw [e9]; exact hP)))
                    · skip
                      refine lv_aload_n (i := 0) hx hb dM_quota_121 rfl (sv_at hl rfl) ?_
                      refine gM_level X hP dM_quota_122 ?_
                      refine lv_iload_n (i := 2) hx hb dM_quota_125 rfl (sv_at hl rfl) ?_
                      refine gm_level X hP (by omega) dM_quota_126 ?_
                      refine lv_iconst (v := nI 3) hx hb dM_quota_127 (by decide) ?_
                      refine lv_icmp_ne (tgt := 133) hx hb dM_quota_128 rfl (fun h128 => ?_) (fun h128 => ?_)
                      · skip
                        refine lv_aload_n (i := 0) hx hb dM_quota_133 rfl (sv_at hl rfl) ?_
                        refine gM_owner X hP dM_quota_134 ?_
                        refine lv_aload_n (i := 0) hx hb dM_quota_137 rfl (sv_at hl rfl) ?_
                        refine gM_quotas X hP dM_quota_138 ?_
                        refine lv_iload_n (i := 1) hx hb dM_quota_141 rfl (sv_at hl rfl) ?_
                        refine pm_owner X hP hJ hA hS (by omega) dM_quota_142 (fun H locs hP hS => ?_)
                        refine lv_aload_n (i := 0) hx hb dM_quota_143 rfl (sv_at hl rfl) ?_
                        refine gM_around X hP dM_quota_144 ?_
                        refine lv_aload_n (i := 0) hx hb dM_quota_147 rfl (sv_at hl rfl) ?_
                        refine gM_quotas X hP dM_quota_148 ?_
                        refine lv_iload_n (i := 2) hx hb dM_quota_151 rfl (sv_at hl rfl) ?_
                        refine pm_around X hP hJ hA hS (by omega) dM_quota_152 (fun H locs hP hS => ?_)
                        refine lv_aload_n (i := 0) hx hb dM_quota_153 rfl (sv_at hl rfl) ?_
                        refine gM_level X hP dM_quota_154 ?_
                        refine lv_aload_n (i := 0) hx hb dM_quota_157 rfl (sv_at hl rfl) ?_
                        refine gM_quotas X hP dM_quota_158 ?_
                        refine lv_iload_n (i := 2) hx hb dM_quota_161 rfl (sv_at hl rfl) ?_
                        refine lv_iconst (v := -1) hx hb dM_quota_162 (by decide) ?_
                        refine lv_icmp_ne (tgt := 170) hx hb dM_quota_163 rfl (fun h163 => ?_) (fun h163 => ?_)
                        · skip
                          refine lv_aload_n (i := 0) hx hb dM_quota_170 rfl (sv_at hl rfl) ?_
                          refine gM_level X hP dM_quota_171 ?_
                          refine lv_iload_n (i := 2) hx hb dM_quota_174 rfl (sv_at hl rfl) ?_
                          refine gm_level X hP (by omega) dM_quota_175 ?_
                          refine lv_iconst (v := 1) hx hb dM_quota_176 (by decide) ?_
                          refine lv_iadd hx hb dM_quota_177 ?_
                          refine x_tv (y := σ 5 b + 1) (by rw [sg_off _ _ (Or.inl (by decide)), sg_off σ _ (Or.inl (by decide))]) ?_
                          refine pm_level X hP hJ hA hS (by omega) dM_quota_178 (fun H locs hP hS => ?_)
                          refine lv_aload_n (i := 0) hx hb dM_quota_179 rfl (sv_at hl rfl) ?_
                          refine gM_need X hP dM_quota_180 ?_
                          refine lv_aload_n (i := 0) hx hb dM_quota_183 rfl (sv_at hl rfl) ?_
                          refine gM_quotas X hP dM_quota_184 ?_
                          refine lv_iload_n (i := 3) hx hb dM_quota_187 rfl (sv_at hl rfl) ?_
                          refine pm_need X hP hJ hA hS (by omega) dM_quota_188 (fun H locs hP hS => ?_)
                          refine lv_aload_n (i := 0) hx hb dM_quota_189 rfl (sv_at hl rfl) ?_
                          refine gM_members X hP dM_quota_190 ?_
                          refine lv_aload_n (i := 0) hx hb dM_quota_193 rfl (sv_at hl rfl) ?_
                          refine gM_quotas X hP dM_quota_194 ?_
                          refine lv_iconst (v := 0) hx hb dM_quota_197 (by decide) ?_
                          refine pm_members X hP hJ hA hS (by omega) dM_quota_198 (fun H locs hP hS => ?_)
                          refine lv_aload_n (i := 0) hx hb dM_quota_199 rfl (sv_at hl rfl) ?_
                          refine lv_aload_n (i := 0) hx hb dM_quota_200 rfl (sv_at hl rfl) ?_
                          refine gM_quotas X hP dM_quota_201 ?_
                          refine lv_iconst (v := 1) hx hb dM_quota_204 (by decide) ?_
                          refine lv_iadd hx hb dM_quota_205 ?_
                          refine x_tv (nI_1 qc) ?_
                          refine pM_quotas (qc' := qc + 1) X hP hJ hA hS dM_quota_206 (fun H locs hP hS => ?_)
                          refine lv_aload_n (i := 0) hx hb dM_quota_209 rfl (sv_at hl rfl) ?_
                          refine gM_quotas X hP dM_quota_210 ?_
                          refine lv_iconst (v := 1) hx hb dM_quota_213 (by decide) ?_
                          refine lv_isub hx hb dM_quota_214 ?_
                          refine x_tv (nI_pred qc) ?_
                          have e9 : sv_qtC n qc σ (nI a) (nI b) x = true := sv_qt_y2 h4 h12 h17 h23 (by rw [eca]; exact ho4) h92 hwi (by rw [ecb]; exact h118) (by rw [ecb, e5]; exact nI_lt (by have hne : dl ≠ 3 := fun q => h128 (by rw [e5, q]); omega) (by decide))
                          exact x_tv (by unfold sv_qtR; rw [e9]; rfl) (ret _ _ _ _ _ _ dM_quota_215 hS ⟨rfl, rfl⟩ (by unfold sv_qtS sv_qtQ; rw [e9, decide_eq_false h92, ecb]; exact hP))
                        · skip
                          exact absurd h163 h92
                      · skip
                        refine lv_iconst (v := -1) hx hb dM_quota_131 (by decide) ?_
                        first | (have e9 : sv_qtC n qc σ (nI a) (nI b) x = false := sv_qt_9 h92 (by rw [ecb, h128]; decide); exact x_tv (by unfold sv_qtR; rw [e9]; rfl) (ret _ _ _ _ _ _ dM_quota_132 hS ⟨rfl, rfl⟩ (by unfold sv_qtS sv_qtQ; rw [e9]; exact hP))) | (have e9 : sv_qtC n qc σ (nI a) (nI b) x = false := sv_qt_8 h92 (by rw [ecb]; exact h118); exact x_tv (by unfold sv_qtR; rw [e9]; rfl) (ret _ _ _ _ _ _ dM_quota_132 hS ⟨rfl, rfl⟩ (by unfold sv_qtS sv_qtQ; rw [e9]; exact hP)))
                · skip
                  refine lv_aload_n (i := 0) hx hb dM_quota_95 rfl (sv_at hl rfl) ?_
                  refine lv_iload_n (i := 1) hx hb dM_quota_96 rfl (sv_at hl rfl) ?_
                  refine kM_top X (by decide) hP hq24 hl (Nat.zero_le _) (Nat.zero_le _) (Nat.le_of_ble_eq_true rfl) dM_quota_97 ?_
                  refine lv_iconst (v := -1) hx hb dM_quota_100 (by decide) ?_
                  refine lv_icmp_eq (tgt := 106) hx hb dM_quota_101 rfl (fun h101 => ?_) (fun h101 => ?_)
                  · skip
                    have et := sv_oI_eq (fun t ht => by have := sv_top_lt ht; omega) h101
                    refine lv_iload_n (i := 2) hx hb dM_quota_106 rfl (sv_at hl rfl) ?_
                    refine lv_iconst (v := -1) hx hb dM_quota_107 (by decide) ?_
                    refine lv_icmp_eq (tgt := 133) hx hb dM_quota_108 rfl (fun h108 => ?_) (fun h108 => ?_)
                    · skip
                      refine lv_aload_n (i := 0) hx hb dM_quota_133 rfl (sv_at hl rfl) ?_
                      refine gM_owner X hP dM_quota_134 ?_
                      refine lv_aload_n (i := 0) hx hb dM_quota_137 rfl (sv_at hl rfl) ?_
                      refine gM_quotas X hP dM_quota_138 ?_
                      refine lv_iload_n (i := 1) hx hb dM_quota_141 rfl (sv_at hl rfl) ?_
                      refine pm_owner X hP hJ hA hS (by omega) dM_quota_142 (fun H locs hP hS => ?_)
                      refine lv_aload_n (i := 0) hx hb dM_quota_143 rfl (sv_at hl rfl) ?_
                      refine gM_around X hP dM_quota_144 ?_
                      refine lv_aload_n (i := 0) hx hb dM_quota_147 rfl (sv_at hl rfl) ?_
                      refine gM_quotas X hP dM_quota_148 ?_
                      refine lv_iload_n (i := 2) hx hb dM_quota_151 rfl (sv_at hl rfl) ?_
                      refine pm_around X hP hJ hA hS (by omega) dM_quota_152 (fun H locs hP hS => ?_)
                      refine lv_aload_n (i := 0) hx hb dM_quota_153 rfl (sv_at hl rfl) ?_
                      refine gM_level X hP dM_quota_154 ?_
                      refine lv_aload_n (i := 0) hx hb dM_quota_157 rfl (sv_at hl rfl) ?_
                      refine gM_quotas X hP dM_quota_158 ?_
                      refine lv_iload_n (i := 2) hx hb dM_quota_161 rfl (sv_at hl rfl) ?_
                      refine lv_iconst (v := -1) hx hb dM_quota_162 (by decide) ?_
                      refine lv_icmp_ne (tgt := 170) hx hb dM_quota_163 rfl (fun h163 => ?_) (fun h163 => ?_)
                      · skip
                        exact absurd h92 h163
                      · skip
                        refine lv_iconst (v := 1) hx hb dM_quota_166 (by decide) ?_
                        refine lv_goto (tgt := 178) hx hb dM_quota_167 rfl ?_
                        refine pm_level X hP hJ hA hS (by omega) dM_quota_178 (fun H locs hP hS => ?_)
                        refine lv_aload_n (i := 0) hx hb dM_quota_179 rfl (sv_at hl rfl) ?_
                        refine gM_need X hP dM_quota_180 ?_
                        refine lv_aload_n (i := 0) hx hb dM_quota_183 rfl (sv_at hl rfl) ?_
                        refine gM_quotas X hP dM_quota_184 ?_
                        refine lv_iload_n (i := 3) hx hb dM_quota_187 rfl (sv_at hl rfl) ?_
                        refine pm_need X hP hJ hA hS (by omega) dM_quota_188 (fun H locs hP hS => ?_)
                        refine lv_aload_n (i := 0) hx hb dM_quota_189 rfl (sv_at hl rfl) ?_
                        refine gM_members X hP dM_quota_190 ?_
                        refine lv_aload_n (i := 0) hx hb dM_quota_193 rfl (sv_at hl rfl) ?_
                        refine gM_quotas X hP dM_quota_194 ?_
                        refine lv_iconst (v := 0) hx hb dM_quota_197 (by decide) ?_
                        refine pm_members X hP hJ hA hS (by omega) dM_quota_198 (fun H locs hP hS => ?_)
                        refine lv_aload_n (i := 0) hx hb dM_quota_199 rfl (sv_at hl rfl) ?_
                        refine lv_aload_n (i := 0) hx hb dM_quota_200 rfl (sv_at hl rfl) ?_
                        refine gM_quotas X hP dM_quota_201 ?_
                        refine lv_iconst (v := 1) hx hb dM_quota_204 (by decide) ?_
                        refine lv_iadd hx hb dM_quota_205 ?_
                        refine x_tv (nI_1 qc) ?_
                        refine pM_quotas (qc' := qc + 1) X hP hJ hA hS dM_quota_206 (fun H locs hP hS => ?_)
                        refine lv_aload_n (i := 0) hx hb dM_quota_209 rfl (sv_at hl rfl) ?_
                        refine gM_quotas X hP dM_quota_210 ?_
                        refine lv_iconst (v := 1) hx hb dM_quota_213 (by decide) ?_
                        refine lv_isub hx hb dM_quota_214 ?_
                        refine x_tv (nI_pred qc) ?_
                        have e9 : sv_qtC n qc σ (nI a) w x = true := sv_qt_y1 h4 h12 h17 h23 (by rw [eca]; exact ho4) h92 (by rw [eca]; exact et)
                        exact x_tv (by unfold sv_qtR; rw [e9]; rfl) (ret _ _ _ _ _ _ dM_quota_215 hS ⟨rfl, rfl⟩ (by unfold sv_qtS sv_qtQ; rw [e9, decide_eq_true h92]; exact hP))
                    · skip
                      exact absurd h92 h108
                  · skip
                    obtain ⟨t, et⟩ := sv_oI_ne h101
                    refine lv_iconst (v := -1) hx hb dM_quota_104 (by decide) ?_
                    first | (have e9 : sv_qtC n qc σ (nI a) w x = false := sv_qt_6 h92 (by rw [eca]; exact et); exact x_tv (by unfold sv_qtR; rw [e9]; rfl) (ret _ _ _ _ _ _ dM_quota_105 hS ⟨rfl, rfl⟩ (by unfold sv_qtS sv_qtQ; rw [e9]; exact hP))) | (have e9 : sv_qtC n qc σ (nI a) w x = false := sv_qt_5 (by rw [eca]; unfold sv_own; omega); exact x_tv (by unfold sv_qtR; rw [e9]; rfl) (ret _ _ _ _ _ _ dM_quota_105 hS ⟨rfl, rfl⟩ (by unfold sv_qtS sv_qtQ; rw [e9]; exact hP)))
            · skip
              refine lv_iconst (v := -1) hx hb dM_quota_39 (by decide) ?_
              first | (have ee : ¬ w < nI qc := h36; exact x_tv (by unfold sv_qtR; rw [sv_qt_7 (fun q => by rw [q] at ee; exact ee (Int32.lt_of_lt_of_le (by decide) (nI_pos' (n := qc) (by omega)))) (by unfold sv_isn; rw [decide_eq_false (show ¬ ¬ nI qc ≤ w from fun q => q (Int32.not_lt.mp ee)), Bool.and_false])]; rfl) (ret _ _ _ _ _ _ dM_quota_40 hS ⟨rfl, rfl⟩ (by unfold sv_qtS sv_qtQ; rw [sv_qt_7 (fun q => by rw [q] at ee; exact ee (Int32.lt_of_lt_of_le (by decide) (nI_pos' (n := qc) (by omega)))) (by unfold sv_isn; rw [decide_eq_false (show ¬ ¬ nI qc ≤ w from fun q => q (Int32.not_lt.mp ee)), Bool.and_false])]; exact hP))) | (have ee : w < -1 := h28; have e9 : sv_qtC n qc σ (nI a) w x = false := (sv_qt_7 (fun q => by rw [q] at ee; exact absurd ee (by decide)) (by unfold sv_isn; rw [decide_eq_false (show ¬ ¬ w < 0 from fun q => q (Int32.lt_trans ee (by decide)))]; rfl)); exact x_tv (by unfold sv_qtR; rw [e9]; rfl) (ret _ _ _ _ _ _ dM_quota_40 hS ⟨rfl, rfl⟩ (by unfold sv_qtS sv_qtQ; rw [e9]; exact hP))) | (have ee : nI 9 < x := h23; exact x_tv (by unfold sv_qtR; rw [sv_qt_4 ee]; rfl) (ret _ _ _ _ _ _ dM_quota_40 hS ⟨rfl, rfl⟩ (by unfold sv_qtS sv_qtQ; rw [sv_qt_4 ee]; exact hP))) | (have ee : x < 1 := h17; exact x_tv (by unfold sv_qtR; rw [sv_qt_3 ee]; rfl) (ret _ _ _ _ _ _ dM_quota_40 hS ⟨rfl, rfl⟩ (by unfold sv_qtS sv_qtQ; rw [sv_qt_3 ee]; exact hP))) | (have ee : sv_isn n v = false := h12; exact x_tv (by unfold sv_qtR; rw [sv_qt_2 ee]; rfl) (ret _ _ _ _ _ _ dM_quota_40 hS ⟨rfl, rfl⟩ (by unfold sv_qtS sv_qtQ; rw [sv_qt_2 ee]; exact hP))) | (have ee : ¬ σ 1 0 = 0 := h4; exact x_tv (by unfold sv_qtR; rw [sv_qt_1 ee]; rfl) (ret _ _ _ _ _ _ dM_quota_40 hS ⟨rfl, rfl⟩ (by unfold sv_qtS sv_qtQ; rw [sv_qt_1 ee]; exact hP)))

theorem cM_m_quota (hJ : sv_inj 17 ad) (hA : ∀ k, k < 17 → A (ad k)) {v w x : Int32} (hn : n ≤ 6) (hI : sv_IQ n qc σ) : Met l yM_quota (sv_ws yM_quota cM_quota 6 (some .int)) (sv_rm 2) (sv_Pc D cI cZ cN cQ [.ref (ad 0), .int v, .int w, .int x] (fun H => sv_mP D cI cZ n qc ad σ mt qm H)) (va_Qi (fun (r : Int32) (u : Sg × (Nat → Int32) × (Nat → Int32)) => r = sv_qtR n qc σ v w x ∧ u.1 = sv_qtS n qc σ v w x ∧ (u.2.1 = mt ∧ u.2.2 = qm)) (fun u t => sv_mP D cI cZ n (sv_qtQ n qc σ v w x) ad u.1 u.2.1 u.2.2 t.heap) A) 0 0 A :=
  sv_mkI (S := Sg × (Nat → Int32) × (Nat → Int32)) (B := fun u H => sv_mP D cI cZ n (sv_qtQ n qc σ v w x) ad u.1 u.2.1 u.2.2 H) (by decide) (by show 4 ≤ 6; decide) (fun _ _ _ => rfl) (fun p e s m below meth c ls Q X hP hl ret => wM_quota X hP hJ hA va_S.rf hn hI hl (fun pc ls H locs mt' qm' hd hS hX hP => ret pc ls _ (_, mt', qm') H locs hd hS ⟨rfl, rfl, hX⟩ hP))
set_option maxRecDepth 100000 in
theorem okL_M_quota : sv_okV "SliceVotingLaw" 25 yM_quota cM_quota 6 (some .int) 3 := ⟨sv_tb_t 374 rfl rfl, sv_tb_t 371 rfl rfl, sv_tb_t 372 rfl rfl, sv_tb_t 373 rfl rfl, sv_tb_t 4 rfl rfl, ⟨by decide, by decide, by decide +kernel⟩, by decide⟩
theorem kL_m_quota (X : sv_X D cI cZ cN cQ "SliceVotingLaw" cc nL k p R s m args c) (hk : 2 + 1 ≤ k) (hP : sv_mP D cI cZ n qc ad σ mt qm H) (hJ : sv_inj 17 ad) (hA : ∀ k, k < 17 → A (ad k)) (hS : va_S A H0 H locs) {v w x : Int32} (hn : n ≤ 6) (hI : sv_IQ n qc σ) (hl : lv_has ls nL lv) (hc : cells ≤ R.cells) (hs : slots ≤ R.slots) (hcat : (rest.map fun v => v.category).sum ≤ 8) (hd : decode cc pc = .ok (.invokevirtual 25, 3)) (kk : ∀ (H1 : Heap) (locs1 : List Loc) (mt' qm' : Nat → Int32), (mt' = mt ∧ qm' = qm) → sv_mP D cI cZ n (sv_qtQ n qc σ v w x) ad (sv_qtS n qc σ v w x) mt' qm' H1 → va_S A H0 H1 locs1 → W p l e R s m args below meth c H1 locs1 cells slots Q (F0 m (pc + 3) ls (.int (sv_qtR n qc σ v w x) :: rest))) : W p l e R s m args below meth c H locs cells slots Q (F0 m pc ls (.int x :: .int w :: .int v :: .ref (ad 0) :: rest)) :=
  sv_wVi (S := Sg × (Nat → Int32) × (Nat → Int32)) (G := fun H => sv_mP D cI cZ n qc ad σ mt qm H) (B := fun u H => sv_mP D cI cZ n (sv_qtQ n qc σ v w x) ad u.1 u.2.1 u.2.2 H) X okL_M_quota (cM_m_quota hJ hA hn hI) hP (y_rec X.K hP (by decide) sv_me_0 rfl) hS hk rfl hl.1 rfl hcat hc hs hd (fun r u H1 locs1 hp hB hS => by obtain ⟨τ, a, b⟩ := u; obtain ⟨rfl, h1, h2⟩ := hp; dsimp only at h1 h2 hB; subst h1; exact kk H1 locs1 a b h2 hB hS)
end SvModel7
