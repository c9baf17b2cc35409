section SvModel1
variable {p : Program} {l : Launch} {e : Env} {R : Room} {s : State} {m : MethodId} {args : Array Value} {below : List Frame} {meth : Method} {c : Code} {H H0 : Heap} {locs : List Loc} {cells slots : Nat} {Q : State → Prop}
variable {cc : ByteArray} {pc nL k : Nat} {ls : Array Slot} {lv : List (Nat × Value)} {rest : List Value} {D : va_G} {cI cZ cN cQ : ClassId} {n qc : Nat} {ad : Nat → Nat} {σ : Sg} {A : Nat → Prop} {mt qm : Nat → Int32}
set_option maxHeartbeats 4000000 in
set_option maxRecDepth 100000 in
theorem wM_isNode (X : sv_X D cI cZ cN cQ "SliceVotingModel" cM_isNode 2 1 p R s m args c) (hP : sv_mP D cI cZ n qc ad σ mt qm H) {v : Int32}  (hl : lv_has ls 2 [(0, .ref (ad 0)), (1, .int v)]) (ret : ∀ (pc : Nat) (ls : Array Slot), decode cM_isNode pc = .ok (.ireturn, 1) → W p l e R s m args below meth c H locs 0 0 Q (F0 m pc ls [.int (sv_b (sv_isn n v))])) : W p l e R s m args below meth c H locs 0 0 Q (F0 m 0 ls []) := by
  have hx := X.1
  have hb := X.2.1
  refine lv_iload_n (i := 1) hx hb dM_isNode_0 rfl (sv_at hl rfl) ?_
  refine lv_if_lt (tgt := 16) hx hb dM_isNode_1 rfl (fun h1 => ?_) (fun h1 => ?_)
  · skip
    refine lv_iconst (v := 0) hx hb dM_isNode_16 (by decide) ?_
    exact x_tv (by unfold sv_isn; simp_all [sv_b]) (ret _ _ dM_isNode_17)
  · skip
    refine lv_iload_n (i := 1) hx hb dM_isNode_4 rfl (sv_at hl rfl) ?_
    refine lv_aload_n (i := 0) hx hb dM_isNode_5 rfl (sv_at hl rfl) ?_
    refine gM_nodes X hP dM_isNode_6 ?_
    refine lv_icmp_ge (tgt := 16) hx hb dM_isNode_9 rfl (fun h9 => ?_) (fun h9 => ?_)
    · skip
      refine lv_iconst (v := 0) hx hb dM_isNode_16 (by decide) ?_
      exact x_tv (by unfold sv_isn; simp_all [sv_b]) (ret _ _ dM_isNode_17)
    · skip
      refine lv_iconst (v := 1) hx hb dM_isNode_12 (by decide) ?_
      refine lv_goto (tgt := 17) hx hb dM_isNode_13 rfl ?_
      exact x_tv (by unfold sv_isn; simp_all [sv_b]) (ret _ _ dM_isNode_17)

theorem cM_m_isNode {v : Int32}  : Met l yM_isNode (sv_ws yM_isNode cM_isNode 2 (some .boolean)) (sv_rm 1) (sv_Pc D cI cZ cN cQ [.ref (ad 0), .int v] (fun H => sv_mP D cI cZ n qc ad σ mt qm H)) (vp_Si (fun zz => zz = sv_b (sv_isn n v))) 0 0 (fun _ => False) :=
  sv_mkR (by decide) (by show 2 ≤ 2; decide) (sv_narb _) (fun p e s m below meth c ls Q X hP hl ret => wM_isNode X hP  hl ret)
theorem okM_M_isNode : sv_okV "SliceVotingModel" 63 yM_isNode cM_isNode 2 (some .boolean) 1 := ⟨sv_tb_t 378 rfl rfl, sv_tb_t 375 rfl rfl, sv_tb_t 377 rfl rfl, sv_tb_s 17 rfl rfl, sv_tb_t 4 rfl rfl, ⟨by decide, by decide, by decide +kernel⟩, by decide⟩
theorem kM_isNode (X : sv_X D cI cZ cN cQ "SliceVotingModel" cc nL k p R s m args c) (hk : 1 + 1 ≤ k) (hP : sv_mP D cI cZ n qc ad σ mt qm H) {v : Int32}  (hl : lv_has ls nL lv) (hc : cells ≤ R.cells) (hs : slots ≤ R.slots) (hcat : (rest.map fun v => v.category).sum ≤ 8) (hd : decode cc pc = .ok (.invokevirtual 63, 3)) (kk : W p l e R s m args below meth c H locs cells slots Q (F0 m (pc + 3) ls (.int (sv_b (sv_isn n v)) :: rest))) : W p l e R s m args below meth c H locs cells slots Q (F0 m pc ls (.int v :: .ref (ad 0) :: rest)) :=
  sv_cV (G := fun H => sv_mP D cI cZ n qc ad σ mt qm H) X okM_M_isNode (cM_m_isNode ) hP (y_rec X.K hP (by decide) sv_me_0 rfl) hk rfl hl.1 rfl hcat hc hs hd kk
theorem sv_wel_9 {n : Nat} {σ : Sg} {j : Nat} (hn : n ≤ 24) (h : j < n) (h9 : ¬ σ 9 j = 0) : sv_wel n σ (nI j) = false := by
  rw [sv_wel_nI hn h]
  exact beq_eq_false_iff_ne.mpr h9
theorem sv_wel_8 {n : Nat} {σ : Sg} {j : Nat} (hn : n ≤ 24) (h : j < n) (h9 : σ 9 j = 0) : sv_wel n σ (nI j) = true := by
  rw [sv_wel_nI hn h, h9]
  rfl
theorem sv_wel_7 {n : Nat} {σ : Sg} {v : Int32} (h : sv_isn n v = false) : sv_wel n σ v = false := by
  unfold sv_wel
  rw [h]
  rfl
set_option maxHeartbeats 4000000 in
set_option maxRecDepth 100000 in
theorem wM_well (X : sv_X D cI cZ cN cQ "SliceVotingModel" cM_well 2 2 p R s m args c) (hP : sv_mP D cI cZ n qc ad σ mt qm H) {v : Int32} (hn : n ≤ 6) (hl : lv_has ls 2 [(0, .ref (ad 0)), (1, .int v)]) (ret : ∀ (pc : Nat) (ls : Array Slot), decode cM_well pc = .ok (.ireturn, 1) → W p l e R s m args below meth c H locs 0 0 Q (F0 m pc ls [.int (sv_b (sv_wel n σ v))])) : W p l e R s m args below meth c H locs 0 0 Q (F0 m 0 ls []) := by
  have hx := X.1
  have hb := X.2.1
  refine lv_aload_n (i := 0) hx hb dM_well_0 rfl (sv_at hl rfl) ?_
  refine lv_iload_n (i := 1) hx hb dM_well_1 rfl (sv_at hl rfl) ?_
  refine kM_isNode X (by decide) hP  hl (Nat.zero_le _) (Nat.zero_le _) (Nat.le_of_ble_eq_true rfl) dM_well_2 ?_
  refine x_ifeqB (tgt := 21) hx hb dM_well_5 rfl (fun h5 => ?_) (fun h5 => ?_)
  · skip
    refine lv_iconst (v := 0) hx hb dM_well_21 (by decide) ?_
    first | (have ee : ¬ σ 9 j = 0 := h14; exact x_tv (by rw [sv_wel_9 (by omega) hj ee]; rfl) (ret _ _ dM_well_22)) | (have ee : σ 9 j = 0 := h14; exact x_tv (by rw [sv_wel_8 (by omega) hj ee]; rfl) (ret _ _ dM_well_22)) | exact x_tv (by rw [sv_wel_7 h5]; rfl) (ret _ _ dM_well_22)
  · skip
    obtain ⟨j, hj, rfl⟩ := sv_isn_t (by omega) h5
    refine lv_aload_n (i := 0) hx hb dM_well_8 rfl (sv_at hl rfl) ?_
    refine gM_ill X hP dM_well_9 ?_
    refine lv_iload_n (i := 1) hx hb dM_well_12 rfl (sv_at hl rfl) ?_
    refine gm_ill X hP (by omega) dM_well_13 ?_
    refine lv_if_ne (tgt := 21) hx hb dM_well_14 rfl (fun h14 => ?_) (fun h14 => ?_)
    · skip
      refine lv_iconst (v := 0) hx hb dM_well_21 (by decide) ?_
      first | (have ee : ¬ σ 9 j = 0 := h14; exact x_tv (by rw [sv_wel_9 (by omega) hj ee]; rfl) (ret _ _ dM_well_22)) | (have ee : σ 9 j = 0 := h14; exact x_tv (by rw [sv_wel_8 (by omega) hj ee]; rfl) (ret _ _ dM_well_22)) | exact x_tv (by rw [sv_wel_7 h5]; rfl) (ret _ _ dM_well_22)
    · skip
      refine lv_iconst (v := 1) hx hb dM_well_17 (by decide) ?_
      refine lv_goto (tgt := 22) hx hb dM_well_18 rfl ?_
      first | (have ee : ¬ σ 9 j = 0 := h14; exact x_tv (by rw [sv_wel_9 (by omega) hj ee]; rfl) (ret _ _ dM_well_22)) | (have ee : σ 9 j = 0 := h14; exact x_tv (by rw [sv_wel_8 (by omega) hj ee]; rfl) (ret _ _ dM_well_22)) | exact x_tv (by rw [sv_wel_7 h5]; rfl) (ret _ _ dM_well_22)

theorem cM_m_well {v : Int32} (hn : n ≤ 6) : Met l yM_well (sv_ws yM_well cM_well 2 (some .boolean)) (sv_rm 2) (sv_Pc D cI cZ cN cQ [.ref (ad 0), .int v] (fun H => sv_mP D cI cZ n qc ad σ mt qm H)) (vp_Si (fun zz => zz = sv_b (sv_wel n σ v))) 0 0 (fun _ => False) :=
  sv_mkR (by decide) (by show 2 ≤ 2; decide) (sv_narb _) (fun p e s m below meth c ls Q X hP hl ret => wM_well X hP hn hl ret)
theorem okM_M_well : sv_okV "SliceVotingModel" 92 yM_well cM_well 2 (some .boolean) 1 := ⟨sv_tb_t 419 rfl rfl, sv_tb_t 416 rfl rfl, sv_tb_t 418 rfl rfl, sv_tb_s 22 rfl rfl, sv_tb_t 4 rfl rfl, ⟨by decide, by decide, by decide +kernel⟩, by decide⟩
theorem kM_well (X : sv_X D cI cZ cN cQ "SliceVotingModel" cc nL k p R s m args c) (hk : 2 + 1 ≤ k) (hP : sv_mP D cI cZ n qc ad σ mt qm H) {v : Int32} (hn : n ≤ 6) (hl : lv_has ls nL lv) (hc : cells ≤ R.cells) (hs : slots ≤ R.slots) (hcat : (rest.map fun v => v.category).sum ≤ 8) (hd : decode cc pc = .ok (.invokevirtual 92, 3)) (kk : W p l e R s m args below meth c H locs cells slots Q (F0 m (pc + 3) ls (.int (sv_b (sv_wel n σ v)) :: rest))) : W p l e R s m args below meth c H locs cells slots Q (F0 m pc ls (.int v :: .ref (ad 0) :: rest)) :=
  sv_cV (G := fun H => sv_mP D cI cZ n qc ad σ mt qm H) X okM_M_well (cM_m_well hn) hP (y_rec X.K hP (by decide) sv_me_0 rfl) hk rfl hl.1 rfl hcat hc hs hd kk
set_option maxHeartbeats 4000000 in
set_option maxRecDepth 100000 in
theorem wM_isSet (X : sv_X D cI cZ cN cQ "SliceVotingModel" cM_isSet 2 1 p R s m args c) (hP : sv_mP D cI cZ n qc ad σ mt qm H) {x : Int32} (hn : n ≤ 6) (hl : lv_has ls 2 [(0, .ref (ad 0)), (1, .int x)]) (ret : ∀ (pc : Nat) (ls : Array Slot), decode cM_isSet pc = .ok (.ireturn, 1) → W p l e R s m args below meth c H locs 0 0 Q (F0 m pc ls [.int (sv_b (decide (sv_N x < 2 ^ n)))])) : W p l e R s m args below meth c H locs 0 0 Q (F0 m 0 ls []) := by
  have hx := X.1
  have hb := X.2.1
  refine lv_iload_n (i := 1) hx hb dM_isSet_0 rfl (sv_at hl rfl) ?_
  refine lv_if_lt (tgt := 18) hx hb dM_isSet_1 rfl (fun h1 => ?_) (fun h1 => ?_)
  · skip
    refine lv_iconst (v := 0) hx hb dM_isSet_18 (by decide) ?_
    first | (have ee : nI (2 ^ n) ≤ x := h11; exact x_tv (by rw [decide_eq_false (fun q => Int32.not_lt.mpr ee ((sv_isset hn x).mpr q).2)]; rfl) (ret _ _ dM_isSet_19)) | (have ee : ¬ nI (2 ^ n) ≤ x := h11; exact x_tv (by rw [decide_eq_true ((sv_isset hn x).mp ⟨Int32.not_lt.mp h1, Int32.not_le.mp ee⟩)]; rfl) (ret _ _ dM_isSet_19)) | (have ee : x < 0 := h1; exact x_tv (by rw [decide_eq_false (fun q => Int32.not_lt.mpr ((sv_isset hn x).mpr q).1 ee)]; rfl) (ret _ _ dM_isSet_19))
  · skip
    refine lv_iload_n (i := 1) hx hb dM_isSet_4 rfl (sv_at hl rfl) ?_
    refine lv_iconst (v := 1) hx hb dM_isSet_5 (by decide) ?_
    refine lv_aload_n (i := 0) hx hb dM_isSet_6 rfl (sv_at hl rfl) ?_
    refine gM_nodes X hP dM_isSet_7 ?_
    refine lv_ishl hx hb dM_isSet_10 ?_
    refine x_tv (sv_pow n (by omega)) ?_
    refine lv_icmp_ge (tgt := 18) hx hb dM_isSet_11 rfl (fun h11 => ?_) (fun h11 => ?_)
    · skip
      refine lv_iconst (v := 0) hx hb dM_isSet_18 (by decide) ?_
      first | (have ee : nI (2 ^ n) ≤ x := h11; exact x_tv (by rw [decide_eq_false (fun q => Int32.not_lt.mpr ee ((sv_isset hn x).mpr q).2)]; rfl) (ret _ _ dM_isSet_19)) | (have ee : ¬ nI (2 ^ n) ≤ x := h11; exact x_tv (by rw [decide_eq_true ((sv_isset hn x).mp ⟨Int32.not_lt.mp h1, Int32.not_le.mp ee⟩)]; rfl) (ret _ _ dM_isSet_19)) | (have ee : x < 0 := h1; exact x_tv (by rw [decide_eq_false (fun q => Int32.not_lt.mpr ((sv_isset hn x).mpr q).1 ee)]; rfl) (ret _ _ dM_isSet_19))
    · skip
      refine lv_iconst (v := 1) hx hb dM_isSet_14 (by decide) ?_
      refine lv_goto (tgt := 19) hx hb dM_isSet_15 rfl ?_
      first | (have ee : nI (2 ^ n) ≤ x := h11; exact x_tv (by rw [decide_eq_false (fun q => Int32.not_lt.mpr ee ((sv_isset hn x).mpr q).2)]; rfl) (ret _ _ dM_isSet_19)) | (have ee : ¬ nI (2 ^ n) ≤ x := h11; exact x_tv (by rw [decide_eq_true ((sv_isset hn x).mp ⟨Int32.not_lt.mp h1, Int32.not_le.mp ee⟩)]; rfl) (ret _ _ dM_isSet_19)) | (have ee : x < 0 := h1; exact x_tv (by rw [decide_eq_false (fun q => Int32.not_lt.mpr ((sv_isset hn x).mpr q).1 ee)]; rfl) (ret _ _ dM_isSet_19))

theorem cM_m_isSet {x : Int32} (hn : n ≤ 6) : Met l yM_isSet (sv_ws yM_isSet cM_isSet 2 (some .boolean)) (sv_rm 1) (sv_Pc D cI cZ cN cQ [.ref (ad 0), .int x] (fun H => sv_mP D cI cZ n qc ad σ mt qm H)) (vp_Si (fun zz => zz = sv_b (decide (sv_N x < 2 ^ n)))) 0 0 (fun _ => False) :=
  sv_mkR (by decide) (by show 2 ≤ 2; decide) (sv_narb _) (fun p e s m below meth c ls Q X hP hl ret => wM_isSet X hP hn hl ret)
theorem okM_M_isSet : sv_okV "SliceVotingModel" 78 yM_isSet cM_isSet 2 (some .boolean) 1 := ⟨sv_tb_t 394 rfl rfl, sv_tb_t 391 rfl rfl, sv_tb_t 393 rfl rfl, sv_tb_s 19 rfl rfl, sv_tb_t 4 rfl rfl, ⟨by decide, by decide, by decide +kernel⟩, by decide⟩
theorem kM_isSet (X : sv_X D cI cZ cN cQ "SliceVotingModel" cc nL k p R s m args c) (hk : 1 + 1 ≤ k) (hP : sv_mP D cI cZ n qc ad σ mt qm H) {x : Int32} (hn : n ≤ 6) (hl : lv_has ls nL lv) (hc : cells ≤ R.cells) (hs : slots ≤ R.slots) (hcat : (rest.map fun v => v.category).sum ≤ 8) (hd : decode cc pc = .ok (.invokevirtual 78, 3)) (kk : W p l e R s m args below meth c H locs cells slots Q (F0 m (pc + 3) ls (.int (sv_b (decide (sv_N x < 2 ^ n))) :: rest))) : W p l e R s m args below meth c H locs cells slots Q (F0 m pc ls (.int x :: .ref (ad 0) :: rest)) :=
  sv_cV (G := fun H => sv_mP D cI cZ n qc ad σ mt qm H) X okM_M_isSet (cM_m_isSet hn) hP (y_rec X.K hP (by decide) sv_me_0 rfl) hk rfl hl.1 rfl hcat hc hs hd kk
set_option maxHeartbeats 4000000 in
set_option maxRecDepth 100000 in
theorem wM_top (X : sv_X D cI cZ cN cQ "SliceVotingModel" cM_top 4 1 p R s m args c) (hP : sv_mP D cI cZ n qc ad σ mt qm H) {v : Nat} (hq24 : qc ≤ 24) (hl : lv_has ls 4 [(0, .ref (ad 0)), (1, .int (nI v))]) (ret : ∀ (pc : Nat) (ls : Array Slot), decode cM_top pc = .ok (.ireturn, 1) → W p l e R s m args below meth c H locs 0 0 Q (F0 m pc ls [.int (sv_oI (sv_top σ qc v))])) : W p l e R s m args below meth c H locs 0 0 Q (F0 m 0 ls []) := by
  have hx := X.1
  have hb := X.2.1
  have J4 : ∀ (kf : Nat) (i : Nat) (ls : Array Slot), qc - i < kf → (i ≤ qc) → lv_has ls 4 [(0, .ref (ad 0)), (1, .int (nI v)), (2, .int (sv_oI (sv_last (fun q => (σ 3 q == nI v) && (σ 4 q == -1)) i))), (3, .int (nI i))] → W p l e R s m args below meth c H locs 0 0 Q (F0 m 4 ls []) := by
    intro kf
    induction kf with
    | zero => intro i ls hm; exact absurd hm (Nat.not_lt_zero _)
    | succ kf ih =>
      intro i ls hm hi hl
      refine lv_iload_n (i := 3) hx hb dM_top_4 rfl (sv_at hl rfl) ?_
      refine lv_aload_n (i := 0) hx hb dM_top_5 rfl (sv_at hl rfl) ?_
      refine gM_quotas X hP dM_top_6 ?_
      refine lv_icmp_ge (tgt := 44) hx hb dM_top_9 rfl (fun h9 => ?_) (fun h9 => ?_)
      · skip
        rw [nI_leI (by omega) (by omega)] at h9
        obtain rfl : i = qc := by omega
        refine lv_iload_n (i := 2) hx hb dM_top_44 rfl (sv_at hl rfl) ?_
        exact ret _ _ dM_top_45
      · skip
        rw [nI_leI (by omega) (by omega)] at h9
        refine lv_aload_n (i := 0) hx hb dM_top_12 rfl (sv_at hl rfl) ?_
        refine gM_owner X hP dM_top_13 ?_
        refine lv_iload_n (i := 3) hx hb dM_top_16 rfl (sv_at hl rfl) ?_
        refine gm_owner X hP (by omega) dM_top_17 ?_
        refine lv_iload_n (i := 1) hx hb dM_top_18 rfl (sv_at hl rfl) ?_
        refine lv_icmp_ne (tgt := 36) hx hb dM_top_19 rfl (fun h19 => ?_) (fun h19 => ?_)
        · skip
          refine lv_iload_n (i := 2) hx hb dM_top_36 rfl (sv_at hl rfl) ?_
          refine x_tv (y := sv_oI (sv_last (fun q => (σ 3 q == nI v) && (σ 4 q == -1)) (i + 1))) (by first | (have ee : ¬ σ 4 i = -1 := h29; rw [sv_last_f (by rw [show (σ 4 i == -1) = false from beq_eq_false_iff_ne.mpr ee, Bool.and_false])]) | (have ee : σ 4 i = -1 := h29; rw [sv_last_t (by rw [show (σ 3 i == nI v) = true from beq_iff_eq.mpr h19, show (σ 4 i == -1) = true from beq_iff_eq.mpr ee]; rfl)]; rfl) | (have ee : ¬ σ 3 i = nI v := h19; rw [sv_last_f (by rw [show (σ 3 i == nI v) = false from beq_eq_false_iff_ne.mpr ee]; rfl)])) ?_
          refine lv_istore_n (i := 2) hx hb dM_top_37 rfl hl (by decide) rfl (fun ls hl => ?_)
          refine x_iinc (i := 3) hx hb dM_top_38 hl rfl (sv_inc i) (by decide) (fun ls hl => ?_)
          refine lv_goto (tgt := 4) hx hb dM_top_41 rfl ?_
          exact ih (i + 1) ls (by omega) (by omega) (sv_re hl ⟨rfl, rfl, rfl, rfl, trivial⟩)
        · skip
          refine lv_aload_n (i := 0) hx hb dM_top_22 rfl (sv_at hl rfl) ?_
          refine gM_around X hP dM_top_23 ?_
          refine lv_iload_n (i := 3) hx hb dM_top_26 rfl (sv_at hl rfl) ?_
          refine gm_around X hP (by omega) dM_top_27 ?_
          refine lv_iconst (v := -1) hx hb dM_top_28 (by decide) ?_
          refine lv_icmp_ne (tgt := 36) hx hb dM_top_29 rfl (fun h29 => ?_) (fun h29 => ?_)
          · skip
            refine lv_iload_n (i := 2) hx hb dM_top_36 rfl (sv_at hl rfl) ?_
            refine x_tv (y := sv_oI (sv_last (fun q => (σ 3 q == nI v) && (σ 4 q == -1)) (i + 1))) (by first | (have ee : ¬ σ 4 i = -1 := h29; rw [sv_last_f (by rw [show (σ 4 i == -1) = false from beq_eq_false_iff_ne.mpr ee, Bool.and_false])]) | (have ee : σ 4 i = -1 := h29; rw [sv_last_t (by rw [show (σ 3 i == nI v) = true from beq_iff_eq.mpr h19, show (σ 4 i == -1) = true from beq_iff_eq.mpr ee]; rfl)]; rfl) | (have ee : ¬ σ 3 i = nI v := h19; rw [sv_last_f (by rw [show (σ 3 i == nI v) = false from beq_eq_false_iff_ne.mpr ee]; rfl)])) ?_
            refine lv_istore_n (i := 2) hx hb dM_top_37 rfl hl (by decide) rfl (fun ls hl => ?_)
            refine x_iinc (i := 3) hx hb dM_top_38 hl rfl (sv_inc i) (by decide) (fun ls hl => ?_)
            refine lv_goto (tgt := 4) hx hb dM_top_41 rfl ?_
            exact ih (i + 1) ls (by omega) (by omega) (sv_re hl ⟨rfl, rfl, rfl, rfl, trivial⟩)
          · skip
            refine lv_iload_n (i := 3) hx hb dM_top_32 rfl (sv_at hl rfl) ?_
            refine lv_goto (tgt := 37) hx hb dM_top_33 rfl ?_
            refine x_tv (y := sv_oI (sv_last (fun q => (σ 3 q == nI v) && (σ 4 q == -1)) (i + 1))) (by first | (have ee : ¬ σ 4 i = -1 := h29; rw [sv_last_f (by rw [show (σ 4 i == -1) = false from beq_eq_false_iff_ne.mpr ee, Bool.and_false])]) | (have ee : σ 4 i = -1 := h29; rw [sv_last_t (by rw [show (σ 3 i == nI v) = true from beq_iff_eq.mpr h19, show (σ 4 i == -1) = true from beq_iff_eq.mpr ee]; rfl)]; rfl) | (have ee : ¬ σ 3 i = nI v := h19; rw [sv_last_f (by rw [show (σ 3 i == nI v) = false from beq_eq_false_iff_ne.mpr ee]; rfl)])) ?_
            refine lv_istore_n (i := 2) hx hb dM_top_37 rfl hl (by decide) rfl (fun ls hl => ?_)
            refine x_iinc (i := 3) hx hb dM_top_38 hl rfl (sv_inc i) (by decide) (fun ls hl => ?_)
            refine lv_goto (tgt := 4) hx hb dM_top_41 rfl ?_
            exact ih (i + 1) ls (by omega) (by omega) (sv_re hl ⟨rfl, rfl, rfl, rfl, trivial⟩)
  refine lv_iconst (v := -1) hx hb dM_top_0 (by decide) ?_
  refine lv_istore_n (i := 2) hx hb dM_top_1 rfl hl (by decide) rfl (fun ls hl => ?_)
  refine lv_iconst (v := 0) hx hb dM_top_2 (by decide) ?_
  refine lv_istore_n (i := 3) hx hb dM_top_3 rfl hl (by decide) rfl (fun ls hl => ?_)
  exact J4 _ 0 ls (Nat.lt_succ_self _) (Nat.zero_le _) (sv_re hl ⟨rfl, rfl, rfl, rfl, trivial⟩)

theorem cM_m_top {v : Nat} (hq24 : qc ≤ 24) : Met l yM_top (sv_ws yM_top cM_top 4 (some .int)) (sv_rm 1) (sv_Pc D cI cZ cN cQ [.ref (ad 0), .int (nI v)] (fun H => sv_mP D cI cZ n qc ad σ mt qm H)) (vp_Si (fun zz => zz = sv_oI (sv_top σ qc v))) 0 0 (fun _ => False) :=
  sv_mkR (by decide) (by show 2 ≤ 4; decide) rfl (fun p e s m below meth c ls Q X hP hl ret => wM_top X hP hq24 hl ret)
theorem okM_M_top : sv_okV "SliceVotingModel" 74 yM_top cM_top 4 (some .int) 1 := ⟨sv_tb_t 382 rfl rfl, sv_tb_t 379 rfl rfl, sv_tb_t 381 rfl rfl, sv_tb_s 18 rfl rfl, sv_tb_t 4 rfl rfl, ⟨by decide, by decide, by decide +kernel⟩, by decide⟩
theorem kM_top (X : sv_X D cI cZ cN cQ "SliceVotingModel" cc nL k p R s m args c) (hk : 1 + 1 ≤ k) (hP : sv_mP D cI cZ n qc ad σ mt qm H) {v : Nat} (hq24 : qc ≤ 24) (hl : lv_has ls nL lv) (hc : cells ≤ R.cells) (hs : slots ≤ R.slots) (hcat : (rest.map fun v => v.category).sum ≤ 8) (hd : decode cc pc = .ok (.invokevirtual 74, 3)) (kk : W p l e R s m args below meth c H locs cells slots Q (F0 m (pc + 3) ls (.int (sv_oI (sv_top σ qc v)) :: rest))) : W p l e R s m args below meth c H locs cells slots Q (F0 m pc ls (.int (nI v) :: .ref (ad 0) :: rest)) :=
  sv_cV (G := fun H => sv_mP D cI cZ n qc ad σ mt qm H) X okM_M_top (cM_m_top hq24) hP (y_rec X.K hP (by decide) sv_me_0 rfl) hk rfl hl.1 rfl hcat hc hs hd kk
theorem sv_con_1 : ∀ s, s < 24 → ∀ t, t < 24 → s < 12 → t < 12 → sv_con s t = false := by decide +kernel
theorem sv_con_2 : ∀ s, s < 24 → ∀ t, t < 24 → 12 ≤ s → 12 ≤ t → sv_con s t = decide (s % 3 ≠ t % 3) := by decide +kernel
theorem sv_con_3 : ∀ s, s < 24 → ∀ t, t < 24 → 12 ≤ s → t < 12 → sv_con s t = (decide (s - 12 < t) && decide (t % 3 ≠ (s - 12) % 3)) := by decide +kernel
theorem sv_con_4 : ∀ s, s < 24 → ∀ t, t < 24 → s < 12 → 12 ≤ t → sv_con s t = (decide (t - 12 < s) && decide (s % 3 ≠ (t - 12) % 3)) := by decide +kernel
set_option maxHeartbeats 4000000 in
set_option maxRecDepth 100000 in
theorem wM_contradict (X : sv_X D cI cZ cN cQ "SliceVotingModel" cM_contradict 5 1 p R s m args c) (hP : sv_mP D cI cZ n qc ad σ mt qm H) {a b : Nat} (ha : a < 24) (hb2 : b < 24) (hl : lv_has ls 5 [(0, .ref (ad 0)), (1, .int (nI a)), (2, .int (nI b))]) (ret : ∀ (pc : Nat) (ls : Array Slot), decode cM_contradict pc = .ok (.ireturn, 1) → W p l e R s m args below meth c H locs 0 0 Q (F0 m pc ls [.int (sv_b (sv_con a b))])) : W p l e R s m args below meth c H locs 0 0 Q (F0 m 0 ls []) := by
  have hx := X.1
  have hb := X.2.1
  refine lv_iload_n (i := 1) hx hb dM_contradict_0 rfl (sv_at hl rfl) ?_
  refine lv_bipush (v := nI 12) hx hb dM_contradict_1 (by decide) ?_
  refine lv_icmp_ge (tgt := 14) hx hb dM_contradict_3 rfl (fun h3 => ?_) (fun h3 => ?_)
  · skip
    rw [nI_leI (by omega) (by omega)] at h3
    refine lv_iload_n (i := 1) hx hb dM_contradict_14 rfl (sv_at hl rfl) ?_
    refine lv_bipush (v := nI 12) hx hb dM_contradict_15 (by decide) ?_
    refine lv_icmp_lt (tgt := 41) hx hb dM_contradict_17 rfl (fun h17 => ?_) (fun h17 => ?_)
    · skip
      rw [nI_ltI (by omega) (by omega)] at h17
      refine lv_iload_n (i := 1) hx hb dM_contradict_41 rfl (sv_at hl rfl) ?_
      refine lv_bipush (v := nI 12) hx hb dM_contradict_42 (by decide) ?_
      refine lv_icmp_lt (tgt := 54) hx hb dM_contradict_44 rfl (fun h44 => ?_) (fun h44 => ?_)
      · skip
        rw [nI_ltI (by omega) (by omega)] at h44
        refine lv_iload_n (i := 2) hx hb dM_contradict_54 rfl (sv_at hl rfl) ?_
        refine lv_bipush (v := nI 12) hx hb dM_contradict_55 (by decide) ?_
        refine lv_isub hx hb dM_contradict_57 ?_
        first | refine x_tv (pk_sub (a := a) (b := 12) (by omega)) ?_ | refine x_tv (pk_sub (a := b) (b := 12) (by omega)) ?_
        refine lv_istore_n (i := 3) hx hb dM_contradict_58 rfl hl (by decide) rfl (fun ls hl => ?_)
        refine lv_iload_n (i := 1) hx hb dM_contradict_59 rfl (sv_at hl rfl) ?_
        refine lv_bipush (v := nI 12) hx hb dM_contradict_60 (by decide) ?_
        refine lv_icmp_lt (tgt := 69) hx hb dM_contradict_62 rfl (fun h62 => ?_) (fun h62 => ?_)
        · skip
          rw [nI_ltI (by omega) (by omega)] at h62
          refine lv_iload_n (i := 1) hx hb dM_contradict_69 rfl (sv_at hl rfl) ?_
          refine lv_istore (i := 4) hx hb dM_contradict_70 hl (by decide) rfl (fun ls hl => ?_)
          refine lv_iload (i := 4) hx hb dM_contradict_72 (sv_at hl rfl) ?_
          refine lv_iload_n (i := 3) hx hb dM_contradict_74 rfl (sv_at hl rfl) ?_
          refine lv_icmp_le (tgt := 92) hx hb dM_contradict_75 rfl (fun h75 => ?_) (fun h75 => ?_)
          · skip
            rw [nI_leI (by omega) (by omega)] at h75
            refine lv_iconst (v := 0) hx hb dM_contradict_92 (by decide) ?_
            exact x_tv (by clear ret hl hx hb X hP; rcases Nat.lt_or_ge a 12 with q1 | q1 <;> rcases Nat.lt_or_ge b 12 with q2 | q2 <;> first | omega | (rw [sv_con_1 a ha b hb2 q1 q2]; first | rfl | omega) | (rw [sv_con_2 a ha b hb2 q1 q2]; first | (rw [decide_eq_true (by omega)]; rfl) | (rw [decide_eq_false (by omega)]; rfl)) | (rw [sv_con_3 a ha b hb2 q1 q2]; first | (rw [decide_eq_true (by omega), decide_eq_true (by omega)]; rfl) | (rw [decide_eq_false (show ¬ a - 12 < b by omega)]; rfl) | (rw [decide_eq_false (show ¬ b % 3 ≠ (a - 12) % 3 by omega), Bool.and_false]; rfl)) | (rw [sv_con_4 a ha b hb2 q1 q2]; first | (rw [decide_eq_true (by omega), decide_eq_true (by omega)]; rfl) | (rw [decide_eq_false (show ¬ b - 12 < a by omega)]; rfl) | (rw [decide_eq_false (show ¬ a % 3 ≠ (b - 12) % 3 by omega), Bool.and_false]; rfl))) (ret _ _ dM_contradict_93)
          · skip
            rw [nI_leI (by omega) (by omega)] at h75
            refine lv_iload (i := 4) hx hb dM_contradict_78 (sv_at hl rfl) ?_
            refine lv_iconst (v := nI 3) hx hb dM_contradict_80 (by decide) ?_
            refine lv_irem hx hb dM_contradict_81 (by decide) ?_
            refine lv_iload_n (i := 3) hx hb dM_contradict_82 rfl (sv_at hl rfl) ?_
            refine lv_iconst (v := nI 3) hx hb dM_contradict_83 (by decide) ?_
            refine lv_irem hx hb dM_contradict_84 (by decide) ?_
            refine lv_icmp_eq (tgt := 92) hx hb dM_contradict_85 rfl (fun h85 => ?_) (fun h85 => ?_)
            · skip
              rw [pk_rem (by omega) (by decide) (by decide), pk_rem (by omega) (by decide) (by decide), nI_eq (by omega) (by omega)] at h85
              refine lv_iconst (v := 0) hx hb dM_contradict_92 (by decide) ?_
              exact x_tv (by clear ret hl hx hb X hP; rcases Nat.lt_or_ge a 12 with q1 | q1 <;> rcases Nat.lt_or_ge b 12 with q2 | q2 <;> first | omega | (rw [sv_con_1 a ha b hb2 q1 q2]; first | rfl | omega) | (rw [sv_con_2 a ha b hb2 q1 q2]; first | (rw [decide_eq_true (by omega)]; rfl) | (rw [decide_eq_false (by omega)]; rfl)) | (rw [sv_con_3 a ha b hb2 q1 q2]; first | (rw [decide_eq_true (by omega), decide_eq_true (by omega)]; rfl) | (rw [decide_eq_false (show ¬ a - 12 < b by omega)]; rfl) | (rw [decide_eq_false (show ¬ b % 3 ≠ (a - 12) % 3 by omega), Bool.and_false]; rfl)) | (rw [sv_con_4 a ha b hb2 q1 q2]; first | (rw [decide_eq_true (by omega), decide_eq_true (by omega)]; rfl) | (rw [decide_eq_false (show ¬ b - 12 < a by omega)]; rfl) | (rw [decide_eq_false (show ¬ a % 3 ≠ (b - 12) % 3 by omega), Bool.and_false]; rfl))) (ret _ _ dM_contradict_93)
            · skip
              rw [pk_rem (by omega) (by decide) (by decide), pk_rem (by omega) (by decide) (by decide), nI_eq (by omega) (by omega)] at h85
              refine lv_iconst (v := 1) hx hb dM_contradict_88 (by decide) ?_
              refine lv_goto (tgt := 93) hx hb dM_contradict_89 rfl ?_
              exact x_tv (by clear ret hl hx hb X hP; rcases Nat.lt_or_ge a 12 with q1 | q1 <;> rcases Nat.lt_or_ge b 12 with q2 | q2 <;> first | omega | (rw [sv_con_1 a ha b hb2 q1 q2]; first | rfl | omega) | (rw [sv_con_2 a ha b hb2 q1 q2]; first | (rw [decide_eq_true (by omega)]; rfl) | (rw [decide_eq_false (by omega)]; rfl)) | (rw [sv_con_3 a ha b hb2 q1 q2]; first | (rw [decide_eq_true (by omega), decide_eq_true (by omega)]; rfl) | (rw [decide_eq_false (show ¬ a - 12 < b by omega)]; rfl) | (rw [decide_eq_false (show ¬ b % 3 ≠ (a - 12) % 3 by omega), Bool.and_false]; rfl)) | (rw [sv_con_4 a ha b hb2 q1 q2]; first | (rw [decide_eq_true (by omega), decide_eq_true (by omega)]; rfl) | (rw [decide_eq_false (show ¬ b - 12 < a by omega)]; rfl) | (rw [decide_eq_false (show ¬ a % 3 ≠ (b - 12) % 3 by omega), Bool.and_false]; rfl))) (ret _ _ dM_contradict_93)
        · skip
          rw [nI_ltI (by omega) (by omega)] at h62
          refine lv_iload_n (i := 2) hx hb dM_contradict_65 rfl (sv_at hl rfl) ?_
          refine lv_goto (tgt := 70) hx hb dM_contradict_66 rfl ?_
          refine lv_istore (i := 4) hx hb dM_contradict_70 hl (by decide) rfl (fun ls hl => ?_)
          refine lv_iload (i := 4) hx hb dM_contradict_72 (sv_at hl rfl) ?_
          refine lv_iload_n (i := 3) hx hb dM_contradict_74 rfl (sv_at hl rfl) ?_
          refine lv_icmp_le (tgt := 92) hx hb dM_contradict_75 rfl (fun h75 => ?_) (fun h75 => ?_)
          · skip
            rw [nI_leI (by omega) (by omega)] at h75
            refine lv_iconst (v := 0) hx hb dM_contradict_92 (by decide) ?_
            exact x_tv (by clear ret hl hx hb X hP; rcases Nat.lt_or_ge a 12 with q1 | q1 <;> rcases Nat.lt_or_ge b 12 with q2 | q2 <;> first | omega | (rw [sv_con_1 a ha b hb2 q1 q2]; first | rfl | omega) | (rw [sv_con_2 a ha b hb2 q1 q2]; first | (rw [decide_eq_true (by omega)]; rfl) | (rw [decide_eq_false (by omega)]; rfl)) | (rw [sv_con_3 a ha b hb2 q1 q2]; first | (rw [decide_eq_true (by omega), decide_eq_true (by omega)]; rfl) | (rw [decide_eq_false (show ¬ a - 12 < b by omega)]; rfl) | (rw [decide_eq_false (show ¬ b % 3 ≠ (a - 12) % 3 by omega), Bool.and_false]; rfl)) | (rw [sv_con_4 a ha b hb2 q1 q2]; first | (rw [decide_eq_true (by omega), decide_eq_true (by omega)]; rfl) | (rw [decide_eq_false (show ¬ b - 12 < a by omega)]; rfl) | (rw [decide_eq_false (show ¬ a % 3 ≠ (b - 12) % 3 by omega), Bool.and_false]; rfl))) (ret _ _ dM_contradict_93)
          · skip
            rw [nI_leI (by omega) (by omega)] at h75
            refine lv_iload (i := 4) hx hb dM_contradict_78 (sv_at hl rfl) ?_
            refine lv_iconst (v := nI 3) hx hb dM_contradict_80 (by decide) ?_
            refine lv_irem hx hb dM_contradict_81 (by decide) ?_
            refine lv_iload_n (i := 3) hx hb dM_contradict_82 rfl (sv_at hl rfl) ?_
            refine lv_iconst (v := nI 3) hx hb dM_contradict_83 (by decide) ?_
            refine lv_irem hx hb dM_contradict_84 (by decide) ?_
            refine lv_icmp_eq (tgt := 92) hx hb dM_contradict_85 rfl (fun h85 => ?_) (fun h85 => ?_)
            · skip
              rw [pk_rem (by omega) (by decide) (by decide), pk_rem (by omega) (by decide) (by decide), nI_eq (by omega) (by omega)] at h85
              refine lv_iconst (v := 0) hx hb dM_contradict_92 (by decide) ?_
              exact x_tv (by clear ret hl hx hb X hP; rcases Nat.lt_or_ge a 12 with q1 | q1 <;> rcases Nat.lt_or_ge b 12 with q2 | q2 <;> first | omega | (rw [sv_con_1 a ha b hb2 q1 q2]; first | rfl | omega) | (rw [sv_con_2 a ha b hb2 q1 q2]; first | (rw [decide_eq_true (by omega)]; rfl) | (rw [decide_eq_false (by omega)]; rfl)) | (rw [sv_con_3 a ha b hb2 q1 q2]; first | (rw [decide_eq_true (by omega), decide_eq_true (by omega)]; rfl) | (rw [decide_eq_false (show ¬ a - 12 < b by omega)]; rfl) | (rw [decide_eq_false (show ¬ b % 3 ≠ (a - 12) % 3 by omega), Bool.and_false]; rfl)) | (rw [sv_con_4 a ha b hb2 q1 q2]; first | (rw [decide_eq_true (by omega), decide_eq_true (by omega)]; rfl) | (rw [decide_eq_false (show ¬ b - 12 < a by omega)]; rfl) | (rw [decide_eq_false (show ¬ a % 3 ≠ (b - 12) % 3 by omega), Bool.and_false]; rfl))) (ret _ _ dM_contradict_93)
            · skip
              rw [pk_rem (by omega) (by decide) (by decide), pk_rem (by omega) (by decide) (by decide), nI_eq (by omega) (by omega)] at h85
              refine lv_iconst (v := 1) hx hb dM_contradict_88 (by decide) ?_
              refine lv_goto (tgt := 93) hx hb dM_contradict_89 rfl ?_
              exact x_tv (by clear ret hl hx hb X hP; rcases Nat.lt_or_ge a 12 with q1 | q1 <;> rcases Nat.lt_or_ge b 12 with q2 | q2 <;> first | omega | (rw [sv_con_1 a ha b hb2 q1 q2]; first | rfl | omega) | (rw [sv_con_2 a ha b hb2 q1 q2]; first | (rw [decide_eq_true (by omega)]; rfl) | (rw [decide_eq_false (by omega)]; rfl)) | (rw [sv_con_3 a ha b hb2 q1 q2]; first | (rw [decide_eq_true (by omega), decide_eq_true (by omega)]; rfl) | (rw [decide_eq_false (show ¬ a - 12 < b by omega)]; rfl) | (rw [decide_eq_false (show ¬ b % 3 ≠ (a - 12) % 3 by omega), Bool.and_false]; rfl)) | (rw [sv_con_4 a ha b hb2 q1 q2]; first | (rw [decide_eq_true (by omega), decide_eq_true (by omega)]; rfl) | (rw [decide_eq_false (show ¬ b - 12 < a by omega)]; rfl) | (rw [decide_eq_false (show ¬ a % 3 ≠ (b - 12) % 3 by omega), Bool.and_false]; rfl))) (ret _ _ dM_contradict_93)
      · skip
        rw [nI_ltI (by omega) (by omega)] at h44
        refine lv_iload_n (i := 1) hx hb dM_contradict_47 rfl (sv_at hl rfl) ?_
        refine lv_bipush (v := nI 12) hx hb dM_contradict_48 (by decide) ?_
        refine lv_isub hx hb dM_contradict_50 ?_
        refine lv_goto (tgt := 58) hx hb dM_contradict_51 rfl ?_
        first | refine x_tv (pk_sub (a := a) (b := 12) (by omega)) ?_ | refine x_tv (pk_sub (a := b) (b := 12) (by omega)) ?_
        refine lv_istore_n (i := 3) hx hb dM_contradict_58 rfl hl (by decide) rfl (fun ls hl => ?_)
        refine lv_iload_n (i := 1) hx hb dM_contradict_59 rfl (sv_at hl rfl) ?_
        refine lv_bipush (v := nI 12) hx hb dM_contradict_60 (by decide) ?_
        refine lv_icmp_lt (tgt := 69) hx hb dM_contradict_62 rfl (fun h62 => ?_) (fun h62 => ?_)
        · skip
          rw [nI_ltI (by omega) (by omega)] at h62
          refine lv_iload_n (i := 1) hx hb dM_contradict_69 rfl (sv_at hl rfl) ?_
          refine lv_istore (i := 4) hx hb dM_contradict_70 hl (by decide) rfl (fun ls hl => ?_)
          refine lv_iload (i := 4) hx hb dM_contradict_72 (sv_at hl rfl) ?_
          refine lv_iload_n (i := 3) hx hb dM_contradict_74 rfl (sv_at hl rfl) ?_
          refine lv_icmp_le (tgt := 92) hx hb dM_contradict_75 rfl (fun h75 => ?_) (fun h75 => ?_)
          · skip
            rw [nI_leI (by omega) (by omega)] at h75
            refine lv_iconst (v := 0) hx hb dM_contradict_92 (by decide) ?_
            exact x_tv (by clear ret hl hx hb X hP; rcases Nat.lt_or_ge a 12 with q1 | q1 <;> rcases Nat.lt_or_ge b 12 with q2 | q2 <;> first | omega | (rw [sv_con_1 a ha b hb2 q1 q2]; first | rfl | omega) | (rw [sv_con_2 a ha b hb2 q1 q2]; first | (rw [decide_eq_true (by omega)]; rfl) | (rw [decide_eq_false (by omega)]; rfl)) | (rw [sv_con_3 a ha b hb2 q1 q2]; first | (rw [decide_eq_true (by omega), decide_eq_true (by omega)]; rfl) | (rw [decide_eq_false (show ¬ a - 12 < b by omega)]; rfl) | (rw [decide_eq_false (show ¬ b % 3 ≠ (a - 12) % 3 by omega), Bool.and_false]; rfl)) | (rw [sv_con_4 a ha b hb2 q1 q2]; first | (rw [decide_eq_true (by omega), decide_eq_true (by omega)]; rfl) | (rw [decide_eq_false (show ¬ b - 12 < a by omega)]; rfl) | (rw [decide_eq_false (show ¬ a % 3 ≠ (b - 12) % 3 by omega), Bool.and_false]; rfl))) (ret _ _ dM_contradict_93)
          · skip
            rw [nI_leI (by omega) (by omega)] at h75
            refine lv_iload (i := 4) hx hb dM_contradict_78 (sv_at hl rfl) ?_
            refine lv_iconst (v := nI 3) hx hb dM_contradict_80 (by decide) ?_
            refine lv_irem hx hb dM_contradict_81 (by decide) ?_
            refine lv_iload_n (i := 3) hx hb dM_contradict_82 rfl (sv_at hl rfl) ?_
            refine lv_iconst (v := nI 3) hx hb dM_contradict_83 (by decide) ?_
            refine lv_irem hx hb dM_contradict_84 (by decide) ?_
            refine lv_icmp_eq (tgt := 92) hx hb dM_contradict_85 rfl (fun h85 => ?_) (fun h85 => ?_)
            · skip
              rw [pk_rem (by omega) (by decide) (by decide), pk_rem (by omega) (by decide) (by decide), nI_eq (by omega) (by omega)] at h85
              refine lv_iconst (v := 0) hx hb dM_contradict_92 (by decide) ?_
              exact x_tv (by clear ret hl hx hb X hP; rcases Nat.lt_or_ge a 12 with q1 | q1 <;> rcases Nat.lt_or_ge b 12 with q2 | q2 <;> first | omega | (rw [sv_con_1 a ha b hb2 q1 q2]; first | rfl | omega) | (rw [sv_con_2 a ha b hb2 q1 q2]; first | (rw [decide_eq_true (by omega)]; rfl) | (rw [decide_eq_false (by omega)]; rfl)) | (rw [sv_con_3 a ha b hb2 q1 q2]; first | (rw [decide_eq_true (by omega), decide_eq_true (by omega)]; rfl) | (rw [decide_eq_false (show ¬ a - 12 < b by omega)]; rfl) | (rw [decide_eq_false (show ¬ b % 3 ≠ (a - 12) % 3 by omega), Bool.and_false]; rfl)) | (rw [sv_con_4 a ha b hb2 q1 q2]; first | (rw [decide_eq_true (by omega), decide_eq_true (by omega)]; rfl) | (rw [decide_eq_false (show ¬ b - 12 < a by omega)]; rfl) | (rw [decide_eq_false (show ¬ a % 3 ≠ (b - 12) % 3 by omega), Bool.and_false]; rfl))) (ret _ _ dM_contradict_93)
            · skip
              rw [pk_rem (by omega) (by decide) (by decide), pk_rem (by omega) (by decide) (by decide), nI_eq (by omega) (by omega)] at h85
              refine lv_iconst (v := 1) hx hb dM_contradict_88 (by decide) ?_
              refine lv_goto (tgt := 93) hx hb dM_contradict_89 rfl ?_
              exact x_tv (by clear ret hl hx hb X hP; rcases Nat.lt_or_ge a 12 with q1 | q1 <;> rcases Nat.lt_or_ge b 12 with q2 | q2 <;> first | omega | (rw [sv_con_1 a ha b hb2 q1 q2]; first | rfl | omega) | (rw [sv_con_2 a ha b hb2 q1 q2]; first | (rw [decide_eq_true (by omega)]; rfl) | (rw [decide_eq_false (by omega)]; rfl)) | (rw [sv_con_3 a ha b hb2 q1 q2]; first | (rw [decide_eq_true (by omega), decide_eq_true (by omega)]; rfl) | (rw [decide_eq_false (show ¬ a - 12 < b by omega)]; rfl) | (rw [decide_eq_false (show ¬ b % 3 ≠ (a - 12) % 3 by omega), Bool.and_false]; rfl)) | (rw [sv_con_4 a ha b hb2 q1 q2]; first | (rw [decide_eq_true (by omega), decide_eq_true (by omega)]; rfl) | (rw [decide_eq_false (show ¬ b - 12 < a by omega)]; rfl) | (rw [decide_eq_false (show ¬ a % 3 ≠ (b - 12) % 3 by omega), Bool.and_false]; rfl))) (ret _ _ dM_contradict_93)
        · skip
          rw [nI_ltI (by omega) (by omega)] at h62
          refine lv_iload_n (i := 2) hx hb dM_contradict_65 rfl (sv_at hl rfl) ?_
          refine lv_goto (tgt := 70) hx hb dM_contradict_66 rfl ?_
          refine lv_istore (i := 4) hx hb dM_contradict_70 hl (by decide) rfl (fun ls hl => ?_)
          refine lv_iload (i := 4) hx hb dM_contradict_72 (sv_at hl rfl) ?_
          refine lv_iload_n (i := 3) hx hb dM_contradict_74 rfl (sv_at hl rfl) ?_
          refine lv_icmp_le (tgt := 92) hx hb dM_contradict_75 rfl (fun h75 => ?_) (fun h75 => ?_)
          · skip
            rw [nI_leI (by omega) (by omega)] at h75
            refine lv_iconst (v := 0) hx hb dM_contradict_92 (by decide) ?_
            exact x_tv (by clear ret hl hx hb X hP; rcases Nat.lt_or_ge a 12 with q1 | q1 <;> rcases Nat.lt_or_ge b 12 with q2 | q2 <;> first | omega | (rw [sv_con_1 a ha b hb2 q1 q2]; first | rfl | omega) | (rw [sv_con_2 a ha b hb2 q1 q2]; first | (rw [decide_eq_true (by omega)]; rfl) | (rw [decide_eq_false (by omega)]; rfl)) | (rw [sv_con_3 a ha b hb2 q1 q2]; first | (rw [decide_eq_true (by omega), decide_eq_true (by omega)]; rfl) | (rw [decide_eq_false (show ¬ a - 12 < b by omega)]; rfl) | (rw [decide_eq_false (show ¬ b % 3 ≠ (a - 12) % 3 by omega), Bool.and_false]; rfl)) | (rw [sv_con_4 a ha b hb2 q1 q2]; first | (rw [decide_eq_true (by omega), decide_eq_true (by omega)]; rfl) | (rw [decide_eq_false (show ¬ b - 12 < a by omega)]; rfl) | (rw [decide_eq_false (show ¬ a % 3 ≠ (b - 12) % 3 by omega), Bool.and_false]; rfl))) (ret _ _ dM_contradict_93)
          · skip
            rw [nI_leI (by omega) (by omega)] at h75
            refine lv_iload (i := 4) hx hb dM_contradict_78 (sv_at hl rfl) ?_
            refine lv_iconst (v := nI 3) hx hb dM_contradict_80 (by decide) ?_
            refine lv_irem hx hb dM_contradict_81 (by decide) ?_
            refine lv_iload_n (i := 3) hx hb dM_contradict_82 rfl (sv_at hl rfl) ?_
            refine lv_iconst (v := nI 3) hx hb dM_contradict_83 (by decide) ?_
            refine lv_irem hx hb dM_contradict_84 (by decide) ?_
            refine lv_icmp_eq (tgt := 92) hx hb dM_contradict_85 rfl (fun h85 => ?_) (fun h85 => ?_)
            · skip
              rw [pk_rem (by omega) (by decide) (by decide), pk_rem (by omega) (by decide) (by decide), nI_eq (by omega) (by omega)] at h85
              refine lv_iconst (v := 0) hx hb dM_contradict_92 (by decide) ?_
              exact x_tv (by clear ret hl hx hb X hP; rcases Nat.lt_or_ge a 12 with q1 | q1 <;> rcases Nat.lt_or_ge b 12 with q2 | q2 <;> first | omega | (rw [sv_con_1 a ha b hb2 q1 q2]; first | rfl | omega) | (rw [sv_con_2 a ha b hb2 q1 q2]; first | (rw [decide_eq_true (by omega)]; rfl) | (rw [decide_eq_false (by omega)]; rfl)) | (rw [sv_con_3 a ha b hb2 q1 q2]; first | (rw [decide_eq_true (by omega), decide_eq_true (by omega)]; rfl) | (rw [decide_eq_false (show ¬ a - 12 < b by omega)]; rfl) | (rw [decide_eq_false (show ¬ b % 3 ≠ (a - 12) % 3 by omega), Bool.and_false]; rfl)) | (rw [sv_con_4 a ha b hb2 q1 q2]; first | (rw [decide_eq_true (by omega), decide_eq_true (by omega)]; rfl) | (rw [decide_eq_false (show ¬ b - 12 < a by omega)]; rfl) | (rw [decide_eq_false (show ¬ a % 3 ≠ (b - 12) % 3 by omega), Bool.and_false]; rfl))) (ret _ _ dM_contradict_93)
            · skip
              rw [pk_rem (by omega) (by decide) (by decide), pk_rem (by omega) (by decide) (by decide), nI_eq (by omega) (by omega)] at h85
              refine lv_iconst (v := 1) hx hb dM_contradict_88 (by decide) ?_
              refine lv_goto (tgt := 93) hx hb dM_contradict_89 rfl ?_
              exact x_tv (by clear ret hl hx hb X hP; rcases Nat.lt_or_ge a 12 with q1 | q1 <;> rcases Nat.lt_or_ge b 12 with q2 | q2 <;> first | omega | (rw [sv_con_1 a ha b hb2 q1 q2]; first | rfl | omega) | (rw [sv_con_2 a ha b hb2 q1 q2]; first | (rw [decide_eq_true (by omega)]; rfl) | (rw [decide_eq_false (by omega)]; rfl)) | (rw [sv_con_3 a ha b hb2 q1 q2]; first | (rw [decide_eq_true (by omega), decide_eq_true (by omega)]; rfl) | (rw [decide_eq_false (show ¬ a - 12 < b by omega)]; rfl) | (rw [decide_eq_false (show ¬ b % 3 ≠ (a - 12) % 3 by omega), Bool.and_false]; rfl)) | (rw [sv_con_4 a ha b hb2 q1 q2]; first | (rw [decide_eq_true (by omega), decide_eq_true (by omega)]; rfl) | (rw [decide_eq_false (show ¬ b - 12 < a by omega)]; rfl) | (rw [decide_eq_false (show ¬ a % 3 ≠ (b - 12) % 3 by omega), Bool.and_false]; rfl))) (ret _ _ dM_contradict_93)
    · skip
      rw [nI_ltI (by omega) (by omega)] at h17
      refine lv_iload_n (i := 2) hx hb dM_contradict_20 rfl (sv_at hl rfl) ?_
      refine lv_bipush (v := nI 12) hx hb dM_contradict_21 (by decide) ?_
      refine lv_icmp_lt (tgt := 41) hx hb dM_contradict_23 rfl (fun h23 => ?_) (fun h23 => ?_)
      · skip
        rw [nI_ltI (by omega) (by omega)] at h23
        refine lv_iload_n (i := 1) hx hb dM_contradict_41 rfl (sv_at hl rfl) ?_
        refine lv_bipush (v := nI 12) hx hb dM_contradict_42 (by decide) ?_
        refine lv_icmp_lt (tgt := 54) hx hb dM_contradict_44 rfl (fun h44 => ?_) (fun h44 => ?_)
        · skip
          rw [nI_ltI (by omega) (by omega)] at h44
          refine lv_iload_n (i := 2) hx hb dM_contradict_54 rfl (sv_at hl rfl) ?_
          refine lv_bipush (v := nI 12) hx hb dM_contradict_55 (by decide) ?_
          refine lv_isub hx hb dM_contradict_57 ?_
          first | refine x_tv (pk_sub (a := a) (b := 12) (by omega)) ?_ | refine x_tv (pk_sub (a := b) (b := 12) (by omega)) ?_
          refine lv_istore_n (i := 3) hx hb dM_contradict_58 rfl hl (by decide) rfl (fun ls hl => ?_)
          refine lv_iload_n (i := 1) hx hb dM_contradict_59 rfl (sv_at hl rfl) ?_
          refine lv_bipush (v := nI 12) hx hb dM_contradict_60 (by decide) ?_
          refine lv_icmp_lt (tgt := 69) hx hb dM_contradict_62 rfl (fun h62 => ?_) (fun h62 => ?_)
          · skip
            rw [nI_ltI (by omega) (by omega)] at h62
            refine lv_iload_n (i := 1) hx hb dM_contradict_69 rfl (sv_at hl rfl) ?_
            refine lv_istore (i := 4) hx hb dM_contradict_70 hl (by decide) rfl (fun ls hl => ?_)
            refine lv_iload (i := 4) hx hb dM_contradict_72 (sv_at hl rfl) ?_
            refine lv_iload_n (i := 3) hx hb dM_contradict_74 rfl (sv_at hl rfl) ?_
            refine lv_icmp_le (tgt := 92) hx hb dM_contradict_75 rfl (fun h75 => ?_) (fun h75 => ?_)
            · skip
              rw [nI_leI (by omega) (by omega)] at h75
              refine lv_iconst (v := 0) hx hb dM_contradict_92 (by decide) ?_
              exact x_tv (by clear ret hl hx hb X hP; rcases Nat.lt_or_ge a 12 with q1 | q1 <;> rcases Nat.lt_or_ge b 12 with q2 | q2 <;> first | omega | (rw [sv_con_1 a ha b hb2 q1 q2]; first | rfl | omega) | (rw [sv_con_2 a ha b hb2 q1 q2]; first | (rw [decide_eq_true (by omega)]; rfl) | (rw [decide_eq_false (by omega)]; rfl)) | (rw [sv_con_3 a ha b hb2 q1 q2]; first | (rw [decide_eq_true (by omega), decide_eq_true (by omega)]; rfl) | (rw [decide_eq_false (show ¬ a - 12 < b by omega)]; rfl) | (rw [decide_eq_false (show ¬ b % 3 ≠ (a - 12) % 3 by omega), Bool.and_false]; rfl)) | (rw [sv_con_4 a ha b hb2 q1 q2]; first | (rw [decide_eq_true (by omega), decide_eq_true (by omega)]; rfl) | (rw [decide_eq_false (show ¬ b - 12 < a by omega)]; rfl) | (rw [decide_eq_false (show ¬ a % 3 ≠ (b - 12) % 3 by omega), Bool.and_false]; rfl))) (ret _ _ dM_contradict_93)
            · skip
              rw [nI_leI (by omega) (by omega)] at h75
              refine lv_iload (i := 4) hx hb dM_contradict_78 (sv_at hl rfl) ?_
              refine lv_iconst (v := nI 3) hx hb dM_contradict_80 (by decide) ?_
              refine lv_irem hx hb dM_contradict_81 (by decide) ?_
              refine lv_iload_n (i := 3) hx hb dM_contradict_82 rfl (sv_at hl rfl) ?_
              refine lv_iconst (v := nI 3) hx hb dM_contradict_83 (by decide) ?_
              refine lv_irem hx hb dM_contradict_84 (by decide) ?_
              refine lv_icmp_eq (tgt := 92) hx hb dM_contradict_85 rfl (fun h85 => ?_) (fun h85 => ?_)
              · skip
                rw [pk_rem (by omega) (by decide) (by decide), pk_rem (by omega) (by decide) (by decide), nI_eq (by omega) (by omega)] at h85
                refine lv_iconst (v := 0) hx hb dM_contradict_92 (by decide) ?_
                exact x_tv (by clear ret hl hx hb X hP; rcases Nat.lt_or_ge a 12 with q1 | q1 <;> rcases Nat.lt_or_ge b 12 with q2 | q2 <;> first | omega | (rw [sv_con_1 a ha b hb2 q1 q2]; first | rfl | omega) | (rw [sv_con_2 a ha b hb2 q1 q2]; first | (rw [decide_eq_true (by omega)]; rfl) | (rw [decide_eq_false (by omega)]; rfl)) | (rw [sv_con_3 a ha b hb2 q1 q2]; first | (rw [decide_eq_true (by omega), decide_eq_true (by omega)]; rfl) | (rw [decide_eq_false (show ¬ a - 12 < b by omega)]; rfl) | (rw [decide_eq_false (show ¬ b % 3 ≠ (a - 12) % 3 by omega), Bool.and_false]; rfl)) | (rw [sv_con_4 a ha b hb2 q1 q2]; first | (rw [decide_eq_true (by omega), decide_eq_true (by omega)]; rfl) | (rw [decide_eq_false (show ¬ b - 12 < a by omega)]; rfl) | (rw [decide_eq_false (show ¬ a % 3 ≠ (b - 12) % 3 by omega), Bool.and_false]; rfl))) (ret _ _ dM_contradict_93)
              · skip
                rw [pk_rem (by omega) (by decide) (by decide), pk_rem (by omega) (by decide) (by decide), nI_eq (by omega) (by omega)] at h85
                refine lv_iconst (v := 1) hx hb dM_contradict_88 (by decide) ?_
                refine lv_goto (tgt := 93) hx hb dM_contradict_89 rfl ?_
                exact x_tv (by clear ret hl hx hb X hP; rcases Nat.lt_or_ge a 12 with q1 | q1 <;> rcases Nat.lt_or_ge b 12 with q2 | q2 <;> first | omega | (rw [sv_con_1 a ha b hb2 q1 q2]; first | rfl | omega) | (rw [sv_con_2 a ha b hb2 q1 q2]; first | (rw [decide_eq_true (by omega)]; rfl) | (rw [decide_eq_false (by omega)]; rfl)) | (rw [sv_con_3 a ha b hb2 q1 q2]; first | (rw [decide_eq_true (by omega), decide_eq_true (by omega)]; rfl) | (rw [decide_eq_false (show ¬ a - 12 < b by omega)]; rfl) | (rw [decide_eq_false (show ¬ b % 3 ≠ (a - 12) % 3 by omega), Bool.and_false]; rfl)) | (rw [sv_con_4 a ha b hb2 q1 q2]; first | (rw [decide_eq_true (by omega), decide_eq_true (by omega)]; rfl) | (rw [decide_eq_false (show ¬ b - 12 < a by omega)]; rfl) | (rw [decide_eq_false (show ¬ a % 3 ≠ (b - 12) % 3 by omega), Bool.and_false]; rfl))) (ret _ _ dM_contradict_93)
          · skip
            rw [nI_ltI (by omega) (by omega)] at h62
            refine lv_iload_n (i := 2) hx hb dM_contradict_65 rfl (sv_at hl rfl) ?_
            refine lv_goto (tgt := 70) hx hb dM_contradict_66 rfl ?_
            refine lv_istore (i := 4) hx hb dM_contradict_70 hl (by decide) rfl (fun ls hl => ?_)
            refine lv_iload (i := 4) hx hb dM_contradict_72 (sv_at hl rfl) ?_
            refine lv_iload_n (i := 3) hx hb dM_contradict_74 rfl (sv_at hl rfl) ?_
            refine lv_icmp_le (tgt := 92) hx hb dM_contradict_75 rfl (fun h75 => ?_) (fun h75 => ?_)
            · skip
              rw [nI_leI (by omega) (by omega)] at h75
              refine lv_iconst (v := 0) hx hb dM_contradict_92 (by decide) ?_
              exact x_tv (by clear ret hl hx hb X hP; rcases Nat.lt_or_ge a 12 with q1 | q1 <;> rcases Nat.lt_or_ge b 12 with q2 | q2 <;> first | omega | (rw [sv_con_1 a ha b hb2 q1 q2]; first | rfl | omega) | (rw [sv_con_2 a ha b hb2 q1 q2]; first | (rw [decide_eq_true (by omega)]; rfl) | (rw [decide_eq_false (by omega)]; rfl)) | (rw [sv_con_3 a ha b hb2 q1 q2]; first | (rw [decide_eq_true (by omega), decide_eq_true (by omega)]; rfl) | (rw [decide_eq_false (show ¬ a - 12 < b by omega)]; rfl) | (rw [decide_eq_false (show ¬ b % 3 ≠ (a - 12) % 3 by omega), Bool.and_false]; rfl)) | (rw [sv_con_4 a ha b hb2 q1 q2]; first | (rw [decide_eq_true (by omega), decide_eq_true (by omega)]; rfl) | (rw [decide_eq_false (show ¬ b - 12 < a by omega)]; rfl) | (rw [decide_eq_false (show ¬ a % 3 ≠ (b - 12) % 3 by omega), Bool.and_false]; rfl))) (ret _ _ dM_contradict_93)
            · skip
              rw [nI_leI (by omega) (by omega)] at h75
              refine lv_iload (i := 4) hx hb dM_contradict_78 (sv_at hl rfl) ?_
              refine lv_iconst (v := nI 3) hx hb dM_contradict_80 (by decide) ?_
              refine lv_irem hx hb dM_contradict_81 (by decide) ?_
              refine lv_iload_n (i := 3) hx hb dM_contradict_82 rfl (sv_at hl rfl) ?_
              refine lv_iconst (v := nI 3) hx hb dM_contradict_83 (by decide) ?_
              refine lv_irem hx hb dM_contradict_84 (by decide) ?_
              refine lv_icmp_eq (tgt := 92) hx hb dM_contradict_85 rfl (fun h85 => ?_) (fun h85 => ?_)
              · skip
                rw [pk_rem (by omega) (by decide) (by decide), pk_rem (by omega) (by decide) (by decide), nI_eq (by omega) (by omega)] at h85
                refine lv_iconst (v := 0) hx hb dM_contradict_92 (by decide) ?_
                exact x_tv (by clear ret hl hx hb X hP; rcases Nat.lt_or_ge a 12 with q1 | q1 <;> rcases Nat.lt_or_ge b 12 with q2 | q2 <;> first | omega | (rw [sv_con_1 a ha b hb2 q1 q2]; first | rfl | omega) | (rw [sv_con_2 a ha b hb2 q1 q2]; first | (rw [decide_eq_true (by omega)]; rfl) | (rw [decide_eq_false (by omega)]; rfl)) | (rw [sv_con_3 a ha b hb2 q1 q2]; first | (rw [decide_eq_true (by omega), decide_eq_true (by omega)]; rfl) | (rw [decide_eq_false (show ¬ a - 12 < b by omega)]; rfl) | (rw [decide_eq_false (show ¬ b % 3 ≠ (a - 12) % 3 by omega), Bool.and_false]; rfl)) | (rw [sv_con_4 a ha b hb2 q1 q2]; first | (rw [decide_eq_true (by omega), decide_eq_true (by omega)]; rfl) | (rw [decide_eq_false (show ¬ b - 12 < a by omega)]; rfl) | (rw [decide_eq_false (show ¬ a % 3 ≠ (b - 12) % 3 by omega), Bool.and_false]; rfl))) (ret _ _ dM_contradict_93)
              · skip
                rw [pk_rem (by omega) (by decide) (by decide), pk_rem (by omega) (by decide) (by decide), nI_eq (by omega) (by omega)] at h85
                refine lv_iconst (v := 1) hx hb dM_contradict_88 (by decide) ?_
                refine lv_goto (tgt := 93) hx hb dM_contradict_89 rfl ?_
                exact x_tv (by clear ret hl hx hb X hP; rcases Nat.lt_or_ge a 12 with q1 | q1 <;> rcases Nat.lt_or_ge b 12 with q2 | q2 <;> first | omega | (rw [sv_con_1 a ha b hb2 q1 q2]; first | rfl | omega) | (rw [sv_con_2 a ha b hb2 q1 q2]; first | (rw [decide_eq_true (by omega)]; rfl) | (rw [decide_eq_false (by omega)]; rfl)) | (rw [sv_con_3 a ha b hb2 q1 q2]; first | (rw [decide_eq_true (by omega), decide_eq_true (by omega)]; rfl) | (rw [decide_eq_false (show ¬ a - 12 < b by omega)]; rfl) | (rw [decide_eq_false (show ¬ b % 3 ≠ (a - 12) % 3 by omega), Bool.and_false]; rfl)) | (rw [sv_con_4 a ha b hb2 q1 q2]; first | (rw [decide_eq_true (by omega), decide_eq_true (by omega)]; rfl) | (rw [decide_eq_false (show ¬ b - 12 < a by omega)]; rfl) | (rw [decide_eq_false (show ¬ a % 3 ≠ (b - 12) % 3 by omega), Bool.and_false]; rfl))) (ret _ _ dM_contradict_93)
        · skip
          rw [nI_ltI (by omega) (by omega)] at h44
          refine lv_iload_n (i := 1) hx hb dM_contradict_47 rfl (sv_at hl rfl) ?_
          refine lv_bipush (v := nI 12) hx hb dM_contradict_48 (by decide) ?_
          refine lv_isub hx hb dM_contradict_50 ?_
          refine lv_goto (tgt := 58) hx hb dM_contradict_51 rfl ?_
          first | refine x_tv (pk_sub (a := a) (b := 12) (by omega)) ?_ | refine x_tv (pk_sub (a := b) (b := 12) (by omega)) ?_
          refine lv_istore_n (i := 3) hx hb dM_contradict_58 rfl hl (by decide) rfl (fun ls hl => ?_)
          refine lv_iload_n (i := 1) hx hb dM_contradict_59 rfl (sv_at hl rfl) ?_
          refine lv_bipush (v := nI 12) hx hb dM_contradict_60 (by decide) ?_
          refine lv_icmp_lt (tgt := 69) hx hb dM_contradict_62 rfl (fun h62 => ?_) (fun h62 => ?_)
          · skip
            rw [nI_ltI (by omega) (by omega)] at h62
            refine lv_iload_n (i := 1) hx hb dM_contradict_69 rfl (sv_at hl rfl) ?_
            refine lv_istore (i := 4) hx hb dM_contradict_70 hl (by decide) rfl (fun ls hl => ?_)
            refine lv_iload (i := 4) hx hb dM_contradict_72 (sv_at hl rfl) ?_
            refine lv_iload_n (i := 3) hx hb dM_contradict_74 rfl (sv_at hl rfl) ?_
            refine lv_icmp_le (tgt := 92) hx hb dM_contradict_75 rfl (fun h75 => ?_) (fun h75 => ?_)
            · skip
              rw [nI_leI (by omega) (by omega)] at h75
              refine lv_iconst (v := 0) hx hb dM_contradict_92 (by decide) ?_
              exact x_tv (by clear ret hl hx hb X hP; rcases Nat.lt_or_ge a 12 with q1 | q1 <;> rcases Nat.lt_or_ge b 12 with q2 | q2 <;> first | omega | (rw [sv_con_1 a ha b hb2 q1 q2]; first | rfl | omega) | (rw [sv_con_2 a ha b hb2 q1 q2]; first | (rw [decide_eq_true (by omega)]; rfl) | (rw [decide_eq_false (by omega)]; rfl)) | (rw [sv_con_3 a ha b hb2 q1 q2]; first | (rw [decide_eq_true (by omega), decide_eq_true (by omega)]; rfl) | (rw [decide_eq_false (show ¬ a - 12 < b by omega)]; rfl) | (rw [decide_eq_false (show ¬ b % 3 ≠ (a - 12) % 3 by omega), Bool.and_false]; rfl)) | (rw [sv_con_4 a ha b hb2 q1 q2]; first | (rw [decide_eq_true (by omega), decide_eq_true (by omega)]; rfl) | (rw [decide_eq_false (show ¬ b - 12 < a by omega)]; rfl) | (rw [decide_eq_false (show ¬ a % 3 ≠ (b - 12) % 3 by omega), Bool.and_false]; rfl))) (ret _ _ dM_contradict_93)
            · skip
              rw [nI_leI (by omega) (by omega)] at h75
              refine lv_iload (i := 4) hx hb dM_contradict_78 (sv_at hl rfl) ?_
              refine lv_iconst (v := nI 3) hx hb dM_contradict_80 (by decide) ?_
              refine lv_irem hx hb dM_contradict_81 (by decide) ?_
              refine lv_iload_n (i := 3) hx hb dM_contradict_82 rfl (sv_at hl rfl) ?_
              refine lv_iconst (v := nI 3) hx hb dM_contradict_83 (by decide) ?_
              refine lv_irem hx hb dM_contradict_84 (by decide) ?_
              refine lv_icmp_eq (tgt := 92) hx hb dM_contradict_85 rfl (fun h85 => ?_) (fun h85 => ?_)
              · skip
                rw [pk_rem (by omega) (by decide) (by decide), pk_rem (by omega) (by decide) (by decide), nI_eq (by omega) (by omega)] at h85
                refine lv_iconst (v := 0) hx hb dM_contradict_92 (by decide) ?_
                exact x_tv (by clear ret hl hx hb X hP; rcases Nat.lt_or_ge a 12 with q1 | q1 <;> rcases Nat.lt_or_ge b 12 with q2 | q2 <;> first | omega | (rw [sv_con_1 a ha b hb2 q1 q2]; first | rfl | omega) | (rw [sv_con_2 a ha b hb2 q1 q2]; first | (rw [decide_eq_true (by omega)]; rfl) | (rw [decide_eq_false (by omega)]; rfl)) | (rw [sv_con_3 a ha b hb2 q1 q2]; first | (rw [decide_eq_true (by omega), decide_eq_true (by omega)]; rfl) | (rw [decide_eq_false (show ¬ a - 12 < b by omega)]; rfl) | (rw [decide_eq_false (show ¬ b % 3 ≠ (a - 12) % 3 by omega), Bool.and_false]; rfl)) | (rw [sv_con_4 a ha b hb2 q1 q2]; first | (rw [decide_eq_true (by omega), decide_eq_true (by omega)]; rfl) | (rw [decide_eq_false (show ¬ b - 12 < a by omega)]; rfl) | (rw [decide_eq_false (show ¬ a % 3 ≠ (b - 12) % 3 by omega), Bool.and_false]; rfl))) (ret _ _ dM_contradict_93)
              · skip
                rw [pk_rem (by omega) (by decide) (by decide), pk_rem (by omega) (by decide) (by decide), nI_eq (by omega) (by omega)] at h85
                refine lv_iconst (v := 1) hx hb dM_contradict_88 (by decide) ?_
                refine lv_goto (tgt := 93) hx hb dM_contradict_89 rfl ?_
                exact x_tv (by clear ret hl hx hb X hP; rcases Nat.lt_or_ge a 12 with q1 | q1 <;> rcases Nat.lt_or_ge b 12 with q2 | q2 <;> first | omega | (rw [sv_con_1 a ha b hb2 q1 q2]; first | rfl | omega) | (rw [sv_con_2 a ha b hb2 q1 q2]; first | (rw [decide_eq_true (by omega)]; rfl) | (rw [decide_eq_false (by omega)]; rfl)) | (rw [sv_con_3 a ha b hb2 q1 q2]; first | (rw [decide_eq_true (by omega), decide_eq_true (by omega)]; rfl) | (rw [decide_eq_false (show ¬ a - 12 < b by omega)]; rfl) | (rw [decide_eq_false (show ¬ b % 3 ≠ (a - 12) % 3 by omega), Bool.and_false]; rfl)) | (rw [sv_con_4 a ha b hb2 q1 q2]; first | (rw [decide_eq_true (by omega), decide_eq_true (by omega)]; rfl) | (rw [decide_eq_false (show ¬ b - 12 < a by omega)]; rfl) | (rw [decide_eq_false (show ¬ a % 3 ≠ (b - 12) % 3 by omega), Bool.and_false]; rfl))) (ret _ _ dM_contradict_93)
          · skip
            rw [nI_ltI (by omega) (by omega)] at h62
            refine lv_iload_n (i := 2) hx hb dM_contradict_65 rfl (sv_at hl rfl) ?_
            refine lv_goto (tgt := 70) hx hb dM_contradict_66 rfl ?_
            refine lv_istore (i := 4) hx hb dM_contradict_70 hl (by decide) rfl (fun ls hl => ?_)
            refine lv_iload (i := 4) hx hb dM_contradict_72 (sv_at hl rfl) ?_
            refine lv_iload_n (i := 3) hx hb dM_contradict_74 rfl (sv_at hl rfl) ?_
            refine lv_icmp_le (tgt := 92) hx hb dM_contradict_75 rfl (fun h75 => ?_) (fun h75 => ?_)
            · skip
              rw [nI_leI (by omega) (by omega)] at h75
              refine lv_iconst (v := 0) hx hb dM_contradict_92 (by decide) ?_
              exact x_tv (by clear ret hl hx hb X hP; rcases Nat.lt_or_ge a 12 with q1 | q1 <;> rcases Nat.lt_or_ge b 12 with q2 | q2 <;> first | omega | (rw [sv_con_1 a ha b hb2 q1 q2]; first | rfl | omega) | (rw [sv_con_2 a ha b hb2 q1 q2]; first | (rw [decide_eq_true (by omega)]; rfl) | (rw [decide_eq_false (by omega)]; rfl)) | (rw [sv_con_3 a ha b hb2 q1 q2]; first | (rw [decide_eq_true (by omega), decide_eq_true (by omega)]; rfl) | (rw [decide_eq_false (show ¬ a - 12 < b by omega)]; rfl) | (rw [decide_eq_false (show ¬ b % 3 ≠ (a - 12) % 3 by omega), Bool.and_false]; rfl)) | (rw [sv_con_4 a ha b hb2 q1 q2]; first | (rw [decide_eq_true (by omega), decide_eq_true (by omega)]; rfl) | (rw [decide_eq_false (show ¬ b - 12 < a by omega)]; rfl) | (rw [decide_eq_false (show ¬ a % 3 ≠ (b - 12) % 3 by omega), Bool.and_false]; rfl))) (ret _ _ dM_contradict_93)
            · skip
              rw [nI_leI (by omega) (by omega)] at h75
              refine lv_iload (i := 4) hx hb dM_contradict_78 (sv_at hl rfl) ?_
              refine lv_iconst (v := nI 3) hx hb dM_contradict_80 (by decide) ?_
              refine lv_irem hx hb dM_contradict_81 (by decide) ?_
              refine lv_iload_n (i := 3) hx hb dM_contradict_82 rfl (sv_at hl rfl) ?_
              refine lv_iconst (v := nI 3) hx hb dM_contradict_83 (by decide) ?_
              refine lv_irem hx hb dM_contradict_84 (by decide) ?_
              refine lv_icmp_eq (tgt := 92) hx hb dM_contradict_85 rfl (fun h85 => ?_) (fun h85 => ?_)
              · skip
                rw [pk_rem (by omega) (by decide) (by decide), pk_rem (by omega) (by decide) (by decide), nI_eq (by omega) (by omega)] at h85
                refine lv_iconst (v := 0) hx hb dM_contradict_92 (by decide) ?_
                exact x_tv (by clear ret hl hx hb X hP; rcases Nat.lt_or_ge a 12 with q1 | q1 <;> rcases Nat.lt_or_ge b 12 with q2 | q2 <;> first | omega | (rw [sv_con_1 a ha b hb2 q1 q2]; first | rfl | omega) | (rw [sv_con_2 a ha b hb2 q1 q2]; first | (rw [decide_eq_true (by omega)]; rfl) | (rw [decide_eq_false (by omega)]; rfl)) | (rw [sv_con_3 a ha b hb2 q1 q2]; first | (rw [decide_eq_true (by omega), decide_eq_true (by omega)]; rfl) | (rw [decide_eq_false (show ¬ a - 12 < b by omega)]; rfl) | (rw [decide_eq_false (show ¬ b % 3 ≠ (a - 12) % 3 by omega), Bool.and_false]; rfl)) | (rw [sv_con_4 a ha b hb2 q1 q2]; first | (rw [decide_eq_true (by omega), decide_eq_true (by omega)]; rfl) | (rw [decide_eq_false (show ¬ b - 12 < a by omega)]; rfl) | (rw [decide_eq_false (show ¬ a % 3 ≠ (b - 12) % 3 by omega), Bool.and_false]; rfl))) (ret _ _ dM_contradict_93)
              · skip
                rw [pk_rem (by omega) (by decide) (by decide), pk_rem (by omega) (by decide) (by decide), nI_eq (by omega) (by omega)] at h85
                refine lv_iconst (v := 1) hx hb dM_contradict_88 (by decide) ?_
                refine lv_goto (tgt := 93) hx hb dM_contradict_89 rfl ?_
                exact x_tv (by clear ret hl hx hb X hP; rcases Nat.lt_or_ge a 12 with q1 | q1 <;> rcases Nat.lt_or_ge b 12 with q2 | q2 <;> first | omega | (rw [sv_con_1 a ha b hb2 q1 q2]; first | rfl | omega) | (rw [sv_con_2 a ha b hb2 q1 q2]; first | (rw [decide_eq_true (by omega)]; rfl) | (rw [decide_eq_false (by omega)]; rfl)) | (rw [sv_con_3 a ha b hb2 q1 q2]; first | (rw [decide_eq_true (by omega), decide_eq_true (by omega)]; rfl) | (rw [decide_eq_false (show ¬ a - 12 < b by omega)]; rfl) | (rw [decide_eq_false (show ¬ b % 3 ≠ (a - 12) % 3 by omega), Bool.and_false]; rfl)) | (rw [sv_con_4 a ha b hb2 q1 q2]; first | (rw [decide_eq_true (by omega), decide_eq_true (by omega)]; rfl) | (rw [decide_eq_false (show ¬ b - 12 < a by omega)]; rfl) | (rw [decide_eq_false (show ¬ a % 3 ≠ (b - 12) % 3 by omega), Bool.and_false]; rfl))) (ret _ _ dM_contradict_93)
      · skip
        rw [nI_ltI (by omega) (by omega)] at h23
        refine lv_iload_n (i := 1) hx hb dM_contradict_26 rfl (sv_at hl rfl) ?_
        refine lv_iconst (v := nI 3) hx hb dM_contradict_27 (by decide) ?_
        refine lv_irem hx hb dM_contradict_28 (by decide) ?_
        refine lv_iload_n (i := 2) hx hb dM_contradict_29 rfl (sv_at hl rfl) ?_
        refine lv_iconst (v := nI 3) hx hb dM_contradict_30 (by decide) ?_
        refine lv_irem hx hb dM_contradict_31 (by decide) ?_
        refine lv_icmp_eq (tgt := 39) hx hb dM_contradict_32 rfl (fun h32 => ?_) (fun h32 => ?_)
        · skip
          rw [pk_rem (by omega) (by decide) (by decide), pk_rem (by omega) (by decide) (by decide), nI_eq (by omega) (by omega)] at h32
          refine lv_iconst (v := 0) hx hb dM_contradict_39 (by decide) ?_
          exact x_tv (by clear ret hl hx hb X hP; rcases Nat.lt_or_ge a 12 with q1 | q1 <;> rcases Nat.lt_or_ge b 12 with q2 | q2 <;> first | omega | (rw [sv_con_1 a ha b hb2 q1 q2]; first | rfl | omega) | (rw [sv_con_2 a ha b hb2 q1 q2]; first | (rw [decide_eq_true (by omega)]; rfl) | (rw [decide_eq_false (by omega)]; rfl)) | (rw [sv_con_3 a ha b hb2 q1 q2]; first | (rw [decide_eq_true (by omega), decide_eq_true (by omega)]; rfl) | (rw [decide_eq_false (show ¬ a - 12 < b by omega)]; rfl) | (rw [decide_eq_false (show ¬ b % 3 ≠ (a - 12) % 3 by omega), Bool.and_false]; rfl)) | (rw [sv_con_4 a ha b hb2 q1 q2]; first | (rw [decide_eq_true (by omega), decide_eq_true (by omega)]; rfl) | (rw [decide_eq_false (show ¬ b - 12 < a by omega)]; rfl) | (rw [decide_eq_false (show ¬ a % 3 ≠ (b - 12) % 3 by omega), Bool.and_false]; rfl))) (ret _ _ dM_contradict_40)
        · skip
          rw [pk_rem (by omega) (by decide) (by decide), pk_rem (by omega) (by decide) (by decide), nI_eq (by omega) (by omega)] at h32
          refine lv_iconst (v := 1) hx hb dM_contradict_35 (by decide) ?_
          refine lv_goto (tgt := 40) hx hb dM_contradict_36 rfl ?_
          exact x_tv (by clear ret hl hx hb X hP; rcases Nat.lt_or_ge a 12 with q1 | q1 <;> rcases Nat.lt_or_ge b 12 with q2 | q2 <;> first | omega | (rw [sv_con_1 a ha b hb2 q1 q2]; first | rfl | omega) | (rw [sv_con_2 a ha b hb2 q1 q2]; first | (rw [decide_eq_true (by omega)]; rfl) | (rw [decide_eq_false (by omega)]; rfl)) | (rw [sv_con_3 a ha b hb2 q1 q2]; first | (rw [decide_eq_true (by omega), decide_eq_true (by omega)]; rfl) | (rw [decide_eq_false (show ¬ a - 12 < b by omega)]; rfl) | (rw [decide_eq_false (show ¬ b % 3 ≠ (a - 12) % 3 by omega), Bool.and_false]; rfl)) | (rw [sv_con_4 a ha b hb2 q1 q2]; first | (rw [decide_eq_true (by omega), decide_eq_true (by omega)]; rfl) | (rw [decide_eq_false (show ¬ b - 12 < a by omega)]; rfl) | (rw [decide_eq_false (show ¬ a % 3 ≠ (b - 12) % 3 by omega), Bool.and_false]; rfl))) (ret _ _ dM_contradict_40)
  · skip
    rw [nI_leI (by omega) (by omega)] at h3
    refine lv_iload_n (i := 2) hx hb dM_contradict_6 rfl (sv_at hl rfl) ?_
    refine lv_bipush (v := nI 12) hx hb dM_contradict_7 (by decide) ?_
    refine lv_icmp_ge (tgt := 14) hx hb dM_contradict_9 rfl (fun h9 => ?_) (fun h9 => ?_)
    · skip
      rw [nI_leI (by omega) (by omega)] at h9
      refine lv_iload_n (i := 1) hx hb dM_contradict_14 rfl (sv_at hl rfl) ?_
      refine lv_bipush (v := nI 12) hx hb dM_contradict_15 (by decide) ?_
      refine lv_icmp_lt (tgt := 41) hx hb dM_contradict_17 rfl (fun h17 => ?_) (fun h17 => ?_)
      · skip
        rw [nI_ltI (by omega) (by omega)] at h17
        refine lv_iload_n (i := 1) hx hb dM_contradict_41 rfl (sv_at hl rfl) ?_
        refine lv_bipush (v := nI 12) hx hb dM_contradict_42 (by decide) ?_
        refine lv_icmp_lt (tgt := 54) hx hb dM_contradict_44 rfl (fun h44 => ?_) (fun h44 => ?_)
        · skip
          rw [nI_ltI (by omega) (by omega)] at h44
          refine lv_iload_n (i := 2) hx hb dM_contradict_54 rfl (sv_at hl rfl) ?_
          refine lv_bipush (v := nI 12) hx hb dM_contradict_55 (by decide) ?_
          refine lv_isub hx hb dM_contradict_57 ?_
          first | refine x_tv (pk_sub (a := a) (b := 12) (by omega)) ?_ | refine x_tv (pk_sub (a := b) (b := 12) (by omega)) ?_
          refine lv_istore_n (i := 3) hx hb dM_contradict_58 rfl hl (by decide) rfl (fun ls hl => ?_)
          refine lv_iload_n (i := 1) hx hb dM_contradict_59 rfl (sv_at hl rfl) ?_
          refine lv_bipush (v := nI 12) hx hb dM_contradict_60 (by decide) ?_
          refine lv_icmp_lt (tgt := 69) hx hb dM_contradict_62 rfl (fun h62 => ?_) (fun h62 => ?_)
          · skip
            rw [nI_ltI (by omega) (by omega)] at h62
            refine lv_iload_n (i := 1) hx hb dM_contradict_69 rfl (sv_at hl rfl) ?_
            refine lv_istore (i := 4) hx hb dM_contradict_70 hl (by decide) rfl (fun ls hl => ?_)
            refine lv_iload (i := 4) hx hb dM_contradict_72 (sv_at hl rfl) ?_
            refine lv_iload_n (i := 3) hx hb dM_contradict_74 rfl (sv_at hl rfl) ?_
            refine lv_icmp_le (tgt := 92) hx hb dM_contradict_75 rfl (fun h75 => ?_) (fun h75 => ?_)
            · skip
              rw [nI_leI (by omega) (by omega)] at h75
              refine lv_iconst (v := 0) hx hb dM_contradict_92 (by decide) ?_
              exact x_tv (by clear ret hl hx hb X hP; rcases Nat.lt_or_ge a 12 with q1 | q1 <;> rcases Nat.lt_or_ge b 12 with q2 | q2 <;> first | omega | (rw [sv_con_1 a ha b hb2 q1 q2]; first | rfl | omega) | (rw [sv_con_2 a ha b hb2 q1 q2]; first | (rw [decide_eq_true (by omega)]; rfl) | (rw [decide_eq_false (by omega)]; rfl)) | (rw [sv_con_3 a ha b hb2 q1 q2]; first | (rw [decide_eq_true (by omega), decide_eq_true (by omega)]; rfl) | (rw [decide_eq_false (show ¬ a - 12 < b by omega)]; rfl) | (rw [decide_eq_false (show ¬ b % 3 ≠ (a - 12) % 3 by omega), Bool.and_false]; rfl)) | (rw [sv_con_4 a ha b hb2 q1 q2]; first | (rw [decide_eq_true (by omega), decide_eq_true (by omega)]; rfl) | (rw [decide_eq_false (show ¬ b - 12 < a by omega)]; rfl) | (rw [decide_eq_false (show ¬ a % 3 ≠ (b - 12) % 3 by omega), Bool.and_false]; rfl))) (ret _ _ dM_contradict_93)
            · skip
              rw [nI_leI (by omega) (by omega)] at h75
              refine lv_iload (i := 4) hx hb dM_contradict_78 (sv_at hl rfl) ?_
              refine lv_iconst (v := nI 3) hx hb dM_contradict_80 (by decide) ?_
              refine lv_irem hx hb dM_contradict_81 (by decide) ?_
              refine lv_iload_n (i := 3) hx hb dM_contradict_82 rfl (sv_at hl rfl) ?_
              refine lv_iconst (v := nI 3) hx hb dM_contradict_83 (by decide) ?_
              refine lv_irem hx hb dM_contradict_84 (by decide) ?_
              refine lv_icmp_eq (tgt := 92) hx hb dM_contradict_85 rfl (fun h85 => ?_) (fun h85 => ?_)
              · skip
                rw [pk_rem (by omega) (by decide) (by decide), pk_rem (by omega) (by decide) (by decide), nI_eq (by omega) (by omega)] at h85
                refine lv_iconst (v := 0) hx hb dM_contradict_92 (by decide) ?_
                exact x_tv (by clear ret hl hx hb X hP; rcases Nat.lt_or_ge a 12 with q1 | q1 <;> rcases Nat.lt_or_ge b 12 with q2 | q2 <;> first | omega | (rw [sv_con_1 a ha b hb2 q1 q2]; first | rfl | omega) | (rw [sv_con_2 a ha b hb2 q1 q2]; first | (rw [decide_eq_true (by omega)]; rfl) | (rw [decide_eq_false (by omega)]; rfl)) | (rw [sv_con_3 a ha b hb2 q1 q2]; first | (rw [decide_eq_true (by omega), decide_eq_true (by omega)]; rfl) | (rw [decide_eq_false (show ¬ a - 12 < b by omega)]; rfl) | (rw [decide_eq_false (show ¬ b % 3 ≠ (a - 12) % 3 by omega), Bool.and_false]; rfl)) | (rw [sv_con_4 a ha b hb2 q1 q2]; first | (rw [decide_eq_true (by omega), decide_eq_true (by omega)]; rfl) | (rw [decide_eq_false (show ¬ b - 12 < a by omega)]; rfl) | (rw [decide_eq_false (show ¬ a % 3 ≠ (b - 12) % 3 by omega), Bool.and_false]; rfl))) (ret _ _ dM_contradict_93)
              · skip
                rw [pk_rem (by omega) (by decide) (by decide), pk_rem (by omega) (by decide) (by decide), nI_eq (by omega) (by omega)] at h85
                refine lv_iconst (v := 1) hx hb dM_contradict_88 (by decide) ?_
                refine lv_goto (tgt := 93) hx hb dM_contradict_89 rfl ?_
                exact x_tv (by clear ret hl hx hb X hP; rcases Nat.lt_or_ge a 12 with q1 | q1 <;> rcases Nat.lt_or_ge b 12 with q2 | q2 <;> first | omega | (rw [sv_con_1 a ha b hb2 q1 q2]; first | rfl | omega) | (rw [sv_con_2 a ha b hb2 q1 q2]; first | (rw [decide_eq_true (by omega)]; rfl) | (rw [decide_eq_false (by omega)]; rfl)) | (rw [sv_con_3 a ha b hb2 q1 q2]; first | (rw [decide_eq_true (by omega), decide_eq_true (by omega)]; rfl) | (rw [decide_eq_false (show ¬ a - 12 < b by omega)]; rfl) | (rw [decide_eq_false (show ¬ b % 3 ≠ (a - 12) % 3 by omega), Bool.and_false]; rfl)) | (rw [sv_con_4 a ha b hb2 q1 q2]; first | (rw [decide_eq_true (by omega), decide_eq_true (by omega)]; rfl) | (rw [decide_eq_false (show ¬ b - 12 < a by omega)]; rfl) | (rw [decide_eq_false (show ¬ a % 3 ≠ (b - 12) % 3 by omega), Bool.and_false]; rfl))) (ret _ _ dM_contradict_93)
          · skip
            rw [nI_ltI (by omega) (by omega)] at h62
            refine lv_iload_n (i := 2) hx hb dM_contradict_65 rfl (sv_at hl rfl) ?_
            refine lv_goto (tgt := 70) hx hb dM_contradict_66 rfl ?_
            refine lv_istore (i := 4) hx hb dM_contradict_70 hl (by decide) rfl (fun ls hl => ?_)
            refine lv_iload (i := 4) hx hb dM_contradict_72 (sv_at hl rfl) ?_
            refine lv_iload_n (i := 3) hx hb dM_contradict_74 rfl (sv_at hl rfl) ?_
            refine lv_icmp_le (tgt := 92) hx hb dM_contradict_75 rfl (fun h75 => ?_) (fun h75 => ?_)
            · skip
              rw [nI_leI (by omega) (by omega)] at h75
              refine lv_iconst (v := 0) hx hb dM_contradict_92 (by decide) ?_
              exact x_tv (by clear ret hl hx hb X hP; rcases Nat.lt_or_ge a 12 with q1 | q1 <;> rcases Nat.lt_or_ge b 12 with q2 | q2 <;> first | omega | (rw [sv_con_1 a ha b hb2 q1 q2]; first | rfl | omega) | (rw [sv_con_2 a ha b hb2 q1 q2]; first | (rw [decide_eq_true (by omega)]; rfl) | (rw [decide_eq_false (by omega)]; rfl)) | (rw [sv_con_3 a ha b hb2 q1 q2]; first | (rw [decide_eq_true (by omega), decide_eq_true (by omega)]; rfl) | (rw [decide_eq_false (show ¬ a - 12 < b by omega)]; rfl) | (rw [decide_eq_false (show ¬ b % 3 ≠ (a - 12) % 3 by omega), Bool.and_false]; rfl)) | (rw [sv_con_4 a ha b hb2 q1 q2]; first | (rw [decide_eq_true (by omega), decide_eq_true (by omega)]; rfl) | (rw [decide_eq_false (show ¬ b - 12 < a by omega)]; rfl) | (rw [decide_eq_false (show ¬ a % 3 ≠ (b - 12) % 3 by omega), Bool.and_false]; rfl))) (ret _ _ dM_contradict_93)
            · skip
              rw [nI_leI (by omega) (by omega)] at h75
              refine lv_iload (i := 4) hx hb dM_contradict_78 (sv_at hl rfl) ?_
              refine lv_iconst (v := nI 3) hx hb dM_contradict_80 (by decide) ?_
              refine lv_irem hx hb dM_contradict_81 (by decide) ?_
              refine lv_iload_n (i := 3) hx hb dM_contradict_82 rfl (sv_at hl rfl) ?_
              refine lv_iconst (v := nI 3) hx hb dM_contradict_83 (by decide) ?_
              refine lv_irem hx hb dM_contradict_84 (by decide) ?_
              refine lv_icmp_eq (tgt := 92) hx hb dM_contradict_85 rfl (fun h85 => ?_) (fun h85 => ?_)
              · skip
                rw [pk_rem (by omega) (by decide) (by decide), pk_rem (by omega) (by decide) (by decide), nI_eq (by omega) (by omega)] at h85
                refine lv_iconst (v := 0) hx hb dM_contradict_92 (by decide) ?_
                exact x_tv (by clear ret hl hx hb X hP; rcases Nat.lt_or_ge a 12 with q1 | q1 <;> rcases Nat.lt_or_ge b 12 with q2 | q2 <;> first | omega | (rw [sv_con_1 a ha b hb2 q1 q2]; first | rfl | omega) | (rw [sv_con_2 a ha b hb2 q1 q2]; first | (rw [decide_eq_true (by omega)]; rfl) | (rw [decide_eq_false (by omega)]; rfl)) | (rw [sv_con_3 a ha b hb2 q1 q2]; first | (rw [decide_eq_true (by omega), decide_eq_true (by omega)]; rfl) | (rw [decide_eq_false (show ¬ a - 12 < b by omega)]; rfl) | (rw [decide_eq_false (show ¬ b % 3 ≠ (a - 12) % 3 by omega), Bool.and_false]; rfl)) | (rw [sv_con_4 a ha b hb2 q1 q2]; first | (rw [decide_eq_true (by omega), decide_eq_true (by omega)]; rfl) | (rw [decide_eq_false (show ¬ b - 12 < a by omega)]; rfl) | (rw [decide_eq_false (show ¬ a % 3 ≠ (b - 12) % 3 by omega), Bool.and_false]; rfl))) (ret _ _ dM_contradict_93)
              · skip
                rw [pk_rem (by omega) (by decide) (by decide), pk_rem (by omega) (by decide) (by decide), nI_eq (by omega) (by omega)] at h85
                refine lv_iconst (v := 1) hx hb dM_contradict_88 (by decide) ?_
                refine lv_goto (tgt := 93) hx hb dM_contradict_89 rfl ?_
                exact x_tv (by clear ret hl hx hb X hP; rcases Nat.lt_or_ge a 12 with q1 | q1 <;> rcases Nat.lt_or_ge b 12 with q2 | q2 <;> first | omega | (rw [sv_con_1 a ha b hb2 q1 q2]; first | rfl | omega) | (rw [sv_con_2 a ha b hb2 q1 q2]; first | (rw [decide_eq_true (by omega)]; rfl) | (rw [decide_eq_false (by omega)]; rfl)) | (rw [sv_con_3 a ha b hb2 q1 q2]; first | (rw [decide_eq_true (by omega), decide_eq_true (by omega)]; rfl) | (rw [decide_eq_false (show ¬ a - 12 < b by omega)]; rfl) | (rw [decide_eq_false (show ¬ b % 3 ≠ (a - 12) % 3 by omega), Bool.and_false]; rfl)) | (rw [sv_con_4 a ha b hb2 q1 q2]; first | (rw [decide_eq_true (by omega), decide_eq_true (by omega)]; rfl) | (rw [decide_eq_false (show ¬ b - 12 < a by omega)]; rfl) | (rw [decide_eq_false (show ¬ a % 3 ≠ (b - 12) % 3 by omega), Bool.and_false]; rfl))) (ret _ _ dM_contradict_93)
        · skip
          rw [nI_ltI (by omega) (by omega)] at h44
          refine lv_iload_n (i := 1) hx hb dM_contradict_47 rfl (sv_at hl rfl) ?_
          refine lv_bipush (v := nI 12) hx hb dM_contradict_48 (by decide) ?_
          refine lv_isub hx hb dM_contradict_50 ?_
          refine lv_goto (tgt := 58) hx hb dM_contradict_51 rfl ?_
          first | refine x_tv (pk_sub (a := a) (b := 12) (by omega)) ?_ | refine x_tv (pk_sub (a := b) (b := 12) (by omega)) ?_
          refine lv_istore_n (i := 3) hx hb dM_contradict_58 rfl hl (by decide) rfl (fun ls hl => ?_)
          refine lv_iload_n (i := 1) hx hb dM_contradict_59 rfl (sv_at hl rfl) ?_
          refine lv_bipush (v := nI 12) hx hb dM_contradict_60 (by decide) ?_
          refine lv_icmp_lt (tgt := 69) hx hb dM_contradict_62 rfl (fun h62 => ?_) (fun h62 => ?_)
          · skip
            rw [nI_ltI (by omega) (by omega)] at h62
            refine lv_iload_n (i := 1) hx hb dM_contradict_69 rfl (sv_at hl rfl) ?_
            refine lv_istore (i := 4) hx hb dM_contradict_70 hl (by decide) rfl (fun ls hl => ?_)
            refine lv_iload (i := 4) hx hb dM_contradict_72 (sv_at hl rfl) ?_
            refine lv_iload_n (i := 3) hx hb dM_contradict_74 rfl (sv_at hl rfl) ?_
            refine lv_icmp_le (tgt := 92) hx hb dM_contradict_75 rfl (fun h75 => ?_) (fun h75 => ?_)
            · skip
              rw [nI_leI (by omega) (by omega)] at h75
              refine lv_iconst (v := 0) hx hb dM_contradict_92 (by decide) ?_
              exact x_tv (by clear ret hl hx hb X hP; rcases Nat.lt_or_ge a 12 with q1 | q1 <;> rcases Nat.lt_or_ge b 12 with q2 | q2 <;> first | omega | (rw [sv_con_1 a ha b hb2 q1 q2]; first | rfl | omega) | (rw [sv_con_2 a ha b hb2 q1 q2]; first | (rw [decide_eq_true (by omega)]; rfl) | (rw [decide_eq_false (by omega)]; rfl)) | (rw [sv_con_3 a ha b hb2 q1 q2]; first | (rw [decide_eq_true (by omega), decide_eq_true (by omega)]; rfl) | (rw [decide_eq_false (show ¬ a - 12 < b by omega)]; rfl) | (rw [decide_eq_false (show ¬ b % 3 ≠ (a - 12) % 3 by omega), Bool.and_false]; rfl)) | (rw [sv_con_4 a ha b hb2 q1 q2]; first | (rw [decide_eq_true (by omega), decide_eq_true (by omega)]; rfl) | (rw [decide_eq_false (show ¬ b - 12 < a by omega)]; rfl) | (rw [decide_eq_false (show ¬ a % 3 ≠ (b - 12) % 3 by omega), Bool.and_false]; rfl))) (ret _ _ dM_contradict_93)
            · skip
              rw [nI_leI (by omega) (by omega)] at h75
              refine lv_iload (i := 4) hx hb dM_contradict_78 (sv_at hl rfl) ?_
              refine lv_iconst (v := nI 3) hx hb dM_contradict_80 (by decide) ?_
              refine lv_irem hx hb dM_contradict_81 (by decide) ?_
              refine lv_iload_n (i := 3) hx hb dM_contradict_82 rfl (sv_at hl rfl) ?_
              refine lv_iconst (v := nI 3) hx hb dM_contradict_83 (by decide) ?_
              refine lv_irem hx hb dM_contradict_84 (by decide) ?_
              refine lv_icmp_eq (tgt := 92) hx hb dM_contradict_85 rfl (fun h85 => ?_) (fun h85 => ?_)
              · skip
                rw [pk_rem (by omega) (by decide) (by decide), pk_rem (by omega) (by decide) (by decide), nI_eq (by omega) (by omega)] at h85
                refine lv_iconst (v := 0) hx hb dM_contradict_92 (by decide) ?_
                exact x_tv (by clear ret hl hx hb X hP; rcases Nat.lt_or_ge a 12 with q1 | q1 <;> rcases Nat.lt_or_ge b 12 with q2 | q2 <;> first | omega | (rw [sv_con_1 a ha b hb2 q1 q2]; first | rfl | omega) | (rw [sv_con_2 a ha b hb2 q1 q2]; first | (rw [decide_eq_true (by omega)]; rfl) | (rw [decide_eq_false (by omega)]; rfl)) | (rw [sv_con_3 a ha b hb2 q1 q2]; first | (rw [decide_eq_true (by omega), decide_eq_true (by omega)]; rfl) | (rw [decide_eq_false (show ¬ a - 12 < b by omega)]; rfl) | (rw [decide_eq_false (show ¬ b % 3 ≠ (a - 12) % 3 by omega), Bool.and_false]; rfl)) | (rw [sv_con_4 a ha b hb2 q1 q2]; first | (rw [decide_eq_true (by omega), decide_eq_true (by omega)]; rfl) | (rw [decide_eq_false (show ¬ b - 12 < a by omega)]; rfl) | (rw [decide_eq_false (show ¬ a % 3 ≠ (b - 12) % 3 by omega), Bool.and_false]; rfl))) (ret _ _ dM_contradict_93)
              · skip
                rw [pk_rem (by omega) (by decide) (by decide), pk_rem (by omega) (by decide) (by decide), nI_eq (by omega) (by omega)] at h85
                refine lv_iconst (v := 1) hx hb dM_contradict_88 (by decide) ?_
                refine lv_goto (tgt := 93) hx hb dM_contradict_89 rfl ?_
                exact x_tv (by clear ret hl hx hb X hP; rcases Nat.lt_or_ge a 12 with q1 | q1 <;> rcases Nat.lt_or_ge b 12 with q2 | q2 <;> first | omega | (rw [sv_con_1 a ha b hb2 q1 q2]; first | rfl | omega) | (rw [sv_con_2 a ha b hb2 q1 q2]; first | (rw [decide_eq_true (by omega)]; rfl) | (rw [decide_eq_false (by omega)]; rfl)) | (rw [sv_con_3 a ha b hb2 q1 q2]; first | (rw [decide_eq_true (by omega), decide_eq_true (by omega)]; rfl) | (rw [decide_eq_false (show ¬ a - 12 < b by omega)]; rfl) | (rw [decide_eq_false (show ¬ b % 3 ≠ (a - 12) % 3 by omega), Bool.and_false]; rfl)) | (rw [sv_con_4 a ha b hb2 q1 q2]; first | (rw [decide_eq_true (by omega), decide_eq_true (by omega)]; rfl) | (rw [decide_eq_false (show ¬ b - 12 < a by omega)]; rfl) | (rw [decide_eq_false (show ¬ a % 3 ≠ (b - 12) % 3 by omega), Bool.and_false]; rfl))) (ret _ _ dM_contradict_93)
          · skip
            rw [nI_ltI (by omega) (by omega)] at h62
            refine lv_iload_n (i := 2) hx hb dM_contradict_65 rfl (sv_at hl rfl) ?_
            refine lv_goto (tgt := 70) hx hb dM_contradict_66 rfl ?_
            refine lv_istore (i := 4) hx hb dM_contradict_70 hl (by decide) rfl (fun ls hl => ?_)
            refine lv_iload (i := 4) hx hb dM_contradict_72 (sv_at hl rfl) ?_
            refine lv_iload_n (i := 3) hx hb dM_contradict_74 rfl (sv_at hl rfl) ?_
            refine lv_icmp_le (tgt := 92) hx hb dM_contradict_75 rfl (fun h75 => ?_) (fun h75 => ?_)
            · skip
              rw [nI_leI (by omega) (by omega)] at h75
              refine lv_iconst (v := 0) hx hb dM_contradict_92 (by decide) ?_
              exact x_tv (by clear ret hl hx hb X hP; rcases Nat.lt_or_ge a 12 with q1 | q1 <;> rcases Nat.lt_or_ge b 12 with q2 | q2 <;> first | omega | (rw [sv_con_1 a ha b hb2 q1 q2]; first | rfl | omega) | (rw [sv_con_2 a ha b hb2 q1 q2]; first | (rw [decide_eq_true (by omega)]; rfl) | (rw [decide_eq_false (by omega)]; rfl)) | (rw [sv_con_3 a ha b hb2 q1 q2]; first | (rw [decide_eq_true (by omega), decide_eq_true (by omega)]; rfl) | (rw [decide_eq_false (show ¬ a - 12 < b by omega)]; rfl) | (rw [decide_eq_false (show ¬ b % 3 ≠ (a - 12) % 3 by omega), Bool.and_false]; rfl)) | (rw [sv_con_4 a ha b hb2 q1 q2]; first | (rw [decide_eq_true (by omega), decide_eq_true (by omega)]; rfl) | (rw [decide_eq_false (show ¬ b - 12 < a by omega)]; rfl) | (rw [decide_eq_false (show ¬ a % 3 ≠ (b - 12) % 3 by omega), Bool.and_false]; rfl))) (ret _ _ dM_contradict_93)
            · skip
              rw [nI_leI (by omega) (by omega)] at h75
              refine lv_iload (i := 4) hx hb dM_contradict_78 (sv_at hl rfl) ?_
              refine lv_iconst (v := nI 3) hx hb dM_contradict_80 (by decide) ?_
              refine lv_irem hx hb dM_contradict_81 (by decide) ?_
              refine lv_iload_n (i := 3) hx hb dM_contradict_82 rfl (sv_at hl rfl) ?_
              refine lv_iconst (v := nI 3) hx hb dM_contradict_83 (by decide) ?_
              refine lv_irem hx hb dM_contradict_84 (by decide) ?_
              refine lv_icmp_eq (tgt := 92) hx hb dM_contradict_85 rfl (fun h85 => ?_) (fun h85 => ?_)
              · skip
                rw [pk_rem (by omega) (by decide) (by decide), pk_rem (by omega) (by decide) (by decide), nI_eq (by omega) (by omega)] at h85
                refine lv_iconst (v := 0) hx hb dM_contradict_92 (by decide) ?_
                exact x_tv (by clear ret hl hx hb X hP; rcases Nat.lt_or_ge a 12 with q1 | q1 <;> rcases Nat.lt_or_ge b 12 with q2 | q2 <;> first | omega | (rw [sv_con_1 a ha b hb2 q1 q2]; first | rfl | omega) | (rw [sv_con_2 a ha b hb2 q1 q2]; first | (rw [decide_eq_true (by omega)]; rfl) | (rw [decide_eq_false (by omega)]; rfl)) | (rw [sv_con_3 a ha b hb2 q1 q2]; first | (rw [decide_eq_true (by omega), decide_eq_true (by omega)]; rfl) | (rw [decide_eq_false (show ¬ a - 12 < b by omega)]; rfl) | (rw [decide_eq_false (show ¬ b % 3 ≠ (a - 12) % 3 by omega), Bool.and_false]; rfl)) | (rw [sv_con_4 a ha b hb2 q1 q2]; first | (rw [decide_eq_true (by omega), decide_eq_true (by omega)]; rfl) | (rw [decide_eq_false (show ¬ b - 12 < a by omega)]; rfl) | (rw [decide_eq_false (show ¬ a % 3 ≠ (b - 12) % 3 by omega), Bool.and_false]; rfl))) (ret _ _ dM_contradict_93)
              · skip
                rw [pk_rem (by omega) (by decide) (by decide), pk_rem (by omega) (by decide) (by decide), nI_eq (by omega) (by omega)] at h85
                refine lv_iconst (v := 1) hx hb dM_contradict_88 (by decide) ?_
                refine lv_goto (tgt := 93) hx hb dM_contradict_89 rfl ?_
                exact x_tv (by clear ret hl hx hb X hP; rcases Nat.lt_or_ge a 12 with q1 | q1 <;> rcases Nat.lt_or_ge b 12 with q2 | q2 <;> first | omega | (rw [sv_con_1 a ha b hb2 q1 q2]; first | rfl | omega) | (rw [sv_con_2 a ha b hb2 q1 q2]; first | (rw [decide_eq_true (by omega)]; rfl) | (rw [decide_eq_false (by omega)]; rfl)) | (rw [sv_con_3 a ha b hb2 q1 q2]; first | (rw [decide_eq_true (by omega), decide_eq_true (by omega)]; rfl) | (rw [decide_eq_false (show ¬ a - 12 < b by omega)]; rfl) | (rw [decide_eq_false (show ¬ b % 3 ≠ (a - 12) % 3 by omega), Bool.and_false]; rfl)) | (rw [sv_con_4 a ha b hb2 q1 q2]; first | (rw [decide_eq_true (by omega), decide_eq_true (by omega)]; rfl) | (rw [decide_eq_false (show ¬ b - 12 < a by omega)]; rfl) | (rw [decide_eq_false (show ¬ a % 3 ≠ (b - 12) % 3 by omega), Bool.and_false]; rfl))) (ret _ _ dM_contradict_93)
      · skip
        rw [nI_ltI (by omega) (by omega)] at h17
        refine lv_iload_n (i := 2) hx hb dM_contradict_20 rfl (sv_at hl rfl) ?_
        refine lv_bipush (v := nI 12) hx hb dM_contradict_21 (by decide) ?_
        refine lv_icmp_lt (tgt := 41) hx hb dM_contradict_23 rfl (fun h23 => ?_) (fun h23 => ?_)
        · skip
          rw [nI_ltI (by omega) (by omega)] at h23
          refine lv_iload_n (i := 1) hx hb dM_contradict_41 rfl (sv_at hl rfl) ?_
          refine lv_bipush (v := nI 12) hx hb dM_contradict_42 (by decide) ?_
          refine lv_icmp_lt (tgt := 54) hx hb dM_contradict_44 rfl (fun h44 => ?_) (fun h44 => ?_)
          · skip
            rw [nI_ltI (by omega) (by omega)] at h44
            refine lv_iload_n (i := 2) hx hb dM_contradict_54 rfl (sv_at hl rfl) ?_
            refine lv_bipush (v := nI 12) hx hb dM_contradict_55 (by decide) ?_
            refine lv_isub hx hb dM_contradict_57 ?_
            first | refine x_tv (pk_sub (a := a) (b := 12) (by omega)) ?_ | refine x_tv (pk_sub (a := b) (b := 12) (by omega)) ?_
            refine lv_istore_n (i := 3) hx hb dM_contradict_58 rfl hl (by decide) rfl (fun ls hl => ?_)
            refine lv_iload_n (i := 1) hx hb dM_contradict_59 rfl (sv_at hl rfl) ?_
            refine lv_bipush (v := nI 12) hx hb dM_contradict_60 (by decide) ?_
            refine lv_icmp_lt (tgt := 69) hx hb dM_contradict_62 rfl (fun h62 => ?_) (fun h62 => ?_)
            · skip
              rw [nI_ltI (by omega) (by omega)] at h62
              refine lv_iload_n (i := 1) hx hb dM_contradict_69 rfl (sv_at hl rfl) ?_
              refine lv_istore (i := 4) hx hb dM_contradict_70 hl (by decide) rfl (fun ls hl => ?_)
              refine lv_iload (i := 4) hx hb dM_contradict_72 (sv_at hl rfl) ?_
              refine lv_iload_n (i := 3) hx hb dM_contradict_74 rfl (sv_at hl rfl) ?_
              refine lv_icmp_le (tgt := 92) hx hb dM_contradict_75 rfl (fun h75 => ?_) (fun h75 => ?_)
              · skip
                rw [nI_leI (by omega) (by omega)] at h75
                refine lv_iconst (v := 0) hx hb dM_contradict_92 (by decide) ?_
                exact x_tv (by clear ret hl hx hb X hP; rcases Nat.lt_or_ge a 12 with q1 | q1 <;> rcases Nat.lt_or_ge b 12 with q2 | q2 <;> first | omega | (rw [sv_con_1 a ha b hb2 q1 q2]; first | rfl | omega) | (rw [sv_con_2 a ha b hb2 q1 q2]; first | (rw [decide_eq_true (by omega)]; rfl) | (rw [decide_eq_false (by omega)]; rfl)) | (rw [sv_con_3 a ha b hb2 q1 q2]; first | (rw [decide_eq_true (by omega), decide_eq_true (by omega)]; rfl) | (rw [decide_eq_false (show ¬ a - 12 < b by omega)]; rfl) | (rw [decide_eq_false (show ¬ b % 3 ≠ (a - 12) % 3 by omega), Bool.and_false]; rfl)) | (rw [sv_con_4 a ha b hb2 q1 q2]; first | (rw [decide_eq_true (by omega), decide_eq_true (by omega)]; rfl) | (rw [decide_eq_false (show ¬ b - 12 < a by omega)]; rfl) | (rw [decide_eq_false (show ¬ a % 3 ≠ (b - 12) % 3 by omega), Bool.and_false]; rfl))) (ret _ _ dM_contradict_93)
              · skip
                rw [nI_leI (by omega) (by omega)] at h75
                refine lv_iload (i := 4) hx hb dM_contradict_78 (sv_at hl rfl) ?_
                refine lv_iconst (v := nI 3) hx hb dM_contradict_80 (by decide) ?_
                refine lv_irem hx hb dM_contradict_81 (by decide) ?_
                refine lv_iload_n (i := 3) hx hb dM_contradict_82 rfl (sv_at hl rfl) ?_
                refine lv_iconst (v := nI 3) hx hb dM_contradict_83 (by decide) ?_
                refine lv_irem hx hb dM_contradict_84 (by decide) ?_
                refine lv_icmp_eq (tgt := 92) hx hb dM_contradict_85 rfl (fun h85 => ?_) (fun h85 => ?_)
                · skip
                  rw [pk_rem (by omega) (by decide) (by decide), pk_rem (by omega) (by decide) (by decide), nI_eq (by omega) (by omega)] at h85
                  refine lv_iconst (v := 0) hx hb dM_contradict_92 (by decide) ?_
                  exact x_tv (by clear ret hl hx hb X hP; rcases Nat.lt_or_ge a 12 with q1 | q1 <;> rcases Nat.lt_or_ge b 12 with q2 | q2 <;> first | omega | (rw [sv_con_1 a ha b hb2 q1 q2]; first | rfl | omega) | (rw [sv_con_2 a ha b hb2 q1 q2]; first | (rw [decide_eq_true (by omega)]; rfl) | (rw [decide_eq_false (by omega)]; rfl)) | (rw [sv_con_3 a ha b hb2 q1 q2]; first | (rw [decide_eq_true (by omega), decide_eq_true (by omega)]; rfl) | (rw [decide_eq_false (show ¬ a - 12 < b by omega)]; rfl) | (rw [decide_eq_false (show ¬ b % 3 ≠ (a - 12) % 3 by omega), Bool.and_false]; rfl)) | (rw [sv_con_4 a ha b hb2 q1 q2]; first | (rw [decide_eq_true (by omega), decide_eq_true (by omega)]; rfl) | (rw [decide_eq_false (show ¬ b - 12 < a by omega)]; rfl) | (rw [decide_eq_false (show ¬ a % 3 ≠ (b - 12) % 3 by omega), Bool.and_false]; rfl))) (ret _ _ dM_contradict_93)
                · skip
                  rw [pk_rem (by omega) (by decide) (by decide), pk_rem (by omega) (by decide) (by decide), nI_eq (by omega) (by omega)] at h85
                  refine lv_iconst (v := 1) hx hb dM_contradict_88 (by decide) ?_
                  refine lv_goto (tgt := 93) hx hb dM_contradict_89 rfl ?_
                  exact x_tv (by clear ret hl hx hb X hP; rcases Nat.lt_or_ge a 12 with q1 | q1 <;> rcases Nat.lt_or_ge b 12 with q2 | q2 <;> first | omega | (rw [sv_con_1 a ha b hb2 q1 q2]; first | rfl | omega) | (rw [sv_con_2 a ha b hb2 q1 q2]; first | (rw [decide_eq_true (by omega)]; rfl) | (rw [decide_eq_false (by omega)]; rfl)) | (rw [sv_con_3 a ha b hb2 q1 q2]; first | (rw [decide_eq_true (by omega), decide_eq_true (by omega)]; rfl) | (rw [decide_eq_false (show ¬ a - 12 < b by omega)]; rfl) | (rw [decide_eq_false (show ¬ b % 3 ≠ (a - 12) % 3 by omega), Bool.and_false]; rfl)) | (rw [sv_con_4 a ha b hb2 q1 q2]; first | (rw [decide_eq_true (by omega), decide_eq_true (by omega)]; rfl) | (rw [decide_eq_false (show ¬ b - 12 < a by omega)]; rfl) | (rw [decide_eq_false (show ¬ a % 3 ≠ (b - 12) % 3 by omega), Bool.and_false]; rfl))) (ret _ _ dM_contradict_93)
            · skip
              rw [nI_ltI (by omega) (by omega)] at h62
              refine lv_iload_n (i := 2) hx hb dM_contradict_65 rfl (sv_at hl rfl) ?_
              refine lv_goto (tgt := 70) hx hb dM_contradict_66 rfl ?_
              refine lv_istore (i := 4) hx hb dM_contradict_70 hl (by decide) rfl (fun ls hl => ?_)
              refine lv_iload (i := 4) hx hb dM_contradict_72 (sv_at hl rfl) ?_
              refine lv_iload_n (i := 3) hx hb dM_contradict_74 rfl (sv_at hl rfl) ?_
              refine lv_icmp_le (tgt := 92) hx hb dM_contradict_75 rfl (fun h75 => ?_) (fun h75 => ?_)
              · skip
                rw [nI_leI (by omega) (by omega)] at h75
                refine lv_iconst (v := 0) hx hb dM_contradict_92 (by decide) ?_
                exact x_tv (by clear ret hl hx hb X hP; rcases Nat.lt_or_ge a 12 with q1 | q1 <;> rcases Nat.lt_or_ge b 12 with q2 | q2 <;> first | omega | (rw [sv_con_1 a ha b hb2 q1 q2]; first | rfl | omega) | (rw [sv_con_2 a ha b hb2 q1 q2]; first | (rw [decide_eq_true (by omega)]; rfl) | (rw [decide_eq_false (by omega)]; rfl)) | (rw [sv_con_3 a ha b hb2 q1 q2]; first | (rw [decide_eq_true (by omega), decide_eq_true (by omega)]; rfl) | (rw [decide_eq_false (show ¬ a - 12 < b by omega)]; rfl) | (rw [decide_eq_false (show ¬ b % 3 ≠ (a - 12) % 3 by omega), Bool.and_false]; rfl)) | (rw [sv_con_4 a ha b hb2 q1 q2]; first | (rw [decide_eq_true (by omega), decide_eq_true (by omega)]; rfl) | (rw [decide_eq_false (show ¬ b - 12 < a by omega)]; rfl) | (rw [decide_eq_false (show ¬ a % 3 ≠ (b - 12) % 3 by omega), Bool.and_false]; rfl))) (ret _ _ dM_contradict_93)
              · skip
                rw [nI_leI (by omega) (by omega)] at h75
                refine lv_iload (i := 4) hx hb dM_contradict_78 (sv_at hl rfl) ?_
                refine lv_iconst (v := nI 3) hx hb dM_contradict_80 (by decide) ?_
                refine lv_irem hx hb dM_contradict_81 (by decide) ?_
                refine lv_iload_n (i := 3) hx hb dM_contradict_82 rfl (sv_at hl rfl) ?_
                refine lv_iconst (v := nI 3) hx hb dM_contradict_83 (by decide) ?_
                refine lv_irem hx hb dM_contradict_84 (by decide) ?_
                refine lv_icmp_eq (tgt := 92) hx hb dM_contradict_85 rfl (fun h85 => ?_) (fun h85 => ?_)
                · skip
                  rw [pk_rem (by omega) (by decide) (by decide), pk_rem (by omega) (by decide) (by decide), nI_eq (by omega) (by omega)] at h85
                  refine lv_iconst (v := 0) hx hb dM_contradict_92 (by decide) ?_
                  exact x_tv (by clear ret hl hx hb X hP; rcases Nat.lt_or_ge a 12 with q1 | q1 <;> rcases Nat.lt_or_ge b 12 with q2 | q2 <;> first | omega | (rw [sv_con_1 a ha b hb2 q1 q2]; first | rfl | omega) | (rw [sv_con_2 a ha b hb2 q1 q2]; first | (rw [decide_eq_true (by omega)]; rfl) | (rw [decide_eq_false (by omega)]; rfl)) | (rw [sv_con_3 a ha b hb2 q1 q2]; first | (rw [decide_eq_true (by omega), decide_eq_true (by omega)]; rfl) | (rw [decide_eq_false (show ¬ a - 12 < b by omega)]; rfl) | (rw [decide_eq_false (show ¬ b % 3 ≠ (a - 12) % 3 by omega), Bool.and_false]; rfl)) | (rw [sv_con_4 a ha b hb2 q1 q2]; first | (rw [decide_eq_true (by omega), decide_eq_true (by omega)]; rfl) | (rw [decide_eq_false (show ¬ b - 12 < a by omega)]; rfl) | (rw [decide_eq_false (show ¬ a % 3 ≠ (b - 12) % 3 by omega), Bool.and_false]; rfl))) (ret _ _ dM_contradict_93)
                · skip
                  rw [pk_rem (by omega) (by decide) (by decide), pk_rem (by omega) (by decide) (by decide), nI_eq (by omega) (by omega)] at h85
                  refine lv_iconst (v := 1) hx hb dM_contradict_88 (by decide) ?_
                  refine lv_goto (tgt := 93) hx hb dM_contradict_89 rfl ?_
                  exact x_tv (by clear ret hl hx hb X hP; rcases Nat.lt_or_ge a 12 with q1 | q1 <;> rcases Nat.lt_or_ge b 12 with q2 | q2 <;> first | omega | (rw [sv_con_1 a ha b hb2 q1 q2]; first | rfl | omega) | (rw [sv_con_2 a ha b hb2 q1 q2]; first | (rw [decide_eq_true (by omega)]; rfl) | (rw [decide_eq_false (by omega)]; rfl)) | (rw [sv_con_3 a ha b hb2 q1 q2]; first | (rw [decide_eq_true (by omega), decide_eq_true (by omega)]; rfl) | (rw [decide_eq_false (show ¬ a - 12 < b by omega)]; rfl) | (rw [decide_eq_false (show ¬ b % 3 ≠ (a - 12) % 3 by omega), Bool.and_false]; rfl)) | (rw [sv_con_4 a ha b hb2 q1 q2]; first | (rw [decide_eq_true (by omega), decide_eq_true (by omega)]; rfl) | (rw [decide_eq_false (show ¬ b - 12 < a by omega)]; rfl) | (rw [decide_eq_false (show ¬ a % 3 ≠ (b - 12) % 3 by omega), Bool.and_false]; rfl))) (ret _ _ dM_contradict_93)
          · skip
            rw [nI_ltI (by omega) (by omega)] at h44
            refine lv_iload_n (i := 1) hx hb dM_contradict_47 rfl (sv_at hl rfl) ?_
            refine lv_bipush (v := nI 12) hx hb dM_contradict_48 (by decide) ?_
            refine lv_isub hx hb dM_contradict_50 ?_
            refine lv_goto (tgt := 58) hx hb dM_contradict_51 rfl ?_
            first | refine x_tv (pk_sub (a := a) (b := 12) (by omega)) ?_ | refine x_tv (pk_sub (a := b) (b := 12) (by omega)) ?_
            refine lv_istore_n (i := 3) hx hb dM_contradict_58 rfl hl (by decide) rfl (fun ls hl => ?_)
            refine lv_iload_n (i := 1) hx hb dM_contradict_59 rfl (sv_at hl rfl) ?_
            refine lv_bipush (v := nI 12) hx hb dM_contradict_60 (by decide) ?_
            refine lv_icmp_lt (tgt := 69) hx hb dM_contradict_62 rfl (fun h62 => ?_) (fun h62 => ?_)
            · skip
              rw [nI_ltI (by omega) (by omega)] at h62
              refine lv_iload_n (i := 1) hx hb dM_contradict_69 rfl (sv_at hl rfl) ?_
              refine lv_istore (i := 4) hx hb dM_contradict_70 hl (by decide) rfl (fun ls hl => ?_)
              refine lv_iload (i := 4) hx hb dM_contradict_72 (sv_at hl rfl) ?_
              refine lv_iload_n (i := 3) hx hb dM_contradict_74 rfl (sv_at hl rfl) ?_
              refine lv_icmp_le (tgt := 92) hx hb dM_contradict_75 rfl (fun h75 => ?_) (fun h75 => ?_)
              · skip
                rw [nI_leI (by omega) (by omega)] at h75
                refine lv_iconst (v := 0) hx hb dM_contradict_92 (by decide) ?_
                exact x_tv (by clear ret hl hx hb X hP; rcases Nat.lt_or_ge a 12 with q1 | q1 <;> rcases Nat.lt_or_ge b 12 with q2 | q2 <;> first | omega | (rw [sv_con_1 a ha b hb2 q1 q2]; first | rfl | omega) | (rw [sv_con_2 a ha b hb2 q1 q2]; first | (rw [decide_eq_true (by omega)]; rfl) | (rw [decide_eq_false (by omega)]; rfl)) | (rw [sv_con_3 a ha b hb2 q1 q2]; first | (rw [decide_eq_true (by omega), decide_eq_true (by omega)]; rfl) | (rw [decide_eq_false (show ¬ a - 12 < b by omega)]; rfl) | (rw [decide_eq_false (show ¬ b % 3 ≠ (a - 12) % 3 by omega), Bool.and_false]; rfl)) | (rw [sv_con_4 a ha b hb2 q1 q2]; first | (rw [decide_eq_true (by omega), decide_eq_true (by omega)]; rfl) | (rw [decide_eq_false (show ¬ b - 12 < a by omega)]; rfl) | (rw [decide_eq_false (show ¬ a % 3 ≠ (b - 12) % 3 by omega), Bool.and_false]; rfl))) (ret _ _ dM_contradict_93)
              · skip
                rw [nI_leI (by omega) (by omega)] at h75
                refine lv_iload (i := 4) hx hb dM_contradict_78 (sv_at hl rfl) ?_
                refine lv_iconst (v := nI 3) hx hb dM_contradict_80 (by decide) ?_
                refine lv_irem hx hb dM_contradict_81 (by decide) ?_
                refine lv_iload_n (i := 3) hx hb dM_contradict_82 rfl (sv_at hl rfl) ?_
                refine lv_iconst (v := nI 3) hx hb dM_contradict_83 (by decide) ?_
                refine lv_irem hx hb dM_contradict_84 (by decide) ?_
                refine lv_icmp_eq (tgt := 92) hx hb dM_contradict_85 rfl (fun h85 => ?_) (fun h85 => ?_)
                · skip
                  rw [pk_rem (by omega) (by decide) (by decide), pk_rem (by omega) (by decide) (by decide), nI_eq (by omega) (by omega)] at h85
                  refine lv_iconst (v := 0) hx hb dM_contradict_92 (by decide) ?_
                  exact x_tv (by clear ret hl hx hb X hP; rcases Nat.lt_or_ge a 12 with q1 | q1 <;> rcases Nat.lt_or_ge b 12 with q2 | q2 <;> first | omega | (rw [sv_con_1 a ha b hb2 q1 q2]; first | rfl | omega) | (rw [sv_con_2 a ha b hb2 q1 q2]; first | (rw [decide_eq_true (by omega)]; rfl) | (rw [decide_eq_false (by omega)]; rfl)) | (rw [sv_con_3 a ha b hb2 q1 q2]; first | (rw [decide_eq_true (by omega), decide_eq_true (by omega)]; rfl) | (rw [decide_eq_false (show ¬ a - 12 < b by omega)]; rfl) | (rw [decide_eq_false (show ¬ b % 3 ≠ (a - 12) % 3 by omega), Bool.and_false]; rfl)) | (rw [sv_con_4 a ha b hb2 q1 q2]; first | (rw [decide_eq_true (by omega), decide_eq_true (by omega)]; rfl) | (rw [decide_eq_false (show ¬ b - 12 < a by omega)]; rfl) | (rw [decide_eq_false (show ¬ a % 3 ≠ (b - 12) % 3 by omega), Bool.and_false]; rfl))) (ret _ _ dM_contradict_93)
                · skip
                  rw [pk_rem (by omega) (by decide) (by decide), pk_rem (by omega) (by decide) (by decide), nI_eq (by omega) (by omega)] at h85
                  refine lv_iconst (v := 1) hx hb dM_contradict_88 (by decide) ?_
                  refine lv_goto (tgt := 93) hx hb dM_contradict_89 rfl ?_
                  exact x_tv (by clear ret hl hx hb X hP; rcases Nat.lt_or_ge a 12 with q1 | q1 <;> rcases Nat.lt_or_ge b 12 with q2 | q2 <;> first | omega | (rw [sv_con_1 a ha b hb2 q1 q2]; first | rfl | omega) | (rw [sv_con_2 a ha b hb2 q1 q2]; first | (rw [decide_eq_true (by omega)]; rfl) | (rw [decide_eq_false (by omega)]; rfl)) | (rw [sv_con_3 a ha b hb2 q1 q2]; first | (rw [decide_eq_true (by omega), decide_eq_true (by omega)]; rfl) | (rw [decide_eq_false (show ¬ a - 12 < b by omega)]; rfl) | (rw [decide_eq_false (show ¬ b % 3 ≠ (a - 12) % 3 by omega), Bool.and_false]; rfl)) | (rw [sv_con_4 a ha b hb2 q1 q2]; first | (rw [decide_eq_true (by omega), decide_eq_true (by omega)]; rfl) | (rw [decide_eq_false (show ¬ b - 12 < a by omega)]; rfl) | (rw [decide_eq_false (show ¬ a % 3 ≠ (b - 12) % 3 by omega), Bool.and_false]; rfl))) (ret _ _ dM_contradict_93)
            · skip
              rw [nI_ltI (by omega) (by omega)] at h62
              refine lv_iload_n (i := 2) hx hb dM_contradict_65 rfl (sv_at hl rfl) ?_
              refine lv_goto (tgt := 70) hx hb dM_contradict_66 rfl ?_
              refine lv_istore (i := 4) hx hb dM_contradict_70 hl (by decide) rfl (fun ls hl => ?_)
              refine lv_iload (i := 4) hx hb dM_contradict_72 (sv_at hl rfl) ?_
              refine lv_iload_n (i := 3) hx hb dM_contradict_74 rfl (sv_at hl rfl) ?_
              refine lv_icmp_le (tgt := 92) hx hb dM_contradict_75 rfl (fun h75 => ?_) (fun h75 => ?_)
              · skip
                rw [nI_leI (by omega) (by omega)] at h75
                refine lv_iconst (v := 0) hx hb dM_contradict_92 (by decide) ?_
                exact x_tv (by clear ret hl hx hb X hP; rcases Nat.lt_or_ge a 12 with q1 | q1 <;> rcases Nat.lt_or_ge b 12 with q2 | q2 <;> first | omega | (rw [sv_con_1 a ha b hb2 q1 q2]; first | rfl | omega) | (rw [sv_con_2 a ha b hb2 q1 q2]; first | (rw [decide_eq_true (by omega)]; rfl) | (rw [decide_eq_false (by omega)]; rfl)) | (rw [sv_con_3 a ha b hb2 q1 q2]; first | (rw [decide_eq_true (by omega), decide_eq_true (by omega)]; rfl) | (rw [decide_eq_false (show ¬ a - 12 < b by omega)]; rfl) | (rw [decide_eq_false (show ¬ b % 3 ≠ (a - 12) % 3 by omega), Bool.and_false]; rfl)) | (rw [sv_con_4 a ha b hb2 q1 q2]; first | (rw [decide_eq_true (by omega), decide_eq_true (by omega)]; rfl) | (rw [decide_eq_false (show ¬ b - 12 < a by omega)]; rfl) | (rw [decide_eq_false (show ¬ a % 3 ≠ (b - 12) % 3 by omega), Bool.and_false]; rfl))) (ret _ _ dM_contradict_93)
              · skip
                rw [nI_leI (by omega) (by omega)] at h75
                refine lv_iload (i := 4) hx hb dM_contradict_78 (sv_at hl rfl) ?_
                refine lv_iconst (v := nI 3) hx hb dM_contradict_80 (by decide) ?_
                refine lv_irem hx hb dM_contradict_81 (by decide) ?_
                refine lv_iload_n (i := 3) hx hb dM_contradict_82 rfl (sv_at hl rfl) ?_
                refine lv_iconst (v := nI 3) hx hb dM_contradict_83 (by decide) ?_
                refine lv_irem hx hb dM_contradict_84 (by decide) ?_
                refine lv_icmp_eq (tgt := 92) hx hb dM_contradict_85 rfl (fun h85 => ?_) (fun h85 => ?_)
                · skip
                  rw [pk_rem (by omega) (by decide) (by decide), pk_rem (by omega) (by decide) (by decide), nI_eq (by omega) (by omega)] at h85
                  refine lv_iconst (v := 0) hx hb dM_contradict_92 (by decide) ?_
                  exact x_tv (by clear ret hl hx hb X hP; rcases Nat.lt_or_ge a 12 with q1 | q1 <;> rcases Nat.lt_or_ge b 12 with q2 | q2 <;> first | omega | (rw [sv_con_1 a ha b hb2 q1 q2]; first | rfl | omega) | (rw [sv_con_2 a ha b hb2 q1 q2]; first | (rw [decide_eq_true (by omega)]; rfl) | (rw [decide_eq_false (by omega)]; rfl)) | (rw [sv_con_3 a ha b hb2 q1 q2]; first | (rw [decide_eq_true (by omega), decide_eq_true (by omega)]; rfl) | (rw [decide_eq_false (show ¬ a - 12 < b by omega)]; rfl) | (rw [decide_eq_false (show ¬ b % 3 ≠ (a - 12) % 3 by omega), Bool.and_false]; rfl)) | (rw [sv_con_4 a ha b hb2 q1 q2]; first | (rw [decide_eq_true (by omega), decide_eq_true (by omega)]; rfl) | (rw [decide_eq_false (show ¬ b - 12 < a by omega)]; rfl) | (rw [decide_eq_false (show ¬ a % 3 ≠ (b - 12) % 3 by omega), Bool.and_false]; rfl))) (ret _ _ dM_contradict_93)
                · skip
                  rw [pk_rem (by omega) (by decide) (by decide), pk_rem (by omega) (by decide) (by decide), nI_eq (by omega) (by omega)] at h85
                  refine lv_iconst (v := 1) hx hb dM_contradict_88 (by decide) ?_
                  refine lv_goto (tgt := 93) hx hb dM_contradict_89 rfl ?_
                  exact x_tv (by clear ret hl hx hb X hP; rcases Nat.lt_or_ge a 12 with q1 | q1 <;> rcases Nat.lt_or_ge b 12 with q2 | q2 <;> first | omega | (rw [sv_con_1 a ha b hb2 q1 q2]; first | rfl | omega) | (rw [sv_con_2 a ha b hb2 q1 q2]; first | (rw [decide_eq_true (by omega)]; rfl) | (rw [decide_eq_false (by omega)]; rfl)) | (rw [sv_con_3 a ha b hb2 q1 q2]; first | (rw [decide_eq_true (by omega), decide_eq_true (by omega)]; rfl) | (rw [decide_eq_false (show ¬ a - 12 < b by omega)]; rfl) | (rw [decide_eq_false (show ¬ b % 3 ≠ (a - 12) % 3 by omega), Bool.and_false]; rfl)) | (rw [sv_con_4 a ha b hb2 q1 q2]; first | (rw [decide_eq_true (by omega), decide_eq_true (by omega)]; rfl) | (rw [decide_eq_false (show ¬ b - 12 < a by omega)]; rfl) | (rw [decide_eq_false (show ¬ a % 3 ≠ (b - 12) % 3 by omega), Bool.and_false]; rfl))) (ret _ _ dM_contradict_93)
        · skip
          rw [nI_ltI (by omega) (by omega)] at h23
          refine lv_iload_n (i := 1) hx hb dM_contradict_26 rfl (sv_at hl rfl) ?_
          refine lv_iconst (v := nI 3) hx hb dM_contradict_27 (by decide) ?_
          refine lv_irem hx hb dM_contradict_28 (by decide) ?_
          refine lv_iload_n (i := 2) hx hb dM_contradict_29 rfl (sv_at hl rfl) ?_
          refine lv_iconst (v := nI 3) hx hb dM_contradict_30 (by decide) ?_
          refine lv_irem hx hb dM_contradict_31 (by decide) ?_
          refine lv_icmp_eq (tgt := 39) hx hb dM_contradict_32 rfl (fun h32 => ?_) (fun h32 => ?_)
          · skip
            rw [pk_rem (by omega) (by decide) (by decide), pk_rem (by omega) (by decide) (by decide), nI_eq (by omega) (by omega)] at h32
            refine lv_iconst (v := 0) hx hb dM_contradict_39 (by decide) ?_
            exact x_tv (by clear ret hl hx hb X hP; rcases Nat.lt_or_ge a 12 with q1 | q1 <;> rcases Nat.lt_or_ge b 12 with q2 | q2 <;> first | omega | (rw [sv_con_1 a ha b hb2 q1 q2]; first | rfl | omega) | (rw [sv_con_2 a ha b hb2 q1 q2]; first | (rw [decide_eq_true (by omega)]; rfl) | (rw [decide_eq_false (by omega)]; rfl)) | (rw [sv_con_3 a ha b hb2 q1 q2]; first | (rw [decide_eq_true (by omega), decide_eq_true (by omega)]; rfl) | (rw [decide_eq_false (show ¬ a - 12 < b by omega)]; rfl) | (rw [decide_eq_false (show ¬ b % 3 ≠ (a - 12) % 3 by omega), Bool.and_false]; rfl)) | (rw [sv_con_4 a ha b hb2 q1 q2]; first | (rw [decide_eq_true (by omega), decide_eq_true (by omega)]; rfl) | (rw [decide_eq_false (show ¬ b - 12 < a by omega)]; rfl) | (rw [decide_eq_false (show ¬ a % 3 ≠ (b - 12) % 3 by omega), Bool.and_false]; rfl))) (ret _ _ dM_contradict_40)
          · skip
            rw [pk_rem (by omega) (by decide) (by decide), pk_rem (by omega) (by decide) (by decide), nI_eq (by omega) (by omega)] at h32
            refine lv_iconst (v := 1) hx hb dM_contradict_35 (by decide) ?_
            refine lv_goto (tgt := 40) hx hb dM_contradict_36 rfl ?_
            exact x_tv (by clear ret hl hx hb X hP; rcases Nat.lt_or_ge a 12 with q1 | q1 <;> rcases Nat.lt_or_ge b 12 with q2 | q2 <;> first | omega | (rw [sv_con_1 a ha b hb2 q1 q2]; first | rfl | omega) | (rw [sv_con_2 a ha b hb2 q1 q2]; first | (rw [decide_eq_true (by omega)]; rfl) | (rw [decide_eq_false (by omega)]; rfl)) | (rw [sv_con_3 a ha b hb2 q1 q2]; first | (rw [decide_eq_true (by omega), decide_eq_true (by omega)]; rfl) | (rw [decide_eq_false (show ¬ a - 12 < b by omega)]; rfl) | (rw [decide_eq_false (show ¬ b % 3 ≠ (a - 12) % 3 by omega), Bool.and_false]; rfl)) | (rw [sv_con_4 a ha b hb2 q1 q2]; first | (rw [decide_eq_true (by omega), decide_eq_true (by omega)]; rfl) | (rw [decide_eq_false (show ¬ b - 12 < a by omega)]; rfl) | (rw [decide_eq_false (show ¬ a % 3 ≠ (b - 12) % 3 by omega), Bool.and_false]; rfl))) (ret _ _ dM_contradict_40)
    · skip
      rw [nI_leI (by omega) (by omega)] at h9
      refine lv_iconst (v := 0) hx hb dM_contradict_12 (by decide) ?_
      exact x_tv (by clear ret hl hx hb X hP; rcases Nat.lt_or_ge a 12 with q1 | q1 <;> rcases Nat.lt_or_ge b 12 with q2 | q2 <;> first | omega | (rw [sv_con_1 a ha b hb2 q1 q2]; first | rfl | omega) | (rw [sv_con_2 a ha b hb2 q1 q2]; first | (rw [decide_eq_true (by omega)]; rfl) | (rw [decide_eq_false (by omega)]; rfl)) | (rw [sv_con_3 a ha b hb2 q1 q2]; first | (rw [decide_eq_true (by omega), decide_eq_true (by omega)]; rfl) | (rw [decide_eq_false (show ¬ a - 12 < b by omega)]; rfl) | (rw [decide_eq_false (show ¬ b % 3 ≠ (a - 12) % 3 by omega), Bool.and_false]; rfl)) | (rw [sv_con_4 a ha b hb2 q1 q2]; first | (rw [decide_eq_true (by omega), decide_eq_true (by omega)]; rfl) | (rw [decide_eq_false (show ¬ b - 12 < a by omega)]; rfl) | (rw [decide_eq_false (show ¬ a % 3 ≠ (b - 12) % 3 by omega), Bool.and_false]; rfl))) (ret _ _ dM_contradict_13)

theorem cM_m_contradict {a b : Nat} (ha : a < 24) (hb2 : b < 24) : Met l yM_contradict (sv_ws yM_contradict cM_contradict 5 (some .boolean)) (sv_rm 1) (sv_Pc D cI cZ cN cQ [.ref (ad 0), .int (nI a), .int (nI b)] (fun H => sv_mP D cI cZ n qc ad σ mt qm H)) (vp_Si (fun zz => zz = sv_b (sv_con a b))) 0 0 (fun _ => False) :=
  sv_mkR (by decide) (by show 3 ≤ 5; decide) (sv_narb _) (fun p e s m below meth c ls Q X hP hl ret => wM_contradict X hP ha hb2 hl ret)
theorem okM_M_contradict : sv_okV "SliceVotingModel" 98 yM_contradict cM_contradict 5 (some .boolean) 2 := ⟨sv_tb_t 447 rfl rfl, sv_tb_t 444 rfl rfl, sv_tb_t 446 rfl rfl, sv_tb_s 27 rfl rfl, sv_tb_t 4 rfl rfl, ⟨by decide, by decide, by decide +kernel⟩, by decide⟩
theorem kM_contradict (X : sv_X D cI cZ cN cQ "SliceVotingModel" cc nL k p R s m args c) (hk : 1 + 1 ≤ k) (hP : sv_mP D cI cZ n qc ad σ mt qm H) {a b : Nat} (ha : a < 24) (hb2 : b < 24) (hl : lv_has ls nL lv) (hc : cells ≤ R.cells) (hs : slots ≤ R.slots) (hcat : (rest.map fun v => v.category).sum ≤ 8) (hd : decode cc pc = .ok (.invokevirtual 98, 3)) (kk : W p l e R s m args below meth c H locs cells slots Q (F0 m (pc + 3) ls (.int (sv_b (sv_con a b)) :: rest))) : W p l e R s m args below meth c H locs cells slots Q (F0 m pc ls (.int (nI b) :: .int (nI a) :: .ref (ad 0) :: rest)) :=
  sv_cV (G := fun H => sv_mP D cI cZ n qc ad σ mt qm H) X okM_M_contradict (cM_m_contradict ha hb2) hP (y_rec X.K hP (by decide) sv_me_0 rfl) hk rfl hl.1 rfl hcat hc hs hd kk
set_option maxHeartbeats 4000000 in
set_option maxRecDepth 100000 in
theorem wM_against (X : sv_X D cI cZ cN cQ "SliceVotingModel" cM_against 5 2 p R s m args c) (hP : sv_mP D cI cZ n qc ad σ mt qm H) {x : Int32} {a : Nat} (ha : a < 24) (hl : lv_has ls 5 [(0, .ref (ad 0)), (1, .int x), (2, .int (nI a))]) (ret : ∀ (pc : Nat) (ls : Array Slot), decode cM_against pc = .ok (.ireturn, 1) → W p l e R s m args below meth c H locs 0 0 Q (F0 m pc ls [.int (sv_b (sv_aga x a))])) : W p l e R s m args below meth c H locs 0 0 Q (F0 m 0 ls []) := by
  have hx := X.1
  have hb := X.2.1
  have J5 : ∀ (kf : Nat) (i : Nat) (ls : Array Slot), 24 - i < kf → (i ≤ 24) → lv_has ls 5 [(0, .ref (ad 0)), (1, .int x), (2, .int (nI a)), (3, .int (sv_b (sv_any (fun t => bt x t && sv_con a t) i))), (4, .int (nI i))] → W p l e R s m args below meth c H locs 0 0 Q (F0 m 5 ls []) := by
    intro kf
    induction kf with
    | zero => intro i ls hm; exact absurd hm (Nat.not_lt_zero _)
    | succ kf ih =>
      intro i ls hm hi hl
      refine lv_iload (i := 4) hx hb dM_against_5 (sv_at hl rfl) ?_
      refine lv_bipush (v := nI 24) hx hb dM_against_7 (by decide) ?_
      refine lv_icmp_ge (tgt := 48) hx hb dM_against_9 rfl (fun h9 => ?_) (fun h9 => ?_)
      · skip
        rw [nI_leI (by omega) (by omega)] at h9
        obtain rfl : i = 24 := by omega
        refine lv_iload_n (i := 3) hx hb dM_against_48 rfl (sv_at hl rfl) ?_
        exact ret _ _ dM_against_49
      · skip
        rw [nI_leI (by omega) (by omega)] at h9
        refine lv_iload_n (i := 3) hx hb dM_against_12 rfl (sv_at hl rfl) ?_
        refine x_ifneB (tgt := 36) hx hb dM_against_13 rfl (fun h13 => ?_) (fun h13 => ?_)
        · skip
          refine lv_iconst (v := 1) hx hb dM_against_36 (by decide) ?_
          refine lv_goto (tgt := 41) hx hb dM_against_37 rfl ?_
          refine x_tv (y := sv_b (sv_any (fun t => bt x t && sv_con a t) (i + 1))) (by show _ = sv_b (sv_any (fun t => bt x t && sv_con a t) i || (bt x i && sv_con a i)); first | (have ee : sv_any (fun t => bt x t && sv_con a t) i = true := h13; rw [ee]; rfl) | (have ee := h33; rw [h13, h23, h33]; rfl) | (rw [h13, h23]; rfl)) ?_
          refine lv_istore_n (i := 3) hx hb dM_against_41 rfl hl (by decide) rfl (fun ls hl => ?_)
          refine x_iinc (i := 4) hx hb dM_against_42 hl rfl (sv_inc i) (by decide) (fun ls hl => ?_)
          refine lv_goto (tgt := 5) hx hb dM_against_45 rfl ?_
          exact ih (i + 1) ls (by omega) (by omega) (sv_re hl ⟨rfl, rfl, rfl, rfl, rfl, trivial⟩)
        · skip
          refine lv_iload_n (i := 1) hx hb dM_against_16 rfl (sv_at hl rfl) ?_
          refine lv_iload (i := 4) hx hb dM_against_17 (sv_at hl rfl) ?_
          refine lv_ishr hx hb dM_against_19 ?_
          refine lv_iconst (v := 1) hx hb dM_against_20 (by decide) ?_
          refine lv_iand hx hb dM_against_21 ?_
          refine x_tv (sv_shr1 x (by omega)) ?_
          refine lv_iconst (v := 1) hx hb dM_against_22 (by decide) ?_
          refine lv_icmp_ne (tgt := 40) hx hb dM_against_23 rfl (fun h23 => ?_) (fun h23 => ?_)
          · skip
            rw [sv_bn1] at h23
            refine lv_iconst (v := 0) hx hb dM_against_40 (by decide) ?_
            refine x_tv (y := sv_b (sv_any (fun t => bt x t && sv_con a t) (i + 1))) (by show _ = sv_b (sv_any (fun t => bt x t && sv_con a t) i || (bt x i && sv_con a i)); first | (have ee : sv_any (fun t => bt x t && sv_con a t) i = true := h13; rw [ee]; rfl) | (have ee := h33; rw [h13, h23, h33]; rfl) | (rw [h13, h23]; rfl)) ?_
            refine lv_istore_n (i := 3) hx hb dM_against_41 rfl hl (by decide) rfl (fun ls hl => ?_)
            refine x_iinc (i := 4) hx hb dM_against_42 hl rfl (sv_inc i) (by decide) (fun ls hl => ?_)
            refine lv_goto (tgt := 5) hx hb dM_against_45 rfl ?_
            exact ih (i + 1) ls (by omega) (by omega) (sv_re hl ⟨rfl, rfl, rfl, rfl, rfl, trivial⟩)
          · skip
            rw [sv_b1] at h23
            refine lv_aload_n (i := 0) hx hb dM_against_26 rfl (sv_at hl rfl) ?_
            refine lv_iload_n (i := 2) hx hb dM_against_27 rfl (sv_at hl rfl) ?_
            refine lv_iload (i := 4) hx hb dM_against_28 (sv_at hl rfl) ?_
            refine kM_contradict X (by decide) hP (by omega) (by omega) hl (Nat.zero_le _) (Nat.zero_le _) (Nat.le_of_ble_eq_true rfl) dM_against_30 ?_
            refine x_ifeqB (tgt := 40) hx hb dM_against_33 rfl (fun h33 => ?_) (fun h33 => ?_)
            · skip
              refine lv_iconst (v := 0) hx hb dM_against_40 (by decide) ?_
              refine x_tv (y := sv_b (sv_any (fun t => bt x t && sv_con a t) (i + 1))) (by show _ = sv_b (sv_any (fun t => bt x t && sv_con a t) i || (bt x i && sv_con a i)); first | (have ee : sv_any (fun t => bt x t && sv_con a t) i = true := h13; rw [ee]; rfl) | (have ee := h33; rw [h13, h23, h33]; rfl) | (rw [h13, h23]; rfl)) ?_
              refine lv_istore_n (i := 3) hx hb dM_against_41 rfl hl (by decide) rfl (fun ls hl => ?_)
              refine x_iinc (i := 4) hx hb dM_against_42 hl rfl (sv_inc i) (by decide) (fun ls hl => ?_)
              refine lv_goto (tgt := 5) hx hb dM_against_45 rfl ?_
              exact ih (i + 1) ls (by omega) (by omega) (sv_re hl ⟨rfl, rfl, rfl, rfl, rfl, trivial⟩)
            · skip
              refine lv_iconst (v := 1) hx hb dM_against_36 (by decide) ?_
              refine lv_goto (tgt := 41) hx hb dM_against_37 rfl ?_
              refine x_tv (y := sv_b (sv_any (fun t => bt x t && sv_con a t) (i + 1))) (by show _ = sv_b (sv_any (fun t => bt x t && sv_con a t) i || (bt x i && sv_con a i)); first | (have ee : sv_any (fun t => bt x t && sv_con a t) i = true := h13; rw [ee]; rfl) | (have ee := h33; rw [h13, h23, h33]; rfl) | (rw [h13, h23]; rfl)) ?_
              refine lv_istore_n (i := 3) hx hb dM_against_41 rfl hl (by decide) rfl (fun ls hl => ?_)
              refine x_iinc (i := 4) hx hb dM_against_42 hl rfl (sv_inc i) (by decide) (fun ls hl => ?_)
              refine lv_goto (tgt := 5) hx hb dM_against_45 rfl ?_
              exact ih (i + 1) ls (by omega) (by omega) (sv_re hl ⟨rfl, rfl, rfl, rfl, rfl, trivial⟩)
  refine lv_iconst (v := 0) hx hb dM_against_0 (by decide) ?_
  refine lv_istore_n (i := 3) hx hb dM_against_1 rfl hl (by decide) rfl (fun ls hl => ?_)
  refine lv_iconst (v := 0) hx hb dM_against_2 (by decide) ?_
  refine lv_istore (i := 4) hx hb dM_against_3 hl (by decide) rfl (fun ls hl => ?_)
  exact J5 _ 0 ls (Nat.lt_succ_self _) (Nat.zero_le _) (sv_re hl ⟨rfl, rfl, rfl, rfl, rfl, trivial⟩)

theorem cM_m_against {x : Int32} {a : Nat} (ha : a < 24) : Met l yM_against (sv_ws yM_against cM_against 5 (some .boolean)) (sv_rm 2) (sv_Pc D cI cZ cN cQ [.ref (ad 0), .int x, .int (nI a)] (fun H => sv_mP D cI cZ n qc ad σ mt qm H)) (vp_Si (fun zz => zz = sv_b (sv_aga x a))) 0 0 (fun _ => False) :=
  sv_mkR (by decide) (by show 3 ≤ 5; decide) (sv_narb _) (fun p e s m below meth c ls Q X hP hl ret => wM_against X hP ha hl ret)
theorem okM_M_against : sv_okV "SliceVotingModel" 108 yM_against cM_against 5 (some .boolean) 2 := ⟨sv_tb_t 443 rfl rfl, sv_tb_t 440 rfl rfl, sv_tb_t 442 rfl rfl, sv_tb_s 26 rfl rfl, sv_tb_t 4 rfl rfl, ⟨by decide, by decide, by decide +kernel⟩, by decide⟩
theorem kM_against (X : sv_X D cI cZ cN cQ "SliceVotingModel" cc nL k p R s m args c) (hk : 2 + 1 ≤ k) (hP : sv_mP D cI cZ n qc ad σ mt qm H) {x : Int32} {a : Nat} (ha : a < 24) (hl : lv_has ls nL lv) (hc : cells ≤ R.cells) (hs : slots ≤ R.slots) (hcat : (rest.map fun v => v.category).sum ≤ 8) (hd : decode cc pc = .ok (.invokevirtual 108, 3)) (kk : W p l e R s m args below meth c H locs cells slots Q (F0 m (pc + 3) ls (.int (sv_b (sv_aga x a)) :: rest))) : W p l e R s m args below meth c H locs cells slots Q (F0 m pc ls (.int (nI a) :: .int x :: .ref (ad 0) :: rest)) :=
  sv_cV (G := fun H => sv_mP D cI cZ n qc ad σ mt qm H) X okM_M_against (cM_m_against ha) hP (y_rec X.K hP (by decide) sv_me_0 rfl) hk rfl hl.1 rfl hcat hc hs hd kk
end SvModel1
