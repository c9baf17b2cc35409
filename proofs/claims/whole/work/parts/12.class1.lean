section SvClass1
variable {p : Program} {l : Launch} {e : Env} {R : Room} {s : State} {m : MethodId} {args : Array Value} {below : List Frame} {meth : Method} {c : Code} {H H0 : Heap} {locs : List Loc} {cells slots : Nat} {Q : State → Prop}
variable {cc : ByteArray} {pc nL k : Nat} {ls : Array Slot} {lv : List (Nat × Value)} {rest : List Value} {D : va_G} {cI cZ cN cQ : ClassId} {n qc : Nat} {ad : Nat → Nat} {σ : Sg} {A : Nat → Prop} {mt qm : Nat → Int32}
theorem sv_inc (i : Nat) : nI i + Int32.ofInt 1 = nI (i + 1) := by rw [nI_succ]; rfl
theorem sv_dec (i : Nat) : nI (i + 1) + Int32.ofInt (-1) = nI i := pk_m1 i
set_option maxHeartbeats 4000000 in
set_option maxRecDepth 100000 in
theorem wS_contradictsOneOf (X : sv_X D cI cZ cN cQ "SliceVoting" cS_contradictsOneOf 3 3 p R s m args c) {x : Int32} {a : Nat} (ha : a < 24) (hl : lv_has ls 3 [(0, .int (nI a)), (1, .int x)]) (ret : ∀ (pc : Nat) (ls : Array Slot), decode cS_contradictsOneOf pc = .ok (.ireturn, 1) → W p l e R s m args below meth c H locs 0 0 Q (F0 m pc ls [.int (sv_b (sv_aga x a))])) : W p l e R s m args below meth c H locs 0 0 Q (F0 m 0 ls []) := by
  have hx := X.1
  have hb := X.2.1
  have J2 : ∀ (kf : Nat) (i : Nat) (ls : Array Slot), 24 - i < kf → (i ≤ 24) → (∀ t, t < i → (bt x t && sv_con a t) = false) → lv_has ls 3 [(0, .int (nI a)), (1, .int x), (2, .int (nI i))] → W p l e R s m args below meth c H locs 0 0 Q (F0 m 2 ls []) := by
    intro kf
    induction kf with
    | zero => intro i ls hm; exact absurd hm (Nat.not_lt_zero _)
    | succ kf ih =>
      intro i ls hm hi hno hl
      refine lv_iload_n (i := 2) hx hb dS_contradictsOneOf_2 rfl (sv_at hl rfl) ?_
      refine lv_bipush (v := nI 24) hx hb dS_contradictsOneOf_3 (by decide) ?_
      refine lv_icmp_ge (tgt := 32) hx hb dS_contradictsOneOf_5 rfl (fun h5 => ?_) (fun h5 => ?_)
      · skip
        rw [nI_leI (by omega) (by omega)] at h5
        refine lv_iconst (v := 0) hx hb dS_contradictsOneOf_32 (by decide) ?_
        exact x_tv (by unfold sv_aga; rw [sv_any_no 24 (fun j hj => hno j (by omega))]; rfl) (ret _ _ dS_contradictsOneOf_33)
      · skip
        rw [nI_leI (by omega) (by omega)] at h5
        refine lv_iload_n (i := 1) hx hb dS_contradictsOneOf_8 rfl (sv_at hl rfl) ?_
        refine lv_iload_n (i := 2) hx hb dS_contradictsOneOf_9 rfl (sv_at hl rfl) ?_
        refine kS_has X (by decide) (by omega) hl (Nat.zero_le _) (Nat.zero_le _) (Nat.le_of_ble_eq_true rfl) dS_contradictsOneOf_10 ?_
        refine x_ifeqB (tgt := 26) hx hb dS_contradictsOneOf_13 rfl (fun h13 => ?_) (fun h13 => ?_)
        · skip
          refine x_iinc (i := 2) hx hb dS_contradictsOneOf_26 hl rfl (sv_inc i) (by decide) (fun ls hl => ?_)
          refine lv_goto (tgt := 2) hx hb dS_contradictsOneOf_29 rfl ?_
          exact ih (i + 1) ls (by omega) (by omega) (lt_s hno (by first | (simp [h13]; done) | (simp [h21]; done))) (sv_re hl ⟨rfl, rfl, rfl, trivial⟩)
        · skip
          refine lv_iload_n (i := 0) hx hb dS_contradictsOneOf_16 rfl (sv_at hl rfl) ?_
          refine lv_iload_n (i := 2) hx hb dS_contradictsOneOf_17 rfl (sv_at hl rfl) ?_
          refine kS_contradict X (by decide) (by omega) (by omega) hl (Nat.zero_le _) (Nat.zero_le _) (Nat.le_of_ble_eq_true rfl) dS_contradictsOneOf_18 ?_
          refine x_ifeqB (tgt := 26) hx hb dS_contradictsOneOf_21 rfl (fun h21 => ?_) (fun h21 => ?_)
          · skip
            refine x_iinc (i := 2) hx hb dS_contradictsOneOf_26 hl rfl (sv_inc i) (by decide) (fun ls hl => ?_)
            refine lv_goto (tgt := 2) hx hb dS_contradictsOneOf_29 rfl ?_
            exact ih (i + 1) ls (by omega) (by omega) (lt_s hno (by first | (simp [h13]; done) | (simp [h21]; done))) (sv_re hl ⟨rfl, rfl, rfl, trivial⟩)
          · skip
            refine lv_iconst (v := 1) hx hb dS_contradictsOneOf_24 (by decide) ?_
            exact x_tv (by unfold sv_aga; rw [sv_any_yes 24 (show i < 24 by omega) (by simp [h13, h21])]; rfl) (ret _ _ dS_contradictsOneOf_25)
  refine lv_iconst (v := 0) hx hb dS_contradictsOneOf_0 (by decide) ?_
  refine lv_istore_n (i := 2) hx hb dS_contradictsOneOf_1 rfl hl (by decide) rfl (fun ls hl => ?_)
  exact J2 _ 0 ls (Nat.lt_succ_self _) (Nat.zero_le _) lt_0 (sv_re hl ⟨rfl, rfl, rfl, trivial⟩)

theorem cS_m_contradictsOneOf {x : Int32} {a : Nat} (ha : a < 24) : Met l yS_contradictsOneOf (sv_ws yS_contradictsOneOf cS_contradictsOneOf 3 (some .boolean)) (sv_rm 3) (sv_Pc D cI cZ cN cQ [.int (nI a), .int x] (fun _ => True)) (vp_Si (fun zz => zz = sv_b (sv_aga x a))) 0 0 (fun _ => False) :=
  sv_mkR (by decide) (by show 2 ≤ 3; decide) (sv_narb _) (fun p e s m below meth c ls Q X _ hl ret => wS_contradictsOneOf X  ha hl ret)
theorem okS_S_contradictsOneOf : sv_okS "SliceVoting" 178 yS_contradictsOneOf cS_contradictsOneOf 3 (some .boolean) 2 := ⟨sv_tb_t 174 rfl rfl, sv_tb_t 172 rfl rfl, sv_tb_t 173 rfl rfl, sv_tb_t 1 rfl rfl, ⟨by decide, by decide, by decide +kernel⟩, by decide⟩
theorem kS_contradictsOneOf (X : sv_X D cI cZ cN cQ "SliceVoting" cc nL k p R s m args c) (hk : 3 + 1 ≤ k) {x : Int32} {a : Nat} (ha : a < 24) (hl : lv_has ls nL lv) (hc : cells ≤ R.cells) (hs : slots ≤ R.slots) (hcat : (rest.map fun v => v.category).sum ≤ 8) (hd : decode cc pc = .ok (.invokestatic 178, 3)) (kk : W p l e R s m args below meth c H locs cells slots Q (F0 m (pc + 3) ls (.int (sv_b (sv_aga x a)) :: rest))) : W p l e R s m args below meth c H locs cells slots Q (F0 m pc ls (.int x :: .int (nI a) :: rest)) :=
  sv_cS (G := fun _ => True) X okS_S_contradictsOneOf (cS_m_contradictsOneOf ha) trivial hk rfl hl.1 rfl hcat hc hs hd kk
set_option maxHeartbeats 4000000 in
set_option maxRecDepth 100000 in
theorem wS_isNode (X : sv_X D cI cZ cN cQ "SliceVoting" cS_isNode 2 1 p R s m args c) (hP : sv_cP D cI cN cQ n qc ad σ H) {v : Int32}  (hl : lv_has ls 2 [(0, .ref (ad 0)), (1, .int v)]) (ret : ∀ (pc : Nat) (ls : Array Slot), decode cS_isNode pc = .ok (.ireturn, 1) → W p l e R s m args below meth c H locs 0 0 Q (F0 m pc ls [.int (sv_b (sv_isn n v))])) : W p l e R s m args below meth c H locs 0 0 Q (F0 m 0 ls []) := by
  have hx := X.1
  have hb := X.2.1
  refine lv_iload_n (i := 1) hx hb dS_isNode_0 rfl (sv_at hl rfl) ?_
  refine lv_if_lt (tgt := 17) hx hb dS_isNode_1 rfl (fun h1 => ?_) (fun h1 => ?_)
  · skip
    refine lv_iconst (v := 0) hx hb dS_isNode_17 (by decide) ?_
    exact x_tv (by unfold sv_isn; simp_all [sv_b]) (ret _ _ dS_isNode_18)
  · skip
    refine lv_iload_n (i := 1) hx hb dS_isNode_4 rfl (sv_at hl rfl) ?_
    refine lv_aload_n (i := 0) hx hb dS_isNode_5 rfl (sv_at hl rfl) ?_
    refine gS_nodes X hP dS_isNode_6 ?_
    refine gL_nodes X hP dS_isNode_9 ?_
    refine lv_icmp_ge (tgt := 17) hx hb dS_isNode_10 rfl (fun h10 => ?_) (fun h10 => ?_)
    · skip
      refine lv_iconst (v := 0) hx hb dS_isNode_17 (by decide) ?_
      exact x_tv (by unfold sv_isn; simp_all [sv_b]) (ret _ _ dS_isNode_18)
    · skip
      refine lv_iconst (v := 1) hx hb dS_isNode_13 (by decide) ?_
      refine lv_goto (tgt := 18) hx hb dS_isNode_14 rfl ?_
      exact x_tv (by unfold sv_isn; simp_all [sv_b]) (ret _ _ dS_isNode_18)

theorem cS_m_isNode {v : Int32}  : Met l yS_isNode (sv_ws yS_isNode cS_isNode 2 (some .boolean)) (sv_rm 1) (sv_Pc D cI cZ cN cQ [.ref (ad 0), .int v] (fun H => sv_cP D cI cN cQ n qc ad σ H)) (vp_Si (fun zz => zz = sv_b (sv_isn n v))) 0 0 (fun _ => False) :=
  sv_mkR (by decide) (by show 2 ≤ 2; decide) (sv_narb _) (fun p e s m below meth c ls Q X hP hl ret => wS_isNode X hP  hl ret)
theorem okS_S_isNode : sv_okV "SliceVoting" 47 yS_isNode cS_isNode 2 (some .boolean) 1 := ⟨sv_tb_t 94 rfl rfl, sv_tb_t 91 rfl rfl, sv_tb_t 93 rfl rfl, sv_tb_s 0 rfl rfl, sv_tb_t 1 rfl rfl, ⟨by decide, by decide, by decide +kernel⟩, by decide⟩
theorem kS_isNode (X : sv_X D cI cZ cN cQ "SliceVoting" cc nL k p R s m args c) (hk : 1 + 1 ≤ k) (hP : sv_cP D cI cN cQ n qc ad σ H) {v : Int32}  (hl : lv_has ls nL lv) (hc : cells ≤ R.cells) (hs : slots ≤ R.slots) (hcat : (rest.map fun v => v.category).sum ≤ 8) (hd : decode cc pc = .ok (.invokevirtual 47, 3)) (kk : W p l e R s m args below meth c H locs cells slots Q (F0 m (pc + 3) ls (.int (sv_b (sv_isn n v)) :: rest))) : W p l e R s m args below meth c H locs cells slots Q (F0 m pc ls (.int v :: .ref (ad 0) :: rest)) :=
  sv_cV (G := fun H => sv_cP D cI cN cQ n qc ad σ H) X okS_S_isNode (cS_m_isNode ) hP (y_rec X.K hP (by omega) sv_ce_S rfl) hk rfl hl.1 rfl hcat hc hs hd kk
set_option maxHeartbeats 4000000 in
set_option maxRecDepth 100000 in
theorem wS_isQuota (X : sv_X D cI cZ cN cQ "SliceVoting" cS_isQuota 2 1 p R s m args c) (hP : sv_cP D cI cN cQ n qc ad σ H) {v : Int32}  (hl : lv_has ls 2 [(0, .ref (ad 0)), (1, .int v)]) (ret : ∀ (pc : Nat) (ls : Array Slot), decode cS_isQuota pc = .ok (.ireturn, 1) → W p l e R s m args below meth c H locs 0 0 Q (F0 m pc ls [.int (sv_b (sv_isn qc v))])) : W p l e R s m args below meth c H locs 0 0 Q (F0 m 0 ls []) := by
  have hx := X.1
  have hb := X.2.1
  refine lv_iload_n (i := 1) hx hb dS_isQuota_0 rfl (sv_at hl rfl) ?_
  refine lv_if_lt (tgt := 16) hx hb dS_isQuota_1 rfl (fun h1 => ?_) (fun h1 => ?_)
  · skip
    refine lv_iconst (v := 0) hx hb dS_isQuota_16 (by decide) ?_
    exact x_tv (by unfold sv_isn; simp_all [sv_b]) (ret _ _ dS_isQuota_17)
  · skip
    refine lv_iload_n (i := 1) hx hb dS_isQuota_4 rfl (sv_at hl rfl) ?_
    refine lv_aload_n (i := 0) hx hb dS_isQuota_5 rfl (sv_at hl rfl) ?_
    refine gS_quotaCount X hP dS_isQuota_6 ?_
    refine lv_icmp_ge (tgt := 16) hx hb dS_isQuota_9 rfl (fun h9 => ?_) (fun h9 => ?_)
    · skip
      refine lv_iconst (v := 0) hx hb dS_isQuota_16 (by decide) ?_
      exact x_tv (by unfold sv_isn; simp_all [sv_b]) (ret _ _ dS_isQuota_17)
    · skip
      refine lv_iconst (v := 1) hx hb dS_isQuota_12 (by decide) ?_
      refine lv_goto (tgt := 17) hx hb dS_isQuota_13 rfl ?_
      exact x_tv (by unfold sv_isn; simp_all [sv_b]) (ret _ _ dS_isQuota_17)

theorem cS_m_isQuota {v : Int32}  : Met l yS_isQuota (sv_ws yS_isQuota cS_isQuota 2 (some .boolean)) (sv_rm 1) (sv_Pc D cI cZ cN cQ [.ref (ad 0), .int v] (fun H => sv_cP D cI cN cQ n qc ad σ H)) (vp_Si (fun zz => zz = sv_b (sv_isn qc v))) 0 0 (fun _ => False) :=
  sv_mkR (by decide) (by show 2 ≤ 2; decide) (sv_narb _) (fun p e s m below meth c ls Q X hP hl ret => wS_isQuota X hP  hl ret)
theorem okS_S_isQuota : sv_okV "SliceVoting" 60 yS_isQuota cS_isQuota 2 (some .boolean) 1 := ⟨sv_tb_t 140 rfl rfl, sv_tb_t 137 rfl rfl, sv_tb_t 139 rfl rfl, sv_tb_s 4 rfl rfl, sv_tb_t 1 rfl rfl, ⟨by decide, by decide, by decide +kernel⟩, by decide⟩
theorem kS_isQuota (X : sv_X D cI cZ cN cQ "SliceVoting" cc nL k p R s m args c) (hk : 1 + 1 ≤ k) (hP : sv_cP D cI cN cQ n qc ad σ H) {v : Int32}  (hl : lv_has ls nL lv) (hc : cells ≤ R.cells) (hs : slots ≤ R.slots) (hcat : (rest.map fun v => v.category).sum ≤ 8) (hd : decode cc pc = .ok (.invokevirtual 60, 3)) (kk : W p l e R s m args below meth c H locs cells slots Q (F0 m (pc + 3) ls (.int (sv_b (sv_isn qc v)) :: rest))) : W p l e R s m args below meth c H locs cells slots Q (F0 m pc ls (.int v :: .ref (ad 0) :: rest)) :=
  sv_cV (G := fun H => sv_cP D cI cN cQ n qc ad σ H) X okS_S_isQuota (cS_m_isQuota ) hP (y_rec X.K hP (by omega) sv_ce_S rfl) hk rfl hl.1 rfl hcat hc hs hd kk
set_option maxHeartbeats 4000000 in
set_option maxRecDepth 100000 in
theorem wS_isSetOfNodes (X : sv_X D cI cZ cN cQ "SliceVoting" cS_isSetOfNodes 2 1 p R s m args c) (hP : sv_cP D cI cN cQ n qc ad σ H) {x : Int32} (hn : n ≤ 6) (hl : lv_has ls 2 [(0, .ref (ad 0)), (1, .int x)]) (ret : ∀ (pc : Nat) (ls : Array Slot), decode cS_isSetOfNodes pc = .ok (.ireturn, 1) → W p l e R s m args below meth c H locs 0 0 Q (F0 m pc ls [.int (sv_b (decide (sv_N x < 2 ^ n)))])) : W p l e R s m args below meth c H locs 0 0 Q (F0 m 0 ls []) := by
  have hx := X.1
  have hb := X.2.1
  refine lv_iload_n (i := 1) hx hb dS_isSetOfNodes_0 rfl (sv_at hl rfl) ?_
  refine lv_aload_n (i := 0) hx hb dS_isSetOfNodes_1 rfl (sv_at hl rfl) ?_
  refine gS_everyone X hP dS_isSetOfNodes_2 ?_
  refine lv_iconst (v := -1) hx hb dS_isSetOfNodes_5 (by decide) ?_
  refine lv_ixor hx hb dS_isSetOfNodes_6 ?_
  refine lv_iand hx hb dS_isSetOfNodes_7 ?_
  refine lv_if_ne (tgt := 15) hx hb dS_isSetOfNodes_8 rfl (fun h8 => ?_) (fun h8 => ?_)
  · skip
    rw [sv_setof hn] at h8
    refine lv_iconst (v := 0) hx hb dS_isSetOfNodes_15 (by decide) ?_
    exact x_tv (by simp [sv_b, h8]) (ret _ _ dS_isSetOfNodes_16)
  · skip
    rw [sv_setof hn] at h8
    refine lv_iconst (v := 1) hx hb dS_isSetOfNodes_11 (by decide) ?_
    refine lv_goto (tgt := 16) hx hb dS_isSetOfNodes_12 rfl ?_
    exact x_tv (by simp [sv_b, h8]) (ret _ _ dS_isSetOfNodes_16)

theorem cS_m_isSetOfNodes {x : Int32} (hn : n ≤ 6) : Met l yS_isSetOfNodes (sv_ws yS_isSetOfNodes cS_isSetOfNodes 2 (some .boolean)) (sv_rm 1) (sv_Pc D cI cZ cN cQ [.ref (ad 0), .int x] (fun H => sv_cP D cI cN cQ n qc ad σ H)) (vp_Si (fun zz => zz = sv_b (decide (sv_N x < 2 ^ n)))) 0 0 (fun _ => False) :=
  sv_mkR (by decide) (by show 2 ≤ 2; decide) (sv_narb _) (fun p e s m below meth c ls Q X hP hl ret => wS_isSetOfNodes X hP hn hl ret)
theorem okS_S_isSetOfNodes : sv_okV "SliceVoting" 115 yS_isSetOfNodes cS_isSetOfNodes 2 (some .boolean) 1 := ⟨sv_tb_t 286 rfl rfl, sv_tb_t 283 rfl rfl, sv_tb_t 285 rfl rfl, sv_tb_s 15 rfl rfl, sv_tb_t 1 rfl rfl, ⟨by decide, by decide, by decide +kernel⟩, by decide⟩
theorem kS_isSetOfNodes (X : sv_X D cI cZ cN cQ "SliceVoting" cc nL k p R s m args c) (hk : 1 + 1 ≤ k) (hP : sv_cP D cI cN cQ n qc ad σ H) {x : Int32} (hn : n ≤ 6) (hl : lv_has ls nL lv) (hc : cells ≤ R.cells) (hs : slots ≤ R.slots) (hcat : (rest.map fun v => v.category).sum ≤ 8) (hd : decode cc pc = .ok (.invokevirtual 115, 3)) (kk : W p l e R s m args below meth c H locs cells slots Q (F0 m (pc + 3) ls (.int (sv_b (decide (sv_N x < 2 ^ n))) :: rest))) : W p l e R s m args below meth c H locs cells slots Q (F0 m pc ls (.int x :: .ref (ad 0) :: rest)) :=
  sv_cV (G := fun H => sv_cP D cI cN cQ n qc ad σ H) X okS_S_isSetOfNodes (cS_m_isSetOfNodes hn) hP (y_rec X.K hP (by omega) sv_ce_S rfl) hk rfl hl.1 rfl hcat hc hs hd kk
set_option maxHeartbeats 4000000 in
set_option maxRecDepth 100000 in
theorem wS_isWellBehaved (X : sv_X D cI cZ cN cQ "SliceVoting" cS_isWellBehaved 2 2 p R s m args c) (hP : sv_cP D cI cN cQ n qc ad σ H) {v : Int32} (hn : n ≤ 6) (hl : lv_has ls 2 [(0, .ref (ad 0)), (1, .int v)]) (ret : ∀ (pc : Nat) (ls : Array Slot), decode cS_isWellBehaved pc = .ok (.ireturn, 1) → W p l e R s m args below meth c H locs 0 0 Q (F0 m pc ls [.int (sv_b (sv_wel n σ v))])) : W p l e R s m args below meth c H locs 0 0 Q (F0 m 0 ls []) := by
  have hx := X.1
  have hb := X.2.1
  refine lv_aload_n (i := 0) hx hb dS_isWellBehaved_0 rfl (sv_at hl rfl) ?_
  refine lv_iload_n (i := 1) hx hb dS_isWellBehaved_1 rfl (sv_at hl rfl) ?_
  refine kS_isNode X (by decide) hP  hl (Nat.zero_le _) (Nat.zero_le _) (Nat.le_of_ble_eq_true rfl) dS_isWellBehaved_2 ?_
  refine x_ifeqB (tgt := 23) hx hb dS_isWellBehaved_5 rfl (fun h5 => ?_) (fun h5 => ?_)
  · skip
    refine lv_iconst (v := 0) hx hb dS_isWellBehaved_23 (by decide) ?_
    exact x_tv (by unfold sv_wel; first | (rw [h5]; rfl) | (rw [h5, nI_clamp (by omega), h16]; rfl)) (ret _ _ dS_isWellBehaved_24)
  · skip
    obtain ⟨j, hj, rfl⟩ := sv_isn_t (by omega) h5
    refine lv_aload_n (i := 0) hx hb dS_isWellBehaved_8 rfl (sv_at hl rfl) ?_
    refine gS_wellBehaved X hP dS_isWellBehaved_9 ?_
    refine lv_iload_n (i := 1) hx hb dS_isWellBehaved_12 rfl (sv_at hl rfl) ?_
    refine kS_has X (by decide) (by omega) hl (Nat.zero_le _) (Nat.zero_le _) (Nat.le_of_ble_eq_true rfl) dS_isWellBehaved_13 ?_
    refine x_tv (y := sv_b (σ 9 j == 0)) (by rw [sv_nb, sv_wbN_bit]; simp [hj, show j < 32 by omega]) ?_
    refine x_ifeqB (tgt := 23) hx hb dS_isWellBehaved_16 rfl (fun h16 => ?_) (fun h16 => ?_)
    · skip
      refine lv_iconst (v := 0) hx hb dS_isWellBehaved_23 (by decide) ?_
      exact x_tv (by unfold sv_wel; first | (rw [h5]; rfl) | (rw [h5, nI_clamp (by omega), h16]; rfl)) (ret _ _ dS_isWellBehaved_24)
    · skip
      refine lv_iconst (v := 1) hx hb dS_isWellBehaved_19 (by decide) ?_
      refine lv_goto (tgt := 24) hx hb dS_isWellBehaved_20 rfl ?_
      exact x_tv (by unfold sv_wel; first | (rw [h5]; rfl) | (rw [h5, nI_clamp (by omega), h16]; rfl)) (ret _ _ dS_isWellBehaved_24)

theorem cS_m_isWellBehaved {v : Int32} (hn : n ≤ 6) : Met l yS_isWellBehaved (sv_ws yS_isWellBehaved cS_isWellBehaved 2 (some .boolean)) (sv_rm 2) (sv_Pc D cI cZ cN cQ [.ref (ad 0), .int v] (fun H => sv_cP D cI cN cQ n qc ad σ H)) (vp_Si (fun zz => zz = sv_b (sv_wel n σ v))) 0 0 (fun _ => False) :=
  sv_mkR (by decide) (by show 2 ≤ 2; decide) (sv_narb _) (fun p e s m below meth c ls Q X hP hl ret => wS_isWellBehaved X hP hn hl ret)
theorem okS_S_isWellBehaved : sv_okV "SliceVoting" 70 yS_isWellBehaved cS_isWellBehaved 2 (some .boolean) 1 := ⟨sv_tb_t 155 rfl rfl, sv_tb_t 152 rfl rfl, sv_tb_t 154 rfl rfl, sv_tb_s 5 rfl rfl, sv_tb_t 1 rfl rfl, ⟨by decide, by decide, by decide +kernel⟩, by decide⟩
theorem kS_isWellBehaved (X : sv_X D cI cZ cN cQ "SliceVoting" cc nL k p R s m args c) (hk : 2 + 1 ≤ k) (hP : sv_cP D cI cN cQ n qc ad σ H) {v : Int32} (hn : n ≤ 6) (hl : lv_has ls nL lv) (hc : cells ≤ R.cells) (hs : slots ≤ R.slots) (hcat : (rest.map fun v => v.category).sum ≤ 8) (hd : decode cc pc = .ok (.invokevirtual 70, 3)) (kk : W p l e R s m args below meth c H locs cells slots Q (F0 m (pc + 3) ls (.int (sv_b (sv_wel n σ v)) :: rest))) : W p l e R s m args below meth c H locs cells slots Q (F0 m pc ls (.int v :: .ref (ad 0) :: rest)) :=
  sv_cV (G := fun H => sv_cP D cI cN cQ n qc ad σ H) X okS_S_isWellBehaved (cS_m_isWellBehaved hn) hP (y_rec X.K hP (by omega) sv_ce_S rfl) hk rfl hl.1 rfl hcat hc hs hd kk
end SvClass1
