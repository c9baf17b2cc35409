section SvPropose
variable {p : Program} {l : Launch} {e : Env} {R : Room} {s : State} {m : MethodId} {args : Array Value} {below : List Frame} {meth : Method} {c : Code} {H H0 : Heap} {locs : List Loc} {cells slots : Nat} {Q : State → Prop}
variable {cc : ByteArray} {pc nL k : Nat} {ls : Array Slot} {lv : List (Nat × Value)} {rest : List Value} {D : va_G} {cI cZ cN cQ : ClassId} {n qc : Nat} {ad : Nat → Nat} {σ : Sg} {A : Nat → Prop} {mt qm : Nat → Int32}
/-! members of a quota -/
theorem sv_eq7 {σ : Sg} {q : Nat} {x : Int32} {k : Nat} (h : k ≠ 7) : sg σ 7 q x k = σ k := sg_ne σ q x h
theorem sv_ce_mem {cI cN cQ : ClassId} {n qc : Nat} {ad : Nat → Nat} {σ : Sg} {q : Nat} {x : Int32} (hq : q < qc) : ∀ k, k < 3 + 3 * n + qc → va_up (sv_ce cI cN cQ n qc ad σ) (3 + 3 * n + q) (.inr (sv_kQ, (sv_fQ n qc ad σ q).set 3 (.int x))) k = sv_ce cI cN cQ n qc ad (sg σ 7 q x) k := by
  have e3 : sg σ 7 q x 3 = σ 3 := sv_eq7 (by decide)
  have e4 : sg σ 7 q x 4 = σ 4 := sv_eq7 (by decide)
  have ne : ∀ k, k ≠ 3 + 3 * n + q → va_up (sv_ce cI cN cQ n qc ad σ) (3 + 3 * n + q) (.inr (sv_kQ, (sv_fQ n qc ad σ q).set 3 (.int x))) k = sv_ce cI cN cQ n qc ad σ k := fun k h => if_neg h
  refine sv_cells ?_ ?_ (fun v hv => ⟨?_, ?_, ?_⟩) ?_ (fun p hp => ?_)
  · rw [ne _ (by omega), sv_ce_S, sv_ce_S]
    unfold sv_fS
    rw [sv_wbN_cg (sv_eq7 (by decide)), sv_eq7 (by decide)]
  · rw [ne _ (by omega), sv_ce_A, sv_ce_A]
  · rw [ne _ (by omega), sv_ce_N hv, sv_ce_N hv]
    unfold sv_fN sv_top sv_own
    rw [e3, e4, sv_eq7 (by decide), sv_eq7 (by decide), sv_eq7 (by decide), sv_eq7 (by decide)]
  · rw [ne _ (by omega), sv_ce_V hv, sv_ce_V hv, sv_kv_sg v (by decide) (by decide)]
  · rw [ne _ (by omega), sv_ce_C hv, sv_ce_C hv, sv_ka_sg v (by decide) (by decide)]
  · rw [ne _ (by omega), sv_ce_B, sv_ce_B]
  · by_cases e : p = q
    · subst e
      rw [show va_up (sv_ce cI cN cQ n qc ad σ) (3 + 3 * n + p) (.inr (sv_kQ, (sv_fQ n qc ad σ p).set 3 (.int x))) (3 + 3 * n + p) = .inr (sv_kQ, (sv_fQ n qc ad σ p).set 3 (.int x)) from if_pos rfl, sv_ce_Q]
      unfold sv_fQ sv_fst sv_nxt
      rw [e3, e4, sv_eq7 (by decide), sv_eq7 (by decide), sg_at]
      rfl
    · rw [ne _ (by omega), sv_ce_Q, sv_ce_Q]
      unfold sv_fQ sv_fst sv_nxt
      rw [e3, e4, sv_eq7 (by decide), sv_eq7 (by decide), sg_off σ x (Or.inr e)]
theorem pQ_members (X : sv_X D cI cZ cN cQ "SliceVoting" cc nL k p R s m args c) (hP : sv_cP D cI cN cQ n qc ad σ H) (hJ : sv_inj (3 + 3 * n + qc) ad) (hA : ∀ k, k < 3 + 3 * n + qc → A (ad k)) (hS : va_S A H0 H locs) {q : Nat} {x : Int32} (hq : q < qc) (hd : decode cc pc = .ok (.putfield 63, 3)) (kk : ∀ (H1 : Heap) (locs1 : List Loc), sv_cP D cI cN cQ n qc ad (sg σ 7 q x) H1 → va_S A H0 H1 locs1 → W p l e R s m args below meth c H1 locs1 cells slots Q (F0 m (pc + 3) ls rest)) : W p l e R s m args below meth c H locs cells slots Q (F0 m pc ls (.int x :: .ref (ad (3 + 3 * n + q)) :: rest)) :=
  y_putN X.1 X.2.1 X.hts X.Ns in_Q t_Q t_Q_ok nm_Q X.own X.K hP (sv_D hJ hA) hS (by omega) sv_ce_Q rfl 3 (by decide) (sv_nst_t 111 rfl rfl) rfl (ty := .int) (by decide +kernel) rfl rfl (by show 3 < 6; decide) hd (fun H1 locs1 h1 h3 => kk H1 locs1 (by rw [sv_L_congr (sv_ce_mem hq)] at h1; exact h1) h3)
def sv_mbC (n qc : Nat) (σ : Sg) (q w : Int32) : Bool := decide (σ 1 0 = 0) && (sv_isn qc q && (sv_isn n w && !bt (σ 7 q.toNatClampNeg) w.toNatClampNeg))
def sv_mbS (n qc : Nat) (σ : Sg) (q w : Int32) : Sg := bif sv_mbC n qc σ q w then sg σ 7 q.toNatClampNeg (σ 7 q.toNatClampNeg ||| sv_bit w.toNatClampNeg) else σ
set_option maxHeartbeats 4000000 in
set_option maxRecDepth 100000 in
theorem wS_member (X : sv_X D cI cZ cN cQ "SliceVoting" cS_member 3 2 p R s m args c) (hP : sv_cP D cI cN cQ n qc ad σ H) (hJ : sv_inj (3 + 3 * n + qc) ad) (hA : ∀ k, k < (3 + 3 * n + qc) → A (ad k)) (hS : va_S A H0 H locs) {v w : Int32} (hn : n ≤ 6) (hq24 : qc ≤ 24) (h4n : qc ≤ 4 * n) (hl : lv_has ls 3 [(0, .ref (ad 0)), (1, .int v), (2, .int w)]) (ret : ∀ (pc : Nat) (ls : Array Slot) (H : Heap) (locs : List Loc), decode cS_member pc = .ok (.ireturn, 1) → va_S A H0 H locs → sv_cP D cI cN cQ n qc ad (sv_mbS n qc σ v w) H → W p l e R s m args below meth c H locs 0 0 Q (F0 m pc ls [.int (sv_b (sv_mbC n qc σ v w))])) : W p l e R s m args below meth c H locs 0 0 Q (F0 m 0 ls []) := by
  have hx := X.1
  have hb := X.2.1
  refine lv_aload_n (i := 0) hx hb dS_member_0 rfl (sv_at hl rfl) ?_
  refine gS_moving X hP dS_member_1 ?_
  refine lv_if_ne (tgt := 39) hx hb dS_member_4 rfl (fun h4 => ?_) (fun h4 => ?_)
  · skip
    refine lv_iconst (v := 0) hx hb dS_member_39 (by decide) ?_
    first | exact x_tv (by unfold sv_mbC; rw [nI_clamp (by omega), nI_clamp (by omega), h36, Bool.not_true, Bool.and_false, Bool.and_false, Bool.and_false]; rfl) (ret _ _ _ _ dS_member_40 hS (by unfold sv_mbS sv_mbC; rw [nI_clamp (by omega), nI_clamp (by omega), h36, Bool.not_true, Bool.and_false, Bool.and_false, Bool.and_false]; exact hP)) | exact x_tv (by unfold sv_mbC; rw [h20, Bool.false_and, Bool.and_false, Bool.and_false]; rfl) (ret _ _ _ _ dS_member_40 hS (by unfold sv_mbS sv_mbC; rw [h20, Bool.false_and, Bool.and_false, Bool.and_false]; exact hP)) | exact x_tv (by unfold sv_mbC; rw [h12, Bool.false_and, Bool.and_false]; rfl) (ret _ _ _ _ dS_member_40 hS (by unfold sv_mbS sv_mbC; rw [h12, Bool.false_and, Bool.and_false]; exact hP)) | exact x_tv (by unfold sv_mbC; rw [decide_eq_false h4]; rfl) (ret _ _ _ _ dS_member_40 hS (by unfold sv_mbS sv_mbC; rw [decide_eq_false h4]; exact hP))
  · skip
    refine lv_aload_n (i := 0) hx hb dS_member_7 rfl (sv_at hl rfl) ?_
    refine lv_iload_n (i := 1) hx hb dS_member_8 rfl (sv_at hl rfl) ?_
    refine kS_isQuota X (by decide) hP  hl (Nat.zero_le _) (Nat.zero_le _) (Nat.le_of_ble_eq_true rfl) dS_member_9 ?_
    refine x_ifeqB (tgt := 39) hx hb dS_member_12 rfl (fun h12 => ?_) (fun h12 => ?_)
    · skip
      refine lv_iconst (v := 0) hx hb dS_member_39 (by decide) ?_
      first | exact x_tv (by unfold sv_mbC; rw [nI_clamp (by omega), nI_clamp (by omega), h36, Bool.not_true, Bool.and_false, Bool.and_false, Bool.and_false]; rfl) (ret _ _ _ _ dS_member_40 hS (by unfold sv_mbS sv_mbC; rw [nI_clamp (by omega), nI_clamp (by omega), h36, Bool.not_true, Bool.and_false, Bool.and_false, Bool.and_false]; exact hP)) | exact x_tv (by unfold sv_mbC; rw [h20, Bool.false_and, Bool.and_false, Bool.and_false]; rfl) (ret _ _ _ _ dS_member_40 hS (by unfold sv_mbS sv_mbC; rw [h20, Bool.false_and, Bool.and_false, Bool.and_false]; exact hP)) | exact x_tv (by unfold sv_mbC; rw [h12, Bool.false_and, Bool.and_false]; rfl) (ret _ _ _ _ dS_member_40 hS (by unfold sv_mbS sv_mbC; rw [h12, Bool.false_and, Bool.and_false]; exact hP)) | exact x_tv (by unfold sv_mbC; rw [decide_eq_false h4]; rfl) (ret _ _ _ _ dS_member_40 hS (by unfold sv_mbS sv_mbC; rw [decide_eq_false h4]; exact hP))
    · skip
      obtain ⟨a, ha, rfl⟩ := sv_isn_t (by omega) h12
      refine lv_aload_n (i := 0) hx hb dS_member_15 rfl (sv_at hl rfl) ?_
      refine lv_iload_n (i := 2) hx hb dS_member_16 rfl (sv_at hl rfl) ?_
      refine kS_isNode X (by decide) hP  hl (Nat.zero_le _) (Nat.zero_le _) (Nat.le_of_ble_eq_true rfl) dS_member_17 ?_
      refine x_ifeqB (tgt := 39) hx hb dS_member_20 rfl (fun h20 => ?_) (fun h20 => ?_)
      · skip
        refine lv_iconst (v := 0) hx hb dS_member_39 (by decide) ?_
        first | exact x_tv (by unfold sv_mbC; rw [nI_clamp (by omega), nI_clamp (by omega), h36, Bool.not_true, Bool.and_false, Bool.and_false, Bool.and_false]; rfl) (ret _ _ _ _ dS_member_40 hS (by unfold sv_mbS sv_mbC; rw [nI_clamp (by omega), nI_clamp (by omega), h36, Bool.not_true, Bool.and_false, Bool.and_false, Bool.and_false]; exact hP)) | exact x_tv (by unfold sv_mbC; rw [h20, Bool.false_and, Bool.and_false, Bool.and_false]; rfl) (ret _ _ _ _ dS_member_40 hS (by unfold sv_mbS sv_mbC; rw [h20, Bool.false_and, Bool.and_false, Bool.and_false]; exact hP)) | exact x_tv (by unfold sv_mbC; rw [h12, Bool.false_and, Bool.and_false]; rfl) (ret _ _ _ _ dS_member_40 hS (by unfold sv_mbS sv_mbC; rw [h12, Bool.false_and, Bool.and_false]; exact hP)) | exact x_tv (by unfold sv_mbC; rw [decide_eq_false h4]; rfl) (ret _ _ _ _ dS_member_40 hS (by unfold sv_mbS sv_mbC; rw [decide_eq_false h4]; exact hP))
      · skip
        obtain ⟨b, hb9, rfl⟩ := sv_isn_t (by omega) h20
        refine lv_aload_n (i := 0) hx hb dS_member_23 rfl (sv_at hl rfl) ?_
        refine gS_quotas X hP dS_member_24 ?_
        refine lv_iload_n (i := 1) hx hb dS_member_27 rfl (sv_at hl rfl) ?_
        refine gA_quotas X hP hn (by omega) (by omega) dS_member_28 ?_
        refine gQ_members X hP (by omega) dS_member_29 ?_
        refine lv_iload_n (i := 2) hx hb dS_member_32 rfl (sv_at hl rfl) ?_
        refine kS_has X (by decide) (by omega) hl (Nat.zero_le _) (Nat.zero_le _) (Nat.le_of_ble_eq_true rfl) dS_member_33 ?_
        refine x_ifeqB (tgt := 41) hx hb dS_member_36 rfl (fun h36 => ?_) (fun h36 => ?_)
        · skip
          refine lv_aload_n (i := 0) hx hb dS_member_41 rfl (sv_at hl rfl) ?_
          refine gS_quotas X hP dS_member_42 ?_
          refine lv_iload_n (i := 1) hx hb dS_member_45 rfl (sv_at hl rfl) ?_
          refine gA_quotas X hP hn (by omega) (by omega) dS_member_46 ?_
          refine lv_dup hx hb dS_member_47 rfl ?_
          refine gQ_members X hP (by omega) dS_member_48 ?_
          refine lv_iconst (v := 1) hx hb dS_member_51 (by decide) ?_
          refine lv_iload_n (i := 2) hx hb dS_member_52 rfl (sv_at hl rfl) ?_
          refine lv_ishl hx hb dS_member_53 ?_
          refine lv_ior hx hb dS_member_54 ?_
          refine pQ_members X hP hJ hA hS ha dS_member_55 (fun H locs hP hS => ?_)
          refine lv_iconst (v := 1) hx hb dS_member_58 (by decide) ?_
          exact x_tv (by unfold sv_mbC; rw [decide_eq_true h4, h12, h20, nI_clamp (by omega), nI_clamp (by omega), h36]; rfl) (ret _ _ _ _ dS_member_59 hS (by unfold sv_mbS sv_mbC; rw [decide_eq_true h4, h12, h20, nI_clamp (by omega), nI_clamp (by omega), h36]; exact hP))
        · skip
          refine lv_iconst (v := 0) hx hb dS_member_39 (by decide) ?_
          first | exact x_tv (by unfold sv_mbC; rw [nI_clamp (by omega), nI_clamp (by omega), h36, Bool.not_true, Bool.and_false, Bool.and_false, Bool.and_false]; rfl) (ret _ _ _ _ dS_member_40 hS (by unfold sv_mbS sv_mbC; rw [nI_clamp (by omega), nI_clamp (by omega), h36, Bool.not_true, Bool.and_false, Bool.and_false, Bool.and_false]; exact hP)) | exact x_tv (by unfold sv_mbC; rw [h20, Bool.false_and, Bool.and_false, Bool.and_false]; rfl) (ret _ _ _ _ dS_member_40 hS (by unfold sv_mbS sv_mbC; rw [h20, Bool.false_and, Bool.and_false, Bool.and_false]; exact hP)) | exact x_tv (by unfold sv_mbC; rw [h12, Bool.false_and, Bool.and_false]; rfl) (ret _ _ _ _ dS_member_40 hS (by unfold sv_mbS sv_mbC; rw [h12, Bool.false_and, Bool.and_false]; exact hP)) | exact x_tv (by unfold sv_mbC; rw [decide_eq_false h4]; rfl) (ret _ _ _ _ dS_member_40 hS (by unfold sv_mbS sv_mbC; rw [decide_eq_false h4]; exact hP))

theorem cS_m_member (hJ : sv_inj (3 + 3 * n + qc) ad) (hA : ∀ k, k < (3 + 3 * n + qc) → A (ad k)) {v w : Int32} (hn : n ≤ 6) (hq24 : qc ≤ 24) (h4n : qc ≤ 4 * n) : Met l yS_member (sv_ws yS_member cS_member 3 (some .boolean)) (sv_rm 2) (sv_Pc D cI cZ cN cQ [.ref (ad 0), .int v, .int w] (fun H => sv_cP D cI cN cQ n qc ad σ H)) (va_Qi (fun r u => r = sv_b (sv_mbC n qc σ v w) ∧ u = sv_mbS n qc σ v w) (fun u t => sv_cP D cI cN cQ n qc ad u t.heap) A) 0 0 A :=
  sv_mkI (S := Sg) (B := fun u H => sv_cP D cI cN cQ n qc ad u H) (by decide) (by show 3 ≤ 3; decide) (fun _ _ h => by rw [h.1]; exact sv_narb _) (fun p e s m below meth c ls Q X hP hl ret => wS_member X hP hJ hA va_S.rf hn hq24 h4n hl (fun pc ls H locs hd hS hP => ret pc ls _ _ H locs hd hS ⟨rfl, rfl⟩ hP))
theorem okL_S_member : sv_okV "SliceVotingLaw" 26 yS_member cS_member 3 (some .boolean) 2 := ⟨sv_tb_t 144 rfl rfl, sv_tb_t 141 rfl rfl, sv_tb_t 142 rfl rfl, sv_tb_t 143 rfl rfl, sv_tb_t 1 rfl rfl, ⟨by decide, by decide, by decide +kernel⟩, by decide⟩
theorem kL_member (X : sv_X D cI cZ cN cQ "SliceVotingLaw" cc nL k p R s m args c) (hk : 2 + 1 ≤ k) (hP : sv_cP D cI cN cQ n qc ad σ H) (hJ : sv_inj (3 + 3 * n + qc) ad) (hA : ∀ k, k < (3 + 3 * n + qc) → A (ad k)) (hS : va_S A H0 H locs) {v w : Int32} (hn : n ≤ 6) (hq24 : qc ≤ 24) (h4n : qc ≤ 4 * n) (hl : lv_has ls nL lv) (hc : cells ≤ R.cells) (hs : slots ≤ R.slots) (hcat : (rest.map fun v => v.category).sum ≤ 8) (hd : decode cc pc = .ok (.invokevirtual 26, 3)) (kk : ∀ (H1 : Heap) (locs1 : List Loc), sv_cP D cI cN cQ n qc ad (sv_mbS n qc σ v w) H1 → va_S A H0 H1 locs1 → W p l e R s m args below meth c H1 locs1 cells slots Q (F0 m (pc + 3) ls (.int (sv_b (sv_mbC n qc σ v w)) :: rest))) : W p l e R s m args below meth c H locs cells slots Q (F0 m pc ls (.int w :: .int v :: .ref (ad 0) :: rest)) :=
  sv_wVi (S := Sg) (G := fun H => sv_cP D cI cN cQ n qc ad σ H) (B := fun u H => sv_cP D cI cN cQ n qc ad u H) X okL_S_member (cS_m_member hJ hA hn hq24 h4n) hP (y_rec X.K hP (by omega) sv_ce_S rfl) hS hk rfl hl.1 rfl hcat hc hs hd (fun r u H1 locs1 hp hB hS => by obtain ⟨rfl, rfl⟩ := hp; exact kk H1 locs1 hB hS)
def sv_prC (n : Nat) (σ : Sg) (v c x : Int32) : Bool := sv_wel n σ v && (decide (¬ nI 4 < c) && (decide (¬ x < 0) && (decide (x < nI 3) && decide (σ 13 v.toNatClampNeg < c))))
def sv_pr1 (σ : Sg) (j : Nat) (c x : Int32) : Sg := sg (sg (sg σ 1 0 1) 14 j (sv_chr (sg σ 1 0 1) j x)) 13 j c
def sv_prS (n qc : Nat) (σ : Sg) (v c x : Int32) : Sg := bif sv_prC n σ v c x then sv_set n qc v.toNatClampNeg 49 (sv_vts (sv_pr1 σ v.toNatClampNeg c x) v.toNatClampNeg c.toNatClampNeg) else σ
def sv_prR (n qc : Nat) (σ : Sg) (v c x : Int32) : Int32 := bif sv_prC n σ v c x then sv_prS n qc σ v c x 14 v.toNatClampNeg else -1
theorem sv_pr1_Q {σ : Sg} {j : Nat} {c x : Int32} : sv_eqQ σ (sv_pr1 σ j c x) := sv_eqQ_tr (sv_eqQ_tr (sv_eqQ_sg (Or.inl (by decide))) (sv_eqQ_sg (Or.inr (by decide)))) (sv_eqQ_sg (Or.inr (by decide)))
theorem sv_pr1_ok {n : Nat} {σ : Sg} {j cN x0 : Nat} (h : sv_IS n σ) (hc : cN ≤ 4) (hx : x0 ≤ 2) : sv_IS n (sv_pr1 σ j (nI cN) (nI x0)) ∧ ∃ y, y ≤ 2 ∧ sv_pr1 σ j (nI cN) (nI x0) 14 j = nI y := by
  obtain ⟨y, hy, ey⟩ := sv_chr_le (n := n) (v := j) (σ := sg σ 1 0 1) hx
  have h1 := sv_IS_1 h
  have e14 : sv_pr1 σ j (nI cN) (nI x0) 14 j = nI y := by
    unfold sv_pr1
    rw [sg_off _ _ (Or.inl (by decide)), sg_at, ey]
  refine ⟨⟨?_, fun u hu => ?_⟩, y, hy, e14⟩
  · unfold sv_pr1
    rw [sg_off _ _ (Or.inl (by decide)), sg_off _ _ (Or.inl (by decide))]
    exact h1.1
  · obtain ⟨a1, a2, a3, a4⟩ := h1.2 u hu
    refine ⟨?_, ?_, ?_, ?_⟩
    · unfold sv_pr1
      rw [sg_off _ _ (Or.inl (by decide)), sg_off _ _ (Or.inl (by decide))]
      exact a1
    · by_cases e : u = j
      · subst e
        exact ⟨cN, hc, sg_at _ _ _ _⟩
      · unfold sv_pr1
        rw [sg_off _ _ (Or.inr e), sg_off _ _ (Or.inr e)]
        exact a2
    · by_cases e : u = j
      · subst e
        exact ⟨y, hy, e14⟩
      · unfold sv_pr1
        rw [sg_off _ _ (Or.inr e), sg_off _ _ (Or.inr e)]
        exact a3
    · unfold sv_pr1
      rw [sg_off _ _ (Or.inl (by decide)), sg_off _ _ (Or.inl (by decide))]
      exact a4
theorem sv_cpos {c : Int32} {k : Nat} (hk : k ≤ 4) (h1 : nI k < c) (h2 : ¬ nI 4 < c) : ∃ cN, c = nI cN ∧ k < cN ∧ cN ≤ 4 := by
  rw [Int32.not_lt] at h2
  obtain ⟨j, hj, rfl⟩ := nI_of (x := c) (fun q => by
    have a := nI_pos' (n := k) (by omega)
    rw [Int32.lt_iff_toInt_lt] at q h1
    rw [Int32.le_iff_toInt_le] at a
    omega)
  rw [nI_ltI (by omega) hj] at h1
  rw [nI_leI hj (by decide)] at h2
  exact ⟨j, rfl, h1, h2⟩
theorem sv_xsm {x : Int32} (h1 : ¬ x < 0) (h2 : x < nI 3) : ∃ x0, x = nI x0 ∧ x0 ≤ 2 := by
  obtain ⟨j, hj, rfl⟩ := nI_of h1
  rw [nI_ltI hj (by decide)] at h2
  exact ⟨j, rfl, by omega⟩
theorem sv_vts_s {σ : Sg} {v k y : Nat} (hy : y < 2 ^ 31) (h : σ 14 v = nI y) (hk : 3 * k + y < 32) : sv_vS (sv_vts σ v k) v (3 * k + y) = sv_vts σ v (k + 1) := by
  rw [sv_vS_eq hk]
  show _ = sv_vote _ _ _
  rw [h, nI_clamp hy]
set_option maxHeartbeats 4000000 in
set_option maxRecDepth 100000 in
theorem wS_propose_J (X : sv_X D cI cZ cN cQ "SliceVoting" cS_propose 6 10 p R s m args c) (hJ : sv_inj (3 + 3 * n + qc) ad) (hA : ∀ k, k < 3 + 3 * n + qc → A (ad k)) (hn : n ≤ 6) (hI : sv_IQ n qc σ) {j cM x0 y0 : Nat} (hj : j < n) (hc4 : cM ≤ 4) (hy2 : y0 ≤ 2) (h1S : sv_IS n (sv_pr1 σ j (nI cM) (nI x0))) (e14 : (sv_pr1 σ j (nI cM) (nI x0)) 14 j = nI y0) (ret : ∀ (pc : Nat) (ls : Array Slot) (H : Heap) (locs : List Loc), decode cS_propose pc = .ok (.ireturn, 1) → va_S A H0 H locs → sv_cP D cI cN cQ n qc ad (sv_set n qc j 49 (sv_vts (sv_pr1 σ j (nI cM) (nI x0)) j cM)) H → W p l e R s m args below meth c H locs 0 0 Q (F0 m pc ls [.int (sv_set n qc j 49 (sv_vts (sv_pr1 σ j (nI cM) (nI x0)) j cM) 14 j)])) : ∀ (kf i : Nat) (H : Heap) (locs : List Loc) (ls : Array Slot), cM - i < kf → i ≤ cM → sv_cP D cI cN cQ n qc ad (sv_vts (sv_pr1 σ j (nI cM) (nI x0)) j i) H → va_S A H0 H locs → lv_has ls 6 [(0, .ref (ad 0)), (1, .int (nI j)), (2, .int (nI cM)), (3, .int (nI x0)), (4, .ref (ad (2 + 3 * j))), (5, .int (nI (i + 1)))] → W p l e R s m args below meth c H locs 0 0 Q (F0 m 68 ls []) := by
  have hx := X.1
  have hb := X.2.1
  intro kf
  induction kf with
  | zero => intro i H locs ls hm; exact absurd hm (Nat.not_lt_zero _)
  | succ kf ih =>
    intro i H locs ls hm hi hP hS hl
    refine lv_iload (i := 5) hx hb dS_propose_68 (sv_at hl rfl) ?_
    refine lv_iload_n (i := 2) hx hb dS_propose_70 rfl (sv_at hl rfl) ?_
    refine lv_icmp_gt (tgt := 96) hx hb dS_propose_71 rfl (fun h71 => ?_) (fun h71 => ?_)
    · skip
      rw [nI_ltI (by omega) (by omega)] at h71
      obtain rfl : i = cM := by omega
      refine lv_aload_n (i := 0) hx hb dS_propose_96 rfl (sv_at hl rfl) ?_
      refine lv_aload (i := 4) hx hb dS_propose_97 (sv_at hl rfl) ?_
      refine kS_settle X (by decide) hP hJ hA hS hn (sv_IQ_cg (sv_vts_ok h1S _).2.1 (sv_IQ_cg sv_pr1_Q hI)) (sv_vts_ok h1S _).1 hj hl (Nat.zero_le _) (Nat.zero_le _) (Nat.le_of_ble_eq_true rfl) dS_propose_99 (fun H locs hP hS => ?_)
      refine lv_aload (i := 4) hx hb dS_propose_102 (sv_at hl rfl) ?_
      refine gN_value X hP (by omega) dS_propose_104 ?_
      exact ret _ _ _ _ dS_propose_107 hS hP
    · skip
      rw [nI_ltI (by omega) (by omega)] at h71
      refine lv_aload (i := 4) hx hb dS_propose_74 (sv_at hl rfl) ?_
      refine lv_iload (i := 5) hx hb dS_propose_76 (sv_at hl rfl) ?_
      refine lv_aload (i := 4) hx hb dS_propose_78 (sv_at hl rfl) ?_
      refine gN_value X hP (by omega) dS_propose_80 ?_
      refine x_tv (y := nI y0) (by rw [(sv_vts_ok (v := j) h1S i).2.2 14 (by decide)]; exact e14) ?_
      refine kS_ballot X (by decide) (by omega) hl (Nat.zero_le _) (Nat.zero_le _) (Nat.le_of_ble_eq_true rfl) dS_propose_83 ?_
      refine x_tv (y := nI (3 * i + y0)) (by rw [show i + 1 - 1 = i by omega]) ?_
      refine kS_voteIfAllowed X (by decide) hP hJ hA hS hn hj (by omega) hl (Nat.zero_le _) (Nat.zero_le _) (Nat.le_of_ble_eq_true rfl) dS_propose_86 (fun H locs hP hS => ?_)
      rw [sv_vts_s (by omega) e14 (by omega)] at hP
      refine lv_pop hx hb dS_propose_89 rfl ?_
      refine x_iinc (i := 5) hx hb dS_propose_90 hl rfl (sv_inc (i + 1)) (by decide) (fun ls hl => ?_)
      refine lv_goto (tgt := 68) hx hb dS_propose_93 rfl ?_
      exact ih (i + 1) H locs ls (by omega) (by omega) hP hS (sv_re hl ⟨rfl, rfl, rfl, rfl, rfl, rfl, trivial⟩)

set_option maxHeartbeats 4000000 in
set_option maxRecDepth 100000 in
theorem wS_propose (X : sv_X D cI cZ cN cQ "SliceVoting" cS_propose 6 10 p R s m args c) (hP : sv_cP D cI cN cQ n qc ad σ H) (hJ : sv_inj (3 + 3 * n + qc) ad) (hA : ∀ k, k < (3 + 3 * n + qc) → A (ad k)) (hS : va_S A H0 H locs) {v w x : Int32} (hn : n ≤ 6) (hI : sv_IQ n qc σ) (hIS : sv_IS n σ) (hl : lv_has ls 6 [(0, .ref (ad 0)), (1, .int v), (2, .int w), (3, .int x)]) (ret : ∀ (pc : Nat) (ls : Array Slot) (H : Heap) (locs : List Loc), decode cS_propose pc = .ok (.ireturn, 1) → va_S A H0 H locs → sv_cP D cI cN cQ n qc ad (sv_prS n qc σ v w x) H → W p l e R s m args below meth c H locs 0 0 Q (F0 m pc ls [.int (sv_prR n qc σ v w x)])) : W p l e R s m args below meth c H locs 0 0 Q (F0 m 0 ls []) := by
  have hx := X.1
  have hb := X.2.1
  refine lv_aload_n (i := 0) hx hb dS_propose_0 rfl (sv_at hl rfl) ?_
  refine lv_iload_n (i := 1) hx hb dS_propose_1 rfl (sv_at hl rfl) ?_
  refine kS_isWellBehaved X (by decide) hP hn hl (Nat.zero_le _) (Nat.zero_le _) (Nat.le_of_ble_eq_true rfl) dS_propose_2 ?_
  refine x_ifeqB (tgt := 22) hx hb dS_propose_5 rfl (fun h5 => ?_) (fun h5 => ?_)
  · skip
    refine lv_iconst (v := -1) hx hb dS_propose_22 (by decide) ?_
    first | (have ee : ¬ σ 13 j < w := h38; exact x_tv (by unfold sv_prR sv_prC; rw [nI_clamp (by omega), decide_eq_false h38, Bool.and_false, Bool.and_false, Bool.and_false, Bool.and_false]; rfl) (ret _ _ _ _ dS_propose_23 hS (by unfold sv_prS sv_prC; rw [nI_clamp (by omega), decide_eq_false h38, Bool.and_false, Bool.and_false, Bool.and_false, Bool.and_false]; exact hP))) | (have ee : ¬ x < nI 3 := h19; exact x_tv (by unfold sv_prR sv_prC; rw [decide_eq_false h19, Bool.false_and, Bool.and_false, Bool.and_false, Bool.and_false]; rfl) (ret _ _ _ _ dS_propose_23 hS (by unfold sv_prS sv_prC; rw [decide_eq_false h19, Bool.false_and, Bool.and_false, Bool.and_false, Bool.and_false]; exact hP))) | (have ee : x < 0 := h14; exact x_tv (by unfold sv_prR sv_prC; rw [decide_eq_false (show ¬ ¬ x < 0 from fun q => q h14), Bool.false_and, Bool.and_false, Bool.and_false]; rfl) (ret _ _ _ _ dS_propose_23 hS (by unfold sv_prS sv_prC; rw [decide_eq_false (show ¬ ¬ x < 0 from fun q => q h14), Bool.false_and, Bool.and_false, Bool.and_false]; exact hP))) | (have ee : nI 4 < w := h10; exact x_tv (by unfold sv_prR sv_prC; rw [decide_eq_false (show ¬ ¬ nI 4 < w from fun q => q h10), Bool.false_and, Bool.and_false]; rfl) (ret _ _ _ _ dS_propose_23 hS (by unfold sv_prS sv_prC; rw [decide_eq_false (show ¬ ¬ nI 4 < w from fun q => q h10), Bool.false_and, Bool.and_false]; exact hP))) | (have ee : sv_wel n σ v = false := h5; exact x_tv (by unfold sv_prR sv_prC; rw [h5]; rfl) (ret _ _ _ _ dS_propose_23 hS (by unfold sv_prS sv_prC; rw [h5]; exact hP)))
  · skip
    obtain ⟨j, hj, rfl, hj9⟩ := sv_wel_t (by omega) h5
    obtain ⟨-, ⟨kq, hk4, e13⟩, -, -⟩ := hIS.2 j hj
    refine lv_iload_n (i := 2) hx hb dS_propose_8 rfl (sv_at hl rfl) ?_
    refine lv_iconst (v := nI 4) hx hb dS_propose_9 (by decide) ?_
    refine lv_icmp_gt (tgt := 22) hx hb dS_propose_10 rfl (fun h10 => ?_) (fun h10 => ?_)
    · skip
      refine lv_iconst (v := -1) hx hb dS_propose_22 (by decide) ?_
      first | (have ee : ¬ σ 13 j < w := h38; exact x_tv (by unfold sv_prR sv_prC; rw [nI_clamp (by omega), decide_eq_false h38, Bool.and_false, Bool.and_false, Bool.and_false, Bool.and_false]; rfl) (ret _ _ _ _ dS_propose_23 hS (by unfold sv_prS sv_prC; rw [nI_clamp (by omega), decide_eq_false h38, Bool.and_false, Bool.and_false, Bool.and_false, Bool.and_false]; exact hP))) | (have ee : ¬ x < nI 3 := h19; exact x_tv (by unfold sv_prR sv_prC; rw [decide_eq_false h19, Bool.false_and, Bool.and_false, Bool.and_false, Bool.and_false]; rfl) (ret _ _ _ _ dS_propose_23 hS (by unfold sv_prS sv_prC; rw [decide_eq_false h19, Bool.false_and, Bool.and_false, Bool.and_false, Bool.and_false]; exact hP))) | (have ee : x < 0 := h14; exact x_tv (by unfold sv_prR sv_prC; rw [decide_eq_false (show ¬ ¬ x < 0 from fun q => q h14), Bool.false_and, Bool.and_false, Bool.and_false]; rfl) (ret _ _ _ _ dS_propose_23 hS (by unfold sv_prS sv_prC; rw [decide_eq_false (show ¬ ¬ x < 0 from fun q => q h14), Bool.false_and, Bool.and_false, Bool.and_false]; exact hP))) | (have ee : nI 4 < w := h10; exact x_tv (by unfold sv_prR sv_prC; rw [decide_eq_false (show ¬ ¬ nI 4 < w from fun q => q h10), Bool.false_and, Bool.and_false]; rfl) (ret _ _ _ _ dS_propose_23 hS (by unfold sv_prS sv_prC; rw [decide_eq_false (show ¬ ¬ nI 4 < w from fun q => q h10), Bool.false_and, Bool.and_false]; exact hP))) | (have ee : sv_wel n σ v = false := h5; exact x_tv (by unfold sv_prR sv_prC; rw [h5]; rfl) (ret _ _ _ _ dS_propose_23 hS (by unfold sv_prS sv_prC; rw [h5]; exact hP)))
    · skip
      refine lv_iload_n (i := 3) hx hb dS_propose_13 rfl (sv_at hl rfl) ?_
      refine lv_if_lt (tgt := 22) hx hb dS_propose_14 rfl (fun h14 => ?_) (fun h14 => ?_)
      · skip
        refine lv_iconst (v := -1) hx hb dS_propose_22 (by decide) ?_
        first | (have ee : ¬ σ 13 j < w := h38; exact x_tv (by unfold sv_prR sv_prC; rw [nI_clamp (by omega), decide_eq_false h38, Bool.and_false, Bool.and_false, Bool.and_false, Bool.and_false]; rfl) (ret _ _ _ _ dS_propose_23 hS (by unfold sv_prS sv_prC; rw [nI_clamp (by omega), decide_eq_false h38, Bool.and_false, Bool.and_false, Bool.and_false, Bool.and_false]; exact hP))) | (have ee : ¬ x < nI 3 := h19; exact x_tv (by unfold sv_prR sv_prC; rw [decide_eq_false h19, Bool.false_and, Bool.and_false, Bool.and_false, Bool.and_false]; rfl) (ret _ _ _ _ dS_propose_23 hS (by unfold sv_prS sv_prC; rw [decide_eq_false h19, Bool.false_and, Bool.and_false, Bool.and_false, Bool.and_false]; exact hP))) | (have ee : x < 0 := h14; exact x_tv (by unfold sv_prR sv_prC; rw [decide_eq_false (show ¬ ¬ x < 0 from fun q => q h14), Bool.false_and, Bool.and_false, Bool.and_false]; rfl) (ret _ _ _ _ dS_propose_23 hS (by unfold sv_prS sv_prC; rw [decide_eq_false (show ¬ ¬ x < 0 from fun q => q h14), Bool.false_and, Bool.and_false, Bool.and_false]; exact hP))) | (have ee : nI 4 < w := h10; exact x_tv (by unfold sv_prR sv_prC; rw [decide_eq_false (show ¬ ¬ nI 4 < w from fun q => q h10), Bool.false_and, Bool.and_false]; rfl) (ret _ _ _ _ dS_propose_23 hS (by unfold sv_prS sv_prC; rw [decide_eq_false (show ¬ ¬ nI 4 < w from fun q => q h10), Bool.false_and, Bool.and_false]; exact hP))) | (have ee : sv_wel n σ v = false := h5; exact x_tv (by unfold sv_prR sv_prC; rw [h5]; rfl) (ret _ _ _ _ dS_propose_23 hS (by unfold sv_prS sv_prC; rw [h5]; exact hP)))
      · skip
        refine lv_iload_n (i := 3) hx hb dS_propose_17 rfl (sv_at hl rfl) ?_
        refine lv_iconst (v := nI 3) hx hb dS_propose_18 (by decide) ?_
        refine lv_icmp_lt (tgt := 24) hx hb dS_propose_19 rfl (fun h19 => ?_) (fun h19 => ?_)
        · skip
          refine lv_aload_n (i := 0) hx hb dS_propose_24 rfl (sv_at hl rfl) ?_
          refine gS_nodes X hP dS_propose_25 ?_
          refine lv_iload_n (i := 1) hx hb dS_propose_28 rfl (sv_at hl rfl) ?_
          refine gA_nodes X hP hn (by omega) dS_propose_29 ?_
          refine lv_astore (i := 4) hx hb dS_propose_30 hl (by decide) rfl (fun ls hl => ?_)
          refine lv_iload_n (i := 2) hx hb dS_propose_32 rfl (sv_at hl rfl) ?_
          refine lv_aload (i := 4) hx hb dS_propose_33 (sv_at hl rfl) ?_
          refine gN_counter X hP (by omega) dS_propose_35 ?_
          refine lv_icmp_gt (tgt := 43) hx hb dS_propose_38 rfl (fun h38 => ?_) (fun h38 => ?_)
          · skip
            have h38b := h38
            rw [e13] at h38b
            obtain ⟨cM, rfl, hc1, hc4⟩ := sv_cpos hk4 h38b h10
            obtain ⟨x0, rfl, hx2⟩ := sv_xsm h14 h19
            obtain ⟨h1S, y0, hy2, e14⟩ := sv_pr1_ok (j := j) hIS hc4 hx2
            refine lv_aload_n (i := 0) hx hb dS_propose_43 rfl (sv_at hl rfl) ?_
            refine lv_iconst (v := 1) hx hb dS_propose_44 (by decide) ?_
            refine pS_moving X hP hJ hA hS dS_propose_45 (fun H locs hP hS => ?_)
            refine lv_aload (i := 4) hx hb dS_propose_48 (sv_at hl rfl) ?_
            refine lv_aload (i := 4) hx hb dS_propose_50 (sv_at hl rfl) ?_
            refine lv_iload_n (i := 3) hx hb dS_propose_52 rfl (sv_at hl rfl) ?_
            refine kS_valueToPropose X (by decide) hP hn (sv_IS_1 hIS) hj hl (Nat.zero_le _) (Nat.zero_le _) (Nat.le_of_ble_eq_true rfl) dS_propose_53 ?_
            refine pN_value X hP hJ hA hS (by omega) dS_propose_56 (fun H locs hP hS => ?_)
            refine lv_aload (i := 4) hx hb dS_propose_59 (sv_at hl rfl) ?_
            refine lv_iload_n (i := 2) hx hb dS_propose_61 rfl (sv_at hl rfl) ?_
            refine pN_counter X hP hJ hA hS (by omega) dS_propose_62 (fun H locs hP hS => ?_)
            refine lv_iconst (v := 1) hx hb dS_propose_65 (by decide) ?_
            refine lv_istore (i := 5) hx hb dS_propose_66 hl (by decide) rfl (fun ls hl => ?_)
            refine wS_propose_J X hJ hA hn hI hj hc4 hy2 h1S e14 (fun pc ls H locs hd hS hP => ?_) _ 0 H locs ls (Nat.lt_succ_self _) (Nat.zero_le _) hP hS (sv_re hl ⟨rfl, rfl, rfl, rfl, rfl, rfl, trivial⟩)
            have eC : sv_prC n σ (nI j) (nI cM) (nI x0) = true := by unfold sv_prC; rw [h5, decide_eq_true h10, decide_eq_true h14, decide_eq_true h19, nI_clamp (by omega), decide_eq_true h38]; rfl
            have eS : sv_prS n qc σ (nI j) (nI cM) (nI x0) = sv_set n qc j 49 (sv_vts (sv_pr1 σ j (nI cM) (nI x0)) j cM) := by unfold sv_prS; rw [eC, nI_clamp (by omega), nI_clamp (by omega)]; rfl
            exact x_tv (by unfold sv_prR; rw [eC, eS, nI_clamp (by omega)]; rfl) (ret _ _ _ _ hd hS (by rw [eS]; exact hP))
          · skip
            refine lv_iconst (v := -1) hx hb dS_propose_41 (by decide) ?_
            first | (have ee : ¬ σ 13 j < w := h38; exact x_tv (by unfold sv_prR sv_prC; rw [nI_clamp (by omega), decide_eq_false h38, Bool.and_false, Bool.and_false, Bool.and_false, Bool.and_false]; rfl) (ret _ _ _ _ dS_propose_42 hS (by unfold sv_prS sv_prC; rw [nI_clamp (by omega), decide_eq_false h38, Bool.and_false, Bool.and_false, Bool.and_false, Bool.and_false]; exact hP))) | (have ee : ¬ x < nI 3 := h19; exact x_tv (by unfold sv_prR sv_prC; rw [decide_eq_false h19, Bool.false_and, Bool.and_false, Bool.and_false, Bool.and_false]; rfl) (ret _ _ _ _ dS_propose_42 hS (by unfold sv_prS sv_prC; rw [decide_eq_false h19, Bool.false_and, Bool.and_false, Bool.and_false, Bool.and_false]; exact hP))) | (have ee : x < 0 := h14; exact x_tv (by unfold sv_prR sv_prC; rw [decide_eq_false (show ¬ ¬ x < 0 from fun q => q h14), Bool.false_and, Bool.and_false, Bool.and_false]; rfl) (ret _ _ _ _ dS_propose_42 hS (by unfold sv_prS sv_prC; rw [decide_eq_false (show ¬ ¬ x < 0 from fun q => q h14), Bool.false_and, Bool.and_false, Bool.and_false]; exact hP))) | (have ee : nI 4 < w := h10; exact x_tv (by unfold sv_prR sv_prC; rw [decide_eq_false (show ¬ ¬ nI 4 < w from fun q => q h10), Bool.false_and, Bool.and_false]; rfl) (ret _ _ _ _ dS_propose_42 hS (by unfold sv_prS sv_prC; rw [decide_eq_false (show ¬ ¬ nI 4 < w from fun q => q h10), Bool.false_and, Bool.and_false]; exact hP))) | (have ee : sv_wel n σ v = false := h5; exact x_tv (by unfold sv_prR sv_prC; rw [h5]; rfl) (ret _ _ _ _ dS_propose_42 hS (by unfold sv_prS sv_prC; rw [h5]; exact hP)))
        · skip
          refine lv_iconst (v := -1) hx hb dS_propose_22 (by decide) ?_
          first | (have ee : ¬ σ 13 j < w := h38; exact x_tv (by unfold sv_prR sv_prC; rw [nI_clamp (by omega), decide_eq_false h38, Bool.and_false, Bool.and_false, Bool.and_false, Bool.and_false]; rfl) (ret _ _ _ _ dS_propose_23 hS (by unfold sv_prS sv_prC; rw [nI_clamp (by omega), decide_eq_false h38, Bool.and_false, Bool.and_false, Bool.and_false, Bool.and_false]; exact hP))) | (have ee : ¬ x < nI 3 := h19; exact x_tv (by unfold sv_prR sv_prC; rw [decide_eq_false h19, Bool.false_and, Bool.and_false, Bool.and_false, Bool.and_false]; rfl) (ret _ _ _ _ dS_propose_23 hS (by unfold sv_prS sv_prC; rw [decide_eq_false h19, Bool.false_and, Bool.and_false, Bool.and_false, Bool.and_false]; exact hP))) | (have ee : x < 0 := h14; exact x_tv (by unfold sv_prR sv_prC; rw [decide_eq_false (show ¬ ¬ x < 0 from fun q => q h14), Bool.false_and, Bool.and_false, Bool.and_false]; rfl) (ret _ _ _ _ dS_propose_23 hS (by unfold sv_prS sv_prC; rw [decide_eq_false (show ¬ ¬ x < 0 from fun q => q h14), Bool.false_and, Bool.and_false, Bool.and_false]; exact hP))) | (have ee : nI 4 < w := h10; exact x_tv (by unfold sv_prR sv_prC; rw [decide_eq_false (show ¬ ¬ nI 4 < w from fun q => q h10), Bool.false_and, Bool.and_false]; rfl) (ret _ _ _ _ dS_propose_23 hS (by unfold sv_prS sv_prC; rw [decide_eq_false (show ¬ ¬ nI 4 < w from fun q => q h10), Bool.false_and, Bool.and_false]; exact hP))) | (have ee : sv_wel n σ v = false := h5; exact x_tv (by unfold sv_prR sv_prC; rw [h5]; rfl) (ret _ _ _ _ dS_propose_23 hS (by unfold sv_prS sv_prC; rw [h5]; exact hP)))

theorem cS_m_propose (hJ : sv_inj (3 + 3 * n + qc) ad) (hA : ∀ k, k < (3 + 3 * n + qc) → A (ad k)) {v w x : Int32} (hn : n ≤ 6) (hI : sv_IQ n qc σ) (hIS : sv_IS n σ) : Met l yS_propose (sv_ws yS_propose cS_propose 6 (some .int)) (sv_rm 10) (sv_Pc D cI cZ cN cQ [.ref (ad 0), .int v, .int w, .int x] (fun H => sv_cP D cI cN cQ n qc ad σ H)) (va_Qi (fun r u => r = sv_prR n qc σ v w x ∧ u = sv_prS n qc σ v w x) (fun u t => sv_cP D cI cN cQ n qc ad u t.heap) A) 0 0 A :=
  sv_mkI (S := Sg) (B := fun u H => sv_cP D cI cN cQ n qc ad u H) (by decide) (by show 4 ≤ 6; decide) (fun _ _ _ => rfl) (fun p e s m below meth c ls Q X hP hl ret => wS_propose X hP hJ hA va_S.rf hn hI hIS hl (fun pc ls H locs hd hS hP => ret pc ls _ _ H locs hd hS ⟨rfl, rfl⟩ hP))
theorem okL_S_propose : sv_okV "SliceVotingLaw" 36 yS_propose cS_propose 6 (some .int) 3 := ⟨sv_tb_t 159 rfl rfl, sv_tb_t 156 rfl rfl, sv_tb_t 157 rfl rfl, sv_tb_t 158 rfl rfl, sv_tb_t 1 rfl rfl, ⟨by decide, by decide, by decide +kernel⟩, by decide⟩
theorem kL_propose (X : sv_X D cI cZ cN cQ "SliceVotingLaw" cc nL k p R s m args c) (hk : 10 + 1 ≤ k) (hP : sv_cP D cI cN cQ n qc ad σ H) (hJ : sv_inj (3 + 3 * n + qc) ad) (hA : ∀ k, k < (3 + 3 * n + qc) → A (ad k)) (hS : va_S A H0 H locs) {v w x : Int32} (hn : n ≤ 6) (hI : sv_IQ n qc σ) (hIS : sv_IS n σ) (hl : lv_has ls nL lv) (hc : cells ≤ R.cells) (hs : slots ≤ R.slots) (hcat : (rest.map fun v => v.category).sum ≤ 8) (hd : decode cc pc = .ok (.invokevirtual 36, 3)) (kk : ∀ (H1 : Heap) (locs1 : List Loc), sv_cP D cI cN cQ n qc ad (sv_prS n qc σ v w x) H1 → va_S A H0 H1 locs1 → W p l e R s m args below meth c H1 locs1 cells slots Q (F0 m (pc + 3) ls (.int (sv_prR n qc σ v w x) :: rest))) : W p l e R s m args below meth c H locs cells slots Q (F0 m pc ls (.int x :: .int w :: .int v :: .ref (ad 0) :: rest)) :=
  sv_wVi (S := Sg) (G := fun H => sv_cP D cI cN cQ n qc ad σ H) (B := fun u H => sv_cP D cI cN cQ n qc ad u H) X okL_S_propose (cS_m_propose hJ hA hn hI hIS) hP (y_rec X.K hP (by omega) sv_ce_S rfl) hS hk rfl hl.1 rfl hcat hc hs hd (fun r u H1 locs1 hp hB hS => by obtain ⟨rfl, rfl⟩ := hp; exact kk H1 locs1 hB hS)
end SvPropose
