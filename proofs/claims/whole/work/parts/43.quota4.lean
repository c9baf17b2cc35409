section SvQuota4
variable {p : Program} {l : Launch} {e : Env} {R : Room} {s : State} {m : MethodId} {args : Array Value} {below : List Frame} {meth : Method} {c : Code} {H H0 : Heap} {locs : List Loc} {cells slots : Nat} {Q : State → Prop}
variable {cc : ByteArray} {pc nL k : Nat} {ls : Array Slot} {lv : List (Nat × Value)} {rest : List Value} {D : va_G} {cI cZ cN cQ : ClassId} {n qc : Nat} {ad : Nat → Nat} {σ : Sg} {A : Nat → Prop} {mt qm : Nat → Int32}
theorem sv_qtC_top {n qc a : Nat} {σ : Sg} {w x : Int32} (h1 : σ 1 0 = 0) (h2 : sv_isn n (nI a) = true) (h3 : ¬ x < 1) (h4 : ¬ nI 9 < x) (ha : a < 100) (h5 : sv_own σ qc a < 4) (hw : w = -1) : sv_qtC n qc σ (nI a) w x = (sv_top σ qc a).isNone := by
  unfold sv_qtC
  rw [decide_eq_true h1, h2, decide_eq_true h3, decide_eq_true h4, nI_clamp (by omega), decide_eq_true h5, decide_eq_true hw]
  rfl
theorem sv_qtC_inn {n qc a : Nat} {σ : Sg} {w x : Int32} (h1 : σ 1 0 = 0) (h2 : sv_isn n (nI a) = true) (h3 : ¬ x < 1) (h4 : ¬ nI 9 < x) (ha : a < 100) (h5 : sv_own σ qc a < 4) (hw : ¬ w = -1) : sv_qtC n qc σ (nI a) w x = (sv_isn qc w && (decide (σ 3 w.toNatClampNeg = nI a) && decide (σ 5 w.toNatClampNeg < nI 3))) := by
  unfold sv_qtC
  rw [decide_eq_true h1, h2, decide_eq_true h3, decide_eq_true h4, nI_clamp (by omega), decide_eq_true h5, decide_eq_false hw]
  rfl
set_option maxHeartbeats 4000000 in
set_option maxRecDepth 100000 in
theorem cS_m_quota {sz : Nat} (hJ : sv_inj (3 + 3 * n + qc) ad) (hA : ∀ k, k < 3 + 3 * n + qc → A (ad k)) (hF : ∀ q, sz ≤ q → A q) {v w x : Int32} (hn : n ≤ 6) (hI : sv_IQ n qc σ) : Met l yS_quota (sv_ws yS_quota cS_quota 5 (some .int)) (sv_rmA 4 1 6) (sv_Pc D cI cZ cN cQ [.ref (ad 0), .int v, .int w, .int x] (fun H => sv_cP D cI cN cQ n qc ad σ H ∧ H.size = sz)) (va_Qi (fun (r : Int32) (u : Nat → Nat) => r = sv_qtR n qc σ v w x ∧ ∀ k, k < 3 + 3 * n + qc → ad k = u k) (fun (u : Nat → Nat) (t : State) => sv_cP D cI cN cQ n (sv_qtQ n qc σ v w x) u (sv_qtS n qc σ v w x) t.heap ∧ sv_inj (3 + 3 * n + (sv_qtQ n qc σ v w x)) u ∧ ∀ k, k < 3 + 3 * n + (sv_qtQ n qc σ v w x) → A (u k)) A) 1 6 A :=
  sv_mkAI (S := Nat → Nat) (B := (fun (u : Nat → Nat) H => sv_cP D cI cN cQ n (sv_qtQ n qc σ v w x) u (sv_qtS n qc σ v w x) H ∧ sv_inj (3 + 3 * n + (sv_qtQ n qc σ v w x)) u ∧ ∀ k, k < 3 + 3 * n + (sv_qtQ n qc σ v w x) → A (u k))) (by decide) (by show 4 ≤ 5; decide) (fun p e s m below meth c ls Q X hG hl ret => by
    have hx := X.1
    have hb := X.2.1
    obtain ⟨hP, hz⟩ := hG
    have hl : lv_has ls 5 [(0, .ref (ad 0)), (1, .int v), (2, .int w), (3, .int x)] := hl
    have hS : va_S A s.heap s.heap [] := va_S.rf
    have hF0 : ∀ q, s.heap.size ≤ q → A q := fun q h => hF q (by omega)
    have hq24 := hI.2.2.2.1
    refine lv_aload_n (i := 0) hx hb dS_quota_0 rfl (sv_at hl rfl) ?_
    refine gS_moving X hP dS_quota_1 ?_
    refine lv_if_ne (tgt := 26) hx hb dS_quota_4 rfl (fun h4 => ?_) (fun h4 => ?_)
    · skip
      refine lv_iconst (v := -1) hx hb dS_quota_26 (by decide) ?_
      have e9 : sv_qtC n qc σ v w x = false := sv_qt_1 h4
      refine W.widen (k := 1) (n := 6) (by decide) (by decide) ?_
      exact x_tv (by unfold sv_qtR; rw [e9]; rfl) (ret _ _ _ ad _ _ dS_quota_27 hS ⟨rfl, fun _ _ => rfl⟩ (by unfold sv_qtQ sv_qtS; rw [e9]; exact ⟨hP, hJ, hA⟩))
    · skip
      refine lv_aload_n (i := 0) hx hb dS_quota_7 rfl (sv_at hl rfl) ?_
      refine lv_iload_n (i := 1) hx hb dS_quota_8 rfl (sv_at hl rfl) ?_
      refine kS_isNode X (by decide) hP  hl (Nat.zero_le _) (Nat.zero_le _) (Nat.le_of_ble_eq_true rfl) dS_quota_9 ?_
      refine x_ifeqB (tgt := 26) hx hb dS_quota_12 rfl (fun h12 => ?_) (fun h12 => ?_)
      · skip
        refine lv_iconst (v := -1) hx hb dS_quota_26 (by decide) ?_
        have e9 : sv_qtC n qc σ v w x = false := sv_qt_2 h12
        refine W.widen (k := 1) (n := 6) (by decide) (by decide) ?_
        exact x_tv (by unfold sv_qtR; rw [e9]; rfl) (ret _ _ _ ad _ _ dS_quota_27 hS ⟨rfl, fun _ _ => rfl⟩ (by unfold sv_qtQ sv_qtS; rw [e9]; exact ⟨hP, hJ, hA⟩))
      · skip
        obtain ⟨a, ha, rfl⟩ := sv_isn_t (by omega) h12
        refine lv_iload_n (i := 3) hx hb dS_quota_15 rfl (sv_at hl rfl) ?_
        refine lv_iconst (v := 1) hx hb dS_quota_16 (by decide) ?_
        refine lv_icmp_lt (tgt := 26) hx hb dS_quota_17 rfl (fun h17 => ?_) (fun h17 => ?_)
        · skip
          refine lv_iconst (v := -1) hx hb dS_quota_26 (by decide) ?_
          have e9 : sv_qtC n qc σ (nI a) w x = false := sv_qt_3 h17
          refine W.widen (k := 1) (n := 6) (by decide) (by decide) ?_
          exact x_tv (by unfold sv_qtR; rw [e9]; rfl) (ret _ _ _ ad _ _ dS_quota_27 hS ⟨rfl, fun _ _ => rfl⟩ (by unfold sv_qtQ sv_qtS; rw [e9]; exact ⟨hP, hJ, hA⟩))
        · skip
          refine lv_iload_n (i := 3) hx hb dS_quota_20 rfl (sv_at hl rfl) ?_
          refine lv_bipush (v := nI 9) hx hb dS_quota_21 (by decide) ?_
          refine lv_icmp_le (tgt := 28) hx hb dS_quota_23 rfl (fun h23 => ?_) (fun h23 => ?_)
          · skip
            refine lv_aload_n (i := 0) hx hb dS_quota_28 rfl (sv_at hl rfl) ?_
            refine gS_nodes X hP dS_quota_29 ?_
            refine lv_iload_n (i := 1) hx hb dS_quota_32 rfl (sv_at hl rfl) ?_
            refine gA_nodes X hP hn (by omega) dS_quota_33 ?_
            refine lv_astore (i := 4) hx hb dS_quota_34 hl (by decide) rfl (fun ls hl => ?_)
            refine lv_aload (i := 4) hx hb dS_quota_36 (sv_at hl rfl) ?_
            refine gN_quotaCount X hP (by omega) dS_quota_38 ?_
            refine lv_iconst (v := nI 4) hx hb dS_quota_41 (by decide) ?_
            refine lv_icmp_lt (tgt := 47) hx hb dS_quota_42 rfl (fun h42 => ?_) (fun h42 => ?_)
            · skip
              have hcl := sv_cnt_le (P := fun q => σ 3 q == nI a) (lo := 0) qc
              rw [nI_ltI (by unfold sv_own; omega) (by decide)] at h42
              have hqc := sv_qc_lt hI ha h42
              refine lv_iload_n (i := 2) hx hb dS_quota_47 rfl (sv_at hl rfl) ?_
              refine lv_iconst (v := -1) hx hb dS_quota_48 (by decide) ?_
              refine lv_icmp_ne (tgt := 62) hx hb dS_quota_49 rfl (fun h49 => ?_) (fun h49 => ?_)
              · skip
                refine lv_aload_n (i := 0) hx hb dS_quota_62 rfl (sv_at hl rfl) ?_
                refine lv_aload (i := 4) hx hb dS_quota_63 (sv_at hl rfl) ?_
                refine lv_iload_n (i := 2) hx hb dS_quota_65 rfl (sv_at hl rfl) ?_
                refine lv_iload_n (i := 3) hx hb dS_quota_66 rfl (sv_at hl rfl) ?_
                refine sv_aV (S := Nat → Nat) (post := fun (r : Int32) (u : Nat → Nat) => r = (bif (sv_isn qc w && (decide (σ 3 w.toNatClampNeg = nI a) && decide (σ 5 w.toNatClampNeg < nI 3))) then nI qc else -1) ∧ ∀ k, k < 3 + 3 * n + qc → ad k = u k) (B := (fun (u : Nat → Nat) H => sv_cP D cI cN cQ n (bif (sv_isn qc w && (decide (σ 3 w.toNatClampNeg = nI a) && decide (σ 5 w.toNatClampNeg < nI 3))) then qc + 1 else qc) u (bif (sv_isn qc w && (decide (σ 3 w.toNatClampNeg = nI a) && decide (σ 5 w.toNatClampNeg < nI 3))) then sv_qS σ qc (nI a) w (σ 5 w.toNatClampNeg + 1) x else σ) H ∧ sv_inj (3 + 3 * n + (bif (sv_isn qc w && (decide (σ 3 w.toNatClampNeg = nI a) && decide (σ 5 w.toNatClampNeg < nI 3))) then qc + 1 else qc)) u ∧ ∀ k, k < 3 + 3 * n + (bif (sv_isn qc w && (decide (σ 3 w.toNatClampNeg = nI a) && decide (σ 5 w.toNatClampNeg < nI 3))) then qc + 1 else qc) → A (u k))) (G := fun H => sv_cP D cI cN cQ n qc ad σ H ∧ H.size = s.heap.size) (As := [.ref (ad (2 + 3 * a)), .int w, .int x]) (b := ad 0) (mc := 1) (ms := 6) (k2 := 3) X okS_S_addInnerQuota (cS_m_addInnerQuota (sz := s.heap.size) hJ hA hF0 hn hI ha hqc) ⟨hP, rfl⟩ (y_rec X.K hP (by omega) sv_ce_S rfl) hS (by decide) rfl hl.1 rfl (Nat.le_of_ble_eq_true rfl) (by decide) (by decide) dS_quota_67 (fun r u H locs hr hB hz hS => ?_)
                obtain ⟨rfl, hu⟩ := hr
                have e9 := sv_qtC_inn (w := w) h4 h12 h17 (Int32.not_lt.mpr h23) (by omega) h42 h49
                exact x_tv (by unfold sv_qtR; rw [e9]) (ret _ _ _ u _ _ dS_quota_70 hS ⟨rfl, hu⟩ (by unfold sv_qtQ sv_qtS; rw [e9, decide_eq_false h49]; exact hB))
              · skip
                refine lv_aload_n (i := 0) hx hb dS_quota_52 rfl (sv_at hl rfl) ?_
                refine lv_aload (i := 4) hx hb dS_quota_53 (sv_at hl rfl) ?_
                refine lv_iload_n (i := 3) hx hb dS_quota_55 rfl (sv_at hl rfl) ?_
                refine sv_aV (S := Nat → Nat) (post := fun (r : Int32) (u : Nat → Nat) => r = (bif (sv_top σ qc a).isNone then nI qc else -1) ∧ ∀ k, k < 3 + 3 * n + qc → ad k = u k) (B := (fun (u : Nat → Nat) H => sv_cP D cI cN cQ n (bif (sv_top σ qc a).isNone then qc + 1 else qc) u (bif (sv_top σ qc a).isNone then sv_qS σ qc (nI a) (-1) 1 x else σ) H ∧ sv_inj (3 + 3 * n + (bif (sv_top σ qc a).isNone then qc + 1 else qc)) u ∧ ∀ k, k < 3 + 3 * n + (bif (sv_top σ qc a).isNone then qc + 1 else qc) → A (u k))) (G := fun H => sv_cP D cI cN cQ n qc ad σ H ∧ H.size = s.heap.size) (As := [.ref (ad (2 + 3 * a)), .int x]) (b := ad 0) (mc := 1) (ms := 6) (k2 := 3) X okS_S_addTopQuota (cS_m_addTopQuota (sz := s.heap.size) hJ hA hF0 hn hI ha hqc) ⟨hP, rfl⟩ (y_rec X.K hP (by omega) sv_ce_S rfl) hS (by decide) rfl hl.1 rfl (Nat.le_of_ble_eq_true rfl) (by decide) (by decide) dS_quota_56 (fun r u H locs hr hB hz hS => ?_)
                obtain ⟨rfl, hu⟩ := hr
                refine lv_goto (tgt := 70) hx hb dS_quota_59 rfl ?_
                have e9 := sv_qtC_top (w := w) h4 h12 h17 (Int32.not_lt.mpr h23) (by omega) h42 h49
                exact x_tv (by unfold sv_qtR; rw [e9]) (ret _ _ _ u _ _ dS_quota_70 hS ⟨rfl, hu⟩ (by unfold sv_qtQ sv_qtS; rw [e9, decide_eq_true h49, h49]; exact hB))
            · skip
              have hcl := sv_cnt_le (P := fun q => σ 3 q == nI a) (lo := 0) qc
              rw [nI_ltI (by unfold sv_own; omega) (by decide)] at h42
              refine lv_iconst (v := -1) hx hb dS_quota_45 (by decide) ?_
              have e9 : sv_qtC n qc σ (nI a) w x = false := sv_qt_5 (by rw [nI_clamp (by omega)]; exact h42)
              refine W.widen (k := 1) (n := 6) (by decide) (by decide) ?_
              exact x_tv (by unfold sv_qtR; rw [e9]; rfl) (ret _ _ _ ad _ _ dS_quota_46 hS ⟨rfl, fun _ _ => rfl⟩ (by unfold sv_qtQ sv_qtS; rw [e9]; exact ⟨hP, hJ, hA⟩))
          · skip
            refine lv_iconst (v := -1) hx hb dS_quota_26 (by decide) ?_
            have e9 : sv_qtC n qc σ (nI a) w x = false := sv_qt_4 (Int32.not_le.mp h23)
            refine W.widen (k := 1) (n := 6) (by decide) (by decide) ?_
            exact x_tv (by unfold sv_qtR; rw [e9]; rfl) (ret _ _ _ ad _ _ dS_quota_27 hS ⟨rfl, fun _ _ => rfl⟩ (by unfold sv_qtQ sv_qtS; rw [e9]; exact ⟨hP, hJ, hA⟩))
)
set_option maxRecDepth 100000 in
theorem okL_S_quota : sv_okV "SliceVotingLaw" 21 yS_quota cS_quota 5 (some .int) 3 := ⟨sv_tb_t 90 rfl rfl, sv_tb_t 87 rfl rfl, sv_tb_t 88 rfl rfl, sv_tb_t 89 rfl rfl, sv_tb_t 1 rfl rfl, ⟨by decide, by decide, by decide +kernel⟩, by decide⟩
theorem sv_upc {f : Nat → va_E} {k j : Nat} {a b : va_E} (h : j ≠ k) : va_up (va_up f k a) j b = va_up (va_up f j b) k a := by
  funext i
  unfold va_up
  by_cases e1 : i = j
  · subst e1; simp [h]
  · by_cases e2 : i = k
    · subst e2; simp [e1]
    · simp [e1, e2]
set_option maxHeartbeats 4000000 in
set_option maxRecDepth 100000 in
theorem cN_m_init {NT k0 sz v : Nat} {en : Nat → va_E} (hn : n ≤ 6) (hk0 : k0 < NT) (he : en k0 = .inr (sv_kN, [.int 0, .null, .null, .int 0, .int 0, .int 0, .int 0, .null, .int 0])) (hJ : sv_inj NT ad) (hA : ∀ k, k < NT → A (ad k)) (hF : ∀ q, sz ≤ q → A q) : Met l yN_init (sv_ws yN_init cN_init 3 none) (sv_rmA 2 2 12) (sv_Pc D cI cZ cN cQ [.ref (ad k0), .int (nI v), .int (nI n)] (fun H => va_P D vwCl (sv_L NT ad en) H ∧ H.size = sz)) (va_Qv (fun u : Nat → Nat => ∀ k, k < NT → ad k = u k) (fun (u : Nat → Nat) (t : State) => va_P D vwCl (sv_L (NT + 2) u (va_up (va_up (va_up en NT (.inl (cI, n, .inl (fun _ => 0)))) (NT + 1) (.inl (cI, n, .inl (fun _ => 0)))) k0 (.inr (sv_kN, [.int (nI v), .ref (u NT), .ref (u (NT + 1)), .int 0, .int 0, .int 0, .int (-1), .null, .int 0])))) t.heap ∧ sv_inj (NT + 2) u ∧ ∀ k, k < NT + 2 → A (u k)) A) 2 12 A :=
  sv_mkAV (S := Nat → Nat) (B := (fun (u : Nat → Nat) H => va_P D vwCl (sv_L (NT + 2) u (va_up (va_up (va_up en NT (.inl (cI, n, .inl (fun _ => 0)))) (NT + 1) (.inl (cI, n, .inl (fun _ => 0)))) k0 (.inr (sv_kN, [.int (nI v), .ref (u NT), .ref (u (NT + 1)), .int 0, .int 0, .int 0, .int (-1), .null, .int 0])))) H ∧ sv_inj (NT + 2) u ∧ ∀ k, k < NT + 2 → A (u k))) (by decide) (by show 3 ≤ 3; decide) (fun p e s m below meth c ls Q X hin0 hG hl ret => by
    have hx := X.1
    have hb := X.2.1
    obtain ⟨hP, hz⟩ := hG
    have hl : lv_has ls 3 [(0, .ref (ad k0)), (1, .int (nI v)), (2, .int (nI n))] := hl
    have hS : va_S A s.heap s.heap [] := va_S.rf
    have hF0 : ∀ q, s.heap.size ≤ q → A q := fun q h => hF q (by omega)
    refine lv_aload_n (i := 0) hx hb dN_init_0 rfl (sv_at hl rfl) ?_
    refine W.objInit hx hb X.own (X.hts (.methodLink "SliceVoting$Node" 3 objectInit) (sv_tb_t 27 rfl rfl)) (X.hts (.instanceMethod objectInit) (sv_tb_t 13 rfl rfl)) (X.hts (.code objectInit ⟨#[0xb1]⟩ 1 none) (sv_tb_t 14 rfl rfl)) rfl (by rw [X.2.2.1]; exact hl.1) rfl dN_init_1 (Nat.le_trans (by decide) X.2.2.2.2.2.2.1) (Nat.le_trans (Nat.le_of_ble_eq_true rfl) X.2.2.2.2.2.2.2) ?_
    refine W.eq (g2 := F0 m 4 ls []) rfl ?_
    refine lv_aload_n (i := 0) hx hb dN_init_4 rfl (sv_at hl rfl) ?_
    refine lv_iload_n (i := 1) hx hb dN_init_5 rfl (sv_at hl rfl) ?_
    refine y_putF (T := T_N) (M := 9) (f := 0) X hin0 in_N t_N t_N_ok nm_N hP (sv_D hJ hA) hS (by omega) he rfl (by decide) (sv_tb_t 28 rfl rfl) rfl rfl (ty := .int) (by decide +kernel) rfl rfl (by show 0 < 9; decide) dN_init_6 (fun H locs hP hS => ?_)
    have hP : va_P D vwCl (sv_L NT ad (va_up (en) k0 (.inr (sv_kN, [.int (nI v), .null, .null, .int 0, .int 0, .int 0, .int 0, .null, .int 0])))) H := hP
    refine lv_aload_n (i := 0) hx hb dN_init_9 rfl (sv_at hl rfl) ?_
    refine lv_iload_n (i := 2) hx hb dN_init_10 rfl (sv_at hl rfl) ?_
    refine y_newI X hP (sv_D hJ hA) hS hF0 (sv_tb_t 65 rfl rfl) (by omega) (by show 0 + 1 ≤ 2; decide) (by show _ + n ≤ 12; omega) dN_init_11 (fun q1 H hP hD hS => ?_)
    obtain ⟨ad1, hq1, ho1, hP, hJ, hA⟩ := sv_grow hP hD
    refine x_st (st2 := [.ref (ad1 (NT)), .ref (ad1 k0)]) (by rw [hq1, ho1 k0 (by omega)]) ?_
    rw [ho1 k0 (by omega)] at hl
    have hP : va_P D vwCl (sv_L (NT + 1) ad1 (va_up (va_up en NT (.inl (cI, n, .inl (fun _ => 0)))) k0 (.inr (sv_kN, [.int (nI v), .null, .null, .int 0, .int 0, .int 0, .int 0, .null, .int 0])))) H := by rw [sv_upc (by omega)]; exact hP
    refine y_putF (T := T_N) (M := 9) (f := 1) X hin0 in_N t_N t_N_ok nm_N hP (sv_D hJ hA) hS (by omega) (if_pos rfl) rfl (by decide) (sv_tb_t 30 rfl rfl) rfl rfl (ty := .array .int) (by decide +kernel) rfl rfl (by show 1 < 9; decide) dN_init_13 (fun H locs hP hS => ?_)
    rw [bx_uu] at hP
    have hP : va_P D vwCl (sv_L (NT + 1) ad1 (va_up (va_up en NT (.inl (cI, n, .inl (fun _ => 0)))) k0 (.inr (sv_kN, [.int (nI v), .ref (ad1 NT), .null, .int 0, .int 0, .int 0, .int 0, .null, .int 0])))) H := hP
    refine lv_aload_n (i := 0) hx hb dN_init_16 rfl (sv_at hl rfl) ?_
    refine lv_iload_n (i := 2) hx hb dN_init_17 rfl (sv_at hl rfl) ?_
    refine y_newI X hP (sv_D hJ hA) hS hF0 (sv_tb_t 65 rfl rfl) (by omega) (by show 1 + 1 ≤ 2; decide) (by show _ + n ≤ 12; omega) dN_init_18 (fun q2 H hP hD hS => ?_)
    obtain ⟨ad2, hq2, ho2, hP, hJ, hA⟩ := sv_grow hP hD
    refine x_st (st2 := [.ref (ad2 (NT + 1)), .ref (ad2 k0)]) (by rw [hq2, ho2 k0 (by omega)]) ?_
    rw [ho2 k0 (by omega)] at hl
    have hP : va_P D vwCl (sv_L (NT + 2) ad2 (va_up (va_up (va_up en NT (.inl (cI, n, .inl (fun _ => 0)))) (NT + 1) (.inl (cI, n, .inl (fun _ => 0)))) k0 (.inr (sv_kN, [.int (nI v), .ref (ad2 NT), .null, .int 0, .int 0, .int 0, .int 0, .null, .int 0])))) H := by rw [sv_upc (by omega), ← ho2 NT (by omega)]; exact hP
    refine y_putF (T := T_N) (M := 9) (f := 2) X hin0 in_N t_N t_N_ok nm_N hP (sv_D hJ hA) hS (by omega) (if_pos rfl) rfl (by decide) (sv_tb_t 32 rfl rfl) rfl rfl (ty := .array .int) (by decide +kernel) rfl rfl (by show 2 < 9; decide) dN_init_20 (fun H locs hP hS => ?_)
    rw [bx_uu] at hP
    have hP : va_P D vwCl (sv_L (NT + 2) ad2 (va_up (va_up (va_up en NT (.inl (cI, n, .inl (fun _ => 0)))) (NT + 1) (.inl (cI, n, .inl (fun _ => 0)))) k0 (.inr (sv_kN, [.int (nI v), .ref (ad2 NT), .ref (ad2 (NT + 1)), .int 0, .int 0, .int 0, .int 0, .null, .int 0])))) H := hP
    refine lv_aload_n (i := 0) hx hb dN_init_23 rfl (sv_at hl rfl) ?_
    refine lv_iconst (v := 0) hx hb dN_init_24 (by decide) ?_
    refine y_put hx hb X.hts in_N t_N t_N_ok nm_N X.own X.K hP (sv_D hJ hA) hS (by omega) (if_pos rfl) rfl 3 (by decide) (sv_tb_t 34 rfl rfl) rfl (ty := .int) (by decide +kernel) rfl rfl (by show 3 < 9; decide) dN_init_25 (fun H locs hP hS => ?_)
    rw [bx_uu] at hP
    have hP : va_P D vwCl (sv_L (NT + 2) ad2 (va_up (va_up (va_up en NT (.inl (cI, n, .inl (fun _ => 0)))) (NT + 1) (.inl (cI, n, .inl (fun _ => 0)))) k0 (.inr (sv_kN, [.int (nI v), .ref (ad2 NT), .ref (ad2 (NT + 1)), .int 0, .int 0, .int 0, .int 0, .null, .int 0])))) H := hP
    refine lv_aload_n (i := 0) hx hb dN_init_28 rfl (sv_at hl rfl) ?_
    refine lv_iconst (v := 0) hx hb dN_init_29 (by decide) ?_
    refine y_put hx hb X.hts in_N t_N t_N_ok nm_N X.own X.K hP (sv_D hJ hA) hS (by omega) (if_pos rfl) rfl 4 (by decide) (sv_tb_t 36 rfl rfl) rfl (ty := .int) (by decide +kernel) rfl rfl (by show 4 < 9; decide) dN_init_30 (fun H locs hP hS => ?_)
    rw [bx_uu] at hP
    have hP : va_P D vwCl (sv_L (NT + 2) ad2 (va_up (va_up (va_up en NT (.inl (cI, n, .inl (fun _ => 0)))) (NT + 1) (.inl (cI, n, .inl (fun _ => 0)))) k0 (.inr (sv_kN, [.int (nI v), .ref (ad2 NT), .ref (ad2 (NT + 1)), .int 0, .int 0, .int 0, .int 0, .null, .int 0])))) H := hP
    refine lv_aload_n (i := 0) hx hb dN_init_33 rfl (sv_at hl rfl) ?_
    refine lv_iconst (v := 0) hx hb dN_init_34 (by decide) ?_
    refine y_put hx hb X.hts in_N t_N t_N_ok nm_N X.own X.K hP (sv_D hJ hA) hS (by omega) (if_pos rfl) rfl 5 (by decide) (sv_tb_t 38 rfl rfl) rfl (ty := .int) (by decide +kernel) rfl rfl (by show 5 < 9; decide) dN_init_35 (fun H locs hP hS => ?_)
    rw [bx_uu] at hP
    have hP : va_P D vwCl (sv_L (NT + 2) ad2 (va_up (va_up (va_up en NT (.inl (cI, n, .inl (fun _ => 0)))) (NT + 1) (.inl (cI, n, .inl (fun _ => 0)))) k0 (.inr (sv_kN, [.int (nI v), .ref (ad2 NT), .ref (ad2 (NT + 1)), .int 0, .int 0, .int 0, .int 0, .null, .int 0])))) H := hP
    refine lv_aload_n (i := 0) hx hb dN_init_38 rfl (sv_at hl rfl) ?_
    refine lv_iconst (v := -1) hx hb dN_init_39 (by decide) ?_
    refine y_put hx hb X.hts in_N t_N t_N_ok nm_N X.own X.K hP (sv_D hJ hA) hS (by omega) (if_pos rfl) rfl 6 (by decide) (sv_tb_t 40 rfl rfl) rfl (ty := .int) (by decide +kernel) rfl rfl (by show 6 < 9; decide) dN_init_40 (fun H locs hP hS => ?_)
    rw [bx_uu] at hP
    have hP : va_P D vwCl (sv_L (NT + 2) ad2 (va_up (va_up (va_up en NT (.inl (cI, n, .inl (fun _ => 0)))) (NT + 1) (.inl (cI, n, .inl (fun _ => 0)))) k0 (.inr (sv_kN, [.int (nI v), .ref (ad2 NT), .ref (ad2 (NT + 1)), .int 0, .int 0, .int 0, .int (-1), .null, .int 0])))) H := hP
    refine lv_aload_n (i := 0) hx hb dN_init_43 rfl (sv_at hl rfl) ?_
    refine lv_null hx hb dN_init_44 ?_
    refine y_put hx hb X.hts in_N t_N t_N_ok nm_N X.own X.K hP (sv_D hJ hA) hS (by omega) (if_pos rfl) rfl 7 (by decide) (sv_tb_t 42 rfl rfl) rfl (ty := .object "SliceVoting$Quota") (by decide +kernel) rfl rfl (by show 7 < 9; decide) dN_init_45 (fun H locs hP hS => ?_)
    rw [bx_uu] at hP
    have hP : va_P D vwCl (sv_L (NT + 2) ad2 (va_up (va_up (va_up en NT (.inl (cI, n, .inl (fun _ => 0)))) (NT + 1) (.inl (cI, n, .inl (fun _ => 0)))) k0 (.inr (sv_kN, [.int (nI v), .ref (ad2 NT), .ref (ad2 (NT + 1)), .int 0, .int 0, .int 0, .int (-1), .null, .int 0])))) H := hP
    refine lv_aload_n (i := 0) hx hb dN_init_48 rfl (sv_at hl rfl) ?_
    refine lv_iconst (v := 0) hx hb dN_init_49 (by decide) ?_
    refine y_put hx hb X.hts in_N t_N t_N_ok nm_N X.own X.K hP (sv_D hJ hA) hS (by omega) (if_pos rfl) rfl 8 (by decide) (sv_tb_t 44 rfl rfl) rfl (ty := .int) (by decide +kernel) rfl rfl (by show 8 < 9; decide) dN_init_50 (fun H locs hP hS => ?_)
    rw [bx_uu] at hP
    have hP : va_P D vwCl (sv_L (NT + 2) ad2 (va_up (va_up (va_up en NT (.inl (cI, n, .inl (fun _ => 0)))) (NT + 1) (.inl (cI, n, .inl (fun _ => 0)))) k0 (.inr (sv_kN, [.int (nI v), .ref (ad2 NT), .ref (ad2 (NT + 1)), .int 0, .int 0, .int 0, .int (-1), .null, .int 0])))) H := hP
    refine W.widen (k := 2) (n := 12) (by show 0 + 1 + 1 ≤ 2; decide) (by show 0 + n + n ≤ 12; omega) ?_
    exact ret _ _ ad2 H locs dN_init_53 hS (fun k hk => (ho1 k hk).trans (ho2 k (by omega))) ⟨hP, hJ, hA⟩)
end SvQuota4
