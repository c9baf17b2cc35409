section SvQuota3
variable {p : Program} {l : Launch} {e : Env} {R : Room} {s : State} {m : MethodId} {args : Array Value} {below : List Frame} {meth : Method} {c : Code} {H H0 : Heap} {locs : List Loc} {cells slots : Nat} {Q : State → Prop}
variable {cc : ByteArray} {pc nL k : Nat} {ls : Array Slot} {lv : List (Nat × Value)} {rest : List Value} {D : va_G} {cI cZ cN cQ : ClassId} {n qc : Nat} {ad : Nat → Nat} {σ : Sg} {A : Nat → Prop} {mt qm : Nat → Int32}
theorem x_st {st st2 : List Value} (h : st = st2) (kk : W p l e R s m args below meth c H locs cells slots Q (F0 m pc ls st2)) : W p l e R s m args below meth c H locs cells slots Q (F0 m pc ls st) := h ▸ kk
theorem sv_P_congr {D : va_G} {cl : List vw_C} {N : Nat} {ad : Nat → Nat} {en en' : Nat → va_E} {H : Heap} (h : ∀ k, k < N → en k = en' k) (hP : va_P D cl (sv_L N ad en) H) : va_P D cl (sv_L N ad en') H := by rw [← sv_L_congr h]; exact hP
theorem sv_ce_adN {cI cN cQ : ClassId} {ad ad1 : Nat → Nat} {e : va_E} (hI : sv_IQ n qc σ) (h : ∀ k, k < 3 + 3 * n + qc → ad k = ad1 k) : ∀ k, k < 3 + 3 * n + qc + 1 → va_up (sv_ce cI cN cQ n qc ad σ) (3 + 3 * n + qc) e k = va_up (sv_ce cI cN cQ n qc ad1 σ) (3 + 3 * n + qc) e k := fun k hk => by
  by_cases q : k = 3 + 3 * n + qc
  · rw [q, sv_up_s, sv_up_s]
  · rw [sv_up_o q, sv_up_o q, sv_ce_ad hI h k (by omega)]
theorem sv_rq_nr {ad : Nat → Nat} {n : Nat} {o : Option Nat} {C : String} : narrow (.object C) (sv_rq ad n o) = sv_rq ad n o := by cases o <;> rfl
theorem sv_rq_ft {ad : Nat → Nat} {n : Nat} {o : Option Nat} {C : String} : fits (.object C) (sv_rq ad n o) = true := by cases o <;> rfl
set_option maxHeartbeats 4000000 in
set_option maxRecDepth 100000 in
theorem cS_m_addTopQuota {sz : Nat} (hJ : sv_inj (3 + 3 * n + qc) ad) (hA : ∀ k, k < 3 + 3 * n + qc → A (ad k)) (hF : ∀ q, sz ≤ q → A q) {v : Nat} {x : Int32} (hn : n ≤ 6) (hI : sv_IQ n qc σ) (hv : v < n) (hqc : qc < 4 * n) : Met l yS_addTopQuota (sv_ws yS_addTopQuota cS_addTopQuota 3 (some .int)) (sv_rmA 3 1 6) (sv_Pc D cI cZ cN cQ [.ref (ad 0), .ref (ad (2 + 3 * v)), .int x] (fun H => sv_cP D cI cN cQ n qc ad σ H ∧ H.size = sz)) (va_Qi (fun (r : Int32) (u : Nat → Nat) => r = (bif (sv_top σ qc v).isNone then nI qc else -1) ∧ ∀ k, k < 3 + 3 * n + qc → ad k = u k) (fun (u : Nat → Nat) (t : State) => sv_cP D cI cN cQ n (bif (sv_top σ qc v).isNone then qc + 1 else qc) u (bif (sv_top σ qc v).isNone then sv_qS σ qc (nI v) (-1) 1 x else σ) t.heap ∧ sv_inj (3 + 3 * n + (bif (sv_top σ qc v).isNone then qc + 1 else qc)) u ∧ ∀ k, k < 3 + 3 * n + (bif (sv_top σ qc v).isNone then qc + 1 else qc) → A (u k)) A) 1 6 A :=
  sv_mkAI (S := Nat → Nat) (B := (fun (u : Nat → Nat) H => sv_cP D cI cN cQ n (bif (sv_top σ qc v).isNone then qc + 1 else qc) u (bif (sv_top σ qc v).isNone then sv_qS σ qc (nI v) (-1) 1 x else σ) H ∧ sv_inj (3 + 3 * n + (bif (sv_top σ qc v).isNone then qc + 1 else qc)) u ∧ ∀ k, k < 3 + 3 * n + (bif (sv_top σ qc v).isNone then qc + 1 else qc) → A (u k))) (by decide) (by show 3 ≤ 3; decide) (fun p e s m below meth c ls Q X hG hl ret => by
    have hx := X.1
    have hb := X.2.1
    obtain ⟨hP, hz⟩ := hG
    have hl : lv_has ls 3 [(0, .ref (ad 0)), (1, .ref (ad (2 + 3 * v))), (2, .int x)] := hl
    have hS : va_S A s.heap s.heap [] := va_S.rf
    have hF0 : ∀ q, s.heap.size ≤ q → A q := fun q h => hF q (by omega)
    have hq24 := hI.2.2.2.1
    refine lv_aload_n (i := 1) hx hb dS_addTopQuota_0 rfl (sv_at hl rfl) ?_
    refine gN_top X hP (by omega) dS_addTopQuota_1 ?_
    refine x_ifnullR (tgt := 9) hx hb dS_addTopQuota_4 rfl (fun h4 => ?_) (fun j4 h4 => ?_)
    · skip
      refine lv_aload_n (i := 1) hx hb dS_addTopQuota_9 rfl (sv_at hl rfl) ?_
      refine y_newO (T := T_Q) (M := 6) (ci := sv_kQ) (fs := [.null, .int 0, .int 0, .int 0, .null, .null]) X hP (sv_D hJ hA) hS hF0 in_Q t_Q t_Q_ok (sv_tb_t 66 rfl rfl) (sv_tb_t 99 rfl rfl) (sv_tb_t 5 rfl rfl) rfl (fun j hj => by rcases (show j = 0 ∨ j = 1 ∨ j = 2 ∨ j = 3 ∨ j = 4 ∨ j = 5 by omega) with rfl | rfl | rfl | rfl | rfl | rfl <;> rfl) (by decide) (by decide) dS_addTopQuota_10 (fun q9 H hP hD hS => ?_)
      obtain ⟨ad1, hq1, ho1, hP, hJ1, hA1⟩ := sv_grow hP hD
      rw [sv_L_congr (sv_ce_adN hI ho1)] at hP
      refine x_st (st2 := [.ref (ad1 (3 + 3 * n + qc)), .ref (ad1 (2 + 3 * v))]) (by rw [hq1, ho1 (2 + 3 * v) (by omega)]) ?_
      rw [ho1 0 (by omega), ho1 (2 + 3 * v) (by omega)] at hl
      refine lv_dup hx hb dS_addTopQuota_13 rfl ?_
      refine lv_aload_n (i := 1) hx hb dS_addTopQuota_14 rfl (sv_at hl rfl) ?_
      refine lv_iconst (v := 1) hx hb dS_addTopQuota_15 (by decide) ?_
      refine lv_iload_n (i := 2) hx hb dS_addTopQuota_16 rfl (sv_at hl rfl) ?_
      refine sv_aN (S := Unit) (post := fun _ => True) (B := fun _ H => va_P D vwCl (sv_L (3 + 3 * n + qc + 1) ad1 (va_up (va_up (sv_ce cI cN cQ n qc ad1 σ) (3 + 3 * n + qc) (.inr (sv_kQ, [.null, .int 0, .int 0, .int 0, .null, .null]))) (3 + 3 * n + qc) (.inr (sv_kQ, [.ref (ad1 (2 + 3 * v)), .int (1), .int x, .int 0, .null, .null])))) H) (G := fun H => va_P D vwCl (sv_L (3 + 3 * n + qc + 1) ad1 (va_up (sv_ce cI cN cQ n qc ad1 σ) (3 + 3 * n + qc) (.inr (sv_kQ, [.null, .int 0, .int 0, .int 0, .null, .null])))) H) (y := yQ_init) (As := [.ref (ad1 (2 + 3 * v)), .int (1), .int x]) (b := ad1 (3 + 3 * n + qc)) (n := 3) (k2 := 2) (mc := 0) (ms := 0) X (sv_tb_t 102 rfl rfl) (sv_nst_t 100 rfl rfl) (sv_tb_t 101 rfl rfl) (sv_tb_t 5 rfl rfl) rfl ⟨by decide, by decide, by decide +kernel⟩ (by decide) (cQ_m_init (by omega) sv_up_s hJ1 hA1) hP hS (by decide) rfl hl.1 rfl (Nat.le_of_ble_eq_true rfl) (by decide) (by decide) dS_addTopQuota_17 (fun u H locs _ hP hS => ?_)
      rw [bx_uu] at hP
      refine y_putN hx hb X.hts X.Ns in_N t_N t_N_ok nm_N X.own X.K hP (sv_D hJ1 hA1) hS (by omega) (sv_upn (sv_ce_N hv) (by omega)) rfl 7 (by decide) (sv_nst_t 43 rfl rfl) rfl (ty := .object "SliceVoting$Quota") (by decide +kernel) rfl rfl (by show 7 < 9; decide) dS_addTopQuota_20 (fun H locs hP hS => ?_)
      refine lv_aload_n (i := 0) hx hb dS_addTopQuota_23 rfl (sv_at hl rfl) ?_
      refine lv_aload_n (i := 1) hx hb dS_addTopQuota_24 rfl (sv_at hl rfl) ?_
      refine y_getN (v := .ref (ad1 (3 + 3 * n + qc))) hx hb X.hts X.Ns in_N X.own X.K hP (by omega) sv_up_s rfl 7 (by decide) (sv_nst_t 43 rfl rfl) rfl dS_addTopQuota_25 ?_
      refine sv_aV (S := Unit) (post := fun r _ => r = nI qc) (B := fun _ H => va_P D vwCl (sv_L (3 + 3 * n + qc + 1) ad1 (va_up (va_up (va_up (va_up (va_up (sv_ce cI cN cQ n qc ad1 σ) (3 + 3 * n + qc) (.inr (sv_kQ, [.ref (ad1 (2 + 3 * v)), .int 1, .int x, .int 0, .null, .null]))) (2 + 3 * v) (.inr (sv_kN, (sv_fN n qc ad1 σ v).set 7 (.ref (ad1 (3 + 3 * n + qc)))))) (2 + 3 * v) (.inr (sv_kN, ((sv_fN n qc ad1 σ v).set 7 (.ref (ad1 (3 + 3 * n + qc)))).set 8 (.int (nI (sv_own σ qc v + 1)))))) (2 + 3 * n) (.inl (cQ, 4 * n, .inr (.inr (.inr (.inr (va_up (fun q => if q < qc then some (ad1 (3 + 3 * n + q)) else none) qc (some (ad1 (3 + 3 * n + qc)))))))))) 0 (.inr (sv_kS, (sv_fS n qc ad1 σ).set 3 (.int (nI (qc + 1))))))) H) (G := fun H => va_P D vwCl (sv_L (3 + 3 * n + qc + 1) ad1 (va_up (va_up (sv_ce cI cN cQ n qc ad1 σ) (3 + 3 * n + qc) (.inr (sv_kQ, [.ref (ad1 (2 + 3 * v)), .int 1, .int x, .int 0, .null, .null]))) (2 + 3 * v) (.inr (sv_kN, (sv_fN n qc ad1 σ v).set 7 (.ref (ad1 (3 + 3 * n + qc))))))) H) (As := [.ref (ad1 (3 + 3 * n + qc))]) (b := ad1 0) (mc := 0) (ms := 0) (k2 := 1) X okS_S_number (cS_m_number (k0 := (3 + 3 * n + qc)) (qf := [.ref (ad1 (2 + 3 * v)), .int 1, .int x, .int 0, .null, .null]) (nf := (sv_fN n qc ad1 σ v).set 7 (.ref (ad1 (3 + 3 * n + qc)))) (sf := sv_fS n qc ad1 σ) (fq := fun q => if q < qc then some (ad1 (3 + 3 * n + q)) else none) hn hv hqc (by omega) (by omega) (sv_upn sv_up_s (by omega)) rfl sv_up_s rfl rfl (sv_upn (sv_upn sv_ce_S (by omega)) (by omega)) rfl rfl rfl (sv_upn (sv_upn sv_ce_B (by omega)) (by omega)) hJ1 hA1) hP (y_rec X.K hP (by omega) (sv_upn (sv_upn sv_ce_S (by omega)) (by omega)) rfl) hS (by decide) rfl hl.1 rfl (Nat.le_of_ble_eq_true rfl) (by decide) (by decide) dS_addTopQuota_28 (fun r u H locs hr hP _ hS => ?_)
      subst hr
      have e9 : (sv_top σ qc v).isNone = true := by rw [h4]; rfl
      have hP := sv_P_congr (sv_ce_top hI hv h4) hP
      exact x_tv (by rw [e9]; rfl) (ret _ _ _ ad1 _ _ dS_addTopQuota_31 hS ⟨rfl, ho1⟩ (by rw [e9]; exact ⟨hP, hJ1, hA1⟩))
    · skip
      refine lv_iconst (v := -1) hx hb dS_addTopQuota_7 (by decide) ?_
      have e9 : (sv_top σ qc v).isNone = false := by rw [h4]; rfl
      refine W.widen (k := 1) (n := 6) (by decide) (by decide) ?_
      exact x_tv (by rw [e9]; rfl) (ret _ _ _ ad _ _ dS_addTopQuota_8 hS ⟨rfl, fun _ _ => rfl⟩ (by rw [e9]; exact ⟨hP, hJ, hA⟩))
)
set_option maxRecDepth 100000 in
theorem okS_S_addTopQuota : sv_okV "SliceVoting" 52 yS_addTopQuota cS_addTopQuota 3 (some .int) 2 := ⟨sv_tb_t 98 rfl rfl, sv_tb_t 95 rfl rfl, sv_tb_t 97 rfl rfl, sv_tb_s 1 rfl rfl, sv_tb_t 1 rfl rfl, ⟨by decide, by decide, by decide +kernel⟩, by decide⟩
set_option maxHeartbeats 4000000 in
set_option maxRecDepth 100000 in
theorem cS_m_addInnerQuota {sz : Nat} (hJ : sv_inj (3 + 3 * n + qc) ad) (hA : ∀ k, k < 3 + 3 * n + qc → A (ad k)) (hF : ∀ q, sz ≤ q → A q) {v : Nat} {w x : Int32} (hn : n ≤ 6) (hI : sv_IQ n qc σ) (hv : v < n) (hqc : qc < 4 * n) : Met l yS_addInnerQuota (sv_ws yS_addInnerQuota cS_addInnerQuota 6 (some .int)) (sv_rmA 3 1 6) (sv_Pc D cI cZ cN cQ [.ref (ad 0), .ref (ad (2 + 3 * v)), .int w, .int x] (fun H => sv_cP D cI cN cQ n qc ad σ H ∧ H.size = sz)) (va_Qi (fun (r : Int32) (u : Nat → Nat) => r = (bif (sv_isn qc w && (decide (σ 3 w.toNatClampNeg = nI v) && decide (σ 5 w.toNatClampNeg < nI 3))) then nI qc else -1) ∧ ∀ k, k < 3 + 3 * n + qc → ad k = u k) (fun (u : Nat → Nat) (t : State) => sv_cP D cI cN cQ n (bif (sv_isn qc w && (decide (σ 3 w.toNatClampNeg = nI v) && decide (σ 5 w.toNatClampNeg < nI 3))) then qc + 1 else qc) u (bif (sv_isn qc w && (decide (σ 3 w.toNatClampNeg = nI v) && decide (σ 5 w.toNatClampNeg < nI 3))) then sv_qS σ qc (nI v) w (σ 5 w.toNatClampNeg + 1) x else σ) t.heap ∧ sv_inj (3 + 3 * n + (bif (sv_isn qc w && (decide (σ 3 w.toNatClampNeg = nI v) && decide (σ 5 w.toNatClampNeg < nI 3))) then qc + 1 else qc)) u ∧ ∀ k, k < 3 + 3 * n + (bif (sv_isn qc w && (decide (σ 3 w.toNatClampNeg = nI v) && decide (σ 5 w.toNatClampNeg < nI 3))) then qc + 1 else qc) → A (u k)) A) 1 6 A :=
  sv_mkAI (S := Nat → Nat) (B := (fun (u : Nat → Nat) H => sv_cP D cI cN cQ n (bif (sv_isn qc w && (decide (σ 3 w.toNatClampNeg = nI v) && decide (σ 5 w.toNatClampNeg < nI 3))) then qc + 1 else qc) u (bif (sv_isn qc w && (decide (σ 3 w.toNatClampNeg = nI v) && decide (σ 5 w.toNatClampNeg < nI 3))) then sv_qS σ qc (nI v) w (σ 5 w.toNatClampNeg + 1) x else σ) H ∧ sv_inj (3 + 3 * n + (bif (sv_isn qc w && (decide (σ 3 w.toNatClampNeg = nI v) && decide (σ 5 w.toNatClampNeg < nI 3))) then qc + 1 else qc)) u ∧ ∀ k, k < 3 + 3 * n + (bif (sv_isn qc w && (decide (σ 3 w.toNatClampNeg = nI v) && decide (σ 5 w.toNatClampNeg < nI 3))) then qc + 1 else qc) → A (u k))) (by decide) (by show 4 ≤ 6; decide) (fun p e s m below meth c ls Q X hG hl ret => by
    have hx := X.1
    have hb := X.2.1
    obtain ⟨hP, hz⟩ := hG
    have hl : lv_has ls 6 [(0, .ref (ad 0)), (1, .ref (ad (2 + 3 * v))), (2, .int w), (3, .int x)] := hl
    have hS : va_S A s.heap s.heap [] := va_S.rf
    have hF0 : ∀ q, s.heap.size ≤ q → A q := fun q h => hF q (by omega)
    have hq24 := hI.2.2.2.1
    refine lv_aload_n (i := 0) hx hb dS_addInnerQuota_0 rfl (sv_at hl rfl) ?_
    refine lv_iload_n (i := 2) hx hb dS_addInnerQuota_1 rfl (sv_at hl rfl) ?_
    refine kS_isQuota X (by decide) hP hl (Nat.zero_le _) (Nat.zero_le _) (Nat.le_of_ble_eq_true rfl) dS_addInnerQuota_2 ?_
    refine x_ifneB (tgt := 10) hx hb dS_addInnerQuota_5 rfl (fun h5 => ?_) (fun h5 => ?_)
    · skip
      obtain ⟨b, hb9, rfl⟩ := sv_isn_t (by omega) h5
      have ecb : (nI b).toNatClampNeg = b := nI_clamp (by omega)
      obtain ⟨⟨u, hu, e3⟩, -⟩ := hI.2.2.2.2 b hb9
      refine lv_aload_n (i := 0) hx hb dS_addInnerQuota_10 rfl (sv_at hl rfl) ?_
      refine gS_quotas X hP dS_addInnerQuota_11 ?_
      refine lv_iload_n (i := 2) hx hb dS_addInnerQuota_14 rfl (sv_at hl rfl) ?_
      refine gA_quotas X hP hn (by omega) (by omega) dS_addInnerQuota_15 ?_
      refine lv_astore (i := 4) hx hb dS_addInnerQuota_16 hl (by decide) rfl (fun ls hl => ?_)
      refine lv_aload (i := 4) hx hb dS_addInnerQuota_18 (sv_at hl rfl) ?_
      refine gQ_owner X hP (by omega) dS_addInnerQuota_20 ?_
      rw [e3, nI_clamp (by omega)]
      refine lv_aload_n (i := 1) hx hb dS_addInnerQuota_23 rfl (sv_at hl rfl) ?_
      refine lv_acmp_ne (rx := some (ad (2 + 3 * u))) (ry := some (ad (2 + 3 * v))) (tgt := 36) hx hb dS_addInnerQuota_24 rfl (fun h24 => ?_) (fun h24 => ?_)
      · skip
        refine lv_iconst (v := -1) hx hb dS_addInnerQuota_36 (by decide) ?_
        have huv : ¬ nI u = nI v := fun q => h24 (by rw [(nI_eq (by omega) (by omega)).mp q])
        have e9 : (sv_isn qc (nI b) && (decide (σ 3 (nI b).toNatClampNeg = nI v) && decide (σ 5 (nI b).toNatClampNeg < nI 3))) = false := by rw [ecb, e3, decide_eq_false huv, Bool.false_and, Bool.and_false]
        refine W.widen (k := 1) (n := 6) (by decide) (by decide) ?_
        exact x_tv (by rw [e9]; rfl) (ret _ _ _ ad _ _ dS_addInnerQuota_37 hS ⟨rfl, fun _ _ => rfl⟩ (by rw [e9]; exact ⟨hP, hJ, hA⟩))
      · skip
        have huv := hJ _ _ (by omega) (by omega) (Option.some.inj h24)
        rw [show u = v by omega] at e3
        refine lv_aload (i := 4) hx hb dS_addInnerQuota_27 (sv_at hl rfl) ?_
        refine gQ_level X hP (by omega) dS_addInnerQuota_29 ?_
        refine lv_iconst (v := nI 3) hx hb dS_addInnerQuota_32 (by decide) ?_
        refine lv_icmp_lt (tgt := 38) hx hb dS_addInnerQuota_33 rfl (fun h33 => ?_) (fun h33 => ?_)
        · skip
          refine y_newO (T := T_Q) (M := 6) (ci := sv_kQ) (fs := [.null, .int 0, .int 0, .int 0, .null, .null]) X hP (sv_D hJ hA) hS hF0 in_Q t_Q t_Q_ok (sv_tb_t 66 rfl rfl) (sv_tb_t 99 rfl rfl) (sv_tb_t 5 rfl rfl) rfl (fun j hj => by rcases (show j = 0 ∨ j = 1 ∨ j = 2 ∨ j = 3 ∨ j = 4 ∨ j = 5 by omega) with rfl | rfl | rfl | rfl | rfl | rfl <;> rfl) (by decide) (by decide) dS_addInnerQuota_38 (fun q9 H hP hD hS => ?_)
          obtain ⟨ad1, hq1, ho1, hP, hJ1, hA1⟩ := sv_grow hP hD
          rw [sv_L_congr (sv_ce_adN hI ho1)] at hP
          refine x_st (st2 := [.ref (ad1 (3 + 3 * n + qc))]) (by rw [hq1]) ?_
          rw [ho1 0 (by omega), ho1 (2 + 3 * v) (by omega), ho1 (3 + 3 * n + b) (by omega)] at hl
          refine lv_dup hx hb dS_addInnerQuota_41 rfl ?_
          refine lv_aload_n (i := 1) hx hb dS_addInnerQuota_42 rfl (sv_at hl rfl) ?_
          refine lv_aload (i := 4) hx hb dS_addInnerQuota_43 (sv_at hl rfl) ?_
          refine y_getN hx hb X.hts X.Ns in_Q X.own X.K hP (by omega) (sv_upn sv_ce_Q (by omega)) rfl 1 (by decide) (sv_nst_t 107 rfl rfl) rfl dS_addInnerQuota_45 ?_
          refine lv_iconst (v := 1) hx hb dS_addInnerQuota_48 (by decide) ?_
          refine lv_iadd hx hb dS_addInnerQuota_49 ?_
          refine lv_iload_n (i := 3) hx hb dS_addInnerQuota_50 rfl (sv_at hl rfl) ?_
          refine sv_aN (S := Unit) (post := fun _ => True) (B := fun _ H => va_P D vwCl (sv_L (3 + 3 * n + qc + 1) ad1 (va_up (va_up (sv_ce cI cN cQ n qc ad1 σ) (3 + 3 * n + qc) (.inr (sv_kQ, [.null, .int 0, .int 0, .int 0, .null, .null]))) (3 + 3 * n + qc) (.inr (sv_kQ, [.ref (ad1 (2 + 3 * v)), .int (σ 5 b + 1), .int x, .int 0, .null, .null])))) H) (G := fun H => va_P D vwCl (sv_L (3 + 3 * n + qc + 1) ad1 (va_up (sv_ce cI cN cQ n qc ad1 σ) (3 + 3 * n + qc) (.inr (sv_kQ, [.null, .int 0, .int 0, .int 0, .null, .null])))) H) (y := yQ_init) (As := [.ref (ad1 (2 + 3 * v)), .int (σ 5 b + 1), .int x]) (b := ad1 (3 + 3 * n + qc)) (n := 3) (k2 := 2) (mc := 0) (ms := 0) X (sv_tb_t 102 rfl rfl) (sv_nst_t 100 rfl rfl) (sv_tb_t 101 rfl rfl) (sv_tb_t 5 rfl rfl) rfl ⟨by decide, by decide, by decide +kernel⟩ (by decide) (cQ_m_init (by omega) sv_up_s hJ1 hA1) hP hS (by decide) rfl hl.1 rfl (Nat.le_of_ble_eq_true rfl) (by decide) (by decide) dS_addInnerQuota_51 (fun u H locs _ hP hS => ?_)
          rw [bx_uu] at hP
          refine lv_astore (i := 5) hx hb dS_addInnerQuota_54 hl (by decide) rfl (fun ls hl => ?_)
          refine lv_aload (i := 5) hx hb dS_addInnerQuota_56 (sv_at hl rfl) ?_
          refine lv_aload (i := 4) hx hb dS_addInnerQuota_58 (sv_at hl rfl) ?_
          refine y_getN hx hb X.hts X.Ns in_Q X.own X.K hP (by omega) (sv_upn sv_ce_Q (by omega)) rfl 4 (by decide) (sv_nst_t 113 rfl rfl) rfl dS_addInnerQuota_60 ?_
          refine y_putN hx hb X.hts X.Ns in_Q t_Q t_Q_ok nm_Q X.own X.K hP (sv_D hJ1 hA1) hS (by omega) sv_up_s rfl 5 (by decide) (sv_nst_t 115 rfl rfl) rfl (ty := .object "SliceVoting$Quota") (by decide +kernel) sv_rq_nr sv_rq_ft (by show 5 < 6; decide) dS_addInnerQuota_63 (fun H locs hP hS => ?_)
          rw [bx_uu] at hP
          refine lv_aload (i := 4) hx hb dS_addInnerQuota_66 (sv_at hl rfl) ?_
          refine lv_aload (i := 5) hx hb dS_addInnerQuota_68 (sv_at hl rfl) ?_
          refine y_putN hx hb X.hts X.Ns in_Q t_Q t_Q_ok nm_Q X.own X.K hP (sv_D hJ1 hA1) hS (by omega) (sv_upn sv_ce_Q (by omega)) rfl 4 (by decide) (sv_nst_t 113 rfl rfl) rfl (ty := .object "SliceVoting$Quota") (by decide +kernel) rfl rfl (by show 4 < 6; decide) dS_addInnerQuota_70 (fun H locs hP hS => ?_)
          refine lv_aload_n (i := 0) hx hb dS_addInnerQuota_73 rfl (sv_at hl rfl) ?_
          refine lv_aload (i := 5) hx hb dS_addInnerQuota_74 (sv_at hl rfl) ?_
          refine sv_aV (S := Unit) (post := fun r _ => r = nI qc) (B := fun _ H => va_P D vwCl (sv_L (3 + 3 * n + qc + 1) ad1 (va_up (va_up (va_up (va_up (va_up (sv_ce cI cN cQ n qc ad1 σ) (3 + 3 * n + qc) (.inr (sv_kQ, [.ref (ad1 (2 + 3 * v)), .int (σ 5 b + 1), .int x, .int 0, .null, sv_rq ad1 n (sv_fst σ qc b)]))) (3 + 3 * n + b) (.inr (sv_kQ, (sv_fQ n qc ad1 σ b).set 4 (.ref (ad1 (3 + 3 * n + qc)))))) (2 + 3 * v) (.inr (sv_kN, (sv_fN n qc ad1 σ v).set 8 (.int (nI (sv_own σ qc v + 1)))))) (2 + 3 * n) (.inl (cQ, 4 * n, .inr (.inr (.inr (.inr (va_up (fun q => if q < qc then some (ad1 (3 + 3 * n + q)) else none) qc (some (ad1 (3 + 3 * n + qc)))))))))) 0 (.inr (sv_kS, (sv_fS n qc ad1 σ).set 3 (.int (nI (qc + 1))))))) H) (G := fun H => va_P D vwCl (sv_L (3 + 3 * n + qc + 1) ad1 (va_up (va_up (sv_ce cI cN cQ n qc ad1 σ) (3 + 3 * n + qc) (.inr (sv_kQ, [.ref (ad1 (2 + 3 * v)), .int (σ 5 b + 1), .int x, .int 0, .null, sv_rq ad1 n (sv_fst σ qc b)]))) (3 + 3 * n + b) (.inr (sv_kQ, (sv_fQ n qc ad1 σ b).set 4 (.ref (ad1 (3 + 3 * n + qc))))))) H) (As := [.ref (ad1 (3 + 3 * n + qc))]) (b := ad1 0) (mc := 0) (ms := 0) (k2 := 1) X okS_S_number (cS_m_number (k0 := (3 + 3 * n + qc)) (qf := [.ref (ad1 (2 + 3 * v)), .int (σ 5 b + 1), .int x, .int 0, .null, sv_rq ad1 n (sv_fst σ qc b)]) (nf := sv_fN n qc ad1 σ v) (sf := sv_fS n qc ad1 σ) (fq := fun q => if q < qc then some (ad1 (3 + 3 * n + q)) else none) hn hv hqc (by omega) (by omega) (sv_upn sv_up_s (by omega)) rfl (sv_upn (sv_upn (sv_ce_N hv) (by omega)) (by omega)) rfl rfl (sv_upn (sv_upn sv_ce_S (by omega)) (by omega)) rfl rfl rfl (sv_upn (sv_upn sv_ce_B (by omega)) (by omega)) hJ1 hA1) hP (y_rec X.K hP (by omega) (sv_upn (sv_upn sv_ce_S (by omega)) (by omega)) rfl) hS (by decide) rfl hl.1 rfl (Nat.le_of_ble_eq_true rfl) (by decide) (by decide) dS_addInnerQuota_76 (fun r u H locs hr hP _ hS => ?_)
          subst hr
          have e9 : (sv_isn qc (nI b) && (decide (σ 3 (nI b).toNatClampNeg = nI v) && decide (σ 5 (nI b).toNatClampNeg < nI 3))) = true := by rw [h5, ecb, decide_eq_true e3, decide_eq_true h33]; rfl
          have hP := sv_P_congr (sv_ce_inn hI hv hb9) hP
          exact x_tv (by rw [e9]; rfl) (ret _ _ _ ad1 _ _ dS_addInnerQuota_79 hS ⟨rfl, ho1⟩ (by rw [e9, ecb]; exact ⟨hP, hJ1, hA1⟩))
        · skip
          refine lv_iconst (v := -1) hx hb dS_addInnerQuota_36 (by decide) ?_
          have e9 : (sv_isn qc (nI b) && (decide (σ 3 (nI b).toNatClampNeg = nI v) && decide (σ 5 (nI b).toNatClampNeg < nI 3))) = false := by rw [ecb, decide_eq_false h33, Bool.and_false, Bool.and_false]
          refine W.widen (k := 1) (n := 6) (by decide) (by decide) ?_
          exact x_tv (by rw [e9]; rfl) (ret _ _ _ ad _ _ dS_addInnerQuota_37 hS ⟨rfl, fun _ _ => rfl⟩ (by rw [e9]; exact ⟨hP, hJ, hA⟩))
    · skip
      refine lv_iconst (v := -1) hx hb dS_addInnerQuota_8 (by decide) ?_
      have e9 : (sv_isn qc w && (decide (σ 3 w.toNatClampNeg = nI v) && decide (σ 5 w.toNatClampNeg < nI 3))) = false := by rw [h5]; rfl
      refine W.widen (k := 1) (n := 6) (by decide) (by decide) ?_
      exact x_tv (by rw [e9]; rfl) (ret _ _ _ ad _ _ dS_addInnerQuota_9 hS ⟨rfl, fun _ _ => rfl⟩ (by rw [e9]; exact ⟨hP, hJ, hA⟩)))
set_option maxRecDepth 100000 in
theorem okS_S_addInnerQuota : sv_okV "SliceVoting" 56 yS_addInnerQuota cS_addInnerQuota 6 (some .int) 3 := ⟨sv_tb_t 136 rfl rfl, sv_tb_t 133 rfl rfl, sv_tb_t 135 rfl rfl, sv_tb_s 3 rfl rfl, sv_tb_t 1 rfl rfl, ⟨by decide, by decide, by decide +kernel⟩, by decide⟩
end SvQuota3
