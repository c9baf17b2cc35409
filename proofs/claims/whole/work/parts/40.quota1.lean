section SvQuota1
variable {p : Program} {l : Launch} {e : Env} {R : Room} {s : State} {m : MethodId} {args : Array Value} {below : List Frame} {meth : Method} {c : Code} {H H0 : Heap} {locs : List Loc} {cells slots : Nat} {Q : State → Prop}
variable {cc : ByteArray} {pc nL k : Nat} {ls : Array Slot} {lv : List (Nat × Value)} {rest : List Value} {D : va_G} {cI cZ cN cQ : ClassId} {n qc : Nat} {ad : Nat → Nat} {σ : Sg} {A : Nat → Prop} {mt qm : Nat → Int32}
theorem sv_grow {D : va_G} {cl : List vw_C} {A : Nat → Prop} {N q : Nat} {ad : Nat → Nat} {en : Nat → va_E} {e : va_E} {H : Heap} (hP : va_P D cl (sv_L N ad en ++ [(q, e)]) H) (hD : va_D A (sv_L N ad en ++ [(q, e)])) : ∃ ad1 : Nat → Nat, q = ad1 N ∧ (∀ k, k < N → ad k = ad1 k) ∧ va_P D cl (sv_L (N + 1) ad1 (va_up en N e)) H ∧ sv_inj (N + 1) ad1 ∧ ∀ k, k < N + 1 → A (ad1 k) := by
  rw [sv_L_push] at hP hD
  refine ⟨va_up ad N q, by simp [va_up], fun k hk => by simp [va_up, Nat.ne_of_lt hk], hP, (sv_D_inj hD).1, (sv_D_inj hD).2⟩
theorem sv_size {A : Nat → Prop} {H0 H : Heap} {locs : List Loc} {sz : Nat} (hz : H0.size = sz) (hF : ∀ q, sz ≤ q → A q) (hS : va_S A H0 H locs) : ∀ q, H0.size ≤ q → A q := fun q h => hF q (by omega)
set_option maxHeartbeats 4000000 in
set_option maxRecDepth 100000 in
theorem cQ_m_init {N k0 o : Nat} {en : Nat → va_E} {lvv nd : Int32} (hk0 : k0 < N) (he : en k0 = .inr (sv_kQ, [.null, .int 0, .int 0, .int 0, .null, .null])) (hJ : sv_inj N ad) (hA : ∀ k, k < N → A (ad k)) : Met l yQ_init (sv_ws yQ_init cQ_init 4 none) (sv_rmA 2 0 0) (sv_Pc D cI cZ cN cQ [.ref (ad k0), .ref o, .int lvv, .int nd] (fun H => va_P D vwCl (sv_L N ad en) H)) (va_Qv (fun _ : Unit => True) (fun _ t => va_P D vwCl (sv_L N ad (va_up en k0 (.inr (sv_kQ, [.ref o, .int lvv, .int nd, .int 0, .null, .null])))) t.heap) A) 0 0 A :=
  sv_mkAV (B := fun _ H => va_P D vwCl (sv_L N ad (va_up en k0 (.inr (sv_kQ, [.ref o, .int lvv, .int nd, .int 0, .null, .null])))) H) (by decide) (by show 4 ≤ 4; decide) (fun p e s m below meth c ls Q X hin0 hP hl ret => by
    have hx := X.1
    have hb := X.2.1
    have hl : lv_has ls 4 [(0, .ref (ad k0)), (1, .ref o), (2, .int lvv), (3, .int nd)] := hl
    have hS : va_S A s.heap s.heap [] := va_S.rf
    refine lv_aload_n (i := 0) hx hb dQ_init_0 rfl (sv_at hl rfl) ?_
    refine W.objInit hx hb X.own (X.hts (.methodLink "SliceVoting$Quota" 1 objectInit) (sv_tb_t 103 rfl rfl)) (X.hts (.instanceMethod objectInit) (sv_tb_t 13 rfl rfl)) (X.hts (.code objectInit ⟨#[0xb1]⟩ 1 none) (sv_tb_t 14 rfl rfl)) rfl (by rw [X.2.2.1]; exact hl.1) rfl dQ_init_1 (Nat.le_trans (by decide) X.2.2.2.2.2.2.1) (Nat.le_trans (Nat.le_of_ble_eq_true rfl) X.2.2.2.2.2.2.2) ?_
    refine W.eq (g2 := F0 m 4 ls []) rfl ?_
    refine lv_aload_n (i := 0) hx hb dQ_init_4 rfl (sv_at hl rfl) ?_
    refine lv_aload_n (i := 1) hx hb dQ_init_5 rfl (sv_at hl rfl) ?_
    refine y_putF (T := T_Q) (M := 6) (f := 0) X hin0 in_Q t_Q t_Q_ok nm_Q hP (sv_D hJ hA) hS hk0 he rfl (by decide) (sv_tb_t 104 rfl rfl) rfl rfl (ty := .object "SliceVoting$Node") (by decide +kernel) rfl rfl (by show 0 < 6; decide) dQ_init_6 (fun H locs hP hS => ?_)
    have hP : va_P D vwCl (sv_L N ad (va_up en k0 (.inr (sv_kQ, [.ref o, .int 0, .int 0, .int 0, .null, .null])))) H := hP
    refine lv_aload_n (i := 0) hx hb dQ_init_9 rfl (sv_at hl rfl) ?_
    refine lv_iload_n (i := 2) hx hb dQ_init_10 rfl (sv_at hl rfl) ?_
    refine y_putF (T := T_Q) (M := 6) (f := 1) X hin0 in_Q t_Q t_Q_ok nm_Q hP (sv_D hJ hA) hS hk0 (if_pos rfl) rfl (by decide) (sv_tb_t 106 rfl rfl) rfl rfl (ty := .int) (by decide +kernel) rfl rfl (by show 1 < 6; decide) dQ_init_11 (fun H locs hP hS => ?_)
    rw [bx_uu] at hP
    have hP : va_P D vwCl (sv_L N ad (va_up en k0 (.inr (sv_kQ, [.ref o, .int lvv, .int 0, .int 0, .null, .null])))) H := hP
    refine lv_aload_n (i := 0) hx hb dQ_init_14 rfl (sv_at hl rfl) ?_
    refine lv_iload_n (i := 3) hx hb dQ_init_15 rfl (sv_at hl rfl) ?_
    refine y_putF (T := T_Q) (M := 6) (f := 2) X hin0 in_Q t_Q t_Q_ok nm_Q hP (sv_D hJ hA) hS hk0 (if_pos rfl) rfl (by decide) (sv_tb_t 108 rfl rfl) rfl rfl (ty := .int) (by decide +kernel) rfl rfl (by show 2 < 6; decide) dQ_init_16 (fun H locs hP hS => ?_)
    rw [bx_uu] at hP
    have hP : va_P D vwCl (sv_L N ad (va_up en k0 (.inr (sv_kQ, [.ref o, .int lvv, .int nd, .int 0, .null, .null])))) H := hP
    refine lv_aload_n (i := 0) hx hb dQ_init_19 rfl (sv_at hl rfl) ?_
    refine lv_iconst (v := 0) hx hb dQ_init_20 (by decide) ?_
    refine y_put hx hb X.hts in_Q t_Q t_Q_ok nm_Q X.own X.K hP (sv_D hJ hA) hS hk0 (if_pos rfl) rfl 3 (by decide) (sv_tb_t 110 rfl rfl) rfl (ty := .int) (by decide +kernel) rfl rfl (by show 3 < 6; decide) dQ_init_21 (fun H locs hP hS => ?_)
    rw [bx_uu] at hP
    have hP : va_P D vwCl (sv_L N ad (va_up en k0 (.inr (sv_kQ, [.ref o, .int lvv, .int nd, .int 0, .null, .null])))) H := hP
    refine lv_aload_n (i := 0) hx hb dQ_init_24 rfl (sv_at hl rfl) ?_
    refine lv_null hx hb dQ_init_25 ?_
    refine y_put hx hb X.hts in_Q t_Q t_Q_ok nm_Q X.own X.K hP (sv_D hJ hA) hS hk0 (if_pos rfl) rfl 4 (by decide) (sv_tb_t 112 rfl rfl) rfl (ty := .object "SliceVoting$Quota") (by decide +kernel) rfl rfl (by show 4 < 6; decide) dQ_init_26 (fun H locs hP hS => ?_)
    rw [bx_uu] at hP
    have hP : va_P D vwCl (sv_L N ad (va_up en k0 (.inr (sv_kQ, [.ref o, .int lvv, .int nd, .int 0, .null, .null])))) H := hP
    refine lv_aload_n (i := 0) hx hb dQ_init_29 rfl (sv_at hl rfl) ?_
    refine lv_null hx hb dQ_init_30 ?_
    refine y_put hx hb X.hts in_Q t_Q t_Q_ok nm_Q X.own X.K hP (sv_D hJ hA) hS hk0 (if_pos rfl) rfl 5 (by decide) (sv_tb_t 114 rfl rfl) rfl (ty := .object "SliceVoting$Quota") (by decide +kernel) rfl rfl (by show 5 < 6; decide) dQ_init_31 (fun H locs hP hS => ?_)
    rw [bx_uu] at hP
    have hP : va_P D vwCl (sv_L N ad (va_up en k0 (.inr (sv_kQ, [.ref o, .int lvv, .int nd, .int 0, .null, .null])))) H := hP
    exact ret _ _ () H locs dQ_init_34 hS trivial hP)
theorem sv_upn {f : Nat → va_E} {k j : Nat} {e x : va_E} (h : f j = x) (hn : j ≠ k) : va_up f k e j = x := by
  rw [show va_up f k e j = f j from if_neg hn]
  exact h
set_option maxHeartbeats 4000000 in
set_option maxRecDepth 100000 in
theorem cS_m_number {N k0 v cq : Nat} {en : Nat → va_E} {nf sf qf : List Value} {fq : Nat → Option Nat} (hn6 : n ≤ 6) (hv : v < n) (hqc : qc < 4 * n) (hN : 3 + 3 * n ≤ k0) (hk0 : k0 < N) (heQ : en k0 = .inr (sv_kQ, qf)) (hq0 : qf[0]? = some (.ref (ad (2 + 3 * v)))) (heN : en (2 + 3 * v) = .inr (sv_kN, nf)) (hn8 : nf[8]? = some (.int (nI cq))) (hnl : nf.length = 9) (heS : en 0 = .inr (sv_kS, sf)) (hs2 : sf[2]? = some (.ref (ad (2 + 3 * n)))) (hs3 : sf[3]? = some (.int (nI qc))) (hsl : sf.length = 6) (heB : en (2 + 3 * n) = .inl (cQ, 4 * n, .inr (.inr (.inr (.inr fq))))) (hJ : sv_inj N ad) (hA : ∀ k, k < N → A (ad k)) : Met l yS_number (sv_ws yS_number cS_number 2 (some .int)) (sv_rmA 1 0 0) (sv_Pc D cI cZ cN cQ [.ref (ad 0), .ref (ad k0)] (fun H => va_P D vwCl (sv_L N ad en) H)) (va_Qi (fun r (_ : Unit) => r = nI qc) (fun _ t => va_P D vwCl (sv_L N ad (va_up (va_up (va_up en (2 + 3 * v) (.inr (sv_kN, nf.set 8 (.int (nI (cq + 1)))))) (2 + 3 * n) (.inl (cQ, 4 * n, .inr (.inr (.inr (.inr (va_up fq qc (some (ad k0))))))))) 0 (.inr (sv_kS, sf.set 3 (.int (nI (qc + 1))))))) t.heap) A) 0 0 A :=
  sv_mkAI (B := fun _ H => va_P D vwCl (sv_L N ad (va_up (va_up (va_up en (2 + 3 * v) (.inr (sv_kN, nf.set 8 (.int (nI (cq + 1)))))) (2 + 3 * n) (.inl (cQ, 4 * n, .inr (.inr (.inr (.inr (va_up fq qc (some (ad k0))))))))) 0 (.inr (sv_kS, sf.set 3 (.int (nI (qc + 1))))))) H) (by decide) (by show 2 ≤ 2; decide) (fun p e s m below meth c ls Q X hP hl ret => by
    have hx := X.1
    have hb := X.2.1
    have hl : lv_has ls 2 [(0, .ref (ad 0)), (1, .ref (ad k0))] := hl
    have hS : va_S A s.heap s.heap [] := va_S.rf
    refine lv_aload_n (i := 1) hx hb dS_number_0 rfl (sv_at hl rfl) ?_
    refine y_getN hx hb X.hts X.Ns in_Q X.own X.K hP hk0 heQ rfl 0 (by decide) (sv_nst_t 105 rfl rfl) hq0 dS_number_1 ?_
    refine lv_dup hx hb dS_number_4 rfl ?_
    refine y_getN hx hb X.hts X.Ns in_N X.own X.K hP (by omega) heN rfl 8 (by decide) (sv_nst_t 45 rfl rfl) hn8 dS_number_5 ?_
    refine lv_iconst (v := 1) hx hb dS_number_8 (by decide) ?_
    refine lv_iadd hx hb dS_number_9 ?_
    refine x_tv (nI_1 cq) ?_
    refine y_putN hx hb X.hts X.Ns in_N t_N t_N_ok nm_N X.own X.K hP (sv_D hJ hA) hS (by omega) heN rfl 8 (by decide) (sv_nst_t 45 rfl rfl) rfl (ty := .int) (by decide +kernel) rfl rfl (by omega) dS_number_10 (fun H locs hP hS => ?_)
    refine lv_aload_n (i := 0) hx hb dS_number_13 rfl (sv_at hl rfl) ?_
    refine y_get hx hb X.hts in_S X.own X.K hP (by omega) (sv_upn heS (by omega)) rfl 2 (by decide) (sv_tb_t 70 rfl rfl) hs2 dS_number_14 ?_
    refine lv_aload_n (i := 0) hx hb dS_number_17 rfl (sv_at hl rfl) ?_
    refine y_get hx hb X.hts in_S X.own X.K hP (by omega) (sv_upn heS (by omega)) rfl 3 (by decide) (sv_tb_t 71 rfl rfl) hs3 dS_number_18 ?_
    refine lv_aload_n (i := 1) hx hb dS_number_21 rfl (sv_at hl rfl) ?_
    refine y_aast hx hb X.K hP (sv_D hJ hA) hS (k2 := k0) (by omega) hk0 3 1 (sv_upn heB (by omega)) rfl (sv_upn heQ (by omega)) rfl hqc (by omega) dS_number_22 (fun H locs hP hS => ?_)
    refine lv_aload_n (i := 0) hx hb dS_number_23 rfl (sv_at hl rfl) ?_
    refine lv_dup hx hb dS_number_24 rfl ?_
    refine y_get hx hb X.hts in_S X.own X.K hP (by omega) (sv_upn (sv_upn heS (by omega)) (by omega)) rfl 3 (by decide) (sv_tb_t 71 rfl rfl) hs3 dS_number_25 ?_
    refine lv_iconst (v := 1) hx hb dS_number_28 (by decide) ?_
    refine lv_iadd hx hb dS_number_29 ?_
    refine x_tv (nI_1 qc) ?_
    refine y_put hx hb X.hts in_S t_S t_S_ok nm_S X.own X.K hP (sv_D hJ hA) hS (by omega) (sv_upn (sv_upn heS (by omega)) (by omega)) rfl 3 (by decide) (sv_tb_t 71 rfl rfl) rfl (ty := .int) (by decide +kernel) rfl rfl (by omega) dS_number_30 (fun H locs hP hS => ?_)
    refine lv_aload_n (i := 0) hx hb dS_number_33 rfl (sv_at hl rfl) ?_
    refine y_get (v := .int (nI (qc + 1))) hx hb X.hts in_S X.own X.K hP (by omega) (if_pos rfl) rfl 3 (by decide) (sv_tb_t 71 rfl rfl) (List.getElem?_set_self (by omega)) dS_number_34 ?_
    refine lv_iconst (v := 1) hx hb dS_number_37 (by decide) ?_
    refine lv_isub hx hb dS_number_38 ?_
    refine x_tv (nI_pred qc) ?_
    exact ret _ _ _ () H locs dS_number_39 hS rfl hP
)
set_option maxRecDepth 100000 in
theorem okS_S_number : sv_okV "SliceVoting" 135 yS_number cS_number 2 (some .int) 1 := ⟨sv_tb_t 132 rfl rfl, sv_tb_t 129 rfl rfl, sv_tb_t 131 rfl rfl, sv_tb_s 2 rfl rfl, sv_tb_t 1 rfl rfl, ⟨by decide, by decide, by decide +kernel⟩, by decide⟩
end SvQuota1
