section SvLaw3
variable {p : Program} {l : Launch} {e : Env} {R : Room} {s : State} {m : MethodId} {args : Array Value} {below : List Frame} {meth : Method} {c : Code} {H H0 : Heap} {locs : List Loc} {cells slots : Nat} {Q : State → Prop}
variable {pc n qc b L v : Nat} {ls : Array Slot} {rest : List Value} {D : va_G} {cI cZ cN cQ : ClassId} {xs : Nat → Int32} {ac am : Nat → Nat} {σ : Sg} {mt qm : Nat → Int32}
theorem sv_P_pick {N1 N2 : Nat} {ad1 ad2 : Nat → Nat} {en1 en2 : Nat → va_E} (f : Nat → Nat) (h : ∀ k, k < N2 → f k < N1 ∧ ad1 (f k) = ad2 k ∧ en1 (f k) = en2 k) (hP : va_P D vwCl (sv_L N1 ad1 en1) H) : va_P D vwCl (sv_L N2 ad2 en2) H := hP.by f fun k q hq => by
  obtain ⟨h1, rfl⟩ := sv_L_some hq
  obtain ⟨a1, a2, a3⟩ := h k h1
  rw [sv_L_at a1, a2, a3]
set_option maxHeartbeats 4000000 in
set_option maxRecDepth 100000 in
theorem wL_J (X : sv_X D cI cZ cN cQ "SliceVotingLaw" cL_law 4 20 p R s m args c) (hL : L ≤ 2561) (hX : va_X b L xs s H0) (hbl : b < H0.size) (hRc : 1000 ≤ R.cells) (hRs : 10000 ≤ R.slots) (E : ∀ (t : Nat) (H : Heap) (locs : List Loc) (ls : Array Slot), t ≤ 600 → va_S (fun q => H0.size ≤ q) H0 H locs → W p l e R s m args below meth c H locs (38 + t) (547 + 6 * t) Q (F0 m 667 ls [])) : ∀ (kf t qc : Nat) (ac : Nat → Nat) (σ : Sg) (mt qm : Nat → Int32) (H : Heap) (locs : List Loc) (ls : Array Slot), 600 - t < kf → 1 + 5 * t ≤ L + 5 → lv_has ls 4 [(0, .ref b), (1, .ref (ac 0)), (2, .ref (am 0)), (3, .int (nI (1 + 5 * t)))] → sv_LW D cI cZ cN cQ H0.size n qc ac am σ mt qm H → va_S (fun q => H0.size ≤ q) H0 H locs → W p l e R s m args below meth c H locs (38 + t) (547 + 6 * t) Q (F0 m 28 ls []) := by
  have hx := X.1
  have hb := X.2.1
  have hbA : ¬ H0.size ≤ b := by omega
  intro kf
  induction kf with
  | zero => intro t qc ac σ mt qm H locs ls hm; exact absurd hm (Nat.not_lt_zero _)
  | succ kf ih =>
    intro t qc ac σ mt qm H locs ls hm ht hl hW hS
    refine lv_iload_n (i := 3) hx hb dL_law_28 rfl (sv_at hl rfl) ?_
    refine lv_aload_n (i := 0) hx hb dL_law_29 rfl (sv_at hl rfl) ?_
    refine va_slen hx hb hX hbl hbA hS dL_law_30 ?_
    refine lv_iconst (v := nI 5) hx hb dL_law_31 (by decide) ?_
    refine lv_isub hx hb dL_law_32 ?_
    refine lv_icmp_gt (tgt := 667) hx hb dL_law_33 rfl (fun h33 => ?_) (fun h33 => ?_)
    · exact E t H locs ls (by omega) hS
    · have hv : 1 + 5 * t + 5 ≤ L := by
        have h34 : ¬ (nI L - nI 5) < nI (1 + 5 * t) := h33
        rw [Int32.lt_iff_toInt_lt, pk_sub_toInt (by omega) (by omega), nI_toInt (by omega)] at h34
        omega
      refine lv_aload_n (i := 0) hx hb dL_law_36 rfl (sv_at hl rfl) ?_
      refine lv_iload_n (i := 3) hx hb dL_law_37 rfl (sv_at hl rfl) ?_
      refine va_sld hx hb hX hbl hbA hS (i := nI (1 + 5 * t)) (vp_in_nI (by omega) (by omega)) dL_law_38 ?_
      refine lv_bipush (v := nI 31) hx hb dL_law_39 (by decide) ?_
      refine lv_iand hx hb dL_law_41 ?_
      obtain ⟨j, hj, ej⟩ := pk_andE (xs (nI (1 + 5 * t)).toNatClampNeg) (m := nI 31) 5 (by decide)
      refine x_tv ej ?_
      have K : ∀ (qc2 : Nat) (ac2 : Nat → Nat) (σ2 : Sg) (mt2 qm2 : Nat → Int32) (H2 : Heap) (locs2 : List Loc), ac 0 = ac2 0 → sv_LW D cI cZ cN cQ H0.size n qc2 ac2 am σ2 mt2 qm2 H2 → va_S (fun q => H0.size ≤ q) H0 H2 locs2 → W p l e R s m args below meth c H2 locs2 (38 + t + 1) (547 + 6 * t + 6) Q (F0 m 661 ls []) := by
        intro qc2 ac2 σ2 mt2 qm2 H2 locs2 h0 hW2 hS2
        have hl2 : lv_has ls 4 [(0, .ref b), (1, .ref (ac2 0)), (2, .ref (am 0)), (3, .int (nI (1 + 5 * t)))] := by rw [← h0]; exact hl
        refine x_iinc (i := 3) hx hb dL_law_661 hl2 rfl (show nI (1 + 5 * t) + Int32.ofInt 5 = nI (1 + 5 * (t + 1)) by rw [show Int32.ofInt 5 = nI 5 by decide, nI_add, show 1 + 5 * t + 5 = 1 + 5 * (t + 1) by omega]) (by decide) (fun ls hl => ?_)
        refine lv_goto (tgt := 28) hx hb dL_law_664 rfl ?_
        exact ih (t + 1) qc2 ac2 σ2 mt2 qm2 H2 locs2 ls (by omega) (by omega) (sv_re hl ⟨rfl, rfl, rfl, rfl, trivial⟩) hW2 hS2
      rcases (show j = 0 ∨ j = 1 ∨ j = 2 ∨ j = 3 ∨ j = 4 ∨ j = 5 ∨ j = 6 ∨ j = 7 ∨ j = 8 ∨ j = 9 ∨ j = 10 ∨ j = 11 ∨ j = 12 ∨ j = 13 ∨ j = 14 ∨ j = 15 ∨ j = 16 ∨ 17 ≤ j by omega) with rfl | rfl | rfl | rfl | rfl | rfl | rfl | rfl | rfl | rfl | rfl | rfl | rfl | rfl | rfl | rfl | rfl | h17
      · exact lv_tableIn (off := 82) (tgt := 124) hx hb dL_law_42 (by decide +kernel) (by decide +kernel) (by decide +kernel) (by decide) (wL_quota X hL hX hbl hv hl hW hS (by omega) (by omega) K)
      · exact lv_tableIn (off := 125) (tgt := 167) hx hb dL_law_42 (by decide +kernel) (by decide +kernel) (by decide +kernel) (by decide) (wL_member X hL hX hbl hv hl hW hS (by omega) (by omega) K)
      · exact lv_tableIn (off := 158) (tgt := 200) hx hb dL_law_42 (by decide +kernel) (by decide +kernel) (by decide +kernel) (by decide) (wL_corrupt X hL hX hbl hv hl hW hS (by omega) (by omega) K)
      · exact lv_tableIn (off := 181) (tgt := 223) hx hb dL_law_42 (by decide +kernel) (by decide +kernel) (by decide +kernel) (by decide) (wL_propose X hL hX hbl hv hl hW hS (by omega) (by omega) K)
      · exact lv_tableIn (off := 224) (tgt := 266) hx hb dL_law_42 (by decide +kernel) (by decide +kernel) (by decide +kernel) (by decide) (wL_deliver X hL hX hbl hv hl hW hS (by omega) (by omega) K)
      · exact lv_tableIn (off := 257) (tgt := 299) hx hb dL_law_42 (by decide +kernel) (by decide +kernel) (by decide +kernel) (by decide) (wL_say X hL hX hbl hv hl hW hS (by omega) (by omega) K)
      · exact lv_tableIn (off := 310) (tgt := 352) hx hb dL_law_42 (by decide +kernel) (by decide +kernel) (by decide +kernel) (by decide) (wL_voted X hL hX hbl hv hl hW hS (by omega) (by omega) K)
      · exact lv_tableIn (off := 333) (tgt := 375) hx hb dL_law_42 (by decide +kernel) (by decide +kernel) (by decide +kernel) (by decide) (wL_accepted X hL hX hbl hv hl hW hS (by omega) (by omega) K)
      · exact lv_tableIn (off := 356) (tgt := 398) hx hb dL_law_42 (by decide +kernel) (by decide +kernel) (by decide +kernel) (by decide) (wL_confirmed X hL hX hbl hv hl hW hS (by omega) (by omega) K)
      · exact lv_tableIn (off := 379) (tgt := 421) hx hb dL_law_42 (by decide +kernel) (by decide +kernel) (by decide +kernel) (by decide) (wL_counter X hL hX hbl hv hl hW hS (by omega) (by omega) K)
      · exact lv_tableIn (off := 402) (tgt := 444) hx hb dL_law_42 (by decide +kernel) (by decide +kernel) (by decide +kernel) (by decide) (wL_value X hL hX hbl hv hl hW hS (by omega) (by omega) K)
      · exact lv_tableIn (off := 425) (tgt := 467) hx hb dL_law_42 (by decide +kernel) (by decide +kernel) (by decide +kernel) (by decide) (wL_decided X hL hX hbl hv hl hW hS (by omega) (by omega) K)
      · exact lv_tableIn (off := 448) (tgt := 490) hx hb dL_law_42 (by decide +kernel) (by decide +kernel) (by decide +kernel) (by decide) (wL_known X hL hX hbl hv hl hW hS (by omega) (by omega) K)
      · exact lv_tableIn (off := 507) (tgt := 549) hx hb dL_law_42 (by decide +kernel) (by decide +kernel) (by decide +kernel) (by decide) (wL_quorum X hL hX hbl hv hl hW hS (by omega) (by omega) K)
      · exact lv_tableIn (off := 530) (tgt := 572) hx hb dL_law_42 (by decide +kernel) (by decide +kernel) (by decide +kernel) (by decide) (wL_largest X hL hX hbl hv hl hW hS (by omega) (by omega) K)
      · exact lv_tableIn (off := 553) (tgt := 595) hx hb dL_law_42 (by decide +kernel) (by decide +kernel) (by decide +kernel) (by decide) (wL_blocks X hL hX hbl hv hl hW hS (by omega) (by omega) K)
      · exact lv_tableIn (off := 586) (tgt := 628) hx hb dL_law_42 (by decide +kernel) (by decide +kernel) (by decide +kernel) (by decide) (wL_intertwined X hL hX hbl hv hl hW hS (by omega) (by omega) K)
      · refine lv_tableOut (tgt := 661) hx hb dL_law_42 (Or.inr (by rw [nI_toInt (by omega)]; omega)) (by decide) ?_
        refine W.widen (k := 38 + t + 1) (n := 547 + 6 * t + 6) (by omega) (by omega) ?_
        exact K qc ac σ mt qm H locs rfl hW hS
set_option maxHeartbeats 4000000 in
set_option maxRecDepth 100000 in
theorem wL_S (X : sv_X D cI cZ cN cQ "SliceVotingLaw" cL_law 4 20 p R s m args c) (hL : L ≤ 2561) (hX : va_X b L xs s H0) (hbl : b < H0.size) (hRc : 1000 ≤ R.cells) (hRs : 10000 ≤ R.slots) (E : ∀ (t : Nat) (H : Heap) (locs : List Loc) (ls : Array Slot), t ≤ 600 → va_S (fun q => H0.size ≤ q) H0 H locs → W p l e R s m args below meth c H locs (38 + t) (547 + 6 * t) Q (F0 m 667 ls [])) (hl : lv_has ls 4 [(0, .ref b)]) : W p l e R s m args below meth c H0 [] 0 0 Q (F0 m 0 ls []) := by
  have hx := X.1
  have hb := X.2.1
  have hbA : ¬ H0.size ≤ b := by omega
  have hS : va_S (fun q => H0.size ≤ q) H0 H0 [] := va_S.rf
  have hF0 : ∀ q, H0.size ≤ q → (fun q => H0.size ≤ q) q := fun q h => h
  have hP0 : va_P D vwCl (sv_L 0 (fun _ => 0) (fun _ => .inr (sv_kS, [.null, .int 0, .null, .int 0, .int 0, .int 0]))) H0 := fun k q hq => absurd (sv_L_some hq).1 (Nat.not_lt_zero _)
  have hD0 : va_D (fun q => H0.size ≤ q) (sv_L 0 (fun _ => 0) (fun _ => .inr (sv_kS, [.null, .int 0, .null, .int 0, .int 0, .int 0]))) := ⟨fun i j p q hp _ _ => absurd (sv_L_some hp).1 (Nat.not_lt_zero _), fun k q hq => absurd (sv_L_some hq).1 (Nat.not_lt_zero _)⟩
  refine y_newO (T := T_S) (M := 6) (ci := sv_kS) (fs := [.null, .int 0, .null, .int 0, .int 0, .int 0]) X hP0 hD0 hS hF0 in_S t_S t_S_ok (sv_tb_t 7 rfl rfl) (sv_tb_t 8 rfl rfl) (sv_tb_t 1 rfl rfl) rfl (fun j hj => by rcases (show j = 0 ∨ j = 1 ∨ j = 2 ∨ j = 3 ∨ j = 4 ∨ j = 5 by omega) with rfl | rfl | rfl | rfl | rfl | rfl <;> rfl) (by omega) (by omega) dL_law_0 (fun q1 H hP hD hS => ?_)
  obtain ⟨ad1, hq1, -, hP, -, hA⟩ := sv_grow hP hD
  have hP := sv_P_congr (en' := (fun _ => .inr (sv_kS, [.null, .int 0, .null, .int 0, .int 0, .int 0]))) (fun k hk => by rw [show k = 0 by omega, sv_up_s]) hP
  subst hq1
  refine lv_dup hx hb dL_law_3 rfl ?_
  refine lv_aload_n (i := 0) hx hb dL_law_4 rfl (sv_at hl rfl) ?_
  refine lv_iconst (v := 0) hx hb dL_law_5 (by decide) ?_
  refine kL_cell X (by decide) hL hX hbl hbA hS hl.1 (by omega) (by omega) (Nat.le_of_ble_eq_true rfl) dL_law_6 ?_
  have hnn := sv_nn_le (sv_x0 L xs)
  generalize hn : sv_nn (sv_x0 L xs) = n at hnn
  refine sv_lI (S := Nat → Nat) (A1 := fun q => H0.size ≤ q) (post := fun u : Nat → Nat => ad1 0 = u 0) (B := fun (u : Nat → Nat) H => sv_cP D cI cN cQ n 0 u sv_s0 H ∧ sv_inj (3 + 3 * n + 0) u ∧ ∀ k, k < 3 + 3 * n + 0 → H0.size ≤ u k) (G := fun H' => va_P D vwCl (sv_L 1 ad1 (fun _ => .inr (sv_kS, [.null, .int 0, .null, .int 0, .int 0, .int 0]))) H' ∧ H'.size = H.size) (y := yS_init) (k2 := 4) (mc := 20) (ms := 200) (n := 1) (As := [.int (sv_x0 L xs)]) (b := ad1 0) X (sv_tb_t 11 rfl rfl) (sv_tb_t 9 rfl rfl) (sv_tb_t 10 rfl rfl) (sv_tb_t 1 rfl rfl) rfl ⟨by decide, by decide, by decide +kernel⟩ (by decide) (cS_m_init (sz := H.size) hn.symm (hA 0 (by decide)) (fun q h => Nat.le_trans hS.1 h)) ⟨hP, rfl⟩ hS (fun q h => h) (by decide) rfl hl.1 rfl (Nat.le_of_ble_eq_true rfl) (by omega) (by omega) dL_law_9 (fun u H locs hu hB hz hk hS => ?_)
  obtain ⟨hPc, hJc, hAc⟩ := hB
  refine x_st (st2 := [.ref (u 0)]) (by rw [hu]) ?_
  refine lv_astore_n (i := 1) hx hb dL_law_12 rfl hl (by decide) rfl (fun ls hl => ?_)
  refine y_newO (T := T_M) (M := 19) (ci := sv_kM) (fs := [.int 0, .int 0, .int 0, .null, .null, .null, .null, .null, .null, .null, .null, .null, .null, .null, .null, .null, .null, .null, .null]) X hPc (sv_D hJc hAc) hS hF0 in_M t_M t_M_ok (sv_tb_t 306 rfl rfl) (sv_tb_t 307 rfl rfl) (sv_tb_t 4 rfl rfl) rfl (fun j hj => by rcases (show j = 0 ∨ j = 1 ∨ j = 2 ∨ j = 3 ∨ j = 4 ∨ j = 5 ∨ j = 6 ∨ j = 7 ∨ j = 8 ∨ j = 9 ∨ j = 10 ∨ j = 11 ∨ j = 12 ∨ j = 13 ∨ j = 14 ∨ j = 15 ∨ j = 16 ∨ j = 17 ∨ j = 18 by omega) with rfl | rfl | rfl | rfl | rfl | rfl | rfl | rfl | rfl | rfl | rfl | rfl | rfl | rfl | rfl | rfl | rfl | rfl | rfl <;> rfl) (by omega) (by omega) dL_law_13 (fun q2 H hP hD hS => ?_)
  obtain ⟨ad2, hq2, ho2, hP, hJ, hA2⟩ := sv_grow hP hD
  have hPc : sv_cP D cI cN cQ n 0 u sv_s0 H := sv_P_pick (fun k => k) (fun k hk => ⟨by omega, (ho2 k hk).symm, sv_up_o (by omega)⟩) hP
  have hPm : va_P D vwCl (sv_L 1 (fun _ => q2) (sv_mi cI cZ [.int 0, .int 0, .int 0, .null, .null, .null, .null, .null, .null, .null, .null, .null, .null, .null, .null, .null, .null, .null, .null])) H := sv_P_pick (fun _ => 3 + 3 * n + 0) (fun k hk => ⟨by omega, hq2.symm, by rw [sv_up_s, show k = 0 by omega]; rfl⟩) hP
  have hdis : ∀ k, k < 3 + 3 * n + 0 → q2 ≠ u k := fun k hk q => by
    have h1 := hJ (3 + 3 * n + 0) k (by omega) (by omega) (by rw [← hq2, ← ho2 k hk]; exact q)
    omega
  have hq0 : H0.size ≤ q2 := by rw [hq2]; exact hA2 _ (by omega)
  refine lv_dup hx hb dL_law_16 rfl ?_
  refine lv_aload_n (i := 0) hx hb dL_law_17 rfl (sv_at hl rfl) ?_
  refine lv_iconst (v := 0) hx hb dL_law_18 (by decide) ?_
  refine kL_cell X (by decide) hL hX hbl hbA hS hl.1 (by omega) (by omega) (Nat.le_of_ble_eq_true rfl) dL_law_19 ?_
  refine sv_lI (S := Nat → Nat) (A1 := fun q => H0.size ≤ q ∧ ∀ k, k < 3 + 3 * n + 0 → q ≠ u k) (post := fun w : Nat → Nat => q2 = w 0) (B := fun (w : Nat → Nat) H => sv_mP D cI cZ n 0 w sv_s0 (fun _ => 0) (fun _ => 0) H ∧ sv_inj 17 w ∧ ∀ k, k < 17 → (H0.size ≤ w k ∧ ∀ j, j < 3 + 3 * n + 0 → w k ≠ u j)) (G := fun H' => va_P D vwCl (sv_L 1 (fun _ => q2) (sv_mi cI cZ [.int 0, .int 0, .int 0, .null, .null, .null, .null, .null, .null, .null, .null, .null, .null, .null, .null, .null, .null, .null, .null])) H' ∧ H'.size = H.size) (y := yM_init) (k2 := 2) (mc := 16) (ms := 322) (n := 1) (As := [.int (sv_x0 L xs)]) (b := q2) X (sv_tb_t 310 rfl rfl) (sv_tb_t 308 rfl rfl) (sv_tb_t 309 rfl rfl) (sv_tb_t 4 rfl rfl) rfl ⟨by decide, by decide, by decide +kernel⟩ (by decide) (cM_m_init (ad := fun _ => q2) (A := fun q => H0.size ≤ q ∧ ∀ k, k < 3 + 3 * n + 0 → q ≠ u k) (sz := H.size) hn.symm ⟨hq0, hdis⟩ (fun q h => ⟨Nat.le_trans hS.1 h, fun k hk e => by have := sv_P_lt hPc hk; omega⟩)) ⟨hPm, rfl⟩ hS (fun q h => h.1) (by decide) rfl hl.1 rfl (Nat.le_of_ble_eq_true rfl) (by omega) (by omega) dL_law_22 (fun w H locs hw hB hz hk hS => ?_)
  obtain ⟨hPm, hJm, hAm⟩ := hB
  have hPc := sv_P_kept hPc hk (fun k hk q => q.2 k hk rfl)
  refine x_st (st2 := [.ref (w 0)]) (by rw [hw]) ?_
  refine lv_astore_n (i := 2) hx hb dL_law_25 rfl hl (by decide) rfl (fun ls hl => ?_)
  refine lv_iconst (v := 1) hx hb dL_law_26 (by decide) ?_
  refine lv_istore_n (i := 3) hx hb dL_law_27 rfl hl (by decide) rfl (fun ls hl => ?_)
  exact wL_J X hL hX hbl hRc hRs E 601 0 0 u sv_s0 (fun _ => 0) (fun _ => 0) H locs ls (by decide) (by omega) (sv_re hl ⟨rfl, rfl, rfl, rfl, trivial⟩) ⟨hPc, hPm, hJc, hJm, fun k hk => ⟨hAc k hk, fun j hj e => (hAm j hj).2 k hk e.symm⟩, fun k hk => (hAm k hk).1, sv_IV_0 hnn.1 hnn.2⟩ hS
end SvLaw3
