section SvModel6
variable {p : Program} {l : Launch} {e : Env} {R : Room} {s : State} {m : MethodId} {args : Array Value} {below : List Frame} {meth : Method} {c : Code} {H H0 : Heap} {locs : List Loc} {cells slots : Nat} {Q : State → Prop}
variable {cc : ByteArray} {pc nL k : Nat} {ls : Array Slot} {lv : List (Nat × Value)} {rest : List Value} {D : va_G} {cI cZ cN cQ : ClassId} {n qc : Nat} {ad : Nat → Nat} {σ : Sg} {A : Nat → Prop} {mt qm : Nat → Int32}
theorem sv_me_mov {cI cZ : ClassId} {n qc : Nat} {ad : Nat → Nat} {σ : Sg} {mt qm : Nat → Int32} {x : Int32} (k' : Nat) : va_up (sv_me cI cZ n qc ad σ mt qm) 0 (.inr (sv_kM, (sv_fM n qc ad σ).set 1 (.int x))) k' = sv_me cI cZ n qc ad (sg σ 1 0 x) mt qm k' := by
  by_cases e : k' = 0
  · subst e
    rw [sv_me_0, show va_up (sv_me cI cZ n qc ad σ mt qm) 0 (.inr (sv_kM, (sv_fM n qc ad σ).set 1 (.int x))) 0 = .inr (sv_kM, (sv_fM n qc ad σ).set 1 (.int x)) from rfl]
    unfold sv_fM
    rw [sg_at]
    rfl
  · simp only [va_up, if_neg e]
    unfold sv_me sv_mf
    rw [sg_ne σ 0 x (show k' + 2 ≠ 1 by omega), if_neg e, if_neg e]
theorem pM_moves (X : sv_X D cI cZ cN cQ "SliceVotingModel" cc nL k p R s m args c) (hP : sv_mP D cI cZ n qc ad σ mt qm H) (hJ : sv_inj 17 ad) (hA : ∀ k, k < 17 → A (ad k)) (hS : va_S A H0 H locs) (hd : decode cc pc = .ok (.putfield 70, 3)) (kk : ∀ (H1 : Heap) (locs1 : List Loc), sv_mP D cI cZ n qc ad (sg σ 1 0 1) mt qm H1 → va_S A H0 H1 locs1 → W p l e R s m args below meth c H1 locs1 cells slots Q (F0 m (pc + 3) ls rest)) : W p l e R s m args below meth c H locs cells slots Q (F0 m pc ls (.int 1 :: .ref (ad 0) :: rest)) :=
  y_put X.1 X.2.1 X.hts in_M t_M t_M_ok nm_M X.own X.K hP (sv_D hJ hA) hS (by decide) sv_me_0 rfl 1 (by decide) (sv_tb_t 313 rfl rfl) rfl (ty := .boolean) (by decide +kernel) rfl rfl (by show 1 < 19; decide) hd (fun H1 locs1 h1 h3 => kk H1 locs1 (by rw [sv_L_congr (en' := sv_me cI cZ n qc ad (sg σ 1 0 1) mt qm) (fun k' _ => sv_me_mov k')] at h1; exact h1) h3)
set_option maxHeartbeats 4000000 in
set_option maxRecDepth 100000 in
theorem wM_stepCommit (X : sv_X D cI cZ cN cQ "SliceVotingModel" cM_stepCommit 3 4 p R s m args c) (hP : sv_mP D cI cZ n qc ad σ mt qm H) (hJ : sv_inj 17 ad) (hA : ∀ k, k < 17 → A (ad k)) (hS : va_S A H0 H locs) {v : Nat} (hIS : sv_IS n σ) (hv : v < n) (hn : n ≤ 6) (hl : lv_has ls 3 [(0, .ref (ad 0)), (1, .int (nI v))]) (ret : ∀ (pc : Nat) (ls : Array Slot) (H : Heap) (locs : List Loc) (mt' qm' : Nat → Int32), decode cM_stepCommit pc = .ok (.ireturn, 1) → va_S A H0 H locs → (mt' = mt ∧ qm' = qm) → sv_mP D cI cZ n qc ad ((sv_vO σ v).getD σ) mt' qm' H → W p l e R s m args below meth c H locs 0 0 Q (F0 m pc ls [.int (sv_b (sv_vO σ v).isSome)])) : W p l e R s m args below meth c H locs 0 0 Q (F0 m 0 ls []) := by
  have hx := X.1
  have hb := X.2.1
  obtain ⟨-, ⟨kq, hk4, e13⟩, ⟨xq, hx2, e14⟩, -⟩ := hIS.2 v hv
  have hbl := sv_bal_lt hIS hv
  refine lv_iconst (v := nI 3) hx hb dM_stepCommit_0 (by decide) ?_
  refine lv_aload_n (i := 0) hx hb dM_stepCommit_1 rfl (sv_at hl rfl) ?_
  refine gM_counters X hP dM_stepCommit_2 ?_
  refine lv_iload_n (i := 1) hx hb dM_stepCommit_5 rfl (sv_at hl rfl) ?_
  refine gm_counters X hP (by omega) dM_stepCommit_6 ?_
  refine lv_iconst (v := 1) hx hb dM_stepCommit_7 (by decide) ?_
  refine lv_isub hx hb dM_stepCommit_8 ?_
  refine lv_imul hx hb dM_stepCommit_9 ?_
  refine lv_aload_n (i := 0) hx hb dM_stepCommit_10 rfl (sv_at hl rfl) ?_
  refine gM_values X hP dM_stepCommit_11 ?_
  refine lv_iload_n (i := 1) hx hb dM_stepCommit_14 rfl (sv_at hl rfl) ?_
  refine gm_values X hP (by omega) dM_stepCommit_15 ?_
  refine lv_iadd hx hb dM_stepCommit_16 ?_
  refine lv_istore_n (i := 2) hx hb dM_stepCommit_17 rfl hl (by decide) rfl (fun ls hl => ?_)
  refine lv_aload_n (i := 0) hx hb dM_stepCommit_18 rfl (sv_at hl rfl) ?_
  refine gM_counters X hP dM_stepCommit_19 ?_
  refine lv_iload_n (i := 1) hx hb dM_stepCommit_22 rfl (sv_at hl rfl) ?_
  refine gm_counters X hP (by omega) dM_stepCommit_23 ?_
  refine lv_if_le (tgt := 57) hx hb dM_stepCommit_24 rfl (fun h24 => ?_) (fun h24 => ?_)
  · skip
    refine lv_iconst (v := 0) hx hb dM_stepCommit_57 (by decide) ?_
    first | (have ee : (!(bt (σ 10 v) (12 + sv_bal σ v) || sv_aga (σ 10 v ||| σ 11 v) (12 + sv_bal σ v))) = true := h50; rw [Bool.not_eq_true', Bool.or_eq_false_iff] at ee; have ey := sv_vO_y (by rw [e13, nI_clamp (by omega)]; exact hk0) ee.1 h38 (by rw [ee.2]; rfl); exact x_tv (by rw [ey]; rfl) (ret _ _ _ _ _ _ dM_stepCommit_58 hS hX (by rw [ey]; show sv_mP D cI cZ n qc ad (sv_vS σ v (12 + sv_bal σ v)) _ _ _; rw [sv_vS_eq (by omega)]; exact hP))) | (have ee : (!(bt (σ 10 v) (12 + sv_bal σ v) || sv_aga (σ 10 v ||| σ 11 v) (12 + sv_bal σ v))) = false := h50; rw [Bool.not_eq_false'] at ee; have ey : sv_vO σ v = none := (by rw [Bool.or_eq_true] at ee; rcases ee with q | q; exact sv_vO_1 q; exact sv_vO_3 (by rw [q]; rfl)); have ev : sv_vote σ v (12 + sv_bal σ v) = σ := (by unfold sv_vote; rw [ee]; rfl); exact x_tv (by rw [ey]; rfl) (ret _ _ _ _ _ _ dM_stepCommit_58 hS hX (by rw [ey]; rw [ev] at hP; exact hP))) | (have ee := h38; exact x_tv (by rw [sv_vO_2 h38]; rfl) (ret _ _ _ _ _ _ dM_stepCommit_58 hS ⟨rfl, rfl⟩ (by rw [sv_vO_2 h38]; exact hP))) | (have e0 : σ 13 v = 0 := (by rw [e13] at h24 ⊢; rw [← nI_0, nI_leI (by omega) (by decide)] at h24; rw [show kq = 0 by omega]; rfl); exact x_tv (by rw [sv_vO_0 e0]; rfl) (ret _ _ _ _ _ _ dM_stepCommit_58 hS ⟨rfl, rfl⟩ (by rw [sv_vO_0 e0]; exact hP)))
  · skip
    have hk0 : 0 < kq := Nat.pos_of_ne_zero (fun q => h24 (by rw [e13, q]; decide))
    have hbe : nI 3 * (σ 13 v - 1) + σ 14 v = nI (sv_bal σ v) := by unfold sv_bal; rw [e13, e14, show nI kq - 1 = nI (kq - 1) from pk_sub (b := 1) hk0, pk_mul, nI_add, nI_clamp (by omega), nI_clamp (by omega)]
    rw [hbe] at hl
    refine lv_aload_n (i := 0) hx hb dM_stepCommit_27 rfl (sv_at hl rfl) ?_
    refine gM_confirms X hP dM_stepCommit_28 ?_
    refine lv_iload_n (i := 1) hx hb dM_stepCommit_31 rfl (sv_at hl rfl) ?_
    refine gm_confirms X hP (by omega) dM_stepCommit_32 ?_
    refine lv_iload_n (i := 2) hx hb dM_stepCommit_33 rfl (sv_at hl rfl) ?_
    refine lv_ishr hx hb dM_stepCommit_34 ?_
    refine lv_iconst (v := 1) hx hb dM_stepCommit_35 (by decide) ?_
    refine lv_iand hx hb dM_stepCommit_36 ?_
    refine x_tv (sv_shr1 _ (by omega)) ?_
    refine lv_iconst (v := 1) hx hb dM_stepCommit_37 (by decide) ?_
    refine lv_icmp_ne (tgt := 57) hx hb dM_stepCommit_38 rfl (fun h38 => ?_) (fun h38 => ?_)
    · skip
      rw [sv_bn1] at h38
      refine lv_iconst (v := 0) hx hb dM_stepCommit_57 (by decide) ?_
      first | (have ee : (!(bt (σ 10 v) (12 + sv_bal σ v) || sv_aga (σ 10 v ||| σ 11 v) (12 + sv_bal σ v))) = true := h50; rw [Bool.not_eq_true', Bool.or_eq_false_iff] at ee; have ey := sv_vO_y (by rw [e13, nI_clamp (by omega)]; exact hk0) ee.1 h38 (by rw [ee.2]; rfl); exact x_tv (by rw [ey]; rfl) (ret _ _ _ _ _ _ dM_stepCommit_58 hS hX (by rw [ey]; show sv_mP D cI cZ n qc ad (sv_vS σ v (12 + sv_bal σ v)) _ _ _; rw [sv_vS_eq (by omega)]; exact hP))) | (have ee : (!(bt (σ 10 v) (12 + sv_bal σ v) || sv_aga (σ 10 v ||| σ 11 v) (12 + sv_bal σ v))) = false := h50; rw [Bool.not_eq_false'] at ee; have ey : sv_vO σ v = none := (by rw [Bool.or_eq_true] at ee; rcases ee with q | q; exact sv_vO_1 q; exact sv_vO_3 (by rw [q]; rfl)); have ev : sv_vote σ v (12 + sv_bal σ v) = σ := (by unfold sv_vote; rw [ee]; rfl); exact x_tv (by rw [ey]; rfl) (ret _ _ _ _ _ _ dM_stepCommit_58 hS hX (by rw [ey]; rw [ev] at hP; exact hP))) | (have ee := h38; exact x_tv (by rw [sv_vO_2 h38]; rfl) (ret _ _ _ _ _ _ dM_stepCommit_58 hS ⟨rfl, rfl⟩ (by rw [sv_vO_2 h38]; exact hP))) | (have e0 : σ 13 v = 0 := (by rw [e13] at h24 ⊢; rw [← nI_0, nI_leI (by omega) (by decide)] at h24; rw [show kq = 0 by omega]; rfl); exact x_tv (by rw [sv_vO_0 e0]; rfl) (ret _ _ _ _ _ _ dM_stepCommit_58 hS ⟨rfl, rfl⟩ (by rw [sv_vO_0 e0]; exact hP)))
    · skip
      rw [sv_b1] at h38
      refine lv_aload_n (i := 0) hx hb dM_stepCommit_41 rfl (sv_at hl rfl) ?_
      refine lv_iload_n (i := 1) hx hb dM_stepCommit_42 rfl (sv_at hl rfl) ?_
      refine lv_bipush (v := nI 12) hx hb dM_stepCommit_43 (by decide) ?_
      refine lv_iload_n (i := 2) hx hb dM_stepCommit_45 rfl (sv_at hl rfl) ?_
      refine lv_iadd hx hb dM_stepCommit_46 ?_
      refine x_tv (nI_add 12 (sv_bal σ v)) ?_
      refine kM_vote X (by decide) hP hJ hA hS (by omega) (by omega) hl (Nat.zero_le _) (Nat.zero_le _) (Nat.le_of_ble_eq_true rfl) dM_stepCommit_47 (fun H locs mt qm hX hP hS => ?_)
      refine x_ifeqB (tgt := 57) hx hb dM_stepCommit_50 rfl (fun h50 => ?_) (fun h50 => ?_)
      · skip
        refine lv_iconst (v := 0) hx hb dM_stepCommit_57 (by decide) ?_
        first | (have ee : (!(bt (σ 10 v) (12 + sv_bal σ v) || sv_aga (σ 10 v ||| σ 11 v) (12 + sv_bal σ v))) = true := h50; rw [Bool.not_eq_true', Bool.or_eq_false_iff] at ee; have ey := sv_vO_y (by rw [e13, nI_clamp (by omega)]; exact hk0) ee.1 h38 (by rw [ee.2]; rfl); exact x_tv (by rw [ey]; rfl) (ret _ _ _ _ _ _ dM_stepCommit_58 hS hX (by rw [ey]; show sv_mP D cI cZ n qc ad (sv_vS σ v (12 + sv_bal σ v)) _ _ _; rw [sv_vS_eq (by omega)]; exact hP))) | (have ee : (!(bt (σ 10 v) (12 + sv_bal σ v) || sv_aga (σ 10 v ||| σ 11 v) (12 + sv_bal σ v))) = false := h50; rw [Bool.not_eq_false'] at ee; have ey : sv_vO σ v = none := (by rw [Bool.or_eq_true] at ee; rcases ee with q | q; exact sv_vO_1 q; exact sv_vO_3 (by rw [q]; rfl)); have ev : sv_vote σ v (12 + sv_bal σ v) = σ := (by unfold sv_vote; rw [ee]; rfl); exact x_tv (by rw [ey]; rfl) (ret _ _ _ _ _ _ dM_stepCommit_58 hS hX (by rw [ey]; rw [ev] at hP; exact hP))) | (have ee := h38; exact x_tv (by rw [sv_vO_2 h38]; rfl) (ret _ _ _ _ _ _ dM_stepCommit_58 hS ⟨rfl, rfl⟩ (by rw [sv_vO_2 h38]; exact hP))) | (have e0 : σ 13 v = 0 := (by rw [e13] at h24 ⊢; rw [← nI_0, nI_leI (by omega) (by decide)] at h24; rw [show kq = 0 by omega]; rfl); exact x_tv (by rw [sv_vO_0 e0]; rfl) (ret _ _ _ _ _ _ dM_stepCommit_58 hS ⟨rfl, rfl⟩ (by rw [sv_vO_0 e0]; exact hP)))
      · skip
        refine lv_iconst (v := 1) hx hb dM_stepCommit_53 (by decide) ?_
        refine lv_goto (tgt := 58) hx hb dM_stepCommit_54 rfl ?_
        first | (have ee : (!(bt (σ 10 v) (12 + sv_bal σ v) || sv_aga (σ 10 v ||| σ 11 v) (12 + sv_bal σ v))) = true := h50; rw [Bool.not_eq_true', Bool.or_eq_false_iff] at ee; have ey := sv_vO_y (by rw [e13, nI_clamp (by omega)]; exact hk0) ee.1 h38 (by rw [ee.2]; rfl); exact x_tv (by rw [ey]; rfl) (ret _ _ _ _ _ _ dM_stepCommit_58 hS hX (by rw [ey]; show sv_mP D cI cZ n qc ad (sv_vS σ v (12 + sv_bal σ v)) _ _ _; rw [sv_vS_eq (by omega)]; exact hP))) | (have ee : (!(bt (σ 10 v) (12 + sv_bal σ v) || sv_aga (σ 10 v ||| σ 11 v) (12 + sv_bal σ v))) = false := h50; rw [Bool.not_eq_false'] at ee; have ey : sv_vO σ v = none := (by rw [Bool.or_eq_true] at ee; rcases ee with q | q; exact sv_vO_1 q; exact sv_vO_3 (by rw [q]; rfl)); have ev : sv_vote σ v (12 + sv_bal σ v) = σ := (by unfold sv_vote; rw [ee]; rfl); exact x_tv (by rw [ey]; rfl) (ret _ _ _ _ _ _ dM_stepCommit_58 hS hX (by rw [ey]; rw [ev] at hP; exact hP))) | (have ee := h38; exact x_tv (by rw [sv_vO_2 h38]; rfl) (ret _ _ _ _ _ _ dM_stepCommit_58 hS ⟨rfl, rfl⟩ (by rw [sv_vO_2 h38]; exact hP))) | (have e0 : σ 13 v = 0 := (by rw [e13] at h24 ⊢; rw [← nI_0, nI_leI (by omega) (by decide)] at h24; rw [show kq = 0 by omega]; rfl); exact x_tv (by rw [sv_vO_0 e0]; rfl) (ret _ _ _ _ _ _ dM_stepCommit_58 hS ⟨rfl, rfl⟩ (by rw [sv_vO_0 e0]; exact hP)))

theorem cM_m_stepCommit (hJ : sv_inj 17 ad) (hA : ∀ k, k < 17 → A (ad k)) {v : Nat} (hIS : sv_IS n σ) (hv : v < n) (hn : n ≤ 6) : Met l yM_stepCommit (sv_ws yM_stepCommit cM_stepCommit 3 (some .boolean)) (sv_rm 4) (sv_Pc D cI cZ cN cQ [.ref (ad 0), .int (nI v)] (fun H => sv_mP D cI cZ n qc ad σ mt qm H)) (va_Qi (fun (r : Int32) (u : Sg × (Nat → Int32) × (Nat → Int32)) => r = sv_b (sv_vO σ v).isSome ∧ u.1 = (sv_vO σ v).getD σ ∧ (u.2.1 = mt ∧ u.2.2 = qm)) (fun u t => sv_mP D cI cZ n qc ad u.1 u.2.1 u.2.2 t.heap) A) 0 0 A :=
  sv_mkI (S := Sg × (Nat → Int32) × (Nat → Int32)) (B := fun u H => sv_mP D cI cZ n qc ad u.1 u.2.1 u.2.2 H) (by decide) (by show 2 ≤ 3; decide) (fun _ _ h => by rw [h.1]; exact sv_narb _) (fun p e s m below meth c ls Q X hP hl ret => wM_stepCommit X hP hJ hA va_S.rf hIS hv hn hl (fun pc ls H locs mt' qm' hd hS hX hP => ret pc ls _ (_, mt', qm') H locs hd hS ⟨rfl, rfl, hX⟩ hP))
set_option maxRecDepth 100000 in
theorem okM_M_stepCommit : sv_okV "SliceVotingModel" 127 yM_stepCommit cM_stepCommit 3 (some .boolean) 1 := ⟨sv_tb_t 479 rfl rfl, sv_tb_t 476 rfl rfl, sv_tb_t 478 rfl rfl, sv_tb_s 35 rfl rfl, sv_tb_t 4 rfl rfl, ⟨by decide, by decide, by decide +kernel⟩, by decide⟩
theorem kM_stepCommit (X : sv_X D cI cZ cN cQ "SliceVotingModel" cc nL k p R s m args c) (hk : 4 + 1 ≤ k) (hP : sv_mP D cI cZ n qc ad σ mt qm H) (hJ : sv_inj 17 ad) (hA : ∀ k, k < 17 → A (ad k)) (hS : va_S A H0 H locs) {v : Nat} (hIS : sv_IS n σ) (hv : v < n) (hn : n ≤ 6) (hl : lv_has ls nL lv) (hc : cells ≤ R.cells) (hs : slots ≤ R.slots) (hcat : (rest.map fun v => v.category).sum ≤ 8) (hd : decode cc pc = .ok (.invokevirtual 127, 3)) (kk : ∀ (H1 : Heap) (locs1 : List Loc) (mt' qm' : Nat → Int32), (mt' = mt ∧ qm' = qm) → sv_mP D cI cZ n qc ad ((sv_vO σ v).getD σ) mt' qm' H1 → va_S A H0 H1 locs1 → W p l e R s m args below meth c H1 locs1 cells slots Q (F0 m (pc + 3) ls (.int (sv_b (sv_vO σ v).isSome) :: rest))) : W p l e R s m args below meth c H locs cells slots Q (F0 m pc ls (.int (nI v) :: .ref (ad 0) :: rest)) :=
  sv_wVi (S := Sg × (Nat → Int32) × (Nat → Int32)) (G := fun H => sv_mP D cI cZ n qc ad σ mt qm H) (B := fun u H => sv_mP D cI cZ n qc ad u.1 u.2.1 u.2.2 H) X okM_M_stepCommit (cM_m_stepCommit hJ hA hIS hv hn) hP (y_rec X.K hP (by decide) sv_me_0 rfl) hS hk rfl hl.1 rfl hcat hc hs hd (fun r u H1 locs1 hp hB hS => by obtain ⟨τ, a, b⟩ := u; obtain ⟨rfl, h1, h2⟩ := hp; dsimp only at h1 h2 hB; subst h1; exact kk H1 locs1 a b h2 hB hS)
set_option maxHeartbeats 4000000 in
set_option maxRecDepth 100000 in
theorem wM_settle (X : sv_X D cI cZ cN cQ "SliceVotingModel" cM_settle 4 5 p R s m args c) (hP : sv_mP D cI cZ n qc ad σ mt qm H) (hJ : sv_inj 17 ad) (hA : ∀ k, k < 17 → A (ad k)) (hS : va_S A H0 H locs) {v : Nat} (hn : n ≤ 6) (hI : sv_IQ n qc σ) (hIS : sv_IS n σ) (hv : v < n) (hl : lv_has ls 4 [(0, .ref (ad 0)), (1, .int (nI v))]) (ret : ∀ (pc : Nat) (ls : Array Slot) (H : Heap) (locs : List Loc) (mt' qm' : Nat → Int32), decode cM_settle pc = .ok (.return_, 1) → va_S A H0 H locs → (True) → sv_mP D cI cZ n qc ad (sv_set n qc v 49 σ) mt' qm' H → W p l e R s m args below meth c H locs 0 0 Q (F0 m pc ls [])) : W p l e R s m args below meth c H locs 0 0 Q (F0 m 0 ls []) := by
  have hx := X.1
  have hb := X.2.1
  have J8 : ∀ (kf : Nat) (i : Nat) (B : Bool) (τ : Sg) (mt : Nat → Int32) (qm : Nat → Int32) (H : Heap) (locs : List Loc) (ls : Array Slot), 100 - i < kf → (i ≤ 100) → (B = true → sv_set n qc v (100 - i) τ = sv_set n qc v 100 σ) → (B = false → τ = sv_set n qc v 100 σ) → (sv_eqQ σ τ) → (sv_IS n τ) → (∀ q, q < 2 ^ n → qm q = sv_b (sv_quo σ n qc q)) → (sv_mP D cI cZ n qc ad τ mt qm H) → (va_S A H0 H locs) → lv_has ls 4 [(0, .ref (ad 0)), (1, .int (nI v)), (2, .int (sv_b B)), (3, .int (nI i))] → W p l e R s m args below meth c H locs 0 0 Q (F0 m 8 ls []) := by
    intro kf
    induction kf with
    | zero => intro i B τ mt qm H locs ls hm; exact absurd hm (Nat.not_lt_zero _)
    | succ kf ih =>
      intro i B τ mt qm H locs ls hm hi he1 he0 hQ hT hqm hP hS hl
      refine lv_iload_n (i := 3) hx hb dM_settle_8 rfl (sv_at hl rfl) ?_
      refine lv_bipush (v := nI 100) hx hb dM_settle_9 (by decide) ?_
      refine lv_icmp_ge (tgt := 54) hx hb dM_settle_11 rfl (fun h11 => ?_) (fun h11 => ?_)
      · skip
        rw [nI_leI (by omega) (by omega)] at h11
        exact ret _ _ _ _ _ _ dM_settle_54 hS trivial (by rw [← sv_set_49 (sv_bal_lt hIS hv)]; first | (have ee : B = false := h15; rw [← he0 ee]; exact hP) | (cases B with | false => rw [← he0 rfl]; exact hP | true => rw [← he1 rfl, show 100 - i = 0 by omega]; exact hP))
      · skip
        rw [nI_leI (by omega) (by omega)] at h11
        have hq2 : ∀ q, q < 2 ^ n → qm q = sv_b (sv_quo τ n qc q) := fun q h => by rw [sv_quo_cg hQ]; exact hqm q h
        refine lv_iload_n (i := 2) hx hb dM_settle_14 rfl (sv_at hl rfl) ?_
        refine x_ifeqB (tgt := 54) hx hb dM_settle_15 rfl (fun h15 => ?_) (fun h15 => ?_)
        · skip
          exact ret _ _ _ _ _ _ dM_settle_54 hS trivial (by rw [← sv_set_49 (sv_bal_lt hIS hv)]; first | (have ee : B = false := h15; rw [← he0 ee]; exact hP) | (cases B with | false => rw [← he0 rfl]; exact hP | true => rw [← he1 rfl, show 100 - i = 0 by omega]; exact hP))
        · skip
          refine lv_aload_n (i := 0) hx hb dM_settle_18 rfl (sv_at hl rfl) ?_
          refine lv_iload_n (i := 1) hx hb dM_settle_19 rfl (sv_at hl rfl) ?_
          refine kM_stepAccept X (by decide) hP hJ hA hS hn (sv_IQ_cg hQ hI) hv hq2 hl (Nat.zero_le _) (Nat.zero_le _) (Nat.le_of_ble_eq_true rfl) dM_settle_20 (fun H locs mt qm hX hP hS => ?_)
          refine x_ifneB (tgt := 42) hx hb dM_settle_23 rfl (fun h23 => ?_) (fun h23 => ?_)
          · skip
            rw [hX] at hP
            obtain ⟨τ1, e1⟩ := sv_isSome_t h23
            rw [e1] at hP
            simp only [Option.getD_some] at hP
            have est := sv_step_a e1
            have hf1 : (true = true → sv_set n qc v (100 - (i + 1)) τ1 = sv_set n qc v 100 σ) := fun _ => by rw [← he1 h15, show 100 - i = 100 - (i + 1) + 1 by omega, sv_set_s est]
            have hf0 : (true = false → τ1 = sv_set n qc v 100 σ) := fun q => by cases q
            have hT2 := (sv_step_ok hT est).1
            have hQ2 := sv_eqQ_tr hQ (sv_step_ok hT est).2
            refine lv_iconst (v := 1) hx hb dM_settle_42 (by decide) ?_
            refine lv_goto (tgt := 47) hx hb dM_settle_43 rfl ?_
            first | refine x_tv (y := sv_b true) rfl ?_ | refine x_tv (y := sv_b false) rfl ?_
            refine lv_istore_n (i := 2) hx hb dM_settle_47 rfl hl (by decide) rfl (fun ls hl => ?_)
            refine x_iinc (i := 3) hx hb dM_settle_48 hl rfl (sv_inc i) (by decide) (fun ls hl => ?_)
            refine lv_goto (tgt := 8) hx hb dM_settle_51 rfl ?_
            exact ih (i + 1) _ _ _ _ H locs ls (by omega) (by omega) hf1 hf0 hQ2 hT2 hqm hP hS (sv_re hl ⟨rfl, rfl, rfl, rfl, trivial⟩)
          · skip
            rw [hX] at hP
            have e1 := sv_isSome_f h23
            rw [e1] at hP
            simp only [Option.getD_none] at hP
            refine lv_aload_n (i := 0) hx hb dM_settle_26 rfl (sv_at hl rfl) ?_
            refine lv_iload_n (i := 1) hx hb dM_settle_27 rfl (sv_at hl rfl) ?_
            refine kM_stepConfirm X (by decide) hP hJ hA hS hn hv hq2 hl (Nat.zero_le _) (Nat.zero_le _) (Nat.le_of_ble_eq_true rfl) dM_settle_28 (fun H locs mt qm hX hP hS => ?_)
            refine x_ifneB (tgt := 42) hx hb dM_settle_31 rfl (fun h31 => ?_) (fun h31 => ?_)
            · skip
              rw [hX.1, hX.2] at hP
              obtain ⟨τ1, e2⟩ := sv_isSome_t h31
              rw [e2] at hP
              simp only [Option.getD_some] at hP
              have est := sv_step_c e1 e2
              have hf1 : (true = true → sv_set n qc v (100 - (i + 1)) τ1 = sv_set n qc v 100 σ) := fun _ => by rw [← he1 h15, show 100 - i = 100 - (i + 1) + 1 by omega, sv_set_s est]
              have hf0 : (true = false → τ1 = sv_set n qc v 100 σ) := fun q => by cases q
              have hT2 := (sv_step_ok hT est).1
              have hQ2 := sv_eqQ_tr hQ (sv_step_ok hT est).2
              refine lv_iconst (v := 1) hx hb dM_settle_42 (by decide) ?_
              refine lv_goto (tgt := 47) hx hb dM_settle_43 rfl ?_
              first | refine x_tv (y := sv_b true) rfl ?_ | refine x_tv (y := sv_b false) rfl ?_
              refine lv_istore_n (i := 2) hx hb dM_settle_47 rfl hl (by decide) rfl (fun ls hl => ?_)
              refine x_iinc (i := 3) hx hb dM_settle_48 hl rfl (sv_inc i) (by decide) (fun ls hl => ?_)
              refine lv_goto (tgt := 8) hx hb dM_settle_51 rfl ?_
              exact ih (i + 1) _ _ _ _ H locs ls (by omega) (by omega) hf1 hf0 hQ2 hT2 hqm hP hS (sv_re hl ⟨rfl, rfl, rfl, rfl, trivial⟩)
            · skip
              rw [hX.1, hX.2] at hP
              have e2 := sv_isSome_f h31
              rw [e2] at hP
              simp only [Option.getD_none] at hP
              refine lv_aload_n (i := 0) hx hb dM_settle_34 rfl (sv_at hl rfl) ?_
              refine lv_iload_n (i := 1) hx hb dM_settle_35 rfl (sv_at hl rfl) ?_
              refine kM_stepCommit X (by decide) hP hJ hA hS hT hv hn hl (Nat.zero_le _) (Nat.zero_le _) (Nat.le_of_ble_eq_true rfl) dM_settle_36 (fun H locs mt qm hX hP hS => ?_)
              refine x_ifeqB (tgt := 46) hx hb dM_settle_39 rfl (fun h39 => ?_) (fun h39 => ?_)
              · skip
                rw [hX.1, hX.2] at hP
                have e3 := sv_isSome_f h39
                rw [e3] at hP
                simp only [Option.getD_none] at hP
                have est := (sv_step_v e1 e2).trans e3
                have hf1 : (false = true → sv_set n qc v (100 - (i + 1)) τ = sv_set n qc v 100 σ) := fun q => by cases q
                have hf0 : (false = false → τ = sv_set n qc v 100 σ) := fun _ => by rw [← he1 h15, show 100 - i = 100 - (i + 1) + 1 by omega, sv_set_n est]
                have hT2 := hT
                have hQ2 := hQ
                refine lv_iconst (v := 0) hx hb dM_settle_46 (by decide) ?_
                first | refine x_tv (y := sv_b true) rfl ?_ | refine x_tv (y := sv_b false) rfl ?_
                refine lv_istore_n (i := 2) hx hb dM_settle_47 rfl hl (by decide) rfl (fun ls hl => ?_)
                refine x_iinc (i := 3) hx hb dM_settle_48 hl rfl (sv_inc i) (by decide) (fun ls hl => ?_)
                refine lv_goto (tgt := 8) hx hb dM_settle_51 rfl ?_
                exact ih (i + 1) _ _ _ _ H locs ls (by omega) (by omega) hf1 hf0 hQ2 hT2 hqm hP hS (sv_re hl ⟨rfl, rfl, rfl, rfl, trivial⟩)
              · skip
                rw [hX.1, hX.2] at hP
                obtain ⟨τ1, e3⟩ := sv_isSome_t h39
                rw [e3] at hP
                simp only [Option.getD_some] at hP
                have est := (sv_step_v e1 e2).trans e3
                have hf1 : (true = true → sv_set n qc v (100 - (i + 1)) τ1 = sv_set n qc v 100 σ) := fun _ => by rw [← he1 h15, show 100 - i = 100 - (i + 1) + 1 by omega, sv_set_s est]
                have hf0 : (true = false → τ1 = sv_set n qc v 100 σ) := fun q => by cases q
                have hT2 := (sv_step_ok hT est).1
                have hQ2 := sv_eqQ_tr hQ (sv_step_ok hT est).2
                refine lv_iconst (v := 1) hx hb dM_settle_42 (by decide) ?_
                refine lv_goto (tgt := 47) hx hb dM_settle_43 rfl ?_
                first | refine x_tv (y := sv_b true) rfl ?_ | refine x_tv (y := sv_b false) rfl ?_
                refine lv_istore_n (i := 2) hx hb dM_settle_47 rfl hl (by decide) rfl (fun ls hl => ?_)
                refine x_iinc (i := 3) hx hb dM_settle_48 hl rfl (sv_inc i) (by decide) (fun ls hl => ?_)
                refine lv_goto (tgt := 8) hx hb dM_settle_51 rfl ?_
                exact ih (i + 1) _ _ _ _ H locs ls (by omega) (by omega) hf1 hf0 hQ2 hT2 hqm hP hS (sv_re hl ⟨rfl, rfl, rfl, rfl, trivial⟩)
  refine lv_aload_n (i := 0) hx hb dM_settle_0 rfl (sv_at hl rfl) ?_
  refine kM_tryAll X (by decide) hP hJ hA hS hn hI hl (Nat.zero_le _) (Nat.zero_le _) (Nat.le_of_ble_eq_true rfl) dM_settle_1 (fun H locs mt qm hX hP hS => ?_)
  refine lv_iconst (v := 1) hx hb dM_settle_4 (by decide) ?_
  refine lv_istore_n (i := 2) hx hb dM_settle_5 rfl hl (by decide) rfl (fun ls hl => ?_)
  refine lv_iconst (v := 0) hx hb dM_settle_6 (by decide) ?_
  refine lv_istore_n (i := 3) hx hb dM_settle_7 rfl hl (by decide) rfl (fun ls hl => ?_)
  exact J8 _ 0 true σ mt qm H locs ls (Nat.lt_succ_self _) (Nat.zero_le _) (fun _ => rfl) (fun q => by cases q) (sv_eqQ_rf σ) hIS hX hP hS (sv_re hl ⟨rfl, rfl, rfl, rfl, trivial⟩)

theorem cM_m_settle (hJ : sv_inj 17 ad) (hA : ∀ k, k < 17 → A (ad k)) {v : Nat} (hn : n ≤ 6) (hI : sv_IQ n qc σ) (hIS : sv_IS n σ) (hv : v < n) : Met l yM_settle (sv_ws yM_settle cM_settle 4 none) (sv_rm 5) (sv_Pc D cI cZ cN cQ [.ref (ad 0), .int (nI v)] (fun H => sv_mP D cI cZ n qc ad σ mt qm H)) (va_Qv (fun u : Sg × (Nat → Int32) × (Nat → Int32) => u.1 = sv_set n qc v 49 σ ∧ (True)) (fun u t => sv_mP D cI cZ n qc ad u.1 u.2.1 u.2.2 t.heap) A) 0 0 A :=
  sv_mkV (S := Sg × (Nat → Int32) × (Nat → Int32)) (B := fun u H => sv_mP D cI cZ n qc ad u.1 u.2.1 u.2.2 H) (by decide) (by show 2 ≤ 4; decide) (fun p e s m below meth c ls Q X hP hl ret => wM_settle X hP hJ hA va_S.rf hn hI hIS hv hl (fun pc ls H locs mt' qm' hd hS hX hP => ret pc ls (_, mt', qm') H locs hd hS ⟨rfl, hX⟩ hP))
set_option maxRecDepth 100000 in
theorem okM_M_settle : sv_okV "SliceVotingModel" 133 yM_settle cM_settle 4 none 1 := ⟨sv_tb_t 451 rfl rfl, sv_tb_t 448 rfl rfl, sv_tb_t 450 rfl rfl, sv_tb_s 28 rfl rfl, sv_tb_t 4 rfl rfl, ⟨by decide, by decide, by decide +kernel⟩, by decide⟩
theorem kM_settle (X : sv_X D cI cZ cN cQ "SliceVotingModel" cc nL k p R s m args c) (hk : 5 + 1 ≤ k) (hP : sv_mP D cI cZ n qc ad σ mt qm H) (hJ : sv_inj 17 ad) (hA : ∀ k, k < 17 → A (ad k)) (hS : va_S A H0 H locs) {v : Nat} (hn : n ≤ 6) (hI : sv_IQ n qc σ) (hIS : sv_IS n σ) (hv : v < n) (hl : lv_has ls nL lv) (hc : cells ≤ R.cells) (hs : slots ≤ R.slots) (hcat : (rest.map fun v => v.category).sum ≤ 8) (hd : decode cc pc = .ok (.invokevirtual 133, 3)) (kk : ∀ (H1 : Heap) (locs1 : List Loc) (mt' qm' : Nat → Int32), (True) → sv_mP D cI cZ n qc ad (sv_set n qc v 49 σ) mt' qm' H1 → va_S A H0 H1 locs1 → W p l e R s m args below meth c H1 locs1 cells slots Q (F0 m (pc + 3) ls rest)) : W p l e R s m args below meth c H locs cells slots Q (F0 m pc ls (.int (nI v) :: .ref (ad 0) :: rest)) :=
  sv_wVv (S := Sg × (Nat → Int32) × (Nat → Int32)) (G := fun H => sv_mP D cI cZ n qc ad σ mt qm H) (B := fun u H => sv_mP D cI cZ n qc ad u.1 u.2.1 u.2.2 H) X okM_M_settle (cM_m_settle hJ hA hn hI hIS hv) hP (y_rec X.K hP (by decide) sv_me_0 rfl) hS hk rfl hl.1 rfl hcat hc hs hd (fun u H1 locs1 hp hB hS => by obtain ⟨τ, a, b⟩ := u; obtain ⟨h1, h2⟩ := hp; dsimp only at h1 h2 hB; subst h1; exact kk H1 locs1 a b h2 hB hS)
set_option maxHeartbeats 4000000 in
set_option maxRecDepth 100000 in
theorem wM_corrupt (X : sv_X D cI cZ cN cQ "SliceVotingModel" cM_corrupt 2 3 p R s m args c) (hP : sv_mP D cI cZ n qc ad σ mt qm H) (hJ : sv_inj 17 ad) (hA : ∀ k, k < 17 → A (ad k)) (hS : va_S A H0 H locs) {v : Int32} (hn : n ≤ 6) (hl : lv_has ls 2 [(0, .ref (ad 0)), (1, .int v)]) (ret : ∀ (pc : Nat) (ls : Array Slot) (H : Heap) (locs : List Loc) (mt' qm' : Nat → Int32), decode cM_corrupt pc = .ok (.ireturn, 1) → va_S A H0 H locs → (mt' = mt ∧ qm' = qm) → sv_mP D cI cZ n qc ad ((bif sv_wel n σ v then sg σ 9 v.toNatClampNeg 1 else σ)) mt' qm' H → W p l e R s m args below meth c H locs 0 0 Q (F0 m pc ls [.int (sv_b (sv_wel n σ v))])) : W p l e R s m args below meth c H locs 0 0 Q (F0 m 0 ls []) := by
  have hx := X.1
  have hb := X.2.1
  refine lv_aload_n (i := 0) hx hb dM_corrupt_0 rfl (sv_at hl rfl) ?_
  refine lv_iload_n (i := 1) hx hb dM_corrupt_1 rfl (sv_at hl rfl) ?_
  refine kM_well X (by decide) hP hn hl (Nat.zero_le _) (Nat.zero_le _) (Nat.le_of_ble_eq_true rfl) dM_corrupt_2 ?_
  refine x_ifneB (tgt := 10) hx hb dM_corrupt_5 rfl (fun h5 => ?_) (fun h5 => ?_)
  · skip
    obtain ⟨j, hj, rfl, hj9⟩ := sv_wel_t (by omega) h5
    refine lv_aload_n (i := 0) hx hb dM_corrupt_10 rfl (sv_at hl rfl) ?_
    refine gM_ill X hP dM_corrupt_11 ?_
    refine lv_iload_n (i := 1) hx hb dM_corrupt_14 rfl (sv_at hl rfl) ?_
    refine lv_iconst (v := 1) hx hb dM_corrupt_15 (by decide) ?_
    refine x_tv (y := sv_b true) rfl ?_
    refine pm_ill X hP hJ hA hS (by omega) dM_corrupt_16 (fun H locs hP hS => ?_)
    refine lv_iconst (v := 1) hx hb dM_corrupt_17 (by decide) ?_
    exact x_tv (by rw [h5]; rfl) (ret _ _ _ _ _ _ dM_corrupt_18 hS ⟨rfl, rfl⟩ (by rw [h5, nI_clamp (by omega)]; exact hP))
  · skip
    refine lv_iconst (v := 0) hx hb dM_corrupt_8 (by decide) ?_
    exact x_tv (by rw [h5]; rfl) (ret _ _ _ _ _ _ dM_corrupt_9 hS ⟨rfl, rfl⟩ (by rw [h5]; exact hP))

theorem cM_m_corrupt (hJ : sv_inj 17 ad) (hA : ∀ k, k < 17 → A (ad k)) {v : Int32} (hn : n ≤ 6) : Met l yM_corrupt (sv_ws yM_corrupt cM_corrupt 2 (some .boolean)) (sv_rm 3) (sv_Pc D cI cZ cN cQ [.ref (ad 0), .int v] (fun H => sv_mP D cI cZ n qc ad σ mt qm H)) (va_Qi (fun (r : Int32) (u : Sg × (Nat → Int32) × (Nat → Int32)) => r = sv_b (sv_wel n σ v) ∧ u.1 = (bif sv_wel n σ v then sg σ 9 v.toNatClampNeg 1 else σ) ∧ (u.2.1 = mt ∧ u.2.2 = qm)) (fun u t => sv_mP D cI cZ n qc ad u.1 u.2.1 u.2.2 t.heap) A) 0 0 A :=
  sv_mkI (S := Sg × (Nat → Int32) × (Nat → Int32)) (B := fun u H => sv_mP D cI cZ n qc ad u.1 u.2.1 u.2.2 H) (by decide) (by show 2 ≤ 2; decide) (fun _ _ h => by rw [h.1]; exact sv_narb _) (fun p e s m below meth c ls Q X hP hl ret => wM_corrupt X hP hJ hA va_S.rf hn hl (fun pc ls H locs mt' qm' hd hS hX hP => ret pc ls _ (_, mt', qm') H locs hd hS ⟨rfl, rfl, hX⟩ hP))
set_option maxRecDepth 100000 in
theorem okL_M_corrupt : sv_okV "SliceVotingLaw" 35 yM_corrupt cM_corrupt 2 (some .boolean) 1 := ⟨sv_tb_t 427 rfl rfl, sv_tb_t 424 rfl rfl, sv_tb_t 425 rfl rfl, sv_tb_t 426 rfl rfl, sv_tb_t 4 rfl rfl, ⟨by decide, by decide, by decide +kernel⟩, by decide⟩
theorem kL_m_corrupt (X : sv_X D cI cZ cN cQ "SliceVotingLaw" cc nL k p R s m args c) (hk : 3 + 1 ≤ k) (hP : sv_mP D cI cZ n qc ad σ mt qm H) (hJ : sv_inj 17 ad) (hA : ∀ k, k < 17 → A (ad k)) (hS : va_S A H0 H locs) {v : Int32} (hn : n ≤ 6) (hl : lv_has ls nL lv) (hc : cells ≤ R.cells) (hs : slots ≤ R.slots) (hcat : (rest.map fun v => v.category).sum ≤ 8) (hd : decode cc pc = .ok (.invokevirtual 35, 3)) (kk : ∀ (H1 : Heap) (locs1 : List Loc) (mt' qm' : Nat → Int32), (mt' = mt ∧ qm' = qm) → sv_mP D cI cZ n qc ad ((bif sv_wel n σ v then sg σ 9 v.toNatClampNeg 1 else σ)) mt' qm' H1 → va_S A H0 H1 locs1 → W p l e R s m args below meth c H1 locs1 cells slots Q (F0 m (pc + 3) ls (.int (sv_b (sv_wel n σ v)) :: rest))) : W p l e R s m args below meth c H locs cells slots Q (F0 m pc ls (.int v :: .ref (ad 0) :: rest)) :=
  sv_wVi (S := Sg × (Nat → Int32) × (Nat → Int32)) (G := fun H => sv_mP D cI cZ n qc ad σ mt qm H) (B := fun u H => sv_mP D cI cZ n qc ad u.1 u.2.1 u.2.2 H) X okL_M_corrupt (cM_m_corrupt hJ hA hn) hP (y_rec X.K hP (by decide) sv_me_0 rfl) hS hk rfl hl.1 rfl hcat hc hs hd (fun r u H1 locs1 hp hB hS => by obtain ⟨τ, a, b⟩ := u; obtain ⟨rfl, h1, h2⟩ := hp; dsimp only at h1 h2 hB; subst h1; exact kk H1 locs1 a b h2 hB hS)
set_option maxHeartbeats 4000000 in
set_option maxRecDepth 100000 in
theorem wM_deliver (X : sv_X D cI cZ cN cQ "SliceVotingModel" cM_deliver 3 6 p R s m args c) (hP : sv_mP D cI cZ n qc ad σ mt qm H) (hJ : sv_inj 17 ad) (hA : ∀ k, k < 17 → A (ad k)) (hS : va_S A H0 H locs) {v w : Int32} (hn : n ≤ 6) (hI : sv_IQ n qc σ) (hIS : sv_IS n σ) (hl : lv_has ls 3 [(0, .ref (ad 0)), (1, .int v), (2, .int w)]) (ret : ∀ (pc : Nat) (ls : Array Slot) (H : Heap) (locs : List Loc) (mt' qm' : Nat → Int32), decode cM_deliver pc = .ok (.ireturn, 1) → va_S A H0 H locs → (True) → sv_mP D cI cZ n qc ad (sv_dlS n qc σ v w) mt' qm' H → W p l e R s m args below meth c H locs 0 0 Q (F0 m pc ls [.int (sv_b (sv_dlC n σ v w))])) : W p l e R s m args below meth c H locs 0 0 Q (F0 m 0 ls []) := by
  have hx := X.1
  have hb := X.2.1
  refine lv_aload_n (i := 0) hx hb dM_deliver_0 rfl (sv_at hl rfl) ?_
  refine lv_iload_n (i := 1) hx hb dM_deliver_1 rfl (sv_at hl rfl) ?_
  refine kM_well X (by decide) hP hn hl (Nat.zero_le _) (Nat.zero_le _) (Nat.le_of_ble_eq_true rfl) dM_deliver_2 ?_
  refine x_ifeqB (tgt := 21) hx hb dM_deliver_5 rfl (fun h5 => ?_) (fun h5 => ?_)
  · skip
    refine lv_iconst (v := 0) hx hb dM_deliver_21 (by decide) ?_
    first | (have ee : v = w := h18; exact x_tv (by unfold sv_dlC; rw [h18, decide_eq_false (show ¬ ¬ w = w from fun q => q rfl), Bool.and_false, Bool.and_false]; rfl) (ret _ _ _ _ _ _ dM_deliver_22 hS trivial (by unfold sv_dlS sv_dlC; rw [h18, decide_eq_false (show ¬ ¬ w = w from fun q => q rfl), Bool.and_false, Bool.and_false]; exact hP))) | (have ee : sv_wel n σ w = false := h13; exact x_tv (by unfold sv_dlC; rw [h13, Bool.false_and, Bool.and_false]; rfl) (ret _ _ _ _ _ _ dM_deliver_22 hS trivial (by unfold sv_dlS sv_dlC; rw [h13, Bool.false_and, Bool.and_false]; exact hP))) | (have ee : sv_wel n σ v = false := h5; exact x_tv (by unfold sv_dlC; rw [h5]; rfl) (ret _ _ _ _ _ _ dM_deliver_22 hS trivial (by unfold sv_dlS sv_dlC; rw [h5]; exact hP)))
  · skip
    refine lv_aload_n (i := 0) hx hb dM_deliver_8 rfl (sv_at hl rfl) ?_
    refine lv_iload_n (i := 2) hx hb dM_deliver_9 rfl (sv_at hl rfl) ?_
    refine kM_well X (by decide) hP hn hl (Nat.zero_le _) (Nat.zero_le _) (Nat.le_of_ble_eq_true rfl) dM_deliver_10 ?_
    refine x_ifeqB (tgt := 21) hx hb dM_deliver_13 rfl (fun h13 => ?_) (fun h13 => ?_)
    · skip
      refine lv_iconst (v := 0) hx hb dM_deliver_21 (by decide) ?_
      first | (have ee : v = w := h18; exact x_tv (by unfold sv_dlC; rw [h18, decide_eq_false (show ¬ ¬ w = w from fun q => q rfl), Bool.and_false, Bool.and_false]; rfl) (ret _ _ _ _ _ _ dM_deliver_22 hS trivial (by unfold sv_dlS sv_dlC; rw [h18, decide_eq_false (show ¬ ¬ w = w from fun q => q rfl), Bool.and_false, Bool.and_false]; exact hP))) | (have ee : sv_wel n σ w = false := h13; exact x_tv (by unfold sv_dlC; rw [h13, Bool.false_and, Bool.and_false]; rfl) (ret _ _ _ _ _ _ dM_deliver_22 hS trivial (by unfold sv_dlS sv_dlC; rw [h13, Bool.false_and, Bool.and_false]; exact hP))) | (have ee : sv_wel n σ v = false := h5; exact x_tv (by unfold sv_dlC; rw [h5]; rfl) (ret _ _ _ _ _ _ dM_deliver_22 hS trivial (by unfold sv_dlS sv_dlC; rw [h5]; exact hP)))
    · skip
      refine lv_iload_n (i := 1) hx hb dM_deliver_16 rfl (sv_at hl rfl) ?_
      refine lv_iload_n (i := 2) hx hb dM_deliver_17 rfl (sv_at hl rfl) ?_
      refine lv_icmp_ne (tgt := 23) hx hb dM_deliver_18 rfl (fun h18 => ?_) (fun h18 => ?_)
      · skip
        obtain ⟨a, ha, rfl, ha9⟩ := sv_wel_t (by omega) h5
        obtain ⟨b, hb9, rfl, hb0⟩ := sv_wel_t (by omega) h13
        have hab : a ≠ b := fun q => h18 (by rw [q])
        refine lv_aload_n (i := 0) hx hb dM_deliver_23 rfl (sv_at hl rfl) ?_
        refine lv_iconst (v := 1) hx hb dM_deliver_24 (by decide) ?_
        refine pM_moves X hP hJ hA hS dM_deliver_25 (fun H locs hP hS => ?_)
        refine lv_aload_n (i := 0) hx hb dM_deliver_28 rfl (sv_at hl rfl) ?_
        refine gM_heardVotes X hP dM_deliver_29 ?_
        refine lv_bipush (v := nI 6) hx hb dM_deliver_32 (by decide) ?_
        refine lv_iload_n (i := 2) hx hb dM_deliver_34 rfl (sv_at hl rfl) ?_
        refine lv_imul hx hb dM_deliver_35 ?_
        refine lv_iload_n (i := 1) hx hb dM_deliver_36 rfl (sv_at hl rfl) ?_
        refine lv_iadd hx hb dM_deliver_37 ?_
        refine x_tv (y := nI (6 * b + a)) (by rw [pk_mul, nI_add]) ?_
        refine lv_aload_n (i := 0) hx hb dM_deliver_38 rfl (sv_at hl rfl) ?_
        refine gM_votes X hP dM_deliver_39 ?_
        refine lv_iload_n (i := 1) hx hb dM_deliver_42 rfl (sv_at hl rfl) ?_
        refine gm_votes X hP (by omega) dM_deliver_43 ?_
        refine x_tv (y := σ 10 a) (sg_off σ _ (Or.inl (by decide))) ?_
        refine pm_heardVotes X hP hJ hA hS (by omega) dM_deliver_44 (fun H locs hP hS => ?_)
        refine lv_aload_n (i := 0) hx hb dM_deliver_45 rfl (sv_at hl rfl) ?_
        refine gM_heardAccepts X hP dM_deliver_46 ?_
        refine lv_bipush (v := nI 6) hx hb dM_deliver_49 (by decide) ?_
        refine lv_iload_n (i := 2) hx hb dM_deliver_51 rfl (sv_at hl rfl) ?_
        refine lv_imul hx hb dM_deliver_52 ?_
        refine lv_iload_n (i := 1) hx hb dM_deliver_53 rfl (sv_at hl rfl) ?_
        refine lv_iadd hx hb dM_deliver_54 ?_
        refine x_tv (y := nI (6 * b + a)) (by rw [pk_mul, nI_add]) ?_
        refine lv_aload_n (i := 0) hx hb dM_deliver_55 rfl (sv_at hl rfl) ?_
        refine gM_accepts X hP dM_deliver_56 ?_
        refine lv_iload_n (i := 1) hx hb dM_deliver_59 rfl (sv_at hl rfl) ?_
        refine gm_accepts X hP (by omega) dM_deliver_60 ?_
        refine x_tv (y := σ 11 a) (by rw [sg_off _ _ (Or.inl (by decide)), sg_off σ _ (Or.inl (by decide))]) ?_
        refine pm_heardAccepts X hP hJ hA hS (by omega) dM_deliver_61 (fun H locs hP hS => ?_)
        rw [← sv_her_eq hab] at hP
        refine lv_aload_n (i := 0) hx hb dM_deliver_62 rfl (sv_at hl rfl) ?_
        refine lv_iload_n (i := 2) hx hb dM_deliver_63 rfl (sv_at hl rfl) ?_
        refine kM_settle X (by decide) hP hJ hA hS hn (sv_her_ok hab hI hIS).1 (sv_her_ok hab hI hIS).2 hb9 hl (Nat.zero_le _) (Nat.zero_le _) (Nat.le_of_ble_eq_true rfl) dM_deliver_64 (fun H locs mt qm hX hP hS => ?_)
        refine lv_iconst (v := 1) hx hb dM_deliver_67 (by decide) ?_
        exact x_tv (by unfold sv_dlC; rw [h5, h13, decide_eq_true h18]; rfl) (ret _ _ _ _ _ _ dM_deliver_68 hS trivial (by unfold sv_dlS sv_dlC; rw [h5, h13, decide_eq_true h18, nI_clamp (by omega), nI_clamp (by omega)]; exact hP))
      · skip
        refine lv_iconst (v := 0) hx hb dM_deliver_21 (by decide) ?_
        first | (have ee : v = w := h18; exact x_tv (by unfold sv_dlC; rw [h18, decide_eq_false (show ¬ ¬ w = w from fun q => q rfl), Bool.and_false, Bool.and_false]; rfl) (ret _ _ _ _ _ _ dM_deliver_22 hS trivial (by unfold sv_dlS sv_dlC; rw [h18, decide_eq_false (show ¬ ¬ w = w from fun q => q rfl), Bool.and_false, Bool.and_false]; exact hP))) | (have ee : sv_wel n σ w = false := h13; exact x_tv (by unfold sv_dlC; rw [h13, Bool.false_and, Bool.and_false]; rfl) (ret _ _ _ _ _ _ dM_deliver_22 hS trivial (by unfold sv_dlS sv_dlC; rw [h13, Bool.false_and, Bool.and_false]; exact hP))) | (have ee : sv_wel n σ v = false := h5; exact x_tv (by unfold sv_dlC; rw [h5]; rfl) (ret _ _ _ _ _ _ dM_deliver_22 hS trivial (by unfold sv_dlS sv_dlC; rw [h5]; exact hP)))

theorem cM_m_deliver (hJ : sv_inj 17 ad) (hA : ∀ k, k < 17 → A (ad k)) {v w : Int32} (hn : n ≤ 6) (hI : sv_IQ n qc σ) (hIS : sv_IS n σ) : Met l yM_deliver (sv_ws yM_deliver cM_deliver 3 (some .boolean)) (sv_rm 6) (sv_Pc D cI cZ cN cQ [.ref (ad 0), .int v, .int w] (fun H => sv_mP D cI cZ n qc ad σ mt qm H)) (va_Qi (fun (r : Int32) (u : Sg × (Nat → Int32) × (Nat → Int32)) => r = sv_b (sv_dlC n σ v w) ∧ u.1 = sv_dlS n qc σ v w ∧ (True)) (fun u t => sv_mP D cI cZ n qc ad u.1 u.2.1 u.2.2 t.heap) A) 0 0 A :=
  sv_mkI (S := Sg × (Nat → Int32) × (Nat → Int32)) (B := fun u H => sv_mP D cI cZ n qc ad u.1 u.2.1 u.2.2 H) (by decide) (by show 3 ≤ 3; decide) (fun _ _ h => by rw [h.1]; exact sv_narb _) (fun p e s m below meth c ls Q X hP hl ret => wM_deliver X hP hJ hA va_S.rf hn hI hIS hl (fun pc ls H locs mt' qm' hd hS hX hP => ret pc ls _ (_, mt', qm') H locs hd hS ⟨rfl, rfl, hX⟩ hP))
set_option maxRecDepth 100000 in
theorem okL_M_deliver : sv_okV "SliceVotingLaw" 43 yM_deliver cM_deliver 3 (some .boolean) 2 := ⟨sv_tb_t 483 rfl rfl, sv_tb_t 480 rfl rfl, sv_tb_t 481 rfl rfl, sv_tb_t 482 rfl rfl, sv_tb_t 4 rfl rfl, ⟨by decide, by decide, by decide +kernel⟩, by decide⟩
theorem kL_m_deliver (X : sv_X D cI cZ cN cQ "SliceVotingLaw" cc nL k p R s m args c) (hk : 6 + 1 ≤ k) (hP : sv_mP D cI cZ n qc ad σ mt qm H) (hJ : sv_inj 17 ad) (hA : ∀ k, k < 17 → A (ad k)) (hS : va_S A H0 H locs) {v w : Int32} (hn : n ≤ 6) (hI : sv_IQ n qc σ) (hIS : sv_IS n σ) (hl : lv_has ls nL lv) (hc : cells ≤ R.cells) (hs : slots ≤ R.slots) (hcat : (rest.map fun v => v.category).sum ≤ 8) (hd : decode cc pc = .ok (.invokevirtual 43, 3)) (kk : ∀ (H1 : Heap) (locs1 : List Loc) (mt' qm' : Nat → Int32), (True) → sv_mP D cI cZ n qc ad (sv_dlS n qc σ v w) mt' qm' H1 → va_S A H0 H1 locs1 → W p l e R s m args below meth c H1 locs1 cells slots Q (F0 m (pc + 3) ls (.int (sv_b (sv_dlC n σ v w)) :: rest))) : W p l e R s m args below meth c H locs cells slots Q (F0 m pc ls (.int w :: .int v :: .ref (ad 0) :: rest)) :=
  sv_wVi (S := Sg × (Nat → Int32) × (Nat → Int32)) (G := fun H => sv_mP D cI cZ n qc ad σ mt qm H) (B := fun u H => sv_mP D cI cZ n qc ad u.1 u.2.1 u.2.2 H) X okL_M_deliver (cM_m_deliver hJ hA hn hI hIS) hP (y_rec X.K hP (by decide) sv_me_0 rfl) hS hk rfl hl.1 rfl hcat hc hs hd (fun r u H1 locs1 hp hB hS => by obtain ⟨τ, a, b⟩ := u; obtain ⟨rfl, h1, h2⟩ := hp; dsimp only at h1 h2 hB; subst h1; exact kk H1 locs1 a b h2 hB hS)
set_option maxHeartbeats 4000000 in
set_option maxRecDepth 100000 in
theorem wM_say (X : sv_X D cI cZ cN cQ "SliceVotingModel" cM_say 5 6 p R s m args c) (hP : sv_mP D cI cZ n qc ad σ mt qm H) (hJ : sv_inj 17 ad) (hA : ∀ k, k < 17 → A (ad k)) (hS : va_S A H0 H locs) {v w x z : Int32} (hn : n ≤ 6) (hI : sv_IQ n qc σ) (hIS : sv_IS n σ) (hl : lv_has ls 5 [(0, .ref (ad 0)), (1, .int v), (2, .int w), (3, .int x), (4, .int z)]) (ret : ∀ (pc : Nat) (ls : Array Slot) (H : Heap) (locs : List Loc) (mt' qm' : Nat → Int32), decode cM_say pc = .ok (.ireturn, 1) → va_S A H0 H locs → (True) → sv_mP D cI cZ n qc ad (sv_syS n qc σ v w x z) mt' qm' H → W p l e R s m args below meth c H locs 0 0 Q (F0 m pc ls [.int (sv_b (sv_syC n σ v w))])) : W p l e R s m args below meth c H locs 0 0 Q (F0 m 0 ls []) := by
  have hx := X.1
  have hb := X.2.1
  refine lv_aload_n (i := 0) hx hb dM_say_0 rfl (sv_at hl rfl) ?_
  refine lv_iload_n (i := 1) hx hb dM_say_1 rfl (sv_at hl rfl) ?_
  refine kM_isNode X (by decide) hP  hl (Nat.zero_le _) (Nat.zero_le _) (Nat.le_of_ble_eq_true rfl) dM_say_2 ?_
  refine x_ifeqB (tgt := 25) hx hb dM_say_5 rfl (fun h5 => ?_) (fun h5 => ?_)
  · skip
    refine lv_iconst (v := 0) hx hb dM_say_25 (by decide) ?_
    first | (have ee : sv_wel n σ w = false := h22; exact x_tv (by unfold sv_syC; rw [h22, Bool.and_false, Bool.and_false]; rfl) (ret _ _ _ _ _ _ dM_say_26 hS trivial (by unfold sv_syS sv_syC; rw [h22, Bool.and_false, Bool.and_false]; exact hP))) | (have ee : sv_wel n σ (nI a) = true := h14b; exact x_tv (by unfold sv_syC; rw [h14b, Bool.not_true, Bool.false_and, Bool.and_false]; rfl) (ret _ _ _ _ _ _ dM_say_26 hS trivial (by unfold sv_syS sv_syC; rw [h14b, Bool.not_true, Bool.false_and, Bool.and_false]; exact hP))) | (have ee : sv_isn n v = false := h5; exact x_tv (by unfold sv_syC; rw [h5]; rfl) (ret _ _ _ _ _ _ dM_say_26 hS trivial (by unfold sv_syS sv_syC; rw [h5]; exact hP)))
  · skip
    obtain ⟨a, ha, rfl⟩ := sv_isn_t (by omega) h5
    refine lv_aload_n (i := 0) hx hb dM_say_8 rfl (sv_at hl rfl) ?_
    refine gM_ill X hP dM_say_9 ?_
    refine lv_iload_n (i := 1) hx hb dM_say_12 rfl (sv_at hl rfl) ?_
    refine gm_ill X hP (by omega) dM_say_13 ?_
    refine lv_if_eq (tgt := 25) hx hb dM_say_14 rfl (fun h14 => ?_) (fun h14 => ?_)
    · skip
      have h14b := sv_wel_8 (σ := σ) (by omega) ha h14
      refine lv_iconst (v := 0) hx hb dM_say_25 (by decide) ?_
      first | (have ee : sv_wel n σ w = false := h22; exact x_tv (by unfold sv_syC; rw [h22, Bool.and_false, Bool.and_false]; rfl) (ret _ _ _ _ _ _ dM_say_26 hS trivial (by unfold sv_syS sv_syC; rw [h22, Bool.and_false, Bool.and_false]; exact hP))) | (have ee : sv_wel n σ (nI a) = true := h14b; exact x_tv (by unfold sv_syC; rw [h14b, Bool.not_true, Bool.false_and, Bool.and_false]; rfl) (ret _ _ _ _ _ _ dM_say_26 hS trivial (by unfold sv_syS sv_syC; rw [h14b, Bool.not_true, Bool.false_and, Bool.and_false]; exact hP))) | (have ee : sv_isn n v = false := h5; exact x_tv (by unfold sv_syC; rw [h5]; rfl) (ret _ _ _ _ _ _ dM_say_26 hS trivial (by unfold sv_syS sv_syC; rw [h5]; exact hP)))
    · skip
      have h14b := sv_wel_9 (σ := σ) (by omega) ha h14
      refine lv_aload_n (i := 0) hx hb dM_say_17 rfl (sv_at hl rfl) ?_
      refine lv_iload_n (i := 2) hx hb dM_say_18 rfl (sv_at hl rfl) ?_
      refine kM_well X (by decide) hP hn hl (Nat.zero_le _) (Nat.zero_le _) (Nat.le_of_ble_eq_true rfl) dM_say_19 ?_
      refine x_ifneB (tgt := 27) hx hb dM_say_22 rfl (fun h22 => ?_) (fun h22 => ?_)
      · skip
        obtain ⟨b, hb9, rfl, hb0⟩ := sv_wel_t (by omega) h22
        have hab : a ≠ b := fun q => h14 (by rw [q]; exact hb0)
        refine lv_aload_n (i := 0) hx hb dM_say_27 rfl (sv_at hl rfl) ?_
        refine lv_iconst (v := 1) hx hb dM_say_28 (by decide) ?_
        refine pM_moves X hP hJ hA hS dM_say_29 (fun H locs hP hS => ?_)
        refine lv_aload_n (i := 0) hx hb dM_say_32 rfl (sv_at hl rfl) ?_
        refine gM_heardVotes X hP dM_say_33 ?_
        refine lv_bipush (v := nI 6) hx hb dM_say_36 (by decide) ?_
        refine lv_iload_n (i := 2) hx hb dM_say_38 rfl (sv_at hl rfl) ?_
        refine lv_imul hx hb dM_say_39 ?_
        refine lv_iload_n (i := 1) hx hb dM_say_40 rfl (sv_at hl rfl) ?_
        refine lv_iadd hx hb dM_say_41 ?_
        refine x_tv (y := nI (6 * b + a)) (by rw [pk_mul, nI_add]) ?_
        refine lv_iload_n (i := 3) hx hb dM_say_42 rfl (sv_at hl rfl) ?_
        refine lv_ldc (v := 16777215) hx hb X.own (X.hts _ (sv_tb_t 488 rfl rfl)) dM_say_43 ?_
        refine lv_iand hx hb dM_say_45 ?_
        refine pm_heardVotes X hP hJ hA hS (by omega) dM_say_46 (fun H locs hP hS => ?_)
        refine lv_aload_n (i := 0) hx hb dM_say_47 rfl (sv_at hl rfl) ?_
        refine gM_heardAccepts X hP dM_say_48 ?_
        refine lv_bipush (v := nI 6) hx hb dM_say_51 (by decide) ?_
        refine lv_iload_n (i := 2) hx hb dM_say_53 rfl (sv_at hl rfl) ?_
        refine lv_imul hx hb dM_say_54 ?_
        refine lv_iload_n (i := 1) hx hb dM_say_55 rfl (sv_at hl rfl) ?_
        refine lv_iadd hx hb dM_say_56 ?_
        refine x_tv (y := nI (6 * b + a)) (by rw [pk_mul, nI_add]) ?_
        refine lv_iload (i := 4) hx hb dM_say_57 (sv_at hl rfl) ?_
        refine lv_ldc (v := 16777215) hx hb X.own (X.hts _ (sv_tb_t 488 rfl rfl)) dM_say_59 ?_
        refine lv_iand hx hb dM_say_61 ?_
        refine pm_heardAccepts X hP hJ hA hS (by omega) dM_say_62 (fun H locs hP hS => ?_)
        rw [← sv_her_eq hab] at hP
        refine lv_aload_n (i := 0) hx hb dM_say_63 rfl (sv_at hl rfl) ?_
        refine lv_iload_n (i := 2) hx hb dM_say_64 rfl (sv_at hl rfl) ?_
        refine kM_settle X (by decide) hP hJ hA hS hn (sv_her_ok hab hI hIS).1 (sv_her_ok hab hI hIS).2 hb9 hl (Nat.zero_le _) (Nat.zero_le _) (Nat.le_of_ble_eq_true rfl) dM_say_65 (fun H locs mt qm hX hP hS => ?_)
        refine lv_iconst (v := 1) hx hb dM_say_68 (by decide) ?_
        exact x_tv (by unfold sv_syC; rw [h5, h14b, h22]; rfl) (ret _ _ _ _ _ _ dM_say_69 hS trivial (by unfold sv_syS sv_syC; rw [h5, h14b, h22, nI_clamp (by omega), nI_clamp (by omega)]; exact hP))
      · skip
        refine lv_iconst (v := 0) hx hb dM_say_25 (by decide) ?_
        first | (have ee : sv_wel n σ w = false := h22; exact x_tv (by unfold sv_syC; rw [h22, Bool.and_false, Bool.and_false]; rfl) (ret _ _ _ _ _ _ dM_say_26 hS trivial (by unfold sv_syS sv_syC; rw [h22, Bool.and_false, Bool.and_false]; exact hP))) | (have ee : sv_wel n σ (nI a) = true := h14b; exact x_tv (by unfold sv_syC; rw [h14b, Bool.not_true, Bool.false_and, Bool.and_false]; rfl) (ret _ _ _ _ _ _ dM_say_26 hS trivial (by unfold sv_syS sv_syC; rw [h14b, Bool.not_true, Bool.false_and, Bool.and_false]; exact hP))) | (have ee : sv_isn n v = false := h5; exact x_tv (by unfold sv_syC; rw [h5]; rfl) (ret _ _ _ _ _ _ dM_say_26 hS trivial (by unfold sv_syS sv_syC; rw [h5]; exact hP)))

theorem cM_m_say (hJ : sv_inj 17 ad) (hA : ∀ k, k < 17 → A (ad k)) {v w x z : Int32} (hn : n ≤ 6) (hI : sv_IQ n qc σ) (hIS : sv_IS n σ) : Met l yM_say (sv_ws yM_say cM_say 5 (some .boolean)) (sv_rm 6) (sv_Pc D cI cZ cN cQ [.ref (ad 0), .int v, .int w, .int x, .int z] (fun H => sv_mP D cI cZ n qc ad σ mt qm H)) (va_Qi (fun (r : Int32) (u : Sg × (Nat → Int32) × (Nat → Int32)) => r = sv_b (sv_syC n σ v w) ∧ u.1 = sv_syS n qc σ v w x z ∧ (True)) (fun u t => sv_mP D cI cZ n qc ad u.1 u.2.1 u.2.2 t.heap) A) 0 0 A :=
  sv_mkI (S := Sg × (Nat → Int32) × (Nat → Int32)) (B := fun u H => sv_mP D cI cZ n qc ad u.1 u.2.1 u.2.2 H) (by decide) (by show 5 ≤ 5; decide) (fun _ _ h => by rw [h.1]; exact sv_narb _) (fun p e s m below meth c ls Q X hP hl ret => wM_say X hP hJ hA va_S.rf hn hI hIS hl (fun pc ls H locs mt' qm' hd hS hX hP => ret pc ls _ (_, mt', qm') H locs hd hS ⟨rfl, rfl, hX⟩ hP))
set_option maxRecDepth 100000 in
theorem okL_M_say : sv_okV "SliceVotingLaw" 48 yM_say cM_say 5 (some .boolean) 4 := ⟨sv_tb_t 487 rfl rfl, sv_tb_t 484 rfl rfl, sv_tb_t 485 rfl rfl, sv_tb_t 486 rfl rfl, sv_tb_t 4 rfl rfl, ⟨by decide, by decide, by decide +kernel⟩, by decide⟩
theorem kL_m_say (X : sv_X D cI cZ cN cQ "SliceVotingLaw" cc nL k p R s m args c) (hk : 6 + 1 ≤ k) (hP : sv_mP D cI cZ n qc ad σ mt qm H) (hJ : sv_inj 17 ad) (hA : ∀ k, k < 17 → A (ad k)) (hS : va_S A H0 H locs) {v w x z : Int32} (hn : n ≤ 6) (hI : sv_IQ n qc σ) (hIS : sv_IS n σ) (hl : lv_has ls nL lv) (hc : cells ≤ R.cells) (hs : slots ≤ R.slots) (hcat : (rest.map fun v => v.category).sum ≤ 8) (hd : decode cc pc = .ok (.invokevirtual 48, 3)) (kk : ∀ (H1 : Heap) (locs1 : List Loc) (mt' qm' : Nat → Int32), (True) → sv_mP D cI cZ n qc ad (sv_syS n qc σ v w x z) mt' qm' H1 → va_S A H0 H1 locs1 → W p l e R s m args below meth c H1 locs1 cells slots Q (F0 m (pc + 3) ls (.int (sv_b (sv_syC n σ v w)) :: rest))) : W p l e R s m args below meth c H locs cells slots Q (F0 m pc ls (.int z :: .int x :: .int w :: .int v :: .ref (ad 0) :: rest)) :=
  sv_wVi (S := Sg × (Nat → Int32) × (Nat → Int32)) (G := fun H => sv_mP D cI cZ n qc ad σ mt qm H) (B := fun u H => sv_mP D cI cZ n qc ad u.1 u.2.1 u.2.2 H) X okL_M_say (cM_m_say hJ hA hn hI hIS) hP (y_rec X.K hP (by decide) sv_me_0 rfl) hS hk rfl hl.1 rfl hcat hc hs hd (fun r u H1 locs1 hp hB hS => by obtain ⟨τ, a, b⟩ := u; obtain ⟨rfl, h1, h2⟩ := hp; dsimp only at h1 h2 hB; subst h1; exact kk H1 locs1 a b h2 hB hS)
set_option maxHeartbeats 4000000 in
set_option maxRecDepth 100000 in
theorem wM_member (X : sv_X D cI cZ cN cQ "SliceVotingModel" cM_member 3 2 p R s m args c) (hP : sv_mP D cI cZ n qc ad σ mt qm H) (hJ : sv_inj 17 ad) (hA : ∀ k, k < 17 → A (ad k)) (hS : va_S A H0 H locs) {v w : Int32} (hn : n ≤ 6) (hq24 : qc ≤ 24) (hl : lv_has ls 3 [(0, .ref (ad 0)), (1, .int v), (2, .int w)]) (ret : ∀ (pc : Nat) (ls : Array Slot) (H : Heap) (locs : List Loc) (mt' qm' : Nat → Int32), decode cM_member pc = .ok (.ireturn, 1) → va_S A H0 H locs → (mt' = mt ∧ qm' = qm) → sv_mP D cI cZ n qc ad (sv_mbS n qc σ v w) mt' qm' H → W p l e R s m args below meth c H locs 0 0 Q (F0 m pc ls [.int (sv_b (sv_mbC n qc σ v w))])) : W p l e R s m args below meth c H locs 0 0 Q (F0 m 0 ls []) := by
  have hx := X.1
  have hb := X.2.1
  refine lv_aload_n (i := 0) hx hb dM_member_0 rfl (sv_at hl rfl) ?_
  refine gM_moves X hP dM_member_1 ?_
  refine lv_if_ne (tgt := 41) hx hb dM_member_4 rfl (fun h4 => ?_) (fun h4 => ?_)
  · skip
    refine lv_iconst (v := 0) hx hb dM_member_41 (by decide) ?_
    first | (have ee : bt (σ 7 a) b = true := h38; exact x_tv (by unfold sv_mbC; rw [nI_clamp (by omega), nI_clamp (by omega), h38, Bool.not_true, Bool.and_false, Bool.and_false, Bool.and_false]; rfl) (ret _ _ _ _ _ _ dM_member_42 hS ⟨rfl, rfl⟩ (by unfold sv_mbS sv_mbC; rw [nI_clamp (by omega), nI_clamp (by omega), h38, Bool.not_true, Bool.and_false, Bool.and_false, Bool.and_false]; exact hP))) | (have ee : sv_isn n w = false := h24; exact x_tv (by unfold sv_mbC; rw [h24, Bool.false_and, Bool.and_false, Bool.and_false]; rfl) (ret _ _ _ _ _ _ dM_member_42 hS ⟨rfl, rfl⟩ (by unfold sv_mbS sv_mbC; rw [h24, Bool.false_and, Bool.and_false, Bool.and_false]; exact hP))) | (have ee : nI qc ≤ v := h16; exact x_tv (by unfold sv_mbC; rw [show sv_isn qc v = false from by unfold sv_isn; rw [decide_eq_false (show ¬ ¬ nI qc ≤ v from fun q => q h16), Bool.and_false], Bool.false_and, Bool.and_false]; rfl) (ret _ _ _ _ _ _ dM_member_42 hS ⟨rfl, rfl⟩ (by unfold sv_mbS sv_mbC; rw [show sv_isn qc v = false from by unfold sv_isn; rw [decide_eq_false (show ¬ ¬ nI qc ≤ v from fun q => q h16), Bool.and_false], Bool.false_and, Bool.and_false]; exact hP))) | (have ee : v < 0 := h8; exact x_tv (by unfold sv_mbC; rw [show sv_isn qc v = false from by unfold sv_isn; rw [decide_eq_false (show ¬ ¬ v < 0 from fun q => q h8)]; rfl, Bool.false_and, Bool.and_false]; rfl) (ret _ _ _ _ _ _ dM_member_42 hS ⟨rfl, rfl⟩ (by unfold sv_mbS sv_mbC; rw [show sv_isn qc v = false from by unfold sv_isn; rw [decide_eq_false (show ¬ ¬ v < 0 from fun q => q h8)]; rfl, Bool.false_and, Bool.and_false]; exact hP))) | (have ee : ¬ σ 1 0 = 0 := h4; exact x_tv (by unfold sv_mbC; rw [decide_eq_false h4]; rfl) (ret _ _ _ _ _ _ dM_member_42 hS ⟨rfl, rfl⟩ (by unfold sv_mbS sv_mbC; rw [decide_eq_false h4]; exact hP)))
  · skip
    refine lv_iload_n (i := 1) hx hb dM_member_7 rfl (sv_at hl rfl) ?_
    refine lv_if_lt (tgt := 41) hx hb dM_member_8 rfl (fun h8 => ?_) (fun h8 => ?_)
    · skip
      refine lv_iconst (v := 0) hx hb dM_member_41 (by decide) ?_
      first | (have ee : bt (σ 7 a) b = true := h38; exact x_tv (by unfold sv_mbC; rw [nI_clamp (by omega), nI_clamp (by omega), h38, Bool.not_true, Bool.and_false, Bool.and_false, Bool.and_false]; rfl) (ret _ _ _ _ _ _ dM_member_42 hS ⟨rfl, rfl⟩ (by unfold sv_mbS sv_mbC; rw [nI_clamp (by omega), nI_clamp (by omega), h38, Bool.not_true, Bool.and_false, Bool.and_false, Bool.and_false]; exact hP))) | (have ee : sv_isn n w = false := h24; exact x_tv (by unfold sv_mbC; rw [h24, Bool.false_and, Bool.and_false, Bool.and_false]; rfl) (ret _ _ _ _ _ _ dM_member_42 hS ⟨rfl, rfl⟩ (by unfold sv_mbS sv_mbC; rw [h24, Bool.false_and, Bool.and_false, Bool.and_false]; exact hP))) | (have ee : nI qc ≤ v := h16; exact x_tv (by unfold sv_mbC; rw [show sv_isn qc v = false from by unfold sv_isn; rw [decide_eq_false (show ¬ ¬ nI qc ≤ v from fun q => q h16), Bool.and_false], Bool.false_and, Bool.and_false]; rfl) (ret _ _ _ _ _ _ dM_member_42 hS ⟨rfl, rfl⟩ (by unfold sv_mbS sv_mbC; rw [show sv_isn qc v = false from by unfold sv_isn; rw [decide_eq_false (show ¬ ¬ nI qc ≤ v from fun q => q h16), Bool.and_false], Bool.false_and, Bool.and_false]; exact hP))) | (have ee : v < 0 := h8; exact x_tv (by unfold sv_mbC; rw [show sv_isn qc v = false from by unfold sv_isn; rw [decide_eq_false (show ¬ ¬ v < 0 from fun q => q h8)]; rfl, Bool.false_and, Bool.and_false]; rfl) (ret _ _ _ _ _ _ dM_member_42 hS ⟨rfl, rfl⟩ (by unfold sv_mbS sv_mbC; rw [show sv_isn qc v = false from by unfold sv_isn; rw [decide_eq_false (show ¬ ¬ v < 0 from fun q => q h8)]; rfl, Bool.false_and, Bool.and_false]; exact hP))) | (have ee : ¬ σ 1 0 = 0 := h4; exact x_tv (by unfold sv_mbC; rw [decide_eq_false h4]; rfl) (ret _ _ _ _ _ _ dM_member_42 hS ⟨rfl, rfl⟩ (by unfold sv_mbS sv_mbC; rw [decide_eq_false h4]; exact hP)))
    · skip
      refine lv_iload_n (i := 1) hx hb dM_member_11 rfl (sv_at hl rfl) ?_
      refine lv_aload_n (i := 0) hx hb dM_member_12 rfl (sv_at hl rfl) ?_
      refine gM_quotas X hP dM_member_13 ?_
      refine lv_icmp_ge (tgt := 41) hx hb dM_member_16 rfl (fun h16 => ?_) (fun h16 => ?_)
      · skip
        refine lv_iconst (v := 0) hx hb dM_member_41 (by decide) ?_
        first | (have ee : bt (σ 7 a) b = true := h38; exact x_tv (by unfold sv_mbC; rw [nI_clamp (by omega), nI_clamp (by omega), h38, Bool.not_true, Bool.and_false, Bool.and_false, Bool.and_false]; rfl) (ret _ _ _ _ _ _ dM_member_42 hS ⟨rfl, rfl⟩ (by unfold sv_mbS sv_mbC; rw [nI_clamp (by omega), nI_clamp (by omega), h38, Bool.not_true, Bool.and_false, Bool.and_false, Bool.and_false]; exact hP))) | (have ee : sv_isn n w = false := h24; exact x_tv (by unfold sv_mbC; rw [h24, Bool.false_and, Bool.and_false, Bool.and_false]; rfl) (ret _ _ _ _ _ _ dM_member_42 hS ⟨rfl, rfl⟩ (by unfold sv_mbS sv_mbC; rw [h24, Bool.false_and, Bool.and_false, Bool.and_false]; exact hP))) | (have ee : nI qc ≤ v := h16; exact x_tv (by unfold sv_mbC; rw [show sv_isn qc v = false from by unfold sv_isn; rw [decide_eq_false (show ¬ ¬ nI qc ≤ v from fun q => q h16), Bool.and_false], Bool.false_and, Bool.and_false]; rfl) (ret _ _ _ _ _ _ dM_member_42 hS ⟨rfl, rfl⟩ (by unfold sv_mbS sv_mbC; rw [show sv_isn qc v = false from by unfold sv_isn; rw [decide_eq_false (show ¬ ¬ nI qc ≤ v from fun q => q h16), Bool.and_false], Bool.false_and, Bool.and_false]; exact hP))) | (have ee : v < 0 := h8; exact x_tv (by unfold sv_mbC; rw [show sv_isn qc v = false from by unfold sv_isn; rw [decide_eq_false (show ¬ ¬ v < 0 from fun q => q h8)]; rfl, Bool.false_and, Bool.and_false]; rfl) (ret _ _ _ _ _ _ dM_member_42 hS ⟨rfl, rfl⟩ (by unfold sv_mbS sv_mbC; rw [show sv_isn qc v = false from by unfold sv_isn; rw [decide_eq_false (show ¬ ¬ v < 0 from fun q => q h8)]; rfl, Bool.false_and, Bool.and_false]; exact hP))) | (have ee : ¬ σ 1 0 = 0 := h4; exact x_tv (by unfold sv_mbC; rw [decide_eq_false h4]; rfl) (ret _ _ _ _ _ _ dM_member_42 hS ⟨rfl, rfl⟩ (by unfold sv_mbS sv_mbC; rw [decide_eq_false h4]; exact hP)))
      · skip
        have hqi : sv_isn qc v = true := by unfold sv_isn; rw [decide_eq_true h8, decide_eq_true h16]; rfl
        obtain ⟨a, ha, rfl⟩ := sv_isn_t (by omega) hqi
        refine lv_aload_n (i := 0) hx hb dM_member_19 rfl (sv_at hl rfl) ?_
        refine lv_iload_n (i := 2) hx hb dM_member_20 rfl (sv_at hl rfl) ?_
        refine kM_isNode X (by decide) hP  hl (Nat.zero_le _) (Nat.zero_le _) (Nat.le_of_ble_eq_true rfl) dM_member_21 ?_
        refine x_ifeqB (tgt := 41) hx hb dM_member_24 rfl (fun h24 => ?_) (fun h24 => ?_)
        · skip
          refine lv_iconst (v := 0) hx hb dM_member_41 (by decide) ?_
          first | (have ee : bt (σ 7 a) b = true := h38; exact x_tv (by unfold sv_mbC; rw [nI_clamp (by omega), nI_clamp (by omega), h38, Bool.not_true, Bool.and_false, Bool.and_false, Bool.and_false]; rfl) (ret _ _ _ _ _ _ dM_member_42 hS ⟨rfl, rfl⟩ (by unfold sv_mbS sv_mbC; rw [nI_clamp (by omega), nI_clamp (by omega), h38, Bool.not_true, Bool.and_false, Bool.and_false, Bool.and_false]; exact hP))) | (have ee : sv_isn n w = false := h24; exact x_tv (by unfold sv_mbC; rw [h24, Bool.false_and, Bool.and_false, Bool.and_false]; rfl) (ret _ _ _ _ _ _ dM_member_42 hS ⟨rfl, rfl⟩ (by unfold sv_mbS sv_mbC; rw [h24, Bool.false_and, Bool.and_false, Bool.and_false]; exact hP))) | (have ee : nI qc ≤ v := h16; exact x_tv (by unfold sv_mbC; rw [show sv_isn qc v = false from by unfold sv_isn; rw [decide_eq_false (show ¬ ¬ nI qc ≤ v from fun q => q h16), Bool.and_false], Bool.false_and, Bool.and_false]; rfl) (ret _ _ _ _ _ _ dM_member_42 hS ⟨rfl, rfl⟩ (by unfold sv_mbS sv_mbC; rw [show sv_isn qc v = false from by unfold sv_isn; rw [decide_eq_false (show ¬ ¬ nI qc ≤ v from fun q => q h16), Bool.and_false], Bool.false_and, Bool.and_false]; exact hP))) | (have ee : v < 0 := h8; exact x_tv (by unfold sv_mbC; rw [show sv_isn qc v = false from by unfold sv_isn; rw [decide_eq_false (show ¬ ¬ v < 0 from fun q => q h8)]; rfl, Bool.false_and, Bool.and_false]; rfl) (ret _ _ _ _ _ _ dM_member_42 hS ⟨rfl, rfl⟩ (by unfold sv_mbS sv_mbC; rw [show sv_isn qc v = false from by unfold sv_isn; rw [decide_eq_false (show ¬ ¬ v < 0 from fun q => q h8)]; rfl, Bool.false_and, Bool.and_false]; exact hP))) | (have ee : ¬ σ 1 0 = 0 := h4; exact x_tv (by unfold sv_mbC; rw [decide_eq_false h4]; rfl) (ret _ _ _ _ _ _ dM_member_42 hS ⟨rfl, rfl⟩ (by unfold sv_mbS sv_mbC; rw [decide_eq_false h4]; exact hP)))
        · skip
          obtain ⟨b, hb9, rfl⟩ := sv_isn_t (by omega) h24
          refine lv_aload_n (i := 0) hx hb dM_member_27 rfl (sv_at hl rfl) ?_
          refine gM_members X hP dM_member_28 ?_
          refine lv_iload_n (i := 1) hx hb dM_member_31 rfl (sv_at hl rfl) ?_
          refine gm_members X hP (by omega) dM_member_32 ?_
          refine lv_iload_n (i := 2) hx hb dM_member_33 rfl (sv_at hl rfl) ?_
          refine lv_ishr hx hb dM_member_34 ?_
          refine lv_iconst (v := 1) hx hb dM_member_35 (by decide) ?_
          refine lv_iand hx hb dM_member_36 ?_
          refine x_tv (sv_shr1 _ (by omega)) ?_
          refine lv_iconst (v := 1) hx hb dM_member_37 (by decide) ?_
          refine lv_icmp_ne (tgt := 43) hx hb dM_member_38 rfl (fun h38 => ?_) (fun h38 => ?_)
          · skip
            rw [sv_bn1] at h38
            refine lv_aload_n (i := 0) hx hb dM_member_43 rfl (sv_at hl rfl) ?_
            refine gM_members X hP dM_member_44 ?_
            refine lv_iload_n (i := 1) hx hb dM_member_47 rfl (sv_at hl rfl) ?_
            refine lv_aload_n (i := 0) hx hb dM_member_48 rfl (sv_at hl rfl) ?_
            refine gM_members X hP dM_member_49 ?_
            refine lv_iload_n (i := 1) hx hb dM_member_52 rfl (sv_at hl rfl) ?_
            refine gm_members X hP (by omega) dM_member_53 ?_
            refine lv_iconst (v := 1) hx hb dM_member_54 (by decide) ?_
            refine lv_iload_n (i := 2) hx hb dM_member_55 rfl (sv_at hl rfl) ?_
            refine lv_ishl hx hb dM_member_56 ?_
            refine lv_ior hx hb dM_member_57 ?_
            refine x_tv (y := σ 7 a ||| sv_bit b) rfl ?_
            refine pm_members X hP hJ hA hS (by omega) dM_member_58 (fun H locs hP hS => ?_)
            refine lv_iconst (v := 1) hx hb dM_member_59 (by decide) ?_
            exact x_tv (by unfold sv_mbC; rw [decide_eq_true h4, hqi, h24, nI_clamp (by omega), nI_clamp (by omega), h38]; rfl) (ret _ _ _ _ _ _ dM_member_60 hS ⟨rfl, rfl⟩ (by unfold sv_mbS sv_mbC; rw [decide_eq_true h4, hqi, h24, nI_clamp (by omega), nI_clamp (by omega), h38]; exact hP))
          · skip
            rw [sv_b1] at h38
            refine lv_iconst (v := 0) hx hb dM_member_41 (by decide) ?_
            first | (have ee : bt (σ 7 a) b = true := h38; exact x_tv (by unfold sv_mbC; rw [nI_clamp (by omega), nI_clamp (by omega), h38, Bool.not_true, Bool.and_false, Bool.and_false, Bool.and_false]; rfl) (ret _ _ _ _ _ _ dM_member_42 hS ⟨rfl, rfl⟩ (by unfold sv_mbS sv_mbC; rw [nI_clamp (by omega), nI_clamp (by omega), h38, Bool.not_true, Bool.and_false, Bool.and_false, Bool.and_false]; exact hP))) | (have ee : sv_isn n w = false := h24; exact x_tv (by unfold sv_mbC; rw [h24, Bool.false_and, Bool.and_false, Bool.and_false]; rfl) (ret _ _ _ _ _ _ dM_member_42 hS ⟨rfl, rfl⟩ (by unfold sv_mbS sv_mbC; rw [h24, Bool.false_and, Bool.and_false, Bool.and_false]; exact hP))) | (have ee : nI qc ≤ v := h16; exact x_tv (by unfold sv_mbC; rw [show sv_isn qc v = false from by unfold sv_isn; rw [decide_eq_false (show ¬ ¬ nI qc ≤ v from fun q => q h16), Bool.and_false], Bool.false_and, Bool.and_false]; rfl) (ret _ _ _ _ _ _ dM_member_42 hS ⟨rfl, rfl⟩ (by unfold sv_mbS sv_mbC; rw [show sv_isn qc v = false from by unfold sv_isn; rw [decide_eq_false (show ¬ ¬ nI qc ≤ v from fun q => q h16), Bool.and_false], Bool.false_and, Bool.and_false]; exact hP))) | (have ee : v < 0 := h8; exact x_tv (by unfold sv_mbC; rw [show sv_isn qc v = false from by unfold sv_isn; rw [decide_eq_false (show ¬ ¬ v < 0 from fun q => q h8)]; rfl, Bool.false_and, Bool.and_false]; rfl) (ret _ _ _ _ _ _ dM_member_42 hS ⟨rfl, rfl⟩ (by unfold sv_mbS sv_mbC; rw [show sv_isn qc v = false from by unfold sv_isn; rw [decide_eq_false (show ¬ ¬ v < 0 from fun q => q h8)]; rfl, Bool.false_and, Bool.and_false]; exact hP))) | (have ee : ¬ σ 1 0 = 0 := h4; exact x_tv (by unfold sv_mbC; rw [decide_eq_false h4]; rfl) (ret _ _ _ _ _ _ dM_member_42 hS ⟨rfl, rfl⟩ (by unfold sv_mbS sv_mbC; rw [decide_eq_false h4]; exact hP)))

theorem cM_m_member (hJ : sv_inj 17 ad) (hA : ∀ k, k < 17 → A (ad k)) {v w : Int32} (hn : n ≤ 6) (hq24 : qc ≤ 24) : Met l yM_member (sv_ws yM_member cM_member 3 (some .boolean)) (sv_rm 2) (sv_Pc D cI cZ cN cQ [.ref (ad 0), .int v, .int w] (fun H => sv_mP D cI cZ n qc ad σ mt qm H)) (va_Qi (fun (r : Int32) (u : Sg × (Nat → Int32) × (Nat → Int32)) => r = sv_b (sv_mbC n qc σ v w) ∧ u.1 = sv_mbS n qc σ v w ∧ (u.2.1 = mt ∧ u.2.2 = qm)) (fun u t => sv_mP D cI cZ n qc ad u.1 u.2.1 u.2.2 t.heap) A) 0 0 A :=
  sv_mkI (S := Sg × (Nat → Int32) × (Nat → Int32)) (B := fun u H => sv_mP D cI cZ n qc ad u.1 u.2.1 u.2.2 H) (by decide) (by show 3 ≤ 3; decide) (fun _ _ h => by rw [h.1]; exact sv_narb _) (fun p e s m below meth c ls Q X hP hl ret => wM_member X hP hJ hA va_S.rf hn hq24 hl (fun pc ls H locs mt' qm' hd hS hX hP => ret pc ls _ (_, mt', qm') H locs hd hS ⟨rfl, rfl, hX⟩ hP))
set_option maxRecDepth 100000 in
theorem okL_M_member : sv_okV "SliceVotingLaw" 30 yM_member cM_member 3 (some .boolean) 2 := ⟨sv_tb_t 386 rfl rfl, sv_tb_t 383 rfl rfl, sv_tb_t 384 rfl rfl, sv_tb_t 385 rfl rfl, sv_tb_t 4 rfl rfl, ⟨by decide, by decide, by decide +kernel⟩, by decide⟩
theorem kL_m_member (X : sv_X D cI cZ cN cQ "SliceVotingLaw" cc nL k p R s m args c) (hk : 2 + 1 ≤ k) (hP : sv_mP D cI cZ n qc ad σ mt qm H) (hJ : sv_inj 17 ad) (hA : ∀ k, k < 17 → A (ad k)) (hS : va_S A H0 H locs) {v w : Int32} (hn : n ≤ 6) (hq24 : qc ≤ 24) (hl : lv_has ls nL lv) (hc : cells ≤ R.cells) (hs : slots ≤ R.slots) (hcat : (rest.map fun v => v.category).sum ≤ 8) (hd : decode cc pc = .ok (.invokevirtual 30, 3)) (kk : ∀ (H1 : Heap) (locs1 : List Loc) (mt' qm' : Nat → Int32), (mt' = mt ∧ qm' = qm) → sv_mP D cI cZ n qc ad (sv_mbS n qc σ v w) mt' qm' H1 → va_S A H0 H1 locs1 → W p l e R s m args below meth c H1 locs1 cells slots Q (F0 m (pc + 3) ls (.int (sv_b (sv_mbC n qc σ v w)) :: rest))) : W p l e R s m args below meth c H locs cells slots Q (F0 m pc ls (.int w :: .int v :: .ref (ad 0) :: rest)) :=
  sv_wVi (S := Sg × (Nat → Int32) × (Nat → Int32)) (G := fun H => sv_mP D cI cZ n qc ad σ mt qm H) (B := fun u H => sv_mP D cI cZ n qc ad u.1 u.2.1 u.2.2 H) X okL_M_member (cM_m_member hJ hA hn hq24) hP (y_rec X.K hP (by decide) sv_me_0 rfl) hS hk rfl hl.1 rfl hcat hc hs hd (fun r u H1 locs1 hp hB hS => by obtain ⟨τ, a, b⟩ := u; obtain ⟨rfl, h1, h2⟩ := hp; dsimp only at h1 h2 hB; subst h1; exact kk H1 locs1 a b h2 hB hS)
end SvModel6
