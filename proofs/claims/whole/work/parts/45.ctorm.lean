section SvCtorM
variable {p : Program} {l : Launch} {e : Env} {R : Room} {s : State} {m : MethodId} {args : Array Value} {below : List Frame} {meth : Method} {c : Code} {H H0 : Heap} {locs : List Loc} {cells slots : Nat} {Q : State → Prop}
variable {cc : ByteArray} {pc nL k : Nat} {ls : Array Slot} {lv : List (Nat × Value)} {rest : List Value} {D : va_G} {cI cZ cN cQ : ClassId} {n qc : Nat} {ad : Nat → Nat} {σ : Sg} {A : Nat → Prop} {mt qm : Nat → Int32}
def sv_sd (v : Nat) : Sg := fun k i => if k = 15 ∧ i < v then -1 else 0
theorem sv_sd_s (v : Nat) : sg (sv_sd v) 15 v (-1) = sv_sd (v + 1) := by
  funext k i
  by_cases h : k = 15 ∧ i = v
  · obtain ⟨rfl, rfl⟩ := h
    rw [sg_at]
    exact (if_pos ⟨rfl, by omega⟩).symm
  · rw [sg_off _ _ (by omega)]
    unfold sv_sd
    by_cases h2 : k = 15 ∧ i < v
    · rw [if_pos h2, if_pos ⟨h2.1, by omega⟩]
    · rw [if_neg h2, if_neg (by omega)]
theorem sv_sd_0 : sv_sd 0 = fun _ _ => 0 := by
  funext k i
  exact if_neg (by omega)
def sv_mi (cI cZ : ClassId) (fs : List Value) (k : Nat) : va_E := if k = 0 then .inr (sv_kM, fs) else .inl (sv_mc cI cZ k, sv_len k, .inl (fun _ => 0))
theorem sv_mi_n {cI cZ : ClassId} {fs fs' : List Value} {j : Nat} {e : va_E} (hj : j ≠ 0) (he : e = .inl (sv_mc cI cZ j, sv_len j, .inl (fun _ => 0))) (h : fs = fs') (k : Nat) : va_up (sv_mi cI cZ fs) j e k = sv_mi cI cZ fs' k := by
  subst h
  by_cases q : k = j
  · subst q
    rw [sv_up_s, he]
    exact (if_neg hj).symm
  · rw [sv_up_o q]
theorem sv_mi_p {cI cZ : ClassId} {fs fs' : List Value} (k : Nat) : va_up (sv_mi cI cZ fs) 0 (.inr (sv_kM, fs')) k = sv_mi cI cZ fs' k := by
  by_cases q : k = 0
  · subst q
    rw [sv_up_s]
    rfl
  · rw [sv_up_o q]
    unfold sv_mi
    rw [if_neg q, if_neg q]
theorem sv_mi_e {cI cZ : ClassId} {n : Nat} {ad : Nat → Nat} (k : Nat) : sv_mi cI cZ (sv_fM n 0 ad (sv_sd 0)) k = sv_me cI cZ n 0 ad (sv_sd 0) (fun _ => 0) (fun _ => 0) k := by
  unfold sv_mi sv_me sv_mf
  rw [sv_sd_0]
  by_cases q : k = 0
  · rw [if_pos q, if_pos q]
  · rw [if_neg q, if_neg q]
    by_cases q6 : k = 6
    · rw [if_pos q6]
    · rw [if_neg q6]
      by_cases q7 : k = 16
      · rw [if_pos q7]
      · rw [if_neg q7]
theorem sv_nn_1 {x : Int32} (h : x < 1) : (1 : Int32) = nI (sv_nn x) := by
  unfold sv_nn
  rw [if_pos h]
  rfl
theorem sv_nn_2 {x : Int32} (h1 : ¬ x < 1) (h : nI 6 < x) : nI 6 = nI (sv_nn x) := by
  unfold sv_nn
  rw [if_neg h1, if_pos h]
theorem sv_nn_3 {x : Int32} (h1 : ¬ x < 1) (h : ¬ nI 6 < x) : x = nI (sv_nn x) := by
  unfold sv_nn
  rw [if_neg h1, if_neg h]
  obtain ⟨j, hj, rfl⟩ := nI_of (x := x) (fun q => h1 (Int32.lt_trans q (by decide)))
  rw [nI_clamp hj]
set_option maxHeartbeats 4000000 in
set_option maxRecDepth 100000 in
theorem wM_init_J {o : Nat} {u : Nat → Nat} (X : sv_X D cI cZ cN cQ "SliceVotingModel" cM_init 3 2 p (sv_rmA 2 16 322) s m args c) (hn : n ≤ 6) (hF0 : ∀ q, H0.size ≤ q → A q) (ret : ∀ (pc : Nat) (ls : Array Slot) (u : Nat → Nat) (H : Heap) (locs : List Loc), decode cM_init pc = .ok (.return_, 1) → va_S A H0 H locs → o = u 0 → (sv_mP D cI cZ n 0 u sv_s0 (fun _ => 0) (fun _ => 0) H ∧ sv_inj 17 u ∧ ∀ k, k < 17 → A (u k)) → W p l e (sv_rmA 2 16 322) s m args below meth c H locs (16) (322) Q (F0 m pc ls [])) (h00 : o = u 0) (hJ : sv_inj 17 u) (hA : ∀ k, k < 17 → A (u k)) : ∀ (kf v : Nat) (H : Heap) (locs : List Loc) (ls : Array Slot), 6 - v < kf → v ≤ 6 → sv_mP D cI cZ n 0 u (sv_sd v) (fun _ => 0) (fun _ => 0) H → va_S A H0 H locs → lv_has ls 3 [(0, .ref (u 0)), (2, .int (nI v))] → W p l e (sv_rmA 2 16 322) s m args below meth c H locs (16) (322) Q (F0 m 159 ls []) := by
  have hx := X.1
  have hb := X.2.1
  intro kf
  induction kf with
  | zero => intro v H locs ls hm; exact absurd hm (Nat.not_lt_zero _)
  | succ kf ih =>
    intro v H locs ls hm hv hP hS hl
    refine lv_iload_n (i := 2) hx hb dM_init_159 rfl (sv_at hl rfl) ?_
    refine lv_bipush (v := nI 6) hx hb dM_init_160 (by decide) ?_
    refine lv_icmp_ge (tgt := 178) hx hb dM_init_162 rfl (fun h162 => ?_) (fun h162 => ?_)
    · skip
      rw [nI_leI (by decide) (by omega)] at h162
      obtain rfl : v = 6 := by omega
      exact ret _ _ u H locs dM_init_178 hS h00 ⟨hP, hJ, hA⟩
    · skip
      rw [nI_leI (by decide) (by omega)] at h162
      refine lv_aload_n (i := 0) hx hb dM_init_165 rfl (sv_at hl rfl) ?_
      refine gM_decisions X hP dM_init_166 ?_
      refine lv_iload_n (i := 2) hx hb dM_init_169 rfl (sv_at hl rfl) ?_
      refine lv_iconst (v := -1) hx hb dM_init_170 (by decide) ?_
      refine pm_decisions X hP hJ hA hS (by omega) dM_init_171 (fun H locs hP hS => ?_)
      rw [sv_sd_s] at hP
      refine x_iinc (i := 2) hx hb dM_init_172 hl rfl (sv_inc v) (by decide) (fun ls hl => ?_)
      refine lv_goto (tgt := 159) hx hb dM_init_175 rfl ?_
      exact ih (v + 1) H locs ls (by omega) (by omega) hP hS (sv_re hl ⟨rfl, rfl, trivial⟩)

set_option maxHeartbeats 4000000 in
set_option maxRecDepth 100000 in
theorem wM_init_L {o : Nat} {u : Nat → Nat} (X : sv_X D cI cZ cN cQ "SliceVotingModel" cM_init 3 2 p (sv_rmA 2 16 322) s m args c) (hin0 : meth.name = "<init>") (hn : n ≤ 6) (hF0 : ∀ q, H0.size ≤ q → A q) (ret : ∀ (pc : Nat) (ls : Array Slot) (u : Nat → Nat) (H : Heap) (locs : List Loc), decode cM_init pc = .ok (.return_, 1) → va_S A H0 H locs → o = u 0 → (sv_mP D cI cZ n 0 u sv_s0 (fun _ => 0) (fun _ => 0) H ∧ sv_inj 17 u ∧ ∀ k, k < 17 → A (u k)) → W p l e (sv_rmA 2 16 322) s m args below meth c H locs (16) (322) Q (F0 m pc ls [])) (h00 : o = u 0) (hP : va_P D vwCl (sv_L 17 u (sv_mi cI cZ [.int 0, .int 0, .int 0, .ref (u 1), .ref (u 2), .ref (u 3), .ref (u 4), .ref (u 5), .ref (u 6), .ref (u 7), .ref (u 8), .ref (u 9), .ref (u 10), .ref (u 11), .ref (u 12), .ref (u 13), .ref (u 14), .ref (u 15), .ref (u 16)])) H) (hJ : sv_inj 17 u) (hA : ∀ k, k < 17 → A (u k)) (hS : va_S A H0 H locs) (hl : lv_has ls 3 [(0, .ref (u 0))]) : W p l e (sv_rmA 2 16 322) s m args below meth c H locs (16) (322) Q (F0 m 154 ls [.int (nI n), .ref (u 0)]) := by
  have hx := X.1
  have hb := X.2.1
  refine y_putF (T := T_M) (M := 19) (f := 0) X hin0 in_M t_M t_M_ok nm_M hP (sv_D hJ hA) hS (k0 := 0) (by decide) (fs := [.int 0, .int 0, .int 0, .ref (u 1), .ref (u 2), .ref (u 3), .ref (u 4), .ref (u 5), .ref (u 6), .ref (u 7), .ref (u 8), .ref (u 9), .ref (u 10), .ref (u 11), .ref (u 12), .ref (u 13), .ref (u 14), .ref (u 15), .ref (u 16)]) rfl rfl (by decide) (sv_tb_t 312 rfl rfl) rfl rfl (ty := .int) (by decide +kernel) rfl rfl (by show 0 < 19; decide) dM_init_154 (fun H locs hP hS => ?_)
  have hP := sv_P_congr (en' := sv_mi cI cZ (sv_fM n 0 u (sv_sd 0))) (fun k _ => sv_mi_p k) hP
  have hP := sv_P_congr (fun k _ => sv_mi_e k) hP
  refine lv_iconst (v := 0) hx hb dM_init_157 (by decide) ?_
  refine lv_istore_n (i := 2) hx hb dM_init_158 rfl hl (by decide) rfl (fun ls hl => ?_)
  exact wM_init_J X hn hF0 ret h00 hJ hA _ 0 H locs ls (Nat.lt_succ_self _) (by decide) hP hS (sv_re hl ⟨rfl, rfl, trivial⟩)

set_option maxHeartbeats 4000000 in
set_option maxRecDepth 100000 in
theorem wM_init_K {o : Nat} {u : Nat → Nat} {x : Int32} (X : sv_X D cI cZ cN cQ "SliceVotingModel" cM_init 3 2 p (sv_rmA 2 16 322) s m args c) (hin0 : meth.name = "<init>") (hn : n ≤ 6) (hnn : n = sv_nn x) (hF0 : ∀ q, H0.size ≤ q → A q) (ret : ∀ (pc : Nat) (ls : Array Slot) (u : Nat → Nat) (H : Heap) (locs : List Loc), decode cM_init pc = .ok (.return_, 1) → va_S A H0 H locs → o = u 0 → (sv_mP D cI cZ n 0 u sv_s0 (fun _ => 0) (fun _ => 0) H ∧ sv_inj 17 u ∧ ∀ k, k < 17 → A (u k)) → W p l e (sv_rmA 2 16 322) s m args below meth c H locs (16) (322) Q (F0 m pc ls [])) (h00 : o = u 0) (hP : va_P D vwCl (sv_L 17 u (sv_mi cI cZ [.int 0, .int 0, .int 0, .ref (u 1), .ref (u 2), .ref (u 3), .ref (u 4), .ref (u 5), .ref (u 6), .ref (u 7), .ref (u 8), .ref (u 9), .ref (u 10), .ref (u 11), .ref (u 12), .ref (u 13), .ref (u 14), .ref (u 15), .ref (u 16)])) H) (hJ : sv_inj 17 u) (hA : ∀ k, k < 17 → A (u k)) (hS : va_S A H0 H locs) (hl : lv_has ls 3 [(0, .ref (u 0)), (1, .int x)]) : W p l e (sv_rmA 2 16 322) s m args below meth c H locs (16) (322) Q (F0 m 132 ls []) := by
  have hx := X.1
  have hb := X.2.1
  refine lv_aload_n (i := 0) hx hb dM_init_132 rfl (sv_at hl rfl) ?_
  refine lv_iload_n (i := 1) hx hb dM_init_133 rfl (sv_at hl rfl) ?_
  refine lv_iconst (v := 1) hx hb dM_init_134 (by decide) ?_
  refine lv_icmp_ge (tgt := 142) hx hb dM_init_135 rfl (fun h1 => ?_) (fun h1 => ?_)
  · refine lv_iload_n (i := 1) hx hb dM_init_142 rfl (sv_at hl rfl) ?_
    refine lv_bipush (v := nI 6) hx hb dM_init_143 (by decide) ?_
    refine x_tv (y := nI 6) rfl ?_
    refine lv_icmp_le (tgt := 153) hx hb dM_init_145 rfl (fun h2 => ?_) (fun h2 => ?_)
    · refine lv_iload_n (i := 1) hx hb dM_init_153 rfl (sv_at hl rfl) ?_
      refine x_tv (y := nI n) (by rw [hnn]; exact sv_nn_3 (fun q => by rw [Int32.lt_iff_toInt_lt] at q; rw [Int32.le_iff_toInt_le] at h1; omega) (fun q => by rw [Int32.lt_iff_toInt_lt] at q; rw [Int32.le_iff_toInt_le] at h2; omega)) ?_
      exact wM_init_L X hin0 hn hF0 ret h00 hP hJ hA hS (sv_re hl ⟨rfl, trivial⟩)
    · refine lv_bipush (v := nI 6) hx hb dM_init_148 (by decide) ?_
      refine lv_goto (tgt := 154) hx hb dM_init_150 rfl ?_
      refine x_tv (y := nI n) (by rw [hnn]; exact sv_nn_2 (fun q => by rw [Int32.lt_iff_toInt_lt] at q; rw [Int32.le_iff_toInt_le] at h1; omega) (Int32.not_le.mp h2)) ?_
      exact wM_init_L X hin0 hn hF0 ret h00 hP hJ hA hS (sv_re hl ⟨rfl, trivial⟩)
  · refine lv_iconst (v := 1) hx hb dM_init_138 (by decide) ?_
    refine lv_goto (tgt := 154) hx hb dM_init_139 rfl ?_
    refine x_tv (y := nI n) (by rw [hnn]; exact sv_nn_1 (Int32.not_le.mp h1)) ?_
    exact wM_init_L X hin0 hn hF0 ret h00 hP hJ hA hS (sv_re hl ⟨rfl, trivial⟩)
set_option maxHeartbeats 4000000 in
set_option maxRecDepth 100000 in
theorem cM_m_init {sz : Nat} {x : Int32} (hnn : n = sv_nn x) (hA : A (ad 0)) (hF : ∀ q, sz ≤ q → A q) : Met l yM_init (sv_ws yM_init cM_init 3 none) (sv_rmA 2 16 322) (sv_Pc D cI cZ cN cQ [.ref (ad 0), .int x] (fun H => va_P D vwCl (sv_L 1 ad (sv_mi cI cZ [.int 0, .int 0, .int 0, .null, .null, .null, .null, .null, .null, .null, .null, .null, .null, .null, .null, .null, .null, .null, .null])) H ∧ H.size = sz)) (va_Qv (fun u : Nat → Nat => ad 0 = u 0) (fun (u : Nat → Nat) (t : State) => sv_mP D cI cZ n 0 u sv_s0 (fun _ => 0) (fun _ => 0) t.heap ∧ sv_inj 17 u ∧ ∀ k, k < 17 → A (u k)) A) 16 322 A :=
  sv_mkAV (S := Nat → Nat) (B := (fun (u : Nat → Nat) H => sv_mP D cI cZ n 0 u sv_s0 (fun _ => 0) (fun _ => 0) H ∧ sv_inj 17 u ∧ ∀ k, k < 17 → A (u k))) (by decide) (by show 2 ≤ 3; decide) (fun p e s m below meth c ls Q X hin0 hG hl ret => by
    have hx := X.1
    have hb := X.2.1
    obtain ⟨hP, hz⟩ := hG
    have hl : lv_has ls 3 [(0, .ref (ad 0)), (1, .int x)] := hl
    have hS : va_S A s.heap s.heap [] := va_S.rf
    have hF0 : ∀ q, s.heap.size ≤ q → A q := fun q h => hF q (by omega)
    have hn : n ≤ 6 := by rw [hnn]; exact (sv_nn_le x).2
    have hJ : sv_inj 1 ad := fun i j hi hj _ => by omega
    have hA : ∀ k, k < 1 → A (ad k) := fun k hk => by rw [show k = 0 by omega]; exact hA
    refine lv_aload_n (i := 0) hx hb dM_init_0 rfl (sv_at hl rfl) ?_
    refine W.objInit hx hb X.own (X.hts (.methodLink "SliceVotingModel" 1 objectInit) (sv_tb_t 311 rfl rfl)) (X.hts (.instanceMethod objectInit) (sv_tb_t 13 rfl rfl)) (X.hts (.code objectInit ⟨#[0xb1]⟩ 1 none) (sv_tb_t 14 rfl rfl)) rfl (by rw [X.2.2.1]; exact hl.1) rfl dM_init_1 (Nat.le_trans (by decide) X.2.2.2.2.2.2.1) (Nat.le_trans (Nat.le_of_ble_eq_true rfl) X.2.2.2.2.2.2.2) ?_
    refine W.eq (g2 := F0 m 4 ls []) rfl ?_
    have h00 : ad 0 = ad 0 := rfl
    refine lv_aload_n (i := 0) hx hb dM_init_4 rfl (sv_at hl rfl) ?_
    refine lv_bipush (v := nI 24) hx hb dM_init_5 (by decide) ?_
    refine x_tv (y := nI 24) rfl ?_
    refine y_newI X hP (sv_D hJ hA) hS hF0 (sv_tb_t 65 rfl rfl) (N := 24) (by decide) (Nat.le_of_ble_eq_true rfl) (Nat.le_of_ble_eq_true rfl) dM_init_7 (fun q1 H hP hD hS => ?_)
    obtain ⟨ad1, hq1, ho1, hP, hJ, hA⟩ := sv_grow hP hD
    have hP := sv_P_congr (en' := sv_mi cI cZ [.int 0, .int 0, .int 0, .null, .null, .null, .null, .null, .null, .null, .null, .null, .null, .null, .null, .null, .null, .null, .null]) (fun k _ => sv_mi_n (by decide) rfl (rfl) k) hP
    refine x_st (st2 := [.ref (ad1 1), .ref (ad1 0)]) (by rw [hq1, ho1 0 (by decide)]) ?_
    rw [ho1 0 (by decide)] at hl
    have h00 := h00.trans (ho1 0 (by decide))
    refine y_putF (T := T_M) (M := 19) (f := 3) X hin0 in_M t_M t_M_ok nm_M hP (sv_D hJ hA) hS (k0 := 0) (by decide) (fs := [.int 0, .int 0, .int 0, .null, .null, .null, .null, .null, .null, .null, .null, .null, .null, .null, .null, .null, .null, .null, .null]) rfl rfl (by decide) (sv_tb_t 315 rfl rfl) rfl rfl (ty := .array .int) (by decide +kernel) rfl rfl (by show 3 < 19; decide) dM_init_9 (fun H locs hP hS => ?_)
    have hP := sv_P_congr (en' := sv_mi cI cZ [.int 0, .int 0, .int 0, .ref (ad1 1), .null, .null, .null, .null, .null, .null, .null, .null, .null, .null, .null, .null, .null, .null, .null]) (fun k _ => sv_mi_p k) hP
    refine lv_aload_n (i := 0) hx hb dM_init_12 rfl (sv_at hl rfl) ?_
    refine lv_bipush (v := nI 24) hx hb dM_init_13 (by decide) ?_
    refine x_tv (y := nI 24) rfl ?_
    refine y_newI X hP (sv_D hJ hA) hS hF0 (sv_tb_t 65 rfl rfl) (N := 24) (by decide) (Nat.le_of_ble_eq_true rfl) (Nat.le_of_ble_eq_true rfl) dM_init_15 (fun q2 H hP hD hS => ?_)
    obtain ⟨ad2, hq2, ho2, hP, hJ, hA⟩ := sv_grow hP hD
    have hP := sv_P_congr (en' := sv_mi cI cZ [.int 0, .int 0, .int 0, .ref (ad2 1), .null, .null, .null, .null, .null, .null, .null, .null, .null, .null, .null, .null, .null, .null, .null]) (fun k _ => sv_mi_n (by decide) rfl (by rw [ho2 1 (by decide)]) k) hP
    refine x_st (st2 := [.ref (ad2 2), .ref (ad2 0)]) (by rw [hq2, ho2 0 (by decide)]) ?_
    rw [ho2 0 (by decide)] at hl
    have h00 := h00.trans (ho2 0 (by decide))
    refine y_putF (T := T_M) (M := 19) (f := 4) X hin0 in_M t_M t_M_ok nm_M hP (sv_D hJ hA) hS (k0 := 0) (by decide) (fs := [.int 0, .int 0, .int 0, .ref (ad2 1), .null, .null, .null, .null, .null, .null, .null, .null, .null, .null, .null, .null, .null, .null, .null]) rfl rfl (by decide) (sv_tb_t 316 rfl rfl) rfl rfl (ty := .array .int) (by decide +kernel) rfl rfl (by show 4 < 19; decide) dM_init_17 (fun H locs hP hS => ?_)
    have hP := sv_P_congr (en' := sv_mi cI cZ [.int 0, .int 0, .int 0, .ref (ad2 1), .ref (ad2 2), .null, .null, .null, .null, .null, .null, .null, .null, .null, .null, .null, .null, .null, .null]) (fun k _ => sv_mi_p k) hP
    refine lv_aload_n (i := 0) hx hb dM_init_20 rfl (sv_at hl rfl) ?_
    refine lv_bipush (v := nI 24) hx hb dM_init_21 (by decide) ?_
    refine x_tv (y := nI 24) rfl ?_
    refine y_newI X hP (sv_D hJ hA) hS hF0 (sv_tb_t 65 rfl rfl) (N := 24) (by decide) (Nat.le_of_ble_eq_true rfl) (Nat.le_of_ble_eq_true rfl) dM_init_23 (fun q3 H hP hD hS => ?_)
    obtain ⟨ad3, hq3, ho3, hP, hJ, hA⟩ := sv_grow hP hD
    have hP := sv_P_congr (en' := sv_mi cI cZ [.int 0, .int 0, .int 0, .ref (ad3 1), .ref (ad3 2), .null, .null, .null, .null, .null, .null, .null, .null, .null, .null, .null, .null, .null, .null]) (fun k _ => sv_mi_n (by decide) rfl (by rw [ho3 1 (by decide), ho3 2 (by decide)]) k) hP
    refine x_st (st2 := [.ref (ad3 3), .ref (ad3 0)]) (by rw [hq3, ho3 0 (by decide)]) ?_
    rw [ho3 0 (by decide)] at hl
    have h00 := h00.trans (ho3 0 (by decide))
    refine y_putF (T := T_M) (M := 19) (f := 5) X hin0 in_M t_M t_M_ok nm_M hP (sv_D hJ hA) hS (k0 := 0) (by decide) (fs := [.int 0, .int 0, .int 0, .ref (ad3 1), .ref (ad3 2), .null, .null, .null, .null, .null, .null, .null, .null, .null, .null, .null, .null, .null, .null]) rfl rfl (by decide) (sv_tb_t 317 rfl rfl) rfl rfl (ty := .array .int) (by decide +kernel) rfl rfl (by show 5 < 19; decide) dM_init_25 (fun H locs hP hS => ?_)
    have hP := sv_P_congr (en' := sv_mi cI cZ [.int 0, .int 0, .int 0, .ref (ad3 1), .ref (ad3 2), .ref (ad3 3), .null, .null, .null, .null, .null, .null, .null, .null, .null, .null, .null, .null, .null]) (fun k _ => sv_mi_p k) hP
    refine lv_aload_n (i := 0) hx hb dM_init_28 rfl (sv_at hl rfl) ?_
    refine lv_bipush (v := nI 24) hx hb dM_init_29 (by decide) ?_
    refine x_tv (y := nI 24) rfl ?_
    refine y_newI X hP (sv_D hJ hA) hS hF0 (sv_tb_t 65 rfl rfl) (N := 24) (by decide) (Nat.le_of_ble_eq_true rfl) (Nat.le_of_ble_eq_true rfl) dM_init_31 (fun q4 H hP hD hS => ?_)
    obtain ⟨ad4, hq4, ho4, hP, hJ, hA⟩ := sv_grow hP hD
    have hP := sv_P_congr (en' := sv_mi cI cZ [.int 0, .int 0, .int 0, .ref (ad4 1), .ref (ad4 2), .ref (ad4 3), .null, .null, .null, .null, .null, .null, .null, .null, .null, .null, .null, .null, .null]) (fun k _ => sv_mi_n (by decide) rfl (by rw [ho4 1 (by decide), ho4 2 (by decide), ho4 3 (by decide)]) k) hP
    refine x_st (st2 := [.ref (ad4 4), .ref (ad4 0)]) (by rw [hq4, ho4 0 (by decide)]) ?_
    rw [ho4 0 (by decide)] at hl
    have h00 := h00.trans (ho4 0 (by decide))
    refine y_putF (T := T_M) (M := 19) (f := 6) X hin0 in_M t_M t_M_ok nm_M hP (sv_D hJ hA) hS (k0 := 0) (by decide) (fs := [.int 0, .int 0, .int 0, .ref (ad4 1), .ref (ad4 2), .ref (ad4 3), .null, .null, .null, .null, .null, .null, .null, .null, .null, .null, .null, .null, .null]) rfl rfl (by decide) (sv_tb_t 318 rfl rfl) rfl rfl (ty := .array .int) (by decide +kernel) rfl rfl (by show 6 < 19; decide) dM_init_33 (fun H locs hP hS => ?_)
    have hP := sv_P_congr (en' := sv_mi cI cZ [.int 0, .int 0, .int 0, .ref (ad4 1), .ref (ad4 2), .ref (ad4 3), .ref (ad4 4), .null, .null, .null, .null, .null, .null, .null, .null, .null, .null, .null, .null]) (fun k _ => sv_mi_p k) hP
    refine lv_aload_n (i := 0) hx hb dM_init_36 rfl (sv_at hl rfl) ?_
    refine lv_bipush (v := nI 24) hx hb dM_init_37 (by decide) ?_
    refine x_tv (y := nI 24) rfl ?_
    refine y_newI X hP (sv_D hJ hA) hS hF0 (sv_tb_t 65 rfl rfl) (N := 24) (by decide) (Nat.le_of_ble_eq_true rfl) (Nat.le_of_ble_eq_true rfl) dM_init_39 (fun q5 H hP hD hS => ?_)
    obtain ⟨ad5, hq5, ho5, hP, hJ, hA⟩ := sv_grow hP hD
    have hP := sv_P_congr (en' := sv_mi cI cZ [.int 0, .int 0, .int 0, .ref (ad5 1), .ref (ad5 2), .ref (ad5 3), .ref (ad5 4), .null, .null, .null, .null, .null, .null, .null, .null, .null, .null, .null, .null]) (fun k _ => sv_mi_n (by decide) rfl (by rw [ho5 1 (by decide), ho5 2 (by decide), ho5 3 (by decide), ho5 4 (by decide)]) k) hP
    refine x_st (st2 := [.ref (ad5 5), .ref (ad5 0)]) (by rw [hq5, ho5 0 (by decide)]) ?_
    rw [ho5 0 (by decide)] at hl
    have h00 := h00.trans (ho5 0 (by decide))
    refine y_putF (T := T_M) (M := 19) (f := 7) X hin0 in_M t_M t_M_ok nm_M hP (sv_D hJ hA) hS (k0 := 0) (by decide) (fs := [.int 0, .int 0, .int 0, .ref (ad5 1), .ref (ad5 2), .ref (ad5 3), .ref (ad5 4), .null, .null, .null, .null, .null, .null, .null, .null, .null, .null, .null, .null]) rfl rfl (by decide) (sv_tb_t 319 rfl rfl) rfl rfl (ty := .array .int) (by decide +kernel) rfl rfl (by show 7 < 19; decide) dM_init_41 (fun H locs hP hS => ?_)
    have hP := sv_P_congr (en' := sv_mi cI cZ [.int 0, .int 0, .int 0, .ref (ad5 1), .ref (ad5 2), .ref (ad5 3), .ref (ad5 4), .ref (ad5 5), .null, .null, .null, .null, .null, .null, .null, .null, .null, .null, .null]) (fun k _ => sv_mi_p k) hP
    refine lv_aload_n (i := 0) hx hb dM_init_44 rfl (sv_at hl rfl) ?_
    refine lv_bipush (v := nI 24) hx hb dM_init_45 (by decide) ?_
    refine x_tv (y := nI 24) rfl ?_
    refine y_newZ X hP (sv_D hJ hA) hS hF0 (sv_tb_t 370 rfl rfl) (N := 24) (by decide) (Nat.le_of_ble_eq_true rfl) (Nat.le_of_ble_eq_true rfl) dM_init_47 (fun q6 H hP hD hS => ?_)
    obtain ⟨ad6, hq6, ho6, hP, hJ, hA⟩ := sv_grow hP hD
    have hP := sv_P_congr (en' := sv_mi cI cZ [.int 0, .int 0, .int 0, .ref (ad6 1), .ref (ad6 2), .ref (ad6 3), .ref (ad6 4), .ref (ad6 5), .null, .null, .null, .null, .null, .null, .null, .null, .null, .null, .null]) (fun k _ => sv_mi_n (by decide) rfl (by rw [ho6 1 (by decide), ho6 2 (by decide), ho6 3 (by decide), ho6 4 (by decide), ho6 5 (by decide)]) k) hP
    refine x_st (st2 := [.ref (ad6 6), .ref (ad6 0)]) (by rw [hq6, ho6 0 (by decide)]) ?_
    rw [ho6 0 (by decide)] at hl
    have h00 := h00.trans (ho6 0 (by decide))
    refine y_putF (T := T_M) (M := 19) (f := 8) X hin0 in_M t_M t_M_ok nm_M hP (sv_D hJ hA) hS (k0 := 0) (by decide) (fs := [.int 0, .int 0, .int 0, .ref (ad6 1), .ref (ad6 2), .ref (ad6 3), .ref (ad6 4), .ref (ad6 5), .null, .null, .null, .null, .null, .null, .null, .null, .null, .null, .null]) rfl rfl (by decide) (sv_tb_t 320 rfl rfl) rfl rfl (ty := .array .boolean) (by decide +kernel) rfl rfl (by show 8 < 19; decide) dM_init_49 (fun H locs hP hS => ?_)
    have hP := sv_P_congr (en' := sv_mi cI cZ [.int 0, .int 0, .int 0, .ref (ad6 1), .ref (ad6 2), .ref (ad6 3), .ref (ad6 4), .ref (ad6 5), .ref (ad6 6), .null, .null, .null, .null, .null, .null, .null, .null, .null, .null]) (fun k _ => sv_mi_p k) hP
    refine lv_aload_n (i := 0) hx hb dM_init_52 rfl (sv_at hl rfl) ?_
    refine lv_bipush (v := nI 6) hx hb dM_init_53 (by decide) ?_
    refine x_tv (y := nI 6) rfl ?_
    refine y_newZ X hP (sv_D hJ hA) hS hF0 (sv_tb_t 370 rfl rfl) (N := 6) (by decide) (Nat.le_of_ble_eq_true rfl) (Nat.le_of_ble_eq_true rfl) dM_init_55 (fun q7 H hP hD hS => ?_)
    obtain ⟨ad7, hq7, ho7, hP, hJ, hA⟩ := sv_grow hP hD
    have hP := sv_P_congr (en' := sv_mi cI cZ [.int 0, .int 0, .int 0, .ref (ad7 1), .ref (ad7 2), .ref (ad7 3), .ref (ad7 4), .ref (ad7 5), .ref (ad7 6), .null, .null, .null, .null, .null, .null, .null, .null, .null, .null]) (fun k _ => sv_mi_n (by decide) rfl (by rw [ho7 1 (by decide), ho7 2 (by decide), ho7 3 (by decide), ho7 4 (by decide), ho7 5 (by decide), ho7 6 (by decide)]) k) hP
    refine x_st (st2 := [.ref (ad7 7), .ref (ad7 0)]) (by rw [hq7, ho7 0 (by decide)]) ?_
    rw [ho7 0 (by decide)] at hl
    have h00 := h00.trans (ho7 0 (by decide))
    refine y_putF (T := T_M) (M := 19) (f := 9) X hin0 in_M t_M t_M_ok nm_M hP (sv_D hJ hA) hS (k0 := 0) (by decide) (fs := [.int 0, .int 0, .int 0, .ref (ad7 1), .ref (ad7 2), .ref (ad7 3), .ref (ad7 4), .ref (ad7 5), .ref (ad7 6), .null, .null, .null, .null, .null, .null, .null, .null, .null, .null]) rfl rfl (by decide) (sv_tb_t 321 rfl rfl) rfl rfl (ty := .array .boolean) (by decide +kernel) rfl rfl (by show 9 < 19; decide) dM_init_57 (fun H locs hP hS => ?_)
    have hP := sv_P_congr (en' := sv_mi cI cZ [.int 0, .int 0, .int 0, .ref (ad7 1), .ref (ad7 2), .ref (ad7 3), .ref (ad7 4), .ref (ad7 5), .ref (ad7 6), .ref (ad7 7), .null, .null, .null, .null, .null, .null, .null, .null, .null]) (fun k _ => sv_mi_p k) hP
    refine lv_aload_n (i := 0) hx hb dM_init_60 rfl (sv_at hl rfl) ?_
    refine lv_bipush (v := nI 6) hx hb dM_init_61 (by decide) ?_
    refine x_tv (y := nI 6) rfl ?_
    refine y_newI X hP (sv_D hJ hA) hS hF0 (sv_tb_t 65 rfl rfl) (N := 6) (by decide) (Nat.le_of_ble_eq_true rfl) (Nat.le_of_ble_eq_true rfl) dM_init_63 (fun q8 H hP hD hS => ?_)
    obtain ⟨ad8, hq8, ho8, hP, hJ, hA⟩ := sv_grow hP hD
    have hP := sv_P_congr (en' := sv_mi cI cZ [.int 0, .int 0, .int 0, .ref (ad8 1), .ref (ad8 2), .ref (ad8 3), .ref (ad8 4), .ref (ad8 5), .ref (ad8 6), .ref (ad8 7), .null, .null, .null, .null, .null, .null, .null, .null, .null]) (fun k _ => sv_mi_n (by decide) rfl (by rw [ho8 1 (by decide), ho8 2 (by decide), ho8 3 (by decide), ho8 4 (by decide), ho8 5 (by decide), ho8 6 (by decide), ho8 7 (by decide)]) k) hP
    refine x_st (st2 := [.ref (ad8 8), .ref (ad8 0)]) (by rw [hq8, ho8 0 (by decide)]) ?_
    rw [ho8 0 (by decide)] at hl
    have h00 := h00.trans (ho8 0 (by decide))
    refine y_putF (T := T_M) (M := 19) (f := 10) X hin0 in_M t_M t_M_ok nm_M hP (sv_D hJ hA) hS (k0 := 0) (by decide) (fs := [.int 0, .int 0, .int 0, .ref (ad8 1), .ref (ad8 2), .ref (ad8 3), .ref (ad8 4), .ref (ad8 5), .ref (ad8 6), .ref (ad8 7), .null, .null, .null, .null, .null, .null, .null, .null, .null]) rfl rfl (by decide) (sv_tb_t 322 rfl rfl) rfl rfl (ty := .array .int) (by decide +kernel) rfl rfl (by show 10 < 19; decide) dM_init_65 (fun H locs hP hS => ?_)
    have hP := sv_P_congr (en' := sv_mi cI cZ [.int 0, .int 0, .int 0, .ref (ad8 1), .ref (ad8 2), .ref (ad8 3), .ref (ad8 4), .ref (ad8 5), .ref (ad8 6), .ref (ad8 7), .ref (ad8 8), .null, .null, .null, .null, .null, .null, .null, .null]) (fun k _ => sv_mi_p k) hP
    refine lv_aload_n (i := 0) hx hb dM_init_68 rfl (sv_at hl rfl) ?_
    refine lv_bipush (v := nI 6) hx hb dM_init_69 (by decide) ?_
    refine x_tv (y := nI 6) rfl ?_
    refine y_newI X hP (sv_D hJ hA) hS hF0 (sv_tb_t 65 rfl rfl) (N := 6) (by decide) (Nat.le_of_ble_eq_true rfl) (Nat.le_of_ble_eq_true rfl) dM_init_71 (fun q9 H hP hD hS => ?_)
    obtain ⟨ad9, hq9, ho9, hP, hJ, hA⟩ := sv_grow hP hD
    have hP := sv_P_congr (en' := sv_mi cI cZ [.int 0, .int 0, .int 0, .ref (ad9 1), .ref (ad9 2), .ref (ad9 3), .ref (ad9 4), .ref (ad9 5), .ref (ad9 6), .ref (ad9 7), .ref (ad9 8), .null, .null, .null, .null, .null, .null, .null, .null]) (fun k _ => sv_mi_n (by decide) rfl (by rw [ho9 1 (by decide), ho9 2 (by decide), ho9 3 (by decide), ho9 4 (by decide), ho9 5 (by decide), ho9 6 (by decide), ho9 7 (by decide), ho9 8 (by decide)]) k) hP
    refine x_st (st2 := [.ref (ad9 9), .ref (ad9 0)]) (by rw [hq9, ho9 0 (by decide)]) ?_
    rw [ho9 0 (by decide)] at hl
    have h00 := h00.trans (ho9 0 (by decide))
    refine y_putF (T := T_M) (M := 19) (f := 11) X hin0 in_M t_M t_M_ok nm_M hP (sv_D hJ hA) hS (k0 := 0) (by decide) (fs := [.int 0, .int 0, .int 0, .ref (ad9 1), .ref (ad9 2), .ref (ad9 3), .ref (ad9 4), .ref (ad9 5), .ref (ad9 6), .ref (ad9 7), .ref (ad9 8), .null, .null, .null, .null, .null, .null, .null, .null]) rfl rfl (by decide) (sv_tb_t 323 rfl rfl) rfl rfl (ty := .array .int) (by decide +kernel) rfl rfl (by show 11 < 19; decide) dM_init_73 (fun H locs hP hS => ?_)
    have hP := sv_P_congr (en' := sv_mi cI cZ [.int 0, .int 0, .int 0, .ref (ad9 1), .ref (ad9 2), .ref (ad9 3), .ref (ad9 4), .ref (ad9 5), .ref (ad9 6), .ref (ad9 7), .ref (ad9 8), .ref (ad9 9), .null, .null, .null, .null, .null, .null, .null]) (fun k _ => sv_mi_p k) hP
    refine lv_aload_n (i := 0) hx hb dM_init_76 rfl (sv_at hl rfl) ?_
    refine lv_bipush (v := nI 6) hx hb dM_init_77 (by decide) ?_
    refine x_tv (y := nI 6) rfl ?_
    refine y_newI X hP (sv_D hJ hA) hS hF0 (sv_tb_t 65 rfl rfl) (N := 6) (by decide) (Nat.le_of_ble_eq_true rfl) (Nat.le_of_ble_eq_true rfl) dM_init_79 (fun q10 H hP hD hS => ?_)
    obtain ⟨ad10, hq10, ho10, hP, hJ, hA⟩ := sv_grow hP hD
    have hP := sv_P_congr (en' := sv_mi cI cZ [.int 0, .int 0, .int 0, .ref (ad10 1), .ref (ad10 2), .ref (ad10 3), .ref (ad10 4), .ref (ad10 5), .ref (ad10 6), .ref (ad10 7), .ref (ad10 8), .ref (ad10 9), .null, .null, .null, .null, .null, .null, .null]) (fun k _ => sv_mi_n (by decide) rfl (by rw [ho10 1 (by decide), ho10 2 (by decide), ho10 3 (by decide), ho10 4 (by decide), ho10 5 (by decide), ho10 6 (by decide), ho10 7 (by decide), ho10 8 (by decide), ho10 9 (by decide)]) k) hP
    refine x_st (st2 := [.ref (ad10 10), .ref (ad10 0)]) (by rw [hq10, ho10 0 (by decide)]) ?_
    rw [ho10 0 (by decide)] at hl
    have h00 := h00.trans (ho10 0 (by decide))
    refine y_putF (T := T_M) (M := 19) (f := 12) X hin0 in_M t_M t_M_ok nm_M hP (sv_D hJ hA) hS (k0 := 0) (by decide) (fs := [.int 0, .int 0, .int 0, .ref (ad10 1), .ref (ad10 2), .ref (ad10 3), .ref (ad10 4), .ref (ad10 5), .ref (ad10 6), .ref (ad10 7), .ref (ad10 8), .ref (ad10 9), .null, .null, .null, .null, .null, .null, .null]) rfl rfl (by decide) (sv_tb_t 324 rfl rfl) rfl rfl (ty := .array .int) (by decide +kernel) rfl rfl (by show 12 < 19; decide) dM_init_81 (fun H locs hP hS => ?_)
    have hP := sv_P_congr (en' := sv_mi cI cZ [.int 0, .int 0, .int 0, .ref (ad10 1), .ref (ad10 2), .ref (ad10 3), .ref (ad10 4), .ref (ad10 5), .ref (ad10 6), .ref (ad10 7), .ref (ad10 8), .ref (ad10 9), .ref (ad10 10), .null, .null, .null, .null, .null, .null]) (fun k _ => sv_mi_p k) hP
    refine lv_aload_n (i := 0) hx hb dM_init_84 rfl (sv_at hl rfl) ?_
    refine lv_bipush (v := nI 6) hx hb dM_init_85 (by decide) ?_
    refine x_tv (y := nI 6) rfl ?_
    refine y_newI X hP (sv_D hJ hA) hS hF0 (sv_tb_t 65 rfl rfl) (N := 6) (by decide) (Nat.le_of_ble_eq_true rfl) (Nat.le_of_ble_eq_true rfl) dM_init_87 (fun q11 H hP hD hS => ?_)
    obtain ⟨ad11, hq11, ho11, hP, hJ, hA⟩ := sv_grow hP hD
    have hP := sv_P_congr (en' := sv_mi cI cZ [.int 0, .int 0, .int 0, .ref (ad11 1), .ref (ad11 2), .ref (ad11 3), .ref (ad11 4), .ref (ad11 5), .ref (ad11 6), .ref (ad11 7), .ref (ad11 8), .ref (ad11 9), .ref (ad11 10), .null, .null, .null, .null, .null, .null]) (fun k _ => sv_mi_n (by decide) rfl (by rw [ho11 1 (by decide), ho11 2 (by decide), ho11 3 (by decide), ho11 4 (by decide), ho11 5 (by decide), ho11 6 (by decide), ho11 7 (by decide), ho11 8 (by decide), ho11 9 (by decide), ho11 10 (by decide)]) k) hP
    refine x_st (st2 := [.ref (ad11 11), .ref (ad11 0)]) (by rw [hq11, ho11 0 (by decide)]) ?_
    rw [ho11 0 (by decide)] at hl
    have h00 := h00.trans (ho11 0 (by decide))
    refine y_putF (T := T_M) (M := 19) (f := 13) X hin0 in_M t_M t_M_ok nm_M hP (sv_D hJ hA) hS (k0 := 0) (by decide) (fs := [.int 0, .int 0, .int 0, .ref (ad11 1), .ref (ad11 2), .ref (ad11 3), .ref (ad11 4), .ref (ad11 5), .ref (ad11 6), .ref (ad11 7), .ref (ad11 8), .ref (ad11 9), .ref (ad11 10), .null, .null, .null, .null, .null, .null]) rfl rfl (by decide) (sv_tb_t 325 rfl rfl) rfl rfl (ty := .array .int) (by decide +kernel) rfl rfl (by show 13 < 19; decide) dM_init_89 (fun H locs hP hS => ?_)
    have hP := sv_P_congr (en' := sv_mi cI cZ [.int 0, .int 0, .int 0, .ref (ad11 1), .ref (ad11 2), .ref (ad11 3), .ref (ad11 4), .ref (ad11 5), .ref (ad11 6), .ref (ad11 7), .ref (ad11 8), .ref (ad11 9), .ref (ad11 10), .ref (ad11 11), .null, .null, .null, .null, .null]) (fun k _ => sv_mi_p k) hP
    refine lv_aload_n (i := 0) hx hb dM_init_92 rfl (sv_at hl rfl) ?_
    refine lv_bipush (v := nI 6) hx hb dM_init_93 (by decide) ?_
    refine x_tv (y := nI 6) rfl ?_
    refine y_newI X hP (sv_D hJ hA) hS hF0 (sv_tb_t 65 rfl rfl) (N := 6) (by decide) (Nat.le_of_ble_eq_true rfl) (Nat.le_of_ble_eq_true rfl) dM_init_95 (fun q12 H hP hD hS => ?_)
    obtain ⟨ad12, hq12, ho12, hP, hJ, hA⟩ := sv_grow hP hD
    have hP := sv_P_congr (en' := sv_mi cI cZ [.int 0, .int 0, .int 0, .ref (ad12 1), .ref (ad12 2), .ref (ad12 3), .ref (ad12 4), .ref (ad12 5), .ref (ad12 6), .ref (ad12 7), .ref (ad12 8), .ref (ad12 9), .ref (ad12 10), .ref (ad12 11), .null, .null, .null, .null, .null]) (fun k _ => sv_mi_n (by decide) rfl (by rw [ho12 1 (by decide), ho12 2 (by decide), ho12 3 (by decide), ho12 4 (by decide), ho12 5 (by decide), ho12 6 (by decide), ho12 7 (by decide), ho12 8 (by decide), ho12 9 (by decide), ho12 10 (by decide), ho12 11 (by decide)]) k) hP
    refine x_st (st2 := [.ref (ad12 12), .ref (ad12 0)]) (by rw [hq12, ho12 0 (by decide)]) ?_
    rw [ho12 0 (by decide)] at hl
    have h00 := h00.trans (ho12 0 (by decide))
    refine y_putF (T := T_M) (M := 19) (f := 14) X hin0 in_M t_M t_M_ok nm_M hP (sv_D hJ hA) hS (k0 := 0) (by decide) (fs := [.int 0, .int 0, .int 0, .ref (ad12 1), .ref (ad12 2), .ref (ad12 3), .ref (ad12 4), .ref (ad12 5), .ref (ad12 6), .ref (ad12 7), .ref (ad12 8), .ref (ad12 9), .ref (ad12 10), .ref (ad12 11), .null, .null, .null, .null, .null]) rfl rfl (by decide) (sv_tb_t 326 rfl rfl) rfl rfl (ty := .array .int) (by decide +kernel) rfl rfl (by show 14 < 19; decide) dM_init_97 (fun H locs hP hS => ?_)
    have hP := sv_P_congr (en' := sv_mi cI cZ [.int 0, .int 0, .int 0, .ref (ad12 1), .ref (ad12 2), .ref (ad12 3), .ref (ad12 4), .ref (ad12 5), .ref (ad12 6), .ref (ad12 7), .ref (ad12 8), .ref (ad12 9), .ref (ad12 10), .ref (ad12 11), .ref (ad12 12), .null, .null, .null, .null]) (fun k _ => sv_mi_p k) hP
    refine lv_aload_n (i := 0) hx hb dM_init_100 rfl (sv_at hl rfl) ?_
    refine lv_bipush (v := nI 6) hx hb dM_init_101 (by decide) ?_
    refine x_tv (y := nI 6) rfl ?_
    refine y_newI X hP (sv_D hJ hA) hS hF0 (sv_tb_t 65 rfl rfl) (N := 6) (by decide) (Nat.le_of_ble_eq_true rfl) (Nat.le_of_ble_eq_true rfl) dM_init_103 (fun q13 H hP hD hS => ?_)
    obtain ⟨ad13, hq13, ho13, hP, hJ, hA⟩ := sv_grow hP hD
    have hP := sv_P_congr (en' := sv_mi cI cZ [.int 0, .int 0, .int 0, .ref (ad13 1), .ref (ad13 2), .ref (ad13 3), .ref (ad13 4), .ref (ad13 5), .ref (ad13 6), .ref (ad13 7), .ref (ad13 8), .ref (ad13 9), .ref (ad13 10), .ref (ad13 11), .ref (ad13 12), .null, .null, .null, .null]) (fun k _ => sv_mi_n (by decide) rfl (by rw [ho13 1 (by decide), ho13 2 (by decide), ho13 3 (by decide), ho13 4 (by decide), ho13 5 (by decide), ho13 6 (by decide), ho13 7 (by decide), ho13 8 (by decide), ho13 9 (by decide), ho13 10 (by decide), ho13 11 (by decide), ho13 12 (by decide)]) k) hP
    refine x_st (st2 := [.ref (ad13 13), .ref (ad13 0)]) (by rw [hq13, ho13 0 (by decide)]) ?_
    rw [ho13 0 (by decide)] at hl
    have h00 := h00.trans (ho13 0 (by decide))
    refine y_putF (T := T_M) (M := 19) (f := 15) X hin0 in_M t_M t_M_ok nm_M hP (sv_D hJ hA) hS (k0 := 0) (by decide) (fs := [.int 0, .int 0, .int 0, .ref (ad13 1), .ref (ad13 2), .ref (ad13 3), .ref (ad13 4), .ref (ad13 5), .ref (ad13 6), .ref (ad13 7), .ref (ad13 8), .ref (ad13 9), .ref (ad13 10), .ref (ad13 11), .ref (ad13 12), .null, .null, .null, .null]) rfl rfl (by decide) (sv_tb_t 327 rfl rfl) rfl rfl (ty := .array .int) (by decide +kernel) rfl rfl (by show 15 < 19; decide) dM_init_105 (fun H locs hP hS => ?_)
    have hP := sv_P_congr (en' := sv_mi cI cZ [.int 0, .int 0, .int 0, .ref (ad13 1), .ref (ad13 2), .ref (ad13 3), .ref (ad13 4), .ref (ad13 5), .ref (ad13 6), .ref (ad13 7), .ref (ad13 8), .ref (ad13 9), .ref (ad13 10), .ref (ad13 11), .ref (ad13 12), .ref (ad13 13), .null, .null, .null]) (fun k _ => sv_mi_p k) hP
    refine lv_aload_n (i := 0) hx hb dM_init_108 rfl (sv_at hl rfl) ?_
    refine lv_bipush (v := nI 36) hx hb dM_init_109 (by decide) ?_
    refine x_tv (y := nI 36) rfl ?_
    refine y_newI X hP (sv_D hJ hA) hS hF0 (sv_tb_t 65 rfl rfl) (N := 36) (by decide) (Nat.le_of_ble_eq_true rfl) (Nat.le_of_ble_eq_true rfl) dM_init_111 (fun q14 H hP hD hS => ?_)
    obtain ⟨ad14, hq14, ho14, hP, hJ, hA⟩ := sv_grow hP hD
    have hP := sv_P_congr (en' := sv_mi cI cZ [.int 0, .int 0, .int 0, .ref (ad14 1), .ref (ad14 2), .ref (ad14 3), .ref (ad14 4), .ref (ad14 5), .ref (ad14 6), .ref (ad14 7), .ref (ad14 8), .ref (ad14 9), .ref (ad14 10), .ref (ad14 11), .ref (ad14 12), .ref (ad14 13), .null, .null, .null]) (fun k _ => sv_mi_n (by decide) rfl (by rw [ho14 1 (by decide), ho14 2 (by decide), ho14 3 (by decide), ho14 4 (by decide), ho14 5 (by decide), ho14 6 (by decide), ho14 7 (by decide), ho14 8 (by decide), ho14 9 (by decide), ho14 10 (by decide), ho14 11 (by decide), ho14 12 (by decide), ho14 13 (by decide)]) k) hP
    refine x_st (st2 := [.ref (ad14 14), .ref (ad14 0)]) (by rw [hq14, ho14 0 (by decide)]) ?_
    rw [ho14 0 (by decide)] at hl
    have h00 := h00.trans (ho14 0 (by decide))
    refine y_putF (T := T_M) (M := 19) (f := 16) X hin0 in_M t_M t_M_ok nm_M hP (sv_D hJ hA) hS (k0 := 0) (by decide) (fs := [.int 0, .int 0, .int 0, .ref (ad14 1), .ref (ad14 2), .ref (ad14 3), .ref (ad14 4), .ref (ad14 5), .ref (ad14 6), .ref (ad14 7), .ref (ad14 8), .ref (ad14 9), .ref (ad14 10), .ref (ad14 11), .ref (ad14 12), .ref (ad14 13), .null, .null, .null]) rfl rfl (by decide) (sv_tb_t 328 rfl rfl) rfl rfl (ty := .array .int) (by decide +kernel) rfl rfl (by show 16 < 19; decide) dM_init_113 (fun H locs hP hS => ?_)
    have hP := sv_P_congr (en' := sv_mi cI cZ [.int 0, .int 0, .int 0, .ref (ad14 1), .ref (ad14 2), .ref (ad14 3), .ref (ad14 4), .ref (ad14 5), .ref (ad14 6), .ref (ad14 7), .ref (ad14 8), .ref (ad14 9), .ref (ad14 10), .ref (ad14 11), .ref (ad14 12), .ref (ad14 13), .ref (ad14 14), .null, .null]) (fun k _ => sv_mi_p k) hP
    refine lv_aload_n (i := 0) hx hb dM_init_116 rfl (sv_at hl rfl) ?_
    refine lv_bipush (v := nI 36) hx hb dM_init_117 (by decide) ?_
    refine x_tv (y := nI 36) rfl ?_
    refine y_newI X hP (sv_D hJ hA) hS hF0 (sv_tb_t 65 rfl rfl) (N := 36) (by decide) (Nat.le_of_ble_eq_true rfl) (Nat.le_of_ble_eq_true rfl) dM_init_119 (fun q15 H hP hD hS => ?_)
    obtain ⟨ad15, hq15, ho15, hP, hJ, hA⟩ := sv_grow hP hD
    have hP := sv_P_congr (en' := sv_mi cI cZ [.int 0, .int 0, .int 0, .ref (ad15 1), .ref (ad15 2), .ref (ad15 3), .ref (ad15 4), .ref (ad15 5), .ref (ad15 6), .ref (ad15 7), .ref (ad15 8), .ref (ad15 9), .ref (ad15 10), .ref (ad15 11), .ref (ad15 12), .ref (ad15 13), .ref (ad15 14), .null, .null]) (fun k _ => sv_mi_n (by decide) rfl (by rw [ho15 1 (by decide), ho15 2 (by decide), ho15 3 (by decide), ho15 4 (by decide), ho15 5 (by decide), ho15 6 (by decide), ho15 7 (by decide), ho15 8 (by decide), ho15 9 (by decide), ho15 10 (by decide), ho15 11 (by decide), ho15 12 (by decide), ho15 13 (by decide), ho15 14 (by decide)]) k) hP
    refine x_st (st2 := [.ref (ad15 15), .ref (ad15 0)]) (by rw [hq15, ho15 0 (by decide)]) ?_
    rw [ho15 0 (by decide)] at hl
    have h00 := h00.trans (ho15 0 (by decide))
    refine y_putF (T := T_M) (M := 19) (f := 17) X hin0 in_M t_M t_M_ok nm_M hP (sv_D hJ hA) hS (k0 := 0) (by decide) (fs := [.int 0, .int 0, .int 0, .ref (ad15 1), .ref (ad15 2), .ref (ad15 3), .ref (ad15 4), .ref (ad15 5), .ref (ad15 6), .ref (ad15 7), .ref (ad15 8), .ref (ad15 9), .ref (ad15 10), .ref (ad15 11), .ref (ad15 12), .ref (ad15 13), .ref (ad15 14), .null, .null]) rfl rfl (by decide) (sv_tb_t 329 rfl rfl) rfl rfl (ty := .array .int) (by decide +kernel) rfl rfl (by show 17 < 19; decide) dM_init_121 (fun H locs hP hS => ?_)
    have hP := sv_P_congr (en' := sv_mi cI cZ [.int 0, .int 0, .int 0, .ref (ad15 1), .ref (ad15 2), .ref (ad15 3), .ref (ad15 4), .ref (ad15 5), .ref (ad15 6), .ref (ad15 7), .ref (ad15 8), .ref (ad15 9), .ref (ad15 10), .ref (ad15 11), .ref (ad15 12), .ref (ad15 13), .ref (ad15 14), .ref (ad15 15), .null]) (fun k _ => sv_mi_p k) hP
    refine lv_aload_n (i := 0) hx hb dM_init_124 rfl (sv_at hl rfl) ?_
    refine lv_bipush (v := nI 64) hx hb dM_init_125 (by decide) ?_
    refine x_tv (y := nI 64) rfl ?_
    refine y_newZ X hP (sv_D hJ hA) hS hF0 (sv_tb_t 370 rfl rfl) (N := 64) (by decide) (Nat.le_of_ble_eq_true rfl) (Nat.le_of_ble_eq_true rfl) dM_init_127 (fun q16 H hP hD hS => ?_)
    obtain ⟨ad16, hq16, ho16, hP, hJ, hA⟩ := sv_grow hP hD
    have hP := sv_P_congr (en' := sv_mi cI cZ [.int 0, .int 0, .int 0, .ref (ad16 1), .ref (ad16 2), .ref (ad16 3), .ref (ad16 4), .ref (ad16 5), .ref (ad16 6), .ref (ad16 7), .ref (ad16 8), .ref (ad16 9), .ref (ad16 10), .ref (ad16 11), .ref (ad16 12), .ref (ad16 13), .ref (ad16 14), .ref (ad16 15), .null]) (fun k _ => sv_mi_n (by decide) rfl (by rw [ho16 1 (by decide), ho16 2 (by decide), ho16 3 (by decide), ho16 4 (by decide), ho16 5 (by decide), ho16 6 (by decide), ho16 7 (by decide), ho16 8 (by decide), ho16 9 (by decide), ho16 10 (by decide), ho16 11 (by decide), ho16 12 (by decide), ho16 13 (by decide), ho16 14 (by decide), ho16 15 (by decide)]) k) hP
    refine x_st (st2 := [.ref (ad16 16), .ref (ad16 0)]) (by rw [hq16, ho16 0 (by decide)]) ?_
    rw [ho16 0 (by decide)] at hl
    have h00 := h00.trans (ho16 0 (by decide))
    refine y_putF (T := T_M) (M := 19) (f := 18) X hin0 in_M t_M t_M_ok nm_M hP (sv_D hJ hA) hS (k0 := 0) (by decide) (fs := [.int 0, .int 0, .int 0, .ref (ad16 1), .ref (ad16 2), .ref (ad16 3), .ref (ad16 4), .ref (ad16 5), .ref (ad16 6), .ref (ad16 7), .ref (ad16 8), .ref (ad16 9), .ref (ad16 10), .ref (ad16 11), .ref (ad16 12), .ref (ad16 13), .ref (ad16 14), .ref (ad16 15), .null]) rfl rfl (by decide) (sv_tb_t 330 rfl rfl) rfl rfl (ty := .array .boolean) (by decide +kernel) rfl rfl (by show 18 < 19; decide) dM_init_129 (fun H locs hP hS => ?_)
    have hP := sv_P_congr (en' := sv_mi cI cZ [.int 0, .int 0, .int 0, .ref (ad16 1), .ref (ad16 2), .ref (ad16 3), .ref (ad16 4), .ref (ad16 5), .ref (ad16 6), .ref (ad16 7), .ref (ad16 8), .ref (ad16 9), .ref (ad16 10), .ref (ad16 11), .ref (ad16 12), .ref (ad16 13), .ref (ad16 14), .ref (ad16 15), .ref (ad16 16)]) (fun k _ => sv_mi_p k) hP
    exact wM_init_K X hin0 hn hnn hF0 ret h00 hP hJ hA hS hl)
end SvCtorM
