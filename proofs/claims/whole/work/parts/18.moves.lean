section SvMoves
variable {p : Program} {l : Launch} {e : Env} {R : Room} {s : State} {m : MethodId} {args : Array Value} {below : List Frame} {meth : Method} {c : Code} {H H0 : Heap} {locs : List Loc} {cells slots : Nat} {Q : State → Prop}
variable {cc : ByteArray} {pc nL k : Nat} {ls : Array Slot} {lv : List (Nat × Value)} {rest : List Value} {D : va_G} {cI cZ cN cQ : ClassId} {n qc : Nat} {ad : Nat → Nat} {σ : Sg} {A : Nat → Prop} {mt qm : Nat → Int32}
set_option maxHeartbeats 4000000 in
set_option maxRecDepth 100000 in
theorem wS_settle (X : sv_X D cI cZ cN cQ "SliceVoting" cS_settle 3 9 p R s m args c) (hP : sv_cP D cI cN cQ n qc ad σ H) (hJ : sv_inj (3 + 3 * n + qc) ad) (hA : ∀ k, k < (3 + 3 * n + qc) → A (ad k)) (hS : va_S A H0 H locs) {v : Nat} (hn : n ≤ 6) (hI : sv_IQ n qc σ) (hIS : sv_IS n σ) (hv : v < n) (hl : lv_has ls 3 [(0, .ref (ad 0)), (1, .ref (ad (2 + 3 * v)))]) (ret : ∀ (pc : Nat) (ls : Array Slot) (H : Heap) (locs : List Loc), decode cS_settle pc = .ok (.return_, 1) → va_S A H0 H locs → sv_cP D cI cN cQ n qc ad (sv_set n qc v 49 σ) H → W p l e R s m args below meth c H locs 0 0 Q (F0 m pc ls [])) : W p l e R s m args below meth c H locs 0 0 Q (F0 m 0 ls []) := by
  have hx := X.1
  have hb := X.2.1
  have J2 : ∀ (kf : Nat) (i : Nat) (τ : Sg) (H : Heap) (locs : List Loc) (ls : Array Slot), 49 - i < kf → (i ≤ 49) → (sv_set n qc v (49 - i) τ = sv_set n qc v 49 σ) → (sv_IQ n qc τ) → (sv_IS n τ) → (sv_cP D cI cN cQ n qc ad τ H) → (va_S A H0 H locs) → lv_has ls 3 [(0, .ref (ad 0)), (1, .ref (ad (2 + 3 * v))), (2, .int (nI i))] → W p l e R s m args below meth c H locs 0 0 Q (F0 m 2 ls []) := by
    intro kf
    induction kf with
    | zero => intro i τ H locs ls hm; exact absurd hm (Nat.not_lt_zero _)
    | succ kf ih =>
      intro i τ H locs ls hm hi he hQ hT hP hS hl
      refine lv_iload_n (i := 2) hx hb dS_settle_2 rfl (sv_at hl rfl) ?_
      refine lv_bipush (v := nI 49) hx hb dS_settle_3 (by decide) ?_
      refine lv_icmp_ge (tgt := 38) hx hb dS_settle_5 rfl (fun h5 => ?_) (fun h5 => ?_)
      · skip
        rw [nI_leI (by omega) (by omega)] at h5
        exact ret _ _ _ _ dS_settle_38 hS (by rw [← he, show 49 - i = 0 by omega]; exact hP)
      · skip
        rw [nI_leI (by omega) (by omega)] at h5
        refine lv_aload_n (i := 0) hx hb dS_settle_8 rfl (sv_at hl rfl) ?_
        refine lv_aload_n (i := 1) hx hb dS_settle_9 rfl (sv_at hl rfl) ?_
        refine kS_acceptLeast X (by decide) hP hJ hA hS hn hQ hv hl (Nat.zero_le _) (Nat.zero_le _) (Nat.le_of_ble_eq_true rfl) dS_settle_10 (fun H locs hP hS => ?_)
        refine x_ifneB (tgt := 32) hx hb dS_settle_13 rfl (fun h13 => ?_) (fun h13 => ?_)
        · skip
          obtain ⟨τ1, e1⟩ := sv_isSome_t h13
          rw [e1] at hP
          simp only [Option.getD_some] at hP
          have est := sv_step_a e1
          refine x_iinc (i := 2) hx hb dS_settle_32 hl rfl (sv_inc i) (by decide) (fun ls hl => ?_)
          refine lv_goto (tgt := 2) hx hb dS_settle_35 rfl ?_
          exact ih (i + 1) τ1 H locs ls (by omega) (by omega) (by rw [← he, show 49 - i = 49 - (i + 1) + 1 by omega, sv_set_s est]) (sv_IQ_cg (sv_step_ok hT est).2 hQ) (sv_step_ok hT est).1 hP hS (sv_re hl ⟨rfl, rfl, rfl, trivial⟩)
        · skip
          have e1 := sv_isSome_f h13
          rw [e1] at hP
          simp only [Option.getD_none] at hP
          refine lv_aload_n (i := 0) hx hb dS_settle_16 rfl (sv_at hl rfl) ?_
          refine lv_aload_n (i := 1) hx hb dS_settle_17 rfl (sv_at hl rfl) ?_
          refine kS_confirmLeast X (by decide) hP hJ hA hS hn hQ hv hl (Nat.zero_le _) (Nat.zero_le _) (Nat.le_of_ble_eq_true rfl) dS_settle_18 (fun H locs hP hS => ?_)
          refine x_ifneB (tgt := 32) hx hb dS_settle_21 rfl (fun h21 => ?_) (fun h21 => ?_)
          · skip
            obtain ⟨τ1, e2⟩ := sv_isSome_t h21
            rw [e2] at hP
            simp only [Option.getD_some] at hP
            have est := sv_step_c e1 e2
            refine x_iinc (i := 2) hx hb dS_settle_32 hl rfl (sv_inc i) (by decide) (fun ls hl => ?_)
            refine lv_goto (tgt := 2) hx hb dS_settle_35 rfl ?_
            exact ih (i + 1) τ1 H locs ls (by omega) (by omega) (by rw [← he, show 49 - i = 49 - (i + 1) + 1 by omega, sv_set_s est]) (sv_IQ_cg (sv_step_ok hT est).2 hQ) (sv_step_ok hT est).1 hP hS (sv_re hl ⟨rfl, rfl, rfl, trivial⟩)
          · skip
            have e2 := sv_isSome_f h21
            rw [e2] at hP
            simp only [Option.getD_none] at hP
            refine lv_aload_n (i := 1) hx hb dS_settle_24 rfl (sv_at hl rfl) ?_
            refine kS_voteForCommit X (by decide) hP hJ hA hS hn hT hv hl (Nat.zero_le _) (Nat.zero_le _) (Nat.le_of_ble_eq_true rfl) dS_settle_25 (fun H locs hP hS => ?_)
            refine x_ifneB (tgt := 32) hx hb dS_settle_28 rfl (fun h28 => ?_) (fun h28 => ?_)
            · skip
              obtain ⟨τ1, e3⟩ := sv_isSome_t h28
              rw [e3] at hP
              simp only [Option.getD_some] at hP
              have est := (sv_step_v e1 e2).trans e3
              refine x_iinc (i := 2) hx hb dS_settle_32 hl rfl (sv_inc i) (by decide) (fun ls hl => ?_)
              refine lv_goto (tgt := 2) hx hb dS_settle_35 rfl ?_
              exact ih (i + 1) τ1 H locs ls (by omega) (by omega) (by rw [← he, show 49 - i = 49 - (i + 1) + 1 by omega, sv_set_s est]) (sv_IQ_cg (sv_step_ok hT est).2 hQ) (sv_step_ok hT est).1 hP hS (sv_re hl ⟨rfl, rfl, rfl, trivial⟩)
            · skip
              have e3 := sv_isSome_f h28
              rw [e3] at hP
              simp only [Option.getD_none] at hP
              have est := (sv_step_v e1 e2).trans e3
              exact ret _ _ _ _ dS_settle_31 hS (by rw [← he, show 49 - i = 49 - (i + 1) + 1 by omega, sv_set_n est]; exact hP)
  refine lv_iconst (v := 0) hx hb dS_settle_0 (by decide) ?_
  refine lv_istore_n (i := 2) hx hb dS_settle_1 rfl hl (by decide) rfl (fun ls hl => ?_)
  exact J2 _ 0 σ H locs ls (Nat.lt_succ_self _) (Nat.zero_le _) rfl hI hIS hP hS (sv_re hl ⟨rfl, rfl, rfl, trivial⟩)

theorem cS_m_settle (hJ : sv_inj (3 + 3 * n + qc) ad) (hA : ∀ k, k < (3 + 3 * n + qc) → A (ad k)) {v : Nat} (hn : n ≤ 6) (hI : sv_IQ n qc σ) (hIS : sv_IS n σ) (hv : v < n) : Met l yS_settle (sv_ws yS_settle cS_settle 3 none) (sv_rm 9) (sv_Pc D cI cZ cN cQ [.ref (ad 0), .ref (ad (2 + 3 * v))] (fun H => sv_cP D cI cN cQ n qc ad σ H)) (va_Qv (fun u => u = sv_set n qc v 49 σ) (fun u t => sv_cP D cI cN cQ n qc ad u t.heap) A) 0 0 A :=
  sv_mkV (S := Sg) (B := fun u H => sv_cP D cI cN cQ n qc ad u H) (by decide) (by show 2 ≤ 3; decide) (fun p e s m below meth c ls Q X hP hl ret => wS_settle X hP hJ hA va_S.rf hn hI hIS hv hl (fun pc ls H locs hd hS hP => ret pc ls _ H locs hd hS rfl hP))
theorem okS_S_settle : sv_okV "SliceVoting" 89 yS_settle cS_settle 3 none 1 := ⟨sv_tb_t 187 rfl rfl, sv_tb_t 184 rfl rfl, sv_tb_t 186 rfl rfl, sv_tb_s 6 rfl rfl, sv_tb_t 1 rfl rfl, ⟨by decide, by decide, by decide +kernel⟩, by decide⟩
theorem kS_settle (X : sv_X D cI cZ cN cQ "SliceVoting" cc nL k p R s m args c) (hk : 9 + 1 ≤ k) (hP : sv_cP D cI cN cQ n qc ad σ H) (hJ : sv_inj (3 + 3 * n + qc) ad) (hA : ∀ k, k < (3 + 3 * n + qc) → A (ad k)) (hS : va_S A H0 H locs) {v : Nat} (hn : n ≤ 6) (hI : sv_IQ n qc σ) (hIS : sv_IS n σ) (hv : v < n) (hl : lv_has ls nL lv) (hc : cells ≤ R.cells) (hs : slots ≤ R.slots) (hcat : (rest.map fun v => v.category).sum ≤ 8) (hd : decode cc pc = .ok (.invokevirtual 89, 3)) (kk : ∀ (H1 : Heap) (locs1 : List Loc), sv_cP D cI cN cQ n qc ad (sv_set n qc v 49 σ) H1 → va_S A H0 H1 locs1 → W p l e R s m args below meth c H1 locs1 cells slots Q (F0 m (pc + 3) ls rest)) : W p l e R s m args below meth c H locs cells slots Q (F0 m pc ls (.ref (ad (2 + 3 * v)) :: .ref (ad 0) :: rest)) :=
  sv_wVv (S := Sg) (G := fun H => sv_cP D cI cN cQ n qc ad σ H) (B := fun u H => sv_cP D cI cN cQ n qc ad u H) X okS_S_settle (cS_m_settle hJ hA hn hI hIS hv) hP (y_rec X.K hP (by omega) sv_ce_S rfl) hS hk rfl hl.1 rfl hcat hc hs hd (fun u H1 locs1 hp hB hS => by subst hp; exact kk H1 locs1 hB hS)
set_option maxHeartbeats 4000000 in
set_option maxRecDepth 100000 in
theorem wS_corrupt (X : sv_X D cI cZ cN cQ "SliceVoting" cS_corrupt 2 3 p R s m args c) (hP : sv_cP D cI cN cQ n qc ad σ H) (hJ : sv_inj (3 + 3 * n + qc) ad) (hA : ∀ k, k < (3 + 3 * n + qc) → A (ad k)) (hS : va_S A H0 H locs) {v : Int32} (hn : n ≤ 6) (hl : lv_has ls 2 [(0, .ref (ad 0)), (1, .int v)]) (ret : ∀ (pc : Nat) (ls : Array Slot) (H : Heap) (locs : List Loc), decode cS_corrupt pc = .ok (.ireturn, 1) → va_S A H0 H locs → sv_cP D cI cN cQ n qc ad ((bif sv_wel n σ v then sg σ 9 v.toNatClampNeg 1 else σ)) H → W p l e R s m args below meth c H locs 0 0 Q (F0 m pc ls [.int (sv_b (sv_wel n σ v))])) : W p l e R s m args below meth c H locs 0 0 Q (F0 m 0 ls []) := by
  have hx := X.1
  have hb := X.2.1
  refine lv_aload_n (i := 0) hx hb dS_corrupt_0 rfl (sv_at hl rfl) ?_
  refine lv_iload_n (i := 1) hx hb dS_corrupt_1 rfl (sv_at hl rfl) ?_
  refine kS_isWellBehaved X (by decide) hP hn hl (Nat.zero_le _) (Nat.zero_le _) (Nat.le_of_ble_eq_true rfl) dS_corrupt_2 ?_
  refine x_ifneB (tgt := 10) hx hb dS_corrupt_5 rfl (fun h5 => ?_) (fun h5 => ?_)
  · skip
    obtain ⟨j, hj, rfl, hj9⟩ := sv_wel_t (by omega) h5
    refine lv_aload_n (i := 0) hx hb dS_corrupt_10 rfl (sv_at hl rfl) ?_
    refine lv_dup hx hb dS_corrupt_11 rfl ?_
    refine gS_wellBehaved X hP dS_corrupt_12 ?_
    refine lv_iconst (v := 1) hx hb dS_corrupt_15 (by decide) ?_
    refine lv_iload_n (i := 1) hx hb dS_corrupt_16 rfl (sv_at hl rfl) ?_
    refine lv_ishl hx hb dS_corrupt_17 ?_
    refine lv_iconst (v := -1) hx hb dS_corrupt_18 (by decide) ?_
    refine lv_ixor hx hb dS_corrupt_19 ?_
    refine lv_iand hx hb dS_corrupt_20 ?_
    refine x_tv (y := nI (sv_wbN (sg σ 9 j 1) n)) (sv_wb_ill hn hj) ?_
    refine pS_wellBehaved X hP hJ hA hS dS_corrupt_21 (fun H locs hP hS => ?_)
    refine lv_iconst (v := 1) hx hb dS_corrupt_24 (by decide) ?_
    exact x_tv (by rw [h5]; rfl) (ret _ _ _ _ dS_corrupt_25 hS (by rw [h5]; first | exact hP | (rw [nI_clamp (by omega)]; exact hP)))
  · skip
    refine lv_iconst (v := 0) hx hb dS_corrupt_8 (by decide) ?_
    exact x_tv (by rw [h5]; rfl) (ret _ _ _ _ dS_corrupt_9 hS (by rw [h5]; first | exact hP | (rw [nI_clamp (by omega)]; exact hP)))

theorem cS_m_corrupt (hJ : sv_inj (3 + 3 * n + qc) ad) (hA : ∀ k, k < (3 + 3 * n + qc) → A (ad k)) {v : Int32} (hn : n ≤ 6) : Met l yS_corrupt (sv_ws yS_corrupt cS_corrupt 2 (some .boolean)) (sv_rm 3) (sv_Pc D cI cZ cN cQ [.ref (ad 0), .int v] (fun H => sv_cP D cI cN cQ n qc ad σ H)) (va_Qi (fun r u => r = sv_b (sv_wel n σ v) ∧ u = (bif sv_wel n σ v then sg σ 9 v.toNatClampNeg 1 else σ)) (fun u t => sv_cP D cI cN cQ n qc ad u t.heap) A) 0 0 A :=
  sv_mkI (S := Sg) (B := fun u H => sv_cP D cI cN cQ n qc ad u H) (by decide) (by show 2 ≤ 2; decide) (fun _ _ h => by rw [h.1]; exact sv_narb _) (fun p e s m below meth c ls Q X hP hl ret => wS_corrupt X hP hJ hA va_S.rf hn hl (fun pc ls H locs hd hS hP => ret pc ls _ _ H locs hd hS ⟨rfl, rfl⟩ hP))
theorem okL_S_corrupt : sv_okV "SliceVotingLaw" 31 yS_corrupt cS_corrupt 2 (some .boolean) 1 := ⟨sv_tb_t 151 rfl rfl, sv_tb_t 148 rfl rfl, sv_tb_t 149 rfl rfl, sv_tb_t 150 rfl rfl, sv_tb_t 1 rfl rfl, ⟨by decide, by decide, by decide +kernel⟩, by decide⟩
theorem kL_corrupt (X : sv_X D cI cZ cN cQ "SliceVotingLaw" cc nL k p R s m args c) (hk : 3 + 1 ≤ k) (hP : sv_cP D cI cN cQ n qc ad σ H) (hJ : sv_inj (3 + 3 * n + qc) ad) (hA : ∀ k, k < (3 + 3 * n + qc) → A (ad k)) (hS : va_S A H0 H locs) {v : Int32} (hn : n ≤ 6) (hl : lv_has ls nL lv) (hc : cells ≤ R.cells) (hs : slots ≤ R.slots) (hcat : (rest.map fun v => v.category).sum ≤ 8) (hd : decode cc pc = .ok (.invokevirtual 31, 3)) (kk : ∀ (H1 : Heap) (locs1 : List Loc), sv_cP D cI cN cQ n qc ad ((bif sv_wel n σ v then sg σ 9 v.toNatClampNeg 1 else σ)) H1 → va_S A H0 H1 locs1 → W p l e R s m args below meth c H1 locs1 cells slots Q (F0 m (pc + 3) ls (.int (sv_b (sv_wel n σ v)) :: rest))) : W p l e R s m args below meth c H locs cells slots Q (F0 m pc ls (.int v :: .ref (ad 0) :: rest)) :=
  sv_wVi (S := Sg) (G := fun H => sv_cP D cI cN cQ n qc ad σ H) (B := fun u H => sv_cP D cI cN cQ n qc ad u H) X okL_S_corrupt (cS_m_corrupt hJ hA hn) hP (y_rec X.K hP (by omega) sv_ce_S rfl) hS hk rfl hl.1 rfl hcat hc hs hd (fun r u H1 locs1 hp hB hS => by obtain ⟨rfl, rfl⟩ := hp; exact kk H1 locs1 hB hS)
theorem sv_her_eq {σ : Sg} {v w : Nat} {x y : Int32} (h : w ≠ v) : sv_her σ v w x y = sg (sg (sg σ 1 0 1) 16 (6 * v + w) x) 17 (6 * v + w) y := by
  unfold sv_her sv_tv sv_ta sv_tp
  rw [if_neg h, if_neg h, if_neg h]
theorem sv_IS_1 {n : Nat} {σ : Sg} (h : sv_IS n σ) : sv_IS n (sg σ 1 0 1) := by
  refine ⟨⟨true, by rw [sg_at]; rfl⟩, ?_⟩
  rw [sg_ne σ 0 1 (by decide : (9 : Nat) ≠ 1), sg_ne σ 0 1 (by decide : (11 : Nat) ≠ 1), sg_ne σ 0 1 (by decide : (13 : Nat) ≠ 1), sg_ne σ 0 1 (by decide : (14 : Nat) ≠ 1)]
  exact h.2
theorem sv_her_ok {σ : Sg} {n qc v w : Nat} {x y : Int32} (h : w ≠ v) (hI : sv_IQ n qc σ) (hS : sv_IS n σ) : sv_IQ n qc (sv_her σ v w x y) ∧ sv_IS n (sv_her σ v w x y) := by
  rw [sv_her_eq h]
  exact ⟨sv_IQ_cg (sv_eqQ_tr (sv_eqQ_tr (sv_eqQ_sg (Or.inl (by decide))) (sv_eqQ_sg (Or.inr (by decide)))) (sv_eqQ_sg (Or.inr (by decide)))) hI,
    sv_IS_sg (sv_IS_sg (sv_IS_1 hS) _ (by decide) (by decide) (by decide) (by decide) (by decide)) _ (by decide) (by decide) (by decide) (by decide) (by decide)⟩
def sv_dlC (n : Nat) (σ : Sg) (v w : Int32) : Bool := sv_wel n σ v && (sv_wel n σ w && decide (¬ v = w))
def sv_dlS (n qc : Nat) (σ : Sg) (v w : Int32) : Sg := bif sv_dlC n σ v w then sv_set n qc w.toNatClampNeg 49 (sv_her σ w.toNatClampNeg v.toNatClampNeg (σ 10 v.toNatClampNeg) (σ 11 v.toNatClampNeg)) else σ
def sv_syC (n : Nat) (σ : Sg) (v w : Int32) : Bool := sv_isn n v && (!sv_wel n σ v && sv_wel n σ w)
def sv_syS (n qc : Nat) (σ : Sg) (v w x y : Int32) : Sg := bif sv_syC n σ v w then sv_set n qc w.toNatClampNeg 49 (sv_her σ w.toNatClampNeg v.toNatClampNeg (x &&& 16777215) (y &&& 16777215)) else σ
set_option maxHeartbeats 4000000 in
set_option maxRecDepth 100000 in
theorem wS_deliver (X : sv_X D cI cZ cN cQ "SliceVoting" cS_deliver 3 10 p R s m args c) (hP : sv_cP D cI cN cQ n qc ad σ H) (hJ : sv_inj (3 + 3 * n + qc) ad) (hA : ∀ k, k < (3 + 3 * n + qc) → A (ad k)) (hS : va_S A H0 H locs) {v w : Int32} (hn : n ≤ 6) (hI : sv_IQ n qc σ) (hIS : sv_IS n σ) (hl : lv_has ls 3 [(0, .ref (ad 0)), (1, .int v), (2, .int w)]) (ret : ∀ (pc : Nat) (ls : Array Slot) (H : Heap) (locs : List Loc), decode cS_deliver pc = .ok (.ireturn, 1) → va_S A H0 H locs → sv_cP D cI cN cQ n qc ad (sv_dlS n qc σ v w) H → W p l e R s m args below meth c H locs 0 0 Q (F0 m pc ls [.int (sv_b (sv_dlC n σ v w))])) : W p l e R s m args below meth c H locs 0 0 Q (F0 m 0 ls []) := by
  have hx := X.1
  have hb := X.2.1
  refine lv_aload_n (i := 0) hx hb dS_deliver_0 rfl (sv_at hl rfl) ?_
  refine lv_iload_n (i := 1) hx hb dS_deliver_1 rfl (sv_at hl rfl) ?_
  refine kS_isWellBehaved X (by decide) hP hn hl (Nat.zero_le _) (Nat.zero_le _) (Nat.le_of_ble_eq_true rfl) dS_deliver_2 ?_
  refine x_ifeqB (tgt := 21) hx hb dS_deliver_5 rfl (fun h5 => ?_) (fun h5 => ?_)
  · skip
    refine lv_iconst (v := 0) hx hb dS_deliver_21 (by decide) ?_
    first | exact x_tv (by unfold sv_dlC; rw [h18, decide_eq_false (fun q => q rfl), Bool.and_false, Bool.and_false]; rfl) (ret _ _ _ _ dS_deliver_22 hS (by unfold sv_dlS sv_dlC; rw [h18, decide_eq_false (fun q => q rfl), Bool.and_false, Bool.and_false]; exact hP)) | exact x_tv (by unfold sv_dlC; rw [h13, Bool.false_and, Bool.and_false]; rfl) (ret _ _ _ _ dS_deliver_22 hS (by unfold sv_dlS sv_dlC; rw [h13, Bool.false_and, Bool.and_false]; exact hP)) | exact x_tv (by unfold sv_dlC; rw [h5]; rfl) (ret _ _ _ _ dS_deliver_22 hS (by unfold sv_dlS sv_dlC; rw [h5]; exact hP))
  · skip
    refine lv_aload_n (i := 0) hx hb dS_deliver_8 rfl (sv_at hl rfl) ?_
    refine lv_iload_n (i := 2) hx hb dS_deliver_9 rfl (sv_at hl rfl) ?_
    refine kS_isWellBehaved X (by decide) hP hn hl (Nat.zero_le _) (Nat.zero_le _) (Nat.le_of_ble_eq_true rfl) dS_deliver_10 ?_
    refine x_ifeqB (tgt := 21) hx hb dS_deliver_13 rfl (fun h13 => ?_) (fun h13 => ?_)
    · skip
      refine lv_iconst (v := 0) hx hb dS_deliver_21 (by decide) ?_
      first | exact x_tv (by unfold sv_dlC; rw [h18, decide_eq_false (fun q => q rfl), Bool.and_false, Bool.and_false]; rfl) (ret _ _ _ _ dS_deliver_22 hS (by unfold sv_dlS sv_dlC; rw [h18, decide_eq_false (fun q => q rfl), Bool.and_false, Bool.and_false]; exact hP)) | exact x_tv (by unfold sv_dlC; rw [h13, Bool.false_and, Bool.and_false]; rfl) (ret _ _ _ _ dS_deliver_22 hS (by unfold sv_dlS sv_dlC; rw [h13, Bool.false_and, Bool.and_false]; exact hP)) | exact x_tv (by unfold sv_dlC; rw [h5]; rfl) (ret _ _ _ _ dS_deliver_22 hS (by unfold sv_dlS sv_dlC; rw [h5]; exact hP))
    · skip
      refine lv_iload_n (i := 1) hx hb dS_deliver_16 rfl (sv_at hl rfl) ?_
      refine lv_iload_n (i := 2) hx hb dS_deliver_17 rfl (sv_at hl rfl) ?_
      refine lv_icmp_ne (tgt := 23) hx hb dS_deliver_18 rfl (fun h18 => ?_) (fun h18 => ?_)
      · skip
        obtain ⟨a, ha, rfl, ha9⟩ := sv_wel_t (by omega) h5
        obtain ⟨b, hb9, rfl, hb0⟩ := sv_wel_t (by omega) h13
        have hab : a ≠ b := fun q => h18 (by rw [q])
        refine lv_aload_n (i := 0) hx hb dS_deliver_23 rfl (sv_at hl rfl) ?_
        refine lv_aload_n (i := 0) hx hb dS_deliver_24 rfl (sv_at hl rfl) ?_
        refine gS_nodes X hP dS_deliver_25 ?_
        refine lv_iload_n (i := 2) hx hb dS_deliver_28 rfl (sv_at hl rfl) ?_
        refine gA_nodes X hP hn (by omega) dS_deliver_29 ?_
        refine lv_iload_n (i := 1) hx hb dS_deliver_30 rfl (sv_at hl rfl) ?_
        refine lv_aload_n (i := 0) hx hb dS_deliver_31 rfl (sv_at hl rfl) ?_
        refine gS_nodes X hP dS_deliver_32 ?_
        refine lv_iload_n (i := 1) hx hb dS_deliver_35 rfl (sv_at hl rfl) ?_
        refine gA_nodes X hP hn (by omega) dS_deliver_36 ?_
        refine gN_knownVotes X hP (by omega) dS_deliver_37 ?_
        refine lv_iload_n (i := 1) hx hb dS_deliver_40 rfl (sv_at hl rfl) ?_
        refine gI_V X hP hn (by omega) (by omega) dS_deliver_41 ?_
        refine lv_aload_n (i := 0) hx hb dS_deliver_42 rfl (sv_at hl rfl) ?_
        refine gS_nodes X hP dS_deliver_43 ?_
        refine lv_iload_n (i := 1) hx hb dS_deliver_46 rfl (sv_at hl rfl) ?_
        refine gA_nodes X hP hn (by omega) dS_deliver_47 ?_
        refine gN_knownAccepts X hP (by omega) dS_deliver_48 ?_
        refine lv_iload_n (i := 1) hx hb dS_deliver_51 rfl (sv_at hl rfl) ?_
        refine gI_C X hP hn (by omega) (by omega) dS_deliver_52 ?_
        refine kS_hear X (by decide) hP hJ hA hS hn hb9 ha hl (Nat.zero_le _) (Nat.zero_le _) (Nat.le_of_ble_eq_true rfl) dS_deliver_53 (fun H locs hP hS => ?_)
        rw [sv_kv_self, sv_ka_self] at hP
        refine lv_aload_n (i := 0) hx hb dS_deliver_56 rfl (sv_at hl rfl) ?_
        refine lv_aload_n (i := 0) hx hb dS_deliver_57 rfl (sv_at hl rfl) ?_
        refine gS_nodes X hP dS_deliver_58 ?_
        refine lv_iload_n (i := 2) hx hb dS_deliver_61 rfl (sv_at hl rfl) ?_
        refine gA_nodes X hP hn (by omega) dS_deliver_62 ?_
        refine kS_settle X (by decide) hP hJ hA hS hn (sv_her_ok hab hI hIS).1 (sv_her_ok hab hI hIS).2 hb9 hl (Nat.zero_le _) (Nat.zero_le _) (Nat.le_of_ble_eq_true rfl) dS_deliver_63 (fun H locs hP hS => ?_)
        refine lv_iconst (v := 1) hx hb dS_deliver_66 (by decide) ?_
        exact x_tv (by unfold sv_dlC; rw [h5, h13, decide_eq_true h18]; rfl) (ret _ _ _ _ dS_deliver_67 hS (by unfold sv_dlS sv_dlC; rw [h5, h13, decide_eq_true h18, nI_clamp (by omega), nI_clamp (by omega)]; exact hP))
      · skip
        refine lv_iconst (v := 0) hx hb dS_deliver_21 (by decide) ?_
        first | exact x_tv (by unfold sv_dlC; rw [h18, decide_eq_false (fun q => q rfl), Bool.and_false, Bool.and_false]; rfl) (ret _ _ _ _ dS_deliver_22 hS (by unfold sv_dlS sv_dlC; rw [h18, decide_eq_false (fun q => q rfl), Bool.and_false, Bool.and_false]; exact hP)) | exact x_tv (by unfold sv_dlC; rw [h13, Bool.false_and, Bool.and_false]; rfl) (ret _ _ _ _ dS_deliver_22 hS (by unfold sv_dlS sv_dlC; rw [h13, Bool.false_and, Bool.and_false]; exact hP)) | exact x_tv (by unfold sv_dlC; rw [h5]; rfl) (ret _ _ _ _ dS_deliver_22 hS (by unfold sv_dlS sv_dlC; rw [h5]; exact hP))

theorem cS_m_deliver (hJ : sv_inj (3 + 3 * n + qc) ad) (hA : ∀ k, k < (3 + 3 * n + qc) → A (ad k)) {v w : Int32} (hn : n ≤ 6) (hI : sv_IQ n qc σ) (hIS : sv_IS n σ) : Met l yS_deliver (sv_ws yS_deliver cS_deliver 3 (some .boolean)) (sv_rm 10) (sv_Pc D cI cZ cN cQ [.ref (ad 0), .int v, .int w] (fun H => sv_cP D cI cN cQ n qc ad σ H)) (va_Qi (fun r u => r = sv_b (sv_dlC n σ v w) ∧ u = sv_dlS n qc σ v w) (fun u t => sv_cP D cI cN cQ n qc ad u t.heap) A) 0 0 A :=
  sv_mkI (S := Sg) (B := fun u H => sv_cP D cI cN cQ n qc ad u H) (by decide) (by show 3 ≤ 3; decide) (fun _ _ h => by rw [h.1]; exact sv_narb _) (fun p e s m below meth c ls Q X hP hl ret => wS_deliver X hP hJ hA va_S.rf hn hI hIS hl (fun pc ls H locs hd hS hP => ret pc ls _ _ H locs hd hS ⟨rfl, rfl⟩ hP))
theorem okL_S_deliver : sv_okV "SliceVotingLaw" 40 yS_deliver cS_deliver 3 (some .boolean) 2 := ⟨sv_tb_t 240 rfl rfl, sv_tb_t 237 rfl rfl, sv_tb_t 238 rfl rfl, sv_tb_t 239 rfl rfl, sv_tb_t 1 rfl rfl, ⟨by decide, by decide, by decide +kernel⟩, by decide⟩
theorem kL_deliver (X : sv_X D cI cZ cN cQ "SliceVotingLaw" cc nL k p R s m args c) (hk : 10 + 1 ≤ k) (hP : sv_cP D cI cN cQ n qc ad σ H) (hJ : sv_inj (3 + 3 * n + qc) ad) (hA : ∀ k, k < (3 + 3 * n + qc) → A (ad k)) (hS : va_S A H0 H locs) {v w : Int32} (hn : n ≤ 6) (hI : sv_IQ n qc σ) (hIS : sv_IS n σ) (hl : lv_has ls nL lv) (hc : cells ≤ R.cells) (hs : slots ≤ R.slots) (hcat : (rest.map fun v => v.category).sum ≤ 8) (hd : decode cc pc = .ok (.invokevirtual 40, 3)) (kk : ∀ (H1 : Heap) (locs1 : List Loc), sv_cP D cI cN cQ n qc ad (sv_dlS n qc σ v w) H1 → va_S A H0 H1 locs1 → W p l e R s m args below meth c H1 locs1 cells slots Q (F0 m (pc + 3) ls (.int (sv_b (sv_dlC n σ v w)) :: rest))) : W p l e R s m args below meth c H locs cells slots Q (F0 m pc ls (.int w :: .int v :: .ref (ad 0) :: rest)) :=
  sv_wVi (S := Sg) (G := fun H => sv_cP D cI cN cQ n qc ad σ H) (B := fun u H => sv_cP D cI cN cQ n qc ad u H) X okL_S_deliver (cS_m_deliver hJ hA hn hI hIS) hP (y_rec X.K hP (by omega) sv_ce_S rfl) hS hk rfl hl.1 rfl hcat hc hs hd (fun r u H1 locs1 hp hB hS => by obtain ⟨rfl, rfl⟩ := hp; exact kk H1 locs1 hB hS)
set_option maxHeartbeats 4000000 in
set_option maxRecDepth 100000 in
theorem wS_say (X : sv_X D cI cZ cN cQ "SliceVoting" cS_say 5 10 p R s m args c) (hP : sv_cP D cI cN cQ n qc ad σ H) (hJ : sv_inj (3 + 3 * n + qc) ad) (hA : ∀ k, k < (3 + 3 * n + qc) → A (ad k)) (hS : va_S A H0 H locs) {v w x z : Int32} (hn : n ≤ 6) (hI : sv_IQ n qc σ) (hIS : sv_IS n σ) (hl : lv_has ls 5 [(0, .ref (ad 0)), (1, .int v), (2, .int w), (3, .int x), (4, .int z)]) (ret : ∀ (pc : Nat) (ls : Array Slot) (H : Heap) (locs : List Loc), decode cS_say pc = .ok (.ireturn, 1) → va_S A H0 H locs → sv_cP D cI cN cQ n qc ad (sv_syS n qc σ v w x z) H → W p l e R s m args below meth c H locs 0 0 Q (F0 m pc ls [.int (sv_b (sv_syC n σ v w))])) : W p l e R s m args below meth c H locs 0 0 Q (F0 m 0 ls []) := by
  have hx := X.1
  have hb := X.2.1
  refine lv_aload_n (i := 0) hx hb dS_say_0 rfl (sv_at hl rfl) ?_
  refine lv_iload_n (i := 1) hx hb dS_say_1 rfl (sv_at hl rfl) ?_
  refine kS_isNode X (by decide) hP  hl (Nat.zero_le _) (Nat.zero_le _) (Nat.le_of_ble_eq_true rfl) dS_say_2 ?_
  refine x_ifeqB (tgt := 24) hx hb dS_say_5 rfl (fun h5 => ?_) (fun h5 => ?_)
  · skip
    refine lv_iconst (v := 0) hx hb dS_say_24 (by decide) ?_
    first | exact x_tv (by unfold sv_syC; rw [h21, Bool.and_false, Bool.and_false]; rfl) (ret _ _ _ _ dS_say_25 hS (by unfold sv_syS sv_syC; rw [h21, Bool.and_false, Bool.and_false]; exact hP)) | exact x_tv (by unfold sv_syC; rw [h13, Bool.not_true, Bool.false_and, Bool.and_false]; rfl) (ret _ _ _ _ dS_say_25 hS (by unfold sv_syS sv_syC; rw [h13, Bool.not_true, Bool.false_and, Bool.and_false]; exact hP)) | exact x_tv (by unfold sv_syC; rw [h5]; rfl) (ret _ _ _ _ dS_say_25 hS (by unfold sv_syS sv_syC; rw [h5]; exact hP))
  · skip
    refine lv_aload_n (i := 0) hx hb dS_say_8 rfl (sv_at hl rfl) ?_
    refine lv_iload_n (i := 1) hx hb dS_say_9 rfl (sv_at hl rfl) ?_
    refine kS_isWellBehaved X (by decide) hP hn hl (Nat.zero_le _) (Nat.zero_le _) (Nat.le_of_ble_eq_true rfl) dS_say_10 ?_
    refine x_ifneB (tgt := 24) hx hb dS_say_13 rfl (fun h13 => ?_) (fun h13 => ?_)
    · skip
      refine lv_iconst (v := 0) hx hb dS_say_24 (by decide) ?_
      first | exact x_tv (by unfold sv_syC; rw [h21, Bool.and_false, Bool.and_false]; rfl) (ret _ _ _ _ dS_say_25 hS (by unfold sv_syS sv_syC; rw [h21, Bool.and_false, Bool.and_false]; exact hP)) | exact x_tv (by unfold sv_syC; rw [h13, Bool.not_true, Bool.false_and, Bool.and_false]; rfl) (ret _ _ _ _ dS_say_25 hS (by unfold sv_syS sv_syC; rw [h13, Bool.not_true, Bool.false_and, Bool.and_false]; exact hP)) | exact x_tv (by unfold sv_syC; rw [h5]; rfl) (ret _ _ _ _ dS_say_25 hS (by unfold sv_syS sv_syC; rw [h5]; exact hP))
    · skip
      refine lv_aload_n (i := 0) hx hb dS_say_16 rfl (sv_at hl rfl) ?_
      refine lv_iload_n (i := 2) hx hb dS_say_17 rfl (sv_at hl rfl) ?_
      refine kS_isWellBehaved X (by decide) hP hn hl (Nat.zero_le _) (Nat.zero_le _) (Nat.le_of_ble_eq_true rfl) dS_say_18 ?_
      refine x_ifneB (tgt := 26) hx hb dS_say_21 rfl (fun h21 => ?_) (fun h21 => ?_)
      · skip
        obtain ⟨a, ha, rfl⟩ := sv_isn_t (by omega) h5
        obtain ⟨b, hb9, rfl, hb0⟩ := sv_wel_t (by omega) h21
        have hab : a ≠ b := fun q => by rw [q, h21] at h13; cases h13
        refine lv_aload_n (i := 0) hx hb dS_say_26 rfl (sv_at hl rfl) ?_
        refine lv_aload_n (i := 0) hx hb dS_say_27 rfl (sv_at hl rfl) ?_
        refine gS_nodes X hP dS_say_28 ?_
        refine lv_iload_n (i := 2) hx hb dS_say_31 rfl (sv_at hl rfl) ?_
        refine gA_nodes X hP hn (by omega) dS_say_32 ?_
        refine lv_iload_n (i := 1) hx hb dS_say_33 rfl (sv_at hl rfl) ?_
        refine lv_iload_n (i := 3) hx hb dS_say_34 rfl (sv_at hl rfl) ?_
        refine lv_ldc (v := 16777215) hx hb X.own (X.hts _ (sv_tb_t 249 rfl rfl)) dS_say_35 ?_
        refine lv_iand hx hb dS_say_37 ?_
        refine lv_iload (i := 4) hx hb dS_say_38 (sv_at hl rfl) ?_
        refine lv_ldc (v := 16777215) hx hb X.own (X.hts _ (sv_tb_t 249 rfl rfl)) dS_say_40 ?_
        refine lv_iand hx hb dS_say_42 ?_
        refine kS_hear X (by decide) hP hJ hA hS hn hb9 ha hl (Nat.zero_le _) (Nat.zero_le _) (Nat.le_of_ble_eq_true rfl) dS_say_43 (fun H locs hP hS => ?_)
        refine lv_aload_n (i := 0) hx hb dS_say_46 rfl (sv_at hl rfl) ?_
        refine lv_aload_n (i := 0) hx hb dS_say_47 rfl (sv_at hl rfl) ?_
        refine gS_nodes X hP dS_say_48 ?_
        refine lv_iload_n (i := 2) hx hb dS_say_51 rfl (sv_at hl rfl) ?_
        refine gA_nodes X hP hn (by omega) dS_say_52 ?_
        refine kS_settle X (by decide) hP hJ hA hS hn (sv_her_ok hab hI hIS).1 (sv_her_ok hab hI hIS).2 hb9 hl (Nat.zero_le _) (Nat.zero_le _) (Nat.le_of_ble_eq_true rfl) dS_say_53 (fun H locs hP hS => ?_)
        refine lv_iconst (v := 1) hx hb dS_say_56 (by decide) ?_
        exact x_tv (by unfold sv_syC; rw [h5, h13, h21]; rfl) (ret _ _ _ _ dS_say_57 hS (by unfold sv_syS sv_syC; rw [h5, h13, h21, nI_clamp (by omega), nI_clamp (by omega)]; exact hP))
      · skip
        refine lv_iconst (v := 0) hx hb dS_say_24 (by decide) ?_
        first | exact x_tv (by unfold sv_syC; rw [h21, Bool.and_false, Bool.and_false]; rfl) (ret _ _ _ _ dS_say_25 hS (by unfold sv_syS sv_syC; rw [h21, Bool.and_false, Bool.and_false]; exact hP)) | exact x_tv (by unfold sv_syC; rw [h13, Bool.not_true, Bool.false_and, Bool.and_false]; rfl) (ret _ _ _ _ dS_say_25 hS (by unfold sv_syS sv_syC; rw [h13, Bool.not_true, Bool.false_and, Bool.and_false]; exact hP)) | exact x_tv (by unfold sv_syC; rw [h5]; rfl) (ret _ _ _ _ dS_say_25 hS (by unfold sv_syS sv_syC; rw [h5]; exact hP))

theorem cS_m_say (hJ : sv_inj (3 + 3 * n + qc) ad) (hA : ∀ k, k < (3 + 3 * n + qc) → A (ad k)) {v w x z : Int32} (hn : n ≤ 6) (hI : sv_IQ n qc σ) (hIS : sv_IS n σ) : Met l yS_say (sv_ws yS_say cS_say 5 (some .boolean)) (sv_rm 10) (sv_Pc D cI cZ cN cQ [.ref (ad 0), .int v, .int w, .int x, .int z] (fun H => sv_cP D cI cN cQ n qc ad σ H)) (va_Qi (fun r u => r = sv_b (sv_syC n σ v w) ∧ u = sv_syS n qc σ v w x z) (fun u t => sv_cP D cI cN cQ n qc ad u t.heap) A) 0 0 A :=
  sv_mkI (S := Sg) (B := fun u H => sv_cP D cI cN cQ n qc ad u H) (by decide) (by show 5 ≤ 5; decide) (fun _ _ h => by rw [h.1]; exact sv_narb _) (fun p e s m below meth c ls Q X hP hl ret => wS_say X hP hJ hA va_S.rf hn hI hIS hl (fun pc ls H locs hd hS hP => ret pc ls _ _ H locs hd hS ⟨rfl, rfl⟩ hP))
theorem okL_S_say : sv_okV "SliceVotingLaw" 44 yS_say cS_say 5 (some .boolean) 4 := ⟨sv_tb_t 248 rfl rfl, sv_tb_t 245 rfl rfl, sv_tb_t 246 rfl rfl, sv_tb_t 247 rfl rfl, sv_tb_t 1 rfl rfl, ⟨by decide, by decide, by decide +kernel⟩, by decide⟩
theorem kL_say (X : sv_X D cI cZ cN cQ "SliceVotingLaw" cc nL k p R s m args c) (hk : 10 + 1 ≤ k) (hP : sv_cP D cI cN cQ n qc ad σ H) (hJ : sv_inj (3 + 3 * n + qc) ad) (hA : ∀ k, k < (3 + 3 * n + qc) → A (ad k)) (hS : va_S A H0 H locs) {v w x z : Int32} (hn : n ≤ 6) (hI : sv_IQ n qc σ) (hIS : sv_IS n σ) (hl : lv_has ls nL lv) (hc : cells ≤ R.cells) (hs : slots ≤ R.slots) (hcat : (rest.map fun v => v.category).sum ≤ 8) (hd : decode cc pc = .ok (.invokevirtual 44, 3)) (kk : ∀ (H1 : Heap) (locs1 : List Loc), sv_cP D cI cN cQ n qc ad (sv_syS n qc σ v w x z) H1 → va_S A H0 H1 locs1 → W p l e R s m args below meth c H1 locs1 cells slots Q (F0 m (pc + 3) ls (.int (sv_b (sv_syC n σ v w)) :: rest))) : W p l e R s m args below meth c H locs cells slots Q (F0 m pc ls (.int z :: .int x :: .int w :: .int v :: .ref (ad 0) :: rest)) :=
  sv_wVi (S := Sg) (G := fun H => sv_cP D cI cN cQ n qc ad σ H) (B := fun u H => sv_cP D cI cN cQ n qc ad u H) X okL_S_say (cS_m_say hJ hA hn hI hIS) hP (y_rec X.K hP (by omega) sv_ce_S rfl) hS hk rfl hl.1 rfl hcat hc hs hd (fun r u H1 locs1 hp hB hS => by obtain ⟨rfl, rfl⟩ := hp; exact kk H1 locs1 hB hS)
end SvMoves
