section SvVotes
variable {p : Program} {l : Launch} {e : Env} {R : Room} {s : State} {m : MethodId} {args : Array Value} {below : List Frame} {meth : Method} {c : Code} {H H0 : Heap} {locs : List Loc} {cells slots : Nat} {Q : State → Prop}
variable {cc : ByteArray} {pc nL k : Nat} {ls : Array Slot} {lv : List (Nat × Value)} {rest : List Value} {D : va_G} {cI cZ cN cQ : ClassId} {n qc : Nat} {ad : Nat → Nat} {σ : Sg} {A : Nat → Prop} {mt qm : Nat → Int32}
theorem sv_tv_self (v : Nat) : sv_tv v v = 10 := if_pos rfl
theorem sv_ta_self (v : Nat) : sv_ta v v = 11 := if_pos rfl
theorem sv_tp_self (v : Nat) : sv_tp v v = v := if_pos rfl
def sv_vS (σ : Sg) (v t : Nat) : Sg := bif sv_aga (σ 10 v ||| σ 11 v) t then σ else sg σ 10 v (σ 10 v ||| sv_bit t)
theorem sv_or_bit {x : Int32} {t : Nat} (ht : t < 32) (h : bt x t = true) : x ||| sv_bit t = x := b_ext fun i hi => by
  rw [sv_set_bt ht hi]
  by_cases e : i = t
  · rw [e, h]; rfl
  · rw [decide_eq_false e, Bool.or_false]
theorem sv_vS_eq {σ : Sg} {v t : Nat} (ht : t < 32) : sv_vS σ v t = sv_vote σ v t := by
  unfold sv_vS sv_vote
  cases e : sv_aga (σ 10 v ||| σ 11 v) t with
  | true => rw [Bool.or_true]
  | false =>
    cases e2 : bt (σ 10 v) t with
    | false => rfl
    | true =>
      show sg σ 10 v (σ 10 v ||| sv_bit t) = σ
      rw [sv_or_bit ht e2, sg_self]
def sv_aO (σ : Sg) (n qc v : Nat) : Option Sg := (sv_least (sv_mA σ n qc v) 24).map fun s => sg σ 11 v (σ 11 v ||| sv_bit s)
def sv_cO (σ : Sg) (n qc v : Nat) : Option Sg := (sv_least (sv_mC σ n qc v) 24).map fun s => sv_cf σ v s
def sv_vO (σ : Sg) (v : Nat) : Option Sg := bif sv_cC σ v then some (sg σ 10 v (σ 10 v ||| sv_bit (12 + sv_bal σ v))) else none
theorem sv_step_a {σ τ : Sg} {n qc v : Nat} (h : sv_aO σ n qc v = some τ) : sv_step σ n qc v = some τ := by
  unfold sv_aO at h
  unfold sv_step
  cases e : sv_least (sv_mA σ n qc v) 24 with
  | none => rw [e] at h; cases h
  | some s => rw [e] at h; exact h
theorem sv_step_c {σ τ : Sg} {n qc v : Nat} (h0 : sv_aO σ n qc v = none) (h : sv_cO σ n qc v = some τ) : sv_step σ n qc v = some τ := by
  unfold sv_aO at h0
  unfold sv_cO at h
  unfold sv_step
  cases e : sv_least (sv_mA σ n qc v) 24 with
  | some s => rw [e] at h0; cases h0
  | none =>
    cases e2 : sv_least (sv_mC σ n qc v) 24 with
    | none => rw [e2] at h; cases h
    | some s => rw [e2] at h; exact h
theorem sv_step_v {σ : Sg} {n qc v : Nat} (h0 : sv_aO σ n qc v = none) (h1 : sv_cO σ n qc v = none) : sv_step σ n qc v = sv_vO σ v := by
  unfold sv_aO at h0
  unfold sv_cO at h1
  unfold sv_step
  cases e : sv_least (sv_mA σ n qc v) 24 with
  | some s => rw [e] at h0; cases h0
  | none =>
    cases e2 : sv_least (sv_mC σ n qc v) 24 with
    | some s => rw [e2] at h1; cases h1
    | none => rfl
theorem sv_isSome_f {α : Type} {o : Option α} (h : o.isSome = false) : o = none := by cases o with | none => rfl | some _ => cases h
theorem sv_isSome_t {α : Type} {o : Option α} (h : o.isSome = true) : ∃ a, o = some a := by cases o with | none => cases h | some a => exact ⟨a, rfl⟩
theorem sv_vO_0 {σ : Sg} {v : Nat} (h : σ 13 v = 0) : sv_vO σ v = none := by
  unfold sv_vO sv_cC
  rw [h]
  rfl
theorem sv_vO_1 {σ : Sg} {v : Nat} (h : bt (σ 10 v) (12 + sv_bal σ v) = true) : sv_vO σ v = none := by
  unfold sv_vO sv_cC
  rw [h]
  simp
theorem sv_vO_2 {σ : Sg} {v : Nat} (h : bt (σ 12 v) (sv_bal σ v) = false) : sv_vO σ v = none := by
  unfold sv_vO sv_cC
  rw [h]
  simp
theorem sv_vO_3 {σ : Sg} {v : Nat} (h : (!sv_aga (σ 10 v ||| σ 11 v) (12 + sv_bal σ v)) = false) : sv_vO σ v = none := by
  unfold sv_vO sv_cC
  rw [h]
  simp
theorem sv_vO_y {σ : Sg} {v : Nat} (h0 : 0 < (σ 13 v).toNatClampNeg) (h1 : bt (σ 10 v) (12 + sv_bal σ v) = false) (h2 : bt (σ 12 v) (sv_bal σ v) = true) (h3 : (!sv_aga (σ 10 v ||| σ 11 v) (12 + sv_bal σ v)) = true) : sv_vO σ v = some (sv_vS σ v (12 + sv_bal σ v)) := by
  unfold sv_vO sv_cC sv_vS
  rw [h1, h2, h3, decide_eq_true h0]
  rw [Bool.not_eq_true'] at h3
  rw [h3]
  rfl
theorem sv_vS_n {σ : Sg} {v t : Nat} (h : (!sv_aga (σ 10 v ||| σ 11 v) t) = false) : sv_vS σ v t = σ := by
  unfold sv_vS
  rw [Bool.not_eq_false'] at h
  rw [h]
  rfl
def sv_dB (σ : Sg) (v t : Nat) : Sg := bif decide (12 ≤ t) && (σ 15 v == -1) then sg σ 15 v (nI (t % 3)) else σ
theorem sv_dB_cf (σ : Sg) (v t : Nat) : sv_dB (sg σ 12 v (σ 12 v ||| sv_bit t)) v t = sv_cf σ v t := by
  unfold sv_dB sv_cf
  rw [sg_off σ _ (Or.inl (by decide : (15 : Nat) ≠ 12))]
def sv_her (σ : Sg) (v w : Nat) (x y : Int32) : Sg := sg (sg (sg σ 1 0 1) (sv_tv v w) (sv_tp v w) x) (sv_ta v w) (sv_tp v w) y
set_option maxHeartbeats 4000000 in
set_option maxRecDepth 100000 in
theorem wS_voteIfAllowed (X : sv_X D cI cZ cN cQ "SliceVoting" cS_voteIfAllowed 3 4 p R s m args c) (hP : sv_cP D cI cN cQ n qc ad σ H) (hJ : sv_inj (3 + 3 * n + qc) ad) (hA : ∀ k, k < (3 + 3 * n + qc) → A (ad k)) (hS : va_S A H0 H locs) {v t : Nat} (hn : n ≤ 6) (hv : v < n) (ht : t < 24) (hl : lv_has ls 3 [(0, .ref (ad (2 + 3 * v))), (1, .int (nI t))]) (ret : ∀ (pc : Nat) (ls : Array Slot) (H : Heap) (locs : List Loc), decode cS_voteIfAllowed pc = .ok (.ireturn, 1) → va_S A H0 H locs → sv_cP D cI cN cQ n qc ad (sv_vS σ v t) H → W p l e R s m args below meth c H locs 0 0 Q (F0 m pc ls [.int (sv_b (!sv_aga (σ 10 v ||| σ 11 v) t))])) : W p l e R s m args below meth c H locs 0 0 Q (F0 m 0 ls []) := by
  have hx := X.1
  have hb := X.2.1
  refine lv_aload_n (i := 0) hx hb dS_voteIfAllowed_0 rfl (sv_at hl rfl) ?_
  refine gN_number X hP (by omega) dS_voteIfAllowed_1 ?_
  refine lv_istore_n (i := 2) hx hb dS_voteIfAllowed_4 rfl hl (by decide) rfl (fun ls hl => ?_)
  refine lv_iload_n (i := 1) hx hb dS_voteIfAllowed_5 rfl (sv_at hl rfl) ?_
  refine lv_aload_n (i := 0) hx hb dS_voteIfAllowed_6 rfl (sv_at hl rfl) ?_
  refine gN_knownVotes X hP (by omega) dS_voteIfAllowed_7 ?_
  refine lv_iload_n (i := 2) hx hb dS_voteIfAllowed_10 rfl (sv_at hl rfl) ?_
  refine gI_V X hP hn (by omega) (by omega) dS_voteIfAllowed_11 ?_
  refine lv_aload_n (i := 0) hx hb dS_voteIfAllowed_12 rfl (sv_at hl rfl) ?_
  refine gN_knownAccepts X hP (by omega) dS_voteIfAllowed_13 ?_
  refine lv_iload_n (i := 2) hx hb dS_voteIfAllowed_16 rfl (sv_at hl rfl) ?_
  refine gI_C X hP hn (by omega) (by omega) dS_voteIfAllowed_17 ?_
  refine lv_ior hx hb dS_voteIfAllowed_18 ?_
  refine x_tv (y := σ 10 v ||| σ 11 v) (by rw [sv_kv_self, sv_ka_self]) ?_
  refine kS_contradictsOneOf X (by decide) (by omega) hl (Nat.zero_le _) (Nat.zero_le _) (Nat.le_of_ble_eq_true rfl) dS_voteIfAllowed_19 ?_
  refine x_ifeqB (tgt := 27) hx hb dS_voteIfAllowed_22 rfl (fun h22 => ?_) (fun h22 => ?_)
  · skip
    refine lv_aload_n (i := 0) hx hb dS_voteIfAllowed_27 rfl (sv_at hl rfl) ?_
    refine gN_knownVotes X hP (by omega) dS_voteIfAllowed_28 ?_
    refine lv_iload_n (i := 2) hx hb dS_voteIfAllowed_31 rfl (sv_at hl rfl) ?_
    refine lv_dup2_11 hx hb dS_voteIfAllowed_32 rfl rfl ?_
    refine gI_V X hP hn (by omega) (by omega) dS_voteIfAllowed_33 ?_
    refine lv_iconst (v := 1) hx hb dS_voteIfAllowed_34 (by decide) ?_
    refine lv_iload_n (i := 1) hx hb dS_voteIfAllowed_35 rfl (sv_at hl rfl) ?_
    refine lv_ishl hx hb dS_voteIfAllowed_36 ?_
    refine lv_ior hx hb dS_voteIfAllowed_37 ?_
    refine x_tv (y := σ 10 v ||| sv_bit t) (by rw [sv_kv_self]; rfl) ?_
    refine pI_V X hP hJ hA hS hn (by omega) (by omega) dS_voteIfAllowed_38 (fun H locs hP hS => ?_)
    rw [sv_tv_self, sv_tp_self] at hP
    refine lv_iconst (v := 1) hx hb dS_voteIfAllowed_39 (by decide) ?_
    exact x_tv (by rw [h22]; rfl) (ret _ _ _ _ dS_voteIfAllowed_40 hS (by unfold sv_vS; rw [h22]; exact hP))
  · skip
    refine lv_iconst (v := 0) hx hb dS_voteIfAllowed_25 (by decide) ?_
    exact x_tv (by rw [h22]; rfl) (ret _ _ _ _ dS_voteIfAllowed_26 hS (by unfold sv_vS; rw [h22]; exact hP))

theorem cS_m_voteIfAllowed (hJ : sv_inj (3 + 3 * n + qc) ad) (hA : ∀ k, k < (3 + 3 * n + qc) → A (ad k)) {v t : Nat} (hn : n ≤ 6) (hv : v < n) (ht : t < 24) : Met l yS_voteIfAllowed (sv_ws yS_voteIfAllowed cS_voteIfAllowed 3 (some .boolean)) (sv_rm 4) (sv_Pc D cI cZ cN cQ [.ref (ad (2 + 3 * v)), .int (nI t)] (fun H => sv_cP D cI cN cQ n qc ad σ H)) (va_Qi (fun r u => r = sv_b (!sv_aga (σ 10 v ||| σ 11 v) t) ∧ u = sv_vS σ v t) (fun u t => sv_cP D cI cN cQ n qc ad u t.heap) A) 0 0 A :=
  sv_mkI (S := Sg) (B := fun u H => sv_cP D cI cN cQ n qc ad u H) (by decide) (by show 2 ≤ 3; decide) (fun _ _ h => by rw [h.1]; exact sv_narb _) (fun p e s m below meth c ls Q X hP hl ret => wS_voteIfAllowed X hP hJ hA va_S.rf hn hv ht hl (fun pc ls H locs hd hS hP => ret pc ls _ _ H locs hd hS ⟨rfl, rfl⟩ hP))
theorem okS_S_voteIfAllowed : sv_okS "SliceVoting" 85 yS_voteIfAllowed cS_voteIfAllowed 3 (some .boolean) 2 := ⟨sv_tb_t 171 rfl rfl, sv_tb_t 169 rfl rfl, sv_tb_t 170 rfl rfl, sv_tb_t 1 rfl rfl, ⟨by decide, by decide, by decide +kernel⟩, by decide⟩
theorem kS_voteIfAllowed (X : sv_X D cI cZ cN cQ "SliceVoting" cc nL k p R s m args c) (hk : 4 + 1 ≤ k) (hP : sv_cP D cI cN cQ n qc ad σ H) (hJ : sv_inj (3 + 3 * n + qc) ad) (hA : ∀ k, k < (3 + 3 * n + qc) → A (ad k)) (hS : va_S A H0 H locs) {v t : Nat} (hn : n ≤ 6) (hv : v < n) (ht : t < 24) (hl : lv_has ls nL lv) (hc : cells ≤ R.cells) (hs : slots ≤ R.slots) (hcat : (rest.map fun v => v.category).sum ≤ 8) (hd : decode cc pc = .ok (.invokestatic 85, 3)) (kk : ∀ (H1 : Heap) (locs1 : List Loc), sv_cP D cI cN cQ n qc ad (sv_vS σ v t) H1 → va_S A H0 H1 locs1 → W p l e R s m args below meth c H1 locs1 cells slots Q (F0 m (pc + 3) ls (.int (sv_b (!sv_aga (σ 10 v ||| σ 11 v) t)) :: rest))) : W p l e R s m args below meth c H locs cells slots Q (F0 m pc ls (.int (nI t) :: .ref (ad (2 + 3 * v)) :: rest)) :=
  sv_wSi (S := Sg) (G := fun H => sv_cP D cI cN cQ n qc ad σ H) (B := fun u H => sv_cP D cI cN cQ n qc ad u H) X okS_S_voteIfAllowed (cS_m_voteIfAllowed hJ hA hn hv ht) hP hS hk rfl hl.1 rfl hcat hc hs hd (fun r u H1 locs1 hp hB hS => by obtain ⟨rfl, rfl⟩ := hp; exact kk H1 locs1 hB hS)
set_option maxHeartbeats 4000000 in
set_option maxRecDepth 100000 in
theorem wS_hear (X : sv_X D cI cZ cN cQ "SliceVoting" cS_hear 5 1 p R s m args c) (hP : sv_cP D cI cN cQ n qc ad σ H) (hJ : sv_inj (3 + 3 * n + qc) ad) (hA : ∀ k, k < (3 + 3 * n + qc) → A (ad k)) (hS : va_S A H0 H locs) {v w : Nat} {x z : Int32} (hn : n ≤ 6) (hv : v < n) (hw : w < n) (hl : lv_has ls 5 [(0, .ref (ad 0)), (1, .ref (ad (2 + 3 * v))), (2, .int (nI w)), (3, .int x), (4, .int z)]) (ret : ∀ (pc : Nat) (ls : Array Slot) (H : Heap) (locs : List Loc), decode cS_hear pc = .ok (.return_, 1) → va_S A H0 H locs → sv_cP D cI cN cQ n qc ad (sv_her σ v w x z) H → W p l e R s m args below meth c H locs 0 0 Q (F0 m pc ls [])) : W p l e R s m args below meth c H locs 0 0 Q (F0 m 0 ls []) := by
  have hx := X.1
  have hb := X.2.1
  refine lv_aload_n (i := 0) hx hb dS_hear_0 rfl (sv_at hl rfl) ?_
  refine lv_iconst (v := 1) hx hb dS_hear_1 (by decide) ?_
  refine pS_moving X hP hJ hA hS dS_hear_2 (fun H locs hP hS => ?_)
  refine lv_aload_n (i := 1) hx hb dS_hear_5 rfl (sv_at hl rfl) ?_
  refine gN_knownVotes X hP (by omega) dS_hear_6 ?_
  refine lv_iload_n (i := 2) hx hb dS_hear_9 rfl (sv_at hl rfl) ?_
  refine lv_iload_n (i := 3) hx hb dS_hear_10 rfl (sv_at hl rfl) ?_
  refine pI_V X hP hJ hA hS hn (by omega) (by omega) dS_hear_11 (fun H locs hP hS => ?_)
  refine lv_aload_n (i := 1) hx hb dS_hear_12 rfl (sv_at hl rfl) ?_
  refine gN_knownAccepts X hP (by omega) dS_hear_13 ?_
  refine lv_iload_n (i := 2) hx hb dS_hear_16 rfl (sv_at hl rfl) ?_
  refine lv_iload (i := 4) hx hb dS_hear_17 (sv_at hl rfl) ?_
  refine pI_C X hP hJ hA hS hn (by omega) (by omega) dS_hear_19 (fun H locs hP hS => ?_)
  exact ret _ _ _ _ dS_hear_20 hS hP

theorem cS_m_hear (hJ : sv_inj (3 + 3 * n + qc) ad) (hA : ∀ k, k < (3 + 3 * n + qc) → A (ad k)) {v w : Nat} {x z : Int32} (hn : n ≤ 6) (hv : v < n) (hw : w < n) : Met l yS_hear (sv_ws yS_hear cS_hear 5 none) (sv_rm 1) (sv_Pc D cI cZ cN cQ [.ref (ad 0), .ref (ad (2 + 3 * v)), .int (nI w), .int x, .int z] (fun H => sv_cP D cI cN cQ n qc ad σ H)) (va_Qv (fun u => u = sv_her σ v w x z) (fun u t => sv_cP D cI cN cQ n qc ad u t.heap) A) 0 0 A :=
  sv_mkV (S := Sg) (B := fun u H => sv_cP D cI cN cQ n qc ad u H) (by decide) (by show 5 ≤ 5; decide) (fun p e s m below meth c ls Q X hP hl ret => wS_hear X hP hJ hA va_S.rf hn hv hw hl (fun pc ls H locs hd hS hP => ret pc ls _ H locs hd hS rfl hP))
theorem okS_S_hear : sv_okV "SliceVoting" 100 yS_hear cS_hear 5 none 4 := ⟨sv_tb_t 244 rfl rfl, sv_tb_t 241 rfl rfl, sv_tb_t 243 rfl rfl, sv_tb_s 14 rfl rfl, sv_tb_t 1 rfl rfl, ⟨by decide, by decide, by decide +kernel⟩, by decide⟩
theorem kS_hear (X : sv_X D cI cZ cN cQ "SliceVoting" cc nL k p R s m args c) (hk : 1 + 1 ≤ k) (hP : sv_cP D cI cN cQ n qc ad σ H) (hJ : sv_inj (3 + 3 * n + qc) ad) (hA : ∀ k, k < (3 + 3 * n + qc) → A (ad k)) (hS : va_S A H0 H locs) {v w : Nat} {x z : Int32} (hn : n ≤ 6) (hv : v < n) (hw : w < n) (hl : lv_has ls nL lv) (hc : cells ≤ R.cells) (hs : slots ≤ R.slots) (hcat : (rest.map fun v => v.category).sum ≤ 8) (hd : decode cc pc = .ok (.invokevirtual 100, 3)) (kk : ∀ (H1 : Heap) (locs1 : List Loc), sv_cP D cI cN cQ n qc ad (sv_her σ v w x z) H1 → va_S A H0 H1 locs1 → W p l e R s m args below meth c H1 locs1 cells slots Q (F0 m (pc + 3) ls rest)) : W p l e R s m args below meth c H locs cells slots Q (F0 m pc ls (.int z :: .int x :: .int (nI w) :: .ref (ad (2 + 3 * v)) :: .ref (ad 0) :: rest)) :=
  sv_wVv (S := Sg) (G := fun H => sv_cP D cI cN cQ n qc ad σ H) (B := fun u H => sv_cP D cI cN cQ n qc ad u H) X okS_S_hear (cS_m_hear hJ hA hn hv hw) hP (y_rec X.K hP (by omega) sv_ce_S rfl) hS hk rfl hl.1 rfl hcat hc hs hd (fun u H1 locs1 hp hB hS => by subst hp; exact kk H1 locs1 hB hS)
set_option maxHeartbeats 4000000 in
set_option maxRecDepth 100000 in
theorem wS_decideBy (X : sv_X D cI cZ cN cQ "SliceVoting" cS_decideBy 2 2 p R s m args c) (hP : sv_cP D cI cN cQ n qc ad σ H) (hJ : sv_inj (3 + 3 * n + qc) ad) (hA : ∀ k, k < (3 + 3 * n + qc) → A (ad k)) (hS : va_S A H0 H locs) {v t : Nat} (hn : n ≤ 6) (hv : v < n) (ht : t < 24) (hl : lv_has ls 2 [(0, .ref (ad (2 + 3 * v))), (1, .int (nI t))]) (ret : ∀ (pc : Nat) (ls : Array Slot) (H : Heap) (locs : List Loc), decode cS_decideBy pc = .ok (.return_, 1) → va_S A H0 H locs → sv_cP D cI cN cQ n qc ad (sv_dB σ v t) H → W p l e R s m args below meth c H locs 0 0 Q (F0 m pc ls [])) : W p l e R s m args below meth c H locs 0 0 Q (F0 m 0 ls []) := by
  have hx := X.1
  have hb := X.2.1
  refine lv_iload_n (i := 1) hx hb dS_decideBy_0 rfl (sv_at hl rfl) ?_
  refine kS_isCommit X (by decide) (by omega) hl (Nat.zero_le _) (Nat.zero_le _) (Nat.le_of_ble_eq_true rfl) dS_decideBy_1 ?_
  refine x_ifeqB (tgt := 23) hx hb dS_decideBy_4 rfl (fun h4 => ?_) (fun h4 => ?_)
  · skip
    exact ret _ _ _ _ dS_decideBy_23 hS (by unfold sv_dB; first | (rw [h12, h4]; exact hP) | (rw [h4, show (σ 15 v == -1) = false from beq_eq_false_iff_ne.mpr h12, Bool.and_false]; exact hP) | (rw [h4]; exact hP))
  · skip
    refine lv_aload_n (i := 0) hx hb dS_decideBy_7 rfl (sv_at hl rfl) ?_
    refine gN_decision X hP (by omega) dS_decideBy_8 ?_
    refine lv_iconst (v := -1) hx hb dS_decideBy_11 (by decide) ?_
    refine lv_icmp_ne (tgt := 23) hx hb dS_decideBy_12 rfl (fun h12 => ?_) (fun h12 => ?_)
    · skip
      exact ret _ _ _ _ dS_decideBy_23 hS (by unfold sv_dB; first | (rw [h12, h4]; exact hP) | (rw [h4, show (σ 15 v == -1) = false from beq_eq_false_iff_ne.mpr h12, Bool.and_false]; exact hP) | (rw [h4]; exact hP))
    · skip
      refine lv_aload_n (i := 0) hx hb dS_decideBy_15 rfl (sv_at hl rfl) ?_
      refine lv_iload_n (i := 1) hx hb dS_decideBy_16 rfl (sv_at hl rfl) ?_
      refine kS_valueOf X (by decide) (by omega) hl (Nat.zero_le _) (Nat.zero_le _) (Nat.le_of_ble_eq_true rfl) dS_decideBy_17 ?_
      refine pN_decision X hP hJ hA hS (by omega) dS_decideBy_20 (fun H locs hP hS => ?_)
      exact ret _ _ _ _ dS_decideBy_23 hS (by unfold sv_dB; first | (rw [h12, h4]; exact hP) | (rw [h4, show (σ 15 v == -1) = false from beq_eq_false_iff_ne.mpr h12, Bool.and_false]; exact hP) | (rw [h4]; exact hP))

theorem cS_m_decideBy (hJ : sv_inj (3 + 3 * n + qc) ad) (hA : ∀ k, k < (3 + 3 * n + qc) → A (ad k)) {v t : Nat} (hn : n ≤ 6) (hv : v < n) (ht : t < 24) : Met l yS_decideBy (sv_ws yS_decideBy cS_decideBy 2 none) (sv_rm 2) (sv_Pc D cI cZ cN cQ [.ref (ad (2 + 3 * v)), .int (nI t)] (fun H => sv_cP D cI cN cQ n qc ad σ H)) (va_Qv (fun u => u = sv_dB σ v t) (fun u t => sv_cP D cI cN cQ n qc ad u t.heap) A) 0 0 A :=
  sv_mkV (S := Sg) (B := fun u H => sv_cP D cI cN cQ n qc ad u H) (by decide) (by show 2 ≤ 2; decide) (fun p e s m below meth c ls Q X hP hl ret => wS_decideBy X hP hJ hA va_S.rf hn hv ht hl (fun pc ls H locs hd hS hP => ret pc ls _ H locs hd hS rfl hP))
theorem okS_S_decideBy : sv_okS "SliceVoting" 204 yS_decideBy cS_decideBy 2 none 2 := ⟨sv_tb_t 230 rfl rfl, sv_tb_t 228 rfl rfl, sv_tb_t 229 rfl rfl, sv_tb_t 1 rfl rfl, ⟨by decide, by decide, by decide +kernel⟩, by decide⟩
theorem kS_decideBy (X : sv_X D cI cZ cN cQ "SliceVoting" cc nL k p R s m args c) (hk : 2 + 1 ≤ k) (hP : sv_cP D cI cN cQ n qc ad σ H) (hJ : sv_inj (3 + 3 * n + qc) ad) (hA : ∀ k, k < (3 + 3 * n + qc) → A (ad k)) (hS : va_S A H0 H locs) {v t : Nat} (hn : n ≤ 6) (hv : v < n) (ht : t < 24) (hl : lv_has ls nL lv) (hc : cells ≤ R.cells) (hs : slots ≤ R.slots) (hcat : (rest.map fun v => v.category).sum ≤ 8) (hd : decode cc pc = .ok (.invokestatic 204, 3)) (kk : ∀ (H1 : Heap) (locs1 : List Loc), sv_cP D cI cN cQ n qc ad (sv_dB σ v t) H1 → va_S A H0 H1 locs1 → W p l e R s m args below meth c H1 locs1 cells slots Q (F0 m (pc + 3) ls rest)) : W p l e R s m args below meth c H locs cells slots Q (F0 m pc ls (.int (nI t) :: .ref (ad (2 + 3 * v)) :: rest)) :=
  sv_wSv (S := Sg) (G := fun H => sv_cP D cI cN cQ n qc ad σ H) (B := fun u H => sv_cP D cI cN cQ n qc ad u H) X okS_S_decideBy (cS_m_decideBy hJ hA hn hv ht) hP hS hk rfl hl.1 rfl hcat hc hs hd (fun u H1 locs1 hp hB hS => by subst hp; exact kk H1 locs1 hB hS)
set_option maxHeartbeats 4000000 in
set_option maxRecDepth 100000 in
theorem wS_acceptLeast (X : sv_X D cI cZ cN cQ "SliceVoting" cS_acceptLeast 3 8 p R s m args c) (hP : sv_cP D cI cN cQ n qc ad σ H) (hJ : sv_inj (3 + 3 * n + qc) ad) (hA : ∀ k, k < (3 + 3 * n + qc) → A (ad k)) (hS : va_S A H0 H locs) {v : Nat} (hn : n ≤ 6) (hI : sv_IQ n qc σ) (hv : v < n) (hl : lv_has ls 3 [(0, .ref (ad 0)), (1, .ref (ad (2 + 3 * v)))]) (ret : ∀ (pc : Nat) (ls : Array Slot) (H : Heap) (locs : List Loc), decode cS_acceptLeast pc = .ok (.ireturn, 1) → va_S A H0 H locs → sv_cP D cI cN cQ n qc ad ((sv_aO σ n qc v).getD σ) H → W p l e R s m args below meth c H locs 0 0 Q (F0 m pc ls [.int (sv_b (sv_aO σ n qc v).isSome)])) : W p l e R s m args below meth c H locs 0 0 Q (F0 m 0 ls []) := by
  have hx := X.1
  have hb := X.2.1
  have J2 : ∀ (kf : Nat) (i : Nat) (ls : Array Slot), 24 - i < kf → (i ≤ 24) → (∀ t, t < i → sv_mA σ n qc v t = false) → lv_has ls 3 [(0, .ref (ad 0)), (1, .ref (ad (2 + 3 * v))), (2, .int (nI i))] → W p l e R s m args below meth c H locs 0 0 Q (F0 m 2 ls []) := by
    intro kf
    induction kf with
    | zero => intro i ls hm; exact absurd hm (Nat.not_lt_zero _)
    | succ kf ih =>
      intro i ls hm hi hno hl
      refine lv_iload_n (i := 2) hx hb dS_acceptLeast_2 rfl (sv_at hl rfl) ?_
      refine lv_bipush (v := nI 24) hx hb dS_acceptLeast_3 (by decide) ?_
      refine lv_icmp_ge (tgt := 40) hx hb dS_acceptLeast_5 rfl (fun h5 => ?_) (fun h5 => ?_)
      · skip
        rw [nI_leI (by omega) (by omega)] at h5
        refine lv_iconst (v := 0) hx hb dS_acceptLeast_40 (by decide) ?_
        exact x_tv (by unfold sv_aO; rw [sv_least_no 24 (fun j hj => hno j (by omega))]; rfl) (ret _ _ _ _ dS_acceptLeast_41 hS (by unfold sv_aO; rw [sv_least_no 24 (fun j hj => hno j (by omega))]; exact hP))
      · skip
        rw [nI_leI (by omega) (by omega)] at h5
        refine lv_aload_n (i := 0) hx hb dS_acceptLeast_8 rfl (sv_at hl rfl) ?_
        refine lv_aload_n (i := 1) hx hb dS_acceptLeast_9 rfl (sv_at hl rfl) ?_
        refine lv_iload_n (i := 2) hx hb dS_acceptLeast_10 rfl (sv_at hl rfl) ?_
        refine kS_mayAccept X (by decide) hP hn hI (by omega) (by omega) hl (Nat.zero_le _) (Nat.zero_le _) (Nat.le_of_ble_eq_true rfl) dS_acceptLeast_11 ?_
        refine x_ifeqB (tgt := 34) hx hb dS_acceptLeast_14 rfl (fun h14 => ?_) (fun h14 => ?_)
        · skip
          refine x_iinc (i := 2) hx hb dS_acceptLeast_34 hl rfl (sv_inc i) (by decide) (fun ls hl => ?_)
          refine lv_goto (tgt := 2) hx hb dS_acceptLeast_37 rfl ?_
          exact ih (i + 1) ls (by omega) (by omega) (lt_s hno h14) (sv_re hl ⟨rfl, rfl, rfl, trivial⟩)
        · skip
          refine lv_aload_n (i := 1) hx hb dS_acceptLeast_17 rfl (sv_at hl rfl) ?_
          refine gN_knownAccepts X hP (by omega) dS_acceptLeast_18 ?_
          refine lv_aload_n (i := 1) hx hb dS_acceptLeast_21 rfl (sv_at hl rfl) ?_
          refine gN_number X hP (by omega) dS_acceptLeast_22 ?_
          refine lv_dup2_11 hx hb dS_acceptLeast_25 rfl rfl ?_
          refine gI_C X hP hn (by omega) (by omega) dS_acceptLeast_26 ?_
          refine lv_iconst (v := 1) hx hb dS_acceptLeast_27 (by decide) ?_
          refine lv_iload_n (i := 2) hx hb dS_acceptLeast_28 rfl (sv_at hl rfl) ?_
          refine lv_ishl hx hb dS_acceptLeast_29 ?_
          refine lv_ior hx hb dS_acceptLeast_30 ?_
          refine x_tv (y := σ 11 v ||| sv_bit i) (by rw [sv_ka_self]; rfl) ?_
          refine pI_C X hP hJ hA hS hn (by omega) (by omega) dS_acceptLeast_31 (fun H locs hP hS => ?_)
          rw [sv_ta_self, sv_tp_self] at hP
          refine lv_iconst (v := 1) hx hb dS_acceptLeast_32 (by decide) ?_
          exact x_tv (by unfold sv_aO; rw [sv_least_is 24 (show i < 24 by omega) h14 hno]; rfl) (ret _ _ _ _ dS_acceptLeast_33 hS (by unfold sv_aO; rw [sv_least_is 24 (show i < 24 by omega) h14 hno]; exact hP))
  refine lv_iconst (v := 0) hx hb dS_acceptLeast_0 (by decide) ?_
  refine lv_istore_n (i := 2) hx hb dS_acceptLeast_1 rfl hl (by decide) rfl (fun ls hl => ?_)
  exact J2 _ 0 ls (Nat.lt_succ_self _) (Nat.zero_le _) lt_0 (sv_re hl ⟨rfl, rfl, rfl, trivial⟩)

theorem cS_m_acceptLeast (hJ : sv_inj (3 + 3 * n + qc) ad) (hA : ∀ k, k < (3 + 3 * n + qc) → A (ad k)) {v : Nat} (hn : n ≤ 6) (hI : sv_IQ n qc σ) (hv : v < n) : Met l yS_acceptLeast (sv_ws yS_acceptLeast cS_acceptLeast 3 (some .boolean)) (sv_rm 8) (sv_Pc D cI cZ cN cQ [.ref (ad 0), .ref (ad (2 + 3 * v))] (fun H => sv_cP D cI cN cQ n qc ad σ H)) (va_Qi (fun r u => r = sv_b (sv_aO σ n qc v).isSome ∧ u = (sv_aO σ n qc v).getD σ) (fun u t => sv_cP D cI cN cQ n qc ad u t.heap) A) 0 0 A :=
  sv_mkI (S := Sg) (B := fun u H => sv_cP D cI cN cQ n qc ad u H) (by decide) (by show 2 ≤ 3; decide) (fun _ _ h => by rw [h.1]; exact sv_narb _) (fun p e s m below meth c ls Q X hP hl ret => wS_acceptLeast X hP hJ hA va_S.rf hn hI hv hl (fun pc ls H locs hd hS hP => ret pc ls _ _ H locs hd hS ⟨rfl, rfl⟩ hP))
theorem okS_S_acceptLeast : sv_okV "SliceVoting" 181 yS_acceptLeast cS_acceptLeast 3 (some .boolean) 1 := ⟨sv_tb_t 191 rfl rfl, sv_tb_t 188 rfl rfl, sv_tb_t 190 rfl rfl, sv_tb_s 7 rfl rfl, sv_tb_t 1 rfl rfl, ⟨by decide, by decide, by decide +kernel⟩, by decide⟩
theorem kS_acceptLeast (X : sv_X D cI cZ cN cQ "SliceVoting" cc nL k p R s m args c) (hk : 8 + 1 ≤ k) (hP : sv_cP D cI cN cQ n qc ad σ H) (hJ : sv_inj (3 + 3 * n + qc) ad) (hA : ∀ k, k < (3 + 3 * n + qc) → A (ad k)) (hS : va_S A H0 H locs) {v : Nat} (hn : n ≤ 6) (hI : sv_IQ n qc σ) (hv : v < n) (hl : lv_has ls nL lv) (hc : cells ≤ R.cells) (hs : slots ≤ R.slots) (hcat : (rest.map fun v => v.category).sum ≤ 8) (hd : decode cc pc = .ok (.invokevirtual 181, 3)) (kk : ∀ (H1 : Heap) (locs1 : List Loc), sv_cP D cI cN cQ n qc ad ((sv_aO σ n qc v).getD σ) H1 → va_S A H0 H1 locs1 → W p l e R s m args below meth c H1 locs1 cells slots Q (F0 m (pc + 3) ls (.int (sv_b (sv_aO σ n qc v).isSome) :: rest))) : W p l e R s m args below meth c H locs cells slots Q (F0 m pc ls (.ref (ad (2 + 3 * v)) :: .ref (ad 0) :: rest)) :=
  sv_wVi (S := Sg) (G := fun H => sv_cP D cI cN cQ n qc ad σ H) (B := fun u H => sv_cP D cI cN cQ n qc ad u H) X okS_S_acceptLeast (cS_m_acceptLeast hJ hA hn hI hv) hP (y_rec X.K hP (by omega) sv_ce_S rfl) hS hk rfl hl.1 rfl hcat hc hs hd (fun r u H1 locs1 hp hB hS => by obtain ⟨rfl, rfl⟩ := hp; exact kk H1 locs1 hB hS)
set_option maxHeartbeats 4000000 in
set_option maxRecDepth 100000 in
theorem wS_confirmLeast (X : sv_X D cI cZ cN cQ "SliceVoting" cS_confirmLeast 3 8 p R s m args c) (hP : sv_cP D cI cN cQ n qc ad σ H) (hJ : sv_inj (3 + 3 * n + qc) ad) (hA : ∀ k, k < (3 + 3 * n + qc) → A (ad k)) (hS : va_S A H0 H locs) {v : Nat} (hn : n ≤ 6) (hI : sv_IQ n qc σ) (hv : v < n) (hl : lv_has ls 3 [(0, .ref (ad 0)), (1, .ref (ad (2 + 3 * v)))]) (ret : ∀ (pc : Nat) (ls : Array Slot) (H : Heap) (locs : List Loc), decode cS_confirmLeast pc = .ok (.ireturn, 1) → va_S A H0 H locs → sv_cP D cI cN cQ n qc ad ((sv_cO σ n qc v).getD σ) H → W p l e R s m args below meth c H locs 0 0 Q (F0 m pc ls [.int (sv_b (sv_cO σ n qc v).isSome)])) : W p l e R s m args below meth c H locs 0 0 Q (F0 m 0 ls []) := by
  have hx := X.1
  have hb := X.2.1
  have J2 : ∀ (kf : Nat) (i : Nat) (ls : Array Slot), 24 - i < kf → (i ≤ 24) → (∀ t, t < i → sv_mC σ n qc v t = false) → lv_has ls 3 [(0, .ref (ad 0)), (1, .ref (ad (2 + 3 * v))), (2, .int (nI i))] → W p l e R s m args below meth c H locs 0 0 Q (F0 m 2 ls []) := by
    intro kf
    induction kf with
    | zero => intro i ls hm; exact absurd hm (Nat.not_lt_zero _)
    | succ kf ih =>
      intro i ls hm hi hno hl
      refine lv_iload_n (i := 2) hx hb dS_confirmLeast_2 rfl (sv_at hl rfl) ?_
      refine lv_bipush (v := nI 24) hx hb dS_confirmLeast_3 (by decide) ?_
      refine lv_icmp_ge (tgt := 42) hx hb dS_confirmLeast_5 rfl (fun h5 => ?_) (fun h5 => ?_)
      · skip
        rw [nI_leI (by omega) (by omega)] at h5
        refine lv_iconst (v := 0) hx hb dS_confirmLeast_42 (by decide) ?_
        exact x_tv (by unfold sv_cO; rw [sv_least_no 24 (fun j hj => hno j (by omega))]; rfl) (ret _ _ _ _ dS_confirmLeast_43 hS (by unfold sv_cO; rw [sv_least_no 24 (fun j hj => hno j (by omega))]; exact hP))
      · skip
        rw [nI_leI (by omega) (by omega)] at h5
        refine lv_aload_n (i := 0) hx hb dS_confirmLeast_8 rfl (sv_at hl rfl) ?_
        refine lv_aload_n (i := 1) hx hb dS_confirmLeast_9 rfl (sv_at hl rfl) ?_
        refine lv_iload_n (i := 2) hx hb dS_confirmLeast_10 rfl (sv_at hl rfl) ?_
        refine kS_mayConfirm X (by decide) hP hn hI (by omega) (by omega) hl (Nat.zero_le _) (Nat.zero_le _) (Nat.le_of_ble_eq_true rfl) dS_confirmLeast_11 ?_
        refine x_ifeqB (tgt := 36) hx hb dS_confirmLeast_14 rfl (fun h14 => ?_) (fun h14 => ?_)
        · skip
          refine x_iinc (i := 2) hx hb dS_confirmLeast_36 hl rfl (sv_inc i) (by decide) (fun ls hl => ?_)
          refine lv_goto (tgt := 2) hx hb dS_confirmLeast_39 rfl ?_
          exact ih (i + 1) ls (by omega) (by omega) (lt_s hno h14) (sv_re hl ⟨rfl, rfl, rfl, trivial⟩)
        · skip
          refine lv_aload_n (i := 1) hx hb dS_confirmLeast_17 rfl (sv_at hl rfl) ?_
          refine lv_dup hx hb dS_confirmLeast_18 rfl ?_
          refine gN_confirmed X hP (by omega) dS_confirmLeast_19 ?_
          refine lv_iconst (v := 1) hx hb dS_confirmLeast_22 (by decide) ?_
          refine lv_iload_n (i := 2) hx hb dS_confirmLeast_23 rfl (sv_at hl rfl) ?_
          refine lv_ishl hx hb dS_confirmLeast_24 ?_
          refine lv_ior hx hb dS_confirmLeast_25 ?_
          refine pN_confirmed X hP hJ hA hS (by omega) dS_confirmLeast_26 (fun H locs hP hS => ?_)
          refine lv_aload_n (i := 1) hx hb dS_confirmLeast_29 rfl (sv_at hl rfl) ?_
          refine lv_iload_n (i := 2) hx hb dS_confirmLeast_30 rfl (sv_at hl rfl) ?_
          refine kS_decideBy X (by decide) hP hJ hA hS hn (by omega) (by omega) hl (Nat.zero_le _) (Nat.zero_le _) (Nat.le_of_ble_eq_true rfl) dS_confirmLeast_31 (fun H locs hP hS => ?_)
          rw [show sv_dB (sg σ 12 v (σ 12 v ||| 1 <<< (nI i &&& 31))) v i = sv_cf σ v i from sv_dB_cf σ v i] at hP
          refine lv_iconst (v := 1) hx hb dS_confirmLeast_34 (by decide) ?_
          exact x_tv (by unfold sv_cO; rw [sv_least_is 24 (show i < 24 by omega) h14 hno]; rfl) (ret _ _ _ _ dS_confirmLeast_35 hS (by unfold sv_cO; rw [sv_least_is 24 (show i < 24 by omega) h14 hno]; exact hP))
  refine lv_iconst (v := 0) hx hb dS_confirmLeast_0 (by decide) ?_
  refine lv_istore_n (i := 2) hx hb dS_confirmLeast_1 rfl hl (by decide) rfl (fun ls hl => ?_)
  exact J2 _ 0 ls (Nat.lt_succ_self _) (Nat.zero_le _) lt_0 (sv_re hl ⟨rfl, rfl, rfl, trivial⟩)

theorem cS_m_confirmLeast (hJ : sv_inj (3 + 3 * n + qc) ad) (hA : ∀ k, k < (3 + 3 * n + qc) → A (ad k)) {v : Nat} (hn : n ≤ 6) (hI : sv_IQ n qc σ) (hv : v < n) : Met l yS_confirmLeast (sv_ws yS_confirmLeast cS_confirmLeast 3 (some .boolean)) (sv_rm 8) (sv_Pc D cI cZ cN cQ [.ref (ad 0), .ref (ad (2 + 3 * v))] (fun H => sv_cP D cI cN cQ n qc ad σ H)) (va_Qi (fun r u => r = sv_b (sv_cO σ n qc v).isSome ∧ u = (sv_cO σ n qc v).getD σ) (fun u t => sv_cP D cI cN cQ n qc ad u t.heap) A) 0 0 A :=
  sv_mkI (S := Sg) (B := fun u H => sv_cP D cI cN cQ n qc ad u H) (by decide) (by show 2 ≤ 3; decide) (fun _ _ h => by rw [h.1]; exact sv_narb _) (fun p e s m below meth c ls Q X hP hl ret => wS_confirmLeast X hP hJ hA va_S.rf hn hI hv hl (fun pc ls H locs hd hS hP => ret pc ls _ _ H locs hd hS ⟨rfl, rfl⟩ hP))
theorem okS_S_confirmLeast : sv_okV "SliceVoting" 185 yS_confirmLeast cS_confirmLeast 3 (some .boolean) 1 := ⟨sv_tb_t 223 rfl rfl, sv_tb_t 220 rfl rfl, sv_tb_t 222 rfl rfl, sv_tb_s 12 rfl rfl, sv_tb_t 1 rfl rfl, ⟨by decide, by decide, by decide +kernel⟩, by decide⟩
theorem kS_confirmLeast (X : sv_X D cI cZ cN cQ "SliceVoting" cc nL k p R s m args c) (hk : 8 + 1 ≤ k) (hP : sv_cP D cI cN cQ n qc ad σ H) (hJ : sv_inj (3 + 3 * n + qc) ad) (hA : ∀ k, k < (3 + 3 * n + qc) → A (ad k)) (hS : va_S A H0 H locs) {v : Nat} (hn : n ≤ 6) (hI : sv_IQ n qc σ) (hv : v < n) (hl : lv_has ls nL lv) (hc : cells ≤ R.cells) (hs : slots ≤ R.slots) (hcat : (rest.map fun v => v.category).sum ≤ 8) (hd : decode cc pc = .ok (.invokevirtual 185, 3)) (kk : ∀ (H1 : Heap) (locs1 : List Loc), sv_cP D cI cN cQ n qc ad ((sv_cO σ n qc v).getD σ) H1 → va_S A H0 H1 locs1 → W p l e R s m args below meth c H1 locs1 cells slots Q (F0 m (pc + 3) ls (.int (sv_b (sv_cO σ n qc v).isSome) :: rest))) : W p l e R s m args below meth c H locs cells slots Q (F0 m pc ls (.ref (ad (2 + 3 * v)) :: .ref (ad 0) :: rest)) :=
  sv_wVi (S := Sg) (G := fun H => sv_cP D cI cN cQ n qc ad σ H) (B := fun u H => sv_cP D cI cN cQ n qc ad u H) X okS_S_confirmLeast (cS_m_confirmLeast hJ hA hn hI hv) hP (y_rec X.K hP (by omega) sv_ce_S rfl) hS hk rfl hl.1 rfl hcat hc hs hd (fun r u H1 locs1 hp hB hS => by obtain ⟨rfl, rfl⟩ := hp; exact kk H1 locs1 hB hS)
set_option maxHeartbeats 4000000 in
set_option maxRecDepth 100000 in
theorem wS_voteForCommit (X : sv_X D cI cZ cN cQ "SliceVoting" cS_voteForCommit 3 5 p R s m args c) (hP : sv_cP D cI cN cQ n qc ad σ H) (hJ : sv_inj (3 + 3 * n + qc) ad) (hA : ∀ k, k < (3 + 3 * n + qc) → A (ad k)) (hS : va_S A H0 H locs) {v : Nat} (hn : n ≤ 6) (hIS : sv_IS n σ) (hv : v < n) (hl : lv_has ls 3 [(0, .ref (ad (2 + 3 * v)))]) (ret : ∀ (pc : Nat) (ls : Array Slot) (H : Heap) (locs : List Loc), decode cS_voteForCommit pc = .ok (.ireturn, 1) → va_S A H0 H locs → sv_cP D cI cN cQ n qc ad ((sv_vO σ v).getD σ) H → W p l e R s m args below meth c H locs 0 0 Q (F0 m pc ls [.int (sv_b (sv_vO σ v).isSome)])) : W p l e R s m args below meth c H locs 0 0 Q (F0 m 0 ls []) := by
  have hx := X.1
  have hb := X.2.1
  obtain ⟨-, ⟨kq, hk4, e13⟩, ⟨xq, hx2, e14⟩, -⟩ := hIS.2 v hv
  have hbl := sv_bal_lt hIS hv
  refine lv_aload_n (i := 0) hx hb dS_voteForCommit_0 rfl (sv_at hl rfl) ?_
  refine gN_counter X hP (by omega) dS_voteForCommit_1 ?_
  refine lv_if_ne (tgt := 9) hx hb dS_voteForCommit_4 rfl (fun h4 => ?_) (fun h4 => ?_)
  · skip
    have hk0 : ¬ kq = 0 := fun q => h4 (by rw [e13, q]; rfl)
    refine lv_aload_n (i := 0) hx hb dS_voteForCommit_9 rfl (sv_at hl rfl) ?_
    refine gN_counter X hP (by omega) dS_voteForCommit_10 ?_
    refine lv_aload_n (i := 0) hx hb dS_voteForCommit_13 rfl (sv_at hl rfl) ?_
    refine gN_value X hP (by omega) dS_voteForCommit_14 ?_
    rw [e13, e14]
    refine kS_ballot X (by decide) (by omega) hl (Nat.zero_le _) (Nat.zero_le _) (Nat.le_of_ble_eq_true rfl) dS_voteForCommit_17 ?_
    refine lv_istore_n (i := 1) hx hb dS_voteForCommit_20 rfl hl (by decide) rfl (fun ls hl => ?_)
    refine lv_iload_n (i := 1) hx hb dS_voteForCommit_21 rfl (sv_at hl rfl) ?_
    refine kS_commitOf X (by decide)  hl (Nat.zero_le _) (Nat.zero_le _) (Nat.le_of_ble_eq_true rfl) dS_voteForCommit_22 ?_
    refine lv_istore_n (i := 2) hx hb dS_voteForCommit_25 rfl hl (by decide) rfl (fun ls hl => ?_)
    have hbe : 3 * (kq - 1) + xq = sv_bal σ v := by unfold sv_bal; rw [e13, e14, nI_clamp (by omega), nI_clamp (by omega)]
    rw [hbe] at hl
    refine lv_aload_n (i := 0) hx hb dS_voteForCommit_26 rfl (sv_at hl rfl) ?_
    refine gN_knownVotes X hP (by omega) dS_voteForCommit_27 ?_
    refine lv_aload_n (i := 0) hx hb dS_voteForCommit_30 rfl (sv_at hl rfl) ?_
    refine gN_number X hP (by omega) dS_voteForCommit_31 ?_
    refine gI_V X hP hn (by omega) (by omega) dS_voteForCommit_34 ?_
    refine lv_iload_n (i := 2) hx hb dS_voteForCommit_35 rfl (sv_at hl rfl) ?_
    refine kS_has X (by decide) (by omega) hl (Nat.zero_le _) (Nat.zero_le _) (Nat.le_of_ble_eq_true rfl) dS_voteForCommit_36 ?_
    refine x_ifneB (tgt := 65) hx hb dS_voteForCommit_39 rfl (fun h39 => ?_) (fun h39 => ?_)
    · skip
      rw [sv_kv_self] at h39
      refine lv_iconst (v := 0) hx hb dS_voteForCommit_65 (by decide) ?_
      first | exact x_tv (by rw [sv_vO_y (by rw [e13, nI_clamp (by omega)]; omega) h39 h50 h58]; rfl) (ret _ _ _ _ dS_voteForCommit_66 hS (by rw [sv_vO_y (by rw [e13, nI_clamp (by omega)]; omega) h39 h50 h58]; exact hP)) | exact x_tv (by rw [sv_vO_3 h58]; rfl) (ret _ _ _ _ dS_voteForCommit_66 hS (by rw [sv_vO_3 h58]; rw [sv_vS_n h58] at hP; exact hP)) | exact x_tv (by rw [sv_vO_2 h50]; rfl) (ret _ _ _ _ dS_voteForCommit_66 hS (by rw [sv_vO_2 h50]; exact hP)) | exact x_tv (by rw [sv_vO_1 h39]; rfl) (ret _ _ _ _ dS_voteForCommit_66 hS (by rw [sv_vO_1 h39]; exact hP)) | exact x_tv (by rw [sv_vO_0 h4]; rfl) (ret _ _ _ _ dS_voteForCommit_66 hS (by rw [sv_vO_0 h4]; exact hP))
    · skip
      rw [sv_kv_self] at h39
      refine lv_aload_n (i := 0) hx hb dS_voteForCommit_42 rfl (sv_at hl rfl) ?_
      refine gN_confirmed X hP (by omega) dS_voteForCommit_43 ?_
      refine lv_iload_n (i := 1) hx hb dS_voteForCommit_46 rfl (sv_at hl rfl) ?_
      refine kS_has X (by decide) (by omega) hl (Nat.zero_le _) (Nat.zero_le _) (Nat.le_of_ble_eq_true rfl) dS_voteForCommit_47 ?_
      refine x_ifeqB (tgt := 65) hx hb dS_voteForCommit_50 rfl (fun h50 => ?_) (fun h50 => ?_)
      · skip
        refine lv_iconst (v := 0) hx hb dS_voteForCommit_65 (by decide) ?_
        first | exact x_tv (by rw [sv_vO_y (by rw [e13, nI_clamp (by omega)]; omega) h39 h50 h58]; rfl) (ret _ _ _ _ dS_voteForCommit_66 hS (by rw [sv_vO_y (by rw [e13, nI_clamp (by omega)]; omega) h39 h50 h58]; exact hP)) | exact x_tv (by rw [sv_vO_3 h58]; rfl) (ret _ _ _ _ dS_voteForCommit_66 hS (by rw [sv_vO_3 h58]; rw [sv_vS_n h58] at hP; exact hP)) | exact x_tv (by rw [sv_vO_2 h50]; rfl) (ret _ _ _ _ dS_voteForCommit_66 hS (by rw [sv_vO_2 h50]; exact hP)) | exact x_tv (by rw [sv_vO_1 h39]; rfl) (ret _ _ _ _ dS_voteForCommit_66 hS (by rw [sv_vO_1 h39]; exact hP)) | exact x_tv (by rw [sv_vO_0 h4]; rfl) (ret _ _ _ _ dS_voteForCommit_66 hS (by rw [sv_vO_0 h4]; exact hP))
      · skip
        refine lv_aload_n (i := 0) hx hb dS_voteForCommit_53 rfl (sv_at hl rfl) ?_
        refine lv_iload_n (i := 2) hx hb dS_voteForCommit_54 rfl (sv_at hl rfl) ?_
        refine kS_voteIfAllowed X (by decide) hP hJ hA hS hn (by omega) (by omega) hl (Nat.zero_le _) (Nat.zero_le _) (Nat.le_of_ble_eq_true rfl) dS_voteForCommit_55 (fun H locs hP hS => ?_)
        refine x_ifeqB (tgt := 65) hx hb dS_voteForCommit_58 rfl (fun h58 => ?_) (fun h58 => ?_)
        · skip
          refine lv_iconst (v := 0) hx hb dS_voteForCommit_65 (by decide) ?_
          first | exact x_tv (by rw [sv_vO_y (by rw [e13, nI_clamp (by omega)]; omega) h39 h50 h58]; rfl) (ret _ _ _ _ dS_voteForCommit_66 hS (by rw [sv_vO_y (by rw [e13, nI_clamp (by omega)]; omega) h39 h50 h58]; exact hP)) | exact x_tv (by rw [sv_vO_3 h58]; rfl) (ret _ _ _ _ dS_voteForCommit_66 hS (by rw [sv_vO_3 h58]; rw [sv_vS_n h58] at hP; exact hP)) | exact x_tv (by rw [sv_vO_2 h50]; rfl) (ret _ _ _ _ dS_voteForCommit_66 hS (by rw [sv_vO_2 h50]; exact hP)) | exact x_tv (by rw [sv_vO_1 h39]; rfl) (ret _ _ _ _ dS_voteForCommit_66 hS (by rw [sv_vO_1 h39]; exact hP)) | exact x_tv (by rw [sv_vO_0 h4]; rfl) (ret _ _ _ _ dS_voteForCommit_66 hS (by rw [sv_vO_0 h4]; exact hP))
        · skip
          refine lv_iconst (v := 1) hx hb dS_voteForCommit_61 (by decide) ?_
          refine lv_goto (tgt := 66) hx hb dS_voteForCommit_62 rfl ?_
          first | exact x_tv (by rw [sv_vO_y (by rw [e13, nI_clamp (by omega)]; omega) h39 h50 h58]; rfl) (ret _ _ _ _ dS_voteForCommit_66 hS (by rw [sv_vO_y (by rw [e13, nI_clamp (by omega)]; omega) h39 h50 h58]; exact hP)) | exact x_tv (by rw [sv_vO_3 h58]; rfl) (ret _ _ _ _ dS_voteForCommit_66 hS (by rw [sv_vO_3 h58]; rw [sv_vS_n h58] at hP; exact hP)) | exact x_tv (by rw [sv_vO_2 h50]; rfl) (ret _ _ _ _ dS_voteForCommit_66 hS (by rw [sv_vO_2 h50]; exact hP)) | exact x_tv (by rw [sv_vO_1 h39]; rfl) (ret _ _ _ _ dS_voteForCommit_66 hS (by rw [sv_vO_1 h39]; exact hP)) | exact x_tv (by rw [sv_vO_0 h4]; rfl) (ret _ _ _ _ dS_voteForCommit_66 hS (by rw [sv_vO_0 h4]; exact hP))
  · skip
    refine lv_iconst (v := 0) hx hb dS_voteForCommit_7 (by decide) ?_
    first | exact x_tv (by rw [sv_vO_y (by rw [e13, nI_clamp (by omega)]; omega) h39 h50 h58]; rfl) (ret _ _ _ _ dS_voteForCommit_8 hS (by rw [sv_vO_y (by rw [e13, nI_clamp (by omega)]; omega) h39 h50 h58]; exact hP)) | exact x_tv (by rw [sv_vO_3 h58]; rfl) (ret _ _ _ _ dS_voteForCommit_8 hS (by rw [sv_vO_3 h58]; rw [sv_vS_n h58] at hP; exact hP)) | exact x_tv (by rw [sv_vO_2 h50]; rfl) (ret _ _ _ _ dS_voteForCommit_8 hS (by rw [sv_vO_2 h50]; exact hP)) | exact x_tv (by rw [sv_vO_1 h39]; rfl) (ret _ _ _ _ dS_voteForCommit_8 hS (by rw [sv_vO_1 h39]; exact hP)) | exact x_tv (by rw [sv_vO_0 h4]; rfl) (ret _ _ _ _ dS_voteForCommit_8 hS (by rw [sv_vO_0 h4]; exact hP))

theorem cS_m_voteForCommit (hJ : sv_inj (3 + 3 * n + qc) ad) (hA : ∀ k, k < (3 + 3 * n + qc) → A (ad k)) {v : Nat} (hn : n ≤ 6) (hIS : sv_IS n σ) (hv : v < n) : Met l yS_voteForCommit (sv_ws yS_voteForCommit cS_voteForCommit 3 (some .boolean)) (sv_rm 5) (sv_Pc D cI cZ cN cQ [.ref (ad (2 + 3 * v))] (fun H => sv_cP D cI cN cQ n qc ad σ H)) (va_Qi (fun r u => r = sv_b (sv_vO σ v).isSome ∧ u = (sv_vO σ v).getD σ) (fun u t => sv_cP D cI cN cQ n qc ad u t.heap) A) 0 0 A :=
  sv_mkI (S := Sg) (B := fun u H => sv_cP D cI cN cQ n qc ad u H) (by decide) (by show 1 ≤ 3; decide) (fun _ _ h => by rw [h.1]; exact sv_narb _) (fun p e s m below meth c ls Q X hP hl ret => wS_voteForCommit X hP hJ hA va_S.rf hn hIS hv hl (fun pc ls H locs hd hS hP => ret pc ls _ _ H locs hd hS ⟨rfl, rfl⟩ hP))
theorem okS_S_voteForCommit : sv_okS "SliceVoting" 188 yS_voteForCommit cS_voteForCommit 3 (some .boolean) 1 := ⟨sv_tb_t 233 rfl rfl, sv_tb_t 231 rfl rfl, sv_tb_t 232 rfl rfl, sv_tb_t 1 rfl rfl, ⟨by decide, by decide, by decide +kernel⟩, by decide⟩
theorem kS_voteForCommit (X : sv_X D cI cZ cN cQ "SliceVoting" cc nL k p R s m args c) (hk : 5 + 1 ≤ k) (hP : sv_cP D cI cN cQ n qc ad σ H) (hJ : sv_inj (3 + 3 * n + qc) ad) (hA : ∀ k, k < (3 + 3 * n + qc) → A (ad k)) (hS : va_S A H0 H locs) {v : Nat} (hn : n ≤ 6) (hIS : sv_IS n σ) (hv : v < n) (hl : lv_has ls nL lv) (hc : cells ≤ R.cells) (hs : slots ≤ R.slots) (hcat : (rest.map fun v => v.category).sum ≤ 8) (hd : decode cc pc = .ok (.invokestatic 188, 3)) (kk : ∀ (H1 : Heap) (locs1 : List Loc), sv_cP D cI cN cQ n qc ad ((sv_vO σ v).getD σ) H1 → va_S A H0 H1 locs1 → W p l e R s m args below meth c H1 locs1 cells slots Q (F0 m (pc + 3) ls (.int (sv_b (sv_vO σ v).isSome) :: rest))) : W p l e R s m args below meth c H locs cells slots Q (F0 m pc ls (.ref (ad (2 + 3 * v)) :: rest)) :=
  sv_wSi (S := Sg) (G := fun H => sv_cP D cI cN cQ n qc ad σ H) (B := fun u H => sv_cP D cI cN cQ n qc ad u H) X okS_S_voteForCommit (cS_m_voteForCommit hJ hA hn hIS hv) hP hS hk rfl hl.1 rfl hcat hc hs hd (fun r u H1 locs1 hp hB hS => by obtain ⟨rfl, rfl⟩ := hp; exact kk H1 locs1 hB hS)
end SvVotes
