section SvModel4
variable {p : Program} {l : Launch} {e : Env} {R : Room} {s : State} {m : MethodId} {args : Array Value} {below : List Frame} {meth : Method} {c : Code} {H H0 : Heap} {locs : List Loc} {cells slots : Nat} {Q : State → Prop}
variable {cc : ByteArray} {pc nL k : Nat} {ls : Array Slot} {lv : List (Nat × Value)} {rest : List Value} {D : va_G} {cI cZ cN cQ : ClassId} {n qc : Nat} {ad : Nat → Nat} {σ : Sg} {A : Nat → Prop} {mt qm : Nat → Int32}
theorem sv_oI_ne {o : Option Nat} (h : ¬ sv_oI o = -1) : ∃ t, o = some t := by
  cases o with
  | none => exact absurd rfl h
  | some t => exact ⟨t, rfl⟩
theorem sv_oI_eq {o : Option Nat} (hq : ∀ t, o = some t → t < 24) (h : sv_oI o = -1) : o = none := by
  cases o with
  | none => rfl
  | some t =>
    have h0 := nI_pos (n := t) (by have := hq t rfl; omega)
    have h1 : nI t = -1 := h
    rw [h1] at h0
    exact absurd (by decide) h0
def sv_Pq (σ : Sg) (qc S v : Nat) : Bool := !S.testBit v || sv_sat σ qc S v
theorem sv_quo_P {σ : Sg} {n qc S : Nat} (h : S ≠ 0) : sv_quo σ n qc S = sv_all (sv_Pq σ qc S) n := by
  unfold sv_quo
  rw [decide_eq_true h]
  rfl
theorem sv_all_s (P : Nat → Bool) (k : Nat) : sv_all P (k + 1) = (sv_all P k && P k) := rfl
theorem sv_sat_n {σ : Sg} {qc S v : Nat} (h : sv_top σ qc v = none) : sv_sat σ qc S v = false := by unfold sv_sat; rw [h]
theorem sv_sat_s {σ : Sg} {qc S v t : Nat} (h : sv_top σ qc v = some t) : sv_sat σ qc S v = sv_met σ qc S t := by unfold sv_sat; rw [h]
theorem sv_p2m1 : ∀ n, n ≤ 6 → (1 : Int32) <<< (nI n &&& 31) - 1 = nI (2 ^ n - 1) := by decide +kernel
set_option maxHeartbeats 4000000 in
set_option maxRecDepth 100000 in
theorem wM_quorum_J (X : sv_X D cI cZ cN cQ "SliceVotingModel" cM_quorum 5 2 p R s m args c) (hJ : sv_inj 17 ad) (hA : ∀ k, k < 17 → A (ad k)) (hn : n ≤ 6) (hI : sv_IQ n qc σ) {S : Nat} (hS2 : S < 2 ^ n) (h0 : S ≠ 0) (ret : ∀ (pc : Nat) (ls : Array Slot) (H : Heap) (locs : List Loc) (mt' qm' : Nat → Int32), decode cM_quorum pc = .ok (.ireturn, 1) → va_S A H0 H locs → qm' = qm → sv_mP D cI cZ n qc ad σ mt' qm' H → W p l e R s m args below meth c H locs 0 0 Q (F0 m pc ls [.int (sv_b (sv_quo σ n qc S))])) : ∀ (kf i : Nat) (mt : Nat → Int32) (H : Heap) (locs : List Loc) (ls : Array Slot), n - i < kf → i ≤ n → (∀ q, q < qc → mt q = sv_b (sv_met σ qc S q)) → sv_mP D cI cZ n qc ad σ mt qm H → va_S A H0 H locs → lv_has ls 5 [(0, .ref (ad 0)), (1, .int (nI S)), (2, .int (sv_b (sv_all (sv_Pq σ qc S) i))), (3, .int (nI i))] → W p l e R s m args below meth c H locs 0 0 Q (F0 m 23 ls []) := by
  have hx := X.1
  have hb := X.2.1
  have hq24 := hI.2.2.2.1
  intro kf
  induction kf with
  | zero => intro i mt H locs ls hm; exact absurd hm (Nat.not_lt_zero _)
  | succ kf ih =>
    intro i mt H locs ls hm hi hX hP hS hl
    refine lv_iload_n (i := 3) hx hb dM_quorum_23 rfl (sv_at hl rfl) ?_
    refine lv_aload_n (i := 0) hx hb dM_quorum_24 rfl (sv_at hl rfl) ?_
    refine gM_nodes X hP dM_quorum_25 ?_
    refine lv_icmp_ge (tgt := 79) hx hb dM_quorum_28 rfl (fun h28 => ?_) (fun h28 => ?_)
    · skip
      rw [nI_leI (by omega) (by omega)] at h28
      obtain rfl : i = n := by omega
      refine lv_iload_n (i := 2) hx hb dM_quorum_79 rfl (sv_at hl rfl) ?_
      exact x_tv (by rw [sv_quo_P h0]) (ret _ _ _ _ _ _ dM_quorum_80 hS rfl hP)
    · skip
      rw [nI_leI (by omega) (by omega)] at h28
      refine lv_iload_n (i := 1) hx hb dM_quorum_31 rfl (sv_at hl rfl) ?_
      refine lv_iload_n (i := 3) hx hb dM_quorum_32 rfl (sv_at hl rfl) ?_
      refine lv_ishr hx hb dM_quorum_33 ?_
      refine lv_iconst (v := 1) hx hb dM_quorum_34 (by decide) ?_
      refine lv_iand hx hb dM_quorum_35 ?_
      refine x_tv (sv_shr1 _ (by omega)) ?_
      rw [sv_bt_nI (by have := sv_big hn hS2; omega)]
      refine lv_iconst (v := 1) hx hb dM_quorum_36 (by decide) ?_
      refine lv_icmp_ne (tgt := 73) hx hb dM_quorum_37 rfl (fun h37 => ?_) (fun h37 => ?_)
      · skip
        rw [sv_bn1] at h37
        rw [show sv_all (sv_Pq σ qc S) i = sv_all (sv_Pq σ qc S) (i + 1) by rw [sv_all_s]; unfold sv_Pq; rw [h37]; simp] at hl
        refine x_iinc (i := 3) hx hb dM_quorum_73 hl rfl (sv_inc i) (by decide) (fun ls hl => ?_)
        refine lv_goto (tgt := 23) hx hb dM_quorum_76 rfl ?_
        exact ih (i + 1) mt H locs ls (by omega) (by omega) hX hP hS (sv_re hl ⟨rfl, rfl, rfl, rfl, trivial⟩)
      · skip
        rw [sv_b1] at h37
        refine lv_aload_n (i := 0) hx hb dM_quorum_40 rfl (sv_at hl rfl) ?_
        refine lv_iload_n (i := 3) hx hb dM_quorum_41 rfl (sv_at hl rfl) ?_
        refine kM_top X (by decide) hP hq24 hl (Nat.zero_le _) (Nat.zero_le _) (Nat.le_of_ble_eq_true rfl) dM_quorum_42 ?_
        refine lv_istore (i := 4) hx hb dM_quorum_45 hl (by decide) rfl (fun ls hl => ?_)
        refine lv_iload_n (i := 2) hx hb dM_quorum_47 rfl (sv_at hl rfl) ?_
        refine x_ifeqB (tgt := 71) hx hb dM_quorum_48 rfl (fun h48 => ?_) (fun h48 => ?_)
        · skip
          refine lv_iconst (v := 0) hx hb dM_quorum_71 (by decide) ?_
          refine x_tv (y := sv_b (sv_all (sv_Pq σ qc S) (i + 1))) (by rw [sv_all_s]; first | (have ee := h64; rw [h48]; unfold sv_Pq; rw [h37, sv_sat_s et, h64]; rfl) | (have ee := et; rw [h48]; unfold sv_Pq; rw [h37, sv_sat_n et]; rfl) | (rw [h48]; rfl)) ?_
          refine lv_istore_n (i := 2) hx hb dM_quorum_72 rfl hl (by decide) rfl (fun ls hl => ?_)
          refine x_iinc (i := 3) hx hb dM_quorum_73 hl rfl (sv_inc i) (by decide) (fun ls hl => ?_)
          refine lv_goto (tgt := 23) hx hb dM_quorum_76 rfl ?_
          exact ih (i + 1) mt H locs ls (by omega) (by omega) hX hP hS (sv_re hl ⟨rfl, rfl, rfl, rfl, trivial⟩)
        · skip
          refine lv_iload (i := 4) hx hb dM_quorum_51 (sv_at hl rfl) ?_
          refine lv_iconst (v := -1) hx hb dM_quorum_53 (by decide) ?_
          refine lv_icmp_eq (tgt := 71) hx hb dM_quorum_54 rfl (fun h54 => ?_) (fun h54 => ?_)
          · skip
            have et := sv_oI_eq (fun t ht => by have := sv_top_lt ht; omega) h54
            refine lv_iconst (v := 0) hx hb dM_quorum_71 (by decide) ?_
            refine x_tv (y := sv_b (sv_all (sv_Pq σ qc S) (i + 1))) (by rw [sv_all_s]; first | (have ee := h64; rw [h48]; unfold sv_Pq; rw [h37, sv_sat_s et, h64]; rfl) | (have ee := et; rw [h48]; unfold sv_Pq; rw [h37, sv_sat_n et]; rfl) | (rw [h48]; rfl)) ?_
            refine lv_istore_n (i := 2) hx hb dM_quorum_72 rfl hl (by decide) rfl (fun ls hl => ?_)
            refine x_iinc (i := 3) hx hb dM_quorum_73 hl rfl (sv_inc i) (by decide) (fun ls hl => ?_)
            refine lv_goto (tgt := 23) hx hb dM_quorum_76 rfl ?_
            exact ih (i + 1) mt H locs ls (by omega) (by omega) hX hP hS (sv_re hl ⟨rfl, rfl, rfl, rfl, trivial⟩)
          · skip
            obtain ⟨t, et⟩ := sv_oI_ne h54
            have ht := sv_top_lt et
            rw [et] at hl
            refine lv_aload_n (i := 0) hx hb dM_quorum_57 rfl (sv_at hl rfl) ?_
            refine gM_met X hP dM_quorum_58 ?_
            refine lv_iload (i := 4) hx hb dM_quorum_61 (sv_at hl rfl) ?_
            refine x_tv (y := nI t) rfl ?_
            refine gm_met X hP (by omega) dM_quorum_63 ?_
            refine x_tv (hX t ht) ?_
            refine x_ifeqB (tgt := 71) hx hb dM_quorum_64 rfl (fun h64 => ?_) (fun h64 => ?_)
            · skip
              refine lv_iconst (v := 0) hx hb dM_quorum_71 (by decide) ?_
              refine x_tv (y := sv_b (sv_all (sv_Pq σ qc S) (i + 1))) (by rw [sv_all_s]; first | (have ee := h64; rw [h48]; unfold sv_Pq; rw [h37, sv_sat_s et, h64]; rfl) | (have ee := et; rw [h48]; unfold sv_Pq; rw [h37, sv_sat_n et]; rfl) | (rw [h48]; rfl)) ?_
              refine lv_istore_n (i := 2) hx hb dM_quorum_72 rfl hl (by decide) rfl (fun ls hl => ?_)
              refine x_iinc (i := 3) hx hb dM_quorum_73 hl rfl (sv_inc i) (by decide) (fun ls hl => ?_)
              refine lv_goto (tgt := 23) hx hb dM_quorum_76 rfl ?_
              exact ih (i + 1) mt H locs ls (by omega) (by omega) hX hP hS (sv_re hl ⟨rfl, rfl, rfl, rfl, trivial⟩)
            · skip
              refine lv_iconst (v := 1) hx hb dM_quorum_67 (by decide) ?_
              refine lv_goto (tgt := 72) hx hb dM_quorum_68 rfl ?_
              refine x_tv (y := sv_b (sv_all (sv_Pq σ qc S) (i + 1))) (by rw [sv_all_s]; first | (have ee := h64; rw [h48]; unfold sv_Pq; rw [h37, sv_sat_s et, h64]; rfl) | (have ee := et; rw [h48]; unfold sv_Pq; rw [h37, sv_sat_n et]; rfl) | (rw [h48]; rfl)) ?_
              refine lv_istore_n (i := 2) hx hb dM_quorum_72 rfl hl (by decide) rfl (fun ls hl => ?_)
              refine x_iinc (i := 3) hx hb dM_quorum_73 hl rfl (sv_inc i) (by decide) (fun ls hl => ?_)
              refine lv_goto (tgt := 23) hx hb dM_quorum_76 rfl ?_
              exact ih (i + 1) mt H locs ls (by omega) (by omega) hX hP hS (sv_re hl ⟨rfl, rfl, rfl, rfl, trivial⟩)

set_option maxHeartbeats 4000000 in
set_option maxRecDepth 100000 in
theorem wM_quorum (X : sv_X D cI cZ cN cQ "SliceVotingModel" cM_quorum 5 2 p R s m args c) (hP : sv_mP D cI cZ n qc ad σ mt qm H) (hJ : sv_inj 17 ad) (hA : ∀ k, k < 17 → A (ad k)) (hS : va_S A H0 H locs) {x : Int32} (hn : n ≤ 6) (hI : sv_IQ n qc σ) (hl : lv_has ls 5 [(0, .ref (ad 0)), (1, .int x)]) (ret : ∀ (pc : Nat) (ls : Array Slot) (H : Heap) (locs : List Loc) (mt' qm' : Nat → Int32), decode cM_quorum pc = .ok (.ireturn, 1) → va_S A H0 H locs → (qm' = qm) → sv_mP D cI cZ n qc ad (σ) mt' qm' H → W p l e R s m args below meth c H locs 0 0 Q (F0 m pc ls [.int (sv_b (decide (sv_N x < 2 ^ n) && sv_quo σ n qc (sv_N x)))])) : W p l e R s m args below meth c H locs 0 0 Q (F0 m 0 ls []) := by
  have hx := X.1
  have hb := X.2.1
  refine lv_aload_n (i := 0) hx hb dM_quorum_0 rfl (sv_at hl rfl) ?_
  refine lv_iload_n (i := 1) hx hb dM_quorum_1 rfl (sv_at hl rfl) ?_
  refine kM_isSet X (by decide) hP hn hl (Nat.zero_le _) (Nat.zero_le _) (Nat.le_of_ble_eq_true rfl) dM_quorum_2 ?_
  refine x_ifeqB (tgt := 12) hx hb dM_quorum_5 rfl (fun h5 => ?_) (fun h5 => ?_)
  · skip
    refine lv_iconst (v := 0) hx hb dM_quorum_12 (by decide) ?_
    first | (have ee := h9; exact x_tv (by rw [show S = 0 from (nI_eq (b := 0) (by have := sv_big hn hS2; omega) (by decide)).mp ee]; rfl) (ret _ _ _ _ _ _ dM_quorum_13 hS rfl hP)) | exact x_tv (by rw [h5]; rfl) (ret _ _ _ _ _ _ dM_quorum_13 hS rfl hP)
  · skip
    obtain ⟨S, hS2, rfl⟩ := sv_set_of h5
    rw [sv_N_of hn hS2, decide_eq_true hS2, Bool.true_and] at ret
    refine lv_iload_n (i := 1) hx hb dM_quorum_8 rfl (sv_at hl rfl) ?_
    refine lv_if_ne (tgt := 14) hx hb dM_quorum_9 rfl (fun h9 => ?_) (fun h9 => ?_)
    · skip
      refine lv_aload_n (i := 0) hx hb dM_quorum_14 rfl (sv_at hl rfl) ?_
      refine lv_iload_n (i := 1) hx hb dM_quorum_15 rfl (sv_at hl rfl) ?_
      refine kM_meet X (by decide) hP hJ hA hS hI hS2 hl (Nat.zero_le _) (Nat.zero_le _) (Nat.le_of_ble_eq_true rfl) dM_quorum_16 (fun H locs mt qm hX hP hS => ?_)
      refine lv_iconst (v := 1) hx hb dM_quorum_19 (by decide) ?_
      refine lv_istore_n (i := 2) hx hb dM_quorum_20 rfl hl (by decide) rfl (fun ls hl => ?_)
      refine lv_iconst (v := 0) hx hb dM_quorum_21 (by decide) ?_
      refine lv_istore_n (i := 3) hx hb dM_quorum_22 rfl hl (by decide) rfl (fun ls hl => ?_)
      rw [hX.2] at hP
      exact wM_quorum_J X hJ hA hn hI hS2 (fun q => h9 (by rw [q]; rfl)) ret _ 0 mt H locs ls (Nat.lt_succ_self _) (Nat.zero_le _) hX.1 hP hS (sv_re hl ⟨rfl, rfl, rfl, rfl, trivial⟩)
    · skip
      refine lv_iconst (v := 0) hx hb dM_quorum_12 (by decide) ?_
      first | (have ee := h9; exact x_tv (by rw [show S = 0 from (nI_eq (b := 0) (by have := sv_big hn hS2; omega) (by decide)).mp ee]; rfl) (ret _ _ _ _ _ _ dM_quorum_13 hS rfl hP)) | exact x_tv (by rw [h5]; rfl) (ret _ _ _ _ _ _ dM_quorum_13 hS rfl hP)

theorem cM_m_quorum (hJ : sv_inj 17 ad) (hA : ∀ k, k < 17 → A (ad k)) {x : Int32} (hn : n ≤ 6) (hI : sv_IQ n qc σ) : Met l yM_quorum (sv_ws yM_quorum cM_quorum 5 (some .boolean)) (sv_rm 2) (sv_Pc D cI cZ cN cQ [.ref (ad 0), .int x] (fun H => sv_mP D cI cZ n qc ad σ mt qm H)) (va_Qi (fun (r : Int32) (u : Sg × (Nat → Int32) × (Nat → Int32)) => r = sv_b (decide (sv_N x < 2 ^ n) && sv_quo σ n qc (sv_N x)) ∧ u.1 = σ ∧ (u.2.2 = qm)) (fun u t => sv_mP D cI cZ n qc ad u.1 u.2.1 u.2.2 t.heap) A) 0 0 A :=
  sv_mkI (S := Sg × (Nat → Int32) × (Nat → Int32)) (B := fun u H => sv_mP D cI cZ n qc ad u.1 u.2.1 u.2.2 H) (by decide) (by show 2 ≤ 5; decide) (fun _ _ h => by rw [h.1]; exact sv_narb _) (fun p e s m below meth c ls Q X hP hl ret => wM_quorum X hP hJ hA va_S.rf hn hI hl (fun pc ls H locs mt' qm' hd hS hX hP => ret pc ls _ (_, mt', qm') H locs hd hS ⟨rfl, rfl, hX⟩ hP))
set_option maxRecDepth 100000 in
theorem okM_M_quorum : sv_okV "SliceVotingModel" 85 yM_quorum cM_quorum 5 (some .boolean) 1 := ⟨sv_tb_t 390 rfl rfl, sv_tb_t 403 rfl rfl, sv_tb_t 388 rfl rfl, sv_tb_t 389 rfl rfl, sv_tb_t 4 rfl rfl, ⟨by decide, by decide, by decide +kernel⟩, by decide⟩
theorem kM_quorum (X : sv_X D cI cZ cN cQ "SliceVotingModel" cc nL k p R s m args c) (hk : 2 + 1 ≤ k) (hP : sv_mP D cI cZ n qc ad σ mt qm H) (hJ : sv_inj 17 ad) (hA : ∀ k, k < 17 → A (ad k)) (hS : va_S A H0 H locs) {x : Int32} (hn : n ≤ 6) (hI : sv_IQ n qc σ) (hl : lv_has ls nL lv) (hc : cells ≤ R.cells) (hs : slots ≤ R.slots) (hcat : (rest.map fun v => v.category).sum ≤ 8) (hd : decode cc pc = .ok (.invokevirtual 85, 3)) (kk : ∀ (H1 : Heap) (locs1 : List Loc) (mt' qm' : Nat → Int32), (qm' = qm) → sv_mP D cI cZ n qc ad (σ) mt' qm' H1 → va_S A H0 H1 locs1 → W p l e R s m args below meth c H1 locs1 cells slots Q (F0 m (pc + 3) ls (.int (sv_b (decide (sv_N x < 2 ^ n) && sv_quo σ n qc (sv_N x))) :: rest))) : W p l e R s m args below meth c H locs cells slots Q (F0 m pc ls (.int x :: .ref (ad 0) :: rest)) :=
  sv_wVi (S := Sg × (Nat → Int32) × (Nat → Int32)) (G := fun H => sv_mP D cI cZ n qc ad σ mt qm H) (B := fun u H => sv_mP D cI cZ n qc ad u.1 u.2.1 u.2.2 H) X okM_M_quorum (cM_m_quorum hJ hA hn hI) hP (y_rec X.K hP (by decide) sv_me_0 rfl) hS hk rfl hl.1 rfl hcat hc hs hd (fun r u H1 locs1 hp hB hS => by obtain ⟨τ, a, b⟩ := u; obtain ⟨rfl, h1, h2⟩ := hp; dsimp only at h1 h2 hB; subst h1; exact kk H1 locs1 a b h2 hB hS)
theorem sv_orr_t {P : Nat → Bool} {k : Nat} (h : P k = true) : sv_orr P (k + 1) = sv_orr P k ||| k := by simp [sv_orr, h]
theorem sv_orr_f {P : Nat → Bool} {k : Nat} (h : P k = false) : sv_orr P (k + 1) = sv_orr P k := by simp [sv_orr, h]
theorem sv_orr_1 (P : Nat → Bool) : sv_orr P 1 = 0 := by
  show (bif P 0 then sv_orr P 0 ||| 0 else sv_orr P 0) = 0
  cases P 0 <;> simp [sv_orr]
theorem sv_quoN {σ : Sg} {n qc i : Nat} (hn : n ≤ 6) (h : i < 2 ^ n) : (decide (sv_N (nI i) < 2 ^ n) && sv_quo σ n qc (sv_N (nI i))) = sv_quo σ n qc i := by
  rw [sv_N_of hn h, decide_eq_true h]
  rfl
set_option maxHeartbeats 4000000 in
set_option maxRecDepth 100000 in
theorem wM_largest_J (X : sv_X D cI cZ cN cQ "SliceVotingModel" cM_largest 4 3 p R s m args c) (hJ : sv_inj 17 ad) (hA : ∀ k, k < 17 → A (ad k)) (hn : n ≤ 6) (hI : sv_IQ n qc σ) {S : Nat} (ret : ∀ (pc : Nat) (ls : Array Slot) (H : Heap) (locs : List Loc) (mt' qm' : Nat → Int32), decode cM_largest pc = .ok (.ireturn, 1) → va_S A H0 H locs → qm' = qm → sv_mP D cI cZ n qc ad σ mt' qm' H → W p l e R s m args below meth c H locs 0 0 Q (F0 m pc ls [.int (nI (sv_un σ n qc S))])) : ∀ (kf i : Nat) (mt : Nat → Int32) (H : Heap) (locs : List Loc) (ls : Array Slot), 2 ^ n - i < kf → 1 ≤ i → i ≤ 2 ^ n → sv_mP D cI cZ n qc ad σ mt qm H → va_S A H0 H locs → lv_has ls 4 [(0, .ref (ad 0)), (1, .int (nI S)), (2, .int (nI (sv_orr (fun q => decide (q &&& S = q) && sv_quo σ n qc q) i))), (3, .int (nI i))] → W p l e R s m args below meth c H locs 0 0 Q (F0 m 14 ls []) := by
  have hx := X.1
  have hb := X.2.1
  have h64 := sv_p2_64 hn
  intro kf
  induction kf with
  | zero => intro i mt H locs ls hm; exact absurd hm (Nat.not_lt_zero _)
  | succ kf ih =>
    intro i mt H locs ls hm hi1 hi hP hS hl
    refine lv_iload_n (i := 3) hx hb dM_largest_14 rfl (sv_at hl rfl) ?_
    refine lv_iconst (v := 1) hx hb dM_largest_15 (by decide) ?_
    refine lv_aload_n (i := 0) hx hb dM_largest_16 rfl (sv_at hl rfl) ?_
    refine gM_nodes X hP dM_largest_17 ?_
    refine lv_ishl hx hb dM_largest_20 ?_
    refine x_tv (sv_pow n (by omega)) ?_
    refine lv_icmp_ge (tgt := 50) hx hb dM_largest_21 rfl (fun h21 => ?_) (fun h21 => ?_)
    · skip
      rw [nI_leI (by omega) (by omega)] at h21
      obtain rfl : i = 2 ^ n := by omega
      refine lv_iload_n (i := 2) hx hb dM_largest_50 rfl (sv_at hl rfl) ?_
      exact ret _ _ _ _ _ _ dM_largest_51 hS rfl hP
    · skip
      rw [nI_leI (by omega) (by omega)] at h21
      have hi64 : i < 64 := by omega
      have hi2 : i < 2 ^ n := by omega
      refine lv_iload_n (i := 3) hx hb dM_largest_24 rfl (sv_at hl rfl) ?_
      refine lv_iload_n (i := 1) hx hb dM_largest_25 rfl (sv_at hl rfl) ?_
      refine lv_iconst (v := -1) hx hb dM_largest_26 (by decide) ?_
      refine lv_ixor hx hb dM_largest_27 ?_
      refine lv_iand hx hb dM_largest_28 ?_
      refine lv_if_ne (tgt := 44) hx hb dM_largest_29 rfl (fun h29 => ?_) (fun h29 => ?_)
      · skip
        rw [sv_andz hi64] at h29
        rw [show sv_orr (fun q => decide (q &&& S = q) && sv_quo σ n qc q) i = sv_orr (fun q => decide (q &&& S = q) && sv_quo σ n qc q) (i + 1) from (sv_orr_f (by rw [decide_eq_false h29]; rfl)).symm] at hl
        refine x_iinc (i := 3) hx hb dM_largest_44 hl rfl (sv_inc i) (by decide) (fun ls hl => ?_)
        refine lv_goto (tgt := 14) hx hb dM_largest_47 rfl ?_
        exact ih (i + 1) mt H locs ls (by omega) (by omega) (by omega) hP hS (sv_re hl ⟨rfl, rfl, rfl, rfl, trivial⟩)
      · skip
        rw [sv_andz hi64] at h29
        refine lv_aload_n (i := 0) hx hb dM_largest_32 rfl (sv_at hl rfl) ?_
        refine lv_iload_n (i := 3) hx hb dM_largest_33 rfl (sv_at hl rfl) ?_
        refine kM_quorum X (by decide) hP hJ hA hS hn hI hl (Nat.zero_le _) (Nat.zero_le _) (Nat.le_of_ble_eq_true rfl) dM_largest_34 (fun H locs mt qm hX hP hS => ?_)
        rw [sv_quoN hn hi2]
        rw [hX] at hP
        refine x_ifeqB (tgt := 44) hx hb dM_largest_37 rfl (fun h37 => ?_) (fun h37 => ?_)
        · skip
          rw [show sv_orr (fun q => decide (q &&& S = q) && sv_quo σ n qc q) i = sv_orr (fun q => decide (q &&& S = q) && sv_quo σ n qc q) (i + 1) from (sv_orr_f (by rw [h37, Bool.and_false])).symm] at hl
          refine x_iinc (i := 3) hx hb dM_largest_44 hl rfl (sv_inc i) (by decide) (fun ls hl => ?_)
          refine lv_goto (tgt := 14) hx hb dM_largest_47 rfl ?_
          exact ih (i + 1) mt H locs ls (by omega) (by omega) (by omega) hP hS (sv_re hl ⟨rfl, rfl, rfl, rfl, trivial⟩)
        · skip
          refine lv_iload_n (i := 2) hx hb dM_largest_40 rfl (sv_at hl rfl) ?_
          refine lv_iload_n (i := 3) hx hb dM_largest_41 rfl (sv_at hl rfl) ?_
          refine lv_ior hx hb dM_largest_42 ?_
          refine x_tv (y := nI (sv_orr (fun q => decide (q &&& S = q) && sv_quo σ n qc q) (i + 1))) (by rw [sv_nor, sv_orr_t (P := (fun q => decide (q &&& S = q) && sv_quo σ n qc q)) (by rw [decide_eq_true h29, h37]; rfl)]) ?_
          refine lv_istore_n (i := 2) hx hb dM_largest_43 rfl hl (by decide) rfl (fun ls hl => ?_)
          refine x_iinc (i := 3) hx hb dM_largest_44 hl rfl (sv_inc i) (by decide) (fun ls hl => ?_)
          refine lv_goto (tgt := 14) hx hb dM_largest_47 rfl ?_
          exact ih (i + 1) mt H locs ls (by omega) (by omega) (by omega) hP hS (sv_re hl ⟨rfl, rfl, rfl, rfl, trivial⟩)

set_option maxHeartbeats 4000000 in
set_option maxRecDepth 100000 in
theorem wM_largest (X : sv_X D cI cZ cN cQ "SliceVotingModel" cM_largest 4 3 p R s m args c) (hP : sv_mP D cI cZ n qc ad σ mt qm H) (hJ : sv_inj 17 ad) (hA : ∀ k, k < 17 → A (ad k)) (hS : va_S A H0 H locs) {x : Int32} (hn : n ≤ 6) (hI : sv_IQ n qc σ) (hl : lv_has ls 4 [(0, .ref (ad 0)), (1, .int x)]) (ret : ∀ (pc : Nat) (ls : Array Slot) (H : Heap) (locs : List Loc) (mt' qm' : Nat → Int32), decode cM_largest pc = .ok (.ireturn, 1) → va_S A H0 H locs → (qm' = qm) → sv_mP D cI cZ n qc ad (σ) mt' qm' H → W p l e R s m args below meth c H locs 0 0 Q (F0 m pc ls [.int ((bif decide (sv_N x < 2 ^ n) then nI (sv_un σ n qc (sv_N x)) else -1))])) : W p l e R s m args below meth c H locs 0 0 Q (F0 m 0 ls []) := by
  have hx := X.1
  have hb := X.2.1
  refine lv_aload_n (i := 0) hx hb dM_largest_0 rfl (sv_at hl rfl) ?_
  refine lv_iload_n (i := 1) hx hb dM_largest_1 rfl (sv_at hl rfl) ?_
  refine kM_isSet X (by decide) hP hn hl (Nat.zero_le _) (Nat.zero_le _) (Nat.le_of_ble_eq_true rfl) dM_largest_2 ?_
  refine x_ifneB (tgt := 10) hx hb dM_largest_5 rfl (fun h5 => ?_) (fun h5 => ?_)
  · skip
    obtain ⟨S, hS2, rfl⟩ := sv_set_of h5
    rw [sv_N_of hn hS2, decide_eq_true hS2] at ret
    dsimp only [cond_true] at ret
    refine lv_iconst (v := 0) hx hb dM_largest_10 (by decide) ?_
    refine lv_istore_n (i := 2) hx hb dM_largest_11 rfl hl (by decide) rfl (fun ls hl => ?_)
    refine lv_iconst (v := 1) hx hb dM_largest_12 (by decide) ?_
    refine lv_istore_n (i := 3) hx hb dM_largest_13 rfl hl (by decide) rfl (fun ls hl => ?_)
    exact wM_largest_J X hJ hA hn hI ret _ 1 mt H locs ls (Nat.lt_succ_self _) (by decide) Nat.one_le_two_pow hP hS (sv_re hl ⟨rfl, rfl, by rw [sv_orr_1]; rfl, rfl, trivial⟩)
  · skip
    refine lv_iconst (v := -1) hx hb dM_largest_8 (by decide) ?_
    exact x_tv (by rw [h5]; rfl) (ret _ _ _ _ _ _ dM_largest_9 hS rfl hP)

theorem cM_m_largest (hJ : sv_inj 17 ad) (hA : ∀ k, k < 17 → A (ad k)) {x : Int32} (hn : n ≤ 6) (hI : sv_IQ n qc σ) : Met l yM_largest (sv_ws yM_largest cM_largest 4 (some .int)) (sv_rm 3) (sv_Pc D cI cZ cN cQ [.ref (ad 0), .int x] (fun H => sv_mP D cI cZ n qc ad σ mt qm H)) (va_Qi (fun (r : Int32) (u : Sg × (Nat → Int32) × (Nat → Int32)) => r = (bif decide (sv_N x < 2 ^ n) then nI (sv_un σ n qc (sv_N x)) else -1) ∧ u.1 = σ ∧ (u.2.2 = qm)) (fun u t => sv_mP D cI cZ n qc ad u.1 u.2.1 u.2.2 t.heap) A) 0 0 A :=
  sv_mkI (S := Sg × (Nat → Int32) × (Nat → Int32)) (B := fun u H => sv_mP D cI cZ n qc ad u.1 u.2.1 u.2.2 H) (by decide) (by show 2 ≤ 4; decide) (fun _ _ _ => rfl) (fun p e s m below meth c ls Q X hP hl ret => wM_largest X hP hJ hA va_S.rf hn hI hl (fun pc ls H locs mt' qm' hd hS hX hP => ret pc ls _ (_, mt', qm') H locs hd hS ⟨rfl, rfl, hX⟩ hP))
set_option maxRecDepth 100000 in
theorem okL_M_largest : sv_okV "SliceVotingLaw" 86 yM_largest cM_largest 4 (some .int) 1 := ⟨sv_tb_t 402 rfl rfl, sv_tb_t 399 rfl rfl, sv_tb_t 400 rfl rfl, sv_tb_t 401 rfl rfl, sv_tb_t 4 rfl rfl, ⟨by decide, by decide, by decide +kernel⟩, by decide⟩
theorem kL_m_largest (X : sv_X D cI cZ cN cQ "SliceVotingLaw" cc nL k p R s m args c) (hk : 3 + 1 ≤ k) (hP : sv_mP D cI cZ n qc ad σ mt qm H) (hJ : sv_inj 17 ad) (hA : ∀ k, k < 17 → A (ad k)) (hS : va_S A H0 H locs) {x : Int32} (hn : n ≤ 6) (hI : sv_IQ n qc σ) (hl : lv_has ls nL lv) (hc : cells ≤ R.cells) (hs : slots ≤ R.slots) (hcat : (rest.map fun v => v.category).sum ≤ 8) (hd : decode cc pc = .ok (.invokevirtual 86, 3)) (kk : ∀ (H1 : Heap) (locs1 : List Loc) (mt' qm' : Nat → Int32), (qm' = qm) → sv_mP D cI cZ n qc ad (σ) mt' qm' H1 → va_S A H0 H1 locs1 → W p l e R s m args below meth c H1 locs1 cells slots Q (F0 m (pc + 3) ls (.int ((bif decide (sv_N x < 2 ^ n) then nI (sv_un σ n qc (sv_N x)) else -1)) :: rest))) : W p l e R s m args below meth c H locs cells slots Q (F0 m pc ls (.int x :: .ref (ad 0) :: rest)) :=
  sv_wVi (S := Sg × (Nat → Int32) × (Nat → Int32)) (G := fun H => sv_mP D cI cZ n qc ad σ mt qm H) (B := fun u H => sv_mP D cI cZ n qc ad u.1 u.2.1 u.2.2 H) X okL_M_largest (cM_m_largest hJ hA hn hI) hP (y_rec X.K hP (by decide) sv_me_0 rfl) hS hk rfl hl.1 rfl hcat hc hs hd (fun r u H1 locs1 hp hB hS => by obtain ⟨τ, a, b⟩ := u; obtain ⟨rfl, h1, h2⟩ := hp; dsimp only at h1 h2 hB; subst h1; exact kk H1 locs1 a b h2 hB hS)
set_option maxHeartbeats 4000000 in
set_option maxRecDepth 100000 in
theorem wM_stops (X : sv_X D cI cZ cN cQ "SliceVotingModel" cM_stops 4 2 p R s m args c) (hP : sv_mP D cI cZ n qc ad σ mt qm H) (hJ : sv_inj 17 ad) (hA : ∀ k, k < 17 → A (ad k)) (hS : va_S A H0 H locs) {S v : Nat} (hn : n ≤ 6) (hI : sv_IQ n qc σ) (hS2 : S < 2 ^ n) (hl : lv_has ls 4 [(0, .ref (ad 0)), (1, .int (nI S)), (2, .int (nI v))]) (ret : ∀ (pc : Nat) (ls : Array Slot) (H : Heap) (locs : List Loc) (mt' qm' : Nat → Int32), decode cM_stops pc = .ok (.ireturn, 1) → va_S A H0 H locs → (qm' = qm) → sv_mP D cI cZ n qc ad (σ) mt' qm' H → W p l e R s m args below meth c H locs 0 0 Q (F0 m pc ls [.int (sv_b (sv_blk σ n qc S v))])) : W p l e R s m args below meth c H locs 0 0 Q (F0 m 0 ls []) := by
  have hx := X.1
  have hb := X.2.1
  have hq24 := hI.2.2.2.1
  refine lv_aload_n (i := 0) hx hb dM_stops_0 rfl (sv_at hl rfl) ?_
  refine lv_iload_n (i := 2) hx hb dM_stops_1 rfl (sv_at hl rfl) ?_
  refine kM_top X (by decide) hP hq24 hl (Nat.zero_le _) (Nat.zero_le _) (Nat.le_of_ble_eq_true rfl) dM_stops_2 ?_
  refine lv_istore_n (i := 3) hx hb dM_stops_5 rfl hl (by decide) rfl (fun ls hl => ?_)
  refine lv_aload_n (i := 0) hx hb dM_stops_6 rfl (sv_at hl rfl) ?_
  refine lv_iconst (v := 1) hx hb dM_stops_7 (by decide) ?_
  refine lv_aload_n (i := 0) hx hb dM_stops_8 rfl (sv_at hl rfl) ?_
  refine gM_nodes X hP dM_stops_9 ?_
  refine lv_ishl hx hb dM_stops_12 ?_
  refine lv_iconst (v := 1) hx hb dM_stops_13 (by decide) ?_
  refine lv_isub hx hb dM_stops_14 ?_
  refine x_tv (sv_p2m1 n hn) ?_
  refine lv_iload_n (i := 1) hx hb dM_stops_15 rfl (sv_at hl rfl) ?_
  refine lv_iconst (v := -1) hx hb dM_stops_16 (by decide) ?_
  refine lv_ixor hx hb dM_stops_17 ?_
  refine lv_iand hx hb dM_stops_18 ?_
  refine x_tv (sv_compl hS2) ?_
  refine kM_meet X (by decide) hP hJ hA hS hI (sv_co_lt hS2) hl (Nat.zero_le _) (Nat.zero_le _) (Nat.le_of_ble_eq_true rfl) dM_stops_19 (fun H locs mt qm hX hP hS => ?_)
  refine lv_iload_n (i := 3) hx hb dM_stops_22 rfl (sv_at hl rfl) ?_
  refine lv_iconst (v := -1) hx hb dM_stops_23 (by decide) ?_
  refine lv_icmp_eq (tgt := 40) hx hb dM_stops_24 rfl (fun h24 => ?_) (fun h24 => ?_)
  · skip
    have et := sv_oI_eq (fun t ht => by have := sv_top_lt ht; omega) h24
    refine lv_iconst (v := 0) hx hb dM_stops_40 (by decide) ?_
    first | (have ee := h33; exact x_tv (by unfold sv_blk; rw [et]; dsimp only; rw [h33]; rfl) (ret _ _ _ _ _ _ dM_stops_41 hS hX.2 hP)) | exact x_tv (by unfold sv_blk; rw [et]; rfl) (ret _ _ _ _ _ _ dM_stops_41 hS hX.2 hP)
  · skip
    obtain ⟨t, et⟩ := sv_oI_ne h24
    have ht := sv_top_lt et
    rw [et] at hl
    refine lv_aload_n (i := 0) hx hb dM_stops_27 rfl (sv_at hl rfl) ?_
    refine gM_met X hP dM_stops_28 ?_
    refine lv_iload_n (i := 3) hx hb dM_stops_31 rfl (sv_at hl rfl) ?_
    refine x_tv (y := nI t) rfl ?_
    refine gm_met X hP (by omega) dM_stops_32 ?_
    refine x_tv (hX.1 t ht) ?_
    refine x_ifneB (tgt := 40) hx hb dM_stops_33 rfl (fun h33 => ?_) (fun h33 => ?_)
    · skip
      refine lv_iconst (v := 0) hx hb dM_stops_40 (by decide) ?_
      first | (have ee := h33; exact x_tv (by unfold sv_blk; rw [et]; dsimp only; rw [h33]; rfl) (ret _ _ _ _ _ _ dM_stops_41 hS hX.2 hP)) | exact x_tv (by unfold sv_blk; rw [et]; rfl) (ret _ _ _ _ _ _ dM_stops_41 hS hX.2 hP)
    · skip
      refine lv_iconst (v := 1) hx hb dM_stops_36 (by decide) ?_
      refine lv_goto (tgt := 41) hx hb dM_stops_37 rfl ?_
      first | (have ee := h33; exact x_tv (by unfold sv_blk; rw [et]; dsimp only; rw [h33]; rfl) (ret _ _ _ _ _ _ dM_stops_41 hS hX.2 hP)) | exact x_tv (by unfold sv_blk; rw [et]; rfl) (ret _ _ _ _ _ _ dM_stops_41 hS hX.2 hP)

theorem cM_m_stops (hJ : sv_inj 17 ad) (hA : ∀ k, k < 17 → A (ad k)) {S v : Nat} (hn : n ≤ 6) (hI : sv_IQ n qc σ) (hS2 : S < 2 ^ n) : Met l yM_stops (sv_ws yM_stops cM_stops 4 (some .boolean)) (sv_rm 2) (sv_Pc D cI cZ cN cQ [.ref (ad 0), .int (nI S), .int (nI v)] (fun H => sv_mP D cI cZ n qc ad σ mt qm H)) (va_Qi (fun (r : Int32) (u : Sg × (Nat → Int32) × (Nat → Int32)) => r = sv_b (sv_blk σ n qc S v) ∧ u.1 = σ ∧ (u.2.2 = qm)) (fun u t => sv_mP D cI cZ n qc ad u.1 u.2.1 u.2.2 t.heap) A) 0 0 A :=
  sv_mkI (S := Sg × (Nat → Int32) × (Nat → Int32)) (B := fun u H => sv_mP D cI cZ n qc ad u.1 u.2.1 u.2.2 H) (by decide) (by show 3 ≤ 4; decide) (fun _ _ h => by rw [h.1]; exact sv_narb _) (fun p e s m below meth c ls Q X hP hl ret => wM_stops X hP hJ hA va_S.rf hn hI hS2 hl (fun pc ls H locs mt' qm' hd hS hX hP => ret pc ls _ (_, mt', qm') H locs hd hS ⟨rfl, rfl, hX⟩ hP))
set_option maxRecDepth 100000 in
theorem okM_M_stops : sv_okV "SliceVotingModel" 88 yM_stops cM_stops 4 (some .boolean) 2 := ⟨sv_tb_t 411 rfl rfl, sv_tb_t 408 rfl rfl, sv_tb_t 410 rfl rfl, sv_tb_s 21 rfl rfl, sv_tb_t 4 rfl rfl, ⟨by decide, by decide, by decide +kernel⟩, by decide⟩
theorem kM_stops (X : sv_X D cI cZ cN cQ "SliceVotingModel" cc nL k p R s m args c) (hk : 2 + 1 ≤ k) (hP : sv_mP D cI cZ n qc ad σ mt qm H) (hJ : sv_inj 17 ad) (hA : ∀ k, k < 17 → A (ad k)) (hS : va_S A H0 H locs) {S v : Nat} (hn : n ≤ 6) (hI : sv_IQ n qc σ) (hS2 : S < 2 ^ n) (hl : lv_has ls nL lv) (hc : cells ≤ R.cells) (hs : slots ≤ R.slots) (hcat : (rest.map fun v => v.category).sum ≤ 8) (hd : decode cc pc = .ok (.invokevirtual 88, 3)) (kk : ∀ (H1 : Heap) (locs1 : List Loc) (mt' qm' : Nat → Int32), (qm' = qm) → sv_mP D cI cZ n qc ad (σ) mt' qm' H1 → va_S A H0 H1 locs1 → W p l e R s m args below meth c H1 locs1 cells slots Q (F0 m (pc + 3) ls (.int (sv_b (sv_blk σ n qc S v)) :: rest))) : W p l e R s m args below meth c H locs cells slots Q (F0 m pc ls (.int (nI v) :: .int (nI S) :: .ref (ad 0) :: rest)) :=
  sv_wVi (S := Sg × (Nat → Int32) × (Nat → Int32)) (G := fun H => sv_mP D cI cZ n qc ad σ mt qm H) (B := fun u H => sv_mP D cI cZ n qc ad u.1 u.2.1 u.2.2 H) X okM_M_stops (cM_m_stops hJ hA hn hI hS2) hP (y_rec X.K hP (by decide) sv_me_0 rfl) hS hk rfl hl.1 rfl hcat hc hs hd (fun r u H1 locs1 hp hB hS => by obtain ⟨τ, a, b⟩ := u; obtain ⟨rfl, h1, h2⟩ := hp; dsimp only at h1 h2 hB; subst h1; exact kk H1 locs1 a b h2 hB hS)
set_option maxHeartbeats 4000000 in
set_option maxRecDepth 100000 in
theorem wM_blocks (X : sv_X D cI cZ cN cQ "SliceVotingModel" cM_blocks 3 3 p R s m args c) (hP : sv_mP D cI cZ n qc ad σ mt qm H) (hJ : sv_inj 17 ad) (hA : ∀ k, k < 17 → A (ad k)) (hS : va_S A H0 H locs) {x v : Int32} (hn : n ≤ 6) (hI : sv_IQ n qc σ) (hl : lv_has ls 3 [(0, .ref (ad 0)), (1, .int x), (2, .int v)]) (ret : ∀ (pc : Nat) (ls : Array Slot) (H : Heap) (locs : List Loc) (mt' qm' : Nat → Int32), decode cM_blocks pc = .ok (.ireturn, 1) → va_S A H0 H locs → (qm' = qm) → sv_mP D cI cZ n qc ad (σ) mt' qm' H → W p l e R s m args below meth c H locs 0 0 Q (F0 m pc ls [.int (sv_b (decide (sv_N x < 2 ^ n) && (sv_isn n v && sv_blk σ n qc (sv_N x) v.toNatClampNeg)))])) : W p l e R s m args below meth c H locs 0 0 Q (F0 m 0 ls []) := by
  have hx := X.1
  have hb := X.2.1
  refine lv_aload_n (i := 0) hx hb dM_blocks_0 rfl (sv_at hl rfl) ?_
  refine lv_iload_n (i := 2) hx hb dM_blocks_1 rfl (sv_at hl rfl) ?_
  refine kM_isNode X (by decide) hP  hl (Nat.zero_le _) (Nat.zero_le _) (Nat.le_of_ble_eq_true rfl) dM_blocks_2 ?_
  refine x_ifeqB (tgt := 29) hx hb dM_blocks_5 rfl (fun h5 => ?_) (fun h5 => ?_)
  · skip
    refine lv_iconst (v := 0) hx hb dM_blocks_29 (by decide) ?_
    first | (have ee := h22; exact x_tv (by rw [decide_eq_true hS2, h5, h22]; rfl) (ret _ _ _ _ _ _ dM_blocks_30 hS hX hP)) | (have ee := h13; exact x_tv (by rw [h13]; rfl) (ret _ _ _ _ _ _ dM_blocks_30 hS rfl hP)) | exact x_tv (by rw [h5, Bool.false_and, Bool.and_false]; rfl) (ret _ _ _ _ _ _ dM_blocks_30 hS rfl hP)
  · skip
    obtain ⟨j, hj, rfl⟩ := sv_isn_t (by omega) h5
    rw [nI_clamp (by omega)] at ret
    refine lv_aload_n (i := 0) hx hb dM_blocks_8 rfl (sv_at hl rfl) ?_
    refine lv_iload_n (i := 1) hx hb dM_blocks_9 rfl (sv_at hl rfl) ?_
    refine kM_isSet X (by decide) hP hn hl (Nat.zero_le _) (Nat.zero_le _) (Nat.le_of_ble_eq_true rfl) dM_blocks_10 ?_
    refine x_ifeqB (tgt := 29) hx hb dM_blocks_13 rfl (fun h13 => ?_) (fun h13 => ?_)
    · skip
      refine lv_iconst (v := 0) hx hb dM_blocks_29 (by decide) ?_
      first | (have ee := h22; exact x_tv (by rw [decide_eq_true hS2, h5, h22]; rfl) (ret _ _ _ _ _ _ dM_blocks_30 hS hX hP)) | (have ee := h13; exact x_tv (by rw [h13]; rfl) (ret _ _ _ _ _ _ dM_blocks_30 hS rfl hP)) | exact x_tv (by rw [h5, Bool.false_and, Bool.and_false]; rfl) (ret _ _ _ _ _ _ dM_blocks_30 hS rfl hP)
    · skip
      obtain ⟨S, hS2, rfl⟩ := sv_set_of h13
      rw [sv_N_of hn hS2] at ret
      refine lv_aload_n (i := 0) hx hb dM_blocks_16 rfl (sv_at hl rfl) ?_
      refine lv_iload_n (i := 1) hx hb dM_blocks_17 rfl (sv_at hl rfl) ?_
      refine lv_iload_n (i := 2) hx hb dM_blocks_18 rfl (sv_at hl rfl) ?_
      refine kM_stops X (by decide) hP hJ hA hS hn hI hS2 hl (Nat.zero_le _) (Nat.zero_le _) (Nat.le_of_ble_eq_true rfl) dM_blocks_19 (fun H locs mt qm hX hP hS => ?_)
      refine x_ifeqB (tgt := 29) hx hb dM_blocks_22 rfl (fun h22 => ?_) (fun h22 => ?_)
      · skip
        refine lv_iconst (v := 0) hx hb dM_blocks_29 (by decide) ?_
        first | (have ee := h22; exact x_tv (by rw [decide_eq_true hS2, h5, h22]; rfl) (ret _ _ _ _ _ _ dM_blocks_30 hS hX hP)) | (have ee := h13; exact x_tv (by rw [h13]; rfl) (ret _ _ _ _ _ _ dM_blocks_30 hS rfl hP)) | exact x_tv (by rw [h5, Bool.false_and, Bool.and_false]; rfl) (ret _ _ _ _ _ _ dM_blocks_30 hS rfl hP)
      · skip
        refine lv_iconst (v := 1) hx hb dM_blocks_25 (by decide) ?_
        refine lv_goto (tgt := 30) hx hb dM_blocks_26 rfl ?_
        first | (have ee := h22; exact x_tv (by rw [decide_eq_true hS2, h5, h22]; rfl) (ret _ _ _ _ _ _ dM_blocks_30 hS hX hP)) | (have ee := h13; exact x_tv (by rw [h13]; rfl) (ret _ _ _ _ _ _ dM_blocks_30 hS rfl hP)) | exact x_tv (by rw [h5, Bool.false_and, Bool.and_false]; rfl) (ret _ _ _ _ _ _ dM_blocks_30 hS rfl hP)

theorem cM_m_blocks (hJ : sv_inj 17 ad) (hA : ∀ k, k < 17 → A (ad k)) {x v : Int32} (hn : n ≤ 6) (hI : sv_IQ n qc σ) : Met l yM_blocks (sv_ws yM_blocks cM_blocks 3 (some .boolean)) (sv_rm 3) (sv_Pc D cI cZ cN cQ [.ref (ad 0), .int x, .int v] (fun H => sv_mP D cI cZ n qc ad σ mt qm H)) (va_Qi (fun (r : Int32) (u : Sg × (Nat → Int32) × (Nat → Int32)) => r = sv_b (decide (sv_N x < 2 ^ n) && (sv_isn n v && sv_blk σ n qc (sv_N x) v.toNatClampNeg)) ∧ u.1 = σ ∧ (u.2.2 = qm)) (fun u t => sv_mP D cI cZ n qc ad u.1 u.2.1 u.2.2 t.heap) A) 0 0 A :=
  sv_mkI (S := Sg × (Nat → Int32) × (Nat → Int32)) (B := fun u H => sv_mP D cI cZ n qc ad u.1 u.2.1 u.2.2 H) (by decide) (by show 3 ≤ 3; decide) (fun _ _ h => by rw [h.1]; exact sv_narb _) (fun p e s m below meth c ls Q X hP hl ret => wM_blocks X hP hJ hA va_S.rf hn hI hl (fun pc ls H locs mt' qm' hd hS hX hP => ret pc ls _ (_, mt', qm') H locs hd hS ⟨rfl, rfl, hX⟩ hP))
set_option maxRecDepth 100000 in
theorem okL_M_blocks : sv_okV "SliceVotingLaw" 90 yM_blocks cM_blocks 3 (some .boolean) 2 := ⟨sv_tb_t 407 rfl rfl, sv_tb_t 404 rfl rfl, sv_tb_t 405 rfl rfl, sv_tb_t 406 rfl rfl, sv_tb_t 4 rfl rfl, ⟨by decide, by decide, by decide +kernel⟩, by decide⟩
theorem kL_m_blocks (X : sv_X D cI cZ cN cQ "SliceVotingLaw" cc nL k p R s m args c) (hk : 3 + 1 ≤ k) (hP : sv_mP D cI cZ n qc ad σ mt qm H) (hJ : sv_inj 17 ad) (hA : ∀ k, k < 17 → A (ad k)) (hS : va_S A H0 H locs) {x v : Int32} (hn : n ≤ 6) (hI : sv_IQ n qc σ) (hl : lv_has ls nL lv) (hc : cells ≤ R.cells) (hs : slots ≤ R.slots) (hcat : (rest.map fun v => v.category).sum ≤ 8) (hd : decode cc pc = .ok (.invokevirtual 90, 3)) (kk : ∀ (H1 : Heap) (locs1 : List Loc) (mt' qm' : Nat → Int32), (qm' = qm) → sv_mP D cI cZ n qc ad (σ) mt' qm' H1 → va_S A H0 H1 locs1 → W p l e R s m args below meth c H1 locs1 cells slots Q (F0 m (pc + 3) ls (.int (sv_b (decide (sv_N x < 2 ^ n) && (sv_isn n v && sv_blk σ n qc (sv_N x) v.toNatClampNeg))) :: rest))) : W p l e R s m args below meth c H locs cells slots Q (F0 m pc ls (.int v :: .int x :: .ref (ad 0) :: rest)) :=
  sv_wVi (S := Sg × (Nat → Int32) × (Nat → Int32)) (G := fun H => sv_mP D cI cZ n qc ad σ mt qm H) (B := fun u H => sv_mP D cI cZ n qc ad u.1 u.2.1 u.2.2 H) X okL_M_blocks (cM_m_blocks hJ hA hn hI) hP (y_rec X.K hP (by decide) sv_me_0 rfl) hS hk rfl hl.1 rfl hcat hc hs hd (fun r u H1 locs1 hp hB hS => by obtain ⟨τ, a, b⟩ := u; obtain ⟨rfl, h1, h2⟩ := hp; dsimp only at h1 h2 hB; subst h1; exact kk H1 locs1 a b h2 hB hS)
theorem sv_qmup {qm : Nat → Int32} {σ : Sg} {n qc i : Nat} (h : ∀ q, q < i → qm q = sv_b (sv_quo σ n qc q)) : ∀ q, q < i + 1 → upd qm i (sv_b (sv_quo σ n qc i)) q = sv_b (sv_quo σ n qc q) := by
  intro q hq
  unfold upd
  by_cases e : q = i
  · rw [if_pos e, e]
  · rw [if_neg e]; exact h q (by omega)
set_option maxHeartbeats 4000000 in
set_option maxRecDepth 100000 in
theorem wM_tryAll (X : sv_X D cI cZ cN cQ "SliceVotingModel" cM_tryAll 2 3 p R s m args c) (hP : sv_mP D cI cZ n qc ad σ mt qm H) (hJ : sv_inj 17 ad) (hA : ∀ k, k < 17 → A (ad k)) (hS : va_S A H0 H locs)  (hn : n ≤ 6) (hI : sv_IQ n qc σ) (hl : lv_has ls 2 [(0, .ref (ad 0))]) (ret : ∀ (pc : Nat) (ls : Array Slot) (H : Heap) (locs : List Loc) (mt' qm' : Nat → Int32), decode cM_tryAll pc = .ok (.return_, 1) → va_S A H0 H locs → (∀ q, q < 2 ^ n → qm' q = sv_b (sv_quo σ n qc q)) → sv_mP D cI cZ n qc ad (σ) mt' qm' H → W p l e R s m args below meth c H locs 0 0 Q (F0 m pc ls [])) : W p l e R s m args below meth c H locs 0 0 Q (F0 m 0 ls []) := by
  have hx := X.1
  have hb := X.2.1
  have h64 := sv_p2_64 hn
  have J2 : ∀ (kf : Nat) (i : Nat) (mt : Nat → Int32) (qm : Nat → Int32) (H : Heap) (locs : List Loc) (ls : Array Slot), 2 ^ n - i < kf → (i ≤ 2 ^ n) → (∀ q, q < i → qm q = sv_b (sv_quo σ n qc q)) → (sv_mP D cI cZ n qc ad σ mt qm H) → (va_S A H0 H locs) → lv_has ls 2 [(0, .ref (ad 0)), (1, .int (nI i))] → W p l e R s m args below meth c H locs 0 0 Q (F0 m 2 ls []) := by
    intro kf
    induction kf with
    | zero => intro i mt qm H locs ls hm; exact absurd hm (Nat.not_lt_zero _)
    | succ kf ih =>
      intro i mt qm H locs ls hm hi hq9 hP hS hl
      refine lv_iload_n (i := 1) hx hb dM_tryAll_2 rfl (sv_at hl rfl) ?_
      refine lv_iconst (v := 1) hx hb dM_tryAll_3 (by decide) ?_
      refine lv_aload_n (i := 0) hx hb dM_tryAll_4 rfl (sv_at hl rfl) ?_
      refine gM_nodes X hP dM_tryAll_5 ?_
      refine lv_ishl hx hb dM_tryAll_8 ?_
      refine x_tv (sv_pow n (by omega)) ?_
      refine lv_icmp_ge (tgt := 29) hx hb dM_tryAll_9 rfl (fun h9 => ?_) (fun h9 => ?_)
      · skip
        rw [nI_leI (by omega) (by omega)] at h9
        obtain rfl : i = 2 ^ n := by omega
        exact ret _ _ _ _ _ _ dM_tryAll_29 hS hq9 hP
      · skip
        rw [nI_leI (by omega) (by omega)] at h9
        have hi2 : i < 2 ^ n := by omega
        refine lv_aload_n (i := 0) hx hb dM_tryAll_12 rfl (sv_at hl rfl) ?_
        refine gM_quorums X hP dM_tryAll_13 ?_
        refine lv_iload_n (i := 1) hx hb dM_tryAll_16 rfl (sv_at hl rfl) ?_
        refine lv_aload_n (i := 0) hx hb dM_tryAll_17 rfl (sv_at hl rfl) ?_
        refine lv_iload_n (i := 1) hx hb dM_tryAll_18 rfl (sv_at hl rfl) ?_
        refine kM_quorum X (by decide) hP hJ hA hS hn hI hl (Nat.zero_le _) (Nat.zero_le _) (Nat.le_of_ble_eq_true rfl) dM_tryAll_19 (fun H locs mt qm hX hP hS => ?_)
        rw [sv_quoN hn hi2]
        rw [hX] at hP
        refine pm_quorums X hP hJ hA hS (by omega) dM_tryAll_22 (fun H locs hP hS => ?_)
        refine x_iinc (i := 1) hx hb dM_tryAll_23 hl rfl (sv_inc i) (by decide) (fun ls hl => ?_)
        refine lv_goto (tgt := 2) hx hb dM_tryAll_26 rfl ?_
        exact ih (i + 1) mt _ H locs ls (by omega) (by omega) (sv_qmup hq9) hP hS (sv_re hl ⟨rfl, rfl, trivial⟩)
  refine lv_iconst (v := 0) hx hb dM_tryAll_0 (by decide) ?_
  refine lv_istore_n (i := 1) hx hb dM_tryAll_1 rfl hl (by decide) rfl (fun ls hl => ?_)
  exact J2 _ 0 mt qm H locs ls (Nat.lt_succ_self _) (Nat.zero_le _) lt_0 hP hS (sv_re hl ⟨rfl, rfl, trivial⟩)

theorem cM_m_tryAll (hJ : sv_inj 17 ad) (hA : ∀ k, k < 17 → A (ad k))  (hn : n ≤ 6) (hI : sv_IQ n qc σ) : Met l yM_tryAll (sv_ws yM_tryAll cM_tryAll 2 none) (sv_rm 3) (sv_Pc D cI cZ cN cQ [.ref (ad 0)] (fun H => sv_mP D cI cZ n qc ad σ mt qm H)) (va_Qv (fun u : Sg × (Nat → Int32) × (Nat → Int32) => u.1 = σ ∧ (∀ q, q < 2 ^ n → u.2.2 q = sv_b (sv_quo σ n qc q))) (fun u t => sv_mP D cI cZ n qc ad u.1 u.2.1 u.2.2 t.heap) A) 0 0 A :=
  sv_mkV (S := Sg × (Nat → Int32) × (Nat → Int32)) (B := fun u H => sv_mP D cI cZ n qc ad u.1 u.2.1 u.2.2 H) (by decide) (by show 1 ≤ 2; decide) (fun p e s m below meth c ls Q X hP hl ret => wM_tryAll X hP hJ hA va_S.rf hn hI hl (fun pc ls H locs mt' qm' hd hS hX hP => ret pc ls (_, mt', qm') H locs hd hS ⟨rfl, hX⟩ hP))
set_option maxRecDepth 100000 in
theorem okM_M_tryAll : sv_okV "SliceVotingModel" 95 yM_tryAll cM_tryAll 2 none 0 := ⟨sv_tb_t 423 rfl rfl, sv_tb_t 420 rfl rfl, sv_tb_t 422 rfl rfl, sv_tb_s 23 rfl rfl, sv_tb_t 4 rfl rfl, ⟨by decide, by decide, by decide +kernel⟩, by decide⟩
theorem kM_tryAll (X : sv_X D cI cZ cN cQ "SliceVotingModel" cc nL k p R s m args c) (hk : 3 + 1 ≤ k) (hP : sv_mP D cI cZ n qc ad σ mt qm H) (hJ : sv_inj 17 ad) (hA : ∀ k, k < 17 → A (ad k)) (hS : va_S A H0 H locs)  (hn : n ≤ 6) (hI : sv_IQ n qc σ) (hl : lv_has ls nL lv) (hc : cells ≤ R.cells) (hs : slots ≤ R.slots) (hcat : (rest.map fun v => v.category).sum ≤ 8) (hd : decode cc pc = .ok (.invokevirtual 95, 3)) (kk : ∀ (H1 : Heap) (locs1 : List Loc) (mt' qm' : Nat → Int32), (∀ q, q < 2 ^ n → qm' q = sv_b (sv_quo σ n qc q)) → sv_mP D cI cZ n qc ad (σ) mt' qm' H1 → va_S A H0 H1 locs1 → W p l e R s m args below meth c H1 locs1 cells slots Q (F0 m (pc + 3) ls rest)) : W p l e R s m args below meth c H locs cells slots Q (F0 m pc ls (.ref (ad 0) :: rest)) :=
  sv_wVv (S := Sg × (Nat → Int32) × (Nat → Int32)) (G := fun H => sv_mP D cI cZ n qc ad σ mt qm H) (B := fun u H => sv_mP D cI cZ n qc ad u.1 u.2.1 u.2.2 H) X okM_M_tryAll (cM_m_tryAll hJ hA hn hI) hP (y_rec X.K hP (by decide) sv_me_0 rfl) hS hk rfl hl.1 rfl hcat hc hs hd (fun u H1 locs1 hp hB hS => by obtain ⟨τ, a, b⟩ := u; obtain ⟨h1, h2⟩ := hp; dsimp only at h1 h2 hB; subst h1; exact kk H1 locs1 a b h2 hB hS)
end SvModel4
