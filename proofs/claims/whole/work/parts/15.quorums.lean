section SvQuor
variable {p : Program} {l : Launch} {e : Env} {R : Room} {s : State} {m : MethodId} {args : Array Value} {below : List Frame} {meth : Method} {c : Code} {H H0 : Heap} {locs : List Loc} {cells slots : Nat} {Q : State → Prop}
variable {cc : ByteArray} {pc nL k : Nat} {ls : Array Slot} {lv : List (Nat × Value)} {rest : List Value} {D : va_G} {cI cZ cN cQ : ClassId} {n qc : Nat} {ad : Nat → Nat} {σ : Sg} {A : Nat → Prop} {mt qm : Nat → Int32}
set_option maxHeartbeats 4000000 in
set_option maxRecDepth 100000 in
theorem wS_isBlockedBy (X : sv_X D cI cZ cN cQ "SliceVoting" cS_isBlockedBy 3 5 p R s m args c) (hP : sv_cP D cI cN cQ n qc ad σ H) {v S : Nat} (hn : n ≤ 6) (hI : sv_IQ n qc σ) (hv : v < n) (hS : S < 2 ^ n) (hl : lv_has ls 3 [(0, .ref (ad 0)), (1, .ref (ad (2 + 3 * v))), (2, .int (nI S))]) (ret : ∀ (pc : Nat) (ls : Array Slot), decode cS_isBlockedBy pc = .ok (.ireturn, 1) → W p l e R s m args below meth c H locs 0 0 Q (F0 m pc ls [.int (sv_b (sv_blk σ n qc S v))])) : W p l e R s m args below meth c H locs 0 0 Q (F0 m 0 ls []) := by
  have hx := X.1
  have hb := X.2.1
  refine lv_aload_n (i := 1) hx hb dS_isBlockedBy_0 rfl (sv_at hl rfl) ?_
  refine gN_top X hP (by omega) dS_isBlockedBy_1 ?_
  refine x_ifnullR (tgt := 30) hx hb dS_isBlockedBy_4 rfl (fun h4 => ?_) (fun j4 h4 => ?_)
  · skip
    refine lv_iconst (v := 0) hx hb dS_isBlockedBy_30 (by decide) ?_
    exact x_tv (by unfold sv_blk; first | (rw [h4]; rfl) | (unfold sv_sat at h23; rw [h4] at h23 ⊢; dsimp only at h23 ⊢; rw [h23]; rfl)) (ret _ _ dS_isBlockedBy_31)
  · skip
    refine lv_aload_n (i := 1) hx hb dS_isBlockedBy_7 rfl (sv_at hl rfl) ?_
    refine gN_top X hP (by omega) dS_isBlockedBy_8 ?_
    refine lv_aload_n (i := 0) hx hb dS_isBlockedBy_11 rfl (sv_at hl rfl) ?_
    refine gS_everyone X hP dS_isBlockedBy_12 ?_
    refine lv_iload_n (i := 2) hx hb dS_isBlockedBy_15 rfl (sv_at hl rfl) ?_
    refine lv_iconst (v := -1) hx hb dS_isBlockedBy_16 (by decide) ?_
    refine lv_ixor hx hb dS_isBlockedBy_17 ?_
    refine lv_iand hx hb dS_isBlockedBy_18 ?_
    refine x_tv (sv_compl hS) ?_
    refine lv_iconst (v := 1) hx hb dS_isBlockedBy_19 (by decide) ?_
    refine kS_isMetT X (by decide) hP hI (sv_co_lt hS) hl (Nat.zero_le _) (Nat.zero_le _) (Nat.le_of_ble_eq_true rfl) dS_isBlockedBy_20 ?_
    refine x_ifneB (tgt := 30) hx hb dS_isBlockedBy_23 rfl (fun h23 => ?_) (fun h23 => ?_)
    · skip
      refine lv_iconst (v := 0) hx hb dS_isBlockedBy_30 (by decide) ?_
      exact x_tv (by unfold sv_blk; first | (rw [h4]; rfl) | (unfold sv_sat at h23; rw [h4] at h23 ⊢; dsimp only at h23 ⊢; rw [h23]; rfl)) (ret _ _ dS_isBlockedBy_31)
    · skip
      refine lv_iconst (v := 1) hx hb dS_isBlockedBy_26 (by decide) ?_
      refine lv_goto (tgt := 31) hx hb dS_isBlockedBy_27 rfl ?_
      exact x_tv (by unfold sv_blk; first | (rw [h4]; rfl) | (unfold sv_sat at h23; rw [h4] at h23 ⊢; dsimp only at h23 ⊢; rw [h23]; rfl)) (ret _ _ dS_isBlockedBy_31)

theorem cS_m_isBlockedBy {v S : Nat} (hn : n ≤ 6) (hI : sv_IQ n qc σ) (hv : v < n) (hS : S < 2 ^ n) : Met l yS_isBlockedBy (sv_ws yS_isBlockedBy cS_isBlockedBy 3 (some .boolean)) (sv_rm 5) (sv_Pc D cI cZ cN cQ [.ref (ad 0), .ref (ad (2 + 3 * v)), .int (nI S)] (fun H => sv_cP D cI cN cQ n qc ad σ H)) (vp_Si (fun zz => zz = sv_b (sv_blk σ n qc S v))) 0 0 (fun _ => False) :=
  sv_mkR (by decide) (by show 3 ≤ 3; decide) (sv_narb _) (fun p e s m below meth c ls Q X hP hl ret => wS_isBlockedBy X hP hn hI hv hS hl ret)
theorem okS_S_isBlockedBy : sv_okV "SliceVoting" 125 yS_isBlockedBy cS_isBlockedBy 3 (some .boolean) 2 := ⟨sv_tb_t 219 rfl rfl, sv_tb_t 216 rfl rfl, sv_tb_t 218 rfl rfl, sv_tb_s 11 rfl rfl, sv_tb_t 1 rfl rfl, ⟨by decide, by decide, by decide +kernel⟩, by decide⟩
theorem kS_isBlockedBy (X : sv_X D cI cZ cN cQ "SliceVoting" cc nL k p R s m args c) (hk : 5 + 1 ≤ k) (hP : sv_cP D cI cN cQ n qc ad σ H) {v S : Nat} (hn : n ≤ 6) (hI : sv_IQ n qc σ) (hv : v < n) (hS : S < 2 ^ n) (hl : lv_has ls nL lv) (hc : cells ≤ R.cells) (hs : slots ≤ R.slots) (hcat : (rest.map fun v => v.category).sum ≤ 8) (hd : decode cc pc = .ok (.invokevirtual 125, 3)) (kk : W p l e R s m args below meth c H locs cells slots Q (F0 m (pc + 3) ls (.int (sv_b (sv_blk σ n qc S v)) :: rest))) : W p l e R s m args below meth c H locs cells slots Q (F0 m pc ls (.int (nI S) :: .ref (ad (2 + 3 * v)) :: .ref (ad 0) :: rest)) :=
  sv_cV (G := fun H => sv_cP D cI cN cQ n qc ad σ H) X okS_S_isBlockedBy (cS_m_isBlockedBy hn hI hv hS) hP (y_rec X.K hP (by omega) sv_ce_S rfl) hk rfl hl.1 rfl hcat hc hs hd kk
theorem sv_rnd_lt {σ : Sg} {n qc T : Nat} (hT : T < 2 ^ n) (k : Nat) : sv_rnd σ qc T k < 2 ^ n := sv_lt_of_bits fun v hv => sv_bit_lt hT (sv_rnd_sub k v hv)
theorem sv_big {n T : Nat} (hn : n ≤ 6) (h : T < 2 ^ n) : T < 64 := Nat.lt_of_lt_of_le h (sv_p2_64 hn)
theorem sv_rnd_f {σ : Sg} {qc T v : Nat} (h : (sv_rnd σ qc T v).testBit v = false) : sv_rnd σ qc T (v + 1) = sv_rnd σ qc T v := by
  show sv_lv _ _ _ _ = _
  unfold sv_lv
  rw [h]
  rfl
theorem sv_rnd_s {σ : Sg} {qc T v : Nat} (h : sv_sat σ qc (sv_rnd σ qc T v) v = true) : sv_rnd σ qc T (v + 1) = sv_rnd σ qc T v := by
  show sv_lv _ _ _ _ = _
  unfold sv_lv
  rw [h]
  simp
theorem sv_rnd_x {σ : Sg} {qc T v : Nat} (h : (sv_rnd σ qc T v).testBit v = true) (h2 : sv_sat σ qc (sv_rnd σ qc T v) v = false) : sv_rnd σ qc T (v + 1) = sv_rnd σ qc T v ^^^ 2 ^ v := by
  show sv_lv _ _ _ _ = _
  unfold sv_lv
  rw [h, h2]
  rfl
set_option maxHeartbeats 4000000 in
set_option maxRecDepth 100000 in
theorem wS_unionOfQuorumsIn (X : sv_X D cI cZ cN cQ "SliceVoting" cS_unionOfQuorumsIn 6 5 p R s m args c) (hP : sv_cP D cI cN cQ n qc ad σ H) {S : Nat} (hn : n ≤ 6) (hI : sv_IQ n qc σ) (hS : S < 2 ^ n) (hl : lv_has ls 6 [(0, .ref (ad 0)), (1, .int (nI S))]) (ret : ∀ (pc : Nat) (ls : Array Slot), decode cS_unionOfQuorumsIn pc = .ok (.ireturn, 1) → W p l e R s m args below meth c H locs 0 0 Q (F0 m pc ls [.int (nI (sv_un σ n qc S))])) : W p l e R s m args below meth c H locs 0 0 Q (F0 m 0 ls []) := by
  have hx := X.1
  have hb := X.2.1
  have J19 : ∀ (kf : Nat) (T : Nat) (r : Nat) (v : Nat) (ls : Array Slot), n - v < kf → (T < 2 ^ n) → (v ≤ n) → (∀ ls : Array Slot, lv_has ls 6 [(0, .ref (ad 0)), (1, .int (nI S)), (2, .int (nI (sv_rnd σ qc T n))), (3, .int (nI r)), (4, .int (nI T)), (5, .int (nI n))] → W p l e R s m args below meth c H locs 0 0 Q (F0 m 71 ls [])) → lv_has ls 6 [(0, .ref (ad 0)), (1, .int (nI S)), (2, .int (nI (sv_rnd σ qc T v))), (3, .int (nI r)), (4, .int (nI T)), (5, .int (nI v))] → W p l e R s m args below meth c H locs 0 0 Q (F0 m 19 ls []) := by
    intro kf
    induction kf with
    | zero => intro T r v ls hm; exact absurd hm (Nat.not_lt_zero _)
    | succ kf ih =>
      intro T r v ls hm hT hv hout hl
      refine lv_iload (i := 5) hx hb dS_unionOfQuorumsIn_19 (sv_at hl rfl) ?_
      refine lv_aload_n (i := 0) hx hb dS_unionOfQuorumsIn_21 rfl (sv_at hl rfl) ?_
      refine gS_nodes X hP dS_unionOfQuorumsIn_22 ?_
      refine gL_nodes X hP dS_unionOfQuorumsIn_25 ?_
      refine lv_icmp_ge (tgt := 71) hx hb dS_unionOfQuorumsIn_26 rfl (fun h26 => ?_) (fun h26 => ?_)
      · skip
        rw [nI_leI (by omega) (by omega)] at h26
        obtain rfl : v = n := by omega
        exact hout ls (sv_re hl ⟨rfl, rfl, rfl, rfl, rfl, rfl, trivial⟩)
      · skip
        rw [nI_leI (by omega) (by omega)] at h26
        refine lv_iload_n (i := 2) hx hb dS_unionOfQuorumsIn_29 rfl (sv_at hl rfl) ?_
        refine lv_iload (i := 5) hx hb dS_unionOfQuorumsIn_30 (sv_at hl rfl) ?_
        refine kS_has X (by decide) (by omega) hl (Nat.zero_le _) (Nat.zero_le _) (Nat.le_of_ble_eq_true rfl) dS_unionOfQuorumsIn_32 ?_
        refine x_tv (y := sv_b ((sv_rnd σ qc T v).testBit v)) (by rw [sv_bt_nI (Nat.lt_trans (sv_big hn (sv_rnd_lt hT v)) (by decide))]) ?_
        refine x_ifeqB (tgt := 65) hx hb dS_unionOfQuorumsIn_35 rfl (fun h35 => ?_) (fun h35 => ?_)
        · skip
          rw [← sv_rnd_f h35] at hl
          refine x_iinc (i := 5) hx hb dS_unionOfQuorumsIn_65 hl rfl (sv_inc v) (by decide) (fun ls hl => ?_)
          refine lv_goto (tgt := 19) hx hb dS_unionOfQuorumsIn_68 rfl ?_
          exact ih T r (v + 1) ls (by omega) hT (by omega) hout (sv_re hl ⟨rfl, rfl, rfl, rfl, rfl, rfl, trivial⟩)
        · skip
          refine lv_aload_n (i := 0) hx hb dS_unionOfQuorumsIn_38 rfl (sv_at hl rfl) ?_
          refine gS_nodes X hP dS_unionOfQuorumsIn_39 ?_
          refine lv_iload (i := 5) hx hb dS_unionOfQuorumsIn_42 (sv_at hl rfl) ?_
          refine gA_nodes X hP hn (by omega) dS_unionOfQuorumsIn_44 ?_
          refine gN_top X hP (by omega) dS_unionOfQuorumsIn_45 ?_
          refine lv_iload_n (i := 2) hx hb dS_unionOfQuorumsIn_48 rfl (sv_at hl rfl) ?_
          refine lv_iconst (v := 1) hx hb dS_unionOfQuorumsIn_49 (by decide) ?_
          refine kS_isMetT X (by decide) hP hI (sv_rnd_lt hT v) hl (Nat.zero_le _) (Nat.zero_le _) (Nat.le_of_ble_eq_true rfl) dS_unionOfQuorumsIn_50 ?_
          refine x_ifneB (tgt := 65) hx hb dS_unionOfQuorumsIn_53 rfl (fun h53 => ?_) (fun h53 => ?_)
          · skip
            rw [← sv_rnd_s h53] at hl
            refine x_iinc (i := 5) hx hb dS_unionOfQuorumsIn_65 hl rfl (sv_inc v) (by decide) (fun ls hl => ?_)
            refine lv_goto (tgt := 19) hx hb dS_unionOfQuorumsIn_68 rfl ?_
            exact ih T r (v + 1) ls (by omega) hT (by omega) hout (sv_re hl ⟨rfl, rfl, rfl, rfl, rfl, rfl, trivial⟩)
          · skip
            refine lv_iload_n (i := 2) hx hb dS_unionOfQuorumsIn_56 rfl (sv_at hl rfl) ?_
            refine lv_iconst (v := 1) hx hb dS_unionOfQuorumsIn_57 (by decide) ?_
            refine lv_iload (i := 5) hx hb dS_unionOfQuorumsIn_58 (sv_at hl rfl) ?_
            refine lv_ishl hx hb dS_unionOfQuorumsIn_60 ?_
            refine lv_iconst (v := -1) hx hb dS_unionOfQuorumsIn_61 (by decide) ?_
            refine lv_ixor hx hb dS_unionOfQuorumsIn_62 ?_
            refine lv_iand hx hb dS_unionOfQuorumsIn_63 ?_
            refine x_tv (y := nI (sv_rnd σ qc T (v + 1))) (by rw [sv_pow v (by omega), sv_drop h35, sv_rnd_x h35 h53]) ?_
            refine lv_istore_n (i := 2) hx hb dS_unionOfQuorumsIn_64 rfl hl (by decide) rfl (fun ls hl => ?_)
            refine x_iinc (i := 5) hx hb dS_unionOfQuorumsIn_65 hl rfl (sv_inc v) (by decide) (fun ls hl => ?_)
            refine lv_goto (tgt := 19) hx hb dS_unionOfQuorumsIn_68 rfl ?_
            exact ih T r (v + 1) ls (by omega) hT (by omega) hout (sv_re hl ⟨rfl, rfl, rfl, rfl, rfl, rfl, trivial⟩)
  have J4 : ∀ (kf : Nat) (T : Nat) (r : Nat) (ls : Array Slot), n - r < kf → (T < 2 ^ n) → (sv_sub T S) → (∀ q, q < 2 ^ n → sv_sub q S → sv_quo σ n qc q = true → sv_sub q T) → (sv_pc T + r ≤ n) → lv_has ls 6 [(0, .ref (ad 0)), (1, .int (nI S)), (2, .int (nI T)), (3, .int (nI r))] → W p l e R s m args below meth c H locs 0 0 Q (F0 m 4 ls []) := by
    intro kf
    induction kf with
    | zero => intro T r ls hm; exact absurd hm (Nat.not_lt_zero _)
    | succ kf ih =>
      intro T r ls hm hT h1 h2 hr hl
      refine lv_iload_n (i := 3) hx hb dS_unionOfQuorumsIn_4 rfl (sv_at hl rfl) ?_
      refine lv_aload_n (i := 0) hx hb dS_unionOfQuorumsIn_5 rfl (sv_at hl rfl) ?_
      refine gS_nodes X hP dS_unionOfQuorumsIn_6 ?_
      refine gL_nodes X hP dS_unionOfQuorumsIn_9 ?_
      refine lv_icmp_ge (tgt := 86) hx hb dS_unionOfQuorumsIn_10 rfl (fun h10 => ?_) (fun h10 => ?_)
      · skip
        rw [nI_leI (by omega) (by omega)] at h10
        refine lv_iload_n (i := 2) hx hb dS_unionOfQuorumsIn_86 rfl (sv_at hl rfl) ?_
        exact x_tv (by first | (rw [h74, ← sv_un_of hT h1 h2 (sv_rnd_fix n ((nI_eq (by have := sv_big hn (sv_rnd_lt (σ := σ) (qc := qc) hT n); omega) (by have := sv_big hn hT; omega)).mp h74))]) | (rw [← sv_un_of hT h1 h2 (fun v hv hb => by rw [sv_pc_0 (sv_big hn hT) (by omega), Nat.zero_testBit] at hb; cases hb)])) (ret _ _ dS_unionOfQuorumsIn_87)
      · skip
        rw [nI_leI (by omega) (by omega)] at h10
        refine lv_iload_n (i := 2) hx hb dS_unionOfQuorumsIn_13 rfl (sv_at hl rfl) ?_
        refine lv_istore (i := 4) hx hb dS_unionOfQuorumsIn_14 hl (by decide) rfl (fun ls hl => ?_)
        refine lv_iconst (v := 0) hx hb dS_unionOfQuorumsIn_16 (by decide) ?_
        refine lv_istore (i := 5) hx hb dS_unionOfQuorumsIn_17 hl (by decide) rfl (fun ls hl => ?_)
        refine J19 _ T r 0 ls (Nat.lt_succ_self _) hT (Nat.zero_le _) (fun ls hl => ?_) (sv_re hl ⟨rfl, rfl, rfl, rfl, rfl, rfl, trivial⟩)
        refine lv_iload_n (i := 2) hx hb dS_unionOfQuorumsIn_71 rfl (sv_at hl rfl) ?_
        refine lv_iload (i := 4) hx hb dS_unionOfQuorumsIn_72 (sv_at hl rfl) ?_
        refine lv_icmp_ne (tgt := 80) hx hb dS_unionOfQuorumsIn_74 rfl (fun h74 => ?_) (fun h74 => ?_)
        · skip
          refine x_iinc (i := 3) hx hb dS_unionOfQuorumsIn_80 hl rfl (sv_inc r) (by decide) (fun ls hl => ?_)
          refine lv_goto (tgt := 4) hx hb dS_unionOfQuorumsIn_83 rfl ?_
          exact ih (sv_rnd σ qc T n) (r + 1) ls (by omega) (sv_rnd_lt hT n) (fun v hv => h1 v (sv_rnd_sub n v hv)) (fun q a b c => sv_rnd_keep hI.2.2.2.1 (h2 q a b c) c n (Nat.le_refl _)) (by have := sv_pc_lt (sv_rnd_sub (σ := σ) (qc := qc) (T := T) n) (fun q => h74 (by rw [q])) (sv_big hn hT); omega) (sv_re hl ⟨rfl, rfl, rfl, rfl, trivial⟩)
        · skip
          refine lv_goto (tgt := 86) hx hb dS_unionOfQuorumsIn_77 rfl ?_
          refine lv_iload_n (i := 2) hx hb dS_unionOfQuorumsIn_86 rfl (sv_at hl rfl) ?_
          exact x_tv (by first | (rw [h74, ← sv_un_of hT h1 h2 (sv_rnd_fix n ((nI_eq (by have := sv_big hn (sv_rnd_lt (σ := σ) (qc := qc) hT n); omega) (by have := sv_big hn hT; omega)).mp h74))]) | (rw [← sv_un_of hT h1 h2 (fun v hv hb => by rw [sv_pc_0 (sv_big hn hT) (by omega), Nat.zero_testBit] at hb; cases hb)])) (ret _ _ dS_unionOfQuorumsIn_87)
  refine lv_iload_n (i := 1) hx hb dS_unionOfQuorumsIn_0 rfl (sv_at hl rfl) ?_
  refine lv_istore_n (i := 2) hx hb dS_unionOfQuorumsIn_1 rfl hl (by decide) rfl (fun ls hl => ?_)
  refine lv_iconst (v := 0) hx hb dS_unionOfQuorumsIn_2 (by decide) ?_
  refine lv_istore_n (i := 3) hx hb dS_unionOfQuorumsIn_3 rfl hl (by decide) rfl (fun ls hl => ?_)
  exact J4 _ S 0 ls (Nat.lt_succ_self _) hS (sv_sub_rf S) (fun q _ h _ => h) (sv_pc_le hS hn) (sv_re hl ⟨rfl, rfl, rfl, rfl, trivial⟩)

theorem cS_m_unionOfQuorumsIn {S : Nat} (hn : n ≤ 6) (hI : sv_IQ n qc σ) (hS : S < 2 ^ n) : Met l yS_unionOfQuorumsIn (sv_ws yS_unionOfQuorumsIn cS_unionOfQuorumsIn 6 (some .int)) (sv_rm 5) (sv_Pc D cI cZ cN cQ [.ref (ad 0), .int (nI S)] (fun H => sv_cP D cI cN cQ n qc ad σ H)) (vp_Si (fun zz => zz = nI (sv_un σ n qc S))) 0 0 (fun _ => False) :=
  sv_mkR (by decide) (by show 2 ≤ 6; decide) rfl (fun p e s m below meth c ls Q X hP hl ret => wS_unionOfQuorumsIn X hP hn hI hS hl ret)
theorem okS_S_unionOfQuorumsIn : sv_okV "SliceVoting" 121 yS_unionOfQuorumsIn cS_unionOfQuorumsIn 6 (some .int) 1 := ⟨sv_tb_t 206 rfl rfl, sv_tb_t 203 rfl rfl, sv_tb_t 205 rfl rfl, sv_tb_s 10 rfl rfl, sv_tb_t 1 rfl rfl, ⟨by decide, by decide, by decide +kernel⟩, by decide⟩
theorem kS_unionOfQuorumsIn (X : sv_X D cI cZ cN cQ "SliceVoting" cc nL k p R s m args c) (hk : 5 + 1 ≤ k) (hP : sv_cP D cI cN cQ n qc ad σ H) {S : Nat} (hn : n ≤ 6) (hI : sv_IQ n qc σ) (hS : S < 2 ^ n) (hl : lv_has ls nL lv) (hc : cells ≤ R.cells) (hs : slots ≤ R.slots) (hcat : (rest.map fun v => v.category).sum ≤ 8) (hd : decode cc pc = .ok (.invokevirtual 121, 3)) (kk : W p l e R s m args below meth c H locs cells slots Q (F0 m (pc + 3) ls (.int (nI (sv_un σ n qc S)) :: rest))) : W p l e R s m args below meth c H locs cells slots Q (F0 m pc ls (.int (nI S) :: .ref (ad 0) :: rest)) :=
  sv_cV (G := fun H => sv_cP D cI cN cQ n qc ad σ H) X okS_S_unionOfQuorumsIn (cS_m_unionOfQuorumsIn hn hI hS) hP (y_rec X.K hP (by omega) sv_ce_S rfl) hk rfl hl.1 rfl hcat hc hs hd kk
set_option maxHeartbeats 4000000 in
set_option maxRecDepth 100000 in
theorem wS_isQuorum (X : sv_X D cI cZ cN cQ "SliceVoting" cS_isQuorum 2 6 p R s m args c) (hP : sv_cP D cI cN cQ n qc ad σ H) {S : Nat} (hn : n ≤ 6) (hI : sv_IQ n qc σ) (hS : S < 2 ^ n) (hl : lv_has ls 2 [(0, .ref (ad 0)), (1, .int (nI S))]) (ret : ∀ (pc : Nat) (ls : Array Slot), decode cS_isQuorum pc = .ok (.ireturn, 1) → W p l e R s m args below meth c H locs 0 0 Q (F0 m pc ls [.int (sv_b (sv_quo σ n qc S))])) : W p l e R s m args below meth c H locs 0 0 Q (F0 m 0 ls []) := by
  have hx := X.1
  have hb := X.2.1
  refine lv_iload_n (i := 1) hx hb dS_isQuorum_0 rfl (sv_at hl rfl) ?_
  refine lv_if_eq (tgt := 17) hx hb dS_isQuorum_1 rfl (fun h1 => ?_) (fun h1 => ?_)
  · skip
    have e0 : S = 0 := (nI_eq (b := 0) (by have := sv_big hn hS; omega) (by decide)).mp h1
    refine lv_iconst (v := 0) hx hb dS_isQuorum_17 (by decide) ?_
    exact x_tv (by rw [← sv_un_self hI.2.2.2.1 hS]; first | (rw [decide_eq_true e0, decide_eq_true e1]; rfl) | (rw [decide_eq_false e1, Bool.and_false]; rfl) | (rw [decide_eq_false (fun q => q e0)]; rfl)) (ret _ _ dS_isQuorum_18)
  · skip
    have e0 : S ≠ 0 := fun q => h1 (by rw [q]; rfl)
    refine lv_aload_n (i := 0) hx hb dS_isQuorum_4 rfl (sv_at hl rfl) ?_
    refine lv_iload_n (i := 1) hx hb dS_isQuorum_5 rfl (sv_at hl rfl) ?_
    refine kS_unionOfQuorumsIn X (by decide) hP hn hI (by omega) hl (Nat.zero_le _) (Nat.zero_le _) (Nat.le_of_ble_eq_true rfl) dS_isQuorum_6 ?_
    refine lv_iload_n (i := 1) hx hb dS_isQuorum_9 rfl (sv_at hl rfl) ?_
    refine lv_icmp_ne (tgt := 17) hx hb dS_isQuorum_10 rfl (fun h10 => ?_) (fun h10 => ?_)
    · skip
      have e1 : ¬ sv_un σ n qc S = S := fun q => h10 (by rw [q])
      refine lv_iconst (v := 0) hx hb dS_isQuorum_17 (by decide) ?_
      exact x_tv (by rw [← sv_un_self hI.2.2.2.1 hS]; first | (rw [decide_eq_true e0, decide_eq_true e1]; rfl) | (rw [decide_eq_false e1, Bool.and_false]; rfl) | (rw [decide_eq_false (fun q => q e0)]; rfl)) (ret _ _ dS_isQuorum_18)
    · skip
      have e1 : sv_un σ n qc S = S := (nI_eq (by have := sv_big hn (sv_un_lt (σ := σ) (qc := qc) (S := S) (n := n)); omega) (by have := sv_big hn hS; omega)).mp h10
      refine lv_iconst (v := 1) hx hb dS_isQuorum_13 (by decide) ?_
      refine lv_goto (tgt := 18) hx hb dS_isQuorum_14 rfl ?_
      exact x_tv (by rw [← sv_un_self hI.2.2.2.1 hS]; first | (rw [decide_eq_true e0, decide_eq_true e1]; rfl) | (rw [decide_eq_false e1, Bool.and_false]; rfl) | (rw [decide_eq_false (fun q => q e0)]; rfl)) (ret _ _ dS_isQuorum_18)

theorem cS_m_isQuorum {S : Nat} (hn : n ≤ 6) (hI : sv_IQ n qc σ) (hS : S < 2 ^ n) : Met l yS_isQuorum (sv_ws yS_isQuorum cS_isQuorum 2 (some .boolean)) (sv_rm 6) (sv_Pc D cI cZ cN cQ [.ref (ad 0), .int (nI S)] (fun H => sv_cP D cI cN cQ n qc ad σ H)) (vp_Si (fun zz => zz = sv_b (sv_quo σ n qc S))) 0 0 (fun _ => False) :=
  sv_mkR (by decide) (by show 2 ≤ 2; decide) (sv_narb _) (fun p e s m below meth c ls Q X hP hl ret => wS_isQuorum X hP hn hI hS hl ret)
theorem okS_S_isQuorum : sv_okV "SliceVoting" 118 yS_isQuorum cS_isQuorum 2 (some .boolean) 1 := ⟨sv_tb_t 290 rfl rfl, sv_tb_t 287 rfl rfl, sv_tb_t 289 rfl rfl, sv_tb_s 16 rfl rfl, sv_tb_t 1 rfl rfl, ⟨by decide, by decide, by decide +kernel⟩, by decide⟩
theorem kS_isQuorum (X : sv_X D cI cZ cN cQ "SliceVoting" cc nL k p R s m args c) (hk : 6 + 1 ≤ k) (hP : sv_cP D cI cN cQ n qc ad σ H) {S : Nat} (hn : n ≤ 6) (hI : sv_IQ n qc σ) (hS : S < 2 ^ n) (hl : lv_has ls nL lv) (hc : cells ≤ R.cells) (hs : slots ≤ R.slots) (hcat : (rest.map fun v => v.category).sum ≤ 8) (hd : decode cc pc = .ok (.invokevirtual 118, 3)) (kk : W p l e R s m args below meth c H locs cells slots Q (F0 m (pc + 3) ls (.int (sv_b (sv_quo σ n qc S)) :: rest))) : W p l e R s m args below meth c H locs cells slots Q (F0 m pc ls (.int (nI S) :: .ref (ad 0) :: rest)) :=
  sv_cV (G := fun H => sv_cP D cI cN cQ n qc ad σ H) X okS_S_isQuorum (cS_m_isQuorum hn hI hS) hP (y_rec X.K hP (by omega) sv_ce_S rfl) hk rfl hl.1 rfl hcat hc hs hd kk
theorem sv_said_t {f : Nat → Int32} {s k : Nat} (h : bt (f k) s = true) : sv_said f s (k + 1) = sv_said f s k ||| 2 ^ k := by simp [sv_said, h]
theorem sv_said_f {f : Nat → Int32} {s k : Nat} (h : bt (f k) s = false) : sv_said f s (k + 1) = sv_said f s k := by simp [sv_said, h]
set_option maxHeartbeats 4000000 in
set_option maxRecDepth 100000 in
theorem wS_nodesThatSaid (X : sv_X D cI cZ cN cQ "SliceVoting" cS_nodesThatSaid 4 2 p R s m args c) (hP : sv_cP D cI cN cQ n qc ad σ H) {ka t : Nat} {f : Nat → Int32} (hn : n ≤ 6) (hka : ka < 3 + 3 * n + qc) (he : sv_ce cI cN cQ n qc ad σ ka = .inl (cI, n, .inl f)) (ht : t < 24) (hl : lv_has ls 4 [(0, .ref (ad ka)), (1, .int (nI t))]) (ret : ∀ (pc : Nat) (ls : Array Slot), decode cS_nodesThatSaid pc = .ok (.ireturn, 1) → W p l e R s m args below meth c H locs 0 0 Q (F0 m pc ls [.int (nI (sv_said f t n))])) : W p l e R s m args below meth c H locs 0 0 Q (F0 m 0 ls []) := by
  have hx := X.1
  have hb := X.2.1
  have J4 : ∀ (kf : Nat) (w : Nat) (ls : Array Slot), n - w < kf → (w ≤ n) → lv_has ls 4 [(0, .ref (ad ka)), (1, .int (nI t)), (2, .int (nI (sv_said f t w))), (3, .int (nI w))] → W p l e R s m args below meth c H locs 0 0 Q (F0 m 4 ls []) := by
    intro kf
    induction kf with
    | zero => intro w ls hm; exact absurd hm (Nat.not_lt_zero _)
    | succ kf ih =>
      intro w ls hm hw hl
      refine lv_iload_n (i := 3) hx hb dS_nodesThatSaid_4 rfl (sv_at hl rfl) ?_
      refine lv_aload_n (i := 0) hx hb dS_nodesThatSaid_5 rfl (sv_at hl rfl) ?_
      refine y_alen hx hb X.K hP hka 0 he rfl dS_nodesThatSaid_6 ?_
      refine lv_icmp_ge (tgt := 32) hx hb dS_nodesThatSaid_7 rfl (fun h7 => ?_) (fun h7 => ?_)
      · skip
        rw [nI_leI (by omega) (by omega)] at h7
        obtain rfl : w = n := by omega
        refine lv_iload_n (i := 2) hx hb dS_nodesThatSaid_32 rfl (sv_at hl rfl) ?_
        exact ret _ _ dS_nodesThatSaid_33
      · skip
        rw [nI_leI (by omega) (by omega)] at h7
        refine lv_aload_n (i := 0) hx hb dS_nodesThatSaid_10 rfl (sv_at hl rfl) ?_
        refine lv_iload_n (i := 3) hx hb dS_nodesThatSaid_11 rfl (sv_at hl rfl) ?_
        refine y_iald hx hb X.K hP hka 0 he rfl (by omega) (by omega) dS_nodesThatSaid_12 ?_
        refine lv_iload_n (i := 1) hx hb dS_nodesThatSaid_13 rfl (sv_at hl rfl) ?_
        refine kS_has X (by decide) (by omega) hl (Nat.zero_le _) (Nat.zero_le _) (Nat.le_of_ble_eq_true rfl) dS_nodesThatSaid_14 ?_
        refine x_ifeqB (tgt := 26) hx hb dS_nodesThatSaid_17 rfl (fun h17 => ?_) (fun h17 => ?_)
        · skip
          rw [← sv_said_f h17] at hl
          refine x_iinc (i := 3) hx hb dS_nodesThatSaid_26 hl rfl (sv_inc w) (by decide) (fun ls hl => ?_)
          refine lv_goto (tgt := 4) hx hb dS_nodesThatSaid_29 rfl ?_
          exact ih (w + 1) ls (by omega) (by omega) (sv_re hl ⟨rfl, rfl, rfl, rfl, trivial⟩)
        · skip
          refine lv_iload_n (i := 2) hx hb dS_nodesThatSaid_20 rfl (sv_at hl rfl) ?_
          refine lv_iconst (v := 1) hx hb dS_nodesThatSaid_21 (by decide) ?_
          refine lv_iload_n (i := 3) hx hb dS_nodesThatSaid_22 rfl (sv_at hl rfl) ?_
          refine lv_ishl hx hb dS_nodesThatSaid_23 ?_
          refine lv_ior hx hb dS_nodesThatSaid_24 ?_
          refine x_tv (y := nI (sv_said f t (w + 1))) (by rw [sv_pow w (by omega), sv_nor, sv_said_t h17]) ?_
          refine lv_istore_n (i := 2) hx hb dS_nodesThatSaid_25 rfl hl (by decide) rfl (fun ls hl => ?_)
          refine x_iinc (i := 3) hx hb dS_nodesThatSaid_26 hl rfl (sv_inc w) (by decide) (fun ls hl => ?_)
          refine lv_goto (tgt := 4) hx hb dS_nodesThatSaid_29 rfl ?_
          exact ih (w + 1) ls (by omega) (by omega) (sv_re hl ⟨rfl, rfl, rfl, rfl, trivial⟩)
  refine lv_iconst (v := 0) hx hb dS_nodesThatSaid_0 (by decide) ?_
  refine lv_istore_n (i := 2) hx hb dS_nodesThatSaid_1 rfl hl (by decide) rfl (fun ls hl => ?_)
  refine lv_iconst (v := 0) hx hb dS_nodesThatSaid_2 (by decide) ?_
  refine lv_istore_n (i := 3) hx hb dS_nodesThatSaid_3 rfl hl (by decide) rfl (fun ls hl => ?_)
  exact J4 _ 0 ls (Nat.lt_succ_self _) (Nat.zero_le _) (sv_re hl ⟨rfl, rfl, rfl, rfl, trivial⟩)

theorem cS_m_nodesThatSaid {ka t : Nat} {f : Nat → Int32} (hn : n ≤ 6) (hka : ka < 3 + 3 * n + qc) (he : sv_ce cI cN cQ n qc ad σ ka = .inl (cI, n, .inl f)) (ht : t < 24) : Met l yS_nodesThatSaid (sv_ws yS_nodesThatSaid cS_nodesThatSaid 4 (some .int)) (sv_rm 2) (sv_Pc D cI cZ cN cQ [.ref (ad ka), .int (nI t)] (fun H => sv_cP D cI cN cQ n qc ad σ H)) (vp_Si (fun zz => zz = nI (sv_said f t n))) 0 0 (fun _ => False) :=
  sv_mkR (by decide) (by show 2 ≤ 4; decide) rfl (fun p e s m below meth c ls Q X hP hl ret => wS_nodesThatSaid X hP hn hka he ht hl ret)
theorem okS_S_nodesThatSaid : sv_okS "SliceVoting" 194 yS_nodesThatSaid cS_nodesThatSaid 4 (some .int) 2 := ⟨sv_tb_t 198 rfl rfl, sv_tb_t 196 rfl rfl, sv_tb_t 197 rfl rfl, sv_tb_t 1 rfl rfl, ⟨by decide, by decide, by decide +kernel⟩, by decide⟩
theorem kS_nodesThatSaid (X : sv_X D cI cZ cN cQ "SliceVoting" cc nL k p R s m args c) (hk : 2 + 1 ≤ k) (hP : sv_cP D cI cN cQ n qc ad σ H) {ka t : Nat} {f : Nat → Int32} (hn : n ≤ 6) (hka : ka < 3 + 3 * n + qc) (he : sv_ce cI cN cQ n qc ad σ ka = .inl (cI, n, .inl f)) (ht : t < 24) (hl : lv_has ls nL lv) (hc : cells ≤ R.cells) (hs : slots ≤ R.slots) (hcat : (rest.map fun v => v.category).sum ≤ 8) (hd : decode cc pc = .ok (.invokestatic 194, 3)) (kk : W p l e R s m args below meth c H locs cells slots Q (F0 m (pc + 3) ls (.int (nI (sv_said f t n)) :: rest))) : W p l e R s m args below meth c H locs cells slots Q (F0 m pc ls (.int (nI t) :: .ref (ad ka) :: rest)) :=
  sv_cS (G := fun H => sv_cP D cI cN cQ n qc ad σ H) X okS_S_nodesThatSaid (cS_m_nodesThatSaid hn hka he ht) hP hk rfl hl.1 rfl hcat hc hs hd kk
set_option maxHeartbeats 4000000 in
set_option maxRecDepth 100000 in
theorem wS_isInQuorumWithin (X : sv_X D cI cZ cN cQ "SliceVoting" cS_isInQuorumWithin 3 6 p R s m args c) (hP : sv_cP D cI cN cQ n qc ad σ H) {v S : Nat} (hn : n ≤ 6) (hI : sv_IQ n qc σ) (hv : v < n) (hS : S < 2 ^ n) (hl : lv_has ls 3 [(0, .ref (ad 0)), (1, .ref (ad (2 + 3 * v))), (2, .int (nI S))]) (ret : ∀ (pc : Nat) (ls : Array Slot), decode cS_isInQuorumWithin pc = .ok (.ireturn, 1) → W p l e R s m args below meth c H locs 0 0 Q (F0 m pc ls [.int (sv_b ((sv_un σ n qc S).testBit v))])) : W p l e R s m args below meth c H locs 0 0 Q (F0 m 0 ls []) := by
  have hx := X.1
  have hb := X.2.1
  refine lv_iload_n (i := 2) hx hb dS_isInQuorumWithin_0 rfl (sv_at hl rfl) ?_
  refine lv_aload_n (i := 1) hx hb dS_isInQuorumWithin_1 rfl (sv_at hl rfl) ?_
  refine gN_number X hP (by omega) dS_isInQuorumWithin_2 ?_
  refine kS_has X (by decide) (by omega) hl (Nat.zero_le _) (Nat.zero_le _) (Nat.le_of_ble_eq_true rfl) dS_isInQuorumWithin_5 ?_
  refine x_tv (y := sv_b (S.testBit v)) (by rw [sv_bt_nI (Nat.lt_trans (sv_big hn hS) (by decide))]) ?_
  refine x_ifeqB (tgt := 30) hx hb dS_isInQuorumWithin_8 rfl (fun h8 => ?_) (fun h8 => ?_)
  · skip
    refine lv_iconst (v := 0) hx hb dS_isInQuorumWithin_30 (by decide) ?_
    exact x_tv (by first | (rw [h23]; rfl) | (cases e : (sv_un σ n qc S).testBit v with | false => rfl | true => rw [sv_un_sub v e] at h8; cases h8)) (ret _ _ dS_isInQuorumWithin_31)
  · skip
    refine lv_aload_n (i := 0) hx hb dS_isInQuorumWithin_11 rfl (sv_at hl rfl) ?_
    refine lv_iload_n (i := 2) hx hb dS_isInQuorumWithin_12 rfl (sv_at hl rfl) ?_
    refine kS_unionOfQuorumsIn X (by decide) hP hn hI (by omega) hl (Nat.zero_le _) (Nat.zero_le _) (Nat.le_of_ble_eq_true rfl) dS_isInQuorumWithin_13 ?_
    refine lv_aload_n (i := 1) hx hb dS_isInQuorumWithin_16 rfl (sv_at hl rfl) ?_
    refine gN_number X hP (by omega) dS_isInQuorumWithin_17 ?_
    refine kS_has X (by decide) (by omega) hl (Nat.zero_le _) (Nat.zero_le _) (Nat.le_of_ble_eq_true rfl) dS_isInQuorumWithin_20 ?_
    refine x_tv (y := sv_b ((sv_un σ n qc S).testBit v)) (by rw [sv_bt_nI (Nat.lt_trans (sv_big hn sv_un_lt) (by decide))]) ?_
    refine x_ifeqB (tgt := 30) hx hb dS_isInQuorumWithin_23 rfl (fun h23 => ?_) (fun h23 => ?_)
    · skip
      refine lv_iconst (v := 0) hx hb dS_isInQuorumWithin_30 (by decide) ?_
      exact x_tv (by first | (rw [h23]; rfl) | (cases e : (sv_un σ n qc S).testBit v with | false => rfl | true => rw [sv_un_sub v e] at h8; cases h8)) (ret _ _ dS_isInQuorumWithin_31)
    · skip
      refine lv_iconst (v := 1) hx hb dS_isInQuorumWithin_26 (by decide) ?_
      refine lv_goto (tgt := 31) hx hb dS_isInQuorumWithin_27 rfl ?_
      exact x_tv (by first | (rw [h23]; rfl) | (cases e : (sv_un σ n qc S).testBit v with | false => rfl | true => rw [sv_un_sub v e] at h8; cases h8)) (ret _ _ dS_isInQuorumWithin_31)

theorem cS_m_isInQuorumWithin {v S : Nat} (hn : n ≤ 6) (hI : sv_IQ n qc σ) (hv : v < n) (hS : S < 2 ^ n) : Met l yS_isInQuorumWithin (sv_ws yS_isInQuorumWithin cS_isInQuorumWithin 3 (some .boolean)) (sv_rm 6) (sv_Pc D cI cZ cN cQ [.ref (ad 0), .ref (ad (2 + 3 * v)), .int (nI S)] (fun H => sv_cP D cI cN cQ n qc ad σ H)) (vp_Si (fun zz => zz = sv_b ((sv_un σ n qc S).testBit v))) 0 0 (fun _ => False) :=
  sv_mkR (by decide) (by show 3 ≤ 3; decide) (sv_narb _) (fun p e s m below meth c ls Q X hP hl ret => wS_isInQuorumWithin X hP hn hI hv hS hl ret)
theorem okS_S_isInQuorumWithin : sv_okV "SliceVoting" 198 yS_isInQuorumWithin cS_isInQuorumWithin 3 (some .boolean) 2 := ⟨sv_tb_t 202 rfl rfl, sv_tb_t 199 rfl rfl, sv_tb_t 201 rfl rfl, sv_tb_s 9 rfl rfl, sv_tb_t 1 rfl rfl, ⟨by decide, by decide, by decide +kernel⟩, by decide⟩
theorem kS_isInQuorumWithin (X : sv_X D cI cZ cN cQ "SliceVoting" cc nL k p R s m args c) (hk : 6 + 1 ≤ k) (hP : sv_cP D cI cN cQ n qc ad σ H) {v S : Nat} (hn : n ≤ 6) (hI : sv_IQ n qc σ) (hv : v < n) (hS : S < 2 ^ n) (hl : lv_has ls nL lv) (hc : cells ≤ R.cells) (hs : slots ≤ R.slots) (hcat : (rest.map fun v => v.category).sum ≤ 8) (hd : decode cc pc = .ok (.invokevirtual 198, 3)) (kk : W p l e R s m args below meth c H locs cells slots Q (F0 m (pc + 3) ls (.int (sv_b ((sv_un σ n qc S).testBit v)) :: rest))) : W p l e R s m args below meth c H locs cells slots Q (F0 m pc ls (.int (nI S) :: .ref (ad (2 + 3 * v)) :: .ref (ad 0) :: rest)) :=
  sv_cV (G := fun H => sv_cP D cI cN cQ n qc ad σ H) X okS_S_isInQuorumWithin (cS_m_isInQuorumWithin hn hI hv hS) hP (y_rec X.K hP (by omega) sv_ce_S rfl) hk rfl hl.1 rfl hcat hc hs hd kk
end SvQuor
