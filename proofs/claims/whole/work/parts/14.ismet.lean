section SvIsMet
variable {p : Program} {l : Launch} {e : Env} {R : Room} {s : State} {m : MethodId} {args : Array Value} {below : List Frame} {meth : Method} {c : Code} {H H0 : Heap} {locs : List Loc} {cells slots : Nat} {Q : State → Prop}
variable {cc : ByteArray} {pc nL k : Nat} {ls : Array Slot} {lv : List (Nat × Value)} {rest : List Value} {D : va_G} {cI cZ cN cQ : ClassId} {n qc : Nat} {ad : Nat → Nat} {σ : Sg} {A : Nat → Prop} {mt qm : Nat → Int32}
set_option maxHeartbeats 4000000 in
set_option maxRecDepth 100000 in
theorem wJ_bitCount (X : sv_X D cI cZ cN cQ "java/lang/Integer" cJ_bitCount 1 1 p R s m args c) {x : Nat} (hx2 : x < 64) (hl : lv_has ls 1 [(0, .int (nI x))]) (ret : ∀ (pc : Nat) (ls : Array Slot), decode cJ_bitCount pc = .ok (.ireturn, 1) → W p l e R s m args below meth c H locs 0 0 Q (F0 m pc ls [.int (nI (sv_pc x))])) : W p l e R s m args below meth c H locs 0 0 Q (F0 m 0 ls []) := by
  have hx := X.1
  have hb := X.2.1
  refine lv_iload_n (i := 0) hx hb dJ_bitCount_0 rfl (sv_at hl rfl) ?_
  refine lv_iload_n (i := 0) hx hb dJ_bitCount_1 rfl (sv_at hl rfl) ?_
  refine lv_iconst (v := 1) hx hb dJ_bitCount_2 (by decide) ?_
  refine lv_iushr hx hb dJ_bitCount_3 rfl ?_
  refine lv_ldcw (v := 1431655765) hx hb X.own (X.hts _ (sv_tb_t 213 rfl rfl)) dJ_bitCount_4 ?_
  refine lv_iand hx hb dJ_bitCount_7 ?_
  refine lv_isub hx hb dJ_bitCount_8 ?_
  refine lv_istore_n (i := 0) hx hb dJ_bitCount_9 rfl hl (by decide) rfl (fun ls hl => ?_)
  refine lv_iload_n (i := 0) hx hb dJ_bitCount_10 rfl (sv_at hl rfl) ?_
  refine lv_ldcw (v := 858993459) hx hb X.own (X.hts _ (sv_tb_t 214 rfl rfl)) dJ_bitCount_11 ?_
  refine lv_iand hx hb dJ_bitCount_14 ?_
  refine lv_iload_n (i := 0) hx hb dJ_bitCount_15 rfl (sv_at hl rfl) ?_
  refine lv_iconst (v := nI 2) hx hb dJ_bitCount_16 (by decide) ?_
  refine lv_iushr hx hb dJ_bitCount_17 rfl ?_
  refine lv_ldcw (v := 858993459) hx hb X.own (X.hts _ (sv_tb_t 214 rfl rfl)) dJ_bitCount_18 ?_
  refine lv_iand hx hb dJ_bitCount_21 ?_
  refine lv_iadd hx hb dJ_bitCount_22 ?_
  refine lv_istore_n (i := 0) hx hb dJ_bitCount_23 rfl hl (by decide) rfl (fun ls hl => ?_)
  refine lv_iload_n (i := 0) hx hb dJ_bitCount_24 rfl (sv_at hl rfl) ?_
  refine lv_iload_n (i := 0) hx hb dJ_bitCount_25 rfl (sv_at hl rfl) ?_
  refine lv_iconst (v := nI 4) hx hb dJ_bitCount_26 (by decide) ?_
  refine lv_iushr hx hb dJ_bitCount_27 rfl ?_
  refine lv_iadd hx hb dJ_bitCount_28 ?_
  refine lv_ldcw (v := 252645135) hx hb X.own (X.hts _ (sv_tb_t 215 rfl rfl)) dJ_bitCount_29 ?_
  refine lv_iand hx hb dJ_bitCount_32 ?_
  refine lv_istore_n (i := 0) hx hb dJ_bitCount_33 rfl hl (by decide) rfl (fun ls hl => ?_)
  refine lv_iload_n (i := 0) hx hb dJ_bitCount_34 rfl (sv_at hl rfl) ?_
  refine lv_iload_n (i := 0) hx hb dJ_bitCount_35 rfl (sv_at hl rfl) ?_
  refine lv_bipush (v := nI 8) hx hb dJ_bitCount_36 (by decide) ?_
  refine lv_iushr hx hb dJ_bitCount_38 rfl ?_
  refine lv_iadd hx hb dJ_bitCount_39 ?_
  refine lv_istore_n (i := 0) hx hb dJ_bitCount_40 rfl hl (by decide) rfl (fun ls hl => ?_)
  refine lv_iload_n (i := 0) hx hb dJ_bitCount_41 rfl (sv_at hl rfl) ?_
  refine lv_iload_n (i := 0) hx hb dJ_bitCount_42 rfl (sv_at hl rfl) ?_
  refine lv_bipush (v := nI 16) hx hb dJ_bitCount_43 (by decide) ?_
  refine lv_iushr hx hb dJ_bitCount_45 rfl ?_
  refine lv_iadd hx hb dJ_bitCount_46 ?_
  refine lv_istore_n (i := 0) hx hb dJ_bitCount_47 rfl hl (by decide) rfl (fun ls hl => ?_)
  refine lv_iload_n (i := 0) hx hb dJ_bitCount_48 rfl (sv_at hl rfl) ?_
  refine lv_bipush (v := nI 63) hx hb dJ_bitCount_49 (by decide) ?_
  refine lv_iand hx hb dJ_bitCount_51 ?_
  exact x_tv (show _ = _ from sv_bc_ok x hx2) (ret _ _ dJ_bitCount_52)

theorem cJ_m_bitCount {x : Nat} (hx2 : x < 64) : Met l yJ_bitCount (sv_ws yJ_bitCount cJ_bitCount 1 (some .int)) (sv_rm 1) (sv_Pc D cI cZ cN cQ [.int (nI x)] (fun _ => True)) (vp_Si (fun zz => zz = nI (sv_pc x))) 0 0 (fun _ => False) :=
  sv_mkR (by decide) (by show 1 ≤ 1; decide) rfl (fun p e s m below meth c ls Q X _ hl ret => wJ_bitCount X  hx2 hl ret)
theorem okS_J_bitCount : sv_okS "SliceVoting" 152 yJ_bitCount cJ_bitCount 1 (some .int) 1 := ⟨sv_tb_t 212 rfl rfl, sv_tb_t 210 rfl rfl, sv_tb_t 211 rfl rfl, sv_tb_t 6 rfl rfl, ⟨by decide, by decide, by decide +kernel⟩, by decide⟩
theorem kS_bitCount (X : sv_X D cI cZ cN cQ "SliceVoting" cc nL k p R s m args c) (hk : 1 + 1 ≤ k) {x : Nat} (hx2 : x < 64) (hl : lv_has ls nL lv) (hc : cells ≤ R.cells) (hs : slots ≤ R.slots) (hcat : (rest.map fun v => v.category).sum ≤ 8) (hd : decode cc pc = .ok (.invokestatic 152, 3)) (kk : W p l e R s m args below meth c H locs cells slots Q (F0 m (pc + 3) ls (.int (nI (sv_pc x)) :: rest))) : W p l e R s m args below meth c H locs cells slots Q (F0 m pc ls (.int (nI x) :: rest)) :=
  sv_cS (G := fun _ => True) X okS_J_bitCount (cJ_m_bitCount hx2) trivial hk rfl hl.1 rfl hcat hc hs hd kk
theorem sv_and64 {n a S : Nat} (hn : n ≤ 6) (hS : S < 2 ^ n) : a &&& S < 64 := Nat.lt_of_lt_of_le (Nat.and_lt_two_pow a hS) (sv_p2_64 hn)
theorem sv_mo_nxt (σ : Sg) (j : Nat) : sv_mo (sv_nxt σ j) ≤ j := by
  cases e : sv_nxt σ j with
  | none => exact Nat.zero_le _
  | some i => exact (sv_nxt_in e).1
theorem okS_S_isMet : sv_okS "SliceVoting" 157 yS_isMet cS_isMet 5 (some .boolean) 3 := ⟨sv_tb_t 209 rfl rfl, sv_tb_t 207 rfl rfl, sv_tb_t 208 rfl rfl, sv_tb_t 1 rfl rfl, ⟨by decide, by decide, by decide +kernel⟩, by decide⟩
set_option maxHeartbeats 4000000 in
set_option maxRecDepth 100000 in
theorem wS_isMet (X : sv_X D cI cZ cN cQ "SliceVoting" cS_isMet 5 k p R s m args c) (hP : sv_cP D cI cN cQ n qc ad σ H) {q d S k2 : Nat} (hn : n ≤ 6) (hI : sv_IQ n qc σ) (hq : q < qc) (h1d : 1 ≤ d) (hd3 : d ≤ 3) (hS : S < 2 ^ n) (hkk : 2 ≤ k) (hk2 : k2 + 1 ≤ k) (rec : ∀ j, j < qc → σ 4 j = nI q → Met l yS_isMet (sv_ws yS_isMet cS_isMet 5 (some .boolean)) (sv_rm k2) (sv_Pc D cI cZ cN cQ [.ref (ad (3 + 3 * n + j)), .int (nI S), .int (nI (d + 1))] (fun H => sv_cP D cI cN cQ n qc ad σ H)) (vp_Si (fun zz => zz = sv_b (sv_met σ qc S j))) 0 0 (fun _ => False)) (hl : lv_has ls 5 [(0, .ref (ad (3 + 3 * n + q))), (1, .int (nI S)), (2, .int (nI d))]) (ret : ∀ (pc : Nat) (ls : Array Slot), decode cS_isMet pc = .ok (.ireturn, 1) → W p l e R s m args below meth c H locs 0 0 Q (F0 m pc ls [.int (sv_b (sv_met σ qc S q))])) : W p l e R s m args below meth c H locs 0 0 Q (F0 m 0 ls []) := by
  have hx := X.1
  have hb := X.2.1
  have J27 : ∀ (kf : Nat) (a : Nat) (o : Option Nat) (ls : Array Slot), sv_mo o < kf → (∀ j, o = some j → j < qc ∧ σ 4 j = nI q) → (a + sv_rem σ qc S q o = sv_pc (sv_N (σ 7 q) &&& S) + sv_cnt (sv_inn σ (sv_met σ qc S) q) (q + 1) qc) → lv_has ls 5 [(0, .ref (ad (3 + 3 * n + q))), (1, .int (nI S)), (2, .int (nI d)), (3, .int (nI a)), (4, sv_rq ad n o)] → W p l e R s m args below meth c H locs 0 0 Q (F0 m 27 ls []) := by
    intro kf
    induction kf with
    | zero => intro a o ls hm; exact absurd hm (Nat.not_lt_zero _)
    | succ kf ih =>
      intro a o ls hm ho hcnt hl
      refine x_aloadR (i := 4) hx hb dS_isMet_27 (sv_at hl rfl) ?_
      refine x_ifnullR (tgt := 57) hx hb dS_isMet_29 rfl (fun h29 => ?_) (fun j29 h29 => ?_)
      · skip
        subst h29
        refine lv_iload_n (i := 3) hx hb dS_isMet_57 rfl (sv_at hl rfl) ?_
        refine lv_aload_n (i := 0) hx hb dS_isMet_58 rfl (sv_at hl rfl) ?_
        refine gQ_need X hP (by omega) dS_isMet_59 ?_
        refine lv_icmp_lt (tgt := 69) hx hb dS_isMet_62 rfl (fun h62 => ?_) (fun h62 => ?_)
        · skip
          refine lv_iconst (v := 0) hx hb dS_isMet_69 (by decide) ?_
          exact x_tv (by rw [sv_met_eq σ S hq, ← hcnt]; show _ = sv_b (decide (σ 6 q ≤ nI a)); first | (rw [decide_eq_true (Int32.not_lt.mp h62)]; rfl) | (rw [decide_eq_false (Int32.not_le.mpr h62)]; rfl)) (ret _ _ dS_isMet_70)
        · skip
          refine lv_iconst (v := 1) hx hb dS_isMet_65 (by decide) ?_
          refine lv_goto (tgt := 70) hx hb dS_isMet_66 rfl ?_
          exact x_tv (by rw [sv_met_eq σ S hq, ← hcnt]; show _ = sv_b (decide (σ 6 q ≤ nI a)); first | (rw [decide_eq_true (Int32.not_lt.mp h62)]; rfl) | (rw [decide_eq_false (Int32.not_le.mpr h62)]; rfl)) (ret _ _ dS_isMet_70)
      · skip
        subst h29
        obtain ⟨hj1, hj2⟩ := ho _ rfl
        refine lv_aload (i := 4) hx hb dS_isMet_32 (sv_at hl rfl) ?_
        refine lv_iload_n (i := 1) hx hb dS_isMet_34 rfl (sv_at hl rfl) ?_
        refine lv_iload_n (i := 2) hx hb dS_isMet_35 rfl (sv_at hl rfl) ?_
        refine lv_iconst (v := 1) hx hb dS_isMet_36 (by decide) ?_
        refine lv_iadd hx hb dS_isMet_37 ?_
        refine x_tv (nI_1 d) ?_
        refine sv_cS (G := fun H => sv_cP D cI cN cQ n qc ad σ H) X okS_S_isMet (rec j29 hj1 hj2) hP hk2 rfl hl.1 rfl (Nat.le_of_ble_eq_true rfl) (Nat.zero_le _) (Nat.zero_le _) dS_isMet_38 ?_
        refine x_ifeqB (tgt := 47) hx hb dS_isMet_41 rfl (fun h41 => ?_) (fun h41 => ?_)
        · skip
          refine lv_aload (i := 4) hx hb dS_isMet_47 (sv_at hl rfl) ?_
          refine gQ_nextInner X hP (by omega) dS_isMet_49 ?_
          refine x_astoreR (i := 4) hx hb dS_isMet_52 hl (by decide) (fun ls hl => ?_)
          refine lv_goto (tgt := 27) hx hb dS_isMet_54 rfl ?_
          exact ih _ _ ls (Nat.lt_of_le_of_lt (sv_mo_nxt _ _) (Nat.lt_of_succ_lt_succ hm)) (fun i hi => ⟨by have := (sv_nxt_in hi).1; omega, (sv_nxt_in hi).2.trans hj2⟩) (by have e := sv_rem_nxt hI S hj1 hq hj2; rw [h41] at e; simp only [cond_true, cond_false] at e; omega) (sv_re hl ⟨rfl, rfl, rfl, rfl, rfl, trivial⟩)
        · skip
          refine x_iinc (i := 3) hx hb dS_isMet_44 hl rfl (sv_inc a) (by decide) (fun ls hl => ?_)
          refine lv_aload (i := 4) hx hb dS_isMet_47 (sv_at hl rfl) ?_
          refine gQ_nextInner X hP (by omega) dS_isMet_49 ?_
          refine x_astoreR (i := 4) hx hb dS_isMet_52 hl (by decide) (fun ls hl => ?_)
          refine lv_goto (tgt := 27) hx hb dS_isMet_54 rfl ?_
          exact ih _ _ ls (Nat.lt_of_le_of_lt (sv_mo_nxt _ _) (Nat.lt_of_succ_lt_succ hm)) (fun i hi => ⟨by have := (sv_nxt_in hi).1; omega, (sv_nxt_in hi).2.trans hj2⟩) (by have e := sv_rem_nxt hI S hj1 hq hj2; rw [h41] at e; simp only [cond_true, cond_false] at e; omega) (sv_re hl ⟨rfl, rfl, rfl, rfl, rfl, trivial⟩)
  refine lv_aload_n (i := 0) hx hb dS_isMet_0 rfl (sv_at hl rfl) ?_
  refine lv_ifnull hx hb dS_isMet_1 ?_
  refine lv_iload_n (i := 2) hx hb dS_isMet_4 rfl (sv_at hl rfl) ?_
  refine lv_iconst (v := nI 3) hx hb dS_isMet_5 (by decide) ?_
  refine lv_icmp_le (tgt := 11) hx hb dS_isMet_6 rfl (fun h6 => ?_) (fun h6 => ?_)
  · skip
    refine lv_aload_n (i := 0) hx hb dS_isMet_11 rfl (sv_at hl rfl) ?_
    refine gQ_members X hP (by omega) dS_isMet_12 ?_
    refine lv_iload_n (i := 1) hx hb dS_isMet_15 rfl (sv_at hl rfl) ?_
    refine lv_iand hx hb dS_isMet_16 ?_
    refine x_tv (y := nI (sv_N (σ 7 q) &&& S)) (by rw [← sv_nand, sv_nI_N]) ?_
    refine kS_bitCount X hkk (sv_and64 hn hS) hl (Nat.zero_le _) (Nat.zero_le _) (Nat.le_of_ble_eq_true rfl) dS_isMet_17 ?_
    refine lv_istore_n (i := 3) hx hb dS_isMet_20 rfl hl (by decide) rfl (fun ls hl => ?_)
    refine lv_aload_n (i := 0) hx hb dS_isMet_21 rfl (sv_at hl rfl) ?_
    refine gQ_firstInner X hP (by omega) dS_isMet_22 ?_
    refine x_astoreR (i := 4) hx hb dS_isMet_25 hl (by decide) (fun ls hl => ?_)
    exact J27 _ _ _ ls (Nat.lt_succ_self _) (fun j hj => sv_fst_in (n := n) hj) (by rw [sv_rem_fst]) (sv_re hl ⟨rfl, rfl, rfl, rfl, rfl, trivial⟩)
  · skip
    exact absurd (nI_le (by omega) (by omega)) h6

theorem cS_m_isMet (hI : sv_IQ n qc σ) {S : Nat} (hS : S < 2 ^ n) : ∀ (f q d : Nat), q < qc → σ 5 q = nI d → 1 ≤ d → d ≤ 3 → 3 ≤ d + f → Met l yS_isMet (sv_ws yS_isMet cS_isMet 5 (some .boolean)) (sv_rm (f + 2)) (sv_Pc D cI cZ cN cQ [.ref (ad (3 + 3 * n + q)), .int (nI S), .int (nI d)] (fun H => sv_cP D cI cN cQ n qc ad σ H)) (vp_Si (fun zz => zz = sv_b (sv_met σ qc S q))) 0 0 (fun _ => False)
  | 0, q, d, hq, h5, h1, h3, hf => sv_mkR (by decide) (by show 3 ≤ 5; decide) (sv_narb _) (fun p e s m below meth c ls Q X hP hl ret => wS_isMet (k := 0 + 2) (k2 := 0) X hP hI.2.1 hI hq h1 h3 hS (by decide) (by decide) (fun j hj h4 => by
      obtain ⟨-, -, d', a1, a2, a3, -⟩ := sv_par hI hj hq h4
      have e := (nI_eq (by omega) (by omega)).mp (h5.symm.trans a3)
      omega) hl ret)
  | f + 1, q, d, hq, h5, h1, h3, hf => sv_mkR (by decide) (by show 3 ≤ 5; decide) (sv_narb _) (fun p e s m below meth c ls Q X hP hl ret => wS_isMet (k := f + 1 + 2) (k2 := f + 2) X hP hI.2.1 hI hq h1 h3 hS (by omega) (by omega) (fun j hj h4 => by
      obtain ⟨-, -, d', a1, a2, a3, a4⟩ := sv_par hI hj hq h4
      have e := (nI_eq (by omega) (by omega)).mp (h5.symm.trans a3)
      subst e
      exact cS_m_isMet hI hS f j (d + 1) hj a4 (by omega) (by omega) (by omega)) hl ret)
theorem cS_m_isMetN {x : Int32} : Met l yS_isMet (sv_ws yS_isMet cS_isMet 5 (some .boolean)) (sv_rm 1) (sv_Pc D cI cZ cN cQ [.null, .int x, .int 1] (fun _ => True)) (vp_Si (fun zz => zz = sv_b false)) 0 0 (fun _ => False) :=
  sv_mkR (by decide) (by show 3 ≤ 5; decide) (sv_narb _) (fun p e s m below meth c ls Q X _ hl ret => by
    have hx := X.1
    have hb := X.2.1
    have hl : lv_has ls 5 [(0, .null), (1, .int x), (2, .int 1)] := hl
    refine lv_aload_nN (i := 0) hx hb dS_isMet_0 rfl (sv_at hl rfl) ?_
    refine lv_ifnullN (tgt := 9) hx hb dS_isMet_1 rfl ?_
    refine lv_iconst (v := 0) hx hb dS_isMet_9 (by decide) ?_
    exact ret _ _ dS_isMet_10)
theorem sv_top_lvl (hI : sv_IQ n qc σ) {v t : Nat} (h : sv_top σ qc v = some t) : t < qc ∧ σ 5 t = nI 1 ∧ σ 3 t = nI v := by
  obtain ⟨h1, h2, -⟩ := sv_last_some qc h
  rw [Bool.and_eq_true] at h2
  refine ⟨h1, ?_, eq_of_beq h2.1⟩
  obtain ⟨-, -, -, h3 | ⟨p, d, hp, h4, -⟩⟩ := hI.2.2.2.2 t h1
  · exact h3.2.1
  · rw [eq_of_beq h2.2] at h4
    exact absurd h4 (fun e => by
      have hq := hI.2.2.2.1
      have := nI_pos (n := p) (by omega)
      rw [← e] at this
      exact this (by decide))
/-- the top quota of v, if it has one, met by S -/
theorem kS_isMetT (X : sv_X D cI cZ cN cQ "SliceVoting" cc nL k p R s m args c) (hk : 4 + 1 ≤ k) (hP : sv_cP D cI cN cQ n qc ad σ H) (hI : sv_IQ n qc σ) {v S : Nat} (hS : S < 2 ^ n) (hl : lv_has ls nL lv) (hc : cells ≤ R.cells) (hs : slots ≤ R.slots) (hcat : (rest.map fun v => v.category).sum ≤ 8) (hd : decode cc pc = .ok (.invokestatic 157, 3)) (kk : W p l e R s m args below meth c H locs cells slots Q (F0 m (pc + 3) ls (.int (sv_b (sv_sat σ qc S v)) :: rest))) : W p l e R s m args below meth c H locs cells slots Q (F0 m pc ls (.int 1 :: .int (nI S) :: sv_rq ad n (sv_top σ qc v) :: rest)) := by
  unfold sv_sat at kk
  cases h : sv_top σ qc v with
  | none =>
    rw [h] at kk
    exact sv_cS (G := fun _ => True) (As := [.null, .int (nI S), .int 1]) X okS_S_isMet cS_m_isMetN trivial (by omega) rfl hl.1 rfl hcat hc hs hd kk
  | some t =>
    rw [h] at kk
    obtain ⟨h1, h2, -⟩ := sv_top_lvl hI h
    exact sv_cS (G := fun H => sv_cP D cI cN cQ n qc ad σ H) (As := [.ref (ad (3 + 3 * n + t)), .int (nI S), .int (nI 1)]) X okS_S_isMet (cS_m_isMet hI hS 2 t 1 h1 h2 (by decide) (by decide) (by decide)) hP hk rfl hl.1 rfl hcat hc hs hd kk
end SvIsMet
