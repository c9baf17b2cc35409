section SvModel2
variable {p : Program} {l : Launch} {e : Env} {R : Room} {s : State} {m : MethodId} {args : Array Value} {below : List Frame} {meth : Method} {c : Code} {H H0 : Heap} {locs : List Loc} {cells slots : Nat} {Q : State → Prop}
variable {cc : ByteArray} {pc nL k : Nat} {ls : Array Slot} {lv : List (Nat × Value)} {rest : List Value} {D : va_G} {cI cZ cN cQ : ClassId} {n qc : Nat} {ad : Nat → Nat} {σ : Sg} {A : Nat → Prop} {mt qm : Nat → Int32}
set_option maxHeartbeats 4000000 in
set_option maxRecDepth 100000 in
theorem wM_votesOf (X : sv_X D cI cZ cN cQ "SliceVotingModel" cM_votesOf 3 1 p R s m args c) (hP : sv_mP D cI cZ n qc ad σ mt qm H) {w v : Nat} (hv : v < 6) (hw : w < 6) (hl : lv_has ls 3 [(0, .ref (ad 0)), (1, .int (nI w)), (2, .int (nI v))]) (ret : ∀ (pc : Nat) (ls : Array Slot), decode cM_votesOf pc = .ok (.ireturn, 1) → W p l e R s m args below meth c H locs 0 0 Q (F0 m pc ls [.int (sv_kv σ v w)])) : W p l e R s m args below meth c H locs 0 0 Q (F0 m 0 ls []) := by
  have hx := X.1
  have hb := X.2.1
  refine lv_iload_n (i := 2) hx hb dM_votesOf_0 rfl (sv_at hl rfl) ?_
  refine lv_iload_n (i := 1) hx hb dM_votesOf_1 rfl (sv_at hl rfl) ?_
  refine lv_icmp_ne (tgt := 14) hx hb dM_votesOf_2 rfl (fun h2 => ?_) (fun h2 => ?_)
  · skip
    rw [nI_eq (by omega) (by omega)] at h2
    refine lv_aload_n (i := 0) hx hb dM_votesOf_14 rfl (sv_at hl rfl) ?_
    refine gM_heardVotes X hP dM_votesOf_15 ?_
    refine lv_bipush (v := nI 6) hx hb dM_votesOf_18 (by decide) ?_
    refine lv_iload_n (i := 2) hx hb dM_votesOf_20 rfl (sv_at hl rfl) ?_
    refine lv_imul hx hb dM_votesOf_21 ?_
    refine lv_iload_n (i := 1) hx hb dM_votesOf_22 rfl (sv_at hl rfl) ?_
    refine lv_iadd hx hb dM_votesOf_23 ?_
    refine x_tv (y := nI (6 * v + w)) (by rw [pk_mul, nI_add]) ?_
    refine gm_heardVotes X hP (by omega) dM_votesOf_24 ?_
    first | (have ee : v = w := h2; exact x_tv (by subst ee; exact (if_pos rfl).symm) (ret _ _ dM_votesOf_25)) | exact x_tv (by unfold sv_kv; rw [if_neg (fun q => h2 q.symm), if_pos (by omega)]) (ret _ _ dM_votesOf_25)
  · skip
    rw [nI_eq (by omega) (by omega)] at h2
    refine lv_aload_n (i := 0) hx hb dM_votesOf_5 rfl (sv_at hl rfl) ?_
    refine gM_votes X hP dM_votesOf_6 ?_
    refine lv_iload_n (i := 1) hx hb dM_votesOf_9 rfl (sv_at hl rfl) ?_
    refine gm_votes X hP (by omega) dM_votesOf_10 ?_
    refine lv_goto (tgt := 25) hx hb dM_votesOf_11 rfl ?_
    first | (have ee : v = w := h2; exact x_tv (by subst ee; exact (if_pos rfl).symm) (ret _ _ dM_votesOf_25)) | exact x_tv (by unfold sv_kv; rw [if_neg (fun q => h2 q.symm), if_pos (by omega)]) (ret _ _ dM_votesOf_25)

theorem cM_m_votesOf {w v : Nat} (hv : v < 6) (hw : w < 6) : Met l yM_votesOf (sv_ws yM_votesOf cM_votesOf 3 (some .int)) (sv_rm 1) (sv_Pc D cI cZ cN cQ [.ref (ad 0), .int (nI w), .int (nI v)] (fun H => sv_mP D cI cZ n qc ad σ mt qm H)) (vp_Si (fun zz => zz = sv_kv σ v w)) 0 0 (fun _ => False) :=
  sv_mkR (by decide) (by show 3 ≤ 3; decide) rfl (fun p e s m below meth c ls Q X hP hl ret => wM_votesOf X hP hv hw hl ret)
set_option maxRecDepth 100000 in
theorem okM_M_votesOf : sv_okV "SliceVotingModel" 105 yM_votesOf cM_votesOf 3 (some .int) 2 := ⟨sv_tb_t 467 rfl rfl, sv_tb_t 464 rfl rfl, sv_tb_t 466 rfl rfl, sv_tb_s 32 rfl rfl, sv_tb_t 4 rfl rfl, ⟨by decide, by decide, by decide +kernel⟩, by decide⟩
theorem kM_votesOf (X : sv_X D cI cZ cN cQ "SliceVotingModel" cc nL k p R s m args c) (hk : 1 + 1 ≤ k) (hP : sv_mP D cI cZ n qc ad σ mt qm H) {w v : Nat} (hv : v < 6) (hw : w < 6) (hl : lv_has ls nL lv) (hc : cells ≤ R.cells) (hs : slots ≤ R.slots) (hcat : (rest.map fun v => v.category).sum ≤ 8) (hd : decode cc pc = .ok (.invokevirtual 105, 3)) (kk : W p l e R s m args below meth c H locs cells slots Q (F0 m (pc + 3) ls (.int (sv_kv σ v w) :: rest))) : W p l e R s m args below meth c H locs cells slots Q (F0 m pc ls (.int (nI v) :: .int (nI w) :: .ref (ad 0) :: rest)) :=
  sv_cV (G := fun H => sv_mP D cI cZ n qc ad σ mt qm H) X okM_M_votesOf (cM_m_votesOf hv hw) hP (y_rec X.K hP (by decide) sv_me_0 rfl) hk rfl hl.1 rfl hcat hc hs hd kk
set_option maxHeartbeats 4000000 in
set_option maxRecDepth 100000 in
theorem wM_acceptsOf (X : sv_X D cI cZ cN cQ "SliceVotingModel" cM_acceptsOf 3 1 p R s m args c) (hP : sv_mP D cI cZ n qc ad σ mt qm H) {w v : Nat} (hv : v < 6) (hw : w < 6) (hl : lv_has ls 3 [(0, .ref (ad 0)), (1, .int (nI w)), (2, .int (nI v))]) (ret : ∀ (pc : Nat) (ls : Array Slot), decode cM_acceptsOf pc = .ok (.ireturn, 1) → W p l e R s m args below meth c H locs 0 0 Q (F0 m pc ls [.int (sv_ka σ v w)])) : W p l e R s m args below meth c H locs 0 0 Q (F0 m 0 ls []) := by
  have hx := X.1
  have hb := X.2.1
  refine lv_iload_n (i := 2) hx hb dM_acceptsOf_0 rfl (sv_at hl rfl) ?_
  refine lv_iload_n (i := 1) hx hb dM_acceptsOf_1 rfl (sv_at hl rfl) ?_
  refine lv_icmp_ne (tgt := 14) hx hb dM_acceptsOf_2 rfl (fun h2 => ?_) (fun h2 => ?_)
  · skip
    rw [nI_eq (by omega) (by omega)] at h2
    refine lv_aload_n (i := 0) hx hb dM_acceptsOf_14 rfl (sv_at hl rfl) ?_
    refine gM_heardAccepts X hP dM_acceptsOf_15 ?_
    refine lv_bipush (v := nI 6) hx hb dM_acceptsOf_18 (by decide) ?_
    refine lv_iload_n (i := 2) hx hb dM_acceptsOf_20 rfl (sv_at hl rfl) ?_
    refine lv_imul hx hb dM_acceptsOf_21 ?_
    refine lv_iload_n (i := 1) hx hb dM_acceptsOf_22 rfl (sv_at hl rfl) ?_
    refine lv_iadd hx hb dM_acceptsOf_23 ?_
    refine x_tv (y := nI (6 * v + w)) (by rw [pk_mul, nI_add]) ?_
    refine gm_heardAccepts X hP (by omega) dM_acceptsOf_24 ?_
    first | (have ee : v = w := h2; exact x_tv (by subst ee; exact (if_pos rfl).symm) (ret _ _ dM_acceptsOf_25)) | exact x_tv (by unfold sv_ka; rw [if_neg (fun q => h2 q.symm), if_pos (by omega)]) (ret _ _ dM_acceptsOf_25)
  · skip
    rw [nI_eq (by omega) (by omega)] at h2
    refine lv_aload_n (i := 0) hx hb dM_acceptsOf_5 rfl (sv_at hl rfl) ?_
    refine gM_accepts X hP dM_acceptsOf_6 ?_
    refine lv_iload_n (i := 1) hx hb dM_acceptsOf_9 rfl (sv_at hl rfl) ?_
    refine gm_accepts X hP (by omega) dM_acceptsOf_10 ?_
    refine lv_goto (tgt := 25) hx hb dM_acceptsOf_11 rfl ?_
    first | (have ee : v = w := h2; exact x_tv (by subst ee; exact (if_pos rfl).symm) (ret _ _ dM_acceptsOf_25)) | exact x_tv (by unfold sv_ka; rw [if_neg (fun q => h2 q.symm), if_pos (by omega)]) (ret _ _ dM_acceptsOf_25)

theorem cM_m_acceptsOf {w v : Nat} (hv : v < 6) (hw : w < 6) : Met l yM_acceptsOf (sv_ws yM_acceptsOf cM_acceptsOf 3 (some .int)) (sv_rm 1) (sv_Pc D cI cZ cN cQ [.ref (ad 0), .int (nI w), .int (nI v)] (fun H => sv_mP D cI cZ n qc ad σ mt qm H)) (vp_Si (fun zz => zz = sv_ka σ v w)) 0 0 (fun _ => False) :=
  sv_mkR (by decide) (by show 3 ≤ 3; decide) rfl (fun p e s m below meth c ls Q X hP hl ret => wM_acceptsOf X hP hv hw hl ret)
set_option maxRecDepth 100000 in
theorem okM_M_acceptsOf : sv_okV "SliceVotingModel" 101 yM_acceptsOf cM_acceptsOf 3 (some .int) 2 := ⟨sv_tb_t 463 rfl rfl, sv_tb_t 460 rfl rfl, sv_tb_t 462 rfl rfl, sv_tb_s 31 rfl rfl, sv_tb_t 4 rfl rfl, ⟨by decide, by decide, by decide +kernel⟩, by decide⟩
theorem kM_acceptsOf (X : sv_X D cI cZ cN cQ "SliceVotingModel" cc nL k p R s m args c) (hk : 1 + 1 ≤ k) (hP : sv_mP D cI cZ n qc ad σ mt qm H) {w v : Nat} (hv : v < 6) (hw : w < 6) (hl : lv_has ls nL lv) (hc : cells ≤ R.cells) (hs : slots ≤ R.slots) (hcat : (rest.map fun v => v.category).sum ≤ 8) (hd : decode cc pc = .ok (.invokevirtual 101, 3)) (kk : W p l e R s m args below meth c H locs cells slots Q (F0 m (pc + 3) ls (.int (sv_ka σ v w) :: rest))) : W p l e R s m args below meth c H locs cells slots Q (F0 m pc ls (.int (nI v) :: .int (nI w) :: .ref (ad 0) :: rest)) :=
  sv_cV (G := fun H => sv_mP D cI cZ n qc ad σ mt qm H) X okM_M_acceptsOf (cM_m_acceptsOf hv hw) hP (y_rec X.K hP (by decide) sv_me_0 rfl) hk rfl hl.1 rfl hcat hc hs hd kk
set_option maxHeartbeats 4000000 in
set_option maxRecDepth 100000 in
theorem wM_backers (X : sv_X D cI cZ cN cQ "SliceVotingModel" cM_backers 7 2 p R s m args c) (hP : sv_mP D cI cZ n qc ad σ mt qm H) {v t : Nat} {B : Bool} (hn : n ≤ 6) (hv : v < n) (ht : t < 24) (hl : lv_has ls 7 [(0, .ref (ad 0)), (1, .int (nI v)), (2, .int (nI t)), (3, .int (sv_b B))]) (ret : ∀ (pc : Nat) (ls : Array Slot), decode cM_backers pc = .ok (.ireturn, 1) → W p l e R s m args below meth c H locs 0 0 Q (F0 m pc ls [.int (nI (sv_said (fun w => bif B then sv_ka σ v w ||| sv_kv σ v w else sv_ka σ v w) t n))])) : W p l e R s m args below meth c H locs 0 0 Q (F0 m 0 ls []) := by
  have hx := X.1
  have hb := X.2.1
  have J6 : ∀ (kf : Nat) (w : Nat) (ls : Array Slot), n - w < kf → (w ≤ n) → lv_has ls 7 [(0, .ref (ad 0)), (1, .int (nI v)), (2, .int (nI t)), (3, .int (sv_b B)), (4, .int (nI (sv_said (fun w => bif B then sv_ka σ v w ||| sv_kv σ v w else sv_ka σ v w) t w))), (5, .int (nI w))] → W p l e R s m args below meth c H locs 0 0 Q (F0 m 6 ls []) := by
    intro kf
    induction kf with
    | zero => intro w ls hm; exact absurd hm (Nat.not_lt_zero _)
    | succ kf ih =>
      intro w ls hm hw hl
      refine lv_iload (i := 5) hx hb dM_backers_6 (sv_at hl rfl) ?_
      refine lv_aload_n (i := 0) hx hb dM_backers_8 rfl (sv_at hl rfl) ?_
      refine gM_nodes X hP dM_backers_9 ?_
      refine lv_icmp_ge (tgt := 75) hx hb dM_backers_12 rfl (fun h12 => ?_) (fun h12 => ?_)
      · skip
        rw [nI_leI (by omega) (by omega)] at h12
        obtain rfl : w = n := by omega
        refine lv_iload (i := 4) hx hb dM_backers_75 (sv_at hl rfl) ?_
        exact ret _ _ dM_backers_77
      · skip
        rw [nI_leI (by omega) (by omega)] at h12
        refine lv_aload_n (i := 0) hx hb dM_backers_15 rfl (sv_at hl rfl) ?_
        refine lv_iload (i := 5) hx hb dM_backers_16 (sv_at hl rfl) ?_
        refine lv_iload_n (i := 1) hx hb dM_backers_18 rfl (sv_at hl rfl) ?_
        refine kM_acceptsOf X (by decide) hP (by omega) (by omega) hl (Nat.zero_le _) (Nat.zero_le _) (Nat.le_of_ble_eq_true rfl) dM_backers_19 ?_
        refine lv_istore (i := 6) hx hb dM_backers_22 hl (by decide) rfl (fun ls hl => ?_)
        refine lv_iload_n (i := 3) hx hb dM_backers_24 rfl (sv_at hl rfl) ?_
        refine x_ifeqB (tgt := 41) hx hb dM_backers_25 rfl (fun h25 => ?_) (fun h25 => ?_)
        · skip
          refine lv_iload (i := 6) hx hb dM_backers_41 (sv_at hl rfl) ?_
          refine x_tv (y := bif B then sv_ka σ v w ||| sv_kv σ v w else sv_ka σ v w) (by rw [h25]; rfl) ?_
          refine lv_istore (i := 6) hx hb dM_backers_43 hl (by decide) rfl (fun ls hl => ?_)
          refine lv_iload (i := 6) hx hb dM_backers_45 (sv_at hl rfl) ?_
          refine lv_iload_n (i := 2) hx hb dM_backers_47 rfl (sv_at hl rfl) ?_
          refine lv_ishr hx hb dM_backers_48 ?_
          refine lv_iconst (v := 1) hx hb dM_backers_49 (by decide) ?_
          refine lv_iand hx hb dM_backers_50 ?_
          refine x_tv (sv_shr1 _ (by omega)) ?_
          refine lv_iconst (v := 1) hx hb dM_backers_51 (by decide) ?_
          refine lv_icmp_ne (tgt := 65) hx hb dM_backers_52 rfl (fun h52 => ?_) (fun h52 => ?_)
          · skip
            rw [sv_bn1] at h52
            refine lv_iload (i := 4) hx hb dM_backers_65 (sv_at hl rfl) ?_
            refine x_tv (y := nI (sv_said (fun w => bif B then sv_ka σ v w ||| sv_kv σ v w else sv_ka σ v w) t (w + 1))) (by first | (have ee := h52; rw [sv_said_f (f := (fun w => bif B then sv_ka σ v w ||| sv_kv σ v w else sv_ka σ v w)) h52]) | (rw [sv_pow w (by omega), sv_nor, sv_said_t (f := (fun w => bif B then sv_ka σ v w ||| sv_kv σ v w else sv_ka σ v w)) h52])) ?_
            refine lv_istore (i := 4) hx hb dM_backers_67 hl (by decide) rfl (fun ls hl => ?_)
            refine x_iinc (i := 5) hx hb dM_backers_69 hl rfl (sv_inc w) (by decide) (fun ls hl => ?_)
            refine lv_goto (tgt := 6) hx hb dM_backers_72 rfl ?_
            exact ih (w + 1) ls (by omega) (by omega) (sv_re hl ⟨rfl, rfl, rfl, rfl, rfl, rfl, trivial⟩)
          · skip
            rw [sv_b1] at h52
            refine lv_iload (i := 4) hx hb dM_backers_55 (sv_at hl rfl) ?_
            refine lv_iconst (v := 1) hx hb dM_backers_57 (by decide) ?_
            refine lv_iload (i := 5) hx hb dM_backers_58 (sv_at hl rfl) ?_
            refine lv_ishl hx hb dM_backers_60 ?_
            refine lv_ior hx hb dM_backers_61 ?_
            refine lv_goto (tgt := 67) hx hb dM_backers_62 rfl ?_
            refine x_tv (y := nI (sv_said (fun w => bif B then sv_ka σ v w ||| sv_kv σ v w else sv_ka σ v w) t (w + 1))) (by first | (have ee := h52; rw [sv_said_f (f := (fun w => bif B then sv_ka σ v w ||| sv_kv σ v w else sv_ka σ v w)) h52]) | (rw [sv_pow w (by omega), sv_nor, sv_said_t (f := (fun w => bif B then sv_ka σ v w ||| sv_kv σ v w else sv_ka σ v w)) h52])) ?_
            refine lv_istore (i := 4) hx hb dM_backers_67 hl (by decide) rfl (fun ls hl => ?_)
            refine x_iinc (i := 5) hx hb dM_backers_69 hl rfl (sv_inc w) (by decide) (fun ls hl => ?_)
            refine lv_goto (tgt := 6) hx hb dM_backers_72 rfl ?_
            exact ih (w + 1) ls (by omega) (by omega) (sv_re hl ⟨rfl, rfl, rfl, rfl, rfl, rfl, trivial⟩)
        · skip
          refine lv_iload (i := 6) hx hb dM_backers_28 (sv_at hl rfl) ?_
          refine lv_aload_n (i := 0) hx hb dM_backers_30 rfl (sv_at hl rfl) ?_
          refine lv_iload (i := 5) hx hb dM_backers_31 (sv_at hl rfl) ?_
          refine lv_iload_n (i := 1) hx hb dM_backers_33 rfl (sv_at hl rfl) ?_
          refine kM_votesOf X (by decide) hP (by omega) (by omega) hl (Nat.zero_le _) (Nat.zero_le _) (Nat.le_of_ble_eq_true rfl) dM_backers_34 ?_
          refine lv_ior hx hb dM_backers_37 ?_
          refine lv_goto (tgt := 43) hx hb dM_backers_38 rfl ?_
          refine x_tv (y := bif B then sv_ka σ v w ||| sv_kv σ v w else sv_ka σ v w) (by rw [h25]; rfl) ?_
          refine lv_istore (i := 6) hx hb dM_backers_43 hl (by decide) rfl (fun ls hl => ?_)
          refine lv_iload (i := 6) hx hb dM_backers_45 (sv_at hl rfl) ?_
          refine lv_iload_n (i := 2) hx hb dM_backers_47 rfl (sv_at hl rfl) ?_
          refine lv_ishr hx hb dM_backers_48 ?_
          refine lv_iconst (v := 1) hx hb dM_backers_49 (by decide) ?_
          refine lv_iand hx hb dM_backers_50 ?_
          refine x_tv (sv_shr1 _ (by omega)) ?_
          refine lv_iconst (v := 1) hx hb dM_backers_51 (by decide) ?_
          refine lv_icmp_ne (tgt := 65) hx hb dM_backers_52 rfl (fun h52 => ?_) (fun h52 => ?_)
          · skip
            rw [sv_bn1] at h52
            refine lv_iload (i := 4) hx hb dM_backers_65 (sv_at hl rfl) ?_
            refine x_tv (y := nI (sv_said (fun w => bif B then sv_ka σ v w ||| sv_kv σ v w else sv_ka σ v w) t (w + 1))) (by first | (have ee := h52; rw [sv_said_f (f := (fun w => bif B then sv_ka σ v w ||| sv_kv σ v w else sv_ka σ v w)) h52]) | (rw [sv_pow w (by omega), sv_nor, sv_said_t (f := (fun w => bif B then sv_ka σ v w ||| sv_kv σ v w else sv_ka σ v w)) h52])) ?_
            refine lv_istore (i := 4) hx hb dM_backers_67 hl (by decide) rfl (fun ls hl => ?_)
            refine x_iinc (i := 5) hx hb dM_backers_69 hl rfl (sv_inc w) (by decide) (fun ls hl => ?_)
            refine lv_goto (tgt := 6) hx hb dM_backers_72 rfl ?_
            exact ih (w + 1) ls (by omega) (by omega) (sv_re hl ⟨rfl, rfl, rfl, rfl, rfl, rfl, trivial⟩)
          · skip
            rw [sv_b1] at h52
            refine lv_iload (i := 4) hx hb dM_backers_55 (sv_at hl rfl) ?_
            refine lv_iconst (v := 1) hx hb dM_backers_57 (by decide) ?_
            refine lv_iload (i := 5) hx hb dM_backers_58 (sv_at hl rfl) ?_
            refine lv_ishl hx hb dM_backers_60 ?_
            refine lv_ior hx hb dM_backers_61 ?_
            refine lv_goto (tgt := 67) hx hb dM_backers_62 rfl ?_
            refine x_tv (y := nI (sv_said (fun w => bif B then sv_ka σ v w ||| sv_kv σ v w else sv_ka σ v w) t (w + 1))) (by first | (have ee := h52; rw [sv_said_f (f := (fun w => bif B then sv_ka σ v w ||| sv_kv σ v w else sv_ka σ v w)) h52]) | (rw [sv_pow w (by omega), sv_nor, sv_said_t (f := (fun w => bif B then sv_ka σ v w ||| sv_kv σ v w else sv_ka σ v w)) h52])) ?_
            refine lv_istore (i := 4) hx hb dM_backers_67 hl (by decide) rfl (fun ls hl => ?_)
            refine x_iinc (i := 5) hx hb dM_backers_69 hl rfl (sv_inc w) (by decide) (fun ls hl => ?_)
            refine lv_goto (tgt := 6) hx hb dM_backers_72 rfl ?_
            exact ih (w + 1) ls (by omega) (by omega) (sv_re hl ⟨rfl, rfl, rfl, rfl, rfl, rfl, trivial⟩)
  refine lv_iconst (v := 0) hx hb dM_backers_0 (by decide) ?_
  refine lv_istore (i := 4) hx hb dM_backers_1 hl (by decide) rfl (fun ls hl => ?_)
  refine lv_iconst (v := 0) hx hb dM_backers_3 (by decide) ?_
  refine lv_istore (i := 5) hx hb dM_backers_4 hl (by decide) rfl (fun ls hl => ?_)
  exact J6 _ 0 ls (Nat.lt_succ_self _) (Nat.zero_le _) (sv_re hl ⟨rfl, rfl, rfl, rfl, rfl, rfl, trivial⟩)

theorem cM_m_backers {v t : Nat} {B : Bool} (hn : n ≤ 6) (hv : v < n) (ht : t < 24) : Met l yM_backers (sv_ws yM_backers cM_backers 7 (some .int)) (sv_rm 2) (sv_Pc D cI cZ cN cQ [.ref (ad 0), .int (nI v), .int (nI t), .int (sv_b B)] (fun H => sv_mP D cI cZ n qc ad σ mt qm H)) (vp_Si (fun zz => zz = nI (sv_said (fun w => bif B then sv_ka σ v w ||| sv_kv σ v w else sv_ka σ v w) t n))) 0 0 (fun _ => False) :=
  sv_mkR (by decide) (by show 4 ≤ 7; decide) rfl (fun p e s m below meth c ls Q X hP hl ret => wM_backers X hP hn hv ht hl ret)
set_option maxRecDepth 100000 in
theorem okM_M_backers : sv_okV "SliceVotingModel" 111 yM_backers cM_backers 7 (some .int) 3 := ⟨sv_tb_t 459 rfl rfl, sv_tb_t 456 rfl rfl, sv_tb_t 458 rfl rfl, sv_tb_s 30 rfl rfl, sv_tb_t 4 rfl rfl, ⟨by decide, by decide, by decide +kernel⟩, by decide⟩
theorem kM_backers (X : sv_X D cI cZ cN cQ "SliceVotingModel" cc nL k p R s m args c) (hk : 2 + 1 ≤ k) (hP : sv_mP D cI cZ n qc ad σ mt qm H) {v t : Nat} {B : Bool} (hn : n ≤ 6) (hv : v < n) (ht : t < 24) (hl : lv_has ls nL lv) (hc : cells ≤ R.cells) (hs : slots ≤ R.slots) (hcat : (rest.map fun v => v.category).sum ≤ 8) (hd : decode cc pc = .ok (.invokevirtual 111, 3)) (kk : W p l e R s m args below meth c H locs cells slots Q (F0 m (pc + 3) ls (.int (nI (sv_said (fun w => bif B then sv_ka σ v w ||| sv_kv σ v w else sv_ka σ v w) t n)) :: rest))) : W p l e R s m args below meth c H locs cells slots Q (F0 m pc ls (.int (sv_b B) :: .int (nI t) :: .int (nI v) :: .ref (ad 0) :: rest)) :=
  sv_cV (G := fun H => sv_mP D cI cZ n qc ad σ mt qm H) X okM_M_backers (cM_m_backers hn hv ht) hP (y_rec X.K hP (by decide) sv_me_0 rfl) hk rfl hl.1 rfl hcat hc hs hd kk
theorem sv_un_any {σ : Sg} {n qc S v : Nat} : sv_any (fun q => sv_quo σ n qc q && decide (q &&& S = q) && q.testBit v) (2 ^ n) = (sv_un σ n qc S).testBit v := by
  rw [Bool.eq_iff_iff, sv_any_iff, sv_un_bit]
  refine exists_congr fun q => and_congr_right fun _ => ?_
  rw [Bool.and_eq_true, Bool.and_eq_true, decide_eq_true_eq, sv_sub_and]
  constructor
  · rintro ⟨⟨a, b⟩, c⟩; exact ⟨b, a, c⟩
  · rintro ⟨a, b, c⟩; exact ⟨⟨b, a⟩, c⟩
theorem sv_andz {q S : Nat} (hq : q < 64) : (nI q &&& (nI S ^^^ -1) = 0) ↔ q &&& S = q := by
  rw [sv_andn (q ^^^ (q &&& S)) (fun i _ => by rw [Nat.testBit_xor, Nat.testBit_and]; cases q.testBit i <;> cases S.testBit i <;> rfl)]
  have hl : q ^^^ (q &&& S) < 2 ^ 6 := Nat.xor_lt_two_pow hq (Nat.lt_of_le_of_lt Nat.and_le_left hq)
  rw [← nI_0, nI_eq (by omega) (by decide)]
  constructor
  · intro h
    refine Nat.eq_of_testBit_eq fun i => ?_
    have h1 : (q ^^^ (q &&& S)).testBit i = false := by rw [h, Nat.zero_testBit]
    rw [Nat.testBit_xor] at h1
    cases e1 : q.testBit i <;> cases e2 : (q &&& S).testBit i <;> simp_all
  · intro h
    rw [h, Nat.xor_self]
theorem sv_any_1 {P : Nat → Bool} (h : P 0 = false) : sv_any P 1 = false := by
  show (sv_any P 0 || P 0) = false
  rw [h]
  rfl
theorem sv_quo_0 {σ : Sg} {n qc : Nat} : sv_quo σ n qc 0 = false := rfl
set_option maxHeartbeats 4000000 in
set_option maxRecDepth 100000 in
theorem wM_quorumWithin (X : sv_X D cI cZ cN cQ "SliceVotingModel" cM_quorumWithin 5 1 p R s m args c) (hP : sv_mP D cI cZ n qc ad σ mt qm H) {S v : Nat} (hn : n ≤ 6) (hv : v < n) (hqm : ∀ q, q < 2 ^ n → qm q = sv_b (sv_quo σ n qc q)) (hl : lv_has ls 5 [(0, .ref (ad 0)), (1, .int (nI S)), (2, .int (nI v))]) (ret : ∀ (pc : Nat) (ls : Array Slot), decode cM_quorumWithin pc = .ok (.ireturn, 1) → W p l e R s m args below meth c H locs 0 0 Q (F0 m pc ls [.int (sv_b ((sv_un σ n qc S).testBit v))])) : W p l e R s m args below meth c H locs 0 0 Q (F0 m 0 ls []) := by
  have hx := X.1
  have hb := X.2.1
  have h64 := sv_p2_64 hn
  have J5 : ∀ (kf : Nat) (i : Nat) (ls : Array Slot), 2 ^ n - i < kf → (1 ≤ i) → (i ≤ 2 ^ n) → lv_has ls 5 [(0, .ref (ad 0)), (1, .int (nI S)), (2, .int (nI v)), (3, .int (sv_b (sv_any (fun q => sv_quo σ n qc q && decide (q &&& S = q) && q.testBit v) i))), (4, .int (nI i))] → W p l e R s m args below meth c H locs 0 0 Q (F0 m 5 ls []) := by
    intro kf
    induction kf with
    | zero => intro i ls hm; exact absurd hm (Nat.not_lt_zero _)
    | succ kf ih =>
      intro i ls hm hi1 hi hl
      refine lv_iload (i := 4) hx hb dM_quorumWithin_5 (sv_at hl rfl) ?_
      refine lv_iconst (v := 1) hx hb dM_quorumWithin_7 (by decide) ?_
      refine lv_aload_n (i := 0) hx hb dM_quorumWithin_8 rfl (sv_at hl rfl) ?_
      refine gM_nodes X hP dM_quorumWithin_9 ?_
      refine lv_ishl hx hb dM_quorumWithin_12 ?_
      refine x_tv (sv_pow n (by omega)) ?_
      refine lv_icmp_ge (tgt := 61) hx hb dM_quorumWithin_13 rfl (fun h13 => ?_) (fun h13 => ?_)
      · skip
        rw [nI_leI (by omega) (by omega)] at h13
        obtain rfl : i = 2 ^ n := by omega
        refine lv_iload_n (i := 3) hx hb dM_quorumWithin_61 rfl (sv_at hl rfl) ?_
        exact x_tv (by rw [sv_un_any]) (ret _ _ dM_quorumWithin_62)
      · skip
        rw [nI_leI (by omega) (by omega)] at h13
        have hi64 : i < 64 := by omega
        refine lv_iload_n (i := 3) hx hb dM_quorumWithin_16 rfl (sv_at hl rfl) ?_
        refine x_ifneB (tgt := 49) hx hb dM_quorumWithin_17 rfl (fun h17 => ?_) (fun h17 => ?_)
        · skip
          refine lv_iconst (v := 1) hx hb dM_quorumWithin_49 (by decide) ?_
          refine lv_goto (tgt := 54) hx hb dM_quorumWithin_50 rfl ?_
          refine x_tv (y := sv_b (sv_any (fun q => sv_quo σ n qc q && decide (q &&& S = q) && q.testBit v) (i + 1))) (by show _ = sv_b (sv_any (fun q => sv_quo σ n qc q && decide (q &&& S = q) && q.testBit v) i || (sv_quo σ n qc i && decide (i &&& S = i) && i.testBit v)); first | (have ee : sv_any (fun q => sv_quo σ n qc q && decide (q &&& S = q) && q.testBit v) i = true := h17; rw [ee]; rfl) | (have ee : i.testBit v = true := h46; rw [h17, h27, decide_eq_true h36, h46]; rfl) | (have ee : i.testBit v = false := h46; rw [h17, h46, Bool.and_false]; rfl) | (have ee : ¬ i &&& S = i := h36; rw [h17, h27, decide_eq_false h36]; rfl) | (rw [h17, h27]; rfl)) ?_
          refine lv_istore_n (i := 3) hx hb dM_quorumWithin_54 rfl hl (by decide) rfl (fun ls hl => ?_)
          refine x_iinc (i := 4) hx hb dM_quorumWithin_55 hl rfl (sv_inc i) (by decide) (fun ls hl => ?_)
          refine lv_goto (tgt := 5) hx hb dM_quorumWithin_58 rfl ?_
          exact ih (i + 1) ls (by omega) (by omega) (by omega) (sv_re hl ⟨rfl, rfl, rfl, rfl, rfl, trivial⟩)
        · skip
          refine lv_aload_n (i := 0) hx hb dM_quorumWithin_20 rfl (sv_at hl rfl) ?_
          refine gM_quorums X hP dM_quorumWithin_21 ?_
          refine lv_iload (i := 4) hx hb dM_quorumWithin_24 (sv_at hl rfl) ?_
          refine gm_quorums X hP (by omega) dM_quorumWithin_26 ?_
          refine x_tv (hqm i (by omega)) ?_
          refine x_ifeqB (tgt := 53) hx hb dM_quorumWithin_27 rfl (fun h27 => ?_) (fun h27 => ?_)
          · skip
            refine lv_iconst (v := 0) hx hb dM_quorumWithin_53 (by decide) ?_
            refine x_tv (y := sv_b (sv_any (fun q => sv_quo σ n qc q && decide (q &&& S = q) && q.testBit v) (i + 1))) (by show _ = sv_b (sv_any (fun q => sv_quo σ n qc q && decide (q &&& S = q) && q.testBit v) i || (sv_quo σ n qc i && decide (i &&& S = i) && i.testBit v)); first | (have ee : sv_any (fun q => sv_quo σ n qc q && decide (q &&& S = q) && q.testBit v) i = true := h17; rw [ee]; rfl) | (have ee : i.testBit v = true := h46; rw [h17, h27, decide_eq_true h36, h46]; rfl) | (have ee : i.testBit v = false := h46; rw [h17, h46, Bool.and_false]; rfl) | (have ee : ¬ i &&& S = i := h36; rw [h17, h27, decide_eq_false h36]; rfl) | (rw [h17, h27]; rfl)) ?_
            refine lv_istore_n (i := 3) hx hb dM_quorumWithin_54 rfl hl (by decide) rfl (fun ls hl => ?_)
            refine x_iinc (i := 4) hx hb dM_quorumWithin_55 hl rfl (sv_inc i) (by decide) (fun ls hl => ?_)
            refine lv_goto (tgt := 5) hx hb dM_quorumWithin_58 rfl ?_
            exact ih (i + 1) ls (by omega) (by omega) (by omega) (sv_re hl ⟨rfl, rfl, rfl, rfl, rfl, trivial⟩)
          · skip
            refine lv_iload (i := 4) hx hb dM_quorumWithin_30 (sv_at hl rfl) ?_
            refine lv_iload_n (i := 1) hx hb dM_quorumWithin_32 rfl (sv_at hl rfl) ?_
            refine lv_iconst (v := -1) hx hb dM_quorumWithin_33 (by decide) ?_
            refine lv_ixor hx hb dM_quorumWithin_34 ?_
            refine lv_iand hx hb dM_quorumWithin_35 ?_
            refine lv_if_ne (tgt := 53) hx hb dM_quorumWithin_36 rfl (fun h36 => ?_) (fun h36 => ?_)
            · skip
              rw [sv_andz hi64] at h36
              refine lv_iconst (v := 0) hx hb dM_quorumWithin_53 (by decide) ?_
              refine x_tv (y := sv_b (sv_any (fun q => sv_quo σ n qc q && decide (q &&& S = q) && q.testBit v) (i + 1))) (by show _ = sv_b (sv_any (fun q => sv_quo σ n qc q && decide (q &&& S = q) && q.testBit v) i || (sv_quo σ n qc i && decide (i &&& S = i) && i.testBit v)); first | (have ee : sv_any (fun q => sv_quo σ n qc q && decide (q &&& S = q) && q.testBit v) i = true := h17; rw [ee]; rfl) | (have ee : i.testBit v = true := h46; rw [h17, h27, decide_eq_true h36, h46]; rfl) | (have ee : i.testBit v = false := h46; rw [h17, h46, Bool.and_false]; rfl) | (have ee : ¬ i &&& S = i := h36; rw [h17, h27, decide_eq_false h36]; rfl) | (rw [h17, h27]; rfl)) ?_
              refine lv_istore_n (i := 3) hx hb dM_quorumWithin_54 rfl hl (by decide) rfl (fun ls hl => ?_)
              refine x_iinc (i := 4) hx hb dM_quorumWithin_55 hl rfl (sv_inc i) (by decide) (fun ls hl => ?_)
              refine lv_goto (tgt := 5) hx hb dM_quorumWithin_58 rfl ?_
              exact ih (i + 1) ls (by omega) (by omega) (by omega) (sv_re hl ⟨rfl, rfl, rfl, rfl, rfl, trivial⟩)
            · skip
              rw [sv_andz hi64] at h36
              refine lv_iload (i := 4) hx hb dM_quorumWithin_39 (sv_at hl rfl) ?_
              refine lv_iload_n (i := 2) hx hb dM_quorumWithin_41 rfl (sv_at hl rfl) ?_
              refine lv_ishr hx hb dM_quorumWithin_42 ?_
              refine lv_iconst (v := 1) hx hb dM_quorumWithin_43 (by decide) ?_
              refine lv_iand hx hb dM_quorumWithin_44 ?_
              refine x_tv (sv_shr1 _ (by omega)) ?_
              rw [sv_bt_nI (by omega)]
              refine lv_iconst (v := 1) hx hb dM_quorumWithin_45 (by decide) ?_
              refine lv_icmp_ne (tgt := 53) hx hb dM_quorumWithin_46 rfl (fun h46 => ?_) (fun h46 => ?_)
              · skip
                rw [sv_bn1] at h46
                refine lv_iconst (v := 0) hx hb dM_quorumWithin_53 (by decide) ?_
                refine x_tv (y := sv_b (sv_any (fun q => sv_quo σ n qc q && decide (q &&& S = q) && q.testBit v) (i + 1))) (by show _ = sv_b (sv_any (fun q => sv_quo σ n qc q && decide (q &&& S = q) && q.testBit v) i || (sv_quo σ n qc i && decide (i &&& S = i) && i.testBit v)); first | (have ee : sv_any (fun q => sv_quo σ n qc q && decide (q &&& S = q) && q.testBit v) i = true := h17; rw [ee]; rfl) | (have ee : i.testBit v = true := h46; rw [h17, h27, decide_eq_true h36, h46]; rfl) | (have ee : i.testBit v = false := h46; rw [h17, h46, Bool.and_false]; rfl) | (have ee : ¬ i &&& S = i := h36; rw [h17, h27, decide_eq_false h36]; rfl) | (rw [h17, h27]; rfl)) ?_
                refine lv_istore_n (i := 3) hx hb dM_quorumWithin_54 rfl hl (by decide) rfl (fun ls hl => ?_)
                refine x_iinc (i := 4) hx hb dM_quorumWithin_55 hl rfl (sv_inc i) (by decide) (fun ls hl => ?_)
                refine lv_goto (tgt := 5) hx hb dM_quorumWithin_58 rfl ?_
                exact ih (i + 1) ls (by omega) (by omega) (by omega) (sv_re hl ⟨rfl, rfl, rfl, rfl, rfl, trivial⟩)
              · skip
                rw [sv_b1] at h46
                refine lv_iconst (v := 1) hx hb dM_quorumWithin_49 (by decide) ?_
                refine lv_goto (tgt := 54) hx hb dM_quorumWithin_50 rfl ?_
                refine x_tv (y := sv_b (sv_any (fun q => sv_quo σ n qc q && decide (q &&& S = q) && q.testBit v) (i + 1))) (by show _ = sv_b (sv_any (fun q => sv_quo σ n qc q && decide (q &&& S = q) && q.testBit v) i || (sv_quo σ n qc i && decide (i &&& S = i) && i.testBit v)); first | (have ee : sv_any (fun q => sv_quo σ n qc q && decide (q &&& S = q) && q.testBit v) i = true := h17; rw [ee]; rfl) | (have ee : i.testBit v = true := h46; rw [h17, h27, decide_eq_true h36, h46]; rfl) | (have ee : i.testBit v = false := h46; rw [h17, h46, Bool.and_false]; rfl) | (have ee : ¬ i &&& S = i := h36; rw [h17, h27, decide_eq_false h36]; rfl) | (rw [h17, h27]; rfl)) ?_
                refine lv_istore_n (i := 3) hx hb dM_quorumWithin_54 rfl hl (by decide) rfl (fun ls hl => ?_)
                refine x_iinc (i := 4) hx hb dM_quorumWithin_55 hl rfl (sv_inc i) (by decide) (fun ls hl => ?_)
                refine lv_goto (tgt := 5) hx hb dM_quorumWithin_58 rfl ?_
                exact ih (i + 1) ls (by omega) (by omega) (by omega) (sv_re hl ⟨rfl, rfl, rfl, rfl, rfl, trivial⟩)
  refine lv_iconst (v := 0) hx hb dM_quorumWithin_0 (by decide) ?_
  refine lv_istore_n (i := 3) hx hb dM_quorumWithin_1 rfl hl (by decide) rfl (fun ls hl => ?_)
  refine lv_iconst (v := 1) hx hb dM_quorumWithin_2 (by decide) ?_
  refine lv_istore (i := 4) hx hb dM_quorumWithin_3 hl (by decide) rfl (fun ls hl => ?_)
  exact J5 _ 1 ls (Nat.lt_succ_self _) (by decide) Nat.one_le_two_pow (sv_re hl ⟨rfl, rfl, rfl, by rw [sv_any_1 (by rw [sv_quo_0]; rfl)]; rfl, rfl, trivial⟩)

theorem cM_m_quorumWithin {S v : Nat} (hn : n ≤ 6) (hv : v < n) (hqm : ∀ q, q < 2 ^ n → qm q = sv_b (sv_quo σ n qc q)) : Met l yM_quorumWithin (sv_ws yM_quorumWithin cM_quorumWithin 5 (some .boolean)) (sv_rm 1) (sv_Pc D cI cZ cN cQ [.ref (ad 0), .int (nI S), .int (nI v)] (fun H => sv_mP D cI cZ n qc ad σ mt qm H)) (vp_Si (fun zz => zz = sv_b ((sv_un σ n qc S).testBit v))) 0 0 (fun _ => False) :=
  sv_mkR (by decide) (by show 3 ≤ 5; decide) (sv_narb _) (fun p e s m below meth c ls Q X hP hl ret => wM_quorumWithin X hP hn hv hqm hl ret)
set_option maxRecDepth 100000 in
theorem okM_M_quorumWithin : sv_okV "SliceVotingModel" 115 yM_quorumWithin cM_quorumWithin 5 (some .boolean) 2 := ⟨sv_tb_t 471 rfl rfl, sv_tb_t 468 rfl rfl, sv_tb_t 470 rfl rfl, sv_tb_s 33 rfl rfl, sv_tb_t 4 rfl rfl, ⟨by decide, by decide, by decide +kernel⟩, by decide⟩
theorem kM_quorumWithin (X : sv_X D cI cZ cN cQ "SliceVotingModel" cc nL k p R s m args c) (hk : 1 + 1 ≤ k) (hP : sv_mP D cI cZ n qc ad σ mt qm H) {S v : Nat} (hn : n ≤ 6) (hv : v < n) (hqm : ∀ q, q < 2 ^ n → qm q = sv_b (sv_quo σ n qc q)) (hl : lv_has ls nL lv) (hc : cells ≤ R.cells) (hs : slots ≤ R.slots) (hcat : (rest.map fun v => v.category).sum ≤ 8) (hd : decode cc pc = .ok (.invokevirtual 115, 3)) (kk : W p l e R s m args below meth c H locs cells slots Q (F0 m (pc + 3) ls (.int (sv_b ((sv_un σ n qc S).testBit v)) :: rest))) : W p l e R s m args below meth c H locs cells slots Q (F0 m pc ls (.int (nI v) :: .int (nI S) :: .ref (ad 0) :: rest)) :=
  sv_cV (G := fun H => sv_mP D cI cZ n qc ad σ mt qm H) X okM_M_quorumWithin (cM_m_quorumWithin hn hv hqm) hP (y_rec X.K hP (by decide) sv_me_0 rfl) hk rfl hl.1 rfl hcat hc hs hd kk
theorem sv_chr_at {σ : Sg} {v : Nat} {x : Int32} {i : Nat} : True := trivial
def sv_c1 (σ : Sg) (v : Nat) (x : Int32) (i : Nat) : Int32 := match sv_last (fun b => bt (σ 12 v) b) i with
  | some b => nI (b % 3)
  | none => x
def sv_c2 (σ : Sg) (v : Nat) (x : Int32) (i : Nat) : Int32 := match sv_last (fun b => decide (12 ≤ b) && bt (σ 11 v) b) i with
  | some b => nI (b % 3)
  | none => sv_c1 σ v x 12
theorem sv_c2_24 (σ : Sg) (v : Nat) (x : Int32) : sv_c2 σ v x 24 = sv_chr σ v x := rfl
theorem sv_c2_12 (σ : Sg) (v : Nat) (x : Int32) : sv_c2 σ v x 12 = sv_c1 σ v x 12 := by
  unfold sv_c2
  rw [sv_last_no 12 (fun j hj => by rw [decide_eq_false (by omega)]; rfl)]
theorem sv_c1_t {σ : Sg} {v : Nat} {x : Int32} {i : Nat} (h : bt (σ 12 v) i = true) : sv_c1 σ v x (i + 1) = nI (i % 3) := by
  unfold sv_c1
  rw [sv_last_t h]
theorem sv_c1_f {σ : Sg} {v : Nat} {x : Int32} {i : Nat} (h : bt (σ 12 v) i = false) : sv_c1 σ v x (i + 1) = sv_c1 σ v x i := by
  unfold sv_c1
  rw [sv_last_f h]
theorem sv_c2_t {σ : Sg} {v : Nat} {x : Int32} {i : Nat} (hi : 12 ≤ i) (h : bt (σ 11 v) i = true) : sv_c2 σ v x (i + 1) = nI (i % 3) := by
  unfold sv_c2
  rw [sv_last_t (by rw [h, decide_eq_true hi]; rfl)]
theorem sv_c2_f {σ : Sg} {v : Nat} {x : Int32} {i : Nat} (h : bt (σ 11 v) i = false) : sv_c2 σ v x (i + 1) = sv_c2 σ v x i := by
  unfold sv_c2
  rw [sv_last_f (by rw [h, Bool.and_false])]
set_option maxHeartbeats 4000000 in
set_option maxRecDepth 100000 in
theorem wM_choice (X : sv_X D cI cZ cN cQ "SliceVotingModel" cM_choice 5 1 p R s m args c) (hP : sv_mP D cI cZ n qc ad σ mt qm H) {v : Nat} {x : Int32} (hv : v < 6) (hl : lv_has ls 5 [(0, .ref (ad 0)), (1, .int (nI v)), (2, .int x)]) (ret : ∀ (pc : Nat) (ls : Array Slot), decode cM_choice pc = .ok (.ireturn, 1) → W p l e R s m args below meth c H locs 0 0 Q (F0 m pc ls [.int (sv_chr σ v x)])) : W p l e R s m args below meth c H locs 0 0 Q (F0 m 0 ls []) := by
  have hx := X.1
  have hb := X.2.1
  have J46 : ∀ (kf : Nat) (i : Nat) (ls : Array Slot), 24 - i < kf → (12 ≤ i) → (i ≤ 24) → lv_has ls 5 [(0, .ref (ad 0)), (1, .int (nI v)), (2, .int x), (3, .int (sv_c2 σ v x i)), (4, .int (nI i))] → W p l e R s m args below meth c H locs 0 0 Q (F0 m 46 ls []) := by
    intro kf
    induction kf with
    | zero => intro i ls hm; exact absurd hm (Nat.not_lt_zero _)
    | succ kf ih =>
      intro i ls hm hi1 hi hl
      refine lv_iload (i := 4) hx hb dM_choice_46 (sv_at hl rfl) ?_
      refine lv_bipush (v := nI 24) hx hb dM_choice_48 (by decide) ?_
      refine lv_icmp_ge (tgt := 83) hx hb dM_choice_50 rfl (fun h50 => ?_) (fun h50 => ?_)
      · skip
        rw [nI_leI (by omega) (by omega)] at h50
        obtain rfl : i = 24 := by omega
        refine lv_iload_n (i := 3) hx hb dM_choice_83 rfl (sv_at hl rfl) ?_
        exact ret _ _ dM_choice_84
      · skip
        rw [nI_leI (by omega) (by omega)] at h50
        refine lv_aload_n (i := 0) hx hb dM_choice_53 rfl (sv_at hl rfl) ?_
        refine gM_accepts X hP dM_choice_54 ?_
        refine lv_iload_n (i := 1) hx hb dM_choice_57 rfl (sv_at hl rfl) ?_
        refine gm_accepts X hP (by omega) dM_choice_58 ?_
        refine lv_iload (i := 4) hx hb dM_choice_59 (sv_at hl rfl) ?_
        refine lv_ishr hx hb dM_choice_61 ?_
        refine lv_iconst (v := 1) hx hb dM_choice_62 (by decide) ?_
        refine lv_iand hx hb dM_choice_63 ?_
        refine x_tv (sv_shr1 _ (by omega)) ?_
        refine lv_iconst (v := 1) hx hb dM_choice_64 (by decide) ?_
        refine lv_icmp_ne (tgt := 75) hx hb dM_choice_65 rfl (fun h65 => ?_) (fun h65 => ?_)
        · skip
          rw [sv_bn1] at h65
          refine lv_iload_n (i := 3) hx hb dM_choice_75 rfl (sv_at hl rfl) ?_
          first | (have ee : bt (σ 11 v) i = true := h65; refine x_tv (y := sv_c2 σ v x (i + 1)) (by rw [sv_c2_t hi1 ee, pk_rem (by omega) (by decide) (by decide)]) ?_) | refine x_tv (y := sv_c2 σ v x (i + 1)) (by rw [sv_c2_f h65]) ?_
          refine lv_istore_n (i := 3) hx hb dM_choice_76 rfl hl (by decide) rfl (fun ls hl => ?_)
          refine x_iinc (i := 4) hx hb dM_choice_77 hl rfl (sv_inc i) (by decide) (fun ls hl => ?_)
          refine lv_goto (tgt := 46) hx hb dM_choice_80 rfl ?_
          exact ih (i + 1) ls (by omega) (by omega) (by omega) (sv_re hl ⟨rfl, rfl, rfl, rfl, rfl, trivial⟩)
        · skip
          rw [sv_b1] at h65
          refine lv_iload (i := 4) hx hb dM_choice_68 (sv_at hl rfl) ?_
          refine lv_iconst (v := nI 3) hx hb dM_choice_70 (by decide) ?_
          refine lv_irem hx hb dM_choice_71 (by decide) ?_
          refine lv_goto (tgt := 76) hx hb dM_choice_72 rfl ?_
          first | (have ee : bt (σ 11 v) i = true := h65; refine x_tv (y := sv_c2 σ v x (i + 1)) (by rw [sv_c2_t hi1 ee, pk_rem (by omega) (by decide) (by decide)]) ?_) | refine x_tv (y := sv_c2 σ v x (i + 1)) (by rw [sv_c2_f h65]) ?_
          refine lv_istore_n (i := 3) hx hb dM_choice_76 rfl hl (by decide) rfl (fun ls hl => ?_)
          refine x_iinc (i := 4) hx hb dM_choice_77 hl rfl (sv_inc i) (by decide) (fun ls hl => ?_)
          refine lv_goto (tgt := 46) hx hb dM_choice_80 rfl ?_
          exact ih (i + 1) ls (by omega) (by omega) (by omega) (sv_re hl ⟨rfl, rfl, rfl, rfl, rfl, trivial⟩)
  have J5 : ∀ (kf : Nat) (i : Nat) (ls : Array Slot), 12 - i < kf → (i ≤ 12) → lv_has ls 5 [(0, .ref (ad 0)), (1, .int (nI v)), (2, .int x), (3, .int (sv_c1 σ v x i)), (4, .int (nI i))] → W p l e R s m args below meth c H locs 0 0 Q (F0 m 5 ls []) := by
    intro kf
    induction kf with
    | zero => intro i ls hm; exact absurd hm (Nat.not_lt_zero _)
    | succ kf ih =>
      intro i ls hm hi hl
      refine lv_iload (i := 4) hx hb dM_choice_5 (sv_at hl rfl) ?_
      refine lv_bipush (v := nI 12) hx hb dM_choice_7 (by decide) ?_
      refine lv_icmp_ge (tgt := 42) hx hb dM_choice_9 rfl (fun h9 => ?_) (fun h9 => ?_)
      · skip
        rw [nI_leI (by omega) (by omega)] at h9
        obtain rfl : i = 12 := by omega
        rw [← sv_c2_12] at hl
        refine lv_bipush (v := nI 12) hx hb dM_choice_42 (by decide) ?_
        refine lv_istore (i := 4) hx hb dM_choice_44 hl (by decide) rfl (fun ls hl => ?_)
        exact J46 _ 12 ls (Nat.lt_succ_self _) (by decide) (by decide) (sv_re hl ⟨rfl, rfl, rfl, rfl, rfl, trivial⟩)
      · skip
        rw [nI_leI (by omega) (by omega)] at h9
        refine lv_aload_n (i := 0) hx hb dM_choice_12 rfl (sv_at hl rfl) ?_
        refine gM_confirms X hP dM_choice_13 ?_
        refine lv_iload_n (i := 1) hx hb dM_choice_16 rfl (sv_at hl rfl) ?_
        refine gm_confirms X hP (by omega) dM_choice_17 ?_
        refine lv_iload (i := 4) hx hb dM_choice_18 (sv_at hl rfl) ?_
        refine lv_ishr hx hb dM_choice_20 ?_
        refine lv_iconst (v := 1) hx hb dM_choice_21 (by decide) ?_
        refine lv_iand hx hb dM_choice_22 ?_
        refine x_tv (sv_shr1 _ (by omega)) ?_
        refine lv_iconst (v := 1) hx hb dM_choice_23 (by decide) ?_
        refine lv_icmp_ne (tgt := 34) hx hb dM_choice_24 rfl (fun h24 => ?_) (fun h24 => ?_)
        · skip
          rw [sv_bn1] at h24
          refine lv_iload_n (i := 3) hx hb dM_choice_34 rfl (sv_at hl rfl) ?_
          first | (have ee : bt (σ 12 v) i = true := h24; refine x_tv (y := sv_c1 σ v x (i + 1)) (by rw [sv_c1_t ee, pk_rem (by omega) (by decide) (by decide)]) ?_) | refine x_tv (y := sv_c1 σ v x (i + 1)) (by rw [sv_c1_f h24]) ?_
          refine lv_istore_n (i := 3) hx hb dM_choice_35 rfl hl (by decide) rfl (fun ls hl => ?_)
          refine x_iinc (i := 4) hx hb dM_choice_36 hl rfl (sv_inc i) (by decide) (fun ls hl => ?_)
          refine lv_goto (tgt := 5) hx hb dM_choice_39 rfl ?_
          exact ih (i + 1) ls (by omega) (by omega) (sv_re hl ⟨rfl, rfl, rfl, rfl, rfl, trivial⟩)
        · skip
          rw [sv_b1] at h24
          refine lv_iload (i := 4) hx hb dM_choice_27 (sv_at hl rfl) ?_
          refine lv_iconst (v := nI 3) hx hb dM_choice_29 (by decide) ?_
          refine lv_irem hx hb dM_choice_30 (by decide) ?_
          refine lv_goto (tgt := 35) hx hb dM_choice_31 rfl ?_
          first | (have ee : bt (σ 12 v) i = true := h24; refine x_tv (y := sv_c1 σ v x (i + 1)) (by rw [sv_c1_t ee, pk_rem (by omega) (by decide) (by decide)]) ?_) | refine x_tv (y := sv_c1 σ v x (i + 1)) (by rw [sv_c1_f h24]) ?_
          refine lv_istore_n (i := 3) hx hb dM_choice_35 rfl hl (by decide) rfl (fun ls hl => ?_)
          refine x_iinc (i := 4) hx hb dM_choice_36 hl rfl (sv_inc i) (by decide) (fun ls hl => ?_)
          refine lv_goto (tgt := 5) hx hb dM_choice_39 rfl ?_
          exact ih (i + 1) ls (by omega) (by omega) (sv_re hl ⟨rfl, rfl, rfl, rfl, rfl, trivial⟩)
  refine lv_iload_n (i := 2) hx hb dM_choice_0 rfl (sv_at hl rfl) ?_
  refine lv_istore_n (i := 3) hx hb dM_choice_1 rfl hl (by decide) rfl (fun ls hl => ?_)
  refine lv_iconst (v := 0) hx hb dM_choice_2 (by decide) ?_
  refine lv_istore (i := 4) hx hb dM_choice_3 hl (by decide) rfl (fun ls hl => ?_)
  exact J5 _ 0 ls (Nat.lt_succ_self _) (Nat.zero_le _) (sv_re hl ⟨rfl, rfl, rfl, rfl, rfl, trivial⟩)

theorem cM_m_choice {v : Nat} {x : Int32} (hv : v < 6) : Met l yM_choice (sv_ws yM_choice cM_choice 5 (some .int)) (sv_rm 1) (sv_Pc D cI cZ cN cQ [.ref (ad 0), .int (nI v), .int x] (fun H => sv_mP D cI cZ n qc ad σ mt qm H)) (vp_Si (fun zz => zz = sv_chr σ v x)) 0 0 (fun _ => False) :=
  sv_mkR (by decide) (by show 3 ≤ 5; decide) rfl (fun p e s m below meth c ls Q X hP hl ret => wM_choice X hP hv hl ret)
set_option maxRecDepth 100000 in
theorem okM_M_choice : sv_okV "SliceVotingModel" 130 yM_choice cM_choice 5 (some .int) 2 := ⟨sv_tb_t 435 rfl rfl, sv_tb_t 432 rfl rfl, sv_tb_t 434 rfl rfl, sv_tb_s 24 rfl rfl, sv_tb_t 4 rfl rfl, ⟨by decide, by decide, by decide +kernel⟩, by decide⟩
theorem kM_choice (X : sv_X D cI cZ cN cQ "SliceVotingModel" cc nL k p R s m args c) (hk : 1 + 1 ≤ k) (hP : sv_mP D cI cZ n qc ad σ mt qm H) {v : Nat} {x : Int32} (hv : v < 6) (hl : lv_has ls nL lv) (hc : cells ≤ R.cells) (hs : slots ≤ R.slots) (hcat : (rest.map fun v => v.category).sum ≤ 8) (hd : decode cc pc = .ok (.invokevirtual 130, 3)) (kk : W p l e R s m args below meth c H locs cells slots Q (F0 m (pc + 3) ls (.int (sv_chr σ v x) :: rest))) : W p l e R s m args below meth c H locs cells slots Q (F0 m pc ls (.int x :: .int (nI v) :: .ref (ad 0) :: rest)) :=
  sv_cV (G := fun H => sv_mP D cI cZ n qc ad σ mt qm H) X okM_M_choice (cM_m_choice hv) hP (y_rec X.K hP (by decide) sv_me_0 rfl) hk rfl hl.1 rfl hcat hc hs hd kk
set_option maxHeartbeats 4000000 in
set_option maxRecDepth 100000 in
theorem wM_voted (X : sv_X D cI cZ cN cQ "SliceVotingModel" cM_voted 2 2 p R s m args c) (hP : sv_mP D cI cZ n qc ad σ mt qm H) {v : Int32} (hn : n ≤ 6) (hl : lv_has ls 2 [(0, .ref (ad 0)), (1, .int v)]) (ret : ∀ (pc : Nat) (ls : Array Slot), decode cM_voted pc = .ok (.ireturn, 1) → W p l e R s m args below meth c H locs 0 0 Q (F0 m pc ls [.int (sv_rd n (σ 10) 0 v)])) : W p l e R s m args below meth c H locs 0 0 Q (F0 m 0 ls []) := by
  have hx := X.1
  have hb := X.2.1
  refine lv_aload_n (i := 0) hx hb dM_voted_0 rfl (sv_at hl rfl) ?_
  refine lv_iload_n (i := 1) hx hb dM_voted_1 rfl (sv_at hl rfl) ?_
  refine kM_isNode X (by decide) hP  hl (Nat.zero_le _) (Nat.zero_le _) (Nat.le_of_ble_eq_true rfl) dM_voted_2 ?_
  refine x_ifeqB (tgt := 17) hx hb dM_voted_5 rfl (fun h5 => ?_) (fun h5 => ?_)
  · skip
    refine lv_iconst (v := 0) hx hb dM_voted_17 (by decide) ?_
    first | (have ee : sv_isn n v = false := h5; exact x_tv (by rw [sv_rd_f h5]) (ret _ _ dM_voted_18)) | exact x_tv (by rw [sv_rd_t (by omega) hj]) (ret _ _ dM_voted_18)
  · skip
    obtain ⟨j, hj, rfl⟩ := sv_isn_t (by omega) h5
    refine lv_aload_n (i := 0) hx hb dM_voted_8 rfl (sv_at hl rfl) ?_
    refine gM_votes X hP dM_voted_9 ?_
    refine lv_iload_n (i := 1) hx hb dM_voted_12 rfl (sv_at hl rfl) ?_
    refine gm_votes X hP (by omega) dM_voted_13 ?_
    refine lv_goto (tgt := 18) hx hb dM_voted_14 rfl ?_
    first | (have ee : sv_isn n v = false := h5; exact x_tv (by rw [sv_rd_f h5]) (ret _ _ dM_voted_18)) | exact x_tv (by rw [sv_rd_t (by omega) hj]) (ret _ _ dM_voted_18)

theorem cM_m_voted {v : Int32} (hn : n ≤ 6) : Met l yM_voted (sv_ws yM_voted cM_voted 2 (some .int)) (sv_rm 2) (sv_Pc D cI cZ cN cQ [.ref (ad 0), .int v] (fun H => sv_mP D cI cZ n qc ad σ mt qm H)) (vp_Si (fun zz => zz = sv_rd n (σ 10) 0 v)) 0 0 (fun _ => False) :=
  sv_mkR (by decide) (by show 2 ≤ 2; decide) rfl (fun p e s m below meth c ls Q X hP hl ret => wM_voted X hP hn hl ret)
set_option maxRecDepth 100000 in
theorem okL_M_voted : sv_okV "SliceVotingLaw" 53 yM_voted cM_voted 2 (some .int) 1 := ⟨sv_tb_t 492 rfl rfl, sv_tb_t 489 rfl rfl, sv_tb_t 490 rfl rfl, sv_tb_t 491 rfl rfl, sv_tb_t 4 rfl rfl, ⟨by decide, by decide, by decide +kernel⟩, by decide⟩
theorem kL_m_voted (X : sv_X D cI cZ cN cQ "SliceVotingLaw" cc nL k p R s m args c) (hk : 2 + 1 ≤ k) (hP : sv_mP D cI cZ n qc ad σ mt qm H) {v : Int32} (hn : n ≤ 6) (hl : lv_has ls nL lv) (hc : cells ≤ R.cells) (hs : slots ≤ R.slots) (hcat : (rest.map fun v => v.category).sum ≤ 8) (hd : decode cc pc = .ok (.invokevirtual 53, 3)) (kk : W p l e R s m args below meth c H locs cells slots Q (F0 m (pc + 3) ls (.int (sv_rd n (σ 10) 0 v) :: rest))) : W p l e R s m args below meth c H locs cells slots Q (F0 m pc ls (.int v :: .ref (ad 0) :: rest)) :=
  sv_cV (G := fun H => sv_mP D cI cZ n qc ad σ mt qm H) X okL_M_voted (cM_m_voted hn) hP (y_rec X.K hP (by decide) sv_me_0 rfl) hk rfl hl.1 rfl hcat hc hs hd kk
set_option maxHeartbeats 4000000 in
set_option maxRecDepth 100000 in
theorem wM_accepted (X : sv_X D cI cZ cN cQ "SliceVotingModel" cM_accepted 2 2 p R s m args c) (hP : sv_mP D cI cZ n qc ad σ mt qm H) {v : Int32} (hn : n ≤ 6) (hl : lv_has ls 2 [(0, .ref (ad 0)), (1, .int v)]) (ret : ∀ (pc : Nat) (ls : Array Slot), decode cM_accepted pc = .ok (.ireturn, 1) → W p l e R s m args below meth c H locs 0 0 Q (F0 m pc ls [.int (sv_rd n (σ 11) 0 v)])) : W p l e R s m args below meth c H locs 0 0 Q (F0 m 0 ls []) := by
  have hx := X.1
  have hb := X.2.1
  refine lv_aload_n (i := 0) hx hb dM_accepted_0 rfl (sv_at hl rfl) ?_
  refine lv_iload_n (i := 1) hx hb dM_accepted_1 rfl (sv_at hl rfl) ?_
  refine kM_isNode X (by decide) hP  hl (Nat.zero_le _) (Nat.zero_le _) (Nat.le_of_ble_eq_true rfl) dM_accepted_2 ?_
  refine x_ifeqB (tgt := 17) hx hb dM_accepted_5 rfl (fun h5 => ?_) (fun h5 => ?_)
  · skip
    refine lv_iconst (v := 0) hx hb dM_accepted_17 (by decide) ?_
    first | (have ee : sv_isn n v = false := h5; exact x_tv (by rw [sv_rd_f h5]) (ret _ _ dM_accepted_18)) | exact x_tv (by rw [sv_rd_t (by omega) hj]) (ret _ _ dM_accepted_18)
  · skip
    obtain ⟨j, hj, rfl⟩ := sv_isn_t (by omega) h5
    refine lv_aload_n (i := 0) hx hb dM_accepted_8 rfl (sv_at hl rfl) ?_
    refine gM_accepts X hP dM_accepted_9 ?_
    refine lv_iload_n (i := 1) hx hb dM_accepted_12 rfl (sv_at hl rfl) ?_
    refine gm_accepts X hP (by omega) dM_accepted_13 ?_
    refine lv_goto (tgt := 18) hx hb dM_accepted_14 rfl ?_
    first | (have ee : sv_isn n v = false := h5; exact x_tv (by rw [sv_rd_f h5]) (ret _ _ dM_accepted_18)) | exact x_tv (by rw [sv_rd_t (by omega) hj]) (ret _ _ dM_accepted_18)

theorem cM_m_accepted {v : Int32} (hn : n ≤ 6) : Met l yM_accepted (sv_ws yM_accepted cM_accepted 2 (some .int)) (sv_rm 2) (sv_Pc D cI cZ cN cQ [.ref (ad 0), .int v] (fun H => sv_mP D cI cZ n qc ad σ mt qm H)) (vp_Si (fun zz => zz = sv_rd n (σ 11) 0 v)) 0 0 (fun _ => False) :=
  sv_mkR (by decide) (by show 2 ≤ 2; decide) rfl (fun p e s m below meth c ls Q X hP hl ret => wM_accepted X hP hn hl ret)
set_option maxRecDepth 100000 in
theorem okL_M_accepted : sv_okV "SliceVotingLaw" 57 yM_accepted cM_accepted 2 (some .int) 1 := ⟨sv_tb_t 496 rfl rfl, sv_tb_t 493 rfl rfl, sv_tb_t 494 rfl rfl, sv_tb_t 495 rfl rfl, sv_tb_t 4 rfl rfl, ⟨by decide, by decide, by decide +kernel⟩, by decide⟩
theorem kL_m_accepted (X : sv_X D cI cZ cN cQ "SliceVotingLaw" cc nL k p R s m args c) (hk : 2 + 1 ≤ k) (hP : sv_mP D cI cZ n qc ad σ mt qm H) {v : Int32} (hn : n ≤ 6) (hl : lv_has ls nL lv) (hc : cells ≤ R.cells) (hs : slots ≤ R.slots) (hcat : (rest.map fun v => v.category).sum ≤ 8) (hd : decode cc pc = .ok (.invokevirtual 57, 3)) (kk : W p l e R s m args below meth c H locs cells slots Q (F0 m (pc + 3) ls (.int (sv_rd n (σ 11) 0 v) :: rest))) : W p l e R s m args below meth c H locs cells slots Q (F0 m pc ls (.int v :: .ref (ad 0) :: rest)) :=
  sv_cV (G := fun H => sv_mP D cI cZ n qc ad σ mt qm H) X okL_M_accepted (cM_m_accepted hn) hP (y_rec X.K hP (by decide) sv_me_0 rfl) hk rfl hl.1 rfl hcat hc hs hd kk
set_option maxHeartbeats 4000000 in
set_option maxRecDepth 100000 in
theorem wM_confirmed (X : sv_X D cI cZ cN cQ "SliceVotingModel" cM_confirmed 2 2 p R s m args c) (hP : sv_mP D cI cZ n qc ad σ mt qm H) {v : Int32} (hn : n ≤ 6) (hl : lv_has ls 2 [(0, .ref (ad 0)), (1, .int v)]) (ret : ∀ (pc : Nat) (ls : Array Slot), decode cM_confirmed pc = .ok (.ireturn, 1) → W p l e R s m args below meth c H locs 0 0 Q (F0 m pc ls [.int (sv_rd n (σ 12) 0 v)])) : W p l e R s m args below meth c H locs 0 0 Q (F0 m 0 ls []) := by
  have hx := X.1
  have hb := X.2.1
  refine lv_aload_n (i := 0) hx hb dM_confirmed_0 rfl (sv_at hl rfl) ?_
  refine lv_iload_n (i := 1) hx hb dM_confirmed_1 rfl (sv_at hl rfl) ?_
  refine kM_isNode X (by decide) hP  hl (Nat.zero_le _) (Nat.zero_le _) (Nat.le_of_ble_eq_true rfl) dM_confirmed_2 ?_
  refine x_ifeqB (tgt := 17) hx hb dM_confirmed_5 rfl (fun h5 => ?_) (fun h5 => ?_)
  · skip
    refine lv_iconst (v := 0) hx hb dM_confirmed_17 (by decide) ?_
    first | (have ee : sv_isn n v = false := h5; exact x_tv (by rw [sv_rd_f h5]) (ret _ _ dM_confirmed_18)) | exact x_tv (by rw [sv_rd_t (by omega) hj]) (ret _ _ dM_confirmed_18)
  · skip
    obtain ⟨j, hj, rfl⟩ := sv_isn_t (by omega) h5
    refine lv_aload_n (i := 0) hx hb dM_confirmed_8 rfl (sv_at hl rfl) ?_
    refine gM_confirms X hP dM_confirmed_9 ?_
    refine lv_iload_n (i := 1) hx hb dM_confirmed_12 rfl (sv_at hl rfl) ?_
    refine gm_confirms X hP (by omega) dM_confirmed_13 ?_
    refine lv_goto (tgt := 18) hx hb dM_confirmed_14 rfl ?_
    first | (have ee : sv_isn n v = false := h5; exact x_tv (by rw [sv_rd_f h5]) (ret _ _ dM_confirmed_18)) | exact x_tv (by rw [sv_rd_t (by omega) hj]) (ret _ _ dM_confirmed_18)

theorem cM_m_confirmed {v : Int32} (hn : n ≤ 6) : Met l yM_confirmed (sv_ws yM_confirmed cM_confirmed 2 (some .int)) (sv_rm 2) (sv_Pc D cI cZ cN cQ [.ref (ad 0), .int v] (fun H => sv_mP D cI cZ n qc ad σ mt qm H)) (vp_Si (fun zz => zz = sv_rd n (σ 12) 0 v)) 0 0 (fun _ => False) :=
  sv_mkR (by decide) (by show 2 ≤ 2; decide) rfl (fun p e s m below meth c ls Q X hP hl ret => wM_confirmed X hP hn hl ret)
set_option maxRecDepth 100000 in
theorem okL_M_confirmed : sv_okV "SliceVotingLaw" 61 yM_confirmed cM_confirmed 2 (some .int) 1 := ⟨sv_tb_t 500 rfl rfl, sv_tb_t 497 rfl rfl, sv_tb_t 498 rfl rfl, sv_tb_t 499 rfl rfl, sv_tb_t 4 rfl rfl, ⟨by decide, by decide, by decide +kernel⟩, by decide⟩
theorem kL_m_confirmed (X : sv_X D cI cZ cN cQ "SliceVotingLaw" cc nL k p R s m args c) (hk : 2 + 1 ≤ k) (hP : sv_mP D cI cZ n qc ad σ mt qm H) {v : Int32} (hn : n ≤ 6) (hl : lv_has ls nL lv) (hc : cells ≤ R.cells) (hs : slots ≤ R.slots) (hcat : (rest.map fun v => v.category).sum ≤ 8) (hd : decode cc pc = .ok (.invokevirtual 61, 3)) (kk : W p l e R s m args below meth c H locs cells slots Q (F0 m (pc + 3) ls (.int (sv_rd n (σ 12) 0 v) :: rest))) : W p l e R s m args below meth c H locs cells slots Q (F0 m pc ls (.int v :: .ref (ad 0) :: rest)) :=
  sv_cV (G := fun H => sv_mP D cI cZ n qc ad σ mt qm H) X okL_M_confirmed (cM_m_confirmed hn) hP (y_rec X.K hP (by decide) sv_me_0 rfl) hk rfl hl.1 rfl hcat hc hs hd kk
set_option maxHeartbeats 4000000 in
set_option maxRecDepth 100000 in
theorem wM_counter (X : sv_X D cI cZ cN cQ "SliceVotingModel" cM_counter 2 2 p R s m args c) (hP : sv_mP D cI cZ n qc ad σ mt qm H) {v : Int32} (hn : n ≤ 6) (hl : lv_has ls 2 [(0, .ref (ad 0)), (1, .int v)]) (ret : ∀ (pc : Nat) (ls : Array Slot), decode cM_counter pc = .ok (.ireturn, 1) → W p l e R s m args below meth c H locs 0 0 Q (F0 m pc ls [.int (sv_rd n (σ 13) 0 v)])) : W p l e R s m args below meth c H locs 0 0 Q (F0 m 0 ls []) := by
  have hx := X.1
  have hb := X.2.1
  refine lv_aload_n (i := 0) hx hb dM_counter_0 rfl (sv_at hl rfl) ?_
  refine lv_iload_n (i := 1) hx hb dM_counter_1 rfl (sv_at hl rfl) ?_
  refine kM_isNode X (by decide) hP  hl (Nat.zero_le _) (Nat.zero_le _) (Nat.le_of_ble_eq_true rfl) dM_counter_2 ?_
  refine x_ifeqB (tgt := 17) hx hb dM_counter_5 rfl (fun h5 => ?_) (fun h5 => ?_)
  · skip
    refine lv_iconst (v := 0) hx hb dM_counter_17 (by decide) ?_
    first | (have ee : sv_isn n v = false := h5; exact x_tv (by rw [sv_rd_f h5]) (ret _ _ dM_counter_18)) | exact x_tv (by rw [sv_rd_t (by omega) hj]) (ret _ _ dM_counter_18)
  · skip
    obtain ⟨j, hj, rfl⟩ := sv_isn_t (by omega) h5
    refine lv_aload_n (i := 0) hx hb dM_counter_8 rfl (sv_at hl rfl) ?_
    refine gM_counters X hP dM_counter_9 ?_
    refine lv_iload_n (i := 1) hx hb dM_counter_12 rfl (sv_at hl rfl) ?_
    refine gm_counters X hP (by omega) dM_counter_13 ?_
    refine lv_goto (tgt := 18) hx hb dM_counter_14 rfl ?_
    first | (have ee : sv_isn n v = false := h5; exact x_tv (by rw [sv_rd_f h5]) (ret _ _ dM_counter_18)) | exact x_tv (by rw [sv_rd_t (by omega) hj]) (ret _ _ dM_counter_18)

theorem cM_m_counter {v : Int32} (hn : n ≤ 6) : Met l yM_counter (sv_ws yM_counter cM_counter 2 (some .int)) (sv_rm 2) (sv_Pc D cI cZ cN cQ [.ref (ad 0), .int v] (fun H => sv_mP D cI cZ n qc ad σ mt qm H)) (vp_Si (fun zz => zz = sv_rd n (σ 13) 0 v)) 0 0 (fun _ => False) :=
  sv_mkR (by decide) (by show 2 ≤ 2; decide) rfl (fun p e s m below meth c ls Q X hP hl ret => wM_counter X hP hn hl ret)
set_option maxRecDepth 100000 in
theorem okL_M_counter : sv_okV "SliceVotingLaw" 65 yM_counter cM_counter 2 (some .int) 1 := ⟨sv_tb_t 504 rfl rfl, sv_tb_t 501 rfl rfl, sv_tb_t 502 rfl rfl, sv_tb_t 503 rfl rfl, sv_tb_t 4 rfl rfl, ⟨by decide, by decide, by decide +kernel⟩, by decide⟩
theorem kL_m_counter (X : sv_X D cI cZ cN cQ "SliceVotingLaw" cc nL k p R s m args c) (hk : 2 + 1 ≤ k) (hP : sv_mP D cI cZ n qc ad σ mt qm H) {v : Int32} (hn : n ≤ 6) (hl : lv_has ls nL lv) (hc : cells ≤ R.cells) (hs : slots ≤ R.slots) (hcat : (rest.map fun v => v.category).sum ≤ 8) (hd : decode cc pc = .ok (.invokevirtual 65, 3)) (kk : W p l e R s m args below meth c H locs cells slots Q (F0 m (pc + 3) ls (.int (sv_rd n (σ 13) 0 v) :: rest))) : W p l e R s m args below meth c H locs cells slots Q (F0 m pc ls (.int v :: .ref (ad 0) :: rest)) :=
  sv_cV (G := fun H => sv_mP D cI cZ n qc ad σ mt qm H) X okL_M_counter (cM_m_counter hn) hP (y_rec X.K hP (by decide) sv_me_0 rfl) hk rfl hl.1 rfl hcat hc hs hd kk
set_option maxHeartbeats 4000000 in
set_option maxRecDepth 100000 in
theorem wM_value (X : sv_X D cI cZ cN cQ "SliceVotingModel" cM_value 2 2 p R s m args c) (hP : sv_mP D cI cZ n qc ad σ mt qm H) {v : Int32} (hn : n ≤ 6) (hl : lv_has ls 2 [(0, .ref (ad 0)), (1, .int v)]) (ret : ∀ (pc : Nat) (ls : Array Slot), decode cM_value pc = .ok (.ireturn, 1) → W p l e R s m args below meth c H locs 0 0 Q (F0 m pc ls [.int (sv_rd n (σ 14) 0 v)])) : W p l e R s m args below meth c H locs 0 0 Q (F0 m 0 ls []) := by
  have hx := X.1
  have hb := X.2.1
  refine lv_aload_n (i := 0) hx hb dM_value_0 rfl (sv_at hl rfl) ?_
  refine lv_iload_n (i := 1) hx hb dM_value_1 rfl (sv_at hl rfl) ?_
  refine kM_isNode X (by decide) hP  hl (Nat.zero_le _) (Nat.zero_le _) (Nat.le_of_ble_eq_true rfl) dM_value_2 ?_
  refine x_ifeqB (tgt := 17) hx hb dM_value_5 rfl (fun h5 => ?_) (fun h5 => ?_)
  · skip
    refine lv_iconst (v := 0) hx hb dM_value_17 (by decide) ?_
    first | (have ee : sv_isn n v = false := h5; exact x_tv (by rw [sv_rd_f h5]) (ret _ _ dM_value_18)) | exact x_tv (by rw [sv_rd_t (by omega) hj]) (ret _ _ dM_value_18)
  · skip
    obtain ⟨j, hj, rfl⟩ := sv_isn_t (by omega) h5
    refine lv_aload_n (i := 0) hx hb dM_value_8 rfl (sv_at hl rfl) ?_
    refine gM_values X hP dM_value_9 ?_
    refine lv_iload_n (i := 1) hx hb dM_value_12 rfl (sv_at hl rfl) ?_
    refine gm_values X hP (by omega) dM_value_13 ?_
    refine lv_goto (tgt := 18) hx hb dM_value_14 rfl ?_
    first | (have ee : sv_isn n v = false := h5; exact x_tv (by rw [sv_rd_f h5]) (ret _ _ dM_value_18)) | exact x_tv (by rw [sv_rd_t (by omega) hj]) (ret _ _ dM_value_18)

theorem cM_m_value {v : Int32} (hn : n ≤ 6) : Met l yM_value (sv_ws yM_value cM_value 2 (some .int)) (sv_rm 2) (sv_Pc D cI cZ cN cQ [.ref (ad 0), .int v] (fun H => sv_mP D cI cZ n qc ad σ mt qm H)) (vp_Si (fun zz => zz = sv_rd n (σ 14) 0 v)) 0 0 (fun _ => False) :=
  sv_mkR (by decide) (by show 2 ≤ 2; decide) rfl (fun p e s m below meth c ls Q X hP hl ret => wM_value X hP hn hl ret)
set_option maxRecDepth 100000 in
theorem okL_M_value : sv_okV "SliceVotingLaw" 69 yM_value cM_value 2 (some .int) 1 := ⟨sv_tb_t 508 rfl rfl, sv_tb_t 505 rfl rfl, sv_tb_t 506 rfl rfl, sv_tb_t 507 rfl rfl, sv_tb_t 4 rfl rfl, ⟨by decide, by decide, by decide +kernel⟩, by decide⟩
theorem kL_m_value (X : sv_X D cI cZ cN cQ "SliceVotingLaw" cc nL k p R s m args c) (hk : 2 + 1 ≤ k) (hP : sv_mP D cI cZ n qc ad σ mt qm H) {v : Int32} (hn : n ≤ 6) (hl : lv_has ls nL lv) (hc : cells ≤ R.cells) (hs : slots ≤ R.slots) (hcat : (rest.map fun v => v.category).sum ≤ 8) (hd : decode cc pc = .ok (.invokevirtual 69, 3)) (kk : W p l e R s m args below meth c H locs cells slots Q (F0 m (pc + 3) ls (.int (sv_rd n (σ 14) 0 v) :: rest))) : W p l e R s m args below meth c H locs cells slots Q (F0 m pc ls (.int v :: .ref (ad 0) :: rest)) :=
  sv_cV (G := fun H => sv_mP D cI cZ n qc ad σ mt qm H) X okL_M_value (cM_m_value hn) hP (y_rec X.K hP (by decide) sv_me_0 rfl) hk rfl hl.1 rfl hcat hc hs hd kk
set_option maxHeartbeats 4000000 in
set_option maxRecDepth 100000 in
theorem wM_decided (X : sv_X D cI cZ cN cQ "SliceVotingModel" cM_decided 2 2 p R s m args c) (hP : sv_mP D cI cZ n qc ad σ mt qm H) {v : Int32} (hn : n ≤ 6) (hl : lv_has ls 2 [(0, .ref (ad 0)), (1, .int v)]) (ret : ∀ (pc : Nat) (ls : Array Slot), decode cM_decided pc = .ok (.ireturn, 1) → W p l e R s m args below meth c H locs 0 0 Q (F0 m pc ls [.int (sv_rd n (σ 15) (-1) v)])) : W p l e R s m args below meth c H locs 0 0 Q (F0 m 0 ls []) := by
  have hx := X.1
  have hb := X.2.1
  refine lv_aload_n (i := 0) hx hb dM_decided_0 rfl (sv_at hl rfl) ?_
  refine lv_iload_n (i := 1) hx hb dM_decided_1 rfl (sv_at hl rfl) ?_
  refine kM_isNode X (by decide) hP  hl (Nat.zero_le _) (Nat.zero_le _) (Nat.le_of_ble_eq_true rfl) dM_decided_2 ?_
  refine x_ifeqB (tgt := 17) hx hb dM_decided_5 rfl (fun h5 => ?_) (fun h5 => ?_)
  · skip
    refine lv_iconst (v := -1) hx hb dM_decided_17 (by decide) ?_
    first | (have ee : sv_isn n v = false := h5; exact x_tv (by rw [sv_rd_f h5]) (ret _ _ dM_decided_18)) | exact x_tv (by rw [sv_rd_t (by omega) hj]) (ret _ _ dM_decided_18)
  · skip
    obtain ⟨j, hj, rfl⟩ := sv_isn_t (by omega) h5
    refine lv_aload_n (i := 0) hx hb dM_decided_8 rfl (sv_at hl rfl) ?_
    refine gM_decisions X hP dM_decided_9 ?_
    refine lv_iload_n (i := 1) hx hb dM_decided_12 rfl (sv_at hl rfl) ?_
    refine gm_decisions X hP (by omega) dM_decided_13 ?_
    refine lv_goto (tgt := 18) hx hb dM_decided_14 rfl ?_
    first | (have ee : sv_isn n v = false := h5; exact x_tv (by rw [sv_rd_f h5]) (ret _ _ dM_decided_18)) | exact x_tv (by rw [sv_rd_t (by omega) hj]) (ret _ _ dM_decided_18)

theorem cM_m_decided {v : Int32} (hn : n ≤ 6) : Met l yM_decided (sv_ws yM_decided cM_decided 2 (some .int)) (sv_rm 2) (sv_Pc D cI cZ cN cQ [.ref (ad 0), .int v] (fun H => sv_mP D cI cZ n qc ad σ mt qm H)) (vp_Si (fun zz => zz = sv_rd n (σ 15) (-1) v)) 0 0 (fun _ => False) :=
  sv_mkR (by decide) (by show 2 ≤ 2; decide) rfl (fun p e s m below meth c ls Q X hP hl ret => wM_decided X hP hn hl ret)
set_option maxRecDepth 100000 in
theorem okL_M_decided : sv_okV "SliceVotingLaw" 73 yM_decided cM_decided 2 (some .int) 1 := ⟨sv_tb_t 512 rfl rfl, sv_tb_t 509 rfl rfl, sv_tb_t 510 rfl rfl, sv_tb_t 511 rfl rfl, sv_tb_t 4 rfl rfl, ⟨by decide, by decide, by decide +kernel⟩, by decide⟩
theorem kL_m_decided (X : sv_X D cI cZ cN cQ "SliceVotingLaw" cc nL k p R s m args c) (hk : 2 + 1 ≤ k) (hP : sv_mP D cI cZ n qc ad σ mt qm H) {v : Int32} (hn : n ≤ 6) (hl : lv_has ls nL lv) (hc : cells ≤ R.cells) (hs : slots ≤ R.slots) (hcat : (rest.map fun v => v.category).sum ≤ 8) (hd : decode cc pc = .ok (.invokevirtual 73, 3)) (kk : W p l e R s m args below meth c H locs cells slots Q (F0 m (pc + 3) ls (.int (sv_rd n (σ 15) (-1) v) :: rest))) : W p l e R s m args below meth c H locs cells slots Q (F0 m pc ls (.int v :: .ref (ad 0) :: rest)) :=
  sv_cV (G := fun H => sv_mP D cI cZ n qc ad σ mt qm H) X okL_M_decided (cM_m_decided hn) hP (y_rec X.K hP (by decide) sv_me_0 rfl) hk rfl hl.1 rfl hcat hc hs hd kk
set_option maxHeartbeats 4000000 in
set_option maxRecDepth 100000 in
theorem wM_known (X : sv_X D cI cZ cN cQ "SliceVotingModel" cM_known 4 2 p R s m args c) (hP : sv_mP D cI cZ n qc ad σ mt qm H) {v w : Int32} {B : Bool} (hn : n ≤ 6) (hl : lv_has ls 4 [(0, .ref (ad 0)), (1, .int v), (2, .int w), (3, .int (sv_b B))]) (ret : ∀ (pc : Nat) (ls : Array Slot), decode cM_known pc = .ok (.ireturn, 1) → W p l e R s m args below meth c H locs 0 0 Q (F0 m pc ls [.int (sv_knw n σ v w B)])) : W p l e R s m args below meth c H locs 0 0 Q (F0 m 0 ls []) := by
  have hx := X.1
  have hb := X.2.1
  refine lv_aload_n (i := 0) hx hb dM_known_0 rfl (sv_at hl rfl) ?_
  refine lv_iload_n (i := 1) hx hb dM_known_1 rfl (sv_at hl rfl) ?_
  refine kM_isNode X (by decide) hP  hl (Nat.zero_le _) (Nat.zero_le _) (Nat.le_of_ble_eq_true rfl) dM_known_2 ?_
  refine x_ifeqB (tgt := 16) hx hb dM_known_5 rfl (fun h5 => ?_) (fun h5 => ?_)
  · skip
    refine lv_iconst (v := 0) hx hb dM_known_16 (by decide) ?_
    first | (have ee := h19; exact x_tv (by unfold sv_knw; rw [h5, h13, h19, nI_clamp (by omega), nI_clamp (by omega)]; rfl) (ret _ _ dM_known_17)) | (have ee := h13; exact x_tv (by unfold sv_knw; rw [h13, Bool.and_false]; rfl) (ret _ _ dM_known_17)) | exact x_tv (by unfold sv_knw; rw [h5]; rfl) (ret _ _ dM_known_17)
  · skip
    refine lv_aload_n (i := 0) hx hb dM_known_8 rfl (sv_at hl rfl) ?_
    refine lv_iload_n (i := 2) hx hb dM_known_9 rfl (sv_at hl rfl) ?_
    refine kM_isNode X (by decide) hP  hl (Nat.zero_le _) (Nat.zero_le _) (Nat.le_of_ble_eq_true rfl) dM_known_10 ?_
    refine x_ifneB (tgt := 18) hx hb dM_known_13 rfl (fun h13 => ?_) (fun h13 => ?_)
    · skip
      obtain ⟨j, hj, rfl⟩ := sv_isn_t (by omega) h5
      obtain ⟨i, hi, rfl⟩ := sv_isn_t (by omega) h13
      refine lv_iload_n (i := 3) hx hb dM_known_18 rfl (sv_at hl rfl) ?_
      refine x_ifeqB (tgt := 31) hx hb dM_known_19 rfl (fun h19 => ?_) (fun h19 => ?_)
      · skip
        refine lv_aload_n (i := 0) hx hb dM_known_31 rfl (sv_at hl rfl) ?_
        refine lv_iload_n (i := 2) hx hb dM_known_32 rfl (sv_at hl rfl) ?_
        refine lv_iload_n (i := 1) hx hb dM_known_33 rfl (sv_at hl rfl) ?_
        refine kM_votesOf X (by decide) hP (by omega) (by omega) hl (Nat.zero_le _) (Nat.zero_le _) (Nat.le_of_ble_eq_true rfl) dM_known_34 ?_
        first | (have ee := h19; exact x_tv (by unfold sv_knw; rw [h5, h13, h19, nI_clamp (by omega), nI_clamp (by omega)]; rfl) (ret _ _ dM_known_37)) | (have ee := h13; exact x_tv (by unfold sv_knw; rw [h13, Bool.and_false]; rfl) (ret _ _ dM_known_37)) | exact x_tv (by unfold sv_knw; rw [h5]; rfl) (ret _ _ dM_known_37)
      · skip
        refine lv_aload_n (i := 0) hx hb dM_known_22 rfl (sv_at hl rfl) ?_
        refine lv_iload_n (i := 2) hx hb dM_known_23 rfl (sv_at hl rfl) ?_
        refine lv_iload_n (i := 1) hx hb dM_known_24 rfl (sv_at hl rfl) ?_
        refine kM_acceptsOf X (by decide) hP (by omega) (by omega) hl (Nat.zero_le _) (Nat.zero_le _) (Nat.le_of_ble_eq_true rfl) dM_known_25 ?_
        refine lv_goto (tgt := 37) hx hb dM_known_28 rfl ?_
        first | (have ee := h19; exact x_tv (by unfold sv_knw; rw [h5, h13, h19, nI_clamp (by omega), nI_clamp (by omega)]; rfl) (ret _ _ dM_known_37)) | (have ee := h13; exact x_tv (by unfold sv_knw; rw [h13, Bool.and_false]; rfl) (ret _ _ dM_known_37)) | exact x_tv (by unfold sv_knw; rw [h5]; rfl) (ret _ _ dM_known_37)
    · skip
      refine lv_iconst (v := 0) hx hb dM_known_16 (by decide) ?_
      first | (have ee := h19; exact x_tv (by unfold sv_knw; rw [h5, h13, h19, nI_clamp (by omega), nI_clamp (by omega)]; rfl) (ret _ _ dM_known_17)) | (have ee := h13; exact x_tv (by unfold sv_knw; rw [h13, Bool.and_false]; rfl) (ret _ _ dM_known_17)) | exact x_tv (by unfold sv_knw; rw [h5]; rfl) (ret _ _ dM_known_17)

theorem cM_m_known {v w : Int32} {B : Bool} (hn : n ≤ 6) : Met l yM_known (sv_ws yM_known cM_known 4 (some .int)) (sv_rm 2) (sv_Pc D cI cZ cN cQ [.ref (ad 0), .int v, .int w, .int (sv_b B)] (fun H => sv_mP D cI cZ n qc ad σ mt qm H)) (vp_Si (fun zz => zz = sv_knw n σ v w B)) 0 0 (fun _ => False) :=
  sv_mkR (by decide) (by show 4 ≤ 4; decide) rfl (fun p e s m below meth c ls Q X hP hl ret => wM_known X hP hn hl ret)
set_option maxRecDepth 100000 in
theorem okL_M_known : sv_okV "SliceVotingLaw" 78 yM_known cM_known 4 (some .int) 3 := ⟨sv_tb_t 516 rfl rfl, sv_tb_t 513 rfl rfl, sv_tb_t 514 rfl rfl, sv_tb_t 515 rfl rfl, sv_tb_t 4 rfl rfl, ⟨by decide, by decide, by decide +kernel⟩, by decide⟩
theorem kL_m_known (X : sv_X D cI cZ cN cQ "SliceVotingLaw" cc nL k p R s m args c) (hk : 2 + 1 ≤ k) (hP : sv_mP D cI cZ n qc ad σ mt qm H) {v w : Int32} {B : Bool} (hn : n ≤ 6) (hl : lv_has ls nL lv) (hc : cells ≤ R.cells) (hs : slots ≤ R.slots) (hcat : (rest.map fun v => v.category).sum ≤ 8) (hd : decode cc pc = .ok (.invokevirtual 78, 3)) (kk : W p l e R s m args below meth c H locs cells slots Q (F0 m (pc + 3) ls (.int (sv_knw n σ v w B) :: rest))) : W p l e R s m args below meth c H locs cells slots Q (F0 m pc ls (.int (sv_b B) :: .int w :: .int v :: .ref (ad 0) :: rest)) :=
  sv_cV (G := fun H => sv_mP D cI cZ n qc ad σ mt qm H) X okL_M_known (cM_m_known hn) hP (y_rec X.K hP (by decide) sv_me_0 rfl) hk rfl hl.1 rfl hcat hc hs hd kk
end SvModel2
