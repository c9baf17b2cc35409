section SvModel5
variable {p : Program} {l : Launch} {e : Env} {R : Room} {s : State} {m : MethodId} {args : Array Value} {below : List Frame} {meth : Method} {c : Code} {H H0 : Heap} {locs : List Loc} {cells slots : Nat} {Q : State → Prop}
variable {cc : ByteArray} {pc nL k : Nat} {ls : Array Slot} {lv : List (Nat × Value)} {rest : List Value} {D : va_G} {cI cZ cN cQ : ClassId} {n qc : Nat} {ad : Nat → Nat} {σ : Sg} {A : Nat → Prop} {mt qm : Nat → Int32}
def sv_IB (σ : Sg) (n qc a b p q : Nat) : Bool := !(sv_quo σ n qc p && sv_quo σ n qc q && p.testBit a && q.testBit b) || decide (p &&& q &&& sv_wbN σ n ≠ 0)
def sv_I1 (σ : Sg) (n qc a b p : Nat) : Bool := sv_all (sv_IB σ n qc a b p) (2 ^ n)
theorem sv_itw_eq {σ : Sg} {n qc a b : Nat} : sv_itw σ n qc a b = sv_all (sv_I1 σ n qc a b) (2 ^ n) := rfl
theorem sv_I1_0 {σ : Sg} {n qc a b : Nat} : sv_all (sv_I1 σ n qc a b) 1 = true := by
  show (sv_all _ 0 && sv_I1 σ n qc a b 0) = true
  rw [show sv_all (sv_I1 σ n qc a b) 0 = true from rfl, Bool.true_and]
  exact (sv_all_iff _).mpr fun q _ => rfl
theorem sv_IB_0 {σ : Sg} {n qc a b p : Nat} : sv_all (sv_IB σ n qc a b p) 1 = true := by
  show (sv_all _ 0 && sv_IB σ n qc a b p 0) = true
  rw [show sv_all (sv_IB σ n qc a b p) 0 = true from rfl, Bool.true_and]
  unfold sv_IB
  rw [show sv_quo σ n qc 0 = false from rfl, Bool.and_false]
  rfl
theorem sv_wbN_t {σ : Sg} {k : Nat} (h : σ 9 k = 0) : sv_wbN σ (k + 1) = sv_wbN σ k ||| 2 ^ k := by simp [sv_wbN, h]
theorem sv_wbN_f {σ : Sg} {k : Nat} (h : ¬ σ 9 k = 0) : sv_wbN σ (k + 1) = sv_wbN σ k := by
  show (bif σ 9 k == 0 then sv_wbN σ k ||| 2 ^ k else sv_wbN σ k) = _
  rw [show (σ 9 k == 0) = false from beq_eq_false_iff_ne.mpr h]
  rfl
set_option maxHeartbeats 4000000 in
set_option maxRecDepth 100000 in
theorem wM_intertwined_J (X : sv_X D cI cZ cN cQ "SliceVotingModel" cM_intertwined 8 4 p R s m args c) (hP : sv_mP D cI cZ n qc ad σ mt qm H) (hn : n ≤ 6) {a b : Nat} (ha : a < n) (hb9 : b < n) (hqm : ∀ q, q < 2 ^ n → qm q = sv_b (sv_quo σ n qc q)) (hl : lv_has ls 8 [(0, .ref (ad 0)), (1, .int (nI a)), (2, .int (nI b))]) (ret : ∀ (pc : Nat) (ls : Array Slot), decode cM_intertwined pc = .ok (.ireturn, 1) → W p l e R s m args below meth c H locs 0 0 Q (F0 m pc ls [.int (sv_b (sv_itw σ n qc a b))])) : W p l e R s m args below meth c H locs 0 0 Q (F0 m 22 ls []) := by
  have hx := X.1
  have hb := X.2.1
  have h64 := sv_p2_64 hn
  have J83 : ∀ (kf : Nat) (u : Nat) (j : Nat) (ls : Array Slot), 2 ^ n - j < kf → (u < 2 ^ n) → (1 ≤ j) → (j ≤ 2 ^ n) → (∀ ls : Array Slot, lv_has ls 8 [(0, .ref (ad 0)), (1, .int (nI a)), (2, .int (nI b)), (3, .int (nI (sv_wbN σ n))), (4, .int (sv_b (sv_all (sv_I1 σ n qc a b) u && sv_all (sv_IB σ n qc a b u) (2 ^ n)))), (5, .int (nI u))] → W p l e R s m args below meth c H locs 0 0 Q (F0 m 174 ls [])) → lv_has ls 8 [(0, .ref (ad 0)), (1, .int (nI a)), (2, .int (nI b)), (3, .int (nI (sv_wbN σ n))), (4, .int (sv_b (sv_all (sv_I1 σ n qc a b) u && sv_all (sv_IB σ n qc a b u) j))), (5, .int (nI u)), (6, .int (nI j))] → W p l e R s m args below meth c H locs 0 0 Q (F0 m 83 ls []) := by
    intro kf
    induction kf with
    | zero => intro u j ls hm; exact absurd hm (Nat.not_lt_zero _)
    | succ kf ih =>
      intro u j ls hm hp hj1 hj hout hl
      refine lv_iload (i := 6) hx hb dM_intertwined_83 (sv_at hl rfl) ?_
      refine lv_iconst (v := 1) hx hb dM_intertwined_85 (by decide) ?_
      refine lv_aload_n (i := 0) hx hb dM_intertwined_86 rfl (sv_at hl rfl) ?_
      refine gM_nodes X hP dM_intertwined_87 ?_
      refine lv_ishl hx hb dM_intertwined_90 ?_
      refine x_tv (sv_pow n (by omega)) ?_
      refine lv_icmp_ge (tgt := 174) hx hb dM_intertwined_91 rfl (fun h91 => ?_) (fun h91 => ?_)
      · skip
        rw [nI_leI (by omega) (by omega)] at h91
        obtain rfl : j = 2 ^ n := by omega
        exact hout ls (sv_re hl ⟨rfl, rfl, rfl, rfl, rfl, rfl, trivial⟩)
      · skip
        rw [nI_leI (by omega) (by omega)] at h91
        have hj64 : j < 64 := by omega
        refine lv_aload_n (i := 0) hx hb dM_intertwined_94 rfl (sv_at hl rfl) ?_
        refine gM_quorums X hP dM_intertwined_95 ?_
        refine lv_iload (i := 5) hx hb dM_intertwined_98 (sv_at hl rfl) ?_
        refine gm_quorums X hP (by omega) dM_intertwined_100 ?_
        refine x_tv (hqm u hp) ?_
        refine x_ifeqB (tgt := 138) hx hb dM_intertwined_101 rfl (fun h101 => ?_) (fun h101 => ?_)
        · skip
          refine lv_iconst (v := 0) hx hb dM_intertwined_138 (by decide) ?_
          refine x_tv (y := sv_b (sv_quo σ n qc u && sv_quo σ n qc j && u.testBit a && j.testBit b)) (by first | (have ee := h131; rw [h101, h111, h121, h131]; rfl) | (have ee := h121; rw [h101, h111, h121]; rfl) | (have ee := h111; rw [h101, h111]; rfl) | (rw [h101]; rfl)) ?_
          refine lv_istore (i := 7) hx hb dM_intertwined_139 hl (by decide) rfl (fun ls hl => ?_)
          refine lv_iload (i := 4) hx hb dM_intertwined_141 (sv_at hl rfl) ?_
          refine x_ifeqB (tgt := 165) hx hb dM_intertwined_143 rfl (fun h143 => ?_) (fun h143 => ?_)
          · skip
            refine lv_iconst (v := 0) hx hb dM_intertwined_165 (by decide) ?_
            refine x_tv (y := sv_b (sv_all (sv_I1 σ n qc a b) u && sv_all (sv_IB σ n qc a b u) (j + 1))) (by rw [sv_all_s, ← Bool.and_assoc]; first | (have ee := h158; rw [h143]; unfold sv_IB; rw [h148]; first | (rw [decide_eq_false (fun q => q h158)]; rfl) | (rw [decide_eq_true h158]; rfl)) | (have ee := h148; rw [h143]; unfold sv_IB; rw [h148]; rfl) | (rw [h143]; rfl)) ?_
            refine lv_istore (i := 4) hx hb dM_intertwined_166 hl (by decide) rfl (fun ls hl => ?_)
            refine x_iinc (i := 6) hx hb dM_intertwined_168 hl rfl (sv_inc j) (by decide) (fun ls hl => ?_)
            refine lv_goto (tgt := 83) hx hb dM_intertwined_171 rfl ?_
            exact ih u (j + 1) ls (by omega) hp (by omega) (by omega) hout (sv_re hl ⟨rfl, rfl, rfl, rfl, rfl, rfl, rfl, trivial⟩)
          · skip
            refine lv_iload (i := 7) hx hb dM_intertwined_146 (sv_at hl rfl) ?_
            refine x_ifeqB (tgt := 161) hx hb dM_intertwined_148 rfl (fun h148 => ?_) (fun h148 => ?_)
            · skip
              refine lv_iconst (v := 1) hx hb dM_intertwined_161 (by decide) ?_
              refine lv_goto (tgt := 166) hx hb dM_intertwined_162 rfl ?_
              refine x_tv (y := sv_b (sv_all (sv_I1 σ n qc a b) u && sv_all (sv_IB σ n qc a b u) (j + 1))) (by rw [sv_all_s, ← Bool.and_assoc]; first | (have ee := h158; rw [h143]; unfold sv_IB; rw [h148]; first | (rw [decide_eq_false (fun q => q h158)]; rfl) | (rw [decide_eq_true h158]; rfl)) | (have ee := h148; rw [h143]; unfold sv_IB; rw [h148]; rfl) | (rw [h143]; rfl)) ?_
              refine lv_istore (i := 4) hx hb dM_intertwined_166 hl (by decide) rfl (fun ls hl => ?_)
              refine x_iinc (i := 6) hx hb dM_intertwined_168 hl rfl (sv_inc j) (by decide) (fun ls hl => ?_)
              refine lv_goto (tgt := 83) hx hb dM_intertwined_171 rfl ?_
              exact ih u (j + 1) ls (by omega) hp (by omega) (by omega) hout (sv_re hl ⟨rfl, rfl, rfl, rfl, rfl, rfl, rfl, trivial⟩)
            · skip
              refine lv_iload (i := 5) hx hb dM_intertwined_151 (sv_at hl rfl) ?_
              refine lv_iload (i := 6) hx hb dM_intertwined_153 (sv_at hl rfl) ?_
              refine lv_iand hx hb dM_intertwined_155 ?_
              refine lv_iload_n (i := 3) hx hb dM_intertwined_156 rfl (sv_at hl rfl) ?_
              refine lv_iand hx hb dM_intertwined_157 ?_
              refine lv_if_eq (tgt := 165) hx hb dM_intertwined_158 rfl (fun h158 => ?_) (fun h158 => ?_)
              · skip
                rw [sv_nand, sv_nand, ← nI_0, nI_eq (by have h1 : u &&& j ≤ u := Nat.and_le_left; have h2 : u &&& j &&& sv_wbN σ n ≤ u &&& j := Nat.and_le_left; omega) (by decide)] at h158
                refine lv_iconst (v := 0) hx hb dM_intertwined_165 (by decide) ?_
                refine x_tv (y := sv_b (sv_all (sv_I1 σ n qc a b) u && sv_all (sv_IB σ n qc a b u) (j + 1))) (by rw [sv_all_s, ← Bool.and_assoc]; first | (have ee := h158; rw [h143]; unfold sv_IB; rw [h148]; first | (rw [decide_eq_false (fun q => q h158)]; rfl) | (rw [decide_eq_true h158]; rfl)) | (have ee := h148; rw [h143]; unfold sv_IB; rw [h148]; rfl) | (rw [h143]; rfl)) ?_
                refine lv_istore (i := 4) hx hb dM_intertwined_166 hl (by decide) rfl (fun ls hl => ?_)
                refine x_iinc (i := 6) hx hb dM_intertwined_168 hl rfl (sv_inc j) (by decide) (fun ls hl => ?_)
                refine lv_goto (tgt := 83) hx hb dM_intertwined_171 rfl ?_
                exact ih u (j + 1) ls (by omega) hp (by omega) (by omega) hout (sv_re hl ⟨rfl, rfl, rfl, rfl, rfl, rfl, rfl, trivial⟩)
              · skip
                rw [sv_nand, sv_nand, ← nI_0, nI_eq (by have h1 : u &&& j ≤ u := Nat.and_le_left; have h2 : u &&& j &&& sv_wbN σ n ≤ u &&& j := Nat.and_le_left; omega) (by decide)] at h158
                refine lv_iconst (v := 1) hx hb dM_intertwined_161 (by decide) ?_
                refine lv_goto (tgt := 166) hx hb dM_intertwined_162 rfl ?_
                refine x_tv (y := sv_b (sv_all (sv_I1 σ n qc a b) u && sv_all (sv_IB σ n qc a b u) (j + 1))) (by rw [sv_all_s, ← Bool.and_assoc]; first | (have ee := h158; rw [h143]; unfold sv_IB; rw [h148]; first | (rw [decide_eq_false (fun q => q h158)]; rfl) | (rw [decide_eq_true h158]; rfl)) | (have ee := h148; rw [h143]; unfold sv_IB; rw [h148]; rfl) | (rw [h143]; rfl)) ?_
                refine lv_istore (i := 4) hx hb dM_intertwined_166 hl (by decide) rfl (fun ls hl => ?_)
                refine x_iinc (i := 6) hx hb dM_intertwined_168 hl rfl (sv_inc j) (by decide) (fun ls hl => ?_)
                refine lv_goto (tgt := 83) hx hb dM_intertwined_171 rfl ?_
                exact ih u (j + 1) ls (by omega) hp (by omega) (by omega) hout (sv_re hl ⟨rfl, rfl, rfl, rfl, rfl, rfl, rfl, trivial⟩)
        · skip
          refine lv_aload_n (i := 0) hx hb dM_intertwined_104 rfl (sv_at hl rfl) ?_
          refine gM_quorums X hP dM_intertwined_105 ?_
          refine lv_iload (i := 6) hx hb dM_intertwined_108 (sv_at hl rfl) ?_
          refine gm_quorums X hP (by omega) dM_intertwined_110 ?_
          refine x_tv (hqm j (by omega)) ?_
          refine x_ifeqB (tgt := 138) hx hb dM_intertwined_111 rfl (fun h111 => ?_) (fun h111 => ?_)
          · skip
            refine lv_iconst (v := 0) hx hb dM_intertwined_138 (by decide) ?_
            refine x_tv (y := sv_b (sv_quo σ n qc u && sv_quo σ n qc j && u.testBit a && j.testBit b)) (by first | (have ee := h131; rw [h101, h111, h121, h131]; rfl) | (have ee := h121; rw [h101, h111, h121]; rfl) | (have ee := h111; rw [h101, h111]; rfl) | (rw [h101]; rfl)) ?_
            refine lv_istore (i := 7) hx hb dM_intertwined_139 hl (by decide) rfl (fun ls hl => ?_)
            refine lv_iload (i := 4) hx hb dM_intertwined_141 (sv_at hl rfl) ?_
            refine x_ifeqB (tgt := 165) hx hb dM_intertwined_143 rfl (fun h143 => ?_) (fun h143 => ?_)
            · skip
              refine lv_iconst (v := 0) hx hb dM_intertwined_165 (by decide) ?_
              refine x_tv (y := sv_b (sv_all (sv_I1 σ n qc a b) u && sv_all (sv_IB σ n qc a b u) (j + 1))) (by rw [sv_all_s, ← Bool.and_assoc]; first | (have ee := h158; rw [h143]; unfold sv_IB; rw [h148]; first | (rw [decide_eq_false (fun q => q h158)]; rfl) | (rw [decide_eq_true h158]; rfl)) | (have ee := h148; rw [h143]; unfold sv_IB; rw [h148]; rfl) | (rw [h143]; rfl)) ?_
              refine lv_istore (i := 4) hx hb dM_intertwined_166 hl (by decide) rfl (fun ls hl => ?_)
              refine x_iinc (i := 6) hx hb dM_intertwined_168 hl rfl (sv_inc j) (by decide) (fun ls hl => ?_)
              refine lv_goto (tgt := 83) hx hb dM_intertwined_171 rfl ?_
              exact ih u (j + 1) ls (by omega) hp (by omega) (by omega) hout (sv_re hl ⟨rfl, rfl, rfl, rfl, rfl, rfl, rfl, trivial⟩)
            · skip
              refine lv_iload (i := 7) hx hb dM_intertwined_146 (sv_at hl rfl) ?_
              refine x_ifeqB (tgt := 161) hx hb dM_intertwined_148 rfl (fun h148 => ?_) (fun h148 => ?_)
              · skip
                refine lv_iconst (v := 1) hx hb dM_intertwined_161 (by decide) ?_
                refine lv_goto (tgt := 166) hx hb dM_intertwined_162 rfl ?_
                refine x_tv (y := sv_b (sv_all (sv_I1 σ n qc a b) u && sv_all (sv_IB σ n qc a b u) (j + 1))) (by rw [sv_all_s, ← Bool.and_assoc]; first | (have ee := h158; rw [h143]; unfold sv_IB; rw [h148]; first | (rw [decide_eq_false (fun q => q h158)]; rfl) | (rw [decide_eq_true h158]; rfl)) | (have ee := h148; rw [h143]; unfold sv_IB; rw [h148]; rfl) | (rw [h143]; rfl)) ?_
                refine lv_istore (i := 4) hx hb dM_intertwined_166 hl (by decide) rfl (fun ls hl => ?_)
                refine x_iinc (i := 6) hx hb dM_intertwined_168 hl rfl (sv_inc j) (by decide) (fun ls hl => ?_)
                refine lv_goto (tgt := 83) hx hb dM_intertwined_171 rfl ?_
                exact ih u (j + 1) ls (by omega) hp (by omega) (by omega) hout (sv_re hl ⟨rfl, rfl, rfl, rfl, rfl, rfl, rfl, trivial⟩)
              · skip
                refine lv_iload (i := 5) hx hb dM_intertwined_151 (sv_at hl rfl) ?_
                refine lv_iload (i := 6) hx hb dM_intertwined_153 (sv_at hl rfl) ?_
                refine lv_iand hx hb dM_intertwined_155 ?_
                refine lv_iload_n (i := 3) hx hb dM_intertwined_156 rfl (sv_at hl rfl) ?_
                refine lv_iand hx hb dM_intertwined_157 ?_
                refine lv_if_eq (tgt := 165) hx hb dM_intertwined_158 rfl (fun h158 => ?_) (fun h158 => ?_)
                · skip
                  rw [sv_nand, sv_nand, ← nI_0, nI_eq (by have h1 : u &&& j ≤ u := Nat.and_le_left; have h2 : u &&& j &&& sv_wbN σ n ≤ u &&& j := Nat.and_le_left; omega) (by decide)] at h158
                  refine lv_iconst (v := 0) hx hb dM_intertwined_165 (by decide) ?_
                  refine x_tv (y := sv_b (sv_all (sv_I1 σ n qc a b) u && sv_all (sv_IB σ n qc a b u) (j + 1))) (by rw [sv_all_s, ← Bool.and_assoc]; first | (have ee := h158; rw [h143]; unfold sv_IB; rw [h148]; first | (rw [decide_eq_false (fun q => q h158)]; rfl) | (rw [decide_eq_true h158]; rfl)) | (have ee := h148; rw [h143]; unfold sv_IB; rw [h148]; rfl) | (rw [h143]; rfl)) ?_
                  refine lv_istore (i := 4) hx hb dM_intertwined_166 hl (by decide) rfl (fun ls hl => ?_)
                  refine x_iinc (i := 6) hx hb dM_intertwined_168 hl rfl (sv_inc j) (by decide) (fun ls hl => ?_)
                  refine lv_goto (tgt := 83) hx hb dM_intertwined_171 rfl ?_
                  exact ih u (j + 1) ls (by omega) hp (by omega) (by omega) hout (sv_re hl ⟨rfl, rfl, rfl, rfl, rfl, rfl, rfl, trivial⟩)
                · skip
                  rw [sv_nand, sv_nand, ← nI_0, nI_eq (by have h1 : u &&& j ≤ u := Nat.and_le_left; have h2 : u &&& j &&& sv_wbN σ n ≤ u &&& j := Nat.and_le_left; omega) (by decide)] at h158
                  refine lv_iconst (v := 1) hx hb dM_intertwined_161 (by decide) ?_
                  refine lv_goto (tgt := 166) hx hb dM_intertwined_162 rfl ?_
                  refine x_tv (y := sv_b (sv_all (sv_I1 σ n qc a b) u && sv_all (sv_IB σ n qc a b u) (j + 1))) (by rw [sv_all_s, ← Bool.and_assoc]; first | (have ee := h158; rw [h143]; unfold sv_IB; rw [h148]; first | (rw [decide_eq_false (fun q => q h158)]; rfl) | (rw [decide_eq_true h158]; rfl)) | (have ee := h148; rw [h143]; unfold sv_IB; rw [h148]; rfl) | (rw [h143]; rfl)) ?_
                  refine lv_istore (i := 4) hx hb dM_intertwined_166 hl (by decide) rfl (fun ls hl => ?_)
                  refine x_iinc (i := 6) hx hb dM_intertwined_168 hl rfl (sv_inc j) (by decide) (fun ls hl => ?_)
                  refine lv_goto (tgt := 83) hx hb dM_intertwined_171 rfl ?_
                  exact ih u (j + 1) ls (by omega) hp (by omega) (by omega) hout (sv_re hl ⟨rfl, rfl, rfl, rfl, rfl, rfl, rfl, trivial⟩)
          · skip
            refine lv_iload (i := 5) hx hb dM_intertwined_114 (sv_at hl rfl) ?_
            refine lv_iload_n (i := 1) hx hb dM_intertwined_116 rfl (sv_at hl rfl) ?_
            refine lv_ishr hx hb dM_intertwined_117 ?_
            refine lv_iconst (v := 1) hx hb dM_intertwined_118 (by decide) ?_
            refine lv_iand hx hb dM_intertwined_119 ?_
            refine x_tv (sv_shr1 _ (by omega)) ?_
            rw [sv_bt_nI (by omega)]
            refine lv_iconst (v := 1) hx hb dM_intertwined_120 (by decide) ?_
            refine lv_icmp_ne (tgt := 138) hx hb dM_intertwined_121 rfl (fun h121 => ?_) (fun h121 => ?_)
            · skip
              rw [sv_bn1] at h121
              refine lv_iconst (v := 0) hx hb dM_intertwined_138 (by decide) ?_
              refine x_tv (y := sv_b (sv_quo σ n qc u && sv_quo σ n qc j && u.testBit a && j.testBit b)) (by first | (have ee := h131; rw [h101, h111, h121, h131]; rfl) | (have ee := h121; rw [h101, h111, h121]; rfl) | (have ee := h111; rw [h101, h111]; rfl) | (rw [h101]; rfl)) ?_
              refine lv_istore (i := 7) hx hb dM_intertwined_139 hl (by decide) rfl (fun ls hl => ?_)
              refine lv_iload (i := 4) hx hb dM_intertwined_141 (sv_at hl rfl) ?_
              refine x_ifeqB (tgt := 165) hx hb dM_intertwined_143 rfl (fun h143 => ?_) (fun h143 => ?_)
              · skip
                refine lv_iconst (v := 0) hx hb dM_intertwined_165 (by decide) ?_
                refine x_tv (y := sv_b (sv_all (sv_I1 σ n qc a b) u && sv_all (sv_IB σ n qc a b u) (j + 1))) (by rw [sv_all_s, ← Bool.and_assoc]; first | (have ee := h158; rw [h143]; unfold sv_IB; rw [h148]; first | (rw [decide_eq_false (fun q => q h158)]; rfl) | (rw [decide_eq_true h158]; rfl)) | (have ee := h148; rw [h143]; unfold sv_IB; rw [h148]; rfl) | (rw [h143]; rfl)) ?_
                refine lv_istore (i := 4) hx hb dM_intertwined_166 hl (by decide) rfl (fun ls hl => ?_)
                refine x_iinc (i := 6) hx hb dM_intertwined_168 hl rfl (sv_inc j) (by decide) (fun ls hl => ?_)
                refine lv_goto (tgt := 83) hx hb dM_intertwined_171 rfl ?_
                exact ih u (j + 1) ls (by omega) hp (by omega) (by omega) hout (sv_re hl ⟨rfl, rfl, rfl, rfl, rfl, rfl, rfl, trivial⟩)
              · skip
                refine lv_iload (i := 7) hx hb dM_intertwined_146 (sv_at hl rfl) ?_
                refine x_ifeqB (tgt := 161) hx hb dM_intertwined_148 rfl (fun h148 => ?_) (fun h148 => ?_)
                · skip
                  refine lv_iconst (v := 1) hx hb dM_intertwined_161 (by decide) ?_
                  refine lv_goto (tgt := 166) hx hb dM_intertwined_162 rfl ?_
                  refine x_tv (y := sv_b (sv_all (sv_I1 σ n qc a b) u && sv_all (sv_IB σ n qc a b u) (j + 1))) (by rw [sv_all_s, ← Bool.and_assoc]; first | (have ee := h158; rw [h143]; unfold sv_IB; rw [h148]; first | (rw [decide_eq_false (fun q => q h158)]; rfl) | (rw [decide_eq_true h158]; rfl)) | (have ee := h148; rw [h143]; unfold sv_IB; rw [h148]; rfl) | (rw [h143]; rfl)) ?_
                  refine lv_istore (i := 4) hx hb dM_intertwined_166 hl (by decide) rfl (fun ls hl => ?_)
                  refine x_iinc (i := 6) hx hb dM_intertwined_168 hl rfl (sv_inc j) (by decide) (fun ls hl => ?_)
                  refine lv_goto (tgt := 83) hx hb dM_intertwined_171 rfl ?_
                  exact ih u (j + 1) ls (by omega) hp (by omega) (by omega) hout (sv_re hl ⟨rfl, rfl, rfl, rfl, rfl, rfl, rfl, trivial⟩)
                · skip
                  refine lv_iload (i := 5) hx hb dM_intertwined_151 (sv_at hl rfl) ?_
                  refine lv_iload (i := 6) hx hb dM_intertwined_153 (sv_at hl rfl) ?_
                  refine lv_iand hx hb dM_intertwined_155 ?_
                  refine lv_iload_n (i := 3) hx hb dM_intertwined_156 rfl (sv_at hl rfl) ?_
                  refine lv_iand hx hb dM_intertwined_157 ?_
                  refine lv_if_eq (tgt := 165) hx hb dM_intertwined_158 rfl (fun h158 => ?_) (fun h158 => ?_)
                  · skip
                    rw [sv_nand, sv_nand, ← nI_0, nI_eq (by have h1 : u &&& j ≤ u := Nat.and_le_left; have h2 : u &&& j &&& sv_wbN σ n ≤ u &&& j := Nat.and_le_left; omega) (by decide)] at h158
                    refine lv_iconst (v := 0) hx hb dM_intertwined_165 (by decide) ?_
                    refine x_tv (y := sv_b (sv_all (sv_I1 σ n qc a b) u && sv_all (sv_IB σ n qc a b u) (j + 1))) (by rw [sv_all_s, ← Bool.and_assoc]; first | (have ee := h158; rw [h143]; unfold sv_IB; rw [h148]; first | (rw [decide_eq_false (fun q => q h158)]; rfl) | (rw [decide_eq_true h158]; rfl)) | (have ee := h148; rw [h143]; unfold sv_IB; rw [h148]; rfl) | (rw [h143]; rfl)) ?_
                    refine lv_istore (i := 4) hx hb dM_intertwined_166 hl (by decide) rfl (fun ls hl => ?_)
                    refine x_iinc (i := 6) hx hb dM_intertwined_168 hl rfl (sv_inc j) (by decide) (fun ls hl => ?_)
                    refine lv_goto (tgt := 83) hx hb dM_intertwined_171 rfl ?_
                    exact ih u (j + 1) ls (by omega) hp (by omega) (by omega) hout (sv_re hl ⟨rfl, rfl, rfl, rfl, rfl, rfl, rfl, trivial⟩)
                  · skip
                    rw [sv_nand, sv_nand, ← nI_0, nI_eq (by have h1 : u &&& j ≤ u := Nat.and_le_left; have h2 : u &&& j &&& sv_wbN σ n ≤ u &&& j := Nat.and_le_left; omega) (by decide)] at h158
                    refine lv_iconst (v := 1) hx hb dM_intertwined_161 (by decide) ?_
                    refine lv_goto (tgt := 166) hx hb dM_intertwined_162 rfl ?_
                    refine x_tv (y := sv_b (sv_all (sv_I1 σ n qc a b) u && sv_all (sv_IB σ n qc a b u) (j + 1))) (by rw [sv_all_s, ← Bool.and_assoc]; first | (have ee := h158; rw [h143]; unfold sv_IB; rw [h148]; first | (rw [decide_eq_false (fun q => q h158)]; rfl) | (rw [decide_eq_true h158]; rfl)) | (have ee := h148; rw [h143]; unfold sv_IB; rw [h148]; rfl) | (rw [h143]; rfl)) ?_
                    refine lv_istore (i := 4) hx hb dM_intertwined_166 hl (by decide) rfl (fun ls hl => ?_)
                    refine x_iinc (i := 6) hx hb dM_intertwined_168 hl rfl (sv_inc j) (by decide) (fun ls hl => ?_)
                    refine lv_goto (tgt := 83) hx hb dM_intertwined_171 rfl ?_
                    exact ih u (j + 1) ls (by omega) hp (by omega) (by omega) hout (sv_re hl ⟨rfl, rfl, rfl, rfl, rfl, rfl, rfl, trivial⟩)
            · skip
              rw [sv_b1] at h121
              refine lv_iload (i := 6) hx hb dM_intertwined_124 (sv_at hl rfl) ?_
              refine lv_iload_n (i := 2) hx hb dM_intertwined_126 rfl (sv_at hl rfl) ?_
              refine lv_ishr hx hb dM_intertwined_127 ?_
              refine lv_iconst (v := 1) hx hb dM_intertwined_128 (by decide) ?_
              refine lv_iand hx hb dM_intertwined_129 ?_
              refine x_tv (sv_shr1 _ (by omega)) ?_
              rw [sv_bt_nI (by omega)]
              refine lv_iconst (v := 1) hx hb dM_intertwined_130 (by decide) ?_
              refine lv_icmp_ne (tgt := 138) hx hb dM_intertwined_131 rfl (fun h131 => ?_) (fun h131 => ?_)
              · skip
                rw [sv_bn1] at h131
                refine lv_iconst (v := 0) hx hb dM_intertwined_138 (by decide) ?_
                refine x_tv (y := sv_b (sv_quo σ n qc u && sv_quo σ n qc j && u.testBit a && j.testBit b)) (by first | (have ee := h131; rw [h101, h111, h121, h131]; rfl) | (have ee := h121; rw [h101, h111, h121]; rfl) | (have ee := h111; rw [h101, h111]; rfl) | (rw [h101]; rfl)) ?_
                refine lv_istore (i := 7) hx hb dM_intertwined_139 hl (by decide) rfl (fun ls hl => ?_)
                refine lv_iload (i := 4) hx hb dM_intertwined_141 (sv_at hl rfl) ?_
                refine x_ifeqB (tgt := 165) hx hb dM_intertwined_143 rfl (fun h143 => ?_) (fun h143 => ?_)
                · skip
                  refine lv_iconst (v := 0) hx hb dM_intertwined_165 (by decide) ?_
                  refine x_tv (y := sv_b (sv_all (sv_I1 σ n qc a b) u && sv_all (sv_IB σ n qc a b u) (j + 1))) (by rw [sv_all_s, ← Bool.and_assoc]; first | (have ee := h158; rw [h143]; unfold sv_IB; rw [h148]; first | (rw [decide_eq_false (fun q => q h158)]; rfl) | (rw [decide_eq_true h158]; rfl)) | (have ee := h148; rw [h143]; unfold sv_IB; rw [h148]; rfl) | (rw [h143]; rfl)) ?_
                  refine lv_istore (i := 4) hx hb dM_intertwined_166 hl (by decide) rfl (fun ls hl => ?_)
                  refine x_iinc (i := 6) hx hb dM_intertwined_168 hl rfl (sv_inc j) (by decide) (fun ls hl => ?_)
                  refine lv_goto (tgt := 83) hx hb dM_intertwined_171 rfl ?_
                  exact ih u (j + 1) ls (by omega) hp (by omega) (by omega) hout (sv_re hl ⟨rfl, rfl, rfl, rfl, rfl, rfl, rfl, trivial⟩)
                · skip
                  refine lv_iload (i := 7) hx hb dM_intertwined_146 (sv_at hl rfl) ?_
                  refine x_ifeqB (tgt := 161) hx hb dM_intertwined_148 rfl (fun h148 => ?_) (fun h148 => ?_)
                  · skip
                    refine lv_iconst (v := 1) hx hb dM_intertwined_161 (by decide) ?_
                    refine lv_goto (tgt := 166) hx hb dM_intertwined_162 rfl ?_
                    refine x_tv (y := sv_b (sv_all (sv_I1 σ n qc a b) u && sv_all (sv_IB σ n qc a b u) (j + 1))) (by rw [sv_all_s, ← Bool.and_assoc]; first | (have ee := h158; rw [h143]; unfold sv_IB; rw [h148]; first | (rw [decide_eq_false (fun q => q h158)]; rfl) | (rw [decide_eq_true h158]; rfl)) | (have ee := h148; rw [h143]; unfold sv_IB; rw [h148]; rfl) | (rw [h143]; rfl)) ?_
                    refine lv_istore (i := 4) hx hb dM_intertwined_166 hl (by decide) rfl (fun ls hl => ?_)
                    refine x_iinc (i := 6) hx hb dM_intertwined_168 hl rfl (sv_inc j) (by decide) (fun ls hl => ?_)
                    refine lv_goto (tgt := 83) hx hb dM_intertwined_171 rfl ?_
                    exact ih u (j + 1) ls (by omega) hp (by omega) (by omega) hout (sv_re hl ⟨rfl, rfl, rfl, rfl, rfl, rfl, rfl, trivial⟩)
                  · skip
                    refine lv_iload (i := 5) hx hb dM_intertwined_151 (sv_at hl rfl) ?_
                    refine lv_iload (i := 6) hx hb dM_intertwined_153 (sv_at hl rfl) ?_
                    refine lv_iand hx hb dM_intertwined_155 ?_
                    refine lv_iload_n (i := 3) hx hb dM_intertwined_156 rfl (sv_at hl rfl) ?_
                    refine lv_iand hx hb dM_intertwined_157 ?_
                    refine lv_if_eq (tgt := 165) hx hb dM_intertwined_158 rfl (fun h158 => ?_) (fun h158 => ?_)
                    · skip
                      rw [sv_nand, sv_nand, ← nI_0, nI_eq (by have h1 : u &&& j ≤ u := Nat.and_le_left; have h2 : u &&& j &&& sv_wbN σ n ≤ u &&& j := Nat.and_le_left; omega) (by decide)] at h158
                      refine lv_iconst (v := 0) hx hb dM_intertwined_165 (by decide) ?_
                      refine x_tv (y := sv_b (sv_all (sv_I1 σ n qc a b) u && sv_all (sv_IB σ n qc a b u) (j + 1))) (by rw [sv_all_s, ← Bool.and_assoc]; first | (have ee := h158; rw [h143]; unfold sv_IB; rw [h148]; first | (rw [decide_eq_false (fun q => q h158)]; rfl) | (rw [decide_eq_true h158]; rfl)) | (have ee := h148; rw [h143]; unfold sv_IB; rw [h148]; rfl) | (rw [h143]; rfl)) ?_
                      refine lv_istore (i := 4) hx hb dM_intertwined_166 hl (by decide) rfl (fun ls hl => ?_)
                      refine x_iinc (i := 6) hx hb dM_intertwined_168 hl rfl (sv_inc j) (by decide) (fun ls hl => ?_)
                      refine lv_goto (tgt := 83) hx hb dM_intertwined_171 rfl ?_
                      exact ih u (j + 1) ls (by omega) hp (by omega) (by omega) hout (sv_re hl ⟨rfl, rfl, rfl, rfl, rfl, rfl, rfl, trivial⟩)
                    · skip
                      rw [sv_nand, sv_nand, ← nI_0, nI_eq (by have h1 : u &&& j ≤ u := Nat.and_le_left; have h2 : u &&& j &&& sv_wbN σ n ≤ u &&& j := Nat.and_le_left; omega) (by decide)] at h158
                      refine lv_iconst (v := 1) hx hb dM_intertwined_161 (by decide) ?_
                      refine lv_goto (tgt := 166) hx hb dM_intertwined_162 rfl ?_
                      refine x_tv (y := sv_b (sv_all (sv_I1 σ n qc a b) u && sv_all (sv_IB σ n qc a b u) (j + 1))) (by rw [sv_all_s, ← Bool.and_assoc]; first | (have ee := h158; rw [h143]; unfold sv_IB; rw [h148]; first | (rw [decide_eq_false (fun q => q h158)]; rfl) | (rw [decide_eq_true h158]; rfl)) | (have ee := h148; rw [h143]; unfold sv_IB; rw [h148]; rfl) | (rw [h143]; rfl)) ?_
                      refine lv_istore (i := 4) hx hb dM_intertwined_166 hl (by decide) rfl (fun ls hl => ?_)
                      refine x_iinc (i := 6) hx hb dM_intertwined_168 hl rfl (sv_inc j) (by decide) (fun ls hl => ?_)
                      refine lv_goto (tgt := 83) hx hb dM_intertwined_171 rfl ?_
                      exact ih u (j + 1) ls (by omega) hp (by omega) (by omega) hout (sv_re hl ⟨rfl, rfl, rfl, rfl, rfl, rfl, rfl, trivial⟩)
              · skip
                rw [sv_b1] at h131
                refine lv_iconst (v := 1) hx hb dM_intertwined_134 (by decide) ?_
                refine lv_goto (tgt := 139) hx hb dM_intertwined_135 rfl ?_
                refine x_tv (y := sv_b (sv_quo σ n qc u && sv_quo σ n qc j && u.testBit a && j.testBit b)) (by first | (have ee := h131; rw [h101, h111, h121, h131]; rfl) | (have ee := h121; rw [h101, h111, h121]; rfl) | (have ee := h111; rw [h101, h111]; rfl) | (rw [h101]; rfl)) ?_
                refine lv_istore (i := 7) hx hb dM_intertwined_139 hl (by decide) rfl (fun ls hl => ?_)
                refine lv_iload (i := 4) hx hb dM_intertwined_141 (sv_at hl rfl) ?_
                refine x_ifeqB (tgt := 165) hx hb dM_intertwined_143 rfl (fun h143 => ?_) (fun h143 => ?_)
                · skip
                  refine lv_iconst (v := 0) hx hb dM_intertwined_165 (by decide) ?_
                  refine x_tv (y := sv_b (sv_all (sv_I1 σ n qc a b) u && sv_all (sv_IB σ n qc a b u) (j + 1))) (by rw [sv_all_s, ← Bool.and_assoc]; first | (have ee := h158; rw [h143]; unfold sv_IB; rw [h148]; first | (rw [decide_eq_false (fun q => q h158)]; rfl) | (rw [decide_eq_true h158]; rfl)) | (have ee := h148; rw [h143]; unfold sv_IB; rw [h148]; rfl) | (rw [h143]; rfl)) ?_
                  refine lv_istore (i := 4) hx hb dM_intertwined_166 hl (by decide) rfl (fun ls hl => ?_)
                  refine x_iinc (i := 6) hx hb dM_intertwined_168 hl rfl (sv_inc j) (by decide) (fun ls hl => ?_)
                  refine lv_goto (tgt := 83) hx hb dM_intertwined_171 rfl ?_
                  exact ih u (j + 1) ls (by omega) hp (by omega) (by omega) hout (sv_re hl ⟨rfl, rfl, rfl, rfl, rfl, rfl, rfl, trivial⟩)
                · skip
                  refine lv_iload (i := 7) hx hb dM_intertwined_146 (sv_at hl rfl) ?_
                  refine x_ifeqB (tgt := 161) hx hb dM_intertwined_148 rfl (fun h148 => ?_) (fun h148 => ?_)
                  · skip
                    refine lv_iconst (v := 1) hx hb dM_intertwined_161 (by decide) ?_
                    refine lv_goto (tgt := 166) hx hb dM_intertwined_162 rfl ?_
                    refine x_tv (y := sv_b (sv_all (sv_I1 σ n qc a b) u && sv_all (sv_IB σ n qc a b u) (j + 1))) (by rw [sv_all_s, ← Bool.and_assoc]; first | (have ee := h158; rw [h143]; unfold sv_IB; rw [h148]; first | (rw [decide_eq_false (fun q => q h158)]; rfl) | (rw [decide_eq_true h158]; rfl)) | (have ee := h148; rw [h143]; unfold sv_IB; rw [h148]; rfl) | (rw [h143]; rfl)) ?_
                    refine lv_istore (i := 4) hx hb dM_intertwined_166 hl (by decide) rfl (fun ls hl => ?_)
                    refine x_iinc (i := 6) hx hb dM_intertwined_168 hl rfl (sv_inc j) (by decide) (fun ls hl => ?_)
                    refine lv_goto (tgt := 83) hx hb dM_intertwined_171 rfl ?_
                    exact ih u (j + 1) ls (by omega) hp (by omega) (by omega) hout (sv_re hl ⟨rfl, rfl, rfl, rfl, rfl, rfl, rfl, trivial⟩)
                  · skip
                    refine lv_iload (i := 5) hx hb dM_intertwined_151 (sv_at hl rfl) ?_
                    refine lv_iload (i := 6) hx hb dM_intertwined_153 (sv_at hl rfl) ?_
                    refine lv_iand hx hb dM_intertwined_155 ?_
                    refine lv_iload_n (i := 3) hx hb dM_intertwined_156 rfl (sv_at hl rfl) ?_
                    refine lv_iand hx hb dM_intertwined_157 ?_
                    refine lv_if_eq (tgt := 165) hx hb dM_intertwined_158 rfl (fun h158 => ?_) (fun h158 => ?_)
                    · skip
                      rw [sv_nand, sv_nand, ← nI_0, nI_eq (by have h1 : u &&& j ≤ u := Nat.and_le_left; have h2 : u &&& j &&& sv_wbN σ n ≤ u &&& j := Nat.and_le_left; omega) (by decide)] at h158
                      refine lv_iconst (v := 0) hx hb dM_intertwined_165 (by decide) ?_
                      refine x_tv (y := sv_b (sv_all (sv_I1 σ n qc a b) u && sv_all (sv_IB σ n qc a b u) (j + 1))) (by rw [sv_all_s, ← Bool.and_assoc]; first | (have ee := h158; rw [h143]; unfold sv_IB; rw [h148]; first | (rw [decide_eq_false (fun q => q h158)]; rfl) | (rw [decide_eq_true h158]; rfl)) | (have ee := h148; rw [h143]; unfold sv_IB; rw [h148]; rfl) | (rw [h143]; rfl)) ?_
                      refine lv_istore (i := 4) hx hb dM_intertwined_166 hl (by decide) rfl (fun ls hl => ?_)
                      refine x_iinc (i := 6) hx hb dM_intertwined_168 hl rfl (sv_inc j) (by decide) (fun ls hl => ?_)
                      refine lv_goto (tgt := 83) hx hb dM_intertwined_171 rfl ?_
                      exact ih u (j + 1) ls (by omega) hp (by omega) (by omega) hout (sv_re hl ⟨rfl, rfl, rfl, rfl, rfl, rfl, rfl, trivial⟩)
                    · skip
                      rw [sv_nand, sv_nand, ← nI_0, nI_eq (by have h1 : u &&& j ≤ u := Nat.and_le_left; have h2 : u &&& j &&& sv_wbN σ n ≤ u &&& j := Nat.and_le_left; omega) (by decide)] at h158
                      refine lv_iconst (v := 1) hx hb dM_intertwined_161 (by decide) ?_
                      refine lv_goto (tgt := 166) hx hb dM_intertwined_162 rfl ?_
                      refine x_tv (y := sv_b (sv_all (sv_I1 σ n qc a b) u && sv_all (sv_IB σ n qc a b u) (j + 1))) (by rw [sv_all_s, ← Bool.and_assoc]; first | (have ee := h158; rw [h143]; unfold sv_IB; rw [h148]; first | (rw [decide_eq_false (fun q => q h158)]; rfl) | (rw [decide_eq_true h158]; rfl)) | (have ee := h148; rw [h143]; unfold sv_IB; rw [h148]; rfl) | (rw [h143]; rfl)) ?_
                      refine lv_istore (i := 4) hx hb dM_intertwined_166 hl (by decide) rfl (fun ls hl => ?_)
                      refine x_iinc (i := 6) hx hb dM_intertwined_168 hl rfl (sv_inc j) (by decide) (fun ls hl => ?_)
                      refine lv_goto (tgt := 83) hx hb dM_intertwined_171 rfl ?_
                      exact ih u (j + 1) ls (by omega) hp (by omega) (by omega) hout (sv_re hl ⟨rfl, rfl, rfl, rfl, rfl, rfl, rfl, trivial⟩)
  have J69 : ∀ (kf : Nat) (u : Nat) (ls : Array Slot), 2 ^ n - u < kf → (1 ≤ u) → (u ≤ 2 ^ n) → lv_has ls 8 [(0, .ref (ad 0)), (1, .int (nI a)), (2, .int (nI b)), (3, .int (nI (sv_wbN σ n))), (4, .int (sv_b (sv_all (sv_I1 σ n qc a b) u))), (5, .int (nI u))] → W p l e R s m args below meth c H locs 0 0 Q (F0 m 69 ls []) := by
    intro kf
    induction kf with
    | zero => intro u ls hm; exact absurd hm (Nat.not_lt_zero _)
    | succ kf ih =>
      intro u ls hm hp1 hp hl
      refine lv_iload (i := 5) hx hb dM_intertwined_69 (sv_at hl rfl) ?_
      refine lv_iconst (v := 1) hx hb dM_intertwined_71 (by decide) ?_
      refine lv_aload_n (i := 0) hx hb dM_intertwined_72 rfl (sv_at hl rfl) ?_
      refine gM_nodes X hP dM_intertwined_73 ?_
      refine lv_ishl hx hb dM_intertwined_76 ?_
      refine x_tv (sv_pow n (by omega)) ?_
      refine lv_icmp_ge (tgt := 180) hx hb dM_intertwined_77 rfl (fun h77 => ?_) (fun h77 => ?_)
      · skip
        rw [nI_leI (by omega) (by omega)] at h77
        obtain rfl : u = 2 ^ n := by omega
        refine lv_iload (i := 4) hx hb dM_intertwined_180 (sv_at hl rfl) ?_
        exact ret _ _ dM_intertwined_182
      · skip
        rw [nI_leI (by omega) (by omega)] at h77
        have hp : u < 2 ^ n := by omega
        refine lv_iconst (v := 1) hx hb dM_intertwined_80 (by decide) ?_
        refine lv_istore (i := 6) hx hb dM_intertwined_81 hl (by decide) rfl (fun ls hl => ?_)
        refine J83 _ u 1 ls (Nat.lt_succ_self _) hp (by decide) Nat.one_le_two_pow (fun ls hl => ?_) (sv_re hl ⟨rfl, rfl, rfl, rfl, by rw [sv_IB_0, Bool.and_true]; rfl, rfl, rfl, trivial⟩)
        refine x_iinc (i := 5) hx hb dM_intertwined_174 hl rfl (sv_inc u) (by decide) (fun ls hl => ?_)
        refine lv_goto (tgt := 69) hx hb dM_intertwined_177 rfl ?_
        exact ih (u + 1) ls (by omega) (by omega) (by omega) (sv_re hl ⟨rfl, rfl, rfl, rfl, rfl, rfl, trivial⟩)
  have J27 : ∀ (kf : Nat) (i : Nat) (ls : Array Slot), n - i < kf → (i ≤ n) → lv_has ls 8 [(0, .ref (ad 0)), (1, .int (nI a)), (2, .int (nI b)), (3, .int (nI (sv_wbN σ i))), (4, .int (nI i))] → W p l e R s m args below meth c H locs 0 0 Q (F0 m 27 ls []) := by
    intro kf
    induction kf with
    | zero => intro i ls hm; exact absurd hm (Nat.not_lt_zero _)
    | succ kf ih =>
      intro i ls hm hi hl
      refine lv_iload (i := 4) hx hb dM_intertwined_27 (sv_at hl rfl) ?_
      refine lv_aload_n (i := 0) hx hb dM_intertwined_29 rfl (sv_at hl rfl) ?_
      refine gM_nodes X hP dM_intertwined_30 ?_
      refine lv_icmp_ge (tgt := 63) hx hb dM_intertwined_33 rfl (fun h33 => ?_) (fun h33 => ?_)
      · skip
        rw [nI_leI (by omega) (by omega)] at h33
        obtain rfl : i = n := by omega
        refine lv_iconst (v := 1) hx hb dM_intertwined_63 (by decide) ?_
        refine lv_istore (i := 4) hx hb dM_intertwined_64 hl (by decide) rfl (fun ls hl => ?_)
        refine lv_iconst (v := 1) hx hb dM_intertwined_66 (by decide) ?_
        refine lv_istore (i := 5) hx hb dM_intertwined_67 hl (by decide) rfl (fun ls hl => ?_)
        exact J69 _ 1 ls (Nat.lt_succ_self _) (by decide) Nat.one_le_two_pow (sv_re hl ⟨rfl, rfl, rfl, rfl, by rw [sv_I1_0]; rfl, rfl, trivial⟩)
      · skip
        rw [nI_leI (by omega) (by omega)] at h33
        refine lv_aload_n (i := 0) hx hb dM_intertwined_36 rfl (sv_at hl rfl) ?_
        refine gM_ill X hP dM_intertwined_37 ?_
        refine lv_iload (i := 4) hx hb dM_intertwined_40 (sv_at hl rfl) ?_
        refine gm_ill X hP (by omega) dM_intertwined_42 ?_
        refine lv_if_eq (tgt := 50) hx hb dM_intertwined_43 rfl (fun h43 => ?_) (fun h43 => ?_)
        · skip
          refine lv_iload_n (i := 3) hx hb dM_intertwined_50 rfl (sv_at hl rfl) ?_
          refine lv_iconst (v := 1) hx hb dM_intertwined_51 (by decide) ?_
          refine lv_iload (i := 4) hx hb dM_intertwined_52 (sv_at hl rfl) ?_
          refine lv_ishl hx hb dM_intertwined_54 ?_
          refine lv_ior hx hb dM_intertwined_55 ?_
          first | (have ee : σ 9 i = 0 := h43; refine x_tv (y := nI (sv_wbN σ (i + 1))) (by rw [sv_pow i (by omega), sv_nor, sv_wbN_t ee]) ?_) | refine x_tv (y := nI (sv_wbN σ (i + 1))) (by rw [sv_wbN_f h43]) ?_
          refine lv_istore_n (i := 3) hx hb dM_intertwined_56 rfl hl (by decide) rfl (fun ls hl => ?_)
          refine x_iinc (i := 4) hx hb dM_intertwined_57 hl rfl (sv_inc i) (by decide) (fun ls hl => ?_)
          refine lv_goto (tgt := 27) hx hb dM_intertwined_60 rfl ?_
          exact ih (i + 1) ls (by omega) (by omega) (sv_re hl ⟨rfl, rfl, rfl, rfl, rfl, trivial⟩)
        · skip
          refine lv_iload_n (i := 3) hx hb dM_intertwined_46 rfl (sv_at hl rfl) ?_
          refine lv_goto (tgt := 56) hx hb dM_intertwined_47 rfl ?_
          first | (have ee : σ 9 i = 0 := h43; refine x_tv (y := nI (sv_wbN σ (i + 1))) (by rw [sv_pow i (by omega), sv_nor, sv_wbN_t ee]) ?_) | refine x_tv (y := nI (sv_wbN σ (i + 1))) (by rw [sv_wbN_f h43]) ?_
          refine lv_istore_n (i := 3) hx hb dM_intertwined_56 rfl hl (by decide) rfl (fun ls hl => ?_)
          refine x_iinc (i := 4) hx hb dM_intertwined_57 hl rfl (sv_inc i) (by decide) (fun ls hl => ?_)
          refine lv_goto (tgt := 27) hx hb dM_intertwined_60 rfl ?_
          exact ih (i + 1) ls (by omega) (by omega) (sv_re hl ⟨rfl, rfl, rfl, rfl, rfl, trivial⟩)
  refine lv_iconst (v := 0) hx hb dM_intertwined_22 (by decide) ?_
  refine lv_istore_n (i := 3) hx hb dM_intertwined_23 rfl hl (by decide) rfl (fun ls hl => ?_)
  refine lv_iconst (v := 0) hx hb dM_intertwined_24 (by decide) ?_
  refine lv_istore (i := 4) hx hb dM_intertwined_25 hl (by decide) rfl (fun ls hl => ?_)
  exact J27 _ 0 ls (Nat.lt_succ_self _) (Nat.zero_le _) (sv_re hl ⟨rfl, rfl, rfl, rfl, rfl, trivial⟩)

set_option maxHeartbeats 4000000 in
set_option maxRecDepth 100000 in
theorem wM_intertwined (X : sv_X D cI cZ cN cQ "SliceVotingModel" cM_intertwined 8 4 p R s m args c) (hP : sv_mP D cI cZ n qc ad σ mt qm H) (hJ : sv_inj 17 ad) (hA : ∀ k, k < 17 → A (ad k)) (hS : va_S A H0 H locs) {v w : Int32} (hn : n ≤ 6) (hI : sv_IQ n qc σ) (hl : lv_has ls 8 [(0, .ref (ad 0)), (1, .int v), (2, .int w)]) (ret : ∀ (pc : Nat) (ls : Array Slot) (H : Heap) (locs : List Loc) (mt' qm' : Nat → Int32), decode cM_intertwined pc = .ok (.ireturn, 1) → va_S A H0 H locs → (True) → sv_mP D cI cZ n qc ad (σ) mt' qm' H → W p l e R s m args below meth c H locs 0 0 Q (F0 m pc ls [.int (sv_b (sv_wel n σ v && sv_wel n σ w && sv_itw σ n qc v.toNatClampNeg w.toNatClampNeg))])) : W p l e R s m args below meth c H locs 0 0 Q (F0 m 0 ls []) := by
  have hx := X.1
  have hb := X.2.1
  refine lv_aload_n (i := 0) hx hb dM_intertwined_0 rfl (sv_at hl rfl) ?_
  refine lv_iload_n (i := 1) hx hb dM_intertwined_1 rfl (sv_at hl rfl) ?_
  refine kM_well X (by decide) hP hn hl (Nat.zero_le _) (Nat.zero_le _) (Nat.le_of_ble_eq_true rfl) dM_intertwined_2 ?_
  refine x_ifeqB (tgt := 16) hx hb dM_intertwined_5 rfl (fun h5 => ?_) (fun h5 => ?_)
  · skip
    refine lv_iconst (v := 0) hx hb dM_intertwined_16 (by decide) ?_
    first | (have ee := h13; exact x_tv (by rw [h13, Bool.and_false]; rfl) (ret _ _ _ _ _ _ dM_intertwined_17 hS trivial hP)) | exact x_tv (by rw [h5]; rfl) (ret _ _ _ _ _ _ dM_intertwined_17 hS trivial hP)
  · skip
    refine lv_aload_n (i := 0) hx hb dM_intertwined_8 rfl (sv_at hl rfl) ?_
    refine lv_iload_n (i := 2) hx hb dM_intertwined_9 rfl (sv_at hl rfl) ?_
    refine kM_well X (by decide) hP hn hl (Nat.zero_le _) (Nat.zero_le _) (Nat.le_of_ble_eq_true rfl) dM_intertwined_10 ?_
    refine x_ifneB (tgt := 18) hx hb dM_intertwined_13 rfl (fun h13 => ?_) (fun h13 => ?_)
    · skip
      obtain ⟨a, ha, rfl, ha9⟩ := sv_wel_t (by omega) h5
      obtain ⟨b, hb9, rfl, hb0⟩ := sv_wel_t (by omega) h13
      rw [h5, h13, nI_clamp (by omega), nI_clamp (by omega), Bool.and_self, Bool.true_and] at ret
      refine lv_aload_n (i := 0) hx hb dM_intertwined_18 rfl (sv_at hl rfl) ?_
      refine kM_tryAll X (by decide) hP hJ hA hS hn hI hl (Nat.zero_le _) (Nat.zero_le _) (Nat.le_of_ble_eq_true rfl) dM_intertwined_19 (fun H locs mt qm hX hP hS => ?_)
      exact wM_intertwined_J X hP hn ha hb9 hX (sv_re hl ⟨rfl, rfl, rfl, trivial⟩) (fun pc ls hd => ret pc ls H locs mt qm hd hS trivial hP)
    · skip
      refine lv_iconst (v := 0) hx hb dM_intertwined_16 (by decide) ?_
      first | (have ee := h13; exact x_tv (by rw [h13, Bool.and_false]; rfl) (ret _ _ _ _ _ _ dM_intertwined_17 hS trivial hP)) | exact x_tv (by rw [h5]; rfl) (ret _ _ _ _ _ _ dM_intertwined_17 hS trivial hP)

theorem cM_m_intertwined (hJ : sv_inj 17 ad) (hA : ∀ k, k < 17 → A (ad k)) {v w : Int32} (hn : n ≤ 6) (hI : sv_IQ n qc σ) : Met l yM_intertwined (sv_ws yM_intertwined cM_intertwined 8 (some .boolean)) (sv_rm 4) (sv_Pc D cI cZ cN cQ [.ref (ad 0), .int v, .int w] (fun H => sv_mP D cI cZ n qc ad σ mt qm H)) (va_Qi (fun (r : Int32) (u : Sg × (Nat → Int32) × (Nat → Int32)) => r = sv_b (sv_wel n σ v && sv_wel n σ w && sv_itw σ n qc v.toNatClampNeg w.toNatClampNeg) ∧ u.1 = σ ∧ (True)) (fun u t => sv_mP D cI cZ n qc ad u.1 u.2.1 u.2.2 t.heap) A) 0 0 A :=
  sv_mkI (S := Sg × (Nat → Int32) × (Nat → Int32)) (B := fun u H => sv_mP D cI cZ n qc ad u.1 u.2.1 u.2.2 H) (by decide) (by show 3 ≤ 8; decide) (fun _ _ h => by rw [h.1]; exact sv_narb _) (fun p e s m below meth c ls Q X hP hl ret => wM_intertwined X hP hJ hA va_S.rf hn hI hl (fun pc ls H locs mt' qm' hd hS hX hP => ret pc ls _ (_, mt', qm') H locs hd hS ⟨rfl, rfl, hX⟩ hP))
set_option maxRecDepth 100000 in
theorem okL_M_intertwined : sv_okV "SliceVotingLaw" 94 yM_intertwined cM_intertwined 8 (some .boolean) 2 := ⟨sv_tb_t 415 rfl rfl, sv_tb_t 412 rfl rfl, sv_tb_t 413 rfl rfl, sv_tb_t 414 rfl rfl, sv_tb_t 4 rfl rfl, ⟨by decide, by decide, by decide +kernel⟩, by decide⟩
theorem kL_m_intertwined (X : sv_X D cI cZ cN cQ "SliceVotingLaw" cc nL k p R s m args c) (hk : 4 + 1 ≤ k) (hP : sv_mP D cI cZ n qc ad σ mt qm H) (hJ : sv_inj 17 ad) (hA : ∀ k, k < 17 → A (ad k)) (hS : va_S A H0 H locs) {v w : Int32} (hn : n ≤ 6) (hI : sv_IQ n qc σ) (hl : lv_has ls nL lv) (hc : cells ≤ R.cells) (hs : slots ≤ R.slots) (hcat : (rest.map fun v => v.category).sum ≤ 8) (hd : decode cc pc = .ok (.invokevirtual 94, 3)) (kk : ∀ (H1 : Heap) (locs1 : List Loc) (mt' qm' : Nat → Int32), (True) → sv_mP D cI cZ n qc ad (σ) mt' qm' H1 → va_S A H0 H1 locs1 → W p l e R s m args below meth c H1 locs1 cells slots Q (F0 m (pc + 3) ls (.int (sv_b (sv_wel n σ v && sv_wel n σ w && sv_itw σ n qc v.toNatClampNeg w.toNatClampNeg)) :: rest))) : W p l e R s m args below meth c H locs cells slots Q (F0 m pc ls (.int w :: .int v :: .ref (ad 0) :: rest)) :=
  sv_wVi (S := Sg × (Nat → Int32) × (Nat → Int32)) (G := fun H => sv_mP D cI cZ n qc ad σ mt qm H) (B := fun u H => sv_mP D cI cZ n qc ad u.1 u.2.1 u.2.2 H) X okL_M_intertwined (cM_m_intertwined hJ hA hn hI) hP (y_rec X.K hP (by decide) sv_me_0 rfl) hS hk rfl hl.1 rfl hcat hc hs hd (fun r u H1 locs1 hp hB hS => by obtain ⟨τ, a, b⟩ := u; obtain ⟨rfl, h1, h2⟩ := hp; dsimp only at h1 h2 hB; subst h1; exact kk H1 locs1 a b h2 hB hS)
set_option maxHeartbeats 4000000 in
set_option maxRecDepth 100000 in
theorem wM_vote (X : sv_X D cI cZ cN cQ "SliceVotingModel" cM_vote 3 3 p R s m args c) (hP : sv_mP D cI cZ n qc ad σ mt qm H) (hJ : sv_inj 17 ad) (hA : ∀ k, k < 17 → A (ad k)) (hS : va_S A H0 H locs) {v t : Nat} (hv : v < 6) (ht : t < 24) (hl : lv_has ls 3 [(0, .ref (ad 0)), (1, .int (nI v)), (2, .int (nI t))]) (ret : ∀ (pc : Nat) (ls : Array Slot) (H : Heap) (locs : List Loc) (mt' qm' : Nat → Int32), decode cM_vote pc = .ok (.ireturn, 1) → va_S A H0 H locs → (mt' = mt ∧ qm' = qm) → sv_mP D cI cZ n qc ad (sv_vote σ v t) mt' qm' H → W p l e R s m args below meth c H locs 0 0 Q (F0 m pc ls [.int (sv_b (!(bt (σ 10 v) t || sv_aga (σ 10 v ||| σ 11 v) t)))])) : W p l e R s m args below meth c H locs 0 0 Q (F0 m 0 ls []) := by
  have hx := X.1
  have hb := X.2.1
  refine lv_aload_n (i := 0) hx hb dM_vote_0 rfl (sv_at hl rfl) ?_
  refine gM_votes X hP dM_vote_1 ?_
  refine lv_iload_n (i := 1) hx hb dM_vote_4 rfl (sv_at hl rfl) ?_
  refine gm_votes X hP (by omega) dM_vote_5 ?_
  refine lv_iload_n (i := 2) hx hb dM_vote_6 rfl (sv_at hl rfl) ?_
  refine lv_ishr hx hb dM_vote_7 ?_
  refine lv_iconst (v := 1) hx hb dM_vote_8 (by decide) ?_
  refine lv_iand hx hb dM_vote_9 ?_
  refine x_tv (sv_shr1 _ (by omega)) ?_
  refine lv_iconst (v := 1) hx hb dM_vote_10 (by decide) ?_
  refine lv_icmp_eq (tgt := 35) hx hb dM_vote_11 rfl (fun h11 => ?_) (fun h11 => ?_)
  · skip
    rw [sv_b1] at h11
    refine lv_iconst (v := 0) hx hb dM_vote_35 (by decide) ?_
    first | (have ee := h32; exact x_tv (by rw [h11, h32]; rfl) (ret _ _ _ _ _ _ dM_vote_36 hS ⟨rfl, rfl⟩ (by unfold sv_vote; rw [h11, h32]; exact hP))) | exact x_tv (by rw [h11]; rfl) (ret _ _ _ _ _ _ dM_vote_36 hS ⟨rfl, rfl⟩ (by unfold sv_vote; rw [h11]; exact hP))
  · skip
    rw [sv_bn1] at h11
    refine lv_aload_n (i := 0) hx hb dM_vote_14 rfl (sv_at hl rfl) ?_
    refine lv_aload_n (i := 0) hx hb dM_vote_15 rfl (sv_at hl rfl) ?_
    refine gM_votes X hP dM_vote_16 ?_
    refine lv_iload_n (i := 1) hx hb dM_vote_19 rfl (sv_at hl rfl) ?_
    refine gm_votes X hP (by omega) dM_vote_20 ?_
    refine lv_aload_n (i := 0) hx hb dM_vote_21 rfl (sv_at hl rfl) ?_
    refine gM_accepts X hP dM_vote_22 ?_
    refine lv_iload_n (i := 1) hx hb dM_vote_25 rfl (sv_at hl rfl) ?_
    refine gm_accepts X hP (by omega) dM_vote_26 ?_
    refine lv_ior hx hb dM_vote_27 ?_
    refine lv_iload_n (i := 2) hx hb dM_vote_28 rfl (sv_at hl rfl) ?_
    refine kM_against X (by decide) hP (by omega) hl (Nat.zero_le _) (Nat.zero_le _) (Nat.le_of_ble_eq_true rfl) dM_vote_29 ?_
    refine x_ifeqB (tgt := 37) hx hb dM_vote_32 rfl (fun h32 => ?_) (fun h32 => ?_)
    · skip
      refine lv_aload_n (i := 0) hx hb dM_vote_37 rfl (sv_at hl rfl) ?_
      refine gM_votes X hP dM_vote_38 ?_
      refine lv_iload_n (i := 1) hx hb dM_vote_41 rfl (sv_at hl rfl) ?_
      refine lv_aload_n (i := 0) hx hb dM_vote_42 rfl (sv_at hl rfl) ?_
      refine gM_votes X hP dM_vote_43 ?_
      refine lv_iload_n (i := 1) hx hb dM_vote_46 rfl (sv_at hl rfl) ?_
      refine gm_votes X hP (by omega) dM_vote_47 ?_
      refine lv_iconst (v := 1) hx hb dM_vote_48 (by decide) ?_
      refine lv_iload_n (i := 2) hx hb dM_vote_49 rfl (sv_at hl rfl) ?_
      refine lv_ishl hx hb dM_vote_50 ?_
      refine lv_ior hx hb dM_vote_51 ?_
      refine pm_votes X hP hJ hA hS (by omega) dM_vote_52 (fun H locs hP hS => ?_)
      refine lv_iconst (v := 1) hx hb dM_vote_53 (by decide) ?_
      first | (have ee := h32; exact x_tv (by rw [h11, h32]; rfl) (ret _ _ _ _ _ _ dM_vote_54 hS ⟨rfl, rfl⟩ (by unfold sv_vote; rw [h11, h32]; exact hP))) | exact x_tv (by rw [h11]; rfl) (ret _ _ _ _ _ _ dM_vote_54 hS ⟨rfl, rfl⟩ (by unfold sv_vote; rw [h11]; exact hP))
    · skip
      refine lv_iconst (v := 0) hx hb dM_vote_35 (by decide) ?_
      first | (have ee := h32; exact x_tv (by rw [h11, h32]; rfl) (ret _ _ _ _ _ _ dM_vote_36 hS ⟨rfl, rfl⟩ (by unfold sv_vote; rw [h11, h32]; exact hP))) | exact x_tv (by rw [h11]; rfl) (ret _ _ _ _ _ _ dM_vote_36 hS ⟨rfl, rfl⟩ (by unfold sv_vote; rw [h11]; exact hP))

theorem cM_m_vote (hJ : sv_inj 17 ad) (hA : ∀ k, k < 17 → A (ad k)) {v t : Nat} (hv : v < 6) (ht : t < 24) : Met l yM_vote (sv_ws yM_vote cM_vote 3 (some .boolean)) (sv_rm 3) (sv_Pc D cI cZ cN cQ [.ref (ad 0), .int (nI v), .int (nI t)] (fun H => sv_mP D cI cZ n qc ad σ mt qm H)) (va_Qi (fun (r : Int32) (u : Sg × (Nat → Int32) × (Nat → Int32)) => r = sv_b (!(bt (σ 10 v) t || sv_aga (σ 10 v ||| σ 11 v) t)) ∧ u.1 = sv_vote σ v t ∧ (u.2.1 = mt ∧ u.2.2 = qm)) (fun u t => sv_mP D cI cZ n qc ad u.1 u.2.1 u.2.2 t.heap) A) 0 0 A :=
  sv_mkI (S := Sg × (Nat → Int32) × (Nat → Int32)) (B := fun u H => sv_mP D cI cZ n qc ad u.1 u.2.1 u.2.2 H) (by decide) (by show 3 ≤ 3; decide) (fun _ _ h => by rw [h.1]; exact sv_narb _) (fun p e s m below meth c ls Q X hP hl ret => wM_vote X hP hJ hA va_S.rf hv ht hl (fun pc ls H locs mt' qm' hd hS hX hP => ret pc ls _ (_, mt', qm') H locs hd hS ⟨rfl, rfl, hX⟩ hP))
set_option maxRecDepth 100000 in
theorem okM_M_vote : sv_okV "SliceVotingModel" 118 yM_vote cM_vote 3 (some .boolean) 2 := ⟨sv_tb_t 439 rfl rfl, sv_tb_t 436 rfl rfl, sv_tb_t 438 rfl rfl, sv_tb_s 25 rfl rfl, sv_tb_t 4 rfl rfl, ⟨by decide, by decide, by decide +kernel⟩, by decide⟩
theorem kM_vote (X : sv_X D cI cZ cN cQ "SliceVotingModel" cc nL k p R s m args c) (hk : 3 + 1 ≤ k) (hP : sv_mP D cI cZ n qc ad σ mt qm H) (hJ : sv_inj 17 ad) (hA : ∀ k, k < 17 → A (ad k)) (hS : va_S A H0 H locs) {v t : Nat} (hv : v < 6) (ht : t < 24) (hl : lv_has ls nL lv) (hc : cells ≤ R.cells) (hs : slots ≤ R.slots) (hcat : (rest.map fun v => v.category).sum ≤ 8) (hd : decode cc pc = .ok (.invokevirtual 118, 3)) (kk : ∀ (H1 : Heap) (locs1 : List Loc) (mt' qm' : Nat → Int32), (mt' = mt ∧ qm' = qm) → sv_mP D cI cZ n qc ad (sv_vote σ v t) mt' qm' H1 → va_S A H0 H1 locs1 → W p l e R s m args below meth c H1 locs1 cells slots Q (F0 m (pc + 3) ls (.int (sv_b (!(bt (σ 10 v) t || sv_aga (σ 10 v ||| σ 11 v) t))) :: rest))) : W p l e R s m args below meth c H locs cells slots Q (F0 m pc ls (.int (nI t) :: .int (nI v) :: .ref (ad 0) :: rest)) :=
  sv_wVi (S := Sg × (Nat → Int32) × (Nat → Int32)) (G := fun H => sv_mP D cI cZ n qc ad σ mt qm H) (B := fun u H => sv_mP D cI cZ n qc ad u.1 u.2.1 u.2.2 H) X okM_M_vote (cM_m_vote hJ hA hv ht) hP (y_rec X.K hP (by decide) sv_me_0 rfl) hS hk rfl hl.1 rfl hcat hc hs hd (fun r u H1 locs1 hp hB hS => by obtain ⟨τ, a, b⟩ := u; obtain ⟨rfl, h1, h2⟩ := hp; dsimp only at h1 h2 hB; subst h1; exact kk H1 locs1 a b h2 hB hS)
theorem sv_BA_v {σ : Sg} {n v t : Nat} (hv : v < n) (h : bt (σ 11 v) t = false) : (sv_BA σ n v t).testBit v = false := by
  unfold sv_BA
  rw [sv_said_bit, sv_ka_self, h, Bool.and_false]
theorem sv_BA_m {σ : Sg} {n v t : Nat} (hn : n ≤ 6) (hv : v < n) (h : bt (σ 11 v) t = false) : nI (sv_BA σ n v t) &&& ((1 : Int32) <<< (nI v &&& 31) ^^^ -1) = nI (sv_BA σ n v t) := by
  rw [sv_pow v (by omega)]
  refine sv_andn _ fun i _ => ?_
  rw [Nat.testBit_two_pow]
  by_cases e : v = i
  · subst e
    rw [sv_BA_v hv h]
    rfl
  · rw [decide_eq_false e, Bool.not_false, Bool.and_true]
theorem sv_mA_t {σ : Sg} {n qc v t : Nat} (h1 : bt (σ 11 v) t = false) (h2 : sv_aga (σ 11 v) t = false) : sv_mA σ n qc v t = ((sv_un σ n qc (sv_BV σ n v t)).testBit v || sv_blk σ n qc (sv_BA σ n v t) v) := by
  unfold sv_mA
  rw [h1, h2]
  rfl
theorem sv_mA_1 {σ : Sg} {n qc v t : Nat} (h1 : bt (σ 11 v) t = true) : sv_mA σ n qc v t = false := by unfold sv_mA; rw [h1]; rfl
theorem sv_mA_2 {σ : Sg} {n qc v t : Nat} (h1 : sv_aga (σ 11 v) t = true) : sv_mA σ n qc v t = false := by unfold sv_mA; rw [h1, Bool.not_true, Bool.and_false]; rfl
set_option maxHeartbeats 4000000 in
set_option maxRecDepth 100000 in
theorem wM_stepAccept (X : sv_X D cI cZ cN cQ "SliceVotingModel" cM_stepAccept 4 4 p R s m args c) (hP : sv_mP D cI cZ n qc ad σ mt qm H) (hJ : sv_inj 17 ad) (hA : ∀ k, k < 17 → A (ad k)) (hS : va_S A H0 H locs) {v : Nat} (hn : n ≤ 6) (hI : sv_IQ n qc σ) (hv : v < n) (hqm : ∀ q, q < 2 ^ n → qm q = sv_b (sv_quo σ n qc q)) (hl : lv_has ls 4 [(0, .ref (ad 0)), (1, .int (nI v))]) (ret : ∀ (pc : Nat) (ls : Array Slot) (H : Heap) (locs : List Loc) (mt' qm' : Nat → Int32), decode cM_stepAccept pc = .ok (.ireturn, 1) → va_S A H0 H locs → (qm' = qm) → sv_mP D cI cZ n qc ad ((sv_aO σ n qc v).getD σ) mt' qm' H → W p l e R s m args below meth c H locs 0 0 Q (F0 m pc ls [.int (sv_b (sv_aO σ n qc v).isSome)])) : W p l e R s m args below meth c H locs 0 0 Q (F0 m 0 ls []) := by
  have hx := X.1
  have hb := X.2.1
  have J2 : ∀ (kf : Nat) (i : Nat) (mt : Nat → Int32) (H : Heap) (locs : List Loc) (ls : Array Slot), 24 - i < kf → (i ≤ 24) → (∀ t, t < i → sv_mA σ n qc v t = false) → (sv_mP D cI cZ n qc ad σ mt qm H) → (va_S A H0 H locs) → lv_has ls 4 [(0, .ref (ad 0)), (1, .int (nI v)), (2, .int (nI i))] → W p l e R s m args below meth c H locs 0 0 Q (F0 m 2 ls []) := by
    intro kf
    induction kf with
    | zero => intro i mt H locs ls hm; exact absurd hm (Nat.not_lt_zero _)
    | succ kf ih =>
      intro i mt H locs ls hm hi hno hP hS hl
      refine lv_iload_n (i := 2) hx hb dM_stepAccept_2 rfl (sv_at hl rfl) ?_
      refine lv_bipush (v := nI 24) hx hb dM_stepAccept_3 (by decide) ?_
      refine lv_icmp_ge (tgt := 97) hx hb dM_stepAccept_5 rfl (fun h5 => ?_) (fun h5 => ?_)
      · skip
        rw [nI_leI (by omega) (by omega)] at h5
        refine lv_iconst (v := 0) hx hb dM_stepAccept_97 (by decide) ?_
        exact x_tv (by unfold sv_aO; rw [sv_least_no 24 (fun j hj => hno j (by omega))]; rfl) (ret _ _ _ _ _ _ dM_stepAccept_98 hS rfl (by unfold sv_aO; rw [sv_least_no 24 (fun j hj => hno j (by omega))]; exact hP))
      · skip
        rw [nI_leI (by omega) (by omega)] at h5
        refine lv_aload_n (i := 0) hx hb dM_stepAccept_8 rfl (sv_at hl rfl) ?_
        refine gM_accepts X hP dM_stepAccept_9 ?_
        refine lv_iload_n (i := 1) hx hb dM_stepAccept_12 rfl (sv_at hl rfl) ?_
        refine gm_accepts X hP (by omega) dM_stepAccept_13 ?_
        refine lv_iload_n (i := 2) hx hb dM_stepAccept_14 rfl (sv_at hl rfl) ?_
        refine lv_ishr hx hb dM_stepAccept_15 ?_
        refine lv_iconst (v := 1) hx hb dM_stepAccept_16 (by decide) ?_
        refine lv_iand hx hb dM_stepAccept_17 ?_
        refine x_tv (sv_shr1 _ (by omega)) ?_
        refine x_ifneB (tgt := 91) hx hb dM_stepAccept_18 rfl (fun h18 => ?_) (fun h18 => ?_)
        · skip
          refine x_iinc (i := 2) hx hb dM_stepAccept_91 hl rfl (sv_inc i) (by decide) (fun ls hl => ?_)
          refine lv_goto (tgt := 2) hx hb dM_stepAccept_94 rfl ?_
          exact ih (i + 1) _ H locs ls (by omega) (by omega) (lt_s hno (by first | (have ee := h70; rw [sv_mA_t h18 h32, h61, h70]; rfl) | (have ee := h32; exact sv_mA_2 h32) | exact sv_mA_1 h18)) hP hS (sv_re hl ⟨rfl, rfl, rfl, trivial⟩)
        · skip
          refine lv_aload_n (i := 0) hx hb dM_stepAccept_21 rfl (sv_at hl rfl) ?_
          refine lv_aload_n (i := 0) hx hb dM_stepAccept_22 rfl (sv_at hl rfl) ?_
          refine gM_accepts X hP dM_stepAccept_23 ?_
          refine lv_iload_n (i := 1) hx hb dM_stepAccept_26 rfl (sv_at hl rfl) ?_
          refine gm_accepts X hP (by omega) dM_stepAccept_27 ?_
          refine lv_iload_n (i := 2) hx hb dM_stepAccept_28 rfl (sv_at hl rfl) ?_
          refine kM_against X (by decide) hP (by omega) hl (Nat.zero_le _) (Nat.zero_le _) (Nat.le_of_ble_eq_true rfl) dM_stepAccept_29 ?_
          refine x_ifneB (tgt := 91) hx hb dM_stepAccept_32 rfl (fun h32 => ?_) (fun h32 => ?_)
          · skip
            refine x_iinc (i := 2) hx hb dM_stepAccept_91 hl rfl (sv_inc i) (by decide) (fun ls hl => ?_)
            refine lv_goto (tgt := 2) hx hb dM_stepAccept_94 rfl ?_
            exact ih (i + 1) _ H locs ls (by omega) (by omega) (lt_s hno (by first | (have ee := h70; rw [sv_mA_t h18 h32, h61, h70]; rfl) | (have ee := h32; exact sv_mA_2 h32) | exact sv_mA_1 h18)) hP hS (sv_re hl ⟨rfl, rfl, rfl, trivial⟩)
          · skip
            refine lv_aload_n (i := 0) hx hb dM_stepAccept_35 rfl (sv_at hl rfl) ?_
            refine lv_iload_n (i := 1) hx hb dM_stepAccept_36 rfl (sv_at hl rfl) ?_
            refine lv_iload_n (i := 2) hx hb dM_stepAccept_37 rfl (sv_at hl rfl) ?_
            refine lv_iconst (v := 0) hx hb dM_stepAccept_38 (by decide) ?_
            refine x_tv (y := sv_b false) rfl ?_
            refine kM_backers X (by decide) hP hn (by omega) (by omega) hl (Nat.zero_le _) (Nat.zero_le _) (Nat.le_of_ble_eq_true rfl) dM_stepAccept_39 ?_
            refine lv_iconst (v := 1) hx hb dM_stepAccept_42 (by decide) ?_
            refine lv_iload_n (i := 1) hx hb dM_stepAccept_43 rfl (sv_at hl rfl) ?_
            refine lv_ishl hx hb dM_stepAccept_44 ?_
            refine lv_iconst (v := -1) hx hb dM_stepAccept_45 (by decide) ?_
            refine lv_ixor hx hb dM_stepAccept_46 ?_
            refine lv_iand hx hb dM_stepAccept_47 ?_
            refine x_tv (sv_BA_m hn hv h18) ?_
            refine lv_istore_n (i := 3) hx hb dM_stepAccept_48 rfl hl (by decide) rfl (fun ls hl => ?_)
            refine lv_aload_n (i := 0) hx hb dM_stepAccept_49 rfl (sv_at hl rfl) ?_
            refine lv_aload_n (i := 0) hx hb dM_stepAccept_50 rfl (sv_at hl rfl) ?_
            refine lv_iload_n (i := 1) hx hb dM_stepAccept_51 rfl (sv_at hl rfl) ?_
            refine lv_iload_n (i := 2) hx hb dM_stepAccept_52 rfl (sv_at hl rfl) ?_
            refine lv_iconst (v := 1) hx hb dM_stepAccept_53 (by decide) ?_
            refine x_tv (y := sv_b true) rfl ?_
            refine kM_backers X (by decide) hP hn (by omega) (by omega) hl (Nat.zero_le _) (Nat.zero_le _) (Nat.le_of_ble_eq_true rfl) dM_stepAccept_54 ?_
            refine lv_iload_n (i := 1) hx hb dM_stepAccept_57 rfl (sv_at hl rfl) ?_
            refine kM_quorumWithin X (by decide) hP (S := sv_BV σ n v i) hn hv hqm hl (Nat.zero_le _) (Nat.zero_le _) (Nat.le_of_ble_eq_true rfl) dM_stepAccept_58 ?_
            refine x_ifneB (tgt := 73) hx hb dM_stepAccept_61 rfl (fun h61 => ?_) (fun h61 => ?_)
            · skip
              refine lv_aload_n (i := 0) hx hb dM_stepAccept_73 rfl (sv_at hl rfl) ?_
              refine gM_accepts X hP dM_stepAccept_74 ?_
              refine lv_iload_n (i := 1) hx hb dM_stepAccept_77 rfl (sv_at hl rfl) ?_
              refine lv_aload_n (i := 0) hx hb dM_stepAccept_78 rfl (sv_at hl rfl) ?_
              refine gM_accepts X hP dM_stepAccept_79 ?_
              refine lv_iload_n (i := 1) hx hb dM_stepAccept_82 rfl (sv_at hl rfl) ?_
              refine gm_accepts X hP (by omega) dM_stepAccept_83 ?_
              refine lv_iconst (v := 1) hx hb dM_stepAccept_84 (by decide) ?_
              refine lv_iload_n (i := 2) hx hb dM_stepAccept_85 rfl (sv_at hl rfl) ?_
              refine lv_ishl hx hb dM_stepAccept_86 ?_
              refine lv_ior hx hb dM_stepAccept_87 ?_
              refine x_tv (y := σ 11 v ||| sv_bit i) rfl ?_
              refine pm_accepts X hP hJ hA hS (by omega) dM_stepAccept_88 (fun H locs hP hS => ?_)
              refine lv_iconst (v := 1) hx hb dM_stepAccept_89 (by decide) ?_
              have hm1 : sv_mA σ n qc v i = true := by rw [sv_mA_t h18 h32]; first | (have ee := h70; rw [h70, Bool.or_true]) | (rw [h61]; rfl)
              exact x_tv (by unfold sv_aO; rw [sv_least_is 24 (show i < 24 by omega) hm1 hno]; rfl) (ret _ _ _ _ _ _ dM_stepAccept_90 hS rfl (by unfold sv_aO; rw [sv_least_is 24 (show i < 24 by omega) hm1 hno]; exact hP))
            · skip
              refine lv_aload_n (i := 0) hx hb dM_stepAccept_64 rfl (sv_at hl rfl) ?_
              refine lv_iload_n (i := 3) hx hb dM_stepAccept_65 rfl (sv_at hl rfl) ?_
              refine lv_iload_n (i := 1) hx hb dM_stepAccept_66 rfl (sv_at hl rfl) ?_
              refine kM_stops X (by decide) hP hJ hA hS (S := sv_BA σ n v i) hn hI (sv_said_lt n) hl (Nat.zero_le _) (Nat.zero_le _) (Nat.le_of_ble_eq_true rfl) dM_stepAccept_67 (fun H locs mt qm hX hP hS => ?_)
              rw [hX] at hP
              refine x_ifeqB (tgt := 91) hx hb dM_stepAccept_70 rfl (fun h70 => ?_) (fun h70 => ?_)
              · skip
                refine x_iinc (i := 2) hx hb dM_stepAccept_91 hl rfl (sv_inc i) (by decide) (fun ls hl => ?_)
                refine lv_goto (tgt := 2) hx hb dM_stepAccept_94 rfl ?_
                exact ih (i + 1) _ H locs ls (by omega) (by omega) (lt_s hno (by first | (have ee := h70; rw [sv_mA_t h18 h32, h61, h70]; rfl) | (have ee := h32; exact sv_mA_2 h32) | exact sv_mA_1 h18)) hP hS (sv_re hl ⟨rfl, rfl, rfl, trivial⟩)
              · skip
                refine lv_aload_n (i := 0) hx hb dM_stepAccept_73 rfl (sv_at hl rfl) ?_
                refine gM_accepts X hP dM_stepAccept_74 ?_
                refine lv_iload_n (i := 1) hx hb dM_stepAccept_77 rfl (sv_at hl rfl) ?_
                refine lv_aload_n (i := 0) hx hb dM_stepAccept_78 rfl (sv_at hl rfl) ?_
                refine gM_accepts X hP dM_stepAccept_79 ?_
                refine lv_iload_n (i := 1) hx hb dM_stepAccept_82 rfl (sv_at hl rfl) ?_
                refine gm_accepts X hP (by omega) dM_stepAccept_83 ?_
                refine lv_iconst (v := 1) hx hb dM_stepAccept_84 (by decide) ?_
                refine lv_iload_n (i := 2) hx hb dM_stepAccept_85 rfl (sv_at hl rfl) ?_
                refine lv_ishl hx hb dM_stepAccept_86 ?_
                refine lv_ior hx hb dM_stepAccept_87 ?_
                refine x_tv (y := σ 11 v ||| sv_bit i) rfl ?_
                refine pm_accepts X hP hJ hA hS (by omega) dM_stepAccept_88 (fun H locs hP hS => ?_)
                refine lv_iconst (v := 1) hx hb dM_stepAccept_89 (by decide) ?_
                have hm1 : sv_mA σ n qc v i = true := by rw [sv_mA_t h18 h32]; first | (have ee := h70; rw [h70, Bool.or_true]) | (rw [h61]; rfl)
                exact x_tv (by unfold sv_aO; rw [sv_least_is 24 (show i < 24 by omega) hm1 hno]; rfl) (ret _ _ _ _ _ _ dM_stepAccept_90 hS rfl (by unfold sv_aO; rw [sv_least_is 24 (show i < 24 by omega) hm1 hno]; exact hP))
  refine lv_iconst (v := 0) hx hb dM_stepAccept_0 (by decide) ?_
  refine lv_istore_n (i := 2) hx hb dM_stepAccept_1 rfl hl (by decide) rfl (fun ls hl => ?_)
  exact J2 _ 0 mt H locs ls (Nat.lt_succ_self _) (Nat.zero_le _) lt_0 hP hS (sv_re hl ⟨rfl, rfl, rfl, trivial⟩)

theorem cM_m_stepAccept (hJ : sv_inj 17 ad) (hA : ∀ k, k < 17 → A (ad k)) {v : Nat} (hn : n ≤ 6) (hI : sv_IQ n qc σ) (hv : v < n) (hqm : ∀ q, q < 2 ^ n → qm q = sv_b (sv_quo σ n qc q)) : Met l yM_stepAccept (sv_ws yM_stepAccept cM_stepAccept 4 (some .boolean)) (sv_rm 4) (sv_Pc D cI cZ cN cQ [.ref (ad 0), .int (nI v)] (fun H => sv_mP D cI cZ n qc ad σ mt qm H)) (va_Qi (fun (r : Int32) (u : Sg × (Nat → Int32) × (Nat → Int32)) => r = sv_b (sv_aO σ n qc v).isSome ∧ u.1 = (sv_aO σ n qc v).getD σ ∧ (u.2.2 = qm)) (fun u t => sv_mP D cI cZ n qc ad u.1 u.2.1 u.2.2 t.heap) A) 0 0 A :=
  sv_mkI (S := Sg × (Nat → Int32) × (Nat → Int32)) (B := fun u H => sv_mP D cI cZ n qc ad u.1 u.2.1 u.2.2 H) (by decide) (by show 2 ≤ 4; decide) (fun _ _ h => by rw [h.1]; exact sv_narb _) (fun p e s m below meth c ls Q X hP hl ret => wM_stepAccept X hP hJ hA va_S.rf hn hI hv hqm hl (fun pc ls H locs mt' qm' hd hS hX hP => ret pc ls _ (_, mt', qm') H locs hd hS ⟨rfl, rfl, hX⟩ hP))
set_option maxRecDepth 100000 in
theorem okM_M_stepAccept : sv_okV "SliceVotingModel" 121 yM_stepAccept cM_stepAccept 4 (some .boolean) 1 := ⟨sv_tb_t 455 rfl rfl, sv_tb_t 452 rfl rfl, sv_tb_t 454 rfl rfl, sv_tb_s 29 rfl rfl, sv_tb_t 4 rfl rfl, ⟨by decide, by decide, by decide +kernel⟩, by decide⟩
theorem kM_stepAccept (X : sv_X D cI cZ cN cQ "SliceVotingModel" cc nL k p R s m args c) (hk : 4 + 1 ≤ k) (hP : sv_mP D cI cZ n qc ad σ mt qm H) (hJ : sv_inj 17 ad) (hA : ∀ k, k < 17 → A (ad k)) (hS : va_S A H0 H locs) {v : Nat} (hn : n ≤ 6) (hI : sv_IQ n qc σ) (hv : v < n) (hqm : ∀ q, q < 2 ^ n → qm q = sv_b (sv_quo σ n qc q)) (hl : lv_has ls nL lv) (hc : cells ≤ R.cells) (hs : slots ≤ R.slots) (hcat : (rest.map fun v => v.category).sum ≤ 8) (hd : decode cc pc = .ok (.invokevirtual 121, 3)) (kk : ∀ (H1 : Heap) (locs1 : List Loc) (mt' qm' : Nat → Int32), (qm' = qm) → sv_mP D cI cZ n qc ad ((sv_aO σ n qc v).getD σ) mt' qm' H1 → va_S A H0 H1 locs1 → W p l e R s m args below meth c H1 locs1 cells slots Q (F0 m (pc + 3) ls (.int (sv_b (sv_aO σ n qc v).isSome) :: rest))) : W p l e R s m args below meth c H locs cells slots Q (F0 m pc ls (.int (nI v) :: .ref (ad 0) :: rest)) :=
  sv_wVi (S := Sg × (Nat → Int32) × (Nat → Int32)) (G := fun H => sv_mP D cI cZ n qc ad σ mt qm H) (B := fun u H => sv_mP D cI cZ n qc ad u.1 u.2.1 u.2.2 H) X okM_M_stepAccept (cM_m_stepAccept hJ hA hn hI hv hqm) hP (y_rec X.K hP (by decide) sv_me_0 rfl) hS hk rfl hl.1 rfl hcat hc hs hd (fun r u H1 locs1 hp hB hS => by obtain ⟨τ, a, b⟩ := u; obtain ⟨rfl, h1, h2⟩ := hp; dsimp only at h1 h2 hB; subst h1; exact kk H1 locs1 a b h2 hB hS)
theorem sv_mC_1 {σ : Sg} {n qc v t : Nat} (h : (bt (σ 11 v) t && !bt (σ 12 v) t) = false) : sv_mC σ n qc v t = false := by unfold sv_mC; rw [h]; rfl
theorem sv_mC_2 {σ : Sg} {n qc v t : Nat} (h : (sv_un σ n qc (sv_BA σ n v t)).testBit v = false) : sv_mC σ n qc v t = false := by unfold sv_mC; rw [h, Bool.and_false]
theorem sv_mC_3 {σ : Sg} {n qc v t : Nat} (h : (bt (σ 11 v) t && !bt (σ 12 v) t) = true) (h2 : (sv_un σ n qc (sv_BA σ n v t)).testBit v = true) : sv_mC σ n qc v t = true := by unfold sv_mC; rw [h, h2]; rfl
set_option maxHeartbeats 4000000 in
set_option maxRecDepth 100000 in
theorem wM_stepConfirm (X : sv_X D cI cZ cN cQ "SliceVotingModel" cM_stepConfirm 4 4 p R s m args c) (hP : sv_mP D cI cZ n qc ad σ mt qm H) (hJ : sv_inj 17 ad) (hA : ∀ k, k < 17 → A (ad k)) (hS : va_S A H0 H locs) {v : Nat} (hn : n ≤ 6) (hv : v < n) (hqm : ∀ q, q < 2 ^ n → qm q = sv_b (sv_quo σ n qc q)) (hl : lv_has ls 4 [(0, .ref (ad 0)), (1, .int (nI v))]) (ret : ∀ (pc : Nat) (ls : Array Slot) (H : Heap) (locs : List Loc) (mt' qm' : Nat → Int32), decode cM_stepConfirm pc = .ok (.ireturn, 1) → va_S A H0 H locs → (mt' = mt ∧ qm' = qm) → sv_mP D cI cZ n qc ad ((sv_cO σ n qc v).getD σ) mt' qm' H → W p l e R s m args below meth c H locs 0 0 Q (F0 m pc ls [.int (sv_b (sv_cO σ n qc v).isSome)])) : W p l e R s m args below meth c H locs 0 0 Q (F0 m 0 ls []) := by
  have hx := X.1
  have hb := X.2.1
  have J2 : ∀ (kf : Nat) (i : Nat) (ls : Array Slot), 24 - i < kf → (i ≤ 24) → (∀ t, t < i → sv_mC σ n qc v t = false) → lv_has ls 4 [(0, .ref (ad 0)), (1, .int (nI v)), (2, .int (nI i))] → W p l e R s m args below meth c H locs 0 0 Q (F0 m 2 ls []) := by
    intro kf
    induction kf with
    | zero => intro i ls hm; exact absurd hm (Nat.not_lt_zero _)
    | succ kf ih =>
      intro i ls hm hi hno hl
      refine lv_iload_n (i := 2) hx hb dM_stepConfirm_2 rfl (sv_at hl rfl) ?_
      refine lv_bipush (v := nI 24) hx hb dM_stepConfirm_3 (by decide) ?_
      refine lv_icmp_ge (tgt := 109) hx hb dM_stepConfirm_5 rfl (fun h5 => ?_) (fun h5 => ?_)
      · skip
        rw [nI_leI (by omega) (by omega)] at h5
        refine lv_iconst (v := 0) hx hb dM_stepConfirm_109 (by decide) ?_
        exact x_tv (by unfold sv_cO; rw [sv_least_no 24 (fun j hj => hno j (by omega))]; rfl) (ret _ _ _ _ _ _ dM_stepConfirm_110 hS ⟨rfl, rfl⟩ (by unfold sv_cO; rw [sv_least_no 24 (fun j hj => hno j (by omega))]; exact hP))
      · skip
        rw [nI_leI (by omega) (by omega)] at h5
        refine lv_aload_n (i := 0) hx hb dM_stepConfirm_8 rfl (sv_at hl rfl) ?_
        refine gM_accepts X hP dM_stepConfirm_9 ?_
        refine lv_iload_n (i := 1) hx hb dM_stepConfirm_12 rfl (sv_at hl rfl) ?_
        refine gm_accepts X hP (by omega) dM_stepConfirm_13 ?_
        refine lv_iload_n (i := 2) hx hb dM_stepConfirm_14 rfl (sv_at hl rfl) ?_
        refine lv_ishr hx hb dM_stepConfirm_15 ?_
        refine lv_iconst (v := 1) hx hb dM_stepConfirm_16 (by decide) ?_
        refine lv_iand hx hb dM_stepConfirm_17 ?_
        refine x_tv (sv_shr1 _ (by omega)) ?_
        refine lv_iconst (v := 1) hx hb dM_stepConfirm_18 (by decide) ?_
        refine lv_icmp_ne (tgt := 39) hx hb dM_stepConfirm_19 rfl (fun h19 => ?_) (fun h19 => ?_)
        · skip
          rw [sv_bn1] at h19
          refine lv_iconst (v := 0) hx hb dM_stepConfirm_39 (by decide) ?_
          refine x_tv (y := sv_b (bt (σ 11 v) i && !bt (σ 12 v) i)) (by first | (have ee := h32; rw [h19, h32]; rfl) | (rw [h19]; rfl)) ?_
          refine lv_istore_n (i := 3) hx hb dM_stepConfirm_40 rfl hl (by decide) rfl (fun ls hl => ?_)
          refine lv_iload_n (i := 3) hx hb dM_stepConfirm_41 rfl (sv_at hl rfl) ?_
          refine x_ifeqB (tgt := 103) hx hb dM_stepConfirm_42 rfl (fun h42 => ?_) (fun h42 => ?_)
          · skip
            refine x_iinc (i := 2) hx hb dM_stepConfirm_103 hl rfl (sv_inc i) (by decide) (fun ls hl => ?_)
            refine lv_goto (tgt := 2) hx hb dM_stepConfirm_106 rfl ?_
            exact ih (i + 1) ls (by omega) (by omega) (lt_s hno (by first | (have ee := h57; exact sv_mC_2 h57) | exact sv_mC_1 h42)) (sv_re hl ⟨rfl, rfl, rfl, trivial⟩)
          · skip
            refine lv_aload_n (i := 0) hx hb dM_stepConfirm_45 rfl (sv_at hl rfl) ?_
            refine lv_aload_n (i := 0) hx hb dM_stepConfirm_46 rfl (sv_at hl rfl) ?_
            refine lv_iload_n (i := 1) hx hb dM_stepConfirm_47 rfl (sv_at hl rfl) ?_
            refine lv_iload_n (i := 2) hx hb dM_stepConfirm_48 rfl (sv_at hl rfl) ?_
            refine lv_iconst (v := 0) hx hb dM_stepConfirm_49 (by decide) ?_
            refine x_tv (y := sv_b false) rfl ?_
            refine kM_backers X (by decide) hP hn (by omega) (by omega) hl (Nat.zero_le _) (Nat.zero_le _) (Nat.le_of_ble_eq_true rfl) dM_stepConfirm_50 ?_
            refine lv_iload_n (i := 1) hx hb dM_stepConfirm_53 rfl (sv_at hl rfl) ?_
            refine kM_quorumWithin X (by decide) hP (S := sv_BA σ n v i) hn hv hqm hl (Nat.zero_le _) (Nat.zero_le _) (Nat.le_of_ble_eq_true rfl) dM_stepConfirm_54 ?_
            refine x_ifeqB (tgt := 103) hx hb dM_stepConfirm_57 rfl (fun h57 => ?_) (fun h57 => ?_)
            · skip
              refine x_iinc (i := 2) hx hb dM_stepConfirm_103 hl rfl (sv_inc i) (by decide) (fun ls hl => ?_)
              refine lv_goto (tgt := 2) hx hb dM_stepConfirm_106 rfl ?_
              exact ih (i + 1) ls (by omega) (by omega) (lt_s hno (by first | (have ee := h57; exact sv_mC_2 h57) | exact sv_mC_1 h42)) (sv_re hl ⟨rfl, rfl, rfl, trivial⟩)
            · skip
              refine lv_aload_n (i := 0) hx hb dM_stepConfirm_60 rfl (sv_at hl rfl) ?_
              refine gM_confirms X hP dM_stepConfirm_61 ?_
              refine lv_iload_n (i := 1) hx hb dM_stepConfirm_64 rfl (sv_at hl rfl) ?_
              refine lv_aload_n (i := 0) hx hb dM_stepConfirm_65 rfl (sv_at hl rfl) ?_
              refine gM_confirms X hP dM_stepConfirm_66 ?_
              refine lv_iload_n (i := 1) hx hb dM_stepConfirm_69 rfl (sv_at hl rfl) ?_
              refine gm_confirms X hP (by omega) dM_stepConfirm_70 ?_
              refine lv_iconst (v := 1) hx hb dM_stepConfirm_71 (by decide) ?_
              refine lv_iload_n (i := 2) hx hb dM_stepConfirm_72 rfl (sv_at hl rfl) ?_
              refine lv_ishl hx hb dM_stepConfirm_73 ?_
              refine lv_ior hx hb dM_stepConfirm_74 ?_
              refine x_tv (y := σ 12 v ||| sv_bit i) rfl ?_
              refine pm_confirms X hP hJ hA hS (by omega) dM_stepConfirm_75 (fun H locs hP hS => ?_)
              refine lv_iload_n (i := 2) hx hb dM_stepConfirm_76 rfl (sv_at hl rfl) ?_
              refine lv_bipush (v := nI 12) hx hb dM_stepConfirm_77 (by decide) ?_
              refine lv_icmp_lt (tgt := 101) hx hb dM_stepConfirm_79 rfl (fun h79 => ?_) (fun h79 => ?_)
              · skip
                rw [nI_ltI (by omega) (by omega)] at h79
                refine lv_iconst (v := 1) hx hb dM_stepConfirm_101 (by decide) ?_
                have hm1 : sv_mC σ n qc v i = true := sv_mC_3 h42 h57
                have hcf : sv_mP D cI cZ n qc ad (sv_cf σ v i) mt qm H := by unfold sv_cf; first | (have ee : ¬ σ 15 v = -1 := h89; rw [show (σ 15 v == -1) = false from beq_eq_false_iff_ne.mpr ee, Bool.and_false]; exact hP) | (have ee : σ 15 v = -1 := h89; rw [show (σ 15 v == -1) = true from beq_iff_eq.mpr ee, decide_eq_true (show 12 ≤ i by omega)]; exact hP) | (rw [decide_eq_false (show ¬ 12 ≤ i by omega)]; exact hP)
                exact x_tv (by unfold sv_cO; rw [sv_least_is 24 (show i < 24 by omega) hm1 hno]; rfl) (ret _ _ _ _ _ _ dM_stepConfirm_102 hS ⟨rfl, rfl⟩ (by unfold sv_cO; rw [sv_least_is 24 (show i < 24 by omega) hm1 hno]; exact hcf))
              · skip
                rw [nI_ltI (by omega) (by omega)] at h79
                refine lv_aload_n (i := 0) hx hb dM_stepConfirm_82 rfl (sv_at hl rfl) ?_
                refine gM_decisions X hP dM_stepConfirm_83 ?_
                refine lv_iload_n (i := 1) hx hb dM_stepConfirm_86 rfl (sv_at hl rfl) ?_
                refine gm_decisions X hP (by omega) dM_stepConfirm_87 ?_
                refine lv_iconst (v := -1) hx hb dM_stepConfirm_88 (by decide) ?_
                rw [sg_off σ _ (Or.inl (by decide : (15 : Nat) ≠ 12))]
                refine lv_icmp_ne (tgt := 101) hx hb dM_stepConfirm_89 rfl (fun h89 => ?_) (fun h89 => ?_)
                · skip
                  refine lv_iconst (v := 1) hx hb dM_stepConfirm_101 (by decide) ?_
                  have hm1 : sv_mC σ n qc v i = true := sv_mC_3 h42 h57
                  have hcf : sv_mP D cI cZ n qc ad (sv_cf σ v i) mt qm H := by unfold sv_cf; first | (have ee : ¬ σ 15 v = -1 := h89; rw [show (σ 15 v == -1) = false from beq_eq_false_iff_ne.mpr ee, Bool.and_false]; exact hP) | (have ee : σ 15 v = -1 := h89; rw [show (σ 15 v == -1) = true from beq_iff_eq.mpr ee, decide_eq_true (show 12 ≤ i by omega)]; exact hP) | (rw [decide_eq_false (show ¬ 12 ≤ i by omega)]; exact hP)
                  exact x_tv (by unfold sv_cO; rw [sv_least_is 24 (show i < 24 by omega) hm1 hno]; rfl) (ret _ _ _ _ _ _ dM_stepConfirm_102 hS ⟨rfl, rfl⟩ (by unfold sv_cO; rw [sv_least_is 24 (show i < 24 by omega) hm1 hno]; exact hcf))
                · skip
                  refine lv_aload_n (i := 0) hx hb dM_stepConfirm_92 rfl (sv_at hl rfl) ?_
                  refine gM_decisions X hP dM_stepConfirm_93 ?_
                  refine lv_iload_n (i := 1) hx hb dM_stepConfirm_96 rfl (sv_at hl rfl) ?_
                  refine lv_iload_n (i := 2) hx hb dM_stepConfirm_97 rfl (sv_at hl rfl) ?_
                  refine lv_iconst (v := nI 3) hx hb dM_stepConfirm_98 (by decide) ?_
                  refine lv_irem hx hb dM_stepConfirm_99 (by decide) ?_
                  refine x_tv (pk_rem (a := i) (d := 3) (by omega) (by decide) (by decide)) ?_
                  refine pm_decisions X hP hJ hA hS (by omega) dM_stepConfirm_100 (fun H locs hP hS => ?_)
                  refine lv_iconst (v := 1) hx hb dM_stepConfirm_101 (by decide) ?_
                  have hm1 : sv_mC σ n qc v i = true := sv_mC_3 h42 h57
                  have hcf : sv_mP D cI cZ n qc ad (sv_cf σ v i) mt qm H := by unfold sv_cf; first | (have ee : ¬ σ 15 v = -1 := h89; rw [show (σ 15 v == -1) = false from beq_eq_false_iff_ne.mpr ee, Bool.and_false]; exact hP) | (have ee : σ 15 v = -1 := h89; rw [show (σ 15 v == -1) = true from beq_iff_eq.mpr ee, decide_eq_true (show 12 ≤ i by omega)]; exact hP) | (rw [decide_eq_false (show ¬ 12 ≤ i by omega)]; exact hP)
                  exact x_tv (by unfold sv_cO; rw [sv_least_is 24 (show i < 24 by omega) hm1 hno]; rfl) (ret _ _ _ _ _ _ dM_stepConfirm_102 hS ⟨rfl, rfl⟩ (by unfold sv_cO; rw [sv_least_is 24 (show i < 24 by omega) hm1 hno]; exact hcf))
        · skip
          rw [sv_b1] at h19
          refine lv_aload_n (i := 0) hx hb dM_stepConfirm_22 rfl (sv_at hl rfl) ?_
          refine gM_confirms X hP dM_stepConfirm_23 ?_
          refine lv_iload_n (i := 1) hx hb dM_stepConfirm_26 rfl (sv_at hl rfl) ?_
          refine gm_confirms X hP (by omega) dM_stepConfirm_27 ?_
          refine lv_iload_n (i := 2) hx hb dM_stepConfirm_28 rfl (sv_at hl rfl) ?_
          refine lv_ishr hx hb dM_stepConfirm_29 ?_
          refine lv_iconst (v := 1) hx hb dM_stepConfirm_30 (by decide) ?_
          refine lv_iand hx hb dM_stepConfirm_31 ?_
          refine x_tv (sv_shr1 _ (by omega)) ?_
          refine x_ifneB (tgt := 39) hx hb dM_stepConfirm_32 rfl (fun h32 => ?_) (fun h32 => ?_)
          · skip
            refine lv_iconst (v := 0) hx hb dM_stepConfirm_39 (by decide) ?_
            refine x_tv (y := sv_b (bt (σ 11 v) i && !bt (σ 12 v) i)) (by first | (have ee := h32; rw [h19, h32]; rfl) | (rw [h19]; rfl)) ?_
            refine lv_istore_n (i := 3) hx hb dM_stepConfirm_40 rfl hl (by decide) rfl (fun ls hl => ?_)
            refine lv_iload_n (i := 3) hx hb dM_stepConfirm_41 rfl (sv_at hl rfl) ?_
            refine x_ifeqB (tgt := 103) hx hb dM_stepConfirm_42 rfl (fun h42 => ?_) (fun h42 => ?_)
            · skip
              refine x_iinc (i := 2) hx hb dM_stepConfirm_103 hl rfl (sv_inc i) (by decide) (fun ls hl => ?_)
              refine lv_goto (tgt := 2) hx hb dM_stepConfirm_106 rfl ?_
              exact ih (i + 1) ls (by omega) (by omega) (lt_s hno (by first | (have ee := h57; exact sv_mC_2 h57) | exact sv_mC_1 h42)) (sv_re hl ⟨rfl, rfl, rfl, trivial⟩)
            · skip
              refine lv_aload_n (i := 0) hx hb dM_stepConfirm_45 rfl (sv_at hl rfl) ?_
              refine lv_aload_n (i := 0) hx hb dM_stepConfirm_46 rfl (sv_at hl rfl) ?_
              refine lv_iload_n (i := 1) hx hb dM_stepConfirm_47 rfl (sv_at hl rfl) ?_
              refine lv_iload_n (i := 2) hx hb dM_stepConfirm_48 rfl (sv_at hl rfl) ?_
              refine lv_iconst (v := 0) hx hb dM_stepConfirm_49 (by decide) ?_
              refine x_tv (y := sv_b false) rfl ?_
              refine kM_backers X (by decide) hP hn (by omega) (by omega) hl (Nat.zero_le _) (Nat.zero_le _) (Nat.le_of_ble_eq_true rfl) dM_stepConfirm_50 ?_
              refine lv_iload_n (i := 1) hx hb dM_stepConfirm_53 rfl (sv_at hl rfl) ?_
              refine kM_quorumWithin X (by decide) hP (S := sv_BA σ n v i) hn hv hqm hl (Nat.zero_le _) (Nat.zero_le _) (Nat.le_of_ble_eq_true rfl) dM_stepConfirm_54 ?_
              refine x_ifeqB (tgt := 103) hx hb dM_stepConfirm_57 rfl (fun h57 => ?_) (fun h57 => ?_)
              · skip
                refine x_iinc (i := 2) hx hb dM_stepConfirm_103 hl rfl (sv_inc i) (by decide) (fun ls hl => ?_)
                refine lv_goto (tgt := 2) hx hb dM_stepConfirm_106 rfl ?_
                exact ih (i + 1) ls (by omega) (by omega) (lt_s hno (by first | (have ee := h57; exact sv_mC_2 h57) | exact sv_mC_1 h42)) (sv_re hl ⟨rfl, rfl, rfl, trivial⟩)
              · skip
                refine lv_aload_n (i := 0) hx hb dM_stepConfirm_60 rfl (sv_at hl rfl) ?_
                refine gM_confirms X hP dM_stepConfirm_61 ?_
                refine lv_iload_n (i := 1) hx hb dM_stepConfirm_64 rfl (sv_at hl rfl) ?_
                refine lv_aload_n (i := 0) hx hb dM_stepConfirm_65 rfl (sv_at hl rfl) ?_
                refine gM_confirms X hP dM_stepConfirm_66 ?_
                refine lv_iload_n (i := 1) hx hb dM_stepConfirm_69 rfl (sv_at hl rfl) ?_
                refine gm_confirms X hP (by omega) dM_stepConfirm_70 ?_
                refine lv_iconst (v := 1) hx hb dM_stepConfirm_71 (by decide) ?_
                refine lv_iload_n (i := 2) hx hb dM_stepConfirm_72 rfl (sv_at hl rfl) ?_
                refine lv_ishl hx hb dM_stepConfirm_73 ?_
                refine lv_ior hx hb dM_stepConfirm_74 ?_
                refine x_tv (y := σ 12 v ||| sv_bit i) rfl ?_
                refine pm_confirms X hP hJ hA hS (by omega) dM_stepConfirm_75 (fun H locs hP hS => ?_)
                refine lv_iload_n (i := 2) hx hb dM_stepConfirm_76 rfl (sv_at hl rfl) ?_
                refine lv_bipush (v := nI 12) hx hb dM_stepConfirm_77 (by decide) ?_
                refine lv_icmp_lt (tgt := 101) hx hb dM_stepConfirm_79 rfl (fun h79 => ?_) (fun h79 => ?_)
                · skip
                  rw [nI_ltI (by omega) (by omega)] at h79
                  refine lv_iconst (v := 1) hx hb dM_stepConfirm_101 (by decide) ?_
                  have hm1 : sv_mC σ n qc v i = true := sv_mC_3 h42 h57
                  have hcf : sv_mP D cI cZ n qc ad (sv_cf σ v i) mt qm H := by unfold sv_cf; first | (have ee : ¬ σ 15 v = -1 := h89; rw [show (σ 15 v == -1) = false from beq_eq_false_iff_ne.mpr ee, Bool.and_false]; exact hP) | (have ee : σ 15 v = -1 := h89; rw [show (σ 15 v == -1) = true from beq_iff_eq.mpr ee, decide_eq_true (show 12 ≤ i by omega)]; exact hP) | (rw [decide_eq_false (show ¬ 12 ≤ i by omega)]; exact hP)
                  exact x_tv (by unfold sv_cO; rw [sv_least_is 24 (show i < 24 by omega) hm1 hno]; rfl) (ret _ _ _ _ _ _ dM_stepConfirm_102 hS ⟨rfl, rfl⟩ (by unfold sv_cO; rw [sv_least_is 24 (show i < 24 by omega) hm1 hno]; exact hcf))
                · skip
                  rw [nI_ltI (by omega) (by omega)] at h79
                  refine lv_aload_n (i := 0) hx hb dM_stepConfirm_82 rfl (sv_at hl rfl) ?_
                  refine gM_decisions X hP dM_stepConfirm_83 ?_
                  refine lv_iload_n (i := 1) hx hb dM_stepConfirm_86 rfl (sv_at hl rfl) ?_
                  refine gm_decisions X hP (by omega) dM_stepConfirm_87 ?_
                  refine lv_iconst (v := -1) hx hb dM_stepConfirm_88 (by decide) ?_
                  rw [sg_off σ _ (Or.inl (by decide : (15 : Nat) ≠ 12))]
                  refine lv_icmp_ne (tgt := 101) hx hb dM_stepConfirm_89 rfl (fun h89 => ?_) (fun h89 => ?_)
                  · skip
                    refine lv_iconst (v := 1) hx hb dM_stepConfirm_101 (by decide) ?_
                    have hm1 : sv_mC σ n qc v i = true := sv_mC_3 h42 h57
                    have hcf : sv_mP D cI cZ n qc ad (sv_cf σ v i) mt qm H := by unfold sv_cf; first | (have ee : ¬ σ 15 v = -1 := h89; rw [show (σ 15 v == -1) = false from beq_eq_false_iff_ne.mpr ee, Bool.and_false]; exact hP) | (have ee : σ 15 v = -1 := h89; rw [show (σ 15 v == -1) = true from beq_iff_eq.mpr ee, decide_eq_true (show 12 ≤ i by omega)]; exact hP) | (rw [decide_eq_false (show ¬ 12 ≤ i by omega)]; exact hP)
                    exact x_tv (by unfold sv_cO; rw [sv_least_is 24 (show i < 24 by omega) hm1 hno]; rfl) (ret _ _ _ _ _ _ dM_stepConfirm_102 hS ⟨rfl, rfl⟩ (by unfold sv_cO; rw [sv_least_is 24 (show i < 24 by omega) hm1 hno]; exact hcf))
                  · skip
                    refine lv_aload_n (i := 0) hx hb dM_stepConfirm_92 rfl (sv_at hl rfl) ?_
                    refine gM_decisions X hP dM_stepConfirm_93 ?_
                    refine lv_iload_n (i := 1) hx hb dM_stepConfirm_96 rfl (sv_at hl rfl) ?_
                    refine lv_iload_n (i := 2) hx hb dM_stepConfirm_97 rfl (sv_at hl rfl) ?_
                    refine lv_iconst (v := nI 3) hx hb dM_stepConfirm_98 (by decide) ?_
                    refine lv_irem hx hb dM_stepConfirm_99 (by decide) ?_
                    refine x_tv (pk_rem (a := i) (d := 3) (by omega) (by decide) (by decide)) ?_
                    refine pm_decisions X hP hJ hA hS (by omega) dM_stepConfirm_100 (fun H locs hP hS => ?_)
                    refine lv_iconst (v := 1) hx hb dM_stepConfirm_101 (by decide) ?_
                    have hm1 : sv_mC σ n qc v i = true := sv_mC_3 h42 h57
                    have hcf : sv_mP D cI cZ n qc ad (sv_cf σ v i) mt qm H := by unfold sv_cf; first | (have ee : ¬ σ 15 v = -1 := h89; rw [show (σ 15 v == -1) = false from beq_eq_false_iff_ne.mpr ee, Bool.and_false]; exact hP) | (have ee : σ 15 v = -1 := h89; rw [show (σ 15 v == -1) = true from beq_iff_eq.mpr ee, decide_eq_true (show 12 ≤ i by omega)]; exact hP) | (rw [decide_eq_false (show ¬ 12 ≤ i by omega)]; exact hP)
                    exact x_tv (by unfold sv_cO; rw [sv_least_is 24 (show i < 24 by omega) hm1 hno]; rfl) (ret _ _ _ _ _ _ dM_stepConfirm_102 hS ⟨rfl, rfl⟩ (by unfold sv_cO; rw [sv_least_is 24 (show i < 24 by omega) hm1 hno]; exact hcf))
          · skip
            refine lv_iconst (v := 1) hx hb dM_stepConfirm_35 (by decide) ?_
            refine lv_goto (tgt := 40) hx hb dM_stepConfirm_36 rfl ?_
            refine x_tv (y := sv_b (bt (σ 11 v) i && !bt (σ 12 v) i)) (by first | (have ee := h32; rw [h19, h32]; rfl) | (rw [h19]; rfl)) ?_
            refine lv_istore_n (i := 3) hx hb dM_stepConfirm_40 rfl hl (by decide) rfl (fun ls hl => ?_)
            refine lv_iload_n (i := 3) hx hb dM_stepConfirm_41 rfl (sv_at hl rfl) ?_
            refine x_ifeqB (tgt := 103) hx hb dM_stepConfirm_42 rfl (fun h42 => ?_) (fun h42 => ?_)
            · skip
              refine x_iinc (i := 2) hx hb dM_stepConfirm_103 hl rfl (sv_inc i) (by decide) (fun ls hl => ?_)
              refine lv_goto (tgt := 2) hx hb dM_stepConfirm_106 rfl ?_
              exact ih (i + 1) ls (by omega) (by omega) (lt_s hno (by first | (have ee := h57; exact sv_mC_2 h57) | exact sv_mC_1 h42)) (sv_re hl ⟨rfl, rfl, rfl, trivial⟩)
            · skip
              refine lv_aload_n (i := 0) hx hb dM_stepConfirm_45 rfl (sv_at hl rfl) ?_
              refine lv_aload_n (i := 0) hx hb dM_stepConfirm_46 rfl (sv_at hl rfl) ?_
              refine lv_iload_n (i := 1) hx hb dM_stepConfirm_47 rfl (sv_at hl rfl) ?_
              refine lv_iload_n (i := 2) hx hb dM_stepConfirm_48 rfl (sv_at hl rfl) ?_
              refine lv_iconst (v := 0) hx hb dM_stepConfirm_49 (by decide) ?_
              refine x_tv (y := sv_b false) rfl ?_
              refine kM_backers X (by decide) hP hn (by omega) (by omega) hl (Nat.zero_le _) (Nat.zero_le _) (Nat.le_of_ble_eq_true rfl) dM_stepConfirm_50 ?_
              refine lv_iload_n (i := 1) hx hb dM_stepConfirm_53 rfl (sv_at hl rfl) ?_
              refine kM_quorumWithin X (by decide) hP (S := sv_BA σ n v i) hn hv hqm hl (Nat.zero_le _) (Nat.zero_le _) (Nat.le_of_ble_eq_true rfl) dM_stepConfirm_54 ?_
              refine x_ifeqB (tgt := 103) hx hb dM_stepConfirm_57 rfl (fun h57 => ?_) (fun h57 => ?_)
              · skip
                refine x_iinc (i := 2) hx hb dM_stepConfirm_103 hl rfl (sv_inc i) (by decide) (fun ls hl => ?_)
                refine lv_goto (tgt := 2) hx hb dM_stepConfirm_106 rfl ?_
                exact ih (i + 1) ls (by omega) (by omega) (lt_s hno (by first | (have ee := h57; exact sv_mC_2 h57) | exact sv_mC_1 h42)) (sv_re hl ⟨rfl, rfl, rfl, trivial⟩)
              · skip
                refine lv_aload_n (i := 0) hx hb dM_stepConfirm_60 rfl (sv_at hl rfl) ?_
                refine gM_confirms X hP dM_stepConfirm_61 ?_
                refine lv_iload_n (i := 1) hx hb dM_stepConfirm_64 rfl (sv_at hl rfl) ?_
                refine lv_aload_n (i := 0) hx hb dM_stepConfirm_65 rfl (sv_at hl rfl) ?_
                refine gM_confirms X hP dM_stepConfirm_66 ?_
                refine lv_iload_n (i := 1) hx hb dM_stepConfirm_69 rfl (sv_at hl rfl) ?_
                refine gm_confirms X hP (by omega) dM_stepConfirm_70 ?_
                refine lv_iconst (v := 1) hx hb dM_stepConfirm_71 (by decide) ?_
                refine lv_iload_n (i := 2) hx hb dM_stepConfirm_72 rfl (sv_at hl rfl) ?_
                refine lv_ishl hx hb dM_stepConfirm_73 ?_
                refine lv_ior hx hb dM_stepConfirm_74 ?_
                refine x_tv (y := σ 12 v ||| sv_bit i) rfl ?_
                refine pm_confirms X hP hJ hA hS (by omega) dM_stepConfirm_75 (fun H locs hP hS => ?_)
                refine lv_iload_n (i := 2) hx hb dM_stepConfirm_76 rfl (sv_at hl rfl) ?_
                refine lv_bipush (v := nI 12) hx hb dM_stepConfirm_77 (by decide) ?_
                refine lv_icmp_lt (tgt := 101) hx hb dM_stepConfirm_79 rfl (fun h79 => ?_) (fun h79 => ?_)
                · skip
                  rw [nI_ltI (by omega) (by omega)] at h79
                  refine lv_iconst (v := 1) hx hb dM_stepConfirm_101 (by decide) ?_
                  have hm1 : sv_mC σ n qc v i = true := sv_mC_3 h42 h57
                  have hcf : sv_mP D cI cZ n qc ad (sv_cf σ v i) mt qm H := by unfold sv_cf; first | (have ee : ¬ σ 15 v = -1 := h89; rw [show (σ 15 v == -1) = false from beq_eq_false_iff_ne.mpr ee, Bool.and_false]; exact hP) | (have ee : σ 15 v = -1 := h89; rw [show (σ 15 v == -1) = true from beq_iff_eq.mpr ee, decide_eq_true (show 12 ≤ i by omega)]; exact hP) | (rw [decide_eq_false (show ¬ 12 ≤ i by omega)]; exact hP)
                  exact x_tv (by unfold sv_cO; rw [sv_least_is 24 (show i < 24 by omega) hm1 hno]; rfl) (ret _ _ _ _ _ _ dM_stepConfirm_102 hS ⟨rfl, rfl⟩ (by unfold sv_cO; rw [sv_least_is 24 (show i < 24 by omega) hm1 hno]; exact hcf))
                · skip
                  rw [nI_ltI (by omega) (by omega)] at h79
                  refine lv_aload_n (i := 0) hx hb dM_stepConfirm_82 rfl (sv_at hl rfl) ?_
                  refine gM_decisions X hP dM_stepConfirm_83 ?_
                  refine lv_iload_n (i := 1) hx hb dM_stepConfirm_86 rfl (sv_at hl rfl) ?_
                  refine gm_decisions X hP (by omega) dM_stepConfirm_87 ?_
                  refine lv_iconst (v := -1) hx hb dM_stepConfirm_88 (by decide) ?_
                  rw [sg_off σ _ (Or.inl (by decide : (15 : Nat) ≠ 12))]
                  refine lv_icmp_ne (tgt := 101) hx hb dM_stepConfirm_89 rfl (fun h89 => ?_) (fun h89 => ?_)
                  · skip
                    refine lv_iconst (v := 1) hx hb dM_stepConfirm_101 (by decide) ?_
                    have hm1 : sv_mC σ n qc v i = true := sv_mC_3 h42 h57
                    have hcf : sv_mP D cI cZ n qc ad (sv_cf σ v i) mt qm H := by unfold sv_cf; first | (have ee : ¬ σ 15 v = -1 := h89; rw [show (σ 15 v == -1) = false from beq_eq_false_iff_ne.mpr ee, Bool.and_false]; exact hP) | (have ee : σ 15 v = -1 := h89; rw [show (σ 15 v == -1) = true from beq_iff_eq.mpr ee, decide_eq_true (show 12 ≤ i by omega)]; exact hP) | (rw [decide_eq_false (show ¬ 12 ≤ i by omega)]; exact hP)
                    exact x_tv (by unfold sv_cO; rw [sv_least_is 24 (show i < 24 by omega) hm1 hno]; rfl) (ret _ _ _ _ _ _ dM_stepConfirm_102 hS ⟨rfl, rfl⟩ (by unfold sv_cO; rw [sv_least_is 24 (show i < 24 by omega) hm1 hno]; exact hcf))
                  · skip
                    refine lv_aload_n (i := 0) hx hb dM_stepConfirm_92 rfl (sv_at hl rfl) ?_
                    refine gM_decisions X hP dM_stepConfirm_93 ?_
                    refine lv_iload_n (i := 1) hx hb dM_stepConfirm_96 rfl (sv_at hl rfl) ?_
                    refine lv_iload_n (i := 2) hx hb dM_stepConfirm_97 rfl (sv_at hl rfl) ?_
                    refine lv_iconst (v := nI 3) hx hb dM_stepConfirm_98 (by decide) ?_
                    refine lv_irem hx hb dM_stepConfirm_99 (by decide) ?_
                    refine x_tv (pk_rem (a := i) (d := 3) (by omega) (by decide) (by decide)) ?_
                    refine pm_decisions X hP hJ hA hS (by omega) dM_stepConfirm_100 (fun H locs hP hS => ?_)
                    refine lv_iconst (v := 1) hx hb dM_stepConfirm_101 (by decide) ?_
                    have hm1 : sv_mC σ n qc v i = true := sv_mC_3 h42 h57
                    have hcf : sv_mP D cI cZ n qc ad (sv_cf σ v i) mt qm H := by unfold sv_cf; first | (have ee : ¬ σ 15 v = -1 := h89; rw [show (σ 15 v == -1) = false from beq_eq_false_iff_ne.mpr ee, Bool.and_false]; exact hP) | (have ee : σ 15 v = -1 := h89; rw [show (σ 15 v == -1) = true from beq_iff_eq.mpr ee, decide_eq_true (show 12 ≤ i by omega)]; exact hP) | (rw [decide_eq_false (show ¬ 12 ≤ i by omega)]; exact hP)
                    exact x_tv (by unfold sv_cO; rw [sv_least_is 24 (show i < 24 by omega) hm1 hno]; rfl) (ret _ _ _ _ _ _ dM_stepConfirm_102 hS ⟨rfl, rfl⟩ (by unfold sv_cO; rw [sv_least_is 24 (show i < 24 by omega) hm1 hno]; exact hcf))
  refine lv_iconst (v := 0) hx hb dM_stepConfirm_0 (by decide) ?_
  refine lv_istore_n (i := 2) hx hb dM_stepConfirm_1 rfl hl (by decide) rfl (fun ls hl => ?_)
  exact J2 _ 0 ls (Nat.lt_succ_self _) (Nat.zero_le _) lt_0 (sv_re hl ⟨rfl, rfl, rfl, trivial⟩)

theorem cM_m_stepConfirm (hJ : sv_inj 17 ad) (hA : ∀ k, k < 17 → A (ad k)) {v : Nat} (hn : n ≤ 6) (hv : v < n) (hqm : ∀ q, q < 2 ^ n → qm q = sv_b (sv_quo σ n qc q)) : Met l yM_stepConfirm (sv_ws yM_stepConfirm cM_stepConfirm 4 (some .boolean)) (sv_rm 4) (sv_Pc D cI cZ cN cQ [.ref (ad 0), .int (nI v)] (fun H => sv_mP D cI cZ n qc ad σ mt qm H)) (va_Qi (fun (r : Int32) (u : Sg × (Nat → Int32) × (Nat → Int32)) => r = sv_b (sv_cO σ n qc v).isSome ∧ u.1 = (sv_cO σ n qc v).getD σ ∧ (u.2.1 = mt ∧ u.2.2 = qm)) (fun u t => sv_mP D cI cZ n qc ad u.1 u.2.1 u.2.2 t.heap) A) 0 0 A :=
  sv_mkI (S := Sg × (Nat → Int32) × (Nat → Int32)) (B := fun u H => sv_mP D cI cZ n qc ad u.1 u.2.1 u.2.2 H) (by decide) (by show 2 ≤ 4; decide) (fun _ _ h => by rw [h.1]; exact sv_narb _) (fun p e s m below meth c ls Q X hP hl ret => wM_stepConfirm X hP hJ hA va_S.rf hn hv hqm hl (fun pc ls H locs mt' qm' hd hS hX hP => ret pc ls _ (_, mt', qm') H locs hd hS ⟨rfl, rfl, hX⟩ hP))
set_option maxRecDepth 100000 in
theorem okM_M_stepConfirm : sv_okV "SliceVotingModel" 124 yM_stepConfirm cM_stepConfirm 4 (some .boolean) 1 := ⟨sv_tb_t 475 rfl rfl, sv_tb_t 472 rfl rfl, sv_tb_t 474 rfl rfl, sv_tb_s 34 rfl rfl, sv_tb_t 4 rfl rfl, ⟨by decide, by decide, by decide +kernel⟩, by decide⟩
theorem kM_stepConfirm (X : sv_X D cI cZ cN cQ "SliceVotingModel" cc nL k p R s m args c) (hk : 4 + 1 ≤ k) (hP : sv_mP D cI cZ n qc ad σ mt qm H) (hJ : sv_inj 17 ad) (hA : ∀ k, k < 17 → A (ad k)) (hS : va_S A H0 H locs) {v : Nat} (hn : n ≤ 6) (hv : v < n) (hqm : ∀ q, q < 2 ^ n → qm q = sv_b (sv_quo σ n qc q)) (hl : lv_has ls nL lv) (hc : cells ≤ R.cells) (hs : slots ≤ R.slots) (hcat : (rest.map fun v => v.category).sum ≤ 8) (hd : decode cc pc = .ok (.invokevirtual 124, 3)) (kk : ∀ (H1 : Heap) (locs1 : List Loc) (mt' qm' : Nat → Int32), (mt' = mt ∧ qm' = qm) → sv_mP D cI cZ n qc ad ((sv_cO σ n qc v).getD σ) mt' qm' H1 → va_S A H0 H1 locs1 → W p l e R s m args below meth c H1 locs1 cells slots Q (F0 m (pc + 3) ls (.int (sv_b (sv_cO σ n qc v).isSome) :: rest))) : W p l e R s m args below meth c H locs cells slots Q (F0 m pc ls (.int (nI v) :: .ref (ad 0) :: rest)) :=
  sv_wVi (S := Sg × (Nat → Int32) × (Nat → Int32)) (G := fun H => sv_mP D cI cZ n qc ad σ mt qm H) (B := fun u H => sv_mP D cI cZ n qc ad u.1 u.2.1 u.2.2 H) X okM_M_stepConfirm (cM_m_stepConfirm hJ hA hn hv hqm) hP (y_rec X.K hP (by decide) sv_me_0 rfl) hS hk rfl hl.1 rfl hcat hc hs hd (fun r u H1 locs1 hp hB hS => by obtain ⟨τ, a, b⟩ := u; obtain ⟨rfl, h1, h2⟩ := hp; dsimp only at h1 h2 hB; subst h1; exact kk H1 locs1 a b h2 hB hS)
end SvModel5
