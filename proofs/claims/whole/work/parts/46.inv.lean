section SvInv
def sv_IV (n qc : Nat) (σ : Sg) : Prop := sv_IQ n qc σ ∧ sv_IS n σ ∧ qc ≤ 4 * n
variable {σ : Sg} {n qc : Nat} {v w x z : Int32}
theorem sv_bt0 (i : Nat) : bt 0 i = false := by
  unfold bt
  exact BitVec.getLsbD_zero
theorem sv_IV_0 (h1 : 1 ≤ n) (h6 : n ≤ 6) : sv_IV n 0 sv_s0 := by
  have hz : ∀ k i, k ≠ 15 → sv_s0 k i = 0 := fun k i h => if_neg (fun q => h q.1)
  refine ⟨⟨h1, h6, fun v _ => by show (0 : Nat) ≤ 4; decide, by decide, fun q hq => absurd hq (Nat.not_lt_zero _)⟩, ⟨⟨false, hz 1 0 (by decide)⟩, fun v _ => ⟨⟨false, hz 9 v (by decide)⟩, ⟨0, by decide, hz 13 v (by decide)⟩, ⟨0, by decide, hz 14 v (by decide)⟩, fun s t _ _ _ _ hs _ => ?_⟩⟩, Nat.zero_le _⟩
  rw [hz 11 v (by decide), sv_bt0] at hs
  cases hs
theorem sv_IV_set {τ : Sg} {u k : Nat} (h : sv_IV n qc τ) : sv_IV n qc (sv_set n qc u k τ) := by
  obtain ⟨h1, h2, h3⟩ := h
  obtain ⟨a, b⟩ := sv_set_ok (qc := qc) (v := u) k h2
  exact ⟨sv_IQ_cg b h1, a, h3⟩
theorem sv_IV_dl (h : sv_IV n qc σ) : sv_IV n qc (sv_dlS n qc σ v w) := by
  unfold sv_dlS
  cases e : sv_dlC n σ v w with
  | false => exact h
  | true =>
    have hn := h.1.2.1
    simp only [sv_dlC, Bool.and_eq_true, decide_eq_true_eq] at e
    obtain ⟨e1, e2, e3⟩ := e
    obtain ⟨a, ha, rfl, -⟩ := sv_wel_t (by omega) e1
    obtain ⟨b, hb, rfl, -⟩ := sv_wel_t (by omega) e2
    rw [nI_clamp (by omega), nI_clamp (by omega)]
    obtain ⟨c1, c2⟩ := sv_her_ok (v := b) (w := a) (x := σ 10 a) (y := σ 11 a) (fun q => e3 (by rw [q])) h.1 h.2.1
    exact sv_IV_set ⟨c1, c2, h.2.2⟩
theorem sv_IV_sy (h : sv_IV n qc σ) : sv_IV n qc (sv_syS n qc σ v w x z) := by
  unfold sv_syS
  cases e : sv_syC n σ v w with
  | false => exact h
  | true =>
    have hn := h.1.2.1
    simp only [sv_syC, Bool.and_eq_true, Bool.not_eq_true'] at e
    obtain ⟨e1, e2, e3⟩ := e
    obtain ⟨a, ha, rfl⟩ := sv_isn_t (by omega) e1
    obtain ⟨b, hb, rfl, -⟩ := sv_wel_t (by omega) e3
    rw [nI_clamp (by omega), nI_clamp (by omega)]
    obtain ⟨c1, c2⟩ := sv_her_ok (v := b) (w := a) (x := x &&& 16777215) (y := z &&& 16777215) (fun q => by rw [q, e3] at e2; cases e2) h.1 h.2.1
    exact sv_IV_set ⟨c1, c2, h.2.2⟩
theorem sv_IV_pr (h : sv_IV n qc σ) : sv_IV n qc (sv_prS n qc σ v w x) := by
  unfold sv_prS
  cases e : sv_prC n σ v w x with
  | false => exact h
  | true =>
    have hn := h.1.2.1
    simp only [sv_prC, Bool.and_eq_true, decide_eq_true_eq] at e
    obtain ⟨e1, e2, e3, e4, e5⟩ := e
    obtain ⟨a, ha, rfl, -⟩ := sv_wel_t (by omega) e1
    rw [nI_clamp (by omega)] at e5 ⊢
    obtain ⟨k, hk, ek⟩ := (h.2.1.2 a ha).2.1
    rw [ek] at e5
    obtain ⟨cN, rfl, -, hc⟩ := sv_cpos hk e5 e2
    obtain ⟨x0, rfl, hx⟩ := sv_xsm e3 e4
    obtain ⟨c1, -⟩ := sv_pr1_ok (j := a) h.2.1 hc hx
    obtain ⟨c2, c3, -⟩ := sv_vts_ok (v := a) c1 (nI cN).toNatClampNeg
    exact sv_IV_set ⟨sv_IQ_cg c3 (sv_IQ_cg sv_pr1_Q h.1), c2, h.2.2⟩
theorem sv_IV_co (h : sv_IV n qc σ) : sv_IV n qc (bif sv_wel n σ v then sg σ 9 v.toNatClampNeg 1 else σ) := by
  cases e : sv_wel n σ v with
  | false => exact h
  | true =>
    refine ⟨sv_IQ_cg (sv_eqQ_sg (Or.inr (by decide))) h.1, ?_, h.2.2⟩
    obtain ⟨a, b⟩ := h.2.1
    refine ⟨by show ∃ b, sg σ 9 v.toNatClampNeg 1 1 0 = sv_b b; rw [sg_ne _ _ _ (by decide)]; exact a, fun u hu => ?_⟩
    obtain ⟨b1, b2, b3, b4⟩ := b u hu
    show (∃ b, sg σ 9 v.toNatClampNeg 1 9 u = sv_b b) ∧ (∃ k, k ≤ 4 ∧ sg σ 9 v.toNatClampNeg 1 13 u = nI k) ∧ (∃ x, x ≤ 2 ∧ sg σ 9 v.toNatClampNeg 1 14 u = nI x) ∧ ∀ s t, 12 ≤ s → s < 24 → 12 ≤ t → t < 24 → bt (sg σ 9 v.toNatClampNeg 1 11 u) s = true → bt (sg σ 9 v.toNatClampNeg 1 11 u) t = true → s % 3 = t % 3
    rw [sg_ne σ _ 1 (by decide : (13 : Nat) ≠ 9), sg_ne σ _ 1 (by decide : (14 : Nat) ≠ 9), sg_ne σ _ 1 (by decide : (11 : Nat) ≠ 9)]
    refine ⟨?_, b2, b3, b4⟩
    by_cases q : u = v.toNatClampNeg
    · exact ⟨true, by rw [q, sg_at]; rfl⟩
    · rw [sg_off _ _ (Or.inr q)]
      exact b1
theorem sv_N_or (a b : Int32) : sv_N (a ||| b) = sv_N a ||| sv_N b := by
  unfold sv_N
  rw [Int32.toBitVec_or, BitVec.toNat_or]
theorem sv_IV_mb (h : sv_IV n qc σ) : sv_IV n qc (sv_mbS n qc σ v w) := by
  unfold sv_mbS
  cases e : sv_mbC n qc σ v w with
  | false => exact h
  | true =>
    have hn := h.1.2.1
    simp only [sv_mbC, Bool.and_eq_true, decide_eq_true_eq, Bool.not_eq_true'] at e
    obtain ⟨e1, e2, e3, e4⟩ := e
    obtain ⟨⟨h1, h2, h3, h4, h5⟩, hS, h6⟩ := h
    obtain ⟨a, ha, rfl⟩ := sv_isn_t h4 e2
    obtain ⟨b, hb, rfl⟩ := sv_isn_t (by omega) e3
    rw [nI_clamp (by omega), nI_clamp (by omega)]
    show sv_IV n qc (sg σ 7 a (σ 7 a ||| sv_bit b))
    have e3' : sg σ 7 a (σ 7 a ||| sv_bit b) 3 = σ 3 := sg_ne _ _ _ (by decide)
    have e4' : sg σ 7 a (σ 7 a ||| sv_bit b) 4 = σ 4 := sg_ne _ _ _ (by decide)
    refine ⟨⟨h1, h2, fun u hu => ?_, h4, fun q hq => ?_⟩, sv_IS_sg hS _ (by decide) (by decide) (by decide) (by decide) (by decide), h6⟩
    · unfold sv_own
      rw [e3']
      exact h3 u hu
    · obtain ⟨a1, a2, a3, a4⟩ := h5 q hq
      unfold sv_top at a4 ⊢
      rw [e3', e4', sg_ne σ _ _ (by decide : (5 : Nat) ≠ 7), sg_ne σ _ _ (by decide : (6 : Nat) ≠ 7)]
      refine ⟨a1, a2, ?_, a4⟩
      by_cases qa : q = a
      · subst qa
        rw [sg_at, sv_N_or, sv_bit_nI (by omega)]
        refine sv_or_lt a3 ?_
        rw [sv_N_nI (Nat.pow_lt_pow_right (by decide) (by omega))]
        exact Nat.pow_lt_pow_right (by decide) hb
      · rw [sg_off _ _ (Or.inr qa)]
        exact a3
theorem sv_IV_qt (h : sv_IV n qc σ) : sv_IV n (sv_qtQ n qc σ v w x) (sv_qtS n qc σ v w x) := by
  unfold sv_qtQ sv_qtS
  cases e : sv_qtC n qc σ v w x with
  | false => exact h
  | true =>
    simp only [sv_qtC, Bool.and_eq_true, decide_eq_true_eq] at e
    obtain ⟨e1, e2, e3, e4, e5, e6⟩ := e
    have hI := h.1
    obtain ⟨⟨h1, h2, h3, h4, h5⟩, hS, h6⟩ := h
    obtain ⟨a, ha, rfl⟩ := sv_isn_t (by omega) e2
    rw [nI_clamp (by omega)] at e5 e6
    have hq4 := sv_qc_lt hI ha e5
    have hx : ∃ k, 1 ≤ k ∧ k ≤ 9 ∧ x = nI k := by
      obtain ⟨k, hk, rfl⟩ := nI_of (x := x) (fun q => e3 (Int32.lt_trans q (by decide)))
      rw [show (1 : Int32) = nI 1 from rfl, nI_ltI hk (by decide)] at e3
      rw [nI_ltI (by decide) hk] at e4
      exact ⟨k, by omega, by omega, rfl⟩
    show sv_IV n (qc + 1) (sv_qS σ qc (nI a) w (bif decide (w = -1) then 1 else σ 5 w.toNatClampNeg + 1) x)
    refine ⟨⟨h1, h2, fun u hu => ?_, by omega, fun q hq => ?_⟩, ?_, by omega⟩
    · rw [sv_q_own (by omega) (by omega)]
      by_cases q : u = a
      · rw [if_pos q, q]; omega
      · rw [if_neg q]; exact h3 u hu
    · by_cases hc : q = qc
      · rw [sv_q3, sv_q4, sv_q5, sv_q6, sv_q7, if_pos hc, if_pos hc, if_pos hc, if_pos hc, if_pos hc]
        refine ⟨⟨a, ha, rfl⟩, hx, by show (0 : Nat) < _; exact Nat.two_pow_pos n, ?_⟩
        by_cases hw : w = -1
        · left
          rw [decide_eq_true hw, nI_clamp (by omega), sv_q_top (by omega) (by omega), if_pos ⟨rfl, hw⟩, hc]
          exact ⟨hw, rfl, rfl⟩
        · right
          rw [decide_eq_false hw] at e6 ⊢
          simp only [cond_false, Bool.and_eq_true, decide_eq_true_eq] at e6 ⊢
          obtain ⟨f1, f2, f3⟩ := e6
          obtain ⟨b, hb, rfl⟩ := sv_isn_t h4 f1
          rw [nI_clamp (by omega)] at f2 f3 ⊢
          have hd : ∃ d, 1 ≤ d ∧ d ≤ 2 ∧ σ 5 b = nI d := by
            obtain ⟨-, -, -, ⟨-, g2, -⟩ | ⟨p, d, -, -, g3, g4, -, g6, -⟩⟩ := h5 b hb
            · exact ⟨1, by decide, by decide, g2⟩
            · rw [g6, nI_ltI (by omega) (by decide)] at f3
              exact ⟨d + 1, by omega, by omega, g6⟩
          obtain ⟨d, d1, d2, d3⟩ := hd
          refine ⟨b, d, by omega, rfl, d1, d2, ?_, ?_, ?_⟩
          · rw [sv_q5, if_neg (by omega)]; exact d3
          · rw [d3, show (1 : Int32) = nI 1 from rfl, nI_add]
          · rw [sv_q3, if_neg (by omega)]; exact f2
      · have hlt : q < qc := by omega
        rw [sv_q3, sv_q4, sv_q5, sv_q6, sv_q7, if_neg hc, if_neg hc, if_neg hc, if_neg hc, if_neg hc]
        obtain ⟨⟨u, hu, eu⟩, a2, a3, a4⟩ := h5 q hlt
        refine ⟨⟨u, hu, eu⟩, a2, a3, ?_⟩
        rcases a4 with ⟨b1, b2, b3⟩ | ⟨p, d, b1, b2, b3, b4, b5, b6, b7⟩
        · left
          refine ⟨b1, b2, ?_⟩
          rw [eu, nI_clamp (by omega)] at b3 ⊢
          rw [sv_q_top (by omega) (by omega)]
          by_cases hh : u = a ∧ w = -1
          · rw [decide_eq_true hh.2, cond_true, ← hh.1, b3] at e6
            cases e6
          · rw [if_neg hh]
            exact b3
        · right
          refine ⟨p, d, b1, b2, b3, b4, ?_, b6, ?_⟩
          · rw [sv_q5, if_neg (by omega)]; exact b5
          · rw [sv_q3, if_neg (by omega)]; exact b7
    · obtain ⟨s1, s2⟩ := hS
      unfold sv_IS
      rw [sv_qo (Or.inl (by decide)), sv_qo (Or.inr (by decide)), sv_qo (Or.inr (by decide)), sv_qo (Or.inr (by decide)), sv_qo (Or.inr (by decide))]
      exact ⟨s1, s2⟩
end SvInv
