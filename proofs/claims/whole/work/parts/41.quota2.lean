section SvQuota2
/-! the state with one quota more -/
variable {σ : Sg} {n qc : Nat} {v : Nat} {w lw x : Int32}
theorem sv_q3 (q : Nat) : sv_qS σ qc (nI v) w lw x 3 q = if q = qc then nI v else σ 3 q := by
  unfold sv_qS
  rw [sg_ne _ _ _ (by decide), sg_ne _ _ _ (by decide), sg_ne _ _ _ (by decide), sg_ne _ _ _ (by decide), sg_same]
  rfl
theorem sv_q4 (q : Nat) : sv_qS σ qc (nI v) w lw x 4 q = if q = qc then w else σ 4 q := by
  unfold sv_qS
  rw [sg_ne _ _ _ (by decide), sg_ne _ _ _ (by decide), sg_ne _ _ _ (by decide), sg_same, sg_ne _ _ _ (by decide)]
  rfl
theorem sv_q5 (q : Nat) : sv_qS σ qc (nI v) w lw x 5 q = if q = qc then lw else σ 5 q := by
  unfold sv_qS
  rw [sg_ne _ _ _ (by decide), sg_ne _ _ _ (by decide), sg_same, sg_ne _ _ _ (by decide), sg_ne _ _ _ (by decide)]
  rfl
theorem sv_q6 (q : Nat) : sv_qS σ qc (nI v) w lw x 6 q = if q = qc then x else σ 6 q := by
  unfold sv_qS
  rw [sg_ne _ _ _ (by decide), sg_same, sg_ne _ _ _ (by decide), sg_ne _ _ _ (by decide), sg_ne _ _ _ (by decide)]
  rfl
theorem sv_q7 (q : Nat) : sv_qS σ qc (nI v) w lw x 7 q = if q = qc then 0 else σ 7 q := by
  unfold sv_qS
  rw [sg_same, sg_ne _ _ _ (by decide), sg_ne _ _ _ (by decide), sg_ne _ _ _ (by decide), sg_ne _ _ _ (by decide)]
  rfl
theorem sv_qo {k : Nat} (h : k < 3 ∨ 7 < k) : sv_qS σ qc (nI v) w lw x k = σ k := by
  unfold sv_qS
  rw [sg_ne _ _ _ (by omega), sg_ne _ _ _ (by omega), sg_ne _ _ _ (by omega), sg_ne _ _ _ (by omega), sg_ne _ _ _ (by omega)]
theorem sv_q_top {u : Nat} (hu : u < 100) (hv : v < 100) : sv_top (sv_qS σ qc (nI v) w lw x) (qc + 1) u = if u = v ∧ w = -1 then some qc else sv_top σ qc u := by
  unfold sv_top
  have e : sv_last (fun q => (sv_qS σ qc (nI v) w lw x 3 q == nI u) && (sv_qS σ qc (nI v) w lw x 4 q == -1)) qc = sv_last (fun q => (σ 3 q == nI u) && (σ 4 q == -1)) qc := sv_last_congr qc fun j hj => by
    rw [sv_q3, sv_q4, if_neg (Nat.ne_of_lt hj), if_neg (Nat.ne_of_lt hj)]
  by_cases h : u = v ∧ w = -1
  · rw [if_pos h]
    apply sv_last_t
    rw [sv_q3, sv_q4, if_pos rfl, if_pos rfl, h.1, h.2]
    simp
  · rw [if_neg h, sv_last_f, e]
    rw [sv_q3, sv_q4, if_pos rfl, if_pos rfl]
    by_cases h1 : u = v
    · have h2 : ¬ w = -1 := fun q => h ⟨h1, q⟩
      rw [show (w == -1) = false from beq_eq_false_iff_ne.mpr h2, Bool.and_false]
    · rw [show (nI v == nI u) = false from beq_eq_false_iff_ne.mpr (fun q => h1 ((nI_eq (by omega) (by omega)).mp q).symm)]
      rfl
theorem sv_q_own {u : Nat} (hu : u < 100) (hv : v < 100) : sv_own (sv_qS σ qc (nI v) w lw x) (qc + 1) u = sv_own σ qc u + if u = v then 1 else 0 := by
  unfold sv_own
  have e : sv_cnt (fun q => sv_qS σ qc (nI v) w lw x 3 q == nI u) 0 qc = sv_cnt (fun q => σ 3 q == nI u) 0 qc := sv_cnt_congr qc fun j _ hj => by
    rw [sv_q3, if_neg (Nat.ne_of_lt hj)]
  by_cases h1 : u = v
  · rw [if_pos h1, sv_cnt_t (Nat.zero_le _) (by rw [sv_q3, if_pos rfl, h1]; simp), e]
  · rw [if_neg h1, sv_cnt_f (by rw [sv_q3, if_pos rfl]; exact beq_eq_false_iff_ne.mpr (fun q => h1 ((nI_eq (by omega) (by omega)).mp q).symm)), e]
    rfl
theorem sv_q_fst {q : Nat} : sv_fst (sv_qS σ qc (nI v) w lw x) (qc + 1) q = if w = nI q then some qc else sv_fst σ qc q := by
  unfold sv_fst
  have e : sv_last (fun i => sv_qS σ qc (nI v) w lw x 4 i == nI q) qc = sv_last (fun i => σ 4 i == nI q) qc := sv_last_congr qc fun j hj => by
    rw [sv_q4, if_neg (Nat.ne_of_lt hj)]
  by_cases h : w = nI q
  · rw [if_pos h]
    apply sv_last_t
    rw [sv_q4, if_pos rfl, h]
    simp
  · rw [if_neg h, sv_last_f, e]
    rw [sv_q4, if_pos rfl]
    exact beq_eq_false_iff_ne.mpr h
theorem sv_q_nxt {q : Nat} (hq : q < qc) : sv_nxt (sv_qS σ qc (nI v) w lw x) q = sv_nxt σ q := by
  unfold sv_nxt
  rw [sv_q4, if_neg (Nat.ne_of_lt hq), sv_last_congr (P := fun j => sv_qS σ qc (nI v) w lw x 4 j == σ 4 q) (P' := fun j => σ 4 j == σ 4 q) q (fun j hj => by rw [sv_q4, if_neg (by omega)])]
theorem sv_q_nxtN : sv_nxt (sv_qS σ qc (nI v) w lw x) qc = if w = -1 then none else sv_last (fun j => σ 4 j == w) qc := by
  unfold sv_nxt
  rw [sv_q4, if_pos rfl, sv_last_congr (P := fun j => sv_qS σ qc (nI v) w lw x 4 j == w) (P' := fun j => σ 4 j == w) qc (fun j hj => by rw [sv_q4, if_neg (by omega)])]
theorem sv_fst_qc (hI : sv_IQ n qc σ) : sv_fst σ qc qc = none := by
  unfold sv_fst
  refine sv_last_no qc fun j hj => beq_eq_false_iff_ne.mpr fun e => ?_
  have h24 := hI.2.2.2.1
  obtain ⟨-, -, -, h | ⟨p, d, h1, h2, -⟩⟩ := hI.2.2.2.2 j hj
  · rw [e] at h
    have := nI_pos (n := qc) (by omega)
    rw [h.1] at this
    exact this (by decide)
  · rw [e] at h2
    have := (nI_eq (by omega) (by omega)).mp h2
    omega
/-- the addresses grow by one: what the cells hold stays -/
theorem sv_ce_ad {cI cN cQ : ClassId} {ad ad1 : Nat → Nat} (hI : sv_IQ n qc σ) (h : ∀ k, k < 3 + 3 * n + qc → ad k = ad1 k) : ∀ k, k < 3 + 3 * n + qc → sv_ce cI cN cQ n qc ad σ k = sv_ce cI cN cQ n qc ad1 σ k := by
  have hrq : ∀ o : Option Nat, (∀ t, o = some t → t < qc) → sv_rq ad n o = sv_rq ad1 n o := by
    intro o ho
    cases o with
    | none => rfl
    | some t =>
      show Value.ref (ad (3 + 3 * n + t)) = Value.ref (ad1 (3 + 3 * n + t))
      rw [h _ (by have := ho t rfl; omega)]
  refine sv_cells ?_ ?_ (fun v hv => ⟨?_, ?_, ?_⟩) ?_ (fun q hq => ?_)
  · rw [sv_ce_S, sv_ce_S]
    unfold sv_fS
    rw [h 1 (by omega), h (2 + 3 * n) (by omega)]
  · rw [sv_ce_A, sv_ce_A]
    congr 7
    funext u
    by_cases hu : u < n
    · rw [if_pos hu, if_pos hu, h _ (by omega)]
    · rw [if_neg hu, if_neg hu]
  · rw [sv_ce_N hv, sv_ce_N hv]
    unfold sv_fN
    rw [h (3 + 3 * v) (by omega), h (4 + 3 * v) (by omega), hrq _ (fun t ht => sv_top_lt ht)]
  · rw [sv_ce_V hv, sv_ce_V hv]
  · rw [sv_ce_C hv, sv_ce_C hv]
  · rw [sv_ce_B, sv_ce_B]
    congr 7
    funext u
    by_cases hu : u < qc
    · rw [if_pos hu, if_pos hu, h _ (by omega)]
    · rw [if_neg hu, if_neg hu]
  · rw [sv_ce_Q, sv_ce_Q]
    unfold sv_fQ
    obtain ⟨⟨u, hu, e⟩, -⟩ := hI.2.2.2.2 q hq
    have h6 := hI.2.1
    rw [e, nI_clamp (by omega), h _ (by omega), hrq _ (fun t ht => (sv_fst_in (n := n) ht).1), hrq _ (fun t ht => by have := (sv_nxt_in ht).1; omega)]
theorem sv_up_s {f : Nat → va_E} {k : Nat} {e : va_E} : va_up f k e k = e := if_pos rfl
theorem sv_up_o {f : Nat → va_E} {k j : Nat} {e : va_E} (h : j ≠ k) : va_up f k e j = f j := if_neg h
/-- a top quota comes: all cells behind it -/
theorem sv_ce_top {cI cN cQ : ClassId} {ad : Nat → Nat} (hI : sv_IQ n qc σ) (hv : v < n) (ht : sv_top σ qc v = none) : ∀ k, k < 3 + 3 * n + (qc + 1) →
    va_up (va_up (va_up (va_up (va_up (sv_ce cI cN cQ n qc ad σ) (3 + 3 * n + qc) (.inr (sv_kQ, [.ref (ad (2 + 3 * v)), .int 1, .int x, .int 0, .null, .null]))) (2 + 3 * v) (.inr (sv_kN, (sv_fN n qc ad σ v).set 7 (.ref (ad (3 + 3 * n + qc)))))) (2 + 3 * v) (.inr (sv_kN, ((sv_fN n qc ad σ v).set 7 (.ref (ad (3 + 3 * n + qc)))).set 8 (.int (nI (sv_own σ qc v + 1))))))
      (2 + 3 * n) (.inl (cQ, 4 * n, .inr (.inr (.inr (.inr (va_up (fun q => if q < qc then some (ad (3 + 3 * n + q)) else none) qc (some (ad (3 + 3 * n + qc)))))))))) 0 (.inr (sv_kS, (sv_fS n qc ad σ).set 3 (.int (nI (qc + 1))))) k = sv_ce cI cN cQ n (qc + 1) ad (sv_qS σ qc (nI v) (-1) 1 x) k := by
  have h6 := hI.2.1
  have h24 := hI.2.2.2.1
  refine sv_cells ?_ ?_ (fun u hu => ⟨?_, ?_, ?_⟩) ?_ (fun q hq => ?_)
  · rw [sv_up_s, sv_ce_S]
    unfold sv_fS
    rw [sv_wbN_cg (sv_qo (Or.inr (by decide))), sv_qo (Or.inl (by decide))]
    rfl
  · rw [sv_up_o (by omega), sv_up_o (by omega), sv_up_o (by omega), sv_up_o (by omega), sv_up_o (by omega), sv_ce_A, sv_ce_A]
  · rw [sv_up_o (by omega), sv_up_o (by omega)]
    by_cases e : u = v
    · subst e
      rw [sv_up_s, sv_ce_N hu]
      unfold sv_fN
      rw [sv_q_top (by omega) (by omega), if_pos ⟨rfl, rfl⟩, sv_q_own (by omega) (by omega), if_pos rfl, sv_qo (Or.inr (by decide)), sv_qo (Or.inr (by decide)), sv_qo (Or.inr (by decide)), sv_qo (Or.inr (by decide))]
      rfl
    · rw [sv_up_o (by omega), sv_up_o (by omega), sv_up_o (by omega), sv_ce_N hu, sv_ce_N hu]
      unfold sv_fN
      rw [sv_q_top (by omega) (by omega), if_neg (fun q => e q.1), sv_q_own (by omega) (by omega), if_neg e, sv_qo (Or.inr (by decide)), sv_qo (Or.inr (by decide)), sv_qo (Or.inr (by decide)), sv_qo (Or.inr (by decide))]
      rfl
  · rw [sv_up_o (by omega), sv_up_o (by omega), sv_up_o (by omega), sv_up_o (by omega), sv_up_o (by omega), sv_ce_V hu, sv_ce_V hu]
    unfold sv_kv
    rw [sv_qo (Or.inr (by decide)), sv_qo (Or.inr (by decide))]
  · rw [sv_up_o (by omega), sv_up_o (by omega), sv_up_o (by omega), sv_up_o (by omega), sv_up_o (by omega), sv_ce_C hu, sv_ce_C hu]
    unfold sv_ka
    rw [sv_qo (Or.inr (by decide)), sv_qo (Or.inr (by decide))]
  · rw [sv_up_o (by omega), sv_up_s, sv_ce_B]
    congr 7
    funext u
    by_cases hu : u = qc
    · subst hu
      rw [if_pos (by omega)]
      simp [va_up]
    · rw [show va_up (fun q => if q < qc then some (ad (3 + 3 * n + q)) else none) qc (some (ad (3 + 3 * n + qc))) u = (if u < qc then some (ad (3 + 3 * n + u)) else none) from if_neg hu]
      by_cases hu2 : u < qc
      · rw [if_pos hu2, if_pos (by omega)]
      · rw [if_neg hu2, if_neg (by omega)]
  · rw [sv_up_o (by omega), sv_up_o (by omega), sv_up_o (by omega), sv_up_o (by omega)]
    by_cases e : q = qc
    · subst e
      rw [sv_up_s, sv_ce_Q]
      unfold sv_fQ
      rw [sv_q3, sv_q5, sv_q6, sv_q7, if_pos rfl, if_pos rfl, if_pos rfl, if_pos rfl, nI_clamp (by omega), sv_q_fst, if_neg (fun h => by have := nI_pos (n := q) (by omega); rw [← h] at this; exact this (by decide)), sv_fst_qc hI, sv_q_nxtN, if_pos rfl]
      rfl
    · rw [sv_up_o (by omega), sv_ce_Q, sv_ce_Q]
      unfold sv_fQ
      rw [sv_q3, sv_q5, sv_q6, sv_q7, if_neg e, if_neg e, if_neg e, if_neg e, sv_q_fst, if_neg (fun h => by have := nI_pos (n := q) (by omega); rw [← h] at this; exact this (by decide)), sv_q_nxt (by omega)]
/-- an inner quota comes -/
theorem sv_ce_inn {cI cN cQ : ClassId} {ad : Nat → Nat} {b : Nat} (hI : sv_IQ n qc σ) (hv : v < n) (hb : b < qc) : ∀ k, k < 3 + 3 * n + (qc + 1) →
    va_up (va_up (va_up (va_up (va_up (sv_ce cI cN cQ n qc ad σ) (3 + 3 * n + qc) (.inr (sv_kQ, [.ref (ad (2 + 3 * v)), .int lw, .int x, .int 0, .null, sv_rq ad n (sv_fst σ qc b)]))) (3 + 3 * n + b) (.inr (sv_kQ, (sv_fQ n qc ad σ b).set 4 (.ref (ad (3 + 3 * n + qc)))))) (2 + 3 * v) (.inr (sv_kN, (sv_fN n qc ad σ v).set 8 (.int (nI (sv_own σ qc v + 1))))))
      (2 + 3 * n) (.inl (cQ, 4 * n, .inr (.inr (.inr (.inr (va_up (fun q => if q < qc then some (ad (3 + 3 * n + q)) else none) qc (some (ad (3 + 3 * n + qc)))))))))) 0 (.inr (sv_kS, (sv_fS n qc ad σ).set 3 (.int (nI (qc + 1))))) k = sv_ce cI cN cQ n (qc + 1) ad (sv_qS σ qc (nI v) (nI b) lw x) k := by
  have h6 := hI.2.1
  have h24 := hI.2.2.2.1
  have hb1 : ¬ nI b = -1 := fun h => by have := nI_pos (n := b) (by omega); rw [h] at this; exact this (by decide)
  refine sv_cells ?_ ?_ (fun u hu => ⟨?_, ?_, ?_⟩) ?_ (fun q hq => ?_)
  · rw [sv_up_s, sv_ce_S]
    unfold sv_fS
    rw [sv_wbN_cg (sv_qo (Or.inr (by decide))), sv_qo (Or.inl (by decide))]
    rfl
  · rw [sv_up_o (by omega), sv_up_o (by omega), sv_up_o (by omega), sv_up_o (by omega), sv_up_o (by omega), sv_ce_A, sv_ce_A]
  · rw [sv_up_o (by omega), sv_up_o (by omega)]
    by_cases e : u = v
    · subst e
      rw [sv_up_s, sv_ce_N hu]
      unfold sv_fN
      rw [sv_q_top (by omega) (by omega), if_neg (fun q => hb1 q.2), sv_q_own (by omega) (by omega), if_pos rfl, sv_qo (Or.inr (by decide)), sv_qo (Or.inr (by decide)), sv_qo (Or.inr (by decide)), sv_qo (Or.inr (by decide))]
      rfl
    · rw [sv_up_o (by omega), sv_up_o (by omega), sv_up_o (by omega), sv_ce_N hu, sv_ce_N hu]
      unfold sv_fN
      rw [sv_q_top (by omega) (by omega), if_neg (fun q => e q.1), sv_q_own (by omega) (by omega), if_neg e, sv_qo (Or.inr (by decide)), sv_qo (Or.inr (by decide)), sv_qo (Or.inr (by decide)), sv_qo (Or.inr (by decide))]
      rfl
  · rw [sv_up_o (by omega), sv_up_o (by omega), sv_up_o (by omega), sv_up_o (by omega), sv_up_o (by omega), sv_ce_V hu, sv_ce_V hu]
    unfold sv_kv
    rw [sv_qo (Or.inr (by decide)), sv_qo (Or.inr (by decide))]
  · rw [sv_up_o (by omega), sv_up_o (by omega), sv_up_o (by omega), sv_up_o (by omega), sv_up_o (by omega), sv_ce_C hu, sv_ce_C hu]
    unfold sv_ka
    rw [sv_qo (Or.inr (by decide)), sv_qo (Or.inr (by decide))]
  · rw [sv_up_o (by omega), sv_up_s, sv_ce_B]
    congr 7
    funext u
    by_cases hu : u = qc
    · subst hu
      rw [if_pos (by omega)]
      simp [va_up]
    · rw [show va_up (fun q => if q < qc then some (ad (3 + 3 * n + q)) else none) qc (some (ad (3 + 3 * n + qc))) u = (if u < qc then some (ad (3 + 3 * n + u)) else none) from if_neg hu]
      by_cases hu2 : u < qc
      · rw [if_pos hu2, if_pos (by omega)]
      · rw [if_neg hu2, if_neg (by omega)]
  · rw [sv_up_o (by omega), sv_up_o (by omega), sv_up_o (by omega)]
    by_cases e : q = qc
    · subst e
      rw [sv_up_o (by omega), sv_up_s, sv_ce_Q]
      unfold sv_fQ
      rw [sv_q3, sv_q5, sv_q6, sv_q7, if_pos rfl, if_pos rfl, if_pos rfl, if_pos rfl, nI_clamp (by omega), sv_q_fst, if_neg (fun h => by have := (nI_eq (by omega) (by omega)).mp h; omega), sv_fst_qc hI, sv_q_nxtN, if_neg hb1]
      rfl
    · by_cases e2 : q = b
      · subst e2
        rw [sv_up_s, sv_ce_Q]
        unfold sv_fQ
        rw [sv_q3, sv_q5, sv_q6, sv_q7, if_neg e, if_neg e, if_neg e, if_neg e, sv_q_fst, if_pos rfl, sv_q_nxt (by omega)]
        rfl
      · rw [sv_up_o (by omega), sv_up_o (by omega), sv_ce_Q, sv_ce_Q]
        unfold sv_fQ
        rw [sv_q3, sv_q5, sv_q6, sv_q7, if_neg e, if_neg e, if_neg e, if_neg e, sv_q_fst, if_neg (fun h => e2 ((nI_eq (by omega) (by omega)).mp h).symm), sv_q_nxt (by omega)]
end SvQuota2
