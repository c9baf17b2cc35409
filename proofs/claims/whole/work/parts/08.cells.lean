section SvChain
/-! inner quotas, newest first: what is still to be counted from one on -/
def sv_rem (σ : Sg) (qc S q : Nat) (o : Option Nat) : Nat := match o with
  | none => 0
  | some j => sv_cnt (sv_inn σ (sv_met σ qc S) q) (q + 1) (j + 1)
theorem sv_par {n qc : Nat} {σ : Sg} (hI : sv_IQ n qc σ) {q j : Nat} (hj : j < qc) (hq : q < qc) (h : σ 4 j = nI q) : q < j ∧ σ 3 q = σ 3 j ∧ ∃ d, 1 ≤ d ∧ d ≤ 2 ∧ σ 5 q = nI d ∧ σ 5 j = nI (d + 1) := by
  obtain ⟨-, -, -, h24, h5⟩ := hI
  obtain ⟨-, -, -, h6 | ⟨p, d, a1, a2, a3, a4, a5, a6, a7⟩⟩ := h5 j hj
  · rw [h] at h6
    exact absurd h6.1 (fun e => by
      have := nI_pos (n := q) (by omega)
      rw [e] at this
      exact this (by decide))
  · have e : p = q := (nI_eq (by omega) (by omega)).mp (a2.symm.trans h)
    subst e
    exact ⟨a1, a7, d, a3, a4, a5, a6⟩
theorem sv_fst_in {n qc : Nat} {σ : Sg} {q j : Nat} (h : sv_fst σ qc q = some j) : j < qc ∧ σ 4 j = nI q := by
  obtain ⟨h1, h2, -⟩ := sv_last_some qc h
  exact ⟨h1, eq_of_beq h2⟩
theorem sv_nxt_in {σ : Sg} {i j : Nat} (h : sv_nxt σ j = some i) : i < j ∧ σ 4 i = σ 4 j := by
  unfold sv_nxt at h
  by_cases e : σ 4 j = -1
  · rw [if_pos e] at h; cases h
  · rw [if_neg e] at h
    obtain ⟨h1, h2, -⟩ := sv_last_some j h
    exact ⟨h1, eq_of_beq h2⟩
theorem sv_inn_f {σ : Sg} {mt : Nat → Bool} {q i : Nat} (h : (σ 4 i == nI q) = false) : sv_inn σ mt q i = false := by
  unfold sv_inn
  rw [h]
  rfl
theorem sv_rem_fst {qc : Nat} {σ : Sg} (S q : Nat) : sv_rem σ qc S q (sv_fst σ qc q) = sv_cnt (sv_inn σ (sv_met σ qc S) q) (q + 1) qc := by
  cases e : sv_fst σ qc q with
  | none =>
    have h := sv_last_none qc e
    show 0 = _
    rw [sv_cnt_skip (j := 0) qc (Nat.zero_le _) (fun i _ hi => sv_inn_f (h i hi))]
    rfl
  | some j =>
    obtain ⟨h1, -, h3⟩ := sv_last_some qc e
    exact (sv_cnt_skip (j := j + 1) qc (by omega) (fun i h4 h5 => sv_inn_f (h3 i (by omega) h5))).symm
theorem sv_rem_nxt {n qc : Nat} {σ : Sg} (hI : sv_IQ n qc σ) (S : Nat) {q j : Nat} (hj : j < qc) (hq : q < qc) (h : σ 4 j = nI q) : sv_rem σ qc S q (some j) = sv_rem σ qc S q (sv_nxt σ j) + (bif sv_met σ qc S j then 1 else 0) := by
  obtain ⟨h1, -, d, -⟩ := sv_par hI hj hq h
  have hne : ¬ σ 4 j = -1 := fun e => by
    have := nI_pos (n := q) (by have := hI.2.2.2.1; omega)
    rw [← h, e] at this
    exact this (by decide)
  have e1 : sv_rem σ qc S q (some j) = sv_cnt (sv_inn σ (sv_met σ qc S) q) (q + 1) j + (bif sv_met σ qc S j then 1 else 0) := by
    show sv_cnt _ _ (j + 1) = _
    rw [sv_cnt_s]
    unfold sv_inn
    simp [h, show q + 1 ≤ j by omega]
  rw [e1]
  congr 1
  unfold sv_nxt
  rw [if_neg hne, h]
  cases e : sv_last (fun i => σ 4 i == nI q) j with
  | none =>
    have h2 := sv_last_none j e
    show _ = 0
    rw [sv_cnt_skip (j := 0) j (Nat.zero_le _) (fun i _ hi => sv_inn_f (h2 i hi))]
    rfl
  | some i =>
    obtain ⟨h2, -, h3⟩ := sv_last_some j e
    exact sv_cnt_skip (j := i + 1) j (by omega) (fun i2 h4 h5 => sv_inn_f (h3 i2 (by omega) h5))
/-! the class's cells -/
def sv_rq (ad : Nat → Nat) (n : Nat) (o : Option Nat) : Value := va_rf (o.map fun q => ad (3 + 3 * n + q))
def sv_wbN (σ : Sg) : Nat → Nat
  | 0 => 0
  | k + 1 => bif σ 9 k == 0 then sv_wbN σ k ||| 2 ^ k else sv_wbN σ k
def sv_fS (n qc : Nat) (ad : Nat → Nat) (σ : Sg) : List Value := [.ref (ad 1), .int (nI (2 ^ n - 1)), .ref (ad (2 + 3 * n)), .int (nI qc), .int (nI (sv_wbN σ n)), .int (σ 1 0)]
def sv_fN (n qc : Nat) (ad : Nat → Nat) (σ : Sg) (v : Nat) : List Value := [.int (nI v), .ref (ad (3 + 3 * v)), .ref (ad (4 + 3 * v)), .int (σ 12 v), .int (σ 13 v), .int (σ 14 v), .int (σ 15 v), sv_rq ad n (sv_top σ qc v), .int (nI (sv_own σ qc v))]
def sv_fQ (n qc : Nat) (ad : Nat → Nat) (σ : Sg) (q : Nat) : List Value := [.ref (ad (2 + 3 * (σ 3 q).toNatClampNeg)), .int (σ 5 q), .int (σ 6 q), .int (σ 7 q), sv_rq ad n (sv_fst σ qc q), sv_rq ad n (sv_nxt σ q)]
def sv_ce (cI cN cQ : ClassId) (n qc : Nat) (ad : Nat → Nat) (σ : Sg) (k : Nat) : va_E :=
  if k = 0 then .inr (sv_kS, sv_fS n qc ad σ) else if k = 1 then .inl (cN, n, .inr (.inr (.inr (.inr (fun v => if v < n then some (ad (2 + 3 * v)) else none)))))
  else if k < 2 + 3 * n then (if (k - 2) % 3 = 0 then .inr (sv_kN, sv_fN n qc ad σ ((k - 2) / 3)) else if (k - 2) % 3 = 1 then .inl (cI, n, .inl (sv_kv σ ((k - 2) / 3))) else .inl (cI, n, .inl (sv_ka σ ((k - 2) / 3))))
  else if k = 2 + 3 * n then .inl (cQ, 4 * n, .inr (.inr (.inr (.inr (fun q => if q < qc then some (ad (3 + 3 * n + q)) else none)))))
  else .inr (sv_kQ, sv_fQ n qc ad σ (k - (3 + 3 * n)))
theorem sv_ce_S {cI cN cQ : ClassId} {n qc : Nat} {ad : Nat → Nat} {σ : Sg} : sv_ce cI cN cQ n qc ad σ 0 = .inr (sv_kS, sv_fS n qc ad σ) := if_pos rfl
theorem sv_ce_A {cI cN cQ : ClassId} {n qc : Nat} {ad : Nat → Nat} {σ : Sg} : sv_ce cI cN cQ n qc ad σ 1 = .inl (cN, n, .inr (.inr (.inr (.inr (fun v => if v < n then some (ad (2 + 3 * v)) else none))))) := by
  unfold sv_ce
  rw [if_neg (by decide), if_pos rfl]
theorem sv_ce_N {cI cN cQ : ClassId} {n qc : Nat} {ad : Nat → Nat} {σ : Sg} {v : Nat} (hv : v < n) : sv_ce cI cN cQ n qc ad σ (2 + 3 * v) = .inr (sv_kN, sv_fN n qc ad σ v) := by
  unfold sv_ce
  rw [if_neg (by omega), if_neg (by omega), if_pos (by omega), if_pos (by omega), show (2 + 3 * v - 2) / 3 = v by omega]
theorem sv_ce_V {cI cN cQ : ClassId} {n qc : Nat} {ad : Nat → Nat} {σ : Sg} {v : Nat} (hv : v < n) : sv_ce cI cN cQ n qc ad σ (3 + 3 * v) = .inl (cI, n, .inl (sv_kv σ v)) := by
  unfold sv_ce
  rw [if_neg (by omega), if_neg (by omega), if_pos (by omega), if_neg (by omega), if_pos (by omega), show (3 + 3 * v - 2) / 3 = v by omega]
theorem sv_ce_C {cI cN cQ : ClassId} {n qc : Nat} {ad : Nat → Nat} {σ : Sg} {v : Nat} (hv : v < n) : sv_ce cI cN cQ n qc ad σ (4 + 3 * v) = .inl (cI, n, .inl (sv_ka σ v)) := by
  unfold sv_ce
  rw [if_neg (by omega), if_neg (by omega), if_pos (by omega), if_neg (by omega), if_neg (by omega), show (4 + 3 * v - 2) / 3 = v by omega]
theorem sv_ce_B {cI cN cQ : ClassId} {n qc : Nat} {ad : Nat → Nat} {σ : Sg} : sv_ce cI cN cQ n qc ad σ (2 + 3 * n) = .inl (cQ, 4 * n, .inr (.inr (.inr (.inr (fun q => if q < qc then some (ad (3 + 3 * n + q)) else none))))) := by
  unfold sv_ce
  rw [if_neg (by omega), if_neg (by omega), if_neg (by omega), if_pos rfl]
theorem sv_ce_Q {cI cN cQ : ClassId} {n qc : Nat} {ad : Nat → Nat} {σ : Sg} {q : Nat} : sv_ce cI cN cQ n qc ad σ (3 + 3 * n + q) = .inr (sv_kQ, sv_fQ n qc ad σ q) := by
  unfold sv_ce
  rw [if_neg (by omega), if_neg (by omega), if_neg (by omega), if_neg (by omega), show 3 + 3 * n + q - (3 + 3 * n) = q by omega]
/-- what holds of each kind of cell holds of all -/
theorem sv_cells {n qc : Nat} {P : Nat → Prop} (h0 : P 0) (h1 : P 1) (hn : ∀ v, v < n → P (2 + 3 * v) ∧ P (3 + 3 * v) ∧ P (4 + 3 * v)) (hB : P (2 + 3 * n)) (hq : ∀ q, q < qc → P (3 + 3 * n + q)) : ∀ k, k < 3 + 3 * n + qc → P k := by
  intro k hk
  by_cases e0 : k = 0
  · rw [e0]; exact h0
  · by_cases e1 : k = 1
    · rw [e1]; exact h1
    · by_cases e2 : k < 2 + 3 * n
      · obtain ⟨a1, a2, a3⟩ := hn ((k - 2) / 3) (by omega)
        rcases (show k = 2 + 3 * ((k - 2) / 3) ∨ k = 3 + 3 * ((k - 2) / 3) ∨ k = 4 + 3 * ((k - 2) / 3) by omega) with e | e | e
        · rw [e]; exact a1
        · rw [e]; exact a2
        · rw [e]; exact a3
      · by_cases e3 : k = 2 + 3 * n
        · rw [e3]; exact hB
        · rw [show k = 3 + 3 * n + (k - (3 + 3 * n)) by omega]
          exact hq _ (by omega)
end SvChain
section SvPut
variable {cI cN cQ : ClassId} {n qc : Nat} {ad : Nat → Nat} {σ τ : Sg}
theorem sv_wbN_cg (h : τ 9 = σ 9) : ∀ k, sv_wbN τ k = sv_wbN σ k
  | 0 => rfl
  | k + 1 => by unfold sv_wbN; rw [sv_wbN_cg h k, h]
theorem sv_fN_cg (hQ : sv_eqQ σ τ) {v : Nat} (h12 : τ 12 v = σ 12 v) (h13 : τ 13 v = σ 13 v) (h14 : τ 14 v = σ 14 v) (h15 : τ 15 v = σ 15 v) : sv_fN n qc ad τ v = sv_fN n qc ad σ v := by
  unfold sv_fN
  rw [h12, h13, h14, h15, sv_top_cg hQ, sv_own_cg hQ]
theorem sv_fQ_cg (hQ : sv_eqQ σ τ) (q : Nat) : sv_fQ n qc ad τ q = sv_fQ n qc ad σ q := by
  unfold sv_fQ
  rw [hQ 3 (by decide) (by decide), hQ 5 (by decide) (by decide), hQ 6 (by decide) (by decide), hQ 7 (by decide) (by decide), sv_fst_cg hQ, sv_nxt_cg hQ]
/-- one cell is written, and the state goes along -/
theorem sv_ce_upd (hQ : sv_eqQ σ τ) {k0 : Nat} {e0 : va_E} (hk0 : k0 < 2 + 3 * n) (h1 : k0 ≠ 1) (hS : k0 = 0 ∨ (τ 9 = σ 9 ∧ τ 1 0 = σ 1 0)) (hN : ∀ v, v < n → k0 = 2 + 3 * v ∨ (τ 12 v = σ 12 v ∧ τ 13 v = σ 13 v ∧ τ 14 v = σ 14 v ∧ τ 15 v = σ 15 v)) (hV : ∀ v, v < n → k0 = 3 + 3 * v ∨ sv_kv τ v = sv_kv σ v) (hC : ∀ v, v < n → k0 = 4 + 3 * v ∨ sv_ka τ v = sv_ka σ v) (he : sv_ce cI cN cQ n qc ad τ k0 = e0) :
    ∀ k, k < 3 + 3 * n + qc → va_up (sv_ce cI cN cQ n qc ad σ) k0 e0 k = sv_ce cI cN cQ n qc ad τ k := by
  have key : ∀ k, (k = k0 ∨ sv_ce cI cN cQ n qc ad τ k = sv_ce cI cN cQ n qc ad σ k) → va_up (sv_ce cI cN cQ n qc ad σ) k0 e0 k = sv_ce cI cN cQ n qc ad τ k := by
    intro k hk
    by_cases e : k = k0
    · subst e
      rw [he]
      simp [va_up]
    · rw [show va_up (sv_ce cI cN cQ n qc ad σ) k0 e0 k = sv_ce cI cN cQ n qc ad σ k from if_neg e]
      rcases hk with h | h
      · exact absurd h e
      · exact h.symm
  refine sv_cells ?_ ?_ (fun v hv => ⟨?_, ?_, ?_⟩) ?_ (fun q hq => ?_)
  · refine key 0 ?_
    rcases hS with h | ⟨h, h'⟩
    · exact Or.inl h.symm
    · right
      rw [sv_ce_S, sv_ce_S]
      unfold sv_fS
      rw [sv_wbN_cg h, h']
  · refine key 1 (Or.inr ?_)
    rw [sv_ce_A, sv_ce_A]
  · refine key _ ?_
    rcases hN v hv with h | ⟨a, b, c, d⟩
    · exact Or.inl h.symm
    · right
      rw [sv_ce_N hv, sv_ce_N hv, sv_fN_cg hQ a b c d]
  · refine key _ ?_
    rcases hV v hv with h | h
    · exact Or.inl h.symm
    · right
      rw [sv_ce_V hv, sv_ce_V hv, h]
  · refine key _ ?_
    rcases hC v hv with h | h
    · exact Or.inl h.symm
    · right
      rw [sv_ce_C hv, sv_ce_C hv, h]
  · refine key _ (Or.inr ?_)
    rw [sv_ce_B, sv_ce_B]
  · refine key _ (Or.inr ?_)
    rw [sv_ce_Q, sv_ce_Q, sv_fQ_cg hQ]
theorem sv_kv_sg {k i : Nat} {x : Int32} (v : Nat) (h10 : k ≠ 10) (h16 : k ≠ 16) : sv_kv (sg σ k i x) v = sv_kv σ v := by
  funext w
  unfold sv_kv
  rw [sg_ne σ i x (Ne.symm h10), sg_ne σ i x (Ne.symm h16)]
theorem sv_ka_sg {k i : Nat} {x : Int32} (v : Nat) (h11 : k ≠ 11) (h17 : k ≠ 17) : sv_ka (sg σ k i x) v = sv_ka σ v := by
  funext w
  unfold sv_ka
  rw [sg_ne σ i x (Ne.symm h11), sg_ne σ i x (Ne.symm h17)]
/-- a node's own field of the tags 12 to 15 -/
theorem sv_ce_nf {v f t : Nat} {x : Int32} (hv : v < n) (ht : 12 ≤ t) (ht2 : t ≤ 15) (hf : f + 9 = t) : ∀ k, k < 3 + 3 * n + qc → va_up (sv_ce cI cN cQ n qc ad σ) (2 + 3 * v) (.inr (sv_kN, (sv_fN n qc ad σ v).set f (.int x))) k = sv_ce cI cN cQ n qc ad (sg σ t v x) k := by
  have hQ : sv_eqQ σ (sg σ t v x) := sv_eqQ_sg (Or.inr (by omega))
  refine sv_ce_upd hQ (by omega) (by omega) (Or.inr ⟨sg_ne σ v x (by omega), sg_off σ x (Or.inl (by omega))⟩) (fun u hu => ?_) (fun u hu => Or.inr (sv_kv_sg u (by omega) (by omega))) (fun u hu => Or.inr (sv_ka_sg u (by omega) (by omega))) ?_
  · by_cases e : u = v
    · left; omega
    · right
      exact ⟨sg_off σ x (Or.inr e), sg_off σ x (Or.inr e), sg_off σ x (Or.inr e), sg_off σ x (Or.inr e)⟩
  · rw [sv_ce_N hv]
    unfold sv_fN
    rw [sv_top_cg hQ, sv_own_cg hQ]
    rcases (show t = 12 ∨ t = 13 ∨ t = 14 ∨ t = 15 by omega) with rfl | rfl | rfl | rfl
    · obtain rfl : f = 3 := by omega
      rw [sg_at, sg_off σ x (Or.inl (by decide)), sg_off σ x (Or.inl (by decide)), sg_off σ x (Or.inl (by decide))]; rfl
    · obtain rfl : f = 4 := by omega
      rw [sg_at, sg_off σ x (Or.inl (by decide)), sg_off σ x (Or.inl (by decide)), sg_off σ x (Or.inl (by decide))]; rfl
    · obtain rfl : f = 5 := by omega
      rw [sg_at, sg_off σ x (Or.inl (by decide)), sg_off σ x (Or.inl (by decide)), sg_off σ x (Or.inl (by decide))]; rfl
    · obtain rfl : f = 6 := by omega
      rw [sg_at, sg_off σ x (Or.inl (by decide)), sg_off σ x (Or.inl (by decide)), sg_off σ x (Or.inl (by decide))]; rfl
theorem sv_kv_own {v : Nat} {x : Int32} (hv : v < 6) : upd (sv_kv σ v) v x = sv_kv (sg σ 10 v x) v := by
  funext w
  unfold sv_kv upd
  by_cases e : w = v
  · subst e; simp [sg_at]
  · simp only [if_neg e]
    rw [sg_ne σ v x (by decide : (16 : Nat) ≠ 10)]
theorem sv_ka_own {v : Nat} {x : Int32} (hv : v < 6) : upd (sv_ka σ v) v x = sv_ka (sg σ 11 v x) v := by
  funext w
  unfold sv_ka upd
  by_cases e : w = v
  · subst e; simp [sg_at]
  · simp only [if_neg e]
    rw [sg_ne σ v x (by decide : (17 : Nat) ≠ 11)]
theorem sv_kv_her {v w : Nat} {x : Int32} (hw : w < 6) (hne : w ≠ v) : upd (sv_kv σ v) w x = sv_kv (sg σ 16 (6 * v + w) x) v := by
  funext u
  unfold sv_kv upd
  by_cases e : u = w
  · subst e; simp [sg_at, hne, hw]
  · by_cases e2 : u = v
    · subst e2
      simp only [if_neg e, if_true]
      rw [sg_ne σ _ x (by decide : (10 : Nat) ≠ 16)]
    · simp only [if_neg e, if_neg e2]
      by_cases e3 : u < 6
      · rw [if_pos e3, if_pos e3, sg_off σ x (Or.inr (by omega))]
      · rw [if_neg e3, if_neg e3]
theorem sv_ka_her {v w : Nat} {x : Int32} (hw : w < 6) (hne : w ≠ v) : upd (sv_ka σ v) w x = sv_ka (sg σ 17 (6 * v + w) x) v := by
  funext u
  unfold sv_ka upd
  by_cases e : u = w
  · subst e; simp [sg_at, hne, hw]
  · by_cases e2 : u = v
    · subst e2
      simp only [if_neg e, if_true]
      rw [sg_ne σ _ x (by decide : (11 : Nat) ≠ 17)]
    · simp only [if_neg e, if_neg e2]
      by_cases e3 : u < 6
      · rw [if_pos e3, if_pos e3, sg_off σ x (Or.inr (by omega))]
      · rw [if_neg e3, if_neg e3]
theorem sv_kv_ot {u v : Nat} {k i : Nat} {x : Int32} (hu : u ≠ v) (hk : (k = 10 ∧ i = v) ∨ (k = 16 ∧ ∃ w, w < 6 ∧ i = 6 * v + w)) : sv_kv (sg σ k i x) u = sv_kv σ u := by
  funext w
  unfold sv_kv
  rcases hk with ⟨rfl, rfl⟩ | ⟨rfl, w0, hw, rfl⟩
  · rw [sg_off σ x (Or.inr hu), sg_ne σ _ x (by decide : (16 : Nat) ≠ 10)]
  · rw [sg_ne σ _ x (by decide : (10 : Nat) ≠ 16)]
    by_cases e : w < 6
    · rw [sg_off σ x (Or.inr (by omega))]
    · simp [e]
theorem sv_ka_ot {u v : Nat} {k i : Nat} {x : Int32} (hu : u ≠ v) (hk : (k = 11 ∧ i = v) ∨ (k = 17 ∧ ∃ w, w < 6 ∧ i = 6 * v + w)) : sv_ka (sg σ k i x) u = sv_ka σ u := by
  funext w
  unfold sv_ka
  rcases hk with ⟨rfl, rfl⟩ | ⟨rfl, w0, hw, rfl⟩
  · rw [sg_off σ x (Or.inr hu), sg_ne σ _ x (by decide : (17 : Nat) ≠ 11)]
  · rw [sg_ne σ _ x (by decide : (11 : Nat) ≠ 17)]
    by_cases e : w < 6
    · rw [sg_off σ x (Or.inr (by omega))]
    · simp [e]
/-- the tag and the place where v keeps what w said: votes -/
def sv_tv (v w : Nat) : Nat := if w = v then 10 else 16
def sv_ta (v w : Nat) : Nat := if w = v then 11 else 17
def sv_tp (v w : Nat) : Nat := if w = v then v else 6 * v + w
theorem sv_ce_kv {v w : Nat} {x : Int32} (hv : v < n) (hn : n ≤ 6) (hw : w < n) : ∀ k, k < 3 + 3 * n + qc → va_up (sv_ce cI cN cQ n qc ad σ) (3 + 3 * v) (.inl (cI, n, .inl (upd (sv_kv σ v) w x))) k = sv_ce cI cN cQ n qc ad (sg σ (sv_tv v w) (sv_tp v w) x) k := by
  have ht : sv_tv v w = 10 ∨ sv_tv v w = 16 := by unfold sv_tv; split <;> simp
  have hQ : sv_eqQ σ (sg σ (sv_tv v w) (sv_tp v w) x) := sv_eqQ_sg (Or.inr (by omega))
  refine sv_ce_upd hQ (by omega) (by omega) (Or.inr ⟨sg_ne σ _ x (by omega), sg_off σ x (Or.inl (by omega))⟩) (fun u hu => Or.inr ⟨sg_off σ x (Or.inl (by omega)), sg_off σ x (Or.inl (by omega)), sg_off σ x (Or.inl (by omega)), sg_off σ x (Or.inl (by omega))⟩) (fun u hu => ?_) (fun u hu => Or.inr (sv_ka_sg u (by omega) (by omega))) ?_
  · by_cases e : u = v
    · left; omega
    · right
      refine sv_kv_ot (v := v) e ?_
      unfold sv_tv sv_tp
      by_cases e2 : w = v
      · rw [if_pos e2, if_pos e2]; exact Or.inl ⟨rfl, rfl⟩
      · rw [if_neg e2, if_neg e2]; exact Or.inr ⟨rfl, w, by omega, rfl⟩
  · rw [sv_ce_V hv]
    unfold sv_tv sv_tp
    by_cases e2 : w = v
    · subst e2
      rw [if_pos rfl, if_pos rfl, sv_kv_own (by omega)]
    · rw [if_neg e2, if_neg e2, sv_kv_her (by omega) e2]
theorem sv_ce_ka {v w : Nat} {x : Int32} (hv : v < n) (hn : n ≤ 6) (hw : w < n) : ∀ k, k < 3 + 3 * n + qc → va_up (sv_ce cI cN cQ n qc ad σ) (4 + 3 * v) (.inl (cI, n, .inl (upd (sv_ka σ v) w x))) k = sv_ce cI cN cQ n qc ad (sg σ (sv_ta v w) (sv_tp v w) x) k := by
  have ht : sv_ta v w = 11 ∨ sv_ta v w = 17 := by unfold sv_ta; split <;> simp
  have hQ : sv_eqQ σ (sg σ (sv_ta v w) (sv_tp v w) x) := sv_eqQ_sg (Or.inr (by omega))
  refine sv_ce_upd hQ (by omega) (by omega) (Or.inr ⟨sg_ne σ _ x (by omega), sg_off σ x (Or.inl (by omega))⟩) (fun u hu => Or.inr ⟨sg_off σ x (Or.inl (by omega)), sg_off σ x (Or.inl (by omega)), sg_off σ x (Or.inl (by omega)), sg_off σ x (Or.inl (by omega))⟩) (fun u hu => Or.inr (sv_kv_sg u (by omega) (by omega))) (fun u hu => ?_) ?_
  · by_cases e : u = v
    · left; omega
    · right
      refine sv_ka_ot (v := v) e ?_
      unfold sv_ta sv_tp
      by_cases e2 : w = v
      · rw [if_pos e2, if_pos e2]; exact Or.inl ⟨rfl, rfl⟩
      · rw [if_neg e2, if_neg e2]; exact Or.inr ⟨rfl, w, by omega, rfl⟩
  · rw [sv_ce_C hv]
    unfold sv_ta sv_tp
    by_cases e2 : w = v
    · subst e2
      rw [if_pos rfl, if_pos rfl, sv_ka_own (by omega)]
    · rw [if_neg e2, if_neg e2, sv_ka_her (by omega) e2]
theorem sv_ce_mov {x : Int32} : ∀ k, k < 3 + 3 * n + qc → va_up (sv_ce cI cN cQ n qc ad σ) 0 (.inr (sv_kS, (sv_fS n qc ad σ).set 5 (.int x))) k = sv_ce cI cN cQ n qc ad (sg σ 1 0 x) k := by
  have hQ : sv_eqQ σ (sg σ 1 0 x) := sv_eqQ_sg (Or.inl (by omega))
  refine sv_ce_upd hQ (by omega) (by omega) (Or.inl rfl) (fun u hu => Or.inr ⟨sg_off σ x (Or.inl (by decide)), sg_off σ x (Or.inl (by decide)), sg_off σ x (Or.inl (by decide)), sg_off σ x (Or.inl (by decide))⟩) (fun u hu => Or.inr (sv_kv_sg u (by decide) (by decide))) (fun u hu => Or.inr (sv_ka_sg u (by decide) (by decide))) ?_
  rw [sv_ce_S]
  unfold sv_fS
  rw [sv_wbN_cg (sg_ne σ 0 x (by decide)), sg_at]
  rfl
theorem sv_ce_ill {v : Nat} {x : Int32} : ∀ k, k < 3 + 3 * n + qc → va_up (sv_ce cI cN cQ n qc ad σ) 0 (.inr (sv_kS, (sv_fS n qc ad σ).set 4 (.int (nI (sv_wbN (sg σ 9 v x) n))))) k = sv_ce cI cN cQ n qc ad (sg σ 9 v x) k := by
  have hQ : sv_eqQ σ (sg σ 9 v x) := sv_eqQ_sg (Or.inr (by omega))
  refine sv_ce_upd hQ (by omega) (by omega) (Or.inl rfl) (fun u hu => Or.inr ⟨sg_off σ x (Or.inl (by decide)), sg_off σ x (Or.inl (by decide)), sg_off σ x (Or.inl (by decide)), sg_off σ x (Or.inl (by decide))⟩) (fun u hu => Or.inr (sv_kv_sg u (by decide) (by decide))) (fun u hu => Or.inr (sv_ka_sg u (by decide) (by decide))) ?_
  rw [sv_ce_S]
  unfold sv_fS
  rw [sg_off σ x (Or.inl (by decide : (1 : Nat) ≠ 9))]
  rfl
end SvPut
section SvNode
theorem sv_wbN_bit {σ : Sg} {v : Nat} : ∀ k, (sv_wbN σ k).testBit v = (decide (v < k) && (σ 9 v == 0))
  | 0 => by simp [sv_wbN]
  | k + 1 => by
    cases e : σ 9 k == 0 with
    | false =>
      rw [show sv_wbN σ (k + 1) = sv_wbN σ k by simp [sv_wbN, e], sv_wbN_bit k]
      by_cases h : v = k
      · subst h; simp [e]
      · rw [show decide (v < k + 1) = decide (v < k) from decide_eq_decide.mpr (by omega)]
    | true =>
      rw [show sv_wbN σ (k + 1) = sv_wbN σ k ||| 2 ^ k by simp [sv_wbN, e], Nat.testBit_or, sv_wbN_bit k, Nat.testBit_two_pow]
      by_cases h : v = k
      · subst h; simp [e]
      · rw [show decide (v < k + 1) = decide (v < k) from decide_eq_decide.mpr (by omega), show decide (k = v) = false from decide_eq_false (fun q => h q.symm), Bool.or_false]
theorem sv_wbN_lt {σ : Sg} (k : Nat) : sv_wbN σ k < 2 ^ k := sv_lt_of_bits fun v hv => by
  rw [sv_wbN_bit, Bool.and_eq_true, decide_eq_true_eq] at hv
  exact hv.1
def sv_isn (n : Nat) (v : Int32) : Bool := decide (¬ v < 0) && decide (¬ nI n ≤ v)
theorem sv_isn_t {n : Nat} {v : Int32} (hn : n ≤ 24) (h : sv_isn n v = true) : ∃ j, j < n ∧ v = nI j := by
  unfold sv_isn at h
  rw [Bool.and_eq_true, decide_eq_true_eq, decide_eq_true_eq] at h
  rcases pk_ix v (n := n) (by omega) with h1 | h1 | h1
  · exact absurd h1 h.1
  · exact absurd h1 h.2
  · exact h1
theorem sv_isn_nI {n j : Nat} (hn : n ≤ 24) (h : j < n) : sv_isn n (nI j) = true := by
  unfold sv_isn
  rw [decide_eq_true (nI_pos (by omega)), decide_eq_true (nI_ge h (by omega))]
  rfl
def sv_wel (n : Nat) (σ : Sg) (v : Int32) : Bool := sv_isn n v && (σ 9 v.toNatClampNeg == 0)
theorem sv_wel_t {n : Nat} {σ : Sg} {v : Int32} (hn : n ≤ 24) (h : sv_wel n σ v = true) : ∃ j, j < n ∧ v = nI j ∧ σ 9 j = 0 := by
  unfold sv_wel at h
  rw [Bool.and_eq_true] at h
  obtain ⟨j, hj, rfl⟩ := sv_isn_t hn h.1
  refine ⟨j, hj, rfl, ?_⟩
  have := h.2
  rw [nI_clamp (by omega)] at this
  exact eq_of_beq this
theorem sv_wel_nI {n j : Nat} {σ : Sg} (hn : n ≤ 24) (h : j < n) : sv_wel n σ (nI j) = (σ 9 j == 0) := by
  unfold sv_wel
  rw [sv_isn_nI hn h, nI_clamp (by omega)]
  rfl
/-- a node turns ill -/
theorem sv_wb_ill {n v : Nat} {σ : Sg} (hn : n ≤ 6) (hv : v < n) : nI (sv_wbN σ n) &&& (sv_bit v ^^^ -1) = nI (sv_wbN (sg σ 9 v 1) n) := by
  rw [sv_bit_nI (by omega)]
  refine sv_andn _ fun i _ => ?_
  rw [sv_wbN_bit, sv_wbN_bit, Nat.testBit_two_pow]
  by_cases e : i = v
  · subst e
    rw [sg_at]
    simp
  · rw [sg_off σ _ (Or.inr e)]
    simp [Ne.symm e]
end SvNode
section SvModel
/-! the reference's cells: 0 is the object, k from 1 to 16 the array of tag k + 2 -/
def sv_len (k : Nat) : Nat := if k ≤ 6 then 24 else if k ≤ 13 then 6 else if k ≤ 15 then 36 else 64
def sv_fM (n qc : Nat) (ad : Nat → Nat) (σ : Sg) : List Value := [.int (nI n), .int (σ 1 0), .int (nI qc), .ref (ad 1), .ref (ad 2), .ref (ad 3), .ref (ad 4), .ref (ad 5), .ref (ad 6), .ref (ad 7), .ref (ad 8), .ref (ad 9), .ref (ad 10), .ref (ad 11), .ref (ad 12), .ref (ad 13), .ref (ad 14), .ref (ad 15), .ref (ad 16)]
def sv_mc (cI cZ : ClassId) (k : Nat) : ClassId := if k = 6 ∨ k = 7 ∨ k = 16 then cZ else cI
def sv_mf (σ : Sg) (mt qm : Nat → Int32) (k : Nat) : Nat → Int32 := if k = 6 then mt else if k = 16 then qm else σ (k + 2)
def sv_me (cI cZ : ClassId) (n qc : Nat) (ad : Nat → Nat) (σ : Sg) (mt qm : Nat → Int32) (k : Nat) : va_E :=
  if k = 0 then .inr (sv_kM, sv_fM n qc ad σ) else .inl (sv_mc cI cZ k, sv_len k, .inl (sv_mf σ mt qm k))
theorem sv_me_0 {cI cZ : ClassId} {n qc : Nat} {ad : Nat → Nat} {σ : Sg} {mt qm : Nat → Int32} : sv_me cI cZ n qc ad σ mt qm 0 = .inr (sv_kM, sv_fM n qc ad σ) := if_pos rfl
/-- an array is written: the state's place, or a scratch array's -/
theorem sv_me_sg {cI cZ : ClassId} {n qc : Nat} {ad : Nat → Nat} {σ : Sg} {mt qm : Nat → Int32} {k i : Nat} {x : Int32} (h0 : k ≠ 0) (h6 : k ≠ 6) (h16 : k ≠ 16) (k' : Nat) : va_up (sv_me cI cZ n qc ad σ mt qm) k (.inl (sv_mc cI cZ k, sv_len k, .inl (upd (σ (k + 2)) i x))) k' = sv_me cI cZ n qc ad (sg σ (k + 2) i x) mt qm k' := by
  by_cases e : k' = k
  · subst e
    simp only [va_up, if_true]
    unfold sv_me sv_mf
    rw [if_neg h0, if_neg h6, if_neg h16, sg_same]
  · simp only [va_up, if_neg e]
    unfold sv_me sv_mf sv_fM
    rw [sg_off σ x (Or.inl (by omega)), sg_ne σ i x (show k' + 2 ≠ k + 2 by omega)]
theorem sv_me_mt {cI cZ : ClassId} {n qc : Nat} {ad : Nat → Nat} {σ : Sg} {mt mt' qm : Nat → Int32} (k' : Nat) : va_up (sv_me cI cZ n qc ad σ mt qm) 6 (.inl (cZ, 24, .inl mt')) k' = sv_me cI cZ n qc ad σ mt' qm k' := by
  by_cases e : k' = 6
  · subst e; rfl
  · simp only [va_up, if_neg e]
    unfold sv_me sv_mf
    rw [if_neg e, if_neg e]
theorem sv_me_qm {cI cZ : ClassId} {n qc : Nat} {ad : Nat → Nat} {σ : Sg} {mt qm qm' : Nat → Int32} (k' : Nat) : va_up (sv_me cI cZ n qc ad σ mt qm) 16 (.inl (cZ, 64, .inl qm')) k' = sv_me cI cZ n qc ad σ mt qm' k' := by
  by_cases e : k' = 16
  · subst e; rfl
  · simp only [va_up, if_neg e]
    unfold sv_me sv_mf
    rw [if_neg e, if_neg e]
def sv_oI (o : Option Nat) : Int32 := match o with
  | none => -1
  | some q => nI q
end SvModel
