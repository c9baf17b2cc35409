section SvSpec
/-! the meaning of quotas: tags 3 owner, 4 around, 5 level, 6 need, 7 members; 9 ill, 10 votes, 11 accepts, 12 confirms, 13 counters, 14 values, 15 decisions, 16 heard votes, 17 heard accepts; 1 moves -/
def sv_pc (x : Nat) : Nat := sv_cnt (fun v => x.testBit v) 0 6
def sv_inn (σ : Sg) (mt : Nat → Bool) (q i : Nat) : Bool := (σ 4 i == nI q) && mt i
def sv_mets (σ : Sg) (qc S : Nat) : Nat → Nat → Bool
  | 0 => fun _ => false
  | k + 1 => fun q => if q + (k + 1) = qc then decide (σ 6 q ≤ nI (sv_pc (sv_N (σ 7 q) &&& S) + sv_cnt (sv_inn σ (sv_mets σ qc S k) q) (q + 1) qc)) else sv_mets σ qc S k q
def sv_met (σ : Sg) (qc S q : Nat) : Bool := sv_mets σ qc S qc q
theorem sv_mets_up (σ : Sg) (qc S : Nat) : ∀ (d k q : Nat), qc ≤ q + k → k + d ≤ qc → sv_mets σ qc S (k + d) q = sv_mets σ qc S k q
  | 0, _, _, _, _ => rfl
  | d + 1, k, q, h1, h2 => by
    show sv_mets σ qc S (k + d + 1) q = _
    rw [show sv_mets σ qc S (k + d + 1) q = if q + (k + d + 1) = qc then decide (σ 6 q ≤ nI (sv_pc (sv_N (σ 7 q) &&& S) + sv_cnt (sv_inn σ (sv_mets σ qc S (k + d)) q) (q + 1) qc)) else sv_mets σ qc S (k + d) q from rfl, if_neg (by omega)]
    exact sv_mets_up σ qc S d k q h1 (by omega)
theorem sv_met_eq (σ : Sg) {qc q : Nat} (S : Nat) (hq : q < qc) : sv_met σ qc S q = decide (σ 6 q ≤ nI (sv_pc (sv_N (σ 7 q) &&& S) + sv_cnt (sv_inn σ (sv_met σ qc S) q) (q + 1) qc)) := by
  obtain ⟨k, hk⟩ : ∃ k, q + (k + 1) = qc := ⟨qc - q - 1, by omega⟩
  have h1 : sv_met σ qc S q = sv_mets σ qc S (k + 1) q := by
    have := sv_mets_up σ qc S q (k + 1) q (by omega) (by omega)
    rw [show k + 1 + q = qc by omega] at this
    exact this
  rw [h1, show sv_mets σ qc S (k + 1) q = if q + (k + 1) = qc then decide (σ 6 q ≤ nI (sv_pc (sv_N (σ 7 q) &&& S) + sv_cnt (sv_inn σ (sv_mets σ qc S k) q) (q + 1) qc)) else sv_mets σ qc S k q from rfl, if_pos hk]
  have h2 : sv_cnt (sv_inn σ (sv_mets σ qc S k) q) (q + 1) qc = sv_cnt (sv_inn σ (sv_met σ qc S) q) (q + 1) qc := sv_cnt_congr qc fun i h3 h4 => by
    unfold sv_inn
    have := sv_mets_up σ qc S (q + 1) k i (by omega) (by omega)
    rw [show k + (q + 1) = qc by omega] at this
    rw [← this]
    rfl
  rw [h2]
def sv_top (σ : Sg) (qc v : Nat) : Option Nat := sv_last (fun q => (σ 3 q == nI v) && (σ 4 q == -1)) qc
def sv_own (σ : Sg) (qc v : Nat) : Nat := sv_cnt (fun q => σ 3 q == nI v) 0 qc
def sv_fst (σ : Sg) (qc q : Nat) : Option Nat := sv_last (fun i => σ 4 i == nI q) qc
def sv_nxt (σ : Sg) (i : Nat) : Option Nat := if σ 4 i = -1 then none else sv_last (fun j => σ 4 j == σ 4 i) i
def sv_sat (σ : Sg) (qc S v : Nat) : Bool := match sv_top σ qc v with
  | none => false
  | some t => sv_met σ qc S t
def sv_quo (σ : Sg) (n qc S : Nat) : Bool := decide (S ≠ 0) && sv_all (fun v => !S.testBit v || sv_sat σ qc S v) n
def sv_un (σ : Sg) (n qc S : Nat) : Nat := sv_orr (fun q => decide (q &&& S = q) && sv_quo σ n qc q) (2 ^ n)
def sv_blk (σ : Sg) (n qc S v : Nat) : Bool := match sv_top σ qc v with
  | none => false
  | some t => !sv_met σ qc ((2 ^ n - 1) ^^^ S) t
/-- what holds of the state at all times, as far as quotas go -/
def sv_IQ (n qc : Nat) (σ : Sg) : Prop := 1 ≤ n ∧ n ≤ 6 ∧ (∀ v, v < n → sv_own σ qc v ≤ 4) ∧ qc ≤ 24 ∧
  ∀ q, q < qc → (∃ v, v < n ∧ σ 3 q = nI v) ∧ (∃ k, 1 ≤ k ∧ k ≤ 9 ∧ σ 6 q = nI k) ∧ sv_N (σ 7 q) < 2 ^ n ∧
    ((σ 4 q = -1 ∧ σ 5 q = 1 ∧ sv_top σ qc (σ 3 q).toNatClampNeg = some q) ∨ ∃ p d, p < q ∧ σ 4 q = nI p ∧ 1 ≤ d ∧ d ≤ 2 ∧ σ 5 p = nI d ∧ σ 5 q = nI (d + 1) ∧ σ 3 p = σ 3 q)
theorem sv_pc_mono {x y : Nat} (h : sv_sub x y) : sv_pc x ≤ sv_pc y := sv_cnt_mono 6 fun i _ hi => h i hi
theorem sv_sub_rf (x : Nat) : sv_sub x x := fun _ h => h
theorem sv_sub_and_l {m x y : Nat} (h : sv_sub x y) : sv_sub (m &&& x) (m &&& y) := fun v hv => by
  rw [Nat.testBit_and, Bool.and_eq_true] at hv ⊢
  exact ⟨hv.1, h v hv.2⟩
theorem sv_met_mono {σ : Sg} {qc S S' : Nat} (h : sv_sub S S') (hq : qc ≤ 24) : ∀ (d q : Nat), qc ≤ q + d → q < qc → sv_met σ qc S q = true → sv_met σ qc S' q = true
  | 0, q, h1, h2, _ => absurd h2 (by omega)
  | d + 1, q, h1, h2, hm => by
    rw [sv_met_eq σ S h2, decide_eq_true_eq] at hm
    rw [sv_met_eq σ S' h2, decide_eq_true_eq]
    have e1 := sv_pc_mono (sv_sub_and_l (m := sv_N (σ 7 q)) h)
    have e2 : sv_cnt (sv_inn σ (sv_met σ qc S) q) (q + 1) qc ≤ sv_cnt (sv_inn σ (sv_met σ qc S') q) (q + 1) qc := by
      rw [sv_cnt_congr (P := sv_inn σ (sv_met σ qc S) q) (P' := fun i => decide (q < i) && sv_inn σ (sv_met σ qc S) q i) qc (fun i h3 h4 => by simp [show q < i by omega])]
      refine sv_cnt_mono qc fun i h3 h4 => ?_
      rw [Bool.and_eq_true, decide_eq_true_eq] at h4
      obtain ⟨h4, h5⟩ := h4
      unfold sv_inn at h5 ⊢
      rw [Bool.and_eq_true] at h5 ⊢
      exact ⟨h5.1, sv_met_mono h hq d i (by omega) h3 h5.2⟩
    have b1 : sv_pc (sv_N (σ 7 q) &&& S') ≤ 6 := sv_cnt_le 6
    have b2 := sv_cnt_le (P := sv_inn σ (sv_met σ qc S') q) (lo := q + 1) qc
    refine Int32.le_trans hm (nI_le (by omega) (by omega))
theorem sv_top_lt {σ : Sg} {qc v t : Nat} (h : sv_top σ qc v = some t) : t < qc := (sv_last_some qc h).1
theorem sv_sat_mono {σ : Sg} {qc S S' v : Nat} (h : sv_sub S S') (hq : qc ≤ 24) (hs : sv_sat σ qc S v = true) : sv_sat σ qc S' v = true := by
  unfold sv_sat at hs ⊢
  cases e : sv_top σ qc v with
  | none => rw [e] at hs; cases hs
  | some t =>
    rw [e] at hs
    exact sv_met_mono h hq qc t (by omega) (sv_top_lt e) hs
theorem sv_quo_iff {σ : Sg} {n qc S : Nat} : sv_quo σ n qc S = true ↔ S ≠ 0 ∧ ∀ v, v < n → S.testBit v = true → sv_sat σ qc S v = true := by
  unfold sv_quo
  rw [Bool.and_eq_true, decide_eq_true_eq, sv_all_iff]
  refine and_congr_right fun _ => forall_congr' fun v => forall_congr' fun _ => ?_
  cases S.testBit v <;> simp
theorem sv_un_bit {σ : Sg} {n qc S v : Nat} : (sv_un σ n qc S).testBit v = true ↔ ∃ q, q < 2 ^ n ∧ sv_sub q S ∧ sv_quo σ n qc q = true ∧ q.testBit v = true := by
  unfold sv_un
  rw [sv_orr_bit]
  refine exists_congr fun q => and_congr_right fun _ => ?_
  rw [Bool.and_eq_true, decide_eq_true_eq, sv_sub_and, and_assoc]
theorem sv_un_sub {σ : Sg} {n qc S : Nat} : sv_sub (sv_un σ n qc S) S := fun v hv => by
  obtain ⟨q, -, h2, -, h4⟩ := sv_un_bit.mp hv
  exact h2 v h4
theorem sv_un_lt {σ : Sg} {n qc S : Nat} : sv_un σ n qc S < 2 ^ n := sv_lt_of_bits fun v hv => by
  obtain ⟨q, h1, -, -, h4⟩ := sv_un_bit.mp hv
  exact sv_bit_lt h1 h4
/-- what stays when unsatisfied nodes leave the set is the union of the quorums in it -/
theorem sv_un_of {σ : Sg} {n qc S T : Nat} (hT : T < 2 ^ n) (h1 : sv_sub T S) (h2 : ∀ q, q < 2 ^ n → sv_sub q S → sv_quo σ n qc q = true → sv_sub q T) (h3 : ∀ v, v < n → T.testBit v = true → sv_sat σ qc T v = true) : T = sv_un σ n qc S := by
  refine sv_ext fun v => ?_
  rw [sv_un_bit]
  constructor
  · intro hv
    refine ⟨T, hT, h1, sv_quo_iff.mpr ⟨fun e => ?_, h3⟩, hv⟩
    rw [e, Nat.zero_testBit] at hv
    cases hv
  · rintro ⟨q, a1, a2, a3, a4⟩
    exact h2 q a1 a2 a3 v a4
/-- a set is the union of its quorums just if all its nodes are satisfied -/
theorem sv_un_self {σ : Sg} {n qc S : Nat} (hq : qc ≤ 24) (hS : S < 2 ^ n) : (decide (S ≠ 0) && decide (sv_un σ n qc S = S)) = sv_quo σ n qc S := by
  by_cases h0 : S = 0
  · simp [h0, sv_quo]
  · have e : sv_un σ n qc S = S ↔ sv_quo σ n qc S = true := by
      constructor
      · intro h
        refine sv_quo_iff.mpr ⟨h0, fun v hv hb => ?_⟩
        rw [← h] at hb
        obtain ⟨q, -, a2, a3, a4⟩ := sv_un_bit.mp hb
        exact sv_sat_mono a2 hq ((sv_quo_iff.mp a3).2 v hv a4)
      · intro h
        exact (sv_un_of hS (sv_sub_rf S) (fun q _ a2 _ => a2) (sv_quo_iff.mp h).2).symm
    cases e2 : sv_quo σ n qc S with
    | true => simp [h0, e.mpr e2]
    | false =>
      have : ¬ sv_un σ n qc S = S := fun q => by rw [e.mp q] at e2; cases e2
      simp [this]
/-! one round of leaving: v leaves T if it is in it and T doesn't satisfy it -/
def sv_lv (σ : Sg) (qc T v : Nat) : Nat := bif T.testBit v && !sv_sat σ qc T v then T ^^^ 2 ^ v else T
def sv_rnd (σ : Sg) (qc T : Nat) : Nat → Nat
  | 0 => T
  | k + 1 => sv_lv σ qc (sv_rnd σ qc T k) k
theorem sv_lv_bit {σ : Sg} {qc T v w : Nat} : (sv_lv σ qc T v).testBit w = (T.testBit w && !(decide (w = v) && (T.testBit v && !sv_sat σ qc T v))) := by
  unfold sv_lv
  cases e : (T.testBit v && !sv_sat σ qc T v) with
  | false => simp
  | true =>
    simp only [cond_true, Nat.testBit_xor, Nat.testBit_two_pow]
    rw [Bool.and_eq_true] at e
    by_cases h : w = v
    · subst h; simp [e.1]
    · simp [h, Ne.symm h]
theorem sv_lv_sub {σ : Sg} {qc T v : Nat} : sv_sub (sv_lv σ qc T v) T := fun w hw => by
  rw [sv_lv_bit, Bool.and_eq_true] at hw
  exact hw.1
theorem sv_rnd_sub {σ : Sg} {qc T : Nat} : ∀ k, sv_sub (sv_rnd σ qc T k) T
  | 0 => sv_sub_rf T
  | k + 1 => fun v hv => sv_rnd_sub k v (sv_lv_sub v hv)
theorem sv_lv_keep {σ : Sg} {n qc T v q : Nat} (hq : qc ≤ 24) (hv : v < n) (h : sv_sub q T) (hQ : sv_quo σ n qc q = true) : sv_sub q (sv_lv σ qc T v) := fun w hw => by
  rw [sv_lv_bit, h w hw, Bool.true_and]
  by_cases e : w = v
  · subst e
    rw [sv_sat_mono h hq ((sv_quo_iff.mp hQ).2 w hv hw)]
    simp
  · simp [e]
theorem sv_rnd_keep {σ : Sg} {n qc T q : Nat} (hq : qc ≤ 24) (h : sv_sub q T) (hQ : sv_quo σ n qc q = true) : ∀ k, k ≤ n → sv_sub q (sv_rnd σ qc T k)
  | 0, _ => h
  | k + 1, hk => sv_lv_keep hq (by omega) (sv_rnd_keep hq h hQ k (by omega)) hQ
theorem sv_lv_fix {σ : Sg} {qc T v : Nat} (h : sv_lv σ qc T v = T) (hb : T.testBit v = true) : sv_sat σ qc T v = true := by
  have h1 := sv_lv_bit (σ := σ) (qc := qc) (T := T) (v := v) (w := v)
  rw [h, hb] at h1
  cases e : sv_sat σ qc T v with
  | true => rfl
  | false => rw [e] at h1; simp at h1
theorem sv_sub_anti {x y : Nat} (h1 : sv_sub x y) (h2 : sv_sub y x) : x = y := sv_ext fun v => ⟨h1 v, h2 v⟩
theorem sv_rnd_fix {σ : Sg} {qc T : Nat} : ∀ k, sv_rnd σ qc T k = T → ∀ v, v < k → T.testBit v = true → sv_sat σ qc T v = true
  | 0, _, v, hv, _ => absurd hv (by omega)
  | k + 1, h, v, hv, hb => by
    have h1 : sv_rnd σ qc T k = T := sv_sub_anti (sv_rnd_sub k) (fun w hw => by
      rw [← h] at hw
      exact sv_lv_sub w hw)
    have h2 : sv_lv σ qc T k = T := by
      have : sv_rnd σ qc T (k + 1) = sv_lv σ qc (sv_rnd σ qc T k) k := rfl
      rw [h1] at this
      rw [← this]; exact h
    by_cases e : v = k
    · rw [e] at hb ⊢; exact sv_lv_fix h2 hb
    · exact sv_rnd_fix k h1 v (by omega) hb
/-- the size of a set of nodes: a strict part is smaller -/
theorem sv_pc_lt {x y : Nat} (h : sv_sub x y) (hne : x ≠ y) (hy : y < 2 ^ 6) : sv_pc x < sv_pc y := by
  have key : ∃ v, v < 6 ∧ y.testBit v = true ∧ x.testBit v = false := by
    apply Decidable.byContradiction
    intro hn
    refine hne (sv_sub_anti h fun v hv => ?_)
    cases e : x.testBit v with
    | true => rfl
    | false => exact absurd ⟨v, sv_bit_lt hy hv, hv, e⟩ hn
  obtain ⟨v, h1, h2, h3⟩ := key
  have aux : ∀ k, v < k → sv_cnt (fun u => x.testBit u) 0 k < sv_cnt (fun u => y.testBit u) 0 k := by
    intro k
    induction k with
    | zero => intro hk; omega
    | succ k ih =>
      intro hk
      by_cases e : v = k
      · subst e
        rw [sv_cnt_f h3, sv_cnt_t (Nat.zero_le _) h2]
        exact Nat.lt_succ_of_le (sv_cnt_mono v fun i _ hi => h i hi)
      · have h4 := ih (by omega)
        rw [sv_cnt_s, sv_cnt_s]
        cases e1 : x.testBit k with
        | false => simp; cases y.testBit k <;> simp <;> omega
        | true => rw [h k e1]; simp; omega
  exact aux 6 h1
theorem sv_pc_0 {x : Nat} (hx : x < 2 ^ 6) (h : sv_pc x = 0) : x = 0 := by
  apply Decidable.byContradiction
  intro hne
  have := sv_pc_lt (x := 0) (y := x) (fun v hv => by rw [Nat.zero_testBit] at hv; cases hv) (Ne.symm hne) hx
  omega
theorem sv_pc_le {x n : Nat} (hx : x < 2 ^ n) (hn : n ≤ 6) : sv_pc x ≤ n := by
  unfold sv_pc
  rw [sv_cnt_skip (j := n) 6 hn (fun i h1 _ => by
    cases e : x.testBit i with
    | false => rfl
    | true => exact absurd (sv_bit_lt hx e) (by omega))]
  exact sv_cnt_le n
end SvSpec
