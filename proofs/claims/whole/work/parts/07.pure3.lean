section SvStep
def sv_bit (i : Nat) : Int32 := (1 : Int32) <<< (nI i &&& 31)
theorem sv_bit_bt {i j : Nat} (hi : i < 32) (hj : j < 32) : bt (sv_bit i) j = decide (j = i) := by
  unfold sv_bit
  rw [b_shl i hi 1 hj]
  have h1 : ∀ k, bt 1 k = decide (k = 0) := fun k => by
    by_cases h : k < 32
    · exact (by decide +kernel : ∀ k, k < 32 → bt 1 k = decide (k = 0)) k h
    · rw [b_big (by omega), decide_eq_false (by omega)]
  rw [h1]
  by_cases h : j = i
  · subst h; simp
  · rcases Nat.lt_or_ge j i with h2 | h2
    · rw [decide_eq_false (show ¬ i ≤ j by omega), decide_eq_false h]; rfl
    · rw [decide_eq_false (show ¬ j - i = 0 by omega), decide_eq_false h, Bool.and_false]
theorem sv_set_bt {x : Int32} {i j : Nat} (hi : i < 32) (hj : j < 32) : bt (x ||| sv_bit i) j = (bt x j || decide (j = i)) := by rw [b_or, sv_bit_bt hi hj]
/-- statements: 0 .. 11 prepare a ballot, 12 .. 23 commit it -/
def sv_con (s t : Nat) : Bool := bif decide (s < 12) && decide (t < 12) then false else bif decide (12 ≤ s) && decide (12 ≤ t) then decide (s % 3 ≠ t % 3) else
  decide ((if 12 ≤ s then s - 12 else t - 12) < (if 12 ≤ s then t else s)) && decide ((if 12 ≤ s then t else s) % 3 ≠ (if 12 ≤ s then s - 12 else t - 12) % 3)
def sv_aga (x : Int32) (s : Nat) : Bool := sv_any (fun t => bt x t && sv_con s t) 24
def sv_kv (σ : Sg) (v w : Nat) : Int32 := if w = v then σ 10 v else if w < 6 then σ 16 (6 * v + w) else 0
def sv_ka (σ : Sg) (v w : Nat) : Int32 := if w = v then σ 11 v else if w < 6 then σ 17 (6 * v + w) else 0
def sv_BA (σ : Sg) (n v s : Nat) : Nat := sv_said (sv_ka σ v) s n
def sv_BV (σ : Sg) (n v s : Nat) : Nat := sv_said (fun w => sv_ka σ v w ||| sv_kv σ v w) s n
def sv_mA (σ : Sg) (n qc v s : Nat) : Bool := !bt (σ 11 v) s && !sv_aga (σ 11 v) s && ((sv_un σ n qc (sv_BV σ n v s)).testBit v || sv_blk σ n qc (sv_BA σ n v s) v)
def sv_mC (σ : Sg) (n qc v s : Nat) : Bool := bt (σ 11 v) s && !bt (σ 12 v) s && (sv_un σ n qc (sv_BA σ n v s)).testBit v
def sv_bal (σ : Sg) (v : Nat) : Nat := 3 * ((σ 13 v).toNatClampNeg - 1) + (σ 14 v).toNatClampNeg
def sv_cC (σ : Sg) (v : Nat) : Bool := decide (0 < (σ 13 v).toNatClampNeg) && bt (σ 12 v) (sv_bal σ v) && !bt (σ 10 v) (12 + sv_bal σ v) && !sv_aga (σ 10 v ||| σ 11 v) (12 + sv_bal σ v)
def sv_cf (σ : Sg) (v s : Nat) : Sg := bif decide (12 ≤ s) && (σ 15 v == -1) then sg (sg σ 12 v (σ 12 v ||| sv_bit s)) 15 v (nI (s % 3)) else sg σ 12 v (σ 12 v ||| sv_bit s)
def sv_step (σ : Sg) (n qc v : Nat) : Option Sg := match sv_least (sv_mA σ n qc v) 24 with
  | some s => some (sg σ 11 v (σ 11 v ||| sv_bit s))
  | none => match sv_least (sv_mC σ n qc v) 24 with
    | some s => some (sv_cf σ v s)
    | none => bif sv_cC σ v then some (sg σ 10 v (σ 10 v ||| sv_bit (12 + sv_bal σ v))) else none
def sv_set (n qc v : Nat) : Nat → Sg → Sg
  | 0, σ => σ
  | k + 1, σ => match sv_step σ n qc v with
    | none => σ
    | some σ' => sv_set n qc v k σ'
theorem sv_set_n {n qc v k : Nat} {σ : Sg} (h : sv_step σ n qc v = none) : sv_set n qc v (k + 1) σ = σ := by
  rw [show sv_set n qc v (k + 1) σ = (match sv_step σ n qc v with | none => σ | some σ' => sv_set n qc v k σ') from rfl, h]
theorem sv_set_s {n qc v k : Nat} {σ τ : Sg} (h : sv_step σ n qc v = some τ) : sv_set n qc v (k + 1) σ = sv_set n qc v k τ := by
  rw [show sv_set n qc v (k + 1) σ = (match sv_step σ n qc v with | none => σ | some σ' => sv_set n qc v k σ') from rfl, h]
/-- how many of 24 bits are still unset -/
def sv_off (x : Int32) : Nat := sv_cnt (fun s => !bt x s) 0 24
theorem sv_off_lt {x : Int32} {s : Nat} (hs : s < 24) (h : bt x s = false) : sv_off (x ||| sv_bit s) < sv_off x := by
  have aux : ∀ k, k ≤ 24 → (sv_cnt (fun t => !bt (x ||| sv_bit s) t) 0 k) + (if s < k then 1 else 0) = sv_cnt (fun t => !bt x t) 0 k := by
    intro k
    induction k with
    | zero => intro _; simp [sv_cnt]
    | succ k ih =>
      intro hk
      have h1 := ih (by omega)
      rw [sv_cnt_s, sv_cnt_s, sv_set_bt (by omega) (by omega)]
      by_cases e : k = s
      · subst e
        simp [h] at h1 ⊢
        exact h1
      · have e2 : (if s < k + 1 then 1 else 0) = (if s < k then 1 else (0 : Nat)) := by
          by_cases q : s < k
          · rw [if_pos q, if_pos (by omega)]
          · rw [if_neg q, if_neg (by omega)]
        rw [e2, ← h1]
        simp [e]
        omega
  have h2 := aux 24 (Nat.le_refl _)
  rw [if_pos hs] at h2
  unfold sv_off
  omega
theorem sv_off_le (x : Int32) : sv_off x ≤ 24 := sv_cnt_le 24
/-- what settling can still do for v -/
def sv_mu (σ : Sg) (v : Nat) : Nat := sv_off (σ 11 v) + sv_off (σ 12 v) + (bif bt (σ 10 v) (12 + sv_bal σ v) then 0 else 1)
theorem sv_mu_le (σ : Sg) (v : Nat) : sv_mu σ v ≤ 49 := by
  have h1 := sv_off_le (σ 11 v)
  have h2 := sv_off_le (σ 12 v)
  unfold sv_mu
  cases bt (σ 10 v) (12 + sv_bal σ v) <;> simp <;> omega
theorem sv_bal_sg {σ : Sg} {v k i : Nat} {x : Int32} (h3 : k ≠ 13) (h4 : k ≠ 14) : sv_bal (sg σ k i x) v = sv_bal σ v := by
  unfold sv_bal
  rw [sg_off σ x (Or.inl (Ne.symm h3)), sg_off σ x (Or.inl (Ne.symm h4))]
theorem sv_cf_11 (σ : Sg) (v s u : Nat) : sv_cf σ v s 11 u = σ 11 u := by
  unfold sv_cf
  cases (decide (12 ≤ s) && (σ 15 v == -1))
  · exact sg_off σ _ (Or.inl (by decide))
  · show sg (sg σ 12 v _) 15 v _ 11 u = _
    rw [sg_off _ _ (Or.inl (by decide)), sg_off _ _ (Or.inl (by decide))]
theorem sv_cf_off (σ : Sg) (v s : Nat) {k u : Nat} (h1 : k ≠ 12) (h2 : k ≠ 15) : sv_cf σ v s k u = σ k u := by
  unfold sv_cf
  cases (decide (12 ≤ s) && (σ 15 v == -1))
  · exact sg_off σ _ (Or.inl h1)
  · show sg (sg σ 12 v _) 15 v _ k u = _
    rw [sg_off _ _ (Or.inl h2), sg_off _ _ (Or.inl h1)]
theorem sv_cf_12 (σ : Sg) (v s : Nat) : sv_cf σ v s 12 v = (σ 12 v ||| sv_bit s) := by
  unfold sv_cf
  cases (decide (12 ≤ s) && (σ 15 v == -1))
  · exact sg_at σ 12 v _
  · show sg (sg σ 12 v _) 15 v _ 12 v = _
    rw [sg_off _ _ (Or.inl (by decide)), sg_at]
theorem sv_step_mu {σ σ' : Sg} {n qc v : Nat} (hb : sv_bal σ v < 12) (h : sv_step σ n qc v = some σ') : sv_mu σ' v < sv_mu σ v ∧ sv_bal σ' v = sv_bal σ v := by
  unfold sv_step at h
  cases e1 : sv_least (sv_mA σ n qc v) 24 with
  | some s =>
    rw [e1] at h
    cases h
    obtain ⟨h1, h2, -⟩ := sv_least_some 24 e1
    have h3 : bt (σ 11 v) s = false := by
      unfold sv_mA at h2
      rw [Bool.and_eq_true, Bool.and_eq_true] at h2
      simpa using h2.1.1
    have hbal := sv_bal_sg (σ := σ) (v := v) (k := 11) (i := v) (x := σ 11 v ||| sv_bit s) (by decide) (by decide)
    refine ⟨?_, hbal⟩
    unfold sv_mu
    rw [hbal, sg_at, sg_off σ _ (Or.inl (by decide : (12 : Nat) ≠ 11)), sg_off σ _ (Or.inl (by decide : (10 : Nat) ≠ 11))]
    have := sv_off_lt h1 h3
    omega
  | none =>
    rw [e1] at h
    cases e2 : sv_least (sv_mC σ n qc v) 24 with
    | some s =>
      rw [e2] at h
      cases h
      obtain ⟨h1, h2, -⟩ := sv_least_some 24 e2
      have h3 : bt (σ 12 v) s = false := by
        unfold sv_mC at h2
        rw [Bool.and_eq_true, Bool.and_eq_true] at h2
        simpa using h2.1.2
      have hbal : sv_bal (sv_cf σ v s) v = sv_bal σ v := by
        unfold sv_bal
        rw [sv_cf_off σ v s (by decide) (by decide), sv_cf_off σ v s (by decide) (by decide)]
      refine ⟨?_, hbal⟩
      unfold sv_mu
      rw [hbal, sv_cf_11, sv_cf_12, sv_cf_off σ v s (by decide) (by decide)]
      have := sv_off_lt h1 h3
      omega
    | none =>
      rw [e2] at h
      cases e3 : sv_cC σ v with
      | false => rw [e3] at h; cases h
      | true =>
        rw [e3] at h
        cases h
        have h3 : bt (σ 10 v) (12 + sv_bal σ v) = false := by
          unfold sv_cC at e3
          rw [Bool.and_eq_true, Bool.and_eq_true] at e3
          simpa using e3.1.2
        have hbal := sv_bal_sg (σ := σ) (v := v) (k := 10) (i := v) (x := σ 10 v ||| sv_bit (12 + sv_bal σ v)) (by decide) (by decide)
        refine ⟨?_, hbal⟩
        unfold sv_mu
        rw [hbal, sg_at, sg_off σ _ (Or.inl (by decide : (11 : Nat) ≠ 10)), sg_off σ _ (Or.inl (by decide : (12 : Nat) ≠ 10)), h3, sv_set_bt (by omega) (by omega)]
        simp
/-- once the measure is used up, more fuel changes nothing -/
theorem sv_set_more {n qc v : Nat} : ∀ (k : Nat) (σ : Sg), sv_bal σ v < 12 → sv_mu σ v ≤ k → ∀ d, sv_set n qc v (k + d) σ = sv_set n qc v k σ
  | 0, σ, hb, hm, d => by
    have : sv_step σ n qc v = none := by
      cases e : sv_step σ n qc v with
      | none => rfl
      | some σ' => have := (sv_step_mu hb e).1; omega
    cases d with
    | zero => rfl
    | succ d => exact sv_set_n (k := 0 + d) this
  | k + 1, σ, hb, hm, d => by
    rw [show k + 1 + d = k + d + 1 by omega]
    cases e : sv_step σ n qc v with
    | none => rw [sv_set_n e, sv_set_n e]
    | some σ' =>
      have h1 := sv_step_mu hb e
      rw [sv_set_s e, sv_set_s e]
      exact sv_set_more k σ' (by rw [h1.2]; exact hb) (by omega) d
theorem sv_set_49 {n qc v : Nat} {σ : Sg} (hb : sv_bal σ v < 12) : sv_set n qc v 100 σ = sv_set n qc v 49 σ := sv_set_more 49 σ hb (sv_mu_le σ v) 51
/-! what propose does -/
def sv_vote (σ : Sg) (v s : Nat) : Sg := bif bt (σ 10 v) s || sv_aga (σ 10 v ||| σ 11 v) s then σ else sg σ 10 v (σ 10 v ||| sv_bit s)
def sv_chr (σ : Sg) (v : Nat) (x : Int32) : Int32 := match sv_last (fun b => decide (12 ≤ b) && bt (σ 11 v) b) 24 with
  | some b => nI (b % 3)
  | none => match sv_last (fun b => bt (σ 12 v) b) 12 with
    | some b => nI (b % 3)
    | none => x
def sv_vts (σ : Sg) (v : Nat) : Nat → Sg
  | 0 => σ
  | k + 1 => sv_vote (sv_vts σ v k) v (3 * k + (σ 14 v).toNatClampNeg)
end SvStep
section SvBits
theorem sv_1bt (k : Nat) : bt 1 k = decide (k = 0) := by
  by_cases h : k < 32
  · exact (by decide +kernel : ∀ k, k < 32 → bt 1 k = decide (k = 0)) k h
  · rw [b_big (by omega), decide_eq_false (by omega)]
theorem sv_and1 (y : Int32) : y &&& 1 = sv_b (bt y 0) := by
  apply b_ext
  intro i hi
  rw [b_and, sv_1bt]
  cases e : bt y 0 with
  | true =>
    rw [show sv_b true = 1 from rfl, sv_1bt]
    by_cases h : i = 0
    · subst h; simp [e]
    · simp [h]
  | false =>
    rw [show sv_b false = 0 from rfl, b_0]
    by_cases h : i = 0
    · subst h; simp [e]
    · simp [h]
theorem sv_ush1 (x : Int32) {i : Nat} (hi : i < 32) : ((x.toUInt32 >>> ((nI i).toUInt32 &&& Int32.toUInt32 31)).toInt32 &&& 1) = sv_b (bt x i) := by
  rw [sv_and1, b_ushr i hi]
  rfl
theorem sv_shr1 (x : Int32) {i : Nat} (hi : i < 32) : ((x >>> (nI i &&& 31)) &&& 1) = sv_b (bt x i) := by
  rw [sv_and1, b_sshr i hi x (by omega), if_pos (by omega)]
  rfl
theorem sv_b1 {b : Bool} : sv_b b = 1 ↔ b = true := by cases b <;> decide
theorem sv_bn1 {b : Bool} : ¬ sv_b b = 1 ↔ b = false := by cases b <;> decide
theorem sv_pow : ∀ n, n < 31 → (1 : Int32) <<< (nI n &&& 31) = nI (2 ^ n) := by decide +kernel
theorem sv_bit_nI {n : Nat} (h : n < 31) : sv_bit n = nI (2 ^ n) := sv_pow n h
theorem sv_nor (a b : Nat) : nI a ||| nI b = nI (a ||| b) := by
  apply Int32.toBitVec_inj.1
  show BitVec.ofNat 32 a ||| BitVec.ofNat 32 b = BitVec.ofNat 32 (a ||| b)
  apply BitVec.eq_of_getLsbD_eq
  intro i hi
  simp [hi]
theorem sv_nand (a b : Nat) : nI a &&& nI b = nI (a &&& b) := by
  apply Int32.toBitVec_inj.1
  show BitVec.ofNat 32 a &&& BitVec.ofNat 32 b = BitVec.ofNat 32 (a &&& b)
  apply BitVec.eq_of_getLsbD_eq
  intro i hi
  simp [hi]
theorem sv_nb {a : Nat} (i : Nat) : bt (nI a) i = (decide (i < 32) && a.testBit i) := by
  unfold bt
  show (BitVec.ofNat 32 a).getLsbD i = _
  rw [BitVec.getLsbD_ofNat]
/-- a and not b, for numbers -/
theorem sv_andn {a b : Nat} (d : Nat) (h : ∀ i, i < 32 → d.testBit i = (a.testBit i && !b.testBit i)) : nI a &&& (nI b ^^^ -1) = nI d := by
  apply b_ext
  intro i hi
  rw [b_and, b_xor, b_m1 i hi, sv_nb, sv_nb, sv_nb, h i hi]
  simp [hi]
theorem sv_p2 (n i : Nat) : (2 ^ n - 1).testBit i = decide (i < n) := Nat.testBit_two_pow_sub_one n i
theorem sv_compl {n S : Nat} (hS : S < 2 ^ n) : nI (2 ^ n - 1) &&& (nI S ^^^ -1) = nI ((2 ^ n - 1) ^^^ S) := sv_andn _ fun i _ => by
  rw [Nat.testBit_xor, sv_p2]
  cases e : S.testBit i with
  | false => simp
  | true => simp [sv_bit_lt hS e]
theorem sv_co_lt {n S : Nat} (hS : S < 2 ^ n) : (2 ^ n - 1) ^^^ S < 2 ^ n := Nat.xor_lt_two_pow (by have := Nat.two_pow_pos n; omega) hS
theorem sv_drop {S v : Nat} (h : S.testBit v = true) : nI S &&& (nI (2 ^ v) ^^^ -1) = nI (S ^^^ 2 ^ v) := sv_andn _ fun i _ => by
  rw [Nat.testBit_xor, Nat.testBit_two_pow]
  by_cases e : v = i
  · subst e; simp [h]
  · simp [e]
theorem sv_xor_lt {S v n : Nat} (hS : S < 2 ^ n) (hv : v < n) : S ^^^ 2 ^ v < 2 ^ n := Nat.xor_lt_two_pow hS (Nat.pow_lt_pow_right (by omega) hv)
theorem sv_or_lt {S T n : Nat} (hS : S < 2 ^ n) (hT : T < 2 ^ n) : S ||| T < 2 ^ n := Nat.or_lt_two_pow hS hT
/-- which ints are sets of the first n nodes -/
theorem sv_setof {n : Nat} (hn : n ≤ 6) (x : Int32) : (x &&& (nI (2 ^ n - 1) ^^^ -1) = 0) ↔ sv_N x < 2 ^ n := by
  constructor
  · intro h
    apply sv_lt_of_bits
    intro v hv
    have hv32 : v < 32 := by
      apply Decidable.byContradiction
      intro hh
      have := b_big (x := x) (i := v) (by omega)
      rw [sv_bt_N, hv] at this
      cases this
    have h1 : bt (x &&& (nI (2 ^ n - 1) ^^^ -1)) v = false := by rw [h, b_0]
    rw [b_and, b_xor, b_m1 v hv32, sv_nb, sv_p2, sv_bt_N, hv] at h1
    simp [hv32] at h1
    exact h1
  · intro h
    apply b_ext
    intro i hi
    rw [b_and, b_xor, b_m1 i hi, sv_nb, sv_p2, b_0, sv_bt_N]
    cases e : (sv_N x).testBit i with
    | false => simp
    | true => simp [hi, sv_bit_lt h e]
theorem sv_p2_64 {n : Nat} (hn : n ≤ 6) : 2 ^ n ≤ 64 := by
  have := Nat.pow_le_pow_right (n := 2) (by omega) hn
  omega
theorem sv_isset {n : Nat} (hn : n ≤ 6) (x : Int32) : (0 ≤ x ∧ x < nI (2 ^ n)) ↔ sv_N x < 2 ^ n := by
  have hp := sv_p2_64 hn
  constructor
  · rintro ⟨h1, h2⟩
    obtain ⟨j, hj, rfl⟩ := nI_of (x := x) (fun q => by rw [Int32.lt_iff_toInt_lt] at q; rw [Int32.le_iff_toInt_le] at h1; omega)
    rw [nI_ltI hj (by omega)] at h2
    rw [sv_N_nI (by omega)]
    exact h2
  · intro h
    rw [← sv_nI_N x]
    exact ⟨nI_pos' (by omega), nI_lt h (by omega)⟩
end SvBits
section SvInv
/-! the quotas alone decide what is met -/
def sv_eqQ (σ τ : Sg) : Prop := ∀ k, 3 ≤ k → k ≤ 7 → τ k = σ k
theorem sv_eqQ_rf (σ : Sg) : sv_eqQ σ σ := fun _ _ _ => rfl
theorem sv_eqQ_tr {σ τ ρ : Sg} (h1 : sv_eqQ σ τ) (h2 : sv_eqQ τ ρ) : sv_eqQ σ ρ := fun k a b => (h2 k a b).trans (h1 k a b)
theorem sv_eqQ_sg {σ : Sg} {k i : Nat} {x : Int32} (h : k < 3 ∨ 7 < k) : sv_eqQ σ (sg σ k i x) := fun a h1 h2 => sg_ne σ i x (by omega)
theorem sv_mets_cg {σ τ : Sg} (h : sv_eqQ σ τ) (qc S : Nat) : ∀ k, sv_mets τ qc S k = sv_mets σ qc S k
  | 0 => rfl
  | k + 1 => by
    funext q
    unfold sv_mets
    rw [sv_mets_cg h qc S k, h 6 (by decide) (by decide), h 7 (by decide) (by decide)]
    have e : sv_inn τ (sv_mets σ qc S k) q = sv_inn σ (sv_mets σ qc S k) q := by
      funext i
      unfold sv_inn
      rw [h 4 (by decide) (by decide)]
    rw [e]
theorem sv_met_cg {σ τ : Sg} (h : sv_eqQ σ τ) (qc S q : Nat) : sv_met τ qc S q = sv_met σ qc S q := by unfold sv_met; rw [sv_mets_cg h]
theorem sv_top_cg {σ τ : Sg} (h : sv_eqQ σ τ) (qc v : Nat) : sv_top τ qc v = sv_top σ qc v := by unfold sv_top; rw [h 3 (by decide) (by decide), h 4 (by decide) (by decide)]
theorem sv_own_cg {σ τ : Sg} (h : sv_eqQ σ τ) (qc v : Nat) : sv_own τ qc v = sv_own σ qc v := by unfold sv_own; rw [h 3 (by decide) (by decide)]
theorem sv_fst_cg {σ τ : Sg} (h : sv_eqQ σ τ) (qc v : Nat) : sv_fst τ qc v = sv_fst σ qc v := by unfold sv_fst; rw [h 4 (by decide) (by decide)]
theorem sv_nxt_cg {σ τ : Sg} (h : sv_eqQ σ τ) (v : Nat) : sv_nxt τ v = sv_nxt σ v := by unfold sv_nxt; rw [h 4 (by decide) (by decide)]
theorem sv_sat_cg {σ τ : Sg} (h : sv_eqQ σ τ) (qc S v : Nat) : sv_sat τ qc S v = sv_sat σ qc S v := by
  unfold sv_sat
  rw [sv_top_cg h]
  cases sv_top σ qc v with
  | none => rfl
  | some t => exact sv_met_cg h qc S t
theorem sv_all_congr {P P' : Nat → Bool} : ∀ k, (∀ j, j < k → P j = P' j) → sv_all P k = sv_all P' k
  | 0, _ => rfl
  | k + 1, h => by unfold sv_all; rw [h k (by omega), sv_all_congr k (fun j hj => h j (by omega))]
theorem sv_quo_cg {σ τ : Sg} (h : sv_eqQ σ τ) (n qc S : Nat) : sv_quo τ n qc S = sv_quo σ n qc S := by
  unfold sv_quo
  rw [sv_all_congr n (fun j _ => by rw [sv_sat_cg h])]
theorem sv_un_cg {σ τ : Sg} (h : sv_eqQ σ τ) (n qc S : Nat) : sv_un τ n qc S = sv_un σ n qc S := by
  refine sv_ext fun v => ?_
  rw [sv_un_bit, sv_un_bit]
  refine exists_congr fun q => ?_
  rw [sv_quo_cg h]
theorem sv_blk_cg {σ τ : Sg} (h : sv_eqQ σ τ) (n qc S v : Nat) : sv_blk τ n qc S v = sv_blk σ n qc S v := by
  unfold sv_blk
  rw [sv_top_cg h]
  cases sv_top σ qc v with
  | none => rfl
  | some t => show (!sv_met τ qc _ t) = _; rw [sv_met_cg h]
theorem sv_IQ_cg {σ τ : Sg} {n qc : Nat} (h : sv_eqQ σ τ) (hI : sv_IQ n qc σ) : sv_IQ n qc τ := by
  obtain ⟨h1, h2, h3, h4, h5⟩ := hI
  refine ⟨h1, h2, fun v hv => by rw [sv_own_cg h]; exact h3 v hv, h4, fun q hq => ?_⟩
  rw [h 3 (by decide) (by decide), h 4 (by decide) (by decide), h 5 (by decide) (by decide), h 6 (by decide) (by decide), h 7 (by decide) (by decide), sv_top_cg h]
  exact h5 q hq
/-- what holds of the state at all times, as far as votes go -/
def sv_IS (n : Nat) (σ : Sg) : Prop := (∃ b, σ 1 0 = sv_b b) ∧ ∀ v, v < n → (∃ b, σ 9 v = sv_b b) ∧ (∃ k, k ≤ 4 ∧ σ 13 v = nI k) ∧ (∃ x, x ≤ 2 ∧ σ 14 v = nI x) ∧
  ∀ s t, 12 ≤ s → s < 24 → 12 ≤ t → t < 24 → bt (σ 11 v) s = true → bt (σ 11 v) t = true → s % 3 = t % 3
theorem sv_bal_lt {n v : Nat} {σ : Sg} (h : sv_IS n σ) (hv : v < n) : sv_bal σ v < 12 := by
  obtain ⟨-, ⟨k, hk, e1⟩, ⟨x, hx, e2⟩, -⟩ := h.2 v hv
  unfold sv_bal
  rw [e1, e2, nI_clamp (by omega), nI_clamp (by omega)]
  omega
theorem sv_IS_sg {n : Nat} {σ : Sg} (h : sv_IS n σ) {k i : Nat} (x : Int32) (h1 : k ≠ 1) (h9 : k ≠ 9) (h11 : k ≠ 11) (h13 : k ≠ 13) (h14 : k ≠ 14) : sv_IS n (sg σ k i x) := by
  unfold sv_IS
  rw [sg_ne σ i x (Ne.symm h1), sg_ne σ i x (Ne.symm h9), sg_ne σ i x (Ne.symm h11), sg_ne σ i x (Ne.symm h13), sg_ne σ i x (Ne.symm h14)]
  exact h
theorem sv_con_hi : ∀ s, s < 24 → ∀ t, t < 24 → 12 ≤ s → 12 ≤ t → sv_con s t = false → s % 3 = t % 3 := by decide +kernel
theorem sv_aga_f {x : Int32} {s : Nat} (h : sv_aga x s = false) {t : Nat} (ht : t < 24) (hb : bt x t = true) : sv_con s t = false := by
  cases e : sv_con s t with
  | false => rfl
  | true =>
    have := sv_any_yes (P := fun t => bt x t && sv_con s t) 24 ht (by simp [hb, e])
    unfold sv_aga at h
    rw [this] at h
    cases h
theorem sv_IS_acc {n v s : Nat} {σ : Sg} (h : sv_IS n σ) (hs : s < 24) (ha : sv_aga (σ 11 v) s = false) : sv_IS n (sg σ 11 v (σ 11 v ||| sv_bit s)) := by
  refine ⟨by rw [sg_ne σ v _ (by decide)]; exact h.1, fun u hu => ?_⟩
  obtain ⟨a1, a2, a3, a4⟩ := h.2 u hu
  refine ⟨by rw [sg_ne σ v _ (by decide)]; exact a1, by rw [sg_ne σ v _ (by decide)]; exact a2, by rw [sg_ne σ v _ (by decide)]; exact a3, fun a b b1 b2 b3 b4 b5 b6 => ?_⟩
  by_cases e : u = v
  · subst e
    rw [sg_at, sv_set_bt (by omega) (by omega), Bool.or_eq_true, decide_eq_true_eq] at b5 b6
    rcases b5 with b5 | b5 <;> rcases b6 with b6 | b6
    · exact a4 a b b1 b2 b3 b4 b5 b6
    · subst b6
      exact (sv_con_hi b hs a b2 b3 b1 (sv_aga_f ha b2 b5)).symm
    · subst b5
      exact sv_con_hi a hs b b4 b1 b3 (sv_aga_f ha b4 b6)
    · rw [b5, b6]
  · rw [sg_off σ _ (Or.inr e)] at b5 b6
    exact a4 a b b1 b2 b3 b4 b5 b6
theorem sv_IS_cf {n v s : Nat} {σ : Sg} (h : sv_IS n σ) : sv_IS n (sv_cf σ v s) := by
  unfold sv_cf
  cases (decide (12 ≤ s) && (σ 15 v == -1))
  · exact sv_IS_sg h _ (by decide) (by decide) (by decide) (by decide) (by decide)
  · exact sv_IS_sg (sv_IS_sg h _ (by decide) (by decide) (by decide) (by decide) (by decide)) _ (by decide) (by decide) (by decide) (by decide) (by decide)
theorem sv_eqQ_cf (σ : Sg) (v s : Nat) : sv_eqQ σ (sv_cf σ v s) := fun k h1 h2 => by
  funext u
  exact sv_cf_off σ v s (by omega) (by omega)
theorem sv_step_ok {n qc v : Nat} {σ τ : Sg} (h : sv_IS n σ) (hs : sv_step σ n qc v = some τ) : sv_IS n τ ∧ sv_eqQ σ τ := by
  unfold sv_step at hs
  cases e1 : sv_least (sv_mA σ n qc v) 24 with
  | some s =>
    rw [e1] at hs
    cases hs
    obtain ⟨h1, h2, -⟩ := sv_least_some 24 e1
    unfold sv_mA at h2
    rw [Bool.and_eq_true, Bool.and_eq_true] at h2
    exact ⟨sv_IS_acc h h1 (by simpa using h2.1.2), sv_eqQ_sg (Or.inr (by decide))⟩
  | none =>
    rw [e1] at hs
    cases e2 : sv_least (sv_mC σ n qc v) 24 with
    | some s =>
      rw [e2] at hs
      cases hs
      exact ⟨sv_IS_cf h, sv_eqQ_cf σ v s⟩
    | none =>
      rw [e2] at hs
      cases e3 : sv_cC σ v with
      | false => rw [e3] at hs; cases hs
      | true =>
        rw [e3] at hs
        cases hs
        exact ⟨sv_IS_sg h _ (by decide) (by decide) (by decide) (by decide) (by decide), sv_eqQ_sg (Or.inr (by decide))⟩
theorem sv_set_ok {n qc v : Nat} : ∀ (k : Nat) {σ : Sg}, sv_IS n σ → sv_IS n (sv_set n qc v k σ) ∧ sv_eqQ σ (sv_set n qc v k σ)
  | 0, σ, h => ⟨h, sv_eqQ_rf σ⟩
  | k + 1, σ, h => by
    cases e : sv_step σ n qc v with
    | none => rw [sv_set_n e]; exact ⟨h, sv_eqQ_rf σ⟩
    | some τ =>
      rw [sv_set_s e]
      obtain ⟨h1, h2⟩ := sv_step_ok h e
      obtain ⟨h3, h4⟩ := sv_set_ok (qc := qc) (v := v) k h1
      exact ⟨h3, sv_eqQ_tr h2 h4⟩
theorem sv_vote_ok {n v s : Nat} {σ : Sg} (h : sv_IS n σ) : sv_IS n (sv_vote σ v s) ∧ sv_eqQ σ (sv_vote σ v s) ∧ (∀ k, k ≠ 10 → sv_vote σ v s k = σ k) := by
  unfold sv_vote
  cases (bt (σ 10 v) s || sv_aga (σ 10 v ||| σ 11 v) s)
  · exact ⟨sv_IS_sg h _ (by decide) (by decide) (by decide) (by decide) (by decide), sv_eqQ_sg (Or.inr (by decide)), fun k hk => sg_ne σ v _ hk⟩
  · exact ⟨h, sv_eqQ_rf σ, fun _ _ => rfl⟩
theorem sv_vts_ok {n v : Nat} {σ : Sg} (h : sv_IS n σ) : ∀ k, sv_IS n (sv_vts σ v k) ∧ sv_eqQ σ (sv_vts σ v k) ∧ (∀ j, j ≠ 10 → sv_vts σ v k j = σ j)
  | 0 => ⟨h, sv_eqQ_rf σ, fun _ _ => rfl⟩
  | k + 1 => by
    obtain ⟨h1, h2, h3⟩ := sv_vts_ok (v := v) h k
    obtain ⟨h4, h5, h6⟩ := sv_vote_ok (v := v) (s := 3 * k + (σ 14 v).toNatClampNeg) h1
    exact ⟨h4, sv_eqQ_tr h2 h5, fun j hj => (h6 j hj).trans (h3 j hj)⟩
/-- which value is proposed: the first accepted commit has the last one's value -/
theorem sv_chr_fst {n v s : Nat} {σ : Sg} (h : sv_IS n σ) (hv : v < n) (x : Int32) (h1 : 12 ≤ s) (h2 : s < 24) (hb : bt (σ 11 v) s = true) : sv_chr σ v x = nI (s % 3) := by
  unfold sv_chr
  cases e : sv_last (fun b => decide (12 ≤ b) && bt (σ 11 v) b) 24 with
  | none =>
    have := sv_last_none 24 e s h2
    simp [h1, hb] at this
  | some b =>
    obtain ⟨a1, a2, -⟩ := sv_last_some 24 e
    rw [Bool.and_eq_true, decide_eq_true_eq] at a2
    show nI (b % 3) = nI (s % 3)
    rw [(h.2 v hv).2.2.2 b s a2.1 a1 h1 h2 a2.2 hb]
theorem sv_chr_none {v : Nat} {σ : Sg} (x : Int32) (h : ∀ s, 12 ≤ s → s < 24 → bt (σ 11 v) s = false) : sv_chr σ v x = match sv_last (fun b => bt (σ 12 v) b) 12 with
  | some b => nI (b % 3)
  | none => x := by
  unfold sv_chr
  rw [sv_last_no 24 (fun j hj => by
    by_cases hl : 12 ≤ j
    · simp [h j hl hj]
    · simp [hl])]
theorem sv_chr_le {n v : Nat} {σ : Sg} {x : Nat} (hx : x ≤ 2) : ∃ y, y ≤ 2 ∧ sv_chr σ v (nI x) = nI y := by
  unfold sv_chr
  cases sv_last (fun b => decide (12 ≤ b) && bt (σ 11 v) b) 24 with
  | some b => exact ⟨b % 3, by omega, rfl⟩
  | none =>
    cases sv_last (fun b => bt (σ 12 v) b) 12 with
    | some b => exact ⟨b % 3, by omega, rfl⟩
    | none => exact ⟨x, hx, rfl⟩
end SvInv
