/-! Own rows: the mathematical value of the two systems. State: a function of a tag (the reference's field, by its place) and a place. -/
section SvPure
abbrev Sg : Type := Nat → Nat → Int32
def sv_b (b : Bool) : Int32 := bif b then 1 else 0
theorem sv_b_t : sv_b true = 1 := rfl
theorem sv_b_f : sv_b false = 0 := rfl
theorem sv_b0 {b : Bool} : sv_b b = 0 ↔ b = false := by cases b <;> decide
theorem sv_bn0 {b : Bool} : ¬ sv_b b = 0 ↔ b = true := by cases b <;> decide
theorem sv_b_dec {c : Prop} (d : Decidable c) (h : c) : (1 : Int32) = sv_b (decide c) := by rw [decide_eq_true h]; rfl
/-- one place of the state is written -/
def sg (s : Sg) (k i : Nat) (v : Int32) : Sg := fun a => if a = k then upd (s k) i v else s a
theorem sg_same (s : Sg) (k i : Nat) (v : Int32) : sg s k i v k = upd (s k) i v := if_pos rfl
theorem sg_ne (s : Sg) {k a : Nat} (i : Nat) (v : Int32) (h : a ≠ k) : sg s k i v a = s a := if_neg h
theorem sg_at (s : Sg) (k i : Nat) (v : Int32) : sg s k i v k i = v := by simp [sg, upd]
theorem sg_off (s : Sg) {k i a j : Nat} (v : Int32) (h : a ≠ k ∨ j ≠ i) : sg s k i v a j = s a j := by
  unfold sg upd
  by_cases h1 : a = k
  · subst h1
    rcases h with h | h
    · exact absurd rfl h
    · simp [h]
  · simp [h1]
theorem sg_self (s : Sg) (k i : Nat) : sg s k i (s k i) = s := by
  funext a j
  by_cases h : a = k ∧ j = i
  · obtain ⟨rfl, rfl⟩ := h
    exact sg_at s a j (s a j)
  · exact sg_off s _ (by rcases Nat.lt_or_ge a k with h1 | h1 <;> omega)
/-- how many places from lo on, below h, hold P -/
def sv_cnt (P : Nat → Bool) (lo : Nat) : Nat → Nat
  | 0 => 0
  | h + 1 => sv_cnt P lo h + (bif decide (lo ≤ h) && P h then 1 else 0)
theorem sv_cnt_s (P : Nat → Bool) (lo h : Nat) : sv_cnt P lo (h + 1) = sv_cnt P lo h + (bif decide (lo ≤ h) && P h then 1 else 0) := rfl
theorem sv_cnt_t {P : Nat → Bool} {lo h : Nat} (hl : lo ≤ h) (hp : P h = true) : sv_cnt P lo (h + 1) = sv_cnt P lo h + 1 := by simp [sv_cnt_s, hl, hp]
theorem sv_cnt_f {P : Nat → Bool} {lo h : Nat} (hp : P h = false) : sv_cnt P lo (h + 1) = sv_cnt P lo h := by simp [sv_cnt_s, hp]
theorem sv_cnt_lo {P : Nat → Bool} {lo : Nat} : ∀ h, h ≤ lo → sv_cnt P lo h = 0
  | 0, _ => rfl
  | h + 1, hh => by rw [sv_cnt_s, sv_cnt_lo h (by omega), decide_eq_false (by omega)]; rfl
theorem sv_cnt_skip {P : Nat → Bool} {lo j : Nat} : ∀ h, j ≤ h → (∀ i, j ≤ i → i < h → P i = false) → sv_cnt P lo h = sv_cnt P lo j
  | 0, hj, _ => by rw [show j = 0 by omega]
  | h + 1, hj, hn => by
    by_cases e : j = h + 1
    · rw [e]
    · rw [sv_cnt_f (hn h (by omega) (by omega)), sv_cnt_skip h (by omega) (fun i h1 h2 => hn i h1 (by omega))]
theorem sv_cnt_le {P : Nat → Bool} {lo : Nat} : ∀ h, sv_cnt P lo h ≤ h
  | 0 => Nat.le_refl _
  | h + 1 => by
    have := sv_cnt_le (P := P) (lo := lo) h
    rw [sv_cnt_s]
    cases (decide (lo ≤ h) && P h) <;> simp <;> omega
theorem sv_cnt_mono {P P' : Nat → Bool} {lo : Nat} : ∀ h, (∀ i, i < h → P i = true → P' i = true) → sv_cnt P lo h ≤ sv_cnt P' lo h
  | 0, _ => Nat.le_refl _
  | h + 1, hp => by
    have h1 := sv_cnt_mono (P := P) (P' := P') (lo := lo) h (fun i hi => hp i (by omega))
    have h2 := hp h (by omega)
    rw [sv_cnt_s, sv_cnt_s]
    cases e1 : P h with
    | false => simp; cases (decide (lo ≤ h) && P' h) <;> simp <;> omega
    | true => rw [h2 e1]; omega
theorem sv_cnt_congr {P P' : Nat → Bool} {lo : Nat} : ∀ h, (∀ i, lo ≤ i → i < h → P i = P' i) → sv_cnt P lo h = sv_cnt P' lo h
  | 0, _ => rfl
  | h + 1, hp => by
    rw [sv_cnt_s, sv_cnt_s, sv_cnt_congr h (fun i h1 h2 => hp i h1 (by omega))]
    by_cases hl : lo ≤ h
    · rw [hp h hl (by omega)]
    · simp [hl]
/-- the last place below k that holds P; the least one -/
def sv_last (P : Nat → Bool) : Nat → Option Nat
  | 0 => none
  | k + 1 => bif P k then some k else sv_last P k
theorem sv_last_t {P : Nat → Bool} {k : Nat} (h : P k = true) : sv_last P (k + 1) = some k := by simp [sv_last, h]
theorem sv_last_f {P : Nat → Bool} {k : Nat} (h : P k = false) : sv_last P (k + 1) = sv_last P k := by simp [sv_last, h]
theorem sv_last_none {P : Nat → Bool} : ∀ k, sv_last P k = none → ∀ j, j < k → P j = false
  | 0, _, j, hj => absurd hj (by omega)
  | k + 1, h, j, hj => by
    cases e : P k with
    | true => rw [sv_last_t e] at h; cases h
    | false =>
      rw [sv_last_f e] at h
      by_cases h1 : j = k
      · rw [h1]; exact e
      · exact sv_last_none k h j (by omega)
theorem sv_last_some {P : Nat → Bool} {i : Nat} : ∀ k, sv_last P k = some i → i < k ∧ P i = true ∧ ∀ j, i < j → j < k → P j = false
  | 0, h => by cases h
  | k + 1, h => by
    cases e : P k with
    | true => rw [sv_last_t e] at h; cases h; exact ⟨by omega, e, fun j h1 h2 => by omega⟩
    | false =>
      rw [sv_last_f e] at h
      obtain ⟨h1, h2, h3⟩ := sv_last_some k h
      refine ⟨by omega, h2, fun j h4 h5 => ?_⟩
      by_cases h6 : j = k
      · rw [h6]; exact e
      · exact h3 j h4 (by omega)
theorem sv_last_is {P : Nat → Bool} {i : Nat} : ∀ k, i < k → P i = true → (∀ j, i < j → j < k → P j = false) → sv_last P k = some i
  | 0, h, _, _ => absurd h (by omega)
  | k + 1, h, hp, hn => by
    by_cases e : i = k
    · rw [← e]; exact sv_last_t hp
    · rw [sv_last_f (hn k (by omega) (by omega))]
      exact sv_last_is k (by omega) hp (fun j h1 h2 => hn j h1 (by omega))
theorem sv_last_no {P : Nat → Bool} : ∀ k, (∀ j, j < k → P j = false) → sv_last P k = none
  | 0, _ => rfl
  | k + 1, hn => by rw [sv_last_f (hn k (by omega))]; exact sv_last_no k (fun j hj => hn j (by omega))
theorem sv_last_congr {P P' : Nat → Bool} : ∀ k, (∀ j, j < k → P j = P' j) → sv_last P k = sv_last P' k
  | 0, _ => rfl
  | k + 1, h => by unfold sv_last; rw [h k (by omega), sv_last_congr k (fun j hj => h j (by omega))]
def sv_least (P : Nat → Bool) : Nat → Option Nat
  | 0 => none
  | k + 1 => match sv_least P k with
    | some s => some s
    | none => bif P k then some k else none
theorem sv_least_no {P : Nat → Bool} : ∀ k, (∀ j, j < k → P j = false) → sv_least P k = none
  | 0, _ => rfl
  | k + 1, hn => by unfold sv_least; rw [sv_least_no k (fun j hj => hn j (by omega)), hn k (by omega)]; rfl
theorem sv_least_is {P : Nat → Bool} {i : Nat} : ∀ k, i < k → P i = true → (∀ j, j < i → P j = false) → sv_least P k = some i
  | 0, h, _, _ => absurd h (by omega)
  | k + 1, h, hp, hn => by
    unfold sv_least
    by_cases e : i = k
    · subst e
      rw [sv_least_no i hn, hp]; rfl
    · rw [sv_least_is k (by omega) hp hn]
theorem sv_least_none {P : Nat → Bool} : ∀ k, sv_least P k = none → ∀ j, j < k → P j = false
  | 0, _, j, hj => absurd hj (by omega)
  | k + 1, h, j, hj => by
    unfold sv_least at h
    cases e : sv_least P k with
    | some s => rw [e] at h; cases h
    | none =>
      rw [e] at h
      cases e2 : P k with
      | true => rw [e2] at h; cases h
      | false =>
        by_cases h1 : j = k
        · rw [h1]; exact e2
        · exact sv_least_none k e j (by omega)
theorem sv_least_some {P : Nat → Bool} {i : Nat} : ∀ k, sv_least P k = some i → i < k ∧ P i = true ∧ ∀ j, j < i → P j = false
  | 0, h => by cases h
  | k + 1, h => by
    unfold sv_least at h
    cases e : sv_least P k with
    | some s =>
      rw [e] at h
      cases h
      obtain ⟨h1, h2, h3⟩ := sv_least_some k e
      exact ⟨by omega, h2, h3⟩
    | none =>
      rw [e] at h
      cases e2 : P k with
      | false => rw [e2] at h; cases h
      | true =>
        rw [e2] at h
        cases h
        refine ⟨by omega, e2, fun j hj => ?_⟩
        exact sv_least_none _ e j hj
def sv_all (P : Nat → Bool) : Nat → Bool
  | 0 => true
  | k + 1 => sv_all P k && P k
theorem sv_all_iff {P : Nat → Bool} : ∀ k, sv_all P k = true ↔ ∀ j, j < k → P j = true
  | 0 => ⟨fun _ j hj => absurd hj (by omega), fun _ => rfl⟩
  | k + 1 => by
    rw [show sv_all P (k + 1) = (sv_all P k && P k) from rfl, Bool.and_eq_true, sv_all_iff k]
    exact ⟨fun h j hj => by
      by_cases e : j = k
      · rw [e]; exact h.2
      · exact h.1 j (by omega), fun h => ⟨fun j hj => h j (by omega), h k (by omega)⟩⟩
def sv_any (P : Nat → Bool) : Nat → Bool
  | 0 => false
  | k + 1 => sv_any P k || P k
theorem sv_any_iff {P : Nat → Bool} : ∀ k, sv_any P k = true ↔ ∃ j, j < k ∧ P j = true
  | 0 => ⟨fun h => Bool.noConfusion h, fun ⟨j, hj, _⟩ => absurd hj (by omega)⟩
  | k + 1 => by
    rw [show sv_any P (k + 1) = (sv_any P k || P k) from rfl, Bool.or_eq_true, sv_any_iff k]
    constructor
    · rintro (⟨j, h1, h2⟩ | h)
      · exact ⟨j, by omega, h2⟩
      · exact ⟨k, by omega, h⟩
    · rintro ⟨j, h1, h2⟩
      by_cases e : j = k
      · rw [e] at h2; exact Or.inr h2
      · exact Or.inl ⟨j, by omega, h2⟩
theorem sv_any_no {P : Nat → Bool} (k : Nat) (h : ∀ j, j < k → P j = false) : sv_any P k = false := by
  cases e : sv_any P k with
  | false => rfl
  | true => obtain ⟨j, h1, h2⟩ := (sv_any_iff k).mp e; rw [h j h1] at h2; cases h2
theorem sv_any_yes {P : Nat → Bool} {j : Nat} (k : Nat) (h : j < k) (hp : P j = true) : sv_any P k = true := (sv_any_iff k).mpr ⟨j, h, hp⟩
theorem sv_any_congr {P P' : Nat → Bool} : ∀ k, (∀ j, j < k → P j = P' j) → sv_any P k = sv_any P' k
  | 0, _ => rfl
  | k + 1, h => by unfold sv_any; rw [h k (by omega), sv_any_congr k (fun j hj => h j (by omega))]
/-- the union of the numbers below k that hold P, as sets of bits -/
def sv_orr (P : Nat → Bool) : Nat → Nat
  | 0 => 0
  | k + 1 => bif P k then sv_orr P k ||| k else sv_orr P k
theorem sv_orr_bit {P : Nat → Bool} {v : Nat} : ∀ k, (sv_orr P k).testBit v = true ↔ ∃ j, j < k ∧ P j = true ∧ j.testBit v = true
  | 0 => by
    constructor
    · intro h
      rw [show sv_orr P 0 = 0 from rfl, Nat.zero_testBit] at h
      cases h
    · rintro ⟨j, h, -⟩
      omega
  | k + 1 => by
    cases e : P k with
    | false =>
      rw [show sv_orr P (k + 1) = sv_orr P k by simp [sv_orr, e], sv_orr_bit k]
      constructor
      · rintro ⟨j, h1, h2⟩
        exact ⟨j, by omega, h2⟩
      · rintro ⟨j, h1, h2, h3⟩
        by_cases e2 : j = k
        · rw [e2, e] at h2; cases h2
        · exact ⟨j, by omega, h2, h3⟩
    | true =>
      rw [show sv_orr P (k + 1) = sv_orr P k ||| k by simp [sv_orr, e], Nat.testBit_or, Bool.or_eq_true, sv_orr_bit k]
      constructor
      · rintro (⟨j, h1, h2⟩ | h)
        · exact ⟨j, by omega, h2⟩
        · exact ⟨k, by omega, e, h⟩
      · rintro ⟨j, h1, h2, h3⟩
        by_cases e2 : j = k
        · rw [e2] at h3; exact Or.inr h3
        · exact Or.inl ⟨j, by omega, h2, h3⟩
/-- the set of the w below k whose word f w has the bit s -/
def sv_said (f : Nat → Int32) (s : Nat) : Nat → Nat
  | 0 => 0
  | k + 1 => bif bt (f k) s then sv_said f s k ||| 2 ^ k else sv_said f s k
theorem sv_said_bit {f : Nat → Int32} {s w : Nat} : ∀ k, (sv_said f s k).testBit w = (decide (w < k) && bt (f w) s)
  | 0 => by simp [sv_said]
  | k + 1 => by
    cases e : bt (f k) s with
    | false =>
      rw [show sv_said f s (k + 1) = sv_said f s k by simp [sv_said, e], sv_said_bit k]
      by_cases h : w = k
      · subst h; simp [e]
      · rw [show decide (w < k + 1) = decide (w < k) from decide_eq_decide.mpr (by omega)]
    | true =>
      rw [show sv_said f s (k + 1) = sv_said f s k ||| 2 ^ k by simp [sv_said, e], Nat.testBit_or, sv_said_bit k, Nat.testBit_two_pow]
      by_cases h : w = k
      · subst h; simp [e]
      · rw [show decide (w < k + 1) = decide (w < k) from decide_eq_decide.mpr (by omega), show decide (k = w) = false from decide_eq_false (fun q => h q.symm), Bool.or_false]
theorem sv_lt_of_bits {x n : Nat} (h : ∀ v, x.testBit v = true → v < n) : x < 2 ^ n := by
  apply Nat.lt_pow_two_of_testBit
  intro i hi
  cases e : x.testBit i with
  | false => rfl
  | true => exact absurd (h i e) (by omega)
theorem sv_bit_lt {x n v : Nat} (h : x < 2 ^ n) (hv : x.testBit v = true) : v < n := by
  apply Decidable.byContradiction
  intro hn
  have h1 : x < 2 ^ v := Nat.lt_of_lt_of_le h (Nat.pow_le_pow_right (by omega) (by omega))
  rw [Nat.testBit_lt_two_pow h1] at hv
  cases hv
theorem sv_said_lt {f : Nat → Int32} {s : Nat} (k : Nat) : sv_said f s k < 2 ^ k := sv_lt_of_bits fun v hv => by
  rw [sv_said_bit] at hv
  simp at hv
  exact hv.1
theorem sv_ext {x y : Nat} (h : ∀ v, x.testBit v = true ↔ y.testBit v = true) : x = y := Nat.eq_of_testBit_eq fun v => by
  have := h v
  cases e1 : x.testBit v <;> cases e2 : y.testBit v <;> simp_all
/-- x lies in y, as sets of bits -/
def sv_sub (x y : Nat) : Prop := ∀ v, x.testBit v = true → y.testBit v = true
theorem sv_sub_and {x y : Nat} : x &&& y = x ↔ sv_sub x y := by
  constructor
  · intro h v hv
    rw [← h, Nat.testBit_and, Bool.and_eq_true] at hv
    exact hv.2
  · intro h
    refine sv_ext fun v => ?_
    rw [Nat.testBit_and, Bool.and_eq_true]
    exact ⟨fun q => q.1, fun q => ⟨q, h v q⟩⟩
def sv_N (x : Int32) : Nat := x.toBitVec.toNat
theorem sv_N_nI {n : Nat} (h : n < 2 ^ 32) : sv_N (nI n) = n := pk_tn h
theorem sv_nI_N (x : Int32) : nI (sv_N x) = x := by
  apply Int32.toBitVec_inj.mp
  show BitVec.ofNat 32 x.toBitVec.toNat = x.toBitVec
  simp
theorem sv_bt_N (x : Int32) (i : Nat) : bt x i = (sv_N x).testBit i := rfl
theorem sv_bt_nI {n : Nat} (h : n < 2 ^ 32) (i : Nat) : bt (nI n) i = n.testBit i := by rw [sv_bt_N, sv_N_nI h]
end SvPure
