section SvCtor
variable {p : Program} {l : Launch} {e : Env} {R : Room} {s : State} {m : MethodId} {args : Array Value} {below : List Frame} {meth : Method} {c : Code} {H H0 : Heap} {locs : List Loc} {cells slots : Nat} {Q : State → Prop}
variable {cc : ByteArray} {pc nL k : Nat} {ls : Array Slot} {lv : List (Nat × Value)} {rest : List Value} {D : va_G} {cI cZ cN cQ : ClassId} {n qc : Nat} {ad : Nat → Nat} {σ : Sg} {A : Nat → Prop} {mt qm : Nat → Int32}
def sv_s0 : Sg := fun k i => if k = 15 ∧ i < 6 then -1 else 0
def sv_nn (x : Int32) : Nat := if x < 1 then 1 else if nI 6 < x then 6 else x.toNatClampNeg
theorem sv_nn_le (x : Int32) : 1 ≤ sv_nn x ∧ sv_nn x ≤ 6 := by
  unfold sv_nn
  by_cases h1 : x < 1
  · rw [if_pos h1]; omega
  · rw [if_neg h1]
    by_cases h2 : nI 6 < x
    · rw [if_pos h2]; omega
    · rw [if_neg h2]
      obtain ⟨j, hj, rfl⟩ := nI_of (x := x) (fun q => h1 (Int32.lt_trans q (by decide)))
      rw [show (1 : Int32) = nI 1 from rfl, nI_ltI hj (by decide)] at h1
      rw [nI_ltI (by decide) hj] at h2
      rw [nI_clamp hj]
      omega
theorem sv_nn_c (x : Int32) : (if (1 : Int32) < (if x < nI 6 then x else nI 6) then (if x < nI 6 then x else nI 6) else 1) = nI (sv_nn x) := by
  unfold sv_nn
  by_cases h1 : x < 1
  · rw [if_pos h1]
    have h6 : x < nI 6 := Int32.lt_trans h1 (by decide)
    rw [if_pos h6, if_neg (fun q => by rw [Int32.lt_iff_toInt_lt] at q h1; omega)]
    rfl
  · rw [if_neg h1]
    obtain ⟨j, hj, rfl⟩ := nI_of (x := x) (fun q => h1 (Int32.lt_trans q (by decide)))
    rw [show (1 : Int32) = nI 1 from rfl, nI_ltI hj (by decide)] at h1
    by_cases h2 : nI 6 < nI j
    · rw [if_pos h2]
      rw [nI_ltI (by decide) hj] at h2
      have h3 : ¬ nI j < nI 6 := fun q => by rw [nI_ltI hj (by decide)] at q; omega
      simp only [if_neg h3]
      decide
    · rw [if_neg h2, nI_clamp hj]
      rw [nI_ltI (by decide) hj] at h2
      by_cases h3 : nI j < nI 6
      · rw [if_pos h3]
        by_cases h4 : (1 : Int32) < nI j
        · rw [if_pos h4]
        · rw [if_neg h4]
          rw [show (1 : Int32) = nI 1 from rfl, nI_ltI (by decide) hj] at h4
          rw [show j = 1 by omega]
          rfl
      · rw [if_neg h3]
        rw [nI_ltI hj (by decide)] at h3
        rw [show j = 6 by omega]
        rfl
/-- the cells while the nodes are made -/
def sv_ct (cI cN : ClassId) (n : Nat) (ad : Nat → Nat) (v k : Nat) : va_E :=
  if k = 0 then .inr (sv_kS, [.ref (ad 1), .int 0, .null, .int 0, .int 0, .int 0]) else if k = 1 then .inl (cN, n, .inr (.inr (.inr (.inr (fun u => if u < v then some (ad (2 + 3 * u)) else none)))))
  else if (k - 2) % 3 = 0 then .inr (sv_kN, [.int (nI ((k - 2) / 3)), .ref (ad (k + 1)), .ref (ad (k + 2)), .int 0, .int 0, .int 0, .int (-1), .null, .int 0]) else .inl (cI, n, .inl (fun _ => 0))
theorem sv_ct_0 {cI cN : ClassId} {n v : Nat} {ad : Nat → Nat} : sv_ct cI cN n ad v 0 = .inr (sv_kS, [.ref (ad 1), .int 0, .null, .int 0, .int 0, .int 0]) := if_pos rfl
theorem sv_ct_1 {cI cN : ClassId} {n v : Nat} {ad : Nat → Nat} : sv_ct cI cN n ad v 1 = .inl (cN, n, .inr (.inr (.inr (.inr (fun u => if u < v then some (ad (2 + 3 * u)) else none))))) := by
  unfold sv_ct
  rw [if_neg (by decide), if_pos rfl]
theorem sv_ct_ad {cI cN : ClassId} {n v : Nat} {ad ad1 : Nat → Nat} (h : ∀ k, k < 2 + 3 * v → ad k = ad1 k) (k : Nat) (hk : k < 2 + 3 * v) : sv_ct cI cN n ad v k = sv_ct cI cN n ad1 v k := by
  unfold sv_ct
  by_cases e0 : k = 0
  · rw [if_pos e0, if_pos e0, h 1 (by omega)]
  · rw [if_neg e0, if_neg e0]
    by_cases e1 : k = 1
    · rw [if_pos e1, if_pos e1]
      congr 7
      funext u
      by_cases hu : u < v
      · rw [if_pos hu, if_pos hu, h _ (by omega)]
      · rw [if_neg hu, if_neg hu]
    · rw [if_neg e1, if_neg e1]
      by_cases e2 : (k - 2) % 3 = 0
      · rw [if_pos e2, if_pos e2, h (k + 1) (by omega), h (k + 2) (by omega)]
      · rw [if_neg e2, if_neg e2]
/-- one node more -/
theorem sv_ct_s {cI cN : ClassId} {n v : Nat} {ad : Nat → Nat} : ∀ k, k < 2 + 3 * (v + 1) → va_up (va_up (va_up (va_up (sv_ct cI cN n ad v) (2 + 3 * v + 1) (.inl (cI, n, .inl (fun _ => 0)))) (2 + 3 * v + 1 + 1) (.inl (cI, n, .inl (fun _ => 0)))) (2 + 3 * v) (.inr (sv_kN, [.int (nI v), .ref (ad (2 + 3 * v + 1)), .ref (ad (2 + 3 * v + 1 + 1)), .int 0, .int 0, .int 0, .int (-1), .null, .int 0]))) 1 (.inl (cN, n, .inr (.inr (.inr (.inr (va_up (fun u => if u < v then some (ad (2 + 3 * u)) else none) v (some (ad (2 + 3 * v))))))))) k = sv_ct cI cN n ad (v + 1) k := by
  intro k hk
  by_cases e1 : k = 1
  · rw [e1, sv_up_s, sv_ct_1]
    congr 7
    funext u
    by_cases hu : u = v
    · subst hu
      rw [if_pos (by omega)]
      simp [va_up]
    · rw [show va_up (fun u => if u < v then some (ad (2 + 3 * u)) else none) v (some (ad (2 + 3 * v))) u = (if u < v then some (ad (2 + 3 * u)) else none) from if_neg hu]
      by_cases hu2 : u < v
      · rw [if_pos hu2, if_pos (by omega)]
      · rw [if_neg hu2, if_neg (by omega)]
  · rw [sv_up_o e1]
    by_cases e2 : k = 2 + 3 * v
    · rw [e2, sv_up_s]
      unfold sv_ct
      rw [if_neg (by omega), if_neg (by omega), if_pos (by omega), show (2 + 3 * v - 2) / 3 = v by omega]
    · rw [sv_up_o e2]
      by_cases e3 : k = 2 + 3 * v + 1 + 1
      · rw [e3, sv_up_s]
        unfold sv_ct
        rw [if_neg (by omega), if_neg (by omega), if_neg (by omega)]
      · rw [sv_up_o e3]
        by_cases e4 : k = 2 + 3 * v + 1
        · rw [e4, sv_up_s]
          unfold sv_ct
          rw [if_neg (by omega), if_neg (by omega), if_neg (by omega)]
        · rw [sv_up_o e4]
          unfold sv_ct
          by_cases e0 : k = 0
          · rw [if_pos e0, if_pos e0]
          · rw [if_neg e0, if_neg e0, if_neg e1, if_neg e1]
theorem sv_wb0 (n : Nat) : sv_wbN sv_s0 n = 2 ^ n - 1 := Nat.eq_of_testBit_eq fun i => by
  rw [sv_wbN_bit, sv_p2, show sv_s0 9 i = 0 from if_neg (fun q => absurd q.1 (by decide))]
  simp
theorem sv_ct_fin {cI cN cQ : ClassId} {n : Nat} {ad : Nat → Nat} (hn : n ≤ 6) : ∀ k, k < 3 + 3 * n + 0 → va_up (va_up (sv_ct cI cN n ad n) (2 + 3 * n) (.inl (cQ, 4 * n, .inr (.inr (.inr (.inr (fun _ => none))))))) 0 (.inr (sv_kS, [.ref (ad 1), .int (nI (2 ^ n - 1)), .ref (ad (2 + 3 * n)), .int 0, .int (nI (2 ^ n - 1)), .int 0])) k = sv_ce cI cN cQ n 0 ad sv_s0 k := by
  have hz : ∀ k i, k ≠ 15 → sv_s0 k i = 0 := fun k i h => if_neg (fun q => h q.1)
  refine sv_cells ?_ ?_ (fun v hv => ⟨?_, ?_, ?_⟩) ?_ (fun q hq => absurd hq (by omega))
  · rw [sv_up_s, sv_ce_S]
    unfold sv_fS
    rw [sv_wb0, hz 1 0 (by decide)]
    rfl
  · rw [sv_up_o (by omega), sv_up_o (by omega), sv_ct_1, sv_ce_A]
  · rw [sv_up_o (by omega), sv_up_o (by omega), sv_ce_N hv]
    unfold sv_ct sv_fN
    rw [if_neg (by omega), if_neg (by omega), if_pos (by omega), show (2 + 3 * v - 2) / 3 = v by omega, hz 12 v (by decide), hz 13 v (by decide), hz 14 v (by decide), show sv_s0 15 v = -1 from if_pos ⟨rfl, by omega⟩, show 2 + 3 * v + 1 = 3 + 3 * v by omega, show 2 + 3 * v + 2 = 4 + 3 * v by omega]
    rfl
  · rw [sv_up_o (by omega), sv_up_o (by omega), sv_ce_V hv]
    unfold sv_ct
    rw [if_neg (by omega), if_neg (by omega), if_neg (by omega)]
    congr 4
    funext w
    unfold sv_kv
    rw [hz 10 v (by decide), hz 16 _ (by decide)]
    simp
  · rw [sv_up_o (by omega), sv_up_o (by omega), sv_ce_C hv]
    unfold sv_ct
    rw [if_neg (by omega), if_neg (by omega), if_neg (by omega)]
    congr 4
    funext w
    unfold sv_ka
    rw [hz 11 v (by decide), hz 17 _ (by decide)]
    simp
  · rw [sv_up_o (by omega), sv_up_s, sv_ce_B]
    congr 7
set_option maxHeartbeats 4000000 in
set_option maxRecDepth 100000 in
theorem wS_init_J {o : Nat} (X : sv_X D cI cZ cN cQ "SliceVoting" cS_init 4 4 p (sv_rmA 4 20 200) s m args c) (hin0 : meth.name = "<init>") (hn : n ≤ 6) (hF0 : ∀ q, H0.size ≤ q → A q) (ret : ∀ (pc : Nat) (ls : Array Slot) (u : Nat → Nat) (H : Heap) (locs : List Loc), decode cS_init pc = .ok (.return_, 1) → va_S A H0 H locs → o = u 0 → (sv_cP D cI cN cQ n 0 u sv_s0 H ∧ sv_inj (3 + 3 * n + 0) u ∧ ∀ k, k < 3 + 3 * n + 0 → A (u k)) → W p l e (sv_rmA 4 20 200) s m args below meth c H locs (20) (200) Q (F0 m pc ls [])) : ∀ (kf v : Nat) (ad : Nat → Nat) (H : Heap) (locs : List Loc) (ls : Array Slot), n - v < kf → v ≤ n → o = ad 0 → va_P D vwCl (sv_L (2 + 3 * v) ad (sv_ct cI cN n ad v)) H → sv_inj (2 + 3 * v) ad → (∀ k, k < 2 + 3 * v → A (ad k)) → va_S A H0 H locs → lv_has ls 4 [(0, .ref (ad 0)), (2, .int (nI n)), (3, .int (nI v))] → W p l e (sv_rmA 4 20 200) s m args below meth c H locs (1 + 3 * v) (n + 21 * v) Q (F0 m 25 ls []) := by
  have hx := X.1
  have hb := X.2.1
  intro kf
  induction kf with
  | zero => intro v ad H locs ls hm; exact absurd hm (Nat.not_lt_zero _)
  | succ kf ih =>
    intro v ad H locs ls hm hv h00 hP hJ hA hS hl
    refine lv_iload_n (i := 3) hx hb dS_init_25 rfl (sv_at hl rfl) ?_
    refine lv_iload_n (i := 2) hx hb dS_init_26 rfl (sv_at hl rfl) ?_
    refine lv_icmp_ge (tgt := 51) hx hb dS_init_27 rfl (fun h27 => ?_) (fun h27 => ?_)
    · skip
      rw [nI_leI (by omega) (by omega)] at h27
      obtain rfl : n = v := by omega
      refine lv_aload_n (i := 0) hx hb dS_init_51 rfl (sv_at hl rfl) ?_
      refine lv_iconst (v := 1) hx hb dS_init_52 (by decide) ?_
      refine lv_iload_n (i := 2) hx hb dS_init_53 rfl (sv_at hl rfl) ?_
      refine lv_ishl hx hb dS_init_54 ?_
      refine lv_iconst (v := 1) hx hb dS_init_55 (by decide) ?_
      refine lv_isub hx hb dS_init_56 ?_
      refine x_tv (sv_p2m1 n hn) ?_
      refine y_putF (T := T_S) (M := 6) (f := 1) X hin0 in_S t_S t_S_ok nm_S hP (sv_D hJ hA) hS (k0 := 0) (by omega) sv_ct_0 rfl (by decide) (sv_tb_t 69 rfl rfl) rfl rfl (ty := .int) (by decide +kernel) rfl rfl (by show 1 < 6; decide) dS_init_57 (fun H locs hP hS => ?_)
      refine lv_aload_n (i := 0) hx hb dS_init_60 rfl (sv_at hl rfl) ?_
      refine lv_iload_n (i := 2) hx hb dS_init_61 rfl (sv_at hl rfl) ?_
      refine lv_iconst (v := nI 4) hx hb dS_init_62 (by decide) ?_
      refine lv_imul hx hb dS_init_63 ?_
      refine x_tv (y := nI (4 * n)) (by rw [pk_mul, Nat.mul_comm]) ?_
      refine y_newR X hP (sv_D hJ hA) hS hF0 3 rfl X.2.2.2.2.2.1.2.2.2 (sv_tb_t 66 rfl rfl) (N := 4 * n) (by omega) (by show 1 + 3 * n + 1 ≤ 20; omega) (by show n + 21 * n + 4 * n ≤ 200; omega) dS_init_64 (fun q9 H hP hD hS => ?_)
      obtain ⟨ad1, hq1, ho1, hP, hJ, hA⟩ := sv_grow hP hD
      have hP := sv_P_congr (en' := va_up (va_up (sv_ct cI cN n ad1 n) (2 + 3 * n) (.inl (cQ, 4 * n, .inr (.inr (.inr (.inr (fun _ => none))))))) 0 (.inr (sv_kS, [.ref (ad1 1), .int (nI (2 ^ n - 1)), .null, .int 0, .int 0, .int 0]))) (fun k hk => by
        by_cases q : k = 0
        · rw [q, sv_up_s, sv_up_o (by omega), sv_up_s, ho1 1 (by omega)]
          rfl
        · rw [sv_up_o q]
          by_cases q2 : k = 2 + 3 * n
          · rw [q2, sv_up_s, sv_up_s]
          · rw [sv_up_o q2, sv_up_o q2, sv_up_o q, sv_ct_ad ho1 k (by omega)]) hP
      refine x_st (st2 := [.ref (ad1 (2 + 3 * n)), .ref (ad1 0)]) (by rw [hq1, ho1 0 (by omega)]) ?_
      rw [ho1 0 (by omega)] at hl
      refine y_putF (T := T_S) (M := 6) (f := 2) X hin0 in_S t_S t_S_ok nm_S hP (sv_D hJ hA) hS (k0 := 0) (by omega) sv_up_s rfl (by decide) (sv_tb_t 70 rfl rfl) rfl rfl (ty := .array (.object "SliceVoting$Quota")) (by decide +kernel) rfl rfl (by show 2 < 6; decide) dS_init_67 (fun H locs hP hS => ?_)
      have hP : va_P D vwCl (sv_L (2 + 3 * n + 1) ad1 (va_up (va_up (sv_ct cI cN n ad1 n) (2 + 3 * n) (.inl (cQ, 4 * n, .inr (.inr (.inr (.inr (fun _ => none))))))) 0 (.inr (sv_kS, [.ref (ad1 1), .int (nI (2 ^ n - 1)), .ref (ad1 (2 + 3 * n)), .int 0, .int 0, .int 0])))) H := by rw [bx_uu] at hP; exact hP
      refine lv_aload_n (i := 0) hx hb dS_init_70 rfl (sv_at hl rfl) ?_
      refine lv_iconst (v := 0) hx hb dS_init_71 (by decide) ?_
      refine y_put (k := 0) hx hb X.hts in_S t_S t_S_ok nm_S X.own X.K hP (sv_D hJ hA) hS (by omega) sv_up_s rfl 3 (by decide) (sv_tb_t 71 rfl rfl) rfl (ty := .int) (by decide +kernel) rfl rfl (by show 3 < 6; decide) dS_init_72 (fun H locs hP hS => ?_)
      have hP : va_P D vwCl (sv_L (2 + 3 * n + 1) ad1 (va_up (va_up (sv_ct cI cN n ad1 n) (2 + 3 * n) (.inl (cQ, 4 * n, .inr (.inr (.inr (.inr (fun _ => none))))))) 0 (.inr (sv_kS, [.ref (ad1 1), .int (nI (2 ^ n - 1)), .ref (ad1 (2 + 3 * n)), .int 0, .int 0, .int 0])))) H := by rw [bx_uu] at hP; exact hP
      refine lv_aload_n (i := 0) hx hb dS_init_75 rfl (sv_at hl rfl) ?_
      refine lv_aload_n (i := 0) hx hb dS_init_76 rfl (sv_at hl rfl) ?_
      refine y_get (k := 0) hx hb X.hts in_S X.own X.K hP (by omega) sv_up_s rfl 1 (by decide) (sv_tb_t 69 rfl rfl) rfl dS_init_77 ?_
      refine y_put (k := 0) hx hb X.hts in_S t_S t_S_ok nm_S X.own X.K hP (sv_D hJ hA) hS (by omega) sv_up_s rfl 4 (by decide) (sv_tb_t 72 rfl rfl) rfl (ty := .int) (by decide +kernel) rfl rfl (by show 4 < 6; decide) dS_init_80 (fun H locs hP hS => ?_)
      have hP : va_P D vwCl (sv_L (2 + 3 * n + 1) ad1 (va_up (va_up (sv_ct cI cN n ad1 n) (2 + 3 * n) (.inl (cQ, 4 * n, .inr (.inr (.inr (.inr (fun _ => none))))))) 0 (.inr (sv_kS, [.ref (ad1 1), .int (nI (2 ^ n - 1)), .ref (ad1 (2 + 3 * n)), .int 0, .int (nI (2 ^ n - 1)), .int 0])))) H := by rw [bx_uu] at hP; exact hP
      refine lv_aload_n (i := 0) hx hb dS_init_83 rfl (sv_at hl rfl) ?_
      refine lv_iconst (v := 0) hx hb dS_init_84 (by decide) ?_
      refine y_put (k := 0) hx hb X.hts in_S t_S t_S_ok nm_S X.own X.K hP (sv_D hJ hA) hS (by omega) sv_up_s rfl 5 (by decide) (sv_tb_t 73 rfl rfl) rfl (ty := .boolean) (by decide +kernel) rfl rfl (by show 5 < 6; decide) dS_init_85 (fun H locs hP hS => ?_)
      have hP : va_P D vwCl (sv_L (2 + 3 * n + 1) ad1 (va_up (va_up (sv_ct cI cN n ad1 n) (2 + 3 * n) (.inl (cQ, 4 * n, .inr (.inr (.inr (.inr (fun _ => none))))))) 0 (.inr (sv_kS, [.ref (ad1 1), .int (nI (2 ^ n - 1)), .ref (ad1 (2 + 3 * n)), .int 0, .int (nI (2 ^ n - 1)), .int 0])))) H := by rw [bx_uu] at hP; exact hP
      refine W.widen (k := 20) (n := 200) (by omega) (by omega) ?_
      rw [show 2 + 3 * n + 1 = 3 + 3 * n + 0 by omega] at hP hJ
      exact ret _ _ ad1 H locs dS_init_88 hS (h00.trans (ho1 0 (by omega))) ⟨sv_P_congr (sv_ct_fin hn) hP, hJ, fun k hk => hA k (by omega)⟩
    · skip
      rw [nI_leI (by omega) (by omega)] at h27
      refine lv_aload_n (i := 0) hx hb dS_init_30 rfl (sv_at hl rfl) ?_
      refine y_get (k := 0) hx hb X.hts in_S X.own X.K hP (by omega) sv_ct_0 rfl 0 (by decide) (sv_tb_t 68 rfl rfl) rfl dS_init_31 ?_
      refine lv_iload_n (i := 3) hx hb dS_init_34 rfl (sv_at hl rfl) ?_
      refine y_newO (T := T_N) (M := 9) (ci := sv_kN) (fs := [.int 0, .null, .null, .int 0, .int 0, .int 0, .int 0, .null, .int 0]) X hP (sv_D hJ hA) hS hF0 in_N t_N t_N_ok (sv_tb_t 21 rfl rfl) (sv_tb_t 23 rfl rfl) (sv_tb_t 3 rfl rfl) rfl (fun j hj => by rcases (show j = 0 ∨ j = 1 ∨ j = 2 ∨ j = 3 ∨ j = 4 ∨ j = 5 ∨ j = 6 ∨ j = 7 ∨ j = 8 by omega) with rfl | rfl | rfl | rfl | rfl | rfl | rfl | rfl | rfl <;> rfl) (by show 1 + 3 * v + 1 ≤ 20; omega) (by show n + 21 * v + 9 ≤ 200; omega) dS_init_35 (fun q9 H hP hD hS => ?_)
      obtain ⟨ad1, hq1, ho1, hP, hJ, hA⟩ := sv_grow hP hD
      have hP := sv_P_congr (en' := va_up (sv_ct cI cN n ad1 v) (2 + 3 * v) (.inr (sv_kN, [.int 0, .null, .null, .int 0, .int 0, .int 0, .int 0, .null, .int 0]))) (fun k hk => by
        by_cases q : k = 2 + 3 * v
        · rw [q, sv_up_s, sv_up_s]
        · rw [sv_up_o q, sv_up_o q, sv_ct_ad ho1 k (by omega)]) hP
      refine x_st (st2 := [.ref (ad1 (2 + 3 * v)), .int (nI v), .ref (ad1 1)]) (by rw [hq1, ho1 1 (by omega)]) ?_
      rw [ho1 0 (by omega)] at hl
      refine lv_dup hx hb dS_init_38 rfl ?_
      refine lv_iload_n (i := 3) hx hb dS_init_39 rfl (sv_at hl rfl) ?_
      refine lv_iload_n (i := 2) hx hb dS_init_40 rfl (sv_at hl rfl) ?_
      refine sv_aN (S := Nat → Nat) (post := fun u : Nat → Nat => ∀ k, k < 2 + 3 * v + 1 → ad1 k = u k) (B := (fun (u : Nat → Nat) H => va_P D vwCl (sv_L (2 + 3 * v + 1 + 2) u (va_up (va_up (va_up (va_up (sv_ct cI cN n ad1 v) (2 + 3 * v) (.inr (sv_kN, [.int 0, .null, .null, .int 0, .int 0, .int 0, .int 0, .null, .int 0]))) (2 + 3 * v + 1) (.inl (cI, n, .inl (fun _ => 0)))) (2 + 3 * v + 1 + 1) (.inl (cI, n, .inl (fun _ => 0)))) (2 + 3 * v) (.inr (sv_kN, [.int (nI v), .ref (u (2 + 3 * v + 1)), .ref (u (2 + 3 * v + 1 + 1)), .int 0, .int 0, .int 0, .int (-1), .null, .int 0])))) H ∧ sv_inj (2 + 3 * v + 1 + 2) u ∧ ∀ k, k < 2 + 3 * v + 1 + 2 → A (u k))) (G := fun H' => va_P D vwCl (sv_L (2 + 3 * v + 1) ad1 (va_up (sv_ct cI cN n ad1 v) (2 + 3 * v) (.inr (sv_kN, [.int 0, .null, .null, .int 0, .int 0, .int 0, .int 0, .null, .int 0])))) H' ∧ H'.size = H.size) (y := yN_init) (As := [.int (nI v), .int (nI n)]) (b := ad1 (2 + 3 * v)) (n := 2) (k2 := 2) (mc := 2) (ms := 12) X (sv_tb_t 26 rfl rfl) (sv_nst_t 24 rfl rfl) (sv_tb_t 25 rfl rfl) (sv_tb_t 3 rfl rfl) rfl ⟨by decide, by decide, by decide +kernel⟩ (by decide) (cN_m_init (sz := H.size) (k0 := 2 + 3 * v) (NT := 2 + 3 * v + 1) hn (by omega) sv_up_s hJ hA (fun q h => hF0 q (Nat.le_trans hS.1 h))) ⟨hP, rfl⟩ hS (by decide) rfl hl.1 rfl (Nat.le_of_ble_eq_true rfl) (by show 1 + 3 * v + 1 + 2 ≤ 20; omega) (by show n + 21 * v + 9 + 12 ≤ 200; omega) dS_init_41 (fun ad2 H locs hu hB hS => ?_)
      obtain ⟨hP, hJ, hA⟩ := hB
      have hP := sv_P_congr (en' := va_up (va_up (va_up (sv_ct cI cN n ad2 v) (2 + 3 * v + 1) (.inl (cI, n, .inl (fun _ => 0)))) (2 + 3 * v + 1 + 1) (.inl (cI, n, .inl (fun _ => 0)))) (2 + 3 * v) (.inr (sv_kN, [.int (nI v), .ref (ad2 (2 + 3 * v + 1)), .ref (ad2 (2 + 3 * v + 1 + 1)), .int 0, .int 0, .int 0, .int (-1), .null, .int 0]))) (fun k hk => by
        by_cases q : k = 2 + 3 * v
        · rw [q, sv_up_s, sv_up_s]
        · rw [sv_up_o q, sv_up_o q]
          by_cases q2 : k = 2 + 3 * v + 1 + 1
          · rw [q2, sv_up_s, sv_up_s]
          · rw [sv_up_o q2, sv_up_o q2]
            by_cases q3 : k = 2 + 3 * v + 1
            · rw [q3, sv_up_s, sv_up_s]
            · rw [sv_up_o q3, sv_up_o q3, sv_up_o q, sv_ct_ad (ad1 := ad2) (fun k hk => hu k (by omega)) k (by omega)]) hP
      refine x_st (st2 := [.ref (ad2 (2 + 3 * v)), .int (nI v), .ref (ad2 1)]) (by rw [hu 1 (by omega), hu (2 + 3 * v) (by omega)]) ?_
      rw [hu 0 (by omega)] at hl
      refine y_aast (k := 1) (k2 := 2 + 3 * v) (f := fun u => if u < v then some (ad2 (2 + 3 * u)) else none) hx hb X.K hP (sv_D hJ hA) hS (by omega) (by omega) 2 0 (sv_upn (sv_upn (sv_upn sv_ct_1 (by omega)) (by omega)) (by omega)) rfl sv_up_s rfl (by omega) (by omega) dS_init_44 (fun H locs hP hS => ?_)
      have hP := sv_P_congr sv_ct_s hP
      refine x_iinc (i := 3) hx hb dS_init_45 hl rfl (sv_inc v) (by decide) (fun ls hl => ?_)
      refine lv_goto (tgt := 25) hx hb dS_init_48 rfl ?_
      refine W.widen (k := 1 + 3 * (v + 1)) (n := n + 21 * (v + 1)) (by omega) (by omega) ?_
      exact ih (v + 1) ad2 H locs ls (by omega) (by omega) (by rw [h00, ho1 0 (by omega), hu 0 (by omega)]) hP hJ hA hS (sv_re hl ⟨rfl, rfl, rfl, trivial⟩)

set_option maxHeartbeats 4000000 in
set_option maxRecDepth 100000 in
theorem cS_m_init {sz : Nat} {x : Int32} (hnn : n = sv_nn x) (hA : A (ad 0)) (hF : ∀ q, sz ≤ q → A q) : Met l yS_init (sv_ws yS_init cS_init 4 none) (sv_rmA 4 20 200) (sv_Pc D cI cZ cN cQ [.ref (ad 0), .int x] (fun H => va_P D vwCl (sv_L 1 ad (fun _ => .inr (sv_kS, [.null, .int 0, .null, .int 0, .int 0, .int 0]))) H ∧ H.size = sz)) (va_Qv (fun u : Nat → Nat => ad 0 = u 0) (fun (u : Nat → Nat) (t : State) => sv_cP D cI cN cQ n 0 u sv_s0 t.heap ∧ sv_inj (3 + 3 * n + 0) u ∧ ∀ k, k < 3 + 3 * n + 0 → A (u k)) A) 20 200 A :=
  sv_mkAV (S := Nat → Nat) (B := (fun (u : Nat → Nat) H => sv_cP D cI cN cQ n 0 u sv_s0 H ∧ sv_inj (3 + 3 * n + 0) u ∧ ∀ k, k < 3 + 3 * n + 0 → A (u k))) (by decide) (by show 2 ≤ 4; decide) (fun p e s m below meth c ls Q X hin0 hG hl ret => by
    have hx := X.1
    have hb := X.2.1
    obtain ⟨hP, hz⟩ := hG
    have hl : lv_has ls 4 [(0, .ref (ad 0)), (1, .int x)] := hl
    have hS : va_S A s.heap s.heap [] := va_S.rf
    have hF0 : ∀ q, s.heap.size ≤ q → A q := fun q h => hF q (by omega)
    have hn : n ≤ 6 := by rw [hnn]; exact (sv_nn_le x).2
    have hJ : sv_inj 1 ad := fun i j hi hj _ => by omega
    have hA : ∀ k, k < 1 → A (ad k) := fun k hk => by rw [show k = 0 by omega]; exact hA
    refine lv_aload_n (i := 0) hx hb dS_init_0 rfl (sv_at hl rfl) ?_
    refine W.objInit hx hb X.own (X.hts (.methodLink "SliceVoting" 3 objectInit) (sv_tb_t 12 rfl rfl)) (X.hts (.instanceMethod objectInit) (sv_tb_t 13 rfl rfl)) (X.hts (.code objectInit ⟨#[0xb1]⟩ 1 none) (sv_tb_t 14 rfl rfl)) rfl (by rw [X.2.2.1]; exact hl.1) rfl dS_init_1 (Nat.le_trans (by decide) X.2.2.2.2.2.2.1) (Nat.le_trans (Nat.le_of_ble_eq_true rfl) X.2.2.2.2.2.2.2) ?_
    refine W.eq (g2 := F0 m 4 ls []) rfl ?_
    refine lv_iconst (v := 1) hx hb dS_init_4 (by decide) ?_
    refine lv_bipush (v := nI 6) hx hb dS_init_5 (by decide) ?_
    refine lv_iload_n (i := 1) hx hb dS_init_7 rfl (sv_at hl rfl) ?_
    refine va_mmin hx hb (by rw [X.2.2.1, hl.1]) X.own (X.hts (.methodLink "SliceVoting" 9 Lib.Math.min.name) (sv_tb_t 15 rfl rfl)) (X.hts (.static Lib.Math.min.name) (sv_tb_t 16 rfl rfl)) (X.hts (.initialized "java/lang/Math") (sv_tb_t 2 rfl rfl)) (X.hts (.code Lib.Math.min.name Lib.Math.min.code 2 (some .int)) (sv_tb_t 17 rfl rfl)) (by decide) (Nat.le_of_ble_eq_true rfl) (Nat.zero_le _) (Nat.zero_le _) dS_init_8 ?_
    refine va_mmax hx hb (by rw [X.2.2.1, hl.1]) X.own (X.hts (.methodLink "SliceVoting" 15 Lib.Math.max.name) (sv_tb_t 18 rfl rfl)) (X.hts (.static Lib.Math.max.name) (sv_tb_t 19 rfl rfl)) (X.hts (.initialized "java/lang/Math") (sv_tb_t 2 rfl rfl)) (X.hts (.code Lib.Math.max.name Lib.Math.max.code 2 (some .int)) (sv_tb_t 20 rfl rfl)) (by decide) (Nat.le_of_ble_eq_true rfl) (Nat.zero_le _) (Nat.zero_le _) dS_init_11 ?_
    rw [sv_nn_c x]
    rw [← hnn]
    refine lv_istore_n (i := 2) hx hb dS_init_14 rfl hl (by decide) rfl (fun ls hl => ?_)
    refine lv_aload_n (i := 0) hx hb dS_init_15 rfl (sv_at hl rfl) ?_
    refine lv_iload_n (i := 2) hx hb dS_init_16 rfl (sv_at hl rfl) ?_
    refine y_newR X hP (sv_D hJ hA) hS hF0 2 rfl X.2.2.2.2.2.1.2.2.1 (sv_tb_t 21 rfl rfl) (N := n) (by omega) (by show 0 + 1 ≤ 20; decide) (by show 0 + n ≤ 200; omega) dS_init_17 (fun q9 H hP hD hS => ?_)
    obtain ⟨ad1, hq1, ho1, hP, hJ, hA⟩ := sv_grow hP hD
    refine x_st (st2 := [.ref (ad1 1), .ref (ad1 0)]) (by rw [hq1, ho1 0 (by omega)]) ?_
    rw [ho1 0 (by omega)] at hl
    refine y_putF (T := T_S) (M := 6) (f := 0) X hin0 in_S t_S t_S_ok nm_S hP (sv_D hJ hA) hS (k0 := 0) (by omega) (sv_upn rfl (by decide)) rfl (by decide) (sv_tb_t 68 rfl rfl) rfl rfl (ty := .array (.object "SliceVoting$Node")) (by decide +kernel) rfl rfl (by show 0 < 6; decide) dS_init_20 (fun H locs hP hS => ?_)
    have hP := sv_P_congr (en' := sv_ct cI cN n ad1 0) (fun k hk => by
      rcases (show k = 0 ∨ k = 1 by omega) with rfl | rfl
      · rw [sv_up_s, sv_ct_0]; rfl
      · rw [sv_up_o (by decide), sv_up_s, sv_ct_1]; congr 7) hP
    refine lv_iconst (v := 0) hx hb dS_init_23 (by decide) ?_
    refine lv_istore_n (i := 3) hx hb dS_init_24 rfl hl (by decide) rfl (fun ls hl => ?_)
    refine W.widen (k := 1 + 3 * 0) (n := n + 21 * 0) (by show 0 + 1 ≤ _; omega) (by show 0 + n ≤ _; omega) ?_
    exact wS_init_J X hin0 hn hF0 ret _ 0 ad1 H locs ls (Nat.lt_succ_self _) (Nat.zero_le _) (ho1 0 (by omega)) hP hJ hA hS (sv_re hl ⟨rfl, rfl, rfl, trivial⟩)
)
end SvCtor
