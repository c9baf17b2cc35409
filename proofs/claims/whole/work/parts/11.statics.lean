section SvStat
variable {p : Program} {l : Launch} {e : Env} {R : Room} {s : State} {m : MethodId} {args : Array Value} {below : List Frame} {meth : Method} {c : Code} {H H0 : Heap} {locs : List Loc} {cells slots : Nat} {Q : State → Prop}
variable {cc : ByteArray} {pc nL k : Nat} {ls : Array Slot} {lv : List (Nat × Value)} {rest : List Value} {D : va_G} {cI cZ cN cQ : ClassId} {n qc : Nat} {ad : Nat → Nat} {σ : Sg} {A : Nat → Prop} {mt qm : Nat → Int32}
theorem sv_narb (B : Bool) : narrow .boolean (.int (sv_b B)) = .int (sv_b B) := by cases B <;> rfl
set_option maxHeartbeats 4000000 in
set_option maxRecDepth 100000 in
theorem wS_has (X : sv_X D cI cZ cN cQ "SliceVoting" cS_has 2 1 p R s m args c) {x : Int32} {i : Nat} (hi : i < 32) (hl : lv_has ls 2 [(0, .int x), (1, .int (nI i))]) (ret : ∀ (pc : Nat) (ls : Array Slot), decode cS_has pc = .ok (.ireturn, 1) → W p l e R s m args below meth c H locs 0 0 Q (F0 m pc ls [.int (sv_b (bt x i))])) : W p l e R s m args below meth c H locs 0 0 Q (F0 m 0 ls []) := by
  have hx := X.1
  have hb := X.2.1
  refine lv_iload_n (i := 0) hx hb dS_has_0 rfl (sv_at hl rfl) ?_
  refine lv_iload_n (i := 1) hx hb dS_has_1 rfl (sv_at hl rfl) ?_
  refine lv_iushr hx hb dS_has_2 rfl ?_
  refine lv_iconst (v := 1) hx hb dS_has_3 (by decide) ?_
  refine lv_iand hx hb dS_has_4 ?_
  refine x_tv (sv_ush1 x hi) ?_
  refine x_ifeqB (tgt := 12) hx hb dS_has_5 rfl (fun h5 => ?_) (fun h5 => ?_)
  · skip
    refine lv_iconst (v := 0) hx hb dS_has_12 (by decide) ?_
    exact x_tv (by rw [h5]; rfl) (ret _ _ dS_has_13)
  · skip
    refine lv_iconst (v := 1) hx hb dS_has_8 (by decide) ?_
    refine lv_goto (tgt := 13) hx hb dS_has_9 rfl ?_
    exact x_tv (by rw [h5]; rfl) (ret _ _ dS_has_13)

theorem cS_m_has {x : Int32} {i : Nat} (hi : i < 32) : Met l yS_has (sv_ws yS_has cS_has 2 (some .boolean)) (sv_rm 1) (sv_Pc D cI cZ cN cQ [.int x, .int (nI i)] (fun _ => True)) (vp_Si (fun zz => zz = sv_b (bt x i))) 0 0 (fun _ => False) :=
  sv_mkR (by decide) (by show 2 ≤ 2; decide) (sv_narb _) (fun p e s m below meth c ls Q X _ hl ret => wS_has X  hi hl ret)
set_option maxRecDepth 100000 in
theorem okS_S_has : sv_okS "SliceVoting" 66 yS_has cS_has 2 (some .boolean) 2 := ⟨sv_tb_t 147 rfl rfl, sv_tb_t 145 rfl rfl, sv_tb_t 146 rfl rfl, sv_tb_t 1 rfl rfl, ⟨by decide, by decide, by decide +kernel⟩, by decide⟩
theorem kS_has (X : sv_X D cI cZ cN cQ "SliceVoting" cc nL k p R s m args c) (hk : 1 + 1 ≤ k) {x : Int32} {i : Nat} (hi : i < 32) (hl : lv_has ls nL lv) (hc : cells ≤ R.cells) (hs : slots ≤ R.slots) (hcat : (rest.map fun v => v.category).sum ≤ 8) (hd : decode cc pc = .ok (.invokestatic 66, 3)) (kk : W p l e R s m args below meth c H locs cells slots Q (F0 m (pc + 3) ls (.int (sv_b (bt x i)) :: rest))) : W p l e R s m args below meth c H locs cells slots Q (F0 m pc ls (.int (nI i) :: .int x :: rest)) :=
  sv_cS (G := fun _ => True) X okS_S_has (cS_m_has hi) trivial hk rfl hl.1 rfl hcat hc hs hd kk
set_option maxHeartbeats 4000000 in
set_option maxRecDepth 100000 in
theorem wS_ballot (X : sv_X D cI cZ cN cQ "SliceVoting" cS_ballot 2 1 p R s m args c) {a b : Nat} (ha : 1 ≤ a) (hl : lv_has ls 2 [(0, .int (nI a)), (1, .int (nI b))]) (ret : ∀ (pc : Nat) (ls : Array Slot), decode cS_ballot pc = .ok (.ireturn, 1) → W p l e R s m args below meth c H locs 0 0 Q (F0 m pc ls [.int (nI (3 * (a - 1) + b))])) : W p l e R s m args below meth c H locs 0 0 Q (F0 m 0 ls []) := by
  have hx := X.1
  have hb := X.2.1
  refine lv_iconst (v := nI 3) hx hb dS_ballot_0 (by decide) ?_
  refine lv_iload_n (i := 0) hx hb dS_ballot_1 rfl (sv_at hl rfl) ?_
  refine lv_iconst (v := 1) hx hb dS_ballot_2 (by decide) ?_
  refine lv_isub hx hb dS_ballot_3 ?_
  refine lv_imul hx hb dS_ballot_4 ?_
  refine lv_iload_n (i := 1) hx hb dS_ballot_5 rfl (sv_at hl rfl) ?_
  refine lv_iadd hx hb dS_ballot_6 ?_
  exact x_tv (by rw [show (nI a - 1 : Int32) = nI (a - 1) from pk_sub (b := 1) ha, pk_mul, nI_add]) (ret _ _ dS_ballot_7)

theorem cS_m_ballot {a b : Nat} (ha : 1 ≤ a) : Met l yS_ballot (sv_ws yS_ballot cS_ballot 2 (some .int)) (sv_rm 1) (sv_Pc D cI cZ cN cQ [.int (nI a), .int (nI b)] (fun _ => True)) (vp_Si (fun zz => zz = nI (3 * (a - 1) + b))) 0 0 (fun _ => False) :=
  sv_mkR (by decide) (by show 2 ≤ 2; decide) rfl (fun p e s m below meth c ls Q X _ hl ret => wS_ballot X  ha hl ret)
set_option maxRecDepth 100000 in
theorem okS_S_ballot : sv_okS "SliceVoting" 82 yS_ballot cS_ballot 2 (some .int) 2 := ⟨sv_tb_t 168 rfl rfl, sv_tb_t 166 rfl rfl, sv_tb_t 167 rfl rfl, sv_tb_t 1 rfl rfl, ⟨by decide, by decide, by decide +kernel⟩, by decide⟩
theorem kS_ballot (X : sv_X D cI cZ cN cQ "SliceVoting" cc nL k p R s m args c) (hk : 1 + 1 ≤ k) {a b : Nat} (ha : 1 ≤ a) (hl : lv_has ls nL lv) (hc : cells ≤ R.cells) (hs : slots ≤ R.slots) (hcat : (rest.map fun v => v.category).sum ≤ 8) (hd : decode cc pc = .ok (.invokestatic 82, 3)) (kk : W p l e R s m args below meth c H locs cells slots Q (F0 m (pc + 3) ls (.int (nI (3 * (a - 1) + b)) :: rest))) : W p l e R s m args below meth c H locs cells slots Q (F0 m pc ls (.int (nI b) :: .int (nI a) :: rest)) :=
  sv_cS (G := fun _ => True) X okS_S_ballot (cS_m_ballot ha) trivial hk rfl hl.1 rfl hcat hc hs hd kk
set_option maxHeartbeats 4000000 in
set_option maxRecDepth 100000 in
theorem wS_commitOf (X : sv_X D cI cZ cN cQ "SliceVoting" cS_commitOf 1 1 p R s m args c) {b : Nat}  (hl : lv_has ls 1 [(0, .int (nI b))]) (ret : ∀ (pc : Nat) (ls : Array Slot), decode cS_commitOf pc = .ok (.ireturn, 1) → W p l e R s m args below meth c H locs 0 0 Q (F0 m pc ls [.int (nI (12 + b))])) : W p l e R s m args below meth c H locs 0 0 Q (F0 m 0 ls []) := by
  have hx := X.1
  have hb := X.2.1
  refine lv_bipush (v := nI 12) hx hb dS_commitOf_0 (by decide) ?_
  refine lv_iload_n (i := 0) hx hb dS_commitOf_2 rfl (sv_at hl rfl) ?_
  refine lv_iadd hx hb dS_commitOf_3 ?_
  exact x_tv (by rw [nI_add]) (ret _ _ dS_commitOf_4)

theorem cS_m_commitOf {b : Nat}  : Met l yS_commitOf (sv_ws yS_commitOf cS_commitOf 1 (some .int)) (sv_rm 1) (sv_Pc D cI cZ cN cQ [.int (nI b)] (fun _ => True)) (vp_Si (fun zz => zz = nI (12 + b))) 0 0 (fun _ => False) :=
  sv_mkR (by decide) (by show 1 ≤ 1; decide) rfl (fun p e s m below meth c ls Q X _ hl ret => wS_commitOf X   hl ret)
set_option maxRecDepth 100000 in
theorem okS_S_commitOf : sv_okS "SliceVoting" 208 yS_commitOf cS_commitOf 1 (some .int) 1 := ⟨sv_tb_t 236 rfl rfl, sv_tb_t 234 rfl rfl, sv_tb_t 235 rfl rfl, sv_tb_t 1 rfl rfl, ⟨by decide, by decide, by decide +kernel⟩, by decide⟩
theorem kS_commitOf (X : sv_X D cI cZ cN cQ "SliceVoting" cc nL k p R s m args c) (hk : 1 + 1 ≤ k) {b : Nat}  (hl : lv_has ls nL lv) (hc : cells ≤ R.cells) (hs : slots ≤ R.slots) (hcat : (rest.map fun v => v.category).sum ≤ 8) (hd : decode cc pc = .ok (.invokestatic 208, 3)) (kk : W p l e R s m args below meth c H locs cells slots Q (F0 m (pc + 3) ls (.int (nI (12 + b)) :: rest))) : W p l e R s m args below meth c H locs cells slots Q (F0 m pc ls (.int (nI b) :: rest)) :=
  sv_cS (G := fun _ => True) X okS_S_commitOf (cS_m_commitOf ) trivial hk rfl hl.1 rfl hcat hc hs hd kk
set_option maxHeartbeats 4000000 in
set_option maxRecDepth 100000 in
theorem wS_isCommit (X : sv_X D cI cZ cN cQ "SliceVoting" cS_isCommit 1 1 p R s m args c) {a : Nat} (ha : a < 24) (hl : lv_has ls 1 [(0, .int (nI a))]) (ret : ∀ (pc : Nat) (ls : Array Slot), decode cS_isCommit pc = .ok (.ireturn, 1) → W p l e R s m args below meth c H locs 0 0 Q (F0 m pc ls [.int (sv_b (decide (12 ≤ a)))])) : W p l e R s m args below meth c H locs 0 0 Q (F0 m 0 ls []) := by
  have hx := X.1
  have hb := X.2.1
  refine lv_iload_n (i := 0) hx hb dS_isCommit_0 rfl (sv_at hl rfl) ?_
  refine lv_bipush (v := nI 12) hx hb dS_isCommit_1 (by decide) ?_
  refine lv_icmp_lt (tgt := 10) hx hb dS_isCommit_3 rfl (fun h3 => ?_) (fun h3 => ?_)
  · skip
    refine lv_iconst (v := 0) hx hb dS_isCommit_10 (by decide) ?_
    exact x_tv (by rw [nI_ltI (by omega) (by omega)] at h3; first | (rw [decide_eq_false (by omega)]; rfl) | (rw [decide_eq_true (by omega)]; rfl)) (ret _ _ dS_isCommit_11)
  · skip
    refine lv_iconst (v := 1) hx hb dS_isCommit_6 (by decide) ?_
    refine lv_goto (tgt := 11) hx hb dS_isCommit_7 rfl ?_
    exact x_tv (by rw [nI_ltI (by omega) (by omega)] at h3; first | (rw [decide_eq_false (by omega)]; rfl) | (rw [decide_eq_true (by omega)]; rfl)) (ret _ _ dS_isCommit_11)

theorem cS_m_isCommit {a : Nat} (ha : a < 24) : Met l yS_isCommit (sv_ws yS_isCommit cS_isCommit 1 (some .boolean)) (sv_rm 1) (sv_Pc D cI cZ cN cQ [.int (nI a)] (fun _ => True)) (vp_Si (fun zz => zz = sv_b (decide (12 ≤ a)))) 0 0 (fun _ => False) :=
  sv_mkR (by decide) (by show 1 ≤ 1; decide) (sv_narb _) (fun p e s m below meth c ls Q X _ hl ret => wS_isCommit X  ha hl ret)
set_option maxRecDepth 100000 in
theorem okS_S_isCommit : sv_okS "SliceVoting" 167 yS_isCommit cS_isCommit 1 (some .boolean) 1 := ⟨sv_tb_t 180 rfl rfl, sv_tb_t 178 rfl rfl, sv_tb_t 179 rfl rfl, sv_tb_t 1 rfl rfl, ⟨by decide, by decide, by decide +kernel⟩, by decide⟩
theorem kS_isCommit (X : sv_X D cI cZ cN cQ "SliceVoting" cc nL k p R s m args c) (hk : 1 + 1 ≤ k) {a : Nat} (ha : a < 24) (hl : lv_has ls nL lv) (hc : cells ≤ R.cells) (hs : slots ≤ R.slots) (hcat : (rest.map fun v => v.category).sum ≤ 8) (hd : decode cc pc = .ok (.invokestatic 167, 3)) (kk : W p l e R s m args below meth c H locs cells slots Q (F0 m (pc + 3) ls (.int (sv_b (decide (12 ≤ a))) :: rest))) : W p l e R s m args below meth c H locs cells slots Q (F0 m pc ls (.int (nI a) :: rest)) :=
  sv_cS (G := fun _ => True) X okS_S_isCommit (cS_m_isCommit ha) trivial hk rfl hl.1 rfl hcat hc hs hd kk
set_option maxHeartbeats 4000000 in
set_option maxRecDepth 100000 in
theorem wS_ballotOf (X : sv_X D cI cZ cN cQ "SliceVoting" cS_ballotOf 1 1 p R s m args c) {a : Nat} (ha : a < 24) (hl : lv_has ls 1 [(0, .int (nI a))]) (ret : ∀ (pc : Nat) (ls : Array Slot), decode cS_ballotOf pc = .ok (.ireturn, 1) → W p l e R s m args below meth c H locs 0 0 Q (F0 m pc ls [.int (nI (a % 12))])) : W p l e R s m args below meth c H locs 0 0 Q (F0 m 0 ls []) := by
  have hx := X.1
  have hb := X.2.1
  refine lv_iload_n (i := 0) hx hb dS_ballotOf_0 rfl (sv_at hl rfl) ?_
  refine lv_bipush (v := nI 12) hx hb dS_ballotOf_1 (by decide) ?_
  refine lv_irem hx hb dS_ballotOf_3 (by decide) ?_
  exact x_tv (by rw [pk_rem (by omega) (by decide) (by decide)]) (ret _ _ dS_ballotOf_4)

theorem cS_m_ballotOf {a : Nat} (ha : a < 24) : Met l yS_ballotOf (sv_ws yS_ballotOf cS_ballotOf 1 (some .int)) (sv_rm 1) (sv_Pc D cI cZ cN cQ [.int (nI a)] (fun _ => True)) (vp_Si (fun zz => zz = nI (a % 12))) 0 0 (fun _ => False) :=
  sv_mkR (by decide) (by show 1 ≤ 1; decide) rfl (fun p e s m below meth c ls Q X _ hl ret => wS_ballotOf X  ha hl ret)
set_option maxRecDepth 100000 in
theorem okS_S_ballotOf : sv_okS "SliceVoting" 170 yS_ballotOf cS_ballotOf 1 (some .int) 1 := ⟨sv_tb_t 183 rfl rfl, sv_tb_t 181 rfl rfl, sv_tb_t 182 rfl rfl, sv_tb_t 1 rfl rfl, ⟨by decide, by decide, by decide +kernel⟩, by decide⟩
theorem kS_ballotOf (X : sv_X D cI cZ cN cQ "SliceVoting" cc nL k p R s m args c) (hk : 1 + 1 ≤ k) {a : Nat} (ha : a < 24) (hl : lv_has ls nL lv) (hc : cells ≤ R.cells) (hs : slots ≤ R.slots) (hcat : (rest.map fun v => v.category).sum ≤ 8) (hd : decode cc pc = .ok (.invokestatic 170, 3)) (kk : W p l e R s m args below meth c H locs cells slots Q (F0 m (pc + 3) ls (.int (nI (a % 12)) :: rest))) : W p l e R s m args below meth c H locs cells slots Q (F0 m pc ls (.int (nI a) :: rest)) :=
  sv_cS (G := fun _ => True) X okS_S_ballotOf (cS_m_ballotOf ha) trivial hk rfl hl.1 rfl hcat hc hs hd kk
set_option maxHeartbeats 4000000 in
set_option maxRecDepth 100000 in
theorem wS_valueOf (X : sv_X D cI cZ cN cQ "SliceVoting" cS_valueOf 1 1 p R s m args c) {a : Nat} (ha : a < 24) (hl : lv_has ls 1 [(0, .int (nI a))]) (ret : ∀ (pc : Nat) (ls : Array Slot), decode cS_valueOf pc = .ok (.ireturn, 1) → W p l e R s m args below meth c H locs 0 0 Q (F0 m pc ls [.int (nI (a % 3))])) : W p l e R s m args below meth c H locs 0 0 Q (F0 m 0 ls []) := by
  have hx := X.1
  have hb := X.2.1
  refine lv_iload_n (i := 0) hx hb dS_valueOf_0 rfl (sv_at hl rfl) ?_
  refine lv_iconst (v := nI 3) hx hb dS_valueOf_1 (by decide) ?_
  refine lv_irem hx hb dS_valueOf_2 (by decide) ?_
  exact x_tv (by rw [pk_rem (by omega) (by decide) (by decide)]) (ret _ _ dS_valueOf_3)

theorem cS_m_valueOf {a : Nat} (ha : a < 24) : Met l yS_valueOf (sv_ws yS_valueOf cS_valueOf 1 (some .int)) (sv_rm 1) (sv_Pc D cI cZ cN cQ [.int (nI a)] (fun _ => True)) (vp_Si (fun zz => zz = nI (a % 3))) 0 0 (fun _ => False) :=
  sv_mkR (by decide) (by show 1 ≤ 1; decide) rfl (fun p e s m below meth c ls Q X _ hl ret => wS_valueOf X  ha hl ret)
set_option maxRecDepth 100000 in
theorem okS_S_valueOf : sv_okS "SliceVoting" 164 yS_valueOf cS_valueOf 1 (some .int) 1 := ⟨sv_tb_t 165 rfl rfl, sv_tb_t 163 rfl rfl, sv_tb_t 164 rfl rfl, sv_tb_t 1 rfl rfl, ⟨by decide, by decide, by decide +kernel⟩, by decide⟩
theorem kS_valueOf (X : sv_X D cI cZ cN cQ "SliceVoting" cc nL k p R s m args c) (hk : 1 + 1 ≤ k) {a : Nat} (ha : a < 24) (hl : lv_has ls nL lv) (hc : cells ≤ R.cells) (hs : slots ≤ R.slots) (hcat : (rest.map fun v => v.category).sum ≤ 8) (hd : decode cc pc = .ok (.invokestatic 164, 3)) (kk : W p l e R s m args below meth c H locs cells slots Q (F0 m (pc + 3) ls (.int (nI (a % 3)) :: rest))) : W p l e R s m args below meth c H locs cells slots Q (F0 m pc ls (.int (nI a) :: rest)) :=
  sv_cS (G := fun _ => True) X okS_S_valueOf (cS_m_valueOf ha) trivial hk rfl hl.1 rfl hcat hc hs hd kk
def sv_conC (a b : Nat) : Bool := bif decide (a % 3 = b % 3) then false else bif decide (12 ≤ a) && decide (12 ≤ b) then true else (decide (12 ≤ a) && decide (a % 12 < b % 12)) || (decide (12 ≤ b) && decide (b % 12 < a % 12))
theorem sv_conC_eq : ∀ a, a < 24 → ∀ b, b < 24 → sv_conC a b = sv_con a b := by decide +kernel
set_option maxHeartbeats 4000000 in
set_option maxRecDepth 100000 in
theorem wS_contradict (X : sv_X D cI cZ cN cQ "SliceVoting" cS_contradict 2 2 p R s m args c) {a b : Nat} (ha : a < 24) (hb2 : b < 24) (hl : lv_has ls 2 [(0, .int (nI a)), (1, .int (nI b))]) (ret : ∀ (pc : Nat) (ls : Array Slot), decode cS_contradict pc = .ok (.ireturn, 1) → W p l e R s m args below meth c H locs 0 0 Q (F0 m pc ls [.int (sv_b (sv_con a b))])) : W p l e R s m args below meth c H locs 0 0 Q (F0 m 0 ls []) := by
  have hx := X.1
  have hb := X.2.1
  refine lv_iload_n (i := 0) hx hb dS_contradict_0 rfl (sv_at hl rfl) ?_
  refine kS_valueOf X (by decide) (by omega) hl (Nat.zero_le _) (Nat.zero_le _) (Nat.le_of_ble_eq_true rfl) dS_contradict_1 ?_
  refine lv_iload_n (i := 1) hx hb dS_contradict_4 rfl (sv_at hl rfl) ?_
  refine kS_valueOf X (by decide) (by omega) hl (Nat.zero_le _) (Nat.zero_le _) (Nat.le_of_ble_eq_true rfl) dS_contradict_5 ?_
  refine lv_icmp_ne (tgt := 13) hx hb dS_contradict_8 rfl (fun h8 => ?_) (fun h8 => ?_)
  · skip
    rw [nI_eq (by omega) (by omega)] at h8
    refine lv_iload_n (i := 0) hx hb dS_contradict_13 rfl (sv_at hl rfl) ?_
    refine kS_isCommit X (by decide) (by omega) hl (Nat.zero_le _) (Nat.zero_le _) (Nat.le_of_ble_eq_true rfl) dS_contradict_14 ?_
    refine x_ifeqB (tgt := 29) hx hb dS_contradict_17 rfl (fun h17 => ?_) (fun h17 => ?_)
    · skip
      refine lv_iload_n (i := 0) hx hb dS_contradict_29 rfl (sv_at hl rfl) ?_
      refine kS_isCommit X (by decide) (by omega) hl (Nat.zero_le _) (Nat.zero_le _) (Nat.le_of_ble_eq_true rfl) dS_contradict_30 ?_
      refine x_ifeqB (tgt := 47) hx hb dS_contradict_33 rfl (fun h33 => ?_) (fun h33 => ?_)
      · skip
        refine lv_iload_n (i := 1) hx hb dS_contradict_47 rfl (sv_at hl rfl) ?_
        refine kS_isCommit X (by decide) (by omega) hl (Nat.zero_le _) (Nat.zero_le _) (Nat.le_of_ble_eq_true rfl) dS_contradict_48 ?_
        refine x_ifeqB (tgt := 69) hx hb dS_contradict_51 rfl (fun h51 => ?_) (fun h51 => ?_)
        · skip
          refine lv_iconst (v := 0) hx hb dS_contradict_69 (by decide) ?_
          exact x_tv (by clear ret hl hx hb X; rw [← sv_conC_eq a ha b hb2]; unfold sv_conC; first | (simp_all [sv_b]; done) | (simp_all [sv_b]; grind)) (ret _ _ dS_contradict_70)
        · skip
          refine lv_iload_n (i := 0) hx hb dS_contradict_54 rfl (sv_at hl rfl) ?_
          refine kS_ballotOf X (by decide) (by omega) hl (Nat.zero_le _) (Nat.zero_le _) (Nat.le_of_ble_eq_true rfl) dS_contradict_55 ?_
          refine lv_iload_n (i := 1) hx hb dS_contradict_58 rfl (sv_at hl rfl) ?_
          refine kS_ballotOf X (by decide) (by omega) hl (Nat.zero_le _) (Nat.zero_le _) (Nat.le_of_ble_eq_true rfl) dS_contradict_59 ?_
          refine lv_icmp_le (tgt := 69) hx hb dS_contradict_62 rfl (fun h62 => ?_) (fun h62 => ?_)
          · skip
            rw [nI_leI (by omega) (by omega)] at h62
            refine lv_iconst (v := 0) hx hb dS_contradict_69 (by decide) ?_
            exact x_tv (by clear ret hl hx hb X; rw [← sv_conC_eq a ha b hb2]; unfold sv_conC; first | (simp_all [sv_b]; done) | (simp_all [sv_b]; grind)) (ret _ _ dS_contradict_70)
          · skip
            rw [nI_leI (by omega) (by omega)] at h62
            refine lv_iconst (v := 1) hx hb dS_contradict_65 (by decide) ?_
            refine lv_goto (tgt := 70) hx hb dS_contradict_66 rfl ?_
            exact x_tv (by clear ret hl hx hb X; rw [← sv_conC_eq a ha b hb2]; unfold sv_conC; first | (simp_all [sv_b]; done) | (simp_all [sv_b]; grind)) (ret _ _ dS_contradict_70)
      · skip
        refine lv_iload_n (i := 1) hx hb dS_contradict_36 rfl (sv_at hl rfl) ?_
        refine kS_ballotOf X (by decide) (by omega) hl (Nat.zero_le _) (Nat.zero_le _) (Nat.le_of_ble_eq_true rfl) dS_contradict_37 ?_
        refine lv_iload_n (i := 0) hx hb dS_contradict_40 rfl (sv_at hl rfl) ?_
        refine kS_ballotOf X (by decide) (by omega) hl (Nat.zero_le _) (Nat.zero_le _) (Nat.le_of_ble_eq_true rfl) dS_contradict_41 ?_
        refine lv_icmp_gt (tgt := 65) hx hb dS_contradict_44 rfl (fun h44 => ?_) (fun h44 => ?_)
        · skip
          rw [nI_ltI (by omega) (by omega)] at h44
          refine lv_iconst (v := 1) hx hb dS_contradict_65 (by decide) ?_
          refine lv_goto (tgt := 70) hx hb dS_contradict_66 rfl ?_
          exact x_tv (by clear ret hl hx hb X; rw [← sv_conC_eq a ha b hb2]; unfold sv_conC; first | (simp_all [sv_b]; done) | (simp_all [sv_b]; grind)) (ret _ _ dS_contradict_70)
        · skip
          rw [nI_ltI (by omega) (by omega)] at h44
          refine lv_iload_n (i := 1) hx hb dS_contradict_47 rfl (sv_at hl rfl) ?_
          refine kS_isCommit X (by decide) (by omega) hl (Nat.zero_le _) (Nat.zero_le _) (Nat.le_of_ble_eq_true rfl) dS_contradict_48 ?_
          refine x_ifeqB (tgt := 69) hx hb dS_contradict_51 rfl (fun h51 => ?_) (fun h51 => ?_)
          · skip
            refine lv_iconst (v := 0) hx hb dS_contradict_69 (by decide) ?_
            exact x_tv (by clear ret hl hx hb X; rw [← sv_conC_eq a ha b hb2]; unfold sv_conC; first | (simp_all [sv_b]; done) | (simp_all [sv_b]; grind)) (ret _ _ dS_contradict_70)
          · skip
            refine lv_iload_n (i := 0) hx hb dS_contradict_54 rfl (sv_at hl rfl) ?_
            refine kS_ballotOf X (by decide) (by omega) hl (Nat.zero_le _) (Nat.zero_le _) (Nat.le_of_ble_eq_true rfl) dS_contradict_55 ?_
            refine lv_iload_n (i := 1) hx hb dS_contradict_58 rfl (sv_at hl rfl) ?_
            refine kS_ballotOf X (by decide) (by omega) hl (Nat.zero_le _) (Nat.zero_le _) (Nat.le_of_ble_eq_true rfl) dS_contradict_59 ?_
            refine lv_icmp_le (tgt := 69) hx hb dS_contradict_62 rfl (fun h62 => ?_) (fun h62 => ?_)
            · skip
              rw [nI_leI (by omega) (by omega)] at h62
              refine lv_iconst (v := 0) hx hb dS_contradict_69 (by decide) ?_
              exact x_tv (by clear ret hl hx hb X; rw [← sv_conC_eq a ha b hb2]; unfold sv_conC; first | (simp_all [sv_b]; done) | (simp_all [sv_b]; grind)) (ret _ _ dS_contradict_70)
            · skip
              rw [nI_leI (by omega) (by omega)] at h62
              refine lv_iconst (v := 1) hx hb dS_contradict_65 (by decide) ?_
              refine lv_goto (tgt := 70) hx hb dS_contradict_66 rfl ?_
              exact x_tv (by clear ret hl hx hb X; rw [← sv_conC_eq a ha b hb2]; unfold sv_conC; first | (simp_all [sv_b]; done) | (simp_all [sv_b]; grind)) (ret _ _ dS_contradict_70)
    · skip
      refine lv_iload_n (i := 1) hx hb dS_contradict_20 rfl (sv_at hl rfl) ?_
      refine kS_isCommit X (by decide) (by omega) hl (Nat.zero_le _) (Nat.zero_le _) (Nat.le_of_ble_eq_true rfl) dS_contradict_21 ?_
      refine x_ifeqB (tgt := 29) hx hb dS_contradict_24 rfl (fun h24 => ?_) (fun h24 => ?_)
      · skip
        refine lv_iload_n (i := 0) hx hb dS_contradict_29 rfl (sv_at hl rfl) ?_
        refine kS_isCommit X (by decide) (by omega) hl (Nat.zero_le _) (Nat.zero_le _) (Nat.le_of_ble_eq_true rfl) dS_contradict_30 ?_
        refine x_ifeqB (tgt := 47) hx hb dS_contradict_33 rfl (fun h33 => ?_) (fun h33 => ?_)
        · skip
          refine lv_iload_n (i := 1) hx hb dS_contradict_47 rfl (sv_at hl rfl) ?_
          refine kS_isCommit X (by decide) (by omega) hl (Nat.zero_le _) (Nat.zero_le _) (Nat.le_of_ble_eq_true rfl) dS_contradict_48 ?_
          refine x_ifeqB (tgt := 69) hx hb dS_contradict_51 rfl (fun h51 => ?_) (fun h51 => ?_)
          · skip
            refine lv_iconst (v := 0) hx hb dS_contradict_69 (by decide) ?_
            exact x_tv (by clear ret hl hx hb X; rw [← sv_conC_eq a ha b hb2]; unfold sv_conC; first | (simp_all [sv_b]; done) | (simp_all [sv_b]; grind)) (ret _ _ dS_contradict_70)
          · skip
            refine lv_iload_n (i := 0) hx hb dS_contradict_54 rfl (sv_at hl rfl) ?_
            refine kS_ballotOf X (by decide) (by omega) hl (Nat.zero_le _) (Nat.zero_le _) (Nat.le_of_ble_eq_true rfl) dS_contradict_55 ?_
            refine lv_iload_n (i := 1) hx hb dS_contradict_58 rfl (sv_at hl rfl) ?_
            refine kS_ballotOf X (by decide) (by omega) hl (Nat.zero_le _) (Nat.zero_le _) (Nat.le_of_ble_eq_true rfl) dS_contradict_59 ?_
            refine lv_icmp_le (tgt := 69) hx hb dS_contradict_62 rfl (fun h62 => ?_) (fun h62 => ?_)
            · skip
              rw [nI_leI (by omega) (by omega)] at h62
              refine lv_iconst (v := 0) hx hb dS_contradict_69 (by decide) ?_
              exact x_tv (by clear ret hl hx hb X; rw [← sv_conC_eq a ha b hb2]; unfold sv_conC; first | (simp_all [sv_b]; done) | (simp_all [sv_b]; grind)) (ret _ _ dS_contradict_70)
            · skip
              rw [nI_leI (by omega) (by omega)] at h62
              refine lv_iconst (v := 1) hx hb dS_contradict_65 (by decide) ?_
              refine lv_goto (tgt := 70) hx hb dS_contradict_66 rfl ?_
              exact x_tv (by clear ret hl hx hb X; rw [← sv_conC_eq a ha b hb2]; unfold sv_conC; first | (simp_all [sv_b]; done) | (simp_all [sv_b]; grind)) (ret _ _ dS_contradict_70)
        · skip
          refine lv_iload_n (i := 1) hx hb dS_contradict_36 rfl (sv_at hl rfl) ?_
          refine kS_ballotOf X (by decide) (by omega) hl (Nat.zero_le _) (Nat.zero_le _) (Nat.le_of_ble_eq_true rfl) dS_contradict_37 ?_
          refine lv_iload_n (i := 0) hx hb dS_contradict_40 rfl (sv_at hl rfl) ?_
          refine kS_ballotOf X (by decide) (by omega) hl (Nat.zero_le _) (Nat.zero_le _) (Nat.le_of_ble_eq_true rfl) dS_contradict_41 ?_
          refine lv_icmp_gt (tgt := 65) hx hb dS_contradict_44 rfl (fun h44 => ?_) (fun h44 => ?_)
          · skip
            rw [nI_ltI (by omega) (by omega)] at h44
            refine lv_iconst (v := 1) hx hb dS_contradict_65 (by decide) ?_
            refine lv_goto (tgt := 70) hx hb dS_contradict_66 rfl ?_
            exact x_tv (by clear ret hl hx hb X; rw [← sv_conC_eq a ha b hb2]; unfold sv_conC; first | (simp_all [sv_b]; done) | (simp_all [sv_b]; grind)) (ret _ _ dS_contradict_70)
          · skip
            rw [nI_ltI (by omega) (by omega)] at h44
            refine lv_iload_n (i := 1) hx hb dS_contradict_47 rfl (sv_at hl rfl) ?_
            refine kS_isCommit X (by decide) (by omega) hl (Nat.zero_le _) (Nat.zero_le _) (Nat.le_of_ble_eq_true rfl) dS_contradict_48 ?_
            refine x_ifeqB (tgt := 69) hx hb dS_contradict_51 rfl (fun h51 => ?_) (fun h51 => ?_)
            · skip
              refine lv_iconst (v := 0) hx hb dS_contradict_69 (by decide) ?_
              exact x_tv (by clear ret hl hx hb X; rw [← sv_conC_eq a ha b hb2]; unfold sv_conC; first | (simp_all [sv_b]; done) | (simp_all [sv_b]; grind)) (ret _ _ dS_contradict_70)
            · skip
              refine lv_iload_n (i := 0) hx hb dS_contradict_54 rfl (sv_at hl rfl) ?_
              refine kS_ballotOf X (by decide) (by omega) hl (Nat.zero_le _) (Nat.zero_le _) (Nat.le_of_ble_eq_true rfl) dS_contradict_55 ?_
              refine lv_iload_n (i := 1) hx hb dS_contradict_58 rfl (sv_at hl rfl) ?_
              refine kS_ballotOf X (by decide) (by omega) hl (Nat.zero_le _) (Nat.zero_le _) (Nat.le_of_ble_eq_true rfl) dS_contradict_59 ?_
              refine lv_icmp_le (tgt := 69) hx hb dS_contradict_62 rfl (fun h62 => ?_) (fun h62 => ?_)
              · skip
                rw [nI_leI (by omega) (by omega)] at h62
                refine lv_iconst (v := 0) hx hb dS_contradict_69 (by decide) ?_
                exact x_tv (by clear ret hl hx hb X; rw [← sv_conC_eq a ha b hb2]; unfold sv_conC; first | (simp_all [sv_b]; done) | (simp_all [sv_b]; grind)) (ret _ _ dS_contradict_70)
              · skip
                rw [nI_leI (by omega) (by omega)] at h62
                refine lv_iconst (v := 1) hx hb dS_contradict_65 (by decide) ?_
                refine lv_goto (tgt := 70) hx hb dS_contradict_66 rfl ?_
                exact x_tv (by clear ret hl hx hb X; rw [← sv_conC_eq a ha b hb2]; unfold sv_conC; first | (simp_all [sv_b]; done) | (simp_all [sv_b]; grind)) (ret _ _ dS_contradict_70)
      · skip
        refine lv_iconst (v := 1) hx hb dS_contradict_27 (by decide) ?_
        exact x_tv (by clear ret hl hx hb X; rw [← sv_conC_eq a ha b hb2]; unfold sv_conC; first | (simp_all [sv_b]; done) | (simp_all [sv_b]; grind)) (ret _ _ dS_contradict_28)
  · skip
    rw [nI_eq (by omega) (by omega)] at h8
    refine lv_iconst (v := 0) hx hb dS_contradict_11 (by decide) ?_
    exact x_tv (by clear ret hl hx hb X; rw [← sv_conC_eq a ha b hb2]; unfold sv_conC; first | (simp_all [sv_b]; done) | (simp_all [sv_b]; grind)) (ret _ _ dS_contradict_12)

theorem cS_m_contradict {a b : Nat} (ha : a < 24) (hb2 : b < 24) : Met l yS_contradict (sv_ws yS_contradict cS_contradict 2 (some .boolean)) (sv_rm 2) (sv_Pc D cI cZ cN cQ [.int (nI a), .int (nI b)] (fun _ => True)) (vp_Si (fun zz => zz = sv_b (sv_con a b))) 0 0 (fun _ => False) :=
  sv_mkR (by decide) (by show 2 ≤ 2; decide) (sv_narb _) (fun p e s m below meth c ls Q X _ hl ret => wS_contradict X  ha hb2 hl ret)
set_option maxRecDepth 100000 in
theorem okS_S_contradict : sv_okS "SliceVoting" 173 yS_contradict cS_contradict 2 (some .boolean) 2 := ⟨sv_tb_t 177 rfl rfl, sv_tb_t 175 rfl rfl, sv_tb_t 176 rfl rfl, sv_tb_t 1 rfl rfl, ⟨by decide, by decide, by decide +kernel⟩, by decide⟩
theorem kS_contradict (X : sv_X D cI cZ cN cQ "SliceVoting" cc nL k p R s m args c) (hk : 2 + 1 ≤ k) {a b : Nat} (ha : a < 24) (hb2 : b < 24) (hl : lv_has ls nL lv) (hc : cells ≤ R.cells) (hs : slots ≤ R.slots) (hcat : (rest.map fun v => v.category).sum ≤ 8) (hd : decode cc pc = .ok (.invokestatic 173, 3)) (kk : W p l e R s m args below meth c H locs cells slots Q (F0 m (pc + 3) ls (.int (sv_b (sv_con a b)) :: rest))) : W p l e R s m args below meth c H locs cells slots Q (F0 m pc ls (.int (nI b) :: .int (nI a) :: rest)) :=
  sv_cS (G := fun _ => True) X okS_S_contradict (cS_m_contradict ha hb2) trivial hk rfl hl.1 rfl hcat hc hs hd kk
end SvStat
