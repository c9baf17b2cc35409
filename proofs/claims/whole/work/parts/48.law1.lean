section SvLaw1
/-! the start: the classes and the arrays' classes -/
theorem sv_start {s : State} {args : Array Value} (hts : ∀ w ∈ lw_tbl, w.before args s = true) : ∃ (D : va_G) (cI cZ cN cQ : ClassId), sv_KK D cI cZ cN cQ s := by
  have ht : ∀ w ∈ sv_tb, w.before args s = true := fun w hw => hts w (List.mem_filter.mp hw).1
  have htt : ∀ (i : Nat) (w : Cond), tables_1[i]? = some w → w.before args s = true := fun i w h => hts w (List.mem_append_right _ (List.mem_of_getElem? h))
  obtain ⟨n0, n1, hN⟩ := u_known ht in_N (htt 23 _ rfl)
  obtain ⟨q0, q1, hQ⟩ := u_known ht in_Q (htt 99 _ rfl)
  obtain ⟨s0, s1, hS⟩ := u_known ht in_S (htt 8 _ rfl)
  obtain ⟨m0, m1, hM⟩ := u_known ht in_M (htt 307 _ rfl)
  obtain ⟨cI, kI, pI, i1, i2, i3⟩ := Cond.arrayClass_spec (htt 65 (.arrayClass .int) rfl)
  obtain ⟨cZ, kZ, pZ, z1, z2, z3⟩ := Cond.arrayClass_spec (htt 370 (.arrayClass .boolean) rfl)
  have oN : (Cond.arrayOver (.object "SliceVoting$Node")).before args s = true := htt 22 _ rfl
  have oQ : (Cond.arrayOver (.object "SliceVoting$Quota")).before args s = true := htt 67 _ rfl
  obtain ⟨pN, cN, kN, a1, -, a2, a3, a4⟩ := Cond.arrayOver_spec oN
  obtain ⟨pQ, cQ, kQ, b1, -, b2, b3, b4⟩ := Cond.arrayOver_spec oQ
  refine ⟨(fun k => match k with | 0 => n0 | 1 => q0 | 2 => s0 | _ => m0, fun k => match k with | 0 => n1 | 1 => q1 | 2 => s1 | _ => m1), cI, cZ, cN, cQ, ⟨fun k q hq => ?_, fun k q hq => ?_⟩, fun w hw => ?_, va_AO.of oN, va_AO.of oQ⟩
  · match k, hq with
    | 0, hq => cases hq; exact hN
    | 1, hq => cases hq; exact hQ
    | 2, hq => cases hq; exact hS
    | 3, hq => cases hq; exact hM
  · match k, hq with
    | 0, hq => cases hq; exact ⟨fun n z => ⟨(fun k h => by cases h), kI, i2, pI, i3⟩, i1⟩
    | 1, hq => cases hq; exact ⟨fun n z => ⟨(fun k h => by cases h), kZ, z2, pZ, z3⟩, z1⟩
    | 2, hq => cases hq; exact ⟨fun n z => ⟨(fun k h => by cases h), kN, a2, pN, a3⟩, kN, pN, a2, a3, a1, a4⟩
    | 3, hq => cases hq; exact ⟨fun n z => ⟨(fun k h => by cases h), kQ, b2, pQ, b3⟩, kQ, pQ, b2, b3, b1, b4⟩
  · obtain ⟨h1, h2⟩ := List.mem_filter.mp hw
    have h3 : w.before args s = true := hts w (List.mem_append_right _ h1)
    cases w <;> first | exact va_Nw.of rfl h3 | (cases h2)
variable {p : Program} {l : Launch} {e : Env} {R : Room} {s : State} {m : MethodId} {args : Array Value} {below : List Frame} {meth : Method} {c : Code} {H H0 : Heap} {locs : List Loc} {cells slots : Nat} {Q : State → Prop}
variable {cc bytes : ByteArray} {pc nL k k2 maxL n index mc ms : Nat} {ls : Array Slot} {rest st As : List Value} {D : va_G} {cI cZ cN cQ : ClassId} {own : String} {y : MethodName} {ret : Option FieldType} {G : Heap → Prop} {b : Nat} {A A0 A1 : Nat → Prop} {S : Type} {L : Nat} {xs : Nat → Int32}
/-! the method cell, at the script's first place -/
def sv_x0 (L : Nat) (xs : Nat → Int32) : Int32 := if 0 < L then xs 0 else 0
abbrev sv_Px (b L : Nat) (xs : Nat → Int32) : Array Value → State → Prop := va_Pc [.ref b, .int 0] (fun U => va_X b L xs U U.heap ∧ b < U.heap.size)
theorem cL_m_cell (hL : L ≤ 2561) : Met l yL_cell (sv_ws yL_cell cL_cell 2 (some .int)) (sv_rm 1) (sv_Px b L xs) (vp_Si (fun x => x = sv_x0 L xs)) 0 0 (fun _ => False) := by
  refine Met.ofW (cc := cL_cell) (maxL := 2) (ret := some .int) (by decide) rfl ?_
  intro p e s m args below meth c s₁ B hml hv
  obtain ⟨rfl, hX, hbl⟩ := hv
  have hx := B.exec
  have hb := B.bytes
  have hr := B.returns
  have hlocks := B.notSynchronized
  have hl := lv_entry [Value.ref b, .int 0] (n := 2) (by show 2 ≤ 2; decide)
  rw [lg_entry_eq]
  generalize (lg_sl [Value.ref b, .int 0] ++ List.replicate (2 - (lg_sl [Value.ref b, .int 0]).length) Slot.unset).toArray = ls at hl ⊢
  have hl : lv_has ls 2 [(0, .ref b), (1, .int 0)] := hl
  have hS : va_S (fun _ => False) s.heap s.heap [] := va_S.rf
  refine lv_iload_n (i := 1) hx hb dL_cell_0 rfl (sv_at hl rfl) ?_
  refine lv_aload_n (i := 0) hx hb dL_cell_1 rfl (sv_at hl rfl) ?_
  refine va_slen hx hb hX hbl (fun q => q) hS dL_cell_2 ?_
  refine lv_icmp_ge (tgt := 12) hx hb dL_cell_3 rfl (fun h3 => ?_) (fun h3 => ?_)
  · refine lv_iconst (v := 0) hx hb dL_cell_12 (by decide) ?_
    have e0 : (0 : Int32) = sv_x0 L xs := by
      unfold sv_x0
      rw [if_neg]
      intro q
      have h4 : nI L ≤ nI 0 := h3
      rw [nI_leI (by omega) (by decide)] at h4
      omega
    refine x_tv e0 ?_
    exact W.zret hx hb hr rfl (fun t ht hW => ⟨_, rfl, rfl, ht⟩) (fun _ h => by cases h) dL_cell_13
  · have h4 : ¬ nI L ≤ nI 0 := h3
    rw [nI_leI (by omega) (by decide)] at h4
    refine lv_aload_n (i := 0) hx hb dL_cell_6 rfl (sv_at hl rfl) ?_
    refine lv_iload_n (i := 1) hx hb dL_cell_7 rfl (sv_at hl rfl) ?_
    refine va_sld hx hb hX hbl (fun q => q) hS (i := 0) (vp_in_nI (n := 0) (by omega) (by omega)) dL_cell_8 ?_
    refine lv_goto (tgt := 13) hx hb dL_cell_9 rfl ?_
    have e0 : xs (0 : Int32).toNatClampNeg = sv_x0 L xs := by
      unfold sv_x0
      rw [if_pos (by omega)]
      rfl
    refine x_tv e0 ?_
    exact W.zret hx hb hr rfl (fun t ht hW => ⟨_, rfl, rfl, ht⟩) (fun _ h => by cases h) dL_cell_13
theorem okL_L_cell : sv_okS "SliceVotingLaw" 9 yL_cell cL_cell 2 (some .int) 2 := ⟨sv_tb_t 305 rfl rfl, sv_tb_t 303 rfl rfl, sv_tb_t 304 rfl rfl, sv_tb_t 0 rfl rfl, ⟨by decide, by decide, by decide +kernel⟩, by decide⟩
theorem kL_cell (X : sv_X D cI cZ cN cQ "SliceVotingLaw" cc nL k p R s m args c) (hk : 1 + 1 ≤ k) (hL : L ≤ 2561) (hX : va_X b L xs s H0) (hbl : b < H0.size) (hbA : ¬ A b) (hS : va_S A H0 H locs) (hsz : ls.size = nL) (hc : cells ≤ R.cells) (hs : slots ≤ R.slots) (hcat : (rest.map fun v => v.category).sum ≤ 8) (hd : decode cc pc = .ok (.invokestatic 9, 3)) (kk : W p l e R s m args below meth c H locs cells slots Q (F0 m (pc + 3) ls (.int (sv_x0 L xs) :: rest))) : W p l e R s m args below meth c H locs cells slots Q (F0 m pc ls (.int 0 :: .ref b :: rest)) := by
  have cw := sv_cwS (k2 := 1) X okL_L_cell hk
  obtain ⟨hx, hb, hml, hown, hts, hKK, -⟩ := X
  have hX2 : va_X b L xs s H := hX.kept (hS.2.1 b hbl hbA)
  refine vp_callSi (W.runS (As := [.ref b, .int 0]) (rest := rest) (Ts := sv_tb) ⟨hx, hb, hml, hown, hts⟩ (cL_m_cell (b := b) (xs := xs) hL) cw ⟨fun a U g mk h => ⟨h.1, va_X.moved (u := U) (U := U.calling g mk a) (Vm.Alike.refl U.vm) h.2.1, h.2.2⟩, fun U hU hW => ⟨rfl, by rw [hU]; exact va_X.moved hW.alike hX2, by rw [hU]; exact Nat.lt_of_lt_of_le hbl hS.1⟩⟩ rfl rfl hsz rfl (lv_room hcat) hd ⟨hc, hs⟩) (fun r' hr' => ?_)
  rw [hr']
  exact kk
/-- one word of the script -/
theorem sv_arg (hx : p.tables.exec = Jvm.exec) (hb : c.code = cc) {v j : Nat} {cj : Int} {lv : List (Nat × Value)} (hl : lv_has ls nL lv) (h0 : sv_lk 0 lv = some (.ref b)) (h3 : sv_lk 3 lv = some (.int (nI v))) (hL : L ≤ 2561) (hX : va_X b L xs s H0) (hbl : b < H0.size) (hbA : ¬ A b) (hS : va_S A H0 H locs) (hj : v + j < L) (hcj : Int32.ofInt cj = nI j)
    (d0 : decode cc pc = .ok (.aload_n 0, 1)) (d1 : decode cc (pc + 1) = .ok (.iload_n 3, 1)) (d2 : decode cc (pc + 2) = .ok (.iconst cj, 1)) (d3 : decode cc (pc + 3) = .ok (.iadd, 1)) (d4 : decode cc (pc + 4) = .ok (.iaload, 1))
    (kk : W p l e R s m args below meth c H locs cells slots Q (F0 m (pc + 5) ls (.int (xs (v + j)) :: rest))) : W p l e R s m args below meth c H locs cells slots Q (F0 m pc ls rest) := by
  refine lv_aload_n (i := 0) hx hb d0 rfl (sv_at hl h0) ?_
  refine lv_iload_n (i := 3) hx hb d1 rfl (sv_at hl h3) ?_
  refine lv_iconst (v := nI j) hx hb d2 hcj ?_
  refine lv_iadd hx hb d3 ?_
  refine x_tv (y := nI (v + j)) (by rw [nI_add]) ?_
  refine va_sld hx hb hX hbl hbA hS (i := nI (v + j)) (vp_in_nI hj (by omega)) d4 ?_
  refine x_tv (y := xs (v + j)) (by rw [nI_clamp (by omega)]) ?_
  exact kk
/-- a call that makes cells or writes; what lies outside its own set stays -/
theorem sv_lV {post : Int32 → S → Prop} {B : S → Heap → Prop} (X : sv_X D cI cZ cN cQ own cc nL k p R s m args c) (ok : sv_okV own index y bytes maxL ret n) (hM : Met l y (sv_ws y bytes maxL ret) (sv_rmA k2 mc ms) (sv_Pc D cI cZ cN cQ (.ref b :: As) G) (va_Qi post (fun u t => B u t.heap) A1) mc ms A1)
    (hG : G H) (hrec : ∃ cellB : Cell, H[b]? = some cellB ∧ cellB.vm.isStatics = false ∧ s.vm.findClass y.cls = some cellB.cls) (hS : va_S A0 H0 H locs) (hA1 : ∀ q, A1 q → A0 q) (hk : k2 + 1 ≤ k) (hn : As.length = n) (hsz : ls.size = nL) (hst : st = As.reverse ++ .ref b :: rest) (hcat : (rest.map fun v => v.category).sum ≤ 8) (hc : cells + mc ≤ R.cells) (hs : slots + ms ≤ R.slots) (hdg : decode cc pc = .ok (.invokevirtual index, 3))
    (kk : ∀ (r : Int32) (u : S) (H1 : Heap) (locs1 : List Loc), post r u → B u H1 → H.size ≤ H1.size → (∀ q : Nat, q < H.size → ¬ A1 q → H1[q]? = H[q]?) → va_S A0 H0 H1 locs1 → W p l e R s m args below meth c H1 locs1 (cells + mc) (slots + ms) Q (F0 m (pc + 3) ls (.int r :: rest))) : W p l e R s m args below meth c H locs cells slots Q (F0 m pc ls st) := by
  obtain ⟨hx, hb, hml, hown, hts, hKK, hf, hlo⟩ := X
  obtain ⟨h1, h2, h3, h4, h5, h6, h7⟩ := ok
  have cw : CallW R s args own y.cls index y bytes maxL ret (sv_ws y bytes maxL ret) (sv_rmA k2 mc ms) mc ms n := ⟨callB_of (Ts := sv_tb) (rm := sv_rmA k2 mc ms) n hts (sv_good (fun w h => h) h1) rfl rfl rfl (hts _ h5) (hts _ h2) h6 ⟨by show k2 + 1 ≤ _; omega, by show 8 + (maxL + 11) + 40 * k2 ≤ _; omega⟩, hts _ h3, hts _ h4⟩
  exact va_calli (va_runV (As := As) (rest := rest) (Ts := sv_tb) ⟨hx, hb, hml, hown, hts⟩ hM cw ⟨sv_blind, hrec, fun U hU hW => ⟨rfl, sv_KK_warm hW hKK, by rw [hU]; exact hG⟩⟩ rfl hn hsz hst (lv_room hcat) hdg ⟨hc, hs⟩) hS (fun q _ h => hA1 q h) (fun q h => hA1 q h) (fun r u t H1 locs1 ht _ hp hB hz hk hS1 => kk r u H1 locs1 hp (by rw [← ht]; exact hB) hz hk hS1)
theorem sv_lI {post : S → Prop} {B : S → Heap → Prop} (X : sv_X D cI cZ cN cQ own cc nL k p R s m args c) (h1 : Cond.code y bytes maxL none ∈ sv_tb) (h2 : Cond.methodLink own index y ∈ sv_tb) (h3 : Cond.instanceMethod y ∈ sv_tb) (h5 : Cond.initialized y.cls ∈ sv_tb) (hy1 : y.name = "<init>") (h6 : y.cls ≠ "java/lang/invoke/MethodHandle" ∧ y.cls ≠ "java/lang/invoke/VarHandle" ∧ (parseMethodDescriptor y.desc).map (fun d => d.parameters.length) = some n) (h7 : maxL ≤ 21) (hM : Met l y (sv_ws y bytes maxL none) (sv_rmA k2 mc ms) (sv_Pc D cI cZ cN cQ (.ref b :: As) G) (va_Qv post (fun u t => B u t.heap) A1) mc ms A1)
    (hG : G H) (hS : va_S A0 H0 H locs) (hA1 : ∀ q, A1 q → A0 q) (hk : k2 + 1 ≤ k) (hn : As.length = n) (hsz : ls.size = nL) (hst : st = As.reverse ++ .ref b :: rest) (hcat : (rest.map fun v => v.category).sum ≤ 8) (hc : cells + mc ≤ R.cells) (hs : slots + ms ≤ R.slots) (hdg : decode cc pc = .ok (.invokespecial index, 3))
    (kk : ∀ (u : S) (H1 : Heap) (locs1 : List Loc), post u → B u H1 → H.size ≤ H1.size → (∀ q : Nat, q < H.size → ¬ A1 q → H1[q]? = H[q]?) → va_S A0 H0 H1 locs1 → W p l e R s m args below meth c H1 locs1 (cells + mc) (slots + ms) Q (F0 m (pc + 3) ls rest)) : W p l e R s m args below meth c H locs cells slots Q (F0 m pc ls st) := by
  obtain ⟨hx, hb, hml, hown, hts, hKK, hf, hlo⟩ := X
  have cw : CallB R s args own index y bytes maxL none (sv_ws y bytes maxL none) (sv_rmA k2 mc ms) mc ms n := callB_of (Ts := sv_tb) (rm := sv_rmA k2 mc ms) n hts (sv_good (fun w h => h) h1) rfl rfl rfl (hts _ h5) (hts _ h2) h6 ⟨by show k2 + 1 ≤ _; omega, by show 8 + (maxL + 11) + 40 * k2 ≤ _; omega⟩
  exact va_callv (va_runI (As := As) (rest := rest) (Ts := sv_tb) ⟨hx, hb, hml, hown, hts⟩ hM ⟨cw, hy1, hts _ h3⟩ ⟨sv_blind, fun U hU hW => ⟨rfl, sv_KK_warm hW hKK, by rw [hU]; exact hG⟩⟩ rfl hn hsz hst (lv_room hcat) hdg ⟨hc, hs⟩) hS (fun q _ h => hA1 q h) (fun q h => hA1 q h) (fun u t H1 locs1 ht _ hp hB hz hk hS1 => kk u H1 locs1 hp (by rw [← ht]; exact hB) hz hk hS1)
/-! two worlds apart -/
theorem sv_P_lt {N : Nat} {ad : Nat → Nat} {en : Nat → va_E} (hP : va_P D vwCl (sv_L N ad en) H) {k : Nat} (hk : k < N) : ad k < H.size := (hP k _ (sv_L_at hk)).lt
theorem sv_P_kept {N : Nat} {ad : Nat → Nat} {en : Nat → va_E} {H1 : Heap} (hP : va_P D vwCl (sv_L N ad en) H) (hk : ∀ q : Nat, q < H.size → ¬ A1 q → H1[q]? = H[q]?) (hA : ∀ k, k < N → ¬ A1 (ad k)) : va_P D vwCl (sv_L N ad en) H1 := hP.kept fun k q hq => by
  obtain ⟨h1, rfl⟩ := sv_L_some hq
  exact hk _ (sv_P_lt hP h1) (hA k h1)
end SvLaw1
