section SvAlloc
def sv_rmA (k mc ms : Nat) : Room := { frames := k, cells := mc, slots := ms, locals := 40 * k }
variable {p : Program} {l : Launch} {e : Env} {R : Room} {s : State} {m : MethodId} {args : Array Value} {below : List Frame} {meth : Method} {c : Code} {H H0 : Heap} {locs : List Loc} {cells slots : Nat} {Q : State → Prop}
variable {cc bytes : ByteArray} {pc nL k k2 maxL n index mc ms : Nat} {ls : Array Slot} {rest st As : List Value} {D : va_G} {cI cZ cN cQ : ClassId} {own : String} {y : MethodName} {ret : Option FieldType} {G : Heap → Prop} {b : Nat} {A : Nat → Prop} {S : Type} {ws : va_W}
theorem sv_cA {s : State} {D : va_G} {cl : List vw_C} {tys : List (ClassId × FieldType)} {cA cB : ClassId} {ty : FieldType} (h : va_K D cl tys s) (t0 : Nat) (h0 : tys[t0]? = some (cB, ty)) (h1 : va_K D cl (tys ++ [(cA, ty)]) s) : cA = cB := by
  have a := (h.2 t0 _ h0).2
  have b := (h1.2 tys.length (cA, ty) (by simp)).2
  dsimp only at a b
  cases ty <;> first
    | (obtain ⟨_, _, _, _, _, a⟩ := a; obtain ⟨_, _, _, _, _, b⟩ := b; exact Option.some.inj (b.symm.trans a))
    | exact Option.some.inj (b.symm.trans a)
theorem y_newI (X : sv_X D cI cZ cN cQ own cc nL k p R s m args c) (hP : va_P D vwCl ws H) (hD : va_D A ws) (hS : va_S A H0 H locs) (hF : ∀ q, H0.size ≤ q → A q) (harr : Cond.arrayClass .int ∈ sv_tb) {N : Nat} (hN : N ≤ 1000) (hc : cells + 1 ≤ R.cells) (hs : slots + N ≤ R.slots) (hd : decode cc pc = .ok (.newarray .int, 2))
    (kk : ∀ (q : Nat) (H1 : Heap), va_P D vwCl (ws ++ [(q, .inl (cI, N, .inl (fun _ => 0)))]) H1 → va_D A (ws ++ [(q, .inl (cI, N, .inl (fun _ => 0)))]) → va_S A H0 H1 locs → W p l e R s m args below meth c H1 locs (cells + 1) (slots + N) Q (F0 m (pc + 2) ls (.ref q :: rest))) : W p l e R s m args below meth c H locs cells slots Q (F0 m pc ls (.int (nI N) :: rest)) :=
  va_newa (atype := .int) X.1 X.2.1 (X.hts _ harr) (ty := .int) rfl X.K hP hD hS hF (a0 := (N, .inl (fun _ => 0))) (fun cA => rfl) (nI_pos (by omega)) (nI_clamp (by omega)) (by show N * 4 ≤ _; omega) hc hs hd (fun q cA H1 hK h1 h2 h3 => by
    have e := sv_cA X.K 0 rfl hK
    subst e
    exact kk q H1 h1 h2 h3)
theorem y_newZ (X : sv_X D cI cZ cN cQ own cc nL k p R s m args c) (hP : va_P D vwCl ws H) (hD : va_D A ws) (hS : va_S A H0 H locs) (hF : ∀ q, H0.size ≤ q → A q) (harr : Cond.arrayClass .boolean ∈ sv_tb) {N : Nat} (hN : N ≤ 1000) (hc : cells + 1 ≤ R.cells) (hs : slots + N ≤ R.slots) (hd : decode cc pc = .ok (.newarray .boolean, 2))
    (kk : ∀ (q : Nat) (H1 : Heap), va_P D vwCl (ws ++ [(q, .inl (cZ, N, .inl (fun _ => 0)))]) H1 → va_D A (ws ++ [(q, .inl (cZ, N, .inl (fun _ => 0)))]) → va_S A H0 H1 locs → W p l e R s m args below meth c H1 locs (cells + 1) (slots + N) Q (F0 m (pc + 2) ls (.ref q :: rest))) : W p l e R s m args below meth c H locs cells slots Q (F0 m pc ls (.int (nI N) :: rest)) :=
  va_newa (atype := .boolean) X.1 X.2.1 (X.hts _ harr) (ty := .boolean) rfl X.K hP hD hS hF (a0 := (N, .inl (fun _ => 0))) (fun cA => rfl) (nI_pos (by omega)) (nI_clamp (by omega)) (by show N * 1 ≤ _; omega) hc hs hd (fun q cA H1 hK h1 h2 h3 => by
    have e := sv_cA X.K 1 rfl hK
    subst e
    exact kk q H1 h1 h2 h3)
/-- an array of references -/
theorem y_newR (X : sv_X D cI cZ cN cQ own cc nL k p R s m args c) (hP : va_P D vwCl ws H) (hD : va_D A ws) (hS : va_S A H0 H locs) (hF : ∀ q, H0.size ≤ q → A q) {C : String} {cB : ClassId} (t0 : Nat) (h0 : (sv_tys cI cZ cN cQ)[t0]? = some (cB, .object C)) (hAO : va_AO C s) (hcl : Cond.classLink own index C ∈ sv_tb) {N : Nat} (hN : N ≤ 1000) (hc : cells + 1 ≤ R.cells) (hs : slots + N ≤ R.slots) (hd : decode cc pc = .ok (.anewarray index, 3))
    (kk : ∀ (q : Nat) (H1 : Heap), va_P D vwCl (ws ++ [(q, .inl (cB, N, .inr (.inr (.inr (.inr (fun _ => none))))))]) H1 → va_D A (ws ++ [(q, .inl (cB, N, .inr (.inr (.inr (.inr (fun _ => none))))))]) → va_S A H0 H1 locs → W p l e R s m args below meth c H1 locs (cells + 1) (slots + N) Q (F0 m (pc + 3) ls (.ref q :: rest))) : W p l e R s m args below meth c H locs cells slots Q (F0 m pc ls (.int (nI N) :: rest)) :=
  va_newq X.1 X.2.1 X.own (X.hts _ hcl) hAO X.K hP hD hS hF (nI_pos (by omega)) (nI_clamp (by omega)) (by omega) hc hs hd (fun q cA H1 hK h1 h2 h3 => by
    have e := sv_cA X.K t0 h0 hK
    subst e
    exact kk q H1 h1 h2 h3)
theorem y_newO (X : sv_X D cI cZ cN cQ own cc nL k p R s m args c) (hP : va_P D vwCl ws H) (hD : va_D A ws) (hS : va_S A H0 H locs) (hF : ∀ q, H0.size ≤ q → A q) {C : String} {T : u_T} {M ci : Nat} (hin : ∀ w ∈ u_ws C T M, w ∈ sv_tb) (ty : Nat → FieldType) (hty : ∀ k, k < M → parseFieldDescriptor (T k).2.2.1 = some (ty k)) (hcl : Cond.classLink own index C ∈ sv_tb) (hins : Cond.instantiable C M ∈ sv_tb) (hini : Cond.initialized C ∈ sv_tb) (hc0 : vwCl[ci]? = some (C, T, M)) {fs : List Value} (hfs : ∀ j, j < M → defaultValue (ty j) = vp_V fs j) (hc : cells + 1 ≤ R.cells) (hs : slots + M ≤ R.slots) (hd : decode cc pc = .ok (.new index, 3))
    (kk : ∀ (q : Nat) (H1 : Heap), va_P D vwCl (ws ++ [(q, .inr (ci, fs))]) H1 → va_D A (ws ++ [(q, .inr (ci, fs))]) → va_S A H0 H1 locs → W p l e R s m args below meth c H1 locs (cells + 1) (slots + M) Q (F0 m (pc + 3) ls (.ref q :: rest))) : W p l e R s m args below meth c H locs cells slots Q (F0 m pc ls rest) :=
  va_new X.1 X.2.1 X.hts hin ty hty X.own (X.hts _ hcl) (X.hts _ hins) (X.hts _ hini) X.K hP hD hS hF hc0 hfs hc hs hd kk
/-! calls that make cells -/
theorem sv_aV {post : Int32 → S → Prop} {B : S → Heap → Prop} (X : sv_X D cI cZ cN cQ own cc nL k p R s m args c) (ok : sv_okV own index y bytes maxL ret n) (hM : Met l y (sv_ws y bytes maxL ret) (sv_rmA k2 mc ms) (sv_Pc D cI cZ cN cQ (.ref b :: As) G) (va_Qi post (fun u t => B u t.heap) A) mc ms A)
    (hG : G H) (hrec : ∃ cellB : Cell, H[b]? = some cellB ∧ cellB.vm.isStatics = false ∧ s.vm.findClass y.cls = some cellB.cls) (hS : va_S A H0 H locs) (hk : k2 + 1 ≤ k) (hn : As.length = n) (hsz : ls.size = nL) (hst : st = As.reverse ++ .ref b :: rest) (hcat : (rest.map fun v => v.category).sum ≤ 8) (hc : cells + mc ≤ R.cells) (hs : slots + ms ≤ R.slots) (hdg : decode cc pc = .ok (.invokevirtual index, 3))
    (kk : ∀ (r : Int32) (u : S) (H1 : Heap) (locs1 : List Loc), post r u → B u H1 → H.size ≤ H1.size → va_S A H0 H1 locs1 → W p l e R s m args below meth c H1 locs1 (cells + mc) (slots + ms) Q (F0 m (pc + 3) ls (.int r :: rest))) : W p l e R s m args below meth c H locs cells slots Q (F0 m pc ls st) := by
  obtain ⟨hx, hb, hml, hown, hts, hKK, hf, hlo⟩ := X
  obtain ⟨h1, h2, h3, h4, h5, h6, h7⟩ := ok
  have cw : CallW R s args own y.cls index y bytes maxL ret (sv_ws y bytes maxL ret) (sv_rmA k2 mc ms) mc ms n := ⟨callB_of (Ts := sv_tb) (rm := sv_rmA k2 mc ms) n hts (sv_good (fun w h => h) h1) rfl rfl rfl (hts _ h5) (hts _ h2) h6 ⟨by show k2 + 1 ≤ _; omega, by show 8 + (maxL + 11) + 40 * k2 ≤ _; omega⟩, hts _ h3, hts _ h4⟩
  exact va_calli (va_runV (As := As) (rest := rest) (Ts := sv_tb) ⟨hx, hb, hml, hown, hts⟩ hM cw ⟨sv_blind, hrec, fun U hU hW => ⟨rfl, sv_KK_warm hW hKK, by rw [hU]; exact hG⟩⟩ rfl hn hsz hst (lv_room hcat) hdg ⟨hc, hs⟩) hS (fun q _ h => h) (fun q h => h) (fun r u t H1 locs1 ht _ hp hB hz _ hS1 => kk r u H1 locs1 hp (by rw [← ht]; exact hB) hz hS1)
/-- a constructor of a nest mate -/
theorem sv_aN {post : S → Prop} {B : S → Heap → Prop} {host : String} (X : sv_X D cI cZ cN cQ own cc nL k p R s m args c) (h1 : Cond.code y bytes maxL none ∈ sv_tb) (h2 : Cond.methodLinkNest own index y host ∈ sv_nst) (h3 : Cond.instanceMethod y ∈ sv_tb) (h5 : Cond.initialized y.cls ∈ sv_tb) (hy1 : y.name = "<init>") (h6 : y.cls ≠ "java/lang/invoke/MethodHandle" ∧ y.cls ≠ "java/lang/invoke/VarHandle" ∧ (parseMethodDescriptor y.desc).map (fun d => d.parameters.length) = some n) (h7 : maxL ≤ 21) (hM : Met l y (sv_ws y bytes maxL none) (sv_rmA k2 mc ms) (sv_Pc D cI cZ cN cQ (.ref b :: As) G) (va_Qv post (fun u t => B u t.heap) A) mc ms A)
    (hG : G H) (hS : va_S A H0 H locs) (hk : k2 + 1 ≤ k) (hn : As.length = n) (hsz : ls.size = nL) (hst : st = As.reverse ++ .ref b :: rest) (hcat : (rest.map fun v => v.category).sum ≤ 8) (hc : cells + mc ≤ R.cells) (hs : slots + ms ≤ R.slots) (hdg : decode cc pc = .ok (.invokespecial index, 3))
    (kk : ∀ (u : S) (H1 : Heap) (locs1 : List Loc), post u → B u H1 → va_S A H0 H1 locs1 → W p l e R s m args below meth c H1 locs1 (cells + mc) (slots + ms) Q (F0 m (pc + 3) ls rest)) : W p l e R s m args below meth c H locs cells slots Q (F0 m pc ls st) := by
  obtain ⟨hx, hb, hml, hown, hts, hKK, hf, hlo⟩ := X
  have cw := va_cnB (R := R) (s := s) (args := args) (own := own) (host := host) (index := index) (rm := sv_rmA k2 mc ms) (Ts := sv_tb) n hts (sv_good (fun w h => h) h1) rfl rfl rfl (hKK.2.1 _ h2) (hts _ h5) h6 ⟨by show k2 + 1 ≤ _; omega, by show 8 + (maxL + 11) + 40 * k2 ≤ _; omega⟩
  exact va_callv (va_runIN (As := As) (rest := rest) (Ts := sv_tb) ⟨hx, hb, hml, hown, hts⟩ hM ⟨cw, hy1, hts _ h3⟩ ⟨sv_blind, fun U hU hW => ⟨rfl, sv_KK_warm hW hKK, by rw [hU]; exact hG⟩⟩ rfl hn hsz hst (lv_room hcat) hdg ⟨hc, hs⟩) hS (fun q _ h => h) (fun q h => h) (fun u t H1 locs1 ht _ hp hB _ _ hS1 => kk u H1 locs1 hp (by rw [← ht]; exact hB) hS1)
/-- a constructor, from the law -/
theorem sv_aI {post : S → Prop} {B : S → Heap → Prop} (X : sv_X D cI cZ cN cQ own cc nL k p R s m args c) (h1 : Cond.code y bytes maxL none ∈ sv_tb) (h2 : Cond.methodLink own index y ∈ sv_tb) (h3 : Cond.instanceMethod y ∈ sv_tb) (h5 : Cond.initialized y.cls ∈ sv_tb) (hy1 : y.name = "<init>") (h6 : y.cls ≠ "java/lang/invoke/MethodHandle" ∧ y.cls ≠ "java/lang/invoke/VarHandle" ∧ (parseMethodDescriptor y.desc).map (fun d => d.parameters.length) = some n) (h7 : maxL ≤ 21) (hM : Met l y (sv_ws y bytes maxL none) (sv_rmA k2 mc ms) (sv_Pc D cI cZ cN cQ (.ref b :: As) G) (va_Qv post (fun u t => B u t.heap) A) mc ms A)
    (hG : G H) (hS : va_S A H0 H locs) (hk : k2 + 1 ≤ k) (hn : As.length = n) (hsz : ls.size = nL) (hst : st = As.reverse ++ .ref b :: rest) (hcat : (rest.map fun v => v.category).sum ≤ 8) (hc : cells + mc ≤ R.cells) (hs : slots + ms ≤ R.slots) (hdg : decode cc pc = .ok (.invokespecial index, 3))
    (kk : ∀ (u : S) (H1 : Heap) (locs1 : List Loc), post u → B u H1 → H.size ≤ H1.size → (∀ q : Nat, q < H.size → ¬ A q → H1[q]? = H[q]?) → va_S A H0 H1 locs1 → W p l e R s m args below meth c H1 locs1 (cells + mc) (slots + ms) Q (F0 m (pc + 3) ls rest)) : W p l e R s m args below meth c H locs cells slots Q (F0 m pc ls st) := by
  obtain ⟨hx, hb, hml, hown, hts, hKK, hf, hlo⟩ := X
  have cw : CallB R s args own index y bytes maxL none (sv_ws y bytes maxL none) (sv_rmA k2 mc ms) mc ms n := callB_of (Ts := sv_tb) (rm := sv_rmA k2 mc ms) n hts (sv_good (fun w h => h) h1) rfl rfl rfl (hts _ h5) (hts _ h2) h6 ⟨by show k2 + 1 ≤ _; omega, by show 8 + (maxL + 11) + 40 * k2 ≤ _; omega⟩
  exact va_callv (va_runI (As := As) (rest := rest) (Ts := sv_tb) ⟨hx, hb, hml, hown, hts⟩ hM ⟨cw, hy1, hts _ h3⟩ ⟨sv_blind, fun U hU hW => ⟨rfl, sv_KK_warm hW hKK, by rw [hU]; exact hG⟩⟩ rfl hn hsz hst (lv_room hcat) hdg ⟨hc, hs⟩) hS (fun q _ h => h) (fun q h => h) (fun u t H1 locs1 ht _ hp hB hz hk hS1 => kk u H1 locs1 hp (by rw [← ht]; exact hB) hz hk hS1)
/-! contracts of methods that make cells -/
theorem sv_mkAV {av : List Value} {post : S → Prop} {B : S → Heap → Prop} (hy : plainName y.cls = true) (hav : (lg_sl av).length ≤ maxL)
    (body : ∀ (p : Program) (e : Env) (s : State) (m : MethodId) (below : List Frame) (meth : Method) (c : Code) (ls : Array Slot) (Q : State → Prop), sv_X D cI cZ cN cQ y.cls bytes maxL k p (sv_rmA k mc ms) s m av.toArray c → meth.name = y.name → G s.heap → lv_has ls maxL (lv_args 0 av) →
      (∀ (pc : Nat) (ls : Array Slot) (u : S) (H : Heap) (locs : List Loc), decode bytes pc = .ok (.return_, 1) → va_S A s.heap H locs → post u → B u H → W p l e (sv_rmA k mc ms) s m av.toArray below meth c H locs mc ms Q (F0 m pc ls [])) → W p l e (sv_rmA k mc ms) s m av.toArray below meth c s.heap [] 0 0 Q (F0 m 0 ls [])) :
    Met l y (sv_ws y bytes maxL none) (sv_rmA k mc ms) (sv_Pc D cI cZ cN cQ av G) (va_Qv post (fun u t => B u t.heap) A) mc ms A := by
  refine Met.ofW (cc := bytes) (maxL := maxL) (ret := none) hy rfl ?_
  intro p e s m args below meth c s₁ B0 hml hv
  obtain ⟨rfl, hKK, hG⟩ := hv
  have hx := B0.exec
  have hb := B0.bytes
  have hr := B0.returns
  have hts := atoms_spec (ws := sv_ws y bytes maxL none) B0.pre
  have hown : s.vm.findClass y.cls = some m.cls := findClass_of_methodNamed B0.named
  have hlocks := B0.notSynchronized
  have hl := lv_entry av (n := maxL) hav
  rw [lg_entry_eq]
  generalize (lg_sl av ++ List.replicate (maxL - (lg_sl av).length) Slot.unset).toArray = ls at hl ⊢
  exact body p e s m below meth c ls _ ⟨hx, hb, hml, hown, fun w hw => hts w (List.mem_cons_of_mem _ hw), hKK, Nat.le_refl _, Nat.le_refl _⟩ (name_of_methodNamed B0.named B0.method).1 hG hl (fun pc ls u H locs hd hS hp hB => W.vret hx hb hr (fun t ht hW => ⟨⟨u, rfl, hp, by show B u t.heap; rw [ht]; exact hB⟩, hS.F ht⟩) hS.2.2 hd)
theorem sv_mkAI {av : List Value} {post : Int32 → S → Prop} {B : S → Heap → Prop} (hy : plainName y.cls = true) (hav : (lg_sl av).length ≤ maxL)
    (body : ∀ (p : Program) (e : Env) (s : State) (m : MethodId) (below : List Frame) (meth : Method) (c : Code) (ls : Array Slot) (Q : State → Prop), sv_X D cI cZ cN cQ y.cls bytes maxL k p (sv_rmA k mc ms) s m av.toArray c → G s.heap → lv_has ls maxL (lv_args 0 av) →
      (∀ (pc : Nat) (ls : Array Slot) (r : Int32) (u : S) (H : Heap) (locs : List Loc), decode bytes pc = .ok (.ireturn, 1) → va_S A s.heap H locs → post r u → B u H → W p l e (sv_rmA k mc ms) s m av.toArray below meth c H locs mc ms Q (F0 m pc ls [.int r])) → W p l e (sv_rmA k mc ms) s m av.toArray below meth c s.heap [] 0 0 Q (F0 m 0 ls [])) :
    Met l y (sv_ws y bytes maxL (some .int)) (sv_rmA k mc ms) (sv_Pc D cI cZ cN cQ av G) (va_Qi post (fun u t => B u t.heap) A) mc ms A := by
  refine Met.ofW (cc := bytes) (maxL := maxL) (ret := some .int) hy rfl ?_
  intro p e s m args below meth c s₁ B0 hml hv
  obtain ⟨rfl, hKK, hG⟩ := hv
  have hx := B0.exec
  have hb := B0.bytes
  have hr := B0.returns
  have hts := atoms_spec (ws := sv_ws y bytes maxL (some .int)) B0.pre
  have hown : s.vm.findClass y.cls = some m.cls := findClass_of_methodNamed B0.named
  have hlocks := B0.notSynchronized
  have hl := lv_entry av (n := maxL) hav
  rw [lg_entry_eq]
  generalize (lg_sl av ++ List.replicate (maxL - (lg_sl av).length) Slot.unset).toArray = ls at hl ⊢
  exact body p e s m below meth c ls _ ⟨hx, hb, hml, hown, fun w hw => hts w (List.mem_cons_of_mem _ hw), hKK, Nat.le_refl _, Nat.le_refl _⟩ hG hl (fun pc ls r u H locs hd hS hp hB => W.iret hx hb hr (fun t ht hW => ⟨⟨r, u, rfl, hp, by show B u t.heap; rw [ht]; exact hB⟩, hS.F ht⟩) hS.2.2 hd)
/-! a final field, in a constructor -/
theorem y_putF {T : u_T} {M ci f : Nat} {ad : Nat → Nat} {en : Nat → va_E} {N : Nat} (X : sv_X D cI cZ cN cQ own cc nL k p R s m args c) (hin0 : meth.name = "<init>") (hin : ∀ w ∈ u_ws own T M, w ∈ sv_tb) (ty0 : Nat → FieldType) (hty : ∀ k, k < M → parseFieldDescriptor (T k).2.2.1 = some (ty0 k)) (hnm : ∀ a, a < M → ∀ b, b < M → a ≠ b → (T a).2.1 ≠ (T b).2.1) (hP : va_P D vwCl (sv_L N ad en) H) (hD : va_D A (sv_L N ad en)) (hS : va_S A H0 H locs) {k0 : Nat} (hk : k0 < N) {fs : List Value} (he : en k0 = .inr (ci, fs)) (hc : vwCl[ci]? = some (own, T, M)) (hf : f < M) (hlink : (Cond.fieldLink own index (T f).1 (T f).2.1 (T f).2.2.1) ∈ sv_tb) (hfin : (T f).2.2.2 = true) (hdecl : (T f).1 = own) {ty : FieldType} {v : Value} (hdes : parseFieldDescriptor (T f).2.2.1 = some ty) (hnr : narrow ty v = v) (hfit : fits ty v = true) (hl : f < fs.length) (hd : decode cc pc = .ok (.putfield index, 3))
    (kk : ∀ (H1 : Heap) (locs1 : List Loc), va_P D vwCl (sv_L N ad (va_up en k0 (.inr (ci, fs.set f v)))) H1 → va_S A H0 H1 locs1 → W p l e R s m args below meth c H1 locs1 cells slots Q (F0 m (pc + 3) ls rest)) : W p l e R s m args below meth c H locs cells slots Q (F0 m pc ls (v :: .ref (ad k0) :: rest)) :=
  va_putF X.1 X.2.1 X.hts hin ty0 hty hnm X.own X.K hP hD hS k0 (by rw [sv_L_at hk, he]) hc f hf (X.hts _ hlink) (fun _ h => h) hfin hin0 hdecl hdes hnr hfit hl hd (fun H1 locs1 h1 _ h3 => kk H1 locs1 (by rw [sv_L_set hk] at h1; exact h1) h3)
end SvAlloc
