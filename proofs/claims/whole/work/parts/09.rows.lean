section SvRows
/-! locals by their number -/
def sv_lk (i : Nat) : List (Nat × Value) → Option Value
  | [] => none
  | q :: l => if q.1 = i then some q.2 else sv_lk i l
theorem sv_lk_mem {i : Nat} {v : Value} : ∀ {l : List (Nat × Value)}, sv_lk i l = some v → (i, v) ∈ l
  | [], h => by cases h
  | (j, w) :: l, h => by
    by_cases e : j = i
    · have h2 : sv_lk i ((j, w) :: l) = some w := if_pos e
      rw [h2] at h
      cases h
      rw [e]
      exact List.mem_cons_self
    · have h2 : sv_lk i ((j, w) :: l) = sv_lk i l := if_neg e
      rw [h2] at h
      exact List.mem_cons_of_mem _ (sv_lk_mem h)
theorem sv_at {ls : Array Slot} {nL i : Nat} {l : List (Nat × Value)} {v : Value} (h : lv_has ls nL l) (hk : sv_lk i l = some v) : ls[i]? = some (.val v) := h.2.2 (i, v) (sv_lk_mem hk)
def sv_lks (l : List (Nat × Value)) : List (Nat × Value) → Prop
  | [] => True
  | q :: r => sv_lk q.1 l = some q.2 ∧ sv_lks l r
theorem sv_lks_all {l : List (Nat × Value)} : ∀ {r : List (Nat × Value)}, sv_lks l r → ∀ q ∈ r, sv_lk q.1 l = some q.2
  | [], _, q, hq => by cases hq
  | a :: r, h, q, hq => by
    rcases List.mem_cons.mp hq with e | e
    · rw [e]; exact h.1
    · exact sv_lks_all h.2 q e
theorem sv_re {ls : Array Slot} {nL : Nat} {l r : List (Nat × Value)} (h : lv_has ls nL l) (hk : sv_lks l r) : lv_has ls nL r :=
  ⟨h.1, h.2.1, fun q hq => sv_at h (sv_lks_all hk q hq)⟩
variable {p : Program} {l : Launch} {e : Env} {R : Room} {s : State} {m : MethodId} {args : Array Value} {below : List Frame} {meth : Method} {c : Code} {H : Heap} {locs : List Loc} {cells slots : Nat} {Q : State → Prop}
variable {cc : ByteArray} {pc nL : Nat} {ls : Array Slot} {rest : List Value}
theorem x_tv {x y : Int32} (h : x = y) (k : W p l e R s m args below meth c H locs cells slots Q (F0 m pc ls (.int y :: rest))) : W p l e R s m args below meth c H locs cells slots Q (F0 m pc ls (.int x :: rest)) := h ▸ k
theorem x_tr {x y : Value} (h : x = y) (k : W p l e R s m args below meth c H locs cells slots Q (F0 m pc ls (y :: rest))) : W p l e R s m args below meth c H locs cells slots Q (F0 m pc ls (x :: rest)) := h ▸ k
theorem x_iinc (hx : p.tables.exec = Jvm.exec) (hb : c.code = cc) {i : Nat} {n : Int} {x v : Int32} {lv : List (Nat × Value)} (hd : decode cc pc = .ok (.iinc i n, 3)) (h : lv_has ls nL lv) (hk : sv_lk i lv = some (.int x)) (hv : x + Int32.ofInt n = v) (hn : i < nL)
    (kk : ∀ ls' : Array Slot, lv_has ls' nL ((i, Value.int v) :: lv.filter (fun q => !(q.1 == i) && !(q.1 + 1 == i && q.2.category == 2))) → W p l e R s m args below meth c H locs cells slots Q (F0 m (pc + 3) ls' rest)) : W p l e R s m args below meth c H locs cells slots Q (F0 m pc ls rest) := by
  obtain ⟨k, hk2⟩ := List.getElem?_of_mem (sv_lk_mem hk)
  exact lv_iinc hx hb hd h hk2 hv hn rfl kk
theorem x_ifeqB (hx : p.tables.exec = Jvm.exec) (hb : c.code = cc) {B : Bool} {off : Int} {tgt : Nat} (hd : decode cc pc = .ok (.ifCond .eq off, 3)) (ht : (pc : Int) + off = (tgt : Int))
    (kt : B = false → W p l e R s m args below meth c H locs cells slots Q (F0 m tgt ls rest)) (kf : B = true → W p l e R s m args below meth c H locs cells slots Q (F0 m (pc + 3) ls rest)) : W p l e R s m args below meth c H locs cells slots Q (F0 m pc ls (.int (sv_b B) :: rest)) :=
  lv_if_eq hx hb hd ht (fun h => kt (sv_b0.mp h)) (fun h => kf (sv_bn0.mp h))
theorem x_ifneB (hx : p.tables.exec = Jvm.exec) (hb : c.code = cc) {B : Bool} {off : Int} {tgt : Nat} (hd : decode cc pc = .ok (.ifCond .ne off, 3)) (ht : (pc : Int) + off = (tgt : Int))
    (kt : B = true → W p l e R s m args below meth c H locs cells slots Q (F0 m tgt ls rest)) (kf : B = false → W p l e R s m args below meth c H locs cells slots Q (F0 m (pc + 3) ls rest)) : W p l e R s m args below meth c H locs cells slots Q (F0 m pc ls (.int (sv_b B) :: rest)) :=
  lv_if_ne hx hb hd ht (fun h => kt (sv_bn0.mp h)) (fun h => kf (sv_b0.mp h))
end SvRows
section SvWorld
/-! a world as a table: cell k lies at ad k and holds en k -/
def sv_L (N : Nat) (ad : Nat → Nat) (en : Nat → va_E) : va_W := (List.range N).map (fun k => (ad k, en k))
theorem sv_L_at {N : Nat} {ad : Nat → Nat} {en : Nat → va_E} {k : Nat} (h : k < N) : (sv_L N ad en)[k]? = some (ad k, en k) := by
  unfold sv_L
  rw [List.getElem?_map, List.getElem?_range h]
  rfl
theorem sv_L_some {N : Nat} {ad : Nat → Nat} {en : Nat → va_E} {k : Nat} {q : Nat × va_E} (h : (sv_L N ad en)[k]? = some q) : k < N ∧ q = (ad k, en k) := by
  have hl : k < (sv_L N ad en).length := (List.getElem?_eq_some_iff.mp h).1
  have hk : k < N := by simpa [sv_L] using hl
  rw [sv_L_at hk] at h
  exact ⟨hk, (Option.some.inj h).symm⟩
theorem sv_L_len {N : Nat} {ad : Nat → Nat} {en : Nat → va_E} : (sv_L N ad en).length = N := by simp [sv_L]
theorem sv_L_congr {N : Nat} {ad : Nat → Nat} {en en' : Nat → va_E} (h : ∀ k, k < N → en k = en' k) : sv_L N ad en = sv_L N ad en' := by
  unfold sv_L
  apply List.map_congr_left
  intro k hk
  rw [h k (List.mem_range.mp hk)]
theorem sv_L_set {N : Nat} {ad : Nat → Nat} {en : Nat → va_E} {k : Nat} (h : k < N) (e : va_E) : (sv_L N ad en).set k (ad k, e) = sv_L N ad (va_up en k e) := by
  apply List.ext_getElem?
  intro i
  rw [List.getElem?_set]
  by_cases hi : i < N
  · rw [sv_L_at hi, sv_L_at hi, sv_L_len]
    by_cases e1 : k = i
    · subst e1
      simp [h, va_up]
    · simp [e1, va_up, Ne.symm e1]
  · have h1 : (sv_L N ad en)[i]? = none := by rw [List.getElem?_eq_none_iff, sv_L_len]; omega
    have h2 : (sv_L N ad (va_up en k e))[i]? = none := by rw [List.getElem?_eq_none_iff, sv_L_len]; omega
    rw [h1, h2]
    simp [show ¬ k = i by omega]
theorem sv_L_push {N : Nat} {ad : Nat → Nat} {en : Nat → va_E} (a : Nat) (e : va_E) : sv_L N ad en ++ [(a, e)] = sv_L (N + 1) (va_up ad N a) (va_up en N e) := by
  unfold sv_L
  rw [List.range_succ, List.map_append]
  congr 1
  · apply List.map_congr_left
    intro k hk
    have : k ≠ N := Nat.ne_of_lt (List.mem_range.mp hk)
    simp [va_up, this]
  · simp [va_up]
def sv_inj (N : Nat) (ad : Nat → Nat) : Prop := ∀ i j, i < N → j < N → ad i = ad j → i = j
theorem sv_D {N : Nat} {ad : Nat → Nat} {en : Nat → va_E} {A : Nat → Prop} (hJ : sv_inj N ad) (hA : ∀ k, k < N → A (ad k)) : va_D A (sv_L N ad en) := by
  refine ⟨fun i j x y hi hj hxy => ?_, fun k q hk => ?_⟩
  · obtain ⟨h1, rfl⟩ := sv_L_some hi
    obtain ⟨h2, rfl⟩ := sv_L_some hj
    exact hJ i j h1 h2 hxy
  · obtain ⟨h1, rfl⟩ := sv_L_some hk
    exact hA k h1
theorem sv_D_inj {N : Nat} {ad : Nat → Nat} {en : Nat → va_E} {A : Nat → Prop} (h : va_D A (sv_L N ad en)) : sv_inj N ad ∧ ∀ k, k < N → A (ad k) :=
  ⟨fun i j hi hj e => h.1 i j _ _ (sv_L_at hi) (sv_L_at hj) e, fun k hk => h.2 k _ (sv_L_at hk)⟩
end SvWorld
section SvCall
/-- the words of the tables that hold on, whatever is linked later -/
def sv_tb : List Cond := lw_tbl.filter goodWord
theorem sv_tb_t {w : Cond} (i : Nat) (h : tables_1[i]? = some w) (g : goodWord w = true) : w ∈ sv_tb := List.mem_filter.mpr ⟨List.mem_append_right _ (List.mem_of_getElem? h), g⟩
theorem sv_tb_s {w : Cond} (i : Nat) (h : (k2_sels lw_privs)[i]? = some w) (g : goodWord w = true) : w ∈ sv_tb := List.mem_filter.mpr ⟨List.mem_append_left _ (List.mem_of_getElem? h), g⟩
def sv_ws (y : MethodName) (bytes : ByteArray) (maxL : Nat) (ret : Option FieldType) : List Cond := .code y bytes maxL ret :: sv_tb
theorem sv_good {Ts : List Cond} {y : MethodName} {bytes : ByteArray} {maxL : Nat} {ret : Option FieldType} (hT : ∀ w ∈ sv_tb, w ∈ Ts) (hc : Cond.code y bytes maxL ret ∈ sv_tb) : GoodIn Ts (sv_ws y bytes maxL ret) := by
  intro w hw
  have hw' : w ∈ sv_tb := by
    rcases List.mem_cons.mp hw with e | e
    · rw [e]; exact hc
    · exact e
  exact ⟨hT w hw', good_of_word (List.mem_filter.mp hw').2⟩
/-- links to members of nest mates: they go along with the world -/
def sv_isN : Cond → Bool
  | .fieldLinkNest .. => true
  | .methodLinkNest .. => true
  | _ => false
def sv_nst : List Cond := tables_1.filter sv_isN
theorem sv_nst_t {w : Cond} (i : Nat) (h : tables_1[i]? = some w) (g : sv_isN w = true) : w ∈ sv_nst := List.mem_filter.mpr ⟨List.mem_of_getElem? h, g⟩
theorem sv_Nw_warm {w : Cond} (hw : sv_isN w = true) {s U : State} (hW : s.WarmedH U.vm) (h : va_Nw w s) : va_Nw w U := by
  cases w <;> first | exact va_Nw.warmF hW h | exact va_Nw.warmM hW h | (cases hw)
theorem sv_Nw_same {w : Cond} (hw : sv_isN w = true) {u U : State} (e : u.vm = U.vm) (h : va_Nw w u) : va_Nw w U := by
  cases w <;> first | exact va_Nw.same rfl e h | (cases hw)
abbrev sv_tys (cI cZ cN cQ : ClassId) : List (ClassId × FieldType) := [(cI, .int), (cZ, .boolean), (cN, .object "SliceVoting$Node"), (cQ, .object "SliceVoting$Quota")]
def sv_KK (D : va_G) (cI cZ cN cQ : ClassId) (U : State) : Prop := va_K D vwCl (sv_tys cI cZ cN cQ) U ∧ (∀ w ∈ sv_nst, va_Nw w U) ∧ va_AO "SliceVoting$Node" U ∧ va_AO "SliceVoting$Quota" U
theorem sv_KK_warm {D : va_G} {cI cZ cN cQ : ClassId} {s U : State} (hW : s.WarmedH U.vm) (h : sv_KK D cI cZ cN cQ s) : sv_KK D cI cZ cN cQ U :=
  ⟨va_K.moved hW.alike h.1, fun w hw => sv_Nw_warm (List.mem_filter.mp hw).2 hW (h.2.1 w hw), va_AO.moved hW.alike h.2.2.1, va_AO.moved hW.alike h.2.2.2⟩
theorem sv_KK_same {D : va_G} {cI cZ cN cQ : ClassId} {u U : State} (e : u.vm = U.vm) (h : sv_KK D cI cZ cN cQ u) : sv_KK D cI cZ cN cQ U := by
  have ha : u.vm.Alike U.vm := by rw [e]; exact Vm.Alike.refl U.vm
  exact ⟨va_K.moved ha h.1, fun w hw => sv_Nw_same (List.mem_filter.mp hw).2 e (h.2.1 w hw), va_AO.moved ha h.2.2.1, va_AO.moved ha h.2.2.2⟩
def sv_rm (k : Nat) : Room := { frames := k, cells := 0, slots := 0, locals := 40 * k }
/-- a method's start: its arguments, the tables, and what it needs of the heap -/
abbrev sv_Pc (D : va_G) (cI cZ cN cQ : ClassId) (av : List Value) (G : Heap → Prop) : Array Value → State → Prop := va_Pc av (fun U => sv_KK D cI cZ cN cQ U ∧ G U.heap)
theorem sv_blind {D : va_G} {cI cZ cN cQ : ClassId} {av : List Value} {G : Heap → Prop} : FrameBlind (sv_Pc D cI cZ cN cQ av G) := fun a U g mk h => ⟨h.1, sv_KK_same (u := U) (U := U.calling g mk a) rfl h.2.1, h.2.2⟩
def sv_X (D : va_G) (cI cZ cN cQ : ClassId) (own : String) (cc : ByteArray) (nL k : Nat) (p : Program) (R : Room) (s : State) (m : MethodId) (args : Array Value) (c : Code) : Prop :=
  p.tables.exec = Jvm.exec ∧ c.code = cc ∧ c.maxLocals = nL ∧ s.vm.findClass own = some m.cls ∧ (∀ w ∈ sv_tb, w.before args s = true) ∧ sv_KK D cI cZ cN cQ s ∧ k ≤ R.frames ∧ 40 * k ≤ R.locals
/-- what the tables say of a method that is called -/
def sv_okV (own : String) (index : Nat) (y : MethodName) (bytes : ByteArray) (maxL : Nat) (ret : Option FieldType) (n : Nat) : Prop :=
  Cond.code y bytes maxL ret ∈ sv_tb ∧ Cond.methodLink own index y ∈ sv_tb ∧ Cond.instanceMethod y ∈ sv_tb ∧ Cond.selects y.cls y y ∈ sv_tb ∧ Cond.initialized y.cls ∈ sv_tb ∧ (y.cls ≠ "java/lang/invoke/MethodHandle" ∧ y.cls ≠ "java/lang/invoke/VarHandle" ∧ (parseMethodDescriptor y.desc).map (fun d => d.parameters.length) = some n) ∧ maxL ≤ 21
def sv_okS (own : String) (index : Nat) (y : MethodName) (bytes : ByteArray) (maxL : Nat) (ret : Option FieldType) (n : Nat) : Prop :=
  Cond.code y bytes maxL ret ∈ sv_tb ∧ Cond.methodLink own index y ∈ sv_tb ∧ Cond.static y ∈ sv_tb ∧ Cond.initialized y.cls ∈ sv_tb ∧ (y.cls ≠ "java/lang/invoke/MethodHandle" ∧ y.cls ≠ "java/lang/invoke/VarHandle" ∧ (parseMethodDescriptor y.desc).map (fun d => d.parameters.length) = some n) ∧ maxL ≤ 21
variable {p : Program} {l : Launch} {e : Env} {R : Room} {s : State} {m : MethodId} {args : Array Value} {below : List Frame} {meth : Method} {c : Code} {H : Heap} {locs : List Loc} {cells slots : Nat} {Q : State → Prop}
variable {cc bytes : ByteArray} {pc nL k k2 maxL n index : Nat} {ls : Array Slot} {rest st As : List Value} {D : va_G} {cI cZ cN cQ : ClassId} {own : String} {y : MethodName} {ret : Option FieldType} {G : Heap → Prop} {b : Nat}
theorem sv_cwV (X : sv_X D cI cZ cN cQ own cc nL k p R s m args c) (ok : sv_okV own index y bytes maxL ret n) (hk : k2 + 1 ≤ k) : CallW R s args own y.cls index y bytes maxL ret (sv_ws y bytes maxL ret) (sv_rm k2) 0 0 n := by
  obtain ⟨-, -, -, -, hts, -, hf, hlo⟩ := X
  obtain ⟨h1, h2, h3, h4, h5, h6, h7⟩ := ok
  exact ⟨callB_of (Ts := sv_tb) (rm := sv_rm k2) n hts (sv_good (fun w h => h) h1) rfl rfl rfl (hts _ h5) (hts _ h2) h6 ⟨by show k2 + 1 ≤ _; omega, by show 8 + (maxL + 11) + 40 * k2 ≤ _; omega⟩, hts _ h3, hts _ h4⟩
theorem sv_cwS (X : sv_X D cI cZ cN cQ own cc nL k p R s m args c) (ok : sv_okS own index y bytes maxL ret n) (hk : k2 + 1 ≤ k) : CallB R s args own index y bytes maxL ret (sv_ws y bytes maxL ret) (sv_rm k2) 0 0 n ∧ (Cond.static y).before args s = true := by
  obtain ⟨-, -, -, -, hts, -, hf, hlo⟩ := X
  obtain ⟨h1, h2, h3, h5, h6, h7⟩ := ok
  exact ⟨callB_of (Ts := sv_tb) (rm := sv_rm k2) n hts (sv_good (fun w h => h) h1) rfl rfl rfl (hts _ h5) (hts _ h2) h6 ⟨by show k2 + 1 ≤ _; omega, by show 8 + (maxL + 11) + 40 * k2 ≤ _; omega⟩, hts _ h3⟩
/-- a call that changes nothing -/
theorem sv_cV (X : sv_X D cI cZ cN cQ own cc nL k p R s m args c) (ok : sv_okV own index y bytes maxL ret n) {r : Int32} (hM : Met l y (sv_ws y bytes maxL ret) (sv_rm k2) (sv_Pc D cI cZ cN cQ (.ref b :: As) G) (vp_Si (fun x => x = r)) 0 0 (fun _ => False))
    (hG : G H) (hrec : ∃ cellB : Cell, H[b]? = some cellB ∧ cellB.vm.isStatics = false ∧ s.vm.findClass y.cls = some cellB.cls) (hk : k2 + 1 ≤ k) (hn : As.length = n) (hsz : ls.size = nL) (hst : st = As.reverse ++ .ref b :: rest) (hcat : (rest.map fun v => v.category).sum ≤ 8) (hc : cells ≤ R.cells) (hs : slots ≤ R.slots) (hdg : decode cc pc = .ok (.invokevirtual index, 3))
    (kk : W p l e R s m args below meth c H locs cells slots Q (F0 m (pc + 3) ls (.int r :: rest))) : W p l e R s m args below meth c H locs cells slots Q (F0 m pc ls st) := by
  have cw := sv_cwV (k2 := k2) X ok hk
  obtain ⟨hx, hb, hml, hown, hts, hKK, -⟩ := X
  refine vp_callSi (W.runV (As := As) (rest := rest) (Ts := sv_tb) ⟨hx, hb, hml, hown, hts⟩ hM cw ⟨sv_blind, hrec, fun U hU hW => ⟨rfl, sv_KK_warm hW hKK, by rw [hU]; exact hG⟩⟩ rfl hn hsz hst (lv_room hcat) hdg ⟨hc, hs⟩) (fun r' hr' => ?_)
  rw [hr']
  exact kk
theorem sv_cS (X : sv_X D cI cZ cN cQ own cc nL k p R s m args c) (ok : sv_okS own index y bytes maxL ret n) {r : Int32} (hM : Met l y (sv_ws y bytes maxL ret) (sv_rm k2) (sv_Pc D cI cZ cN cQ As G) (vp_Si (fun x => x = r)) 0 0 (fun _ => False))
    (hG : G H) (hk : k2 + 1 ≤ k) (hn : As.length = n) (hsz : ls.size = nL) (hst : st = As.reverse ++ rest) (hcat : (rest.map fun v => v.category).sum ≤ 8) (hc : cells ≤ R.cells) (hs : slots ≤ R.slots) (hdg : decode cc pc = .ok (.invokestatic index, 3))
    (kk : W p l e R s m args below meth c H locs cells slots Q (F0 m (pc + 3) ls (.int r :: rest))) : W p l e R s m args below meth c H locs cells slots Q (F0 m pc ls st) := by
  have cw := sv_cwS (k2 := k2) X ok hk
  obtain ⟨hx, hb, hml, hown, hts, hKK, -⟩ := X
  refine vp_callSi (W.runS (As := As) (rest := rest) (Ts := sv_tb) ⟨hx, hb, hml, hown, hts⟩ hM cw ⟨sv_blind, fun U hU hW => ⟨rfl, sv_KK_warm hW hKK, by rw [hU]; exact hG⟩⟩ rfl hn hsz hst (lv_room hcat) hdg ⟨hc, hs⟩) (fun r' hr' => ?_)
  rw [hr']
  exact kk
/-- the contract of a method that changes nothing, out of its walk -/
theorem sv_mkR {av : List Value} {r : Int32} {ty : FieldType} (hy : plainName y.cls = true) (hav : (lg_sl av).length ≤ maxL) (hn : narrow ty (.int r) = .int r)
    (body : ∀ (p : Program) (e : Env) (s : State) (m : MethodId) (below : List Frame) (meth : Method) (c : Code) (ls : Array Slot) (Q : State → Prop), sv_X D cI cZ cN cQ y.cls bytes maxL k p (sv_rm k) s m av.toArray c → G s.heap → lv_has ls maxL (lv_args 0 av) →
      (∀ (pc : Nat) (ls : Array Slot), decode bytes pc = .ok (.ireturn, 1) → W p l e (sv_rm k) s m av.toArray below meth c s.heap [] 0 0 Q (F0 m pc ls [.int r])) → W p l e (sv_rm k) s m av.toArray below meth c s.heap [] 0 0 Q (F0 m 0 ls [])) :
    Met l y (sv_ws y bytes maxL (some ty)) (sv_rm k) (sv_Pc D cI cZ cN cQ av G) (vp_Si (fun x => x = r)) 0 0 (fun _ => False) := by
  refine Met.ofW (cc := bytes) (maxL := maxL) (ret := some ty) hy rfl ?_
  intro p e s m args below meth c s₁ B hml hv
  obtain ⟨rfl, hKK, hG⟩ := hv
  have hx := B.exec
  have hb := B.bytes
  have hr := B.returns
  have hts := atoms_spec (ws := sv_ws y bytes maxL (some ty)) B.pre
  have hown : s.vm.findClass y.cls = some m.cls := findClass_of_methodNamed B.named
  have hlocks := B.notSynchronized
  have hl := lv_entry av (n := maxL) hav
  rw [lg_entry_eq]
  generalize (lg_sl av ++ List.replicate (maxL - (lg_sl av).length) Slot.unset).toArray = ls at hl ⊢
  exact body p e s m below meth c ls _ ⟨hx, hb, hml, hown, fun w hw => hts w (List.mem_cons_of_mem _ hw), hKK, Nat.le_refl _, Nat.le_refl _⟩ hG hl (fun pc ls hd => W.zret hx hb hr hn (fun t ht hW => ⟨r, rfl, rfl, ht⟩) (fun _ h => by cases h) hd)
end SvCall
section SvTab
variable {p : Program} {l : Launch} {e : Env} {R : Room} {s : State} {m : MethodId} {args : Array Value} {below : List Frame} {meth : Method} {c : Code} {H : Heap} {locs : List Loc} {cells slots : Nat} {Q : State → Prop}
variable {cc : ByteArray} {pc : Nat} {ls : Array Slot} {rest : List Value} {D : va_G} {cl : List vw_C} {A : Nat → Prop} {tys : List (ClassId × FieldType)} {H0 : Heap} {N : Nat} {ad : Nat → Nat} {en : Nat → va_E}
theorem y_iald (hx : p.tables.exec = Jvm.exec) (hb : c.code = cc) (hK : va_K D cl tys s) (hP : va_P D cl (sv_L N ad en) H) {k : Nat} (hk : k < N) (t0 : Nat) {cA : ClassId} {n : Nat} {f : Nat → Int32} (he : en k = .inl (cA, n, .inl f)) (ht : tys[t0]? = some (cA, .int)) {j : Nat} (hj : j < n) (hn : n < 2 ^ 31) (hd : decode cc pc = .ok (.iaload, 1))
    (kk : W p l e R s m args below meth c H locs cells slots Q (F0 m (pc + 1) ls (.int (f j) :: rest))) : W p l e R s m args below meth c H locs cells slots Q (F0 m pc ls (.int (nI j) :: .ref (ad k) :: rest)) :=
  va_iald hx hb hK hP k t0 (by rw [sv_L_at hk, he]) ht (vp_in_nI hj hn) hd (by rw [nI_clamp (by omega)]; exact kk)
theorem y_zald (hx : p.tables.exec = Jvm.exec) (hb : c.code = cc) (hK : va_K D cl tys s) (hP : va_P D cl (sv_L N ad en) H) {k : Nat} (hk : k < N) (t0 : Nat) {cA : ClassId} {n : Nat} {f : Nat → Int32} (he : en k = .inl (cA, n, .inl f)) (ht : tys[t0]? = some (cA, .boolean)) {j : Nat} (hj : j < n) (hn : n < 2 ^ 31) (hd : decode cc pc = .ok (.baload, 1))
    (kk : W p l e R s m args below meth c H locs cells slots Q (F0 m (pc + 1) ls (.int (f j) :: rest))) : W p l e R s m args below meth c H locs cells slots Q (F0 m pc ls (.int (nI j) :: .ref (ad k) :: rest)) :=
  va_zald hx hb hK hP k t0 (by rw [sv_L_at hk, he]) ht (vp_in_nI hj hn) hd (by rw [nI_clamp (by omega)]; exact kk)
theorem y_aald (hx : p.tables.exec = Jvm.exec) (hb : c.code = cc) (hK : va_K D cl tys s) (hP : va_P D cl (sv_L N ad en) H) {k : Nat} (hk : k < N) (t0 : Nat) {cA : ClassId} {C : String} {n : Nat} {f : Nat → Option Nat} (he : en k = .inl (cA, n, .inr (.inr (.inr (.inr f))))) (ht : tys[t0]? = some (cA, .object C)) {j : Nat} (hj : j < n) (hn : n < 2 ^ 31) {v : Value} (hv : va_rf (f j) = v) (hd : decode cc pc = .ok (.aaload, 1))
    (kk : W p l e R s m args below meth c H locs cells slots Q (F0 m (pc + 1) ls (v :: rest))) : W p l e R s m args below meth c H locs cells slots Q (F0 m pc ls (.int (nI j) :: .ref (ad k) :: rest)) :=
  va_aldq hx hb hK hP k t0 (by rw [sv_L_at hk, he]) ht (vp_in_nI hj hn) hd (by rw [nI_clamp (by omega), hv]; exact kk)
theorem y_alen (hx : p.tables.exec = Jvm.exec) (hb : c.code = cc) (hK : va_K D cl tys s) (hP : va_P D cl (sv_L N ad en) H) {k : Nat} (hk : k < N) (t0 : Nat) {cA : ClassId} {x : vp_A} (he : en k = .inl (cA, x)) {ty : FieldType} (ht : tys[t0]? = some (cA, ty)) (hd : decode cc pc = .ok (.arraylength, 1))
    (kk : W p l e R s m args below meth c H locs cells slots Q (F0 m (pc + 1) ls (.int (nI x.1) :: rest))) : W p l e R s m args below meth c H locs cells slots Q (F0 m pc ls (.ref (ad k) :: rest)) :=
  va_alen hx hb hK hP k t0 (by rw [sv_L_at hk, he]) ht rfl hd kk
theorem y_iast (hx : p.tables.exec = Jvm.exec) (hb : c.code = cc) (hK : va_K D cl tys s) (hP : va_P D cl (sv_L N ad en) H) (hD : va_D A (sv_L N ad en)) (hS : va_S A H0 H locs) {k : Nat} (hk : k < N) (t0 : Nat) {cA : ClassId} {n : Nat} {f : Nat → Int32} (he : en k = .inl (cA, n, .inl f)) (ht : tys[t0]? = some (cA, .int)) {j : Nat} (hj : j < n) (hn : n < 2 ^ 31) {x : Int32} (hd : decode cc pc = .ok (.iastore, 1))
    (kk : ∀ (H1 : Heap) (locs1 : List Loc), va_P D cl (sv_L N ad (va_up en k (.inl (cA, n, .inl (upd f j x))))) H1 → va_S A H0 H1 locs1 → W p l e R s m args below meth c H1 locs1 cells slots Q (F0 m (pc + 1) ls rest)) : W p l e R s m args below meth c H locs cells slots Q (F0 m pc ls (.int x :: .int (nI j) :: .ref (ad k) :: rest)) :=
  va_iast hx hb hK hP hD hS k t0 (by rw [sv_L_at hk, he]) ht (vp_in_nI hj hn) hd (fun H1 locs1 h1 _ h3 => kk H1 locs1 (by rw [nI_clamp (by omega), sv_L_set hk] at h1; exact h1) h3)
theorem sv_nar_b (b : Bool) : vp_nar .boolean (sv_b b) = sv_b b := by cases b <;> rfl
theorem y_zast (hx : p.tables.exec = Jvm.exec) (hb : c.code = cc) (hK : va_K D cl tys s) (hP : va_P D cl (sv_L N ad en) H) (hD : va_D A (sv_L N ad en)) (hS : va_S A H0 H locs) {k : Nat} (hk : k < N) (t0 : Nat) {cA : ClassId} {n : Nat} {f : Nat → Int32} (he : en k = .inl (cA, n, .inl f)) (ht : tys[t0]? = some (cA, .boolean)) {j : Nat} (hj : j < n) (hn : n < 2 ^ 31) {B : Bool} (hd : decode cc pc = .ok (.bastore, 1))
    (kk : ∀ (H1 : Heap) (locs1 : List Loc), va_P D cl (sv_L N ad (va_up en k (.inl (cA, n, .inl (upd f j (sv_b B)))))) H1 → va_S A H0 H1 locs1 → W p l e R s m args below meth c H1 locs1 cells slots Q (F0 m (pc + 1) ls rest)) : W p l e R s m args below meth c H locs cells slots Q (F0 m pc ls (.int (sv_b B) :: .int (nI j) :: .ref (ad k) :: rest)) :=
  va_zast hx hb hK hP hD hS k t0 (by rw [sv_L_at hk, he]) ht (vp_in_nI hj hn) hd (fun H1 locs1 h1 _ h3 => kk H1 locs1 (by rw [nI_clamp (by omega), sv_nar_b, sv_L_set hk] at h1; exact h1) h3)
theorem y_aast (hx : p.tables.exec = Jvm.exec) (hb : c.code = cc) (hK : va_K D cl tys s) (hP : va_P D cl (sv_L N ad en) H) (hD : va_D A (sv_L N ad en)) (hS : va_S A H0 H locs) {k k2 : Nat} (hk : k < N) (hk2 : k2 < N) (t0 ci : Nat) {cA : ClassId} {r : vw_C} {n : Nat} {vs : List Value} {f : Nat → Option Nat} (he : en k = .inl (cA, n, .inr (.inr (.inr (.inr f))))) (ht : tys[t0]? = some (cA, .object r.1)) (he2 : en k2 = .inr (ci, vs)) (hc : cl[ci]? = some r) {j : Nat} (hj : j < n) (hn : n < 2 ^ 31) (hd : decode cc pc = .ok (.aastore, 1))
    (kk : ∀ (H1 : Heap) (locs1 : List Loc), va_P D cl (sv_L N ad (va_up en k (.inl (cA, n, .inr (.inr (.inr (.inr (va_up f j (some (ad k2)))))))))) H1 → va_S A H0 H1 locs1 → W p l e R s m args below meth c H1 locs1 cells slots Q (F0 m (pc + 1) ls rest)) : W p l e R s m args below meth c H locs cells slots Q (F0 m pc ls (.ref (ad k2) :: .int (nI j) :: .ref (ad k) :: rest)) :=
  va_astq hx hb hK hP hD hS k t0 k2 ci (by rw [sv_L_at hk, he]) ht (by rw [sv_L_at hk2, he2]) hc (vp_in_nI hj hn) hd (fun H1 locs1 h1 _ h3 => kk H1 locs1 (by rw [nI_clamp (by omega), sv_L_set hk] at h1; exact h1) h3)
/-! fields: of the method's own class, and of a nest mate -/
theorem y_get (hx : p.tables.exec = Jvm.exec) (hb : c.code = cc) {own C : String} {T : u_T} {M ci index : Nat} {Ts : List Cond} (hts : ∀ w ∈ Ts, w.before args s = true) (hin : ∀ w ∈ u_ws C T M, w ∈ Ts) (hown : s.vm.findClass own = some m.cls) (hK : va_K D cl tys s) (hP : va_P D cl (sv_L N ad en) H) {k : Nat} (hk : k < N) {fs : List Value} (he : en k = .inr (ci, fs)) (hc : cl[ci]? = some (C, T, M)) (f : Nat) (hf : f < M) (hlink : (Cond.fieldLink own index (T f).1 (T f).2.1 (T f).2.2.1) ∈ Ts) {v : Value} (hv : fs[f]? = some v) (hd : decode cc pc = .ok (.getfield index, 3))
    (kk : W p l e R s m args below meth c H locs cells slots Q (F0 m (pc + 3) ls (v :: rest))) : W p l e R s m args below meth c H locs cells slots Q (F0 m pc ls (.ref (ad k) :: rest)) :=
  va_get hx hb hts hin hown hK hP k (by rw [sv_L_at hk, he]) hc f hf (hts _ hlink) (fun _ h => h) hv hd kk
theorem y_getN (hx : p.tables.exec = Jvm.exec) (hb : c.code = cc) {own C host : String} {T : u_T} {M ci index : Nat} {Ts Ns : List Cond} (hts : ∀ w ∈ Ts, w.before args s = true) (hNs : ∀ w ∈ Ns, va_Nw w s) (hin : ∀ w ∈ u_ws C T M, w ∈ Ts) (hown : s.vm.findClass own = some m.cls) (hK : va_K D cl tys s) (hP : va_P D cl (sv_L N ad en) H) {k : Nat} (hk : k < N) {fs : List Value} (he : en k = .inr (ci, fs)) (hc : cl[ci]? = some (C, T, M)) (f : Nat) (hf : f < M) (hlink : (Cond.fieldLinkNest own index (T f).1 (T f).2.1 (T f).2.2.1 host) ∈ Ns) {v : Value} (hv : fs[f]? = some v) (hd : decode cc pc = .ok (.getfield index, 3))
    (kk : W p l e R s m args below meth c H locs cells slots Q (F0 m (pc + 3) ls (v :: rest))) : W p l e R s m args below meth c H locs cells slots Q (F0 m pc ls (.ref (ad k) :: rest)) :=
  va_getN hx hb hts hin hown hK hP k (by rw [sv_L_at hk, he]) hc f hf (va_Nw.use rfl (hNs _ hlink)) (fun _ h => h) hv hd kk
theorem y_put (hx : p.tables.exec = Jvm.exec) (hb : c.code = cc) {own C : String} {T : u_T} {M ci index : Nat} {Ts : List Cond} (hts : ∀ w ∈ Ts, w.before args s = true) (hin : ∀ w ∈ u_ws C T M, w ∈ Ts) (ty0 : Nat → FieldType) (hty : ∀ k, k < M → parseFieldDescriptor (T k).2.2.1 = some (ty0 k)) (hnm : ∀ a, a < M → ∀ b, b < M → a ≠ b → (T a).2.1 ≠ (T b).2.1) (hown : s.vm.findClass own = some m.cls) (hK : va_K D cl tys s) (hP : va_P D cl (sv_L N ad en) H) (hD : va_D A (sv_L N ad en)) (hS : va_S A H0 H locs) {k : Nat} (hk : k < N) {fs : List Value} (he : en k = .inr (ci, fs)) (hc : cl[ci]? = some (C, T, M)) (f : Nat) (hf : f < M) (hlink : (Cond.fieldLink own index (T f).1 (T f).2.1 (T f).2.2.1) ∈ Ts) (hfin : (T f).2.2.2 = false) {ty : FieldType} {v : Value} (hdes : parseFieldDescriptor (T f).2.2.1 = some ty) (hnr : narrow ty v = v) (hfit : fits ty v = true) (hl : f < fs.length) (hd : decode cc pc = .ok (.putfield index, 3))
    (kk : ∀ (H1 : Heap) (locs1 : List Loc), va_P D cl (sv_L N ad (va_up en k (.inr (ci, fs.set f v)))) H1 → va_S A H0 H1 locs1 → W p l e R s m args below meth c H1 locs1 cells slots Q (F0 m (pc + 3) ls rest)) : W p l e R s m args below meth c H locs cells slots Q (F0 m pc ls (v :: .ref (ad k) :: rest)) :=
  va_put hx hb hts hin ty0 hty hnm hown hK hP hD hS k (by rw [sv_L_at hk, he]) hc f hf (hts _ hlink) (fun _ h => h) hfin hdes hnr hfit hl hd (fun H1 locs1 h1 _ h3 => kk H1 locs1 (by rw [sv_L_set hk] at h1; exact h1) h3)
theorem y_putN (hx : p.tables.exec = Jvm.exec) (hb : c.code = cc) {own C host : String} {T : u_T} {M ci index : Nat} {Ts Ns : List Cond} (hts : ∀ w ∈ Ts, w.before args s = true) (hNs : ∀ w ∈ Ns, va_Nw w s) (hin : ∀ w ∈ u_ws C T M, w ∈ Ts) (ty0 : Nat → FieldType) (hty : ∀ k, k < M → parseFieldDescriptor (T k).2.2.1 = some (ty0 k)) (hnm : ∀ a, a < M → ∀ b, b < M → a ≠ b → (T a).2.1 ≠ (T b).2.1) (hown : s.vm.findClass own = some m.cls) (hK : va_K D cl tys s) (hP : va_P D cl (sv_L N ad en) H) (hD : va_D A (sv_L N ad en)) (hS : va_S A H0 H locs) {k : Nat} (hk : k < N) {fs : List Value} (he : en k = .inr (ci, fs)) (hc : cl[ci]? = some (C, T, M)) (f : Nat) (hf : f < M) (hlink : (Cond.fieldLinkNest own index (T f).1 (T f).2.1 (T f).2.2.1 host) ∈ Ns) (hfin : (T f).2.2.2 = false) {ty : FieldType} {v : Value} (hdes : parseFieldDescriptor (T f).2.2.1 = some ty) (hnr : narrow ty v = v) (hfit : fits ty v = true) (hl : f < fs.length) (hd : decode cc pc = .ok (.putfield index, 3))
    (kk : ∀ (H1 : Heap) (locs1 : List Loc), va_P D cl (sv_L N ad (va_up en k (.inr (ci, fs.set f v)))) H1 → va_S A H0 H1 locs1 → W p l e R s m args below meth c H1 locs1 cells slots Q (F0 m (pc + 3) ls rest)) : W p l e R s m args below meth c H locs cells slots Q (F0 m pc ls (v :: .ref (ad k) :: rest)) :=
  va_putN hx hb hts hin ty0 hty hnm hown hK hP hD hS k (by rw [sv_L_at hk, he]) hc f hf (va_Nw.use rfl (hNs _ hlink)) (fun _ h => h) hfin hdes hnr hfit hl hd (fun H1 locs1 h1 _ h3 => kk H1 locs1 (by rw [sv_L_set hk] at h1; exact h1) h3)
theorem y_rec {s : State} {H : Heap} {D : va_G} {cl : List vw_C} {tys : List (ClassId × FieldType)} {N : Nat} {ad : Nat → Nat} {en : Nat → va_E} (hK : va_K D cl tys s) (hP : va_P D cl (sv_L N ad en) H) {k ci : Nat} (hk : k < N) {fs : List Value} {q : vw_C} (he : en k = .inr (ci, fs)) (hc : cl[ci]? = some q) : ∃ cell : Cell, H[ad k]? = some cell ∧ cell.vm.isStatics = false ∧ s.vm.findClass q.1 = some cell.cls :=
  va_recv hK hP hc (q0 := k) (by rw [sv_L_at hk, he])
end SvTab
section SvWr
variable {p : Program} {l : Launch} {e : Env} {R : Room} {s : State} {m : MethodId} {args : Array Value} {below : List Frame} {meth : Method} {c : Code} {H H0 : Heap} {locs : List Loc} {cells slots : Nat} {Q : State → Prop}
variable {cc bytes : ByteArray} {pc nL k k2 maxL n index : Nat} {ls : Array Slot} {rest st As : List Value} {D : va_G} {cI cZ cN cQ : ClassId} {own : String} {y : MethodName} {ret : Option FieldType} {G : Heap → Prop} {b : Nat} {A : Nat → Prop} {S : Type}
/-- calls that write: an int comes back, or nothing -/
theorem sv_wVi (X : sv_X D cI cZ cN cQ own cc nL k p R s m args c) (ok : sv_okV own index y bytes maxL ret n) {post : Int32 → S → Prop} {B : S → Heap → Prop} (hM : Met l y (sv_ws y bytes maxL ret) (sv_rm k2) (sv_Pc D cI cZ cN cQ (.ref b :: As) G) (va_Qi post (fun u t => B u t.heap) A) 0 0 A)
    (hG : G H) (hrec : ∃ cellB : Cell, H[b]? = some cellB ∧ cellB.vm.isStatics = false ∧ s.vm.findClass y.cls = some cellB.cls) (hS : va_S A H0 H locs) (hk : k2 + 1 ≤ k) (hn : As.length = n) (hsz : ls.size = nL) (hst : st = As.reverse ++ .ref b :: rest) (hcat : (rest.map fun v => v.category).sum ≤ 8) (hc : cells ≤ R.cells) (hs : slots ≤ R.slots) (hdg : decode cc pc = .ok (.invokevirtual index, 3))
    (kk : ∀ (r : Int32) (u : S) (H1 : Heap) (locs1 : List Loc), post r u → B u H1 → va_S A H0 H1 locs1 → W p l e R s m args below meth c H1 locs1 cells slots Q (F0 m (pc + 3) ls (.int r :: rest))) : W p l e R s m args below meth c H locs cells slots Q (F0 m pc ls st) := by
  have cw := sv_cwV (k2 := k2) X ok hk
  obtain ⟨hx, hb, hml, hown, hts, hKK, -⟩ := X
  exact va_calli (va_runV (As := As) (rest := rest) (Ts := sv_tb) ⟨hx, hb, hml, hown, hts⟩ hM cw ⟨sv_blind, hrec, fun U hU hW => ⟨rfl, sv_KK_warm hW hKK, by rw [hU]; exact hG⟩⟩ rfl hn hsz hst (lv_room hcat) hdg ⟨hc, hs⟩) hS (fun q _ h => h) (fun q h => h) (fun r u t H1 locs1 ht _ hp hB _ _ hS1 => kk r u H1 locs1 hp (by rw [← ht]; exact hB) hS1)
theorem sv_wVv (X : sv_X D cI cZ cN cQ own cc nL k p R s m args c) (ok : sv_okV own index y bytes maxL ret n) {post : S → Prop} {B : S → Heap → Prop} (hM : Met l y (sv_ws y bytes maxL ret) (sv_rm k2) (sv_Pc D cI cZ cN cQ (.ref b :: As) G) (va_Qv post (fun u t => B u t.heap) A) 0 0 A)
    (hG : G H) (hrec : ∃ cellB : Cell, H[b]? = some cellB ∧ cellB.vm.isStatics = false ∧ s.vm.findClass y.cls = some cellB.cls) (hS : va_S A H0 H locs) (hk : k2 + 1 ≤ k) (hn : As.length = n) (hsz : ls.size = nL) (hst : st = As.reverse ++ .ref b :: rest) (hcat : (rest.map fun v => v.category).sum ≤ 8) (hc : cells ≤ R.cells) (hs : slots ≤ R.slots) (hdg : decode cc pc = .ok (.invokevirtual index, 3))
    (kk : ∀ (u : S) (H1 : Heap) (locs1 : List Loc), post u → B u H1 → va_S A H0 H1 locs1 → W p l e R s m args below meth c H1 locs1 cells slots Q (F0 m (pc + 3) ls rest)) : W p l e R s m args below meth c H locs cells slots Q (F0 m pc ls st) := by
  have cw := sv_cwV (k2 := k2) X ok hk
  obtain ⟨hx, hb, hml, hown, hts, hKK, -⟩ := X
  exact va_callv (va_runV (As := As) (rest := rest) (Ts := sv_tb) ⟨hx, hb, hml, hown, hts⟩ hM cw ⟨sv_blind, hrec, fun U hU hW => ⟨rfl, sv_KK_warm hW hKK, by rw [hU]; exact hG⟩⟩ rfl hn hsz hst (lv_room hcat) hdg ⟨hc, hs⟩) hS (fun q _ h => h) (fun q h => h) (fun u t H1 locs1 ht _ hp hB _ _ hS1 => kk u H1 locs1 hp (by rw [← ht]; exact hB) hS1)
theorem sv_wSi (X : sv_X D cI cZ cN cQ own cc nL k p R s m args c) (ok : sv_okS own index y bytes maxL ret n) {post : Int32 → S → Prop} {B : S → Heap → Prop} (hM : Met l y (sv_ws y bytes maxL ret) (sv_rm k2) (sv_Pc D cI cZ cN cQ As G) (va_Qi post (fun u t => B u t.heap) A) 0 0 A)
    (hG : G H) (hS : va_S A H0 H locs) (hk : k2 + 1 ≤ k) (hn : As.length = n) (hsz : ls.size = nL) (hst : st = As.reverse ++ rest) (hcat : (rest.map fun v => v.category).sum ≤ 8) (hc : cells ≤ R.cells) (hs : slots ≤ R.slots) (hdg : decode cc pc = .ok (.invokestatic index, 3))
    (kk : ∀ (r : Int32) (u : S) (H1 : Heap) (locs1 : List Loc), post r u → B u H1 → va_S A H0 H1 locs1 → W p l e R s m args below meth c H1 locs1 cells slots Q (F0 m (pc + 3) ls (.int r :: rest))) : W p l e R s m args below meth c H locs cells slots Q (F0 m pc ls st) := by
  have cw := sv_cwS (k2 := k2) X ok hk
  obtain ⟨hx, hb, hml, hown, hts, hKK, -⟩ := X
  exact va_calli (va_runS (As := As) (rest := rest) (Ts := sv_tb) ⟨hx, hb, hml, hown, hts⟩ hM cw ⟨sv_blind, fun U hU hW => ⟨rfl, sv_KK_warm hW hKK, by rw [hU]; exact hG⟩⟩ rfl hn hsz hst (lv_room hcat) hdg ⟨hc, hs⟩) hS (fun q _ h => h) (fun q h => h) (fun r u t H1 locs1 ht _ hp hB _ _ hS1 => kk r u H1 locs1 hp (by rw [← ht]; exact hB) hS1)
theorem sv_wSv (X : sv_X D cI cZ cN cQ own cc nL k p R s m args c) (ok : sv_okS own index y bytes maxL ret n) {post : S → Prop} {B : S → Heap → Prop} (hM : Met l y (sv_ws y bytes maxL ret) (sv_rm k2) (sv_Pc D cI cZ cN cQ As G) (va_Qv post (fun u t => B u t.heap) A) 0 0 A)
    (hG : G H) (hS : va_S A H0 H locs) (hk : k2 + 1 ≤ k) (hn : As.length = n) (hsz : ls.size = nL) (hst : st = As.reverse ++ rest) (hcat : (rest.map fun v => v.category).sum ≤ 8) (hc : cells ≤ R.cells) (hs : slots ≤ R.slots) (hdg : decode cc pc = .ok (.invokestatic index, 3))
    (kk : ∀ (u : S) (H1 : Heap) (locs1 : List Loc), post u → B u H1 → va_S A H0 H1 locs1 → W p l e R s m args below meth c H1 locs1 cells slots Q (F0 m (pc + 3) ls rest)) : W p l e R s m args below meth c H locs cells slots Q (F0 m pc ls st) := by
  have cw := sv_cwS (k2 := k2) X ok hk
  obtain ⟨hx, hb, hml, hown, hts, hKK, -⟩ := X
  exact va_callv (va_runS (As := As) (rest := rest) (Ts := sv_tb) ⟨hx, hb, hml, hown, hts⟩ hM cw ⟨sv_blind, fun U hU hW => ⟨rfl, sv_KK_warm hW hKK, by rw [hU]; exact hG⟩⟩ rfl hn hsz hst (lv_room hcat) hdg ⟨hc, hs⟩) hS (fun q _ h => h) (fun q h => h) (fun u t H1 locs1 ht _ hp hB _ _ hS1 => kk u H1 locs1 hp (by rw [← ht]; exact hB) hS1)
/-- the contract of a method that writes, out of its walk -/
theorem sv_mkI {av : List Value} {ty : FieldType} {post : Int32 → S → Prop} {B : S → Heap → Prop} (hy : plainName y.cls = true) (hav : (lg_sl av).length ≤ maxL) (hn : ∀ r u, post r u → narrow ty (.int r) = .int r)
    (body : ∀ (p : Program) (e : Env) (s : State) (m : MethodId) (below : List Frame) (meth : Method) (c : Code) (ls : Array Slot) (Q : State → Prop), sv_X D cI cZ cN cQ y.cls bytes maxL k p (sv_rm k) s m av.toArray c → G s.heap → lv_has ls maxL (lv_args 0 av) →
      (∀ (pc : Nat) (ls : Array Slot) (r : Int32) (u : S) (H : Heap) (locs : List Loc), decode bytes pc = .ok (.ireturn, 1) → va_S A s.heap H locs → post r u → B u H → W p l e (sv_rm k) s m av.toArray below meth c H locs 0 0 Q (F0 m pc ls [.int r])) → W p l e (sv_rm k) s m av.toArray below meth c s.heap [] 0 0 Q (F0 m 0 ls [])) :
    Met l y (sv_ws y bytes maxL (some ty)) (sv_rm k) (sv_Pc D cI cZ cN cQ av G) (va_Qi post (fun u t => B u t.heap) A) 0 0 A := by
  refine Met.ofW (cc := bytes) (maxL := maxL) (ret := some ty) hy rfl ?_
  intro p e s m args below meth c s₁ B0 hml hv
  obtain ⟨rfl, hKK, hG⟩ := hv
  have hx := B0.exec
  have hb := B0.bytes
  have hr := B0.returns
  have hts := atoms_spec (ws := sv_ws y bytes maxL (some ty)) B0.pre
  have hown : s.vm.findClass y.cls = some m.cls := findClass_of_methodNamed B0.named
  have hlocks := B0.notSynchronized
  have hl := lv_entry av (n := maxL) hav
  rw [lg_entry_eq]
  generalize (lg_sl av ++ List.replicate (maxL - (lg_sl av).length) Slot.unset).toArray = ls at hl ⊢
  exact body p e s m below meth c ls _ ⟨hx, hb, hml, hown, fun w hw => hts w (List.mem_cons_of_mem _ hw), hKK, Nat.le_refl _, Nat.le_refl _⟩ hG hl (fun pc ls r u H locs hd hS hp hB => W.zret hx hb hr (hn r u hp) (fun t ht hW => ⟨⟨r, u, rfl, hp, by show B u t.heap; rw [ht]; exact hB⟩, hS.F ht⟩) hS.2.2 hd)
theorem sv_mkV {av : List Value} {post : S → Prop} {B : S → Heap → Prop} (hy : plainName y.cls = true) (hav : (lg_sl av).length ≤ maxL)
    (body : ∀ (p : Program) (e : Env) (s : State) (m : MethodId) (below : List Frame) (meth : Method) (c : Code) (ls : Array Slot) (Q : State → Prop), sv_X D cI cZ cN cQ y.cls bytes maxL k p (sv_rm k) s m av.toArray c → G s.heap → lv_has ls maxL (lv_args 0 av) →
      (∀ (pc : Nat) (ls : Array Slot) (u : S) (H : Heap) (locs : List Loc), decode bytes pc = .ok (.return_, 1) → va_S A s.heap H locs → post u → B u H → W p l e (sv_rm k) s m av.toArray below meth c H locs 0 0 Q (F0 m pc ls [])) → W p l e (sv_rm k) s m av.toArray below meth c s.heap [] 0 0 Q (F0 m 0 ls [])) :
    Met l y (sv_ws y bytes maxL none) (sv_rm k) (sv_Pc D cI cZ cN cQ av G) (va_Qv post (fun u t => B u t.heap) A) 0 0 A := by
  refine Met.ofW (cc := bytes) (maxL := maxL) (ret := none) hy rfl ?_
  intro p e s m args below meth c s₁ B0 hml hv
  obtain ⟨rfl, hKK, hG⟩ := hv
  have hx := B0.exec
  have hb := B0.bytes
  have hr := B0.returns
  have hts := atoms_spec (ws := sv_ws y bytes maxL none) B0.pre
  have hown : s.vm.findClass y.cls = some m.cls := findClass_of_methodNamed B0.named
  have hlocks := B0.notSynchronized
  have hl := lv_entry av (n := maxL) hav
  rw [lg_entry_eq]
  generalize (lg_sl av ++ List.replicate (maxL - (lg_sl av).length) Slot.unset).toArray = ls at hl ⊢
  exact body p e s m below meth c ls _ ⟨hx, hb, hml, hown, fun w hw => hts w (List.mem_cons_of_mem _ hw), hKK, Nat.le_refl _, Nat.le_refl _⟩ hG hl (fun pc ls u H locs hd hS hp hB => W.vret hx hb hr (fun t ht hW => ⟨⟨u, rfl, hp, by show B u t.heap; rw [ht]; exact hB⟩, hS.F ht⟩) hS.2.2 hd)
end SvWr
