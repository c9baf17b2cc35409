section SvRef
variable {p : Program} {l : Launch} {e : Env} {R : Room} {s : State} {m : MethodId} {args : Array Value} {below : List Frame} {meth : Method} {c : Code} {H : Heap} {locs : List Loc} {cells slots : Nat} {Q : State → Prop}
variable {cc : ByteArray} {pc nL n : Nat} {ls : Array Slot} {rest : List Value} {ad : Nat → Nat} {lv : List (Nat × Value)}
/-! a reference that may be null: a quota's number, or none -/
theorem x_aloadR (hx : p.tables.exec = Jvm.exec) (hb : c.code = cc) {i : Nat} {o : Option Nat} (hd : decode cc pc = .ok (.aload i, 2)) (hl : ls[i]? = some (.val (sv_rq ad n o))) (kk : W p l e R s m args below meth c H locs cells slots Q (F0 m (pc + 2) ls (sv_rq ad n o :: rest))) : W p l e R s m args below meth c H locs cells slots Q (F0 m pc ls rest) := by
  cases o with
  | none => exact lv_aloadN hx hb hd hl kk
  | some j => exact lv_aload hx hb hd hl kk
theorem x_aload_nR (hx : p.tables.exec = Jvm.exec) (hb : c.code = cc) {k : Fin 4} {i : Nat} {o : Option Nat} (hd : decode cc pc = .ok (.aload_n k, 1)) (hi : (k : Nat) = i) (hl : ls[i]? = some (.val (sv_rq ad n o))) (kk : W p l e R s m args below meth c H locs cells slots Q (F0 m (pc + 1) ls (sv_rq ad n o :: rest))) : W p l e R s m args below meth c H locs cells slots Q (F0 m pc ls rest) := by
  cases o with
  | none => exact lv_aload_nN hx hb hd hi hl kk
  | some j => exact lv_aload_n hx hb hd hi hl kk
theorem x_astoreR (hx : p.tables.exec = Jvm.exec) (hb : c.code = cc) {i : Nat} {o : Option Nat} (hd : decode cc pc = .ok (.astore i, 2)) (h : lv_has ls nL lv) (hn : i < nL) (kk : ∀ ls' : Array Slot, lv_has ls' nL ((i, sv_rq ad n o) :: lv.filter (fun q => !(q.1 == i) && !(q.1 + 1 == i && q.2.category == 2))) → W p l e R s m args below meth c H locs cells slots Q (F0 m (pc + 2) ls' rest)) : W p l e R s m args below meth c H locs cells slots Q (F0 m pc ls (sv_rq ad n o :: rest)) := by
  cases o with
  | none => exact lv_astoreN hx hb hd h hn rfl kk
  | some j => exact lv_astore hx hb hd h hn rfl kk
theorem x_ifnullR (hx : p.tables.exec = Jvm.exec) (hb : c.code = cc) {o : Option Nat} {off : Int} {tgt : Nat} (hd : decode cc pc = .ok (.ifnull off, 3)) (ht : (pc : Int) + off = (tgt : Int)) (kt : o = none → W p l e R s m args below meth c H locs cells slots Q (F0 m tgt ls rest)) (kf : ∀ j, o = some j → W p l e R s m args below meth c H locs cells slots Q (F0 m (pc + 3) ls rest)) : W p l e R s m args below meth c H locs cells slots Q (F0 m pc ls (sv_rq ad n o :: rest)) := by
  cases o with
  | none => exact lv_ifnullN hx hb hd ht (kt rfl)
  | some j => exact lv_ifnull hx hb hd (kf j rfl)
def sv_mo (o : Option Nat) : Nat := match o with
  | none => 0
  | some j => j + 1
/-! the JDK's count of bits -/
def sv_bc (i : Int32) : Int32 :=
  let a := i - ((i.toUInt32 >>> ((1 : Int32).toUInt32 &&& Int32.toUInt32 31)).toInt32 &&& 1431655765)
  let b := (a &&& 858993459) + ((a.toUInt32 >>> ((nI 2).toUInt32 &&& Int32.toUInt32 31)).toInt32 &&& 858993459)
  let c := (b + (b.toUInt32 >>> ((nI 4).toUInt32 &&& Int32.toUInt32 31)).toInt32) &&& 252645135
  let d := c + (c.toUInt32 >>> ((nI 8).toUInt32 &&& Int32.toUInt32 31)).toInt32
  let e := d + (d.toUInt32 >>> ((nI 16).toUInt32 &&& Int32.toUInt32 31)).toInt32
  e &&& nI 63
theorem sv_bc_ok : ∀ x, x < 64 → sv_bc (nI x) = nI (sv_pc x) := by decide +kernel
end SvRef
