section SvLaw2
variable {p : Program} {l : Launch} {e : Env} {R : Room} {s : State} {m : MethodId} {args : Array Value} {below : List Frame} {meth : Method} {c : Code} {H H0 : Heap} {locs : List Loc} {cells slots : Nat} {Q : State → Prop}
variable {pc n qc b L v : Nat} {ls : Array Slot} {rest : List Value} {D : va_G} {cI cZ cN cQ : ClassId} {xs : Nat → Int32} {ac am : Nat → Nat} {σ : Sg} {mt qm : Nat → Int32}
def sv_Ac (h0 : Nat) (am : Nat → Nat) (q : Nat) : Prop := h0 ≤ q ∧ ∀ j, j < 17 → q ≠ am j
def sv_Am (am : Nat → Nat) (q : Nat) : Prop := ∃ j, j < 17 ∧ q = am j
/-- the class's world and the reference's: the same state -/
def sv_LW (D : va_G) (cI cZ cN cQ : ClassId) (h0 n qc : Nat) (ac am : Nat → Nat) (σ : Sg) (mt qm : Nat → Int32) (H : Heap) : Prop :=
  sv_cP D cI cN cQ n qc ac σ H ∧ sv_mP D cI cZ n qc am σ mt qm H ∧ sv_inj (3 + 3 * n + qc) ac ∧ sv_inj 17 am ∧ (∀ k, k < 3 + 3 * n + qc → sv_Ac h0 am (ac k)) ∧ (∀ k, k < 17 → h0 ≤ am k) ∧ sv_IV n qc σ
set_option maxRecDepth 100000 in
theorem okL_S_known : sv_okV "SliceVotingLaw" 74 yS_known cS_known 4 (some .int) 3 := ⟨sv_tb_t 257 rfl rfl, sv_tb_t 278 rfl rfl, sv_tb_t 255 rfl rfl, sv_tb_t 256 rfl rfl, sv_tb_t 1 rfl rfl, ⟨by decide, by decide, by decide +kernel⟩, by decide⟩
set_option maxRecDepth 100000 in
theorem okL_M_quorum : sv_okV "SliceVotingLaw" 82 yM_quorum cM_quorum 5 (some .boolean) 1 := ⟨sv_tb_t 390 rfl rfl, sv_tb_t 387 rfl rfl, sv_tb_t 388 rfl rfl, sv_tb_t 389 rfl rfl, sv_tb_t 4 rfl rfl, ⟨by decide, by decide, by decide +kernel⟩, by decide⟩
set_option maxHeartbeats 4000000 in
set_option maxRecDepth 100000 in
theorem wL_quota (X : sv_X D cI cZ cN cQ "SliceVotingLaw" cL_law 4 20 p R s m args c) (hL : L ≤ 2561) (hX : va_X b L xs s H0) (hbl : b < H0.size) (hv : v + 5 ≤ L) (hl : lv_has ls 4 [(0, .ref b), (1, .ref (ac 0)), (2, .ref (am 0)), (3, .int (nI v))]) (hW : sv_LW D cI cZ cN cQ H0.size n qc ac am σ mt qm H) (hS : va_S (fun q => H0.size ≤ q) H0 H locs) (hc : cells + 1 ≤ R.cells) (hs : slots + 6 ≤ R.slots) (K : ∀ (qc2 : Nat) (ac2 : Nat → Nat) (σ2 : Sg) (mt2 qm2 : Nat → Int32) (H2 : Heap) (locs2 : List Loc), ac 0 = ac2 0 → sv_LW D cI cZ cN cQ H0.size n qc2 ac2 am σ2 mt2 qm2 H2 → va_S (fun q => H0.size ≤ q) H0 H2 locs2 → W p l e R s m args below meth c H2 locs2 (cells + 1) (slots + 6) Q (F0 m 661 ls [])) : W p l e R s m args below meth c H locs cells slots Q (F0 m 124 ls []) := by
  have hx := X.1
  have hb := X.2.1
  have hbA : ¬ H0.size ≤ b := by omega
  obtain ⟨hPc, hPm, hJc, hJm, hAc, hAm, hIV⟩ := hW
  have hI := hIV.1
  have hIS := hIV.2.1
  have hn := hI.2.1
  have hq4 := hIV.2.2
  have hq24 := hI.2.2.2.1
  refine lv_aload_n (i := 1) hx hb dL_law_124 rfl (sv_at hl rfl) ?_
  refine sv_arg (j := 1) hx hb hl rfl rfl hL hX hbl hbA hS (by omega) (by decide) dL_law_125 dL_law_126 dL_law_127 dL_law_128 dL_law_129 ?_
  refine sv_arg (j := 2) hx hb hl rfl rfl hL hX hbl hbA hS (by omega) (by decide) dL_law_130 dL_law_131 dL_law_132 dL_law_133 dL_law_134 ?_
  refine sv_arg (j := 3) hx hb hl rfl rfl hL hX hbl hbA hS (by omega) (by decide) dL_law_135 dL_law_136 dL_law_137 dL_law_138 dL_law_139 ?_
  refine sv_lV (S := Nat → Nat) (A1 := sv_Ac H0.size am) (k2 := 4) (mc := 1) (ms := 6) (G := fun H2 => sv_cP D cI cN cQ n qc ac σ H2 ∧ H2.size = H.size) (B := fun u H => sv_cP D cI cN cQ n (sv_qtQ n qc σ (xs (v + 1)) (xs (v + 2)) (xs (v + 3))) u (sv_qtS n qc σ (xs (v + 1)) (xs (v + 2)) (xs (v + 3))) H ∧ sv_inj (3 + 3 * n + (sv_qtQ n qc σ (xs (v + 1)) (xs (v + 2)) (xs (v + 3)))) u ∧ ∀ k, k < 3 + 3 * n + (sv_qtQ n qc σ (xs (v + 1)) (xs (v + 2)) (xs (v + 3))) → sv_Ac H0.size am (u k)) X okL_S_quota (cS_m_quota (sz := H.size) hJc hAc (fun q h => ⟨Nat.le_trans hS.1 h, fun j hj e => by have := sv_P_lt hPm hj; omega⟩) hn hI) ⟨hPc, rfl⟩ (y_rec X.K hPc (by omega) sv_ce_S rfl) hS (fun q h => h.1) (by decide) rfl hl.1 rfl (Nat.le_of_ble_eq_true rfl) hc hs dL_law_140 (fun r u0 H1 locs1 hp hB hz hk hS => ?_)
  obtain ⟨rfl, hu⟩ := hp
  have hPm := sv_P_kept hPm hk (fun k hk q => q.2 k hk rfl)
  obtain ⟨hPc, hJc, hAc⟩ := hB
  refine lv_aload_n (i := 2) hx hb dL_law_143 rfl (sv_at hl rfl) ?_
  refine sv_arg (j := 1) hx hb hl rfl rfl hL hX hbl hbA hS (by omega) (by decide) dL_law_144 dL_law_145 dL_law_146 dL_law_147 dL_law_148 ?_
  refine sv_arg (j := 2) hx hb hl rfl rfl hL hX hbl hbA hS (by omega) (by decide) dL_law_149 dL_law_150 dL_law_151 dL_law_152 dL_law_153 ?_
  refine sv_arg (j := 3) hx hb hl rfl rfl hL hX hbl hbA hS (by omega) (by decide) dL_law_154 dL_law_155 dL_law_156 dL_law_157 dL_law_158 ?_
  refine sv_lV (S := Sg × (Nat → Int32) × (Nat → Int32)) (A1 := sv_Am am) (k2 := 2) (mc := 0) (ms := 0) (G := fun H => sv_mP D cI cZ n qc am σ mt qm H) (B := fun u H => sv_mP D cI cZ n (sv_qtQ n qc σ (xs (v + 1)) (xs (v + 2)) (xs (v + 3))) am u.1 u.2.1 u.2.2 H) X okL_M_quota (cM_m_quota (v := xs (v + 1)) (w := xs (v + 2)) (x := xs (v + 3)) (mt := mt) (qm := qm) (n := n) (qc := qc) (σ := σ) hJm (fun k hk => ⟨k, hk, rfl⟩) hn hI) hPm (y_rec X.K hPm (by decide) sv_me_0 rfl) hS (fun q h => by obtain ⟨j, hj, rfl⟩ := h; exact hAm j hj) (by decide) rfl hl.1 rfl (Nat.le_of_ble_eq_true rfl) (by omega) (by omega) dL_law_159 (fun r u H3 locs3 hp hB hz hk hS => ?_)
  obtain ⟨τ, m1, m2⟩ := u
  obtain ⟨rfl, h1, h2⟩ := hp
  dsimp only at h1 h2 hB
  subst h1
  have hPc := sv_P_kept hPc hk (fun k hk q => by obtain ⟨j, hj, e⟩ := q; exact (hAc k hk).2 j hj e)
  have hPm := hB
  refine lv_icmp_eq (tgt := 661) hx hb dL_law_162 rfl (fun _ => ?_) (fun h => absurd rfl h)
  refine W.widen (k := cells + 1) (n := slots + 6) (by omega) (by omega) ?_
  exact K (sv_qtQ n qc σ (xs (v + 1)) (xs (v + 2)) (xs (v + 3))) u0 _ _ _ _ _ (hu 0 (by omega)) ⟨hPc, hPm, hJc, hJm, hAc, hAm, (sv_IV_qt hIV)⟩ hS
set_option maxHeartbeats 4000000 in
set_option maxRecDepth 100000 in
theorem wL_member (X : sv_X D cI cZ cN cQ "SliceVotingLaw" cL_law 4 20 p R s m args c) (hL : L ≤ 2561) (hX : va_X b L xs s H0) (hbl : b < H0.size) (hv : v + 5 ≤ L) (hl : lv_has ls 4 [(0, .ref b), (1, .ref (ac 0)), (2, .ref (am 0)), (3, .int (nI v))]) (hW : sv_LW D cI cZ cN cQ H0.size n qc ac am σ mt qm H) (hS : va_S (fun q => H0.size ≤ q) H0 H locs) (hc : cells + 1 ≤ R.cells) (hs : slots + 6 ≤ R.slots) (K : ∀ (qc2 : Nat) (ac2 : Nat → Nat) (σ2 : Sg) (mt2 qm2 : Nat → Int32) (H2 : Heap) (locs2 : List Loc), ac 0 = ac2 0 → sv_LW D cI cZ cN cQ H0.size n qc2 ac2 am σ2 mt2 qm2 H2 → va_S (fun q => H0.size ≤ q) H0 H2 locs2 → W p l e R s m args below meth c H2 locs2 (cells + 1) (slots + 6) Q (F0 m 661 ls [])) : W p l e R s m args below meth c H locs cells slots Q (F0 m 167 ls []) := by
  have hx := X.1
  have hb := X.2.1
  have hbA : ¬ H0.size ≤ b := by omega
  obtain ⟨hPc, hPm, hJc, hJm, hAc, hAm, hIV⟩ := hW
  have hI := hIV.1
  have hIS := hIV.2.1
  have hn := hI.2.1
  have hq4 := hIV.2.2
  have hq24 := hI.2.2.2.1
  refine lv_aload_n (i := 1) hx hb dL_law_167 rfl (sv_at hl rfl) ?_
  refine sv_arg (j := 1) hx hb hl rfl rfl hL hX hbl hbA hS (by omega) (by decide) dL_law_168 dL_law_169 dL_law_170 dL_law_171 dL_law_172 ?_
  refine sv_arg (j := 2) hx hb hl rfl rfl hL hX hbl hbA hS (by omega) (by decide) dL_law_173 dL_law_174 dL_law_175 dL_law_176 dL_law_177 ?_
  refine sv_lV (S := Sg) (A1 := sv_Ac H0.size am) (k2 := 2) (mc := 0) (ms := 0) (G := fun H => sv_cP D cI cN cQ n qc ac σ H) (B := fun u H => sv_cP D cI cN cQ n qc ac u H) X okL_S_member (cS_m_member hJc hAc hn hq24 hq4) hPc (y_rec X.K hPc (by omega) sv_ce_S rfl) hS (fun q h => h.1) (by decide) rfl hl.1 rfl (Nat.le_of_ble_eq_true rfl) (by omega) (by omega) dL_law_178 (fun r u H1 locs1 hp hB hz hk hS => ?_)
  obtain ⟨rfl, rfl⟩ := hp
  have hPm := sv_P_kept hPm hk (fun k hk q => q.2 k hk rfl)
  have hPc := hB
  refine lv_aload_n (i := 2) hx hb dL_law_181 rfl (sv_at hl rfl) ?_
  refine sv_arg (j := 1) hx hb hl rfl rfl hL hX hbl hbA hS (by omega) (by decide) dL_law_182 dL_law_183 dL_law_184 dL_law_185 dL_law_186 ?_
  refine sv_arg (j := 2) hx hb hl rfl rfl hL hX hbl hbA hS (by omega) (by decide) dL_law_187 dL_law_188 dL_law_189 dL_law_190 dL_law_191 ?_
  refine sv_lV (S := Sg × (Nat → Int32) × (Nat → Int32)) (A1 := sv_Am am) (k2 := 2) (mc := 0) (ms := 0) (G := fun H => sv_mP D cI cZ n qc am σ mt qm H) (B := fun u H => sv_mP D cI cZ n qc am u.1 u.2.1 u.2.2 H) X okL_M_member (cM_m_member hJm (fun k hk => ⟨k, hk, rfl⟩) hn hq24) hPm (y_rec X.K hPm (by decide) sv_me_0 rfl) hS (fun q h => by obtain ⟨j, hj, rfl⟩ := h; exact hAm j hj) (by decide) rfl hl.1 rfl (Nat.le_of_ble_eq_true rfl) (by omega) (by omega) dL_law_192 (fun r u H3 locs3 hp hB hz hk hS => ?_)
  obtain ⟨τ, m1, m2⟩ := u
  obtain ⟨rfl, h1, h2⟩ := hp
  dsimp only at h1 h2 hB
  subst h1
  have hPc := sv_P_kept hPc hk (fun k hk q => by obtain ⟨j, hj, e⟩ := q; exact (hAc k hk).2 j hj e)
  have hPm := hB
  refine lv_icmp_eq (tgt := 661) hx hb dL_law_195 rfl (fun _ => ?_) (fun h => absurd rfl h)
  refine W.widen (k := cells + 1) (n := slots + 6) (by omega) (by omega) ?_
  exact K qc ac _ _ _ _ _ rfl ⟨hPc, hPm, hJc, hJm, hAc, hAm, (sv_IV_mb hIV)⟩ hS
set_option maxHeartbeats 4000000 in
set_option maxRecDepth 100000 in
theorem wL_corrupt (X : sv_X D cI cZ cN cQ "SliceVotingLaw" cL_law 4 20 p R s m args c) (hL : L ≤ 2561) (hX : va_X b L xs s H0) (hbl : b < H0.size) (hv : v + 5 ≤ L) (hl : lv_has ls 4 [(0, .ref b), (1, .ref (ac 0)), (2, .ref (am 0)), (3, .int (nI v))]) (hW : sv_LW D cI cZ cN cQ H0.size n qc ac am σ mt qm H) (hS : va_S (fun q => H0.size ≤ q) H0 H locs) (hc : cells + 1 ≤ R.cells) (hs : slots + 6 ≤ R.slots) (K : ∀ (qc2 : Nat) (ac2 : Nat → Nat) (σ2 : Sg) (mt2 qm2 : Nat → Int32) (H2 : Heap) (locs2 : List Loc), ac 0 = ac2 0 → sv_LW D cI cZ cN cQ H0.size n qc2 ac2 am σ2 mt2 qm2 H2 → va_S (fun q => H0.size ≤ q) H0 H2 locs2 → W p l e R s m args below meth c H2 locs2 (cells + 1) (slots + 6) Q (F0 m 661 ls [])) : W p l e R s m args below meth c H locs cells slots Q (F0 m 200 ls []) := by
  have hx := X.1
  have hb := X.2.1
  have hbA : ¬ H0.size ≤ b := by omega
  obtain ⟨hPc, hPm, hJc, hJm, hAc, hAm, hIV⟩ := hW
  have hI := hIV.1
  have hIS := hIV.2.1
  have hn := hI.2.1
  have hq4 := hIV.2.2
  have hq24 := hI.2.2.2.1
  refine lv_aload_n (i := 1) hx hb dL_law_200 rfl (sv_at hl rfl) ?_
  refine sv_arg (j := 1) hx hb hl rfl rfl hL hX hbl hbA hS (by omega) (by decide) dL_law_201 dL_law_202 dL_law_203 dL_law_204 dL_law_205 ?_
  refine sv_lV (S := Sg) (A1 := sv_Ac H0.size am) (k2 := 3) (mc := 0) (ms := 0) (G := fun H => sv_cP D cI cN cQ n qc ac σ H) (B := fun u H => sv_cP D cI cN cQ n qc ac u H) X okL_S_corrupt (cS_m_corrupt hJc hAc hn) hPc (y_rec X.K hPc (by omega) sv_ce_S rfl) hS (fun q h => h.1) (by decide) rfl hl.1 rfl (Nat.le_of_ble_eq_true rfl) (by omega) (by omega) dL_law_206 (fun r u H1 locs1 hp hB hz hk hS => ?_)
  obtain ⟨rfl, rfl⟩ := hp
  have hPm := sv_P_kept hPm hk (fun k hk q => q.2 k hk rfl)
  have hPc := hB
  refine lv_aload_n (i := 2) hx hb dL_law_209 rfl (sv_at hl rfl) ?_
  refine sv_arg (j := 1) hx hb hl rfl rfl hL hX hbl hbA hS (by omega) (by decide) dL_law_210 dL_law_211 dL_law_212 dL_law_213 dL_law_214 ?_
  refine sv_lV (S := Sg × (Nat → Int32) × (Nat → Int32)) (A1 := sv_Am am) (k2 := 3) (mc := 0) (ms := 0) (G := fun H => sv_mP D cI cZ n qc am σ mt qm H) (B := fun u H => sv_mP D cI cZ n qc am u.1 u.2.1 u.2.2 H) X okL_M_corrupt (cM_m_corrupt hJm (fun k hk => ⟨k, hk, rfl⟩) hn) hPm (y_rec X.K hPm (by decide) sv_me_0 rfl) hS (fun q h => by obtain ⟨j, hj, rfl⟩ := h; exact hAm j hj) (by decide) rfl hl.1 rfl (Nat.le_of_ble_eq_true rfl) (by omega) (by omega) dL_law_215 (fun r u H3 locs3 hp hB hz hk hS => ?_)
  obtain ⟨τ, m1, m2⟩ := u
  obtain ⟨rfl, h1, h2⟩ := hp
  dsimp only at h1 h2 hB
  subst h1
  have hPc := sv_P_kept hPc hk (fun k hk q => by obtain ⟨j, hj, e⟩ := q; exact (hAc k hk).2 j hj e)
  have hPm := hB
  refine lv_icmp_eq (tgt := 661) hx hb dL_law_218 rfl (fun _ => ?_) (fun h => absurd rfl h)
  refine W.widen (k := cells + 1) (n := slots + 6) (by omega) (by omega) ?_
  exact K qc ac _ _ _ _ _ rfl ⟨hPc, hPm, hJc, hJm, hAc, hAm, (sv_IV_co hIV)⟩ hS
set_option maxHeartbeats 4000000 in
set_option maxRecDepth 100000 in
theorem wL_propose (X : sv_X D cI cZ cN cQ "SliceVotingLaw" cL_law 4 20 p R s m args c) (hL : L ≤ 2561) (hX : va_X b L xs s H0) (hbl : b < H0.size) (hv : v + 5 ≤ L) (hl : lv_has ls 4 [(0, .ref b), (1, .ref (ac 0)), (2, .ref (am 0)), (3, .int (nI v))]) (hW : sv_LW D cI cZ cN cQ H0.size n qc ac am σ mt qm H) (hS : va_S (fun q => H0.size ≤ q) H0 H locs) (hc : cells + 1 ≤ R.cells) (hs : slots + 6 ≤ R.slots) (K : ∀ (qc2 : Nat) (ac2 : Nat → Nat) (σ2 : Sg) (mt2 qm2 : Nat → Int32) (H2 : Heap) (locs2 : List Loc), ac 0 = ac2 0 → sv_LW D cI cZ cN cQ H0.size n qc2 ac2 am σ2 mt2 qm2 H2 → va_S (fun q => H0.size ≤ q) H0 H2 locs2 → W p l e R s m args below meth c H2 locs2 (cells + 1) (slots + 6) Q (F0 m 661 ls [])) : W p l e R s m args below meth c H locs cells slots Q (F0 m 223 ls []) := by
  have hx := X.1
  have hb := X.2.1
  have hbA : ¬ H0.size ≤ b := by omega
  obtain ⟨hPc, hPm, hJc, hJm, hAc, hAm, hIV⟩ := hW
  have hI := hIV.1
  have hIS := hIV.2.1
  have hn := hI.2.1
  have hq4 := hIV.2.2
  have hq24 := hI.2.2.2.1
  refine lv_aload_n (i := 1) hx hb dL_law_223 rfl (sv_at hl rfl) ?_
  refine sv_arg (j := 1) hx hb hl rfl rfl hL hX hbl hbA hS (by omega) (by decide) dL_law_224 dL_law_225 dL_law_226 dL_law_227 dL_law_228 ?_
  refine sv_arg (j := 2) hx hb hl rfl rfl hL hX hbl hbA hS (by omega) (by decide) dL_law_229 dL_law_230 dL_law_231 dL_law_232 dL_law_233 ?_
  refine sv_arg (j := 3) hx hb hl rfl rfl hL hX hbl hbA hS (by omega) (by decide) dL_law_234 dL_law_235 dL_law_236 dL_law_237 dL_law_238 ?_
  refine sv_lV (S := Sg) (A1 := sv_Ac H0.size am) (k2 := 10) (mc := 0) (ms := 0) (G := fun H => sv_cP D cI cN cQ n qc ac σ H) (B := fun u H => sv_cP D cI cN cQ n qc ac u H) X okL_S_propose (cS_m_propose hJc hAc hn hI hIS) hPc (y_rec X.K hPc (by omega) sv_ce_S rfl) hS (fun q h => h.1) (by decide) rfl hl.1 rfl (Nat.le_of_ble_eq_true rfl) (by omega) (by omega) dL_law_239 (fun r u H1 locs1 hp hB hz hk hS => ?_)
  obtain ⟨rfl, rfl⟩ := hp
  have hPm := sv_P_kept hPm hk (fun k hk q => q.2 k hk rfl)
  have hPc := hB
  refine lv_aload_n (i := 2) hx hb dL_law_242 rfl (sv_at hl rfl) ?_
  refine sv_arg (j := 1) hx hb hl rfl rfl hL hX hbl hbA hS (by omega) (by decide) dL_law_243 dL_law_244 dL_law_245 dL_law_246 dL_law_247 ?_
  refine sv_arg (j := 2) hx hb hl rfl rfl hL hX hbl hbA hS (by omega) (by decide) dL_law_248 dL_law_249 dL_law_250 dL_law_251 dL_law_252 ?_
  refine sv_arg (j := 3) hx hb hl rfl rfl hL hX hbl hbA hS (by omega) (by decide) dL_law_253 dL_law_254 dL_law_255 dL_law_256 dL_law_257 ?_
  refine sv_lV (S := Sg × (Nat → Int32) × (Nat → Int32)) (A1 := sv_Am am) (k2 := 6) (mc := 0) (ms := 0) (G := fun H => sv_mP D cI cZ n qc am σ mt qm H) (B := fun u H => sv_mP D cI cZ n qc am u.1 u.2.1 u.2.2 H) X okL_M_propose (cM_m_propose hJm (fun k hk => ⟨k, hk, rfl⟩) hn hI hIS) hPm (y_rec X.K hPm (by decide) sv_me_0 rfl) hS (fun q h => by obtain ⟨j, hj, rfl⟩ := h; exact hAm j hj) (by decide) rfl hl.1 rfl (Nat.le_of_ble_eq_true rfl) (by omega) (by omega) dL_law_258 (fun r u H3 locs3 hp hB hz hk hS => ?_)
  obtain ⟨τ, m1, m2⟩ := u
  obtain ⟨rfl, h1, h2⟩ := hp
  dsimp only at h1 h2 hB
  subst h1
  have hPc := sv_P_kept hPc hk (fun k hk q => by obtain ⟨j, hj, e⟩ := q; exact (hAc k hk).2 j hj e)
  have hPm := hB
  refine lv_icmp_eq (tgt := 661) hx hb dL_law_261 rfl (fun _ => ?_) (fun h => absurd rfl h)
  refine W.widen (k := cells + 1) (n := slots + 6) (by omega) (by omega) ?_
  exact K qc ac _ _ _ _ _ rfl ⟨hPc, hPm, hJc, hJm, hAc, hAm, (sv_IV_pr hIV)⟩ hS
set_option maxHeartbeats 4000000 in
set_option maxRecDepth 100000 in
theorem wL_deliver (X : sv_X D cI cZ cN cQ "SliceVotingLaw" cL_law 4 20 p R s m args c) (hL : L ≤ 2561) (hX : va_X b L xs s H0) (hbl : b < H0.size) (hv : v + 5 ≤ L) (hl : lv_has ls 4 [(0, .ref b), (1, .ref (ac 0)), (2, .ref (am 0)), (3, .int (nI v))]) (hW : sv_LW D cI cZ cN cQ H0.size n qc ac am σ mt qm H) (hS : va_S (fun q => H0.size ≤ q) H0 H locs) (hc : cells + 1 ≤ R.cells) (hs : slots + 6 ≤ R.slots) (K : ∀ (qc2 : Nat) (ac2 : Nat → Nat) (σ2 : Sg) (mt2 qm2 : Nat → Int32) (H2 : Heap) (locs2 : List Loc), ac 0 = ac2 0 → sv_LW D cI cZ cN cQ H0.size n qc2 ac2 am σ2 mt2 qm2 H2 → va_S (fun q => H0.size ≤ q) H0 H2 locs2 → W p l e R s m args below meth c H2 locs2 (cells + 1) (slots + 6) Q (F0 m 661 ls [])) : W p l e R s m args below meth c H locs cells slots Q (F0 m 266 ls []) := by
  have hx := X.1
  have hb := X.2.1
  have hbA : ¬ H0.size ≤ b := by omega
  obtain ⟨hPc, hPm, hJc, hJm, hAc, hAm, hIV⟩ := hW
  have hI := hIV.1
  have hIS := hIV.2.1
  have hn := hI.2.1
  have hq4 := hIV.2.2
  have hq24 := hI.2.2.2.1
  refine lv_aload_n (i := 1) hx hb dL_law_266 rfl (sv_at hl rfl) ?_
  refine sv_arg (j := 1) hx hb hl rfl rfl hL hX hbl hbA hS (by omega) (by decide) dL_law_267 dL_law_268 dL_law_269 dL_law_270 dL_law_271 ?_
  refine sv_arg (j := 2) hx hb hl rfl rfl hL hX hbl hbA hS (by omega) (by decide) dL_law_272 dL_law_273 dL_law_274 dL_law_275 dL_law_276 ?_
  refine sv_lV (S := Sg) (A1 := sv_Ac H0.size am) (k2 := 10) (mc := 0) (ms := 0) (G := fun H => sv_cP D cI cN cQ n qc ac σ H) (B := fun u H => sv_cP D cI cN cQ n qc ac u H) X okL_S_deliver (cS_m_deliver hJc hAc hn hI hIS) hPc (y_rec X.K hPc (by omega) sv_ce_S rfl) hS (fun q h => h.1) (by decide) rfl hl.1 rfl (Nat.le_of_ble_eq_true rfl) (by omega) (by omega) dL_law_277 (fun r u H1 locs1 hp hB hz hk hS => ?_)
  obtain ⟨rfl, rfl⟩ := hp
  have hPm := sv_P_kept hPm hk (fun k hk q => q.2 k hk rfl)
  have hPc := hB
  refine lv_aload_n (i := 2) hx hb dL_law_280 rfl (sv_at hl rfl) ?_
  refine sv_arg (j := 1) hx hb hl rfl rfl hL hX hbl hbA hS (by omega) (by decide) dL_law_281 dL_law_282 dL_law_283 dL_law_284 dL_law_285 ?_
  refine sv_arg (j := 2) hx hb hl rfl rfl hL hX hbl hbA hS (by omega) (by decide) dL_law_286 dL_law_287 dL_law_288 dL_law_289 dL_law_290 ?_
  refine sv_lV (S := Sg × (Nat → Int32) × (Nat → Int32)) (A1 := sv_Am am) (k2 := 6) (mc := 0) (ms := 0) (G := fun H => sv_mP D cI cZ n qc am σ mt qm H) (B := fun u H => sv_mP D cI cZ n qc am u.1 u.2.1 u.2.2 H) X okL_M_deliver (cM_m_deliver hJm (fun k hk => ⟨k, hk, rfl⟩) hn hI hIS) hPm (y_rec X.K hPm (by decide) sv_me_0 rfl) hS (fun q h => by obtain ⟨j, hj, rfl⟩ := h; exact hAm j hj) (by decide) rfl hl.1 rfl (Nat.le_of_ble_eq_true rfl) (by omega) (by omega) dL_law_291 (fun r u H3 locs3 hp hB hz hk hS => ?_)
  obtain ⟨τ, m1, m2⟩ := u
  obtain ⟨rfl, h1, h2⟩ := hp
  dsimp only at h1 h2 hB
  subst h1
  have hPc := sv_P_kept hPc hk (fun k hk q => by obtain ⟨j, hj, e⟩ := q; exact (hAc k hk).2 j hj e)
  have hPm := hB
  refine lv_icmp_eq (tgt := 661) hx hb dL_law_294 rfl (fun _ => ?_) (fun h => absurd rfl h)
  refine W.widen (k := cells + 1) (n := slots + 6) (by omega) (by omega) ?_
  exact K qc ac _ _ _ _ _ rfl ⟨hPc, hPm, hJc, hJm, hAc, hAm, (sv_IV_dl hIV)⟩ hS
set_option maxHeartbeats 4000000 in
set_option maxRecDepth 100000 in
theorem wL_say (X : sv_X D cI cZ cN cQ "SliceVotingLaw" cL_law 4 20 p R s m args c) (hL : L ≤ 2561) (hX : va_X b L xs s H0) (hbl : b < H0.size) (hv : v + 5 ≤ L) (hl : lv_has ls 4 [(0, .ref b), (1, .ref (ac 0)), (2, .ref (am 0)), (3, .int (nI v))]) (hW : sv_LW D cI cZ cN cQ H0.size n qc ac am σ mt qm H) (hS : va_S (fun q => H0.size ≤ q) H0 H locs) (hc : cells + 1 ≤ R.cells) (hs : slots + 6 ≤ R.slots) (K : ∀ (qc2 : Nat) (ac2 : Nat → Nat) (σ2 : Sg) (mt2 qm2 : Nat → Int32) (H2 : Heap) (locs2 : List Loc), ac 0 = ac2 0 → sv_LW D cI cZ cN cQ H0.size n qc2 ac2 am σ2 mt2 qm2 H2 → va_S (fun q => H0.size ≤ q) H0 H2 locs2 → W p l e R s m args below meth c H2 locs2 (cells + 1) (slots + 6) Q (F0 m 661 ls [])) : W p l e R s m args below meth c H locs cells slots Q (F0 m 299 ls []) := by
  have hx := X.1
  have hb := X.2.1
  have hbA : ¬ H0.size ≤ b := by omega
  obtain ⟨hPc, hPm, hJc, hJm, hAc, hAm, hIV⟩ := hW
  have hI := hIV.1
  have hIS := hIV.2.1
  have hn := hI.2.1
  have hq4 := hIV.2.2
  have hq24 := hI.2.2.2.1
  refine lv_aload_n (i := 1) hx hb dL_law_299 rfl (sv_at hl rfl) ?_
  refine sv_arg (j := 1) hx hb hl rfl rfl hL hX hbl hbA hS (by omega) (by decide) dL_law_300 dL_law_301 dL_law_302 dL_law_303 dL_law_304 ?_
  refine sv_arg (j := 2) hx hb hl rfl rfl hL hX hbl hbA hS (by omega) (by decide) dL_law_305 dL_law_306 dL_law_307 dL_law_308 dL_law_309 ?_
  refine sv_arg (j := 3) hx hb hl rfl rfl hL hX hbl hbA hS (by omega) (by decide) dL_law_310 dL_law_311 dL_law_312 dL_law_313 dL_law_314 ?_
  refine sv_arg (j := 4) hx hb hl rfl rfl hL hX hbl hbA hS (by omega) (by decide) dL_law_315 dL_law_316 dL_law_317 dL_law_318 dL_law_319 ?_
  refine sv_lV (S := Sg) (A1 := sv_Ac H0.size am) (k2 := 10) (mc := 0) (ms := 0) (G := fun H => sv_cP D cI cN cQ n qc ac σ H) (B := fun u H => sv_cP D cI cN cQ n qc ac u H) X okL_S_say (cS_m_say hJc hAc hn hI hIS) hPc (y_rec X.K hPc (by omega) sv_ce_S rfl) hS (fun q h => h.1) (by decide) rfl hl.1 rfl (Nat.le_of_ble_eq_true rfl) (by omega) (by omega) dL_law_320 (fun r u H1 locs1 hp hB hz hk hS => ?_)
  obtain ⟨rfl, rfl⟩ := hp
  have hPm := sv_P_kept hPm hk (fun k hk q => q.2 k hk rfl)
  have hPc := hB
  refine lv_aload_n (i := 2) hx hb dL_law_323 rfl (sv_at hl rfl) ?_
  refine sv_arg (j := 1) hx hb hl rfl rfl hL hX hbl hbA hS (by omega) (by decide) dL_law_324 dL_law_325 dL_law_326 dL_law_327 dL_law_328 ?_
  refine sv_arg (j := 2) hx hb hl rfl rfl hL hX hbl hbA hS (by omega) (by decide) dL_law_329 dL_law_330 dL_law_331 dL_law_332 dL_law_333 ?_
  refine sv_arg (j := 3) hx hb hl rfl rfl hL hX hbl hbA hS (by omega) (by decide) dL_law_334 dL_law_335 dL_law_336 dL_law_337 dL_law_338 ?_
  refine sv_arg (j := 4) hx hb hl rfl rfl hL hX hbl hbA hS (by omega) (by decide) dL_law_339 dL_law_340 dL_law_341 dL_law_342 dL_law_343 ?_
  refine sv_lV (S := Sg × (Nat → Int32) × (Nat → Int32)) (A1 := sv_Am am) (k2 := 6) (mc := 0) (ms := 0) (G := fun H => sv_mP D cI cZ n qc am σ mt qm H) (B := fun u H => sv_mP D cI cZ n qc am u.1 u.2.1 u.2.2 H) X okL_M_say (cM_m_say hJm (fun k hk => ⟨k, hk, rfl⟩) hn hI hIS) hPm (y_rec X.K hPm (by decide) sv_me_0 rfl) hS (fun q h => by obtain ⟨j, hj, rfl⟩ := h; exact hAm j hj) (by decide) rfl hl.1 rfl (Nat.le_of_ble_eq_true rfl) (by omega) (by omega) dL_law_344 (fun r u H3 locs3 hp hB hz hk hS => ?_)
  obtain ⟨τ, m1, m2⟩ := u
  obtain ⟨rfl, h1, h2⟩ := hp
  dsimp only at h1 h2 hB
  subst h1
  have hPc := sv_P_kept hPc hk (fun k hk q => by obtain ⟨j, hj, e⟩ := q; exact (hAc k hk).2 j hj e)
  have hPm := hB
  refine lv_icmp_eq (tgt := 661) hx hb dL_law_347 rfl (fun _ => ?_) (fun h => absurd rfl h)
  refine W.widen (k := cells + 1) (n := slots + 6) (by omega) (by omega) ?_
  exact K qc ac _ _ _ _ _ rfl ⟨hPc, hPm, hJc, hJm, hAc, hAm, (sv_IV_sy hIV)⟩ hS
set_option maxHeartbeats 4000000 in
set_option maxRecDepth 100000 in
theorem wL_voted (X : sv_X D cI cZ cN cQ "SliceVotingLaw" cL_law 4 20 p R s m args c) (hL : L ≤ 2561) (hX : va_X b L xs s H0) (hbl : b < H0.size) (hv : v + 5 ≤ L) (hl : lv_has ls 4 [(0, .ref b), (1, .ref (ac 0)), (2, .ref (am 0)), (3, .int (nI v))]) (hW : sv_LW D cI cZ cN cQ H0.size n qc ac am σ mt qm H) (hS : va_S (fun q => H0.size ≤ q) H0 H locs) (hc : cells + 1 ≤ R.cells) (hs : slots + 6 ≤ R.slots) (K : ∀ (qc2 : Nat) (ac2 : Nat → Nat) (σ2 : Sg) (mt2 qm2 : Nat → Int32) (H2 : Heap) (locs2 : List Loc), ac 0 = ac2 0 → sv_LW D cI cZ cN cQ H0.size n qc2 ac2 am σ2 mt2 qm2 H2 → va_S (fun q => H0.size ≤ q) H0 H2 locs2 → W p l e R s m args below meth c H2 locs2 (cells + 1) (slots + 6) Q (F0 m 661 ls [])) : W p l e R s m args below meth c H locs cells slots Q (F0 m 352 ls []) := by
  have hx := X.1
  have hb := X.2.1
  have hbA : ¬ H0.size ≤ b := by omega
  obtain ⟨hPc, hPm, hJc, hJm, hAc, hAm, hIV⟩ := hW
  have hI := hIV.1
  have hIS := hIV.2.1
  have hn := hI.2.1
  have hq4 := hIV.2.2
  have hq24 := hI.2.2.2.1
  refine lv_aload_n (i := 1) hx hb dL_law_352 rfl (sv_at hl rfl) ?_
  refine sv_arg (j := 1) hx hb hl rfl rfl hL hX hbl hbA hS (by omega) (by decide) dL_law_353 dL_law_354 dL_law_355 dL_law_356 dL_law_357 ?_
  refine sv_cV (k2 := 3) (G := fun H => sv_cP D cI cN cQ n qc ac σ H) X okL_S_voted (cS_m_voted hn) hPc (y_rec X.K hPc (by omega) sv_ce_S rfl) (by decide) rfl hl.1 rfl (Nat.le_of_ble_eq_true rfl) (by omega) (by omega) dL_law_358 ?_
  refine lv_aload_n (i := 2) hx hb dL_law_361 rfl (sv_at hl rfl) ?_
  refine sv_arg (j := 1) hx hb hl rfl rfl hL hX hbl hbA hS (by omega) (by decide) dL_law_362 dL_law_363 dL_law_364 dL_law_365 dL_law_366 ?_
  refine sv_cV (k2 := 2) (G := fun H => sv_mP D cI cZ n qc am σ mt qm H) X okL_M_voted (cM_m_voted hn) hPm (y_rec X.K hPm (by decide) sv_me_0 rfl) (by decide) rfl hl.1 rfl (Nat.le_of_ble_eq_true rfl) (by omega) (by omega) dL_law_367 ?_
  refine lv_icmp_eq (tgt := 661) hx hb dL_law_370 rfl (fun _ => ?_) (fun h => absurd rfl h)
  refine W.widen (k := cells + 1) (n := slots + 6) (by omega) (by omega) ?_
  exact K qc ac _ _ _ _ _ rfl ⟨hPc, hPm, hJc, hJm, hAc, hAm, hIV⟩ hS
set_option maxHeartbeats 4000000 in
set_option maxRecDepth 100000 in
theorem wL_accepted (X : sv_X D cI cZ cN cQ "SliceVotingLaw" cL_law 4 20 p R s m args c) (hL : L ≤ 2561) (hX : va_X b L xs s H0) (hbl : b < H0.size) (hv : v + 5 ≤ L) (hl : lv_has ls 4 [(0, .ref b), (1, .ref (ac 0)), (2, .ref (am 0)), (3, .int (nI v))]) (hW : sv_LW D cI cZ cN cQ H0.size n qc ac am σ mt qm H) (hS : va_S (fun q => H0.size ≤ q) H0 H locs) (hc : cells + 1 ≤ R.cells) (hs : slots + 6 ≤ R.slots) (K : ∀ (qc2 : Nat) (ac2 : Nat → Nat) (σ2 : Sg) (mt2 qm2 : Nat → Int32) (H2 : Heap) (locs2 : List Loc), ac 0 = ac2 0 → sv_LW D cI cZ cN cQ H0.size n qc2 ac2 am σ2 mt2 qm2 H2 → va_S (fun q => H0.size ≤ q) H0 H2 locs2 → W p l e R s m args below meth c H2 locs2 (cells + 1) (slots + 6) Q (F0 m 661 ls [])) : W p l e R s m args below meth c H locs cells slots Q (F0 m 375 ls []) := by
  have hx := X.1
  have hb := X.2.1
  have hbA : ¬ H0.size ≤ b := by omega
  obtain ⟨hPc, hPm, hJc, hJm, hAc, hAm, hIV⟩ := hW
  have hI := hIV.1
  have hIS := hIV.2.1
  have hn := hI.2.1
  have hq4 := hIV.2.2
  have hq24 := hI.2.2.2.1
  refine lv_aload_n (i := 1) hx hb dL_law_375 rfl (sv_at hl rfl) ?_
  refine sv_arg (j := 1) hx hb hl rfl rfl hL hX hbl hbA hS (by omega) (by decide) dL_law_376 dL_law_377 dL_law_378 dL_law_379 dL_law_380 ?_
  refine sv_cV (k2 := 3) (G := fun H => sv_cP D cI cN cQ n qc ac σ H) X okL_S_accepted (cS_m_accepted hn) hPc (y_rec X.K hPc (by omega) sv_ce_S rfl) (by decide) rfl hl.1 rfl (Nat.le_of_ble_eq_true rfl) (by omega) (by omega) dL_law_381 ?_
  refine lv_aload_n (i := 2) hx hb dL_law_384 rfl (sv_at hl rfl) ?_
  refine sv_arg (j := 1) hx hb hl rfl rfl hL hX hbl hbA hS (by omega) (by decide) dL_law_385 dL_law_386 dL_law_387 dL_law_388 dL_law_389 ?_
  refine sv_cV (k2 := 2) (G := fun H => sv_mP D cI cZ n qc am σ mt qm H) X okL_M_accepted (cM_m_accepted hn) hPm (y_rec X.K hPm (by decide) sv_me_0 rfl) (by decide) rfl hl.1 rfl (Nat.le_of_ble_eq_true rfl) (by omega) (by omega) dL_law_390 ?_
  refine lv_icmp_eq (tgt := 661) hx hb dL_law_393 rfl (fun _ => ?_) (fun h => absurd rfl h)
  refine W.widen (k := cells + 1) (n := slots + 6) (by omega) (by omega) ?_
  exact K qc ac _ _ _ _ _ rfl ⟨hPc, hPm, hJc, hJm, hAc, hAm, hIV⟩ hS
set_option maxHeartbeats 4000000 in
set_option maxRecDepth 100000 in
theorem wL_confirmed (X : sv_X D cI cZ cN cQ "SliceVotingLaw" cL_law 4 20 p R s m args c) (hL : L ≤ 2561) (hX : va_X b L xs s H0) (hbl : b < H0.size) (hv : v + 5 ≤ L) (hl : lv_has ls 4 [(0, .ref b), (1, .ref (ac 0)), (2, .ref (am 0)), (3, .int (nI v))]) (hW : sv_LW D cI cZ cN cQ H0.size n qc ac am σ mt qm H) (hS : va_S (fun q => H0.size ≤ q) H0 H locs) (hc : cells + 1 ≤ R.cells) (hs : slots + 6 ≤ R.slots) (K : ∀ (qc2 : Nat) (ac2 : Nat → Nat) (σ2 : Sg) (mt2 qm2 : Nat → Int32) (H2 : Heap) (locs2 : List Loc), ac 0 = ac2 0 → sv_LW D cI cZ cN cQ H0.size n qc2 ac2 am σ2 mt2 qm2 H2 → va_S (fun q => H0.size ≤ q) H0 H2 locs2 → W p l e R s m args below meth c H2 locs2 (cells + 1) (slots + 6) Q (F0 m 661 ls [])) : W p l e R s m args below meth c H locs cells slots Q (F0 m 398 ls []) := by
  have hx := X.1
  have hb := X.2.1
  have hbA : ¬ H0.size ≤ b := by omega
  obtain ⟨hPc, hPm, hJc, hJm, hAc, hAm, hIV⟩ := hW
  have hI := hIV.1
  have hIS := hIV.2.1
  have hn := hI.2.1
  have hq4 := hIV.2.2
  have hq24 := hI.2.2.2.1
  refine lv_aload_n (i := 1) hx hb dL_law_398 rfl (sv_at hl rfl) ?_
  refine sv_arg (j := 1) hx hb hl rfl rfl hL hX hbl hbA hS (by omega) (by decide) dL_law_399 dL_law_400 dL_law_401 dL_law_402 dL_law_403 ?_
  refine sv_cV (k2 := 2) (G := fun H => sv_cP D cI cN cQ n qc ac σ H) X okL_S_confirmed (cS_m_confirmed hn) hPc (y_rec X.K hPc (by omega) sv_ce_S rfl) (by decide) rfl hl.1 rfl (Nat.le_of_ble_eq_true rfl) (by omega) (by omega) dL_law_404 ?_
  refine lv_aload_n (i := 2) hx hb dL_law_407 rfl (sv_at hl rfl) ?_
  refine sv_arg (j := 1) hx hb hl rfl rfl hL hX hbl hbA hS (by omega) (by decide) dL_law_408 dL_law_409 dL_law_410 dL_law_411 dL_law_412 ?_
  refine sv_cV (k2 := 2) (G := fun H => sv_mP D cI cZ n qc am σ mt qm H) X okL_M_confirmed (cM_m_confirmed hn) hPm (y_rec X.K hPm (by decide) sv_me_0 rfl) (by decide) rfl hl.1 rfl (Nat.le_of_ble_eq_true rfl) (by omega) (by omega) dL_law_413 ?_
  refine lv_icmp_eq (tgt := 661) hx hb dL_law_416 rfl (fun _ => ?_) (fun h => absurd rfl h)
  refine W.widen (k := cells + 1) (n := slots + 6) (by omega) (by omega) ?_
  exact K qc ac _ _ _ _ _ rfl ⟨hPc, hPm, hJc, hJm, hAc, hAm, hIV⟩ hS
set_option maxHeartbeats 4000000 in
set_option maxRecDepth 100000 in
theorem wL_counter (X : sv_X D cI cZ cN cQ "SliceVotingLaw" cL_law 4 20 p R s m args c) (hL : L ≤ 2561) (hX : va_X b L xs s H0) (hbl : b < H0.size) (hv : v + 5 ≤ L) (hl : lv_has ls 4 [(0, .ref b), (1, .ref (ac 0)), (2, .ref (am 0)), (3, .int (nI v))]) (hW : sv_LW D cI cZ cN cQ H0.size n qc ac am σ mt qm H) (hS : va_S (fun q => H0.size ≤ q) H0 H locs) (hc : cells + 1 ≤ R.cells) (hs : slots + 6 ≤ R.slots) (K : ∀ (qc2 : Nat) (ac2 : Nat → Nat) (σ2 : Sg) (mt2 qm2 : Nat → Int32) (H2 : Heap) (locs2 : List Loc), ac 0 = ac2 0 → sv_LW D cI cZ cN cQ H0.size n qc2 ac2 am σ2 mt2 qm2 H2 → va_S (fun q => H0.size ≤ q) H0 H2 locs2 → W p l e R s m args below meth c H2 locs2 (cells + 1) (slots + 6) Q (F0 m 661 ls [])) : W p l e R s m args below meth c H locs cells slots Q (F0 m 421 ls []) := by
  have hx := X.1
  have hb := X.2.1
  have hbA : ¬ H0.size ≤ b := by omega
  obtain ⟨hPc, hPm, hJc, hJm, hAc, hAm, hIV⟩ := hW
  have hI := hIV.1
  have hIS := hIV.2.1
  have hn := hI.2.1
  have hq4 := hIV.2.2
  have hq24 := hI.2.2.2.1
  refine lv_aload_n (i := 1) hx hb dL_law_421 rfl (sv_at hl rfl) ?_
  refine sv_arg (j := 1) hx hb hl rfl rfl hL hX hbl hbA hS (by omega) (by decide) dL_law_422 dL_law_423 dL_law_424 dL_law_425 dL_law_426 ?_
  refine sv_cV (k2 := 2) (G := fun H => sv_cP D cI cN cQ n qc ac σ H) X okL_S_counter (cS_m_counter hn) hPc (y_rec X.K hPc (by omega) sv_ce_S rfl) (by decide) rfl hl.1 rfl (Nat.le_of_ble_eq_true rfl) (by omega) (by omega) dL_law_427 ?_
  refine lv_aload_n (i := 2) hx hb dL_law_430 rfl (sv_at hl rfl) ?_
  refine sv_arg (j := 1) hx hb hl rfl rfl hL hX hbl hbA hS (by omega) (by decide) dL_law_431 dL_law_432 dL_law_433 dL_law_434 dL_law_435 ?_
  refine sv_cV (k2 := 2) (G := fun H => sv_mP D cI cZ n qc am σ mt qm H) X okL_M_counter (cM_m_counter hn) hPm (y_rec X.K hPm (by decide) sv_me_0 rfl) (by decide) rfl hl.1 rfl (Nat.le_of_ble_eq_true rfl) (by omega) (by omega) dL_law_436 ?_
  refine lv_icmp_eq (tgt := 661) hx hb dL_law_439 rfl (fun _ => ?_) (fun h => absurd rfl h)
  refine W.widen (k := cells + 1) (n := slots + 6) (by omega) (by omega) ?_
  exact K qc ac _ _ _ _ _ rfl ⟨hPc, hPm, hJc, hJm, hAc, hAm, hIV⟩ hS
set_option maxHeartbeats 4000000 in
set_option maxRecDepth 100000 in
theorem wL_value (X : sv_X D cI cZ cN cQ "SliceVotingLaw" cL_law 4 20 p R s m args c) (hL : L ≤ 2561) (hX : va_X b L xs s H0) (hbl : b < H0.size) (hv : v + 5 ≤ L) (hl : lv_has ls 4 [(0, .ref b), (1, .ref (ac 0)), (2, .ref (am 0)), (3, .int (nI v))]) (hW : sv_LW D cI cZ cN cQ H0.size n qc ac am σ mt qm H) (hS : va_S (fun q => H0.size ≤ q) H0 H locs) (hc : cells + 1 ≤ R.cells) (hs : slots + 6 ≤ R.slots) (K : ∀ (qc2 : Nat) (ac2 : Nat → Nat) (σ2 : Sg) (mt2 qm2 : Nat → Int32) (H2 : Heap) (locs2 : List Loc), ac 0 = ac2 0 → sv_LW D cI cZ cN cQ H0.size n qc2 ac2 am σ2 mt2 qm2 H2 → va_S (fun q => H0.size ≤ q) H0 H2 locs2 → W p l e R s m args below meth c H2 locs2 (cells + 1) (slots + 6) Q (F0 m 661 ls [])) : W p l e R s m args below meth c H locs cells slots Q (F0 m 444 ls []) := by
  have hx := X.1
  have hb := X.2.1
  have hbA : ¬ H0.size ≤ b := by omega
  obtain ⟨hPc, hPm, hJc, hJm, hAc, hAm, hIV⟩ := hW
  have hI := hIV.1
  have hIS := hIV.2.1
  have hn := hI.2.1
  have hq4 := hIV.2.2
  have hq24 := hI.2.2.2.1
  refine lv_aload_n (i := 1) hx hb dL_law_444 rfl (sv_at hl rfl) ?_
  refine sv_arg (j := 1) hx hb hl rfl rfl hL hX hbl hbA hS (by omega) (by decide) dL_law_445 dL_law_446 dL_law_447 dL_law_448 dL_law_449 ?_
  refine sv_cV (k2 := 2) (G := fun H => sv_cP D cI cN cQ n qc ac σ H) X okL_S_value (cS_m_value hn) hPc (y_rec X.K hPc (by omega) sv_ce_S rfl) (by decide) rfl hl.1 rfl (Nat.le_of_ble_eq_true rfl) (by omega) (by omega) dL_law_450 ?_
  refine lv_aload_n (i := 2) hx hb dL_law_453 rfl (sv_at hl rfl) ?_
  refine sv_arg (j := 1) hx hb hl rfl rfl hL hX hbl hbA hS (by omega) (by decide) dL_law_454 dL_law_455 dL_law_456 dL_law_457 dL_law_458 ?_
  refine sv_cV (k2 := 2) (G := fun H => sv_mP D cI cZ n qc am σ mt qm H) X okL_M_value (cM_m_value hn) hPm (y_rec X.K hPm (by decide) sv_me_0 rfl) (by decide) rfl hl.1 rfl (Nat.le_of_ble_eq_true rfl) (by omega) (by omega) dL_law_459 ?_
  refine lv_icmp_eq (tgt := 661) hx hb dL_law_462 rfl (fun _ => ?_) (fun h => absurd rfl h)
  refine W.widen (k := cells + 1) (n := slots + 6) (by omega) (by omega) ?_
  exact K qc ac _ _ _ _ _ rfl ⟨hPc, hPm, hJc, hJm, hAc, hAm, hIV⟩ hS
set_option maxHeartbeats 4000000 in
set_option maxRecDepth 100000 in
theorem wL_decided (X : sv_X D cI cZ cN cQ "SliceVotingLaw" cL_law 4 20 p R s m args c) (hL : L ≤ 2561) (hX : va_X b L xs s H0) (hbl : b < H0.size) (hv : v + 5 ≤ L) (hl : lv_has ls 4 [(0, .ref b), (1, .ref (ac 0)), (2, .ref (am 0)), (3, .int (nI v))]) (hW : sv_LW D cI cZ cN cQ H0.size n qc ac am σ mt qm H) (hS : va_S (fun q => H0.size ≤ q) H0 H locs) (hc : cells + 1 ≤ R.cells) (hs : slots + 6 ≤ R.slots) (K : ∀ (qc2 : Nat) (ac2 : Nat → Nat) (σ2 : Sg) (mt2 qm2 : Nat → Int32) (H2 : Heap) (locs2 : List Loc), ac 0 = ac2 0 → sv_LW D cI cZ cN cQ H0.size n qc2 ac2 am σ2 mt2 qm2 H2 → va_S (fun q => H0.size ≤ q) H0 H2 locs2 → W p l e R s m args below meth c H2 locs2 (cells + 1) (slots + 6) Q (F0 m 661 ls [])) : W p l e R s m args below meth c H locs cells slots Q (F0 m 467 ls []) := by
  have hx := X.1
  have hb := X.2.1
  have hbA : ¬ H0.size ≤ b := by omega
  obtain ⟨hPc, hPm, hJc, hJm, hAc, hAm, hIV⟩ := hW
  have hI := hIV.1
  have hIS := hIV.2.1
  have hn := hI.2.1
  have hq4 := hIV.2.2
  have hq24 := hI.2.2.2.1
  refine lv_aload_n (i := 1) hx hb dL_law_467 rfl (sv_at hl rfl) ?_
  refine sv_arg (j := 1) hx hb hl rfl rfl hL hX hbl hbA hS (by omega) (by decide) dL_law_468 dL_law_469 dL_law_470 dL_law_471 dL_law_472 ?_
  refine sv_cV (k2 := 2) (G := fun H => sv_cP D cI cN cQ n qc ac σ H) X okL_S_decided (cS_m_decided hn) hPc (y_rec X.K hPc (by omega) sv_ce_S rfl) (by decide) rfl hl.1 rfl (Nat.le_of_ble_eq_true rfl) (by omega) (by omega) dL_law_473 ?_
  refine lv_aload_n (i := 2) hx hb dL_law_476 rfl (sv_at hl rfl) ?_
  refine sv_arg (j := 1) hx hb hl rfl rfl hL hX hbl hbA hS (by omega) (by decide) dL_law_477 dL_law_478 dL_law_479 dL_law_480 dL_law_481 ?_
  refine sv_cV (k2 := 2) (G := fun H => sv_mP D cI cZ n qc am σ mt qm H) X okL_M_decided (cM_m_decided hn) hPm (y_rec X.K hPm (by decide) sv_me_0 rfl) (by decide) rfl hl.1 rfl (Nat.le_of_ble_eq_true rfl) (by omega) (by omega) dL_law_482 ?_
  refine lv_icmp_eq (tgt := 661) hx hb dL_law_485 rfl (fun _ => ?_) (fun h => absurd rfl h)
  refine W.widen (k := cells + 1) (n := slots + 6) (by omega) (by omega) ?_
  exact K qc ac _ _ _ _ _ rfl ⟨hPc, hPm, hJc, hJm, hAc, hAm, hIV⟩ hS
set_option maxHeartbeats 4000000 in
set_option maxRecDepth 100000 in
theorem wL_quorum (X : sv_X D cI cZ cN cQ "SliceVotingLaw" cL_law 4 20 p R s m args c) (hL : L ≤ 2561) (hX : va_X b L xs s H0) (hbl : b < H0.size) (hv : v + 5 ≤ L) (hl : lv_has ls 4 [(0, .ref b), (1, .ref (ac 0)), (2, .ref (am 0)), (3, .int (nI v))]) (hW : sv_LW D cI cZ cN cQ H0.size n qc ac am σ mt qm H) (hS : va_S (fun q => H0.size ≤ q) H0 H locs) (hc : cells + 1 ≤ R.cells) (hs : slots + 6 ≤ R.slots) (K : ∀ (qc2 : Nat) (ac2 : Nat → Nat) (σ2 : Sg) (mt2 qm2 : Nat → Int32) (H2 : Heap) (locs2 : List Loc), ac 0 = ac2 0 → sv_LW D cI cZ cN cQ H0.size n qc2 ac2 am σ2 mt2 qm2 H2 → va_S (fun q => H0.size ≤ q) H0 H2 locs2 → W p l e R s m args below meth c H2 locs2 (cells + 1) (slots + 6) Q (F0 m 661 ls [])) : W p l e R s m args below meth c H locs cells slots Q (F0 m 549 ls []) := by
  have hx := X.1
  have hb := X.2.1
  have hbA : ¬ H0.size ≤ b := by omega
  obtain ⟨hPc, hPm, hJc, hJm, hAc, hAm, hIV⟩ := hW
  have hI := hIV.1
  have hIS := hIV.2.1
  have hn := hI.2.1
  have hq4 := hIV.2.2
  have hq24 := hI.2.2.2.1
  refine lv_aload_n (i := 1) hx hb dL_law_549 rfl (sv_at hl rfl) ?_
  refine sv_arg (j := 1) hx hb hl rfl rfl hL hX hbl hbA hS (by omega) (by decide) dL_law_550 dL_law_551 dL_law_552 dL_law_553 dL_law_554 ?_
  refine sv_cV (k2 := 7) (G := fun H => sv_cP D cI cN cQ n qc ac σ H) X okL_S_quorum (cS_m_quorum hn hI) hPc (y_rec X.K hPc (by omega) sv_ce_S rfl) (by decide) rfl hl.1 rfl (Nat.le_of_ble_eq_true rfl) (by omega) (by omega) dL_law_555 ?_
  refine lv_aload_n (i := 2) hx hb dL_law_558 rfl (sv_at hl rfl) ?_
  refine sv_arg (j := 1) hx hb hl rfl rfl hL hX hbl hbA hS (by omega) (by decide) dL_law_559 dL_law_560 dL_law_561 dL_law_562 dL_law_563 ?_
  refine sv_lV (S := Sg × (Nat → Int32) × (Nat → Int32)) (A1 := sv_Am am) (k2 := 2) (mc := 0) (ms := 0) (G := fun H => sv_mP D cI cZ n qc am σ mt qm H) (B := fun u H => sv_mP D cI cZ n qc am u.1 u.2.1 u.2.2 H) X okL_M_quorum (cM_m_quorum hJm (fun k hk => ⟨k, hk, rfl⟩) hn hI) hPm (y_rec X.K hPm (by decide) sv_me_0 rfl) hS (fun q h => by obtain ⟨j, hj, rfl⟩ := h; exact hAm j hj) (by decide) rfl hl.1 rfl (Nat.le_of_ble_eq_true rfl) (by omega) (by omega) dL_law_564 (fun r u H3 locs3 hp hB hz hk hS => ?_)
  obtain ⟨τ, m1, m2⟩ := u
  obtain ⟨rfl, h1, h2⟩ := hp
  dsimp only at h1 h2 hB
  subst h1
  have hPc := sv_P_kept hPc hk (fun k hk q => by obtain ⟨j, hj, e⟩ := q; exact (hAc k hk).2 j hj e)
  have hPm := hB
  refine lv_icmp_eq (tgt := 661) hx hb dL_law_567 rfl (fun _ => ?_) (fun h => absurd rfl h)
  refine W.widen (k := cells + 1) (n := slots + 6) (by omega) (by omega) ?_
  exact K qc ac _ _ _ _ _ rfl ⟨hPc, hPm, hJc, hJm, hAc, hAm, hIV⟩ hS
set_option maxHeartbeats 4000000 in
set_option maxRecDepth 100000 in
theorem wL_largest (X : sv_X D cI cZ cN cQ "SliceVotingLaw" cL_law 4 20 p R s m args c) (hL : L ≤ 2561) (hX : va_X b L xs s H0) (hbl : b < H0.size) (hv : v + 5 ≤ L) (hl : lv_has ls 4 [(0, .ref b), (1, .ref (ac 0)), (2, .ref (am 0)), (3, .int (nI v))]) (hW : sv_LW D cI cZ cN cQ H0.size n qc ac am σ mt qm H) (hS : va_S (fun q => H0.size ≤ q) H0 H locs) (hc : cells + 1 ≤ R.cells) (hs : slots + 6 ≤ R.slots) (K : ∀ (qc2 : Nat) (ac2 : Nat → Nat) (σ2 : Sg) (mt2 qm2 : Nat → Int32) (H2 : Heap) (locs2 : List Loc), ac 0 = ac2 0 → sv_LW D cI cZ cN cQ H0.size n qc2 ac2 am σ2 mt2 qm2 H2 → va_S (fun q => H0.size ≤ q) H0 H2 locs2 → W p l e R s m args below meth c H2 locs2 (cells + 1) (slots + 6) Q (F0 m 661 ls [])) : W p l e R s m args below meth c H locs cells slots Q (F0 m 572 ls []) := by
  have hx := X.1
  have hb := X.2.1
  have hbA : ¬ H0.size ≤ b := by omega
  obtain ⟨hPc, hPm, hJc, hJm, hAc, hAm, hIV⟩ := hW
  have hI := hIV.1
  have hIS := hIV.2.1
  have hn := hI.2.1
  have hq4 := hIV.2.2
  have hq24 := hI.2.2.2.1
  refine lv_aload_n (i := 1) hx hb dL_law_572 rfl (sv_at hl rfl) ?_
  refine sv_arg (j := 1) hx hb hl rfl rfl hL hX hbl hbA hS (by omega) (by decide) dL_law_573 dL_law_574 dL_law_575 dL_law_576 dL_law_577 ?_
  refine sv_cV (k2 := 6) (G := fun H => sv_cP D cI cN cQ n qc ac σ H) X okL_S_largest (cS_m_largest hn hI) hPc (y_rec X.K hPc (by omega) sv_ce_S rfl) (by decide) rfl hl.1 rfl (Nat.le_of_ble_eq_true rfl) (by omega) (by omega) dL_law_578 ?_
  refine lv_aload_n (i := 2) hx hb dL_law_581 rfl (sv_at hl rfl) ?_
  refine sv_arg (j := 1) hx hb hl rfl rfl hL hX hbl hbA hS (by omega) (by decide) dL_law_582 dL_law_583 dL_law_584 dL_law_585 dL_law_586 ?_
  refine sv_lV (S := Sg × (Nat → Int32) × (Nat → Int32)) (A1 := sv_Am am) (k2 := 3) (mc := 0) (ms := 0) (G := fun H => sv_mP D cI cZ n qc am σ mt qm H) (B := fun u H => sv_mP D cI cZ n qc am u.1 u.2.1 u.2.2 H) X okL_M_largest (cM_m_largest hJm (fun k hk => ⟨k, hk, rfl⟩) hn hI) hPm (y_rec X.K hPm (by decide) sv_me_0 rfl) hS (fun q h => by obtain ⟨j, hj, rfl⟩ := h; exact hAm j hj) (by decide) rfl hl.1 rfl (Nat.le_of_ble_eq_true rfl) (by omega) (by omega) dL_law_587 (fun r u H3 locs3 hp hB hz hk hS => ?_)
  obtain ⟨τ, m1, m2⟩ := u
  obtain ⟨rfl, h1, h2⟩ := hp
  dsimp only at h1 h2 hB
  subst h1
  have hPc := sv_P_kept hPc hk (fun k hk q => by obtain ⟨j, hj, e⟩ := q; exact (hAc k hk).2 j hj e)
  have hPm := hB
  refine lv_icmp_eq (tgt := 661) hx hb dL_law_590 rfl (fun _ => ?_) (fun h => absurd rfl h)
  refine W.widen (k := cells + 1) (n := slots + 6) (by omega) (by omega) ?_
  exact K qc ac _ _ _ _ _ rfl ⟨hPc, hPm, hJc, hJm, hAc, hAm, hIV⟩ hS
set_option maxHeartbeats 4000000 in
set_option maxRecDepth 100000 in
theorem wL_blocks (X : sv_X D cI cZ cN cQ "SliceVotingLaw" cL_law 4 20 p R s m args c) (hL : L ≤ 2561) (hX : va_X b L xs s H0) (hbl : b < H0.size) (hv : v + 5 ≤ L) (hl : lv_has ls 4 [(0, .ref b), (1, .ref (ac 0)), (2, .ref (am 0)), (3, .int (nI v))]) (hW : sv_LW D cI cZ cN cQ H0.size n qc ac am σ mt qm H) (hS : va_S (fun q => H0.size ≤ q) H0 H locs) (hc : cells + 1 ≤ R.cells) (hs : slots + 6 ≤ R.slots) (K : ∀ (qc2 : Nat) (ac2 : Nat → Nat) (σ2 : Sg) (mt2 qm2 : Nat → Int32) (H2 : Heap) (locs2 : List Loc), ac 0 = ac2 0 → sv_LW D cI cZ cN cQ H0.size n qc2 ac2 am σ2 mt2 qm2 H2 → va_S (fun q => H0.size ≤ q) H0 H2 locs2 → W p l e R s m args below meth c H2 locs2 (cells + 1) (slots + 6) Q (F0 m 661 ls [])) : W p l e R s m args below meth c H locs cells slots Q (F0 m 595 ls []) := by
  have hx := X.1
  have hb := X.2.1
  have hbA : ¬ H0.size ≤ b := by omega
  obtain ⟨hPc, hPm, hJc, hJm, hAc, hAm, hIV⟩ := hW
  have hI := hIV.1
  have hIS := hIV.2.1
  have hn := hI.2.1
  have hq4 := hIV.2.2
  have hq24 := hI.2.2.2.1
  refine lv_aload_n (i := 1) hx hb dL_law_595 rfl (sv_at hl rfl) ?_
  refine sv_arg (j := 1) hx hb hl rfl rfl hL hX hbl hbA hS (by omega) (by decide) dL_law_596 dL_law_597 dL_law_598 dL_law_599 dL_law_600 ?_
  refine sv_arg (j := 2) hx hb hl rfl rfl hL hX hbl hbA hS (by omega) (by decide) dL_law_601 dL_law_602 dL_law_603 dL_law_604 dL_law_605 ?_
  refine sv_cV (k2 := 6) (G := fun H => sv_cP D cI cN cQ n qc ac σ H) X okL_S_blocks (cS_m_blocks hn hI) hPc (y_rec X.K hPc (by omega) sv_ce_S rfl) (by decide) rfl hl.1 rfl (Nat.le_of_ble_eq_true rfl) (by omega) (by omega) dL_law_606 ?_
  refine lv_aload_n (i := 2) hx hb dL_law_609 rfl (sv_at hl rfl) ?_
  refine sv_arg (j := 1) hx hb hl rfl rfl hL hX hbl hbA hS (by omega) (by decide) dL_law_610 dL_law_611 dL_law_612 dL_law_613 dL_law_614 ?_
  refine sv_arg (j := 2) hx hb hl rfl rfl hL hX hbl hbA hS (by omega) (by decide) dL_law_615 dL_law_616 dL_law_617 dL_law_618 dL_law_619 ?_
  refine sv_lV (S := Sg × (Nat → Int32) × (Nat → Int32)) (A1 := sv_Am am) (k2 := 3) (mc := 0) (ms := 0) (G := fun H => sv_mP D cI cZ n qc am σ mt qm H) (B := fun u H => sv_mP D cI cZ n qc am u.1 u.2.1 u.2.2 H) X okL_M_blocks (cM_m_blocks hJm (fun k hk => ⟨k, hk, rfl⟩) hn hI) hPm (y_rec X.K hPm (by decide) sv_me_0 rfl) hS (fun q h => by obtain ⟨j, hj, rfl⟩ := h; exact hAm j hj) (by decide) rfl hl.1 rfl (Nat.le_of_ble_eq_true rfl) (by omega) (by omega) dL_law_620 (fun r u H3 locs3 hp hB hz hk hS => ?_)
  obtain ⟨τ, m1, m2⟩ := u
  obtain ⟨rfl, h1, h2⟩ := hp
  dsimp only at h1 h2 hB
  subst h1
  have hPc := sv_P_kept hPc hk (fun k hk q => by obtain ⟨j, hj, e⟩ := q; exact (hAc k hk).2 j hj e)
  have hPm := hB
  refine lv_icmp_eq (tgt := 661) hx hb dL_law_623 rfl (fun _ => ?_) (fun h => absurd rfl h)
  refine W.widen (k := cells + 1) (n := slots + 6) (by omega) (by omega) ?_
  exact K qc ac _ _ _ _ _ rfl ⟨hPc, hPm, hJc, hJm, hAc, hAm, hIV⟩ hS
set_option maxHeartbeats 4000000 in
set_option maxRecDepth 100000 in
theorem wL_intertwined (X : sv_X D cI cZ cN cQ "SliceVotingLaw" cL_law 4 20 p R s m args c) (hL : L ≤ 2561) (hX : va_X b L xs s H0) (hbl : b < H0.size) (hv : v + 5 ≤ L) (hl : lv_has ls 4 [(0, .ref b), (1, .ref (ac 0)), (2, .ref (am 0)), (3, .int (nI v))]) (hW : sv_LW D cI cZ cN cQ H0.size n qc ac am σ mt qm H) (hS : va_S (fun q => H0.size ≤ q) H0 H locs) (hc : cells + 1 ≤ R.cells) (hs : slots + 6 ≤ R.slots) (K : ∀ (qc2 : Nat) (ac2 : Nat → Nat) (σ2 : Sg) (mt2 qm2 : Nat → Int32) (H2 : Heap) (locs2 : List Loc), ac 0 = ac2 0 → sv_LW D cI cZ cN cQ H0.size n qc2 ac2 am σ2 mt2 qm2 H2 → va_S (fun q => H0.size ≤ q) H0 H2 locs2 → W p l e R s m args below meth c H2 locs2 (cells + 1) (slots + 6) Q (F0 m 661 ls [])) : W p l e R s m args below meth c H locs cells slots Q (F0 m 628 ls []) := by
  have hx := X.1
  have hb := X.2.1
  have hbA : ¬ H0.size ≤ b := by omega
  obtain ⟨hPc, hPm, hJc, hJm, hAc, hAm, hIV⟩ := hW
  have hI := hIV.1
  have hIS := hIV.2.1
  have hn := hI.2.1
  have hq4 := hIV.2.2
  have hq24 := hI.2.2.2.1
  refine lv_aload_n (i := 1) hx hb dL_law_628 rfl (sv_at hl rfl) ?_
  refine sv_arg (j := 1) hx hb hl rfl rfl hL hX hbl hbA hS (by omega) (by decide) dL_law_629 dL_law_630 dL_law_631 dL_law_632 dL_law_633 ?_
  refine sv_arg (j := 2) hx hb hl rfl rfl hL hX hbl hbA hS (by omega) (by decide) dL_law_634 dL_law_635 dL_law_636 dL_law_637 dL_law_638 ?_
  refine sv_cV (k2 := 7) (G := fun H => sv_cP D cI cN cQ n qc ac σ H) X okL_S_intertwined (cS_m_intertwined hn hI) hPc (y_rec X.K hPc (by omega) sv_ce_S rfl) (by decide) rfl hl.1 rfl (Nat.le_of_ble_eq_true rfl) (by omega) (by omega) dL_law_639 ?_
  refine lv_aload_n (i := 2) hx hb dL_law_642 rfl (sv_at hl rfl) ?_
  refine sv_arg (j := 1) hx hb hl rfl rfl hL hX hbl hbA hS (by omega) (by decide) dL_law_643 dL_law_644 dL_law_645 dL_law_646 dL_law_647 ?_
  refine sv_arg (j := 2) hx hb hl rfl rfl hL hX hbl hbA hS (by omega) (by decide) dL_law_648 dL_law_649 dL_law_650 dL_law_651 dL_law_652 ?_
  refine sv_lV (S := Sg × (Nat → Int32) × (Nat → Int32)) (A1 := sv_Am am) (k2 := 4) (mc := 0) (ms := 0) (G := fun H => sv_mP D cI cZ n qc am σ mt qm H) (B := fun u H => sv_mP D cI cZ n qc am u.1 u.2.1 u.2.2 H) X okL_M_intertwined (cM_m_intertwined hJm (fun k hk => ⟨k, hk, rfl⟩) hn hI) hPm (y_rec X.K hPm (by decide) sv_me_0 rfl) hS (fun q h => by obtain ⟨j, hj, rfl⟩ := h; exact hAm j hj) (by decide) rfl hl.1 rfl (Nat.le_of_ble_eq_true rfl) (by omega) (by omega) dL_law_653 (fun r u H3 locs3 hp hB hz hk hS => ?_)
  obtain ⟨τ, m1, m2⟩ := u
  obtain ⟨rfl, h1, h2⟩ := hp
  dsimp only at h1 h2 hB
  subst h1
  have hPc := sv_P_kept hPc hk (fun k hk q => by obtain ⟨j, hj, e⟩ := q; exact (hAc k hk).2 j hj e)
  have hPm := hB
  refine lv_icmp_eq (tgt := 661) hx hb dL_law_656 rfl (fun _ => ?_) (fun h => absurd rfl h)
  refine W.widen (k := cells + 1) (n := slots + 6) (by omega) (by omega) ?_
  exact K qc ac _ _ _ _ _ rfl ⟨hPc, hPm, hJc, hJm, hAc, hAm, hIV⟩ hS
set_option maxHeartbeats 4000000 in
set_option maxRecDepth 100000 in
theorem wL_known3 {x y : Int32} {B : Bool} (X : sv_X D cI cZ cN cQ "SliceVotingLaw" cL_law 4 20 p R s m args c) (hL : L ≤ 2561) (hX : va_X b L xs s H0) (hbl : b < H0.size) (hv : v + 5 ≤ L) (hl : lv_has ls 4 [(0, .ref b), (1, .ref (ac 0)), (2, .ref (am 0)), (3, .int (nI v))]) (hW : sv_LW D cI cZ cN cQ H0.size n qc ac am σ mt qm H) (hS : va_S (fun q => H0.size ≤ q) H0 H locs) (hc : cells + 1 ≤ R.cells) (hs : slots + 6 ≤ R.slots) (K : ∀ (qc2 : Nat) (ac2 : Nat → Nat) (σ2 : Sg) (mt2 qm2 : Nat → Int32) (H2 : Heap) (locs2 : List Loc), ac 0 = ac2 0 → sv_LW D cI cZ cN cQ H0.size n qc2 ac2 am σ2 mt2 qm2 H2 → va_S (fun q => H0.size ≤ q) H0 H2 locs2 → W p l e R s m args below meth c H2 locs2 (cells + 1) (slots + 6) Q (F0 m 661 ls [])) : W p l e R s m args below meth c H locs cells slots Q (F0 m 541 ls [.int (sv_b B), .int y, .int x, .ref (am 0), .int (sv_knw n σ x y B)]) := by
  have hx := X.1
  have hb := X.2.1
  have hbA : ¬ H0.size ≤ b := by omega
  obtain ⟨hPc, hPm, hJc, hJm, hAc, hAm, hIV⟩ := hW
  have hI := hIV.1
  have hIS := hIV.2.1
  have hn := hI.2.1
  have hq4 := hIV.2.2
  have hq24 := hI.2.2.2.1
  refine sv_cV (k2 := 2) (G := fun H => sv_mP D cI cZ n qc am σ mt qm H) X okL_M_known (cM_m_known hn) hPm (y_rec X.K hPm (by decide) sv_me_0 rfl) (by decide) rfl hl.1 rfl (Nat.le_of_ble_eq_true rfl) (by omega) (by omega) dL_law_541 ?_
  refine lv_icmp_eq (tgt := 661) hx hb dL_law_544 rfl (fun _ => ?_) (fun h => absurd rfl h)
  refine W.widen (k := cells + 1) (n := slots + 6) (by omega) (by omega) ?_
  exact K qc ac _ _ _ _ _ rfl ⟨hPc, hPm, hJc, hJm, hAc, hAm, hIV⟩ hS
set_option maxHeartbeats 4000000 in
set_option maxRecDepth 100000 in
theorem wL_known2 (X : sv_X D cI cZ cN cQ "SliceVotingLaw" cL_law 4 20 p R s m args c) (hL : L ≤ 2561) (hX : va_X b L xs s H0) (hbl : b < H0.size) (hv : v + 5 ≤ L) (hl : lv_has ls 4 [(0, .ref b), (1, .ref (ac 0)), (2, .ref (am 0)), (3, .int (nI v))]) (hW : sv_LW D cI cZ cN cQ H0.size n qc ac am σ mt qm H) (hS : va_S (fun q => H0.size ≤ q) H0 H locs) (hc : cells + 1 ≤ R.cells) (hs : slots + 6 ≤ R.slots) (K : ∀ (qc2 : Nat) (ac2 : Nat → Nat) (σ2 : Sg) (mt2 qm2 : Nat → Int32) (H2 : Heap) (locs2 : List Loc), ac 0 = ac2 0 → sv_LW D cI cZ cN cQ H0.size n qc2 ac2 am σ2 mt2 qm2 H2 → va_S (fun q => H0.size ≤ q) H0 H2 locs2 → W p l e R s m args below meth c H2 locs2 (cells + 1) (slots + 6) Q (F0 m 661 ls [])) : W p l e R s m args below meth c H locs cells slots Q (F0 m 514 ls [.int (sv_b (!(xs (v + 3) == 0))), .int (xs (v + 2)), .int (xs (v + 1)), .ref (ac 0)]) := by
  have hx := X.1
  have hb := X.2.1
  have hbA : ¬ H0.size ≤ b := by omega
  have hW0 := hW
  obtain ⟨hPc, hPm, hJc, hJm, hAc, hAm, hIV⟩ := hW
  have hI := hIV.1
  have hIS := hIV.2.1
  have hn := hI.2.1
  have hq4 := hIV.2.2
  have hq24 := hI.2.2.2.1
  refine sv_cV (k2 := 2) (G := fun H => sv_cP D cI cN cQ n qc ac σ H) X okL_S_known (cS_m_known hn) hPc (y_rec X.K hPc (by omega) sv_ce_S rfl) (by decide) rfl hl.1 rfl (Nat.le_of_ble_eq_true rfl) (by omega) (by omega) dL_law_514 ?_
  refine lv_aload_n (i := 2) hx hb dL_law_517 rfl (sv_at hl rfl) ?_
  refine sv_arg (j := 1) hx hb hl rfl rfl hL hX hbl hbA hS (by omega) (by decide) dL_law_518 dL_law_519 dL_law_520 dL_law_521 dL_law_522 ?_
  refine sv_arg (j := 2) hx hb hl rfl rfl hL hX hbl hbA hS (by omega) (by decide) dL_law_523 dL_law_524 dL_law_525 dL_law_526 dL_law_527 ?_
  refine sv_arg (j := 3) hx hb hl rfl rfl hL hX hbl hbA hS (by omega) (by decide) dL_law_528 dL_law_529 dL_law_530 dL_law_531 dL_law_532 ?_
  refine lv_if_eq (tgt := 540) hx hb dL_law_533 rfl (fun h => ?_) (fun h => ?_)
  · refine lv_iconst (v := 0) hx hb dL_law_540 (by decide) ?_
    refine x_tv (y := sv_b (!(xs (v + 3) == 0))) (by rw [h]; rfl) ?_
    exact wL_known3 X hL hX hbl hv hl hW0 hS hc hs K
  · refine lv_iconst (v := 1) hx hb dL_law_536 (by decide) ?_
    refine lv_goto (tgt := 541) hx hb dL_law_537 rfl ?_
    refine x_tv (y := sv_b (!(xs (v + 3) == 0))) (by rw [beq_eq_false_iff_ne.mpr h]; rfl) ?_
    exact wL_known3 X hL hX hbl hv hl hW0 hS hc hs K
set_option maxHeartbeats 4000000 in
set_option maxRecDepth 100000 in
theorem wL_known (X : sv_X D cI cZ cN cQ "SliceVotingLaw" cL_law 4 20 p R s m args c) (hL : L ≤ 2561) (hX : va_X b L xs s H0) (hbl : b < H0.size) (hv : v + 5 ≤ L) (hl : lv_has ls 4 [(0, .ref b), (1, .ref (ac 0)), (2, .ref (am 0)), (3, .int (nI v))]) (hW : sv_LW D cI cZ cN cQ H0.size n qc ac am σ mt qm H) (hS : va_S (fun q => H0.size ≤ q) H0 H locs) (hc : cells + 1 ≤ R.cells) (hs : slots + 6 ≤ R.slots) (K : ∀ (qc2 : Nat) (ac2 : Nat → Nat) (σ2 : Sg) (mt2 qm2 : Nat → Int32) (H2 : Heap) (locs2 : List Loc), ac 0 = ac2 0 → sv_LW D cI cZ cN cQ H0.size n qc2 ac2 am σ2 mt2 qm2 H2 → va_S (fun q => H0.size ≤ q) H0 H2 locs2 → W p l e R s m args below meth c H2 locs2 (cells + 1) (slots + 6) Q (F0 m 661 ls [])) : W p l e R s m args below meth c H locs cells slots Q (F0 m 490 ls []) := by
  have hx := X.1
  have hb := X.2.1
  have hbA : ¬ H0.size ≤ b := by omega
  refine lv_aload_n (i := 1) hx hb dL_law_490 rfl (sv_at hl rfl) ?_
  refine sv_arg (j := 1) hx hb hl rfl rfl hL hX hbl hbA hS (by omega) (by decide) dL_law_491 dL_law_492 dL_law_493 dL_law_494 dL_law_495 ?_
  refine sv_arg (j := 2) hx hb hl rfl rfl hL hX hbl hbA hS (by omega) (by decide) dL_law_496 dL_law_497 dL_law_498 dL_law_499 dL_law_500 ?_
  refine sv_arg (j := 3) hx hb hl rfl rfl hL hX hbl hbA hS (by omega) (by decide) dL_law_501 dL_law_502 dL_law_503 dL_law_504 dL_law_505 ?_
  refine lv_if_eq (tgt := 513) hx hb dL_law_506 rfl (fun h => ?_) (fun h => ?_)
  · refine lv_iconst (v := 0) hx hb dL_law_513 (by decide) ?_
    refine x_tv (y := sv_b (!(xs (v + 3) == 0))) (by rw [h]; rfl) ?_
    exact wL_known2 X hL hX hbl hv hl hW hS hc hs K
  · refine lv_iconst (v := 1) hx hb dL_law_509 (by decide) ?_
    refine lv_goto (tgt := 514) hx hb dL_law_510 rfl ?_
    refine x_tv (y := sv_b (!(xs (v + 3) == 0))) (by rw [beq_eq_false_iff_ne.mpr h]; rfl) ?_
    exact wL_known2 X hL hX hbl hv hl hW hS hc hs K
end SvLaw2
