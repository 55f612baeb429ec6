/-! ===== the law: its script, its drawn calls, the line sign by sign ===== -/
section
variable {E : qE} {y : MethodName} {cc : ByteArray} {nL : Nat} {ret : Option FieldType} {k mc ms : Nat} {tab : List ExceptionTableEntry} {X : qX} {cN sN : Nat} {Q : State → Prop} {g : qG} {m : qM} {pc : Nat} {l : List (Option Value)} {st : List Value}
/-- some number of the script -/
theorem r_scl (hX : MC E y cc nL ret k mc ms tab X) {j : Nat} (hj : j < eT E 3) (d : decode cc pc = .ok (.iaload, 1)) (kk : ∀ r : Int32, WS E X cN sN Q g m (pc + 1) l (.int r :: st)) : WS E X cN sN Q g m pc l (.int (nI j) :: .ref (eT E 2) :: st) := fun H locs ls h1 h2 h3 => by
  obtain ⟨⟨xs, hx⟩, hb, hl⟩ := hX.eh.2.2.2.2.2.2.2.2.2.2
  have hlt : eT E 2 < (xS X).heap.size := by
    obtain ⟨scr, e, -⟩ := hx
    exact (Array.getElem?_eq_some_iff.mp e).1
  exact va_sld hX.x hX.b hx hlt hb h2 (vp_in_nI hj hl) d (kk _ H locs ls h1 h2 h3)
theorem r_scn (hX : MC E y cc nL ret k mc ms tab X) (d : decode cc pc = .ok (.arraylength, 1)) (kk : eT E 3 < 2 ^ 31 → WS E X cN sN Q g m (pc + 1) l (.int (nI (eT E 3)) :: st)) : WS E X cN sN Q g m pc l (.ref (eT E 2) :: st) := fun H locs ls h1 h2 h3 => by
  obtain ⟨⟨xs, hx⟩, hb, hl⟩ := hX.eh.2.2.2.2.2.2.2.2.2.2
  have hlt : eT E 2 < (xS X).heap.size := by
    obtain ⟨scr, e, -⟩ := hx
    exact (Array.getElem?_eq_some_iff.mp e).1
  exact va_slen hX.x hX.b hx hlt hb h2 d (kk hl H locs ls h1 h2 h3)
end
theorem ushr3 (x : Int32) : ∃ a : Nat, a < 2 ^ 29 ∧ (x.toUInt32 >>> ((3 : Int32).toUInt32 &&& Int32.toUInt32 31)).toInt32 = nI a := by
  have h := pk_ushr x 3 3 (by decide)
  have hl := x.toBitVec.isLt
  refine ⟨x.toBitVec.toNat / 2 ^ 3, by omega, ?_⟩
  apply Int32.toBitVec_inj.mp
  apply BitVec.eq_of_toNat_eq
  rw [h, pk_tn (by omega)]
set_option maxRecDepth 20000 in
set_option maxHeartbeats 4000000 in
theorem s_L_cell (E : qE) (g : qG) (m : qM) (k0 : Nat) (hk0 : k0 < 2 ^ 20) : Sp E yL_cell cL_cell 2 (some .int) 0 0 0 [.ref (eT E 2), .int (nI k0)] g m (fun v g' m' => (∃ r : Int32, v = some (.int r)) ∧ g' = g ∧ m' = m) := by
  refine Sp.ofF (by decide +kernel) [some (.ref (eT E 2)), some (.int (nI k0))] rfl rfl (Nat.le_of_ble_eq_true rfl) (fun X hX => ?_)
  refine r_iload_n hX dL_cell_0 rfl ?_
  refine r_aload_n hX dL_cell_1 rfl ?_
  refine r_scn hX dL_cell_2 (fun hl => ?_)
  refine r_icmp_ge (tgt := 12) hX dL_cell_3 (by decide) (fun c3 => ?_) (fun c3 => ?_)
  · refine r_sipush (v := 7919) hX dL_cell_12 (by decide) ?_
    refine r_iload_n hX dL_cell_15 rfl ?_
    refine r_imul hX dL_cell_16 ?_
    refine r_bipush (v := 12) hX dL_cell_17 (by decide) ?_
    refine r_iadd hX dL_cell_19 ?_
    exact r_iret hX dL_cell_20 ⟨⟨_, rfl⟩, rfl, rfl⟩ ⟨Nat.le_of_ble_eq_true rfl, Nat.le_of_ble_eq_true rfl⟩
  · refine r_aload_n hX dL_cell_6 rfl ?_
    refine r_iload_n hX dL_cell_7 rfl ?_
    refine r_scl hX (Nat.lt_of_not_le (fun q => c3 (nI_le q (by omega)))) dL_cell_8 (fun r => ?_)
    refine r_goto (tgt := 20) hX dL_cell_9 (by decide) ?_
    exact r_iret hX dL_cell_20 ⟨⟨_, rfl⟩, rfl, rfl⟩ ⟨Nat.le_of_ble_eq_true rfl, Nat.le_of_ble_eq_true rfl⟩
set_option maxRecDepth 20000 in
set_option maxHeartbeats 4000000 in
theorem s_L_some (E : qE) (g : qG) (m : qM) (k0 n0 : Nat) (hk0 : k0 < 2 ^ 20) (hn0 : 0 < n0 ∧ n0 < 2 ^ 20) : Sp E yL_some cL_some 3 (some .int) 1 0 0 [.ref (eT E 2), .int (nI k0), .int (nI n0)] g m (fun v g' m' => (∃ j : Nat, j < n0 ∧ v = some (.int (nI j))) ∧ g' = g ∧ m' = m) := by
  refine Sp.ofF (by decide +kernel) [some (.ref (eT E 2)), some (.int (nI k0)), some (.int (nI n0))] rfl rfl (Nat.le_of_ble_eq_true rfl) (fun X hX => ?_)
  refine r_aload_n hX dL_some_0 rfl ?_
  refine r_iload_n hX dL_some_1 rfl ?_
  refine r_callS hX dL_some_2 (s_L_cell E g m k0 hk0) ml_L_7 rfl rfl ⟨Nat.le_of_ble_eq_true rfl, Nat.le_of_ble_eq_true rfl⟩ ⟨Nat.le_of_ble_eq_true rfl, Nat.le_of_ble_eq_true rfl, rfl, Nat.le_of_ble_eq_true rfl⟩ (fun v2 g2 m2 hp => ?_)
  obtain ⟨⟨r, hv⟩, hg, hm⟩ := hp
  subst v2
  subst g2
  subst m2
  refine r_iconst (v := 3) hX dL_some_5 (by decide) ?_
  refine r_iushr hX dL_some_6 ?_
  obtain ⟨a, ha, e6⟩ := ushr3 r
  rw [e6]
  refine r_iload_n hX dL_some_7 rfl ?_
  refine r_irem hX dL_some_8 (nI_ne0 hn0.1 (by omega)) ?_
  rw [pk_rem (by omega) hn0.1 (by omega)]
  exact r_iret hX dL_some_9 ⟨⟨_, Nat.mod_lt _ hn0.1, rfl⟩, rfl, rfl⟩ ⟨Nat.le_of_ble_eq_true rfl, Nat.le_of_ble_eq_true rfl⟩
set_option maxRecDepth 20000 in
set_option maxHeartbeats 4000000 in
theorem s_acts_sw {E : qE} {X : qX} {g : qG} {m : qM} {x u k0 n0 vv : Nat} {id : Int32} {O : kO} (hX : MC E yL_acts cL_acts 7 none 12 4 30 [] X) (hO : ObsV g m x O) (hw : WfO u O) (hu : u ≤ 6000) : ∀ j : Nat, j < 13 → WS E X 1 6 (RQ E X (fun v g' m' => v = none ∧ ∃ O', ObsV g' m' x O' ∧ WfO (u + 12) O') 4 30) g m 45 [some (.ref x), some (.ref (eT E 2)), some (.int (nI k0)), some (.int (nI n0)), some (.int (nI vv)), some (.int id), none] [.int (nI j)] := by
  intro j hj
  by_cases e0 : j = 0
  · subst e0
    refine r_tableIn (tgt := 92) (off := 47) hX dL_acts_45 (by decide) (by decide) (by decide +kernel) (by decide) ?_
    refine r_aload_n hX dL_acts_92 rfl ?_
    refine r_iconst (v := 2) hX dL_acts_93 (by decide) ?_
    refine r_iload hX dL_acts_94 rfl ?_
    refine r_bipush (v := 9) hX dL_acts_96 (by decide) ?_
    refine r_irem hX dL_acts_98 (by decide) ?_
    refine r_iadd hX dL_acts_99 ?_
    refine r_iconst (v := 1) hX dL_acts_100 (by decide) ?_
    refine r_iload hX dL_acts_101 rfl ?_
    refine r_bipush (v := 7) hX dL_acts_103 (by decide) ?_
    refine r_irem hX dL_acts_105 (by decide) ?_
    refine r_iadd hX dL_acts_106 ?_
    refine r_iconst (v := 1) hX dL_acts_107 (by decide) ?_
    refine r_iload hX dL_acts_108 rfl ?_
    refine r_bipush (v := 20) hX dL_acts_110 (by decide) ?_
    refine r_irem hX dL_acts_112 (by decide) ?_
    refine r_iadd hX dL_acts_113 ?_
    refine r_callH hX dL_acts_114 (s_L_addComet E _ _ x O hO u hw (by omega) _ _ _) ml_L_68 rfl rfl ⟨Nat.le_of_ble_eq_true rfl, Nat.le_of_ble_eq_true rfl⟩ ⟨Nat.le_of_ble_eq_true rfl, Nat.le_of_ble_eq_true rfl, rfl, Nat.le_of_ble_eq_true rfl⟩ (fun v114 g114 m114 hp => ?_)
    obtain ⟨⟨r9, hv⟩, hO9⟩ := hp
    subst v114
    refine r_istore hX dL_acts_117 (Nat.le_of_ble_eq_true rfl) rfl ?_
    refine r_goto (tgt := 228) hX dL_acts_119 (by decide) ?_
    exact r_vret hX dL_acts_228 ⟨rfl, _, hO9, addO_wf hw _ _ _⟩ ⟨Nat.le_of_ble_eq_true rfl, Nat.le_of_ble_eq_true rfl⟩
  by_cases e1 : j = 1
  · subst e1
    refine r_tableIn (tgt := 92) (off := 47) hX dL_acts_45 (by decide) (by decide) (by decide +kernel) (by decide) ?_
    refine r_aload_n hX dL_acts_92 rfl ?_
    refine r_iconst (v := 2) hX dL_acts_93 (by decide) ?_
    refine r_iload hX dL_acts_94 rfl ?_
    refine r_bipush (v := 9) hX dL_acts_96 (by decide) ?_
    refine r_irem hX dL_acts_98 (by decide) ?_
    refine r_iadd hX dL_acts_99 ?_
    refine r_iconst (v := 1) hX dL_acts_100 (by decide) ?_
    refine r_iload hX dL_acts_101 rfl ?_
    refine r_bipush (v := 7) hX dL_acts_103 (by decide) ?_
    refine r_irem hX dL_acts_105 (by decide) ?_
    refine r_iadd hX dL_acts_106 ?_
    refine r_iconst (v := 1) hX dL_acts_107 (by decide) ?_
    refine r_iload hX dL_acts_108 rfl ?_
    refine r_bipush (v := 20) hX dL_acts_110 (by decide) ?_
    refine r_irem hX dL_acts_112 (by decide) ?_
    refine r_iadd hX dL_acts_113 ?_
    refine r_callH hX dL_acts_114 (s_L_addComet E _ _ x O hO u hw (by omega) _ _ _) ml_L_68 rfl rfl ⟨Nat.le_of_ble_eq_true rfl, Nat.le_of_ble_eq_true rfl⟩ ⟨Nat.le_of_ble_eq_true rfl, Nat.le_of_ble_eq_true rfl, rfl, Nat.le_of_ble_eq_true rfl⟩ (fun v114 g114 m114 hp => ?_)
    obtain ⟨⟨r9, hv⟩, hO9⟩ := hp
    subst v114
    refine r_istore hX dL_acts_117 (Nat.le_of_ble_eq_true rfl) rfl ?_
    refine r_goto (tgt := 228) hX dL_acts_119 (by decide) ?_
    exact r_vret hX dL_acts_228 ⟨rfl, _, hO9, addO_wf hw _ _ _⟩ ⟨Nat.le_of_ble_eq_true rfl, Nat.le_of_ble_eq_true rfl⟩
  by_cases e2 : j = 2
  · subst e2
    refine r_tableIn (tgt := 122) (off := 77) hX dL_acts_45 (by decide) (by decide) (by decide +kernel) (by decide) ?_
    refine r_iload hX dL_acts_122 rfl ?_
    refine r_iconst (v := 3) hX dL_acts_124 (by decide) ?_
    refine r_irem hX dL_acts_125 (by decide) ?_
    refine r_if_ne (tgt := 138) hX dL_acts_126 (by decide) (fun c126 => ?_) (fun c126 => ?_)
    · refine r_iconst (v := 0) hX dL_acts_138 (by decide) ?_
      refine r_istore hX dL_acts_139 (Nat.le_of_ble_eq_true rfl) rfl ?_
      refine r_goto (tgt := 228) hX dL_acts_141 (by decide) ?_
      exact r_vret hX dL_acts_228 ⟨rfl, _, hO, hw.up (by omega)⟩ ⟨Nat.le_of_ble_eq_true rfl, Nat.le_of_ble_eq_true rfl⟩
    · refine r_aload_n hX dL_acts_129 rfl ?_
      refine r_iload hX dL_acts_130 rfl ?_
      refine r_callH hX dL_acts_132 (s_L_remove E _ _ x O hO u hw (by omega) _) ml_L_79 rfl rfl ⟨Nat.le_of_ble_eq_true rfl, Nat.le_of_ble_eq_true rfl⟩ ⟨Nat.le_of_ble_eq_true rfl, Nat.le_of_ble_eq_true rfl, rfl, Nat.le_of_ble_eq_true rfl⟩ (fun v132 g132 m132 hp => ?_)
      obtain ⟨⟨r9, hv⟩, hO9⟩ := hp
      subst v132
      refine r_goto (tgt := 139) hX dL_acts_135 (by decide) ?_
      refine r_istore hX dL_acts_139 (Nat.le_of_ble_eq_true rfl) rfl ?_
      refine r_goto (tgt := 228) hX dL_acts_141 (by decide) ?_
      exact r_vret hX dL_acts_228 ⟨rfl, _, hO9, dropO_wf hw _⟩ ⟨Nat.le_of_ble_eq_true rfl, Nat.le_of_ble_eq_true rfl⟩
  by_cases e3 : j = 3
  · subst e3
    refine r_tableIn (tgt := 144) (off := 99) hX dL_acts_45 (by decide) (by decide) (by decide +kernel) (by decide) ?_
    refine r_aload_n hX dL_acts_144 rfl ?_
    refine r_iload hX dL_acts_145 rfl ?_
    refine r_iconst (v := 2) hX dL_acts_147 (by decide) ?_
    refine r_iload hX dL_acts_148 rfl ?_
    refine r_bipush (v := 30) hX dL_acts_150 (by decide) ?_
    refine r_irem hX dL_acts_152 (by decide) ?_
    refine r_iadd hX dL_acts_153 ?_
    refine r_callH hX dL_acts_154 (s_L_setPeriod E _ _ x O hO u hw (by omega) _ _) ml_L_82 rfl rfl ⟨Nat.le_of_ble_eq_true rfl, Nat.le_of_ble_eq_true rfl⟩ ⟨Nat.le_of_ble_eq_true rfl, Nat.le_of_ble_eq_true rfl, rfl, Nat.le_of_ble_eq_true rfl⟩ (fun v154 g154 m154 hp => ?_)
    obtain ⟨⟨r9, hv⟩, hO9⟩ := hp
    subst v154
    refine r_istore hX dL_acts_157 (Nat.le_of_ble_eq_true rfl) rfl ?_
    refine r_goto (tgt := 228) hX dL_acts_159 (by decide) ?_
    exact r_vret hX dL_acts_228 ⟨rfl, _, hO9, turnO_wf hw _ _⟩ ⟨Nat.le_of_ble_eq_true rfl, Nat.le_of_ble_eq_true rfl⟩
  by_cases e4 : j = 4
  · subst e4
    refine r_tableIn (tgt := 162) (off := 117) hX dL_acts_45 (by decide) (by decide) (by decide +kernel) (by decide) ?_
    refine r_aload_n hX dL_acts_162 rfl ?_
    refine r_iload hX dL_acts_163 rfl ?_
    refine r_iconst (v := 1) hX dL_acts_165 (by decide) ?_
    refine r_iload hX dL_acts_166 rfl ?_
    refine r_bipush (v := 9) hX dL_acts_168 (by decide) ?_
    refine r_irem hX dL_acts_170 (by decide) ?_
    refine r_iadd hX dL_acts_171 ?_
    refine r_callH hX dL_acts_172 (s_L_brighten E _ _ x O hO u hw (by omega) _ _) ml_L_85 rfl rfl ⟨Nat.le_of_ble_eq_true rfl, Nat.le_of_ble_eq_true rfl⟩ ⟨Nat.le_of_ble_eq_true rfl, Nat.le_of_ble_eq_true rfl, rfl, Nat.le_of_ble_eq_true rfl⟩ (fun v172 g172 m172 hp => ?_)
    obtain ⟨⟨r9, hv⟩, hO9⟩ := hp
    subst v172
    refine r_istore hX dL_acts_175 (Nat.le_of_ble_eq_true rfl) rfl ?_
    refine r_goto (tgt := 228) hX dL_acts_177 (by decide) ?_
    exact r_vret hX dL_acts_228 ⟨rfl, _, hO9, shineO_wf hw _ _⟩ ⟨Nat.le_of_ble_eq_true rfl, Nat.le_of_ble_eq_true rfl⟩
  by_cases e5 : j = 5
  · subst e5
    refine r_tableIn (tgt := 180) (off := 135) hX dL_acts_45 (by decide) (by decide) (by decide +kernel) (by decide) ?_
    refine r_aload_n hX dL_acts_180 rfl ?_
    refine r_iload hX dL_acts_181 rfl ?_
    refine r_bipush (v := 12) hX dL_acts_183 (by decide) ?_
    refine r_irem hX dL_acts_185 (by decide) ?_
    refine r_iconst (v := 1) hX dL_acts_186 (by decide) ?_
    refine r_iload hX dL_acts_187 rfl ?_
    refine r_bipush (v := 12) hX dL_acts_189 (by decide) ?_
    refine r_idiv hX dL_acts_191 (by decide) ?_
    refine r_iadd hX dL_acts_192 ?_
    refine r_callH hX dL_acts_193 (s_L_clean E _ _ x O hO u hw (by omega) _ _) ml_L_87 rfl rfl ⟨Nat.le_of_ble_eq_true rfl, Nat.le_of_ble_eq_true rfl⟩ ⟨Nat.le_of_ble_eq_true rfl, Nat.le_of_ble_eq_true rfl, rfl, Nat.le_of_ble_eq_true rfl⟩ (fun v193 g193 m193 hp => ?_)
    obtain ⟨⟨r9, hv⟩, hO9⟩ := hp
    subst v193
    refine r_istore hX dL_acts_196 (Nat.le_of_ble_eq_true rfl) rfl ?_
    refine r_goto (tgt := 228) hX dL_acts_198 (by decide) ?_
    exact r_vret hX dL_acts_228 ⟨rfl, _, hO9, vacO_wf hw _ _⟩ ⟨Nat.le_of_ble_eq_true rfl, Nat.le_of_ble_eq_true rfl⟩
  by_cases e6 : j = 6
  · subst e6
    refine r_tableIn (tgt := 180) (off := 135) hX dL_acts_45 (by decide) (by decide) (by decide +kernel) (by decide) ?_
    refine r_aload_n hX dL_acts_180 rfl ?_
    refine r_iload hX dL_acts_181 rfl ?_
    refine r_bipush (v := 12) hX dL_acts_183 (by decide) ?_
    refine r_irem hX dL_acts_185 (by decide) ?_
    refine r_iconst (v := 1) hX dL_acts_186 (by decide) ?_
    refine r_iload hX dL_acts_187 rfl ?_
    refine r_bipush (v := 12) hX dL_acts_189 (by decide) ?_
    refine r_idiv hX dL_acts_191 (by decide) ?_
    refine r_iadd hX dL_acts_192 ?_
    refine r_callH hX dL_acts_193 (s_L_clean E _ _ x O hO u hw (by omega) _ _) ml_L_87 rfl rfl ⟨Nat.le_of_ble_eq_true rfl, Nat.le_of_ble_eq_true rfl⟩ ⟨Nat.le_of_ble_eq_true rfl, Nat.le_of_ble_eq_true rfl, rfl, Nat.le_of_ble_eq_true rfl⟩ (fun v193 g193 m193 hp => ?_)
    obtain ⟨⟨r9, hv⟩, hO9⟩ := hp
    subst v193
    refine r_istore hX dL_acts_196 (Nat.le_of_ble_eq_true rfl) rfl ?_
    refine r_goto (tgt := 228) hX dL_acts_198 (by decide) ?_
    exact r_vret hX dL_acts_228 ⟨rfl, _, hO9, vacO_wf hw _ _⟩ ⟨Nat.le_of_ble_eq_true rfl, Nat.le_of_ble_eq_true rfl⟩
  by_cases e7 : j = 7
  · subst e7
    refine r_tableIn (tgt := 201) (off := 156) hX dL_acts_45 (by decide) (by decide) (by decide +kernel) (by decide) ?_
    refine r_aload_n hX dL_acts_201 rfl ?_
    refine r_iload hX dL_acts_202 rfl ?_
    refine r_bipush (v := 10) hX dL_acts_204 (by decide) ?_
    refine r_irem hX dL_acts_206 (by decide) ?_
    refine r_callH hX dL_acts_207 (s_L_setRate E _ _ x O hO u hw (by omega) _) ml_L_89 rfl rfl ⟨Nat.le_of_ble_eq_true rfl, Nat.le_of_ble_eq_true rfl⟩ ⟨Nat.le_of_ble_eq_true rfl, Nat.le_of_ble_eq_true rfl, rfl, Nat.le_of_ble_eq_true rfl⟩ (fun v207 g207 m207 hp => ?_)
    obtain ⟨⟨r9, hv⟩, hO9⟩ := hp
    subst v207
    refine r_istore hX dL_acts_210 (Nat.le_of_ble_eq_true rfl) rfl ?_
    refine r_goto (tgt := 228) hX dL_acts_212 (by decide) ?_
    exact r_vret hX dL_acts_228 ⟨rfl, _, hO9, rateO_wf hw _⟩ ⟨Nat.le_of_ble_eq_true rfl, Nat.le_of_ble_eq_true rfl⟩
  refine r_tableOut (tgt := 215) hX dL_acts_45 (Or.inr (by rw [nI_toInt (by omega)]; omega)) (by decide) ?_
  refine r_aload_n hX dL_acts_215 rfl ?_
  refine r_iconst (v := 1) hX dL_acts_216 (by decide) ?_
  refine r_iload hX dL_acts_217 rfl ?_
  refine r_bipush (v := 6) hX dL_acts_219 (by decide) ?_
  refine r_irem hX dL_acts_221 (by decide) ?_
  refine r_iadd hX dL_acts_222 ?_
  refine r_callH hX dL_acts_223 (s_L_passDays E _ _ x O hO u hw (by omega) _) ml_L_91 rfl rfl ⟨Nat.le_of_ble_eq_true rfl, Nat.le_of_ble_eq_true rfl⟩ ⟨Nat.le_of_ble_eq_true rfl, Nat.le_of_ble_eq_true rfl, rfl, Nat.le_of_ble_eq_true rfl⟩ (fun v223 g223 m223 hp => ?_)
  obtain ⟨⟨r9, hv⟩, hO9⟩ := hp
  subst v223
  refine r_istore hX dL_acts_226 (Nat.le_of_ble_eq_true rfl) rfl ?_
  exact r_vret hX dL_acts_228 ⟨rfl, _, hO9, dayO_wf hw _⟩ ⟨Nat.le_of_ble_eq_true rfl, Nat.le_of_ble_eq_true rfl⟩
set_option maxRecDepth 20000 in
set_option maxHeartbeats 4000000 in
theorem s_L_acts (E : qE) (g : qG) (m : qM) (x : Nat) (O : kO) (hO : ObsV g m x O) (u : Nat) (hw : WfO u O) (hu : u ≤ 6000) (k0 : Nat) (hk0 : k0 ≤ 1000) : Sp E yL_acts cL_acts 7 none 12 4 30 [.ref x, .ref (eT E 2), .int (nI k0)] g m (fun v g' m' => v = none ∧ ∃ O', ObsV g' m' x O' ∧ WfO (u + 12) O') := by
  refine Sp.ofF (by decide +kernel) [some (.ref x), some (.ref (eT E 2)), some (.int (nI k0)), none, none, none, none] rfl rfl (Nat.le_of_ble_eq_true rfl) (fun X hX => ?_)
  refine r_aload_n hX dL_acts_0 rfl ?_
  refine r_callV hX dL_acts_1 (s_X7_cometCount E g m x O hO u hw (by omega)) ml_L_75 rfl rfl hO.1.1 rfl ⟨Nat.le_of_ble_eq_true rfl, Nat.le_of_ble_eq_true rfl⟩ ⟨Nat.le_of_ble_eq_true rfl, Nat.le_of_ble_eq_true rfl, rfl, Nat.le_of_ble_eq_true rfl⟩ (fun v1 g1 m1 hp => ?_)
  obtain ⟨-, hv, hO1, -⟩ := hp
  replace hv : v1 = some (.int (nI O.1.1.length)) := hv
  subst v1
  have hn6 := hw.len
  refine r_istore_n hX dL_acts_4 (Nat.le_of_ble_eq_true rfl) rfl ?_
  refine r_aload_n hX dL_acts_5 rfl ?_
  refine r_iload_n hX dL_acts_6 rfl ?_
  refine r_iconst (v := 1) hX dL_acts_7 (by decide) ?_
  refine r_iadd hX dL_acts_8 ?_
  rw [nI_1]
  refine r_bipush (v := 60) hX dL_acts_9 (by decide) ?_
  refine r_callS hX dL_acts_11 (s_L_some E _ _ (k0 + 1) (60) (by omega) (by omega)) ml_L_64 rfl rfl ⟨Nat.le_of_ble_eq_true rfl, Nat.le_of_ble_eq_true rfl⟩ ⟨Nat.le_of_ble_eq_true rfl, Nat.le_of_ble_eq_true rfl, rfl, Nat.le_of_ble_eq_true rfl⟩ (fun v11 g11 m11 hp => ?_)
  obtain ⟨⟨vv, hvv, hv⟩, hg, hm⟩ := hp
  subst v11
  subst g11
  subst m11
  refine r_istore hX dL_acts_14 (Nat.le_of_ble_eq_true rfl) rfl ?_
  refine r_iload_n hX dL_acts_16 rfl ?_
  have K : ∀ (g9 : qG) (m9 : qM) (id : Int32), ObsV g9 m9 x O → WS E X 1 6 (RQ E X (fun v g' m' => v = none ∧ ∃ O', ObsV g' m' x O' ∧ WfO (u + 12) O') 4 30) g9 m9 38 [some (.ref x), some (.ref (eT E 2)), some (.int (nI k0)), some (.int (nI O.1.1.length)), some (.int (nI vv)), some (.int id), none] [] := by
    intro g9 m9 id hO3
    refine r_aload_n hX dL_acts_38 rfl ?_
    refine r_iload_n hX dL_acts_39 rfl ?_
    refine r_bipush (v := 13) hX dL_acts_40 (by decide) ?_
    refine r_callS hX dL_acts_42 (s_L_some E g9 m9 k0 13 (by omega) (by omega)) ml_L_64 rfl rfl ⟨Nat.le_of_ble_eq_true rfl, Nat.le_of_ble_eq_true rfl⟩ ⟨Nat.le_of_ble_eq_true rfl, Nat.le_of_ble_eq_true rfl, rfl, Nat.le_of_ble_eq_true rfl⟩ (fun v42 g42 m42 hp => ?_)
    obtain ⟨⟨j3, hj3, hv⟩, hg, hm⟩ := hp
    subst v42
    subst g42
    subst m42
    exact s_acts_sw hX hO3 hw hu j3 hj3
  refine r_if_le (tgt := 35) hX dL_acts_17 (by decide) (fun c17 => ?_) (fun c17 => ?_)
  · refine r_iconst (v := 0) hX dL_acts_35 (by decide) ?_
    refine r_istore hX dL_acts_36 (Nat.le_of_ble_eq_true rfl) rfl ?_
    exact r_widen (cN' := 1) (sN' := 6) (Nat.le_of_ble_eq_true rfl) (Nat.le_of_ble_eq_true rfl) (K g1 m1 _ hO1)
  · have h0 : 0 < O.1.1.length := Nat.pos_of_ne_zero (fun q => c17 (by rw [q]; decide))
    refine r_aload_n hX dL_acts_20 rfl ?_
    refine r_aload_n hX dL_acts_21 rfl ?_
    refine r_iload_n hX dL_acts_22 rfl ?_
    refine r_iconst (v := 2) hX dL_acts_23 (by decide) ?_
    refine r_iadd hX dL_acts_24 ?_
    rw [show nI k0 + 2 = nI (k0 + 2) from nI_add k0 2]
    refine r_iload_n hX dL_acts_25 rfl ?_
    refine r_callS hX dL_acts_26 (s_L_some E _ _ (k0 + 2) (O.1.1.length) (by omega) (by omega)) ml_L_64 rfl rfl ⟨Nat.le_of_ble_eq_true rfl, Nat.le_of_ble_eq_true rfl⟩ ⟨Nat.le_of_ble_eq_true rfl, Nat.le_of_ble_eq_true rfl, rfl, Nat.le_of_ble_eq_true rfl⟩ (fun v26 g26 m26 hp => ?_)
    obtain ⟨⟨j2, hj2, hv⟩, hg, hm⟩ := hp
    subst v26
    subst g26
    subst m26
    refine r_callVX hX dL_acts_29 (s_X7_cometAt E g1 m1 x O hO1 u hw (by omega) (nI j2)) ml_L_49 mk_L_49 rfl rfl hO1.1.1 rfl ⟨Nat.le_of_ble_eq_true rfl, Nat.le_of_ble_eq_true rfl⟩ ⟨Nat.le_of_ble_eq_true rfl, Nat.le_of_ble_eq_true rfl, rfl, Nat.le_of_ble_eq_true rfl⟩ (fun v29 g29 m29 hp => ?_) (fun nm gx mx hp => ?_)
    rotate_left
    · obtain ⟨⟨k9, hk9, -⟩, -⟩ := hp
      have e9 : qAt O (nI j2) = _ := if_pos ⟨nI_pos' (by omega), nI_lt hj2 (by omega)⟩
      rw [e9] at hk9
      exact absurd hk9 (Nat.succ_ne_zero k9).symm
    obtain ⟨-, hv, hO2, -⟩ := hp
    subst v29
    have e9 : (qAt O (nI j2)).2.2 = O := by unfold qAt; split <;> rfl
    rw [e9] at hO2
    refine r_goto (tgt := 36) hX dL_acts_32 (by decide) ?_
    refine r_istore hX dL_acts_36 (Nat.le_of_ble_eq_true rfl) rfl ?_
    exact K g29 m29 _ hO2
