/-! ===== CometObservatoryModel: the parser: a command ===== -/
set_option maxRecDepth 20000 in
set_option maxHeartbeats 4000000 in
theorem s_X8_numbers (E : qE) (g : qG) (m : qM) (y : Nat) (hs : ModS g m y) (n : Nat) (tx : Nat → Int32) (s : kP2) (hp : PaM m y n tx s) (to many : Nat) (ht : to + 4 ≤ 244) (hm : many ≤ 3) : Sp E yX8_numbers cX8_numbers 4 none 3 0 0 [.ref y, .int (nI to), .int (nI many)] g m (fun v g' m' => v = none ∧ g' = g ∧ PaM m' y n tx (numsM tx n many s).2 ∧ MF (PKm y to) m m' ∧ ∀ j, qI m' (y + 5) j = if to + 1 ≤ j ∧ j < to + 1 + many then (numsM tx n many s).1.getD (j - (to + 1)) 0 else qI m (y + 5) j) := by
  refine Sp.of (by decide) [some (.ref y), some (.int (nI to)), some (.int (nI many)), none] rfl rfl (Nat.le_of_ble_eq_true rfl) (fun X hX => ?_)
  refine r_iconst (v := 1) hX dX8_numbers_0 (by decide) ?_
  refine r_istore_n hX dX8_numbers_1 (Nat.le_of_ble_eq_true rfl) rfl ?_
  refine s_X8_numbers_l (g := g) (m := m) hX hs ht hm many 1 s m (by omega) (Nat.le_refl _) hp (MF.rf _ _) (fun w m2 hm2 => ?_)
  exact r_vret hX dX8_numbers_26 ⟨rfl, rfl, hm2⟩ ⟨Nat.le_of_ble_eq_true rfl, Nat.le_of_ble_eq_true rfl⟩
theorem numsM_len (tx : Nat → Int32) (n : Nat) : ∀ k s, (numsM tx n k s).1.length = k
  | 0, _ => rfl
  | k + 1, s => by
    show (numsM tx n k _).1.length + 1 = k + 1
    rw [numsM_len tx n k]
/-- a command at h: its letter, its numbers, the place behind with the error -/
def comM (tx : Nat → Int32) (n h : Nat) : Int32 × List Int32 × kP2 :=
  if sgM tx n h = 99 then (99, numsM tx n 3 (needM tx n 116 (wordM tx n [111, 109, 101] (h + 1, none))))
  else if sgM tx n h = 100 then (if sgM tx n (h + 1) = 97 then (121, numsM tx n 1 (needM tx n 121 (needM tx n 97 (h + 1, none)))) else (100, numsM tx n 1 (wordM tx n [114, 111, 112] (h + 1, none))))
  else if sgM tx n h = 116 then (116, numsM tx n 2 (wordM tx n [117, 114, 110] (h + 1, none)))
  else if sgM tx n h = 115 then (115, numsM tx n 2 (needM tx n 101 (wordM tx n [104, 105, 110] (h + 1, none))))
  else if sgM tx n h = 118 then (118, numsM tx n 2 (needM tx n 99 (needM tx n 97 (h + 1, none))))
  else if sgM tx n h = 114 then (114, [(numM tx n 1 (wordM tx n [97, 116, 101] (h + 1, none))).1], (numM tx n 1 (wordM tx n [97, 116, 101] (h + 1, none))).2)
  else (sgM tx n h, [], (h, some h))
theorem tbl_def {x : Int32} (h1 : ¬ x = 99) (h2 : ¬ x = 100) (h3 : ¬ x = 114) (h4 : ¬ x = 115) (h5 : ¬ x = 116) (h6 : ¬ x = 118) (a1 : ¬ x.toInt < 99) (a2 : ¬ 118 < x.toInt) : (#[94, 119, 261, 261, 261, 261, 261, 261, 261, 261, 261, 261, 261, 261, 261, 235, 189, 170, 261, 214] : Array Int)[(x.toInt - 99).toNat]? = some 261 := by
  have e : ∀ k : Int32, ¬ x = k → x.toInt ≠ k.toInt := fun k hk h => hk (Int32.toInt_inj.mp h)
  have b1 := e 99 h1
  have b2 := e 100 h2
  have b3 := e 114 h3
  have b4 := e 115 h4
  have b5 := e 116 h5
  have b6 := e 118 h6
  rw [show (99 : Int32).toInt = 99 from rfl] at b1
  rw [show (100 : Int32).toInt = 100 from rfl] at b2
  rw [show (114 : Int32).toInt = 114 from rfl] at b3
  rw [show (115 : Int32).toInt = 115 from rfl] at b4
  rw [show (116 : Int32).toInt = 116 from rfl] at b5
  rw [show (118 : Int32).toInt = 118 from rfl] at b6
  obtain ⟨k, hk⟩ : ∃ k, k = (x.toInt - 99).toNat := ⟨_, rfl⟩
  rw [← hk]
  have hk2 : k = 2 ∨ k = 3 ∨ k = 4 ∨ k = 5 ∨ k = 6 ∨ k = 7 ∨ k = 8 ∨ k = 9 ∨ k = 10 ∨ k = 11 ∨ k = 12 ∨ k = 13 ∨ k = 14 ∨ k = 18 := by omega
  clear hk b1 b2 b3 b4 b5 b6 e
  rcases hk2 with rfl | rfl | rfl | rfl | rfl | rfl | rfl | rfl | rfl | rfl | rfl | rfl | rfl | rfl <;> rfl
def PCm (y to : Nat) : Nat → Nat → Prop := fun a j => (a = y ∧ (j = 9 ∨ j = 10 ∨ j = 14)) ∨ (a = y + 5 ∧ to ≤ j ∧ j < to + 4)
theorem PZ_C {y to : Nat} {m m' : qM} (h : MF (PZ y) m m') : MF (PCm y to) m m' := h.mono (fun a j hp => by unfold PZ at hp; unfold PCm; omega)
theorem PK_C {y to : Nat} {m m' : qM} (h : MF (PKm y to) m m') : MF (PCm y to) m m' := h.mono (fun a j hp => by unfold PKm at hp; unfold PCm; omega)
theorem cmd_fin {mB m' : qM} {y to many : Nat} {L : Int32} {l : List Int32} (h0 : qI mB (y + 5) to = L) (hz : ∀ i, i < 3 → qI mB (y + 5) (to + 1 + i) = 0) (hN : ∀ j, qI m' (y + 5) j = if to + 1 ≤ j ∧ j < to + 1 + many then l.getD (j - (to + 1)) 0 else qI mB (y + 5) j) (hl : l.length = many) : qI m' (y + 5) to = L ∧ ∀ i, i < 3 → qI m' (y + 5) (to + 1 + i) = l.getD i 0 := by
  refine ⟨by rw [hN, if_neg (by omega)]; exact h0, fun i hi => ?_⟩
  rw [hN]
  by_cases e : i < many
  · rw [if_pos (by omega), show to + 1 + i - (to + 1) = i by omega]
  · rw [if_neg (by omega), hz i hi, List.getD_eq_getElem?_getD, List.getElem?_eq_none (by omega)]
    rfl
def pK (y : Nat) (g : qG) (m : qM) (n : Nat) (tx : Nat → Int32) (c : Nat) (r : Int32 × List Int32 × kP2) : Option Value → qG → qM → Prop := fun v g' m' => v = none ∧ g' = g ∧ PaM m' y n tx r.2.2 ∧ qI m' y 14 = nI (c + 1) ∧ qI m' (y + 5) (4 * c) = r.1 ∧ (∀ i, i < 3 → qI m' (y + 5) (4 * c + 1 + i) = r.2.1.getD i 0) ∧ MF (PCm y (4 * c)) m m'
set_option maxRecDepth 20000 in
set_option maxHeartbeats 4000000 in
theorem s_X8_command_z {E : qE} {X : qX} {Q : State → Prop} {g : qG} {m : qM} (hX : MC E yX8_command cX8_command 5 none 4 0 0 [] X) {y : Nat} (hs : ModS g m y) {to : Nat} {v2 v3 : Int32} (ht : to + 4 ≤ 244) : ∀ (r k : Nat) (m1 : qM), k + r = 4 → ((∀ a j, qI m1 a j = if a = y + 5 ∧ to ≤ j ∧ j < to + k then 0 else qI m a j) ∧ m1.2 = m.2) → (∀ (j : Int32) (m2 : qM), ((∀ a j, qI m2 a j = if a = y + 5 ∧ to ≤ j ∧ j < to + 4 then 0 else qI m a j) ∧ m2.2 = m.2) → WS E X 0 0 Q g m2 52 [some (.ref y), some (.int (nI to)), some (.int v2), some (.int v3), some (.int j)] []) → WS E X 0 0 Q g m1 30 [some (.ref y), some (.int (nI to)), some (.int v2), some (.int v3), some (.int (nI k))] [] := by
  intro r
  induction r with
  | zero =>
    intro k m1 hk hm1 K
    have hib : k = 4 := by omega
    subst hib
    refine r_iload hX dX8_command_30 rfl ?_
    refine r_iconst (v := 4) hX dX8_command_32 (by decide) ?_
    refine r_icmp_ge (tgt := 52) hX dX8_command_33 (by decide) (fun c33 => ?_) (fun c33 => ?_)
    · exact K _ m1 hm1
    · exact absurd (Int32.le_refl _) c33
  | succ r ih =>
    intro k m1 hk hm1 K
    refine r_iload hX dX8_command_30 rfl ?_
    refine r_iconst (v := 4) hX dX8_command_32 (by decide) ?_
    refine r_icmp_ge (tgt := 52) hX dX8_command_33 (by decide) (fun c33 => ?_) (fun c33 => ?_)
    · exact absurd c33 (nI_ge (b := 4) (by omega) (by decide))
    · refine r_aload_n hX dX8_command_36 rfl ?_
      refine r_getR hX dX8_command_37 hs.1.1 fl_X8_30 (hs.to hm1.2).2.2.2.2.2.1 ?_
      refine r_iload_n hX dX8_command_40 rfl ?_
      refine r_iload hX dX8_command_41 rfl ?_
      refine r_iadd hX dX8_command_43 ?_
      rw [nI_add]
      refine r_iconst (v := 0) hX dX8_command_44 (by decide) ?_
      refine r_iastoreN hX dX8_command_45 hs.1.2.2.2.2.2.1 (show to + k < 244 by omega) (by decide) ?_
      refine r_iinc (v := nI (k + 1)) hX dX8_command_46 rfl (ii1 k) rfl ?_
      refine r_goto (tgt := 30) hX dX8_command_49 (by decide) ?_
      refine ih (k + 1) _ (by omega) ⟨fun a j => ?_, hm1.2⟩ K
      rw [qI_wI, hm1.1]
      by_cases e : a = y + 5 ∧ j = to + k
      · rw [if_pos e, if_pos (by omega)]
      · rw [if_neg e]
        by_cases e2 : a = y + 5 ∧ to ≤ j ∧ j < to + k
        · rw [if_pos e2, if_pos (by omega)]
        · rw [if_neg e2, if_neg (by omega)]
set_option maxRecDepth 20000 in
set_option maxHeartbeats 4000000 in
theorem s_X8_command_s {E : qE} {X : qX} {g : qG} {m mB : qM} (hX : MC E yX8_command cX8_command 5 none 4 0 0 [] X) {y n c h : Nat} {tx : Nat → Int32} (hs : ModS g mB y) (hc60 : c ≤ 60) (hB0 : MF (PCm y (4 * c)) m mB) (hpB0 : h < n → PaM mB y n tx (h + 1, none)) (hpD : ∀ (m2 : qM), (∀ j, j ≠ 9 → j ≠ 10 → qI m2 y j = qI mB y j) → (∀ j, qI m2 (y + 4) j = qI mB (y + 4) j) → qI m2 y 9 = nI h → qI m2 y 10 = nI h → PaM m2 y n tx (h, some h)) (hB14 : qI mB y 14 = nI (c + 1)) (hB5 : qI mB (y + 5) (4 * c) = sgM tx n h) (hLz : ∀ i, i < 3 → qI mB (y + 5) (4 * c + 1 + i) = 0) (j9 : Int32) : WS E X 0 0 (RQ E X (pK y g m n tx c (comM tx n h)) 0 0) g mB 70 [some (.ref y), some (.int (nI (4 * c))), some (.int (nI h)), some (.int (sgM tx n h)), some (.int j9)] [.int (sgM tx n h)] := by
  have hB : MF (PCm y (4 * c)) mB mB := MF.rf _ _
  by_cases hc : sgM tx n h = 99
  · have hlt := sg_lt (tx := tx) (n := n) (by decide) hc
    have hL0 : qI mB (y + 5) (4 * c) = 99 := hB5.trans hc
    have hpB : PaM mB y n tx (h + 1, none) := hpB0 hlt
    have eR : comM tx n h = (99, numsM tx n 3 (needM tx n 116 (wordM tx n [111, 109, 101] (h + 1, none)))) := by unfold comM; rw [if_pos hc]
    rw [hc]
    refine r_tableIn (off := 94) (tgt := 164) hX dX8_command_70 (by decide) (by decide) (by decide) (by decide) ?_
    refine r_aload_n hX dX8_command_164 rfl ?_
    refine r_bipush (v := 111) hX dX8_command_165 (by decide) ?_
    refine r_bipush (v := 109) hX dX8_command_167 (by decide) ?_
    refine r_bipush (v := 101) hX dX8_command_169 (by decide) ?_
    refine r_callV hX dX8_command_171 (s_X8_letters E g mB y (hs.to hB.2) n tx (h + 1, none) hpB 111 109 101 (by decide) (by decide) (by decide)) ml_X8_184 rfl rfl hs.1.1 rfl ⟨Nat.le_of_ble_eq_true rfl, Nat.le_of_ble_eq_true rfl⟩ ⟨Nat.le_of_ble_eq_true rfl, Nat.le_of_ble_eq_true rfl, rfl, Nat.le_of_ble_eq_true rfl⟩ (fun v171 g171 m171 hp => ?_)
    obtain ⟨hv, hg, hp171, hM171⟩ := hp
    subst v171
    subst g171
    have hZ171 := hM171
    replace hM171 := hB.tr (PZ_C (to := 4 * c) hM171)
    have h5_171 : ∀ j, qI m171 (y + 5) j = qI mB (y + 5) j := fun j => hZ171.1 _ _ (by unfold PZ; omega)
    refine r_aload_n hX dX8_command_174 rfl ?_
    refine r_bipush (v := 116) hX dX8_command_175 (by decide) ?_
    refine r_callV hX dX8_command_177 (s_X8_needs E g m171 y (hs.to hM171.2) n tx (wordM tx n [111, 109, 101] (h + 1, none)) hp171 116 (by decide)) ml_X8_175 rfl rfl hs.1.1 rfl ⟨Nat.le_of_ble_eq_true rfl, Nat.le_of_ble_eq_true rfl⟩ ⟨Nat.le_of_ble_eq_true rfl, Nat.le_of_ble_eq_true rfl, rfl, Nat.le_of_ble_eq_true rfl⟩ (fun v177 g177 m177 hp => ?_)
    obtain ⟨hv, hg, hp177, hM177⟩ := hp
    subst v177
    subst g177
    have hZ177 := hM177
    replace hM177 := hM171.tr (PZ_C (to := 4 * c) hM177)
    have h5_177 : ∀ j, qI m177 (y + 5) j = qI m171 (y + 5) j := fun j => hZ177.1 _ _ (by unfold PZ; omega)
    refine r_aload_n hX dX8_command_180 rfl ?_
    refine r_iload_n hX dX8_command_181 rfl ?_
    refine r_iconst (v := 3) hX dX8_command_182 (by decide) ?_
    refine r_callV hX dX8_command_183 (s_X8_numbers E g m177 y (hs.to hM177.2) n tx (needM tx n 116 (wordM tx n [111, 109, 101] (h + 1, none))) hp177 (4 * c) 3 (by omega) (by decide)) ml_X8_187 rfl rfl hs.1.1 rfl ⟨Nat.le_of_ble_eq_true rfl, Nat.le_of_ble_eq_true rfl⟩ ⟨Nat.le_of_ble_eq_true rfl, Nat.le_of_ble_eq_true rfl, rfl, Nat.le_of_ble_eq_true rfl⟩ (fun v183 g183 m183 hp => ?_)
    obtain ⟨hv, hg, hp183, hM183, hN⟩ := hp
    subst v183
    subst g183
    have hF := hM177.tr (PK_C hM183)
    refine r_goto (tgt := 341) hX dX8_command_186 (by decide) ?_
    have hfin := cmd_fin (mB := m177) (L := 99) ((h5_177 _).trans ((h5_171 _).trans hL0)) (fun i hi => ((h5_177 _).trans ((h5_171 _).trans (hLz i hi)))) hN (numsM_len _ _ _ _)
    exact r_vret hX dX8_command_341 (by rw [eR]; exact ⟨rfl, rfl, hp183, (hM183.1 _ _ (by unfold PKm; omega)).trans ((hZ177.1 _ _ (by unfold PZ; omega)).trans ((hZ171.1 _ _ (by unfold PZ; omega)).trans hB14)), hfin.1, hfin.2, hB0.tr hF⟩) ⟨Nat.le_of_ble_eq_true rfl, Nat.le_of_ble_eq_true rfl⟩
  have hn99 := hc
  clear hc
  by_cases hc : sgM tx n h = 100
  · have hlt := sg_lt (tx := tx) (n := n) (by decide) hc
    have hL0 : qI mB (y + 5) (4 * c) = 100 := hB5.trans hc
    have hpB : PaM mB y n tx (h + 1, none) := hpB0 hlt
    rw [hc]
    refine r_tableIn (off := 119) (tgt := 189) hX dX8_command_70 (by decide) (by decide) (by decide) (by decide) ?_
    refine r_aload_n hX dX8_command_189 rfl ?_
    refine r_callV hX dX8_command_190 (s_X8_sign E g mB y (hs.to hB.2) n tx (h + 1, none) hpB) ml_X8_172 rfl rfl hs.1.1 rfl ⟨Nat.le_of_ble_eq_true rfl, Nat.le_of_ble_eq_true rfl⟩ ⟨Nat.le_of_ble_eq_true rfl, Nat.le_of_ble_eq_true rfl, rfl, Nat.le_of_ble_eq_true rfl⟩ (fun v190 g190 m190 hp => ?_)
    obtain ⟨hv, hg, hm⟩ := hp
    subst v190
    subst g190
    subst m190
    refine r_bipush (v := 97) hX dX8_command_193 (by decide) ?_
    refine r_icmp_ne (tgt := 221) hX dX8_command_195 (by decide) (fun c195 => ?_) (fun c195 => ?_)
    · have eR : comM tx n h = (100, numsM tx n 1 (wordM tx n [114, 111, 112] (h + 1, none))) := by unfold comM; rw [if_neg hn99, if_pos hc, if_neg c195]
      refine r_aload_n hX dX8_command_221 rfl ?_
      refine r_bipush (v := 114) hX dX8_command_222 (by decide) ?_
      refine r_bipush (v := 111) hX dX8_command_224 (by decide) ?_
      refine r_bipush (v := 112) hX dX8_command_226 (by decide) ?_
      refine r_callV hX dX8_command_228 (s_X8_letters E g mB y (hs.to hB.2) n tx (h + 1, none) hpB 114 111 112 (by decide) (by decide) (by decide)) ml_X8_184 rfl rfl hs.1.1 rfl ⟨Nat.le_of_ble_eq_true rfl, Nat.le_of_ble_eq_true rfl⟩ ⟨Nat.le_of_ble_eq_true rfl, Nat.le_of_ble_eq_true rfl, rfl, Nat.le_of_ble_eq_true rfl⟩ (fun v228 g228 m228 hp => ?_)
      obtain ⟨hv, hg, hp228, hM228⟩ := hp
      subst v228
      subst g228
      have hZ228 := hM228
      replace hM228 := hB.tr (PZ_C (to := 4 * c) hM228)
      have h5_228 : ∀ j, qI m228 (y + 5) j = qI mB (y + 5) j := fun j => hZ228.1 _ _ (by unfold PZ; omega)
      refine r_aload_n hX dX8_command_231 rfl ?_
      refine r_iload_n hX dX8_command_232 rfl ?_
      refine r_iconst (v := 1) hX dX8_command_233 (by decide) ?_
      refine r_callV hX dX8_command_234 (s_X8_numbers E g m228 y (hs.to hM228.2) n tx (wordM tx n [114, 111, 112] (h + 1, none)) hp228 (4 * c) 1 (by omega) (by decide)) ml_X8_187 rfl rfl hs.1.1 rfl ⟨Nat.le_of_ble_eq_true rfl, Nat.le_of_ble_eq_true rfl⟩ ⟨Nat.le_of_ble_eq_true rfl, Nat.le_of_ble_eq_true rfl, rfl, Nat.le_of_ble_eq_true rfl⟩ (fun v234 g234 m234 hp => ?_)
      obtain ⟨hv, hg, hp234, hM234, hN⟩ := hp
      subst v234
      subst g234
      have hF := hM228.tr (PK_C hM234)
      refine r_goto (tgt := 341) hX dX8_command_237 (by decide) ?_
      have hfin := cmd_fin (mB := m228) (L := 100) ((h5_228 _).trans hL0) (fun i hi => ((h5_228 _).trans (hLz i hi))) hN (numsM_len _ _ _ _)
      exact r_vret hX dX8_command_341 (by rw [eR]; exact ⟨rfl, rfl, hp234, (hM234.1 _ _ (by unfold PKm; omega)).trans ((hZ228.1 _ _ (by unfold PZ; omega)).trans hB14), hfin.1, hfin.2, hB0.tr hF⟩) ⟨Nat.le_of_ble_eq_true rfl, Nat.le_of_ble_eq_true rfl⟩
    · have eR : comM tx n h = (121, numsM tx n 1 (needM tx n 121 (needM tx n 97 (h + 1, none)))) := by unfold comM; rw [if_neg hn99, if_pos hc, if_pos c195]
      refine r_aload_n hX dX8_command_198 rfl ?_
      refine r_bipush (v := 97) hX dX8_command_199 (by decide) ?_
      refine r_callV hX dX8_command_201 (s_X8_needs E g mB y (hs.to hB.2) n tx (h + 1, none) hpB 97 (by decide)) ml_X8_175 rfl rfl hs.1.1 rfl ⟨Nat.le_of_ble_eq_true rfl, Nat.le_of_ble_eq_true rfl⟩ ⟨Nat.le_of_ble_eq_true rfl, Nat.le_of_ble_eq_true rfl, rfl, Nat.le_of_ble_eq_true rfl⟩ (fun v201 g201 m201 hp => ?_)
      obtain ⟨hv, hg, hp201, hM201⟩ := hp
      subst v201
      subst g201
      have hZ201 := hM201
      replace hM201 := hB.tr (PZ_C (to := 4 * c) hM201)
      have h5_201 : ∀ j, qI m201 (y + 5) j = qI mB (y + 5) j := fun j => hZ201.1 _ _ (by unfold PZ; omega)
      refine r_aload_n hX dX8_command_204 rfl ?_
      refine r_bipush (v := 121) hX dX8_command_205 (by decide) ?_
      refine r_callV hX dX8_command_207 (s_X8_needs E g m201 y (hs.to hM201.2) n tx (needM tx n 97 (h + 1, none)) hp201 121 (by decide)) ml_X8_175 rfl rfl hs.1.1 rfl ⟨Nat.le_of_ble_eq_true rfl, Nat.le_of_ble_eq_true rfl⟩ ⟨Nat.le_of_ble_eq_true rfl, Nat.le_of_ble_eq_true rfl, rfl, Nat.le_of_ble_eq_true rfl⟩ (fun v207 g207 m207 hp => ?_)
      obtain ⟨hv, hg, hp207, hM207⟩ := hp
      subst v207
      subst g207
      have hZ207 := hM207
      replace hM207 := hM201.tr (PZ_C (to := 4 * c) hM207)
      have h5_207 : ∀ j, qI m207 (y + 5) j = qI m201 (y + 5) j := fun j => hZ207.1 _ _ (by unfold PZ; omega)
      refine r_aload_n hX dX8_command_210 rfl ?_
      refine r_getR hX dX8_command_211 hs.1.1 fl_X8_30 (hs.to hM207.2).2.2.2.2.2.1 ?_
      refine r_iload_n hX dX8_command_214 rfl ?_
      refine r_bipush (v := 121) hX dX8_command_215 (by decide) ?_
      refine r_iastoreN hX dX8_command_217 hs.1.2.2.2.2.2.1 (show 4 * c < 244 by omega) (by decide) ?_
      have hMy := hM207.wI (a := y + 5) (k := 4 * c) (v := 121) (Or.inr ⟨rfl, by omega, by omega⟩)
      refine r_goto (tgt := 231) hX dX8_command_218 (by decide) ?_
      refine r_aload_n hX dX8_command_231 rfl ?_
      refine r_iload_n hX dX8_command_232 rfl ?_
      refine r_iconst (v := 1) hX dX8_command_233 (by decide) ?_
      refine r_callV hX dX8_command_234 (s_X8_numbers E g (wI m207 (y + 5) (4 * c) 121) y (hs.to hMy.2) n tx (needM tx n 121 (needM tx n 97 (h + 1, none))) (PaM.k hp207) (4 * c) 1 (by omega) (by decide)) ml_X8_187 rfl rfl hs.1.1 rfl ⟨Nat.le_of_ble_eq_true rfl, Nat.le_of_ble_eq_true rfl⟩ ⟨Nat.le_of_ble_eq_true rfl, Nat.le_of_ble_eq_true rfl, rfl, Nat.le_of_ble_eq_true rfl⟩ (fun v234 g234 m234 hp => ?_)
      obtain ⟨hv, hg, hp234, hM234, hN⟩ := hp
      subst v234
      subst g234
      have hF := hMy.tr (PK_C hM234)
      refine r_goto (tgt := 341) hX dX8_command_237 (by decide) ?_
      have hfin := cmd_fin (mB := wI m207 (y + 5) (4 * c) 121) (L := 121) (qI_wI_s _ _ _ _) (fun i hi => (qI_wI_k _ _ _ _ (by omega)).trans ((h5_207 _).trans ((h5_201 _).trans (hLz i hi)))) hN (numsM_len _ _ _ _)
      exact r_vret hX dX8_command_341 (by rw [eR]; exact ⟨rfl, rfl, hp234, (hM234.1 _ _ (by unfold PKm; omega)).trans ((qI_wI_a _ _ _ _ (by omega)).trans ((hZ207.1 _ _ (by unfold PZ; omega)).trans ((hZ201.1 _ _ (by unfold PZ; omega)).trans hB14))), hfin.1, hfin.2, hB0.tr hF⟩) ⟨Nat.le_of_ble_eq_true rfl, Nat.le_of_ble_eq_true rfl⟩
  have hn100 := hc
  clear hc
  by_cases hc : sgM tx n h = 116
  · have hlt := sg_lt (tx := tx) (n := n) (by decide) hc
    have hL0 : qI mB (y + 5) (4 * c) = 116 := hB5.trans hc
    have hpB : PaM mB y n tx (h + 1, none) := hpB0 hlt
    have eR : comM tx n h = (116, numsM tx n 2 (wordM tx n [117, 114, 110] (h + 1, none))) := by unfold comM; rw [if_neg hn99, if_neg hn100, if_pos hc]
    rw [hc]
    refine r_tableIn (off := 170) (tgt := 240) hX dX8_command_70 (by decide) (by decide) (by decide) (by decide) ?_
    refine r_aload_n hX dX8_command_240 rfl ?_
    refine r_bipush (v := 117) hX dX8_command_241 (by decide) ?_
    refine r_bipush (v := 114) hX dX8_command_243 (by decide) ?_
    refine r_bipush (v := 110) hX dX8_command_245 (by decide) ?_
    refine r_callV hX dX8_command_247 (s_X8_letters E g mB y (hs.to hB.2) n tx (h + 1, none) hpB 117 114 110 (by decide) (by decide) (by decide)) ml_X8_184 rfl rfl hs.1.1 rfl ⟨Nat.le_of_ble_eq_true rfl, Nat.le_of_ble_eq_true rfl⟩ ⟨Nat.le_of_ble_eq_true rfl, Nat.le_of_ble_eq_true rfl, rfl, Nat.le_of_ble_eq_true rfl⟩ (fun v247 g247 m247 hp => ?_)
    obtain ⟨hv, hg, hp247, hM247⟩ := hp
    subst v247
    subst g247
    have hZ247 := hM247
    replace hM247 := hB.tr (PZ_C (to := 4 * c) hM247)
    have h5_247 : ∀ j, qI m247 (y + 5) j = qI mB (y + 5) j := fun j => hZ247.1 _ _ (by unfold PZ; omega)
    refine r_aload_n hX dX8_command_250 rfl ?_
    refine r_iload_n hX dX8_command_251 rfl ?_
    refine r_iconst (v := 2) hX dX8_command_252 (by decide) ?_
    refine r_callV hX dX8_command_253 (s_X8_numbers E g m247 y (hs.to hM247.2) n tx (wordM tx n [117, 114, 110] (h + 1, none)) hp247 (4 * c) 2 (by omega) (by decide)) ml_X8_187 rfl rfl hs.1.1 rfl ⟨Nat.le_of_ble_eq_true rfl, Nat.le_of_ble_eq_true rfl⟩ ⟨Nat.le_of_ble_eq_true rfl, Nat.le_of_ble_eq_true rfl, rfl, Nat.le_of_ble_eq_true rfl⟩ (fun v253 g253 m253 hp => ?_)
    obtain ⟨hv, hg, hp253, hM253, hN⟩ := hp
    subst v253
    subst g253
    have hF := hM247.tr (PK_C hM253)
    refine r_goto (tgt := 341) hX dX8_command_256 (by decide) ?_
    have hfin := cmd_fin (mB := m247) (L := 116) ((h5_247 _).trans hL0) (fun i hi => ((h5_247 _).trans (hLz i hi))) hN (numsM_len _ _ _ _)
    exact r_vret hX dX8_command_341 (by rw [eR]; exact ⟨rfl, rfl, hp253, (hM253.1 _ _ (by unfold PKm; omega)).trans ((hZ247.1 _ _ (by unfold PZ; omega)).trans hB14), hfin.1, hfin.2, hB0.tr hF⟩) ⟨Nat.le_of_ble_eq_true rfl, Nat.le_of_ble_eq_true rfl⟩
  have hn116 := hc
  clear hc
  by_cases hc : sgM tx n h = 115
  · have hlt := sg_lt (tx := tx) (n := n) (by decide) hc
    have hL0 : qI mB (y + 5) (4 * c) = 115 := hB5.trans hc
    have hpB : PaM mB y n tx (h + 1, none) := hpB0 hlt
    have eR : comM tx n h = (115, numsM tx n 2 (needM tx n 101 (wordM tx n [104, 105, 110] (h + 1, none)))) := by unfold comM; rw [if_neg hn99, if_neg hn100, if_neg hn116, if_pos hc]
    rw [hc]
    refine r_tableIn (off := 189) (tgt := 259) hX dX8_command_70 (by decide) (by decide) (by decide) (by decide) ?_
    refine r_aload_n hX dX8_command_259 rfl ?_
    refine r_bipush (v := 104) hX dX8_command_260 (by decide) ?_
    refine r_bipush (v := 105) hX dX8_command_262 (by decide) ?_
    refine r_bipush (v := 110) hX dX8_command_264 (by decide) ?_
    refine r_callV hX dX8_command_266 (s_X8_letters E g mB y (hs.to hB.2) n tx (h + 1, none) hpB 104 105 110 (by decide) (by decide) (by decide)) ml_X8_184 rfl rfl hs.1.1 rfl ⟨Nat.le_of_ble_eq_true rfl, Nat.le_of_ble_eq_true rfl⟩ ⟨Nat.le_of_ble_eq_true rfl, Nat.le_of_ble_eq_true rfl, rfl, Nat.le_of_ble_eq_true rfl⟩ (fun v266 g266 m266 hp => ?_)
    obtain ⟨hv, hg, hp266, hM266⟩ := hp
    subst v266
    subst g266
    have hZ266 := hM266
    replace hM266 := hB.tr (PZ_C (to := 4 * c) hM266)
    have h5_266 : ∀ j, qI m266 (y + 5) j = qI mB (y + 5) j := fun j => hZ266.1 _ _ (by unfold PZ; omega)
    refine r_aload_n hX dX8_command_269 rfl ?_
    refine r_bipush (v := 101) hX dX8_command_270 (by decide) ?_
    refine r_callV hX dX8_command_272 (s_X8_needs E g m266 y (hs.to hM266.2) n tx (wordM tx n [104, 105, 110] (h + 1, none)) hp266 101 (by decide)) ml_X8_175 rfl rfl hs.1.1 rfl ⟨Nat.le_of_ble_eq_true rfl, Nat.le_of_ble_eq_true rfl⟩ ⟨Nat.le_of_ble_eq_true rfl, Nat.le_of_ble_eq_true rfl, rfl, Nat.le_of_ble_eq_true rfl⟩ (fun v272 g272 m272 hp => ?_)
    obtain ⟨hv, hg, hp272, hM272⟩ := hp
    subst v272
    subst g272
    have hZ272 := hM272
    replace hM272 := hM266.tr (PZ_C (to := 4 * c) hM272)
    have h5_272 : ∀ j, qI m272 (y + 5) j = qI m266 (y + 5) j := fun j => hZ272.1 _ _ (by unfold PZ; omega)
    refine r_aload_n hX dX8_command_275 rfl ?_
    refine r_iload_n hX dX8_command_276 rfl ?_
    refine r_iconst (v := 2) hX dX8_command_277 (by decide) ?_
    refine r_callV hX dX8_command_278 (s_X8_numbers E g m272 y (hs.to hM272.2) n tx (needM tx n 101 (wordM tx n [104, 105, 110] (h + 1, none))) hp272 (4 * c) 2 (by omega) (by decide)) ml_X8_187 rfl rfl hs.1.1 rfl ⟨Nat.le_of_ble_eq_true rfl, Nat.le_of_ble_eq_true rfl⟩ ⟨Nat.le_of_ble_eq_true rfl, Nat.le_of_ble_eq_true rfl, rfl, Nat.le_of_ble_eq_true rfl⟩ (fun v278 g278 m278 hp => ?_)
    obtain ⟨hv, hg, hp278, hM278, hN⟩ := hp
    subst v278
    subst g278
    have hF := hM272.tr (PK_C hM278)
    refine r_goto (tgt := 341) hX dX8_command_281 (by decide) ?_
    have hfin := cmd_fin (mB := m272) (L := 115) ((h5_272 _).trans ((h5_266 _).trans hL0)) (fun i hi => ((h5_272 _).trans ((h5_266 _).trans (hLz i hi)))) hN (numsM_len _ _ _ _)
    exact r_vret hX dX8_command_341 (by rw [eR]; exact ⟨rfl, rfl, hp278, (hM278.1 _ _ (by unfold PKm; omega)).trans ((hZ272.1 _ _ (by unfold PZ; omega)).trans ((hZ266.1 _ _ (by unfold PZ; omega)).trans hB14)), hfin.1, hfin.2, hB0.tr hF⟩) ⟨Nat.le_of_ble_eq_true rfl, Nat.le_of_ble_eq_true rfl⟩
  have hn115 := hc
  clear hc
  by_cases hc : sgM tx n h = 118
  · have hlt := sg_lt (tx := tx) (n := n) (by decide) hc
    have hL0 : qI mB (y + 5) (4 * c) = 118 := hB5.trans hc
    have hpB : PaM mB y n tx (h + 1, none) := hpB0 hlt
    have eR : comM tx n h = (118, numsM tx n 2 (needM tx n 99 (needM tx n 97 (h + 1, none)))) := by unfold comM; rw [if_neg hn99, if_neg hn100, if_neg hn116, if_neg hn115, if_pos hc]
    rw [hc]
    refine r_tableIn (off := 214) (tgt := 284) hX dX8_command_70 (by decide) (by decide) (by decide) (by decide) ?_
    refine r_aload_n hX dX8_command_284 rfl ?_
    refine r_bipush (v := 97) hX dX8_command_285 (by decide) ?_
    refine r_callV hX dX8_command_287 (s_X8_needs E g mB y (hs.to hB.2) n tx (h + 1, none) hpB 97 (by decide)) ml_X8_175 rfl rfl hs.1.1 rfl ⟨Nat.le_of_ble_eq_true rfl, Nat.le_of_ble_eq_true rfl⟩ ⟨Nat.le_of_ble_eq_true rfl, Nat.le_of_ble_eq_true rfl, rfl, Nat.le_of_ble_eq_true rfl⟩ (fun v287 g287 m287 hp => ?_)
    obtain ⟨hv, hg, hp287, hM287⟩ := hp
    subst v287
    subst g287
    have hZ287 := hM287
    replace hM287 := hB.tr (PZ_C (to := 4 * c) hM287)
    have h5_287 : ∀ j, qI m287 (y + 5) j = qI mB (y + 5) j := fun j => hZ287.1 _ _ (by unfold PZ; omega)
    refine r_aload_n hX dX8_command_290 rfl ?_
    refine r_bipush (v := 99) hX dX8_command_291 (by decide) ?_
    refine r_callV hX dX8_command_293 (s_X8_needs E g m287 y (hs.to hM287.2) n tx (needM tx n 97 (h + 1, none)) hp287 99 (by decide)) ml_X8_175 rfl rfl hs.1.1 rfl ⟨Nat.le_of_ble_eq_true rfl, Nat.le_of_ble_eq_true rfl⟩ ⟨Nat.le_of_ble_eq_true rfl, Nat.le_of_ble_eq_true rfl, rfl, Nat.le_of_ble_eq_true rfl⟩ (fun v293 g293 m293 hp => ?_)
    obtain ⟨hv, hg, hp293, hM293⟩ := hp
    subst v293
    subst g293
    have hZ293 := hM293
    replace hM293 := hM287.tr (PZ_C (to := 4 * c) hM293)
    have h5_293 : ∀ j, qI m293 (y + 5) j = qI m287 (y + 5) j := fun j => hZ293.1 _ _ (by unfold PZ; omega)
    refine r_aload_n hX dX8_command_296 rfl ?_
    refine r_iload_n hX dX8_command_297 rfl ?_
    refine r_iconst (v := 2) hX dX8_command_298 (by decide) ?_
    refine r_callV hX dX8_command_299 (s_X8_numbers E g m293 y (hs.to hM293.2) n tx (needM tx n 99 (needM tx n 97 (h + 1, none))) hp293 (4 * c) 2 (by omega) (by decide)) ml_X8_187 rfl rfl hs.1.1 rfl ⟨Nat.le_of_ble_eq_true rfl, Nat.le_of_ble_eq_true rfl⟩ ⟨Nat.le_of_ble_eq_true rfl, Nat.le_of_ble_eq_true rfl, rfl, Nat.le_of_ble_eq_true rfl⟩ (fun v299 g299 m299 hp => ?_)
    obtain ⟨hv, hg, hp299, hM299, hN⟩ := hp
    subst v299
    subst g299
    have hF := hM293.tr (PK_C hM299)
    refine r_goto (tgt := 341) hX dX8_command_302 (by decide) ?_
    have hfin := cmd_fin (mB := m293) (L := 118) ((h5_293 _).trans ((h5_287 _).trans hL0)) (fun i hi => ((h5_293 _).trans ((h5_287 _).trans (hLz i hi)))) hN (numsM_len _ _ _ _)
    exact r_vret hX dX8_command_341 (by rw [eR]; exact ⟨rfl, rfl, hp299, (hM299.1 _ _ (by unfold PKm; omega)).trans ((hZ293.1 _ _ (by unfold PZ; omega)).trans ((hZ287.1 _ _ (by unfold PZ; omega)).trans hB14)), hfin.1, hfin.2, hB0.tr hF⟩) ⟨Nat.le_of_ble_eq_true rfl, Nat.le_of_ble_eq_true rfl⟩
  have hn118 := hc
  clear hc
  by_cases hc : sgM tx n h = 114
  · have hlt := sg_lt (tx := tx) (n := n) (by decide) hc
    have hL0 : qI mB (y + 5) (4 * c) = 114 := hB5.trans hc
    have hpB : PaM mB y n tx (h + 1, none) := hpB0 hlt
    have eR : comM tx n h = (114, [(numM tx n 1 (wordM tx n [97, 116, 101] (h + 1, none))).1], (numM tx n 1 (wordM tx n [97, 116, 101] (h + 1, none))).2) := by unfold comM; rw [if_neg hn99, if_neg hn100, if_neg hn116, if_neg hn115, if_neg hn118, if_pos hc]
    rw [hc]
    refine r_tableIn (off := 235) (tgt := 305) hX dX8_command_70 (by decide) (by decide) (by decide) (by decide) ?_
    refine r_aload_n hX dX8_command_305 rfl ?_
    refine r_bipush (v := 97) hX dX8_command_306 (by decide) ?_
    refine r_bipush (v := 116) hX dX8_command_308 (by decide) ?_
    refine r_bipush (v := 101) hX dX8_command_310 (by decide) ?_
    refine r_callV hX dX8_command_312 (s_X8_letters E g mB y (hs.to hB.2) n tx (h + 1, none) hpB 97 116 101 (by decide) (by decide) (by decide)) ml_X8_184 rfl rfl hs.1.1 rfl ⟨Nat.le_of_ble_eq_true rfl, Nat.le_of_ble_eq_true rfl⟩ ⟨Nat.le_of_ble_eq_true rfl, Nat.le_of_ble_eq_true rfl, rfl, Nat.le_of_ble_eq_true rfl⟩ (fun v312 g312 m312 hp => ?_)
    obtain ⟨hv, hg, hp312, hM312⟩ := hp
    subst v312
    subst g312
    have hZ312 := hM312
    replace hM312 := hB.tr (PZ_C (to := 4 * c) hM312)
    have h5_312 : ∀ j, qI m312 (y + 5) j = qI mB (y + 5) j := fun j => hZ312.1 _ _ (by unfold PZ; omega)
    refine r_aload_n hX dX8_command_315 rfl ?_
    refine r_getR hX dX8_command_316 hs.1.1 fl_X8_30 (hs.to hM312.2).2.2.2.2.2.1 ?_
    refine r_iload_n hX dX8_command_319 rfl ?_
    refine r_iconst (v := 1) hX dX8_command_320 (by decide) ?_
    refine r_iadd hX dX8_command_321 ?_
    rw [nI_1]
    refine r_aload_n hX dX8_command_322 rfl ?_
    refine r_iconst (v := 1) hX dX8_command_323 (by decide) ?_
    refine r_callV hX dX8_command_324 (s_X8_number E g m312 y (hs.to hM312.2) n tx (wordM tx n [97, 116, 101] (h + 1, none)) hp312 1 (by decide)) ml_X8_178 rfl rfl hs.1.1 rfl ⟨Nat.le_of_ble_eq_true rfl, Nat.le_of_ble_eq_true rfl⟩ ⟨Nat.le_of_ble_eq_true rfl, Nat.le_of_ble_eq_true rfl, rfl, Nat.le_of_ble_eq_true rfl⟩ (fun v324 g324 m324 hp => ?_)
    obtain ⟨hv, hg, hp324, hZ324⟩ := hp
    subst v324
    subst g324
    have h5_324 : ∀ j, qI m324 (y + 5) j = qI m312 (y + 5) j := fun j => hZ324.1 _ _ (by unfold PZ; omega)
    refine r_iastoreN hX dX8_command_327 hs.1.2.2.2.2.2.1 (show 4 * c + 1 < 244 by omega) (by decide) ?_
    refine r_goto (tgt := 341) hX dX8_command_328 (by decide) ?_
    refine r_vret hX dX8_command_341 ?_ ⟨Nat.le_of_ble_eq_true rfl, Nat.le_of_ble_eq_true rfl⟩
    rw [eR]
    refine ⟨rfl, rfl, PaM.k hp324, ?_, ?_, fun i hi => ?_, (hB0.tr (hM312.tr (PZ_C hZ324))).wI (Or.inr ⟨rfl, by omega, by omega⟩)⟩
    · exact (qI_wI_a _ _ _ _ (by omega)).trans ((hZ324.1 _ _ (by unfold PZ; omega)).trans ((hZ312.1 _ _ (by unfold PZ; omega)).trans hB14))
    · exact (qI_wI_k _ _ _ _ (by omega)).trans ((h5_324 _).trans ((h5_312 _).trans hL0))
    · rcases i with _ | i
      · exact qI_wI_s _ _ _ _
      · refine (qI_wI_k _ _ _ _ (by omega)).trans (((h5_324 _).trans ((h5_312 _).trans (hLz (i + 1) hi))).trans ?_)
        rw [List.getD_eq_getElem?_getD, List.getElem?_eq_none (by simp)]
        rfl
  have hn114 := hc
  clear hc
  have eR : comM tx n h = (sgM tx n h, [], (h, some h)) := by unfold comM; rw [if_neg hn99, if_neg hn100, if_neg hn116, if_neg hn115, if_neg hn118, if_neg hn114]
  have hend : WS E X 0 0 (RQ E X (pK y g m n tx c (comM tx n h)) 0 0) g mB 331 [some (.ref y), some (.int (nI (4 * c))), some (.int (nI h)), some (.int (sgM tx n h)), some (.int j9)] [] := by
    refine r_aload_n hX dX8_command_331 rfl ?_
    refine r_iload_n hX dX8_command_332 rfl ?_
    refine r_putI hX dX8_command_333 hs.1.1 fl_X8_166 ?_
    refine r_aload_n hX dX8_command_336 rfl ?_
    refine r_iload_n hX dX8_command_337 rfl ?_
    refine r_putI hX dX8_command_338 hs.1.1 fl_X8_169 ?_
    refine r_vret hX dX8_command_341 ?_ ⟨Nat.le_of_ble_eq_true rfl, Nat.le_of_ble_eq_true rfl⟩
    rw [eR]
    refine ⟨rfl, rfl, ?_, ?_, ?_, fun i hi => ?_, (hB0.tr ((hB.wI (a := y) (k := 9) (v := nI h) (Or.inl ⟨rfl, by omega⟩)).wI (Or.inl ⟨rfl, by omega⟩)))⟩
    · exact hpD _ (fun j h1 h2 => (qI_wI_k _ _ _ _ h2).trans (qI_wI_k _ _ _ _ h1)) (fun j => (qI_wI_a _ _ _ _ (by omega)).trans (qI_wI_a _ _ _ _ (by omega))) ((qI_wI_k _ _ _ _ (by decide)).trans (qI_wI_s _ _ _ _)) (qI_wI_s _ _ _ _)
    · exact (qI_wI_k _ _ _ _ (by decide)).trans ((qI_wI_k _ _ _ _ (by decide)).trans hB14)
    · exact (qI_wI_a _ _ _ _ (by omega)).trans ((qI_wI_a _ _ _ _ (by omega)).trans hB5)
    · exact ((qI_wI_a _ _ _ _ (by omega)).trans ((qI_wI_a _ _ _ _ (by omega)).trans (hLz i hi))).trans (by simp)
  by_cases a1 : (sgM tx n h).toInt < 99
  · exact r_tableOut (tgt := 331) hX dX8_command_70 (Or.inl a1) (by decide) hend
  by_cases a2 : 118 < (sgM tx n h).toInt
  · exact r_tableOut (tgt := 331) hX dX8_command_70 (Or.inr a2) (by decide) hend
  exact r_tableIn (off := 261) (tgt := 331) hX dX8_command_70 a1 a2 (tbl_def hn99 hn100 hn114 hn115 hn116 hn118 a1 a2) (by decide) hend
