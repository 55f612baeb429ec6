/-! ===== the law: the end of a turn, the turns, the start ===== -/
set_option maxRecDepth 20000 in
set_option maxHeartbeats 4000000 in
theorem s_law_fin {E : qE} {X : qX} {Q : State → Prop} (hX : MC E yL_law cL_law 21 (some .boolean) 1475 600390 7287040 [] X) {x u t : Nat} {O : kO} (hw : WfO u O) (hu : u ≤ 6144) {dd s v : Nat} {hh : Nat → Option qSh} {nn : qM} (hT : ∀ z, Txt E (hh, z) nn s v (rLine O.1.2.2 12)) {c0 s0 : Nat} (hc0 : c0 ≤ 500000) (hs0 : s0 ≤ 6000000) (K : ∀ (g : qG) (m : qM), ObsV g m x (setLn O (rLine O.1.2.2 12)) → ∀ cN sN : Nat, cN ≤ c0 + 150 → sN ≤ s0 + 8300 → WS E X cN sN Q g m 1113 [some (.ref (eT E 2)), some (.ref x), some (.int (nI t)), none, none, none, none, none, none, none, none, none, none, none, none, none, none, none, none, none, none] []) (g : qG) (m : qM) (G : qG) (M : qM) (hO : ObsV g m x O) (j : Jn g m (hh, g.2) nn G M) : WS E X c0 s0 Q G M 964 [some (.ref (eT E 2)), some (.ref x), some (.int (nI t)), some (.int (nI O.1.1.length)), some (.int (nI (suB O.1.1 O.1.1.length))), some (.int (nI (dusV O.1.2.2 12))), some (.int (nI (ds O.1.2.2 0 12))), some (.int (nI dd)), none, none, none, none, some (.ref s), some (.int (gN O.1.2.2 (O.1.2.1 4) (qArcP O).1 (qArcP O).2)), some (.int (nI (qArcP O).2)), some (.int (nI (qArcP O).1)), none, none, none, none, none] [] := by
  have hl6 := hw.len
  have r1 := rLine_n hw hu (k := 12) (by decide)
  have hw2 : WfO u (setLn O (rLine O.1.2.2 12)) := setLn_same hw (by omega) (fun c hc => rLine_lt 12 c hc)
  have hdu := dusV_le O.1.2.2 12
  have hsu := suB_le hw hu O.1.1.length (Nat.le_refl _)
  have hk9 := kad_eq hw hu
  have hco : O.1.2.1 3 ≤ 46100000 := by
    have := hw.1.2.2.2.2.2.1
    omega
  refine r_aload_n hX dL_law_964 rfl ?_
  refine r_callV hX dL_law_965 (Sp.join j (s_X7_bestGain _ g m x O hO u hw hu)) ml_L_194 rfl rfl (j.2.2.1 x _ hO.1.1).1 rfl ⟨Nat.le_of_ble_eq_true rfl, Nat.le_of_ble_eq_true rfl⟩ ⟨by omega, by omega, rfl, Nat.le_of_ble_eq_true rfl⟩ (fun v965 g965 m965 hp => ?_)
  obtain ⟨o965, p965, ⟨-, hv, hO965, -⟩, j965⟩ := hp
  rw [hk9] at hv hO965
  replace hv : v965 = some (.int (gN O.1.2.2 (O.1.2.1 4) (qArcP O).1 (qArcP O).2)) := hv
  subst v965
  refine r_iload hX dL_law_968 rfl ?_
  refine r_icmp_ne (tgt := 1111) hX dL_law_970 (by decide) (fun c970 => ?_) (fun c970 => ?_)
  · exact absurd rfl c970
  · refine r_aload_n hX dL_law_973 rfl ?_
    refine r_callV hX dL_law_974 (Sp.join j965 (s_X7_bestGainByArcs _ o965 p965 x O hO965 u hw hu)) ml_L_197 rfl rfl (j965.2.2.1 x _ hO965.1.1).1 rfl ⟨Nat.le_of_ble_eq_true rfl, Nat.le_of_ble_eq_true rfl⟩ ⟨by omega, by omega, rfl, Nat.le_of_ble_eq_true rfl⟩ (fun v974 g974 m974 hp => ?_)
    obtain ⟨o974, p974, ⟨-, hv, hO974, -⟩, j974⟩ := hp
    replace hv : v974 = some (.int (gN O.1.2.2 (O.1.2.1 4) (qArcP O).1 (qArcP O).2)) := hv
    subst v974
    refine r_iload hX dL_law_977 rfl ?_
    refine r_icmp_ne (tgt := 1111) hX dL_law_979 (by decide) (fun c979 => ?_) (fun c979 => ?_)
    · exact absurd rfl c979
    · refine r_aload_n hX dL_law_982 rfl ?_
      refine r_callV hX dL_law_983 (Sp.join j974 (s_X7_bestPlaces _ o974 p974 x O hO974 u hw hu)) ml_L_200 rfl rfl (j974.2.2.1 x _ hO974.1.1).1 rfl ⟨Nat.le_of_ble_eq_true rfl, Nat.le_of_ble_eq_true rfl⟩ ⟨by omega, by omega, rfl, Nat.le_of_ble_eq_true rfl⟩ (fun v983 g983 m983 hp => ?_)
      obtain ⟨o983, p983, ⟨-, hv, hO983, -⟩, j983⟩ := hp
      replace hv : v983 = some (.int (nI (qArcP O).2)) := hv
      subst v983
      refine r_iload hX dL_law_986 rfl ?_
      refine r_icmp_ne (tgt := 1111) hX dL_law_988 (by decide) (fun c988 => ?_) (fun c988 => ?_)
      · exact absurd rfl c988
      · refine r_aload_n hX dL_law_991 rfl ?_
        refine r_callV hX dL_law_992 (Sp.join j983 (s_X7_bestStart _ o983 p983 x O hO983 u hw hu)) ml_L_203 rfl rfl (j983.2.2.1 x _ hO983.1.1).1 rfl ⟨Nat.le_of_ble_eq_true rfl, Nat.le_of_ble_eq_true rfl⟩ ⟨by omega, by omega, rfl, Nat.le_of_ble_eq_true rfl⟩ (fun v992 g992 m992 hp => ?_)
        obtain ⟨o992, p992, ⟨-, hv, hO992, -⟩, j992⟩ := hp
        replace hv : v992 = some (.int (nI (qArcP O).1)) := hv
        subst v992
        refine r_iload hX dL_law_995 rfl ?_
        refine r_icmp_ne (tgt := 1111) hX dL_law_997 (by decide) (fun c997 => ?_) (fun c997 => ?_)
        · exact absurd rfl c997
        · refine r_aload_n hX dL_law_1000 rfl ?_
          refine r_callV hX dL_law_1001 (Sp.join j992 (s_X7_dustTotal _ o992 p992 x O hO992 u hw hu)) ml_L_206 rfl rfl (j992.2.2.1 x _ hO992.1.1).1 rfl ⟨Nat.le_of_ble_eq_true rfl, Nat.le_of_ble_eq_true rfl⟩ ⟨by omega, by omega, rfl, Nat.le_of_ble_eq_true rfl⟩ (fun v1001 g1001 m1001 hp => ?_)
          obtain ⟨o1001, p1001, ⟨-, hv, hO1001, -⟩, j1001⟩ := hp
          replace hv : v1001 = some (.int (nI (ds O.1.2.2 0 12))) := hv
          subst v1001
          refine r_iload hX dL_law_1004 rfl ?_
          refine r_icmp_ne (tgt := 1111) hX dL_law_1006 (by decide) (fun c1006 => ?_) (fun c1006 => ?_)
          · exact absurd rfl c1006
          · refine r_aload_n hX dL_law_1009 rfl ?_
            refine r_callV hX dL_law_1010 (Sp.join j1001 (s_X7_dustByAccounts _ o1001 p1001 x O hO1001 u hw hu)) ml_L_209 rfl rfl (j1001.2.2.1 x _ hO1001.1.1).1 rfl ⟨Nat.le_of_ble_eq_true rfl, Nat.le_of_ble_eq_true rfl⟩ ⟨by omega, by omega, rfl, Nat.le_of_ble_eq_true rfl⟩ (fun v1010 g1010 m1010 hp => ?_)
            obtain ⟨o1010, p1010, ⟨-, hv, hO1010, -⟩, j1010⟩ := hp
            replace hv : v1010 = some (.int (nI (ds O.1.2.2 0 12))) := hv
            subst v1010
            refine r_iload hX dL_law_1013 rfl ?_
            refine r_icmp_ne (tgt := 1111) hX dL_law_1015 (by decide) (fun c1015 => ?_) (fun c1015 => ?_)
            · exact absurd rfl c1015
            · refine r_aload_n hX dL_law_1018 rfl ?_
              refine r_aload_n hX dL_law_1019 rfl ?_
              refine r_callV hX dL_law_1020 (Sp.join j1010 (s_X7_writeRing _ o1010 p1010 x O hO1010 u hw hu)) ml_L_212 rfl rfl (j1010.2.2.1 x _ hO1010.1.1).1 rfl ⟨Nat.le_of_ble_eq_true rfl, Nat.le_of_ble_eq_true rfl⟩ ⟨by omega, by omega, rfl, Nat.le_of_ble_eq_true rfl⟩ (fun v1020 g1020 m1020 hp => ?_)
              obtain ⟨o1020, p1020, ⟨-, hv, hO1020, -⟩, j1020⟩ := hp
              replace hv : v1020 = some (.int (nI (rLine O.1.2.2 12).length)) := hv
              subst v1020
              refine r_aload hX dL_law_1023 rfl ?_
              refine r_callS hX dL_law_1025 (s_L_isLine E j1020 x (setLn O (rLine O.1.2.2 12)) hO1020 u hw2 hu s v (rLine O.1.2.2 12) (hT _) rfl) ml_L_155 rfl rfl ⟨Nat.le_of_ble_eq_true rfl, Nat.le_of_ble_eq_true rfl⟩ ⟨by omega, by omega, rfl, Nat.le_of_ble_eq_true rfl⟩ (fun v1025 g1025 m1025 hp => ?_)
              obtain ⟨hv, g9, m9, hO9, j9⟩ := hp
              subst v1025
              refine r_sub j9.2.2.1 j9.1 ?_
              refine r_if_eq (tgt := 1111) hX dL_law_1028 (by decide) (fun c1028 => ?_) (fun c1028 => ?_)
              · exact absurd c1028 (by decide)
              · refine r_aload_n hX dL_law_1031 rfl ?_
                refine r_callV hX dL_law_1032 (s_X7_dustyShare E g9 m9 x (setLn O (rLine O.1.2.2 12)) hO9 u hw2 hu) ml_L_215 rfl rfl hO9.1.1 rfl ⟨Nat.le_of_ble_eq_true rfl, Nat.le_of_ble_eq_true rfl⟩ ⟨by omega, by omega, rfl, Nat.le_of_ble_eq_true rfl⟩ (fun v1032 g1032 m1032 hp => ?_)
                obtain ⟨-, hv, hOA, -⟩ := hp
                replace hv : v1032 = some (.float (FP.fdiv (FP.i2f (nI (dusV O.1.2.2 12))) 1094713344)) := hv
                subst v1032
                refine r_iload hX dL_law_1035 rfl ?_
                refine r_i2f hX dL_law_1037 ?_
                refine r_ldcF (v := 1094713344) hX dL_law_1038 ⟨List.mem_of_getElem? (i := 1244) (by decide +kernel), by decide +kernel⟩ ?_
                refine r_fdiv hX dL_law_1040 (n32_share (by omega)) ?_
                refine r_fcmp hX dL_law_1041 ?_
                rw [fc32_at (by omega)]
                refine r_if_ne (tgt := 1111) hX dL_law_1042 (by decide) (fun c1042 => ?_) (fun c1042 => ?_)
                · exact absurd rfl c1042
                · refine r_iload_n hX dL_law_1045 rfl ?_
                  refine r_if_le (tgt := 1063) hX dL_law_1046 (by decide) (fun c1046 => ?_) (fun c1046 => ?_)
                  · refine r_aload_n hX dL_law_1063 rfl ?_
                    refine r_callV hX dL_law_1064 (s_X7_coins E g1032 m1032 x (setLn O (rLine O.1.2.2 12)) hOA u hw2 hu) ml_L_224 rfl rfl hOA.1.1 rfl ⟨Nat.le_of_ble_eq_true rfl, Nat.le_of_ble_eq_true rfl⟩ ⟨by omega, by omega, rfl, Nat.le_of_ble_eq_true rfl⟩ (fun v1064 g1064 m1064 hp => ?_)
                    obtain ⟨-, hv, hOC, -⟩ := hp
                    replace hv : v1064 = some (.int (nI (O.1.2.1 3))) := hv
                    subst v1064
                    refine r_if_lt (tgt := 1111) hX dL_law_1067 (by decide) (fun c1067 => ?_) (fun c1067 => ?_)
                    · exact absurd c1067 (nI_pos (by omega))
                    · refine r_aload_n hX dL_law_1070 rfl ?_
                      refine r_iload_n hX dL_law_1071 rfl ?_
                      refine r_callH hX dL_law_1072 (s_L_cometAt E g1064 m1064 x (setLn O (rLine O.1.2.2 12)) hOC u hw2 hu (nI O.1.1.length)) ml_L_227 rfl rfl ⟨Nat.le_of_ble_eq_true rfl, Nat.le_of_ble_eq_true rfl⟩ ⟨by omega, by omega, rfl, Nat.le_of_ble_eq_true rfl⟩ (fun v1072 g1072 m1072 hp => ?_)
                      obtain ⟨hv, hOD⟩ := hp
                      rw [show qAt (setLn O (rLine O.1.2.2 12)) (nI O.1.1.length) = (1, 0, (setLn O (rLine O.1.2.2 12))) from if_neg (fun q => absurd q.2 (nI_nlt (Nat.le_refl _) (by omega)))] at hv hOD
                      replace hv : v1072 = some (.int (-25000)) := hv
                      subst v1072
                      refine r_sipush (v := (-25000)) hX dL_law_1075 (by decide) ?_
                      refine r_icmp_ne (tgt := 1111) hX dL_law_1078 (by decide) (fun c1078 => ?_) (fun c1078 => ?_)
                      · exact absurd rfl c1078
                      · refine r_aload_n hX dL_law_1081 rfl ?_
                        refine r_iload_n hX dL_law_1082 rfl ?_
                        refine r_callH hX dL_law_1083 (s_L_cometAtRank E g1072 m1072 x (setLn O (rLine O.1.2.2 12)) hOD u hw2 hu (nI O.1.1.length)) ml_L_229 rfl rfl ⟨Nat.le_of_ble_eq_true rfl, Nat.le_of_ble_eq_true rfl⟩ ⟨by omega, by omega, rfl, Nat.le_of_ble_eq_true rfl⟩ (fun v1083 g1083 m1083 hp => ?_)
                        obtain ⟨hv, hOE⟩ := hp
                        rw [show qRank (setLn O (rLine O.1.2.2 12)) (nI O.1.1.length) = (1, 0, (setLn O (rLine O.1.2.2 12))) from if_neg (fun q => absurd q.2 (nI_nlt (Nat.le_refl _) (by omega)))] at hv hOE
                        replace hv : v1083 = some (.int (-25000)) := hv
                        subst v1083
                        refine r_sipush (v := (-25000)) hX dL_law_1086 (by decide) ?_
                        refine r_icmp_ne (tgt := 1111) hX dL_law_1089 (by decide) (fun c1089 => ?_) (fun c1089 => ?_)
                        · exact absurd rfl c1089
                        · refine r_aload_n hX dL_law_1092 rfl ?_
                          refine r_bipush (v := 12) hX dL_law_1093 (by decide) ?_
                          refine r_callH hX dL_law_1095 (s_L_dust E g1083 m1083 x (setLn O (rLine O.1.2.2 12)) hOE u hw2 hu 12) ml_L_231 rfl rfl ⟨Nat.le_of_ble_eq_true rfl, Nat.le_of_ble_eq_true rfl⟩ ⟨by omega, by omega, rfl, Nat.le_of_ble_eq_true rfl⟩ (fun v1095 g1095 m1095 hp => ?_)
                          obtain ⟨hv, hOF⟩ := hp
                          rw [show qDust (setLn O (rLine O.1.2.2 12)) 12 = (1, 0, (setLn O (rLine O.1.2.2 12))) from if_neg (fun q => absurd q.2 (by decide))] at hv hOF
                          replace hv : v1095 = some (.int (-25000)) := hv
                          subst v1095
                          refine r_sipush (v := (-25000)) hX dL_law_1098 (by decide) ?_
                          refine r_icmp_ne (tgt := 1111) hX dL_law_1101 (by decide) (fun c1101 => ?_) (fun c1101 => ?_)
                          · exact absurd rfl c1101
                          · refine r_aload_n hX dL_law_1104 rfl ?_
                            refine r_callV hX dL_law_1105 (s_X7_isConsistent E g1095 m1095 x (setLn O (rLine O.1.2.2 12)) hOF u hw2 hu) ml_L_233 rfl rfl hOF.1.1 rfl ⟨Nat.le_of_ble_eq_true rfl, Nat.le_of_ble_eq_true rfl⟩ ⟨by omega, by omega, rfl, Nat.le_of_ble_eq_true rfl⟩ (fun v1105 g1105 m1105 hp => ?_)
                            obtain ⟨-, hv, hOG, -⟩ := hp
                            replace hv : v1105 = some (.int 1) := hv
                            subst v1105
                            refine r_if_ne (tgt := 1113) hX dL_law_1108 (by decide) (fun c1108 => ?_) (fun c1108 => ?_)
                            · exact r_keep [true, true, true, false, false, false, false, false, false, false, false, false, false, false, false, false, false, false, false, false, false] (K g1105 m1105 hOG _ _ (by omega) (by omega))
                            · exact absurd c1108 (by decide)
                  · have h0 : 0 < O.1.1.length := Nat.pos_of_ne_zero (fun q => c1046 (by rw [q]; decide))
                    have eM : qMea (setLn O (rLine O.1.2.2 12)) = (0, .double (FP.ddiv (FP.i2d (nI (suB O.1.1 O.1.1.length))) (FP.i2d (nI O.1.1.length))), (setLn O (rLine O.1.2.2 12))) := if_neg (by show ¬ O.1.1.length = 0; omega)
                    refine r_aload_n hX dL_law_1049 rfl ?_
                    refine r_callVX hX dL_law_1050 (s_X7_meanBrightness E g1032 m1032 x (setLn O (rLine O.1.2.2 12)) hOA u hw2 hu) ml_L_220 mk_L_220 rfl rfl hOA.1.1 rfl ⟨Nat.le_of_ble_eq_true rfl, Nat.le_of_ble_eq_true rfl⟩ ⟨by omega, by omega, rfl, Nat.le_of_ble_eq_true rfl⟩ (fun v1050 g1050 m1050 hp => ?_) (fun nm gx mx hp => ?_)
                    rotate_left
                    · obtain ⟨⟨k9, hk9, -⟩, -⟩ := hp
                      rw [eM] at hk9
                      exact absurd hk9 (Nat.succ_ne_zero k9).symm
                    obtain ⟨-, hv, hOB, -⟩ := hp
                    rw [eM] at hv hOB
                    replace hv : v1050 = some (.double (FP.ddiv (FP.i2d (nI (suB O.1.1 O.1.1.length))) (FP.i2d (nI O.1.1.length)))) := hv
                    subst v1050
                    refine r_iload hX dL_law_1053 rfl ?_
                    refine r_i2d hX dL_law_1055 ?_
                    refine r_iload_n hX dL_law_1056 rfl ?_
                    refine r_i2d hX dL_law_1057 ?_
                    refine r_ddiv hX dL_law_1058 (n64_mean (by omega) h0 hl6) ?_
                    refine r_dcmp hX dL_law_1059 ?_
                    rw [fc64_at (by omega) h0 hl6]
                    refine r_if_ne (tgt := 1111) hX dL_law_1060 (by decide) (fun c1060 => ?_) (fun c1060 => ?_)
                    · exact absurd rfl c1060
                    · refine r_aload_n hX dL_law_1063 rfl ?_
                      refine r_callV hX dL_law_1064 (s_X7_coins E g1050 m1050 x (setLn O (rLine O.1.2.2 12)) hOB u hw2 hu) ml_L_224 rfl rfl hOB.1.1 rfl ⟨Nat.le_of_ble_eq_true rfl, Nat.le_of_ble_eq_true rfl⟩ ⟨by omega, by omega, rfl, Nat.le_of_ble_eq_true rfl⟩ (fun v1064 g1064 m1064 hp => ?_)
                      obtain ⟨-, hv, hOC, -⟩ := hp
                      replace hv : v1064 = some (.int (nI (O.1.2.1 3))) := hv
                      subst v1064
                      refine r_if_lt (tgt := 1111) hX dL_law_1067 (by decide) (fun c1067 => ?_) (fun c1067 => ?_)
                      · exact absurd c1067 (nI_pos (by omega))
                      · refine r_aload_n hX dL_law_1070 rfl ?_
                        refine r_iload_n hX dL_law_1071 rfl ?_
                        refine r_callH hX dL_law_1072 (s_L_cometAt E g1064 m1064 x (setLn O (rLine O.1.2.2 12)) hOC u hw2 hu (nI O.1.1.length)) ml_L_227 rfl rfl ⟨Nat.le_of_ble_eq_true rfl, Nat.le_of_ble_eq_true rfl⟩ ⟨by omega, by omega, rfl, Nat.le_of_ble_eq_true rfl⟩ (fun v1072 g1072 m1072 hp => ?_)
                        obtain ⟨hv, hOD⟩ := hp
                        rw [show qAt (setLn O (rLine O.1.2.2 12)) (nI O.1.1.length) = (1, 0, (setLn O (rLine O.1.2.2 12))) from if_neg (fun q => absurd q.2 (nI_nlt (Nat.le_refl _) (by omega)))] at hv hOD
                        replace hv : v1072 = some (.int (-25000)) := hv
                        subst v1072
                        refine r_sipush (v := (-25000)) hX dL_law_1075 (by decide) ?_
                        refine r_icmp_ne (tgt := 1111) hX dL_law_1078 (by decide) (fun c1078 => ?_) (fun c1078 => ?_)
                        · exact absurd rfl c1078
                        · refine r_aload_n hX dL_law_1081 rfl ?_
                          refine r_iload_n hX dL_law_1082 rfl ?_
                          refine r_callH hX dL_law_1083 (s_L_cometAtRank E g1072 m1072 x (setLn O (rLine O.1.2.2 12)) hOD u hw2 hu (nI O.1.1.length)) ml_L_229 rfl rfl ⟨Nat.le_of_ble_eq_true rfl, Nat.le_of_ble_eq_true rfl⟩ ⟨by omega, by omega, rfl, Nat.le_of_ble_eq_true rfl⟩ (fun v1083 g1083 m1083 hp => ?_)
                          obtain ⟨hv, hOE⟩ := hp
                          rw [show qRank (setLn O (rLine O.1.2.2 12)) (nI O.1.1.length) = (1, 0, (setLn O (rLine O.1.2.2 12))) from if_neg (fun q => absurd q.2 (nI_nlt (Nat.le_refl _) (by omega)))] at hv hOE
                          replace hv : v1083 = some (.int (-25000)) := hv
                          subst v1083
                          refine r_sipush (v := (-25000)) hX dL_law_1086 (by decide) ?_
                          refine r_icmp_ne (tgt := 1111) hX dL_law_1089 (by decide) (fun c1089 => ?_) (fun c1089 => ?_)
                          · exact absurd rfl c1089
                          · refine r_aload_n hX dL_law_1092 rfl ?_
                            refine r_bipush (v := 12) hX dL_law_1093 (by decide) ?_
                            refine r_callH hX dL_law_1095 (s_L_dust E g1083 m1083 x (setLn O (rLine O.1.2.2 12)) hOE u hw2 hu 12) ml_L_231 rfl rfl ⟨Nat.le_of_ble_eq_true rfl, Nat.le_of_ble_eq_true rfl⟩ ⟨by omega, by omega, rfl, Nat.le_of_ble_eq_true rfl⟩ (fun v1095 g1095 m1095 hp => ?_)
                            obtain ⟨hv, hOF⟩ := hp
                            rw [show qDust (setLn O (rLine O.1.2.2 12)) 12 = (1, 0, (setLn O (rLine O.1.2.2 12))) from if_neg (fun q => absurd q.2 (by decide))] at hv hOF
                            replace hv : v1095 = some (.int (-25000)) := hv
                            subst v1095
                            refine r_sipush (v := (-25000)) hX dL_law_1098 (by decide) ?_
                            refine r_icmp_ne (tgt := 1111) hX dL_law_1101 (by decide) (fun c1101 => ?_) (fun c1101 => ?_)
                            · exact absurd rfl c1101
                            · refine r_aload_n hX dL_law_1104 rfl ?_
                              refine r_callV hX dL_law_1105 (s_X7_isConsistent E g1095 m1095 x (setLn O (rLine O.1.2.2 12)) hOF u hw2 hu) ml_L_233 rfl rfl hOF.1.1 rfl ⟨Nat.le_of_ble_eq_true rfl, Nat.le_of_ble_eq_true rfl⟩ ⟨by omega, by omega, rfl, Nat.le_of_ble_eq_true rfl⟩ (fun v1105 g1105 m1105 hp => ?_)
                              obtain ⟨-, hv, hOG, -⟩ := hp
                              replace hv : v1105 = some (.int 1) := hv
                              subst v1105
                              refine r_if_ne (tgt := 1113) hX dL_law_1108 (by decide) (fun c1108 => ?_) (fun c1108 => ?_)
                              · exact r_keep [true, true, true, false, false, false, false, false, false, false, false, false, false, false, false, false, false, false, false, false, false] (K g1105 m1105 hOG _ _ (by omega) (by omega))
                              · exact absurd c1108 (by decide)
set_option maxRecDepth 20000 in
set_option maxHeartbeats 4000000 in
theorem s_law_turn {E : qE} {X : qX} {Q : State → Prop} (hX : MC E yL_law cL_law 21 (some .boolean) 1475 600390 7287040 [] X) {x : Nat} (hE : ∀ (cN sN : Nat) (g : qG) (m : qM) (l : List (Option Value)), cN ≤ 600390 → sN ≤ 7287040 → l.length = 21 → WS E X cN sN Q g m 1131 l [.int 1]) : ∀ (n t : Nat), t + n = 3 → ∀ (u : Nat) (O : kO) (g : qG) (m : qM), ObsV g m x O → WfO u O → u ≤ 216 + 12 * t → ∀ cN sN : Nat, cN ≤ 1000 + 5000 * t → sN ≤ 10000 + 100000 * t → WS E X cN sN Q g m 15 [some (.ref (eT E 2)), some (.ref x), some (.int (nI t)), none, none, none, none, none, none, none, none, none, none, none, none, none, none, none, none, none, none] [] := by
  intro n
  induction n with
  | zero =>
    intro t ht u O g m hO hw hu cN sN hc hs
    have e0 : t = 3 := by omega
    subst e0
    refine r_iload_n hX dL_law_15 rfl ?_
    refine r_iconst (v := 3) hX dL_law_16 (by decide) ?_
    refine r_icmp_ge (tgt := 1130) hX dL_law_17 (by decide) (fun c17 => ?_) (fun c17 => ?_)
    · refine r_iconst (v := 1) hX dL_law_1130 (by decide) ?_
      exact hE _ _ _ _ _ (by omega) (by omega) rfl
    · exact absurd (Int32.le_refl 3) c17
  | succ n ih =>
    intro t ht u O g m hO hw hu cN sN hc hs
    have hu2 : u ≤ 6000 := by omega
    have hl6 := hw.len
    refine r_iload_n hX dL_law_15 rfl ?_
    refine r_iconst (v := 3) hX dL_law_16 (by decide) ?_
    refine r_icmp_ge (tgt := 1130) hX dL_law_17 (by decide) (fun c17 => ?_) (fun c17 => ?_)
    · exact absurd c17 (nI_ge (b := 3) (by omega) (by decide))
    · refine r_aload_n hX dL_law_20 rfl ?_
      refine r_callV hX dL_law_21 (s_X7_cometCount E g m x O hO u hw (by omega)) ml_L_75 rfl rfl hO.1.1 rfl ⟨Nat.le_of_ble_eq_true rfl, Nat.le_of_ble_eq_true rfl⟩ ⟨by omega, by omega, rfl, Nat.le_of_ble_eq_true rfl⟩ (fun v21 g21 m21 hp => ?_)
      obtain ⟨-, hv, hO21, -⟩ := hp
      replace hv : v21 = some (.int (nI O.1.1.length)) := hv
      subst v21
      refine r_istore_n hX dL_law_24 (Nat.le_of_ble_eq_true rfl) rfl ?_
      refine r_iconst (v := 0) hX dL_law_25 (by decide) ?_
      refine r_istore hX dL_law_26 (Nat.le_of_ble_eq_true rfl) rfl ?_
      refine r_iconst (v := 0) hX dL_law_28 (by decide) ?_
      refine r_istore hX dL_law_29 (Nat.le_of_ble_eq_true rfl) rfl ?_
      refine r_iconst (v := 0) hX dL_law_31 (by decide) ?_
      refine r_istore hX dL_law_32 (Nat.le_of_ble_eq_true rfl) rfl ?_
      refine r_iconst (v := 1) hX dL_law_34 (by decide) ?_
      refine r_aload_n hX dL_law_35 rfl ?_
      refine r_bipush (v := 100) hX dL_law_36 (by decide) ?_
      refine r_iload_n hX dL_law_38 rfl ?_
      refine r_iadd hX dL_law_39 ?_
      rw [show (100 : Int32) + nI t = nI (100 + t) from nI_add 100 t]
      refine r_bipush (v := 60) hX dL_law_40 (by decide) ?_
      refine r_callS hX dL_law_42 (s_L_some E g21 m21 (100 + t) 60 (by omega) (by omega)) ml_L_64 rfl rfl ⟨Nat.le_of_ble_eq_true rfl, Nat.le_of_ble_eq_true rfl⟩ ⟨by omega, by omega, rfl, Nat.le_of_ble_eq_true rfl⟩ (fun v42 g42 m42 hp => ?_)
      obtain ⟨⟨d0, hd0, hv⟩, hg, hm⟩ := hp
      subst v42
      subst g42
      subst m42
      refine r_iadd hX dL_law_45 ?_
      rw [show (1 : Int32) + nI d0 = nI (1 + d0) from nI_add 1 d0]
      refine r_istore hX dL_law_46 (Nat.le_of_ble_eq_true rfl) rfl ?_
      refine r_iconst (v := 0) hX dL_law_48 (by decide) ?_
      refine r_istore hX dL_law_49 (Nat.le_of_ble_eq_true rfl) rfl ?_
      refine r_iconst (v := 0) hX dL_law_51 (by decide) ?_
      refine r_istore hX dL_law_52 (Nat.le_of_ble_eq_true rfl) rfl ?_
      refine r_iconst (v := 0) hX dL_law_54 (by decide) ?_
      refine r_istore hX dL_law_55 (Nat.le_of_ble_eq_true rfl) rfl ?_
      refine s_law_com (V := O.1) (dd := 1 + d0) (c0 := cN) (s0 := sN) hX (by omega) (by omega) (by omega) (by omega) (fun O5 g2 m2 hV hw5 hO2 cN2 sN2 hc2 hs2 => ?_) O.1.1.length 0 (Nat.zero_add _) O g21 m21 rfl hw hO21 cN sN (by omega) (by omega)
      rw [← hV]
      refine s_law_worth (dd := 1 + d0) (c0 := cN2) (s0 := sN2) hX hw5 (by omega) (by omega) (by omega) (by omega) (fun g3 m3 hO3 cN3 sN3 hc3 hs3 => ?_) g2 m2 hO2
      refine r_ldcS (i := 3) (tx := "") hX dL_law_745 rfl ?_
      refine r_astore hX dL_law_747 (Nat.le_of_ble_eq_true rfl) rfl ?_
      refine r_sipush (v := (-1000)) hX dL_law_749 (by decide) ?_
      refine r_istore hX dL_law_752 (Nat.le_of_ble_eq_true rfl) rfl ?_
      refine r_iconst (v := 0) hX dL_law_754 (by decide) ?_
      refine r_istore hX dL_law_755 (Nat.le_of_ble_eq_true rfl) rfl ?_
      refine r_iconst (v := 0) hX dL_law_757 (by decide) ?_
      refine r_istore hX dL_law_758 (Nat.le_of_ble_eq_true rfl) rfl ?_
      refine r_iconst (v := 0) hX dL_law_760 (by decide) ?_
      refine r_istore hX dL_law_761 (Nat.le_of_ble_eq_true rfl) rfl ?_
      have j0 : Jn g3 m3 ((fun _ => none, g3.2) : qG) m3 g3 m3 := Jn.one g3 m3
      refine r_widen (cN' := cN + 1300 + 10 * 0) (sN' := sN + 43000 + 1250 * 0) (by omega) (by omega) ?_
      refine s_ring_l (c0 := cN + 1300) (s0 := sN + 43000) hX hw5 (by omega) (by omega) (by omega) (fun hh nn s v g4 m4 G4 M4 hT hO4 j4 => ?_) 12 0 rfl (fun _ => none) m3 (eS E 3) (eV E 3) g3 m3 g3 m3 (fun z => ⟨Or.inl ⟨3, [], rfl, rfl, rfl, rfl⟩, by show ∀ c ∈ ([] : List Nat), c < 128; decide, by show (0 : Nat) ≤ 110; decide⟩) hO3 j0
      refine r_iconst (v := 1) hX dL_law_847 (by decide) ?_
      refine r_istore hX dL_law_848 (Nat.le_of_ble_eq_true rfl) rfl ?_
      refine r_widen (cN' := cN + 1500 + 156 * (1 - 1)) (sN' := sN + 60000 + 936 * (1 - 1)) (by omega) (by omega) ?_
      refine s_arc_p (c0 := cN + 1500) (s0 := sN + 60000) hX hw5 (by omega) (by omega) (by omega) (fun g7 m7 G7 M7 hO7 j7 => ?_) 12 1 rfl (Nat.le_refl 1) g4 m4 G4 M4 hO4 j4
      refine s_law_fin (c0 := cN + 1500 + 1872) (s0 := sN + 60000 + 11232) hX hw5 (by omega) hT (by omega) (by omega) (fun g5 m5 hO5 cN5 sN5 hc5 hs5 => ?_) g7 m7 G7 M7 hO7 j7
      refine r_aload_n hX dL_law_1113 rfl ?_
      refine r_aload_n hX dL_law_1114 rfl ?_
      refine r_bipush (v := 110) hX dL_law_1115 (by decide) ?_
      refine r_iconst (v := 3) hX dL_law_1117 (by decide) ?_
      refine r_iload_n hX dL_law_1118 rfl ?_
      refine r_imul hX dL_law_1119 ?_
      rw [show (3 : Int32) * nI t = nI (3 * t) from pk_mul 3 t]
      refine r_iadd hX dL_law_1120 ?_
      rw [show (110 : Int32) + nI (3 * t) = nI (110 + 3 * t) from nI_add 110 _]
      refine r_callS hX dL_law_1121 (s_L_acts E g5 m5 x (setLn O5 (rLine O5.1.2.2 12)) hO5 u (setLn_same hw5 (by have := rLine_n hw5 (by omega) (k := 12) (by decide); omega) (fun c hc => rLine_lt 12 c hc)) (by omega) (110 + 3 * t) (by omega)) ml_L_71 rfl rfl ⟨Nat.le_of_ble_eq_true rfl, Nat.le_of_ble_eq_true rfl⟩ ⟨by omega, by omega, rfl, Nat.le_of_ble_eq_true rfl⟩ (fun v1121 g1121 m1121 hp => ?_)
      obtain ⟨hv, O6, hO6, hw6⟩ := hp
      subst v1121
      refine r_iinc (v := nI (t + 1)) hX dL_law_1124 rfl (nI_1 t) rfl ?_
      refine r_goto (tgt := 15) hX dL_law_1127 (by decide) ?_
      exact ih (t + 1) (by omega) (u + 12) O6 g1121 m1121 hO6 hw6 (by omega) _ _ (by omega) (by omega)
set_option maxRecDepth 20000 in
set_option maxHeartbeats 4000000 in
theorem s_law_start {E : qE} {X : qX} {Q : State → Prop} {g : qG} {m : qM} (hX : MC E yL_law cL_law 21 (some .boolean) 1475 600390 7287040 [] X) (hE : ∀ (cN sN : Nat) (g : qG) (m : qM) (l : List (Option Value)), cN ≤ 600390 → sN ≤ 7287040 → l.length = 21 → WS E X cN sN Q g m 1131 l [.int 1]) : WS E X 0 0 Q g m 0 [some (.ref (eT E 2)), none, none, none, none, none, none, none, none, none, none, none, none, none, none, none, none, none, none, none, none] [] := by
  refine r_new hX dL_law_0 nl_L_14 (Nat.le_of_ble_eq_true rfl) (Nat.le_of_ble_eq_true rfl) ?_
  refine r_dup hX dL_law_3 rfl ?_
  refine r_callI hX dL_law_4 (s_X7_init E (gNew g (.inl 10)) (wZ m g.2) g.2 (gNew_at g (.inl 10)) rfl) ml_L_105 rfl rfl ⟨Nat.le_of_ble_eq_true rfl, Nat.le_of_ble_eq_true rfl⟩ ⟨Nat.le_of_ble_eq_true rfl, Nat.le_of_ble_eq_true rfl, rfl, Nat.le_of_ble_eq_true rfl⟩ (fun v4 g4 m4 hp => ?_)
  obtain ⟨hv, hO4, -, -, -⟩ := hp
  subst v4
  refine r_astore_n hX dL_law_7 (Nat.le_of_ble_eq_true rfl) rfl ?_
  refine r_aload_n hX dL_law_8 rfl ?_
  refine r_aload_n hX dL_law_9 rfl ?_
  refine r_callS hX dL_law_10 (s_L_build E g4 m4 g.2 O0 hO4 WfO0) ml_L_106 rfl rfl ⟨Nat.le_of_ble_eq_true rfl, Nat.le_of_ble_eq_true rfl⟩ ⟨Nat.le_of_ble_eq_true rfl, Nat.le_of_ble_eq_true rfl, rfl, Nat.le_of_ble_eq_true rfl⟩ (fun v10 g10 m10 hp => ?_)
  obtain ⟨hv, O1, hO1, hw1⟩ := hp
  subst v10
  refine r_iconst (v := 0) hX dL_law_13 (by decide) ?_
  refine r_istore_n hX dL_law_14 (Nat.le_of_ble_eq_true rfl) rfl ?_
  exact s_law_turn hX hE 3 0 rfl 216 O1 g10 m10 hO1 hw1 (by omega) _ _ (Nat.le_of_ble_eq_true rfl) (Nat.le_of_ble_eq_true rfl)
