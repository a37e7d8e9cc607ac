theorem lz_far {m : zM} {f : Int} (hf : f ≤ -7 ∨ 20001 ≤ f) (h4 : m 2 0 0 4 = 0) (h5 : m 2 0 0 5 = 0) :
    zk_ingredient f m = (-2, m) ∧ zk_tin f 100 1 m = (-1, m) ∧ zk_buyable f 1 m = (-1, m) ∧ zk_substitute f 0 50 m = (-1, m) ∧ zk_stock f 1 m = (-1, m) ∧ zk_amount f 0 0 m = (-1, m) ∧ zk_menu f 1 m = (-1, m) ∧ zk_hands f m = (-2, m) ∧ zk_pass f m = (-2, m) ∧ (zk_about f 0 m).1 = -1 ∧ zk_ofTin f 0 0 m = -1 ∧ zk_needs f 0 m = -1 ∧ zk_step f 0 0 m = -1 ∧ (zk_ofRecipe f 0 m).1 = -1 ∧ zk_count f m = -2 ∧ zk_bestPortions f 1 1 m = -1 ∧ zk_fewestHands f m = -2 ∧ zk_ifBuyable f 1 m = -1 ∧ zk_save f m = (-2, m) ∧ zk_restore f m = (-2, m) := by
  refine ⟨if_pos (by omega), if_pos (by omega), if_pos (by omega), if_pos (by omega), if_pos (by omega), if_pos (by omega), if_pos (by omega), if_pos (by omega), if_pos (by omega), if_pos (by omega), if_pos (by omega), if_pos (by omega), if_pos (by omega), if_pos (by omega), ?_, if_pos (by omega), if_pos (by omega), if_pos (by omega), if_pos (by omega), if_pos (by omega)⟩
  unfold zk_count
  repeat rw [if_neg (by omega)]
theorem lz_blank {m : zM} (h6 : m 6 0 0 0 = 0) : zk_recipe m = (-3, zRdm m) := by
  have e0 : zN m 0 = 0 := by
    unfold zN
    rw [if_neg (by omega)]
  have e1 : zdg (zN m) 0 = -6 := by
    unfold zdg
    rw [if_neg (by omega)]
  have e2 : zNum (zN m) 20 0 = (0, 0, 0) := by
    unfold zNum
    rw [if_neg (by omega)]
  have e3 : zFlt m = 0 := by
    unfold zFlt zRead
    rw [e2]
    rfl
  unfold zk_recipe
  rw [if_pos (by omega)]
set_option maxRecDepth 20000 in
theorem ct_L_refused (l : Launch) (g : zG) {m0 m : zM} {B v : Int} (hI : zInv B m0) (hB : B ≤ 11900000) (hQ : zQ m0 m) (h4 : m0 2 0 0 4 = 0) (h5 : m0 2 0 0 5 = 0) (h6 : m0 6 0 0 0 = 0) (h14 : m0 1 0 0 0 = 0) : zMet l g Y_L_refused [zr 0 0 0, zi v] m (fun x m' => x = some (zi 1) ∧ ∃ m1, zInv B m1 ∧ zQ m1 m' ∧ m1 2 0 0 4 = 0 ∧ m1 2 0 0 5 = 0 ∧ m1 6 0 0 0 = 0 ∧ m1 2 0 0 0 = m0 2 0 0 0) := by
  refine zMet_introF (by decide +kernel) (Nat.le_of_ble_eq_true rfl) (ls0 := [some (zr 0 0 0), some (zi v), none]) rfl fun X hG hE => ?_
  have hG : zGood X l g RL cL_refused 7 3 := hG
  have hE : zEnd X (some .boolean) _ := hE
  have h24 : ∀ f : Int, (f ≤ -7 ∨ 20001 ≤ f) → zZ X 24 [some (zr 0 0 0), some (zi v), none] [zi f] m := by
    intro f hfar
    have hf := lz_far hfar h4 h5
    refine z_istore_n (i := 2) hG dL_refused_24 rfl (by decide) (ls2 := [_, _, _]) rfl ?_
    refine z_aload_n (i := 0) hG dL_refused_25 rfl rfl ?_
    refine z_iload_n (i := 2) hG dL_refused_26 rfl rfl ?_
    refine z_callV hG dL_refused_27 LV_L_26 (cm_ingredient l g hI hB hQ) (by decide) rfl rfl rfl (Nat.le_of_ble_eq_true rfl) ?_
    intro v9 mm h9
    rw [hf.1] at h9
    rw [h9.1]
    replace hQ := h9.2
    clear h9 v9
    refine z_bipush hG dL_refused_30 rfl ?_
    refine z_icmp_ne hG dL_refused_32 (tgt := 273) rfl (fun zcq32 => ?_) (fun zcq32 => ?_)
    · exact absurd rfl zcq32
    · refine z_aload_n (i := 0) hG dL_refused_35 rfl rfl ?_
      refine z_iload_n (i := 2) hG dL_refused_36 rfl rfl ?_
      refine z_bipush hG dL_refused_37 rfl ?_
      refine z_iconst hG dL_refused_39 rfl ?_
      refine z_callV hG dL_refused_40 LV_L_30 (cm_tin l g hI hB hQ) (by decide) rfl rfl rfl (Nat.le_of_ble_eq_true rfl) ?_
      intro v9 mm h9
      rw [hf.2.1] at h9
      rw [h9.1]
      replace hQ := h9.2
      clear h9 v9
      refine z_iconst hG dL_refused_43 rfl ?_
      refine z_icmp_ne hG dL_refused_44 (tgt := 273) rfl (fun zcq44 => ?_) (fun zcq44 => ?_)
      · exact absurd rfl zcq44
      · refine z_aload_n (i := 0) hG dL_refused_47 rfl rfl ?_
        refine z_iload_n (i := 2) hG dL_refused_48 rfl rfl ?_
        refine z_iconst hG dL_refused_49 rfl ?_
        refine z_callV hG dL_refused_50 LV_L_37 (cm_buyable l g hI hB hQ) (by decide) rfl rfl rfl (Nat.le_of_ble_eq_true rfl) ?_
        intro v9 mm h9
        rw [hf.2.2.1] at h9
        rw [h9.1]
        replace hQ := h9.2
        clear h9 v9
        refine z_iconst hG dL_refused_53 rfl ?_
        refine z_icmp_ne hG dL_refused_54 (tgt := 273) rfl (fun zcq54 => ?_) (fun zcq54 => ?_)
        · exact absurd rfl zcq54
        · refine z_aload_n (i := 0) hG dL_refused_57 rfl rfl ?_
          refine z_iload_n (i := 2) hG dL_refused_58 rfl rfl ?_
          refine z_iconst hG dL_refused_59 rfl ?_
          refine z_bipush hG dL_refused_60 rfl ?_
          refine z_callV hG dL_refused_62 LV_L_34 (cm_substitute l g hI hB hQ) (by decide) rfl rfl rfl (Nat.le_of_ble_eq_true rfl) ?_
          intro v9 mm h9
          rw [hf.2.2.2.1] at h9
          rw [h9.1]
          replace hQ := h9.2
          clear h9 v9
          refine z_iconst hG dL_refused_65 rfl ?_
          refine z_icmp_ne hG dL_refused_66 (tgt := 273) rfl (fun zcq66 => ?_) (fun zcq66 => ?_)
          · exact absurd rfl zcq66
          · refine z_aload_n (i := 0) hG dL_refused_69 rfl rfl ?_
            refine z_iload_n (i := 2) hG dL_refused_70 rfl rfl ?_
            refine z_iconst hG dL_refused_71 rfl ?_
            refine z_callV hG dL_refused_72 LV_L_99 (cm_stock l g hI hB hQ) (by decide) rfl rfl rfl (Nat.le_of_ble_eq_true rfl) ?_
            intro v9 mm h9
            rw [hf.2.2.2.2.1] at h9
            rw [h9.1]
            replace hQ := h9.2
            clear h9 v9
            refine z_iconst hG dL_refused_75 rfl ?_
            refine z_icmp_ne hG dL_refused_76 (tgt := 273) rfl (fun zcq76 => ?_) (fun zcq76 => ?_)
            · exact absurd rfl zcq76
            · refine z_aload_n (i := 0) hG dL_refused_79 rfl rfl ?_
              refine z_callV hG dL_refused_80 LV_L_87 (cm_recipe l g hI hB hQ) (by decide) rfl rfl rfl (Nat.le_of_ble_eq_true rfl) ?_
              intro v9 mm h9
              replace hI := zkj_recipe hI
              rw [lz_blank h6] at h9 hI
              rw [h9.1]
              replace hQ := h9.2
              clear h9 v9
              replace hQ : zQ (zRdm m0) mm := hQ
              replace hI : zInv B (zRdm m0) := hI
              replace h4 : zRdm m0 2 0 0 4 = 0 := (zRdm_o (by decide) (Or.inr (by decide))).trans h4
              replace h5 : zRdm m0 2 0 0 5 = 0 := (zRdm_o (by decide) (Or.inr (by decide))).trans h5
              replace h6 : zRdm m0 6 0 0 0 = 0 := (zRdm_o (by decide) (Or.inr (by decide))).trans h6
              replace h14 : zRdm m0 1 0 0 0 = 0 := (zRdm_o (by decide) (Or.inr (by decide))).trans h14
              have hd : zRdm m0 2 0 0 0 = m0 2 0 0 0 := zRdm_o (by decide) (Or.inr (by decide))
              generalize zRdm m0 = m1 at *
              replace hf := lz_far hfar h4 h5
              have hno : ¬ (zmss (zPl0 m1 6) 8 = 0 ∧ zhp m1) := fun q => by
                obtain ⟨k, k0, k1, k2⟩ := zhp_iff.mpr q.2
                have := ((zInv0 hI).2.2.2.2.2.2.2.1 k k0 k1).2.1 (by omega)
                omega
              refine z_bipush hG dL_refused_83 rfl ?_
              refine z_icmp_ne hG dL_refused_85 (tgt := 273) rfl (fun zcq85 => ?_) (fun zcq85 => ?_)
              · exact absurd rfl zcq85
              · refine z_aload_n (i := 0) hG dL_refused_88 rfl rfl ?_
                refine z_iload_n (i := 2) hG dL_refused_89 rfl rfl ?_
                refine z_iconst hG dL_refused_90 rfl ?_
                refine z_iconst hG dL_refused_91 rfl ?_
                refine z_callV hG dL_refused_92 LV_L_109 (cm_amount l g hI hB hQ) (by decide) rfl rfl rfl (Nat.le_of_ble_eq_true rfl) ?_
                intro v9 mm h9
                rw [hf.2.2.2.2.2.1] at h9
                rw [h9.1]
                replace hQ := h9.2
                clear h9 v9
                refine z_iconst hG dL_refused_95 rfl ?_
                refine z_icmp_ne hG dL_refused_96 (tgt := 273) rfl (fun zcq96 => ?_) (fun zcq96 => ?_)
                · exact absurd rfl zcq96
                · refine z_aload_n (i := 0) hG dL_refused_99 rfl rfl ?_
                  refine z_iload_n (i := 2) hG dL_refused_100 rfl rfl ?_
                  refine z_iconst hG dL_refused_101 rfl ?_
                  refine z_callV hG dL_refused_102 LV_L_115 (cm_menu l g hI hB hQ) (by decide) rfl rfl rfl (Nat.le_of_ble_eq_true rfl) ?_
                  intro v9 mm h9
                  rw [hf.2.2.2.2.2.2.1] at h9
                  rw [h9.1]
                  replace hQ := h9.2
                  clear h9 v9
                  refine z_iconst hG dL_refused_105 rfl ?_
                  refine z_icmp_ne hG dL_refused_106 (tgt := 273) rfl (fun zcq106 => ?_) (fun zcq106 => ?_)
                  · exact absurd rfl zcq106
                  · refine z_aload_n (i := 0) hG dL_refused_109 rfl rfl ?_
                    refine z_iload_n (i := 2) hG dL_refused_110 rfl rfl ?_
                    refine z_callV hG dL_refused_111 LV_L_132 (cm_hands l g hI hB hQ) (by decide) rfl rfl rfl (Nat.le_of_ble_eq_true rfl) ?_
                    intro v9 mm h9
                    rw [hf.2.2.2.2.2.2.2.1] at h9
                    rw [h9.1]
                    replace hQ := h9.2
                    clear h9 v9
                    refine z_bipush hG dL_refused_114 rfl ?_
                    refine z_icmp_ne hG dL_refused_116 (tgt := 273) rfl (fun zcq116 => ?_) (fun zcq116 => ?_)
                    · exact absurd rfl zcq116
                    · refine z_aload_n (i := 0) hG dL_refused_119 rfl rfl ?_
                      refine z_callV hG dL_refused_120 LV_L_120 (cm_cook l g hI hB hQ) (by decide) rfl rfl rfl (Nat.le_of_ble_eq_true rfl) ?_
                      intro v9 mm h9
                      rw [zk_cook_no hno] at h9
                      rw [h9.1]
                      replace hQ := h9.2
                      clear h9 v9
                      refine z_bipush hG dL_refused_123 rfl ?_
                      refine z_icmp_ne hG dL_refused_125 (tgt := 273) rfl (fun zcq125 => ?_) (fun zcq125 => ?_)
                      · exact absurd rfl zcq125
                      · refine z_aload_n (i := 0) hG dL_refused_128 rfl rfl ?_
                        refine z_iload_n (i := 2) hG dL_refused_129 rfl rfl ?_
                        refine z_callV hG dL_refused_130 LV_L_106 (cm_pass l g hI hB hQ) (by decide) rfl rfl rfl (Nat.le_of_ble_eq_true rfl) ?_
                        intro v9 mm h9
                        rw [hf.2.2.2.2.2.2.2.2.1] at h9
                        rw [h9.1]
                        replace hQ := h9.2
                        clear h9 v9
                        refine z_bipush hG dL_refused_133 rfl ?_
                        refine z_icmp_ne hG dL_refused_135 (tgt := 273) rfl (fun zcq135 => ?_) (fun zcq135 => ?_)
                        · exact absurd rfl zcq135
                        · refine z_aload_n (i := 0) hG dL_refused_138 rfl rfl ?_
                          refine z_iload_n (i := 2) hG dL_refused_139 rfl rfl ?_
                          refine z_iconst hG dL_refused_140 rfl ?_
                          refine z_callV hG dL_refused_141 LV_L_96 (cq_about l g hI hB hQ) (by decide) rfl rfl rfl (Nat.le_of_ble_eq_true rfl) ?_
                          intro v9 mm h9
                          rw [h9.1, hf.2.2.2.2.2.2.2.2.2.1]
                          replace hQ := h9.2
                          clear h9 v9
                          refine z_iconst hG dL_refused_144 rfl ?_
                          refine z_icmp_ne hG dL_refused_145 (tgt := 273) rfl (fun zcq145 => ?_) (fun zcq145 => ?_)
                          · exact absurd rfl zcq145
                          · refine z_aload_n (i := 0) hG dL_refused_148 rfl rfl ?_
                            refine z_iload_n (i := 2) hG dL_refused_149 rfl rfl ?_
                            refine z_iconst hG dL_refused_150 rfl ?_
                            refine z_iconst hG dL_refused_151 rfl ?_
                            refine z_callV hG dL_refused_152 LV_L_129 (cq_ofTin l g hI hB hQ) (by decide) rfl rfl rfl (Nat.le_of_ble_eq_true rfl) ?_
                            intro v9 mm h9
                            rw [h9.1, hf.2.2.2.2.2.2.2.2.2.2.1]
                            replace hQ := h9.2
                            clear h9 v9
                            refine z_iconst hG dL_refused_155 rfl ?_
                            refine z_icmp_ne hG dL_refused_156 (tgt := 273) rfl (fun zcq156 => ?_) (fun zcq156 => ?_)
                            · exact absurd rfl zcq156
                            · refine z_aload_n (i := 0) hG dL_refused_159 rfl rfl ?_
                              refine z_iload_n (i := 2) hG dL_refused_160 rfl rfl ?_
                              refine z_iconst hG dL_refused_161 rfl ?_
                              refine z_callV hG dL_refused_162 LV_L_118 (cq_needs l g hI hB hQ) (by decide) rfl rfl rfl (Nat.le_of_ble_eq_true rfl) ?_
                              intro v9 mm h9
                              rw [h9.1, hf.2.2.2.2.2.2.2.2.2.2.2.1]
                              replace hQ := h9.2
                              clear h9 v9
                              refine z_iconst hG dL_refused_165 rfl ?_
                              refine z_icmp_ne hG dL_refused_166 (tgt := 273) rfl (fun zcq166 => ?_) (fun zcq166 => ?_)
                              · exact absurd rfl zcq166
                              · refine z_aload_n (i := 0) hG dL_refused_169 rfl rfl ?_
                                refine z_iload_n (i := 2) hG dL_refused_170 rfl rfl ?_
                                refine z_iconst hG dL_refused_171 rfl ?_
                                refine z_iconst hG dL_refused_172 rfl ?_
                                refine z_callV hG dL_refused_173 LV_L_93 (cq_step l g hI hB hQ) (by decide) rfl rfl rfl (Nat.le_of_ble_eq_true rfl) ?_
                                intro v9 mm h9
                                rw [h9.1, hf.2.2.2.2.2.2.2.2.2.2.2.2.1]
                                replace hQ := h9.2
                                clear h9 v9
                                refine z_iconst hG dL_refused_176 rfl ?_
                                refine z_icmp_ne hG dL_refused_177 (tgt := 273) rfl (fun zcq177 => ?_) (fun zcq177 => ?_)
                                · exact absurd rfl zcq177
                                · refine z_aload_n (i := 0) hG dL_refused_180 rfl rfl ?_
                                  refine z_iload_n (i := 2) hG dL_refused_181 rfl rfl ?_
                                  refine z_iconst hG dL_refused_182 rfl ?_
                                  refine z_callV hG dL_refused_183 LV_L_90 (cq_ofRecipe l g hI hB hQ) (by decide) rfl rfl rfl (Nat.le_of_ble_eq_true rfl) ?_
                                  intro v9 mm h9
                                  rw [h9.1, hf.2.2.2.2.2.2.2.2.2.2.2.2.2.1]
                                  replace hQ := h9.2
                                  clear h9 v9
                                  refine z_iconst hG dL_refused_186 rfl ?_
                                  refine z_icmp_ne hG dL_refused_187 (tgt := 273) rfl (fun zcq187 => ?_) (fun zcq187 => ?_)
                                  · exact absurd rfl zcq187
                                  · refine z_aload_n (i := 0) hG dL_refused_190 rfl rfl ?_
                                    refine z_iload_n (i := 2) hG dL_refused_191 rfl rfl ?_
                                    refine z_callV hG dL_refused_192 LV_L_68 (cq_count l g hI hB hQ) (by decide) rfl rfl rfl (Nat.le_of_ble_eq_true rfl) ?_
                                    intro v9 mm h9
                                    rw [h9.1, hf.2.2.2.2.2.2.2.2.2.2.2.2.2.2.1]
                                    replace hQ := h9.2
                                    clear h9 v9
                                    refine z_bipush hG dL_refused_195 rfl ?_
                                    refine z_icmp_ne hG dL_refused_197 (tgt := 273) rfl (fun zcq197 => ?_) (fun zcq197 => ?_)
                                    · exact absurd rfl zcq197
                                    · refine z_aload_n (i := 0) hG dL_refused_200 rfl rfl ?_
                                      refine z_iload_n (i := 2) hG dL_refused_201 rfl rfl ?_
                                      refine z_iconst hG dL_refused_202 rfl ?_
                                      refine z_iconst hG dL_refused_203 rfl ?_
                                      refine z_callV hG dL_refused_204 LV_L_145 (cq_bestPortions l g hI hB hQ) (by decide) rfl rfl rfl (Nat.le_of_ble_eq_true rfl) ?_
                                      intro v9 mm h9
                                      rw [h9.1, hf.2.2.2.2.2.2.2.2.2.2.2.2.2.2.2.1]
                                      replace hQ := h9.2
                                      clear h9 v9
                                      refine z_iconst hG dL_refused_207 rfl ?_
                                      refine z_icmp_ne hG dL_refused_208 (tgt := 273) rfl (fun zcq208 => ?_) (fun zcq208 => ?_)
                                      · exact absurd rfl zcq208
                                      · refine z_aload_n (i := 0) hG dL_refused_211 rfl rfl ?_
                                        refine z_iload_n (i := 2) hG dL_refused_212 rfl rfl ?_
                                        refine z_callV hG dL_refused_213 LV_L_138 (cq_fewestHands l g hI hB hQ) (by decide) rfl rfl rfl (Nat.le_of_ble_eq_true rfl) ?_
                                        intro v9 mm h9
                                        rw [h9.1, hf.2.2.2.2.2.2.2.2.2.2.2.2.2.2.2.2.1]
                                        replace hQ := h9.2
                                        clear h9 v9
                                        refine z_bipush hG dL_refused_216 rfl ?_
                                        refine z_icmp_ne hG dL_refused_218 (tgt := 273) rfl (fun zcq218 => ?_) (fun zcq218 => ?_)
                                        · exact absurd rfl zcq218
                                        · refine z_aload_n (i := 0) hG dL_refused_221 rfl rfl ?_
                                          refine z_iload_n (i := 2) hG dL_refused_222 rfl rfl ?_
                                          refine z_iconst hG dL_refused_223 rfl ?_
                                          refine z_callV hG dL_refused_224 LV_L_112 (cq_ifBuyable l g hI hB hQ) (by decide) rfl rfl rfl (Nat.le_of_ble_eq_true rfl) ?_
                                          intro v9 mm h9
                                          rw [h9.1, hf.2.2.2.2.2.2.2.2.2.2.2.2.2.2.2.2.2.1]
                                          replace hQ := h9.2
                                          clear h9 v9
                                          refine z_iconst hG dL_refused_227 rfl ?_
                                          refine z_icmp_ne hG dL_refused_228 (tgt := 273) rfl (fun zcq228 => ?_) (fun zcq228 => ?_)
                                          · exact absurd rfl zcq228
                                          · refine z_aload_n (i := 0) hG dL_refused_231 rfl rfl ?_
                                            refine z_callV hG dL_refused_232 LV_L_151 (cm_undo l g hI hB hQ) (by decide) rfl rfl rfl (Nat.le_of_ble_eq_true rfl) ?_
                                            intro v9 mm h9
                                            rw [show zk_undo m1 = (-5, m1) from if_pos h14] at h9
                                            rw [h9.1]
                                            replace hQ := h9.2
                                            clear h9 v9
                                            refine z_bipush hG dL_refused_235 rfl ?_
                                            refine z_icmp_ne hG dL_refused_237 (tgt := 273) rfl (fun zcq237 => ?_) (fun zcq237 => ?_)
                                            · exact absurd rfl zcq237
                                            · refine z_aload_n (i := 0) hG dL_refused_240 rfl rfl ?_
                                              refine z_iload_n (i := 2) hG dL_refused_241 rfl rfl ?_
                                              refine z_callV hG dL_refused_242 LV_L_148 (cm_save l g hI hB hQ) (by decide) rfl rfl rfl (Nat.le_of_ble_eq_true rfl) ?_
                                              intro v9 mm h9
                                              rw [hf.2.2.2.2.2.2.2.2.2.2.2.2.2.2.2.2.2.2.1] at h9
                                              rw [h9.1]
                                              replace hQ := h9.2
                                              clear h9 v9
                                              refine z_bipush hG dL_refused_245 rfl ?_
                                              refine z_icmp_ne hG dL_refused_247 (tgt := 273) rfl (fun zcq247 => ?_) (fun zcq247 => ?_)
                                              · exact absurd rfl zcq247
                                              · refine z_aload_n (i := 0) hG dL_refused_250 rfl rfl ?_
                                                refine z_iload_n (i := 2) hG dL_refused_251 rfl rfl ?_
                                                refine z_callV hG dL_refused_252 LV_L_154 (cm_restore l g hI hB hQ) (by decide) rfl rfl rfl (Nat.le_of_ble_eq_true rfl) ?_
                                                intro v9 mm h9
                                                rw [hf.2.2.2.2.2.2.2.2.2.2.2.2.2.2.2.2.2.2.2] at h9
                                                rw [h9.1]
                                                replace hQ := h9.2
                                                clear h9 v9
                                                refine z_bipush hG dL_refused_255 rfl ?_
                                                refine z_icmp_ne hG dL_refused_257 (tgt := 273) rfl (fun zcq257 => ?_) (fun zcq257 => ?_)
                                                · exact absurd rfl zcq257
                                                · refine z_aload_n (i := 0) hG dL_refused_260 rfl rfl ?_
                                                  refine z_bipush hG dL_refused_261 rfl ?_
                                                  refine z_callV hG dL_refused_263 LV_L_68 (cqc_14 l g hI hB hQ) (by decide) rfl rfl rfl (Nat.le_of_ble_eq_true rfl) ?_
                                                  intro v9 mm h9
                                                  rw [h9.1]
                                                  replace hQ := h9.2
                                                  clear h9 v9
                                                  refine z_if_ne hG dL_refused_266 (tgt := 273) rfl (fun zcq266 => ?_) (fun zcq266 => ?_)
                                                  · try simp only [zite_eq0, ne_eq, Classical.not_not] at zcq266
                                                    exact absurd h14 zcq266
                                                  · try simp only [zite_eq0, ne_eq, Classical.not_not] at zcq266
                                                    refine z_iconst hG dL_refused_269 rfl ?_
                                                    refine z_goto hG dL_refused_270 (tgt := 274) rfl ?_
                                                    refine z_iret hG hE dL_refused_274 (by first | exact Or.inl rfl | exact Or.inr rfl | (show _ ∨ _; omega)) ?_
                                                    exact ⟨rfl, m1, hI, hQ, h4, h5, h6, hd⟩
  have hu := zUp_bd (v := v) (m := 1000000) (by decide)
  refine z_iload_n (i := 1) hG dL_refused_0 rfl rfl ?_
  refine z_if_ge hG dL_refused_1 (tgt := 16) rfl (fun zcq1 => ?_) (fun zcq1 => ?_)
  · refine z_iload_n (i := 1) hG dL_refused_16 rfl rfl ?_
    refine z_ldc hG dL_refused_17 KC_L_157 rfl ?_
    refine z_irem hG dL_refused_19 (by omega) (by omega) ?_
    refine z_sipush hG dL_refused_20 rfl ?_
    refine z_iadd hG dL_refused_23 (by omega) (by omega) ?_
    exact h24 _ (by omega)
  · refine z_bipush hG dL_refused_4 rfl ?_
    refine z_iload_n (i := 1) hG dL_refused_6 rfl rfl ?_
    refine z_ldc hG dL_refused_7 KC_L_157 rfl ?_
    refine z_callS hG dL_refused_9 LS_L_22 (ct_L_up l g (by decide)) (by decide) rfl rfl (Nat.le_of_ble_eq_true rfl) ?_
    intro v9 m9 h9
    rw [h9.1, h9.2]
    clear h9 m9 v9
    refine z_isub hG dL_refused_12 (by omega) (by omega) ?_
    refine z_goto hG dL_refused_13 (tgt := 24) rfl ?_
    exact h24 _ (by omega)
