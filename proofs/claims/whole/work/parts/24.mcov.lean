set_option maxHeartbeats 4000000 in
set_option maxRecDepth 100000 in
theorem cj_isCovered (l : Launch) (D : va_G) (h : Nat → Nat) (cI : ClassId) (X : St) (sz : Nat) (b : Int) (q : Int) (g : Int) (hI : Rnj X) (h_b : 0 ≤ b ∧ b < 40) (hq : q = 0 ∨ q = 1) (hg : g = 1 ∨ g = -1) : Met l y_m_isCovered (.code y_m_isCovered b_m_isCovered 8 (some .boolean) :: wG) { frames := 2, cells := 0, slots := 0, locals := 55 } (va_Pc [.ref (h 0), .int (zI b), .int (zI q), .int (zI g)] (pj D h cI X sz)) (va_Qi (fun (r : Int32) (u : St) => ((r = zI 1 ∧ mcov X b q g) ∨ (r = zI 0 ∧ ¬ (mcov X b q g))) ∧ u = X) (bj D h cI (fj h cI X sz)) (fj h cI X sz)) 0 0 (fj h cI X sz) := by
  refine j_start (by decide) rfl (Nat.le_of_ble_eq_true rfl) ?_
  intro A p e s m below meth c ls hA cx hw hl
  subst hA
  have hx := cx.1
  have hb := cx.2.1
  have hown := cx.2.2.2.2.2.1
  have hts := cx.2.2.2.2.2.2.1
  have hl : lv_has ls 8 [(0, .ref (h 0)), (1, .int (zI (b))), (2, .int (zI (q))), (3, .int (zI (g)))] := hl
  obtain ⟨H, eH⟩ : ∃ z, z = s.heap := ⟨_, rfl⟩
  obtain ⟨locs, eL⟩ : ∃ z : List Loc, z = [] := ⟨_, rfl⟩
  rw [← eH, ← eL] at hw ⊢
  refine q_iconst hx hb d_m_isCovered_0 ?_
  refine lv_istore (lv' := [(4, .int (zI (1))), (0, .ref (h 0)), (1, .int (zI (b))), (2, .int (zI (q))), (3, .int (zI (g)))]) hx hb d_m_isCovered_1 hl (by decide) rfl (fun ls hl => ?_)
  have lp : ∀ (n : Nat) (x : Int) (ls : Array Slot) (H : Heap) (locs : List Loc), (x + (n : Int) = 16) → (1 ≤ x) → (∀ a l : Int, 1 ≤ a → a < x → 0 ≤ l → l < 8 → (mtk X b q g a l = 0 ∨ 0 ≤ mstk X a l 1000 - mheld X a l b + mtk X b q g a l)) → lv_has ls 8 [(4, .int (zI (x))), (0, .ref (h 0)), (1, .int (zI (b))), (2, .int (zI (q))), (3, .int (zI (g)))] → Kj D h cI (fj h cI X sz) s X H locs → W p l e { frames := 2, cells := 0, slots := 0, locals := 55 } s m ([.ref (h 0), .int (zI b), .int (zI q), .int (zI g)] : List Value).toArray below meth c H locs 0 0 (MQ below (va_Qi (fun (r : Int32) (u : St) => ((r = zI 1 ∧ mcov X b q g) ∨ (r = zI 0 ∧ ¬ (mcov X b q g))) ∧ u = X) (bj D h cI (fj h cI X sz)) (fj h cI X sz)) ([.ref (h 0), .int (zI b), .int (zI q), .int (zI g)] : List Value).toArray s 0 0 (fj h cI X sz)) (F0 m 3 ls []) := by
    intro n
    induction n with
    | zero =>
      intro x ls H locs hi h0 hz hl hw
      refine lv_iload hx hb d_m_isCovered_3 (lv_at hl 0 rfl) ?_
      refine q_bipush hx hb d_m_isCovered_5 (by decide) ?_
      refine q_icmp_ge (tgt := 98) hx hb d_m_isCovered_7 (by decide) ⟨by first | omega | (rcases hg with hg | hg <;> subst hg <;> omega), by first | omega | (rcases hg with hg | hg <;> subst hg <;> omega)⟩ ⟨by first | omega | (rcases hg with hg | hg <;> subst hg <;> omega), by first | omega | (rcases hg with hg | hg <;> subst hg <;> omega)⟩ (fun c1 => ?_) (fun c1 => ?_)
      · refine q_iconst hx hb d_m_isCovered_98 ?_
        exact (ej_z cx hw (by decide) (by decide) (by decide) d_m_isCovered_99 (⟨Or.inl ⟨rfl, fun a l h1 h2 h3 h4 => hz a l h1 (by omega) h3 h4⟩, rfl⟩))
      · exact absurd c1 (by omega)
    | succ n ih =>
      intro x ls H locs hi h0 hz hl hw
      refine lv_iload hx hb d_m_isCovered_3 (lv_at hl 0 rfl) ?_
      refine q_bipush hx hb d_m_isCovered_5 (by decide) ?_
      refine q_icmp_ge (tgt := 98) hx hb d_m_isCovered_7 (by decide) ⟨by first | omega | (rcases hg with hg | hg <;> subst hg <;> omega), by first | omega | (rcases hg with hg | hg <;> subst hg <;> omega)⟩ ⟨by first | omega | (rcases hg with hg | hg <;> subst hg <;> omega), by first | omega | (rcases hg with hg | hg <;> subst hg <;> omega)⟩ (fun c2 => ?_) (fun c2 => ?_)
      · exact absurd c2 (by omega)
      · refine q_iconst hx hb d_m_isCovered_10 ?_
        refine lv_istore (lv' := [(5, .int (zI (0))), (4, .int (zI (x))), (0, .ref (h 0)), (1, .int (zI (b))), (2, .int (zI (q))), (3, .int (zI (g)))]) hx hb d_m_isCovered_11 hl (by decide) rfl (fun ls hl => ?_)
        have lp2 : ∀ (n2 : Nat) (y : Int) (ls : Array Slot) (H : Heap) (locs : List Loc), (y + (n2 : Int) = 8) → (0 ≤ y) → (∀ l : Int, 0 ≤ l → l < y → (mtk X b q g x l = 0 ∨ 0 ≤ mstk X x l 1000 - mheld X x l b + mtk X b q g x l)) → lv_has ls 8 [(5, .int (zI (y))), (4, .int (zI (x))), (0, .ref (h 0)), (1, .int (zI (b))), (2, .int (zI (q))), (3, .int (zI (g)))] → Kj D h cI (fj h cI X sz) s X H locs → W p l e { frames := 2, cells := 0, slots := 0, locals := 55 } s m ([.ref (h 0), .int (zI b), .int (zI q), .int (zI g)] : List Value).toArray below meth c H locs 0 0 (MQ below (va_Qi (fun (r : Int32) (u : St) => ((r = zI 1 ∧ mcov X b q g) ∨ (r = zI 0 ∧ ¬ (mcov X b q g))) ∧ u = X) (bj D h cI (fj h cI X sz)) (fj h cI X sz)) ([.ref (h 0), .int (zI b), .int (zI q), .int (zI g)] : List Value).toArray s 0 0 (fj h cI X sz)) (F0 m 13 ls []) := by
          intro n2
          induction n2 with
          | zero =>
            intro y ls H locs hk k0 hy hl hw
            refine lv_iload hx hb d_m_isCovered_13 (lv_at hl 0 rfl) ?_
            refine q_bipush hx hb d_m_isCovered_15 (by decide) ?_
            refine q_icmp_ge (tgt := 92) hx hb d_m_isCovered_17 (by decide) ⟨by first | omega | (rcases hg with hg | hg <;> subst hg <;> omega), by first | omega | (rcases hg with hg | hg <;> subst hg <;> omega)⟩ ⟨by first | omega | (rcases hg with hg | hg <;> subst hg <;> omega), by first | omega | (rcases hg with hg | hg <;> subst hg <;> omega)⟩ (fun c3 => ?_) (fun c3 => ?_)
            · refine lv_iinc (v := zI (x + 1)) (lv' := [(4, .int (zI (x + 1))), (5, .int (zI (y))), (0, .ref (h 0)), (1, .int (zI (b))), (2, .int (zI (q))), (3, .int (zI (g)))]) hx hb d_m_isCovered_92 hl (k := 1) rfl (zI_add (x) 1) (by decide) rfl (fun ls hl => ?_)
              refine lv_goto (tgt := 3) hx hb d_m_isCovered_95 (by decide) ?_
              exact ih (x + 1) ls H locs (by omega) (by omega) (fun a l h1 h2 h3 h4 => by
                                rcases Int.lt_or_le a x with q9 | q9
                                · exact hz a l h1 q9 h3 h4
                                · rw [show a = x by omega]; exact hy l h3 (by omega)) (lv_sub hl [0, 2, 3, 4, 5] rfl) hw
            · exact absurd c3 (by omega)
          | succ n2 ih2 =>
            intro y ls H locs hk k0 hy hl hw
            refine lv_iload hx hb d_m_isCovered_13 (lv_at hl 0 rfl) ?_
            refine q_bipush hx hb d_m_isCovered_15 (by decide) ?_
            refine q_icmp_ge (tgt := 92) hx hb d_m_isCovered_17 (by decide) ⟨by first | omega | (rcases hg with hg | hg <;> subst hg <;> omega), by first | omega | (rcases hg with hg | hg <;> subst hg <;> omega)⟩ ⟨by first | omega | (rcases hg with hg | hg <;> subst hg <;> omega), by first | omega | (rcases hg with hg | hg <;> subst hg <;> omega)⟩ (fun c4 => ?_) (fun c4 => ?_)
            · exact absurd c4 (by omega)
            · refine lv_iload_n hx hb d_m_isCovered_20 rfl (lv_at hl 5 rfl) ?_
              refine q_i2l hx hb d_m_isCovered_21 ⟨by first | omega | (rcases hg with hg | hg <;> subst hg <;> omega), by first | omega | (rcases hg with hg | hg <;> subst hg <;> omega)⟩ ?_
              refine lv_aload_n hx hb d_m_isCovered_22 rfl (lv_at hl 2 rfl) ?_
              refine lv_iload_n hx hb d_m_isCovered_23 rfl (lv_at hl 3 rfl) ?_
              refine lv_iload hx hb d_m_isCovered_24 (lv_at hl 1 rfl) ?_
              refine lv_iload hx hb d_m_isCovered_26 (lv_at hl 0 rfl) ?_
              refine kj_l cx hw (rj_V cx hw hl.1 (cj_net l D h cI X H.size b x y hI (by first | omega | ((repeat (first | rw [up2_c0] | rw [up2_c1] | rw [up2_c2] | rw [up2_other (by decide)])); omega)) (by first | omega | ((repeat (first | rw [up2_c0] | rw [up2_c1] | rw [up2_c2] | rw [up2_other (by decide)])); omega)) (by first | omega | ((repeat (first | rw [up2_c0] | rw [up2_c1] | rw [up2_c2] | rw [up2_other (by decide)])); omega))) gk_m_net rfl rfl hd_m_net ⟨by decide, by decide⟩ rfl rfl (Nat.le_of_ble_eq_true rfl) d_m_isCovered_28 ⟨by decide, by decide⟩) (fun r Y5 H locs hp hw => ?_)
              obtain ⟨hr, hu⟩ := hp
              rw [hu] at hw
              have f6 := mnet_bnd hI b x y
              subst hr
              refine q_lmul hx hb d_m_isCovered_31 ?_
              refine lv_lstore (lv' := [(6, .long (zL ((g) * (mnet X b x y)))), (5, .int (zI (y))), (4, .int (zI (x))), (0, .ref (h 0)), (1, .int (zI (b))), (2, .int (zI (q))), (3, .int (zI (g)))]) hx hb d_m_isCovered_32 hl (by decide) rfl (fun ls hl => ?_)
              refine lv_iload_n hx hb d_m_isCovered_34 rfl (lv_at hl 5 rfl) ?_
              refine q_if_eq (tgt := 48) hx hb d_m_isCovered_35 (by decide) ⟨by first | omega | (rcases hg with hg | hg <;> subst hg <;> omega), by first | omega | (rcases hg with hg | hg <;> subst hg <;> omega)⟩ (fun c7 => ?_) (fun c7 => ?_)
              · refine lv_lload hx hb d_m_isCovered_48 (lv_at hl 0 rfl) ?_
                refine q_lconst (v := 0) hx hb d_m_isCovered_50 (by decide) ?_
                refine q_lcmp_eq (tgt := 86) hx hb d_m_isCovered_51 d_m_isCovered_52 (by decide) ⟨by first | omega | (rcases hg with hg | hg <;> subst hg <;> omega), by first | omega | (rcases hg with hg | hg <;> subst hg <;> omega)⟩ ⟨by first | omega | (rcases hg with hg | hg <;> subst hg <;> omega), by first | omega | (rcases hg with hg | hg <;> subst hg <;> omega)⟩ (fun c8 => ?_) (fun c8 => ?_)
                · refine lv_iinc (v := zI (y + 1)) (lv' := [(5, .int (zI (y + 1))), (6, .long (zL ((g) * (mnet X b x y)))), (4, .int (zI (x))), (0, .ref (h 0)), (1, .int (zI (b))), (2, .int (zI (q))), (3, .int (zI (g)))]) hx hb d_m_isCovered_86 hl (k := 1) rfl (zI_add (y) 1) (by decide) rfl (fun ls hl => ?_)
                  refine lv_goto (tgt := 13) hx hb d_m_isCovered_89 (by decide) ?_
                  exact ih2 (y + 1) ls H locs (by omega) (by omega) (fun l h1 h2 => by
                                    rcases Int.lt_or_le l y with q9 | q9
                                    · exact hy l h1 q9
                                    · rw [show l = y by omega]
                                      unfold mtk
                                      first
                                        | (rw [if_pos (by omega)]; exact Or.inl rfl)
                                        | (rw [if_neg (by omega)]; first | exact Or.inl (by omega) | exact Or.inr (by omega))) (lv_sub hl [0, 2, 3, 4, 5, 6] rfl) hw
                · refine lv_aload_n hx hb d_m_isCovered_55 rfl (lv_at hl 3 rfl) ?_
                  refine lv_iload hx hb d_m_isCovered_56 (lv_at hl 2 rfl) ?_
                  refine lv_iload hx hb d_m_isCovered_58 (lv_at hl 1 rfl) ?_
                  refine q_sipush hx hb d_m_isCovered_60 (by decide) ?_
                  refine kj_l cx hw (rj_V cx hw hl.1 (cj_stockAt l D h cI X H.size x y 1000 hI (by first | omega | ((repeat (first | rw [up2_c0] | rw [up2_c1] | rw [up2_c2] | rw [up2_other (by decide)])); omega)) (by first | omega | ((repeat (first | rw [up2_c0] | rw [up2_c1] | rw [up2_c2] | rw [up2_other (by decide)])); omega)) (by first | omega | ((repeat (first | rw [up2_c0] | rw [up2_c1] | rw [up2_c2] | rw [up2_other (by decide)])); omega))) gk_m_stockAt rfl rfl hd_m_stockAt ⟨by decide, by decide⟩ rfl rfl (Nat.le_of_ble_eq_true rfl) d_m_isCovered_63 ⟨by decide, by decide⟩) (fun r Y9 H locs hp hw => ?_)
                  obtain ⟨hr, hu⟩ := hp
                  rw [hu] at hw
                  have f10 := mstk_bnd hI x y 1000
                  subst hr
                  refine lv_aload_n hx hb d_m_isCovered_66 rfl (lv_at hl 3 rfl) ?_
                  refine lv_iload hx hb d_m_isCovered_67 (lv_at hl 2 rfl) ?_
                  refine lv_iload hx hb d_m_isCovered_69 (lv_at hl 1 rfl) ?_
                  refine lv_iload_n hx hb d_m_isCovered_71 rfl (lv_at hl 4 rfl) ?_
                  refine kj_l cx hw (rj_V cx hw hl.1 (cj_held l D h cI X H.size x y b hI (by first | omega | ((repeat (first | rw [up2_c0] | rw [up2_c1] | rw [up2_c2] | rw [up2_other (by decide)])); omega)) (by first | omega | ((repeat (first | rw [up2_c0] | rw [up2_c1] | rw [up2_c2] | rw [up2_other (by decide)])); omega)) (by first | omega | ((repeat (first | rw [up2_c0] | rw [up2_c1] | rw [up2_c2] | rw [up2_other (by decide)])); omega))) gk_m_held rfl rfl hd_m_held ⟨by decide, by decide⟩ rfl rfl (Nat.le_of_ble_eq_true rfl) d_m_isCovered_72 ⟨by decide, by decide⟩) (fun r Y11 H locs hp hw => ?_)
                  obtain ⟨hr, hu⟩ := hp
                  rw [hu] at hw
                  have f12 := mheld_bnd hI x y b
                  subst hr
                  refine q_lsub hx hb d_m_isCovered_75 ?_
                  refine lv_lload hx hb d_m_isCovered_76 (lv_at hl 0 rfl) ?_
                  refine q_ladd hx hb d_m_isCovered_78 ?_
                  refine q_lconst (v := 0) hx hb d_m_isCovered_79 (by decide) ?_
                  refine q_lcmp_ge (tgt := 86) hx hb d_m_isCovered_80 d_m_isCovered_81 (by decide) ⟨by first | omega | (rcases hg with hg | hg <;> subst hg <;> omega), by first | omega | (rcases hg with hg | hg <;> subst hg <;> omega)⟩ ⟨by first | omega | (rcases hg with hg | hg <;> subst hg <;> omega), by first | omega | (rcases hg with hg | hg <;> subst hg <;> omega)⟩ (fun c13 => ?_) (fun c13 => ?_)
                  · refine lv_iinc (v := zI (y + 1)) (lv' := [(5, .int (zI (y + 1))), (6, .long (zL ((g) * (mnet X b x y)))), (4, .int (zI (x))), (0, .ref (h 0)), (1, .int (zI (b))), (2, .int (zI (q))), (3, .int (zI (g)))]) hx hb d_m_isCovered_86 hl (k := 1) rfl (zI_add (y) 1) (by decide) rfl (fun ls hl => ?_)
                    refine lv_goto (tgt := 13) hx hb d_m_isCovered_89 (by decide) ?_
                    exact ih2 (y + 1) ls H locs (by omega) (by omega) (fun l h1 h2 => by
                                      rcases Int.lt_or_le l y with q9 | q9
                                      · exact hy l h1 q9
                                      · rw [show l = y by omega]
                                        unfold mtk
                                        first
                                          | (rw [if_pos (by omega)]; exact Or.inl rfl)
                                          | (rw [if_neg (by omega)]; first | exact Or.inl (by omega) | exact Or.inr (by omega))) (lv_sub hl [0, 2, 3, 4, 5, 6] rfl) hw
                  · refine q_iconst hx hb d_m_isCovered_84 ?_
                    exact (ej_z cx hw (by decide) (by decide) (by decide) d_m_isCovered_85 (⟨Or.inr ⟨rfl, fun z => by
                            have z9 := z x y (by omega) (by omega) (by omega) (by omega)
                            unfold mtk at z9
                            rw [if_neg (by omega)] at z9
                            omega⟩, rfl⟩))
              · refine lv_lload hx hb d_m_isCovered_38 (lv_at hl 0 rfl) ?_
                refine q_lconst (v := 0) hx hb d_m_isCovered_40 (by decide) ?_
                refine q_lcmp_le (tgt := 48) hx hb d_m_isCovered_41 d_m_isCovered_42 (by decide) ⟨by first | omega | (rcases hg with hg | hg <;> subst hg <;> omega), by first | omega | (rcases hg with hg | hg <;> subst hg <;> omega)⟩ ⟨by first | omega | (rcases hg with hg | hg <;> subst hg <;> omega), by first | omega | (rcases hg with hg | hg <;> subst hg <;> omega)⟩ (fun c14 => ?_) (fun c14 => ?_)
                · refine lv_lload hx hb d_m_isCovered_48 (lv_at hl 0 rfl) ?_
                  refine q_lconst (v := 0) hx hb d_m_isCovered_50 (by decide) ?_
                  refine q_lcmp_eq (tgt := 86) hx hb d_m_isCovered_51 d_m_isCovered_52 (by decide) ⟨by first | omega | (rcases hg with hg | hg <;> subst hg <;> omega), by first | omega | (rcases hg with hg | hg <;> subst hg <;> omega)⟩ ⟨by first | omega | (rcases hg with hg | hg <;> subst hg <;> omega), by first | omega | (rcases hg with hg | hg <;> subst hg <;> omega)⟩ (fun c15 => ?_) (fun c15 => ?_)
                  · refine lv_iinc (v := zI (y + 1)) (lv' := [(5, .int (zI (y + 1))), (6, .long (zL ((g) * (mnet X b x y)))), (4, .int (zI (x))), (0, .ref (h 0)), (1, .int (zI (b))), (2, .int (zI (q))), (3, .int (zI (g)))]) hx hb d_m_isCovered_86 hl (k := 1) rfl (zI_add (y) 1) (by decide) rfl (fun ls hl => ?_)
                    refine lv_goto (tgt := 13) hx hb d_m_isCovered_89 (by decide) ?_
                    exact ih2 (y + 1) ls H locs (by omega) (by omega) (fun l h1 h2 => by
                                      rcases Int.lt_or_le l y with q9 | q9
                                      · exact hy l h1 q9
                                      · rw [show l = y by omega]
                                        unfold mtk
                                        first
                                          | (rw [if_pos (by omega)]; exact Or.inl rfl)
                                          | (rw [if_neg (by omega)]; first | exact Or.inl (by omega) | exact Or.inr (by omega))) (lv_sub hl [0, 2, 3, 4, 5, 6] rfl) hw
                  · refine lv_aload_n hx hb d_m_isCovered_55 rfl (lv_at hl 3 rfl) ?_
                    refine lv_iload hx hb d_m_isCovered_56 (lv_at hl 2 rfl) ?_
                    refine lv_iload hx hb d_m_isCovered_58 (lv_at hl 1 rfl) ?_
                    refine q_sipush hx hb d_m_isCovered_60 (by decide) ?_
                    refine kj_l cx hw (rj_V cx hw hl.1 (cj_stockAt l D h cI X H.size x y 1000 hI (by first | omega | ((repeat (first | rw [up2_c0] | rw [up2_c1] | rw [up2_c2] | rw [up2_other (by decide)])); omega)) (by first | omega | ((repeat (first | rw [up2_c0] | rw [up2_c1] | rw [up2_c2] | rw [up2_other (by decide)])); omega)) (by first | omega | ((repeat (first | rw [up2_c0] | rw [up2_c1] | rw [up2_c2] | rw [up2_other (by decide)])); omega))) gk_m_stockAt rfl rfl hd_m_stockAt ⟨by decide, by decide⟩ rfl rfl (Nat.le_of_ble_eq_true rfl) d_m_isCovered_63 ⟨by decide, by decide⟩) (fun r Y16 H locs hp hw => ?_)
                    obtain ⟨hr, hu⟩ := hp
                    rw [hu] at hw
                    have f17 := mstk_bnd hI x y 1000
                    subst hr
                    refine lv_aload_n hx hb d_m_isCovered_66 rfl (lv_at hl 3 rfl) ?_
                    refine lv_iload hx hb d_m_isCovered_67 (lv_at hl 2 rfl) ?_
                    refine lv_iload hx hb d_m_isCovered_69 (lv_at hl 1 rfl) ?_
                    refine lv_iload_n hx hb d_m_isCovered_71 rfl (lv_at hl 4 rfl) ?_
                    refine kj_l cx hw (rj_V cx hw hl.1 (cj_held l D h cI X H.size x y b hI (by first | omega | ((repeat (first | rw [up2_c0] | rw [up2_c1] | rw [up2_c2] | rw [up2_other (by decide)])); omega)) (by first | omega | ((repeat (first | rw [up2_c0] | rw [up2_c1] | rw [up2_c2] | rw [up2_other (by decide)])); omega)) (by first | omega | ((repeat (first | rw [up2_c0] | rw [up2_c1] | rw [up2_c2] | rw [up2_other (by decide)])); omega))) gk_m_held rfl rfl hd_m_held ⟨by decide, by decide⟩ rfl rfl (Nat.le_of_ble_eq_true rfl) d_m_isCovered_72 ⟨by decide, by decide⟩) (fun r Y18 H locs hp hw => ?_)
                    obtain ⟨hr, hu⟩ := hp
                    rw [hu] at hw
                    have f19 := mheld_bnd hI x y b
                    subst hr
                    refine q_lsub hx hb d_m_isCovered_75 ?_
                    refine lv_lload hx hb d_m_isCovered_76 (lv_at hl 0 rfl) ?_
                    refine q_ladd hx hb d_m_isCovered_78 ?_
                    refine q_lconst (v := 0) hx hb d_m_isCovered_79 (by decide) ?_
                    refine q_lcmp_ge (tgt := 86) hx hb d_m_isCovered_80 d_m_isCovered_81 (by decide) ⟨by first | omega | (rcases hg with hg | hg <;> subst hg <;> omega), by first | omega | (rcases hg with hg | hg <;> subst hg <;> omega)⟩ ⟨by first | omega | (rcases hg with hg | hg <;> subst hg <;> omega), by first | omega | (rcases hg with hg | hg <;> subst hg <;> omega)⟩ (fun c20 => ?_) (fun c20 => ?_)
                    · refine lv_iinc (v := zI (y + 1)) (lv' := [(5, .int (zI (y + 1))), (6, .long (zL ((g) * (mnet X b x y)))), (4, .int (zI (x))), (0, .ref (h 0)), (1, .int (zI (b))), (2, .int (zI (q))), (3, .int (zI (g)))]) hx hb d_m_isCovered_86 hl (k := 1) rfl (zI_add (y) 1) (by decide) rfl (fun ls hl => ?_)
                      refine lv_goto (tgt := 13) hx hb d_m_isCovered_89 (by decide) ?_
                      exact ih2 (y + 1) ls H locs (by omega) (by omega) (fun l h1 h2 => by
                                        rcases Int.lt_or_le l y with q9 | q9
                                        · exact hy l h1 q9
                                        · rw [show l = y by omega]
                                          unfold mtk
                                          first
                                            | (rw [if_pos (by omega)]; exact Or.inl rfl)
                                            | (rw [if_neg (by omega)]; first | exact Or.inl (by omega) | exact Or.inr (by omega))) (lv_sub hl [0, 2, 3, 4, 5, 6] rfl) hw
                    · refine q_iconst hx hb d_m_isCovered_84 ?_
                      exact (ej_z cx hw (by decide) (by decide) (by decide) d_m_isCovered_85 (⟨Or.inr ⟨rfl, fun z => by
                              have z9 := z x y (by omega) (by omega) (by omega) (by omega)
                              unfold mtk at z9
                              rw [if_neg (by omega)] at z9
                              omega⟩, rfl⟩))
                · refine q_lconst (v := 0) hx hb d_m_isCovered_45 (by decide) ?_
                  refine lv_lstore (lv' := [(6, .long (zL (0))), (5, .int (zI (y))), (4, .int (zI (x))), (0, .ref (h 0)), (1, .int (zI (b))), (2, .int (zI (q))), (3, .int (zI (g)))]) hx hb d_m_isCovered_46 hl (by decide) rfl (fun ls hl => ?_)
                  refine lv_lload hx hb d_m_isCovered_48 (lv_at hl 0 rfl) ?_
                  refine q_lconst (v := 0) hx hb d_m_isCovered_50 (by decide) ?_
                  refine q_lcmp_eq (tgt := 86) hx hb d_m_isCovered_51 d_m_isCovered_52 (by decide) ⟨by decide, by decide⟩ ⟨by decide, by decide⟩ (fun _ => ?_) (fun c9 => absurd c9 (by decide))
                  refine lv_iinc (v := zI (y + 1)) (lv' := [(5, .int (zI (y + 1))), (6, .long (zL (0))), (4, .int (zI (x))), (0, .ref (h 0)), (1, .int (zI (b))), (2, .int (zI (q))), (3, .int (zI (g)))]) hx hb d_m_isCovered_86 hl (k := 1) rfl (zI_add (y) 1) (by decide) rfl (fun ls hl => ?_)
                  refine lv_goto (tgt := 13) hx hb d_m_isCovered_89 (by decide) ?_
                  exact ih2 (y + 1) ls H locs (by omega) (by omega) (fun l h1 h2 => by
                                    rcases Int.lt_or_le l y with q9 | q9
                                    · exact hy l h1 q9
                                    · rw [show l = y by omega]
                                      unfold mtk
                                      first
                                        | (rw [if_pos (by omega)]; exact Or.inl rfl)
                                        | (rw [if_neg (by omega)]; first | exact Or.inl (by omega) | exact Or.inr (by omega))) (lv_sub hl [0, 2, 3, 4, 5, 6] rfl) hw
        exact lp2 8 0 ls H locs (by omega) (by omega) (fun l h1 h2 => absurd h2 (by omega)) hl hw
  exact lp 15 1 ls H locs (by omega) (by omega) (fun a l h1 h2 => absurd h2 (by omega)) hl hw
set_option maxHeartbeats 4000000 in
set_option maxRecDepth 100000 in
theorem cj_reversed (l : Launch) (D : va_G) (h : Nat → Nat) (cI : ClassId) (X : St) (sz : Nat) (b : Int) (d : Int) (hI : Rnj X) (h_b : 0 ≤ b ∧ b < X 0 0) (hd : 0 ≤ d ∧ d ≤ 1000) (hpc : X 0 1 ≤ X 0 0) : Met l y_m_reversed (.code y_m_reversed b_m_reversed 5 (some .boolean) :: wG) { frames := 3, cells := 0, slots := 0, locals := 82 } (va_Pc [.ref (h 0), .int (zI b), .int (zI d)] (pj D h cI X sz)) (va_Qi (fun (r : Int32) (u : St) => (r = zI 1 ∧ (X 0 0 < 40 ∧ mcov X b 0 (-1)) ∧ u = mRev X b d) ∨ (r = zI 0 ∧ ¬ (X 0 0 < 40 ∧ mcov X b 0 (-1)) ∧ u = X)) (bj D h cI (fj h cI X sz)) (fj h cI X sz)) 0 0 (fj h cI X sz) := by
  refine j_start (by decide) rfl (Nat.le_of_ble_eq_true rfl) ?_
  intro A p e s m below meth c ls hA cx hw hl
  subst hA
  have hx := cx.1
  have hb := cx.2.1
  have hown := cx.2.2.2.2.2.1
  have hts := cx.2.2.2.2.2.2.1
  have hl : lv_has ls 5 [(0, .ref (h 0)), (1, .int (zI (b))), (2, .int (zI (d)))] := hl
  obtain ⟨H, eH⟩ : ∃ z, z = s.heap := ⟨_, rfl⟩
  obtain ⟨locs, eL⟩ : ∃ z : List Loc, z = [] := ⟨_, rfl⟩
  rw [← eH, ← eL] at hw ⊢
  have hs0 := rgj_s0 hI
  have hs1 := rgj_s1 hI
  have hsz := rgj_2 hI b
  refine lv_aload_n hx hb d_m_reversed_0 rfl (lv_at hl 0 rfl) ?_
  refine gj_batches (v := X 0 0) cx hw rfl d_m_reversed_1 ?_
  have f1 := rgj_s0 hI
  refine q_bipush hx hb d_m_reversed_4 (by decide) ?_
  refine q_icmp_eq (tgt := 19) hx hb d_m_reversed_6 (by decide) ⟨by omega, by omega⟩ ⟨by omega, by omega⟩ (fun c2 => ?_) (fun c2 => ?_)
  · refine q_iconst hx hb d_m_reversed_19 ?_
    exact (ej_z cx hw (by decide) (by decide) (by decide) d_m_reversed_20 (Or.inr ⟨rfl, fun z => by first | omega | exact absurd z.2 (by assumption), rfl⟩))
  · refine lv_aload_n hx hb d_m_reversed_9 rfl (lv_at hl 0 rfl) ?_
    refine lv_iload_n hx hb d_m_reversed_10 rfl (lv_at hl 1 rfl) ?_
    refine q_iconst hx hb d_m_reversed_11 ?_
    refine q_iconst hx hb d_m_reversed_12 ?_
    refine kj_i cx hw (rj_V cx hw hl.1 (cj_isCovered l D h cI X H.size b 0 ((-1)) hI (by first | omega | ((repeat (first | rw [up2_c0] | rw [up2_c1] | rw [up2_c2] | rw [up2_other (by decide)])); omega)) (by first | omega | ((repeat (first | rw [up2_c0] | rw [up2_c1] | rw [up2_c2] | rw [up2_other (by decide)])); omega)) (by first | omega | ((repeat (first | rw [up2_c0] | rw [up2_c1] | rw [up2_c2] | rw [up2_other (by decide)])); omega))) gk_m_isCovered rfl rfl hd_m_isCovered ⟨by decide, by decide⟩ rfl rfl (Nat.le_of_ble_eq_true rfl) d_m_reversed_13 ⟨by decide, by decide⟩) (fun r Y3 H locs hp hw => ?_)
    obtain ⟨hr, hu⟩ := hp
    rw [hu] at hw
    rcases hr with ⟨hr, p4⟩ | ⟨hr, p4⟩ <;> subst hr
    · refine q_if_ne (tgt := 21) hx hb d_m_reversed_16 (by decide) ⟨by decide, by decide⟩ (fun _ => ?_) (fun c9 => absurd c9 (by decide))
      refine lv_aload_n hx hb d_m_reversed_21 rfl (lv_at hl 0 rfl) ?_
      refine kj_i cx hw (rj_V cx hw hl.1 (cj_open l D h cI X H.size  hI (by first | omega | ((repeat (first | rw [up2_c0] | rw [up2_c1] | rw [up2_c2] | rw [up2_other (by decide)])); omega))) gk_m_open rfl rfl hd_m_open ⟨by decide, by decide⟩ rfl rfl (Nat.le_of_ble_eq_true rfl) d_m_reversed_22 ⟨by decide, by decide⟩) (fun r Y5 H locs hp hw => ?_)
      obtain ⟨hr, hu⟩ := hp
      rw [hu] at hw
      have hI6 := rgj_opn hI (by first | omega | ((repeat (first | rw [up2_c0] | rw [up2_c1] | rw [up2_c2] | rw [up2_other (by decide)])); omega))
      subst hr
      refine lv_istore_n (lv' := [(3, .int (zI (X 0 0))), (0, .ref (h 0)), (1, .int (zI (b))), (2, .int (zI (d)))]) hx hb d_m_reversed_25 rfl hl (by decide) rfl (fun ls hl => ?_)
      refine q_iconst hx hb d_m_reversed_26 ?_
      refine lv_istore (lv' := [(4, .int (zI (0))), (3, .int (zI (X 0 0))), (0, .ref (h 0)), (1, .int (zI (b))), (2, .int (zI (d)))]) hx hb d_m_reversed_27 hl (by decide) rfl (fun ls hl => ?_)
      have e0 : ∀ j, j ≠ X 0 0 → mOpn X 2 j = X 2 j := fun j hj => by show up2 _ 2 (X 0 0) 0 2 j = _; rw [up2_ne hj]; rfl
      have lp : ∀ (n : Nat) (i : Int) (Y : St) (ls : Array Slot) (H : Heap) (locs : List Loc), (i + (n : Int) = X 2 b) → (0 ≤ i) → (Rnj Y) → ((∀ k, k ≠ 2 → k ≠ 6 → k ≠ 7 → k ≠ 8 → Y k = mOpn X k)) → ((∀ j, j ≠ X 0 0 → Y 2 j = X 2 j)) → (Y 2 (X 0 0) = i) → ((∀ j, j < 8 * X 0 0 → Y 6 j = X 6 j)) → ((∀ j, j < 8 * X 0 0 → Y 7 j = X 7 j)) → ((∀ j, j < 8 * X 0 0 → Y 8 j = X 8 j)) → (itR (mRv1 X b) i n Y = mRvE X b) → lv_has ls 5 [(4, .int (zI (i))), (3, .int (zI (X 0 0))), (0, .ref (h 0)), (1, .int (zI (b))), (2, .int (zI (d)))] → Kj D h cI (fj h cI X sz) s Y H locs → W p l e { frames := 3, cells := 0, slots := 0, locals := 82 } s m ([.ref (h 0), .int (zI b), .int (zI d)] : List Value).toArray below meth c H locs 0 0 (MQ below (va_Qi (fun (r : Int32) (u : St) => (r = zI 1 ∧ (X 0 0 < 40 ∧ mcov X b 0 (-1)) ∧ u = mRev X b d) ∨ (r = zI 0 ∧ ¬ (X 0 0 < 40 ∧ mcov X b 0 (-1)) ∧ u = X)) (bj D h cI (fj h cI X sz)) (fj h cI X sz)) ([.ref (h 0), .int (zI b), .int (zI d)] : List Value).toArray s 0 0 (fj h cI X sz)) (F0 m 29 ls []) := by
        intro n
        induction n with
        | zero =>
          intro i Y ls H locs hi h0 hJ hY h2 h2r h6 h7 h8 ht hl hw
          have e2 : Y 2 b = X 2 b := h2 b (by omega)
          have y01 : Y 0 1 = X 0 1 := congrFun (hY 0 (by decide) (by decide) (by decide) (by decide)) 1
          refine lv_iload hx hb d_m_reversed_29 (lv_at hl 0 rfl) ?_
          refine lv_aload_n hx hb d_m_reversed_31 rfl (lv_at hl 2 rfl) ?_
          refine gj_size cx hw d_m_reversed_32 ?_
          refine lv_iload_n hx hb d_m_reversed_35 rfl (lv_at hl 3 rfl) ?_
          refine lj_2 (v := Y 2 b) cx hw rfl (by omega) (by omega) d_m_reversed_36 ?_
          have f7 := rgj_2 hJ b
          refine q_icmp_ge (tgt := 88) hx hb d_m_reversed_37 (by decide) ⟨by omega, by omega⟩ ⟨by omega, by omega⟩ (fun c8 => ?_) (fun c8 => ?_)
          · refine lv_aload_n hx hb d_m_reversed_88 rfl (lv_at hl 2 rfl) ?_
            refine lv_iload_n hx hb d_m_reversed_89 rfl (lv_at hl 1 rfl) ?_
            refine lv_iload_n hx hb d_m_reversed_90 rfl (lv_at hl 4 rfl) ?_
            refine kj_v cx hw (rj_V cx hw hl.1 (cj_enter l D h cI Y H.size (X 0 0) d hJ (by first | omega | ((repeat (first | rw [up2_c0] | rw [up2_c1] | rw [up2_c2] | rw [up2_other (by decide)])); omega)) (by first | omega | ((repeat (first | rw [up2_c0] | rw [up2_c1] | rw [up2_c2] | rw [up2_other (by decide)])); omega)) (by first | omega | ((repeat (first | rw [up2_c0] | rw [up2_c1] | rw [up2_c2] | rw [up2_other (by decide)])); omega))) gk_m_enter rfl rfl hd_m_enter ⟨by decide, by decide⟩ rfl rfl (Nat.le_of_ble_eq_true rfl) d_m_reversed_91 ⟨by decide, by decide⟩) (fun Y9 H locs hp hw => ?_)
            have hu := hp
            rw [hu] at hw
            have hI10 := rgj_ent (b := (X 0 0)) (d := d) hJ (by first | omega | ((repeat (first | rw [up2_c0] | rw [up2_c1] | rw [up2_c2] | rw [up2_other (by decide)])); omega)) (by first | omega | ((repeat (first | rw [up2_c0] | rw [up2_c1] | rw [up2_c2] | rw [up2_other (by decide)])); omega)) (by first | omega | ((repeat (first | rw [up2_c0] | rw [up2_c1] | rw [up2_c2] | rw [up2_other (by decide)])); omega))
            refine lv_aload_n hx hb d_m_reversed_94 rfl (lv_at hl 2 rfl) ?_
            refine gj_of cx hw d_m_reversed_95 ?_
            refine lv_iload_n hx hb d_m_reversed_98 rfl (lv_at hl 1 rfl) ?_
            refine lv_iload_n hx hb d_m_reversed_99 rfl (lv_at hl 3 rfl) ?_
            refine sj_5 cx hw (by omega) (by omega) d_m_reversed_100 (fun H locs hw => ?_)
            have hI11 := rgj_up5 hI10 (X 0 0) b (by omega)
            refine lv_aload_n hx hb d_m_reversed_101 rfl (lv_at hl 2 rfl) ?_
            refine gj_by cx hw d_m_reversed_102 ?_
            refine lv_iload_n hx hb d_m_reversed_105 rfl (lv_at hl 3 rfl) ?_
            refine lv_iload_n hx hb d_m_reversed_106 rfl (lv_at hl 1 rfl) ?_
            refine sj_4 cx hw (by omega) (by omega) d_m_reversed_107 (fun H locs hw => ?_)
            have hI12 := rgj_up4 hI11 b (X 0 0) (by omega)
            refine lv_aload_n hx hb d_m_reversed_108 rfl (lv_at hl 2 rfl) ?_
            refine gj_state cx hw d_m_reversed_109 ?_
            refine lv_iload_n hx hb d_m_reversed_112 rfl (lv_at hl 3 rfl) ?_
            refine q_iconst hx hb d_m_reversed_113 ?_
            refine sj_1 cx hw (by omega) (by omega) d_m_reversed_114 (fun H locs hw => ?_)
            have hI13 := rgj_up1 hI12 b 3 (by omega)
            refine q_iconst hx hb d_m_reversed_115 ?_
            exact (ej_z cx hw (by decide) (by decide) (by decide) d_m_reversed_116 (Or.inl ⟨rfl, ⟨by omega, by assumption⟩, by rw [show Y = mRvE X b from ht]; rfl⟩))
          · exact absurd c8 (by omega)
        | succ n ih =>
          intro i Y ls H locs hi h0 hJ hY h2 h2r h6 h7 h8 ht hl hw
          have e2 : Y 2 b = X 2 b := h2 b (by omega)
          have y01 : Y 0 1 = X 0 1 := congrFun (hY 0 (by decide) (by decide) (by decide) (by decide)) 1
          have e6 : Y 6 (8 * b + i) = X 6 (8 * b + i) := h6 _ (by omega)
          have e7 : Y 7 (8 * b + i) = X 7 (8 * b + i) := h7 _ (by omega)
          have e8 : Y 8 (8 * b + i) = X 8 (8 * b + i) := h8 _ (by omega)
          refine lv_iload hx hb d_m_reversed_29 (lv_at hl 0 rfl) ?_
          refine lv_aload_n hx hb d_m_reversed_31 rfl (lv_at hl 2 rfl) ?_
          refine gj_size cx hw d_m_reversed_32 ?_
          refine lv_iload_n hx hb d_m_reversed_35 rfl (lv_at hl 3 rfl) ?_
          refine lj_2 (v := Y 2 b) cx hw rfl (by omega) (by omega) d_m_reversed_36 ?_
          have f14 := rgj_2 hJ b
          refine q_icmp_ge (tgt := 88) hx hb d_m_reversed_37 (by decide) ⟨by omega, by omega⟩ ⟨by omega, by omega⟩ (fun c15 => ?_) (fun c15 => ?_)
          · exact absurd c15 (by omega)
          · refine lv_aload_n hx hb d_m_reversed_40 rfl (lv_at hl 2 rfl) ?_
            refine lv_iload_n hx hb d_m_reversed_41 rfl (lv_at hl 1 rfl) ?_
            refine lv_aload_n hx hb d_m_reversed_42 rfl (lv_at hl 2 rfl) ?_
            refine gj_account cx hw d_m_reversed_43 ?_
            refine q_bipush hx hb d_m_reversed_46 (by decide) ?_
            refine lv_iload_n hx hb d_m_reversed_48 rfl (lv_at hl 3 rfl) ?_
            refine q_imul hx hb d_m_reversed_49 ?_
            refine lv_iload hx hb d_m_reversed_50 (lv_at hl 0 rfl) ?_
            refine q_iadd hx hb d_m_reversed_52 ?_
            refine lj_6 (v := Y 6 ((8 * b) + (i))) cx hw rfl (by omega) (by omega) d_m_reversed_53 ?_
            have f16 := rgj_6 hJ (((8 * b) + (i)))
            refine lv_aload_n hx hb d_m_reversed_54 rfl (lv_at hl 2 rfl) ?_
            refine gj_lot cx hw d_m_reversed_55 ?_
            refine q_bipush hx hb d_m_reversed_58 (by decide) ?_
            refine lv_iload_n hx hb d_m_reversed_60 rfl (lv_at hl 3 rfl) ?_
            refine q_imul hx hb d_m_reversed_61 ?_
            refine lv_iload hx hb d_m_reversed_62 (lv_at hl 0 rfl) ?_
            refine q_iadd hx hb d_m_reversed_64 ?_
            refine lj_7 (v := Y 7 ((8 * b) + (i))) cx hw rfl (by omega) (by omega) d_m_reversed_65 ?_
            have f17 := rgj_7 hJ (((8 * b) + (i)))
            refine lv_aload_n hx hb d_m_reversed_66 rfl (lv_at hl 2 rfl) ?_
            refine gj_amount cx hw d_m_reversed_67 ?_
            refine q_bipush hx hb d_m_reversed_70 (by decide) ?_
            refine lv_iload_n hx hb d_m_reversed_72 rfl (lv_at hl 3 rfl) ?_
            refine q_imul hx hb d_m_reversed_73 ?_
            refine lv_iload hx hb d_m_reversed_74 (lv_at hl 0 rfl) ?_
            refine q_iadd hx hb d_m_reversed_76 ?_
            refine lj_8 (v := Y 8 ((8 * b) + (i))) cx hw rfl (by omega) (by omega) d_m_reversed_77 ?_
            have f18 := rgj_8 hJ (((8 * b) + (i)))
            refine q_ineg hx hb d_m_reversed_78 ?_
            refine kj_v cx hw (rj_V cx hw hl.1 (cj_put l D h cI Y H.size (X 0 0) (Y 6 ((8 * b) + (i))) (Y 7 ((8 * b) + (i))) (-(Y 8 ((8 * b) + (i)))) hJ (by first | omega | ((repeat (first | rw [up2_c0] | rw [up2_c1] | rw [up2_c2] | rw [up2_other (by decide)])); omega)) (by first | omega | ((repeat (first | rw [up2_c0] | rw [up2_c1] | rw [up2_c2] | rw [up2_other (by decide)])); omega)) (by first | omega | ((repeat (first | rw [up2_c0] | rw [up2_c1] | rw [up2_c2] | rw [up2_other (by decide)])); omega)) (by first | omega | ((repeat (first | rw [up2_c0] | rw [up2_c1] | rw [up2_c2] | rw [up2_other (by decide)])); omega)) (by first | omega | ((repeat (first | rw [up2_c0] | rw [up2_c1] | rw [up2_c2] | rw [up2_other (by decide)])); omega))) gk_m_put rfl rfl hd_m_put ⟨by decide, by decide⟩ rfl rfl (Nat.le_of_ble_eq_true rfl) d_m_reversed_79 ⟨by decide, by decide⟩) (fun Y19 H locs hp hw => ?_)
            have hu := hp
            rw [hu] at hw
            have hI20 := rgj_put (b := (X 0 0)) (a := (Y 6 ((8 * b) + (i)))) (t := (Y 7 ((8 * b) + (i)))) (v := (-(Y 8 ((8 * b) + (i))))) hJ (by first | omega | ((repeat (first | rw [up2_c0] | rw [up2_c1] | rw [up2_c2] | rw [up2_other (by decide)])); omega)) (by first | omega | ((repeat (first | rw [up2_c0] | rw [up2_c1] | rw [up2_c2] | rw [up2_other (by decide)])); omega)) (by first | omega | ((repeat (first | rw [up2_c0] | rw [up2_c1] | rw [up2_c2] | rw [up2_other (by decide)])); omega)) (by first | omega | ((repeat (first | rw [up2_c0] | rw [up2_c1] | rw [up2_c2] | rw [up2_other (by decide)])); omega))
            refine lv_iinc (v := zI (i + 1)) (lv' := [(4, .int (zI (i + 1))), (3, .int (zI (X 0 0))), (0, .ref (h 0)), (1, .int (zI (b))), (2, .int (zI (d)))]) hx hb d_m_reversed_82 hl (k := 0) rfl (zI_add (i) 1) (by decide) rfl (fun ls hl => ?_)
            refine lv_goto (tgt := 29) hx hb d_m_reversed_85 (by decide) ?_
            exact ih (i + 1) (mPut Y (X 0 0) (Y 6 ((8 * b) + (i))) (Y 7 ((8 * b) + (i))) (-(Y 8 ((8 * b) + (i))))) ls H locs (by omega) (by omega) hI20 (fun k k2 k6 k7 k8 => (mPut_keep _ _ _ _ _ k2 k6 k7 k8).trans (hY k k2 k6 k7 k8)) (fun j hj => (up2_ne hj).trans (h2 j hj)) (by show up2 _ 2 (X 0 0) _ 2 (X 0 0) = _; rw [up2_self, h2r]) (fun j hj => (up2_ne (X := Y) (by rw [h2r]; omega)).trans (h6 j hj)) (fun j hj => (up2_ne (by rw [h2r]; omega)).trans (h7 j hj)) (fun j hj => (up2_ne (by rw [h2r]; omega)).trans (h8 j hj)) (by rw [e6, e7, e8]; exact ht) (lv_sub hl [0, 1, 2, 3, 4] rfl) hw
      exact lp (X 2 b).toNat 0 (mOpn X) ls H locs (by omega) (by omega) hI6 (fun _ _ _ _ _ => rfl) e0 (by show up2 _ 2 (X 0 0) 0 2 (X 0 0) = 0; exact up2_self _ _ _ _) (fun _ _ => rfl) (fun _ _ => rfl) (fun _ _ => rfl) rfl hl hw
    · refine q_if_ne (tgt := 21) hx hb d_m_reversed_16 (by decide) ⟨by decide, by decide⟩ (fun c9 => absurd c9 (by decide)) (fun _ => ?_)
      refine q_iconst hx hb d_m_reversed_19 ?_
      exact (ej_z cx hw (by decide) (by decide) (by decide) d_m_reversed_20 (Or.inr ⟨rfl, fun z => by first | omega | exact absurd z.2 (by assumption), rfl⟩))
