set_option maxHeartbeats 4000000 in
set_option maxRecDepth 100000 in
theorem lc_batch {p : Program} {e : Env} {s : State} {m : MethodId} {below : List Frame} {meth : Method} {c : Code} {H : Heap} {locs : List Loc} {cells slots : Nat} {Q : State → Prop} {ho b L : Nat} {xs : Nat → Int32} {ls : Array Slot} {D : va_G} {h g : Nat → Nat} {cI cL : ClassId} {X Z : St} {f : Nat → Int64} {i : Int} (l : Launch) (hlt : l.stackTraces = false) (cx : CxL p s m meth c D cI cL b L xs) (hw : KwL D h g cI cL ho s X Z f H locs) (hI : Inv X) (hS : Sim X Z) (hl : lv_has ls 8 [(4, .int (zI (i))), (0, .ref (b)), (1, .ref (h 0)), (2, .ref (g 0)), (3, .ref (ho))]) (h0 : 0 ≤ i) (h1 : i + 5 ≤ L) (hL : L ≤ 2560) (hc9 : cells + 1 ≤ 1075) (hs9 : slots + 6 ≤ 10854)
    (kk : ∀ (X' Z' : St) (f' : Nat → Int64) (H' : Heap) (locs' : List Loc) (ls' : Array Slot), KwL D h g cI cL ho s X' Z' f' H' locs' → Inv X' → Sim X' Z' → lv_has ls' 8 [(4, .int (zI (i))), (0, .ref (b)), (1, .ref (h 0)), (2, .ref (g 0)), (3, .ref (ho))] → W p l e room_1 s m #[Value.ref b] below meth c H' locs' (cells + 1) (slots + 6) Q (F0 m 1183 ls' [])) : W p l e room_1 s m #[Value.ref b] below meth c H locs cells slots Q (F0 m 124 ls []) := by
  have hx := cx.1
  have hb := cx.2.1
  refine lv_aload_n hx hb d_w_law_124 rfl (lv_at hl 2 rfl) ?_
  refine lv_aload_n hx hb d_w_law_125 rfl (lv_at hl 4 rfl) ?_
  refine kl_h hw (rl_S cx hw hl.1 (h_batch l hlt D h cI cL ho X f H.size  hI.1) gk_w_batch rfl rfl hd_w_batch ⟨by decide, by decide⟩ rfl rfl (Nat.le_of_ble_eq_true rfl) d_w_law_126 ⟨by show _ ≤ 1075; omega, by show _ ≤ 10854; omega⟩) (fun r X' f' H locs hp hw => ?_)
  obtain ⟨k, rfl, hp⟩ := hp
  refine lv_istore (lv' := [(5, .int (zI (k))), (4, .int (zI (i))), (0, .ref (b)), (1, .ref (h 0)), (2, .ref (g 0)), (3, .ref (ho))]) hx hb d_w_law_129 hl (by decide) rfl (fun ls hl => ?_)
  refine lv_aload_n hx hb d_w_law_131 rfl (lv_at hl 4 rfl) ?_
  refine km_i hw (rl_J cx hw hl.1 (cj_batch l D g cI Z H.size  hS.1) gw_m_batch rfl rfl hd_m_batch ⟨by decide, by decide⟩ rfl rfl (Nat.le_of_ble_eq_true rfl) d_w_law_132 ⟨by show _ ≤ 1075; omega, by show _ ≤ 10854; omega⟩) (fun r2 Z1 H locs hm hw => ?_)
  have hm : mP_batch Z  r2 Z1 := hm
  obtain ⟨ek, eo, hI2, hS2⟩ := ag_batch  hI hS hp hm
  refine lv_istore (lv' := [(6, .int (r2)), (5, .int (zI (k))), (4, .int (zI (i))), (0, .ref (b)), (1, .ref (h 0)), (2, .ref (g 0)), (3, .ref (ho))]) hx hb d_w_law_135 hl (by decide) rfl (fun ls hl => ?_)
  refine lv_aload_n hx hb d_w_law_137 rfl (lv_at hl 5 rfl) ?_
  refine km_i hw (rl_J cx hw hl.1 (cj_thrown l D g cI Z1 H.size) gw_m_thrown rfl rfl hd_m_thrown ⟨by decide, by decide⟩ rfl rfl (Nat.le_of_ble_eq_true rfl) d_w_law_138 ⟨by show _ ≤ 1075; omega, by show _ ≤ 10854; omega⟩) (fun r3 Z9 H locs hm9 hw => ?_)
  obtain ⟨hr9, hu9⟩ := hm9
  subst hr9
  rw [hu9] at hw
  refine lv_iload hx hb d_w_law_141 (lv_at hl 1 rfl) ?_
  refine lv_icmp_eq (tgt := 148) hx hb d_w_law_143 (by decide) (fun _ => ?_) (fun c9 => absurd (by rw [ek]) c9)
  refine lv_iload hx hb d_w_law_148 (lv_at hl 1 rfl) ?_
  refine lv_if_ne (tgt := 165) hx hb d_w_law_150 (by decide) (fun _ => ?_) (fun c9 => ?_)
  · refine lv_goto (tgt := 1183) hx hb d_w_law_165 (by decide) ?_
    exact kk X' Z1 f' H locs ls hw hI2 hS2 (lv_sub hl [2, 3, 4, 5, 6] rfl)
  · have hk0 : k = 0 := by
      have z := rgj_s3 hS2.1
      rw [ek] at z
      exact (zI_eq (b := 0) ⟨by omega, by omega⟩ ⟨by decide, by decide⟩).mp (c9.trans zI_0.symm)
    refine lv_aload_n hx hb d_w_law_153 rfl (lv_at hl 6 rfl) ?_
    refine q_iconst hx hb d_w_law_154 ?_
    refine ql_out cx hw d_w_law_155 ?_
    refine lv_iload hx hb d_w_law_156 (lv_at hl 0 rfl) ?_
    refine lv_i2l (v := r2.toInt64) hx hb d_w_law_158 rfl ?_
    refine W.lcmp hx hb d_w_law_159 ?_
    refine lv_if_eq (tgt := 165) hx hb d_w_law_160 (by decide) (fun _ => ?_) (fun c9 => absurd ((lg_cmp_eq _ _).mpr (eo hk0)) c9)
    refine lv_goto (tgt := 1183) hx hb d_w_law_165 (by decide) ?_
    exact kk X' Z1 f' H locs ls hw hI2 hS2 (lv_sub hl [2, 3, 4, 5, 6] rfl)
set_option maxHeartbeats 4000000 in
set_option maxRecDepth 100000 in
theorem lc_entry {p : Program} {e : Env} {s : State} {m : MethodId} {below : List Frame} {meth : Method} {c : Code} {H : Heap} {locs : List Loc} {cells slots : Nat} {Q : State → Prop} {ho b L : Nat} {xs : Nat → Int32} {ls : Array Slot} {D : va_G} {h g : Nat → Nat} {cI cL : ClassId} {X Z : St} {f : Nat → Int64} {i : Int} (l : Launch) (hlt : l.stackTraces = false) (cx : CxL p s m meth c D cI cL b L xs) (hw : KwL D h g cI cL ho s X Z f H locs) (hI : Inv X) (hS : Sim X Z) (hl : lv_has ls 8 [(4, .int (zI (i))), (0, .ref (b)), (1, .ref (h 0)), (2, .ref (g 0)), (3, .ref (ho))]) (h0 : 0 ≤ i) (h1 : i + 5 ≤ L) (hL : L ≤ 2560) (hc9 : cells + 1 ≤ 1075) (hs9 : slots + 6 ≤ 10854)
    (kk : ∀ (X' Z' : St) (f' : Nat → Int64) (H' : Heap) (locs' : List Loc) (ls' : Array Slot), KwL D h g cI cL ho s X' Z' f' H' locs' → Inv X' → Sim X' Z' → lv_has ls' 8 [(4, .int (zI (i))), (0, .ref (b)), (1, .ref (h 0)), (2, .ref (g 0)), (3, .ref (ho))] → W p l e room_1 s m #[Value.ref b] below meth c H' locs' (cells + 1) (slots + 6) Q (F0 m 1183 ls' [])) : W p l e room_1 s m #[Value.ref b] below meth c H locs cells slots Q (F0 m 168 ls []) := by
  have hx := cx.1
  have hb := cx.2.1
  refine lv_aload_n hx hb d_w_law_168 rfl (lv_at hl 2 rfl) ?_
  refine lv_aload_n hx hb d_w_law_169 rfl (lv_at hl 1 rfl) ?_
  refine lv_iload hx hb d_w_law_170 (lv_at hl 0 rfl) ?_
  refine q_iconst hx hb d_w_law_172 ?_
  refine q_iadd hx hb d_w_law_173 ?_
  refine ql_sld cx hw (by omega) (by omega) (by omega) d_w_law_174 ?_
  refine lv_aload_n hx hb d_w_law_175 rfl (lv_at hl 1 rfl) ?_
  refine lv_iload hx hb d_w_law_176 (lv_at hl 0 rfl) ?_
  refine q_iconst hx hb d_w_law_178 ?_
  refine q_iadd hx hb d_w_law_179 ?_
  refine ql_sld cx hw (by omega) (by omega) (by omega) d_w_law_180 ?_
  refine lv_aload_n hx hb d_w_law_181 rfl (lv_at hl 1 rfl) ?_
  refine lv_iload hx hb d_w_law_182 (lv_at hl 0 rfl) ?_
  refine q_iconst hx hb d_w_law_184 ?_
  refine q_iadd hx hb d_w_law_185 ?_
  refine ql_sld cx hw (by omega) (by omega) (by omega) d_w_law_186 ?_
  refine lv_aload_n hx hb d_w_law_187 rfl (lv_at hl 1 rfl) ?_
  refine lv_iload hx hb d_w_law_188 (lv_at hl 0 rfl) ?_
  refine q_iconst hx hb d_w_law_190 ?_
  refine q_iadd hx hb d_w_law_191 ?_
  refine ql_sld cx hw (by omega) (by omega) (by omega) d_w_law_192 ?_
  refine lv_aload_n hx hb d_w_law_193 rfl (lv_at hl 4 rfl) ?_
  refine kl_h hw (rl_S cx hw hl.1 (h_entry l hlt D h cI cL ho X f H.size (sx xs (i + 1)) (sx xs (i + 2)) (sx xs (i + 3)) (sx xs (i + 4)) hI.1 (sx_r xs _) (sx_r xs _) (sx_r xs _) (sx_r xs _)) gk_w_entry rfl rfl hd_w_entry ⟨by decide, by decide⟩ rfl rfl (Nat.le_of_ble_eq_true rfl) d_w_law_194 ⟨by show _ ≤ 1075; omega, by show _ ≤ 10854; omega⟩) (fun r X' f' H locs hp hw => ?_)
  obtain ⟨k, rfl, hp⟩ := hp
  refine lv_istore (lv' := [(5, .int (zI (k))), (4, .int (zI (i))), (0, .ref (b)), (1, .ref (h 0)), (2, .ref (g 0)), (3, .ref (ho))]) hx hb d_w_law_197 hl (by decide) rfl (fun ls hl => ?_)
  refine lv_aload_n hx hb d_w_law_199 rfl (lv_at hl 4 rfl) ?_
  refine lv_aload_n hx hb d_w_law_200 rfl (lv_at hl 2 rfl) ?_
  refine lv_iload hx hb d_w_law_201 (lv_at hl 1 rfl) ?_
  refine q_iconst hx hb d_w_law_203 ?_
  refine q_iadd hx hb d_w_law_204 ?_
  refine ql_sld cx hw (by omega) (by omega) (by omega) d_w_law_205 ?_
  refine lv_aload_n hx hb d_w_law_206 rfl (lv_at hl 2 rfl) ?_
  refine lv_iload hx hb d_w_law_207 (lv_at hl 1 rfl) ?_
  refine q_iconst hx hb d_w_law_209 ?_
  refine q_iadd hx hb d_w_law_210 ?_
  refine ql_sld cx hw (by omega) (by omega) (by omega) d_w_law_211 ?_
  refine lv_aload_n hx hb d_w_law_212 rfl (lv_at hl 2 rfl) ?_
  refine lv_iload hx hb d_w_law_213 (lv_at hl 1 rfl) ?_
  refine q_iconst hx hb d_w_law_215 ?_
  refine q_iadd hx hb d_w_law_216 ?_
  refine ql_sld cx hw (by omega) (by omega) (by omega) d_w_law_217 ?_
  refine lv_aload_n hx hb d_w_law_218 rfl (lv_at hl 2 rfl) ?_
  refine lv_iload hx hb d_w_law_219 (lv_at hl 1 rfl) ?_
  refine q_iconst hx hb d_w_law_221 ?_
  refine q_iadd hx hb d_w_law_222 ?_
  refine ql_sld cx hw (by omega) (by omega) (by omega) d_w_law_223 ?_
  refine km_i hw (rl_J cx hw hl.1 (cj_entry l D g cI Z H.size (sx xs (i + 1)) (sx xs (i + 2)) (sx xs (i + 3)) (sx xs (i + 4)) hS.1 (sx_r xs _) (sx_r xs _) (sx_r xs _) (sx_r xs _)) gw_m_entry rfl rfl hd_m_entry ⟨by decide, by decide⟩ rfl rfl (Nat.le_of_ble_eq_true rfl) d_w_law_224 ⟨by show _ ≤ 1075; omega, by show _ ≤ 10854; omega⟩) (fun r2 Z1 H locs hm hw => ?_)
  have hm : mP_entry Z (sx xs (i + 1)) (sx xs (i + 2)) (sx xs (i + 3)) (sx xs (i + 4)) r2 Z1 := hm
  obtain ⟨ek, eo, hI2, hS2⟩ := ag_entry (sx_r xs _) (sx_r xs _) (sx_r xs _) (sx_r xs _) hI hS hp hm
  refine lv_istore (lv' := [(6, .int (r2)), (5, .int (zI (k))), (4, .int (zI (i))), (0, .ref (b)), (1, .ref (h 0)), (2, .ref (g 0)), (3, .ref (ho))]) hx hb d_w_law_227 hl (by decide) rfl (fun ls hl => ?_)
  refine lv_aload_n hx hb d_w_law_229 rfl (lv_at hl 5 rfl) ?_
  refine km_i hw (rl_J cx hw hl.1 (cj_thrown l D g cI Z1 H.size) gw_m_thrown rfl rfl hd_m_thrown ⟨by decide, by decide⟩ rfl rfl (Nat.le_of_ble_eq_true rfl) d_w_law_230 ⟨by show _ ≤ 1075; omega, by show _ ≤ 10854; omega⟩) (fun r3 Z9 H locs hm9 hw => ?_)
  obtain ⟨hr9, hu9⟩ := hm9
  subst hr9
  rw [hu9] at hw
  refine lv_iload hx hb d_w_law_233 (lv_at hl 1 rfl) ?_
  refine lv_icmp_eq (tgt := 240) hx hb d_w_law_235 (by decide) (fun _ => ?_) (fun c9 => absurd (by rw [ek]) c9)
  refine lv_iload hx hb d_w_law_240 (lv_at hl 1 rfl) ?_
  refine lv_if_ne (tgt := 257) hx hb d_w_law_242 (by decide) (fun _ => ?_) (fun c9 => ?_)
  · refine lv_goto (tgt := 1183) hx hb d_w_law_257 (by decide) ?_
    exact kk X' Z1 f' H locs ls hw hI2 hS2 (lv_sub hl [2, 3, 4, 5, 6] rfl)
  · have hk0 : k = 0 := by
      have z := rgj_s3 hS2.1
      rw [ek] at z
      exact (zI_eq (b := 0) ⟨by omega, by omega⟩ ⟨by decide, by decide⟩).mp (c9.trans zI_0.symm)
    refine lv_aload_n hx hb d_w_law_245 rfl (lv_at hl 6 rfl) ?_
    refine q_iconst hx hb d_w_law_246 ?_
    refine ql_out cx hw d_w_law_247 ?_
    refine lv_iload hx hb d_w_law_248 (lv_at hl 0 rfl) ?_
    refine lv_i2l (v := r2.toInt64) hx hb d_w_law_250 rfl ?_
    refine W.lcmp hx hb d_w_law_251 ?_
    refine lv_if_eq (tgt := 257) hx hb d_w_law_252 (by decide) (fun _ => ?_) (fun c9 => absurd ((lg_cmp_eq _ _).mpr (eo hk0)) c9)
    refine lv_goto (tgt := 1183) hx hb d_w_law_257 (by decide) ?_
    exact kk X' Z1 f' H locs ls hw hI2 hS2 (lv_sub hl [2, 3, 4, 5, 6] rfl)
set_option maxHeartbeats 4000000 in
set_option maxRecDepth 100000 in
theorem lc_hold {p : Program} {e : Env} {s : State} {m : MethodId} {below : List Frame} {meth : Method} {c : Code} {H : Heap} {locs : List Loc} {cells slots : Nat} {Q : State → Prop} {ho b L : Nat} {xs : Nat → Int32} {ls : Array Slot} {D : va_G} {h g : Nat → Nat} {cI cL : ClassId} {X Z : St} {f : Nat → Int64} {i : Int} (l : Launch) (hlt : l.stackTraces = false) (cx : CxL p s m meth c D cI cL b L xs) (hw : KwL D h g cI cL ho s X Z f H locs) (hI : Inv X) (hS : Sim X Z) (hl : lv_has ls 8 [(4, .int (zI (i))), (0, .ref (b)), (1, .ref (h 0)), (2, .ref (g 0)), (3, .ref (ho))]) (h0 : 0 ≤ i) (h1 : i + 5 ≤ L) (hL : L ≤ 2560) (hc9 : cells + 1 ≤ 1075) (hs9 : slots + 6 ≤ 10854)
    (kk : ∀ (X' Z' : St) (f' : Nat → Int64) (H' : Heap) (locs' : List Loc) (ls' : Array Slot), KwL D h g cI cL ho s X' Z' f' H' locs' → Inv X' → Sim X' Z' → lv_has ls' 8 [(4, .int (zI (i))), (0, .ref (b)), (1, .ref (h 0)), (2, .ref (g 0)), (3, .ref (ho))] → W p l e room_1 s m #[Value.ref b] below meth c H' locs' (cells + 1) (slots + 6) Q (F0 m 1183 ls' [])) : W p l e room_1 s m #[Value.ref b] below meth c H locs cells slots Q (F0 m 260 ls []) := by
  have hx := cx.1
  have hb := cx.2.1
  refine lv_aload_n hx hb d_w_law_260 rfl (lv_at hl 2 rfl) ?_
  refine lv_aload_n hx hb d_w_law_261 rfl (lv_at hl 1 rfl) ?_
  refine lv_iload hx hb d_w_law_262 (lv_at hl 0 rfl) ?_
  refine q_iconst hx hb d_w_law_264 ?_
  refine q_iadd hx hb d_w_law_265 ?_
  refine ql_sld cx hw (by omega) (by omega) (by omega) d_w_law_266 ?_
  refine kl_h hw (rl_S cx hw hl.1 (h_hold l hlt D h cI cL ho X f H.size (sx xs (i + 1)) hI.1 (sx_r xs _) (inv_bnd hI)) gk_w_hold rfl rfl hd_w_hold ⟨by decide, by decide⟩ rfl rfl (Nat.le_of_ble_eq_true rfl) d_w_law_267 ⟨by show _ ≤ 1075; omega, by show _ ≤ 10854; omega⟩) (fun r X' f' H locs hp hw => ?_)
  obtain ⟨k, rfl, hp⟩ := hp
  refine lv_istore (lv' := [(5, .int (zI (k))), (4, .int (zI (i))), (0, .ref (b)), (1, .ref (h 0)), (2, .ref (g 0)), (3, .ref (ho))]) hx hb d_w_law_270 hl (by decide) rfl (fun ls hl => ?_)
  refine lv_aload_n hx hb d_w_law_272 rfl (lv_at hl 4 rfl) ?_
  refine lv_aload_n hx hb d_w_law_273 rfl (lv_at hl 2 rfl) ?_
  refine lv_iload hx hb d_w_law_274 (lv_at hl 1 rfl) ?_
  refine q_iconst hx hb d_w_law_276 ?_
  refine q_iadd hx hb d_w_law_277 ?_
  refine ql_sld cx hw (by omega) (by omega) (by omega) d_w_law_278 ?_
  refine km_v hw (rl_J cx hw hl.1 (cj_hold l D g cI Z H.size (sx xs (i + 1)) hS.1 (sx_r xs _)) gw_m_hold rfl rfl hd_m_hold ⟨by decide, by decide⟩ rfl rfl (Nat.le_of_ble_eq_true rfl) d_w_law_279 ⟨by show _ ≤ 1075; omega, by show _ ≤ 10854; omega⟩) (fun Z1 H locs hm hw => ?_)
  have hm : mP_hold Z (sx xs (i + 1)) Z1 := hm
  obtain ⟨ek, hI2, hS2⟩ := ag_hold (sx_r xs _) hI hS hp hm
  refine lv_aload_n hx hb d_w_law_282 rfl (lv_at hl 4 rfl) ?_
  refine km_i hw (rl_J cx hw hl.1 (cj_thrown l D g cI Z1 H.size) gw_m_thrown rfl rfl hd_m_thrown ⟨by decide, by decide⟩ rfl rfl (Nat.le_of_ble_eq_true rfl) d_w_law_283 ⟨by show _ ≤ 1075; omega, by show _ ≤ 10854; omega⟩) (fun r3 Z9 H locs hm9 hw => ?_)
  obtain ⟨hr9, hu9⟩ := hm9
  subst hr9
  rw [hu9] at hw
  refine lv_iload hx hb d_w_law_286 (lv_at hl 0 rfl) ?_
  refine lv_icmp_eq (tgt := 293) hx hb d_w_law_288 (by decide) (fun _ => ?_) (fun c9 => absurd (by rw [ek]) c9)
  refine lv_goto (tgt := 1183) hx hb d_w_law_293 (by decide) ?_
  exact kk X' Z1 f' H locs ls hw hI2 hS2 (lv_sub hl [1, 2, 3, 4, 5] rfl)
set_option maxHeartbeats 4000000 in
set_option maxRecDepth 100000 in
theorem lc_free {p : Program} {e : Env} {s : State} {m : MethodId} {below : List Frame} {meth : Method} {c : Code} {H : Heap} {locs : List Loc} {cells slots : Nat} {Q : State → Prop} {ho b L : Nat} {xs : Nat → Int32} {ls : Array Slot} {D : va_G} {h g : Nat → Nat} {cI cL : ClassId} {X Z : St} {f : Nat → Int64} {i : Int} (l : Launch) (hlt : l.stackTraces = false) (cx : CxL p s m meth c D cI cL b L xs) (hw : KwL D h g cI cL ho s X Z f H locs) (hI : Inv X) (hS : Sim X Z) (hl : lv_has ls 8 [(4, .int (zI (i))), (0, .ref (b)), (1, .ref (h 0)), (2, .ref (g 0)), (3, .ref (ho))]) (h0 : 0 ≤ i) (h1 : i + 5 ≤ L) (hL : L ≤ 2560) (hc9 : cells + 1 ≤ 1075) (hs9 : slots + 6 ≤ 10854)
    (kk : ∀ (X' Z' : St) (f' : Nat → Int64) (H' : Heap) (locs' : List Loc) (ls' : Array Slot), KwL D h g cI cL ho s X' Z' f' H' locs' → Inv X' → Sim X' Z' → lv_has ls' 8 [(4, .int (zI (i))), (0, .ref (b)), (1, .ref (h 0)), (2, .ref (g 0)), (3, .ref (ho))] → W p l e room_1 s m #[Value.ref b] below meth c H' locs' (cells + 1) (slots + 6) Q (F0 m 1183 ls' [])) : W p l e room_1 s m #[Value.ref b] below meth c H locs cells slots Q (F0 m 296 ls []) := by
  have hx := cx.1
  have hb := cx.2.1
  refine lv_aload_n hx hb d_w_law_296 rfl (lv_at hl 2 rfl) ?_
  refine lv_aload_n hx hb d_w_law_297 rfl (lv_at hl 1 rfl) ?_
  refine lv_iload hx hb d_w_law_298 (lv_at hl 0 rfl) ?_
  refine q_iconst hx hb d_w_law_300 ?_
  refine q_iadd hx hb d_w_law_301 ?_
  refine ql_sld cx hw (by omega) (by omega) (by omega) d_w_law_302 ?_
  refine kl_h hw (rl_S cx hw hl.1 (h_free l hlt D h cI cL ho X f H.size (sx xs (i + 1)) hI.1 (sx_r xs _)) gk_w_free rfl rfl hd_w_free ⟨by decide, by decide⟩ rfl rfl (Nat.le_of_ble_eq_true rfl) d_w_law_303 ⟨by show _ ≤ 1075; omega, by show _ ≤ 10854; omega⟩) (fun r X' f' H locs hp hw => ?_)
  obtain ⟨k, rfl, hp⟩ := hp
  refine lv_istore (lv' := [(5, .int (zI (k))), (4, .int (zI (i))), (0, .ref (b)), (1, .ref (h 0)), (2, .ref (g 0)), (3, .ref (ho))]) hx hb d_w_law_306 hl (by decide) rfl (fun ls hl => ?_)
  refine lv_aload_n hx hb d_w_law_308 rfl (lv_at hl 4 rfl) ?_
  refine lv_aload_n hx hb d_w_law_309 rfl (lv_at hl 2 rfl) ?_
  refine lv_iload hx hb d_w_law_310 (lv_at hl 1 rfl) ?_
  refine q_iconst hx hb d_w_law_312 ?_
  refine q_iadd hx hb d_w_law_313 ?_
  refine ql_sld cx hw (by omega) (by omega) (by omega) d_w_law_314 ?_
  refine km_v hw (rl_J cx hw hl.1 (cj_free l D g cI Z H.size (sx xs (i + 1)) hS.1 (sx_r xs _)) gw_m_free rfl rfl hd_m_free ⟨by decide, by decide⟩ rfl rfl (Nat.le_of_ble_eq_true rfl) d_w_law_315 ⟨by show _ ≤ 1075; omega, by show _ ≤ 10854; omega⟩) (fun Z1 H locs hm hw => ?_)
  have hm : mP_free Z (sx xs (i + 1)) Z1 := hm
  obtain ⟨ek, hI2, hS2⟩ := ag_free (sx_r xs _) hI hS hp hm
  refine lv_aload_n hx hb d_w_law_318 rfl (lv_at hl 4 rfl) ?_
  refine km_i hw (rl_J cx hw hl.1 (cj_thrown l D g cI Z1 H.size) gw_m_thrown rfl rfl hd_m_thrown ⟨by decide, by decide⟩ rfl rfl (Nat.le_of_ble_eq_true rfl) d_w_law_319 ⟨by show _ ≤ 1075; omega, by show _ ≤ 10854; omega⟩) (fun r3 Z9 H locs hm9 hw => ?_)
  obtain ⟨hr9, hu9⟩ := hm9
  subst hr9
  rw [hu9] at hw
  refine lv_iload hx hb d_w_law_322 (lv_at hl 0 rfl) ?_
  refine lv_icmp_eq (tgt := 329) hx hb d_w_law_324 (by decide) (fun _ => ?_) (fun c9 => absurd (by rw [ek]) c9)
  refine lv_goto (tgt := 1183) hx hb d_w_law_329 (by decide) ?_
  exact kk X' Z1 f' H locs ls hw hI2 hS2 (lv_sub hl [1, 2, 3, 4, 5] rfl)
set_option maxHeartbeats 4000000 in
set_option maxRecDepth 100000 in
theorem lc_drop {p : Program} {e : Env} {s : State} {m : MethodId} {below : List Frame} {meth : Method} {c : Code} {H : Heap} {locs : List Loc} {cells slots : Nat} {Q : State → Prop} {ho b L : Nat} {xs : Nat → Int32} {ls : Array Slot} {D : va_G} {h g : Nat → Nat} {cI cL : ClassId} {X Z : St} {f : Nat → Int64} {i : Int} (l : Launch) (hlt : l.stackTraces = false) (cx : CxL p s m meth c D cI cL b L xs) (hw : KwL D h g cI cL ho s X Z f H locs) (hI : Inv X) (hS : Sim X Z) (hl : lv_has ls 8 [(4, .int (zI (i))), (0, .ref (b)), (1, .ref (h 0)), (2, .ref (g 0)), (3, .ref (ho))]) (h0 : 0 ≤ i) (h1 : i + 5 ≤ L) (hL : L ≤ 2560) (hc9 : cells + 1 ≤ 1075) (hs9 : slots + 6 ≤ 10854)
    (kk : ∀ (X' Z' : St) (f' : Nat → Int64) (H' : Heap) (locs' : List Loc) (ls' : Array Slot), KwL D h g cI cL ho s X' Z' f' H' locs' → Inv X' → Sim X' Z' → lv_has ls' 8 [(4, .int (zI (i))), (0, .ref (b)), (1, .ref (h 0)), (2, .ref (g 0)), (3, .ref (ho))] → W p l e room_1 s m #[Value.ref b] below meth c H' locs' (cells + 1) (slots + 6) Q (F0 m 1183 ls' [])) : W p l e room_1 s m #[Value.ref b] below meth c H locs cells slots Q (F0 m 332 ls []) := by
  have hx := cx.1
  have hb := cx.2.1
  refine lv_aload_n hx hb d_w_law_332 rfl (lv_at hl 2 rfl) ?_
  refine lv_aload_n hx hb d_w_law_333 rfl (lv_at hl 1 rfl) ?_
  refine lv_iload hx hb d_w_law_334 (lv_at hl 0 rfl) ?_
  refine q_iconst hx hb d_w_law_336 ?_
  refine q_iadd hx hb d_w_law_337 ?_
  refine ql_sld cx hw (by omega) (by omega) (by omega) d_w_law_338 ?_
  refine kl_h hw (rl_S cx hw hl.1 (h_drop l hlt D h cI cL ho X f H.size (sx xs (i + 1)) hI.1 (sx_r xs _)) gk_w_drop rfl rfl hd_w_drop ⟨by decide, by decide⟩ rfl rfl (Nat.le_of_ble_eq_true rfl) d_w_law_339 ⟨by show _ ≤ 1075; omega, by show _ ≤ 10854; omega⟩) (fun r X' f' H locs hp hw => ?_)
  obtain ⟨k, rfl, hp⟩ := hp
  refine lv_istore (lv' := [(5, .int (zI (k))), (4, .int (zI (i))), (0, .ref (b)), (1, .ref (h 0)), (2, .ref (g 0)), (3, .ref (ho))]) hx hb d_w_law_342 hl (by decide) rfl (fun ls hl => ?_)
  refine lv_aload_n hx hb d_w_law_344 rfl (lv_at hl 4 rfl) ?_
  refine lv_aload_n hx hb d_w_law_345 rfl (lv_at hl 2 rfl) ?_
  refine lv_iload hx hb d_w_law_346 (lv_at hl 1 rfl) ?_
  refine q_iconst hx hb d_w_law_348 ?_
  refine q_iadd hx hb d_w_law_349 ?_
  refine ql_sld cx hw (by omega) (by omega) (by omega) d_w_law_350 ?_
  refine km_v hw (rl_J cx hw hl.1 (cj_drop l D g cI Z H.size (sx xs (i + 1)) hS.1 (sx_r xs _)) gw_m_drop rfl rfl hd_m_drop ⟨by decide, by decide⟩ rfl rfl (Nat.le_of_ble_eq_true rfl) d_w_law_351 ⟨by show _ ≤ 1075; omega, by show _ ≤ 10854; omega⟩) (fun Z1 H locs hm hw => ?_)
  have hm : mP_drop Z (sx xs (i + 1)) Z1 := hm
  obtain ⟨ek, hI2, hS2⟩ := ag_drop (sx_r xs _) hI hS hp hm
  refine lv_aload_n hx hb d_w_law_354 rfl (lv_at hl 4 rfl) ?_
  refine km_i hw (rl_J cx hw hl.1 (cj_thrown l D g cI Z1 H.size) gw_m_thrown rfl rfl hd_m_thrown ⟨by decide, by decide⟩ rfl rfl (Nat.le_of_ble_eq_true rfl) d_w_law_355 ⟨by show _ ≤ 1075; omega, by show _ ≤ 10854; omega⟩) (fun r3 Z9 H locs hm9 hw => ?_)
  obtain ⟨hr9, hu9⟩ := hm9
  subst hr9
  rw [hu9] at hw
  refine lv_iload hx hb d_w_law_358 (lv_at hl 0 rfl) ?_
  refine lv_icmp_eq (tgt := 365) hx hb d_w_law_360 (by decide) (fun _ => ?_) (fun c9 => absurd (by rw [ek]) c9)
  refine lv_goto (tgt := 1183) hx hb d_w_law_365 (by decide) ?_
  exact kk X' Z1 f' H locs ls hw hI2 hS2 (lv_sub hl [1, 2, 3, 4, 5] rfl)
set_option maxHeartbeats 4000000 in
set_option maxRecDepth 100000 in
theorem lc_post {p : Program} {e : Env} {s : State} {m : MethodId} {below : List Frame} {meth : Method} {c : Code} {H : Heap} {locs : List Loc} {cells slots : Nat} {Q : State → Prop} {ho b L : Nat} {xs : Nat → Int32} {ls : Array Slot} {D : va_G} {h g : Nat → Nat} {cI cL : ClassId} {X Z : St} {f : Nat → Int64} {i : Int} (l : Launch) (hlt : l.stackTraces = false) (cx : CxL p s m meth c D cI cL b L xs) (hw : KwL D h g cI cL ho s X Z f H locs) (hI : Inv X) (hS : Sim X Z) (hl : lv_has ls 8 [(4, .int (zI (i))), (0, .ref (b)), (1, .ref (h 0)), (2, .ref (g 0)), (3, .ref (ho))]) (h0 : 0 ≤ i) (h1 : i + 5 ≤ L) (hL : L ≤ 2560) (hc9 : cells + 1 ≤ 1075) (hs9 : slots + 6 ≤ 10854)
    (kk : ∀ (X' Z' : St) (f' : Nat → Int64) (H' : Heap) (locs' : List Loc) (ls' : Array Slot), KwL D h g cI cL ho s X' Z' f' H' locs' → Inv X' → Sim X' Z' → lv_has ls' 8 [(4, .int (zI (i))), (0, .ref (b)), (1, .ref (h 0)), (2, .ref (g 0)), (3, .ref (ho))] → W p l e room_1 s m #[Value.ref b] below meth c H' locs' (cells + 1) (slots + 6) Q (F0 m 1183 ls' [])) : W p l e room_1 s m #[Value.ref b] below meth c H locs cells slots Q (F0 m 368 ls []) := by
  have hx := cx.1
  have hb := cx.2.1
  refine lv_aload_n hx hb d_w_law_368 rfl (lv_at hl 2 rfl) ?_
  refine lv_aload_n hx hb d_w_law_369 rfl (lv_at hl 1 rfl) ?_
  refine lv_iload hx hb d_w_law_370 (lv_at hl 0 rfl) ?_
  refine q_iconst hx hb d_w_law_372 ?_
  refine q_iadd hx hb d_w_law_373 ?_
  refine ql_sld cx hw (by omega) (by omega) (by omega) d_w_law_374 ?_
  refine lv_aload_n hx hb d_w_law_375 rfl (lv_at hl 1 rfl) ?_
  refine lv_iload hx hb d_w_law_376 (lv_at hl 0 rfl) ?_
  refine q_iconst hx hb d_w_law_378 ?_
  refine q_iadd hx hb d_w_law_379 ?_
  refine ql_sld cx hw (by omega) (by omega) (by omega) d_w_law_380 ?_
  refine kl_h hw (rl_S cx hw hl.1 (h_post l hlt D h cI cL ho X f H.size (sx xs (i + 1)) (sx xs (i + 2)) hI.1 (sx_r xs _) (sx_r xs _) (inv_bnd hI) (inv_lt hI)) gk_w_post rfl rfl hd_w_post ⟨by decide, by decide⟩ rfl rfl (Nat.le_of_ble_eq_true rfl) d_w_law_381 ⟨by show _ ≤ 1075; omega, by show _ ≤ 10854; omega⟩) (fun r X' f' H locs hp hw => ?_)
  obtain ⟨k, rfl, hp⟩ := hp
  refine lv_istore (lv' := [(5, .int (zI (k))), (4, .int (zI (i))), (0, .ref (b)), (1, .ref (h 0)), (2, .ref (g 0)), (3, .ref (ho))]) hx hb d_w_law_384 hl (by decide) rfl (fun ls hl => ?_)
  refine lv_aload_n hx hb d_w_law_386 rfl (lv_at hl 4 rfl) ?_
  refine lv_aload_n hx hb d_w_law_387 rfl (lv_at hl 2 rfl) ?_
  refine lv_iload hx hb d_w_law_388 (lv_at hl 1 rfl) ?_
  refine q_iconst hx hb d_w_law_390 ?_
  refine q_iadd hx hb d_w_law_391 ?_
  refine ql_sld cx hw (by omega) (by omega) (by omega) d_w_law_392 ?_
  refine lv_aload_n hx hb d_w_law_393 rfl (lv_at hl 2 rfl) ?_
  refine lv_iload hx hb d_w_law_394 (lv_at hl 1 rfl) ?_
  refine q_iconst hx hb d_w_law_396 ?_
  refine q_iadd hx hb d_w_law_397 ?_
  refine ql_sld cx hw (by omega) (by omega) (by omega) d_w_law_398 ?_
  refine km_v hw (rl_J cx hw hl.1 (cj_post l D g cI Z H.size (sx xs (i + 1)) (sx xs (i + 2)) hS.1 (sx_r xs _) (sx_r xs _) (sim_lt hI hS)) gw_m_post rfl rfl hd_m_post ⟨by decide, by decide⟩ rfl rfl (Nat.le_of_ble_eq_true rfl) d_w_law_399 ⟨by show _ ≤ 1075; omega, by show _ ≤ 10854; omega⟩) (fun Z1 H locs hm hw => ?_)
  have hm : mP_post Z (sx xs (i + 1)) (sx xs (i + 2)) Z1 := hm
  obtain ⟨ek, hI2, hS2⟩ := ag_post (sx_r xs _) (sx_r xs _) hI hS hp hm
  refine lv_aload_n hx hb d_w_law_402 rfl (lv_at hl 4 rfl) ?_
  refine km_i hw (rl_J cx hw hl.1 (cj_thrown l D g cI Z1 H.size) gw_m_thrown rfl rfl hd_m_thrown ⟨by decide, by decide⟩ rfl rfl (Nat.le_of_ble_eq_true rfl) d_w_law_403 ⟨by show _ ≤ 1075; omega, by show _ ≤ 10854; omega⟩) (fun r3 Z9 H locs hm9 hw => ?_)
  obtain ⟨hr9, hu9⟩ := hm9
  subst hr9
  rw [hu9] at hw
  refine lv_iload hx hb d_w_law_406 (lv_at hl 0 rfl) ?_
  refine lv_icmp_eq (tgt := 413) hx hb d_w_law_408 (by decide) (fun _ => ?_) (fun c9 => absurd (by rw [ek]) c9)
  refine lv_goto (tgt := 1183) hx hb d_w_law_413 (by decide) ?_
  exact kk X' Z1 f' H locs ls hw hI2 hS2 (lv_sub hl [1, 2, 3, 4, 5] rfl)
set_option maxHeartbeats 4000000 in
set_option maxRecDepth 100000 in
theorem lc_reverse {p : Program} {e : Env} {s : State} {m : MethodId} {below : List Frame} {meth : Method} {c : Code} {H : Heap} {locs : List Loc} {cells slots : Nat} {Q : State → Prop} {ho b L : Nat} {xs : Nat → Int32} {ls : Array Slot} {D : va_G} {h g : Nat → Nat} {cI cL : ClassId} {X Z : St} {f : Nat → Int64} {i : Int} (l : Launch) (hlt : l.stackTraces = false) (cx : CxL p s m meth c D cI cL b L xs) (hw : KwL D h g cI cL ho s X Z f H locs) (hI : Inv X) (hS : Sim X Z) (hl : lv_has ls 8 [(4, .int (zI (i))), (0, .ref (b)), (1, .ref (h 0)), (2, .ref (g 0)), (3, .ref (ho))]) (h0 : 0 ≤ i) (h1 : i + 5 ≤ L) (hL : L ≤ 2560) (hc9 : cells + 1 ≤ 1075) (hs9 : slots + 6 ≤ 10854)
    (kk : ∀ (X' Z' : St) (f' : Nat → Int64) (H' : Heap) (locs' : List Loc) (ls' : Array Slot), KwL D h g cI cL ho s X' Z' f' H' locs' → Inv X' → Sim X' Z' → lv_has ls' 8 [(4, .int (zI (i))), (0, .ref (b)), (1, .ref (h 0)), (2, .ref (g 0)), (3, .ref (ho))] → W p l e room_1 s m #[Value.ref b] below meth c H' locs' (cells + 1) (slots + 6) Q (F0 m 1183 ls' [])) : W p l e room_1 s m #[Value.ref b] below meth c H locs cells slots Q (F0 m 416 ls []) := by
  have hx := cx.1
  have hb := cx.2.1
  refine lv_aload_n hx hb d_w_law_416 rfl (lv_at hl 2 rfl) ?_
  refine lv_aload_n hx hb d_w_law_417 rfl (lv_at hl 1 rfl) ?_
  refine lv_iload hx hb d_w_law_418 (lv_at hl 0 rfl) ?_
  refine q_iconst hx hb d_w_law_420 ?_
  refine q_iadd hx hb d_w_law_421 ?_
  refine ql_sld cx hw (by omega) (by omega) (by omega) d_w_law_422 ?_
  refine lv_aload_n hx hb d_w_law_423 rfl (lv_at hl 1 rfl) ?_
  refine lv_iload hx hb d_w_law_424 (lv_at hl 0 rfl) ?_
  refine q_iconst hx hb d_w_law_426 ?_
  refine q_iadd hx hb d_w_law_427 ?_
  refine ql_sld cx hw (by omega) (by omega) (by omega) d_w_law_428 ?_
  refine lv_aload_n hx hb d_w_law_429 rfl (lv_at hl 4 rfl) ?_
  refine kl_h hw (rl_S cx hw hl.1 (h_reverse l hlt D h cI cL ho X f H.size (sx xs (i + 1)) (sx xs (i + 2)) hI.1 (sx_r xs _) (sx_r xs _) (inv_bnd hI) (inv_le hI)) gk_w_reverse rfl rfl hd_w_reverse ⟨by decide, by decide⟩ rfl rfl (Nat.le_of_ble_eq_true rfl) d_w_law_430 ⟨by show _ ≤ 1075; omega, by show _ ≤ 10854; omega⟩) (fun r X' f' H locs hp hw => ?_)
  obtain ⟨k, rfl, hp⟩ := hp
  refine lv_istore (lv' := [(5, .int (zI (k))), (4, .int (zI (i))), (0, .ref (b)), (1, .ref (h 0)), (2, .ref (g 0)), (3, .ref (ho))]) hx hb d_w_law_433 hl (by decide) rfl (fun ls hl => ?_)
  refine lv_aload_n hx hb d_w_law_435 rfl (lv_at hl 4 rfl) ?_
  refine lv_aload_n hx hb d_w_law_436 rfl (lv_at hl 2 rfl) ?_
  refine lv_iload hx hb d_w_law_437 (lv_at hl 1 rfl) ?_
  refine q_iconst hx hb d_w_law_439 ?_
  refine q_iadd hx hb d_w_law_440 ?_
  refine ql_sld cx hw (by omega) (by omega) (by omega) d_w_law_441 ?_
  refine lv_aload_n hx hb d_w_law_442 rfl (lv_at hl 2 rfl) ?_
  refine lv_iload hx hb d_w_law_443 (lv_at hl 1 rfl) ?_
  refine q_iconst hx hb d_w_law_445 ?_
  refine q_iadd hx hb d_w_law_446 ?_
  refine ql_sld cx hw (by omega) (by omega) (by omega) d_w_law_447 ?_
  refine km_i hw (rl_J cx hw hl.1 (cj_reverse l D g cI Z H.size (sx xs (i + 1)) (sx xs (i + 2)) hS.1 (sx_r xs _) (sx_r xs _) (sim_le hI hS)) gw_m_reverse rfl rfl hd_m_reverse ⟨by decide, by decide⟩ rfl rfl (Nat.le_of_ble_eq_true rfl) d_w_law_448 ⟨by show _ ≤ 1075; omega, by show _ ≤ 10854; omega⟩) (fun r2 Z1 H locs hm hw => ?_)
  have hm : mP_reverse Z (sx xs (i + 1)) (sx xs (i + 2)) r2 Z1 := hm
  obtain ⟨ek, eo, hI2, hS2⟩ := ag_reverse (sx_r xs _) (sx_r xs _) hI hS hp hm
  refine lv_istore (lv' := [(6, .int (r2)), (5, .int (zI (k))), (4, .int (zI (i))), (0, .ref (b)), (1, .ref (h 0)), (2, .ref (g 0)), (3, .ref (ho))]) hx hb d_w_law_451 hl (by decide) rfl (fun ls hl => ?_)
  refine lv_aload_n hx hb d_w_law_453 rfl (lv_at hl 5 rfl) ?_
  refine km_i hw (rl_J cx hw hl.1 (cj_thrown l D g cI Z1 H.size) gw_m_thrown rfl rfl hd_m_thrown ⟨by decide, by decide⟩ rfl rfl (Nat.le_of_ble_eq_true rfl) d_w_law_454 ⟨by show _ ≤ 1075; omega, by show _ ≤ 10854; omega⟩) (fun r3 Z9 H locs hm9 hw => ?_)
  obtain ⟨hr9, hu9⟩ := hm9
  subst hr9
  rw [hu9] at hw
  refine lv_iload hx hb d_w_law_457 (lv_at hl 1 rfl) ?_
  refine lv_icmp_eq (tgt := 464) hx hb d_w_law_459 (by decide) (fun _ => ?_) (fun c9 => absurd (by rw [ek]) c9)
  refine lv_iload hx hb d_w_law_464 (lv_at hl 1 rfl) ?_
  refine lv_if_ne (tgt := 481) hx hb d_w_law_466 (by decide) (fun _ => ?_) (fun c9 => ?_)
  · refine lv_goto (tgt := 1183) hx hb d_w_law_481 (by decide) ?_
    exact kk X' Z1 f' H locs ls hw hI2 hS2 (lv_sub hl [2, 3, 4, 5, 6] rfl)
  · have hk0 : k = 0 := by
      have z := rgj_s3 hS2.1
      rw [ek] at z
      exact (zI_eq (b := 0) ⟨by omega, by omega⟩ ⟨by decide, by decide⟩).mp (c9.trans zI_0.symm)
    refine lv_aload_n hx hb d_w_law_469 rfl (lv_at hl 6 rfl) ?_
    refine q_iconst hx hb d_w_law_470 ?_
    refine ql_out cx hw d_w_law_471 ?_
    refine lv_iload hx hb d_w_law_472 (lv_at hl 0 rfl) ?_
    refine lv_i2l (v := r2.toInt64) hx hb d_w_law_474 rfl ?_
    refine W.lcmp hx hb d_w_law_475 ?_
    refine lv_if_eq (tgt := 481) hx hb d_w_law_476 (by decide) (fun _ => ?_) (fun c9 => absurd ((lg_cmp_eq _ _).mpr (eo hk0)) c9)
    refine lv_goto (tgt := 1183) hx hb d_w_law_481 (by decide) ?_
    exact kk X' Z1 f' H locs ls hw hI2 hS2 (lv_sub hl [2, 3, 4, 5, 6] rfl)
set_option maxHeartbeats 4000000 in
set_option maxRecDepth 100000 in
theorem lc_undo {p : Program} {e : Env} {s : State} {m : MethodId} {below : List Frame} {meth : Method} {c : Code} {H : Heap} {locs : List Loc} {cells slots : Nat} {Q : State → Prop} {ho b L : Nat} {xs : Nat → Int32} {ls : Array Slot} {D : va_G} {h g : Nat → Nat} {cI cL : ClassId} {X Z : St} {f : Nat → Int64} {i : Int} (l : Launch) (hlt : l.stackTraces = false) (cx : CxL p s m meth c D cI cL b L xs) (hw : KwL D h g cI cL ho s X Z f H locs) (hI : Inv X) (hS : Sim X Z) (hl : lv_has ls 8 [(4, .int (zI (i))), (0, .ref (b)), (1, .ref (h 0)), (2, .ref (g 0)), (3, .ref (ho))]) (h0 : 0 ≤ i) (h1 : i + 5 ≤ L) (hL : L ≤ 2560) (hc9 : cells + 1 ≤ 1075) (hs9 : slots + 6 ≤ 10854)
    (kk : ∀ (X' Z' : St) (f' : Nat → Int64) (H' : Heap) (locs' : List Loc) (ls' : Array Slot), KwL D h g cI cL ho s X' Z' f' H' locs' → Inv X' → Sim X' Z' → lv_has ls' 8 [(4, .int (zI (i))), (0, .ref (b)), (1, .ref (h 0)), (2, .ref (g 0)), (3, .ref (ho))] → W p l e room_1 s m #[Value.ref b] below meth c H' locs' (cells + 1) (slots + 6) Q (F0 m 1183 ls' [])) : W p l e room_1 s m #[Value.ref b] below meth c H locs cells slots Q (F0 m 484 ls []) := by
  have hx := cx.1
  have hb := cx.2.1
  refine lv_aload_n hx hb d_w_law_484 rfl (lv_at hl 2 rfl) ?_
  refine lv_aload_n hx hb d_w_law_485 rfl (lv_at hl 1 rfl) ?_
  refine lv_iload hx hb d_w_law_486 (lv_at hl 0 rfl) ?_
  refine q_iconst hx hb d_w_law_488 ?_
  refine q_iadd hx hb d_w_law_489 ?_
  refine ql_sld cx hw (by omega) (by omega) (by omega) d_w_law_490 ?_
  refine lv_aload_n hx hb d_w_law_491 rfl (lv_at hl 4 rfl) ?_
  refine kl_h hw (rl_S cx hw hl.1 (h_undo l hlt D h cI cL ho X f H.size (sx xs (i + 1)) hI.1 (sx_r xs _) (inv_bnd hI) (inv_room hI _)) gk_w_undo rfl rfl hd_w_undo ⟨by decide, by decide⟩ rfl rfl (Nat.le_of_ble_eq_true rfl) d_w_law_492 ⟨by show _ ≤ 1075; omega, by show _ ≤ 10854; omega⟩) (fun r X' f' H locs hp hw => ?_)
  obtain ⟨k, rfl, hp⟩ := hp
  refine lv_istore (lv' := [(5, .int (zI (k))), (4, .int (zI (i))), (0, .ref (b)), (1, .ref (h 0)), (2, .ref (g 0)), (3, .ref (ho))]) hx hb d_w_law_495 hl (by decide) rfl (fun ls hl => ?_)
  refine lv_aload_n hx hb d_w_law_497 rfl (lv_at hl 4 rfl) ?_
  refine lv_aload_n hx hb d_w_law_498 rfl (lv_at hl 2 rfl) ?_
  refine lv_iload hx hb d_w_law_499 (lv_at hl 1 rfl) ?_
  refine q_iconst hx hb d_w_law_501 ?_
  refine q_iadd hx hb d_w_law_502 ?_
  refine ql_sld cx hw (by omega) (by omega) (by omega) d_w_law_503 ?_
  refine km_i hw (rl_J cx hw hl.1 (cj_undo l D g cI Z H.size (sx xs (i + 1)) hS.1 (sx_r xs _) (sim_le hI hS) (sim_ord hI hS) (sim_by hI hS)) gw_m_undo rfl rfl hd_m_undo ⟨by decide, by decide⟩ rfl rfl (Nat.le_of_ble_eq_true rfl) d_w_law_504 ⟨by show _ ≤ 1075; omega, by show _ ≤ 10854; omega⟩) (fun r2 Z1 H locs hm hw => ?_)
  have hm : mP_undo Z (sx xs (i + 1)) r2 Z1 := hm
  obtain ⟨ek, eo, hI2, hS2⟩ := ag_undo (sx_r xs _) hI hS hp hm
  refine lv_istore (lv' := [(6, .int (r2)), (5, .int (zI (k))), (4, .int (zI (i))), (0, .ref (b)), (1, .ref (h 0)), (2, .ref (g 0)), (3, .ref (ho))]) hx hb d_w_law_507 hl (by decide) rfl (fun ls hl => ?_)
  refine lv_aload_n hx hb d_w_law_509 rfl (lv_at hl 5 rfl) ?_
  refine km_i hw (rl_J cx hw hl.1 (cj_thrown l D g cI Z1 H.size) gw_m_thrown rfl rfl hd_m_thrown ⟨by decide, by decide⟩ rfl rfl (Nat.le_of_ble_eq_true rfl) d_w_law_510 ⟨by show _ ≤ 1075; omega, by show _ ≤ 10854; omega⟩) (fun r3 Z9 H locs hm9 hw => ?_)
  obtain ⟨hr9, hu9⟩ := hm9
  subst hr9
  rw [hu9] at hw
  refine lv_iload hx hb d_w_law_513 (lv_at hl 1 rfl) ?_
  refine lv_icmp_eq (tgt := 520) hx hb d_w_law_515 (by decide) (fun _ => ?_) (fun c9 => absurd (by rw [ek]) c9)
  refine lv_iload hx hb d_w_law_520 (lv_at hl 1 rfl) ?_
  refine lv_if_ne (tgt := 537) hx hb d_w_law_522 (by decide) (fun _ => ?_) (fun c9 => ?_)
  · refine lv_goto (tgt := 1183) hx hb d_w_law_537 (by decide) ?_
    exact kk X' Z1 f' H locs ls hw hI2 hS2 (lv_sub hl [2, 3, 4, 5, 6] rfl)
  · have hk0 : k = 0 := by
      have z := rgj_s3 hS2.1
      rw [ek] at z
      exact (zI_eq (b := 0) ⟨by omega, by omega⟩ ⟨by decide, by decide⟩).mp (c9.trans zI_0.symm)
    refine lv_aload_n hx hb d_w_law_525 rfl (lv_at hl 6 rfl) ?_
    refine q_iconst hx hb d_w_law_526 ?_
    refine ql_out cx hw d_w_law_527 ?_
    refine lv_iload hx hb d_w_law_528 (lv_at hl 0 rfl) ?_
    refine lv_i2l (v := r2.toInt64) hx hb d_w_law_530 rfl ?_
    refine W.lcmp hx hb d_w_law_531 ?_
    refine lv_if_eq (tgt := 537) hx hb d_w_law_532 (by decide) (fun _ => ?_) (fun c9 => absurd ((lg_cmp_eq _ _).mpr (eo hk0)) c9)
    refine lv_goto (tgt := 1183) hx hb d_w_law_537 (by decide) ?_
    exact kk X' Z1 f' H locs ls hw hI2 hS2 (lv_sub hl [2, 3, 4, 5, 6] rfl)
set_option maxHeartbeats 4000000 in
set_option maxRecDepth 100000 in
theorem lc_close {p : Program} {e : Env} {s : State} {m : MethodId} {below : List Frame} {meth : Method} {c : Code} {H : Heap} {locs : List Loc} {cells slots : Nat} {Q : State → Prop} {ho b L : Nat} {xs : Nat → Int32} {ls : Array Slot} {D : va_G} {h g : Nat → Nat} {cI cL : ClassId} {X Z : St} {f : Nat → Int64} {i : Int} (l : Launch) (hlt : l.stackTraces = false) (cx : CxL p s m meth c D cI cL b L xs) (hw : KwL D h g cI cL ho s X Z f H locs) (hI : Inv X) (hS : Sim X Z) (hl : lv_has ls 8 [(4, .int (zI (i))), (0, .ref (b)), (1, .ref (h 0)), (2, .ref (g 0)), (3, .ref (ho))]) (h0 : 0 ≤ i) (h1 : i + 5 ≤ L) (hL : L ≤ 2560) (hc9 : cells + 1 ≤ 1075) (hs9 : slots + 6 ≤ 10854)
    (kk : ∀ (X' Z' : St) (f' : Nat → Int64) (H' : Heap) (locs' : List Loc) (ls' : Array Slot), KwL D h g cI cL ho s X' Z' f' H' locs' → Inv X' → Sim X' Z' → lv_has ls' 8 [(4, .int (zI (i))), (0, .ref (b)), (1, .ref (h 0)), (2, .ref (g 0)), (3, .ref (ho))] → W p l e room_1 s m #[Value.ref b] below meth c H' locs' (cells + 1) (slots + 6) Q (F0 m 1183 ls' [])) : W p l e room_1 s m #[Value.ref b] below meth c H locs cells slots Q (F0 m 540 ls []) := by
  have hx := cx.1
  have hb := cx.2.1
  refine lv_aload_n hx hb d_w_law_540 rfl (lv_at hl 2 rfl) ?_
  refine lv_aload_n hx hb d_w_law_541 rfl (lv_at hl 1 rfl) ?_
  refine lv_iload hx hb d_w_law_542 (lv_at hl 0 rfl) ?_
  refine q_iconst hx hb d_w_law_544 ?_
  refine q_iadd hx hb d_w_law_545 ?_
  refine ql_sld cx hw (by omega) (by omega) (by omega) d_w_law_546 ?_
  refine lv_aload_n hx hb d_w_law_547 rfl (lv_at hl 4 rfl) ?_
  refine kl_h hw (rl_S cx hw hl.1 (h_close l hlt D h cI cL ho X f H.size (sx xs (i + 1)) hI.1 (sx_r xs _)) gk_w_close rfl rfl hd_w_close ⟨by decide, by decide⟩ rfl rfl (Nat.le_of_ble_eq_true rfl) d_w_law_548 ⟨by show _ ≤ 1075; omega, by show _ ≤ 10854; omega⟩) (fun r X' f' H locs hp hw => ?_)
  obtain ⟨k, rfl, hp⟩ := hp
  refine lv_istore (lv' := [(5, .int (zI (k))), (4, .int (zI (i))), (0, .ref (b)), (1, .ref (h 0)), (2, .ref (g 0)), (3, .ref (ho))]) hx hb d_w_law_551 hl (by decide) rfl (fun ls hl => ?_)
  refine lv_aload_n hx hb d_w_law_553 rfl (lv_at hl 4 rfl) ?_
  refine lv_aload_n hx hb d_w_law_554 rfl (lv_at hl 2 rfl) ?_
  refine lv_iload hx hb d_w_law_555 (lv_at hl 1 rfl) ?_
  refine q_iconst hx hb d_w_law_557 ?_
  refine q_iadd hx hb d_w_law_558 ?_
  refine ql_sld cx hw (by omega) (by omega) (by omega) d_w_law_559 ?_
  refine km_i hw (rl_J cx hw hl.1 (cj_close l D g cI Z H.size (sx xs (i + 1)) hS.1 (sx_r xs _)) gw_m_close rfl rfl hd_m_close ⟨by decide, by decide⟩ rfl rfl (Nat.le_of_ble_eq_true rfl) d_w_law_560 ⟨by show _ ≤ 1075; omega, by show _ ≤ 10854; omega⟩) (fun r2 Z1 H locs hm hw => ?_)
  have hm : mP_close Z (sx xs (i + 1)) r2 Z1 := hm
  obtain ⟨ek, eo, hI2, hS2⟩ := ag_close (sx_r xs _) hI hS hp hm
  refine lv_istore (lv' := [(6, .int (r2)), (5, .int (zI (k))), (4, .int (zI (i))), (0, .ref (b)), (1, .ref (h 0)), (2, .ref (g 0)), (3, .ref (ho))]) hx hb d_w_law_563 hl (by decide) rfl (fun ls hl => ?_)
  refine lv_aload_n hx hb d_w_law_565 rfl (lv_at hl 5 rfl) ?_
  refine km_i hw (rl_J cx hw hl.1 (cj_thrown l D g cI Z1 H.size) gw_m_thrown rfl rfl hd_m_thrown ⟨by decide, by decide⟩ rfl rfl (Nat.le_of_ble_eq_true rfl) d_w_law_566 ⟨by show _ ≤ 1075; omega, by show _ ≤ 10854; omega⟩) (fun r3 Z9 H locs hm9 hw => ?_)
  obtain ⟨hr9, hu9⟩ := hm9
  subst hr9
  rw [hu9] at hw
  refine lv_iload hx hb d_w_law_569 (lv_at hl 1 rfl) ?_
  refine lv_icmp_eq (tgt := 576) hx hb d_w_law_571 (by decide) (fun _ => ?_) (fun c9 => absurd (by rw [ek]) c9)
  refine lv_iload hx hb d_w_law_576 (lv_at hl 1 rfl) ?_
  refine lv_if_ne (tgt := 593) hx hb d_w_law_578 (by decide) (fun _ => ?_) (fun c9 => ?_)
  · refine lv_goto (tgt := 1183) hx hb d_w_law_593 (by decide) ?_
    exact kk X' Z1 f' H locs ls hw hI2 hS2 (lv_sub hl [2, 3, 4, 5, 6] rfl)
  · have hk0 : k = 0 := by
      have z := rgj_s3 hS2.1
      rw [ek] at z
      exact (zI_eq (b := 0) ⟨by omega, by omega⟩ ⟨by decide, by decide⟩).mp (c9.trans zI_0.symm)
    refine lv_aload_n hx hb d_w_law_581 rfl (lv_at hl 6 rfl) ?_
    refine q_iconst hx hb d_w_law_582 ?_
    refine ql_out cx hw d_w_law_583 ?_
    refine lv_iload hx hb d_w_law_584 (lv_at hl 0 rfl) ?_
    refine lv_i2l (v := r2.toInt64) hx hb d_w_law_586 rfl ?_
    refine W.lcmp hx hb d_w_law_587 ?_
    refine lv_if_eq (tgt := 593) hx hb d_w_law_588 (by decide) (fun _ => ?_) (fun c9 => absurd ((lg_cmp_eq _ _).mpr (eo hk0)) c9)
    refine lv_goto (tgt := 1183) hx hb d_w_law_593 (by decide) ?_
    exact kk X' Z1 f' H locs ls hw hI2 hS2 (lv_sub hl [2, 3, 4, 5, 6] rfl)
set_option maxHeartbeats 4000000 in
set_option maxRecDepth 100000 in
theorem lc_carry {p : Program} {e : Env} {s : State} {m : MethodId} {below : List Frame} {meth : Method} {c : Code} {H : Heap} {locs : List Loc} {cells slots : Nat} {Q : State → Prop} {ho b L : Nat} {xs : Nat → Int32} {ls : Array Slot} {D : va_G} {h g : Nat → Nat} {cI cL : ClassId} {X Z : St} {f : Nat → Int64} {i : Int} (l : Launch) (hlt : l.stackTraces = false) (cx : CxL p s m meth c D cI cL b L xs) (hw : KwL D h g cI cL ho s X Z f H locs) (hI : Inv X) (hS : Sim X Z) (hl : lv_has ls 8 [(4, .int (zI (i))), (0, .ref (b)), (1, .ref (h 0)), (2, .ref (g 0)), (3, .ref (ho))]) (h0 : 0 ≤ i) (h1 : i + 5 ≤ L) (hL : L ≤ 2560) (hc9 : cells + 1 ≤ 1075) (hs9 : slots + 6 ≤ 10854)
    (kk : ∀ (X' Z' : St) (f' : Nat → Int64) (H' : Heap) (locs' : List Loc) (ls' : Array Slot), KwL D h g cI cL ho s X' Z' f' H' locs' → Inv X' → Sim X' Z' → lv_has ls' 8 [(4, .int (zI (i))), (0, .ref (b)), (1, .ref (h 0)), (2, .ref (g 0)), (3, .ref (ho))] → W p l e room_1 s m #[Value.ref b] below meth c H' locs' (cells + 1) (slots + 6) Q (F0 m 1183 ls' [])) : W p l e room_1 s m #[Value.ref b] below meth c H locs cells slots Q (F0 m 596 ls []) := by
  have hx := cx.1
  have hb := cx.2.1
  refine lv_aload_n hx hb d_w_law_596 rfl (lv_at hl 2 rfl) ?_
  refine lv_aload_n hx hb d_w_law_597 rfl (lv_at hl 1 rfl) ?_
  refine lv_iload hx hb d_w_law_598 (lv_at hl 0 rfl) ?_
  refine q_iconst hx hb d_w_law_600 ?_
  refine q_iadd hx hb d_w_law_601 ?_
  refine ql_sld cx hw (by omega) (by omega) (by omega) d_w_law_602 ?_
  refine lv_aload_n hx hb d_w_law_603 rfl (lv_at hl 1 rfl) ?_
  refine lv_iload hx hb d_w_law_604 (lv_at hl 0 rfl) ?_
  refine q_iconst hx hb d_w_law_606 ?_
  refine q_iadd hx hb d_w_law_607 ?_
  refine ql_sld cx hw (by omega) (by omega) (by omega) d_w_law_608 ?_
  refine lv_aload_n hx hb d_w_law_609 rfl (lv_at hl 4 rfl) ?_
  refine kl_h hw (rl_S cx hw hl.1 (h_carry l hlt D h cI cL ho X f H.size (sx xs (i + 1)) (sx xs (i + 2)) hI.1 (sx_r xs _) (sx_r xs _)) gk_w_carry rfl rfl hd_w_carry ⟨by decide, by decide⟩ rfl rfl (Nat.le_of_ble_eq_true rfl) d_w_law_610 ⟨by show _ ≤ 1075; omega, by show _ ≤ 10854; omega⟩) (fun r X' f' H locs hp hw => ?_)
  obtain ⟨k, rfl, hp⟩ := hp
  refine lv_istore (lv' := [(5, .int (zI (k))), (4, .int (zI (i))), (0, .ref (b)), (1, .ref (h 0)), (2, .ref (g 0)), (3, .ref (ho))]) hx hb d_w_law_613 hl (by decide) rfl (fun ls hl => ?_)
  refine lv_aload_n hx hb d_w_law_615 rfl (lv_at hl 4 rfl) ?_
  refine lv_aload_n hx hb d_w_law_616 rfl (lv_at hl 2 rfl) ?_
  refine lv_iload hx hb d_w_law_617 (lv_at hl 1 rfl) ?_
  refine q_iconst hx hb d_w_law_619 ?_
  refine q_iadd hx hb d_w_law_620 ?_
  refine ql_sld cx hw (by omega) (by omega) (by omega) d_w_law_621 ?_
  refine lv_aload_n hx hb d_w_law_622 rfl (lv_at hl 2 rfl) ?_
  refine lv_iload hx hb d_w_law_623 (lv_at hl 1 rfl) ?_
  refine q_iconst hx hb d_w_law_625 ?_
  refine q_iadd hx hb d_w_law_626 ?_
  refine ql_sld cx hw (by omega) (by omega) (by omega) d_w_law_627 ?_
  refine km_l hw (rl_J cx hw hl.1 (cj_carry l D g cI Z H.size (sx xs (i + 1)) (sx xs (i + 2)) hS.1 (sx_r xs _) (sx_r xs _)) gw_m_carry rfl rfl hd_m_carry ⟨by decide, by decide⟩ rfl rfl (Nat.le_of_ble_eq_true rfl) d_w_law_628 ⟨by show _ ≤ 1075; omega, by show _ ≤ 10854; omega⟩) (fun r2 Z1 H locs hm hw => ?_)
  have hm : mP_carry Z (sx xs (i + 1)) (sx xs (i + 2)) r2 Z1 := hm
  obtain ⟨ek, eo, hI2, hS2⟩ := ag_carry (sx_r xs _) (sx_r xs _) hI hS hp hm
  refine lv_lstore (lv' := [(6, .long (r2)), (5, .int (zI (k))), (4, .int (zI (i))), (0, .ref (b)), (1, .ref (h 0)), (2, .ref (g 0)), (3, .ref (ho))]) hx hb d_w_law_631 hl (by decide) rfl (fun ls hl => ?_)
  refine lv_aload_n hx hb d_w_law_633 rfl (lv_at hl 5 rfl) ?_
  refine km_i hw (rl_J cx hw hl.1 (cj_thrown l D g cI Z1 H.size) gw_m_thrown rfl rfl hd_m_thrown ⟨by decide, by decide⟩ rfl rfl (Nat.le_of_ble_eq_true rfl) d_w_law_634 ⟨by show _ ≤ 1075; omega, by show _ ≤ 10854; omega⟩) (fun r3 Z9 H locs hm9 hw => ?_)
  obtain ⟨hr9, hu9⟩ := hm9
  subst hr9
  rw [hu9] at hw
  refine lv_iload hx hb d_w_law_637 (lv_at hl 1 rfl) ?_
  refine lv_icmp_eq (tgt := 644) hx hb d_w_law_639 (by decide) (fun _ => ?_) (fun c9 => absurd (by rw [ek]) c9)
  refine lv_iload hx hb d_w_law_644 (lv_at hl 1 rfl) ?_
  refine lv_if_ne (tgt := 660) hx hb d_w_law_646 (by decide) (fun _ => ?_) (fun c9 => ?_)
  · refine lv_goto (tgt := 1183) hx hb d_w_law_660 (by decide) ?_
    exact kk X' Z1 f' H locs ls hw hI2 hS2 (lv_sub hl [2, 3, 4, 5, 6] rfl)
  · have hk0 : k = 0 := by
      have z := rgj_s3 hS2.1
      rw [ek] at z
      exact (zI_eq (b := 0) ⟨by omega, by omega⟩ ⟨by decide, by decide⟩).mp (c9.trans zI_0.symm)
    refine lv_aload_n hx hb d_w_law_649 rfl (lv_at hl 6 rfl) ?_
    refine q_iconst hx hb d_w_law_650 ?_
    refine ql_out cx hw d_w_law_651 ?_
    refine lv_lload hx hb d_w_law_652 (lv_at hl 0 rfl) ?_
    refine W.lcmp hx hb d_w_law_654 ?_
    refine lv_if_eq (tgt := 660) hx hb d_w_law_655 (by decide) (fun _ => ?_) (fun c9 => absurd ((lg_cmp_eq _ _).mpr (eo hk0)) c9)
    refine lv_goto (tgt := 1183) hx hb d_w_law_660 (by decide) ?_
    exact kk X' Z1 f' H locs ls hw hI2 hS2 (lv_sub hl [2, 3, 4, 5, 6] rfl)
set_option maxHeartbeats 4000000 in
set_option maxRecDepth 100000 in
theorem lc_stock {p : Program} {e : Env} {s : State} {m : MethodId} {below : List Frame} {meth : Method} {c : Code} {H : Heap} {locs : List Loc} {cells slots : Nat} {Q : State → Prop} {ho b L : Nat} {xs : Nat → Int32} {ls : Array Slot} {D : va_G} {h g : Nat → Nat} {cI cL : ClassId} {X Z : St} {f : Nat → Int64} {i : Int} (l : Launch) (hlt : l.stackTraces = false) (cx : CxL p s m meth c D cI cL b L xs) (hw : KwL D h g cI cL ho s X Z f H locs) (hI : Inv X) (hS : Sim X Z) (hl : lv_has ls 8 [(4, .int (zI (i))), (0, .ref (b)), (1, .ref (h 0)), (2, .ref (g 0)), (3, .ref (ho))]) (h0 : 0 ≤ i) (h1 : i + 5 ≤ L) (hL : L ≤ 2560) (hc9 : cells + 1 ≤ 1075) (hs9 : slots + 6 ≤ 10854)
    (kk : ∀ (X' Z' : St) (f' : Nat → Int64) (H' : Heap) (locs' : List Loc) (ls' : Array Slot), KwL D h g cI cL ho s X' Z' f' H' locs' → Inv X' → Sim X' Z' → lv_has ls' 8 [(4, .int (zI (i))), (0, .ref (b)), (1, .ref (h 0)), (2, .ref (g 0)), (3, .ref (ho))] → W p l e room_1 s m #[Value.ref b] below meth c H' locs' (cells + 1) (slots + 6) Q (F0 m 1183 ls' [])) : W p l e room_1 s m #[Value.ref b] below meth c H locs cells slots Q (F0 m 663 ls []) := by
  have hx := cx.1
  have hb := cx.2.1
  refine lv_aload_n hx hb d_w_law_663 rfl (lv_at hl 2 rfl) ?_
  refine lv_aload_n hx hb d_w_law_664 rfl (lv_at hl 1 rfl) ?_
  refine lv_iload hx hb d_w_law_665 (lv_at hl 0 rfl) ?_
  refine q_iconst hx hb d_w_law_667 ?_
  refine q_iadd hx hb d_w_law_668 ?_
  refine ql_sld cx hw (by omega) (by omega) (by omega) d_w_law_669 ?_
  refine lv_aload_n hx hb d_w_law_670 rfl (lv_at hl 1 rfl) ?_
  refine lv_iload hx hb d_w_law_671 (lv_at hl 0 rfl) ?_
  refine q_iconst hx hb d_w_law_673 ?_
  refine q_iadd hx hb d_w_law_674 ?_
  refine ql_sld cx hw (by omega) (by omega) (by omega) d_w_law_675 ?_
  refine lv_aload_n hx hb d_w_law_676 rfl (lv_at hl 4 rfl) ?_
  refine kl_h hw (rl_S cx hw hl.1 (h_stock l hlt D h cI cL ho X f H.size (sx xs (i + 1)) (sx xs (i + 2)) hI.1 (sx_r xs _) (sx_r xs _)) gk_w_stock rfl rfl hd_w_stock ⟨by decide, by decide⟩ rfl rfl (Nat.le_of_ble_eq_true rfl) d_w_law_677 ⟨by show _ ≤ 1075; omega, by show _ ≤ 10854; omega⟩) (fun r X' f' H locs hp hw => ?_)
  obtain ⟨k, rfl, hp⟩ := hp
  refine lv_istore (lv' := [(5, .int (zI (k))), (4, .int (zI (i))), (0, .ref (b)), (1, .ref (h 0)), (2, .ref (g 0)), (3, .ref (ho))]) hx hb d_w_law_680 hl (by decide) rfl (fun ls hl => ?_)
  refine lv_aload_n hx hb d_w_law_682 rfl (lv_at hl 4 rfl) ?_
  refine lv_aload_n hx hb d_w_law_683 rfl (lv_at hl 2 rfl) ?_
  refine lv_iload hx hb d_w_law_684 (lv_at hl 1 rfl) ?_
  refine q_iconst hx hb d_w_law_686 ?_
  refine q_iadd hx hb d_w_law_687 ?_
  refine ql_sld cx hw (by omega) (by omega) (by omega) d_w_law_688 ?_
  refine lv_aload_n hx hb d_w_law_689 rfl (lv_at hl 2 rfl) ?_
  refine lv_iload hx hb d_w_law_690 (lv_at hl 1 rfl) ?_
  refine q_iconst hx hb d_w_law_692 ?_
  refine q_iadd hx hb d_w_law_693 ?_
  refine ql_sld cx hw (by omega) (by omega) (by omega) d_w_law_694 ?_
  refine km_l hw (rl_J cx hw hl.1 (cj_stock l D g cI Z H.size (sx xs (i + 1)) (sx xs (i + 2)) hS.1 (sx_r xs _) (sx_r xs _)) gw_m_stock rfl rfl hd_m_stock ⟨by decide, by decide⟩ rfl rfl (Nat.le_of_ble_eq_true rfl) d_w_law_695 ⟨by show _ ≤ 1075; omega, by show _ ≤ 10854; omega⟩) (fun r2 Z1 H locs hm hw => ?_)
  have hm : mP_stock Z (sx xs (i + 1)) (sx xs (i + 2)) r2 Z1 := hm
  obtain ⟨ek, eo, hI2, hS2⟩ := ag_stock (sx_r xs _) (sx_r xs _) hI hS hp hm
  refine lv_lstore (lv' := [(6, .long (r2)), (5, .int (zI (k))), (4, .int (zI (i))), (0, .ref (b)), (1, .ref (h 0)), (2, .ref (g 0)), (3, .ref (ho))]) hx hb d_w_law_698 hl (by decide) rfl (fun ls hl => ?_)
  refine lv_aload_n hx hb d_w_law_700 rfl (lv_at hl 5 rfl) ?_
  refine km_i hw (rl_J cx hw hl.1 (cj_thrown l D g cI Z1 H.size) gw_m_thrown rfl rfl hd_m_thrown ⟨by decide, by decide⟩ rfl rfl (Nat.le_of_ble_eq_true rfl) d_w_law_701 ⟨by show _ ≤ 1075; omega, by show _ ≤ 10854; omega⟩) (fun r3 Z9 H locs hm9 hw => ?_)
  obtain ⟨hr9, hu9⟩ := hm9
  subst hr9
  rw [hu9] at hw
  refine lv_iload hx hb d_w_law_704 (lv_at hl 1 rfl) ?_
  refine lv_icmp_eq (tgt := 711) hx hb d_w_law_706 (by decide) (fun _ => ?_) (fun c9 => absurd (by rw [ek]) c9)
  refine lv_iload hx hb d_w_law_711 (lv_at hl 1 rfl) ?_
  refine lv_if_ne (tgt := 727) hx hb d_w_law_713 (by decide) (fun _ => ?_) (fun c9 => ?_)
  · refine lv_goto (tgt := 1183) hx hb d_w_law_727 (by decide) ?_
    exact kk X' Z1 f' H locs ls hw hI2 hS2 (lv_sub hl [2, 3, 4, 5, 6] rfl)
  · have hk0 : k = 0 := by
      have z := rgj_s3 hS2.1
      rw [ek] at z
      exact (zI_eq (b := 0) ⟨by omega, by omega⟩ ⟨by decide, by decide⟩).mp (c9.trans zI_0.symm)
    refine lv_aload_n hx hb d_w_law_716 rfl (lv_at hl 6 rfl) ?_
    refine q_iconst hx hb d_w_law_717 ?_
    refine ql_out cx hw d_w_law_718 ?_
    refine lv_lload hx hb d_w_law_719 (lv_at hl 0 rfl) ?_
    refine W.lcmp hx hb d_w_law_721 ?_
    refine lv_if_eq (tgt := 727) hx hb d_w_law_722 (by decide) (fun _ => ?_) (fun c9 => absurd ((lg_cmp_eq _ _).mpr (eo hk0)) c9)
    refine lv_goto (tgt := 1183) hx hb d_w_law_727 (by decide) ?_
    exact kk X' Z1 f' H locs ls hw hI2 hS2 (lv_sub hl [2, 3, 4, 5, 6] rfl)
set_option maxHeartbeats 4000000 in
set_option maxRecDepth 100000 in
theorem lc_upTo {p : Program} {e : Env} {s : State} {m : MethodId} {below : List Frame} {meth : Method} {c : Code} {H : Heap} {locs : List Loc} {cells slots : Nat} {Q : State → Prop} {ho b L : Nat} {xs : Nat → Int32} {ls : Array Slot} {D : va_G} {h g : Nat → Nat} {cI cL : ClassId} {X Z : St} {f : Nat → Int64} {i : Int} (l : Launch) (hlt : l.stackTraces = false) (cx : CxL p s m meth c D cI cL b L xs) (hw : KwL D h g cI cL ho s X Z f H locs) (hI : Inv X) (hS : Sim X Z) (hl : lv_has ls 8 [(4, .int (zI (i))), (0, .ref (b)), (1, .ref (h 0)), (2, .ref (g 0)), (3, .ref (ho))]) (h0 : 0 ≤ i) (h1 : i + 5 ≤ L) (hL : L ≤ 2560) (hc9 : cells + 1 ≤ 1075) (hs9 : slots + 6 ≤ 10854)
    (kk : ∀ (X' Z' : St) (f' : Nat → Int64) (H' : Heap) (locs' : List Loc) (ls' : Array Slot), KwL D h g cI cL ho s X' Z' f' H' locs' → Inv X' → Sim X' Z' → lv_has ls' 8 [(4, .int (zI (i))), (0, .ref (b)), (1, .ref (h 0)), (2, .ref (g 0)), (3, .ref (ho))] → W p l e room_1 s m #[Value.ref b] below meth c H' locs' (cells + 1) (slots + 6) Q (F0 m 1183 ls' [])) : W p l e room_1 s m #[Value.ref b] below meth c H locs cells slots Q (F0 m 730 ls []) := by
  have hx := cx.1
  have hb := cx.2.1
  refine lv_aload_n hx hb d_w_law_730 rfl (lv_at hl 2 rfl) ?_
  refine lv_aload_n hx hb d_w_law_731 rfl (lv_at hl 1 rfl) ?_
  refine lv_iload hx hb d_w_law_732 (lv_at hl 0 rfl) ?_
  refine q_iconst hx hb d_w_law_734 ?_
  refine q_iadd hx hb d_w_law_735 ?_
  refine ql_sld cx hw (by omega) (by omega) (by omega) d_w_law_736 ?_
  refine lv_aload_n hx hb d_w_law_737 rfl (lv_at hl 1 rfl) ?_
  refine lv_iload hx hb d_w_law_738 (lv_at hl 0 rfl) ?_
  refine q_iconst hx hb d_w_law_740 ?_
  refine q_iadd hx hb d_w_law_741 ?_
  refine ql_sld cx hw (by omega) (by omega) (by omega) d_w_law_742 ?_
  refine lv_aload_n hx hb d_w_law_743 rfl (lv_at hl 1 rfl) ?_
  refine lv_iload hx hb d_w_law_744 (lv_at hl 0 rfl) ?_
  refine q_iconst hx hb d_w_law_746 ?_
  refine q_iadd hx hb d_w_law_747 ?_
  refine ql_sld cx hw (by omega) (by omega) (by omega) d_w_law_748 ?_
  refine lv_aload_n hx hb d_w_law_749 rfl (lv_at hl 4 rfl) ?_
  refine kl_h hw (rl_S cx hw hl.1 (h_upTo l hlt D h cI cL ho X f H.size (sx xs (i + 1)) (sx xs (i + 2)) (sx xs (i + 3)) hI.1 (sx_r xs _) (sx_r xs _) (sx_r xs _)) gk_w_upTo rfl rfl hd_w_upTo ⟨by decide, by decide⟩ rfl rfl (Nat.le_of_ble_eq_true rfl) d_w_law_750 ⟨by show _ ≤ 1075; omega, by show _ ≤ 10854; omega⟩) (fun r X' f' H locs hp hw => ?_)
  obtain ⟨k, rfl, hp⟩ := hp
  refine lv_istore (lv' := [(5, .int (zI (k))), (4, .int (zI (i))), (0, .ref (b)), (1, .ref (h 0)), (2, .ref (g 0)), (3, .ref (ho))]) hx hb d_w_law_753 hl (by decide) rfl (fun ls hl => ?_)
  refine lv_aload_n hx hb d_w_law_755 rfl (lv_at hl 4 rfl) ?_
  refine lv_aload_n hx hb d_w_law_756 rfl (lv_at hl 2 rfl) ?_
  refine lv_iload hx hb d_w_law_757 (lv_at hl 1 rfl) ?_
  refine q_iconst hx hb d_w_law_759 ?_
  refine q_iadd hx hb d_w_law_760 ?_
  refine ql_sld cx hw (by omega) (by omega) (by omega) d_w_law_761 ?_
  refine lv_aload_n hx hb d_w_law_762 rfl (lv_at hl 2 rfl) ?_
  refine lv_iload hx hb d_w_law_763 (lv_at hl 1 rfl) ?_
  refine q_iconst hx hb d_w_law_765 ?_
  refine q_iadd hx hb d_w_law_766 ?_
  refine ql_sld cx hw (by omega) (by omega) (by omega) d_w_law_767 ?_
  refine lv_aload_n hx hb d_w_law_768 rfl (lv_at hl 2 rfl) ?_
  refine lv_iload hx hb d_w_law_769 (lv_at hl 1 rfl) ?_
  refine q_iconst hx hb d_w_law_771 ?_
  refine q_iadd hx hb d_w_law_772 ?_
  refine ql_sld cx hw (by omega) (by omega) (by omega) d_w_law_773 ?_
  refine km_l hw (rl_J cx hw hl.1 (cj_upTo l D g cI Z H.size (sx xs (i + 1)) (sx xs (i + 2)) (sx xs (i + 3)) hS.1 (sx_r xs _) (sx_r xs _) (sx_r xs _)) gw_m_upTo rfl rfl hd_m_upTo ⟨by decide, by decide⟩ rfl rfl (Nat.le_of_ble_eq_true rfl) d_w_law_774 ⟨by show _ ≤ 1075; omega, by show _ ≤ 10854; omega⟩) (fun r2 Z1 H locs hm hw => ?_)
  have hm : mP_upTo Z (sx xs (i + 1)) (sx xs (i + 2)) (sx xs (i + 3)) r2 Z1 := hm
  obtain ⟨ek, eo, hI2, hS2⟩ := ag_upTo (sx_r xs _) (sx_r xs _) (sx_r xs _) hI hS hp hm
  refine lv_lstore (lv' := [(6, .long (r2)), (5, .int (zI (k))), (4, .int (zI (i))), (0, .ref (b)), (1, .ref (h 0)), (2, .ref (g 0)), (3, .ref (ho))]) hx hb d_w_law_777 hl (by decide) rfl (fun ls hl => ?_)
  refine lv_aload_n hx hb d_w_law_779 rfl (lv_at hl 5 rfl) ?_
  refine km_i hw (rl_J cx hw hl.1 (cj_thrown l D g cI Z1 H.size) gw_m_thrown rfl rfl hd_m_thrown ⟨by decide, by decide⟩ rfl rfl (Nat.le_of_ble_eq_true rfl) d_w_law_780 ⟨by show _ ≤ 1075; omega, by show _ ≤ 10854; omega⟩) (fun r3 Z9 H locs hm9 hw => ?_)
  obtain ⟨hr9, hu9⟩ := hm9
  subst hr9
  rw [hu9] at hw
  refine lv_iload hx hb d_w_law_783 (lv_at hl 1 rfl) ?_
  refine lv_icmp_eq (tgt := 790) hx hb d_w_law_785 (by decide) (fun _ => ?_) (fun c9 => absurd (by rw [ek]) c9)
  refine lv_iload hx hb d_w_law_790 (lv_at hl 1 rfl) ?_
  refine lv_if_ne (tgt := 806) hx hb d_w_law_792 (by decide) (fun _ => ?_) (fun c9 => ?_)
  · refine lv_goto (tgt := 1183) hx hb d_w_law_806 (by decide) ?_
    exact kk X' Z1 f' H locs ls hw hI2 hS2 (lv_sub hl [2, 3, 4, 5, 6] rfl)
  · have hk0 : k = 0 := by
      have z := rgj_s3 hS2.1
      rw [ek] at z
      exact (zI_eq (b := 0) ⟨by omega, by omega⟩ ⟨by decide, by decide⟩).mp (c9.trans zI_0.symm)
    refine lv_aload_n hx hb d_w_law_795 rfl (lv_at hl 6 rfl) ?_
    refine q_iconst hx hb d_w_law_796 ?_
    refine ql_out cx hw d_w_law_797 ?_
    refine lv_lload hx hb d_w_law_798 (lv_at hl 0 rfl) ?_
    refine W.lcmp hx hb d_w_law_800 ?_
    refine lv_if_eq (tgt := 806) hx hb d_w_law_801 (by decide) (fun _ => ?_) (fun c9 => absurd ((lg_cmp_eq _ _).mpr (eo hk0)) c9)
    refine lv_goto (tgt := 1183) hx hb d_w_law_806 (by decide) ?_
    exact kk X' Z1 f' H locs ls hw hI2 hS2 (lv_sub hl [2, 3, 4, 5, 6] rfl)
set_option maxHeartbeats 4000000 in
set_option maxRecDepth 100000 in
theorem lc_available {p : Program} {e : Env} {s : State} {m : MethodId} {below : List Frame} {meth : Method} {c : Code} {H : Heap} {locs : List Loc} {cells slots : Nat} {Q : State → Prop} {ho b L : Nat} {xs : Nat → Int32} {ls : Array Slot} {D : va_G} {h g : Nat → Nat} {cI cL : ClassId} {X Z : St} {f : Nat → Int64} {i : Int} (l : Launch) (hlt : l.stackTraces = false) (cx : CxL p s m meth c D cI cL b L xs) (hw : KwL D h g cI cL ho s X Z f H locs) (hI : Inv X) (hS : Sim X Z) (hl : lv_has ls 8 [(4, .int (zI (i))), (0, .ref (b)), (1, .ref (h 0)), (2, .ref (g 0)), (3, .ref (ho))]) (h0 : 0 ≤ i) (h1 : i + 5 ≤ L) (hL : L ≤ 2560) (hc9 : cells + 1 ≤ 1075) (hs9 : slots + 6 ≤ 10854)
    (kk : ∀ (X' Z' : St) (f' : Nat → Int64) (H' : Heap) (locs' : List Loc) (ls' : Array Slot), KwL D h g cI cL ho s X' Z' f' H' locs' → Inv X' → Sim X' Z' → lv_has ls' 8 [(4, .int (zI (i))), (0, .ref (b)), (1, .ref (h 0)), (2, .ref (g 0)), (3, .ref (ho))] → W p l e room_1 s m #[Value.ref b] below meth c H' locs' (cells + 1) (slots + 6) Q (F0 m 1183 ls' [])) : W p l e room_1 s m #[Value.ref b] below meth c H locs cells slots Q (F0 m 809 ls []) := by
  have hx := cx.1
  have hb := cx.2.1
  refine lv_aload_n hx hb d_w_law_809 rfl (lv_at hl 2 rfl) ?_
  refine lv_aload_n hx hb d_w_law_810 rfl (lv_at hl 1 rfl) ?_
  refine lv_iload hx hb d_w_law_811 (lv_at hl 0 rfl) ?_
  refine q_iconst hx hb d_w_law_813 ?_
  refine q_iadd hx hb d_w_law_814 ?_
  refine ql_sld cx hw (by omega) (by omega) (by omega) d_w_law_815 ?_
  refine lv_aload_n hx hb d_w_law_816 rfl (lv_at hl 1 rfl) ?_
  refine lv_iload hx hb d_w_law_817 (lv_at hl 0 rfl) ?_
  refine q_iconst hx hb d_w_law_819 ?_
  refine q_iadd hx hb d_w_law_820 ?_
  refine ql_sld cx hw (by omega) (by omega) (by omega) d_w_law_821 ?_
  refine lv_aload_n hx hb d_w_law_822 rfl (lv_at hl 4 rfl) ?_
  refine kl_h hw (rl_S cx hw hl.1 (h_available l hlt D h cI cL ho X f H.size (sx xs (i + 1)) (sx xs (i + 2)) hI.1 (sx_r xs _) (sx_r xs _)) gk_w_available rfl rfl hd_w_available ⟨by decide, by decide⟩ rfl rfl (Nat.le_of_ble_eq_true rfl) d_w_law_823 ⟨by show _ ≤ 1075; omega, by show _ ≤ 10854; omega⟩) (fun r X' f' H locs hp hw => ?_)
  obtain ⟨k, rfl, hp⟩ := hp
  refine lv_istore (lv' := [(5, .int (zI (k))), (4, .int (zI (i))), (0, .ref (b)), (1, .ref (h 0)), (2, .ref (g 0)), (3, .ref (ho))]) hx hb d_w_law_826 hl (by decide) rfl (fun ls hl => ?_)
  refine lv_aload_n hx hb d_w_law_828 rfl (lv_at hl 4 rfl) ?_
  refine lv_aload_n hx hb d_w_law_829 rfl (lv_at hl 2 rfl) ?_
  refine lv_iload hx hb d_w_law_830 (lv_at hl 1 rfl) ?_
  refine q_iconst hx hb d_w_law_832 ?_
  refine q_iadd hx hb d_w_law_833 ?_
  refine ql_sld cx hw (by omega) (by omega) (by omega) d_w_law_834 ?_
  refine lv_aload_n hx hb d_w_law_835 rfl (lv_at hl 2 rfl) ?_
  refine lv_iload hx hb d_w_law_836 (lv_at hl 1 rfl) ?_
  refine q_iconst hx hb d_w_law_838 ?_
  refine q_iadd hx hb d_w_law_839 ?_
  refine ql_sld cx hw (by omega) (by omega) (by omega) d_w_law_840 ?_
  refine km_l hw (rl_J cx hw hl.1 (cj_available l D g cI Z H.size (sx xs (i + 1)) (sx xs (i + 2)) hS.1 (sx_r xs _) (sx_r xs _)) gw_m_available rfl rfl hd_m_available ⟨by decide, by decide⟩ rfl rfl (Nat.le_of_ble_eq_true rfl) d_w_law_841 ⟨by show _ ≤ 1075; omega, by show _ ≤ 10854; omega⟩) (fun r2 Z1 H locs hm hw => ?_)
  have hm : mP_available Z (sx xs (i + 1)) (sx xs (i + 2)) r2 Z1 := hm
  obtain ⟨ek, eo, hI2, hS2⟩ := ag_available (sx_r xs _) (sx_r xs _) hI hS hp hm
  refine lv_lstore (lv' := [(6, .long (r2)), (5, .int (zI (k))), (4, .int (zI (i))), (0, .ref (b)), (1, .ref (h 0)), (2, .ref (g 0)), (3, .ref (ho))]) hx hb d_w_law_844 hl (by decide) rfl (fun ls hl => ?_)
  refine lv_aload_n hx hb d_w_law_846 rfl (lv_at hl 5 rfl) ?_
  refine km_i hw (rl_J cx hw hl.1 (cj_thrown l D g cI Z1 H.size) gw_m_thrown rfl rfl hd_m_thrown ⟨by decide, by decide⟩ rfl rfl (Nat.le_of_ble_eq_true rfl) d_w_law_847 ⟨by show _ ≤ 1075; omega, by show _ ≤ 10854; omega⟩) (fun r3 Z9 H locs hm9 hw => ?_)
  obtain ⟨hr9, hu9⟩ := hm9
  subst hr9
  rw [hu9] at hw
  refine lv_iload hx hb d_w_law_850 (lv_at hl 1 rfl) ?_
  refine lv_icmp_eq (tgt := 857) hx hb d_w_law_852 (by decide) (fun _ => ?_) (fun c9 => absurd (by rw [ek]) c9)
  refine lv_iload hx hb d_w_law_857 (lv_at hl 1 rfl) ?_
  refine lv_if_ne (tgt := 873) hx hb d_w_law_859 (by decide) (fun _ => ?_) (fun c9 => ?_)
  · refine lv_goto (tgt := 1183) hx hb d_w_law_873 (by decide) ?_
    exact kk X' Z1 f' H locs ls hw hI2 hS2 (lv_sub hl [2, 3, 4, 5, 6] rfl)
  · have hk0 : k = 0 := by
      have z := rgj_s3 hS2.1
      rw [ek] at z
      exact (zI_eq (b := 0) ⟨by omega, by omega⟩ ⟨by decide, by decide⟩).mp (c9.trans zI_0.symm)
    refine lv_aload_n hx hb d_w_law_862 rfl (lv_at hl 6 rfl) ?_
    refine q_iconst hx hb d_w_law_863 ?_
    refine ql_out cx hw d_w_law_864 ?_
    refine lv_lload hx hb d_w_law_865 (lv_at hl 0 rfl) ?_
    refine W.lcmp hx hb d_w_law_867 ?_
    refine lv_if_eq (tgt := 873) hx hb d_w_law_868 (by decide) (fun _ => ?_) (fun c9 => absurd ((lg_cmp_eq _ _).mpr (eo hk0)) c9)
    refine lv_goto (tgt := 1183) hx hb d_w_law_873 (by decide) ?_
    exact kk X' Z1 f' H locs ls hw hI2 hS2 (lv_sub hl [2, 3, 4, 5, 6] rfl)
set_option maxHeartbeats 4000000 in
set_option maxRecDepth 100000 in
theorem lc_at {p : Program} {e : Env} {s : State} {m : MethodId} {below : List Frame} {meth : Method} {c : Code} {H : Heap} {locs : List Loc} {cells slots : Nat} {Q : State → Prop} {ho b L : Nat} {xs : Nat → Int32} {ls : Array Slot} {D : va_G} {h g : Nat → Nat} {cI cL : ClassId} {X Z : St} {f : Nat → Int64} {i : Int} (l : Launch) (hlt : l.stackTraces = false) (cx : CxL p s m meth c D cI cL b L xs) (hw : KwL D h g cI cL ho s X Z f H locs) (hI : Inv X) (hS : Sim X Z) (hl : lv_has ls 8 [(4, .int (zI (i))), (0, .ref (b)), (1, .ref (h 0)), (2, .ref (g 0)), (3, .ref (ho))]) (h0 : 0 ≤ i) (h1 : i + 5 ≤ L) (hL : L ≤ 2560) (hc9 : cells + 1 ≤ 1075) (hs9 : slots + 6 ≤ 10854)
    (kk : ∀ (X' Z' : St) (f' : Nat → Int64) (H' : Heap) (locs' : List Loc) (ls' : Array Slot), KwL D h g cI cL ho s X' Z' f' H' locs' → Inv X' → Sim X' Z' → lv_has ls' 8 [(4, .int (zI (i))), (0, .ref (b)), (1, .ref (h 0)), (2, .ref (g 0)), (3, .ref (ho))] → W p l e room_1 s m #[Value.ref b] below meth c H' locs' (cells + 1) (slots + 6) Q (F0 m 1183 ls' [])) : W p l e room_1 s m #[Value.ref b] below meth c H locs cells slots Q (F0 m 876 ls []) := by
  have hx := cx.1
  have hb := cx.2.1
  refine lv_aload_n hx hb d_w_law_876 rfl (lv_at hl 2 rfl) ?_
  refine lv_aload_n hx hb d_w_law_877 rfl (lv_at hl 1 rfl) ?_
  refine lv_iload hx hb d_w_law_878 (lv_at hl 0 rfl) ?_
  refine q_iconst hx hb d_w_law_880 ?_
  refine q_iadd hx hb d_w_law_881 ?_
  refine ql_sld cx hw (by omega) (by omega) (by omega) d_w_law_882 ?_
  refine lv_aload_n hx hb d_w_law_883 rfl (lv_at hl 1 rfl) ?_
  refine lv_iload hx hb d_w_law_884 (lv_at hl 0 rfl) ?_
  refine q_iconst hx hb d_w_law_886 ?_
  refine q_iadd hx hb d_w_law_887 ?_
  refine ql_sld cx hw (by omega) (by omega) (by omega) d_w_law_888 ?_
  refine lv_aload_n hx hb d_w_law_889 rfl (lv_at hl 4 rfl) ?_
  refine kl_h hw (rl_S cx hw hl.1 (h_at l hlt D h cI cL ho X f H.size (sx xs (i + 1)) (sx xs (i + 2)) hI.1 (sx_r xs _) (sx_r xs _)) gk_w_at rfl rfl hd_w_at ⟨by decide, by decide⟩ rfl rfl (Nat.le_of_ble_eq_true rfl) d_w_law_890 ⟨by show _ ≤ 1075; omega, by show _ ≤ 10854; omega⟩) (fun r X' f' H locs hp hw => ?_)
  obtain ⟨k, rfl, hp⟩ := hp
  refine lv_istore (lv' := [(5, .int (zI (k))), (4, .int (zI (i))), (0, .ref (b)), (1, .ref (h 0)), (2, .ref (g 0)), (3, .ref (ho))]) hx hb d_w_law_893 hl (by decide) rfl (fun ls hl => ?_)
  refine lv_aload_n hx hb d_w_law_895 rfl (lv_at hl 4 rfl) ?_
  refine lv_aload_n hx hb d_w_law_896 rfl (lv_at hl 2 rfl) ?_
  refine lv_iload hx hb d_w_law_897 (lv_at hl 1 rfl) ?_
  refine q_iconst hx hb d_w_law_899 ?_
  refine q_iadd hx hb d_w_law_900 ?_
  refine ql_sld cx hw (by omega) (by omega) (by omega) d_w_law_901 ?_
  refine lv_aload_n hx hb d_w_law_902 rfl (lv_at hl 2 rfl) ?_
  refine lv_iload hx hb d_w_law_903 (lv_at hl 1 rfl) ?_
  refine q_iconst hx hb d_w_law_905 ?_
  refine q_iadd hx hb d_w_law_906 ?_
  refine ql_sld cx hw (by omega) (by omega) (by omega) d_w_law_907 ?_
  refine km_l hw (rl_J cx hw hl.1 (cj_at l D g cI Z H.size (sx xs (i + 1)) (sx xs (i + 2)) hS.1 (sx_r xs _) (sx_r xs _)) gw_m_at rfl rfl hd_m_at ⟨by decide, by decide⟩ rfl rfl (Nat.le_of_ble_eq_true rfl) d_w_law_908 ⟨by show _ ≤ 1075; omega, by show _ ≤ 10854; omega⟩) (fun r2 Z1 H locs hm hw => ?_)
  have hm : mP_at Z (sx xs (i + 1)) (sx xs (i + 2)) r2 Z1 := hm
  obtain ⟨ek, eo, hI2, hS2⟩ := ag_at (sx_r xs _) (sx_r xs _) hI hS hp hm
  refine lv_lstore (lv' := [(6, .long (r2)), (5, .int (zI (k))), (4, .int (zI (i))), (0, .ref (b)), (1, .ref (h 0)), (2, .ref (g 0)), (3, .ref (ho))]) hx hb d_w_law_911 hl (by decide) rfl (fun ls hl => ?_)
  refine lv_aload_n hx hb d_w_law_913 rfl (lv_at hl 5 rfl) ?_
  refine km_i hw (rl_J cx hw hl.1 (cj_thrown l D g cI Z1 H.size) gw_m_thrown rfl rfl hd_m_thrown ⟨by decide, by decide⟩ rfl rfl (Nat.le_of_ble_eq_true rfl) d_w_law_914 ⟨by show _ ≤ 1075; omega, by show _ ≤ 10854; omega⟩) (fun r3 Z9 H locs hm9 hw => ?_)
  obtain ⟨hr9, hu9⟩ := hm9
  subst hr9
  rw [hu9] at hw
  refine lv_iload hx hb d_w_law_917 (lv_at hl 1 rfl) ?_
  refine lv_icmp_eq (tgt := 924) hx hb d_w_law_919 (by decide) (fun _ => ?_) (fun c9 => absurd (by rw [ek]) c9)
  refine lv_iload hx hb d_w_law_924 (lv_at hl 1 rfl) ?_
  refine lv_if_ne (tgt := 940) hx hb d_w_law_926 (by decide) (fun _ => ?_) (fun c9 => ?_)
  · refine lv_goto (tgt := 1183) hx hb d_w_law_940 (by decide) ?_
    exact kk X' Z1 f' H locs ls hw hI2 hS2 (lv_sub hl [2, 3, 4, 5, 6] rfl)
  · have hk0 : k = 0 := by
      have z := rgj_s3 hS2.1
      rw [ek] at z
      exact (zI_eq (b := 0) ⟨by omega, by omega⟩ ⟨by decide, by decide⟩).mp (c9.trans zI_0.symm)
    refine lv_aload_n hx hb d_w_law_929 rfl (lv_at hl 6 rfl) ?_
    refine q_iconst hx hb d_w_law_930 ?_
    refine ql_out cx hw d_w_law_931 ?_
    refine lv_lload hx hb d_w_law_932 (lv_at hl 0 rfl) ?_
    refine W.lcmp hx hb d_w_law_934 ?_
    refine lv_if_eq (tgt := 940) hx hb d_w_law_935 (by decide) (fun _ => ?_) (fun c9 => absurd ((lg_cmp_eq _ _).mpr (eo hk0)) c9)
    refine lv_goto (tgt := 1183) hx hb d_w_law_940 (by decide) ?_
    exact kk X' Z1 f' H locs ls hw hI2 hS2 (lv_sub hl [2, 3, 4, 5, 6] rfl)
set_option maxHeartbeats 4000000 in
set_option maxRecDepth 100000 in
theorem lc_row {p : Program} {e : Env} {s : State} {m : MethodId} {below : List Frame} {meth : Method} {c : Code} {H : Heap} {locs : List Loc} {cells slots : Nat} {Q : State → Prop} {ho b L : Nat} {xs : Nat → Int32} {ls : Array Slot} {D : va_G} {h g : Nat → Nat} {cI cL : ClassId} {X Z : St} {f : Nat → Int64} {i : Int} (l : Launch) (hlt : l.stackTraces = false) (cx : CxL p s m meth c D cI cL b L xs) (hw : KwL D h g cI cL ho s X Z f H locs) (hI : Inv X) (hS : Sim X Z) (hl : lv_has ls 8 [(4, .int (zI (i))), (0, .ref (b)), (1, .ref (h 0)), (2, .ref (g 0)), (3, .ref (ho))]) (h0 : 0 ≤ i) (h1 : i + 5 ≤ L) (hL : L ≤ 2560) (hc9 : cells + 1 ≤ 1075) (hs9 : slots + 6 ≤ 10854)
    (kk : ∀ (X' Z' : St) (f' : Nat → Int64) (H' : Heap) (locs' : List Loc) (ls' : Array Slot), KwL D h g cI cL ho s X' Z' f' H' locs' → Inv X' → Sim X' Z' → lv_has ls' 8 [(4, .int (zI (i))), (0, .ref (b)), (1, .ref (h 0)), (2, .ref (g 0)), (3, .ref (ho))] → W p l e room_1 s m #[Value.ref b] below meth c H' locs' (cells + 1) (slots + 6) Q (F0 m 1183 ls' [])) : W p l e room_1 s m #[Value.ref b] below meth c H locs cells slots Q (F0 m 943 ls []) := by
  have hx := cx.1
  have hb := cx.2.1
  refine lv_aload_n hx hb d_w_law_943 rfl (lv_at hl 2 rfl) ?_
  refine lv_aload_n hx hb d_w_law_944 rfl (lv_at hl 1 rfl) ?_
  refine lv_iload hx hb d_w_law_945 (lv_at hl 0 rfl) ?_
  refine q_iconst hx hb d_w_law_947 ?_
  refine q_iadd hx hb d_w_law_948 ?_
  refine ql_sld cx hw (by omega) (by omega) (by omega) d_w_law_949 ?_
  refine lv_aload_n hx hb d_w_law_950 rfl (lv_at hl 1 rfl) ?_
  refine lv_iload hx hb d_w_law_951 (lv_at hl 0 rfl) ?_
  refine q_iconst hx hb d_w_law_953 ?_
  refine q_iadd hx hb d_w_law_954 ?_
  refine ql_sld cx hw (by omega) (by omega) (by omega) d_w_law_955 ?_
  refine lv_aload_n hx hb d_w_law_956 rfl (lv_at hl 1 rfl) ?_
  refine lv_iload hx hb d_w_law_957 (lv_at hl 0 rfl) ?_
  refine q_iconst hx hb d_w_law_959 ?_
  refine q_iadd hx hb d_w_law_960 ?_
  refine ql_sld cx hw (by omega) (by omega) (by omega) d_w_law_961 ?_
  refine lv_aload_n hx hb d_w_law_962 rfl (lv_at hl 4 rfl) ?_
  refine kl_h hw (rl_S cx hw hl.1 (h_row l hlt D h cI cL ho X f H.size (sx xs (i + 1)) (sx xs (i + 2)) (sx xs (i + 3)) hI.1 (sx_r xs _) (sx_r xs _) (sx_r xs _)) gk_w_row rfl rfl hd_w_row ⟨by decide, by decide⟩ rfl rfl (Nat.le_of_ble_eq_true rfl) d_w_law_963 ⟨by show _ ≤ 1075; omega, by show _ ≤ 10854; omega⟩) (fun r X' f' H locs hp hw => ?_)
  obtain ⟨k, rfl, hp⟩ := hp
  refine lv_istore (lv' := [(5, .int (zI (k))), (4, .int (zI (i))), (0, .ref (b)), (1, .ref (h 0)), (2, .ref (g 0)), (3, .ref (ho))]) hx hb d_w_law_966 hl (by decide) rfl (fun ls hl => ?_)
  refine lv_aload_n hx hb d_w_law_968 rfl (lv_at hl 4 rfl) ?_
  refine lv_aload_n hx hb d_w_law_969 rfl (lv_at hl 2 rfl) ?_
  refine lv_iload hx hb d_w_law_970 (lv_at hl 1 rfl) ?_
  refine q_iconst hx hb d_w_law_972 ?_
  refine q_iadd hx hb d_w_law_973 ?_
  refine ql_sld cx hw (by omega) (by omega) (by omega) d_w_law_974 ?_
  refine lv_aload_n hx hb d_w_law_975 rfl (lv_at hl 2 rfl) ?_
  refine lv_iload hx hb d_w_law_976 (lv_at hl 1 rfl) ?_
  refine q_iconst hx hb d_w_law_978 ?_
  refine q_iadd hx hb d_w_law_979 ?_
  refine ql_sld cx hw (by omega) (by omega) (by omega) d_w_law_980 ?_
  refine lv_aload_n hx hb d_w_law_981 rfl (lv_at hl 2 rfl) ?_
  refine lv_iload hx hb d_w_law_982 (lv_at hl 1 rfl) ?_
  refine q_iconst hx hb d_w_law_984 ?_
  refine q_iadd hx hb d_w_law_985 ?_
  refine ql_sld cx hw (by omega) (by omega) (by omega) d_w_law_986 ?_
  refine km_i hw (rl_J cx hw hl.1 (cj_row l D g cI Z H.size (sx xs (i + 1)) (sx xs (i + 2)) (sx xs (i + 3)) hS.1 (sx_r xs _) (sx_r xs _) (sx_r xs _)) gw_m_row rfl rfl hd_m_row ⟨by decide, by decide⟩ rfl rfl (Nat.le_of_ble_eq_true rfl) d_w_law_987 ⟨by show _ ≤ 1075; omega, by show _ ≤ 10854; omega⟩) (fun r2 Z1 H locs hm hw => ?_)
  have hm : mP_row Z (sx xs (i + 1)) (sx xs (i + 2)) (sx xs (i + 3)) r2 Z1 := hm
  obtain ⟨ek, eo, hI2, hS2⟩ := ag_row (sx_r xs _) (sx_r xs _) (sx_r xs _) hI hS hp hm
  refine lv_istore (lv' := [(6, .int (r2)), (5, .int (zI (k))), (4, .int (zI (i))), (0, .ref (b)), (1, .ref (h 0)), (2, .ref (g 0)), (3, .ref (ho))]) hx hb d_w_law_990 hl (by decide) rfl (fun ls hl => ?_)
  refine lv_aload_n hx hb d_w_law_992 rfl (lv_at hl 5 rfl) ?_
  refine km_i hw (rl_J cx hw hl.1 (cj_thrown l D g cI Z1 H.size) gw_m_thrown rfl rfl hd_m_thrown ⟨by decide, by decide⟩ rfl rfl (Nat.le_of_ble_eq_true rfl) d_w_law_993 ⟨by show _ ≤ 1075; omega, by show _ ≤ 10854; omega⟩) (fun r3 Z9 H locs hm9 hw => ?_)
  obtain ⟨hr9, hu9⟩ := hm9
  subst hr9
  rw [hu9] at hw
  refine lv_iload hx hb d_w_law_996 (lv_at hl 1 rfl) ?_
  refine lv_icmp_eq (tgt := 1003) hx hb d_w_law_998 (by decide) (fun _ => ?_) (fun c9 => absurd (by rw [ek]) c9)
  refine lv_iload hx hb d_w_law_1003 (lv_at hl 1 rfl) ?_
  refine lv_if_ne (tgt := 1020) hx hb d_w_law_1005 (by decide) (fun _ => ?_) (fun c9 => ?_)
  · refine lv_goto (tgt := 1183) hx hb d_w_law_1020 (by decide) ?_
    exact kk X' Z1 f' H locs ls hw hI2 hS2 (lv_sub hl [2, 3, 4, 5, 6] rfl)
  · have hk0 : k = 0 := by
      have z := rgj_s3 hS2.1
      rw [ek] at z
      exact (zI_eq (b := 0) ⟨by omega, by omega⟩ ⟨by decide, by decide⟩).mp (c9.trans zI_0.symm)
    refine lv_aload_n hx hb d_w_law_1008 rfl (lv_at hl 6 rfl) ?_
    refine q_iconst hx hb d_w_law_1009 ?_
    refine ql_out cx hw d_w_law_1010 ?_
    refine lv_iload hx hb d_w_law_1011 (lv_at hl 0 rfl) ?_
    refine lv_i2l (v := r2.toInt64) hx hb d_w_law_1013 rfl ?_
    refine W.lcmp hx hb d_w_law_1014 ?_
    refine lv_if_eq (tgt := 1020) hx hb d_w_law_1015 (by decide) (fun _ => ?_) (fun c9 => absurd ((lg_cmp_eq _ _).mpr (eo hk0)) c9)
    refine lv_goto (tgt := 1183) hx hb d_w_law_1020 (by decide) ?_
    exact kk X' Z1 f' H locs ls hw hI2 hS2 (lv_sub hl [2, 3, 4, 5, 6] rfl)
set_option maxHeartbeats 4000000 in
set_option maxRecDepth 100000 in
theorem lc_told {p : Program} {e : Env} {s : State} {m : MethodId} {below : List Frame} {meth : Method} {c : Code} {H : Heap} {locs : List Loc} {cells slots : Nat} {Q : State → Prop} {ho b L : Nat} {xs : Nat → Int32} {ls : Array Slot} {D : va_G} {h g : Nat → Nat} {cI cL : ClassId} {X Z : St} {f : Nat → Int64} {i : Int} (l : Launch) (hlt : l.stackTraces = false) (cx : CxL p s m meth c D cI cL b L xs) (hw : KwL D h g cI cL ho s X Z f H locs) (hI : Inv X) (hS : Sim X Z) (hl : lv_has ls 8 [(4, .int (zI (i))), (0, .ref (b)), (1, .ref (h 0)), (2, .ref (g 0)), (3, .ref (ho))]) (h0 : 0 ≤ i) (h1 : i + 5 ≤ L) (hL : L ≤ 2560) (hc9 : cells + 1 ≤ 1075) (hs9 : slots + 6 ≤ 10854)
    (kk : ∀ (X' Z' : St) (f' : Nat → Int64) (H' : Heap) (locs' : List Loc) (ls' : Array Slot), KwL D h g cI cL ho s X' Z' f' H' locs' → Inv X' → Sim X' Z' → lv_has ls' 8 [(4, .int (zI (i))), (0, .ref (b)), (1, .ref (h 0)), (2, .ref (g 0)), (3, .ref (ho))] → W p l e room_1 s m #[Value.ref b] below meth c H' locs' (cells + 1) (slots + 6) Q (F0 m 1183 ls' [])) : W p l e room_1 s m #[Value.ref b] below meth c H locs cells slots Q (F0 m 1023 ls []) := by
  have hx := cx.1
  have hb := cx.2.1
  refine lv_aload_n hx hb d_w_law_1023 rfl (lv_at hl 2 rfl) ?_
  refine lv_aload_n hx hb d_w_law_1024 rfl (lv_at hl 1 rfl) ?_
  refine lv_iload hx hb d_w_law_1025 (lv_at hl 0 rfl) ?_
  refine q_iconst hx hb d_w_law_1027 ?_
  refine q_iadd hx hb d_w_law_1028 ?_
  refine ql_sld cx hw (by omega) (by omega) (by omega) d_w_law_1029 ?_
  refine lv_aload_n hx hb d_w_law_1030 rfl (lv_at hl 1 rfl) ?_
  refine lv_iload hx hb d_w_law_1031 (lv_at hl 0 rfl) ?_
  refine q_iconst hx hb d_w_law_1033 ?_
  refine q_iadd hx hb d_w_law_1034 ?_
  refine ql_sld cx hw (by omega) (by omega) (by omega) d_w_law_1035 ?_
  refine lv_aload_n hx hb d_w_law_1036 rfl (lv_at hl 4 rfl) ?_
  refine kl_h hw (rl_S cx hw hl.1 (h_told l hlt D h cI cL ho X f H.size (sx xs (i + 1)) (sx xs (i + 2)) hI.1 (sx_r xs _) (sx_r xs _)) gk_w_told rfl rfl hd_w_told ⟨by decide, by decide⟩ rfl rfl (Nat.le_of_ble_eq_true rfl) d_w_law_1037 ⟨by show _ ≤ 1075; omega, by show _ ≤ 10854; omega⟩) (fun r X' f' H locs hp hw => ?_)
  obtain ⟨k, rfl, hp⟩ := hp
  refine lv_istore (lv' := [(5, .int (zI (k))), (4, .int (zI (i))), (0, .ref (b)), (1, .ref (h 0)), (2, .ref (g 0)), (3, .ref (ho))]) hx hb d_w_law_1040 hl (by decide) rfl (fun ls hl => ?_)
  refine lv_aload_n hx hb d_w_law_1042 rfl (lv_at hl 4 rfl) ?_
  refine lv_aload_n hx hb d_w_law_1043 rfl (lv_at hl 2 rfl) ?_
  refine lv_iload hx hb d_w_law_1044 (lv_at hl 1 rfl) ?_
  refine q_iconst hx hb d_w_law_1046 ?_
  refine q_iadd hx hb d_w_law_1047 ?_
  refine ql_sld cx hw (by omega) (by omega) (by omega) d_w_law_1048 ?_
  refine lv_aload_n hx hb d_w_law_1049 rfl (lv_at hl 2 rfl) ?_
  refine lv_iload hx hb d_w_law_1050 (lv_at hl 1 rfl) ?_
  refine q_iconst hx hb d_w_law_1052 ?_
  refine q_iadd hx hb d_w_law_1053 ?_
  refine ql_sld cx hw (by omega) (by omega) (by omega) d_w_law_1054 ?_
  refine km_i hw (rl_J cx hw hl.1 (cj_told l D g cI Z H.size (sx xs (i + 1)) (sx xs (i + 2)) hS.1 (sx_r xs _) (sx_r xs _)) gw_m_told rfl rfl hd_m_told ⟨by decide, by decide⟩ rfl rfl (Nat.le_of_ble_eq_true rfl) d_w_law_1055 ⟨by show _ ≤ 1075; omega, by show _ ≤ 10854; omega⟩) (fun r2 Z1 H locs hm hw => ?_)
  have hm : mP_told Z (sx xs (i + 1)) (sx xs (i + 2)) r2 Z1 := hm
  obtain ⟨ek, eo, hI2, hS2⟩ := ag_told (sx_r xs _) (sx_r xs _) hI hS hp hm
  refine lv_istore (lv' := [(6, .int (r2)), (5, .int (zI (k))), (4, .int (zI (i))), (0, .ref (b)), (1, .ref (h 0)), (2, .ref (g 0)), (3, .ref (ho))]) hx hb d_w_law_1058 hl (by decide) rfl (fun ls hl => ?_)
  refine lv_aload_n hx hb d_w_law_1060 rfl (lv_at hl 5 rfl) ?_
  refine km_i hw (rl_J cx hw hl.1 (cj_thrown l D g cI Z1 H.size) gw_m_thrown rfl rfl hd_m_thrown ⟨by decide, by decide⟩ rfl rfl (Nat.le_of_ble_eq_true rfl) d_w_law_1061 ⟨by show _ ≤ 1075; omega, by show _ ≤ 10854; omega⟩) (fun r3 Z9 H locs hm9 hw => ?_)
  obtain ⟨hr9, hu9⟩ := hm9
  subst hr9
  rw [hu9] at hw
  refine lv_iload hx hb d_w_law_1064 (lv_at hl 1 rfl) ?_
  refine lv_icmp_eq (tgt := 1071) hx hb d_w_law_1066 (by decide) (fun _ => ?_) (fun c9 => absurd (by rw [ek]) c9)
  refine lv_iload hx hb d_w_law_1071 (lv_at hl 1 rfl) ?_
  refine lv_if_ne (tgt := 1088) hx hb d_w_law_1073 (by decide) (fun _ => ?_) (fun c9 => ?_)
  · refine lv_goto (tgt := 1183) hx hb d_w_law_1088 (by decide) ?_
    exact kk X' Z1 f' H locs ls hw hI2 hS2 (lv_sub hl [2, 3, 4, 5, 6] rfl)
  · have hk0 : k = 0 := by
      have z := rgj_s3 hS2.1
      rw [ek] at z
      exact (zI_eq (b := 0) ⟨by omega, by omega⟩ ⟨by decide, by decide⟩).mp (c9.trans zI_0.symm)
    refine lv_aload_n hx hb d_w_law_1076 rfl (lv_at hl 6 rfl) ?_
    refine q_iconst hx hb d_w_law_1077 ?_
    refine ql_out cx hw d_w_law_1078 ?_
    refine lv_iload hx hb d_w_law_1079 (lv_at hl 0 rfl) ?_
    refine lv_i2l (v := r2.toInt64) hx hb d_w_law_1081 rfl ?_
    refine W.lcmp hx hb d_w_law_1082 ?_
    refine lv_if_eq (tgt := 1088) hx hb d_w_law_1083 (by decide) (fun _ => ?_) (fun c9 => absurd ((lg_cmp_eq _ _).mpr (eo hk0)) c9)
    refine lv_goto (tgt := 1183) hx hb d_w_law_1088 (by decide) ?_
    exact kk X' Z1 f' H locs ls hw hI2 hS2 (lv_sub hl [2, 3, 4, 5, 6] rfl)
set_option maxHeartbeats 4000000 in
set_option maxRecDepth 100000 in
theorem lc_packed {p : Program} {e : Env} {s : State} {m : MethodId} {below : List Frame} {meth : Method} {c : Code} {H : Heap} {locs : List Loc} {cells slots : Nat} {Q : State → Prop} {ho b L : Nat} {xs : Nat → Int32} {ls : Array Slot} {D : va_G} {h g : Nat → Nat} {cI cL : ClassId} {X Z : St} {f : Nat → Int64} {i : Int} (l : Launch) (hlt : l.stackTraces = false) (cx : CxL p s m meth c D cI cL b L xs) (hw : KwL D h g cI cL ho s X Z f H locs) (hI : Inv X) (hS : Sim X Z) (hl : lv_has ls 8 [(4, .int (zI (i))), (0, .ref (b)), (1, .ref (h 0)), (2, .ref (g 0)), (3, .ref (ho))]) (h0 : 0 ≤ i) (h1 : i + 5 ≤ L) (hL : L ≤ 2560) (hc9 : cells + 1 ≤ 1075) (hs9 : slots + 6 ≤ 10854)
    (kk : ∀ (X' Z' : St) (f' : Nat → Int64) (H' : Heap) (locs' : List Loc) (ls' : Array Slot), KwL D h g cI cL ho s X' Z' f' H' locs' → Inv X' → Sim X' Z' → lv_has ls' 8 [(4, .int (zI (i))), (0, .ref (b)), (1, .ref (h 0)), (2, .ref (g 0)), (3, .ref (ho))] → W p l e room_1 s m #[Value.ref b] below meth c H' locs' (cells + 1) (slots + 6) Q (F0 m 1183 ls' [])) : W p l e room_1 s m #[Value.ref b] below meth c H locs cells slots Q (F0 m 1091 ls []) := by
  have hx := cx.1
  have hb := cx.2.1
  refine lv_aload_n hx hb d_w_law_1091 rfl (lv_at hl 2 rfl) ?_
  refine lv_aload_n hx hb d_w_law_1092 rfl (lv_at hl 1 rfl) ?_
  refine lv_iload hx hb d_w_law_1093 (lv_at hl 0 rfl) ?_
  refine q_iconst hx hb d_w_law_1095 ?_
  refine q_iadd hx hb d_w_law_1096 ?_
  refine ql_sld cx hw (by omega) (by omega) (by omega) d_w_law_1097 ?_
  refine lv_aload_n hx hb d_w_law_1098 rfl (lv_at hl 1 rfl) ?_
  refine lv_iload hx hb d_w_law_1099 (lv_at hl 0 rfl) ?_
  refine q_iconst hx hb d_w_law_1101 ?_
  refine q_iadd hx hb d_w_law_1102 ?_
  refine ql_sld cx hw (by omega) (by omega) (by omega) d_w_law_1103 ?_
  refine lv_aload_n hx hb d_w_law_1104 rfl (lv_at hl 4 rfl) ?_
  refine kl_h hw (rl_S cx hw hl.1 (h_packed l hlt D h cI cL ho X f H.size (sx xs (i + 1)) (sx xs (i + 2)) hI.1 (sx_r xs _) (sx_r xs _)) gk_w_packed rfl rfl hd_w_packed ⟨by decide, by decide⟩ rfl rfl (Nat.le_of_ble_eq_true rfl) d_w_law_1105 ⟨by show _ ≤ 1075; omega, by show _ ≤ 10854; omega⟩) (fun r X' f' H locs hp hw => ?_)
  obtain ⟨k, rfl, hp⟩ := hp
  refine lv_istore (lv' := [(5, .int (zI (k))), (4, .int (zI (i))), (0, .ref (b)), (1, .ref (h 0)), (2, .ref (g 0)), (3, .ref (ho))]) hx hb d_w_law_1108 hl (by decide) rfl (fun ls hl => ?_)
  refine lv_aload_n hx hb d_w_law_1110 rfl (lv_at hl 4 rfl) ?_
  refine lv_aload_n hx hb d_w_law_1111 rfl (lv_at hl 2 rfl) ?_
  refine lv_iload hx hb d_w_law_1112 (lv_at hl 1 rfl) ?_
  refine q_iconst hx hb d_w_law_1114 ?_
  refine q_iadd hx hb d_w_law_1115 ?_
  refine ql_sld cx hw (by omega) (by omega) (by omega) d_w_law_1116 ?_
  refine lv_aload_n hx hb d_w_law_1117 rfl (lv_at hl 2 rfl) ?_
  refine lv_iload hx hb d_w_law_1118 (lv_at hl 1 rfl) ?_
  refine q_iconst hx hb d_w_law_1120 ?_
  refine q_iadd hx hb d_w_law_1121 ?_
  refine ql_sld cx hw (by omega) (by omega) (by omega) d_w_law_1122 ?_
  refine km_l hw (rl_J cx hw hl.1 (cj_packed l D g cI Z H.size (sx xs (i + 1)) (sx xs (i + 2)) hS.1 (sx_r xs _) (sx_r xs _)) gw_m_packed rfl rfl hd_m_packed ⟨by decide, by decide⟩ rfl rfl (Nat.le_of_ble_eq_true rfl) d_w_law_1123 ⟨by show _ ≤ 1075; omega, by show _ ≤ 10854; omega⟩) (fun r2 Z1 H locs hm hw => ?_)
  have hm : mP_packed Z (sx xs (i + 1)) (sx xs (i + 2)) r2 Z1 := hm
  obtain ⟨ek, eo, hI2, hS2⟩ := ag_packed (sx_r xs _) (sx_r xs _) hI hS hp hm
  refine lv_lstore (lv' := [(6, .long (r2)), (5, .int (zI (k))), (4, .int (zI (i))), (0, .ref (b)), (1, .ref (h 0)), (2, .ref (g 0)), (3, .ref (ho))]) hx hb d_w_law_1126 hl (by decide) rfl (fun ls hl => ?_)
  refine lv_aload_n hx hb d_w_law_1128 rfl (lv_at hl 5 rfl) ?_
  refine km_i hw (rl_J cx hw hl.1 (cj_thrown l D g cI Z1 H.size) gw_m_thrown rfl rfl hd_m_thrown ⟨by decide, by decide⟩ rfl rfl (Nat.le_of_ble_eq_true rfl) d_w_law_1129 ⟨by show _ ≤ 1075; omega, by show _ ≤ 10854; omega⟩) (fun r3 Z9 H locs hm9 hw => ?_)
  obtain ⟨hr9, hu9⟩ := hm9
  subst hr9
  rw [hu9] at hw
  refine lv_iload hx hb d_w_law_1132 (lv_at hl 1 rfl) ?_
  refine lv_icmp_eq (tgt := 1139) hx hb d_w_law_1134 (by decide) (fun _ => ?_) (fun c9 => absurd (by rw [ek]) c9)
  refine lv_iload hx hb d_w_law_1139 (lv_at hl 1 rfl) ?_
  refine lv_if_ne (tgt := 1155) hx hb d_w_law_1141 (by decide) (fun _ => ?_) (fun c9 => ?_)
  · refine lv_goto (tgt := 1183) hx hb d_w_law_1155 (by decide) ?_
    exact kk X' Z1 f' H locs ls hw hI2 hS2 (lv_sub hl [2, 3, 4, 5, 6] rfl)
  · have hk0 : k = 0 := by
      have z := rgj_s3 hS2.1
      rw [ek] at z
      exact (zI_eq (b := 0) ⟨by omega, by omega⟩ ⟨by decide, by decide⟩).mp (c9.trans zI_0.symm)
    refine lv_aload_n hx hb d_w_law_1144 rfl (lv_at hl 6 rfl) ?_
    refine q_iconst hx hb d_w_law_1145 ?_
    refine ql_out cx hw d_w_law_1146 ?_
    refine lv_lload hx hb d_w_law_1147 (lv_at hl 0 rfl) ?_
    refine W.lcmp hx hb d_w_law_1149 ?_
    refine lv_if_eq (tgt := 1155) hx hb d_w_law_1150 (by decide) (fun _ => ?_) (fun c9 => absurd ((lg_cmp_eq _ _).mpr (eo hk0)) c9)
    refine lv_goto (tgt := 1183) hx hb d_w_law_1155 (by decide) ?_
    exact kk X' Z1 f' H locs ls hw hI2 hS2 (lv_sub hl [2, 3, 4, 5, 6] rfl)
set_option maxHeartbeats 4000000 in
set_option maxRecDepth 100000 in
theorem lc_count {p : Program} {e : Env} {s : State} {m : MethodId} {below : List Frame} {meth : Method} {c : Code} {H : Heap} {locs : List Loc} {cells slots : Nat} {Q : State → Prop} {ho b L : Nat} {xs : Nat → Int32} {ls : Array Slot} {D : va_G} {h g : Nat → Nat} {cI cL : ClassId} {X Z : St} {f : Nat → Int64} {i : Int} (l : Launch) (hlt : l.stackTraces = false) (cx : CxL p s m meth c D cI cL b L xs) (hw : KwL D h g cI cL ho s X Z f H locs) (hI : Inv X) (hS : Sim X Z) (hl : lv_has ls 8 [(4, .int (zI (i))), (0, .ref (b)), (1, .ref (h 0)), (2, .ref (g 0)), (3, .ref (ho))]) (h0 : 0 ≤ i) (h1 : i + 5 ≤ L) (hL : L ≤ 2560) (hc9 : cells + 1 ≤ 1075) (hs9 : slots + 6 ≤ 10854)
    (kk : ∀ (X' Z' : St) (f' : Nat → Int64) (H' : Heap) (locs' : List Loc) (ls' : Array Slot), KwL D h g cI cL ho s X' Z' f' H' locs' → Inv X' → Sim X' Z' → lv_has ls' 8 [(4, .int (zI (i))), (0, .ref (b)), (1, .ref (h 0)), (2, .ref (g 0)), (3, .ref (ho))] → W p l e room_1 s m #[Value.ref b] below meth c H' locs' (cells + 1) (slots + 6) Q (F0 m 1183 ls' [])) : W p l e room_1 s m #[Value.ref b] below meth c H locs cells slots Q (F0 m 1158 ls []) := by
  have hx := cx.1
  have hb := cx.2.1
  refine lv_aload_n hx hb d_w_law_1158 rfl (lv_at hl 2 rfl) ?_
  refine lv_aload_n hx hb d_w_law_1159 rfl (lv_at hl 1 rfl) ?_
  refine lv_iload hx hb d_w_law_1160 (lv_at hl 0 rfl) ?_
  refine q_iconst hx hb d_w_law_1162 ?_
  refine q_iadd hx hb d_w_law_1163 ?_
  refine ql_sld cx hw (by omega) (by omega) (by omega) d_w_law_1164 ?_
  refine kc_i hw (rl_C cx hw hl.1 (c_count l D h cI cL X H.size (sx xs (i + 1)) hI.1 (sx_r xs _)) gw_count rfl rfl hd_count ⟨by decide, by decide⟩ rfl rfl (Nat.le_of_ble_eq_true rfl) d_w_law_1165 ⟨by show _ ≤ 1075; omega, by show _ ≤ 10854; omega⟩) (fun r X' H locs hp hw => ?_)
  obtain ⟨hr9, hu9⟩ := hp
  subst hr9
  rw [hu9] at hw
  have hX9 := hI
  refine lv_aload_n hx hb d_w_law_1168 rfl (lv_at hl 3 rfl) ?_
  refine lv_aload_n hx hb d_w_law_1169 rfl (lv_at hl 1 rfl) ?_
  refine lv_iload hx hb d_w_law_1170 (lv_at hl 0 rfl) ?_
  refine q_iconst hx hb d_w_law_1172 ?_
  refine q_iadd hx hb d_w_law_1173 ?_
  refine ql_sld cx hw (by omega) (by omega) (by omega) d_w_law_1174 ?_
  refine km_i hw (rl_J cx hw hl.1 (cj_count l D g cI Z H.size (sx xs (i + 1)) hS.1 (sx_r xs _)) gw_m_count rfl rfl hd_m_count ⟨by decide, by decide⟩ rfl rfl (Nat.le_of_ble_eq_true rfl) d_w_law_1175 ⟨by show _ ≤ 1075; omega, by show _ ≤ 10854; omega⟩) (fun r2 Z1 H locs hm hw => ?_)
  obtain ⟨hm1, hm2⟩ := hm
  subst hm2
  rw [hm1] at hw
  refine lv_icmp_eq (tgt := 1183) hx hb d_w_law_1178 (by decide) (fun _ => ?_) (fun c9 => absurd (by rw [ag_count hI hS]) c9)
  exact W.widen (by omega) (by omega) (kk X (up2 Z 0 3 0) f H locs ls hw hI (sim_code hS (by decide)) hl)
