/-! THE CLAIM OUT OF ONE WALK OF THE LAW'S BODY. Your part is whole_start (and what it stands on); all else here is the same for every law, but numbers. -/
def R_law : String := "MoveRowsLaw"
def lw_P (b : Addr) (xs : List Int32) (args : Array Value) (s : State) : Prop := args = #[.ref b] ∧ s.IntsAt b xs ∧ xs.length ≤ 2560 ∧ (Jvm.Cond.and given_1 narrow_1).before args s = true
def lw_Q (_ : Array Value) (s : State) (o : Outcome) (t : State) : Prop := o = .returned (some (.int 1)) ∧ Framed s o t [] 1075 10854
def lw_Z (below : List Frame) (a : Array Value) (s : State) : State → Prop := fun t => ∃ o, t.status = .running ∧ Ended t below o ∧ lw_Q a s o t
/-- the law's own end, with 1 on the stack, nothing written that was there before, its room as the claim has it -/
theorem lw_ret {p : Program} {l : Launch} {e : Env} {s : State} {m : MethodId} {below : List Frame} {meth : Method} {c : Code} {b : Nat} (hx : p.tables.exec = Jvm.exec) (hb : c.code = code) (hr : meth.sig.returnType = ret) (hlocks : meth.locks = false) {pc : Nat} {H : Heap} {ls : Array Slot} (hdg : decode code pc = .ok (.ireturn, 1)) : W p l e room_1 s m #[Value.ref b] below meth c H [] 1075 10854 (lw_Z below #[Value.ref b] s) (F0 m pc ls [.int 1]) := by
  intro T hT X
  obtain ⟨fs, hret, hrun, hended, hW, hframe⟩ := X.leave (v := some (.int 1)) (hlocks := hlocks) (fun h => by rw [hr] at h; cases h)
  have hmeth' : T.vm.method? m = some meth := X.method'
  refine ⟨T.setFrames fs, ?_, .returned (some (.int 1)), hrun, hended, rfl, ⟨_, rfl⟩, hW, hframe⟩
  jvm_step X.here [X.here.top, hx, hb, hdg, hmeth', hr, ret, narrow_b1]
  (try refine ⟨rfl, ?_⟩); (try refine ⟨rfl, ?_⟩)
  first | (intro acts; rw [hret _ acts rfl rfl rfl]) | rw [hret _ _ rfl rfl rfl]
  exact Steps.refl _
/-- what holds at the law's entry: the machine, the code, the tables' words (any of lw_tbl by 'hts w (by decide +kernel)'), the script of L ints xs at the cell b, what the Statement gives of the start (any of its parts by flat_of_before) -/
def lw_At (p : Program) (s : State) (m : MethodId) (meth : Method) (c : Code) (b L : Nat) (xs : Nat → Int32) : Prop :=
  p.tables.exec = Jvm.exec ∧ c.code = code ∧ meth.sig.returnType = ret ∧ c.maxLocals = 8 ∧ s.vm.findClass R_law = some m.cls ∧ (∀ w ∈ lw_tbl, w.before #[Value.ref b] s = true) ∧ va_X b L xs s s.heap ∧ b < s.heap.size ∧ meth.locks = false ∧ (Jvm.Cond.and given_1 narrow_1).before #[Value.ref b] s = true
theorem str_start {own tx : String} {k : Nat} {A : Array Value} {s : State} (h : (Cond.stringRef own k tx).before A s = true) : ∃ a, vk_R own k tx a s := by
  have hcur : ∃ cur, s.vm.findClass own = some cur := by
    have h1 := h
    simp only [Cond.before, Cond.holds, Cond.value] at h1
    cases hc : s.vm.findClass own with
    | none => simp [hc] at h1
    | some cur => exact ⟨cur, rfl⟩
  obtain ⟨cur, hcur⟩ := hcur
  obtain ⟨k', cf, i, a, -, -, -, -, -, he⟩ := Cond.stringRef_spec (args := A) (first := s) (o := none) (idx := []) hcur h
  exact ⟨a, vk_R.of h he⟩
theorem txts_in : ∀ q ∈ txts, Cond.stringRef "MoveRows" q.1 q.2 ∈ lw_tbl := by decide +kernel
theorem kX_in : ∀ w ∈ kX, w ∈ lw_tbl := by decide +kernel
theorem zs_1 : Cond.laysStatic Bundle.tN "UNASSIGNED_STACK" Bundle.steD ∈ lw_tbl ∧ Cond.laysStatic Bundle.tN "SUPPRESSED_SENTINEL" Bundle.listD ∈ lw_tbl ∧ Cond.initialized Bundle.tN ∈ lw_tbl := by decide +kernel
theorem zs_2 : Cond.isRef (.static Bundle.tN "UNASSIGNED_STACK" Bundle.steD) ∈ flatC (Jvm.Cond.and given_1 narrow_1) ∧ Cond.isRef (.static Bundle.tN "SUPPRESSED_SENTINEL" Bundle.listD) ∈ flatC (Jvm.Cond.and given_1 narrow_1) := by decide +kernel
theorem nP_in : ∀ q ∈ nPairs, Cond.not (.castable q.1 q.2) ∈ flatC (Jvm.Cond.and given_1 narrow_1) := by decide +kernel
theorem gX_start {s : State} {b : Nat} (hts : ∀ w ∈ lw_tbl, w.before #[Value.ref b] s = true) (hgv : (Jvm.Cond.and given_1 narrow_1).before #[Value.ref b] s = true) : gX (AL s) s := by
  have hA : ∀ a : Nat, a < s.heap.size → ¬ AL s a := fun a h => Nat.not_le.mpr h
  have hs := flat_of_before _ hgv
  refine ⟨vx_Zqof (hts _ zs_1.1) (hts _ zs_1.2.2) (hs _ zs_2.1) hA, vx_Zqof (hts _ zs_1.2.1) (hts _ zs_1.2.2) (hs _ zs_2.2) hA, fun q hq => str_start (hts _ (txts_in q hq)), fun w hw => kX_warm hw (State.WarmedH.refl s) (hts w (kX_in w hw))⟩
theorem nX_start {s : State} {b : Nat} (hgv : (Jvm.Cond.and given_1 narrow_1).before #[Value.ref b] s = true) : nX s := fun q hq => va_Nc.of (flat_of_before _ hgv _ (nP_in q hq))
set_option maxHeartbeats 4000000 in
set_option maxRecDepth 100000 in
/-- THE LAW'S LOOP -/
theorem law_loop {p : Program} {e : Env} {s : State} {m : MethodId} {below : List Frame} {meth : Method} {c : Code} {ho b L : Nat} {xs : Nat → Int32} {D : va_G} {h g : Nat → Nat} {cI cL : ClassId} (l : Launch) (hlt : l.stackTraces = false) (hL : L ≤ 2560) (cx : CxL p s m meth c D cI cL b L xs) : ∀ (n t : Nat) (X Z : St) (f : Nat → Int64) (H : Heap) (locs : List Loc) (ls : Array Slot), t + n = 513 → 5 * t ≤ L → KwL D h g cI cL ho s X Z f H locs → Inv X → Sim X Z → lv_has ls 8 [(4, .int (zI (5 * (t : Int)))), (0, .ref (b)), (1, .ref (h 0)), (2, .ref (g 0)), (3, .ref (ho))] → W p l e room_1 s m #[Value.ref b] below meth c H locs (25 + t) (2506 + 6 * t) (lw_Z below #[Value.ref b] s) (F0 m 23 ls []) := by
  intro n
  induction n with
  | zero => intro t X Z f H locs ls h1 h2; exact absurd h2 (by omega)
  | succ n ih =>
    intro t X Z f H locs ls h1 h2 hw hI hS hl
    have hx := cx.1
    have hb := cx.2.1
    have ag : ∀ (X' Z' : St) (f' : Nat → Int64) (H' : Heap) (locs' : List Loc) (ls' : Array Slot), 5 * (t : Int) + 5 ≤ L → KwL D h g cI cL ho s X' Z' f' H' locs' → Inv X' → Sim X' Z' → lv_has ls' 8 [(4, .int (zI (5 * (t : Int)))), (0, .ref (b)), (1, .ref (h 0)), (2, .ref (g 0)), (3, .ref (ho))] → W p l e room_1 s m #[Value.ref b] below meth c H' locs' (25 + t + 1) (2506 + 6 * t + 6) (lw_Z below #[Value.ref b] s) (F0 m 1183 ls' []) := by
      intro X' Z' f' H' locs' ls' h5 hw' hI' hS' hl'
      refine lv_iinc (v := zI (5 * (t : Int) + 5)) (lv' := [(4, .int (zI (5 * (t : Int) + 5))), (0, .ref (b)), (1, .ref (h 0)), (2, .ref (g 0)), (3, .ref (ho))]) hx hb d_w_law_1183 hl' (k := 0) rfl (zI_add (5 * (t : Int)) 5) (by decide) rfl (fun ls2 hl2 => ?_)
      refine lv_goto (tgt := 23) hx hb d_w_law_1186 (by decide) ?_
      rw [show 5 * (t : Int) + 5 = 5 * ((t + 1 : Nat) : Int) by omega] at hl2
      have q := ih (t + 1) X' Z' f' H' locs' ls2 (by omega) (by omega) hw' hI' hS' hl2
      rw [show 25 + (t + 1) = 25 + t + 1 by omega, show 2506 + 6 * (t + 1) = 2506 + 6 * t + 6 by omega] at q
      exact q
    refine lv_iload hx hb d_w_law_23 (lv_at hl 0 rfl) ?_
    refine lv_aload_n hx hb d_w_law_25 rfl (lv_at hl 1 rfl) ?_
    refine ql_len cx hw (by omega) d_w_law_26 ?_
    refine q_iconst hx hb d_w_law_27 ?_
    refine q_isub hx hb d_w_law_28 ?_
    refine q_icmp_gt (tgt := 1189) hx hb d_w_law_29 (by decide) ⟨by omega, by omega⟩ ⟨by omega, by omega⟩ (fun c1 => ?_) (fun c1 => ?_)
    · refine lv_iconst (v := 1) hx hb d_w_law_1189 (by decide) ?_
      refine va_forget (fun q hq => hw.2.2.2.2 q hq) ?_
      exact W.widen (by omega) (by omega) (lw_ret hx hb cx.2.2.2.1 cx.2.2.2.2.1 d_w_law_1190)
    · refine lv_aload_n hx hb d_w_law_32 rfl (lv_at hl 1 rfl) ?_
      refine lv_iload hx hb d_w_law_33 (lv_at hl 0 rfl) ?_
      refine ql_sld cx hw (by omega) (by omega) (by omega) d_w_law_35 ?_
      refine q_bipush hx hb d_w_law_36 (by decide) ?_
      refine lv_iand hx hb d_w_law_38 ?_
      obtain ⟨e9, he9⟩ : ∃ z : Int, z = (zI (sx xs (5 * (t : Int))) &&& zI 31).toInt := ⟨_, rfl⟩
      have hz9 : zI e9 = zI (sx xs (5 * (t : Int))) &&& zI 31 := by rw [he9]; exact zI_self _
      have hr9 : rI e9 := by rw [he9]; exact rI_toInt _
      rw [← hz9]
      by_cases w0 : e9 = 0
      · refine q_tableIn (x := e9) (tgt := 124) hx hb d_w_law_39 hr9 (by omega) (by omega) (by rw [w0]; rfl) (by decide) ?_
        exact lc_batch l hlt cx hw hI hS hl (by omega) (by omega) hL (by omega) (by omega) (fun X' Z' f' H' locs' ls' a1 a2 a3 a4 => ag X' Z' f' H' locs' ls' (by omega) a1 a2 a3 a4)
      by_cases w1 : e9 = 1
      · refine q_tableIn (x := e9) (tgt := 168) hx hb d_w_law_39 hr9 (by omega) (by omega) (by rw [w1]; rfl) (by decide) ?_
        exact lc_entry l hlt cx hw hI hS hl (by omega) (by omega) hL (by omega) (by omega) (fun X' Z' f' H' locs' ls' a1 a2 a3 a4 => ag X' Z' f' H' locs' ls' (by omega) a1 a2 a3 a4)
      by_cases w2 : e9 = 2
      · refine q_tableIn (x := e9) (tgt := 260) hx hb d_w_law_39 hr9 (by omega) (by omega) (by rw [w2]; rfl) (by decide) ?_
        exact lc_hold l hlt cx hw hI hS hl (by omega) (by omega) hL (by omega) (by omega) (fun X' Z' f' H' locs' ls' a1 a2 a3 a4 => ag X' Z' f' H' locs' ls' (by omega) a1 a2 a3 a4)
      by_cases w3 : e9 = 3
      · refine q_tableIn (x := e9) (tgt := 296) hx hb d_w_law_39 hr9 (by omega) (by omega) (by rw [w3]; rfl) (by decide) ?_
        exact lc_free l hlt cx hw hI hS hl (by omega) (by omega) hL (by omega) (by omega) (fun X' Z' f' H' locs' ls' a1 a2 a3 a4 => ag X' Z' f' H' locs' ls' (by omega) a1 a2 a3 a4)
      by_cases w4 : e9 = 4
      · refine q_tableIn (x := e9) (tgt := 332) hx hb d_w_law_39 hr9 (by omega) (by omega) (by rw [w4]; rfl) (by decide) ?_
        exact lc_drop l hlt cx hw hI hS hl (by omega) (by omega) hL (by omega) (by omega) (fun X' Z' f' H' locs' ls' a1 a2 a3 a4 => ag X' Z' f' H' locs' ls' (by omega) a1 a2 a3 a4)
      by_cases w5 : e9 = 5
      · refine q_tableIn (x := e9) (tgt := 368) hx hb d_w_law_39 hr9 (by omega) (by omega) (by rw [w5]; rfl) (by decide) ?_
        exact lc_post l hlt cx hw hI hS hl (by omega) (by omega) hL (by omega) (by omega) (fun X' Z' f' H' locs' ls' a1 a2 a3 a4 => ag X' Z' f' H' locs' ls' (by omega) a1 a2 a3 a4)
      by_cases w6 : e9 = 6
      · refine q_tableIn (x := e9) (tgt := 416) hx hb d_w_law_39 hr9 (by omega) (by omega) (by rw [w6]; rfl) (by decide) ?_
        exact lc_reverse l hlt cx hw hI hS hl (by omega) (by omega) hL (by omega) (by omega) (fun X' Z' f' H' locs' ls' a1 a2 a3 a4 => ag X' Z' f' H' locs' ls' (by omega) a1 a2 a3 a4)
      by_cases w7 : e9 = 7
      · refine q_tableIn (x := e9) (tgt := 484) hx hb d_w_law_39 hr9 (by omega) (by omega) (by rw [w7]; rfl) (by decide) ?_
        exact lc_undo l hlt cx hw hI hS hl (by omega) (by omega) hL (by omega) (by omega) (fun X' Z' f' H' locs' ls' a1 a2 a3 a4 => ag X' Z' f' H' locs' ls' (by omega) a1 a2 a3 a4)
      by_cases w8 : e9 = 8
      · refine q_tableIn (x := e9) (tgt := 540) hx hb d_w_law_39 hr9 (by omega) (by omega) (by rw [w8]; rfl) (by decide) ?_
        exact lc_close l hlt cx hw hI hS hl (by omega) (by omega) hL (by omega) (by omega) (fun X' Z' f' H' locs' ls' a1 a2 a3 a4 => ag X' Z' f' H' locs' ls' (by omega) a1 a2 a3 a4)
      by_cases w9 : e9 = 9
      · refine q_tableIn (x := e9) (tgt := 596) hx hb d_w_law_39 hr9 (by omega) (by omega) (by rw [w9]; rfl) (by decide) ?_
        exact lc_carry l hlt cx hw hI hS hl (by omega) (by omega) hL (by omega) (by omega) (fun X' Z' f' H' locs' ls' a1 a2 a3 a4 => ag X' Z' f' H' locs' ls' (by omega) a1 a2 a3 a4)
      by_cases w10 : e9 = 10
      · refine q_tableIn (x := e9) (tgt := 663) hx hb d_w_law_39 hr9 (by omega) (by omega) (by rw [w10]; rfl) (by decide) ?_
        exact lc_stock l hlt cx hw hI hS hl (by omega) (by omega) hL (by omega) (by omega) (fun X' Z' f' H' locs' ls' a1 a2 a3 a4 => ag X' Z' f' H' locs' ls' (by omega) a1 a2 a3 a4)
      by_cases w11 : e9 = 11
      · refine q_tableIn (x := e9) (tgt := 730) hx hb d_w_law_39 hr9 (by omega) (by omega) (by rw [w11]; rfl) (by decide) ?_
        exact lc_upTo l hlt cx hw hI hS hl (by omega) (by omega) hL (by omega) (by omega) (fun X' Z' f' H' locs' ls' a1 a2 a3 a4 => ag X' Z' f' H' locs' ls' (by omega) a1 a2 a3 a4)
      by_cases w12 : e9 = 12
      · refine q_tableIn (x := e9) (tgt := 809) hx hb d_w_law_39 hr9 (by omega) (by omega) (by rw [w12]; rfl) (by decide) ?_
        exact lc_available l hlt cx hw hI hS hl (by omega) (by omega) hL (by omega) (by omega) (fun X' Z' f' H' locs' ls' a1 a2 a3 a4 => ag X' Z' f' H' locs' ls' (by omega) a1 a2 a3 a4)
      by_cases w13 : e9 = 13
      · refine q_tableIn (x := e9) (tgt := 876) hx hb d_w_law_39 hr9 (by omega) (by omega) (by rw [w13]; rfl) (by decide) ?_
        exact lc_at l hlt cx hw hI hS hl (by omega) (by omega) hL (by omega) (by omega) (fun X' Z' f' H' locs' ls' a1 a2 a3 a4 => ag X' Z' f' H' locs' ls' (by omega) a1 a2 a3 a4)
      by_cases w14 : e9 = 14
      · refine q_tableIn (x := e9) (tgt := 943) hx hb d_w_law_39 hr9 (by omega) (by omega) (by rw [w14]; rfl) (by decide) ?_
        exact lc_row l hlt cx hw hI hS hl (by omega) (by omega) hL (by omega) (by omega) (fun X' Z' f' H' locs' ls' a1 a2 a3 a4 => ag X' Z' f' H' locs' ls' (by omega) a1 a2 a3 a4)
      by_cases w15 : e9 = 15
      · refine q_tableIn (x := e9) (tgt := 1023) hx hb d_w_law_39 hr9 (by omega) (by omega) (by rw [w15]; rfl) (by decide) ?_
        exact lc_told l hlt cx hw hI hS hl (by omega) (by omega) hL (by omega) (by omega) (fun X' Z' f' H' locs' ls' a1 a2 a3 a4 => ag X' Z' f' H' locs' ls' (by omega) a1 a2 a3 a4)
      by_cases w16 : e9 = 16
      · refine q_tableIn (x := e9) (tgt := 1091) hx hb d_w_law_39 hr9 (by omega) (by omega) (by rw [w16]; rfl) (by decide) ?_
        exact lc_packed l hlt cx hw hI hS hl (by omega) (by omega) hL (by omega) (by omega) (fun X' Z' f' H' locs' ls' a1 a2 a3 a4 => ag X' Z' f' H' locs' ls' (by omega) a1 a2 a3 a4)
      by_cases w17 : e9 = 17
      · refine q_tableIn (x := e9) (tgt := 1158) hx hb d_w_law_39 hr9 (by omega) (by omega) (by rw [w17]; rfl) (by decide) ?_
        exact lc_count l hlt cx hw hI hS hl (by omega) (by omega) hL (by omega) (by omega) (fun X' Z' f' H' locs' ls' a1 a2 a3 a4 => ag X' Z' f' H' locs' ls' (by omega) a1 a2 a3 a4)
      refine q_tableOut (x := e9) (tgt := 1183) hx hb d_w_law_39 hr9 (by omega) (by decide) ?_
      exact W.widen (by omega) (by omega) (ag X Z f H locs ls (by omega) hw hI hS hl)
set_option maxHeartbeats 8000000 in
set_option maxRecDepth 100000 in
/-- THE LAW, from its entry -/
theorem whole_start {p : Program} {e : Env} {s : State} {m : MethodId} {below : List Frame} {meth : Method} {c : Code} (l : Launch) (hlt : l.stackTraces = false) {b L : Nat} {xs : Nat → Int32} (hL : L ≤ 2560) (C0 : lw_At p s m meth c b L xs) : W p l e room_1 s m #[Value.ref b] below meth c s.heap [] 0 0 (lw_Z below #[Value.ref b] s) (entryFrame m ([Value.ref b] : List Value).toArray 8) := by
  obtain ⟨hx, hb, hr, hml, hown, hts, hX, hbl, hlocks, hgv⟩ := id C0
  have hwG : ∀ w ∈ wG, w.before #[Value.ref b] s = true := wG_tbl hts
  have hA : ∀ q : Nat, s.heap.size ≤ q → AL s q := fun _ h => h
  have hiC : (Cond.instantiable "MoveRows" 15).before #[Value.ref b] s = true := hts _ (by decide +kernel)
  have hiM : (Cond.instantiable "MoveRowsModel" 14).before #[Value.ref b] s = true := hts _ (by decide +kernel)
  obtain ⟨c0, iS0, hKn0⟩ := u_known (C := "MoveRows") (T := TC) (N := 15) (n := 15) hwG fk_in hiC
  obtain ⟨c1, iS1, hKn1⟩ := u_known (C := "MoveRowsModel") (T := TM) (N := 14) (n := 14) hwG fm_in hiM
  obtain ⟨D, hKc⟩ : ∃ D : va_G, ∀ (k : Nat) (q : vw_C), CL[k]? = some q → u_Kn s q.1 q.2.1 q.2.2 (D.1 k) (D.2 k) := by
    refine ⟨(fun k => if k = 0 then c0 else c1, fun k => if k = 0 then iS0 else iS1), ?_⟩
    intro k q hq
    match k, hq with
    | 0, hq => cases hq; exact hKn0
    | 1, hq => cases hq; exact hKn1
    | k + 2, hq => simp [CL] at hq
  have hS : va_S (AL s) s.heap s.heap [] := va_S.rf
  have hK : va_K D CL [] s := ⟨hKc, fun k q h => by simp at h⟩
  have hP : va_P D CL [] s.heap := fun k q h => by simp at h
  have hD : va_D (AL s) [] := ⟨fun i j p q h => by simp at h, fun k q h => by simp at h⟩
  have hl := lv_entry ([.ref b]) (n := 8) (Nat.le_of_ble_eq_true rfl)
  rw [lg_entry_eq]
  generalize (lg_sl ([.ref b]) ++ List.replicate (8 - (lg_sl ([.ref b])).length) Slot.unset).toArray = ls at hl ⊢
  have hl : lv_has ls 8 [(0, .ref b)] := hl
  refine va_new (ci := 0) (fs := [.null, .null, .null, .null, .null, .int 0, .null, .null, .null, .int 0, .null, .null, .null, .null, .int 0]) (C := "MoveRows") (T := TC) (N := 15) hx hb hwG fk_in tyTC okTC hown (hts (.classLink "MoveRowsLaw" 8 "MoveRows") (by decide +kernel)) hiC (hwG _ kn_MoveRows) hK hP hD hS hA rfl (fun j hj => by
    have h9 : j = 0 ∨ j = 1 ∨ j = 2 ∨ j = 3 ∨ j = 4 ∨ j = 5 ∨ j = 6 ∨ j = 7 ∨ j = 8 ∨ j = 9 ∨ j = 10 ∨ j = 11 ∨ j = 12 ∨ j = 13 ∨ j = 14 := by omega
    rcases h9 with rfl | rfl | rfl | rfl | rfl | rfl | rfl | rfl | rfl | rfl | rfl | rfl | rfl | rfl | rfl <;> rfl) (Nat.le_of_ble_eq_true rfl) (Nat.le_of_ble_eq_true rfl) d_w_law_0 (fun q0v H hP hD hS => ?_)
  have hP : va_P D CL [(q0v, .inr (0, [.null, .null, .null, .null, .null, .int 0, .null, .null, .null, .int 0, .null, .null, .null, .null, .int 0]))] H := hP
  have hD : va_D (AL s) [(q0v, .inr (0, [.null, .null, .null, .null, .null, .int 0, .null, .null, .null, .int 0, .null, .null, .null, .null, .int 0]))] := hD
  refine lv_dup hx hb d_w_law_3 rfl ?_
  have hFc := va_free (wc := [(q0v, .inr (0, [.null, .null, .null, .null, .null, .int 0, .null, .null, .null, .int 0, .null, .null, .null, .null, .int 0]))]) hD hS hA [0] rfl
  refine va_callv (va_runI (Ts := wG) (As := []) (rest := [.ref q0v]) ⟨hx, hb, hml, hown, hwG⟩ (c_init l D q0v H.size) (cwI 0 hwG (wG_sub (a := [.code y_init b_init 1 none]) (List.forall_mem_cons.mpr ⟨kc_init, fun _ h9 => nomatch h9⟩)) rfl rfl rfl (hwG _ kn_MoveRows) (hwG _ kl_w_77) (hwG _ ki_init) rfl (by decide +kernel) ⟨by decide, by decide⟩) ⟨fun a U g mk q => by obtain ⟨q0, q1, qP, qK, qD⟩ := q; exact ⟨q0, q1, qP, va_K.moved (u := U) (U := U.calling g mk a) (Vm.Alike.refl U.vm) qK, qD⟩, fun U hU hW => ⟨rfl, by rw [hU], by rw [hU]; exact hP, va_K.moved hW.alike hK, hD.weaken (fun _ _ _ _ => trivial)⟩⟩ rfl rfl hl.1 rfl (lv_room (Nat.le_of_ble_eq_true rfl)) d_w_law_4 ⟨Nat.le_of_ble_eq_true rfl, Nat.le_of_ble_eq_true rfl⟩) hS (fun q _ h => hFc q h) hFc (fun u t H1 locs ht hvm hw hB hz1 hk1 hS => ?_)
  obtain ⟨h, cI, cL⟩ := u
  obtain ⟨e0, hP1, hK1, hD1⟩ := hB
  dsimp only at e0 hP1 hK1 hD1
  rw [ht] at hP1
  have hK := va_K.moved hvm.symm hK1
  obtain ⟨hP, hD⟩ := va_join (wr := []) (w1 := wC h cI cL X0) hP hD [0] [] rfl rfl (by decide) (by decide) hk1 hFc hP1 hD1
  generalize H1 = H at hP hS ⊢
  have hP : va_P D CL (wC h cI cL X0) H := hP
  have hD : va_D (AL s) (wC h cI cL X0) := hD
  rw [← e0]
  refine lv_astore_n (lv' := [(1, .ref (h 0)), (0, .ref b)]) hx hb d_w_law_7 rfl hl (by decide) rfl (fun ls hl => ?_)
  refine va_new (ci := 1) (fs := [.int 0, .int 0, .null, .null, .null, .null, .null, .null, .null, .null, .int 0, .null, .int 0, .null]) (C := "MoveRowsModel") (T := TM) (N := 14) hx hb hwG fm_in tyTM okTM hown (hts (.classLink "MoveRowsLaw" 78 "MoveRowsModel") (by decide +kernel)) hiM (hwG _ kn_MoveRowsModel) hK hP hD hS hA rfl (fun j hj => by
    have h9 : j = 0 ∨ j = 1 ∨ j = 2 ∨ j = 3 ∨ j = 4 ∨ j = 5 ∨ j = 6 ∨ j = 7 ∨ j = 8 ∨ j = 9 ∨ j = 10 ∨ j = 11 ∨ j = 12 ∨ j = 13 := by omega
    rcases h9 with rfl | rfl | rfl | rfl | rfl | rfl | rfl | rfl | rfl | rfl | rfl | rfl | rfl | rfl <;> rfl) (Nat.le_of_ble_eq_true rfl) (Nat.le_of_ble_eq_true rfl) d_w_law_8 (fun q1v H hP hD hS => ?_)
  have hP : va_P D CL (wC h cI cL X0 ++ [(q1v, .inr (1, [.int 0, .int 0, .null, .null, .null, .null, .null, .null, .null, .null, .int 0, .null, .int 0, .null]))]) H := hP
  have hD : va_D (AL s) (wC h cI cL X0 ++ [(q1v, .inr (1, [.int 0, .int 0, .null, .null, .null, .null, .null, .null, .null, .null, .int 0, .null, .int 0, .null]))]) := hD
  refine lv_dup hx hb d_w_law_11 rfl ?_
  have hPc := hP.sub (ws' := [(q1v, .inr (1, [.int 0, .int 0, .null, .null, .null, .null, .null, .null, .null, .null, .int 0, .null, .int 0, .null]))]) [13] rfl
  have hDc := hD.sub (ws' := [(q1v, .inr (1, [.int 0, .int 0, .null, .null, .null, .null, .null, .null, .null, .null, .int 0, .null, .int 0, .null]))]) [13] (by decide) rfl
  have hKc := hK.sub (tys' := []) [] rfl
  have hFc := va_free (wc := [(q1v, .inr (1, [.int 0, .int 0, .null, .null, .null, .null, .null, .null, .null, .null, .int 0, .null, .int 0, .null]))]) hD hS hA [13] rfl
  refine va_callv (va_runI (Ts := wG) (As := []) (rest := [.ref q1v]) ⟨hx, hb, hml, hown, hwG⟩ (cj_init l D q1v H.size) (cwI 0 hwG (wG_sub (a := [.code y_m_init b_m_init 1 none]) (List.forall_mem_cons.mpr ⟨kc_m_init, fun _ h9 => nomatch h9⟩)) rfl rfl rfl (hwG _ kn_MoveRowsModel) (hwG _ kl_w_80) (hwG _ ki_m_init) rfl (by decide +kernel) ⟨by decide, by decide⟩) ⟨fun a U g mk q => by obtain ⟨q0, q1, qP, qK, qD⟩ := q; exact ⟨q0, q1, qP, va_K.moved (u := U) (U := U.calling g mk a) (Vm.Alike.refl U.vm) qK, qD⟩, fun U hU hW => ⟨rfl, by rw [hU], by rw [hU]; exact hPc, va_K.moved hW.alike hKc, hDc.weaken (fun _ _ _ _ => trivial)⟩⟩ rfl rfl hl.1 rfl (lv_room (Nat.le_of_ble_eq_true rfl)) d_w_law_12 ⟨Nat.le_of_ble_eq_true rfl, Nat.le_of_ble_eq_true rfl⟩) hS (fun q _ h => hFc q h) hFc (fun u t H1 locs ht hvm hw hB hz1 hk1 hS => ?_)
  obtain ⟨g, cJ⟩ := u
  obtain ⟨e1, hP1, hK1, hD1⟩ := hB
  dsimp only at e1 hP1 hK1 hD1
  rw [ht] at hP1
  have hK1 := va_K.moved hvm.symm hK1
  obtain rfl : cI = cJ := Option.some.inj ((hK.2 0 _ rfl).2.symm.trans (hK1.2 0 _ rfl).2)
  obtain ⟨hP, hD⟩ := va_join (wr := wC h cI cL X0) (w1 := wj g cI Z0) hP hD [13] [0, 1, 2, 3, 4, 5, 6, 7, 8, 9, 10, 11, 12] rfl rfl (by decide) (by decide) hk1 hFc hP1 hD1
  generalize H1 = H at hP hS ⊢
  rw [← e1]
  refine lv_astore_n (lv' := [(2, .ref (g 0)), (1, .ref (h 0)), (0, .ref b)]) hx hb d_w_law_15 rfl hl (by decide) rfl (fun ls hl => ?_)
  refine q_iconst hx hb d_w_law_16 ?_
  refine va_newa (a0 := (1, .inr (.inl (aL X00 0)))) (N' := 1) hx hb (hwG _ ka_long) rfl hK hP hD hS hA (fun _ => rfl) (by decide) (by decide) (by decide) (by decide) (by decide) d_w_law_17 (fun ho cA H hK hP hD hS => ?_)
  obtain rfl : cL = cA := Option.some.inj ((hK.2 1 _ rfl).2.symm.trans (hK.2 2 _ rfl).2)
  have hK := hK.sub (tys' := TYS cI cL) [0, 1] rfl
  have hP : va_P D CL (wL h g cI cL ho X0 Z0 (aL X00 0)) H := hP.sub (ws' := wL h g cI cL ho X0 Z0 (aL X00 0)) [0, 1, 2, 3, 4, 5, 6, 7, 8, 9, 10, 11, 12, 13, 14, 15, 16, 17, 18, 19, 20, 21, 22, 23, 24] rfl
  have hD : va_D (AL s) (wL h g cI cL ho X0 Z0 (aL X00 0)) := hD.sub (ws' := wL h g cI cL ho X0 Z0 (aL X00 0)) [0, 1, 2, 3, 4, 5, 6, 7, 8, 9, 10, 11, 12, 13, 14, 15, 16, 17, 18, 19, 20, 21, 22, 23, 24] (by decide) rfl
  refine lv_astore_n (lv' := [(3, .ref ho), (2, .ref (g 0)), (1, .ref (h 0)), (0, .ref b)]) hx hb d_w_law_19 rfl hl (by decide) rfl (fun ls hl => ?_)
  refine q_iconst hx hb d_w_law_20 ?_
  refine lv_istore (lv' := [(4, .int (zI 0)), (3, .ref ho), (2, .ref (g 0)), (1, .ref (h 0)), (0, .ref b)]) hx hb d_w_law_21 hl (by decide) rfl (fun ls hl => ?_)
  refine W.widen (k := 25 + 0) (n := 2506 + 6 * 0) (by omega) (by omega) ?_
  exact law_loop l hlt hL ⟨hx, hb, hml, hr, hlocks, hown, hwG, hK, gX_start hts hgv, nX_start hgv, hX, hbl⟩ 513 0 X0 Z0 (aL X00 0) H _ ls (by omega) (by omega) ⟨hP, hD, hS⟩ inv_0 sim_0 (lv_sub hl [0, 4, 3, 2, 1] rfl)
