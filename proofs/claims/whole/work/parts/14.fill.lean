theorem arrV_congr {c : ClassId} {N : Nat} {f g : Nat → Value} (h : ∀ j, j < N → f j = g j) : arrV c N f = arrV c N g := by
  unfold arrV
  congr 1
  exact congrArg Array.ofFn (funext fun j => h j.val j.isLt)
/-- the contents of an array matter below its length alone -/
theorem wP_congrL {D : va_G} {cl : List vw_C} {H : Heap} {a N : Nat} {c : ClassId} {f g : Nat → Int64} (h : ∀ j, j < N → f j = g j) (hP : va_P D cl [(a, .inl (c, N, .inr (.inl f)))] H) : va_P D cl [(a, .inl (c, N, .inr (.inl g)))] H := by
  intro k q hk
  have h0 := hP 0 _ rfl
  match k, hk with
  | 0, hk =>
    cases hk
    show H[a]? = some (vp_cell c (N, .inr (.inl g)))
    have h1 : H[a]? = some (vp_cell c (N, .inr (.inl f))) := h0
    rw [h1, vp_cell_l, vp_cell_l, arrV_congr (fun j hj => by rw [h j hj])]
  | k + 1, hk => simp at hk
theorem wP_congrI {D : va_G} {cl : List vw_C} {H : Heap} {a N : Nat} {c : ClassId} {f g : Nat → Int32} (h : ∀ j, j < N → f j = g j) (hP : va_P D cl [(a, .inl (c, N, .inl f))] H) : va_P D cl [(a, .inl (c, N, .inl g))] H := by
  intro k q hk
  have h0 := hP 0 _ rfl
  match k, hk with
  | 0, hk =>
    cases hk
    show H[a]? = some (vp_cell c (N, .inl g))
    have h1 : H[a]? = some (vp_cell c (N, .inl f)) := h0
    rw [h1, vp_cell_i, vp_cell_i, arrV_congr (fun j hj => by rw [h j hj])]
  | k + 1, hk => simp at hk
/-- the same of a world's distinctness: the addresses alone matter -/
theorem wD_addr {A : Nat → Prop} {w1 w2 : va_W} (h : w1.map (·.1) = w2.map (·.1)) (hD : va_D A w1) : va_D A w2 := by
  have key : ∀ (i : Nat) (q : Nat × va_E), w2[i]? = some q → ∃ q' : Nat × va_E, w1[i]? = some q' ∧ q'.1 = q.1 := by
    intro i q hq
    have e : (w1.map (·.1))[i]? = some q.1 := by rw [h, List.getElem?_map, hq]; rfl
    rw [List.getElem?_map] at e
    cases hw : w1[i]? with
    | none => rw [hw] at e; cases e
    | some q' => rw [hw] at e; exact ⟨q', rfl, Option.some.inj e⟩
  refine ⟨fun i j x y hx hy hxy => ?_, fun k q hk => ?_⟩
  · obtain ⟨x', hx', ex⟩ := key i x hx
    obtain ⟨y', hy', ey⟩ := key j y hy
    exact hD.1 i j x' y' hx' hy' (by rw [ex, ey]; exact hxy)
  · obtain ⟨q', hq', eq⟩ := key k q hk
    rw [← eq]
    exact hD.2 k q' hq'
set_option maxHeartbeats 4000000 in
set_option maxRecDepth 100000 in
theorem c_fillL (l : Launch) (D : va_G) (cA : ClassId) (a N sz : Nat) (f : Nat → Int64) (v : Int64) (hN : N < 2147483648) : Met l y_fillL (.code y_fillL b_fillL 5 none :: wG) { frames := 1, cells := 0, slots := 0, locals := 40 } (va_Pc [.ref a, .long v] (fun U => U.heap.size = sz ∧ va_P D CL [(a, .inl (cA, N, .inr (.inl f)))] U.heap ∧ va_K D CL [(cA, .long)] U ∧ va_D (fun _ => True) [(a, .inl (cA, N, .inr (.inl f)))])) (va_Qv (fun g : Nat → Int64 => ∀ j, j < N → g j = v) (fun g t => va_P D CL [(a, .inl (cA, N, .inr (.inl g)))] t.heap ∧ va_K D CL [(cA, .long)] t ∧ va_D (va_A [(a, .inl (cA, N, .inr (.inl f)))] sz) [(a, .inl (cA, N, .inr (.inl g)))]) (va_A [(a, .inl (cA, N, .inr (.inl f)))] sz)) 0 0 (va_A [(a, .inl (cA, N, .inr (.inl f)))] sz) := by
  refine Met.ofW (cc := b_fillL) (maxL := 5) (ret := none) (by decide) rfl ?_
  intro p e s m args below meth c s₁ B hml hv
  obtain ⟨rfl, hsz, hP, hK, hD0⟩ := hv
  have hx := B.exec
  have hb := B.bytes
  have hr := B.returns
  have hlocks := B.notSynchronized
  subst hsz
  have hD := hD0.self (sz := s.heap.size)
  have hS : va_S (va_A [(a, .inl (cA, N, .inr (.inl f)))] s.heap.size) s.heap s.heap [] := va_S.rf
  have hl := lv_entry ([.ref a, .long v]) (n := 5) (Nat.le_of_ble_eq_true rfl)
  rw [lg_entry_eq]
  generalize (lg_sl ([.ref a, .long v]) ++ List.replicate (5 - (lg_sl ([.ref a, .long v])).length) Slot.unset).toArray = ls at hl ⊢
  have hl : lv_has ls 5 [(0, .ref a), (1, .long v)] := hl
  refine q_iconst hx hb d_fillL_0 ?_
  refine lv_istore_n (lv' := [(3, .int (zI 0)), (0, .ref a), (1, .long v)]) hx hb d_fillL_1 rfl hl (by decide) rfl (fun ls hl => ?_)
  refine lv_aload_n hx hb d_fillL_2 rfl (lv_at hl 1 rfl) ?_
  refine va_alen (v := zI (N : Int)) hx hb hK hP 0 0 rfl rfl Int32.ofInt_eq_ofNat.symm d_fillL_3 ?_
  refine lv_istore (lv' := [(4, .int (zI (N : Int))), (3, .int (zI 0)), (0, .ref a), (1, .long v)]) hx hb d_fillL_4 hl (by decide) rfl (fun ls hl => ?_)
  have lp : ∀ (n : Nat) (i : Int) (g : Nat → Int64) (ls : Array Slot) (H : Heap) (locs : List Loc), i + (n : Int) = N → 0 ≤ i → (∀ j : Nat, (j : Int) < i → g j = v) → lv_has ls 5 [(4, .int (zI (N : Int))), (3, .int (zI i)), (0, .ref a), (1, .long v)] → va_P D CL [(a, .inl (cA, N, .inr (.inl g)))] H → va_D (va_A [(a, .inl (cA, N, .inr (.inl f)))] s.heap.size) [(a, .inl (cA, N, .inr (.inl g)))] → va_S (va_A [(a, .inl (cA, N, .inr (.inl f)))] s.heap.size) s.heap H locs → W p l e { frames := 1, cells := 0, slots := 0, locals := 40 } s m ([.ref a, .long v] : List Value).toArray below meth c H locs 0 0 (MQ below (va_Qv (fun g : Nat → Int64 => ∀ j, j < N → g j = v) (fun g t => va_P D CL [(a, .inl (cA, N, .inr (.inl g)))] t.heap ∧ va_K D CL [(cA, .long)] t ∧ va_D (va_A [(a, .inl (cA, N, .inr (.inl f)))] s.heap.size) [(a, .inl (cA, N, .inr (.inl g)))]) (va_A [(a, .inl (cA, N, .inr (.inl f)))] s.heap.size)) ([.ref a, .long v] : List Value).toArray s 0 0 (va_A [(a, .inl (cA, N, .inr (.inl f)))] s.heap.size)) (F0 m 6 ls []) := by
    intro n
    induction n with
    | zero =>
      intro i g ls H locs hi h0 hg hl hP hD hS
      refine lv_iload_n hx hb d_fillL_6 rfl (lv_at hl 1 rfl) ?_
      refine lv_iload hx hb d_fillL_7 (lv_at hl 0 rfl) ?_
      refine q_icmp_ge (tgt := 22) hx hb d_fillL_9 (by decide) ⟨by omega, by omega⟩ ⟨by omega, by omega⟩ (fun c1 => ?_) (fun c1 => ?_)
      · exact W.vret hx hb hr (fun t ht hW => ⟨⟨g, rfl, fun j hj => hg j (by omega), by rw [ht]; exact hP, va_K.moved hW.alike hK, hD⟩, hS.F ht⟩) hS.2.2 d_fillL_22
      · exact absurd c1 (by omega)
    | succ n ih =>
      intro i g ls H locs hi h0 hg hl hP hD hS
      refine lv_iload_n hx hb d_fillL_6 rfl (lv_at hl 1 rfl) ?_
      refine lv_iload hx hb d_fillL_7 (lv_at hl 0 rfl) ?_
      refine q_icmp_ge (tgt := 22) hx hb d_fillL_9 (by decide) ⟨by omega, by omega⟩ ⟨by omega, by omega⟩ (fun c1 => ?_) (fun c1 => ?_)
      · exact absurd c1 (by omega)
      · refine lv_aload_n hx hb d_fillL_12 rfl (lv_at hl 2 rfl) ?_
        refine lv_iload_n hx hb d_fillL_13 rfl (lv_at hl 1 rfl) ?_
        refine lv_lload_n hx hb d_fillL_14 rfl (lv_at hl 3 rfl) ?_
        refine va_last hx hb hK hP hD hS 0 0 rfl rfl (zI_in h0 (by omega) hN) d_fillL_15 (fun H locs hP hD hS => ?_)
        refine lv_iinc (v := zI (i + 1)) (lv' := [(3, .int (zI (i + 1))), (4, .int (zI (N : Int))), (0, .ref a), (1, .long v)]) hx hb d_fillL_16 hl (k := 1) rfl (zI_add i 1) (by decide) rfl (fun ls hl => ?_)
        refine lv_goto (tgt := 6) hx hb d_fillL_19 (by decide) ?_
        refine ih (i + 1) _ ls H locs (by omega) (by omega) ?_ (lv_sub hl [1, 0, 2, 3] rfl) hP hD hS
        intro j hj
        rw [zI_clamp h0 (by omega)]
        show (if j = i.toNat then v else g j) = v
        by_cases hji : j = i.toNat
        · rw [if_pos hji]
        · rw [if_neg hji]; exact hg j (by omega)
  exact lp N 0 f ls s.heap [] (by omega) (by omega) (fun j hj => absurd hj (by omega)) (lv_sub hl [0, 1, 2, 3] rfl) hP hD hS
set_option maxHeartbeats 4000000 in
set_option maxRecDepth 100000 in
theorem c_fillI (l : Launch) (D : va_G) (cA : ClassId) (a N sz : Nat) (f : Nat → Int32) (v : Int32) (hN : N < 2147483648) : Met l y_fillI (.code y_fillI b_fillI 4 none :: wG) { frames := 1, cells := 0, slots := 0, locals := 40 } (va_Pc [.ref a, .int v] (fun U => U.heap.size = sz ∧ va_P D CL [(a, .inl (cA, N, .inl f))] U.heap ∧ va_K D CL [(cA, .int)] U ∧ va_D (fun _ => True) [(a, .inl (cA, N, .inl f))])) (va_Qv (fun g : Nat → Int32 => ∀ j, j < N → g j = v) (fun g t => va_P D CL [(a, .inl (cA, N, .inl g))] t.heap ∧ va_K D CL [(cA, .int)] t ∧ va_D (va_A [(a, .inl (cA, N, .inl f))] sz) [(a, .inl (cA, N, .inl g))]) (va_A [(a, .inl (cA, N, .inl f))] sz)) 0 0 (va_A [(a, .inl (cA, N, .inl f))] sz) := by
  refine Met.ofW (cc := b_fillI) (maxL := 4) (ret := none) (by decide) rfl ?_
  intro p e s m args below meth c s₁ B hml hv
  obtain ⟨rfl, hsz, hP, hK, hD0⟩ := hv
  have hx := B.exec
  have hb := B.bytes
  have hr := B.returns
  have hlocks := B.notSynchronized
  subst hsz
  have hD := hD0.self (sz := s.heap.size)
  have hS : va_S (va_A [(a, .inl (cA, N, .inl f))] s.heap.size) s.heap s.heap [] := va_S.rf
  have hl := lv_entry ([.ref a, .int v]) (n := 4) (Nat.le_of_ble_eq_true rfl)
  rw [lg_entry_eq]
  generalize (lg_sl ([.ref a, .int v]) ++ List.replicate (4 - (lg_sl ([.ref a, .int v])).length) Slot.unset).toArray = ls at hl ⊢
  have hl : lv_has ls 4 [(0, .ref a), (1, .int v)] := hl
  refine q_iconst hx hb d_fillI_0 ?_
  refine lv_istore_n (lv' := [(2, .int (zI 0)), (0, .ref a), (1, .int v)]) hx hb d_fillI_1 rfl hl (by decide) rfl (fun ls hl => ?_)
  refine lv_aload_n hx hb d_fillI_2 rfl (lv_at hl 1 rfl) ?_
  refine va_alen (v := zI (N : Int)) hx hb hK hP 0 0 rfl rfl Int32.ofInt_eq_ofNat.symm d_fillI_3 ?_
  refine lv_istore_n (lv' := [(3, .int (zI (N : Int))), (2, .int (zI 0)), (0, .ref a), (1, .int v)]) hx hb d_fillI_4 rfl hl (by decide) rfl (fun ls hl => ?_)
  have lp : ∀ (n : Nat) (i : Int) (g : Nat → Int32) (ls : Array Slot) (H : Heap) (locs : List Loc), i + (n : Int) = N → 0 ≤ i → (∀ j : Nat, (j : Int) < i → g j = v) → lv_has ls 4 [(3, .int (zI (N : Int))), (2, .int (zI i)), (0, .ref a), (1, .int v)] → va_P D CL [(a, .inl (cA, N, .inl g))] H → va_D (va_A [(a, .inl (cA, N, .inl f))] s.heap.size) [(a, .inl (cA, N, .inl g))] → va_S (va_A [(a, .inl (cA, N, .inl f))] s.heap.size) s.heap H locs → W p l e { frames := 1, cells := 0, slots := 0, locals := 40 } s m ([.ref a, .int v] : List Value).toArray below meth c H locs 0 0 (MQ below (va_Qv (fun g : Nat → Int32 => ∀ j, j < N → g j = v) (fun g t => va_P D CL [(a, .inl (cA, N, .inl g))] t.heap ∧ va_K D CL [(cA, .int)] t ∧ va_D (va_A [(a, .inl (cA, N, .inl f))] s.heap.size) [(a, .inl (cA, N, .inl g))]) (va_A [(a, .inl (cA, N, .inl f))] s.heap.size)) ([.ref a, .int v] : List Value).toArray s 0 0 (va_A [(a, .inl (cA, N, .inl f))] s.heap.size)) (F0 m 5 ls []) := by
    intro n
    induction n with
    | zero =>
      intro i g ls H locs hi h0 hg hl hP hD hS
      refine lv_iload_n hx hb d_fillI_5 rfl (lv_at hl 1 rfl) ?_
      refine lv_iload_n hx hb d_fillI_6 rfl (lv_at hl 0 rfl) ?_
      refine q_icmp_ge (tgt := 20) hx hb d_fillI_7 (by decide) ⟨by omega, by omega⟩ ⟨by omega, by omega⟩ (fun c1 => ?_) (fun c1 => ?_)
      · exact W.vret hx hb hr (fun t ht hW => ⟨⟨g, rfl, fun j hj => hg j (by omega), by rw [ht]; exact hP, va_K.moved hW.alike hK, hD⟩, hS.F ht⟩) hS.2.2 d_fillI_20
      · exact absurd c1 (by omega)
    | succ n ih =>
      intro i g ls H locs hi h0 hg hl hP hD hS
      refine lv_iload_n hx hb d_fillI_5 rfl (lv_at hl 1 rfl) ?_
      refine lv_iload_n hx hb d_fillI_6 rfl (lv_at hl 0 rfl) ?_
      refine q_icmp_ge (tgt := 20) hx hb d_fillI_7 (by decide) ⟨by omega, by omega⟩ ⟨by omega, by omega⟩ (fun c1 => ?_) (fun c1 => ?_)
      · exact absurd c1 (by omega)
      · refine lv_aload_n hx hb d_fillI_10 rfl (lv_at hl 2 rfl) ?_
        refine lv_iload_n hx hb d_fillI_11 rfl (lv_at hl 1 rfl) ?_
        refine lv_iload_n hx hb d_fillI_12 rfl (lv_at hl 3 rfl) ?_
        refine va_iast hx hb hK hP hD hS 0 0 rfl rfl (zI_in h0 (by omega) hN) d_fillI_13 (fun H locs hP hD hS => ?_)
        refine lv_iinc (v := zI (i + 1)) (lv' := [(2, .int (zI (i + 1))), (3, .int (zI (N : Int))), (0, .ref a), (1, .int v)]) hx hb d_fillI_14 hl (k := 1) rfl (zI_add i 1) (by decide) rfl (fun ls hl => ?_)
        refine lv_goto (tgt := 5) hx hb d_fillI_17 (by decide) ?_
        refine ih (i + 1) _ ls H locs (by omega) (by omega) ?_ (lv_sub hl [1, 0, 2, 3] rfl) hP hD hS
        intro j hj
        rw [zI_clamp h0 (by omega)]
        show (if j = i.toNat then v else g j) = v
        by_cases hji : j = i.toNat
        · rw [if_pos hji]
        · rw [if_neg hji]; exact hg j (by omega)
  exact lp N 0 f ls s.heap [] (by omega) (by omega) (fun j hj => absurd hj (by omega)) (lv_sub hl [0, 1, 2, 3] rfl) hP hD hS
