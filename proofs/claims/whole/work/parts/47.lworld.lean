/-! THE LAW: its world and its calls -/
def wL (h g : Nat → Nat) (cI cL : ClassId) (ho : Nat) (X Z : St) (f : Nat → Int64) : va_W := wC h cI cL X ++ (wj g cI Z ++ [(ho, .inl (cL, 1, .inr (.inl f)))])
abbrev AL (s : State) : Nat → Prop := fun q : Nat => s.heap.size ≤ q
def CxL (p : Program) (s : State) (m : MethodId) (meth : Method) (c : Code) (D : va_G) (cI cL : ClassId) (b L : Nat) (xs : Nat → Int32) : Prop :=
  p.tables.exec = Jvm.exec ∧ c.code = code ∧ c.maxLocals = 8 ∧ meth.sig.returnType = ret ∧ meth.locks = false ∧ s.vm.findClass "MoveRowsLaw" = some m.cls ∧ (∀ w ∈ wG, w.before #[Value.ref b] s = true) ∧ va_K D CL (TYS cI cL) s ∧ gX (AL s) s ∧ nX s ∧ va_X b L xs s s.heap ∧ b < s.heap.size
def KwL (D : va_G) (h g : Nat → Nat) (cI cL : ClassId) (ho : Nat) (s : State) (X Z : St) (f : Nat → Int64) (H : Heap) (locs : List Loc) : Prop := va_P D CL (wL h g cI cL ho X Z f) H ∧ va_D (AL s) (wL h g cI cL ho X Z f) ∧ va_S (AL s) s.heap H locs
/-- a number of the script -/
def sx (xs : Nat → Int32) (x : Int) : Int := (xs x.toNat).toInt
theorem sx_r (xs : Nat → Int32) (x : Int) : rI (sx xs x) := rI_toInt _
theorem zI_nat {n : Nat} (h : n < 2147483648) : Int32.ofNat n = zI n := by
  apply Int32.toInt_inj.mp
  rw [zI_toInt ⟨by omega, by omega⟩, Int32.toInt_ofNat_of_lt h]
section LCA
variable {p : Program} {l : Launch} {e : Env} {s : State} {m : MethodId} {below : List Frame} {meth : Method} {c : Code} {H : Heap} {locs : List Loc} {cells slots mc ms n idx maxL : Nat} {Q : State → Prop} {As : List Value} {bytes : ByteArray} {rt : Option FieldType}
variable {pc ho b L : Nat} {xs : Nat → Int32} {ls : Array Slot} {rest st0 : List Value} {D : va_G} {h g : Nat → Nat} {cI cL : ClassId} {X Z : St} {f : Nat → Int64} {y : MethodName} {rm : Room} {Qc : Array Value → State → Outcome → State → Prop} {free : Addr → Prop} {hh : List (Nat × Nat × Nat × Nat)}
theorem hA_L : ∀ q : Nat, s.heap.size ≤ q → AL s q := fun _ h => h
theorem ql_sld (cx : CxL p s m meth c D cI cL b L xs) (hw : KwL D h g cI cL ho s X Z f H locs) {x : Int} (h0 : 0 ≤ x) (h1 : x < L) (hL : L < 2147483648) (d : decode code pc = .ok (.iaload, 1)) (kk : W p l e room_1 s m #[Value.ref b] below meth c H locs cells slots Q (F0 m (pc + 1) ls (.int (zI (sx xs x)) :: rest))) : W p l e room_1 s m #[Value.ref b] below meth c H locs cells slots Q (F0 m pc ls (.int (zI x) :: .ref b :: rest)) := by
  obtain ⟨hx, hb, hml, hr0, hlk, hown, hts, hK, hG, hN, hX, hbl⟩ := cx
  refine va_sld hx hb hX hbl (Nat.not_le.mpr hbl) hw.2.2 (zI_in h0 h1 hL) d ?_
  rw [zI_clamp h0 (by omega)]
  unfold sx at kk
  rw [zI_self] at kk
  exact kk
theorem ql_len (cx : CxL p s m meth c D cI cL b L xs) (hw : KwL D h g cI cL ho s X Z f H locs) (hL : L < 2147483648) (d : decode code pc = .ok (.arraylength, 1)) (kk : W p l e room_1 s m #[Value.ref b] below meth c H locs cells slots Q (F0 m (pc + 1) ls (.int (zI L) :: rest))) : W p l e room_1 s m #[Value.ref b] below meth c H locs cells slots Q (F0 m pc ls (.ref b :: rest)) := by
  obtain ⟨hx, hb, hml, hr0, hlk, hown, hts, hK, hG, hN, hX, hbl⟩ := cx
  refine va_slen hx hb hX hbl (Nat.not_le.mpr hbl) hw.2.2 d ?_
  rw [zI_nat hL]
  exact kk
theorem ql_out (cx : CxL p s m meth c D cI cL b L xs) (hw : KwL D h g cI cL ho s X Z f H locs) (d : decode code pc = .ok (.laload, 1)) (kk : W p l e room_1 s m #[Value.ref b] below meth c H locs cells slots Q (F0 m (pc + 1) ls (.long (f 0) :: rest))) : W p l e room_1 s m #[Value.ref b] below meth c H locs cells slots Q (F0 m pc ls (.int (zI 0) :: .ref ho :: rest)) := by
  obtain ⟨hx, hb, hml, hr0, hlk, hown, hts, hK, hG, hN, hX, hbl⟩ := cx
  refine va_lald hx hb hK hw.1 24 1 (cA := cL) (n := 1) (f := f) rfl rfl (zI_in (by decide) (by decide) (by decide)) d ?_
  rw [zI_clamp (by decide) (by decide)]
  exact kk
theorem fl_W (hw : KwL D h g cI cL ho s X Z f H locs) : ∀ q, va_A (wW h cI cL ho X f) H.size q → AL s q := va_free (wc := wW h cI cL ho X f) hw.2.1 hw.2.2 hA_L [0, 1, 2, 3, 4, 5, 6, 7, 8, 9, 10, 11, 12, 24] rfl
theorem fl_C (hw : KwL D h g cI cL ho s X Z f H locs) : ∀ q, va_A (wC h cI cL X) H.size q → AL s q := va_free (wc := wC h cI cL X) hw.2.1 hw.2.2 hA_L [0, 1, 2, 3, 4, 5, 6, 7, 8, 9, 10, 11, 12] rfl
theorem fl_J (hw : KwL D h g cI cL ho s X Z f H locs) : ∀ q, va_A (wj g cI Z) H.size q → AL s q := va_free (wc := wj g cI Z) hw.2.1 hw.2.2 hA_L [13, 14, 15, 16, 17, 18, 19, 20, 21, 22, 23] rfl
theorem jl_W (hw : KwL D h g cI cL ho s X Z f H locs) {H1 : Heap} {locs1 : List Loc} {X' : St} {f' : Nat → Int64} (hk1 : ∀ q : Nat, q < H.size → ¬ va_A (wW h cI cL ho X f) H.size q → H1[q]? = H[q]?) (hP1 : va_P D CL (wW h cI cL ho X' f') H1) (hD1 : va_D (va_A (wW h cI cL ho X f) H.size) (wW h cI cL ho X' f')) (hS1 : va_S (AL s) s.heap H1 locs1) : KwL D h g cI cL ho s X' Z f' H1 locs1 := by
  have hF := fl_W hw
  obtain ⟨hP, hD, hS⟩ := hw
  obtain ⟨hP2, hD2⟩ := va_join (wr := wj g cI Z) (w1 := wW h cI cL ho X' f') hP hD [0, 1, 2, 3, 4, 5, 6, 7, 8, 9, 10, 11, 12, 24] [13, 14, 15, 16, 17, 18, 19, 20, 21, 22, 23] rfl rfl (by decide) (by decide) hk1 hF hP1 hD1
  exact ⟨hP2.sub (ws' := wL h g cI cL ho X' Z f') [11, 12, 13, 14, 15, 16, 17, 18, 19, 20, 21, 22, 23, 0, 1, 2, 3, 4, 5, 6, 7, 8, 9, 10, 24] rfl, hD2.sub (ws' := wL h g cI cL ho X' Z f') [11, 12, 13, 14, 15, 16, 17, 18, 19, 20, 21, 22, 23, 0, 1, 2, 3, 4, 5, 6, 7, 8, 9, 10, 24] (by decide) rfl, hS1⟩
theorem jl_C (hw : KwL D h g cI cL ho s X Z f H locs) {H1 : Heap} {locs1 : List Loc} {X' : St} (hk1 : ∀ q : Nat, q < H.size → ¬ va_A (wC h cI cL X) H.size q → H1[q]? = H[q]?) (hP1 : va_P D CL (wC h cI cL X') H1) (hD1 : va_D (va_A (wC h cI cL X) H.size) (wC h cI cL X')) (hS1 : va_S (AL s) s.heap H1 locs1) : KwL D h g cI cL ho s X' Z f H1 locs1 := by
  have hF := fl_C hw
  obtain ⟨hP, hD, hS⟩ := hw
  obtain ⟨hP2, hD2⟩ := va_join (wr := wj g cI Z ++ [(ho, .inl (cL, 1, .inr (.inl f)))]) (w1 := wC h cI cL X') hP hD [0, 1, 2, 3, 4, 5, 6, 7, 8, 9, 10, 11, 12] [13, 14, 15, 16, 17, 18, 19, 20, 21, 22, 23, 24] rfl rfl (by decide) (by decide) hk1 hF hP1 hD1
  exact ⟨hP2.sub (ws' := wL h g cI cL ho X' Z f) [12, 13, 14, 15, 16, 17, 18, 19, 20, 21, 22, 23, 24, 0, 1, 2, 3, 4, 5, 6, 7, 8, 9, 10, 11] rfl, hD2.sub (ws' := wL h g cI cL ho X' Z f) [12, 13, 14, 15, 16, 17, 18, 19, 20, 21, 22, 23, 24, 0, 1, 2, 3, 4, 5, 6, 7, 8, 9, 10, 11] (by decide) rfl, hS1⟩
theorem jl_J (hw : KwL D h g cI cL ho s X Z f H locs) {H1 : Heap} {locs1 : List Loc} {Z' : St} (hk1 : ∀ q : Nat, q < H.size → ¬ va_A (wj g cI Z) H.size q → H1[q]? = H[q]?) (hP1 : va_P D CL (wj g cI Z') H1) (hD1 : va_D (va_A (wj g cI Z) H.size) (wj g cI Z')) (hS1 : va_S (AL s) s.heap H1 locs1) : KwL D h g cI cL ho s X Z' f H1 locs1 := by
  have hF := fl_J hw
  obtain ⟨hP, hD, hS⟩ := hw
  obtain ⟨hP2, hD2⟩ := va_join (wr := wC h cI cL X ++ [(ho, .inl (cL, 1, .inr (.inl f)))]) (w1 := wj g cI Z') hP hD [13, 14, 15, 16, 17, 18, 19, 20, 21, 22, 23] [0, 1, 2, 3, 4, 5, 6, 7, 8, 9, 10, 11, 12, 24] rfl rfl (by decide) (by decide) hk1 hF hP1 hD1
  exact ⟨hP2.sub (ws' := wL h g cI cL ho X Z' f) [0, 1, 2, 3, 4, 5, 6, 7, 8, 9, 10, 11, 12, 14, 15, 16, 17, 18, 19, 20, 21, 22, 23, 24, 13] rfl, hD2.sub (ws' := wL h g cI cL ho X Z' f) [0, 1, 2, 3, 4, 5, 6, 7, 8, 9, 10, 11, 12, 14, 15, 16, 17, 18, 19, 20, 21, 22, 23, 24, 13] (by decide) rfl, hS1⟩
/-- a helper's call -/
theorem rl_S (cx : CxL p s m meth c D cI cL b L xs) (hw : KwL D h g cI cL ho s X Z f H locs) (hsz : ls.size = 8) (hM : Met l y (.codeWith y bytes maxL rt hh :: wG) rm (va_Pc As (pW D h cI cL ho X f H.size)) Qc mc ms free)
    (hg : ∀ w ∈ ([.methodLink "MoveRowsLaw" idx y, .static y, .initialized y.cls, .codeWith y bytes maxL rt hh] : List Cond), w ∈ wG) (hrc : rm.cells = mc) (hrs : rm.slots = ms)
    (hd : y.cls = "MoveRowsLaw" ∧ y.cls ≠ "java/lang/invoke/MethodHandle" ∧ y.cls ≠ "java/lang/invoke/VarHandle" ∧ (parseMethodDescriptor y.desc).map (fun d => d.parameters.length) = some n) (hR : rm.frames + 1 ≤ room_1.frames ∧ 8 + (maxL + 11) + rm.locals ≤ room_1.locals)
    (hn : As.length = n) (hst : st0 = As.reverse ++ rest) (hro : (rest.map fun v => v.category).sum ≤ 8) (d : decode code pc = .ok (.invokestatic idx, 3)) (hf : cells + mc ≤ room_1.cells ∧ slots + ms ≤ room_1.slots) :
    va_Run p l e room_1 s m #[Value.ref b] below meth c H locs cells slots mc ms (F0 m pc ls st0) rest (Qc As.toArray) free := by
  obtain ⟨hx, hb, hml, hr0, hlk, hown, hts, hK, hG, hN, hX, hbl⟩ := cx
  have hF := fl_W hw
  obtain ⟨hP, hD, hS⟩ := hw
  have hPc := hP.sub (ws' := wW h cI cL ho X f) [0, 1, 2, 3, 4, 5, 6, 7, 8, 9, 10, 11, 12, 24] rfl
  have hDc := hD.sub (ws' := wW h cI cL ho X f) [0, 1, 2, 3, 4, 5, 6, 7, 8, 9, 10, 11, 12, 24] (by decide) rfl
  exact vx_runSW (Ts := wG) ⟨hx, hb, hml, hown, hts⟩ hM (vx_cwSW n hts (wG_sub (a := [.methodLink "MoveRowsLaw" idx y, .static y, .initialized y.cls, .codeWith y bytes maxL rt hh]) hg) rfl hrc hrs hd.2 hR) ⟨pW_blind, fun U hU hW => ⟨rfl, by rw [hU], by rw [hU]; exact hPc, va_K.moved hW.alike hK, hDc.weaken (fun _ _ _ _ => trivial), hG.to hW (fun a h1 h2 => by rw [hU]; exact hS.2.1 a h1 h2) hF, nX.moved hW.alike hN⟩⟩ rfl hn hsz hst (lv_room hro) d hf
theorem kl_h {post : Int32 → St × (Nat → Int64) → Prop} {a : Array Value} (hw : KwL D h g cI cL ho s X Z f H locs) (hr : va_Run p l e room_1 s m #[Value.ref b] below meth c H locs cells slots mc ms (F0 m pc ls st0) rest (va_Qi post (bW D h cI cL ho (fW h cI cL ho X f H.size)) (fW h cI cL ho X f H.size) a) (fW h cI cL ho X f H.size))
    (kk : ∀ (r : Int32) (X' : St) (f' : Nat → Int64) (H1 : Heap) (locs1 : List Loc), post r (X', f') → KwL D h g cI cL ho s X' Z f' H1 locs1 → W p l e room_1 s m #[Value.ref b] below meth c H1 locs1 (cells + mc) (slots + ms) Q (F0 m (pc + 3) ls (.int r :: rest))) : W p l e room_1 s m #[Value.ref b] below meth c H locs cells slots Q (F0 m pc ls st0) := by
  have hF := fl_W hw
  refine va_calli hr hw.2.2 (fun q _ h => hF q h) hF (fun r u t H1 locs1 ht hvm hp hB hz1 hk1 hS1 => ?_)
  obtain ⟨hP1, hK1, hD1⟩ := hB
  rw [ht] at hP1
  exact kk r u.1 u.2 H1 locs1 hp (jl_W hw hk1 hP1 hD1 hS1)
/-- a call of the reference's -/
theorem rl_J (cx : CxL p s m meth c D cI cL b L xs) (hw : KwL D h g cI cL ho s X Z f H locs) (hsz : ls.size = 8) (hM : Met l y (.code y bytes maxL rt :: wG) rm (va_Pc (.ref (g 0) :: As) (pj D g cI Z H.size)) Qc mc ms free)
    (hg : ∀ w ∈ ([.methodLink "MoveRowsLaw" idx y, .instanceMethod y, .selects "MoveRowsModel" y y, .initialized "MoveRowsModel", .code y bytes maxL rt] : List Cond), w ∈ wG) (hrc : rm.cells = mc) (hrs : rm.slots = ms)
    (hd : y.cls = "MoveRowsModel" ∧ y.cls ≠ "java/lang/invoke/MethodHandle" ∧ y.cls ≠ "java/lang/invoke/VarHandle" ∧ (parseMethodDescriptor y.desc).map (fun d => d.parameters.length) = some n) (hR : rm.frames + 1 ≤ room_1.frames ∧ 8 + (maxL + 11) + rm.locals ≤ room_1.locals)
    (hn : As.length = n) (hst : st0 = As.reverse ++ .ref (g 0) :: rest) (hro : (rest.map fun v => v.category).sum ≤ 8) (d : decode code pc = .ok (.invokevirtual idx, 3)) (hf : cells + mc ≤ room_1.cells ∧ slots + ms ≤ room_1.slots) :
    va_Run p l e room_1 s m #[Value.ref b] below meth c H locs cells slots mc ms (F0 m pc ls st0) rest (Qc (Value.ref (g 0) :: As).toArray) free := by
  obtain ⟨hx, hb, hml, hr0, hlk, hown, hts, hK, hG, hN, hX, hbl⟩ := cx
  obtain ⟨hP, hD, hS⟩ := hw
  have hPc := hP.sub (ws' := wj g cI Z) [13, 14, 15, 16, 17, 18, 19, 20, 21, 22, 23] rfl
  have hDc := hD.sub (ws' := wj g cI Z) [13, 14, 15, 16, 17, 18, 19, 20, 21, 22, 23] (by decide) rfl
  have hKc := hK.sub (tys' := TYJ cI) [0] rfl
  exact va_runV (Ts := wG) ⟨hx, hb, hml, hown, hts⟩ hM (cwV n hts (wG_sub (a := [.methodLink "MoveRowsLaw" idx y, .instanceMethod y, .selects "MoveRowsModel" y y, .initialized "MoveRowsModel", .code y bytes maxL rt]) hg) rfl hrc hrs hd hR) ⟨pj_blind, va_recv hKc hPc (ci := 1) (q0 := 0) rfl rfl, fun U hU hW => ⟨rfl, by rw [hU], by rw [hU]; exact hPc, va_K.moved hW.alike hKc, hDc.weaken (fun _ _ _ _ => trivial)⟩⟩ rfl hn hsz hst (lv_room hro) d hf
theorem km_i {post : Int32 → St → Prop} {a : Array Value} (hw : KwL D h g cI cL ho s X Z f H locs) (hr : va_Run p l e room_1 s m #[Value.ref b] below meth c H locs cells slots 0 0 (F0 m pc ls st0) rest (va_Qi post (bj D g cI (fj g cI Z H.size)) (fj g cI Z H.size) a) (fj g cI Z H.size))
    (kk : ∀ (r : Int32) (Z' : St) (H1 : Heap) (locs1 : List Loc), post r Z' → KwL D h g cI cL ho s X Z' f H1 locs1 → W p l e room_1 s m #[Value.ref b] below meth c H1 locs1 cells slots Q (F0 m (pc + 3) ls (.int r :: rest))) : W p l e room_1 s m #[Value.ref b] below meth c H locs cells slots Q (F0 m pc ls st0) := by
  have hF := fl_J hw
  refine va_calli hr hw.2.2 (fun q _ h => hF q h) hF (fun r u t H1 locs1 ht hvm hp hB hz1 hk1 hS1 => ?_)
  obtain ⟨hP1, hK1, hD1⟩ := hB
  rw [ht] at hP1
  exact kk r u H1 locs1 hp (jl_J hw hk1 hP1 hD1 hS1)
theorem km_l {post : Int64 → St → Prop} {a : Array Value} (hw : KwL D h g cI cL ho s X Z f H locs) (hr : va_Run p l e room_1 s m #[Value.ref b] below meth c H locs cells slots 0 0 (F0 m pc ls st0) rest (va_Ql post (bj D g cI (fj g cI Z H.size)) (fj g cI Z H.size) a) (fj g cI Z H.size))
    (kk : ∀ (r : Int64) (Z' : St) (H1 : Heap) (locs1 : List Loc), post r Z' → KwL D h g cI cL ho s X Z' f H1 locs1 → W p l e room_1 s m #[Value.ref b] below meth c H1 locs1 cells slots Q (F0 m (pc + 3) ls (.long r :: rest))) : W p l e room_1 s m #[Value.ref b] below meth c H locs cells slots Q (F0 m pc ls st0) := by
  have hF := fl_J hw
  refine va_calll hr hw.2.2 (fun q _ h => hF q h) hF (fun r u t H1 locs1 ht hvm hp hB hz1 hk1 hS1 => ?_)
  obtain ⟨hP1, hK1, hD1⟩ := hB
  rw [ht] at hP1
  exact kk r u H1 locs1 hp (jl_J hw hk1 hP1 hD1 hS1)
theorem km_v {post : St → Prop} {a : Array Value} (hw : KwL D h g cI cL ho s X Z f H locs) (hr : va_Run p l e room_1 s m #[Value.ref b] below meth c H locs cells slots 0 0 (F0 m pc ls st0) rest (va_Qv post (bj D g cI (fj g cI Z H.size)) (fj g cI Z H.size) a) (fj g cI Z H.size))
    (kk : ∀ (Z' : St) (H1 : Heap) (locs1 : List Loc), post Z' → KwL D h g cI cL ho s X Z' f H1 locs1 → W p l e room_1 s m #[Value.ref b] below meth c H1 locs1 cells slots Q (F0 m (pc + 3) ls rest)) : W p l e room_1 s m #[Value.ref b] below meth c H locs cells slots Q (F0 m pc ls st0) := by
  have hF := fl_J hw
  refine va_callv hr hw.2.2 (fun q _ h => hF q h) hF (fun u t H1 locs1 ht hvm hp hB hz1 hk1 hS1 => ?_)
  obtain ⟨hP1, hK1, hD1⟩ := hB
  rw [ht] at hP1
  exact kk u H1 locs1 hp (jl_J hw hk1 hP1 hD1 hS1)
/-- a call of the class's, that only returns -/
theorem rl_C (cx : CxL p s m meth c D cI cL b L xs) (hw : KwL D h g cI cL ho s X Z f H locs) (hsz : ls.size = 8) (hM : Met l y (.code y bytes maxL rt :: wG) rm (va_Pc (.ref (h 0) :: As) (pC D h cI cL X H.size)) Qc mc ms free)
    (hg : ∀ w ∈ ([.methodLink "MoveRowsLaw" idx y, .instanceMethod y, .selects "MoveRows" y y, .initialized "MoveRows", .code y bytes maxL rt] : List Cond), w ∈ wG) (hrc : rm.cells = mc) (hrs : rm.slots = ms)
    (hd : y.cls = "MoveRows" ∧ y.cls ≠ "java/lang/invoke/MethodHandle" ∧ y.cls ≠ "java/lang/invoke/VarHandle" ∧ (parseMethodDescriptor y.desc).map (fun d => d.parameters.length) = some n) (hR : rm.frames + 1 ≤ room_1.frames ∧ 8 + (maxL + 11) + rm.locals ≤ room_1.locals)
    (hn : As.length = n) (hst : st0 = As.reverse ++ .ref (h 0) :: rest) (hro : (rest.map fun v => v.category).sum ≤ 8) (d : decode code pc = .ok (.invokevirtual idx, 3)) (hf : cells + mc ≤ room_1.cells ∧ slots + ms ≤ room_1.slots) :
    va_Run p l e room_1 s m #[Value.ref b] below meth c H locs cells slots mc ms (F0 m pc ls st0) rest (Qc (Value.ref (h 0) :: As).toArray) free := by
  obtain ⟨hx, hb, hml, hr0, hlk, hown, hts, hK, hG, hN, hX, hbl⟩ := cx
  have hF := fl_C hw
  obtain ⟨hP, hD, hS⟩ := hw
  have hPc := hP.sub (ws' := wC h cI cL X) [0, 1, 2, 3, 4, 5, 6, 7, 8, 9, 10, 11, 12] rfl
  have hDc := hD.sub (ws' := wC h cI cL X) [0, 1, 2, 3, 4, 5, 6, 7, 8, 9, 10, 11, 12] (by decide) rfl
  exact va_runV (Ts := wG) ⟨hx, hb, hml, hown, hts⟩ hM (cwV n hts (wG_sub (a := [.methodLink "MoveRowsLaw" idx y, .instanceMethod y, .selects "MoveRows" y y, .initialized "MoveRows", .code y bytes maxL rt]) hg) rfl hrc hrs hd hR) ⟨pC_blind, va_recv hK hPc (ci := 0) (q0 := 0) rfl rfl, fun U hU hW => ⟨rfl, by rw [hU], by rw [hU]; exact hPc, va_K.moved hW.alike hK, hDc.weaken (fun _ _ _ _ => trivial), hG.to hW (fun a h1 h2 => by rw [hU]; exact hS.2.1 a h1 h2) hF⟩⟩ rfl hn hsz hst (lv_room hro) d hf
theorem kc_i {post : Int32 → St → Prop} {a : Array Value} (hw : KwL D h g cI cL ho s X Z f H locs) (hr : va_Run p l e room_1 s m #[Value.ref b] below meth c H locs cells slots 0 0 (F0 m pc ls st0) rest (va_Qi post (bC D h cI cL (fC h cI cL X H.size)) (fC h cI cL X H.size) a) (fC h cI cL X H.size))
    (kk : ∀ (r : Int32) (X' : St) (H1 : Heap) (locs1 : List Loc), post r X' → KwL D h g cI cL ho s X' Z f H1 locs1 → W p l e room_1 s m #[Value.ref b] below meth c H1 locs1 cells slots Q (F0 m (pc + 3) ls (.int r :: rest))) : W p l e room_1 s m #[Value.ref b] below meth c H locs cells slots Q (F0 m pc ls st0) := by
  have hF := fl_C hw
  refine va_calli hr hw.2.2 (fun q _ h => hF q h) hF (fun r u t H1 locs1 ht hvm hp hB hz1 hk1 hS1 => ?_)
  obtain ⟨hP1, hK1, hD1⟩ := hB
  rw [ht] at hP1
  exact kk r u H1 locs1 hp (jl_C hw hk1 hP1 hD1 hS1)
end LCA
theorem sim_le {X Z : St} (hI : Inv X) (hS : Sim X Z) : Z 0 1 ≤ Z 0 0 := by have := inv_le hI; have := hS.2.1; omega
theorem sim_lt {X Z : St} (hI : Inv X) (hS : Sim X Z) {b : Int} : 0 ≤ b ∧ b ≤ Z 0 0 - 1 ∧ Z 1 b ≤ 1 → Z 0 1 < 40 := fun ⟨h0, h1, h2⟩ => by
  obtain ⟨s0, s1, s2⟩ := hS.2.1
  have e := (hS.2.2.1 b h0 (by omega)).1
  have z := rg_1 hI.1 b
  have := inv_lt hI (b := b) ⟨h0, by omega, by omega⟩
  omega
theorem sim_ord {X Z : St} (hI : Inv X) (hS : Sim X Z) : ∀ p : Int, 0 ≤ p → p < Z 0 1 → 0 ≤ Z 9 p ∧ Z 9 p < Z 0 0 := fun p p0 p1 => by
  obtain ⟨s0, s1, s2⟩ := hS.2.1
  have o := (inv_ord hI p0 (by omega)).1
  have e := hS.2.2.2.2.1 p p0 (by omega)
  omega
theorem sim_by {X Z : St} (hI : Inv X) (hS : Sim X Z) : ∀ j : Int, 0 ≤ j → j < Z 0 0 → Z 1 j = 2 → Z 4 j = -1 := fun j j0 j1 j2 => by
  obtain ⟨s0, s1, s2⟩ := hS.2.1
  have e := hS.2.2.1 j j0 (by omega)
  rw [e.2.2.2.1]
  exact hI.2.2 j j0 (by omega) (by omega)
