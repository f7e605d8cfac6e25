/-! THE REFERENCE'S WORLD: its object and its arrays, out of one state -/
abbrev TYJ (cI : ClassId) : List (ClassId × FieldType) := [(cI, .int)]
def wj (h : Nat → Nat) (cI : ClassId) (X : St) : va_W :=
  [(h 0, .inr (1, [.int (zI (X 0 3)), .int (zI (X 0 0)), .ref (h 1), .ref (h 2), .ref (h 3), .ref (h 4), .ref (h 5), .ref (h 6), .ref (h 7), .ref (h 8), .int (zI (X 0 1)), .ref (h 9), .int (zI (X 0 2)), .ref (h 10)])),
   (h 1, .inl (cI, 40, .inl (aI X 1))),
   (h 2, .inl (cI, 40, .inl (aI X 2))),
   (h 3, .inl (cI, 40, .inl (aI X 3))),
   (h 4, .inl (cI, 40, .inl (aI X 4))),
   (h 5, .inl (cI, 40, .inl (aI X 5))),
   (h 6, .inl (cI, 320, .inl (aI X 6))),
   (h 7, .inl (cI, 320, .inl (aI X 7))),
   (h 8, .inl (cI, 320, .inl (aI X 8))),
   (h 9, .inl (cI, 40, .inl (aI X 9))),
   (h 10, .inl (cI, 6, .inl (aI X 10)))]
/-- a method's start -/
def pj (D : va_G) (h : Nat → Nat) (cI : ClassId) (X : St) (sz : Nat) : State → Prop := fun U => U.heap.size = sz ∧ va_P D CL (wj h cI X) U.heap ∧ va_K D CL (TYJ cI) U ∧ va_D (fun _ => True) (wj h cI X)
/-- the world behind it -/
def bj (D : va_G) (h : Nat → Nat) (cI : ClassId) (A : Nat → Prop) : St → State → Prop := fun X t => va_P D CL (wj h cI X) t.heap ∧ va_K D CL (TYJ cI) t ∧ va_D A (wj h cI X)
abbrev fj (h : Nat → Nat) (cI : ClassId) (X : St) (sz : Nat) : Nat → Prop := va_A (wj h cI X) sz

theorem pj_blind {av : List Value} {D : va_G} {h : Nat → Nat} {cI : ClassId} {X : St} {sz : Nat} : FrameBlind (va_Pc av (pj D h cI X sz)) := by
  intro a U g mk q
  obtain ⟨q0, q1, qP, qK, qD⟩ := q
  exact ⟨q0, q1, qP, va_K.moved (u := U) (U := U.calling g mk a) (Vm.Alike.refl U.vm) qK, qD⟩

/-- what holds all through a method's body -/
def Cxj (p : Program) (s : State) (m : MethodId) (args : Array Value) (meth : Method) (c : Code) (cc : ByteArray) (nL : Nat) (ret : Option FieldType) (D : va_G) (cI : ClassId) (A : Nat → Prop) : Prop :=
  p.tables.exec = Jvm.exec ∧ c.code = cc ∧ c.maxLocals = nL ∧ meth.sig.returnType = ret ∧ meth.locks = false ∧ s.vm.findClass "MoveRowsModel" = some m.cls ∧ (∀ w ∈ wG, w.before args s = true) ∧ va_K D CL (TYJ cI) s ∧ (∀ q : Nat, s.heap.size ≤ q → A q)
/-- .. and at a point of it -/
def Kj (D : va_G) (h : Nat → Nat) (cI : ClassId) (A : Nat → Prop) (s : State) (X : St) (H : Heap) (locs : List Loc) : Prop := va_P D CL (wj h cI X) H ∧ va_D A (wj h cI X) ∧ va_S A s.heap H locs

section JST
variable {l : Launch} {y : MethodName} {cc : ByteArray} {maxL mc ms sz : Nat} {ret : Option FieldType} {rm : Room} {D : va_G} {h : Nat → Nat} {cI : ClassId} {X : St} {av : List Value} {Qc : Array Value → State → Outcome → State → Prop}
theorem cxj_of {A : Nat → Prop} {p : Program} {e : Env} {s : State} {m : MethodId} {below : List Frame} {meth : Method} {c : Code} {s₁ : State} (hA : A = fj h cI X sz) (hcls : y.cls = "MoveRowsModel") (B : BodyLoose p l y (headSpec (.code y cc maxL ret :: wG) rm) cc maxL ret e s m av.toArray below meth c s₁) (hml : c.maxLocals = maxL) (hv : pj D h cI X sz s) :
    Cxj p s m av.toArray meth c cc maxL ret D cI A ∧ Kj D h cI A s X s.heap [] := by
  obtain ⟨hsz, hP, hK, hD⟩ := hv
  subst hA
  refine ⟨⟨B.exec, B.bytes, hml, B.returns, B.notSynchronized, by rw [← hcls]; exact findClass_of_methodNamed B.named, fun w hw => atoms_spec (ws := .code y cc maxL ret :: wG) B.pre w (List.mem_cons_of_mem _ hw), hK, fun q hq => Or.inr (by rw [← hsz]; exact hq)⟩, hP, hD.self, va_S.rf⟩
/-- a method that only returns -/
theorem j_start (hy : plainName y.cls = true) (hcls : y.cls = "MoveRowsModel") (hlen : (lg_sl av).length ≤ maxL)
    (body : ∀ (A : Nat → Prop) (p : Program) (e : Env) (s : State) (m : MethodId) (below : List Frame) (meth : Method) (c : Code) (ls : Array Slot), A = fj h cI X sz → Cxj p s m av.toArray meth c cc maxL ret D cI A → Kj D h cI A s X s.heap [] → lv_has ls maxL (lv_args 0 av) →
      W p l e rm s m av.toArray below meth c s.heap [] 0 0 (MQ below Qc av.toArray s mc ms A) (F0 m 0 ls [])) : Met l y (.code y cc maxL ret :: wG) rm (va_Pc av (pj D h cI X sz)) Qc mc ms (fj h cI X sz) := by
  refine Met.ofW (cc := cc) (maxL := maxL) (ret := ret) hy rfl ?_
  intro p e s m args below meth c s₁ B hml hv
  obtain ⟨rfl, hv⟩ := hv
  obtain ⟨hc, hk⟩ := cxj_of (A := fj h cI X sz) rfl hcls B hml hv
  have hl := lv_entry av (n := maxL) hlen
  rw [lg_entry_eq]
  exact body _ p e s m below meth c _ rfl hc hk hl
end JST

section JEN
variable {p : Program} {l : Launch} {e : Env} {R : Room} {s : State} {m : MethodId} {args : Array Value} {below : List Frame} {meth : Method} {c : Code} {H : Heap} {locs : List Loc} {cells slots mc ms : Nat} {Q : State → Prop}
variable {cc : ByteArray} {pc nL : Nat} {ls : Array Slot} {rest st0 : List Value} {D : va_G} {A : Nat → Prop} {h : Nat → Nat} {cI : ClassId} {X : St} {ret : Option FieldType}
theorem ej_l {post : Int64 → St → Prop} (cx : Cxj p s m args meth c cc nL (some .long) D cI A) (hw : Kj D h cI A s X H locs) {v : Int64} (hc : cells ≤ mc) (hs : slots ≤ ms) (d : decode cc pc = .ok (.lreturn, 1)) (hp : post v X) : W p l e R s m args below meth c H locs cells slots (MQ below (va_Ql post (bj D h cI A) A) args s mc ms A) (F0 m pc ls [.long v]) := by
  obtain ⟨hx, hb, hml, hr, hlk, hown, hts, hK, hA⟩ := cx
  obtain ⟨hP, hD, hS⟩ := hw
  exact W.widen hc hs (W.lret hx hb hr (fun t ht hW => ⟨⟨v, X, rfl, hp, by rw [ht]; exact hP, va_K.moved hW.alike hK, hD⟩, hS.F ht⟩) hS.2.2 d hlk)
theorem ej_i {post : Int32 → St → Prop} (cx : Cxj p s m args meth c cc nL (some .int) D cI A) (hw : Kj D h cI A s X H locs) {v : Int32} (hc : cells ≤ mc) (hs : slots ≤ ms) (d : decode cc pc = .ok (.ireturn, 1)) (hp : post v X) : W p l e R s m args below meth c H locs cells slots (MQ below (va_Qi post (bj D h cI A) A) args s mc ms A) (F0 m pc ls [.int v]) := by
  obtain ⟨hx, hb, hml, hr, hlk, hown, hts, hK, hA⟩ := cx
  obtain ⟨hP, hD, hS⟩ := hw
  exact W.widen hc hs (W.iret hx hb hr (fun t ht hW => ⟨⟨v, X, rfl, hp, by rw [ht]; exact hP, va_K.moved hW.alike hK, hD⟩, hS.F ht⟩) hS.2.2 d hlk)
theorem ej_z {post : Int32 → St → Prop} (cx : Cxj p s m args meth c cc nL (some .boolean) D cI A) (hw : Kj D h cI A s X H locs) {v : Int32} (hn : narrow .boolean (.int v) = .int v) (hc : cells ≤ mc) (hs : slots ≤ ms) (d : decode cc pc = .ok (.ireturn, 1)) (hp : post v X) : W p l e R s m args below meth c H locs cells slots (MQ below (va_Qi post (bj D h cI A) A) args s mc ms A) (F0 m pc ls [.int v]) := by
  obtain ⟨hx, hb, hml, hr, hlk, hown, hts, hK, hA⟩ := cx
  obtain ⟨hP, hD, hS⟩ := hw
  exact W.widen hc hs (W.zret hx hb hr hn (fun t ht hW => ⟨⟨v, X, rfl, hp, by rw [ht]; exact hP, va_K.moved hW.alike hK, hD⟩, hS.F ht⟩) hS.2.2 d hlk)
theorem ej_v {post : St → Prop} (cx : Cxj p s m args meth c cc nL none D cI A) (hw : Kj D h cI A s X H locs) (hc : cells ≤ mc) (hs : slots ≤ ms) (d : decode cc pc = .ok (.return_, 1)) (hp : post X) : W p l e R s m args below meth c H locs cells slots (MQ below (va_Qv post (bj D h cI A) A) args s mc ms A) (F0 m pc ls []) := by
  obtain ⟨hx, hb, hml, hr, hlk, hown, hts, hK, hA⟩ := cx
  obtain ⟨hP, hD, hS⟩ := hw
  exact W.widen hc hs (W.vret hx hb hr (fun t ht hW => ⟨⟨X, rfl, hp, by rw [ht]; exact hP, va_K.moved hW.alike hK, hD⟩, hS.F ht⟩) hS.2.2 d hlk)
theorem wj_free (hA : ∀ q : Nat, s.heap.size ≤ q → A q) (hw : Kj D h cI A s X H locs) : ∀ q, fj h cI X H.size q → A q := va_free (wc := wj h cI X) hw.2.1 hw.2.2 hA (List.range 11) rfl
end JEN

section JCA
variable {p : Program} {l : Launch} {e : Env} {R : Room} {s : State} {m : MethodId} {args : Array Value} {below : List Frame} {meth : Method} {c : Code} {H : Heap} {locs : List Loc} {cells slots mc ms mc' ms' : Nat} {Q : State → Prop}
variable {cc bytes : ByteArray} {pc nL maxL n idx : Nat} {ls : Array Slot} {As rest st0 : List Value} {D : va_G} {A : Nat → Prop} {h : Nat → Nat} {cI : ClassId} {X : St} {ret rt : Option FieldType} {y : MethodName} {rm : Room} {Qc : Array Value → State → Outcome → State → Prop} {XC : String → State → State → Prop} {free : Addr → Prop}
theorem preSj_of (cx : Cxj p s m args meth c cc nL ret D cI A) (hw : Kj D h cI A s X H locs) : PreS s H (va_Pc As (pj D h cI X H.size)) As := by
  obtain ⟨hx, hb, hml, hr, hlk, hown, hts, hK, hA⟩ := cx
  have hF := wj_free hA hw
  obtain ⟨hP, hD, hS⟩ := hw
  exact ⟨pj_blind, fun U hU hW => ⟨rfl, by rw [hU], by rw [hU]; exact hP, va_K.moved hW.alike hK, hD.weaken (fun _ _ _ _ => trivial)⟩⟩
theorem preVj_of (cx : Cxj p s m args meth c cc nL ret D cI A) (hw : Kj D h cI A s X H locs) : PreV s H "MoveRowsModel" (h 0) (va_Pc (.ref (h 0) :: As) (pj D h cI X H.size)) As :=
  ⟨pj_blind, va_recv cx.2.2.2.2.2.2.2.1 hw.1 (ci := 1) (q0 := 0) rfl rfl, (preSj_of (As := .ref (h 0) :: As) cx hw).2⟩
theorem rj_V (cx : Cxj p s m args meth c cc nL ret D cI A) (hw : Kj D h cI A s X H locs) (hsz : ls.size = nL) (hM : Met l y (.code y bytes maxL rt :: wG) rm (va_Pc (.ref (h 0) :: As) (pj D h cI X H.size)) Qc mc ms free)
    (hg : ∀ w ∈ ([.methodLink "MoveRowsModel" idx y, .instanceMethod y, .selects "MoveRowsModel" y y, .initialized "MoveRowsModel", .code y bytes maxL rt] : List Cond), w ∈ wG) (hrc : rm.cells = mc) (hrs : rm.slots = ms)
    (hd : y.cls = "MoveRowsModel" ∧ y.cls ≠ "java/lang/invoke/MethodHandle" ∧ y.cls ≠ "java/lang/invoke/VarHandle" ∧ (parseMethodDescriptor y.desc).map (fun d => d.parameters.length) = some n) (hR : rm.frames + 1 ≤ R.frames ∧ 8 + (maxL + 11) + rm.locals ≤ R.locals)
    (hn : As.length = n) (hst : st0 = As.reverse ++ .ref (h 0) :: rest) (hro : (rest.map fun v => v.category).sum ≤ 8) (d : decode cc pc = .ok (.invokevirtual idx, 3)) (hf : cells + mc ≤ R.cells ∧ slots + ms ≤ R.slots) :
    va_Run p l e R s m args below meth c H locs cells slots mc ms (F0 m pc ls st0) rest (Qc (Value.ref (h 0) :: As).toArray) free := by
  have cx' := cx
  obtain ⟨hx, hb, hml, hr, hlk, hown, hts, hK, hA⟩ := cx
  exact va_runV (Ts := wG) ⟨hx, hb, hml, hown, hts⟩ hM (cwV n hts (wG_sub (a := [.methodLink "MoveRowsModel" idx y, .instanceMethod y, .selects "MoveRowsModel" y y, .initialized "MoveRowsModel", .code y bytes maxL rt]) hg) rfl hrc hrs hd hR) (preVj_of cx' hw) rfl hn hsz hst (lv_room hro) d hf
theorem rj_S (cx : Cxj p s m args meth c cc nL ret D cI A) (hw : Kj D h cI A s X H locs) (hsz : ls.size = nL) (hM : Met l y (.code y bytes maxL rt :: wG) rm (va_Pc As (pj D h cI X H.size)) Qc mc ms free)
    (hg : ∀ w ∈ ([.methodLink "MoveRowsModel" idx y, .static y, .initialized "MoveRowsModel", .code y bytes maxL rt] : List Cond), w ∈ wG) (hrc : rm.cells = mc) (hrs : rm.slots = ms)
    (hd : y.cls = "MoveRowsModel" ∧ y.cls ≠ "java/lang/invoke/MethodHandle" ∧ y.cls ≠ "java/lang/invoke/VarHandle" ∧ (parseMethodDescriptor y.desc).map (fun d => d.parameters.length) = some n) (hR : rm.frames + 1 ≤ R.frames ∧ 8 + (maxL + 11) + rm.locals ≤ R.locals)
    (hn : As.length = n) (hst : st0 = As.reverse ++ rest) (hro : (rest.map fun v => v.category).sum ≤ 8) (d : decode cc pc = .ok (.invokestatic idx, 3)) (hf : cells + mc ≤ R.cells ∧ slots + ms ≤ R.slots) :
    va_Run p l e R s m args below meth c H locs cells slots mc ms (F0 m pc ls st0) rest (Qc As.toArray) free := by
  have cx' := cx
  obtain ⟨hx, hb, hml, hr, hlk, hown, hts, hK, hA⟩ := cx
  exact va_runS (Ts := wG) ⟨hx, hb, hml, hown, hts⟩ hM (cwS n hts (wG_sub (a := [.methodLink "MoveRowsModel" idx y, .static y, .initialized "MoveRowsModel", .code y bytes maxL rt]) hg) rfl hrc hrs hd hR) (preSj_of cx' hw) rfl hn hsz hst (lv_room hro) d hf
variable {a : Array Value}
theorem kj_l {post : Int64 → St → Prop} (cx : Cxj p s m args meth c cc nL ret D cI A) (hw : Kj D h cI A s X H locs) (hr : va_Run p l e R s m args below meth c H locs cells slots mc ms (F0 m pc ls st0) rest (va_Ql post (bj D h cI (fj h cI X H.size)) (fj h cI X H.size) a) (fj h cI X H.size))
    (kk : ∀ (r : Int64) (X' : St) (H1 : Heap) (locs1 : List Loc), post r X' → Kj D h cI A s X' H1 locs1 → W p l e R s m args below meth c H1 locs1 (cells + mc) (slots + ms) Q (F0 m (pc + 3) ls (.long r :: rest))) : W p l e R s m args below meth c H locs cells slots Q (F0 m pc ls st0) := by
  have hF := wj_free cx.2.2.2.2.2.2.2.2 hw
  obtain ⟨hP, hD, hS⟩ := hw
  refine va_calll hr hS (fun q _ h => hF q h) hF (fun r u t H1 locs1 ht hvm hp hB hz1 hk1 hS1 => ?_)
  obtain ⟨hP1, hK1, hD1⟩ := hB
  rw [ht] at hP1
  exact kk r u H1 locs1 hp ⟨hP1, hD1.weaken (fun _ _ _ h => hF _ h), hS1⟩
theorem kj_i {post : Int32 → St → Prop} (cx : Cxj p s m args meth c cc nL ret D cI A) (hw : Kj D h cI A s X H locs) (hr : va_Run p l e R s m args below meth c H locs cells slots mc ms (F0 m pc ls st0) rest (va_Qi post (bj D h cI (fj h cI X H.size)) (fj h cI X H.size) a) (fj h cI X H.size))
    (kk : ∀ (r : Int32) (X' : St) (H1 : Heap) (locs1 : List Loc), post r X' → Kj D h cI A s X' H1 locs1 → W p l e R s m args below meth c H1 locs1 (cells + mc) (slots + ms) Q (F0 m (pc + 3) ls (.int r :: rest))) : W p l e R s m args below meth c H locs cells slots Q (F0 m pc ls st0) := by
  have hF := wj_free cx.2.2.2.2.2.2.2.2 hw
  obtain ⟨hP, hD, hS⟩ := hw
  refine va_calli hr hS (fun q _ h => hF q h) hF (fun r u t H1 locs1 ht hvm hp hB hz1 hk1 hS1 => ?_)
  obtain ⟨hP1, hK1, hD1⟩ := hB
  rw [ht] at hP1
  exact kk r u H1 locs1 hp ⟨hP1, hD1.weaken (fun _ _ _ h => hF _ h), hS1⟩
theorem kj_v {post : St → Prop} (cx : Cxj p s m args meth c cc nL ret D cI A) (hw : Kj D h cI A s X H locs) (hr : va_Run p l e R s m args below meth c H locs cells slots mc ms (F0 m pc ls st0) rest (va_Qv post (bj D h cI (fj h cI X H.size)) (fj h cI X H.size) a) (fj h cI X H.size))
    (kk : ∀ (X' : St) (H1 : Heap) (locs1 : List Loc), post X' → Kj D h cI A s X' H1 locs1 → W p l e R s m args below meth c H1 locs1 (cells + mc) (slots + ms) Q (F0 m (pc + 3) ls rest)) : W p l e R s m args below meth c H locs cells slots Q (F0 m pc ls st0) := by
  have hF := wj_free cx.2.2.2.2.2.2.2.2 hw
  obtain ⟨hP, hD, hS⟩ := hw
  refine va_callv hr hS (fun q _ h => hF q h) hF (fun u t H1 locs1 ht hvm hp hB hz1 hk1 hS1 => ?_)
  obtain ⟨hP1, hK1, hD1⟩ := hB
  rw [ht] at hP1
  exact kk u H1 locs1 hp ⟨hP1, hD1.weaken (fun _ _ _ h => hF _ h), hS1⟩
end JCA

section JRW
variable {p : Program} {l : Launch} {e : Env} {R : Room} {s : State} {m : MethodId} {args : Array Value} {below : List Frame} {meth : Method} {c : Code} {H : Heap} {locs : List Loc} {cells slots : Nat} {Q : State → Prop}
variable {cc : ByteArray} {pc nL : Nat} {ls : Array Slot} {rest : List Value} {D : va_G} {A : Nat → Prop} {h : Nat → Nat} {cI : ClassId} {X : St} {ret : Option FieldType}
theorem fj_code : Cond.fieldLink "MoveRowsModel" 44 "MoveRowsModel" "code" "I" ∈ wG := in_wG (by decide +kernel) rfl
theorem gj_code {v : Int} (cx : Cxj p s m args meth c cc nL ret D cI A) (hw : Kj D h cI A s X H locs) (hv : X 0 3 = v) (d : decode cc pc = .ok (.getfield 44, 3)) (k : W p l e R s m args below meth c H locs cells slots Q (F0 m (pc + 3) ls (.int (zI v) :: rest))) : W p l e R s m args below meth c H locs cells slots Q (F0 m pc ls (.ref (h 0) :: rest)) := by
  subst hv
  obtain ⟨hx, hb, hml, hr, hlk, hown, hts, hK, hA⟩ := cx
  exact va_get (D := D) (ci := 1) (v := .int (zI (X 0 3))) (C := "MoveRowsModel") (T := TM) (N := 14) hx hb hts fm_in hown hK hw.1 0 rfl rfl 0 (by decide) (hts _ fj_code) (fun _ h9 => h9) rfl d k
theorem pj_code {v : Int} (cx : Cxj p s m args meth c cc nL ret D cI A) (hw : Kj D h cI A s X H locs) (d : decode cc pc = .ok (.putfield 44, 3)) (k : ∀ (H1 : Heap) (locs1 : List Loc), Kj D h cI A s (up2 X 0 3 v) H1 locs1 → W p l e R s m args below meth c H1 locs1 cells slots Q (F0 m (pc + 3) ls rest)) : W p l e R s m args below meth c H locs cells slots Q (F0 m pc ls (.int (zI v) :: .ref (h 0) :: rest)) := by
  obtain ⟨hx, hb, hml, hr, hlk, hown, hts, hK, hA⟩ := cx
  obtain ⟨hP, hD, hS⟩ := hw
  exact va_put (D := D) (ci := 1) (v := .int (zI v)) (ty := .int) (C := "MoveRowsModel") (T := TM) (N := 14) hx hb hts fm_in tyTM okTM nmTM hown hK hP hD hS 0 rfl rfl 0 (by decide) (hts _ fj_code) (fun _ h9 => h9) rfl (by decide +kernel) rfl rfl (Nat.le_of_ble_eq_true rfl) d (fun H1 locs1 hP1 hD1 hS1 => k H1 locs1 ⟨hP1, hD1, hS1⟩)
theorem fj_batches : Cond.fieldLink "MoveRowsModel" 47 "MoveRowsModel" "batches" "I" ∈ wG := in_wG (by decide +kernel) rfl
theorem gj_batches {v : Int} (cx : Cxj p s m args meth c cc nL ret D cI A) (hw : Kj D h cI A s X H locs) (hv : X 0 0 = v) (d : decode cc pc = .ok (.getfield 47, 3)) (k : W p l e R s m args below meth c H locs cells slots Q (F0 m (pc + 3) ls (.int (zI v) :: rest))) : W p l e R s m args below meth c H locs cells slots Q (F0 m pc ls (.ref (h 0) :: rest)) := by
  subst hv
  obtain ⟨hx, hb, hml, hr, hlk, hown, hts, hK, hA⟩ := cx
  exact va_get (D := D) (ci := 1) (v := .int (zI (X 0 0))) (C := "MoveRowsModel") (T := TM) (N := 14) hx hb hts fm_in hown hK hw.1 0 rfl rfl 1 (by decide) (hts _ fj_batches) (fun _ h9 => h9) rfl d k
theorem pj_batches {v : Int} (cx : Cxj p s m args meth c cc nL ret D cI A) (hw : Kj D h cI A s X H locs) (d : decode cc pc = .ok (.putfield 47, 3)) (k : ∀ (H1 : Heap) (locs1 : List Loc), Kj D h cI A s (up2 X 0 0 v) H1 locs1 → W p l e R s m args below meth c H1 locs1 cells slots Q (F0 m (pc + 3) ls rest)) : W p l e R s m args below meth c H locs cells slots Q (F0 m pc ls (.int (zI v) :: .ref (h 0) :: rest)) := by
  obtain ⟨hx, hb, hml, hr, hlk, hown, hts, hK, hA⟩ := cx
  obtain ⟨hP, hD, hS⟩ := hw
  exact va_put (D := D) (ci := 1) (v := .int (zI v)) (ty := .int) (C := "MoveRowsModel") (T := TM) (N := 14) hx hb hts fm_in tyTM okTM nmTM hown hK hP hD hS 0 rfl rfl 1 (by decide) (hts _ fj_batches) (fun _ h9 => h9) rfl (by decide +kernel) rfl rfl (Nat.le_of_ble_eq_true rfl) d (fun H1 locs1 hP1 hD1 hS1 => k H1 locs1 ⟨hP1, hD1, hS1⟩)
theorem fj_state : Cond.fieldLink "MoveRowsModel" 7 "MoveRowsModel" "state" "[I" ∈ wG := in_wG (by decide +kernel) rfl
theorem gj_state (cx : Cxj p s m args meth c cc nL ret D cI A) (hw : Kj D h cI A s X H locs) (d : decode cc pc = .ok (.getfield 7, 3)) (k : W p l e R s m args below meth c H locs cells slots Q (F0 m (pc + 3) ls (.ref (h 1) :: rest))) : W p l e R s m args below meth c H locs cells slots Q (F0 m pc ls (.ref (h 0) :: rest)) := by
  obtain ⟨hx, hb, hml, hr, hlk, hown, hts, hK, hA⟩ := cx
  exact va_get (D := D) (ci := 1) (v := .ref (h 1)) (C := "MoveRowsModel") (T := TM) (N := 14) hx hb hts fm_in hown hK hw.1 0 rfl rfl 2 (by decide) (hts _ fj_state) (fun _ h9 => h9) rfl d k
theorem fj_size : Cond.fieldLink "MoveRowsModel" 13 "MoveRowsModel" "size" "[I" ∈ wG := in_wG (by decide +kernel) rfl
theorem gj_size (cx : Cxj p s m args meth c cc nL ret D cI A) (hw : Kj D h cI A s X H locs) (d : decode cc pc = .ok (.getfield 13, 3)) (k : W p l e R s m args below meth c H locs cells slots Q (F0 m (pc + 3) ls (.ref (h 2) :: rest))) : W p l e R s m args below meth c H locs cells slots Q (F0 m pc ls (.ref (h 0) :: rest)) := by
  obtain ⟨hx, hb, hml, hr, hlk, hown, hts, hK, hA⟩ := cx
  exact va_get (D := D) (ci := 1) (v := .ref (h 2)) (C := "MoveRowsModel") (T := TM) (N := 14) hx hb hts fm_in hown hK hw.1 0 rfl rfl 3 (by decide) (hts _ fj_size) (fun _ h9 => h9) rfl d k
theorem fj_day : Cond.fieldLink "MoveRowsModel" 16 "MoveRowsModel" "day" "[I" ∈ wG := in_wG (by decide +kernel) rfl
theorem gj_day (cx : Cxj p s m args meth c cc nL ret D cI A) (hw : Kj D h cI A s X H locs) (d : decode cc pc = .ok (.getfield 16, 3)) (k : W p l e R s m args below meth c H locs cells slots Q (F0 m (pc + 3) ls (.ref (h 3) :: rest))) : W p l e R s m args below meth c H locs cells slots Q (F0 m pc ls (.ref (h 0) :: rest)) := by
  obtain ⟨hx, hb, hml, hr, hlk, hown, hts, hK, hA⟩ := cx
  exact va_get (D := D) (ci := 1) (v := .ref (h 3)) (C := "MoveRowsModel") (T := TM) (N := 14) hx hb hts fm_in hown hK hw.1 0 rfl rfl 4 (by decide) (hts _ fj_day) (fun _ h9 => h9) rfl d k
theorem fj_by : Cond.fieldLink "MoveRowsModel" 19 "MoveRowsModel" "by" "[I" ∈ wG := in_wG (by decide +kernel) rfl
theorem gj_by (cx : Cxj p s m args meth c cc nL ret D cI A) (hw : Kj D h cI A s X H locs) (d : decode cc pc = .ok (.getfield 19, 3)) (k : W p l e R s m args below meth c H locs cells slots Q (F0 m (pc + 3) ls (.ref (h 4) :: rest))) : W p l e R s m args below meth c H locs cells slots Q (F0 m pc ls (.ref (h 0) :: rest)) := by
  obtain ⟨hx, hb, hml, hr, hlk, hown, hts, hK, hA⟩ := cx
  exact va_get (D := D) (ci := 1) (v := .ref (h 4)) (C := "MoveRowsModel") (T := TM) (N := 14) hx hb hts fm_in hown hK hw.1 0 rfl rfl 5 (by decide) (hts _ fj_by) (fun _ h9 => h9) rfl d k
theorem fj_of : Cond.fieldLink "MoveRowsModel" 22 "MoveRowsModel" "of" "[I" ∈ wG := in_wG (by decide +kernel) rfl
theorem gj_of (cx : Cxj p s m args meth c cc nL ret D cI A) (hw : Kj D h cI A s X H locs) (d : decode cc pc = .ok (.getfield 22, 3)) (k : W p l e R s m args below meth c H locs cells slots Q (F0 m (pc + 3) ls (.ref (h 5) :: rest))) : W p l e R s m args below meth c H locs cells slots Q (F0 m pc ls (.ref (h 0) :: rest)) := by
  obtain ⟨hx, hb, hml, hr, hlk, hown, hts, hK, hA⟩ := cx
  exact va_get (D := D) (ci := 1) (v := .ref (h 5)) (C := "MoveRowsModel") (T := TM) (N := 14) hx hb hts fm_in hown hK hw.1 0 rfl rfl 6 (by decide) (hts _ fj_of) (fun _ h9 => h9) rfl d k
theorem fj_account : Cond.fieldLink "MoveRowsModel" 25 "MoveRowsModel" "account" "[I" ∈ wG := in_wG (by decide +kernel) rfl
theorem gj_account (cx : Cxj p s m args meth c cc nL ret D cI A) (hw : Kj D h cI A s X H locs) (d : decode cc pc = .ok (.getfield 25, 3)) (k : W p l e R s m args below meth c H locs cells slots Q (F0 m (pc + 3) ls (.ref (h 6) :: rest))) : W p l e R s m args below meth c H locs cells slots Q (F0 m pc ls (.ref (h 0) :: rest)) := by
  obtain ⟨hx, hb, hml, hr, hlk, hown, hts, hK, hA⟩ := cx
  exact va_get (D := D) (ci := 1) (v := .ref (h 6)) (C := "MoveRowsModel") (T := TM) (N := 14) hx hb hts fm_in hown hK hw.1 0 rfl rfl 7 (by decide) (hts _ fj_account) (fun _ h9 => h9) rfl d k
theorem fj_lot : Cond.fieldLink "MoveRowsModel" 28 "MoveRowsModel" "lot" "[I" ∈ wG := in_wG (by decide +kernel) rfl
theorem gj_lot (cx : Cxj p s m args meth c cc nL ret D cI A) (hw : Kj D h cI A s X H locs) (d : decode cc pc = .ok (.getfield 28, 3)) (k : W p l e R s m args below meth c H locs cells slots Q (F0 m (pc + 3) ls (.ref (h 7) :: rest))) : W p l e R s m args below meth c H locs cells slots Q (F0 m pc ls (.ref (h 0) :: rest)) := by
  obtain ⟨hx, hb, hml, hr, hlk, hown, hts, hK, hA⟩ := cx
  exact va_get (D := D) (ci := 1) (v := .ref (h 7)) (C := "MoveRowsModel") (T := TM) (N := 14) hx hb hts fm_in hown hK hw.1 0 rfl rfl 8 (by decide) (hts _ fj_lot) (fun _ h9 => h9) rfl d k
theorem fj_amount : Cond.fieldLink "MoveRowsModel" 31 "MoveRowsModel" "amount" "[I" ∈ wG := in_wG (by decide +kernel) rfl
theorem gj_amount (cx : Cxj p s m args meth c cc nL ret D cI A) (hw : Kj D h cI A s X H locs) (d : decode cc pc = .ok (.getfield 31, 3)) (k : W p l e R s m args below meth c H locs cells slots Q (F0 m (pc + 3) ls (.ref (h 8) :: rest))) : W p l e R s m args below meth c H locs cells slots Q (F0 m pc ls (.ref (h 0) :: rest)) := by
  obtain ⟨hx, hb, hml, hr, hlk, hown, hts, hK, hA⟩ := cx
  exact va_get (D := D) (ci := 1) (v := .ref (h 8)) (C := "MoveRowsModel") (T := TM) (N := 14) hx hb hts fm_in hown hK hw.1 0 rfl rfl 9 (by decide) (hts _ fj_amount) (fun _ h9 => h9) rfl d k
theorem fj_posted : Cond.fieldLink "MoveRowsModel" 72 "MoveRowsModel" "posted" "I" ∈ wG := in_wG (by decide +kernel) rfl
theorem gj_posted {v : Int} (cx : Cxj p s m args meth c cc nL ret D cI A) (hw : Kj D h cI A s X H locs) (hv : X 0 1 = v) (d : decode cc pc = .ok (.getfield 72, 3)) (k : W p l e R s m args below meth c H locs cells slots Q (F0 m (pc + 3) ls (.int (zI v) :: rest))) : W p l e R s m args below meth c H locs cells slots Q (F0 m pc ls (.ref (h 0) :: rest)) := by
  subst hv
  obtain ⟨hx, hb, hml, hr, hlk, hown, hts, hK, hA⟩ := cx
  exact va_get (D := D) (ci := 1) (v := .int (zI (X 0 1))) (C := "MoveRowsModel") (T := TM) (N := 14) hx hb hts fm_in hown hK hw.1 0 rfl rfl 10 (by decide) (hts _ fj_posted) (fun _ h9 => h9) rfl d k
theorem pj_posted {v : Int} (cx : Cxj p s m args meth c cc nL ret D cI A) (hw : Kj D h cI A s X H locs) (d : decode cc pc = .ok (.putfield 72, 3)) (k : ∀ (H1 : Heap) (locs1 : List Loc), Kj D h cI A s (up2 X 0 1 v) H1 locs1 → W p l e R s m args below meth c H1 locs1 cells slots Q (F0 m (pc + 3) ls rest)) : W p l e R s m args below meth c H locs cells slots Q (F0 m pc ls (.int (zI v) :: .ref (h 0) :: rest)) := by
  obtain ⟨hx, hb, hml, hr, hlk, hown, hts, hK, hA⟩ := cx
  obtain ⟨hP, hD, hS⟩ := hw
  exact va_put (D := D) (ci := 1) (v := .int (zI v)) (ty := .int) (C := "MoveRowsModel") (T := TM) (N := 14) hx hb hts fm_in tyTM okTM nmTM hown hK hP hD hS 0 rfl rfl 10 (by decide) (hts _ fj_posted) (fun _ h9 => h9) rfl (by decide +kernel) rfl rfl (Nat.le_of_ble_eq_true rfl) d (fun H1 locs1 hP1 hD1 hS1 => k H1 locs1 ⟨hP1, hD1, hS1⟩)
theorem fj_order : Cond.fieldLink "MoveRowsModel" 34 "MoveRowsModel" "order" "[I" ∈ wG := in_wG (by decide +kernel) rfl
theorem gj_order (cx : Cxj p s m args meth c cc nL ret D cI A) (hw : Kj D h cI A s X H locs) (d : decode cc pc = .ok (.getfield 34, 3)) (k : W p l e R s m args below meth c H locs cells slots Q (F0 m (pc + 3) ls (.ref (h 9) :: rest))) : W p l e R s m args below meth c H locs cells slots Q (F0 m pc ls (.ref (h 0) :: rest)) := by
  obtain ⟨hx, hb, hml, hr, hlk, hown, hts, hK, hA⟩ := cx
  exact va_get (D := D) (ci := 1) (v := .ref (h 9)) (C := "MoveRowsModel") (T := TM) (N := 14) hx hb hts fm_in hown hK hw.1 0 rfl rfl 11 (by decide) (hts _ fj_order) (fun _ h9 => h9) rfl d k
theorem fj_closed : Cond.fieldLink "MoveRowsModel" 37 "MoveRowsModel" "closed" "I" ∈ wG := in_wG (by decide +kernel) rfl
theorem gj_closed {v : Int} (cx : Cxj p s m args meth c cc nL ret D cI A) (hw : Kj D h cI A s X H locs) (hv : X 0 2 = v) (d : decode cc pc = .ok (.getfield 37, 3)) (k : W p l e R s m args below meth c H locs cells slots Q (F0 m (pc + 3) ls (.int (zI v) :: rest))) : W p l e R s m args below meth c H locs cells slots Q (F0 m pc ls (.ref (h 0) :: rest)) := by
  subst hv
  obtain ⟨hx, hb, hml, hr, hlk, hown, hts, hK, hA⟩ := cx
  exact va_get (D := D) (ci := 1) (v := .int (zI (X 0 2))) (C := "MoveRowsModel") (T := TM) (N := 14) hx hb hts fm_in hown hK hw.1 0 rfl rfl 12 (by decide) (hts _ fj_closed) (fun _ h9 => h9) rfl d k
theorem pj_closed {v : Int} (cx : Cxj p s m args meth c cc nL ret D cI A) (hw : Kj D h cI A s X H locs) (d : decode cc pc = .ok (.putfield 37, 3)) (k : ∀ (H1 : Heap) (locs1 : List Loc), Kj D h cI A s (up2 X 0 2 v) H1 locs1 → W p l e R s m args below meth c H1 locs1 cells slots Q (F0 m (pc + 3) ls rest)) : W p l e R s m args below meth c H locs cells slots Q (F0 m pc ls (.int (zI v) :: .ref (h 0) :: rest)) := by
  obtain ⟨hx, hb, hml, hr, hlk, hown, hts, hK, hA⟩ := cx
  obtain ⟨hP, hD, hS⟩ := hw
  exact va_put (D := D) (ci := 1) (v := .int (zI v)) (ty := .int) (C := "MoveRowsModel") (T := TM) (N := 14) hx hb hts fm_in tyTM okTM nmTM hown hK hP hD hS 0 rfl rfl 12 (by decide) (hts _ fj_closed) (fun _ h9 => h9) rfl (by decide +kernel) rfl rfl (Nat.le_of_ble_eq_true rfl) d (fun H1 locs1 hP1 hD1 hS1 => k H1 locs1 ⟨hP1, hD1, hS1⟩)
theorem fj_stands : Cond.fieldLink "MoveRowsModel" 41 "MoveRowsModel" "stands" "[I" ∈ wG := in_wG (by decide +kernel) rfl
theorem gj_stands (cx : Cxj p s m args meth c cc nL ret D cI A) (hw : Kj D h cI A s X H locs) (d : decode cc pc = .ok (.getfield 41, 3)) (k : W p l e R s m args below meth c H locs cells slots Q (F0 m (pc + 3) ls (.ref (h 10) :: rest))) : W p l e R s m args below meth c H locs cells slots Q (F0 m pc ls (.ref (h 0) :: rest)) := by
  obtain ⟨hx, hb, hml, hr, hlk, hown, hts, hK, hA⟩ := cx
  exact va_get (D := D) (ci := 1) (v := .ref (h 10)) (C := "MoveRowsModel") (T := TM) (N := 14) hx hb hts fm_in hown hK hw.1 0 rfl rfl 13 (by decide) (hts _ fj_stands) (fun _ h9 => h9) rfl d k
theorem lj_1 {x v : Int} (cx : Cxj p s m args meth c cc nL ret D cI A) (hw : Kj D h cI A s X H locs) (hv : X 1 x = v) (h0 : 0 ≤ x) (h1 : x < 40) (d : decode cc pc = .ok (.iaload, 1)) (kk : W p l e R s m args below meth c H locs cells slots Q (F0 m (pc + 1) ls (.int (zI v) :: rest))) : W p l e R s m args below meth c H locs cells slots Q (F0 m pc ls (.int (zI x) :: .ref (h 1) :: rest)) := by
  subst hv
  obtain ⟨hx, hb, hml, hr, hlk, hown, hts, hK, hA⟩ := cx
  exact q_iald hx hb hK hw.1 1 0 (n := 40) (k := 1) (X := X) rfl rfl h0 h1 (by decide) d kk
theorem sj_1 {x v : Int} (cx : Cxj p s m args meth c cc nL ret D cI A) (hw : Kj D h cI A s X H locs) (h0 : 0 ≤ x) (h1 : x < 40) (d : decode cc pc = .ok (.iastore, 1)) (kk : ∀ (H1 : Heap) (locs1 : List Loc), Kj D h cI A s (up2 X 1 x v) H1 locs1 → W p l e R s m args below meth c H1 locs1 cells slots Q (F0 m (pc + 1) ls rest)) : W p l e R s m args below meth c H locs cells slots Q (F0 m pc ls (.int (zI v) :: .int (zI x) :: .ref (h 1) :: rest)) := by
  obtain ⟨hx, hb, hml, hr, hlk, hown, hts, hK, hA⟩ := cx
  obtain ⟨hP, hD, hS⟩ := hw
  exact q_iast hx hb hK hP hD hS 1 0 (n := 40) (k := 1) (X := X) rfl rfl h0 h1 (by decide) d (fun H1 locs1 hP1 hD1 hS1 => kk H1 locs1 ⟨hP1, hD1, hS1⟩)
theorem lj_2 {x v : Int} (cx : Cxj p s m args meth c cc nL ret D cI A) (hw : Kj D h cI A s X H locs) (hv : X 2 x = v) (h0 : 0 ≤ x) (h1 : x < 40) (d : decode cc pc = .ok (.iaload, 1)) (kk : W p l e R s m args below meth c H locs cells slots Q (F0 m (pc + 1) ls (.int (zI v) :: rest))) : W p l e R s m args below meth c H locs cells slots Q (F0 m pc ls (.int (zI x) :: .ref (h 2) :: rest)) := by
  subst hv
  obtain ⟨hx, hb, hml, hr, hlk, hown, hts, hK, hA⟩ := cx
  exact q_iald hx hb hK hw.1 2 0 (n := 40) (k := 2) (X := X) rfl rfl h0 h1 (by decide) d kk
theorem sj_2 {x v : Int} (cx : Cxj p s m args meth c cc nL ret D cI A) (hw : Kj D h cI A s X H locs) (h0 : 0 ≤ x) (h1 : x < 40) (d : decode cc pc = .ok (.iastore, 1)) (kk : ∀ (H1 : Heap) (locs1 : List Loc), Kj D h cI A s (up2 X 2 x v) H1 locs1 → W p l e R s m args below meth c H1 locs1 cells slots Q (F0 m (pc + 1) ls rest)) : W p l e R s m args below meth c H locs cells slots Q (F0 m pc ls (.int (zI v) :: .int (zI x) :: .ref (h 2) :: rest)) := by
  obtain ⟨hx, hb, hml, hr, hlk, hown, hts, hK, hA⟩ := cx
  obtain ⟨hP, hD, hS⟩ := hw
  exact q_iast hx hb hK hP hD hS 2 0 (n := 40) (k := 2) (X := X) rfl rfl h0 h1 (by decide) d (fun H1 locs1 hP1 hD1 hS1 => kk H1 locs1 ⟨hP1, hD1, hS1⟩)
theorem lj_3 {x v : Int} (cx : Cxj p s m args meth c cc nL ret D cI A) (hw : Kj D h cI A s X H locs) (hv : X 3 x = v) (h0 : 0 ≤ x) (h1 : x < 40) (d : decode cc pc = .ok (.iaload, 1)) (kk : W p l e R s m args below meth c H locs cells slots Q (F0 m (pc + 1) ls (.int (zI v) :: rest))) : W p l e R s m args below meth c H locs cells slots Q (F0 m pc ls (.int (zI x) :: .ref (h 3) :: rest)) := by
  subst hv
  obtain ⟨hx, hb, hml, hr, hlk, hown, hts, hK, hA⟩ := cx
  exact q_iald hx hb hK hw.1 3 0 (n := 40) (k := 3) (X := X) rfl rfl h0 h1 (by decide) d kk
theorem sj_3 {x v : Int} (cx : Cxj p s m args meth c cc nL ret D cI A) (hw : Kj D h cI A s X H locs) (h0 : 0 ≤ x) (h1 : x < 40) (d : decode cc pc = .ok (.iastore, 1)) (kk : ∀ (H1 : Heap) (locs1 : List Loc), Kj D h cI A s (up2 X 3 x v) H1 locs1 → W p l e R s m args below meth c H1 locs1 cells slots Q (F0 m (pc + 1) ls rest)) : W p l e R s m args below meth c H locs cells slots Q (F0 m pc ls (.int (zI v) :: .int (zI x) :: .ref (h 3) :: rest)) := by
  obtain ⟨hx, hb, hml, hr, hlk, hown, hts, hK, hA⟩ := cx
  obtain ⟨hP, hD, hS⟩ := hw
  exact q_iast hx hb hK hP hD hS 3 0 (n := 40) (k := 3) (X := X) rfl rfl h0 h1 (by decide) d (fun H1 locs1 hP1 hD1 hS1 => kk H1 locs1 ⟨hP1, hD1, hS1⟩)
theorem lj_4 {x v : Int} (cx : Cxj p s m args meth c cc nL ret D cI A) (hw : Kj D h cI A s X H locs) (hv : X 4 x = v) (h0 : 0 ≤ x) (h1 : x < 40) (d : decode cc pc = .ok (.iaload, 1)) (kk : W p l e R s m args below meth c H locs cells slots Q (F0 m (pc + 1) ls (.int (zI v) :: rest))) : W p l e R s m args below meth c H locs cells slots Q (F0 m pc ls (.int (zI x) :: .ref (h 4) :: rest)) := by
  subst hv
  obtain ⟨hx, hb, hml, hr, hlk, hown, hts, hK, hA⟩ := cx
  exact q_iald hx hb hK hw.1 4 0 (n := 40) (k := 4) (X := X) rfl rfl h0 h1 (by decide) d kk
theorem sj_4 {x v : Int} (cx : Cxj p s m args meth c cc nL ret D cI A) (hw : Kj D h cI A s X H locs) (h0 : 0 ≤ x) (h1 : x < 40) (d : decode cc pc = .ok (.iastore, 1)) (kk : ∀ (H1 : Heap) (locs1 : List Loc), Kj D h cI A s (up2 X 4 x v) H1 locs1 → W p l e R s m args below meth c H1 locs1 cells slots Q (F0 m (pc + 1) ls rest)) : W p l e R s m args below meth c H locs cells slots Q (F0 m pc ls (.int (zI v) :: .int (zI x) :: .ref (h 4) :: rest)) := by
  obtain ⟨hx, hb, hml, hr, hlk, hown, hts, hK, hA⟩ := cx
  obtain ⟨hP, hD, hS⟩ := hw
  exact q_iast hx hb hK hP hD hS 4 0 (n := 40) (k := 4) (X := X) rfl rfl h0 h1 (by decide) d (fun H1 locs1 hP1 hD1 hS1 => kk H1 locs1 ⟨hP1, hD1, hS1⟩)
theorem lj_5 {x v : Int} (cx : Cxj p s m args meth c cc nL ret D cI A) (hw : Kj D h cI A s X H locs) (hv : X 5 x = v) (h0 : 0 ≤ x) (h1 : x < 40) (d : decode cc pc = .ok (.iaload, 1)) (kk : W p l e R s m args below meth c H locs cells slots Q (F0 m (pc + 1) ls (.int (zI v) :: rest))) : W p l e R s m args below meth c H locs cells slots Q (F0 m pc ls (.int (zI x) :: .ref (h 5) :: rest)) := by
  subst hv
  obtain ⟨hx, hb, hml, hr, hlk, hown, hts, hK, hA⟩ := cx
  exact q_iald hx hb hK hw.1 5 0 (n := 40) (k := 5) (X := X) rfl rfl h0 h1 (by decide) d kk
theorem sj_5 {x v : Int} (cx : Cxj p s m args meth c cc nL ret D cI A) (hw : Kj D h cI A s X H locs) (h0 : 0 ≤ x) (h1 : x < 40) (d : decode cc pc = .ok (.iastore, 1)) (kk : ∀ (H1 : Heap) (locs1 : List Loc), Kj D h cI A s (up2 X 5 x v) H1 locs1 → W p l e R s m args below meth c H1 locs1 cells slots Q (F0 m (pc + 1) ls rest)) : W p l e R s m args below meth c H locs cells slots Q (F0 m pc ls (.int (zI v) :: .int (zI x) :: .ref (h 5) :: rest)) := by
  obtain ⟨hx, hb, hml, hr, hlk, hown, hts, hK, hA⟩ := cx
  obtain ⟨hP, hD, hS⟩ := hw
  exact q_iast hx hb hK hP hD hS 5 0 (n := 40) (k := 5) (X := X) rfl rfl h0 h1 (by decide) d (fun H1 locs1 hP1 hD1 hS1 => kk H1 locs1 ⟨hP1, hD1, hS1⟩)
theorem lj_6 {x v : Int} (cx : Cxj p s m args meth c cc nL ret D cI A) (hw : Kj D h cI A s X H locs) (hv : X 6 x = v) (h0 : 0 ≤ x) (h1 : x < 320) (d : decode cc pc = .ok (.iaload, 1)) (kk : W p l e R s m args below meth c H locs cells slots Q (F0 m (pc + 1) ls (.int (zI v) :: rest))) : W p l e R s m args below meth c H locs cells slots Q (F0 m pc ls (.int (zI x) :: .ref (h 6) :: rest)) := by
  subst hv
  obtain ⟨hx, hb, hml, hr, hlk, hown, hts, hK, hA⟩ := cx
  exact q_iald hx hb hK hw.1 6 0 (n := 320) (k := 6) (X := X) rfl rfl h0 h1 (by decide) d kk
theorem sj_6 {x v : Int} (cx : Cxj p s m args meth c cc nL ret D cI A) (hw : Kj D h cI A s X H locs) (h0 : 0 ≤ x) (h1 : x < 320) (d : decode cc pc = .ok (.iastore, 1)) (kk : ∀ (H1 : Heap) (locs1 : List Loc), Kj D h cI A s (up2 X 6 x v) H1 locs1 → W p l e R s m args below meth c H1 locs1 cells slots Q (F0 m (pc + 1) ls rest)) : W p l e R s m args below meth c H locs cells slots Q (F0 m pc ls (.int (zI v) :: .int (zI x) :: .ref (h 6) :: rest)) := by
  obtain ⟨hx, hb, hml, hr, hlk, hown, hts, hK, hA⟩ := cx
  obtain ⟨hP, hD, hS⟩ := hw
  exact q_iast hx hb hK hP hD hS 6 0 (n := 320) (k := 6) (X := X) rfl rfl h0 h1 (by decide) d (fun H1 locs1 hP1 hD1 hS1 => kk H1 locs1 ⟨hP1, hD1, hS1⟩)
theorem lj_7 {x v : Int} (cx : Cxj p s m args meth c cc nL ret D cI A) (hw : Kj D h cI A s X H locs) (hv : X 7 x = v) (h0 : 0 ≤ x) (h1 : x < 320) (d : decode cc pc = .ok (.iaload, 1)) (kk : W p l e R s m args below meth c H locs cells slots Q (F0 m (pc + 1) ls (.int (zI v) :: rest))) : W p l e R s m args below meth c H locs cells slots Q (F0 m pc ls (.int (zI x) :: .ref (h 7) :: rest)) := by
  subst hv
  obtain ⟨hx, hb, hml, hr, hlk, hown, hts, hK, hA⟩ := cx
  exact q_iald hx hb hK hw.1 7 0 (n := 320) (k := 7) (X := X) rfl rfl h0 h1 (by decide) d kk
theorem sj_7 {x v : Int} (cx : Cxj p s m args meth c cc nL ret D cI A) (hw : Kj D h cI A s X H locs) (h0 : 0 ≤ x) (h1 : x < 320) (d : decode cc pc = .ok (.iastore, 1)) (kk : ∀ (H1 : Heap) (locs1 : List Loc), Kj D h cI A s (up2 X 7 x v) H1 locs1 → W p l e R s m args below meth c H1 locs1 cells slots Q (F0 m (pc + 1) ls rest)) : W p l e R s m args below meth c H locs cells slots Q (F0 m pc ls (.int (zI v) :: .int (zI x) :: .ref (h 7) :: rest)) := by
  obtain ⟨hx, hb, hml, hr, hlk, hown, hts, hK, hA⟩ := cx
  obtain ⟨hP, hD, hS⟩ := hw
  exact q_iast hx hb hK hP hD hS 7 0 (n := 320) (k := 7) (X := X) rfl rfl h0 h1 (by decide) d (fun H1 locs1 hP1 hD1 hS1 => kk H1 locs1 ⟨hP1, hD1, hS1⟩)
theorem lj_8 {x v : Int} (cx : Cxj p s m args meth c cc nL ret D cI A) (hw : Kj D h cI A s X H locs) (hv : X 8 x = v) (h0 : 0 ≤ x) (h1 : x < 320) (d : decode cc pc = .ok (.iaload, 1)) (kk : W p l e R s m args below meth c H locs cells slots Q (F0 m (pc + 1) ls (.int (zI v) :: rest))) : W p l e R s m args below meth c H locs cells slots Q (F0 m pc ls (.int (zI x) :: .ref (h 8) :: rest)) := by
  subst hv
  obtain ⟨hx, hb, hml, hr, hlk, hown, hts, hK, hA⟩ := cx
  exact q_iald hx hb hK hw.1 8 0 (n := 320) (k := 8) (X := X) rfl rfl h0 h1 (by decide) d kk
theorem sj_8 {x v : Int} (cx : Cxj p s m args meth c cc nL ret D cI A) (hw : Kj D h cI A s X H locs) (h0 : 0 ≤ x) (h1 : x < 320) (d : decode cc pc = .ok (.iastore, 1)) (kk : ∀ (H1 : Heap) (locs1 : List Loc), Kj D h cI A s (up2 X 8 x v) H1 locs1 → W p l e R s m args below meth c H1 locs1 cells slots Q (F0 m (pc + 1) ls rest)) : W p l e R s m args below meth c H locs cells slots Q (F0 m pc ls (.int (zI v) :: .int (zI x) :: .ref (h 8) :: rest)) := by
  obtain ⟨hx, hb, hml, hr, hlk, hown, hts, hK, hA⟩ := cx
  obtain ⟨hP, hD, hS⟩ := hw
  exact q_iast hx hb hK hP hD hS 8 0 (n := 320) (k := 8) (X := X) rfl rfl h0 h1 (by decide) d (fun H1 locs1 hP1 hD1 hS1 => kk H1 locs1 ⟨hP1, hD1, hS1⟩)
theorem lj_9 {x v : Int} (cx : Cxj p s m args meth c cc nL ret D cI A) (hw : Kj D h cI A s X H locs) (hv : X 9 x = v) (h0 : 0 ≤ x) (h1 : x < 40) (d : decode cc pc = .ok (.iaload, 1)) (kk : W p l e R s m args below meth c H locs cells slots Q (F0 m (pc + 1) ls (.int (zI v) :: rest))) : W p l e R s m args below meth c H locs cells slots Q (F0 m pc ls (.int (zI x) :: .ref (h 9) :: rest)) := by
  subst hv
  obtain ⟨hx, hb, hml, hr, hlk, hown, hts, hK, hA⟩ := cx
  exact q_iald hx hb hK hw.1 9 0 (n := 40) (k := 9) (X := X) rfl rfl h0 h1 (by decide) d kk
theorem sj_9 {x v : Int} (cx : Cxj p s m args meth c cc nL ret D cI A) (hw : Kj D h cI A s X H locs) (h0 : 0 ≤ x) (h1 : x < 40) (d : decode cc pc = .ok (.iastore, 1)) (kk : ∀ (H1 : Heap) (locs1 : List Loc), Kj D h cI A s (up2 X 9 x v) H1 locs1 → W p l e R s m args below meth c H1 locs1 cells slots Q (F0 m (pc + 1) ls rest)) : W p l e R s m args below meth c H locs cells slots Q (F0 m pc ls (.int (zI v) :: .int (zI x) :: .ref (h 9) :: rest)) := by
  obtain ⟨hx, hb, hml, hr, hlk, hown, hts, hK, hA⟩ := cx
  obtain ⟨hP, hD, hS⟩ := hw
  exact q_iast hx hb hK hP hD hS 9 0 (n := 40) (k := 9) (X := X) rfl rfl h0 h1 (by decide) d (fun H1 locs1 hP1 hD1 hS1 => kk H1 locs1 ⟨hP1, hD1, hS1⟩)
theorem lj_10 {x v : Int} (cx : Cxj p s m args meth c cc nL ret D cI A) (hw : Kj D h cI A s X H locs) (hv : X 10 x = v) (h0 : 0 ≤ x) (h1 : x < 6) (d : decode cc pc = .ok (.iaload, 1)) (kk : W p l e R s m args below meth c H locs cells slots Q (F0 m (pc + 1) ls (.int (zI v) :: rest))) : W p l e R s m args below meth c H locs cells slots Q (F0 m pc ls (.int (zI x) :: .ref (h 10) :: rest)) := by
  subst hv
  obtain ⟨hx, hb, hml, hr, hlk, hown, hts, hK, hA⟩ := cx
  exact q_iald hx hb hK hw.1 10 0 (n := 6) (k := 10) (X := X) rfl rfl h0 h1 (by decide) d kk
theorem sj_10 {x v : Int} (cx : Cxj p s m args meth c cc nL ret D cI A) (hw : Kj D h cI A s X H locs) (h0 : 0 ≤ x) (h1 : x < 6) (d : decode cc pc = .ok (.iastore, 1)) (kk : ∀ (H1 : Heap) (locs1 : List Loc), Kj D h cI A s (up2 X 10 x v) H1 locs1 → W p l e R s m args below meth c H1 locs1 cells slots Q (F0 m (pc + 1) ls rest)) : W p l e R s m args below meth c H locs cells slots Q (F0 m pc ls (.int (zI v) :: .int (zI x) :: .ref (h 10) :: rest)) := by
  obtain ⟨hx, hb, hml, hr, hlk, hown, hts, hK, hA⟩ := cx
  obtain ⟨hP, hD, hS⟩ := hw
  exact q_iast hx hb hK hP hD hS 10 0 (n := 6) (k := 10) (X := X) rfl rfl h0 h1 (by decide) d (fun H1 locs1 hP1 hD1 hS1 => kk H1 locs1 ⟨hP1, hD1, hS1⟩)
end JRW
