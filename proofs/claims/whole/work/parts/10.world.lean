/-! THE CLASS'S WORLD: its object and its arrays, out of one state X; what every method of it is told and gives back -/
abbrev TYS (cI cL : ClassId) : List (ClassId × FieldType) := [(cI, .int), (cL, .long)]
def wC (h : Nat → Nat) (cI cL : ClassId) (X : St) : va_W :=
  [(h 0, .inr (0, [.ref (h 1), .ref (h 2), .ref (h 3), .ref (h 4), .ref (h 5), .int (zI (X 0 0)), .ref (h 6), .ref (h 7), .ref (h 8), .int (zI (X 0 1)), .ref (h 9), .ref (h 10), .ref (h 11), .ref (h 12), .int (zI (X 0 2))])),
   (h 1, .inl (cI, 40, .inl (aI X 1))),
   (h 2, .inl (cI, 40, .inl (aI X 2))),
   (h 3, .inl (cI, 40, .inl (aI X 3))),
   (h 4, .inl (cI, 40, .inl (aI X 4))),
   (h 5, .inl (cI, 40, .inl (aI X 5))),
   (h 6, .inl (cI, 320, .inl (aI X 6))),
   (h 7, .inl (cI, 320, .inl (aI X 7))),
   (h 8, .inl (cI, 40, .inl (aI X 8))),
   (h 9, .inl (cL, 128, .inr (.inl (aL X 9)))),
   (h 10, .inl (cL, 128, .inr (.inl (aL X 10)))),
   (h 11, .inl (cL, 128, .inr (.inl (aL X 11)))),
   (h 12, .inl (cI, 6, .inl (aI X 12)))]
/-- the messages: place in the pool, text -/
def txts : List (Nat × String) := [(69, "there are forty batches"), (93, "the batch is not open"), (96, "the batch has eight entries"), (116, "the batch is not held"), (130, "the batch is not posted"), (132, "the day is before that of the batch"), (141, "there is no room for the reversing batches"), (146, "not enough is free to reverse all batches of the day"), (159, "no such container"), (165, "the container stands there"), (183, "the account has not so many posted entries"), (186, "what is not 0 to 3"), (188, "what is not 0 to 4"), (190, "no such entry"), (203, "no such batch"), (205, "no such account"), (207, "no such place"), (209, "no such lot"), (213, "no such amount"), (215, "no such day"), (217, "the day is closed"), (219, "the batch is neither open nor held"), (224, "the batch is not sound"), (236, "not enough is free")]
/-- what a throw needs of the heap and of the tables -/
def gX (A : Nat → Prop) (U : State) : Prop := vx_Zq Bundle.tN "UNASSIGNED_STACK" Bundle.steD A U U.heap ∧ vx_Zq Bundle.tN "SUPPRESSED_SENTINEL" Bundle.listD A U U.heap ∧ (∀ q ∈ txts, ∃ sa, vk_R "MoveRows" q.1 q.2 sa U) ∧ ∀ w ∈ kX, w.before #[] U = true
theorem kX_kinds : ∀ w ∈ kX, (∃ a b : String, w = .castable a b) ∨ ∃ x : MethodName, w = .declares x := by
  intro w hw
  simp only [kX, List.mem_cons, List.not_mem_nil, or_false] at hw
  rcases hw with rfl | rfl | rfl | rfl | rfl | rfl | rfl <;> first | exact Or.inl ⟨_, _, rfl⟩ | exact Or.inr ⟨_, rfl⟩
theorem kX_warm {w : Cond} (hk : w ∈ kX) {A A' : Array Value} {s U : State} (hW : s.WarmedH U.vm) (h : w.before A s = true) : w.before A' U = true := by
  rcases kX_kinds w hk with ⟨a, b, rfl⟩ | ⟨x, rfl⟩
  · exact va_tabs (u := s.setVm U.vm) rfl rfl (Cond.before_warmed hW (.castable a b) trivial h)
  · exact va_tabs (u := s.setVm U.vm) rfl rfl (Cond.before_warmed hW (.declares x) trivial h)
theorem gX.to {A A' : Nat → Prop} {s U : State} (h : gX A s) (hW : s.WarmedH U.vm) (hh : ∀ a : Nat, a < s.heap.size → ¬ A a → U.heap[a]? = s.heap[a]?) (hA : ∀ q, A' q → A q) : gX A' U := by
  obtain ⟨h1, h2, h3, h4⟩ := h
  refine ⟨((vx_Zq.moved hW.alike h1).kept hh).narrow hA, ((vx_Zq.moved hW.alike h2).kept hh).narrow hA, fun q hq => ?_, fun w hw => ?_⟩
  · obtain ⟨sa, h⟩ := h3 q hq
    exact ⟨sa, h.warm hW⟩
  · exact kX_warm hw hW (h4 w hw)
theorem gX.same {A : Nat → Prop} {u U : State} (hv : U.vm = u.vm) (hh : U.heap = u.heap) (h : gX A u) : gX A U := h.to (by rw [hv]; exact State.WarmedH.refl u) (fun a _ _ => by rw [hh]) (fun _ h => h)
/-- a method's start -/
def pC (D : va_G) (h : Nat → Nat) (cI cL : ClassId) (X : St) (sz : Nat) : State → Prop := fun U => U.heap.size = sz ∧ va_P D CL (wC h cI cL X) U.heap ∧ va_K D CL (TYS cI cL) U ∧ va_D (fun _ => True) (wC h cI cL X) ∧ gX (va_A (wC h cI cL X) sz) U
/-- the world behind it -/
def bC (D : va_G) (h : Nat → Nat) (cI cL : ClassId) (A : Nat → Prop) : St → State → Prop := fun X t => va_P D CL (wC h cI cL X) t.heap ∧ va_K D CL (TYS cI cL) t ∧ va_D A (wC h cI cL X)
abbrev fC (h : Nat → Nat) (cI cL : ClassId) (X : St) (sz : Nat) : Nat → Prop := va_A (wC h cI cL X) sz
/-- a method that may throw: its start and end also weigh the heap -/
def pX (D : va_G) (h : Nat → Nat) (cI cL : ClassId) (X : St) (sz hz : Nat) : State → Prop := fun U => pC D h cI cL X sz U ∧ slotSum U.heap ≤ hz
def bX (D : va_G) (h : Nat → Nat) (cI cL : ClassId) (A : Nat → Prop) (sz hz : Nat) : St → State → Prop := fun X t => bC D h cI cL A X t ∧ t.heap.size ≤ sz ∧ slotSum t.heap ≤ hz
/-- .. and where it has thrown -/
abbrev xC (D : va_G) (h : Nat → Nat) (cI cL : ClassId) (A : Nat → Prop) (bad : String → St → Prop) : String → State → State → Prop := vx_X (fun u : String × St => bad u.1 u.2) (fun E u t => E = u.1 ∧ bC D h cI cL A u.2 t) A
theorem pC_blind {av : List Value} {D : va_G} {h : Nat → Nat} {cI cL : ClassId} {X : St} {sz : Nat} : FrameBlind (va_Pc av (pC D h cI cL X sz)) := by
  intro a U g mk q
  obtain ⟨q0, q1, qP, qK, qD, qG⟩ := q
  exact ⟨q0, q1, qP, va_K.moved (u := U) (U := U.calling g mk a) (Vm.Alike.refl U.vm) qK, qD, gX.same (u := U) (U := U.calling g mk a) rfl rfl qG⟩
theorem pX_blind {av : List Value} {D : va_G} {h : Nat → Nat} {cI cL : ClassId} {X : St} {sz hz : Nat} : FrameBlind (va_Pc av (pX D h cI cL X sz hz)) := by
  intro a U g mk q
  obtain ⟨q0, q1, q2⟩ := q
  exact ⟨q0, (pC_blind (av := av) a U g mk ⟨q0, q1⟩).2, q2⟩
section WTG
variable {p : Program} {l : Launch} {e : Env} {R : Room} {s : State} {m : MethodId} {args : Array Value} {below : List Frame} {meth : Method} {c : Code} {H : Heap} {locs : List Loc} {cells slots c' n' : Nat} {Q : State → Prop} {g : JFrame}
/-- the counts are facts of the heap -/
theorem W_know (k : H.size ≤ s.heap.size + cells → slotSum H ≤ slotSum s.heap + slots → W p l e R s m args below meth c H locs cells slots Q g) : W p l e R s m args below meth c H locs cells slots Q g := by
  intro T hT X
  have h0 : s.slotsTrue = true := by
    have h := X.room
    simp only [State.hasRoom, Bool.and_eq_true] at h
    exact h.2
  have h1 := X.heapSize
  have h2 := X.used
  have b1 : T.slotsUsed = slotSum T.heap := (State.slotsTrue_iff T).mp X.book
  have b0 : s.slotsUsed = slotSum s.heap := (State.slotsTrue_iff s).mp h0
  rw [hT] at h1 b1
  exact k h1 (by rw [← b1, ← b0]; exact h2) T hT X
theorem W_tight (h1 : H.size ≤ s.heap.size + c') (h2 : slotSum H ≤ slotSum s.heap + n') (k : W p l e R s m args below meth c H locs c' n' Q g) : W p l e R s m args below meth c H locs cells slots Q g := by
  intro T hT X
  have h0 : s.slotsTrue = true := by
    have h := X.room
    simp only [State.hasRoom, Bool.and_eq_true] at h
    exact h.2
  have b1 : T.slotsUsed = slotSum T.heap := (State.slotsTrue_iff T).mp X.book
  have b0 : s.slotsUsed = slotSum s.heap := (State.slotsTrue_iff s).mp h0
  rw [hT] at b1
  refine k T hT { X with same := ?_ }
  obtain ⟨a1, a2, a3, a4, a5, a6⟩ := X.same
  refine ⟨a1, a2, by show T.heap.size ≤ _; rw [hT]; exact h1, a4, ?_, a6⟩
  have a4' : T.slotsUsed = s.slotsUsed + (((T.setVm s.vm).heap.toList.drop s.heap.size).map (·.slots.size)).sum := a4
  omega
end WTG
/-- what holds all through a method's body -/
def Cx (p : Program) (s : State) (m : MethodId) (args : Array Value) (meth : Method) (c : Code) (cc : ByteArray) (nL : Nat) (ret : Option FieldType) (D : va_G) (cI cL : ClassId) (A : Nat → Prop) : Prop :=
  p.tables.exec = Jvm.exec ∧ c.code = cc ∧ c.maxLocals = nL ∧ meth.sig.returnType = ret ∧ meth.locks = false ∧ s.vm.findClass "MoveRows" = some m.cls ∧ (∀ w ∈ wG, w.before args s = true) ∧ va_K D CL (TYS cI cL) s ∧ (∀ q : Nat, s.heap.size ≤ q → A q) ∧ gX A s ∧ ∀ x ∈ c.exceptionTable.toList, False
/-- .. and at a point of it -/
def Kw (D : va_G) (h : Nat → Nat) (cI cL : ClassId) (A : Nat → Prop) (s : State) (X : St) (H : Heap) (locs : List Loc) : Prop := va_P D CL (wC h cI cL X) H ∧ va_D A (wC h cI cL X) ∧ va_S A s.heap H locs
theorem noTable {y : MethodName} {ws ws' : List Cond} {rm : Room} {cc : ByteArray} {maxL : Nat} {ret : Option FieldType} {l : Launch} {p : Program} {e : Env} {s : State} {m : MethodId} {args : Array Value} {below : List Frame} {meth : Method} {c : Code} {s₁ : State} (hw : ws = Cond.code y cc maxL ret :: ws') (B : BodyLoose p l y (headSpec ws rm) cc maxL ret e s m args below meth c s₁) : ∀ x ∈ c.exceptionTable.toList, False := by
  obtain ⟨meth9, c9, h1, h2, -, -, -, -, h7, -⟩ := Cond.code_spec B.named (atoms_spec (ws := ws) B.pre _ (by rw [hw]; exact List.mem_cons_self))
  cases Option.some.inj (h1.symm.trans B.method)
  cases Option.some.inj (h2.symm.trans (Stand.of_body B).code)
  intro x hx
  rw [Array.isEmpty_iff.mp h7] at hx
  cases hx
section CST
variable {l : Launch} {y : MethodName} {cc : ByteArray} {maxL mc ms sz : Nat} {ret : Option FieldType} {rm : Room} {D : va_G} {h : Nat → Nat} {cI cL : ClassId} {X : St} {av : List Value} {Qc : Array Value → State → Outcome → State → Prop}
theorem cx_of {A : Nat → Prop} {p : Program} {e : Env} {s : State} {m : MethodId} {below : List Frame} {meth : Method} {c : Code} {s₁ : State} (hA : A = fC h cI cL X sz) (hcls : y.cls = "MoveRows") (B : BodyLoose p l y (headSpec (.code y cc maxL ret :: wG) rm) cc maxL ret e s m av.toArray below meth c s₁) (hml : c.maxLocals = maxL) (hv : pC D h cI cL X sz s) :
    Cx p s m av.toArray meth c cc maxL ret D cI cL A ∧ Kw D h cI cL A s X s.heap [] := by
  obtain ⟨hsz, hP, hK, hD, hG⟩ := hv
  subst hA
  refine ⟨⟨B.exec, B.bytes, hml, B.returns, B.notSynchronized, by rw [← hcls]; exact findClass_of_methodNamed B.named, fun w hw => atoms_spec (ws := .code y cc maxL ret :: wG) B.pre w (List.mem_cons_of_mem _ hw), hK, fun q hq => Or.inr (by rw [← hsz]; exact hq), hG, noTable rfl B⟩, hP, hD.self, va_S.rf⟩
/-- a method that only returns -/
theorem c_start (hy : plainName y.cls = true) (hcls : y.cls = "MoveRows") (hlen : (lg_sl av).length ≤ maxL)
    (body : ∀ (A : Nat → Prop) (p : Program) (e : Env) (s : State) (m : MethodId) (below : List Frame) (meth : Method) (c : Code) (ls : Array Slot), A = fC h cI cL X sz → Cx p s m av.toArray meth c cc maxL ret D cI cL A → Kw D h cI cL A s X s.heap [] → lv_has ls maxL (lv_args 0 av) →
      W p l e rm s m av.toArray below meth c s.heap [] 0 0 (MQ below Qc av.toArray s mc ms A) (F0 m 0 ls [])) : Met l y (.code y cc maxL ret :: wG) rm (va_Pc av (pC D h cI cL X sz)) Qc mc ms (fC h cI cL X sz) := by
  refine Met.ofW (cc := cc) (maxL := maxL) (ret := ret) hy rfl ?_
  intro p e s m args below meth c s₁ B hml hv
  obtain ⟨rfl, hv⟩ := hv
  obtain ⟨hc, hk⟩ := cx_of (A := fC h cI cL X sz) rfl hcls B hml hv
  have hl := lv_entry av (n := maxL) hlen
  rw [lg_entry_eq]
  exact body _ p e s m below meth c _ rfl hc hk hl
/-- a method that may throw -/
theorem x_start {hz : Nat} {XC : String → State → State → Prop} (hy : plainName y.cls = true) (hcls : y.cls = "MoveRows") (hlen : (lg_sl av).length ≤ maxL)
    (body : ∀ (A : Nat → Prop) (p : Program) (e : Env) (s : State) (m : MethodId) (below : List Frame) (meth : Method) (c : Code) (ls : Array Slot), A = fC h cI cL X sz → (s.heap.size ≤ sz ∧ slotSum s.heap ≤ hz) → Cx p s m av.toArray meth c cc maxL ret D cI cL A → Kw D h cI cL A s X s.heap [] → lv_has ls maxL (lv_args 0 av) →
      W p l e rm s m av.toArray below meth c s.heap [] 0 0 (vx_MQ below Qc XC av.toArray s mc ms A) (F0 m 0 ls [])) : vx_Met l y (.code y cc maxL ret :: wG) rm (va_Pc av (pX D h cI cL X sz hz)) Qc XC mc ms (fC h cI cL X sz) := by
  refine vx_ofW (cc := cc) (maxL := maxL) (ret := ret) hy rfl ?_
  intro p e s m args below meth c s₁ B hml _ hv
  obtain ⟨rfl, hv, hh⟩ := hv
  obtain ⟨hc, hk⟩ := cx_of (A := fC h cI cL X sz) rfl hcls B hml hv
  have hl := lv_entry av (n := maxL) hlen
  rw [lg_entry_eq]
  exact body _ p e s m below meth c _ rfl ⟨Nat.le_of_eq hv.1, hh⟩ hc hk hl
end CST
section CEN
variable {p : Program} {l : Launch} {e : Env} {R : Room} {s : State} {m : MethodId} {args : Array Value} {below : List Frame} {meth : Method} {c : Code} {H : Heap} {locs : List Loc} {cells slots mc ms : Nat} {Q : State → Prop}
variable {cc : ByteArray} {pc nL : Nat} {ls : Array Slot} {rest st0 : List Value} {D : va_G} {A : Nat → Prop} {h : Nat → Nat} {cI cL : ClassId} {X : St} {ret : Option FieldType}
theorem e_l {post : Int64 → St → Prop} (cx : Cx p s m args meth c cc nL (some .long) D cI cL A) (hw : Kw D h cI cL A s X H locs) {v : Int64} (hc : cells ≤ mc) (hs : slots ≤ ms) (d : decode cc pc = .ok (.lreturn, 1)) (hp : post v X) : W p l e R s m args below meth c H locs cells slots (MQ below (va_Ql post (bC D h cI cL A) A) args s mc ms A) (F0 m pc ls [.long v]) := by
  obtain ⟨hx, hb, hml, hr, hlk, hown, hts, hK, hA, hG, htb⟩ := cx
  obtain ⟨hP, hD, hS⟩ := hw
  exact W.widen hc hs (W.lret hx hb hr (fun t ht hW => ⟨⟨v, X, rfl, hp, by rw [ht]; exact hP, va_K.moved hW.alike hK, hD⟩, hS.F ht⟩) hS.2.2 d hlk)
theorem e_i {post : Int32 → St → Prop} (cx : Cx p s m args meth c cc nL (some .int) D cI cL A) (hw : Kw D h cI cL A s X H locs) {v : Int32} (hc : cells ≤ mc) (hs : slots ≤ ms) (d : decode cc pc = .ok (.ireturn, 1)) (hp : post v X) : W p l e R s m args below meth c H locs cells slots (MQ below (va_Qi post (bC D h cI cL A) A) args s mc ms A) (F0 m pc ls [.int v]) := by
  obtain ⟨hx, hb, hml, hr, hlk, hown, hts, hK, hA, hG, htb⟩ := cx
  obtain ⟨hP, hD, hS⟩ := hw
  exact W.widen hc hs (W.iret hx hb hr (fun t ht hW => ⟨⟨v, X, rfl, hp, by rw [ht]; exact hP, va_K.moved hW.alike hK, hD⟩, hS.F ht⟩) hS.2.2 d hlk)
theorem e_z {post : Int32 → St → Prop} (cx : Cx p s m args meth c cc nL (some .boolean) D cI cL A) (hw : Kw D h cI cL A s X H locs) {v : Int32} (hn : narrow .boolean (.int v) = .int v) (hc : cells ≤ mc) (hs : slots ≤ ms) (d : decode cc pc = .ok (.ireturn, 1)) (hp : post v X) : W p l e R s m args below meth c H locs cells slots (MQ below (va_Qi post (bC D h cI cL A) A) args s mc ms A) (F0 m pc ls [.int v]) := by
  obtain ⟨hx, hb, hml, hr, hlk, hown, hts, hK, hA, hG, htb⟩ := cx
  obtain ⟨hP, hD, hS⟩ := hw
  exact W.widen hc hs (W.zret hx hb hr hn (fun t ht hW => ⟨⟨v, X, rfl, hp, by rw [ht]; exact hP, va_K.moved hW.alike hK, hD⟩, hS.F ht⟩) hS.2.2 d hlk)
theorem e_v {post : St → Prop} (cx : Cx p s m args meth c cc nL none D cI cL A) (hw : Kw D h cI cL A s X H locs) (hc : cells ≤ mc) (hs : slots ≤ ms) (d : decode cc pc = .ok (.return_, 1)) (hp : post X) : W p l e R s m args below meth c H locs cells slots (MQ below (va_Qv post (bC D h cI cL A) A) args s mc ms A) (F0 m pc ls []) := by
  obtain ⟨hx, hb, hml, hr, hlk, hown, hts, hK, hA, hG, htb⟩ := cx
  obtain ⟨hP, hD, hS⟩ := hw
  exact W.widen hc hs (W.vret hx hb hr (fun t ht hW => ⟨⟨X, rfl, hp, by rw [ht]; exact hP, va_K.moved hW.alike hK, hD⟩, hS.F ht⟩) hS.2.2 d hlk)
theorem ex_l {sz hz : Nat} {XC : String → State → State → Prop} {post : Int64 → St → Prop} (cx : Cx p s m args meth c cc nL (some .long) D cI cL A) (hw : Kw D h cI cL A s X H locs) {v : Int64} (hh : s.heap.size ≤ sz ∧ slotSum s.heap ≤ hz) (d : decode cc pc = .ok (.lreturn, 1)) (hp : post v X) : W p l e R s m args below meth c H locs 0 0 (vx_MQ below (va_Ql post (bX D h cI cL A sz hz) A) XC args s mc ms A) (F0 m pc ls [.long v]) := by
  obtain ⟨hx, hb, hml, hr, hlk, hown, hts, hK, hA, hG, htb⟩ := cx
  obtain ⟨hP, hD, hS⟩ := hw
  refine W_know (fun k1 k2 => ?_)
  exact vx_ret (W.widen (Nat.zero_le _) (Nat.zero_le _) (W.lret hx hb hr (fun t ht hW => ⟨⟨v, X, rfl, hp, ⟨by rw [ht]; exact hP, va_K.moved hW.alike hK, hD⟩, by rw [ht]; omega, by rw [ht]; omega⟩, hS.F ht⟩) hS.2.2 d hlk))
theorem ex_i {sz hz : Nat} {XC : String → State → State → Prop} {post : Int32 → St → Prop} (cx : Cx p s m args meth c cc nL (some .int) D cI cL A) (hw : Kw D h cI cL A s X H locs) {v : Int32} (hh : s.heap.size ≤ sz ∧ slotSum s.heap ≤ hz) (d : decode cc pc = .ok (.ireturn, 1)) (hp : post v X) : W p l e R s m args below meth c H locs 0 0 (vx_MQ below (va_Qi post (bX D h cI cL A sz hz) A) XC args s mc ms A) (F0 m pc ls [.int v]) := by
  obtain ⟨hx, hb, hml, hr, hlk, hown, hts, hK, hA, hG, htb⟩ := cx
  obtain ⟨hP, hD, hS⟩ := hw
  refine W_know (fun k1 k2 => ?_)
  exact vx_ret (W.widen (Nat.zero_le _) (Nat.zero_le _) (W.iret hx hb hr (fun t ht hW => ⟨⟨v, X, rfl, hp, ⟨by rw [ht]; exact hP, va_K.moved hW.alike hK, hD⟩, by rw [ht]; omega, by rw [ht]; omega⟩, hS.F ht⟩) hS.2.2 d hlk))
theorem ex_v {sz hz : Nat} {XC : String → State → State → Prop} {post : St → Prop} (cx : Cx p s m args meth c cc nL none D cI cL A) (hw : Kw D h cI cL A s X H locs) (hh : s.heap.size ≤ sz ∧ slotSum s.heap ≤ hz) (d : decode cc pc = .ok (.return_, 1)) (hp : post X) : W p l e R s m args below meth c H locs 0 0 (vx_MQ below (va_Qv post (bX D h cI cL A sz hz) A) XC args s mc ms A) (F0 m pc ls []) := by
  obtain ⟨hx, hb, hml, hr, hlk, hown, hts, hK, hA, hG, htb⟩ := cx
  obtain ⟨hP, hD, hS⟩ := hw
  refine W_know (fun k1 k2 => ?_)
  exact vx_ret (W.widen (Nat.zero_le _) (Nat.zero_le _) (W.vret hx hb hr (fun t ht hW => ⟨⟨X, rfl, hp, ⟨by rw [ht]; exact hP, va_K.moved hW.alike hK, hD⟩, by rw [ht]; omega, by rw [ht]; omega⟩, hS.F ht⟩) hS.2.2 d hlk))
theorem wC_free (hA : ∀ q : Nat, s.heap.size ≤ q → A q) (hw : Kw D h cI cL A s X H locs) : ∀ q, fC h cI cL X H.size q → A q := va_free (wc := wC h cI cL X) hw.2.1 hw.2.2 hA (List.range 13) rfl
/-- 'throw new E("text")' -/
theorem e_throw {cls text : String} {names : List String} {ik is ic : Nat} {Qc : Array Value → State → Outcome → State → Prop} {bad : String → St → Prop} (cx : Cx p s m args meth c cc nL ret D cI cL A) (hw : Kw D h cI cL A s X H locs) (hlt : l.stackTraces = false) (hsize : ls.size = nL)
    (hcls : Bundle.fit cls = true) (hnames : ∀ n ∈ names, Bundle.fit n = true) (hk : Cond.classLink "MoveRows" ik cls ∈ wG) (hini : Cond.initialized cls ∈ wG) (htx : (is, text) ∈ txts)
    (hat : ∀ w ∈ (vx_atS "MoveRows" ic cls names).filter goodWord, w ∈ wG) (hat2 : ∀ w ∈ (vx_atS "MoveRows" ic cls names).filter (fun w => !goodWord w), w ∈ kX)
    (hgood : ∀ w ∈ Cond.classLink "MoveRows" ik cls :: Cond.initialized cls :: vx_atS "MoveRows" ic cls names, vx_ot w = true)
    (d0 : decode cc pc = .ok (.new ik, 3)) (d3 : decode cc (pc + 3) = .ok (.dup, 1)) (d4 : decode cc (pc + 4) = .ok (.ldc is, 2)) (d6 : decode cc (pc + 6) = .ok (.invokespecial ic, 3)) (d9 : decode cc (pc + 9) = .ok (.athrow, 1))
    (hRf : names.length + 3 < R.frames) (hRl : (rest.map fun v => v.category).sum + (13 * (names.length + 1) + 43) ≤ R.locals) (hRc : cells + 1 ≤ R.cells) (hRs : slots + 6 ≤ R.slots) (hc : cells + 1 ≤ mc) (hs : slots + 6 ≤ ms) (hbad : bad cls X) :
    W p l e R s m args below meth c H locs cells slots (vx_MQ below Qc (xC D h cI cL A bad) args s mc ms A) (F0 m pc ls rest) := by
  obtain ⟨hx, hb, hml, hr, hlk, hown, hts, hK, hA, hG, htb⟩ := cx
  obtain ⟨hP, hD, hS⟩ := hw
  obtain ⟨hU, hN, hT, hX4⟩ := hG
  obtain ⟨sa, hsa⟩ := hT _ htx
  refine vx_throwS hx hb hlt hown hcls hnames (hts _ hk) (hts _ hini) hsa (vx_hat (fun w hw => hts w (hat w hw)) hat2 (fun w hw => ?_)) hgood hU hN hS (hsize.trans hml.symm) d0 d3 d4 d6 d9 (fun x h => (htb x h).elim) hRf hRl hRc hRs hlk (fun t ha hz hk => ⟨(cls, X), hbad, ⟨rfl, hP.kept (fun k q hq => hk q.1 (hP k q hq).lt), va_K.moved ha hK, hD⟩, ?_⟩) hS.2.2 hc hs
  · exact kX_warm hw (State.WarmedH.refl s) (hX4 w hw)
  · exact ⟨Nat.le_trans hS.1 hz, fun q h1 h2 => (hk q (Nat.lt_of_lt_of_le h1 hS.1)).trans (hS.2.1 q h1 h2)⟩
/-- 'throw new NoSuchElementException("text")': its constructor links the next by another place of its pool -/
theorem e_throwN {text : String} {is : Nat} {Qc : Array Value → State → Outcome → State → Prop} {bad : String → St → Prop} (cx : Cx p s m args meth c cc nL ret D cI cL A) (hw : Kw D h cI cL A s X H locs) (hlt : l.stackTraces = false) (hsize : ls.size = nL) (htx : (is, text) ∈ txts)
    (d0 : decode cc pc = .ok (.new 181, 3)) (d3 : decode cc (pc + 3) = .ok (.dup, 1)) (d4 : decode cc (pc + 4) = .ok (.ldc is, 2)) (d6 : decode cc (pc + 6) = .ok (.invokespecial 185, 3)) (d9 : decode cc (pc + 9) = .ok (.athrow, 1))
    (hRf : 5 < R.frames) (hRl : (rest.map fun v => v.category).sum + 82 ≤ R.locals) (hRc : cells + 1 ≤ R.cells) (hRs : slots + 6 ≤ R.slots) (hc : cells + 1 ≤ mc) (hs : slots + 6 ≤ ms) (hbad : bad "java/util/NoSuchElementException" X) :
    W p l e R s m args below meth c H locs cells slots (vx_MQ below Qc (xC D h cI cL A bad) args s mc ms A) (F0 m pc ls rest) := by
  obtain ⟨hx, hb, hml, hr, hlk, hown, hts, hK, hA, hG, htb⟩ := cx
  obtain ⟨hP, hD, hS⟩ := hw
  obtain ⟨hU, hN, hT, hX4⟩ := hG
  obtain ⟨sa, hsa⟩ := hT _ htx
  refine ne_throw hx hb hlt hown (fun w hw => hts w hw) (fun w hw => kX_warm hw (State.WarmedH.refl s) (hX4 w hw)) hsa hU hN hS (hsize.trans hml.symm) d0 d3 d4 d6 d9 (fun x h => (htb x h).elim) hRf hRl hRc hRs hlk (fun t ha hz hk => ⟨("java/util/NoSuchElementException", X), hbad, ⟨rfl, hP.kept (fun k q hq => hk q.1 (hP k q hq).lt), va_K.moved ha hK, hD⟩, ?_⟩) hS.2.2 hc hs
  exact ⟨Nat.le_trans hS.1 hz, fun q h1 h2 => (hk q (Nat.lt_of_lt_of_le h1 hS.1)).trans (hS.2.1 q h1 h2)⟩
end CEN
section CCA
variable {p : Program} {l : Launch} {e : Env} {R : Room} {s : State} {m : MethodId} {args : Array Value} {below : List Frame} {meth : Method} {c : Code} {H : Heap} {locs : List Loc} {cells slots mc ms mc' ms' : Nat} {Q : State → Prop}
variable {cc bytes : ByteArray} {pc nL maxL n idx : Nat} {ls : Array Slot} {As rest st0 : List Value} {D : va_G} {A : Nat → Prop} {h : Nat → Nat} {cI cL : ClassId} {X : St} {ret rt : Option FieldType} {y : MethodName} {rm : Room} {Qc : Array Value → State → Outcome → State → Prop} {XC : String → State → State → Prop} {free : Addr → Prop}
theorem preS_of (cx : Cx p s m args meth c cc nL ret D cI cL A) (hw : Kw D h cI cL A s X H locs) : PreS s H (va_Pc As (pC D h cI cL X H.size)) As := by
  obtain ⟨hx, hb, hml, hr, hlk, hown, hts, hK, hA, hG, htb⟩ := cx
  have hF := wC_free hA hw
  obtain ⟨hP, hD, hS⟩ := hw
  exact ⟨pC_blind, fun U hU hW => ⟨rfl, by rw [hU], by rw [hU]; exact hP, va_K.moved hW.alike hK, hD.weaken (fun _ _ _ _ => trivial), hG.to hW (fun a h1 h2 => by rw [hU]; exact hS.2.1 a h1 h2) hF⟩⟩
theorem preV_of (cx : Cx p s m args meth c cc nL ret D cI cL A) (hw : Kw D h cI cL A s X H locs) : PreV s H "MoveRows" (h 0) (va_Pc (.ref (h 0) :: As) (pC D h cI cL X H.size)) As :=
  ⟨pC_blind, va_recv cx.2.2.2.2.2.2.2.1 hw.1 (ci := 0) (q0 := 0) rfl rfl, (preS_of (As := .ref (h 0) :: As) cx hw).2⟩
theorem r_V (cx : Cx p s m args meth c cc nL ret D cI cL A) (hw : Kw D h cI cL A s X H locs) (hsz : ls.size = nL) (hM : Met l y (.code y bytes maxL rt :: wG) rm (va_Pc (.ref (h 0) :: As) (pC D h cI cL X H.size)) Qc mc ms free)
    (hg : ∀ w ∈ ([.methodLink "MoveRows" idx y, .instanceMethod y, .selects "MoveRows" y y, .initialized "MoveRows", .code y bytes maxL rt] : List Cond), w ∈ wG) (hrc : rm.cells = mc) (hrs : rm.slots = ms)
    (hd : y.cls = "MoveRows" ∧ y.cls ≠ "java/lang/invoke/MethodHandle" ∧ y.cls ≠ "java/lang/invoke/VarHandle" ∧ (parseMethodDescriptor y.desc).map (fun d => d.parameters.length) = some n) (hR : rm.frames + 1 ≤ R.frames ∧ 8 + (maxL + 11) + rm.locals ≤ R.locals)
    (hn : As.length = n) (hst : st0 = As.reverse ++ .ref (h 0) :: rest) (hro : (rest.map fun v => v.category).sum ≤ 8) (d : decode cc pc = .ok (.invokevirtual idx, 3)) (hf : cells + mc ≤ R.cells ∧ slots + ms ≤ R.slots) :
    va_Run p l e R s m args below meth c H locs cells slots mc ms (F0 m pc ls st0) rest (Qc (Value.ref (h 0) :: As).toArray) free := by
  have cx' := cx
  obtain ⟨hx, hb, hml, hr, hlk, hown, hts, hK, hA, hG, htb⟩ := cx
  exact va_runV (Ts := wG) ⟨hx, hb, hml, hown, hts⟩ hM (cwV n hts (wG_sub (a := [.methodLink "MoveRows" idx y, .instanceMethod y, .selects "MoveRows" y y, .initialized "MoveRows", .code y bytes maxL rt]) hg) rfl hrc hrs hd hR) (preV_of cx' hw) rfl hn hsz hst (lv_room hro) d hf
theorem r_S (cx : Cx p s m args meth c cc nL ret D cI cL A) (hw : Kw D h cI cL A s X H locs) (hsz : ls.size = nL) (hM : Met l y (.code y bytes maxL rt :: wG) rm (va_Pc As (pC D h cI cL X H.size)) Qc mc ms free)
    (hg : ∀ w ∈ ([.methodLink "MoveRows" idx y, .static y, .initialized "MoveRows", .code y bytes maxL rt] : List Cond), w ∈ wG) (hrc : rm.cells = mc) (hrs : rm.slots = ms)
    (hd : y.cls = "MoveRows" ∧ y.cls ≠ "java/lang/invoke/MethodHandle" ∧ y.cls ≠ "java/lang/invoke/VarHandle" ∧ (parseMethodDescriptor y.desc).map (fun d => d.parameters.length) = some n) (hR : rm.frames + 1 ≤ R.frames ∧ 8 + (maxL + 11) + rm.locals ≤ R.locals)
    (hn : As.length = n) (hst : st0 = As.reverse ++ rest) (hro : (rest.map fun v => v.category).sum ≤ 8) (d : decode cc pc = .ok (.invokestatic idx, 3)) (hf : cells + mc ≤ R.cells ∧ slots + ms ≤ R.slots) :
    va_Run p l e R s m args below meth c H locs cells slots mc ms (F0 m pc ls st0) rest (Qc As.toArray) free := by
  have cx' := cx
  obtain ⟨hx, hb, hml, hr, hlk, hown, hts, hK, hA, hG, htb⟩ := cx
  exact va_runS (Ts := wG) ⟨hx, hb, hml, hown, hts⟩ hM (cwS n hts (wG_sub (a := [.methodLink "MoveRows" idx y, .static y, .initialized "MoveRows", .code y bytes maxL rt]) hg) rfl hrc hrs hd hR) (preS_of cx' hw) rfl hn hsz hst (lv_room hro) d hf
theorem preSX_of (cx : Cx p s m args meth c cc nL ret D cI cL A) (hw : Kw D h cI cL A s X H locs) : PreS s H (va_Pc As (pX D h cI cL X H.size (slotSum H))) As :=
  ⟨pX_blind, fun U hU hW => by
    obtain ⟨q1, q2⟩ := (preS_of (As := As) cx hw).2 U hU hW
    exact ⟨q1, q2, by rw [hU]; exact Nat.le_refl _⟩⟩
theorem preVX_of (cx : Cx p s m args meth c cc nL ret D cI cL A) (hw : Kw D h cI cL A s X H locs) : PreV s H "MoveRows" (h 0) (va_Pc (.ref (h 0) :: As) (pX D h cI cL X H.size (slotSum H))) As :=
  ⟨pX_blind, va_recv cx.2.2.2.2.2.2.2.1 hw.1 (ci := 0) (q0 := 0) rfl rfl, (preSX_of (As := .ref (h 0) :: As) cx hw).2⟩
theorem rx_V (cx : Cx p s m args meth c cc nL ret D cI cL A) (hw : Kw D h cI cL A s X H locs) (hsz : ls.size = nL) (hM : vx_Met l y (.code y bytes maxL rt :: wG) rm (va_Pc (.ref (h 0) :: As) (pX D h cI cL X H.size (slotSum H))) Qc XC mc ms free)
    (hg : ∀ w ∈ ([.methodLink "MoveRows" idx y, .instanceMethod y, .selects "MoveRows" y y, .initialized "MoveRows", .code y bytes maxL rt] : List Cond), w ∈ wG) (hrc : rm.cells = mc) (hrs : rm.slots = ms)
    (hd : y.cls = "MoveRows" ∧ y.cls ≠ "java/lang/invoke/MethodHandle" ∧ y.cls ≠ "java/lang/invoke/VarHandle" ∧ (parseMethodDescriptor y.desc).map (fun d => d.parameters.length) = some n) (hR : rm.frames + 1 ≤ R.frames ∧ 8 + (maxL + 11) + rm.locals ≤ R.locals)
    (hn : As.length = n) (hst : st0 = As.reverse ++ .ref (h 0) :: rest) (hro : (rest.map fun v => v.category).sum ≤ 8) (d : decode cc pc = .ok (.invokevirtual idx, 3)) (hf : cells + mc ≤ R.cells ∧ slots + ms ≤ R.slots) :
    vx_Run p l e R s m args below meth c H locs cells slots mc ms (F0 m pc ls st0) rest (Qc (Value.ref (h 0) :: As).toArray) XC free := by
  have cx' := cx
  obtain ⟨hx, hb, hml, hr, hlk, hown, hts, hK, hA, hG, htb⟩ := cx
  exact vx_runV (Ts := wG) ⟨hx, hb, hml, hown, hts⟩ hM (cwV n hts (wG_sub (a := [.methodLink "MoveRows" idx y, .instanceMethod y, .selects "MoveRows" y y, .initialized "MoveRows", .code y bytes maxL rt]) hg) rfl hrc hrs hd hR) (preVX_of cx' hw) rfl hn hsz hst (lv_room hro) d hf
theorem rx_S (cx : Cx p s m args meth c cc nL ret D cI cL A) (hw : Kw D h cI cL A s X H locs) (hsz : ls.size = nL) (hM : vx_Met l y (.code y bytes maxL rt :: wG) rm (va_Pc As (pX D h cI cL X H.size (slotSum H))) Qc XC mc ms free)
    (hg : ∀ w ∈ ([.methodLink "MoveRows" idx y, .static y, .initialized "MoveRows", .code y bytes maxL rt] : List Cond), w ∈ wG) (hrc : rm.cells = mc) (hrs : rm.slots = ms)
    (hd : y.cls = "MoveRows" ∧ y.cls ≠ "java/lang/invoke/MethodHandle" ∧ y.cls ≠ "java/lang/invoke/VarHandle" ∧ (parseMethodDescriptor y.desc).map (fun d => d.parameters.length) = some n) (hR : rm.frames + 1 ≤ R.frames ∧ 8 + (maxL + 11) + rm.locals ≤ R.locals)
    (hn : As.length = n) (hst : st0 = As.reverse ++ rest) (hro : (rest.map fun v => v.category).sum ≤ 8) (d : decode cc pc = .ok (.invokestatic idx, 3)) (hf : cells + mc ≤ R.cells ∧ slots + ms ≤ R.slots) :
    vx_Run p l e R s m args below meth c H locs cells slots mc ms (F0 m pc ls st0) rest (Qc As.toArray) XC free := by
  have cx' := cx
  obtain ⟨hx, hb, hml, hr, hlk, hown, hts, hK, hA, hG, htb⟩ := cx
  exact vx_runS (Ts := wG) ⟨hx, hb, hml, hown, hts⟩ hM (cwS n hts (wG_sub (a := [.methodLink "MoveRows" idx y, .static y, .initialized "MoveRows", .code y bytes maxL rt]) hg) rfl hrc hrs hd hR) (preSX_of cx' hw) rfl hn hsz hst (lv_room hro) d hf
variable {a : Array Value}
theorem k_l {post : Int64 → St → Prop} (cx : Cx p s m args meth c cc nL ret D cI cL A) (hw : Kw D h cI cL A s X H locs) (hr : va_Run p l e R s m args below meth c H locs cells slots mc ms (F0 m pc ls st0) rest (va_Ql post (bC D h cI cL (fC h cI cL X H.size)) (fC h cI cL X H.size) a) (fC h cI cL X H.size))
    (kk : ∀ (r : Int64) (X' : St) (H1 : Heap) (locs1 : List Loc), post r X' → Kw D h cI cL A s X' H1 locs1 → W p l e R s m args below meth c H1 locs1 (cells + mc) (slots + ms) Q (F0 m (pc + 3) ls (.long r :: rest))) : W p l e R s m args below meth c H locs cells slots Q (F0 m pc ls st0) := by
  have hF := wC_free cx.2.2.2.2.2.2.2.2.1 hw
  obtain ⟨hP, hD, hS⟩ := hw
  refine va_calll hr hS (fun q _ h => hF q h) hF (fun r u t H1 locs1 ht hvm hp hB hz1 hk1 hS1 => ?_)
  obtain ⟨hP1, hK1, hD1⟩ := hB
  rw [ht] at hP1
  exact kk r u H1 locs1 hp ⟨hP1, hD1.weaken (fun _ _ _ h => hF _ h), hS1⟩
theorem k_i {post : Int32 → St → Prop} (cx : Cx p s m args meth c cc nL ret D cI cL A) (hw : Kw D h cI cL A s X H locs) (hr : va_Run p l e R s m args below meth c H locs cells slots mc ms (F0 m pc ls st0) rest (va_Qi post (bC D h cI cL (fC h cI cL X H.size)) (fC h cI cL X H.size) a) (fC h cI cL X H.size))
    (kk : ∀ (r : Int32) (X' : St) (H1 : Heap) (locs1 : List Loc), post r X' → Kw D h cI cL A s X' H1 locs1 → W p l e R s m args below meth c H1 locs1 (cells + mc) (slots + ms) Q (F0 m (pc + 3) ls (.int r :: rest))) : W p l e R s m args below meth c H locs cells slots Q (F0 m pc ls st0) := by
  have hF := wC_free cx.2.2.2.2.2.2.2.2.1 hw
  obtain ⟨hP, hD, hS⟩ := hw
  refine va_calli hr hS (fun q _ h => hF q h) hF (fun r u t H1 locs1 ht hvm hp hB hz1 hk1 hS1 => ?_)
  obtain ⟨hP1, hK1, hD1⟩ := hB
  rw [ht] at hP1
  exact kk r u H1 locs1 hp ⟨hP1, hD1.weaken (fun _ _ _ h => hF _ h), hS1⟩
theorem k_v {post : St → Prop} (cx : Cx p s m args meth c cc nL ret D cI cL A) (hw : Kw D h cI cL A s X H locs) (hr : va_Run p l e R s m args below meth c H locs cells slots mc ms (F0 m pc ls st0) rest (va_Qv post (bC D h cI cL (fC h cI cL X H.size)) (fC h cI cL X H.size) a) (fC h cI cL X H.size))
    (kk : ∀ (X' : St) (H1 : Heap) (locs1 : List Loc), post X' → Kw D h cI cL A s X' H1 locs1 → W p l e R s m args below meth c H1 locs1 (cells + mc) (slots + ms) Q (F0 m (pc + 3) ls rest)) : W p l e R s m args below meth c H locs cells slots Q (F0 m pc ls st0) := by
  have hF := wC_free cx.2.2.2.2.2.2.2.2.1 hw
  obtain ⟨hP, hD, hS⟩ := hw
  refine va_callv hr hS (fun q _ h => hF q h) hF (fun u t H1 locs1 ht hvm hp hB hz1 hk1 hS1 => ?_)
  obtain ⟨hP1, hK1, hD1⟩ := hB
  rw [ht] at hP1
  exact kk u H1 locs1 hp ⟨hP1, hD1.weaken (fun _ _ _ h => hF _ h), hS1⟩
theorem kx_l {post : Int64 → St → Prop} {bad bad' : String → St → Prop} {Qc' : Array Value → State → Outcome → State → Prop} (cx : Cx p s m args meth c cc nL ret D cI cL A) (hw : Kw D h cI cL A s X H locs) (hr : vx_Run p l e R s m args below meth c H locs cells slots mc ms (F0 m pc ls st0) rest (va_Ql post (bX D h cI cL (fC h cI cL X H.size) H.size (slotSum H)) (fC h cI cL X H.size) a) (xC D h cI cL (fC h cI cL X H.size) bad) (fC h cI cL X H.size))
    (hc : cells + mc ≤ mc') (hs : slots + ms ≤ ms') (hbad : ∀ (E : String) (X' : St), bad E X' → bad' E X')
    (kk : ∀ (r : Int64) (X' : St) (H1 : Heap) (locs1 : List Loc), post r X' → Kw D h cI cL A s X' H1 locs1 → W p l e R s m args below meth c H1 locs1 cells slots (vx_MQ below Qc' (xC D h cI cL A bad') args s mc' ms' A) (F0 m (pc + 3) ls (.long r :: rest))) : W p l e R s m args below meth c H locs cells slots (vx_MQ below Qc' (xC D h cI cL A bad') args s mc' ms' A) (F0 m pc ls st0) := by
  obtain ⟨hx, hb, hml, hr0, hlk, hown, hts, hK, hA, hG, htb⟩ := cx
  have hF := wC_free hA hw
  obtain ⟨hP, hD, hS⟩ := hw
  refine W_know (fun k1 k2 => ?_)
  refine vx_calll hr hS (fun q _ h => hF q h) hF (fun q _ h => hF q h) (fun E ce q9 u t H1 locs1 ht hvm hp hB hz1 hk1 hS1 hce hcv hcl => ?_) (fun r u t H1 locs1 ht hvm hp hB hz1 hk1 hS1 => ?_)
  · obtain ⟨hE, hP1, hK1, hD1⟩ := hB
    rw [ht] at hP1
    exact vx_out (fun x h => (htb x h).elim) hlk hce hcv hcl (fun t2 ht2 ha2 => ⟨(E, u.2), hbad E u.2 (by rw [hE]; exact hp), ⟨rfl, by rw [ht2]; exact hP1, va_K.moved ha2 hK, hD1.weaken (fun _ _ _ h => hF _ h)⟩, hS1.F ht2⟩) hS1.2.2 hc hs
  · obtain ⟨⟨hP1, hK1, hD1⟩, hz2, hs2⟩ := hB
    rw [ht] at hP1 hz2 hs2
    exact W_tight (c' := cells) (n' := slots) (by omega) (by omega) (kk r u H1 locs1 hp ⟨hP1, hD1.weaken (fun _ _ _ h => hF _ h), hS1⟩)
theorem kx_i {post : Int32 → St → Prop} {bad bad' : String → St → Prop} {Qc' : Array Value → State → Outcome → State → Prop} (cx : Cx p s m args meth c cc nL ret D cI cL A) (hw : Kw D h cI cL A s X H locs) (hr : vx_Run p l e R s m args below meth c H locs cells slots mc ms (F0 m pc ls st0) rest (va_Qi post (bX D h cI cL (fC h cI cL X H.size) H.size (slotSum H)) (fC h cI cL X H.size) a) (xC D h cI cL (fC h cI cL X H.size) bad) (fC h cI cL X H.size))
    (hc : cells + mc ≤ mc') (hs : slots + ms ≤ ms') (hbad : ∀ (E : String) (X' : St), bad E X' → bad' E X')
    (kk : ∀ (r : Int32) (X' : St) (H1 : Heap) (locs1 : List Loc), post r X' → Kw D h cI cL A s X' H1 locs1 → W p l e R s m args below meth c H1 locs1 cells slots (vx_MQ below Qc' (xC D h cI cL A bad') args s mc' ms' A) (F0 m (pc + 3) ls (.int r :: rest))) : W p l e R s m args below meth c H locs cells slots (vx_MQ below Qc' (xC D h cI cL A bad') args s mc' ms' A) (F0 m pc ls st0) := by
  obtain ⟨hx, hb, hml, hr0, hlk, hown, hts, hK, hA, hG, htb⟩ := cx
  have hF := wC_free hA hw
  obtain ⟨hP, hD, hS⟩ := hw
  refine W_know (fun k1 k2 => ?_)
  refine vx_calli hr hS (fun q _ h => hF q h) hF (fun q _ h => hF q h) (fun E ce q9 u t H1 locs1 ht hvm hp hB hz1 hk1 hS1 hce hcv hcl => ?_) (fun r u t H1 locs1 ht hvm hp hB hz1 hk1 hS1 => ?_)
  · obtain ⟨hE, hP1, hK1, hD1⟩ := hB
    rw [ht] at hP1
    exact vx_out (fun x h => (htb x h).elim) hlk hce hcv hcl (fun t2 ht2 ha2 => ⟨(E, u.2), hbad E u.2 (by rw [hE]; exact hp), ⟨rfl, by rw [ht2]; exact hP1, va_K.moved ha2 hK, hD1.weaken (fun _ _ _ h => hF _ h)⟩, hS1.F ht2⟩) hS1.2.2 hc hs
  · obtain ⟨⟨hP1, hK1, hD1⟩, hz2, hs2⟩ := hB
    rw [ht] at hP1 hz2 hs2
    exact W_tight (c' := cells) (n' := slots) (by omega) (by omega) (kk r u H1 locs1 hp ⟨hP1, hD1.weaken (fun _ _ _ h => hF _ h), hS1⟩)
theorem kx_v {post : St → Prop} {bad bad' : String → St → Prop} {Qc' : Array Value → State → Outcome → State → Prop} (cx : Cx p s m args meth c cc nL ret D cI cL A) (hw : Kw D h cI cL A s X H locs) (hr : vx_Run p l e R s m args below meth c H locs cells slots mc ms (F0 m pc ls st0) rest (va_Qv post (bX D h cI cL (fC h cI cL X H.size) H.size (slotSum H)) (fC h cI cL X H.size) a) (xC D h cI cL (fC h cI cL X H.size) bad) (fC h cI cL X H.size))
    (hc : cells + mc ≤ mc') (hs : slots + ms ≤ ms') (hbad : ∀ (E : String) (X' : St), bad E X' → bad' E X')
    (kk : ∀ (X' : St) (H1 : Heap) (locs1 : List Loc), post X' → Kw D h cI cL A s X' H1 locs1 → W p l e R s m args below meth c H1 locs1 cells slots (vx_MQ below Qc' (xC D h cI cL A bad') args s mc' ms' A) (F0 m (pc + 3) ls rest)) : W p l e R s m args below meth c H locs cells slots (vx_MQ below Qc' (xC D h cI cL A bad') args s mc' ms' A) (F0 m pc ls st0) := by
  obtain ⟨hx, hb, hml, hr0, hlk, hown, hts, hK, hA, hG, htb⟩ := cx
  have hF := wC_free hA hw
  obtain ⟨hP, hD, hS⟩ := hw
  refine W_know (fun k1 k2 => ?_)
  refine vx_callv hr hS (fun q _ h => hF q h) hF (fun q _ h => hF q h) (fun E ce q9 u t H1 locs1 ht hvm hp hB hz1 hk1 hS1 hce hcv hcl => ?_) (fun u t H1 locs1 ht hvm hp hB hz1 hk1 hS1 => ?_)
  · obtain ⟨hE, hP1, hK1, hD1⟩ := hB
    rw [ht] at hP1
    exact vx_out (fun x h => (htb x h).elim) hlk hce hcv hcl (fun t2 ht2 ha2 => ⟨(E, u.2), hbad E u.2 (by rw [hE]; exact hp), ⟨rfl, by rw [ht2]; exact hP1, va_K.moved ha2 hK, hD1.weaken (fun _ _ _ h => hF _ h)⟩, hS1.F ht2⟩) hS1.2.2 hc hs
  · obtain ⟨⟨hP1, hK1, hD1⟩, hz2, hs2⟩ := hB
    rw [ht] at hP1 hz2 hs2
    exact W_tight (c' := cells) (n' := slots) (by omega) (by omega) (kk u H1 locs1 hp ⟨hP1, hD1.weaken (fun _ _ _ h => hF _ h), hS1⟩)

end CCA

section CRW
variable {p : Program} {l : Launch} {e : Env} {R : Room} {s : State} {m : MethodId} {args : Array Value} {below : List Frame} {meth : Method} {c : Code} {H : Heap} {locs : List Loc} {cells slots : Nat} {Q : State → Prop}
variable {cc : ByteArray} {pc nL : Nat} {ls : Array Slot} {rest : List Value} {D : va_G} {A : Nat → Prop} {h : Nat → Nat} {cI cL : ClassId} {X : St} {ret : Option FieldType}
theorem fk_states : Cond.fieldLink "MoveRows" 9 "MoveRows" "states" "[I" ∈ wG := in_wG (by decide +kernel) rfl
theorem g_states (cx : Cx p s m args meth c cc nL ret D cI cL A) (hw : Kw D h cI cL A s X H locs) (d : decode cc pc = .ok (.getfield 9, 3)) (k : W p l e R s m args below meth c H locs cells slots Q (F0 m (pc + 3) ls (.ref (h 1) :: rest))) : W p l e R s m args below meth c H locs cells slots Q (F0 m pc ls (.ref (h 0) :: rest)) := by
  obtain ⟨hx, hb, hml, hr, hlk, hown, hts, hK, hA, hG, htb⟩ := cx
  exact va_get (D := D) (ci := 0) (v := .ref (h 1)) (C := "MoveRows") (T := TC) (N := 15) hx hb hts fk_in hown hK hw.1 0 rfl rfl 0 (by decide) (hts _ fk_states) (fun _ h9 => h9) rfl d k
theorem fk_sizes : Cond.fieldLink "MoveRows" 13 "MoveRows" "sizes" "[I" ∈ wG := in_wG (by decide +kernel) rfl
theorem g_sizes (cx : Cx p s m args meth c cc nL ret D cI cL A) (hw : Kw D h cI cL A s X H locs) (d : decode cc pc = .ok (.getfield 13, 3)) (k : W p l e R s m args below meth c H locs cells slots Q (F0 m (pc + 3) ls (.ref (h 2) :: rest))) : W p l e R s m args below meth c H locs cells slots Q (F0 m pc ls (.ref (h 0) :: rest)) := by
  obtain ⟨hx, hb, hml, hr, hlk, hown, hts, hK, hA, hG, htb⟩ := cx
  exact va_get (D := D) (ci := 0) (v := .ref (h 2)) (C := "MoveRows") (T := TC) (N := 15) hx hb hts fk_in hown hK hw.1 0 rfl rfl 1 (by decide) (hts _ fk_sizes) (fun _ h9 => h9) rfl d k
theorem fk_days : Cond.fieldLink "MoveRows" 16 "MoveRows" "days" "[I" ∈ wG := in_wG (by decide +kernel) rfl
theorem g_days (cx : Cx p s m args meth c cc nL ret D cI cL A) (hw : Kw D h cI cL A s X H locs) (d : decode cc pc = .ok (.getfield 16, 3)) (k : W p l e R s m args below meth c H locs cells slots Q (F0 m (pc + 3) ls (.ref (h 3) :: rest))) : W p l e R s m args below meth c H locs cells slots Q (F0 m pc ls (.ref (h 0) :: rest)) := by
  obtain ⟨hx, hb, hml, hr, hlk, hown, hts, hK, hA, hG, htb⟩ := cx
  exact va_get (D := D) (ci := 0) (v := .ref (h 3)) (C := "MoveRows") (T := TC) (N := 15) hx hb hts fk_in hown hK hw.1 0 rfl rfl 2 (by decide) (hts _ fk_days) (fun _ h9 => h9) rfl d k
theorem fk_reversedBy : Cond.fieldLink "MoveRows" 19 "MoveRows" "reversedBy" "[I" ∈ wG := in_wG (by decide +kernel) rfl
theorem g_reversedBy (cx : Cx p s m args meth c cc nL ret D cI cL A) (hw : Kw D h cI cL A s X H locs) (d : decode cc pc = .ok (.getfield 19, 3)) (k : W p l e R s m args below meth c H locs cells slots Q (F0 m (pc + 3) ls (.ref (h 4) :: rest))) : W p l e R s m args below meth c H locs cells slots Q (F0 m pc ls (.ref (h 0) :: rest)) := by
  obtain ⟨hx, hb, hml, hr, hlk, hown, hts, hK, hA, hG, htb⟩ := cx
  exact va_get (D := D) (ci := 0) (v := .ref (h 4)) (C := "MoveRows") (T := TC) (N := 15) hx hb hts fk_in hown hK hw.1 0 rfl rfl 3 (by decide) (hts _ fk_reversedBy) (fun _ h9 => h9) rfl d k
theorem fk_reversalOf : Cond.fieldLink "MoveRows" 22 "MoveRows" "reversalOf" "[I" ∈ wG := in_wG (by decide +kernel) rfl
theorem g_reversalOf (cx : Cx p s m args meth c cc nL ret D cI cL A) (hw : Kw D h cI cL A s X H locs) (d : decode cc pc = .ok (.getfield 22, 3)) (k : W p l e R s m args below meth c H locs cells slots Q (F0 m (pc + 3) ls (.ref (h 5) :: rest))) : W p l e R s m args below meth c H locs cells slots Q (F0 m pc ls (.ref (h 0) :: rest)) := by
  obtain ⟨hx, hb, hml, hr, hlk, hown, hts, hK, hA, hG, htb⟩ := cx
  exact va_get (D := D) (ci := 0) (v := .ref (h 5)) (C := "MoveRows") (T := TC) (N := 15) hx hb hts fk_in hown hK hw.1 0 rfl rfl 4 (by decide) (hts _ fk_reversalOf) (fun _ h9 => h9) rfl d k
theorem fk_batchCount : Cond.fieldLink "MoveRows" 25 "MoveRows" "batchCount" "I" ∈ wG := in_wG (by decide +kernel) rfl
theorem g_batchCount {v : Int} (cx : Cx p s m args meth c cc nL ret D cI cL A) (hw : Kw D h cI cL A s X H locs) (hv : X 0 0 = v) (d : decode cc pc = .ok (.getfield 25, 3)) (k : W p l e R s m args below meth c H locs cells slots Q (F0 m (pc + 3) ls (.int (zI v) :: rest))) : W p l e R s m args below meth c H locs cells slots Q (F0 m pc ls (.ref (h 0) :: rest)) := by
  subst hv
  obtain ⟨hx, hb, hml, hr, hlk, hown, hts, hK, hA, hG, htb⟩ := cx
  exact va_get (D := D) (ci := 0) (v := .int (zI (X 0 0))) (C := "MoveRows") (T := TC) (N := 15) hx hb hts fk_in hown hK hw.1 0 rfl rfl 5 (by decide) (hts _ fk_batchCount) (fun _ h9 => h9) rfl d k
theorem p_batchCount {v : Int} (cx : Cx p s m args meth c cc nL ret D cI cL A) (hw : Kw D h cI cL A s X H locs) (d : decode cc pc = .ok (.putfield 25, 3)) (k : ∀ (H1 : Heap) (locs1 : List Loc), Kw D h cI cL A s (up2 X 0 0 v) H1 locs1 → W p l e R s m args below meth c H1 locs1 cells slots Q (F0 m (pc + 3) ls rest)) : W p l e R s m args below meth c H locs cells slots Q (F0 m pc ls (.int (zI v) :: .ref (h 0) :: rest)) := by
  obtain ⟨hx, hb, hml, hr, hlk, hown, hts, hK, hA, hG, htb⟩ := cx
  obtain ⟨hP, hD, hS⟩ := hw
  exact va_put (D := D) (ci := 0) (v := .int (zI v)) (ty := .int) (C := "MoveRows") (T := TC) (N := 15) hx hb hts fk_in tyTC okTC nmTC hown hK hP hD hS 0 rfl rfl 5 (by decide) (hts _ fk_batchCount) (fun _ h9 => h9) rfl (by decide +kernel) rfl rfl (Nat.le_of_ble_eq_true rfl) d (fun H1 locs1 hP1 hD1 hS1 => k H1 locs1 ⟨hP1, hD1, hS1⟩)
theorem fk_entryCells : Cond.fieldLink "MoveRows" 29 "MoveRows" "entryCells" "[I" ∈ wG := in_wG (by decide +kernel) rfl
theorem g_entryCells (cx : Cx p s m args meth c cc nL ret D cI cL A) (hw : Kw D h cI cL A s X H locs) (d : decode cc pc = .ok (.getfield 29, 3)) (k : W p l e R s m args below meth c H locs cells slots Q (F0 m (pc + 3) ls (.ref (h 6) :: rest))) : W p l e R s m args below meth c H locs cells slots Q (F0 m pc ls (.ref (h 0) :: rest)) := by
  obtain ⟨hx, hb, hml, hr, hlk, hown, hts, hK, hA, hG, htb⟩ := cx
  exact va_get (D := D) (ci := 0) (v := .ref (h 6)) (C := "MoveRows") (T := TC) (N := 15) hx hb hts fk_in hown hK hw.1 0 rfl rfl 6 (by decide) (hts _ fk_entryCells) (fun _ h9 => h9) rfl d k
theorem fk_entryAmounts : Cond.fieldLink "MoveRows" 32 "MoveRows" "entryAmounts" "[I" ∈ wG := in_wG (by decide +kernel) rfl
theorem g_entryAmounts (cx : Cx p s m args meth c cc nL ret D cI cL A) (hw : Kw D h cI cL A s X H locs) (d : decode cc pc = .ok (.getfield 32, 3)) (k : W p l e R s m args below meth c H locs cells slots Q (F0 m (pc + 3) ls (.ref (h 7) :: rest))) : W p l e R s m args below meth c H locs cells slots Q (F0 m pc ls (.ref (h 0) :: rest)) := by
  obtain ⟨hx, hb, hml, hr, hlk, hown, hts, hK, hA, hG, htb⟩ := cx
  exact va_get (D := D) (ci := 0) (v := .ref (h 7)) (C := "MoveRows") (T := TC) (N := 15) hx hb hts fk_in hown hK hw.1 0 rfl rfl 7 (by decide) (hts _ fk_entryAmounts) (fun _ h9 => h9) rfl d k
theorem fk_postedOrder : Cond.fieldLink "MoveRows" 35 "MoveRows" "postedOrder" "[I" ∈ wG := in_wG (by decide +kernel) rfl
theorem g_postedOrder (cx : Cx p s m args meth c cc nL ret D cI cL A) (hw : Kw D h cI cL A s X H locs) (d : decode cc pc = .ok (.getfield 35, 3)) (k : W p l e R s m args below meth c H locs cells slots Q (F0 m (pc + 3) ls (.ref (h 8) :: rest))) : W p l e R s m args below meth c H locs cells slots Q (F0 m pc ls (.ref (h 0) :: rest)) := by
  obtain ⟨hx, hb, hml, hr, hlk, hown, hts, hK, hA, hG, htb⟩ := cx
  exact va_get (D := D) (ci := 0) (v := .ref (h 8)) (C := "MoveRows") (T := TC) (N := 15) hx hb hts fk_in hown hK hw.1 0 rfl rfl 8 (by decide) (hts _ fk_postedOrder) (fun _ h9 => h9) rfl d k
theorem fk_postedCount : Cond.fieldLink "MoveRows" 38 "MoveRows" "postedCount" "I" ∈ wG := in_wG (by decide +kernel) rfl
theorem g_postedCount {v : Int} (cx : Cx p s m args meth c cc nL ret D cI cL A) (hw : Kw D h cI cL A s X H locs) (hv : X 0 1 = v) (d : decode cc pc = .ok (.getfield 38, 3)) (k : W p l e R s m args below meth c H locs cells slots Q (F0 m (pc + 3) ls (.int (zI v) :: rest))) : W p l e R s m args below meth c H locs cells slots Q (F0 m pc ls (.ref (h 0) :: rest)) := by
  subst hv
  obtain ⟨hx, hb, hml, hr, hlk, hown, hts, hK, hA, hG, htb⟩ := cx
  exact va_get (D := D) (ci := 0) (v := .int (zI (X 0 1))) (C := "MoveRows") (T := TC) (N := 15) hx hb hts fk_in hown hK hw.1 0 rfl rfl 9 (by decide) (hts _ fk_postedCount) (fun _ h9 => h9) rfl d k
theorem p_postedCount {v : Int} (cx : Cx p s m args meth c cc nL ret D cI cL A) (hw : Kw D h cI cL A s X H locs) (d : decode cc pc = .ok (.putfield 38, 3)) (k : ∀ (H1 : Heap) (locs1 : List Loc), Kw D h cI cL A s (up2 X 0 1 v) H1 locs1 → W p l e R s m args below meth c H1 locs1 cells slots Q (F0 m (pc + 3) ls rest)) : W p l e R s m args below meth c H locs cells slots Q (F0 m pc ls (.int (zI v) :: .ref (h 0) :: rest)) := by
  obtain ⟨hx, hb, hml, hr, hlk, hown, hts, hK, hA, hG, htb⟩ := cx
  obtain ⟨hP, hD, hS⟩ := hw
  exact va_put (D := D) (ci := 0) (v := .int (zI v)) (ty := .int) (C := "MoveRows") (T := TC) (N := 15) hx hb hts fk_in tyTC okTC nmTC hown hK hP hD hS 0 rfl rfl 9 (by decide) (hts _ fk_postedCount) (fun _ h9 => h9) rfl (by decide +kernel) rfl rfl (Nat.le_of_ble_eq_true rfl) d (fun H1 locs1 hP1 hD1 hS1 => k H1 locs1 ⟨hP1, hD1, hS1⟩)
theorem fk_stocks : Cond.fieldLink "MoveRows" 41 "MoveRows" "stocks" "[J" ∈ wG := in_wG (by decide +kernel) rfl
theorem g_stocks (cx : Cx p s m args meth c cc nL ret D cI cL A) (hw : Kw D h cI cL A s X H locs) (d : decode cc pc = .ok (.getfield 41, 3)) (k : W p l e R s m args below meth c H locs cells slots Q (F0 m (pc + 3) ls (.ref (h 9) :: rest))) : W p l e R s m args below meth c H locs cells slots Q (F0 m pc ls (.ref (h 0) :: rest)) := by
  obtain ⟨hx, hb, hml, hr, hlk, hown, hts, hK, hA, hG, htb⟩ := cx
  exact va_get (D := D) (ci := 0) (v := .ref (h 9)) (C := "MoveRows") (T := TC) (N := 15) hx hb hts fk_in hown hK hw.1 0 rfl rfl 10 (by decide) (hts _ fk_stocks) (fun _ h9 => h9) rfl d k
theorem fk_holds : Cond.fieldLink "MoveRows" 45 "MoveRows" "holds" "[J" ∈ wG := in_wG (by decide +kernel) rfl
theorem g_holds (cx : Cx p s m args meth c cc nL ret D cI cL A) (hw : Kw D h cI cL A s X H locs) (d : decode cc pc = .ok (.getfield 45, 3)) (k : W p l e R s m args below meth c H locs cells slots Q (F0 m (pc + 3) ls (.ref (h 10) :: rest))) : W p l e R s m args below meth c H locs cells slots Q (F0 m pc ls (.ref (h 0) :: rest)) := by
  obtain ⟨hx, hb, hml, hr, hlk, hown, hts, hK, hA, hG, htb⟩ := cx
  exact va_get (D := D) (ci := 0) (v := .ref (h 10)) (C := "MoveRows") (T := TC) (N := 15) hx hb hts fk_in hown hK hw.1 0 rfl rfl 11 (by decide) (hts _ fk_holds) (fun _ h9 => h9) rfl d k
theorem fk_net : Cond.fieldLink "MoveRows" 48 "MoveRows" "net" "[J" ∈ wG := in_wG (by decide +kernel) rfl
theorem g_net (cx : Cx p s m args meth c cc nL ret D cI cL A) (hw : Kw D h cI cL A s X H locs) (d : decode cc pc = .ok (.getfield 48, 3)) (k : W p l e R s m args below meth c H locs cells slots Q (F0 m (pc + 3) ls (.ref (h 11) :: rest))) : W p l e R s m args below meth c H locs cells slots Q (F0 m pc ls (.ref (h 0) :: rest)) := by
  obtain ⟨hx, hb, hml, hr, hlk, hown, hts, hK, hA, hG, htb⟩ := cx
  exact va_get (D := D) (ci := 0) (v := .ref (h 11)) (C := "MoveRows") (T := TC) (N := 15) hx hb hts fk_in hown hK hw.1 0 rfl rfl 12 (by decide) (hts _ fk_net) (fun _ h9 => h9) rfl d k
theorem fk_containerPlaces : Cond.fieldLink "MoveRows" 51 "MoveRows" "containerPlaces" "[I" ∈ wG := in_wG (by decide +kernel) rfl
theorem g_containerPlaces (cx : Cx p s m args meth c cc nL ret D cI cL A) (hw : Kw D h cI cL A s X H locs) (d : decode cc pc = .ok (.getfield 51, 3)) (k : W p l e R s m args below meth c H locs cells slots Q (F0 m (pc + 3) ls (.ref (h 12) :: rest))) : W p l e R s m args below meth c H locs cells slots Q (F0 m pc ls (.ref (h 0) :: rest)) := by
  obtain ⟨hx, hb, hml, hr, hlk, hown, hts, hK, hA, hG, htb⟩ := cx
  exact va_get (D := D) (ci := 0) (v := .ref (h 12)) (C := "MoveRows") (T := TC) (N := 15) hx hb hts fk_in hown hK hw.1 0 rfl rfl 13 (by decide) (hts _ fk_containerPlaces) (fun _ h9 => h9) rfl d k
theorem fk_closedDays : Cond.fieldLink "MoveRows" 54 "MoveRows" "closedDays" "I" ∈ wG := in_wG (by decide +kernel) rfl
theorem g_closedDays {v : Int} (cx : Cx p s m args meth c cc nL ret D cI cL A) (hw : Kw D h cI cL A s X H locs) (hv : X 0 2 = v) (d : decode cc pc = .ok (.getfield 54, 3)) (k : W p l e R s m args below meth c H locs cells slots Q (F0 m (pc + 3) ls (.int (zI v) :: rest))) : W p l e R s m args below meth c H locs cells slots Q (F0 m pc ls (.ref (h 0) :: rest)) := by
  subst hv
  obtain ⟨hx, hb, hml, hr, hlk, hown, hts, hK, hA, hG, htb⟩ := cx
  exact va_get (D := D) (ci := 0) (v := .int (zI (X 0 2))) (C := "MoveRows") (T := TC) (N := 15) hx hb hts fk_in hown hK hw.1 0 rfl rfl 14 (by decide) (hts _ fk_closedDays) (fun _ h9 => h9) rfl d k
theorem p_closedDays {v : Int} (cx : Cx p s m args meth c cc nL ret D cI cL A) (hw : Kw D h cI cL A s X H locs) (d : decode cc pc = .ok (.putfield 54, 3)) (k : ∀ (H1 : Heap) (locs1 : List Loc), Kw D h cI cL A s (up2 X 0 2 v) H1 locs1 → W p l e R s m args below meth c H1 locs1 cells slots Q (F0 m (pc + 3) ls rest)) : W p l e R s m args below meth c H locs cells slots Q (F0 m pc ls (.int (zI v) :: .ref (h 0) :: rest)) := by
  obtain ⟨hx, hb, hml, hr, hlk, hown, hts, hK, hA, hG, htb⟩ := cx
  obtain ⟨hP, hD, hS⟩ := hw
  exact va_put (D := D) (ci := 0) (v := .int (zI v)) (ty := .int) (C := "MoveRows") (T := TC) (N := 15) hx hb hts fk_in tyTC okTC nmTC hown hK hP hD hS 0 rfl rfl 14 (by decide) (hts _ fk_closedDays) (fun _ h9 => h9) rfl (by decide +kernel) rfl rfl (Nat.le_of_ble_eq_true rfl) d (fun H1 locs1 hP1 hD1 hS1 => k H1 locs1 ⟨hP1, hD1, hS1⟩)
theorem l_1 {x v : Int} (cx : Cx p s m args meth c cc nL ret D cI cL A) (hw : Kw D h cI cL A s X H locs) (hv : X 1 x = v) (h0 : 0 ≤ x) (h1 : x < 40) (d : decode cc pc = .ok (.iaload, 1)) (kk : W p l e R s m args below meth c H locs cells slots Q (F0 m (pc + 1) ls (.int (zI v) :: rest))) : W p l e R s m args below meth c H locs cells slots Q (F0 m pc ls (.int (zI x) :: .ref (h 1) :: rest)) := by
  subst hv
  obtain ⟨hx, hb, hml, hr, hlk, hown, hts, hK, hA, hG, htb⟩ := cx
  exact q_iald hx hb hK hw.1 1 0 (n := 40) (k := 1) (X := X) rfl rfl h0 h1 (by decide) d kk
theorem s_1 {x v : Int} (cx : Cx p s m args meth c cc nL ret D cI cL A) (hw : Kw D h cI cL A s X H locs) (h0 : 0 ≤ x) (h1 : x < 40) (d : decode cc pc = .ok (.iastore, 1)) (kk : ∀ (H1 : Heap) (locs1 : List Loc), Kw D h cI cL A s (up2 X 1 x v) H1 locs1 → W p l e R s m args below meth c H1 locs1 cells slots Q (F0 m (pc + 1) ls rest)) : W p l e R s m args below meth c H locs cells slots Q (F0 m pc ls (.int (zI v) :: .int (zI x) :: .ref (h 1) :: rest)) := by
  obtain ⟨hx, hb, hml, hr, hlk, hown, hts, hK, hA, hG, htb⟩ := cx
  obtain ⟨hP, hD, hS⟩ := hw
  exact q_iast hx hb hK hP hD hS 1 0 (n := 40) (k := 1) (X := X) rfl rfl h0 h1 (by decide) d (fun H1 locs1 hP1 hD1 hS1 => kk H1 locs1 ⟨hP1, hD1, hS1⟩)
theorem l_2 {x v : Int} (cx : Cx p s m args meth c cc nL ret D cI cL A) (hw : Kw D h cI cL A s X H locs) (hv : X 2 x = v) (h0 : 0 ≤ x) (h1 : x < 40) (d : decode cc pc = .ok (.iaload, 1)) (kk : W p l e R s m args below meth c H locs cells slots Q (F0 m (pc + 1) ls (.int (zI v) :: rest))) : W p l e R s m args below meth c H locs cells slots Q (F0 m pc ls (.int (zI x) :: .ref (h 2) :: rest)) := by
  subst hv
  obtain ⟨hx, hb, hml, hr, hlk, hown, hts, hK, hA, hG, htb⟩ := cx
  exact q_iald hx hb hK hw.1 2 0 (n := 40) (k := 2) (X := X) rfl rfl h0 h1 (by decide) d kk
theorem s_2 {x v : Int} (cx : Cx p s m args meth c cc nL ret D cI cL A) (hw : Kw D h cI cL A s X H locs) (h0 : 0 ≤ x) (h1 : x < 40) (d : decode cc pc = .ok (.iastore, 1)) (kk : ∀ (H1 : Heap) (locs1 : List Loc), Kw D h cI cL A s (up2 X 2 x v) H1 locs1 → W p l e R s m args below meth c H1 locs1 cells slots Q (F0 m (pc + 1) ls rest)) : W p l e R s m args below meth c H locs cells slots Q (F0 m pc ls (.int (zI v) :: .int (zI x) :: .ref (h 2) :: rest)) := by
  obtain ⟨hx, hb, hml, hr, hlk, hown, hts, hK, hA, hG, htb⟩ := cx
  obtain ⟨hP, hD, hS⟩ := hw
  exact q_iast hx hb hK hP hD hS 2 0 (n := 40) (k := 2) (X := X) rfl rfl h0 h1 (by decide) d (fun H1 locs1 hP1 hD1 hS1 => kk H1 locs1 ⟨hP1, hD1, hS1⟩)
theorem l_3 {x v : Int} (cx : Cx p s m args meth c cc nL ret D cI cL A) (hw : Kw D h cI cL A s X H locs) (hv : X 3 x = v) (h0 : 0 ≤ x) (h1 : x < 40) (d : decode cc pc = .ok (.iaload, 1)) (kk : W p l e R s m args below meth c H locs cells slots Q (F0 m (pc + 1) ls (.int (zI v) :: rest))) : W p l e R s m args below meth c H locs cells slots Q (F0 m pc ls (.int (zI x) :: .ref (h 3) :: rest)) := by
  subst hv
  obtain ⟨hx, hb, hml, hr, hlk, hown, hts, hK, hA, hG, htb⟩ := cx
  exact q_iald hx hb hK hw.1 3 0 (n := 40) (k := 3) (X := X) rfl rfl h0 h1 (by decide) d kk
theorem s_3 {x v : Int} (cx : Cx p s m args meth c cc nL ret D cI cL A) (hw : Kw D h cI cL A s X H locs) (h0 : 0 ≤ x) (h1 : x < 40) (d : decode cc pc = .ok (.iastore, 1)) (kk : ∀ (H1 : Heap) (locs1 : List Loc), Kw D h cI cL A s (up2 X 3 x v) H1 locs1 → W p l e R s m args below meth c H1 locs1 cells slots Q (F0 m (pc + 1) ls rest)) : W p l e R s m args below meth c H locs cells slots Q (F0 m pc ls (.int (zI v) :: .int (zI x) :: .ref (h 3) :: rest)) := by
  obtain ⟨hx, hb, hml, hr, hlk, hown, hts, hK, hA, hG, htb⟩ := cx
  obtain ⟨hP, hD, hS⟩ := hw
  exact q_iast hx hb hK hP hD hS 3 0 (n := 40) (k := 3) (X := X) rfl rfl h0 h1 (by decide) d (fun H1 locs1 hP1 hD1 hS1 => kk H1 locs1 ⟨hP1, hD1, hS1⟩)
theorem l_4 {x v : Int} (cx : Cx p s m args meth c cc nL ret D cI cL A) (hw : Kw D h cI cL A s X H locs) (hv : X 4 x = v) (h0 : 0 ≤ x) (h1 : x < 40) (d : decode cc pc = .ok (.iaload, 1)) (kk : W p l e R s m args below meth c H locs cells slots Q (F0 m (pc + 1) ls (.int (zI v) :: rest))) : W p l e R s m args below meth c H locs cells slots Q (F0 m pc ls (.int (zI x) :: .ref (h 4) :: rest)) := by
  subst hv
  obtain ⟨hx, hb, hml, hr, hlk, hown, hts, hK, hA, hG, htb⟩ := cx
  exact q_iald hx hb hK hw.1 4 0 (n := 40) (k := 4) (X := X) rfl rfl h0 h1 (by decide) d kk
theorem s_4 {x v : Int} (cx : Cx p s m args meth c cc nL ret D cI cL A) (hw : Kw D h cI cL A s X H locs) (h0 : 0 ≤ x) (h1 : x < 40) (d : decode cc pc = .ok (.iastore, 1)) (kk : ∀ (H1 : Heap) (locs1 : List Loc), Kw D h cI cL A s (up2 X 4 x v) H1 locs1 → W p l e R s m args below meth c H1 locs1 cells slots Q (F0 m (pc + 1) ls rest)) : W p l e R s m args below meth c H locs cells slots Q (F0 m pc ls (.int (zI v) :: .int (zI x) :: .ref (h 4) :: rest)) := by
  obtain ⟨hx, hb, hml, hr, hlk, hown, hts, hK, hA, hG, htb⟩ := cx
  obtain ⟨hP, hD, hS⟩ := hw
  exact q_iast hx hb hK hP hD hS 4 0 (n := 40) (k := 4) (X := X) rfl rfl h0 h1 (by decide) d (fun H1 locs1 hP1 hD1 hS1 => kk H1 locs1 ⟨hP1, hD1, hS1⟩)
theorem l_5 {x v : Int} (cx : Cx p s m args meth c cc nL ret D cI cL A) (hw : Kw D h cI cL A s X H locs) (hv : X 5 x = v) (h0 : 0 ≤ x) (h1 : x < 40) (d : decode cc pc = .ok (.iaload, 1)) (kk : W p l e R s m args below meth c H locs cells slots Q (F0 m (pc + 1) ls (.int (zI v) :: rest))) : W p l e R s m args below meth c H locs cells slots Q (F0 m pc ls (.int (zI x) :: .ref (h 5) :: rest)) := by
  subst hv
  obtain ⟨hx, hb, hml, hr, hlk, hown, hts, hK, hA, hG, htb⟩ := cx
  exact q_iald hx hb hK hw.1 5 0 (n := 40) (k := 5) (X := X) rfl rfl h0 h1 (by decide) d kk
theorem s_5 {x v : Int} (cx : Cx p s m args meth c cc nL ret D cI cL A) (hw : Kw D h cI cL A s X H locs) (h0 : 0 ≤ x) (h1 : x < 40) (d : decode cc pc = .ok (.iastore, 1)) (kk : ∀ (H1 : Heap) (locs1 : List Loc), Kw D h cI cL A s (up2 X 5 x v) H1 locs1 → W p l e R s m args below meth c H1 locs1 cells slots Q (F0 m (pc + 1) ls rest)) : W p l e R s m args below meth c H locs cells slots Q (F0 m pc ls (.int (zI v) :: .int (zI x) :: .ref (h 5) :: rest)) := by
  obtain ⟨hx, hb, hml, hr, hlk, hown, hts, hK, hA, hG, htb⟩ := cx
  obtain ⟨hP, hD, hS⟩ := hw
  exact q_iast hx hb hK hP hD hS 5 0 (n := 40) (k := 5) (X := X) rfl rfl h0 h1 (by decide) d (fun H1 locs1 hP1 hD1 hS1 => kk H1 locs1 ⟨hP1, hD1, hS1⟩)
theorem l_6 {x v : Int} (cx : Cx p s m args meth c cc nL ret D cI cL A) (hw : Kw D h cI cL A s X H locs) (hv : X 6 x = v) (h0 : 0 ≤ x) (h1 : x < 320) (d : decode cc pc = .ok (.iaload, 1)) (kk : W p l e R s m args below meth c H locs cells slots Q (F0 m (pc + 1) ls (.int (zI v) :: rest))) : W p l e R s m args below meth c H locs cells slots Q (F0 m pc ls (.int (zI x) :: .ref (h 6) :: rest)) := by
  subst hv
  obtain ⟨hx, hb, hml, hr, hlk, hown, hts, hK, hA, hG, htb⟩ := cx
  exact q_iald hx hb hK hw.1 6 0 (n := 320) (k := 6) (X := X) rfl rfl h0 h1 (by decide) d kk
theorem s_6 {x v : Int} (cx : Cx p s m args meth c cc nL ret D cI cL A) (hw : Kw D h cI cL A s X H locs) (h0 : 0 ≤ x) (h1 : x < 320) (d : decode cc pc = .ok (.iastore, 1)) (kk : ∀ (H1 : Heap) (locs1 : List Loc), Kw D h cI cL A s (up2 X 6 x v) H1 locs1 → W p l e R s m args below meth c H1 locs1 cells slots Q (F0 m (pc + 1) ls rest)) : W p l e R s m args below meth c H locs cells slots Q (F0 m pc ls (.int (zI v) :: .int (zI x) :: .ref (h 6) :: rest)) := by
  obtain ⟨hx, hb, hml, hr, hlk, hown, hts, hK, hA, hG, htb⟩ := cx
  obtain ⟨hP, hD, hS⟩ := hw
  exact q_iast hx hb hK hP hD hS 6 0 (n := 320) (k := 6) (X := X) rfl rfl h0 h1 (by decide) d (fun H1 locs1 hP1 hD1 hS1 => kk H1 locs1 ⟨hP1, hD1, hS1⟩)
theorem l_7 {x v : Int} (cx : Cx p s m args meth c cc nL ret D cI cL A) (hw : Kw D h cI cL A s X H locs) (hv : X 7 x = v) (h0 : 0 ≤ x) (h1 : x < 320) (d : decode cc pc = .ok (.iaload, 1)) (kk : W p l e R s m args below meth c H locs cells slots Q (F0 m (pc + 1) ls (.int (zI v) :: rest))) : W p l e R s m args below meth c H locs cells slots Q (F0 m pc ls (.int (zI x) :: .ref (h 7) :: rest)) := by
  subst hv
  obtain ⟨hx, hb, hml, hr, hlk, hown, hts, hK, hA, hG, htb⟩ := cx
  exact q_iald hx hb hK hw.1 7 0 (n := 320) (k := 7) (X := X) rfl rfl h0 h1 (by decide) d kk
theorem s_7 {x v : Int} (cx : Cx p s m args meth c cc nL ret D cI cL A) (hw : Kw D h cI cL A s X H locs) (h0 : 0 ≤ x) (h1 : x < 320) (d : decode cc pc = .ok (.iastore, 1)) (kk : ∀ (H1 : Heap) (locs1 : List Loc), Kw D h cI cL A s (up2 X 7 x v) H1 locs1 → W p l e R s m args below meth c H1 locs1 cells slots Q (F0 m (pc + 1) ls rest)) : W p l e R s m args below meth c H locs cells slots Q (F0 m pc ls (.int (zI v) :: .int (zI x) :: .ref (h 7) :: rest)) := by
  obtain ⟨hx, hb, hml, hr, hlk, hown, hts, hK, hA, hG, htb⟩ := cx
  obtain ⟨hP, hD, hS⟩ := hw
  exact q_iast hx hb hK hP hD hS 7 0 (n := 320) (k := 7) (X := X) rfl rfl h0 h1 (by decide) d (fun H1 locs1 hP1 hD1 hS1 => kk H1 locs1 ⟨hP1, hD1, hS1⟩)
theorem l_8 {x v : Int} (cx : Cx p s m args meth c cc nL ret D cI cL A) (hw : Kw D h cI cL A s X H locs) (hv : X 8 x = v) (h0 : 0 ≤ x) (h1 : x < 40) (d : decode cc pc = .ok (.iaload, 1)) (kk : W p l e R s m args below meth c H locs cells slots Q (F0 m (pc + 1) ls (.int (zI v) :: rest))) : W p l e R s m args below meth c H locs cells slots Q (F0 m pc ls (.int (zI x) :: .ref (h 8) :: rest)) := by
  subst hv
  obtain ⟨hx, hb, hml, hr, hlk, hown, hts, hK, hA, hG, htb⟩ := cx
  exact q_iald hx hb hK hw.1 8 0 (n := 40) (k := 8) (X := X) rfl rfl h0 h1 (by decide) d kk
theorem s_8 {x v : Int} (cx : Cx p s m args meth c cc nL ret D cI cL A) (hw : Kw D h cI cL A s X H locs) (h0 : 0 ≤ x) (h1 : x < 40) (d : decode cc pc = .ok (.iastore, 1)) (kk : ∀ (H1 : Heap) (locs1 : List Loc), Kw D h cI cL A s (up2 X 8 x v) H1 locs1 → W p l e R s m args below meth c H1 locs1 cells slots Q (F0 m (pc + 1) ls rest)) : W p l e R s m args below meth c H locs cells slots Q (F0 m pc ls (.int (zI v) :: .int (zI x) :: .ref (h 8) :: rest)) := by
  obtain ⟨hx, hb, hml, hr, hlk, hown, hts, hK, hA, hG, htb⟩ := cx
  obtain ⟨hP, hD, hS⟩ := hw
  exact q_iast hx hb hK hP hD hS 8 0 (n := 40) (k := 8) (X := X) rfl rfl h0 h1 (by decide) d (fun H1 locs1 hP1 hD1 hS1 => kk H1 locs1 ⟨hP1, hD1, hS1⟩)
theorem l_9 {x v : Int} (cx : Cx p s m args meth c cc nL ret D cI cL A) (hw : Kw D h cI cL A s X H locs) (hv : X 9 x = v) (h0 : 0 ≤ x) (h1 : x < 128) (d : decode cc pc = .ok (.laload, 1)) (kk : W p l e R s m args below meth c H locs cells slots Q (F0 m (pc + 1) ls (.long (zL v) :: rest))) : W p l e R s m args below meth c H locs cells slots Q (F0 m pc ls (.int (zI x) :: .ref (h 9) :: rest)) := by
  subst hv
  obtain ⟨hx, hb, hml, hr, hlk, hown, hts, hK, hA, hG, htb⟩ := cx
  exact q_lald hx hb hK hw.1 9 1 (n := 128) (k := 9) (X := X) rfl rfl h0 h1 (by decide) d kk
theorem s_9 {x v : Int} (cx : Cx p s m args meth c cc nL ret D cI cL A) (hw : Kw D h cI cL A s X H locs) (h0 : 0 ≤ x) (h1 : x < 128) (d : decode cc pc = .ok (.lastore, 1)) (kk : ∀ (H1 : Heap) (locs1 : List Loc), Kw D h cI cL A s (up2 X 9 x v) H1 locs1 → W p l e R s m args below meth c H1 locs1 cells slots Q (F0 m (pc + 1) ls rest)) : W p l e R s m args below meth c H locs cells slots Q (F0 m pc ls (.long (zL v) :: .int (zI x) :: .ref (h 9) :: rest)) := by
  obtain ⟨hx, hb, hml, hr, hlk, hown, hts, hK, hA, hG, htb⟩ := cx
  obtain ⟨hP, hD, hS⟩ := hw
  exact q_last hx hb hK hP hD hS 9 1 (n := 128) (k := 9) (X := X) rfl rfl h0 h1 (by decide) d (fun H1 locs1 hP1 hD1 hS1 => kk H1 locs1 ⟨hP1, hD1, hS1⟩)
theorem l_10 {x v : Int} (cx : Cx p s m args meth c cc nL ret D cI cL A) (hw : Kw D h cI cL A s X H locs) (hv : X 10 x = v) (h0 : 0 ≤ x) (h1 : x < 128) (d : decode cc pc = .ok (.laload, 1)) (kk : W p l e R s m args below meth c H locs cells slots Q (F0 m (pc + 1) ls (.long (zL v) :: rest))) : W p l e R s m args below meth c H locs cells slots Q (F0 m pc ls (.int (zI x) :: .ref (h 10) :: rest)) := by
  subst hv
  obtain ⟨hx, hb, hml, hr, hlk, hown, hts, hK, hA, hG, htb⟩ := cx
  exact q_lald hx hb hK hw.1 10 1 (n := 128) (k := 10) (X := X) rfl rfl h0 h1 (by decide) d kk
theorem s_10 {x v : Int} (cx : Cx p s m args meth c cc nL ret D cI cL A) (hw : Kw D h cI cL A s X H locs) (h0 : 0 ≤ x) (h1 : x < 128) (d : decode cc pc = .ok (.lastore, 1)) (kk : ∀ (H1 : Heap) (locs1 : List Loc), Kw D h cI cL A s (up2 X 10 x v) H1 locs1 → W p l e R s m args below meth c H1 locs1 cells slots Q (F0 m (pc + 1) ls rest)) : W p l e R s m args below meth c H locs cells slots Q (F0 m pc ls (.long (zL v) :: .int (zI x) :: .ref (h 10) :: rest)) := by
  obtain ⟨hx, hb, hml, hr, hlk, hown, hts, hK, hA, hG, htb⟩ := cx
  obtain ⟨hP, hD, hS⟩ := hw
  exact q_last hx hb hK hP hD hS 10 1 (n := 128) (k := 10) (X := X) rfl rfl h0 h1 (by decide) d (fun H1 locs1 hP1 hD1 hS1 => kk H1 locs1 ⟨hP1, hD1, hS1⟩)
theorem l_11 {x v : Int} (cx : Cx p s m args meth c cc nL ret D cI cL A) (hw : Kw D h cI cL A s X H locs) (hv : X 11 x = v) (h0 : 0 ≤ x) (h1 : x < 128) (d : decode cc pc = .ok (.laload, 1)) (kk : W p l e R s m args below meth c H locs cells slots Q (F0 m (pc + 1) ls (.long (zL v) :: rest))) : W p l e R s m args below meth c H locs cells slots Q (F0 m pc ls (.int (zI x) :: .ref (h 11) :: rest)) := by
  subst hv
  obtain ⟨hx, hb, hml, hr, hlk, hown, hts, hK, hA, hG, htb⟩ := cx
  exact q_lald hx hb hK hw.1 11 1 (n := 128) (k := 11) (X := X) rfl rfl h0 h1 (by decide) d kk
theorem s_11 {x v : Int} (cx : Cx p s m args meth c cc nL ret D cI cL A) (hw : Kw D h cI cL A s X H locs) (h0 : 0 ≤ x) (h1 : x < 128) (d : decode cc pc = .ok (.lastore, 1)) (kk : ∀ (H1 : Heap) (locs1 : List Loc), Kw D h cI cL A s (up2 X 11 x v) H1 locs1 → W p l e R s m args below meth c H1 locs1 cells slots Q (F0 m (pc + 1) ls rest)) : W p l e R s m args below meth c H locs cells slots Q (F0 m pc ls (.long (zL v) :: .int (zI x) :: .ref (h 11) :: rest)) := by
  obtain ⟨hx, hb, hml, hr, hlk, hown, hts, hK, hA, hG, htb⟩ := cx
  obtain ⟨hP, hD, hS⟩ := hw
  exact q_last hx hb hK hP hD hS 11 1 (n := 128) (k := 11) (X := X) rfl rfl h0 h1 (by decide) d (fun H1 locs1 hP1 hD1 hS1 => kk H1 locs1 ⟨hP1, hD1, hS1⟩)
theorem l_12 {x v : Int} (cx : Cx p s m args meth c cc nL ret D cI cL A) (hw : Kw D h cI cL A s X H locs) (hv : X 12 x = v) (h0 : 0 ≤ x) (h1 : x < 6) (d : decode cc pc = .ok (.iaload, 1)) (kk : W p l e R s m args below meth c H locs cells slots Q (F0 m (pc + 1) ls (.int (zI v) :: rest))) : W p l e R s m args below meth c H locs cells slots Q (F0 m pc ls (.int (zI x) :: .ref (h 12) :: rest)) := by
  subst hv
  obtain ⟨hx, hb, hml, hr, hlk, hown, hts, hK, hA, hG, htb⟩ := cx
  exact q_iald hx hb hK hw.1 12 0 (n := 6) (k := 12) (X := X) rfl rfl h0 h1 (by decide) d kk
theorem s_12 {x v : Int} (cx : Cx p s m args meth c cc nL ret D cI cL A) (hw : Kw D h cI cL A s X H locs) (h0 : 0 ≤ x) (h1 : x < 6) (d : decode cc pc = .ok (.iastore, 1)) (kk : ∀ (H1 : Heap) (locs1 : List Loc), Kw D h cI cL A s (up2 X 12 x v) H1 locs1 → W p l e R s m args below meth c H1 locs1 cells slots Q (F0 m (pc + 1) ls rest)) : W p l e R s m args below meth c H locs cells slots Q (F0 m pc ls (.int (zI v) :: .int (zI x) :: .ref (h 12) :: rest)) := by
  obtain ⟨hx, hb, hml, hr, hlk, hown, hts, hK, hA, hG, htb⟩ := cx
  obtain ⟨hP, hD, hS⟩ := hw
  exact q_iast hx hb hK hP hD hS 12 0 (n := 6) (k := 12) (X := X) rfl rfl h0 h1 (by decide) d (fun H1 locs1 hP1 hD1 hS1 => kk H1 locs1 ⟨hP1, hD1, hS1⟩)
theorem q_max {x y : Int} (cx : Cx p s m args meth c cc nL ret D cI cL A) (hw : Kw D h cI cL A s X H locs) (hsz : ls.size = nL) (rx : rI x) (ry : rI y) (hf : 1 ≤ R.frames) (hlo : (rest.map fun v => v.category).sum + 13 ≤ R.locals) (hc : cells ≤ R.cells) (hs : slots ≤ R.slots) (d : decode cc pc = .ok (.invokestatic 152, 3)) (k : W p l e R s m args below meth c H locs cells slots Q (F0 m (pc + 3) ls (.int (zI (if x < y then y else x)) :: rest))) : W p l e R s m args below meth c H locs cells slots Q (F0 m pc ls (.int (zI y) :: .int (zI x) :: rest)) := by
  obtain ⟨hx, hb, hml, hr, hlk, hown, hts, hK, hA, hG, htb⟩ := cx
  refine va_mmax hx hb (hml.trans hsz.symm) hown (hts _ km_link) (hts _ km_stat) (hts _ kn_Math) (hts _ km_code) hf hlo hc hs d ?_
  rw [show (if zI x < zI y then zI y else zI x) = zI (if x < y then y else x) by
    by_cases h : x < y
    · rw [if_pos h, if_pos ((zI_lt rx ry).mpr h)]
    · rw [if_neg h, if_neg (fun z => h ((zI_lt rx ry).mp z))]]
  exact k
end CRW
