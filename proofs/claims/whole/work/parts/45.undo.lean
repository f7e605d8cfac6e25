/-! UNDOING, both -/
def cU (X : St) (d : Int) (n : Nat) : Int := sumR (fun p => if X 1 (X 8 p) = 2 ∧ X 3 (X 8 p) = d ∧ X 5 (X 8 p) = -1 then 1 else 0) 0 n
theorem cU_ge (X : St) (d : Int) (n : Nat) : 0 ≤ cU X d n := sum_ge n 0 (fun j => by
  show 0 ≤ (if X 1 (X 8 j) = 2 ∧ X 3 (X 8 j) = d ∧ X 5 (X 8 j) = -1 then (1 : Int) else 0)
  split <;> omega)
theorem cU_yes {X : St} {d i : Int} {n : Nat} (ei : (n : Int) = i) (h : X 1 (X 8 i) = 2 ∧ X 3 (X 8 i) = d ∧ X 5 (X 8 i) = -1) : cU X d (n + 1) = cU X d n + 1 := by
  subst ei
  unfold cU
  rw [sumR_succ, Int.zero_add, if_pos h]
theorem cU_no {X : St} {d i : Int} {n : Nat} (ei : (n : Int) = i) (h : ¬ (X 1 (X 8 i) = 2 ∧ X 3 (X 8 i) = d ∧ X 5 (X 8 i) = -1)) : cU X d (n + 1) = cU X d n := by
  subst ei
  unfold cU
  rw [sumR_succ, Int.zero_add, if_neg h, Int.add_zero]
theorem cU_all {X : St} (h : Inv X) (d : Int) : cU X d (X 0 1).toNat = cntU X d := by
  have hT := h.2.1.2.1 (fun b => if X 1 b = 2 ∧ X 3 b = d ∧ X 5 b = -1 then 1 else 0)
  unfold cU cntU
  refine hT.trans (sum_same0 (fun b _ _ => ?_))
  show (if X 1 b = 2 ∨ X 1 b = 3 then (if X 1 b = 2 ∧ X 3 b = d ∧ X 5 b = -1 then (1 : Int) else 0) else 0) = (if X 1 b = 2 ∧ X 3 b = d ∧ X 5 b = -1 then 1 else 0)
  by_cases c : X 1 b = 2 ∧ X 3 b = d ∧ X 5 b = -1
  · rw [if_pos c, if_pos (Or.inl c.1)]
  · rw [if_neg c]; split <;> rfl
theorem und_room {X : St} {d : Int} (hI : Inv X) : ∀ (n : Nat) (Y : St), (n : Int) ≤ X 0 1 → X 0 1 ≤ Y 0 1 → X 0 0 ≤ Y 0 0 → Y 0 1 ≤ Y 0 0 → (∀ p : Int, 0 ≤ p → p < n → Y 8 p = X 8 p ∧ Y 1 (X 8 p) = X 1 (X 8 p) ∧ Y 3 (X 8 p) = X 3 (X 8 p) ∧ Y 5 (X 8 p) = X 5 (X 8 p)) → Y 0 0 + cU X d n ≤ 40 → undR d n Y
  | 0, _, _, _, _, _, _, _ => trivial
  | n + 1, Y, h1, h2, h3, h4, h5, h6 => by
    obtain ⟨e8, e1, e3, e5⟩ := h5 n (by omega) (by omega)
    have o := inv_ord hI (p := (n : Int)) (by omega) (by omega)
    unfold undR
    by_cases c : Y 1 (Y 8 n) = 2 ∧ Y 3 (Y 8 n) = d ∧ Y 5 (Y 8 n) = -1
    · rw [if_pos c]
      rw [e8, e1, e3, e5] at c
      have hc := cU_yes (X := X) (d := d) (n := n) rfl c
      have hg := cU_ge X d n
      refine ⟨⟨by rw [e8]; omega, by omega, by omega⟩, und_room hI n _ (by omega) (by rw [rX_01]; omega) (by rw [rX_00]; omega) (by rw [rX_00, rX_01]; omega) (fun p p0 p1 => ?_) (by rw [rX_00]; omega)⟩
      obtain ⟨f8, f1, f3, f5⟩ := h5 p p0 (by omega)
      have op := inv_ord hI (p := p) p0 (by omega)
      have hne := hI.2.1.2.2.2.1 p n p0 (by omega) (by omega)
      rw [e8]
      refine ⟨by rw [rX_8, if_neg (by omega)]; exact f8, by rw [rX_1, if_neg hne, if_neg (by omega)]; exact f1, by rw [rX_3, if_neg (by omega)]; exact f3, by rw [rX_5, if_neg (by omega)]; exact f5⟩
    · rw [if_neg c]
      rw [e8, e1, e3, e5] at c
      have hc := cU_no (X := X) (d := d) (n := n) rfl c
      exact und_room hI n Y (by omega) h2 h3 h4 (fun p p0 p1 => h5 p p0 (by omega)) (by omega)
theorem inv_room {X : St} (hI : Inv X) (d : Int) : ∀ Y, nEq Y X → cntU X d ≤ 40 - X 0 0 → undR d (X 0 1).toNat Y := by
  intro Y e h
  have g1 := rg_s1 hI.1
  have hle := inv_le hI
  refine und_room hI _ Y (by omega) (by rw [e 0 (by decide)]; omega) (by rw [e 0 (by decide)]; omega) (by rw [e 0 (by decide)]; omega) (fun p _ _ => ⟨by rw [e 8 (by decide)], by rw [e 1 (by decide)], by rw [e 3 (by decide)], by rw [e 5 (by decide)]⟩) (by rw [e 0 (by decide), cU_all hI]; omega)
theorem unC_yes {X : St} {d i : Int} {n : Nat} {N : St} (ei : (n : Int) = i) (h : X 1 (X 8 i) = 2 ∧ X 3 (X 8 i) = d ∧ X 5 (X 8 i) = -1) : unC X d (n + 1) N ↔ (covN (addN N (X 8 i) (-1)) ∧ unC X d n (addN N (X 8 i) (-1))) := by
  subst ei; exact Iff.of_eq (if_pos h)
theorem unC_no {X : St} {d i : Int} {n : Nat} {N : St} (ei : (n : Int) = i) (h : ¬ (X 1 (X 8 i) = 2 ∧ X 3 (X 8 i) = d ∧ X 5 (X 8 i) = -1)) : unC X d (n + 1) N ↔ unC X d n N := by
  subst ei; exact Iff.of_eq (if_neg h)
theorem und_main {X : St} {d : Int} (hI : Inv X) (hd : 0 ≤ d ∧ d ≤ 1000) : ∀ (n : Nat) (Y Z N : St), Inv Y → Sim Y Z → (n : Int) ≤ X 0 1 → X 0 1 ≤ Y 0 1 → X 0 0 ≤ Y 0 0 →
    (∀ p : Int, 0 ≤ p → p < n → Y 8 p = X 8 p ∧ Y 1 (X 8 p) = X 1 (X 8 p) ∧ Y 3 (X 8 p) = X 3 (X 8 p) ∧ Y 5 (X 8 p) = X 5 (X 8 p) ∧ ∀ c, netC Y (X 8 p) c = netC X (X 8 p) c) → nEq N X → (∀ c, Y 9 c - Y 10 c = X 9 c - X 10 c + N 11 c) →
    (unC X d n N ∧ Y 0 0 + cU X d n ≤ 40 → ∃ W, mU d n Z W ∧ Inv (undX d n Y) ∧ Sim (undX d n Y) W ∧ W 0 1 = Z 0 1 + cU X d n ∧ W 0 3 = Z 0 3) ∧ (¬ (unC X d n N ∧ Y 0 0 + cU X d n ≤ 40) → ∀ W, ¬ mU d n Z W)
  | 0, Y, Z, N, hY, hS, _, _, _, _, _, _ => by
    have z := rg_s0 hY.1
    refine ⟨fun _ => ⟨Z, rfl, hY, hS, by show Z 0 1 = Z 0 1 + 0; omega, rfl⟩, fun h => absurd ⟨trivial, by show Y 0 0 + 0 ≤ 40; omega⟩ h⟩
  | n + 1, Y, Z, N, hY, hS, h1, h2, h3, h5, hN, h9 => by
    obtain ⟨e8, e1, e3, e5, en⟩ := h5 n (by omega) (by omega)
    have o := inv_ord hI (p := (n : Int)) (by omega) (by omega)
    have s9 : Z 9 n = X 8 n := (hS.2.2.2.2.1 n (by omega) (by omega)).trans e8
    have sb := hS.2.2.1 (X 8 n) o.1.1 (by omega)
    have hle := inv_le hY
    by_cases c : X 1 (X 8 n) = 2 ∧ X 3 (X 8 n) = d ∧ X 5 (X 8 n) = -1
    · have cZ : Z 1 (Z 9 n) = 2 ∧ Z 3 (Z 9 n) = d ∧ Z 5 (Z 9 n) = -1 := by rw [s9, sb.1, sb.2.2.1, sb.2.2.2.2, e1, e3, e5]; exact c
      have cY : undoable Y (Y 8 n) d := by unfold undoable; rw [e8, e1, e3, e5]; exact c
      have hc := cU_yes (X := X) (d := d) (n := n) rfl c
      have hg := cU_ge X d n
      have hu := unC_yes (N := N) (n := n) rfl c
      have hcv : mcov Z (Z 9 n) 0 (-1) ↔ covN (addN N (X 8 n) (-1)) := by
        rw [s9, sim_cov hY hS (b := X 8 n) ⟨o.1.1, by omega⟩ (Or.inl rfl) (by omega), cov_iff]
        unfold covN
        rw [addN_keep N _ _ 9 (by decide), addN_keep N _ _ 10 (by decide), hN 9 (by decide), hN 10 (by decide)]
        have eN : netC N = netC X := netC_k (hN 2 (by decide)) (hN 6 (by decide)) (hN 7 (by decide))
        constructor
        · intro z k k0 k1
          have := z k k0 k1
          have q := h9 k
          rw [en] at this
          rw [addN_net, eN]; omega
        · intro z k k0 k1
          have := z k k0 k1
          have q := h9 k
          rw [addN_net, eN] at this
          rw [en]; omega
      have next : covN (addN N (X 8 n) (-1)) → Y 0 0 < 40 → (unC X d n (addN N (X 8 n) (-1)) ∧ revX Y (Y 8 n) d 0 0 + cU X d n ≤ 40 → ∃ W, mU d n (mRev Z (Z 9 n) d) W ∧ Inv (undX d n (revX Y (Y 8 n) d)) ∧ Sim (undX d n (revX Y (Y 8 n) d)) W ∧ W 0 1 = mRev Z (Z 9 n) d 0 1 + cU X d n ∧ W 0 3 = mRev Z (Z 9 n) d 0 3) ∧ (¬ (unC X d n (addN N (X 8 n) (-1)) ∧ revX Y (Y 8 n) d 0 0 + cU X d n ≤ 40) → ∀ W, ¬ mU d n (mRev Z (Z 9 n) d) W) := by
        intro hv h40
        have hk := (cov_iff (X := Y) (X 8 n) (-1)).mp ((sim_cov hY hS (b := X 8 n) ⟨o.1.1, by omega⟩ (Or.inl rfl) (by omega)).mp (by rw [← s9]; exact hcv.mpr hv))
        rw [e8, s9]
        refine und_main hI hd n _ _ _ (inv_rev hY ⟨o.1.1, by omega⟩ (by omega) hd h40 (fun k k0 k1 => by have := hk k k0 k1; omega)) (sim_rev hY.1 hS ⟨o.1.1, by omega⟩ hd h40 (by omega)) (by omega) (by rw [rX_01]; omega) (by rw [rX_00]; omega) (fun p p0 p1 => ?_) (fun k hk => (addN_keep N _ _ k hk).trans (hN k hk)) (fun k => ?_)
        · obtain ⟨f8, f1, f3, f5, fn⟩ := h5 p p0 (by omega)
          have op := inv_ord hI (p := p) p0 (by omega)
          have hne := hI.2.1.2.2.2.1 p n p0 (by omega) (by omega)
          exact ⟨by rw [rX_8, if_neg (by omega)]; exact f8, by rw [rX_1, if_neg hne, if_neg (by omega)]; exact f1, by rw [rX_3, if_neg (by omega)]; exact f3, by rw [rX_5, if_neg (by omega)]; exact f5, fun k => by rw [rX_net hY.1 _ _ ⟨op.1.1, by omega⟩]; exact fn k⟩
        · have q := h9 k
          rw [rX_9 hY.1, rX_10, addN_net, netC_k (hN 2 (by decide)) (hN 6 (by decide)) (hN 7 (by decide)), en]
          omega
      constructor
      · rintro ⟨hun, hro⟩
        obtain ⟨hv, hun⟩ := hu.mp hun
        obtain ⟨W, w1, w2, w3, w4, w5⟩ := (next hv (by omega)).1 ⟨hun, by rw [rX_00]; omega⟩
        refine ⟨W, (mU_yes (n := n) (i := n) rfl cZ ⟨by have := hS.2.1.1; omega, hcv.mpr hv⟩ W).mpr w1, by rw [undX_yes (n := n) (i := n) rfl cY]; exact w2, by rw [undX_yes (n := n) (i := n) rfl cY]; exact w3, by rw [w4, mR_01]; omega, by rw [w5, mR_03]⟩
      · intro hno W hm
        by_cases hv : Z 0 0 < 40 ∧ mcov Z (Z 9 n) 0 (-1)
        · have hm2 := (mU_yes (n := n) (i := n) rfl cZ hv W).mp hm
          have s0 := hS.2.1.1
          refine (next (hcv.mp hv.2) (by omega)).2 (fun z => hno ⟨hu.mpr ⟨hcv.mp hv.2, z.1⟩, ?_⟩) W hm2
          have := z.2
          rw [rX_00] at this
          omega
        · exact mU_fail (n := n) (i := n) rfl cZ hv W hm
    · have cZ : ¬ (Z 1 (Z 9 n) = 2 ∧ Z 3 (Z 9 n) = d ∧ Z 5 (Z 9 n) = -1) := by rw [s9, sb.1, sb.2.2.1, sb.2.2.2.2, e1, e3, e5]; exact c
      have cY : ¬ undoable Y (Y 8 n) d := by unfold undoable; rw [e8, e1, e3, e5]; exact c
      have hc := cU_no (X := X) (d := d) (n := n) rfl c
      have hu := unC_no (N := N) (n := n) rfl c
      have ih := und_main hI hd n Y Z N hY hS (by omega) h2 h3 (fun p p0 p1 => h5 p p0 (by omega)) hN h9
      rw [hc, undX_no (n := n) (i := n) rfl cY]
      constructor
      · rintro ⟨hun, hro⟩
        obtain ⟨W, w1, w2⟩ := ih.1 ⟨hu.mp hun, hro⟩
        exact ⟨W, (mU_no (n := n) (i := n) rfl cZ W).mpr w1, w2⟩
      · intro hno W hm
        exact ih.2 (fun z => hno ⟨hu.mpr z.1, z.2⟩) W ((mU_no (n := n) (i := n) rfl cZ W).mp hm)
theorem mU_one {d : Int} : ∀ (n : Nat) (Z W W' : St), mU d n Z W → mU d n Z W' → W = W'
  | 0, _, _, _, h, h' => h.trans h'.symm
  | n + 1, Z, W, W', h, h' => by
    unfold mU at h h'
    by_cases c : Z 1 (Z 9 n) = 2 ∧ Z 3 (Z 9 n) = d ∧ Z 5 (Z 9 n) = -1
    · rw [if_pos c] at h h'; exact mU_one n _ W W' h.2 h'.2
    · rw [if_neg c] at h h'; exact mU_one n _ W W' h h'
theorem ag_undo {X Z u u' : St} {d : Int} {k : Int} {ov : Int64} {r : Int32} (r_d : rI d) (hI : Inv X) (hS : Sim X Z) (hc : hP_undo X d k u ov) (hm : mP_undo Z d r u') : u' 0 3 = k ∧ (k = 0 → ov = r.toInt64) ∧ Inv u ∧ Sim u u' := by
  have g0 := rg_s0 hI.1
  have g1 := rg_s1 hI.1
  obtain ⟨s0, s1, s2⟩ := hS.2.1
  have main : 0 ≤ d ∧ d ≤ 1000 → ∀ Y, nEq Y X → (unC X d (X 0 1).toNat (zN X) ∧ X 0 0 + cntU X d ≤ 40 → ∃ W, mU d (X 0 1).toNat (up2 Z 0 3 0) W ∧ Inv (undX d (X 0 1).toNat Y) ∧ Sim (undX d (X 0 1).toNat Y) W ∧ W 0 1 = Z 0 1 + cntU X d ∧ W 0 3 = 0) ∧ (¬ (unC X d (X 0 1).toNat (zN X) ∧ X 0 0 + cntU X d ≤ 40) → ∀ W, ¬ mU d (X 0 1).toNat (up2 Z 0 3 0) W) := by
    intro hd Y e
    have := und_main hI hd (X 0 1).toNat Y (up2 Z 0 3 0) (zN X) (inv_nEq e hI) (sim_code (sim_nEq e hS) (by decide)) (by omega) (by rw [e 0 (by decide)]; omega) (by rw [e 0 (by decide)]; omega) (fun p _ _ => ⟨by rw [e 8 (by decide)], by rw [e 1 (by decide)], by rw [e 3 (by decide)], by rw [e 5 (by decide)], fun k => by rw [netC_k (e 2 (by decide)) (e 6 (by decide)) (e 7 (by decide))]⟩) (zN_keep X) (fun k => by rw [e 9 (by decide), e 10 (by decide)]; show _ = X 9 k - X 10 k + 0; omega)
    rw [cU_all hI, e 0 (by decide)] at this
    exact this
  have bad : ∀ {u : St}, nEq u X → (0 ≤ d ∧ d ≤ 1000) → ¬ (unC X d (X 0 1).toNat (zN X) ∧ X 0 0 + cntU X d ≤ 40) → ((∃ W, mU d (Z 0 1).toNat (up2 Z 0 3 0) W ∧ u' = W ∧ r = zI (W 0 1 - Z 0 1)) ∨ ((∀ W, ¬ mU d (Z 0 1).toNat (up2 Z 0 3 0) W) ∧ u' 0 3 = 3 ∧ mEq Z u' ∧ Rnj u' ∧ r = zI 0)) → u' 0 3 = 3 ∧ ((3 : Int) = 0 → ov = r.toInt64) ∧ Inv u ∧ Sim u u' := by
    intro u hn hd hno hv
    rw [s1] at hv
    rcases hv with ⟨W, w1, -⟩ | ⟨-, w2, w3, w4, -⟩
    · exact absurd w1 ((main hd X (fun _ _ => rfl)).2 hno W)
    · exact ⟨w2, fun z => absurd z (by decide), inv_nEq hn hI, sim_nEq hn (sim_mEq hS w3 w4)⟩
  rcases hc with ⟨rfl, a0, hn⟩ | ⟨rfl, a0, a1, hn⟩ | ⟨rfl, a0, a1, a2, hn⟩ | ⟨rfl, a0, a1, a2, a3, hn⟩ | ⟨rfl, r0, ⟨hP, hr, Y, hY, hu⟩, ho⟩
  · rcases hm with ⟨q0, hv, hw⟩ | ⟨q0, q1, hv, hw⟩ | ⟨q0, q1, hv⟩
    · subst hv; exact ⟨rfl, fun z => absurd z (by decide), inv_nEq hn hI, sim_nEq hn (sim_code hS (by decide))⟩
    · exfalso; omega
    · exfalso; omega
  · rcases hm with ⟨q0, hv, hw⟩ | ⟨q0, q1, hv, hw⟩ | ⟨q0, q1, hv⟩
    · exfalso; omega
    · subst hv; exact ⟨rfl, fun z => absurd z (by decide), inv_nEq hn hI, sim_nEq hn (sim_code hS (by decide))⟩
    · exfalso; omega
  · rcases hm with ⟨q0, hv, hw⟩ | ⟨q0, q1, hv, hw⟩ | ⟨q0, q1, hv⟩
    · exfalso; omega
    · exfalso; omega
    · exact bad hn q0 (fun z => by omega) hv
  · rcases hm with ⟨q0, hv, hw⟩ | ⟨q0, q1, hv, hw⟩ | ⟨q0, q1, hv⟩
    · exfalso; omega
    · exfalso; omega
    · exact bad hn q0 (fun z => a3 z.1) hv
  · rcases hm with ⟨q0, hv, hw⟩ | ⟨q0, q1, hv, hw⟩ | ⟨q0, q1, hv⟩
    · exfalso; omega
    · exfalso; omega
    · obtain ⟨W, w1, w2, w3, w4, w5⟩ := (main q0 Y hY).1 ⟨hP.2.2.2, by omega⟩
      rw [s1] at hv
      rcases hv with ⟨W', v1, v2, v3⟩ | ⟨v1, -⟩
      · have e := mU_one _ _ _ _ w1 v1
        subst e
        subst v2; subst hu
        refine ⟨w5, fun _ => ?_, w2, w3⟩
        rw [ho, hr, v3, w4, s1]
        congr 2
        omega
      · exact absurd w1 (v1 W)
