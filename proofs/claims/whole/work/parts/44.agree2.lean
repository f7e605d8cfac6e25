theorem ag_hold {X Z u u' : St} {b : Int} {k : Int} {ov : Int64} (r_b : rI b) (hI : Inv X) (hS : Sim X Z) (hc : hP_hold X b k u ov) (hm : mP_hold Z b u') : u' 0 3 = k ∧ Inv u ∧ Sim u u' := by
  have g0 := rg_s0 hI.1
  have g1 := rg_s1 hI.1
  have g2 := rg_s2 hI.1
  obtain ⟨s0, s1, s2⟩ := hS.2.1
  have sb : 0 ≤ b ∧ b < X 0 0 → Z 1 b = X 1 b := fun z => (hS.2.2.1 b z.1 z.2).1
  have hsd : 0 ≤ b ∧ b < X 0 0 → (msound Z b ↔ sound X b) := fun z => sim_sound hI.1 hS z
  have hcv : 0 ≤ b ∧ b < X 0 0 → X 1 b = 0 → (mcov Z b 1 1 ↔ covN (netX X b 1)) := fun z z1 => sim_cov hI hS z (Or.inr rfl) (by omega)
  rcases hc with ⟨rfl, a0, hn⟩ | ⟨rfl, a0, a1, hn⟩ | ⟨rfl, a0, a1, a2, hn⟩ | ⟨rfl, a0, a1, a2, a3, hn⟩ | ⟨rfl, hP, hu⟩
  · rcases hm with ⟨q0, hv⟩ | ⟨q0, q1, hv⟩ | ⟨q0, q1, q2, hv⟩ | ⟨q0, q1, q2, hv⟩
    · first
        | (exfalso; omega)
        | (exfalso; exact a2 ((hsd (by omega)).mp q1.2))
        | (exfalso; exact q1 ⟨by omega, (hsd (by omega)).mpr a2⟩)
        | (exfalso; exact q1 ⟨by omega, (hsd (by omega)).mpr hP.2.2.1⟩)
        | (exfalso; exact a3 ((hcv (by omega) (by omega)).mp q2))
        | (exfalso; exact q2 ((hcv (by omega) (by omega)).mpr hP.2.2.2))
        | (subst hv; exact ⟨rfl, inv_nEq hn hI, sim_nEq hn (sim_code hS (by decide))⟩)
    · first
        | (exfalso; omega)
        | (exfalso; exact a2 ((hsd (by omega)).mp q1.2))
        | (exfalso; exact q1 ⟨by omega, (hsd (by omega)).mpr a2⟩)
        | (exfalso; exact q1 ⟨by omega, (hsd (by omega)).mpr hP.2.2.1⟩)
        | (exfalso; exact a3 ((hcv (by omega) (by omega)).mp q2))
        | (exfalso; exact q2 ((hcv (by omega) (by omega)).mpr hP.2.2.2))
    · first
        | (exfalso; omega)
        | (exfalso; exact a2 ((hsd (by omega)).mp q1.2))
        | (exfalso; exact q1 ⟨by omega, (hsd (by omega)).mpr a2⟩)
        | (exfalso; exact q1 ⟨by omega, (hsd (by omega)).mpr hP.2.2.1⟩)
        | (exfalso; exact a3 ((hcv (by omega) (by omega)).mp q2))
        | (exfalso; exact q2 ((hcv (by omega) (by omega)).mpr hP.2.2.2))
    · first
        | (exfalso; omega)
        | (exfalso; exact a2 ((hsd (by omega)).mp q1.2))
        | (exfalso; exact q1 ⟨by omega, (hsd (by omega)).mpr a2⟩)
        | (exfalso; exact q1 ⟨by omega, (hsd (by omega)).mpr hP.2.2.1⟩)
        | (exfalso; exact a3 ((hcv (by omega) (by omega)).mp q2))
        | (exfalso; exact q2 ((hcv (by omega) (by omega)).mpr hP.2.2.2))
  · rcases hm with ⟨q0, hv⟩ | ⟨q0, q1, hv⟩ | ⟨q0, q1, q2, hv⟩ | ⟨q0, q1, q2, hv⟩
    · first
        | (exfalso; omega)
        | (exfalso; exact a2 ((hsd (by omega)).mp q1.2))
        | (exfalso; exact q1 ⟨by omega, (hsd (by omega)).mpr a2⟩)
        | (exfalso; exact q1 ⟨by omega, (hsd (by omega)).mpr hP.2.2.1⟩)
        | (exfalso; exact a3 ((hcv (by omega) (by omega)).mp q2))
        | (exfalso; exact q2 ((hcv (by omega) (by omega)).mpr hP.2.2.2))
    · first
        | (exfalso; omega)
        | (exfalso; exact a2 ((hsd (by omega)).mp q1.2))
        | (exfalso; exact q1 ⟨by omega, (hsd (by omega)).mpr a2⟩)
        | (exfalso; exact q1 ⟨by omega, (hsd (by omega)).mpr hP.2.2.1⟩)
        | (exfalso; exact a3 ((hcv (by omega) (by omega)).mp q2))
        | (exfalso; exact q2 ((hcv (by omega) (by omega)).mpr hP.2.2.2))
        | (subst hv; exact ⟨rfl, inv_nEq hn hI, sim_nEq hn (sim_code hS (by decide))⟩)
    · first
        | (exfalso; omega)
        | (exfalso; exact a2 ((hsd (by omega)).mp q1.2))
        | (exfalso; exact q1 ⟨by omega, (hsd (by omega)).mpr a2⟩)
        | (exfalso; exact q1 ⟨by omega, (hsd (by omega)).mpr hP.2.2.1⟩)
        | (exfalso; exact a3 ((hcv (by omega) (by omega)).mp q2))
        | (exfalso; exact q2 ((hcv (by omega) (by omega)).mpr hP.2.2.2))
    · first
        | (exfalso; omega)
        | (exfalso; exact a2 ((hsd (by omega)).mp q1.2))
        | (exfalso; exact q1 ⟨by omega, (hsd (by omega)).mpr a2⟩)
        | (exfalso; exact q1 ⟨by omega, (hsd (by omega)).mpr hP.2.2.1⟩)
        | (exfalso; exact a3 ((hcv (by omega) (by omega)).mp q2))
        | (exfalso; exact q2 ((hcv (by omega) (by omega)).mpr hP.2.2.2))
  · rcases hm with ⟨q0, hv⟩ | ⟨q0, q1, hv⟩ | ⟨q0, q1, q2, hv⟩ | ⟨q0, q1, q2, hv⟩
    · first
        | (exfalso; omega)
        | (exfalso; exact a2 ((hsd (by omega)).mp q1.2))
        | (exfalso; exact q1 ⟨by omega, (hsd (by omega)).mpr a2⟩)
        | (exfalso; exact q1 ⟨by omega, (hsd (by omega)).mpr hP.2.2.1⟩)
        | (exfalso; exact a3 ((hcv (by omega) (by omega)).mp q2))
        | (exfalso; exact q2 ((hcv (by omega) (by omega)).mpr hP.2.2.2))
    · first
        | (exfalso; omega)
        | (exfalso; exact a2 ((hsd (by omega)).mp q1.2))
        | (exfalso; exact q1 ⟨by omega, (hsd (by omega)).mpr a2⟩)
        | (exfalso; exact q1 ⟨by omega, (hsd (by omega)).mpr hP.2.2.1⟩)
        | (exfalso; exact a3 ((hcv (by omega) (by omega)).mp q2))
        | (exfalso; exact q2 ((hcv (by omega) (by omega)).mpr hP.2.2.2))
        | (subst hv; exact ⟨rfl, inv_nEq hn hI, sim_nEq hn (sim_code hS (by decide))⟩)
    · first
        | (exfalso; omega)
        | (exfalso; exact a2 ((hsd (by omega)).mp q1.2))
        | (exfalso; exact q1 ⟨by omega, (hsd (by omega)).mpr a2⟩)
        | (exfalso; exact q1 ⟨by omega, (hsd (by omega)).mpr hP.2.2.1⟩)
        | (exfalso; exact a3 ((hcv (by omega) (by omega)).mp q2))
        | (exfalso; exact q2 ((hcv (by omega) (by omega)).mpr hP.2.2.2))
    · first
        | (exfalso; omega)
        | (exfalso; exact a2 ((hsd (by omega)).mp q1.2))
        | (exfalso; exact q1 ⟨by omega, (hsd (by omega)).mpr a2⟩)
        | (exfalso; exact q1 ⟨by omega, (hsd (by omega)).mpr hP.2.2.1⟩)
        | (exfalso; exact a3 ((hcv (by omega) (by omega)).mp q2))
        | (exfalso; exact q2 ((hcv (by omega) (by omega)).mpr hP.2.2.2))
  · rcases hm with ⟨q0, hv⟩ | ⟨q0, q1, hv⟩ | ⟨q0, q1, q2, hv⟩ | ⟨q0, q1, q2, hv⟩
    · first
        | (exfalso; omega)
        | (exfalso; exact a2 ((hsd (by omega)).mp q1.2))
        | (exfalso; exact q1 ⟨by omega, (hsd (by omega)).mpr a2⟩)
        | (exfalso; exact q1 ⟨by omega, (hsd (by omega)).mpr hP.2.2.1⟩)
        | (exfalso; exact a3 ((hcv (by omega) (by omega)).mp q2))
        | (exfalso; exact q2 ((hcv (by omega) (by omega)).mpr hP.2.2.2))
    · first
        | (exfalso; omega)
        | (exfalso; exact a2 ((hsd (by omega)).mp q1.2))
        | (exfalso; exact q1 ⟨by omega, (hsd (by omega)).mpr a2⟩)
        | (exfalso; exact q1 ⟨by omega, (hsd (by omega)).mpr hP.2.2.1⟩)
        | (exfalso; exact a3 ((hcv (by omega) (by omega)).mp q2))
        | (exfalso; exact q2 ((hcv (by omega) (by omega)).mpr hP.2.2.2))
    · first
        | (exfalso; omega)
        | (exfalso; exact a2 ((hsd (by omega)).mp q1.2))
        | (exfalso; exact q1 ⟨by omega, (hsd (by omega)).mpr a2⟩)
        | (exfalso; exact q1 ⟨by omega, (hsd (by omega)).mpr hP.2.2.1⟩)
        | (exfalso; exact a3 ((hcv (by omega) (by omega)).mp q2))
        | (exfalso; exact q2 ((hcv (by omega) (by omega)).mpr hP.2.2.2))
        | (subst hv; exact ⟨rfl, inv_nEq hn hI, sim_nEq hn (sim_code hS (by decide))⟩)
    · first
        | (exfalso; omega)
        | (exfalso; exact a2 ((hsd (by omega)).mp q1.2))
        | (exfalso; exact q1 ⟨by omega, (hsd (by omega)).mpr a2⟩)
        | (exfalso; exact q1 ⟨by omega, (hsd (by omega)).mpr hP.2.2.1⟩)
        | (exfalso; exact a3 ((hcv (by omega) (by omega)).mp q2))
        | (exfalso; exact q2 ((hcv (by omega) (by omega)).mpr hP.2.2.2))
  · rcases hm with ⟨q0, hv⟩ | ⟨q0, q1, hv⟩ | ⟨q0, q1, q2, hv⟩ | ⟨q0, q1, q2, hv⟩
    · first
        | (exfalso; omega)
        | (exfalso; exact a2 ((hsd (by omega)).mp q1.2))
        | (exfalso; exact q1 ⟨by omega, (hsd (by omega)).mpr a2⟩)
        | (exfalso; exact q1 ⟨by omega, (hsd (by omega)).mpr hP.2.2.1⟩)
        | (exfalso; exact a3 ((hcv (by omega) (by omega)).mp q2))
        | (exfalso; exact q2 ((hcv (by omega) (by omega)).mpr hP.2.2.2))
    · first
        | (exfalso; omega)
        | (exfalso; exact a2 ((hsd (by omega)).mp q1.2))
        | (exfalso; exact q1 ⟨by omega, (hsd (by omega)).mpr a2⟩)
        | (exfalso; exact q1 ⟨by omega, (hsd (by omega)).mpr hP.2.2.1⟩)
        | (exfalso; exact a3 ((hcv (by omega) (by omega)).mp q2))
        | (exfalso; exact q2 ((hcv (by omega) (by omega)).mpr hP.2.2.2))
    · first
        | (exfalso; omega)
        | (exfalso; exact a2 ((hsd (by omega)).mp q1.2))
        | (exfalso; exact q1 ⟨by omega, (hsd (by omega)).mpr a2⟩)
        | (exfalso; exact q1 ⟨by omega, (hsd (by omega)).mpr hP.2.2.1⟩)
        | (exfalso; exact a3 ((hcv (by omega) (by omega)).mp q2))
        | (exfalso; exact q2 ((hcv (by omega) (by omega)).mpr hP.2.2.2))
    · subst hv; subst hu
      have hf := hI.2.1.2.2.2.2.2.2
      have hk := (cov_iff (X := X) b 1).mp hP.2.2.2
      refine ⟨rfl, inv_st hI (chH_keep X b 1) (by omega) (by omega) (Or.inr (Or.inl rfl)) (fun c => ?_) (fun c c0 c1 => ?_), sim_st (sim_code (sim_X (fun k _ x y => chH_keep X b 1 k x y) hS) (by decide)) (by decide)⟩
      · rw [chH_10 hI.1, if_neg (c := X 1 b = 1 ∧ 8 ≤ c) (by omega)]
        by_cases h8 : 8 ≤ c
        · rw [if_pos h8, if_pos (c := (1 : Int) = 1 ∧ 8 ≤ c) (by omega)]; omega
        · rw [if_neg h8, if_neg (c := (1 : Int) = 1 ∧ 8 ≤ c) (by omega)]; omega
      · rw [chH_10 hI.1, if_pos c0]
        have h1 := hf c c0 c1
        have h2 := hk c c0 c1
        unfold neg
        split <;> omega
theorem ag_post {X Z u u' : St} {b d : Int} {k : Int} {ov : Int64} (r_b : rI b) (r_d : rI d) (hI : Inv X) (hS : Sim X Z) (hc : hP_post X b d k u ov) (hm : mP_post Z b d u') : u' 0 3 = k ∧ Inv u ∧ Sim u u' := by
  have g0 := rg_s0 hI.1
  have g1 := rg_s1 hI.1
  have g2 := rg_s2 hI.1
  obtain ⟨s0, s1, s2⟩ := hS.2.1
  have sb : 0 ≤ b ∧ b < X 0 0 → Z 1 b = X 1 b := fun z => (hS.2.2.1 b z.1 z.2).1
  have zs := rg_1 hI.1 b
  have hsd : 0 ≤ b ∧ b < X 0 0 → (msound Z b ↔ sound X b) := fun z => sim_sound hI.1 hS z
  have hcv : 0 ≤ b ∧ b < X 0 0 → (X 1 b = 0 ∨ X 1 b = 1) → (mcov Z b 0 1 ↔ (X 1 b = 1 ∨ covN (netX X b 1))) := fun z z1 => by
    by_cases e : X 1 b = 1
    · exact ⟨fun _ => Or.inl e, fun _ => sim_cov1 hI hS z e⟩
    · exact (sim_cov hI hS z (Or.inl rfl) e).trans ⟨Or.inr, fun w => w.elim (fun w => absurd w e) id⟩
  rcases hc with ⟨rfl, a0, hn⟩ | ⟨rfl, a0, a1, hn⟩ | ⟨rfl, a0, a1, a2, hn⟩ | ⟨rfl, a0, a1, a2, a3, hn⟩ | ⟨rfl, a0, a1, a2, a3, a4, hn⟩ | ⟨rfl, a0, a1, a2, a3, a4, a5, hn⟩ | ⟨rfl, hP, hu⟩
  · rcases hm with ⟨q0, hv⟩ | ⟨q0, q1, hv⟩ | ⟨q0, q1, q2, hv⟩ | ⟨q0, q1, q2, q3, hv⟩ | ⟨q0, q1, q2, q3, hv⟩
    · first
        | (exfalso; omega)
        | (exfalso; exact a3 ((hsd (by omega)).mp q2.2.1))
        | (exfalso; exact q2 ⟨by omega, (hsd (by omega)).mpr a3, by omega⟩)
        | (exfalso; exact q2 ⟨by omega, (hsd (by omega)).mpr hP.2.2.2.1, by omega⟩)
        | (exfalso; exact a5 ((hcv (by omega) (by omega)).mp q3))
        | (exfalso; exact q3 ((hcv (by omega) (by omega)).mpr hP.2.2.2.2.2))
        | (subst hv; exact ⟨rfl, inv_nEq hn hI, sim_nEq hn (sim_code hS (by decide))⟩)
    · first
        | (exfalso; omega)
        | (exfalso; exact a3 ((hsd (by omega)).mp q2.2.1))
        | (exfalso; exact q2 ⟨by omega, (hsd (by omega)).mpr a3, by omega⟩)
        | (exfalso; exact q2 ⟨by omega, (hsd (by omega)).mpr hP.2.2.2.1, by omega⟩)
        | (exfalso; exact a5 ((hcv (by omega) (by omega)).mp q3))
        | (exfalso; exact q3 ((hcv (by omega) (by omega)).mpr hP.2.2.2.2.2))
    · first
        | (exfalso; omega)
        | (exfalso; exact a3 ((hsd (by omega)).mp q2.2.1))
        | (exfalso; exact q2 ⟨by omega, (hsd (by omega)).mpr a3, by omega⟩)
        | (exfalso; exact q2 ⟨by omega, (hsd (by omega)).mpr hP.2.2.2.1, by omega⟩)
        | (exfalso; exact a5 ((hcv (by omega) (by omega)).mp q3))
        | (exfalso; exact q3 ((hcv (by omega) (by omega)).mpr hP.2.2.2.2.2))
    · first
        | (exfalso; omega)
        | (exfalso; exact a3 ((hsd (by omega)).mp q2.2.1))
        | (exfalso; exact q2 ⟨by omega, (hsd (by omega)).mpr a3, by omega⟩)
        | (exfalso; exact q2 ⟨by omega, (hsd (by omega)).mpr hP.2.2.2.1, by omega⟩)
        | (exfalso; exact a5 ((hcv (by omega) (by omega)).mp q3))
        | (exfalso; exact q3 ((hcv (by omega) (by omega)).mpr hP.2.2.2.2.2))
    · first
        | (exfalso; omega)
        | (exfalso; exact a3 ((hsd (by omega)).mp q2.2.1))
        | (exfalso; exact q2 ⟨by omega, (hsd (by omega)).mpr a3, by omega⟩)
        | (exfalso; exact q2 ⟨by omega, (hsd (by omega)).mpr hP.2.2.2.1, by omega⟩)
        | (exfalso; exact a5 ((hcv (by omega) (by omega)).mp q3))
        | (exfalso; exact q3 ((hcv (by omega) (by omega)).mpr hP.2.2.2.2.2))
  · rcases hm with ⟨q0, hv⟩ | ⟨q0, q1, hv⟩ | ⟨q0, q1, q2, hv⟩ | ⟨q0, q1, q2, q3, hv⟩ | ⟨q0, q1, q2, q3, hv⟩
    · first
        | (exfalso; omega)
        | (exfalso; exact a3 ((hsd (by omega)).mp q2.2.1))
        | (exfalso; exact q2 ⟨by omega, (hsd (by omega)).mpr a3, by omega⟩)
        | (exfalso; exact q2 ⟨by omega, (hsd (by omega)).mpr hP.2.2.2.1, by omega⟩)
        | (exfalso; exact a5 ((hcv (by omega) (by omega)).mp q3))
        | (exfalso; exact q3 ((hcv (by omega) (by omega)).mpr hP.2.2.2.2.2))
    · first
        | (exfalso; omega)
        | (exfalso; exact a3 ((hsd (by omega)).mp q2.2.1))
        | (exfalso; exact q2 ⟨by omega, (hsd (by omega)).mpr a3, by omega⟩)
        | (exfalso; exact q2 ⟨by omega, (hsd (by omega)).mpr hP.2.2.2.1, by omega⟩)
        | (exfalso; exact a5 ((hcv (by omega) (by omega)).mp q3))
        | (exfalso; exact q3 ((hcv (by omega) (by omega)).mpr hP.2.2.2.2.2))
        | (subst hv; exact ⟨rfl, inv_nEq hn hI, sim_nEq hn (sim_code hS (by decide))⟩)
    · first
        | (exfalso; omega)
        | (exfalso; exact a3 ((hsd (by omega)).mp q2.2.1))
        | (exfalso; exact q2 ⟨by omega, (hsd (by omega)).mpr a3, by omega⟩)
        | (exfalso; exact q2 ⟨by omega, (hsd (by omega)).mpr hP.2.2.2.1, by omega⟩)
        | (exfalso; exact a5 ((hcv (by omega) (by omega)).mp q3))
        | (exfalso; exact q3 ((hcv (by omega) (by omega)).mpr hP.2.2.2.2.2))
    · first
        | (exfalso; omega)
        | (exfalso; exact a3 ((hsd (by omega)).mp q2.2.1))
        | (exfalso; exact q2 ⟨by omega, (hsd (by omega)).mpr a3, by omega⟩)
        | (exfalso; exact q2 ⟨by omega, (hsd (by omega)).mpr hP.2.2.2.1, by omega⟩)
        | (exfalso; exact a5 ((hcv (by omega) (by omega)).mp q3))
        | (exfalso; exact q3 ((hcv (by omega) (by omega)).mpr hP.2.2.2.2.2))
    · first
        | (exfalso; omega)
        | (exfalso; exact a3 ((hsd (by omega)).mp q2.2.1))
        | (exfalso; exact q2 ⟨by omega, (hsd (by omega)).mpr a3, by omega⟩)
        | (exfalso; exact q2 ⟨by omega, (hsd (by omega)).mpr hP.2.2.2.1, by omega⟩)
        | (exfalso; exact a5 ((hcv (by omega) (by omega)).mp q3))
        | (exfalso; exact q3 ((hcv (by omega) (by omega)).mpr hP.2.2.2.2.2))
  · rcases hm with ⟨q0, hv⟩ | ⟨q0, q1, hv⟩ | ⟨q0, q1, q2, hv⟩ | ⟨q0, q1, q2, q3, hv⟩ | ⟨q0, q1, q2, q3, hv⟩
    · first
        | (exfalso; omega)
        | (exfalso; exact a3 ((hsd (by omega)).mp q2.2.1))
        | (exfalso; exact q2 ⟨by omega, (hsd (by omega)).mpr a3, by omega⟩)
        | (exfalso; exact q2 ⟨by omega, (hsd (by omega)).mpr hP.2.2.2.1, by omega⟩)
        | (exfalso; exact a5 ((hcv (by omega) (by omega)).mp q3))
        | (exfalso; exact q3 ((hcv (by omega) (by omega)).mpr hP.2.2.2.2.2))
    · first
        | (exfalso; omega)
        | (exfalso; exact a3 ((hsd (by omega)).mp q2.2.1))
        | (exfalso; exact q2 ⟨by omega, (hsd (by omega)).mpr a3, by omega⟩)
        | (exfalso; exact q2 ⟨by omega, (hsd (by omega)).mpr hP.2.2.2.1, by omega⟩)
        | (exfalso; exact a5 ((hcv (by omega) (by omega)).mp q3))
        | (exfalso; exact q3 ((hcv (by omega) (by omega)).mpr hP.2.2.2.2.2))
    · first
        | (exfalso; omega)
        | (exfalso; exact a3 ((hsd (by omega)).mp q2.2.1))
        | (exfalso; exact q2 ⟨by omega, (hsd (by omega)).mpr a3, by omega⟩)
        | (exfalso; exact q2 ⟨by omega, (hsd (by omega)).mpr hP.2.2.2.1, by omega⟩)
        | (exfalso; exact a5 ((hcv (by omega) (by omega)).mp q3))
        | (exfalso; exact q3 ((hcv (by omega) (by omega)).mpr hP.2.2.2.2.2))
        | (subst hv; exact ⟨rfl, inv_nEq hn hI, sim_nEq hn (sim_code hS (by decide))⟩)
    · first
        | (exfalso; omega)
        | (exfalso; exact a3 ((hsd (by omega)).mp q2.2.1))
        | (exfalso; exact q2 ⟨by omega, (hsd (by omega)).mpr a3, by omega⟩)
        | (exfalso; exact q2 ⟨by omega, (hsd (by omega)).mpr hP.2.2.2.1, by omega⟩)
        | (exfalso; exact a5 ((hcv (by omega) (by omega)).mp q3))
        | (exfalso; exact q3 ((hcv (by omega) (by omega)).mpr hP.2.2.2.2.2))
    · first
        | (exfalso; omega)
        | (exfalso; exact a3 ((hsd (by omega)).mp q2.2.1))
        | (exfalso; exact q2 ⟨by omega, (hsd (by omega)).mpr a3, by omega⟩)
        | (exfalso; exact q2 ⟨by omega, (hsd (by omega)).mpr hP.2.2.2.1, by omega⟩)
        | (exfalso; exact a5 ((hcv (by omega) (by omega)).mp q3))
        | (exfalso; exact q3 ((hcv (by omega) (by omega)).mpr hP.2.2.2.2.2))
  · rcases hm with ⟨q0, hv⟩ | ⟨q0, q1, hv⟩ | ⟨q0, q1, q2, hv⟩ | ⟨q0, q1, q2, q3, hv⟩ | ⟨q0, q1, q2, q3, hv⟩
    · first
        | (exfalso; omega)
        | (exfalso; exact a3 ((hsd (by omega)).mp q2.2.1))
        | (exfalso; exact q2 ⟨by omega, (hsd (by omega)).mpr a3, by omega⟩)
        | (exfalso; exact q2 ⟨by omega, (hsd (by omega)).mpr hP.2.2.2.1, by omega⟩)
        | (exfalso; exact a5 ((hcv (by omega) (by omega)).mp q3))
        | (exfalso; exact q3 ((hcv (by omega) (by omega)).mpr hP.2.2.2.2.2))
    · first
        | (exfalso; omega)
        | (exfalso; exact a3 ((hsd (by omega)).mp q2.2.1))
        | (exfalso; exact q2 ⟨by omega, (hsd (by omega)).mpr a3, by omega⟩)
        | (exfalso; exact q2 ⟨by omega, (hsd (by omega)).mpr hP.2.2.2.1, by omega⟩)
        | (exfalso; exact a5 ((hcv (by omega) (by omega)).mp q3))
        | (exfalso; exact q3 ((hcv (by omega) (by omega)).mpr hP.2.2.2.2.2))
    · first
        | (exfalso; omega)
        | (exfalso; exact a3 ((hsd (by omega)).mp q2.2.1))
        | (exfalso; exact q2 ⟨by omega, (hsd (by omega)).mpr a3, by omega⟩)
        | (exfalso; exact q2 ⟨by omega, (hsd (by omega)).mpr hP.2.2.2.1, by omega⟩)
        | (exfalso; exact a5 ((hcv (by omega) (by omega)).mp q3))
        | (exfalso; exact q3 ((hcv (by omega) (by omega)).mpr hP.2.2.2.2.2))
        | (subst hv; exact ⟨rfl, inv_nEq hn hI, sim_nEq hn (sim_code hS (by decide))⟩)
    · first
        | (exfalso; omega)
        | (exfalso; exact a3 ((hsd (by omega)).mp q2.2.1))
        | (exfalso; exact q2 ⟨by omega, (hsd (by omega)).mpr a3, by omega⟩)
        | (exfalso; exact q2 ⟨by omega, (hsd (by omega)).mpr hP.2.2.2.1, by omega⟩)
        | (exfalso; exact a5 ((hcv (by omega) (by omega)).mp q3))
        | (exfalso; exact q3 ((hcv (by omega) (by omega)).mpr hP.2.2.2.2.2))
    · first
        | (exfalso; omega)
        | (exfalso; exact a3 ((hsd (by omega)).mp q2.2.1))
        | (exfalso; exact q2 ⟨by omega, (hsd (by omega)).mpr a3, by omega⟩)
        | (exfalso; exact q2 ⟨by omega, (hsd (by omega)).mpr hP.2.2.2.1, by omega⟩)
        | (exfalso; exact a5 ((hcv (by omega) (by omega)).mp q3))
        | (exfalso; exact q3 ((hcv (by omega) (by omega)).mpr hP.2.2.2.2.2))
  · rcases hm with ⟨q0, hv⟩ | ⟨q0, q1, hv⟩ | ⟨q0, q1, q2, hv⟩ | ⟨q0, q1, q2, q3, hv⟩ | ⟨q0, q1, q2, q3, hv⟩
    · first
        | (exfalso; omega)
        | (exfalso; exact a3 ((hsd (by omega)).mp q2.2.1))
        | (exfalso; exact q2 ⟨by omega, (hsd (by omega)).mpr a3, by omega⟩)
        | (exfalso; exact q2 ⟨by omega, (hsd (by omega)).mpr hP.2.2.2.1, by omega⟩)
        | (exfalso; exact a5 ((hcv (by omega) (by omega)).mp q3))
        | (exfalso; exact q3 ((hcv (by omega) (by omega)).mpr hP.2.2.2.2.2))
    · first
        | (exfalso; omega)
        | (exfalso; exact a3 ((hsd (by omega)).mp q2.2.1))
        | (exfalso; exact q2 ⟨by omega, (hsd (by omega)).mpr a3, by omega⟩)
        | (exfalso; exact q2 ⟨by omega, (hsd (by omega)).mpr hP.2.2.2.1, by omega⟩)
        | (exfalso; exact a5 ((hcv (by omega) (by omega)).mp q3))
        | (exfalso; exact q3 ((hcv (by omega) (by omega)).mpr hP.2.2.2.2.2))
    · first
        | (exfalso; omega)
        | (exfalso; exact a3 ((hsd (by omega)).mp q2.2.1))
        | (exfalso; exact q2 ⟨by omega, (hsd (by omega)).mpr a3, by omega⟩)
        | (exfalso; exact q2 ⟨by omega, (hsd (by omega)).mpr hP.2.2.2.1, by omega⟩)
        | (exfalso; exact a5 ((hcv (by omega) (by omega)).mp q3))
        | (exfalso; exact q3 ((hcv (by omega) (by omega)).mpr hP.2.2.2.2.2))
        | (subst hv; exact ⟨rfl, inv_nEq hn hI, sim_nEq hn (sim_code hS (by decide))⟩)
    · first
        | (exfalso; omega)
        | (exfalso; exact a3 ((hsd (by omega)).mp q2.2.1))
        | (exfalso; exact q2 ⟨by omega, (hsd (by omega)).mpr a3, by omega⟩)
        | (exfalso; exact q2 ⟨by omega, (hsd (by omega)).mpr hP.2.2.2.1, by omega⟩)
        | (exfalso; exact a5 ((hcv (by omega) (by omega)).mp q3))
        | (exfalso; exact q3 ((hcv (by omega) (by omega)).mpr hP.2.2.2.2.2))
    · first
        | (exfalso; omega)
        | (exfalso; exact a3 ((hsd (by omega)).mp q2.2.1))
        | (exfalso; exact q2 ⟨by omega, (hsd (by omega)).mpr a3, by omega⟩)
        | (exfalso; exact q2 ⟨by omega, (hsd (by omega)).mpr hP.2.2.2.1, by omega⟩)
        | (exfalso; exact a5 ((hcv (by omega) (by omega)).mp q3))
        | (exfalso; exact q3 ((hcv (by omega) (by omega)).mpr hP.2.2.2.2.2))
  · rcases hm with ⟨q0, hv⟩ | ⟨q0, q1, hv⟩ | ⟨q0, q1, q2, hv⟩ | ⟨q0, q1, q2, q3, hv⟩ | ⟨q0, q1, q2, q3, hv⟩
    · first
        | (exfalso; omega)
        | (exfalso; exact a3 ((hsd (by omega)).mp q2.2.1))
        | (exfalso; exact q2 ⟨by omega, (hsd (by omega)).mpr a3, by omega⟩)
        | (exfalso; exact q2 ⟨by omega, (hsd (by omega)).mpr hP.2.2.2.1, by omega⟩)
        | (exfalso; exact a5 ((hcv (by omega) (by omega)).mp q3))
        | (exfalso; exact q3 ((hcv (by omega) (by omega)).mpr hP.2.2.2.2.2))
    · first
        | (exfalso; omega)
        | (exfalso; exact a3 ((hsd (by omega)).mp q2.2.1))
        | (exfalso; exact q2 ⟨by omega, (hsd (by omega)).mpr a3, by omega⟩)
        | (exfalso; exact q2 ⟨by omega, (hsd (by omega)).mpr hP.2.2.2.1, by omega⟩)
        | (exfalso; exact a5 ((hcv (by omega) (by omega)).mp q3))
        | (exfalso; exact q3 ((hcv (by omega) (by omega)).mpr hP.2.2.2.2.2))
    · first
        | (exfalso; omega)
        | (exfalso; exact a3 ((hsd (by omega)).mp q2.2.1))
        | (exfalso; exact q2 ⟨by omega, (hsd (by omega)).mpr a3, by omega⟩)
        | (exfalso; exact q2 ⟨by omega, (hsd (by omega)).mpr hP.2.2.2.1, by omega⟩)
        | (exfalso; exact a5 ((hcv (by omega) (by omega)).mp q3))
        | (exfalso; exact q3 ((hcv (by omega) (by omega)).mpr hP.2.2.2.2.2))
    · first
        | (exfalso; omega)
        | (exfalso; exact a3 ((hsd (by omega)).mp q2.2.1))
        | (exfalso; exact q2 ⟨by omega, (hsd (by omega)).mpr a3, by omega⟩)
        | (exfalso; exact q2 ⟨by omega, (hsd (by omega)).mpr hP.2.2.2.1, by omega⟩)
        | (exfalso; exact a5 ((hcv (by omega) (by omega)).mp q3))
        | (exfalso; exact q3 ((hcv (by omega) (by omega)).mpr hP.2.2.2.2.2))
        | (subst hv; exact ⟨rfl, inv_nEq hn hI, sim_nEq hn (sim_code hS (by decide))⟩)
    · first
        | (exfalso; omega)
        | (exfalso; exact a3 ((hsd (by omega)).mp q2.2.1))
        | (exfalso; exact q2 ⟨by omega, (hsd (by omega)).mpr a3, by omega⟩)
        | (exfalso; exact q2 ⟨by omega, (hsd (by omega)).mpr hP.2.2.2.1, by omega⟩)
        | (exfalso; exact a5 ((hcv (by omega) (by omega)).mp q3))
        | (exfalso; exact q3 ((hcv (by omega) (by omega)).mpr hP.2.2.2.2.2))
  · rcases hm with ⟨q0, hv⟩ | ⟨q0, q1, hv⟩ | ⟨q0, q1, q2, hv⟩ | ⟨q0, q1, q2, q3, hv⟩ | ⟨q0, q1, q2, q3, hv⟩
    · first
        | (exfalso; omega)
        | (exfalso; exact a3 ((hsd (by omega)).mp q2.2.1))
        | (exfalso; exact q2 ⟨by omega, (hsd (by omega)).mpr a3, by omega⟩)
        | (exfalso; exact q2 ⟨by omega, (hsd (by omega)).mpr hP.2.2.2.1, by omega⟩)
        | (exfalso; exact a5 ((hcv (by omega) (by omega)).mp q3))
        | (exfalso; exact q3 ((hcv (by omega) (by omega)).mpr hP.2.2.2.2.2))
    · first
        | (exfalso; omega)
        | (exfalso; exact a3 ((hsd (by omega)).mp q2.2.1))
        | (exfalso; exact q2 ⟨by omega, (hsd (by omega)).mpr a3, by omega⟩)
        | (exfalso; exact q2 ⟨by omega, (hsd (by omega)).mpr hP.2.2.2.1, by omega⟩)
        | (exfalso; exact a5 ((hcv (by omega) (by omega)).mp q3))
        | (exfalso; exact q3 ((hcv (by omega) (by omega)).mpr hP.2.2.2.2.2))
    · first
        | (exfalso; omega)
        | (exfalso; exact a3 ((hsd (by omega)).mp q2.2.1))
        | (exfalso; exact q2 ⟨by omega, (hsd (by omega)).mpr a3, by omega⟩)
        | (exfalso; exact q2 ⟨by omega, (hsd (by omega)).mpr hP.2.2.2.1, by omega⟩)
        | (exfalso; exact a5 ((hcv (by omega) (by omega)).mp q3))
        | (exfalso; exact q3 ((hcv (by omega) (by omega)).mpr hP.2.2.2.2.2))
    · first
        | (exfalso; omega)
        | (exfalso; exact a3 ((hsd (by omega)).mp q2.2.1))
        | (exfalso; exact q2 ⟨by omega, (hsd (by omega)).mpr a3, by omega⟩)
        | (exfalso; exact q2 ⟨by omega, (hsd (by omega)).mpr hP.2.2.2.1, by omega⟩)
        | (exfalso; exact a5 ((hcv (by omega) (by omega)).mp q3))
        | (exfalso; exact q3 ((hcv (by omega) (by omega)).mpr hP.2.2.2.2.2))
    · subst hv
      have hf := hI.2.1.2.2.2.2.2.2
      have hlt := inv_lt hI (b := b) ⟨by omega, by omega, by omega⟩
      rcases hu with ⟨h1, hu⟩ | ⟨h1, hu⟩
      · subst hu
        refine ⟨rfl, inv_pst hI (chH_keep X b (-1)) (by omega) (by omega) (by omega) (fun c => ?_) (fun c c0 c1 => ?_), sim_pst (sim_code (sim_X (fun k _ x y => chH_keep X b (-1) k x y) hS) (by decide)) (by omega) (by omega) (by rw [chH_keep X b (-1) 0 (by decide) (by decide)]; exact hlt)⟩
        · rw [chH_10 hI.1]
          by_cases h8 : 8 ≤ c
          · rw [if_pos h8, if_pos (c := X 1 b = 1 ∧ 8 ≤ c) (by omega)]; omega
          · rw [if_neg h8, if_neg (c := X 1 b = 1 ∧ 8 ≤ c) (by omega)]; omega
        · rw [chH_10 hI.1, if_pos c0]
          have h2 := hf c c0 c1
          have h3 := neg_ge (netC X b c)
          omega
      · subst hu
        have hk : ∀ c : Int, 8 ≤ c → c < 128 → 0 ≤ X 9 c - X 10 c + 1 * netC X b c := by
          rcases hP.2.2.2.2.2 with z | z
          · exfalso; omega
          · exact (cov_iff (X := X) b 1).mp z
        refine ⟨rfl, inv_pst hI (fun k _ y => netX_keep X b 1 k y) (by omega) (by omega) (by omega) (fun c => ?_) (fun c c0 c1 => ?_), sim_pst (sim_code (sim_nEq (netX_keep X b 1) hS) (by decide)) (by omega) (by omega) (by rw [netX_keep X b 1 0 (by decide)]; exact hlt)⟩
        · rw [netX_keep X b 1 10 (by decide), if_neg (by omega)]; omega
        · rw [netX_keep X b 1 10 (by decide)]
          have := hk c c0 c1
          omega
theorem ag_reverse {X Z u u' : St} {b d : Int} {k : Int} {ov : Int64} {r : Int32} (r_b : rI b) (r_d : rI d) (hI : Inv X) (hS : Sim X Z) (hc : hP_reverse X b d k u ov) (hm : mP_reverse Z b d r u') : u' 0 3 = k ∧ (k = 0 → ov = r.toInt64) ∧ Inv u ∧ Sim u u' := by
  have g0 := rg_s0 hI.1
  have g1 := rg_s1 hI.1
  have g2 := rg_s2 hI.1
  obtain ⟨s0, s1, s2⟩ := hS.2.1
  have sb : 0 ≤ b ∧ b < X 0 0 → Z 1 b = X 1 b ∧ Z 3 b = X 3 b := fun z => ⟨(hS.2.2.1 b z.1 z.2).1, (hS.2.2.1 b z.1 z.2).2.2.1⟩
  have hcv : 0 ≤ b ∧ b < X 0 0 → X 1 b = 2 → (mcov Z b 0 (-1) ↔ covN (netX X b (-1))) := fun z z1 => sim_cov hI hS z (Or.inl rfl) (by omega)
  rcases hc with ⟨rfl, a0, hn⟩ | ⟨rfl, a0, a1, hn⟩ | ⟨rfl, a0, a1, a2, hn⟩ | ⟨rfl, a0, a1, a2, a3, hn⟩ | ⟨rfl, a0, a1, a2, a3, a4, hn⟩ | ⟨rfl, a0, a1, a2, a3, a4, a5, hn⟩ | ⟨rfl, a0, a1, a2, a3, a4, a5, a6, hn⟩ | ⟨rfl, r0, ⟨hP, hr, hu⟩, ho⟩
  · rcases hm with ⟨q0, hv, hw⟩ | ⟨q0, q1, hv, hw⟩ | ⟨q0, q1, q2, hv, hw⟩ | ⟨q0, q1, q2, q3, hv, hw⟩ | ⟨q0, q1, q2, q3, hv, hw⟩
    · first
        | (exfalso; omega)
        | (exfalso; exact a6 ((hcv (by omega) (by omega)).mp q3.2))
        | (exfalso; exact q3 ⟨by omega, (hcv (by omega) (by omega)).mpr hP.2.2.2.2.2.2⟩)
        | (subst hv; exact ⟨rfl, fun z => absurd z (by decide), inv_nEq hn hI, sim_nEq hn (sim_code hS (by decide))⟩)
    · first
        | (exfalso; omega)
        | (exfalso; exact a6 ((hcv (by omega) (by omega)).mp q3.2))
        | (exfalso; exact q3 ⟨by omega, (hcv (by omega) (by omega)).mpr hP.2.2.2.2.2.2⟩)
    · first
        | (exfalso; omega)
        | (exfalso; exact a6 ((hcv (by omega) (by omega)).mp q3.2))
        | (exfalso; exact q3 ⟨by omega, (hcv (by omega) (by omega)).mpr hP.2.2.2.2.2.2⟩)
    · first
        | (exfalso; omega)
        | (exfalso; exact a6 ((hcv (by omega) (by omega)).mp q3.2))
        | (exfalso; exact q3 ⟨by omega, (hcv (by omega) (by omega)).mpr hP.2.2.2.2.2.2⟩)
    · first
        | (exfalso; omega)
        | (exfalso; exact a6 ((hcv (by omega) (by omega)).mp q3.2))
        | (exfalso; exact q3 ⟨by omega, (hcv (by omega) (by omega)).mpr hP.2.2.2.2.2.2⟩)
  · rcases hm with ⟨q0, hv, hw⟩ | ⟨q0, q1, hv, hw⟩ | ⟨q0, q1, q2, hv, hw⟩ | ⟨q0, q1, q2, q3, hv, hw⟩ | ⟨q0, q1, q2, q3, hv, hw⟩
    · first
        | (exfalso; omega)
        | (exfalso; exact a6 ((hcv (by omega) (by omega)).mp q3.2))
        | (exfalso; exact q3 ⟨by omega, (hcv (by omega) (by omega)).mpr hP.2.2.2.2.2.2⟩)
    · first
        | (exfalso; omega)
        | (exfalso; exact a6 ((hcv (by omega) (by omega)).mp q3.2))
        | (exfalso; exact q3 ⟨by omega, (hcv (by omega) (by omega)).mpr hP.2.2.2.2.2.2⟩)
        | (subst hv; exact ⟨rfl, fun z => absurd z (by decide), inv_nEq hn hI, sim_nEq hn (sim_code hS (by decide))⟩)
    · first
        | (exfalso; omega)
        | (exfalso; exact a6 ((hcv (by omega) (by omega)).mp q3.2))
        | (exfalso; exact q3 ⟨by omega, (hcv (by omega) (by omega)).mpr hP.2.2.2.2.2.2⟩)
    · first
        | (exfalso; omega)
        | (exfalso; exact a6 ((hcv (by omega) (by omega)).mp q3.2))
        | (exfalso; exact q3 ⟨by omega, (hcv (by omega) (by omega)).mpr hP.2.2.2.2.2.2⟩)
    · first
        | (exfalso; omega)
        | (exfalso; exact a6 ((hcv (by omega) (by omega)).mp q3.2))
        | (exfalso; exact q3 ⟨by omega, (hcv (by omega) (by omega)).mpr hP.2.2.2.2.2.2⟩)
  · rcases hm with ⟨q0, hv, hw⟩ | ⟨q0, q1, hv, hw⟩ | ⟨q0, q1, q2, hv, hw⟩ | ⟨q0, q1, q2, q3, hv, hw⟩ | ⟨q0, q1, q2, q3, hv, hw⟩
    · first
        | (exfalso; omega)
        | (exfalso; exact a6 ((hcv (by omega) (by omega)).mp q3.2))
        | (exfalso; exact q3 ⟨by omega, (hcv (by omega) (by omega)).mpr hP.2.2.2.2.2.2⟩)
    · first
        | (exfalso; omega)
        | (exfalso; exact a6 ((hcv (by omega) (by omega)).mp q3.2))
        | (exfalso; exact q3 ⟨by omega, (hcv (by omega) (by omega)).mpr hP.2.2.2.2.2.2⟩)
    · first
        | (exfalso; omega)
        | (exfalso; exact a6 ((hcv (by omega) (by omega)).mp q3.2))
        | (exfalso; exact q3 ⟨by omega, (hcv (by omega) (by omega)).mpr hP.2.2.2.2.2.2⟩)
        | (subst hv; exact ⟨rfl, fun z => absurd z (by decide), inv_nEq hn hI, sim_nEq hn (sim_code hS (by decide))⟩)
    · first
        | (exfalso; omega)
        | (exfalso; exact a6 ((hcv (by omega) (by omega)).mp q3.2))
        | (exfalso; exact q3 ⟨by omega, (hcv (by omega) (by omega)).mpr hP.2.2.2.2.2.2⟩)
    · first
        | (exfalso; omega)
        | (exfalso; exact a6 ((hcv (by omega) (by omega)).mp q3.2))
        | (exfalso; exact q3 ⟨by omega, (hcv (by omega) (by omega)).mpr hP.2.2.2.2.2.2⟩)
  · rcases hm with ⟨q0, hv, hw⟩ | ⟨q0, q1, hv, hw⟩ | ⟨q0, q1, q2, hv, hw⟩ | ⟨q0, q1, q2, q3, hv, hw⟩ | ⟨q0, q1, q2, q3, hv, hw⟩
    · first
        | (exfalso; omega)
        | (exfalso; exact a6 ((hcv (by omega) (by omega)).mp q3.2))
        | (exfalso; exact q3 ⟨by omega, (hcv (by omega) (by omega)).mpr hP.2.2.2.2.2.2⟩)
    · first
        | (exfalso; omega)
        | (exfalso; exact a6 ((hcv (by omega) (by omega)).mp q3.2))
        | (exfalso; exact q3 ⟨by omega, (hcv (by omega) (by omega)).mpr hP.2.2.2.2.2.2⟩)
    · first
        | (exfalso; omega)
        | (exfalso; exact a6 ((hcv (by omega) (by omega)).mp q3.2))
        | (exfalso; exact q3 ⟨by omega, (hcv (by omega) (by omega)).mpr hP.2.2.2.2.2.2⟩)
        | (subst hv; exact ⟨rfl, fun z => absurd z (by decide), inv_nEq hn hI, sim_nEq hn (sim_code hS (by decide))⟩)
    · first
        | (exfalso; omega)
        | (exfalso; exact a6 ((hcv (by omega) (by omega)).mp q3.2))
        | (exfalso; exact q3 ⟨by omega, (hcv (by omega) (by omega)).mpr hP.2.2.2.2.2.2⟩)
    · first
        | (exfalso; omega)
        | (exfalso; exact a6 ((hcv (by omega) (by omega)).mp q3.2))
        | (exfalso; exact q3 ⟨by omega, (hcv (by omega) (by omega)).mpr hP.2.2.2.2.2.2⟩)
  · rcases hm with ⟨q0, hv, hw⟩ | ⟨q0, q1, hv, hw⟩ | ⟨q0, q1, q2, hv, hw⟩ | ⟨q0, q1, q2, q3, hv, hw⟩ | ⟨q0, q1, q2, q3, hv, hw⟩
    · first
        | (exfalso; omega)
        | (exfalso; exact a6 ((hcv (by omega) (by omega)).mp q3.2))
        | (exfalso; exact q3 ⟨by omega, (hcv (by omega) (by omega)).mpr hP.2.2.2.2.2.2⟩)
    · first
        | (exfalso; omega)
        | (exfalso; exact a6 ((hcv (by omega) (by omega)).mp q3.2))
        | (exfalso; exact q3 ⟨by omega, (hcv (by omega) (by omega)).mpr hP.2.2.2.2.2.2⟩)
    · first
        | (exfalso; omega)
        | (exfalso; exact a6 ((hcv (by omega) (by omega)).mp q3.2))
        | (exfalso; exact q3 ⟨by omega, (hcv (by omega) (by omega)).mpr hP.2.2.2.2.2.2⟩)
        | (subst hv; exact ⟨rfl, fun z => absurd z (by decide), inv_nEq hn hI, sim_nEq hn (sim_code hS (by decide))⟩)
    · first
        | (exfalso; omega)
        | (exfalso; exact a6 ((hcv (by omega) (by omega)).mp q3.2))
        | (exfalso; exact q3 ⟨by omega, (hcv (by omega) (by omega)).mpr hP.2.2.2.2.2.2⟩)
    · first
        | (exfalso; omega)
        | (exfalso; exact a6 ((hcv (by omega) (by omega)).mp q3.2))
        | (exfalso; exact q3 ⟨by omega, (hcv (by omega) (by omega)).mpr hP.2.2.2.2.2.2⟩)
  · rcases hm with ⟨q0, hv, hw⟩ | ⟨q0, q1, hv, hw⟩ | ⟨q0, q1, q2, hv, hw⟩ | ⟨q0, q1, q2, q3, hv, hw⟩ | ⟨q0, q1, q2, q3, hv, hw⟩
    · first
        | (exfalso; omega)
        | (exfalso; exact a6 ((hcv (by omega) (by omega)).mp q3.2))
        | (exfalso; exact q3 ⟨by omega, (hcv (by omega) (by omega)).mpr hP.2.2.2.2.2.2⟩)
    · first
        | (exfalso; omega)
        | (exfalso; exact a6 ((hcv (by omega) (by omega)).mp q3.2))
        | (exfalso; exact q3 ⟨by omega, (hcv (by omega) (by omega)).mpr hP.2.2.2.2.2.2⟩)
    · first
        | (exfalso; omega)
        | (exfalso; exact a6 ((hcv (by omega) (by omega)).mp q3.2))
        | (exfalso; exact q3 ⟨by omega, (hcv (by omega) (by omega)).mpr hP.2.2.2.2.2.2⟩)
    · first
        | (exfalso; omega)
        | (exfalso; exact a6 ((hcv (by omega) (by omega)).mp q3.2))
        | (exfalso; exact q3 ⟨by omega, (hcv (by omega) (by omega)).mpr hP.2.2.2.2.2.2⟩)
        | (subst hv; exact ⟨rfl, fun z => absurd z (by decide), inv_nEq hn hI, sim_nEq hn (sim_code hS (by decide))⟩)
    · first
        | (exfalso; omega)
        | (exfalso; exact a6 ((hcv (by omega) (by omega)).mp q3.2))
        | (exfalso; exact q3 ⟨by omega, (hcv (by omega) (by omega)).mpr hP.2.2.2.2.2.2⟩)
  · rcases hm with ⟨q0, hv, hw⟩ | ⟨q0, q1, hv, hw⟩ | ⟨q0, q1, q2, hv, hw⟩ | ⟨q0, q1, q2, q3, hv, hw⟩ | ⟨q0, q1, q2, q3, hv, hw⟩
    · first
        | (exfalso; omega)
        | (exfalso; exact a6 ((hcv (by omega) (by omega)).mp q3.2))
        | (exfalso; exact q3 ⟨by omega, (hcv (by omega) (by omega)).mpr hP.2.2.2.2.2.2⟩)
    · first
        | (exfalso; omega)
        | (exfalso; exact a6 ((hcv (by omega) (by omega)).mp q3.2))
        | (exfalso; exact q3 ⟨by omega, (hcv (by omega) (by omega)).mpr hP.2.2.2.2.2.2⟩)
    · first
        | (exfalso; omega)
        | (exfalso; exact a6 ((hcv (by omega) (by omega)).mp q3.2))
        | (exfalso; exact q3 ⟨by omega, (hcv (by omega) (by omega)).mpr hP.2.2.2.2.2.2⟩)
    · first
        | (exfalso; omega)
        | (exfalso; exact a6 ((hcv (by omega) (by omega)).mp q3.2))
        | (exfalso; exact q3 ⟨by omega, (hcv (by omega) (by omega)).mpr hP.2.2.2.2.2.2⟩)
        | (subst hv; exact ⟨rfl, fun z => absurd z (by decide), inv_nEq hn hI, sim_nEq hn (sim_code hS (by decide))⟩)
    · first
        | (exfalso; omega)
        | (exfalso; exact a6 ((hcv (by omega) (by omega)).mp q3.2))
        | (exfalso; exact q3 ⟨by omega, (hcv (by omega) (by omega)).mpr hP.2.2.2.2.2.2⟩)
  · rcases hm with ⟨q0, hv, hw⟩ | ⟨q0, q1, hv, hw⟩ | ⟨q0, q1, q2, hv, hw⟩ | ⟨q0, q1, q2, q3, hv, hw⟩ | ⟨q0, q1, q2, q3, hv, hw⟩
    · first
        | (exfalso; omega)
        | (exfalso; exact a6 ((hcv (by omega) (by omega)).mp q3.2))
        | (exfalso; exact q3 ⟨by omega, (hcv (by omega) (by omega)).mpr hP.2.2.2.2.2.2⟩)
    · first
        | (exfalso; omega)
        | (exfalso; exact a6 ((hcv (by omega) (by omega)).mp q3.2))
        | (exfalso; exact q3 ⟨by omega, (hcv (by omega) (by omega)).mpr hP.2.2.2.2.2.2⟩)
    · first
        | (exfalso; omega)
        | (exfalso; exact a6 ((hcv (by omega) (by omega)).mp q3.2))
        | (exfalso; exact q3 ⟨by omega, (hcv (by omega) (by omega)).mpr hP.2.2.2.2.2.2⟩)
    · first
        | (exfalso; omega)
        | (exfalso; exact a6 ((hcv (by omega) (by omega)).mp q3.2))
        | (exfalso; exact q3 ⟨by omega, (hcv (by omega) (by omega)).mpr hP.2.2.2.2.2.2⟩)
    · subst hv; subst hw; subst hr; subst hu
      have hk := (cov_iff (X := X) b (-1)).mp hP.2.2.2.2.2.2
      have e : nEq (netX X b (-1)) X := netX_keep X b (-1)
      have hle := inv_le hI
      refine ⟨mR_03 _ _ _, fun _ => by rw [ho, s0], ?_, ?_⟩
      · refine inv_rev (inv_nEq e hI) (by rw [e 0 (by decide)]; omega) (by rw [e 1 (by decide)]; omega) (by omega) (by rw [e 0 (by decide)]; omega) (fun c c0 c1 => ?_)
        rw [e 9 (by decide), e 10 (by decide), netC_k (e 2 (by decide)) (e 6 (by decide)) (e 7 (by decide))]
        have := hk c c0 c1
        omega
      · exact sim_rev (inv_nEq e hI).1 (sim_code (sim_nEq e hS) (by decide)) (by rw [e 0 (by decide)]; omega) (by omega) (by rw [e 0 (by decide)]; omega) (by rw [e 0 (by decide)]; omega)
theorem fd_eqI {X Z : St} {a i b : Int} (hb : 0 ≤ b) : ∀ (n : Nat) (k t : Int), 0 ≤ k → t ≤ i → (∀ q, k ≤ q → q < k + n → (X 6 (b * 8 + q) / 8 = a ↔ Z 6 (8 * b + q) = a)) → (fdI X a i b k n t).1 = (mfI Z a (8 * b + k) n (i - t)).1 ∧ ((fdI X a i b k n t).1 = -1 → (mfI Z a (8 * b + k) n (i - t)).2 = i - (fdI X a i b k n t).2 ∧ (fdI X a i b k n t).2 ≤ i)
  | 0, k, t, _, ht, _ => ⟨rfl, fun _ => ⟨rfl, ht⟩⟩
  | n + 1, k, t, hk, ht, h => by
    have h0 := h k (by omega) (by omega)
    by_cases c1 : X 6 (b * 8 + k) / 8 = a
    · by_cases c2 : t = i
      · rw [fdI_hit c1 c2, mfI_hit (h0.mp c1) (by omega)]
        exact ⟨by show b * 8 + k = 8 * b + k; omega, fun z => by have : b * 8 + k = -1 := z; omega⟩
      · rw [fdI_next c1 c2, mfI_next (h0.mp c1) (by omega)]
        have := fd_eqI (X := X) (Z := Z) (a := a) (i := i) hb n (k + 1) (t + 1) (by omega) (by omega) (fun q q1 q2 => h q (by omega) (by omega))
        rw [show 8 * b + k + 1 = 8 * b + (k + 1) by omega, show i - t + -1 = i - (t + 1) by omega]
        exact this
    · rw [fdI_skip c1, mfI_skip (fun z => c1 (h0.mpr z))]
      have := fd_eqI (X := X) (Z := Z) (a := a) (i := i) hb n (k + 1) t (by omega) ht (fun q q1 q2 => h q (by omega) (by omega))
      rw [show 8 * b + k + 1 = 8 * b + (k + 1) by omega]
      exact this
theorem fd_eqO {X Z : St} {a i : Int} : ∀ (n : Nat) (p t : Int), t ≤ i → (∀ q, p ≤ q → q < p + n → Z 9 q = X 8 q ∧ 0 ≤ X 8 q ∧ Z 2 (X 8 q) = X 2 (X 8 q) ∧ ∀ r, 0 ≤ r → r < X 2 (X 8 q) → (X 6 (X 8 q * 8 + r) / 8 = a ↔ Z 6 (8 * X 8 q + r) = a)) → fdO X a i p n t = mfO Z a p n (i - t)
  | 0, _, _, _, _ => rfl
  | n + 1, p, t, ht, h => by
    obtain ⟨e9, e0, e2, er⟩ := h p (by omega) (by omega)
    have := fd_eqI (X := X) (Z := Z) (a := a) (i := i) e0 (X 2 (X 8 p)).toNat 0 t (by omega) ht (fun q q1 q2 => er q q1 (by omega))
    rw [Int.add_zero] at this
    unfold fdO mfO
    rw [e9, e2]
    by_cases c : (fdI X a i (X 8 p) 0 (X 2 (X 8 p)).toNat t).1 = -1
    · rw [if_pos c, if_pos (by rw [← this.1]; exact c), (this.2 c).1]
      exact fd_eqO n (p + 1) _ (this.2 c).2 (fun q q1 q2 => h q (by omega) (by omega))
    · rw [if_neg c, if_neg (by rw [← this.1]; exact c)]
      exact this.1
theorem fd_noI {X : St} {a i b : Int} : ∀ (n : Nat) (k t : Int), i < t → (fdI X a i b k n t).1 = -1 ∧ i < (fdI X a i b k n t).2
  | 0, _, _, h => ⟨rfl, h⟩
  | n + 1, k, t, h => by
    by_cases c1 : X 6 (b * 8 + k) / 8 = a
    · rw [fdI_next c1 (by omega)]; exact fd_noI n (k + 1) (t + 1) (by omega)
    · rw [fdI_skip c1]; exact fd_noI n (k + 1) t h
theorem fd_noO {X : St} {a i : Int} : ∀ (n : Nat) (p t : Int), i < t → fdO X a i p n t = -1
  | 0, _, _, _ => rfl
  | n + 1, p, t, h => by
    have := fd_noI (X := X) (a := a) (i := i) (b := X 8 p) (X 2 (X 8 p)).toNat 0 t h
    unfold fdO
    rw [if_pos this.1]
    exact fd_noO n (p + 1) _ this.2
theorem fd_inI {X : St} {a i b : Int} : ∀ (n : Nat) (k t : Int), (fdI X a i b k n t).1 = -1 ∨ ∃ q, (k ≤ q ∧ q < k + n) ∧ (fdI X a i b k n t).1 = b * 8 + q
  | 0, _, _ => Or.inl rfl
  | n + 1, k, t => by
    by_cases c1 : X 6 (b * 8 + k) / 8 = a
    · by_cases c2 : t = i
      · rw [fdI_hit c1 c2]; exact Or.inr ⟨k, ⟨by omega, by omega⟩, rfl⟩
      · rw [fdI_next c1 c2]
        exact (fd_inI n (k + 1) (t + 1)).imp id (fun ⟨q, q1, q2⟩ => ⟨q, ⟨by omega, by omega⟩, q2⟩)
    · rw [fdI_skip c1]
      exact (fd_inI n (k + 1) t).imp id (fun ⟨q, q1, q2⟩ => ⟨q, ⟨by omega, by omega⟩, q2⟩)
theorem fd_inO {X : St} {a i : Int} : ∀ (n : Nat) (p t : Int), fdO X a i p n t = -1 ∨ ∃ w q, (p ≤ w ∧ w < p + n) ∧ (0 ≤ q ∧ q < ((X 2 (X 8 w)).toNat : Int)) ∧ fdO X a i p n t = X 8 w * 8 + q
  | 0, _, _ => Or.inl rfl
  | n + 1, p, t => by
    unfold fdO
    by_cases c : (fdI X a i (X 8 p) 0 (X 2 (X 8 p)).toNat t).1 = -1
    · rw [if_pos c]
      exact (fd_inO n (p + 1) _).imp id (fun ⟨w, q, w1, q1, q2⟩ => ⟨w, q, ⟨by omega, by omega⟩, q1, q2⟩)
    · rw [if_neg c]
      rcases fd_inI (X := X) (a := a) (i := i) (b := X 8 p) (X 2 (X 8 p)).toNat 0 t with z | ⟨q, q1, q2⟩
      · exact absurd z c
      · exact Or.inr ⟨p, q, ⟨by omega, by omega⟩, ⟨by omega, by omega⟩, q2⟩
theorem sim_fd {X Z : St} (hI : Inv X) (hS : Sim X Z) (a : Int) {j : Int} (hj : 0 ≤ j) : fdO X a j 0 (X 0 1).toNat 0 = mfO Z a 0 (Z 0 1).toNat j := by
  have g1 := rg_s1 hI.1
  have := fd_eqO (X := X) (Z := Z) (a := a) (i := j) (X 0 1).toNat 0 0 hj (fun q q1 q2 => by
    have o := (inv_ord hI q1 (by omega)).1
    refine ⟨hS.2.2.2.2.1 q q1 (by omega), o.1, (hS.2.2.1 _ o.1 o.2).2.1, fun r r0 r1 => ?_⟩
    have e := hS.2.2.2.1 (X 8 q) r o.1 o.2 r0 r1
    have z6 := rgj_6 hS.1 (8 * X 8 q + r)
    have z7 := rgj_7 hS.1 (8 * X 8 q + r)
    constructor <;> intro z <;> omega)
  rw [this, hS.2.1.2.1, Int.sub_zero]
theorem sim_row {X Z : St} (hI : Inv X) (hS : Sim X Z) (a j d : Int) (h : ¬ fdO X a j 0 (X 0 1).toNat 0 = -1) : rowX X (fdO X a j 0 (X 0 1).toNat 0) d = mrow Z (fdO X a j 0 (X 0 1).toNat 0) d := by
  rcases fd_inO (X := X) (a := a) (i := j) (X 0 1).toNat 0 0 with z | ⟨w, q, w1, q1, e⟩
  · exact absurd z h
  · have g1 := rg_s1 hI.1
    rw [e]
    have o := (inv_ord hI w1.1 (by omega)).1
    have sz := rg_2 hI.1 (X 8 w)
    have ee := hS.2.2.2.1 (X 8 w) q o.1 o.2 q1.1 (by omega)
    have s3 := (hS.2.2.1 _ o.1 o.2).2.2.1
    have z7 := rgj_7 hS.1 (8 * X 8 w + q)
    unfold rowX mrow
    rw [show (X 8 w * 8 + q) / 8 = X 8 w by omega, s3, show Z 7 (X 8 w * 8 + q) = X 6 (X 8 w * 8 + q) % 8 by rw [show X 8 w * 8 + q = 8 * X 8 w + q by omega]; rw [show 8 * X 8 w + q = X 8 w * 8 + q by omega] at z7 ee ⊢; omega, show Z 8 (X 8 w * 8 + q) = X 7 (X 8 w * 8 + q) by rw [← ee.2, show X 8 w * 8 + q = 8 * X 8 w + q by omega]]
theorem ag_row {X Z u u' : St} {a j d : Int} {k : Int} {ov : Int64} {r : Int32} (r_a : rI a) (r_j : rI j) (r_d : rI d) (hI : Inv X) (hS : Sim X Z) (hc : hP_row X a j d k u ov) (hm : mP_row Z a j d r u') : u' 0 3 = k ∧ (k = 0 → ov = r.toInt64) ∧ Inv u ∧ Sim u u' := by
  have g0 := rg_s0 hI.1
  have g1 := rg_s1 hI.1
  have g2 := rg_s2 hI.1
  obtain ⟨s0, s1, s2⟩ := hS.2.1
  have hfd : 0 ≤ j → fdO X a j 0 (X 0 1).toNat 0 = mfO Z a 0 (Z 0 1).toNat j := fun z => sim_fd hI hS a z
  have hfn : j < 0 → fdO X a j 0 (X 0 1).toNat 0 = -1 := fun z => fd_noO _ _ _ z
  rcases hc with ⟨rfl, a0, hn⟩ | ⟨rfl, a0, a1, hn⟩ | ⟨rfl, a0, a1, a2, hn⟩ | ⟨rfl, r0, ⟨hP, hr, hu⟩, ho⟩
  · rcases hm with ⟨q0, hv, hw⟩ | ⟨q0, q1, hv, hw⟩ | ⟨q0, q1, q2, hv, hw⟩ | ⟨q0, q1, q2, q3, hv, hw⟩ | ⟨q0, q1, q2, q3, hv, hw⟩
    · first
        | (exfalso; omega)
        | (subst hv; exact ⟨rfl, fun z => absurd z (by decide), inv_nEq hn hI, sim_nEq hn (sim_code hS (by decide))⟩)
    · first
        | (exfalso; omega)
    · first
        | (exfalso; omega)
    · first
        | (exfalso; omega)
        | (subst hv; exact ⟨rfl, fun z => absurd z (by decide), inv_nEq hn hI, sim_nEq hn (sim_code hS (by decide))⟩)
    · first
        | (exfalso; omega)
  · rcases hm with ⟨q0, hv, hw⟩ | ⟨q0, q1, hv, hw⟩ | ⟨q0, q1, q2, hv, hw⟩ | ⟨q0, q1, q2, q3, hv, hw⟩ | ⟨q0, q1, q2, q3, hv, hw⟩
    · first
        | (exfalso; omega)
    · first
        | (exfalso; omega)
        | (subst hv; exact ⟨rfl, fun z => absurd z (by decide), inv_nEq hn hI, sim_nEq hn (sim_code hS (by decide))⟩)
    · first
        | (exfalso; omega)
        | (subst hv; exact ⟨rfl, fun z => absurd z (by decide), inv_nEq hn hI, sim_nEq hn (sim_code hS (by decide))⟩)
    · first
        | (exfalso; omega)
    · first
        | (exfalso; omega)
  · rcases hm with ⟨q0, hv, hw⟩ | ⟨q0, q1, hv, hw⟩ | ⟨q0, q1, q2, hv, hw⟩ | ⟨q0, q1, q2, q3, hv, hw⟩ | ⟨q0, q1, q2, q3, hv, hw⟩
    · first
        | (exfalso; omega)
        | (subst hv; exact ⟨rfl, fun z => absurd z (by decide), inv_nEq hn hI, sim_nEq hn (sim_code hS (by decide))⟩)
    · first
        | (exfalso; omega)
    · first
        | (exfalso; omega)
    · first
        | (exfalso; omega)
        | (subst hv; exact ⟨rfl, fun z => absurd z (by decide), inv_nEq hn hI, sim_nEq hn (sim_code hS (by decide))⟩)
    · first
        | (exfalso; omega)
  · rcases hm with ⟨q0, hv, hw⟩ | ⟨q0, q1, hv, hw⟩ | ⟨q0, q1, q2, hv, hw⟩ | ⟨q0, q1, q2, q3, hv, hw⟩ | ⟨q0, q1, q2, q3, hv, hw⟩
    · first
        | (exfalso; omega)
    · first
        | (exfalso; omega)
    · first
        | (exfalso; omega)
    · first
        | (exfalso; omega)
    · subst hv; subst hw; subst hr; subst hu
      refine ⟨rfl, fun _ => ?_, hI, sim_code hS (by decide)⟩
      rw [ho, sim_row hI hS a j d (by omega), sim_fd hI hS a (by omega)]
theorem ag_count {X Z : St} (hI : Inv X) (hS : Sim X Z) (d : Int) : cntX X d = mcnt Z d := by
  obtain ⟨s0, s1, s2⟩ := hS.2.1
  have e1 : cntP X = sumR (fun p => Z 2 (Z 9 p)) 0 (Z 0 1).toNat := by
    unfold cntP
    rw [s1]
    refine sum_same0 (fun p p0 p1 => ?_)
    have o := (inv_ord hI p0 p1).1
    show X 2 (X 8 p) = Z 2 (Z 9 p)
    rw [hS.2.2.2.2.1 p p0 p1, (hS.2.2.1 _ o.1 o.2).2.1]
  have e2 : cntH X = sumR (fun b => if Z 1 b = 1 then 1 else 0) 0 (Z 0 0).toNat := by
    unfold cntH
    rw [s0]
    refine sum_same0 (fun b b0 b1 => ?_)
    show (if X 1 b = 1 then (1 : Int) else 0) = if Z 1 b = 1 then 1 else 0
    rw [(hS.2.2.1 b b0 b1).1]
  unfold cntX mcnt
  rw [e1, e2, s0]
  by_cases d0 : d = 0
  · rw [if_pos d0, if_pos d0]
  · rw [if_neg d0, if_neg d0]
    by_cases d3 : d = 3
    · rw [if_neg (by omega), if_neg (by omega), if_pos d3, if_pos d3]; omega
    · rw [if_neg d3, if_neg d3]
