theorem s_X4_next (z : St) (P : St → Prop) (ht : TX z) (h0 : (gI z 3703).toInt ≤ (gI z 3701).toInt) (hk : ∀ z2 : St, TX z2 → Same [3702, 3703] [] z z2 → DG z2 → ((gI z2 3702).toInt ≤ (gI z2 3703).toInt ∧ (gI z2 3703).toInt ≤ (gI z 3701).toInt) → P z2) : wp_X4_next z P := by
  unfold wp_X4_next
  have f1 : 0 ≤ (gI z 3701).toInt ∧ (gI z 3701).toInt ≤ 300 := ht.1 3701
  have f3 : 0 ≤ (gI z 3703).toInt ∧ (gI z 3703).toInt ≤ 300 := ht.1 3703
  have e1 : (1 : Int32).toInt = 1 := rfl
  intro K1 hK1
  have L1 : ∀ (n : Nat) (z2 : St), TX z2 → Same [3702, 3703] [] z z2 → (gI z2 3702).toInt ≤ (gI z 3701).toInt → ((gI z 3701).toInt - (gI z2 3702).toInt).toNat < n → K1 z2 := by
    intro n
    induction n with
    | zero => intro z2 t2 s2 h2 hm; omega
    | succ n ih =>
      intro z2 t2 s2 h2 hm
      refine hK1 z2 ?_
      intro K3 hK3
      have g1 : (gI z2 3701).toInt = (gI z 3701).toInt := s2.fi 3701 (by decide)
      have g2 : 0 ≤ (gI z2 3702).toInt ∧ (gI z2 3702).toInt ≤ 300 := t2.1 3702
      have k3 : K3 := by
        refine hK3 ?_
        intro z4 e4
        have t4 : TX z4 := by rw [e4]; exact Ty_wI t2 g2
        have s4 : Same [3702, 3703] [] z z4 := s2.i (by decide) e4
        have a2 : (gI z4 3702).toInt = (gI z2 3702).toInt := by rw [e4]; rfl
        have a3 : (gI z4 3703).toInt = (gI z2 3702).toInt := by rw [e4]; rfl
        have a1 : (gI z4 3701).toInt = (gI z 3701).toInt := s4.fi 3701 (by decide)
        refine ⟨fun c => ?_, fun c => ?_⟩
        · have c1 := i_lt rfl rfl c
          refine ⟨vin rfl (by omega) (by omega), ?_⟩
          refine s_X4_kindOf _ z4 _ t4 (fun r7 hr => ?_)
          intro K8 hK8
          have hcl : ((gI z4 3702).toNatClampNeg : Int) = (gI z4 3702).toInt := clampI (n := 300) (vin rfl (by omega) (by omega))
          have out : ∀ z9 : St, TX z9 → Same [3702, 3703] [] z z9 → (gI z9 3702) = (gI z4 3702) → (gI z4 3702).toInt < (gI z9 3703).toInt → (gI z9 3703).toInt ≤ (gI z 3701).toInt → (r7 = 2 → ∀ j : Nat, (gI z4 3702).toInt ≤ j → (j : Int) < (gI z9 3703).toInt → 48 ≤ (gF z 38 j).toInt ∧ (gF z 38 j).toInt ≤ 57) → P z9 := by
            intro z9 t9 s9 es h3 h4 hd
            refine hk z9 t9 s9 ?_ ⟨by rw [es]; omega, h4⟩
            intro hq j hj1 hj2
            rw [s9.2 38 (by decide)] at hq ⊢
            rw [es] at hq hj1
            have q38 : gF z4 38 = gF z 38 := s4.2 38 (by decide)
            rw [q38] at hr
            have r2 : r7 = 2 := by
              rcases hr with ⟨-, hh⟩ | ⟨hh, -⟩ | ⟨-, hh, -⟩
              · omega
              · exact hh
              · omega
            exact hd r2 j hj1 hj2
          have L8 : ∀ (n : Nat) (z9 : St), TX z9 → Same [3702, 3703] [] z z9 → (gI z9 3702) = (gI z4 3702) → (gI z4 3702).toInt < (gI z9 3703).toInt → (gI z9 3703).toInt ≤ (gI z 3701).toInt → (r7 = 2 → ∀ j : Nat, (gI z4 3702).toInt ≤ j → (j : Int) < (gI z9 3703).toInt → 48 ≤ (gF z 38 j).toInt ∧ (gF z 38 j).toInt ≤ 57) → ((gI z 3701).toInt - (gI z9 3703).toInt).toNat < n → K8 z9 := by
            intro n
            induction n with
            | zero => intro z9 t9 s9 es h3 h4 hd hm; omega
            | succ n ih8 =>
              intro z9 t9 s9 es h3 h4 hd hm
              refine hK8 z9 ?_
              have b1 : (gI z9 3701).toInt = (gI z 3701).toInt := s9.fi 3701 (by decide)
              refine ⟨fun _ => out z9 t9 s9 es h3 h4 hd, fun _ => ⟨fun _ => out z9 t9 s9 es h3 h4 hd, fun c3 => ?_⟩⟩
              have c4 := i_nle rfl rfl c3
              have hv : vp_in (gI z9 3703) 300 := vin rfl (by omega) (by omega)
              refine ⟨hv, ?_⟩
              have hcl9 := clampI hv
              refine s_X4_kindOf _ z9 _ t9 (fun r13 hr13 => ?_)
              refine ⟨fun _ => out z9 t9 s9 es h3 h4 hd, fun er => ?_⟩
              intro z15 e15
              have i15 : (gI z15 3703).toInt = (gI z9 3703).toInt + 1 := by
                rw [e15]
                show ((gI z9 3703) + (1 : Int32)).toInt = _
                exact a_add rfl e1 (by omega) (by omega)
              have t15 : TX z15 := by
                rw [e15]
                exact Ty_wI t9 (show 0 ≤ ((gI z9 3703) + (1 : Int32)).toInt ∧ ((gI z9 3703) + (1 : Int32)).toInt ≤ 300 from by rw [a_add rfl e1 (by omega) (by omega)]; omega)
              have es15 : gI z15 3702 = gI z4 3702 := by rw [e15]; exact es
              refine ih8 z15 t15 (s9.i (by decide) e15) es15 (by omega) (by omega) ?_ (by omega)
              intro r2 j hj1 hj2
              by_cases hj : (j : Int) < (gI z9 3703).toInt
              · exact hd r2 j hj1 hj
              · have ej : j = (gI z9 3703).toNatClampNeg := by omega
                rw [s9.2 38 (by decide)] at hr13
                rw [ej]
                rcases hr13 with ⟨hh, -⟩ | ⟨-, hh⟩ | ⟨hh, -⟩
                · rw [er, r2] at hh; exact absurd hh (by decide)
                · exact hh
                · rw [er, r2] at hh; exact absurd hh (by decide)
          intro z16 e16
          have i16 : (gI z16 3703).toInt = (gI z4 3703).toInt + 1 := by
            rw [e16]
            show ((gI z4 3703) + (1 : Int32)).toInt = _
            exact a_add rfl e1 (by omega) (by omega)
          have t16 : TX z16 := by
            rw [e16]
            exact Ty_wI t4 (show 0 ≤ ((gI z4 3703) + (1 : Int32)).toInt ∧ ((gI z4 3703) + (1 : Int32)).toInt ≤ 300 from by rw [a_add rfl e1 (by omega) (by omega)]; omega)
          have es16 : gI z16 3702 = gI z4 3702 := by rw [e16]; rfl
          refine L8 (((gI z 3701).toInt - (gI z16 3703).toInt).toNat + 1) z16 t16 (s4.i (by decide) e16) es16 (by omega) (by omega) ?_ (by omega)
          intro r2 j hj1 hj2
          have ej : j = (gI z4 3702).toNatClampNeg := by omega
          rw [ej]
          rw [s4.2 38 (by decide)] at hr
          rcases hr with ⟨hh, -⟩ | ⟨-, hh⟩ | ⟨hh, -⟩
          · rw [r2] at hh; exact absurd hh (by decide)
          · exact hh
          · rw [r2] at hh; exact absurd hh (by decide)
        · have c1 := i_nlt rfl rfl c
          refine hk z4 t4 s4 ?_ ⟨by omega, by omega⟩
          intro _ j hj1 hj2
          omega
      refine ⟨fun _ => k3, fun c => ?_⟩
      have c1 := i_nle rfl rfl c
      refine ⟨vin rfl (by omega) (by omega), ⟨fun _ => k3, fun _ => ?_⟩⟩
      intro z19 e19
      have i19 : (gI z19 3702).toInt = (gI z2 3702).toInt + 1 := by
        rw [e19]
        show ((gI z2 3702) + (1 : Int32)).toInt = _
        exact a_add rfl e1 (by omega) (by omega)
      have t19 : TX z19 := by
        rw [e19]
        exact Ty_wI t2 (show 0 ≤ ((gI z2 3702) + (1 : Int32)).toInt ∧ ((gI z2 3702) + (1 : Int32)).toInt ≤ 300 from by rw [a_add rfl e1 (by omega) (by omega)]; omega)
      exact ih z19 t19 (s2.i (by decide) e19) (by omega) (by omega)
  intro z20 e20
  have i20 : (gI z20 3702).toInt = (gI z 3703).toInt := by rw [e20]; rfl
  have t20 : TX z20 := by rw [e20]; exact Ty_wI ht f3
  exact L1 (((gI z 3701).toInt - (gI z20 3702).toInt).toNat + 1) z20 t20 (Same.rf.i (by decide) e20) (by omega) (by omega)
