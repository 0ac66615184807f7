/-! what is given at the law's entry -/
section GIVEN
variable {s : State} {b : Nat} {A : Nat → Prop}
theorem zgZ (hgv : (Jvm.Cond.and given_1 narrow_1).before #[Value.ref b] s = true) (hts : ∀ w ∈ lw_tbl, w.before #[Value.ref b] s = true) (hA : ∀ a : Nat, a < s.heap.size → ¬ A a) : zZ A s s.heap := by
  have hs := flat_of_before _ hgv
  refine ⟨?_, ?_⟩
  · obtain ⟨t, ht, hT⟩ := va_Tof (A := A) (s := s) (args := #[Value.ref b]) (tm := Term.static "UpAllRound" "KIND_ABOVE" "[I") (ty := .int) (N := 7) (f := fun j => .int (zKA j)) (by decide) (hs _ (by decide +kernel)) (va_eqt (hs _ (by decide +kernel))) (fun j hj => by
      rcases (show j = 0 ∨ j = 1 ∨ j = 2 ∨ j = 3 ∨ j = 4 ∨ j = 5 ∨ j = 6 by omega) with rfl | rfl | rfl | rfl | rfl | rfl | rfl <;> exact va_eqt (hs _ (by decide +kernel))) hA
    exact ⟨t, va_Zof (hts _ (by decide +kernel)) (hts _ (by decide +kernel)) ht hA, hT⟩
  · obtain ⟨t, ht, hT⟩ := va_Tof (A := A) (s := s) (args := #[Value.ref b]) (tm := Term.static "UpAllRound$Voices" "BODIES" "[I") (ty := .int) (N := 28) (f := fun j => .int (zBO j)) (by decide) (hs _ (by decide +kernel)) (va_eqt (hs _ (by decide +kernel))) (fun j hj => by
      rcases (show j = 0 ∨ j = 1 ∨ j = 2 ∨ j = 3 ∨ j = 4 ∨ j = 5 ∨ j = 6 ∨ j = 7 ∨ j = 8 ∨ j = 9 ∨ j = 10 ∨ j = 11 ∨ j = 12 ∨ j = 13 ∨ j = 14 ∨ j = 15 ∨ j = 16 ∨ j = 17 ∨ j = 18 ∨ j = 19 ∨ j = 20 ∨ j = 21 ∨ j = 22 ∨ j = 23 ∨ j = 24 ∨ j = 25 ∨ j = 26 ∨ j = 27 by omega) with rfl | rfl | rfl | rfl | rfl | rfl | rfl | rfl | rfl | rfl | rfl | rfl | rfl | rfl | rfl | rfl | rfl | rfl | rfl | rfl | rfl | rfl | rfl | rfl | rfl | rfl | rfl | rfl <;> exact va_eqt (hs _ (by decide +kernel))) hA
    exact ⟨t, va_Zof (hts _ (by decide +kernel)) (hts _ (by decide +kernel)) ht hA, hT⟩
def zstm : Nat → Term
  | 0 => .string "UpAllRound" 119
  | 1 => .string "UpAllRound" 121
  | _ => .string "UpAllRound$Reader" 26
theorem zgG (hgv : (Jvm.Cond.and given_1 narrow_1).before #[Value.ref b] s = true) (hts : ∀ w ∈ lw_tbl, w.before #[Value.ref b] s = true) (hA : ∀ a : Nat, a < s.heap.size → ¬ A a) : ∃ ad bd : Nat → Nat, zG ad bd A s s.heap := by
  have hs := flat_of_before _ hgv
  have c3 : ∀ i : Nat, i < 3 → i = 0 ∨ i = 1 ∨ i = 2 := fun i hi => by omega
  obtain ⟨ad, bd, hS, he⟩ := vk_Sof (A := A) (s := s) (args := #[Value.ref b]) (N := 3) (tm := zstm) (len := [3, 3, 0]) (byt := [[114, 115, 116], [115, 104, 99], []])
    (fun i hi => by rcases c3 i hi with rfl | rfl | rfl <;> decide)
    (fun i hi => by rcases c3 i hi with rfl | rfl | rfl <;> exact hs _ (by decide +kernel))
    (fun i hi => by rcases c3 i hi with rfl | rfl | rfl <;> exact hs _ (by decide +kernel))
    (fun i hi => by rcases c3 i hi with rfl | rfl | rfl <;> exact hs _ (by decide +kernel))
    (fun i hi => by rcases c3 i hi with rfl | rfl | rfl <;> exact hs _ (by decide +kernel))
    (fun i hi j hj => by
      rcases c3 i hi with rfl | rfl | rfl
      · have hj : j < 3 := hj
        rcases c3 j hj with rfl | rfl | rfl <;> exact hs _ (by decide +kernel)
      · have hj : j < 3 := hj
        rcases c3 j hj with rfl | rfl | rfl <;> exact hs _ (by decide +kernel)
      · exact absurd hj (Nat.not_lt_zero j))
    (fun i j hi hj hne => by
      rcases c3 i hi with rfl | rfl | rfl
      · rcases c3 j hj with rfl | rfl | rfl
        · exact absurd rfl hne
        · exact Or.inl (hs _ (by decide +kernel))
        · exact Or.inr (hs _ (by decide +kernel))
      · rcases c3 j hj with rfl | rfl | rfl
        · exact Or.inr (hs _ (by decide +kernel))
        · exact absurd rfl hne
        · exact Or.inr (hs _ (by decide +kernel))
      · rcases c3 j hj with rfl | rfl | rfl
        · exact Or.inl (hs _ (by decide +kernel))
        · exact Or.inl (hs _ (by decide +kernel))
        · exact absurd rfl hne) hA
  exact ⟨ad, bd, hS, va_Zof (hts _ (by decide +kernel)) (hts _ (by decide +kernel)) (va_eqi (z := 1) (hs _ (by decide +kernel))) hA, vk_R.of (hts _ (by decide +kernel)) (he 0 (by decide)), vk_R.of (hts _ (by decide +kernel)) (he 1 (by decide)), vk_R.of (hts _ (by decide +kernel)) (he 2 (by decide))⟩
theorem zNF_in : ∀ q ∈ zNF, (Cond.fieldLinkNest q.1 q.2.1 q.2.2.1 q.2.2.2.1 q.2.2.2.2.1 q.2.2.2.2.2) ∈ lw_tbl := by decide +kernel
theorem zNM_in : ∀ q ∈ zNM, (Cond.methodLinkNest q.1 q.2.1 q.2.2.1 q.2.2.2) ∈ lw_tbl := by decide +kernel
theorem zgN (hts : ∀ w ∈ lw_tbl, w.before #[Value.ref b] s = true) : zN s := by
  intro w hw
  rcases List.mem_append.mp hw with h | h
  · obtain ⟨q, hq, rfl⟩ := List.mem_map.mp h
    exact va_Nw.of rfl (hts _ (zNF_in q hq))
  · obtain ⟨q, hq, rfl⟩ := List.mem_map.mp h
    exact va_Nw.of rfl (hts _ (zNM_in q hq))
theorem zgK (hts : ∀ w ∈ wsL_law, w.before #[Value.ref b] s = true) (harr : (Cond.arrayClass .int).before #[Value.ref b] s = true) (hov : (Cond.arrayOver (.array .int)).before #[Value.ref b] s = true) (hi : ∀ q ∈ vwCl, (Cond.instantiable q.1 q.2.2).before #[Value.ref b] s = true) : ∃ (D : va_G) (cI cJ : ClassId), va_K D vwCl [(cI, .int), (cJ, .array .int)] s := by
  obtain ⟨c0, i0, k0⟩ := u_known (C := RX0) (T := TX0) (N := 3) hts inlX0 (hi (RX0, TX0, 3) (List.mem_of_getElem? (i := 0) rfl))
  obtain ⟨c1, i1, k1⟩ := u_known (C := RX1) (T := TX1) (N := 5) hts inlX1 (hi (RX1, TX1, 5) (List.mem_of_getElem? (i := 1) rfl))
  obtain ⟨c2, i2, k2⟩ := u_known (C := RX2) (T := TX2) (N := 3) hts inlX2 (hi (RX2, TX2, 3) (List.mem_of_getElem? (i := 2) rfl))
  obtain ⟨c3, i3, k3⟩ := u_known (C := RX3) (T := TX3) (N := 16) hts inlX3 (hi (RX3, TX3, 16) (List.mem_of_getElem? (i := 3) rfl))
  obtain ⟨c4, i4, k4⟩ := u_known (C := RX4) (T := TX4) (N := 6) hts inlX4 (hi (RX4, TX4, 6) (List.mem_of_getElem? (i := 4) rfl))
  obtain ⟨c5, i5, k5⟩ := u_known (C := RX5) (T := TX5) (N := 9) hts inlX5 (hi (RX5, TX5, 9) (List.mem_of_getElem? (i := 5) rfl))
  obtain ⟨c6, i6, k6⟩ := u_known (C := RX6) (T := TX6) (N := 20) hts inlX6 (hi (RX6, TX6, 20) (List.mem_of_getElem? (i := 6) rfl))
  obtain ⟨cI, kI, pI, e1, e2, e3⟩ := Cond.arrayClass_spec harr
  obtain ⟨pJ, cJ, kJ, f1, f2, f3, f4⟩ := Cond.arrayOver_specA hov
  refine ⟨(fun c => match c with | 0 => c0 | 1 => c1 | 2 => c2 | 3 => c3 | 4 => c4 | 5 => c5 | _ => c6, fun c => match c with | 0 => i0 | 1 => i1 | 2 => i2 | 3 => i3 | 4 => i4 | 5 => i5 | _ => i6), cI, cJ, fun c q hq => ?_, fun k q hk => ?_⟩
  · have hc : c < 7 := (List.getElem?_eq_some_iff.mp hq).1
    rcases (show c = 0 ∨ c = 1 ∨ c = 2 ∨ c = 3 ∨ c = 4 ∨ c = 5 ∨ c = 6 by omega) with rfl | rfl | rfl | rfl | rfl | rfl | rfl <;> cases hq
    · exact k0
    · exact k1
    · exact k2
    · exact k3
    · exact k4
    · exact k5
    · exact k6
  · have hc : k < 2 := (List.getElem?_eq_some_iff.mp hk).1
    rcases (show k = 0 ∨ k = 1 by omega) with rfl | rfl <;> cases hk
    · exact ⟨fun n z => ⟨fun k h => (by cases h), kI, e2, pI, e3⟩, e1⟩
    · exact ⟨fun n z => ⟨fun k h => (by cases h), kJ, f2, pJ, f3⟩, f4⟩
theorem zvw_in : ∀ q ∈ vwCl, (Cond.instantiable q.1 q.2.2) ∈ lw_tbl := by decide +kernel
end GIVEN
