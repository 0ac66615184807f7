theorem zin_conv {x : Int32} {n : Nat} {k : Int32} (hn : x = nI n) (hn2 : n < 2147483648) : bI ((nI 0).toInt ≤ k.toInt ∧ k.toInt ≤ (x - nI 1).toInt) = bI (zin k n) := by
  have e : (x - nI 1).toInt = (n : Int) - 1 := by
    rw [hn]
    cases n with
    | zero => decide
    | succ m => rw [show nI (m + 1) - nI 1 = nI m from nI_pred m, nI_toInt (by omega)]; omega
  have e2 : ((nI 0).toInt ≤ k.toInt ∧ k.toInt ≤ (x - nI 1).toInt) ↔ zin k n := by
    rw [e, show (nI 0).toInt = 0 from rfl]
    unfold zin
    omega
  simp only [bI, e2]
set_option maxHeartbeats 4000000 in
set_option maxRecDepth 100000 in
theorem c_X6_in (l : Launch) (D : va_G) (cI cJ : ClassId) (v : Int32) (lo : Int32) (hi : Int32)  : zSi l yX6_in wsX6_in ({ frames := 0, cells := 0, slots := 0, locals := 0 } : Room) D [(cI, .int), (cJ, .array .int)] [.int v, .int lo, .int hi] [] (fun r => r = bI (lo.toInt ≤ v.toInt ∧ v.toInt ≤ hi.toInt)) := by
  refine zSi.start (cc := cX6_in) (maxL := 3) (rt := .boolean) (by first | decide | decide +kernel) rfl (Nat.le_of_ble_eq_true rfl) ?_
  intro pg ev s mt args below meth cd ls AA QQ ⟨hx, hb, hml, hr, hlocks, hown, hts, hK, hN, hZ, hP, hD, hA, hS, hl⟩ hret
  have hown : s.vm.findClass RX6 = some mt.cls := hown
  have hl : lv_has ls 3 [(0, .int v), (1, .int lo), (2, .int hi)] := hl
  refine lv_iload_n hx hb dX6_in_0 rfl (lv_at hl 0 rfl) ?_
  refine lv_iload_n hx hb dX6_in_1 rfl (lv_at hl 1 rfl) ?_
  refine lv_icmp_lt (tgt := 14) hx hb dX6_in_2 (by decide) (fun c2_1 => ?_) (fun c2_1 => ?_)
  · refine lv_iconst (v := nI 0) hx hb dX6_in_14 (by decide) ?_
    exact hret dX6_in_15 rfl (by rw [bI_f (by simp only [i_lt, i_le] at c2_1 ⊢; omega)]; rfl)
  · refine lv_iload_n hx hb dX6_in_5 rfl (lv_at hl 0 rfl) ?_
    refine lv_iload_n hx hb dX6_in_6 rfl (lv_at hl 2 rfl) ?_
    refine lv_icmp_gt (tgt := 14) hx hb dX6_in_7 (by decide) (fun c7_2 => ?_) (fun c7_2 => ?_)
    · refine lv_iconst (v := nI 0) hx hb dX6_in_14 (by decide) ?_
      exact hret dX6_in_15 rfl (by rw [bI_f (by simp only [i_lt, i_le] at c2_1 c7_2 ⊢; omega)]; rfl)
    · refine lv_iconst (v := nI 1) hx hb dX6_in_10 (by decide) ?_
      refine lv_goto (tgt := 15) hx hb dX6_in_11 (by decide) ?_
      exact hret dX6_in_15 rfl (by rw [bI_t (by simp only [i_lt, i_le] at c2_1 c7_2 ⊢; omega)]; rfl)
set_option maxHeartbeats 4000000 in
set_option maxRecDepth 100000 in
theorem c_X6_held (l : Launch) (D : va_G) (cI cJ : ClassId) (v : Int32) (lo : Int32) (hi : Int32)  : zSi l yX6_held wsX6_held ({ frames := 0, cells := 0, slots := 0, locals := 0 } : Room) D [(cI, .int), (cJ, .array .int)] [.int v, .int lo, .int hi] [] (fun r => r = zheld v lo hi) := by
  refine zSi.start (cc := cX6_held) (maxL := 3) (rt := .int) (by first | decide | decide +kernel) rfl (Nat.le_of_ble_eq_true rfl) ?_
  intro pg ev s mt args below meth cd ls AA QQ ⟨hx, hb, hml, hr, hlocks, hown, hts, hK, hN, hZ, hP, hD, hA, hS, hl⟩ hret
  have hown : s.vm.findClass RX6 = some mt.cls := hown
  have hl : lv_has ls 3 [(0, .int v), (1, .int lo), (2, .int hi)] := hl
  refine lv_iload_n hx hb dX6_held_0 rfl (lv_at hl 0 rfl) ?_
  refine lv_iload_n hx hb dX6_held_1 rfl (lv_at hl 1 rfl) ?_
  refine lv_icmp_ge (tgt := 9) hx hb dX6_held_2 (by decide) (fun c2_1 => ?_) (fun c2_1 => ?_)
  · refine lv_iload_n hx hb dX6_held_9 rfl (lv_at hl 0 rfl) ?_
    refine lv_iload_n hx hb dX6_held_10 rfl (lv_at hl 2 rfl) ?_
    refine lv_icmp_le (tgt := 18) hx hb dX6_held_11 (by decide) (fun c11_2 => ?_) (fun c11_2 => ?_)
    · refine lv_iload_n hx hb dX6_held_18 rfl (lv_at hl 0 rfl) ?_
      exact hret dX6_held_19 rfl (by unfold zheld; simp only [i_lt, i_le] at c2_1 c11_2 ⊢; (repeat' split) <;> first | rfl | (exfalso; omega) | (apply Int32.toInt_inj.mp; omega))
    · refine lv_iload_n hx hb dX6_held_14 rfl (lv_at hl 2 rfl) ?_
      refine lv_goto (tgt := 19) hx hb dX6_held_15 (by decide) ?_
      exact hret dX6_held_19 rfl (by unfold zheld; simp only [i_lt, i_le] at c2_1 c11_2 ⊢; (repeat' split) <;> first | rfl | (exfalso; omega) | (apply Int32.toInt_inj.mp; omega))
  · refine lv_iload_n hx hb dX6_held_5 rfl (lv_at hl 1 rfl) ?_
    refine lv_goto (tgt := 19) hx hb dX6_held_6 (by decide) ?_
    exact hret dX6_held_19 rfl (by unfold zheld; simp only [i_lt, i_le] at c2_1 ⊢; (repeat' split) <;> first | rfl | (exfalso; omega) | (apply Int32.toInt_inj.mp; omega))
set_option maxHeartbeats 4000000 in
set_option maxRecDepth 100000 in
theorem c_X6_error (l : Launch) (D : va_G) (cI cJ : ClassId) (h : Nat) (hE : Nat) (fs : List Value) (E : Nat → Int32) (k : Nat) (hf4 : fs[4]? = some (.ref hE)) (hk : k < 7) : zMi l yX6_error wsX6_error ({ frames := 0, cells := 0, slots := 0, locals := 0 } : Room) D [(cI, .int), (cJ, .array .int)] [.ref h, .int (nI k)] [(h, .inr (6, fs)), (hE, .inl (cI, 7, .inl E))] (fun r w => r = zerr k ∧ w = [(h, .inr (6, fs)), (hE, .inl (cI, 7, .inl (upd E k (E k + nI 1))))]) := by
  refine zMi.start (cc := cX6_error) (maxL := 2) (rt := .int) (by first | decide | decide +kernel) rfl (Nat.le_of_ble_eq_true rfl) ?_
  intro pg ev s mt args below meth cd ls AA QQ ⟨hx, hb, hml, hr, hlocks, hown, hts, hK, hN, hZ, hP, hD, hA, hS, hl⟩ hret
  have hown : s.vm.findClass RX6 = some mt.cls := hown
  have hl : lv_has ls 2 [(0, .ref h), (1, .int (nI k))] := hl
  have hin6 : ∀ w ∈ wsX60, w ∈ wsX6_error := fun w h => List.mem_cons_of_mem _ (List.mem_append_right _ (h))
  refine lv_aload_n hx hb dX6_error_0 rfl (lv_at hl 0 rfl) ?_
  refine va_get (ci := 6) (v := .ref hE) (C := RX6) (T := TX6) (N := 20) hx hb hts hin6 hown hK hP 0 rfl rfl 4 (by decide) (hts (.fieldLink RX6 19 "UpAllRoundModel" "errors" "[I") (List.mem_of_getElem? (i := 1) rfl)) (fun _ h9 => h9) hf4 dX6_error_1 ?_
  refine lv_iload_n hx hb dX6_error_4 rfl (lv_at hl 1 rfl) ?_
  refine lv_dup2_11 hx hb dX6_error_5 rfl rfl ?_
  refine zald (t := k) hx hb hK hP 1 rfl (by omega) (by decide) dX6_error_6 ?_
  refine lv_iconst (v := nI 1) hx hb dX6_error_7 (by decide) ?_
  refine lv_iadd hx hb dX6_error_8 ?_
  refine zast (t := k) hx hb hK hP hD hS 1 rfl (by omega) (by decide) dX6_error_9 (fun H locs hP hD hS => ?_)
  have hP : va_P D vwCl [(h, .inr (6, fs)), (hE, .inl (cI, 7, .inl (upd E k ((E k) + (nI 1)))))] H := hP
  have hD : va_D AA [(h, .inr (6, fs)), (hE, .inl (cI, 7, .inl (upd E k ((E k) + (nI 1)))))] := hD
  refine lv_ldc (v := (-1000000000)) hx hb hown (hts (.constant RX6 50 (-1000000000)) (List.mem_of_getElem? (i := 2) rfl)) dX6_error_10 ?_
  refine lv_iload_n hx hb dX6_error_12 rfl (lv_at hl 1 rfl) ?_
  refine lv_isub hx hb dX6_error_13 ?_
  exact hret hP hD hS dX6_error_14 rfl (by exact ⟨rfl, rfl⟩)
set_option maxHeartbeats 4000000 in
set_option maxRecDepth 100000 in
theorem c_X6_its (l : Launch) (D : va_G) (cI cJ : ClassId) (h : Nat) (hs : Nat) (fs : List Value) (S : Nat → Int32) (j : Nat) (w : Nat) (hf0 : fs[0]? = some (.ref hs)) (hcw : 8 + 4 * j + w < 380) : zSi l yX6_its wsX6_its ({ frames := 0, cells := 0, slots := 0, locals := 0 } : Room) D [(cI, .int), (cJ, .array .int)] [.ref h, .int (nI j), .int (nI w)] [(h, .inr (6, fs)), (hs, .inl (cI, 380, .inl S))] (fun r => r = S (8 + 4 * j + w)) := by
  refine zSi.start (cc := cX6_its) (maxL := 3) (rt := .int) (by first | decide | decide +kernel) rfl (Nat.le_of_ble_eq_true rfl) ?_
  intro pg ev s mt args below meth cd ls AA QQ ⟨hx, hb, hml, hr, hlocks, hown, hts, hK, hN, hZ, hP, hD, hA, hS, hl⟩ hret
  have hown : s.vm.findClass RX6 = some mt.cls := hown
  have hl : lv_has ls 3 [(0, .ref h), (1, .int (nI j)), (2, .int (nI w))] := hl
  have hin6 : ∀ w ∈ wsX60, w ∈ wsX6_its := fun w h => List.mem_cons_of_mem _ (List.mem_append_right _ (h))
  refine lv_aload_n hx hb dX6_its_0 rfl (lv_at hl 0 rfl) ?_
  refine va_get (ci := 6) (v := .ref hs) (C := RX6) (T := TX6) (N := 20) hx hb hts hin6 hown hK hP 0 rfl rfl 0 (by decide) (hts (.fieldLink RX6 7 "UpAllRoundModel" "s" "[I") (List.mem_of_getElem? (i := 1) rfl)) (fun _ h9 => h9) hf0 dX6_its_1 ?_
  refine lv_bipush (v := nI 8) hx hb dX6_its_4 (by decide) ?_
  refine lv_iconst (v := nI 4) hx hb dX6_its_6 (by decide) ?_
  refine lv_iload_n hx hb dX6_its_7 rfl (lv_at hl 1 rfl) ?_
  refine lv_imul hx hb dX6_its_8 ?_
  refine zrw (pk_mul _ _) ?_
  refine lv_iadd hx hb dX6_its_9 ?_
  refine zrw (nI_add _ _) ?_
  refine lv_iload_n hx hb dX6_its_10 rfl (lv_at hl 2 rfl) ?_
  refine lv_iadd hx hb dX6_its_11 ?_
  refine zrw (nI_add _ _) ?_
  refine zald (t := (8 + (4 * j)) + w) hx hb hK hP 1 rfl (by omega) (by decide) dX6_its_12 ?_
  exact hret dX6_its_13 rfl (by rfl)
set_option maxHeartbeats 4000000 in
set_option maxRecDepth 100000 in
theorem c_X6_isStep (l : Launch) (D : va_G) (cI cJ : ClassId) (h : Nat) (hs : Nat) (fs : List Value) (S : Nat → Int32) (n : Nat) (k : Int32) (hf0 : fs[0]? = some (.ref hs)) (hn : S 1 = nI n) (hn2 : n < 2147483648) : zSi l yX6_isStep wsX6_isStep ({ frames := 1, cells := 0, slots := 0, locals := 22 } : Room) D [(cI, .int), (cJ, .array .int)] [.ref h, .int k] [(h, .inr (6, fs)), (hs, .inl (cI, 380, .inl S))] (fun r => r = bI (zin k n)) := by
  refine zSi.start (cc := cX6_isStep) (maxL := 2) (rt := .boolean) (by first | decide | decide +kernel) rfl (Nat.le_of_ble_eq_true rfl) ?_
  intro pg ev s mt args below meth cd ls AA QQ ⟨hx, hb, hml, hr, hlocks, hown, hts, hK, hN, hZ, hP, hD, hA, hS, hl⟩ hret
  have hown : s.vm.findClass RX6 = some mt.cls := hown
  have hl : lv_has ls 2 [(0, .ref h), (1, .int k)] := hl
  have hin6 : ∀ w ∈ wsX60, w ∈ wsX6_isStep := fun w h => List.mem_cons_of_mem _ (List.mem_append_right _ (h))
  refine lv_iload_n hx hb dX6_isStep_0 rfl (lv_at hl 1 rfl) ?_
  refine lv_iconst (v := nI 0) hx hb dX6_isStep_1 (by decide) ?_
  refine lv_aload_n hx hb dX6_isStep_2 rfl (lv_at hl 0 rfl) ?_
  refine va_get (ci := 6) (v := .ref hs) (C := RX6) (T := TX6) (N := 20) hx hb hts hin6 hown hK hP 0 rfl rfl 0 (by decide) (hts (.fieldLink RX6 7 "UpAllRoundModel" "s" "[I") (List.mem_of_getElem? (i := 1) rfl)) (fun _ h9 => h9) hf0 dX6_isStep_3 ?_
  refine lv_iconst (v := nI 1) hx hb dX6_isStep_6 (by decide) ?_
  refine zald (t := 1) hx hb hK hP 1 rfl (by omega) (by decide) dX6_isStep_7 ?_
  refine lv_iconst (v := nI 1) hx hb dX6_isStep_8 (by decide) ?_
  refine lv_isub hx hb dX6_isStep_9 ?_
  refine zcsE (va_runS (As := [.int k, .int (nI 0), .int ((S 1) - (nI 1))]) (rest := []) ⟨hx, hb, hml, hown, hts⟩ (c_X6_in l D cI cJ k (nI 0) ((S 1) - (nI 1))  s.heap.size) (va_cwS 3 hts gX6_isStep_X6_in rfl rfl rfl (by decide +kernel) ⟨Nat.le_of_ble_eq_true rfl, Nat.le_of_ble_eq_true rfl⟩) (zpS hK hN hZ hP hD hS hA [] rfl (by decide)) rfl rfl hl.1 rfl (lv_room (Nat.le_of_ble_eq_true rfl)) dX6_isStep_10 ⟨Nat.zero_le _, Nat.zero_le _⟩) ?_
  exact hret dX6_isStep_13 nar_bI (by exact zin_conv hn hn2)
set_option maxHeartbeats 4000000 in
set_option maxRecDepth 100000 in
theorem c_X6_isClimber (l : Launch) (D : va_G) (cI cJ : ClassId) (h : Nat) (hs : Nat) (fs : List Value) (S : Nat → Int32) (n : Nat) (k : Int32) (hf0 : fs[0]? = some (.ref hs)) (hn : S 6 = nI n) (hn2 : n < 2147483648) : zSi l yX6_isClimber wsX6_isClimber ({ frames := 1, cells := 0, slots := 0, locals := 22 } : Room) D [(cI, .int), (cJ, .array .int)] [.ref h, .int k] [(h, .inr (6, fs)), (hs, .inl (cI, 380, .inl S))] (fun r => r = bI (zin k n)) := by
  refine zSi.start (cc := cX6_isClimber) (maxL := 2) (rt := .boolean) (by first | decide | decide +kernel) rfl (Nat.le_of_ble_eq_true rfl) ?_
  intro pg ev s mt args below meth cd ls AA QQ ⟨hx, hb, hml, hr, hlocks, hown, hts, hK, hN, hZ, hP, hD, hA, hS, hl⟩ hret
  have hown : s.vm.findClass RX6 = some mt.cls := hown
  have hl : lv_has ls 2 [(0, .ref h), (1, .int k)] := hl
  have hin6 : ∀ w ∈ wsX60, w ∈ wsX6_isClimber := fun w h => List.mem_cons_of_mem _ (List.mem_append_right _ (h))
  refine lv_iload_n hx hb dX6_isClimber_0 rfl (lv_at hl 1 rfl) ?_
  refine lv_iconst (v := nI 0) hx hb dX6_isClimber_1 (by decide) ?_
  refine lv_aload_n hx hb dX6_isClimber_2 rfl (lv_at hl 0 rfl) ?_
  refine va_get (ci := 6) (v := .ref hs) (C := RX6) (T := TX6) (N := 20) hx hb hts hin6 hown hK hP 0 rfl rfl 0 (by decide) (hts (.fieldLink RX6 7 "UpAllRoundModel" "s" "[I") (List.mem_of_getElem? (i := 1) rfl)) (fun _ h9 => h9) hf0 dX6_isClimber_3 ?_
  refine lv_bipush (v := nI 6) hx hb dX6_isClimber_6 (by decide) ?_
  refine zald (t := 6) hx hb hK hP 1 rfl (by omega) (by decide) dX6_isClimber_8 ?_
  refine lv_iconst (v := nI 1) hx hb dX6_isClimber_9 (by decide) ?_
  refine lv_isub hx hb dX6_isClimber_10 ?_
  refine zcsE (va_runS (As := [.int k, .int (nI 0), .int ((S 6) - (nI 1))]) (rest := []) ⟨hx, hb, hml, hown, hts⟩ (c_X6_in l D cI cJ k (nI 0) ((S 6) - (nI 1))  s.heap.size) (va_cwS 3 hts gX6_isClimber_X6_in rfl rfl rfl (by decide +kernel) ⟨Nat.le_of_ble_eq_true rfl, Nat.le_of_ble_eq_true rfl⟩) (zpS hK hN hZ hP hD hS hA [] rfl (by decide)) rfl rfl hl.1 rfl (lv_room (Nat.le_of_ble_eq_true rfl)) dX6_isClimber_11 ⟨Nat.zero_le _, Nat.zero_le _⟩) ?_
  exact hret dX6_isClimber_14 nar_bI (by exact zin_conv hn hn2)
