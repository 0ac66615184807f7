
theorem zd1 (x : Int32) : x / (-1) = -x := by
  apply Int32.toBitVec_inj.mp
  rw [Int32.toBitVec_div, show (-1 : Int32).toBitVec = -1#32 from by decide, show (-x).toBitVec = -x.toBitVec from rfl]
  rw [BitVec.sdiv_neg (by decide), BitVec.sdiv_one]
theorem zpv_d {sp : Nat} {m x : Int32} (h : ¬ m - nI sp = 0) : zpv sp m x = x / (m - nI sp) := by
  rw [zpv, if_neg h]
  by_cases h2 : m - nI sp = -1
  · rw [if_pos h2, h2, zd1]
  · rw [if_neg h2]
set_option maxHeartbeats 4000000 in
set_option maxRecDepth 100000 in
theorem c_X4_begin (l : Launch) (D : va_G) (cI cJ : ClassId) (h : Nat) (hT9 : Nat) (T : Nat → Int32) (tn : Nat) (pt : Nat) (K : Nat) (sp : Nat) (mm : Int32) (b : Nat) (htn : tn < 30) : zMv l yX4_begin wsX4_begin ({ frames := 0, cells := 0, slots := 0, locals := 0 } : Room) D [(cI, .int), (cJ, .array .int)] [.ref h, .int (nI b)] [(h, .inr (4, [.ref hT9, .int (nI tn), .int (nI pt), .int (nI K), .int (nI sp), .int mm])), (hT9, .inl (cI, 30, .inl T))] (fun w => w = [(h, .inr (4, [.ref hT9, .int (nI ((tn + 1))), .int (nI pt), .int (nI K), .int (nI sp), .int mm])), (hT9, .inl (cI, 30, .inl ((upd T tn (nI b)))))]) := by
  refine zMv.start (cc := cX4_begin) (maxL := 2) (by first | decide | decide +kernel) rfl (Nat.le_of_ble_eq_true rfl) ?_
  intro pg ev s mt args below meth cd ls AA QQ ⟨hx, hb, hml, hr, hlocks, hown, hts, hK, hN, hZ, hP, hD, hA, hS, hl⟩ hret
  have hown : s.vm.findClass RX4 = some mt.cls := hown
  have hl : lv_has ls 2 [(0, .ref h), (1, .int (nI b))] := hl
  have hin4 : ∀ w ∈ wsX40, w ∈ wsX4_begin := fun w h => List.mem_cons_of_mem _ (List.mem_append_right _ (h))
  refine lv_aload_n hx hb dX4_begin_0 rfl (lv_at hl 0 rfl) ?_
  refine va_get (ci := 4) (v := .int (nI tn)) (C := RX4) (T := TX4) (N := 6) hx hb hts hin4 hown hK hP 0 rfl rfl 1 (by decide) (hts (.fieldLink RX4 15 "UpAllRound$Voices" "traced" "I") (List.mem_of_getElem? (i := 1) rfl)) (fun _ h9 => h9) rfl dX4_begin_1 ?_
  refine lv_bipush (v := nI 30) hx hb dX4_begin_4 (by decide) ?_
  refine lv_icmp_ge (tgt := 29) hx hb dX4_begin_6 (by decide) (fun c6_1 => ?_) (fun c6_1 => ?_)
  · have c6_1 : 30 ≤ tn := (nI_leI (a := 30) (b := tn) (by omega) (by omega)).mp c6_1
    exact absurd c6_1 (by omega)
  · have c6_1 : ¬ (30 ≤ tn) := fun h9 => c6_1 ((nI_leI (a := 30) (b := tn) (by omega) (by omega)).mpr h9)
    refine lv_aload_n hx hb dX4_begin_9 rfl (lv_at hl 0 rfl) ?_
    refine va_get (ci := 4) (v := .ref hT9) (C := RX4) (T := TX4) (N := 6) hx hb hts hin4 hown hK hP 0 rfl rfl 0 (by decide) (hts (.fieldLink RX4 9 "UpAllRound$Voices" "trace" "[I") (List.mem_of_getElem? (i := 2) rfl)) (fun _ h9 => h9) rfl dX4_begin_10 ?_
    refine lv_aload_n hx hb dX4_begin_13 rfl (lv_at hl 0 rfl) ?_
    refine va_get (ci := 4) (v := .int (nI tn)) (C := RX4) (T := TX4) (N := 6) hx hb hts hin4 hown hK hP 0 rfl rfl 1 (by decide) (hts (.fieldLink RX4 15 "UpAllRound$Voices" "traced" "I") (List.mem_of_getElem? (i := 1) rfl)) (fun _ h9 => h9) rfl dX4_begin_14 ?_
    refine lv_iload_n hx hb dX4_begin_17 rfl (lv_at hl 1 rfl) ?_
    refine zast (t := tn) hx hb hK hP hD hS 1 rfl (by omega) (by decide) dX4_begin_18 (fun H locs hP hD hS => ?_)
    have hP : va_P D vwCl [(h, .inr (4, [.ref hT9, .int (nI tn), .int (nI pt), .int (nI K), .int (nI sp), .int mm])), (hT9, .inl (cI, 30, .inl (upd T tn (nI b))))] H := hP
    have hD : va_D AA [(h, .inr (4, [.ref hT9, .int (nI tn), .int (nI pt), .int (nI K), .int (nI sp), .int mm])), (hT9, .inl (cI, 30, .inl (upd T tn (nI b))))] := hD
    refine lv_aload_n hx hb dX4_begin_19 rfl (lv_at hl 0 rfl) ?_
    refine lv_dup hx hb dX4_begin_20 rfl ?_
    refine va_get (ci := 4) (v := .int (nI tn)) (C := RX4) (T := TX4) (N := 6) hx hb hts hin4 hown hK hP 0 rfl rfl 1 (by decide) (hts (.fieldLink RX4 15 "UpAllRound$Voices" "traced" "I") (List.mem_of_getElem? (i := 1) rfl)) (fun _ h9 => h9) rfl dX4_begin_21 ?_
    refine lv_iconst (v := nI 1) hx hb dX4_begin_24 (by decide) ?_
    refine lv_iadd hx hb dX4_begin_25 ?_
    refine zrw (nI_add _ _) ?_
    refine va_put (ci := 4) (v := .int (nI (tn + 1))) (ty := .int) (C := RX4) (T := TX4) (N := 6) hx hb hts hin4 tyX4 tyX4_ok nmX4 hown hK hP hD hS 0 rfl rfl 1 (by decide) (hts (.fieldLink RX4 15 "UpAllRound$Voices" "traced" "I") (List.mem_of_getElem? (i := 1) rfl)) (fun _ h9 => h9) rfl (by decide +kernel) rfl rfl (Nat.le_of_ble_eq_true rfl) dX4_begin_26 (fun H locs hP hD hS => ?_)
    have hP : va_P D vwCl [(h, .inr (4, [.ref hT9, .int (nI (tn + 1)), .int (nI pt), .int (nI K), .int (nI sp), .int mm])), (hT9, .inl (cI, 30, .inl (upd T tn (nI b))))] H := hP
    have hD : va_D AA [(h, .inr (4, [.ref hT9, .int (nI (tn + 1)), .int (nI pt), .int (nI K), .int (nI sp), .int mm])), (hT9, .inl (cI, 30, .inl (upd T tn (nI b))))] := hD
    exact hret hP hD hS dX4_begin_29 (by rfl)
set_option maxHeartbeats 4000000 in
set_option maxRecDepth 100000 in
theorem c_X4_part (l : Launch) (D : va_G) (cI cJ : ClassId) (h : Nat) (hT9 : Nat) (tn : Nat) (K : Nat) (sp : Nat) (mm : Int32) (x : Int32)  : zMi l yX4_part wsX4_part ({ frames := 0, cells := 0, slots := 0, locals := 0 } : Room) D [(cI, .int), (cJ, .array .int)] [.ref h, .int x] [(h, .inr (4, [.ref hT9, .int (nI tn), .int (nI 0), .int (nI K), .int (nI sp), .int mm]))] (fun r w => r = (zpv sp mm x) ∧ w = [(h, .inr (4, [.ref hT9, .int (nI tn), .int (nI ((zpd sp mm))), .int (nI K), .int (nI sp), .int mm]))]) := by
  refine zMi.start (cc := cX4_part) (maxL := 3) (rt := .int) (by first | decide | decide +kernel) rfl (Nat.le_of_ble_eq_true rfl) ?_
  intro pg ev s mt args below meth cd ls AA QQ ⟨hx, hb, hml, hr, hlocks, hown, hts, hK, hN, hZ, hP, hD, hA, hS, hl⟩ hret
  have hown : s.vm.findClass RX4 = some mt.cls := hown
  have hl : lv_has ls 3 [(0, .ref h), (1, .int x)] := hl
  have hin4 : ∀ w ∈ wsX40, w ∈ wsX4_part := fun w h => List.mem_cons_of_mem _ (List.mem_append_right _ (h))
  refine lv_aload_n hx hb dX4_part_0 rfl (lv_at hl 0 rfl) ?_
  refine va_get (ci := 4) (v := .int mm) (C := RX4) (T := TX4) (N := 6) hx hb hts hin4 hown hK hP 0 rfl rfl 5 (by decide) (hts (.fieldLink RX4 29 "UpAllRound$Voices" "m" "I") (List.mem_of_getElem? (i := 1) rfl)) (fun _ h9 => h9) rfl dX4_part_1 ?_
  refine lv_aload_n hx hb dX4_part_4 rfl (lv_at hl 0 rfl) ?_
  refine va_get (ci := 4) (v := .int (nI sp)) (C := RX4) (T := TX4) (N := 6) hx hb hts hin4 hown hK hP 0 rfl rfl 4 (by decide) (hts (.fieldLink RX4 26 "UpAllRound$Voices" "k" "I") (List.mem_of_getElem? (i := 2) rfl)) (fun _ h9 => h9) rfl dX4_part_5 ?_
  refine lv_isub hx hb dX4_part_8 ?_
  refine lv_istore_n (lv' := [(2, .int (mm - (nI sp))), (0, .ref h), (1, .int x)]) hx hb dX4_part_9 rfl hl (by decide) rfl (fun ls hl => ?_)
  refine lv_iload_n hx hb dX4_part_10 rfl (lv_at hl 0 rfl) ?_
  refine lv_if_ne (tgt := 21) hx hb dX4_part_11 (by decide) (fun c11_1 => ?_) (fun c11_1 => ?_)
  · refine lv_iload_n hx hb dX4_part_21 rfl (lv_at hl 2 rfl) ?_
    refine lv_iload_n hx hb dX4_part_22 rfl (lv_at hl 0 rfl) ?_
    refine lv_idiv hx hb dX4_part_23 (by assumption) ?_
    exact hret hP hD hS dX4_part_24 rfl (by exact ⟨(zpv_d (by assumption)).symm, by rw [zpd, if_neg (by assumption)]⟩)
  · refine lv_aload_n hx hb dX4_part_14 rfl (lv_at hl 1 rfl) ?_
    refine lv_iconst (v := nI 1) hx hb dX4_part_15 (by decide) ?_
    refine va_put (ci := 4) (v := .int (nI 1)) (ty := .boolean) (C := RX4) (T := TX4) (N := 6) hx hb hts hin4 tyX4 tyX4_ok nmX4 hown hK hP hD hS 0 rfl rfl 2 (by decide) (hts (.fieldLink RX4 19 "UpAllRound$Voices" "parted" "Z") (List.mem_of_getElem? (i := 3) rfl)) (fun _ h9 => h9) rfl (by decide +kernel) rfl rfl (Nat.le_of_ble_eq_true rfl) dX4_part_16 (fun H locs hP hD hS => ?_)
    have hP : va_P D vwCl [(h, .inr (4, [.ref hT9, .int (nI tn), .int (nI 1), .int (nI K), .int (nI sp), .int mm]))] H := hP
    have hD : va_D AA [(h, .inr (4, [.ref hT9, .int (nI tn), .int (nI 1), .int (nI K), .int (nI sp), .int mm]))] := hD
    refine lv_iconst (v := nI 0) hx hb dX4_part_19 (by decide) ?_
    exact hret hP hD hS dX4_part_20 rfl (by exact ⟨by rw [zpv, if_pos (by assumption)], by rw [zpd, if_pos (by assumption)]⟩)
