
theorem zd1 (x : Int32) : x / (-1) = -x := by
  apply Int32.toBitVec_inj.mp
  rw [Int32.toBitVec_div, show (-1 : Int32).toBitVec = -1#32 from by decide, show (-x).toBitVec = -x.toBitVec from rfl]
  rw [BitVec.sdiv_neg (by decide), BitVec.sdiv_one]
theorem zpv_d {sp : Nat} {m x : Int32} (h : ¬ m - nI sp = 0) : zpv sp m x = x / (m - nI sp) := by
  rw [zpv, if_neg h]
  by_cases h2 : m - nI sp = -1
  · rw [if_pos h2, h2, zd1]
  · rw [if_neg h2]

section ZGN
variable {p : Program} {l : Launch} {e : Env} {R : Room} {s : State} {m : MethodId} {args : Array Value} {below : List Frame} {meth : Method} {c : Code} {H : Heap} {locs : List Loc} {cells slots : Nat} {Q : State → Prop}
variable {cc : ByteArray} {pc : Nat} {ls : Array Slot} {rest : List Value} {A : Nat → Prop}
theorem zgetsN (hexec : p.tables.exec = Jvm.exec) (hb : c.code = cc) {C n d own ref host : String} {v : Value} {index : Nat} (hZ : va_Z C n d v A s s.heap) (hS : va_S A s.heap H locs) (hown : s.vm.findClass own = some m.cls) (hlink : (Cond.fieldLinkNest own index ref n d host).before args s = true) (hsame : ∀ x, s.fieldFound? C n d = some x → s.fieldFound? ref n d = some x) (hdg : decode cc pc = .ok (.getstatic index, 3))
    (kk : W p l e R s m args below meth c H locs cells slots Q (F0 m (pc + 3) ls (v :: rest))) : W p l e R s m args below meth c H locs cells slots Q (F0 m pc ls rest) := by
  obtain ⟨cf, kf, fi, f, a, cell, h1, h2, h3, h4, h5, h6, h7, h8⟩ := hZ
  intro T hT X
  obtain ⟨vm', X', st⟩ := X.getstaticNest hexec hown hlink (hsame _ h1) h2 h3 h4 (by rw [hT, hS.2.1 a (Array.getElem?_eq_some_iff.mp h5).1 h8]; exact h5) (fun e => by rw [e] at h6; cases h6) h7 (g := F0 m pc ls rest) rfl (by rw [hb]; exact hdg)
  obtain ⟨t, a1, b1⟩ := kk (T.setVm vm') hT X'
  exact ⟨t, st t a1, b1⟩
end ZGN
set_option maxHeartbeats 4000000 in
set_option maxRecDepth 100000 in
theorem c_X4_begin (l : Launch) (D : va_G) (cI cJ : ClassId) (h : Nat) (hT9 : Nat) (T : Nat → Int32) (tn : Nat) (pt : Nat) (K : Nat) (sp : Nat) (mm : Int32) (b : Nat) (htn : tn < 30) : zMv l yX4_begin wsX4_begin ({ frames := 0, cells := 0, slots := 0, locals := 0 } : Room) D [(cI, .int), (cJ, .array .int)] [.ref h, .int (nI b)] [(h, .inr (4, [.ref hT9, .int (nI tn), .int (nI pt), .int (nI K), .int (nI sp), .int mm])), (hT9, .inl (cI, 30, .inl T))] (fun w => w = [(h, .inr (4, [.ref hT9, .int (nI ((tn + 1))), .int (nI pt), .int (nI K), .int (nI sp), .int mm])), (hT9, .inl (cI, 30, .inl ((upd T tn (nI b)))))]) := by
  refine zMv.start (cc := cX4_begin) (maxL := 2) (by first | decide | decide +kernel) rfl (Nat.le_of_ble_eq_true rfl) ?_
  intro pg ev s mt args below meth cd ls AA QQ ⟨hx, hb, hml, hr, hlocks, hown, hts, hK, hN, hZ, hP, hD, hA, hS, hl⟩ hret
  have hown : s.vm.findClass RX4 = some mt.cls := hown
  have hl : lv_has ls 2 [(0, .ref h), (1, .int (nI b))] := hl
  have hin4 : ∀ w ∈ wsX40, w ∈ wsX4_begin := fun w h => List.mem_cons_of_mem _ (List.mem_append_right _ (h))
  refine lv_aload_n hx hb dX4_begin_0 rfl (lv_at hl 0 rfl) ?_
  refine va_get (ci := 4) (v := .int (nI tn)) (C := RX4) (T := TX4) (N := 6) hx hb hts hin4 hown hK hP 0 rfl rfl 1 (by decide) (hts (.fieldLink RX4 15 "UpAllRound$Voices" "traced" "I") (List.mem_of_getElem? (i := 1) rfl)) (fun _ h9 => h9) rfl dX4_begin_1 ?_
  refine lv_bipush (v := nI 30) hx hb dX4_begin_4 (by decide) ?_
  refine lv_icmp_ge (tgt := 29) hx hb dX4_begin_6 (by decide) (fun c6_1 => ?_) (fun c6_1 => ?_)
  · have c6_1 : 30 ≤ tn := (nI_leI (a := 30) (b := tn) (by omega) (by omega)).mp c6_1
    exact absurd c6_1 (by omega)
  · have c6_1 : ¬ (30 ≤ tn) := fun h9 => c6_1 ((nI_leI (a := 30) (b := tn) (by omega) (by omega)).mpr h9)
    refine lv_aload_n hx hb dX4_begin_9 rfl (lv_at hl 0 rfl) ?_
    refine va_get (ci := 4) (v := .ref hT9) (C := RX4) (T := TX4) (N := 6) hx hb hts hin4 hown hK hP 0 rfl rfl 0 (by decide) (hts (.fieldLink RX4 9 "UpAllRound$Voices" "trace" "[I") (List.mem_of_getElem? (i := 2) rfl)) (fun _ h9 => h9) rfl dX4_begin_10 ?_
    refine lv_aload_n hx hb dX4_begin_13 rfl (lv_at hl 0 rfl) ?_
    refine va_get (ci := 4) (v := .int (nI tn)) (C := RX4) (T := TX4) (N := 6) hx hb hts hin4 hown hK hP 0 rfl rfl 1 (by decide) (hts (.fieldLink RX4 15 "UpAllRound$Voices" "traced" "I") (List.mem_of_getElem? (i := 1) rfl)) (fun _ h9 => h9) rfl dX4_begin_14 ?_
    refine lv_iload_n hx hb dX4_begin_17 rfl (lv_at hl 1 rfl) ?_
    refine zast (t := tn) hx hb hK hP hD hS 1 rfl (by omega) (by decide) dX4_begin_18 (fun H locs hP hD hS => ?_)
    have hP : va_P D vwCl [(h, .inr (4, [.ref hT9, .int (nI tn), .int (nI pt), .int (nI K), .int (nI sp), .int mm])), (hT9, .inl (cI, 30, .inl (upd T tn (nI b))))] H := hP
    have hD : va_D AA [(h, .inr (4, [.ref hT9, .int (nI tn), .int (nI pt), .int (nI K), .int (nI sp), .int mm])), (hT9, .inl (cI, 30, .inl (upd T tn (nI b))))] := hD
    refine lv_aload_n hx hb dX4_begin_19 rfl (lv_at hl 0 rfl) ?_
    refine lv_dup hx hb dX4_begin_20 rfl ?_
    refine va_get (ci := 4) (v := .int (nI tn)) (C := RX4) (T := TX4) (N := 6) hx hb hts hin4 hown hK hP 0 rfl rfl 1 (by decide) (hts (.fieldLink RX4 15 "UpAllRound$Voices" "traced" "I") (List.mem_of_getElem? (i := 1) rfl)) (fun _ h9 => h9) rfl dX4_begin_21 ?_
    refine lv_iconst (v := nI 1) hx hb dX4_begin_24 (by decide) ?_
    refine lv_iadd hx hb dX4_begin_25 ?_
    refine zrw (nI_add _ _) ?_
    refine va_put (ci := 4) (v := .int (nI (tn + 1))) (ty := .int) (C := RX4) (T := TX4) (N := 6) hx hb hts hin4 tyX4 tyX4_ok nmX4 hown hK hP hD hS 0 rfl rfl 1 (by decide) (hts (.fieldLink RX4 15 "UpAllRound$Voices" "traced" "I") (List.mem_of_getElem? (i := 1) rfl)) (fun _ h9 => h9) rfl (by decide +kernel) rfl rfl (Nat.le_of_ble_eq_true rfl) dX4_begin_26 (fun H locs hP hD hS => ?_)
    have hP : va_P D vwCl [(h, .inr (4, [.ref hT9, .int (nI (tn + 1)), .int (nI pt), .int (nI K), .int (nI sp), .int mm])), (hT9, .inl (cI, 30, .inl (upd T tn (nI b))))] H := hP
    have hD : va_D AA [(h, .inr (4, [.ref hT9, .int (nI (tn + 1)), .int (nI pt), .int (nI K), .int (nI sp), .int mm])), (hT9, .inl (cI, 30, .inl (upd T tn (nI b))))] := hD
    exact hret hP hD hS dX4_begin_29 (by rfl)
set_option maxHeartbeats 4000000 in
set_option maxRecDepth 100000 in
theorem c_X4_part (l : Launch) (D : va_G) (cI cJ : ClassId) (h : Nat) (hT9 : Nat) (tn : Nat) (K : Nat) (sp : Nat) (mm : Int32) (x : Int32)  : zMi l yX4_part wsX4_part ({ frames := 0, cells := 0, slots := 0, locals := 0 } : Room) D [(cI, .int), (cJ, .array .int)] [.ref h, .int x] [(h, .inr (4, [.ref hT9, .int (nI tn), .int (nI 0), .int (nI K), .int (nI sp), .int mm]))] (fun r w => r = (zpv sp mm x) ∧ w = [(h, .inr (4, [.ref hT9, .int (nI tn), .int (nI ((zpd sp mm))), .int (nI K), .int (nI sp), .int mm]))]) := by
  refine zMi.start (cc := cX4_part) (maxL := 3) (rt := .int) (by first | decide | decide +kernel) rfl (Nat.le_of_ble_eq_true rfl) ?_
  intro pg ev s mt args below meth cd ls AA QQ ⟨hx, hb, hml, hr, hlocks, hown, hts, hK, hN, hZ, hP, hD, hA, hS, hl⟩ hret
  have hown : s.vm.findClass RX4 = some mt.cls := hown
  have hl : lv_has ls 3 [(0, .ref h), (1, .int x)] := hl
  have hin4 : ∀ w ∈ wsX40, w ∈ wsX4_part := fun w h => List.mem_cons_of_mem _ (List.mem_append_right _ (h))
  refine lv_aload_n hx hb dX4_part_0 rfl (lv_at hl 0 rfl) ?_
  refine va_get (ci := 4) (v := .int mm) (C := RX4) (T := TX4) (N := 6) hx hb hts hin4 hown hK hP 0 rfl rfl 5 (by decide) (hts (.fieldLink RX4 29 "UpAllRound$Voices" "m" "I") (List.mem_of_getElem? (i := 1) rfl)) (fun _ h9 => h9) rfl dX4_part_1 ?_
  refine lv_aload_n hx hb dX4_part_4 rfl (lv_at hl 0 rfl) ?_
  refine va_get (ci := 4) (v := .int (nI sp)) (C := RX4) (T := TX4) (N := 6) hx hb hts hin4 hown hK hP 0 rfl rfl 4 (by decide) (hts (.fieldLink RX4 26 "UpAllRound$Voices" "k" "I") (List.mem_of_getElem? (i := 2) rfl)) (fun _ h9 => h9) rfl dX4_part_5 ?_
  refine lv_isub hx hb dX4_part_8 ?_
  refine lv_istore_n (lv' := [(2, .int (mm - (nI sp))), (0, .ref h), (1, .int x)]) hx hb dX4_part_9 rfl hl (by decide) rfl (fun ls hl => ?_)
  refine lv_iload_n hx hb dX4_part_10 rfl (lv_at hl 0 rfl) ?_
  refine lv_if_ne (tgt := 21) hx hb dX4_part_11 (by decide) (fun c11_1 => ?_) (fun c11_1 => ?_)
  · refine lv_iload_n hx hb dX4_part_21 rfl (lv_at hl 2 rfl) ?_
    refine lv_iload_n hx hb dX4_part_22 rfl (lv_at hl 0 rfl) ?_
    refine lv_idiv hx hb dX4_part_23 (by assumption) ?_
    exact hret hP hD hS dX4_part_24 rfl (by exact ⟨(zpv_d (by assumption)).symm, by rw [zpd, if_neg (by assumption)]⟩)
  · refine lv_aload_n hx hb dX4_part_14 rfl (lv_at hl 1 rfl) ?_
    refine lv_iconst (v := nI 1) hx hb dX4_part_15 (by decide) ?_
    refine va_put (ci := 4) (v := .int (nI 1)) (ty := .boolean) (C := RX4) (T := TX4) (N := 6) hx hb hts hin4 tyX4 tyX4_ok nmX4 hown hK hP hD hS 0 rfl rfl 2 (by decide) (hts (.fieldLink RX4 19 "UpAllRound$Voices" "parted" "Z") (List.mem_of_getElem? (i := 3) rfl)) (fun _ h9 => h9) rfl (by decide +kernel) rfl rfl (Nat.le_of_ble_eq_true rfl) dX4_part_16 (fun H locs hP hD hS => ?_)
    have hP : va_P D vwCl [(h, .inr (4, [.ref hT9, .int (nI tn), .int (nI 1), .int (nI K), .int (nI sp), .int mm]))] H := hP
    have hD : va_D AA [(h, .inr (4, [.ref hT9, .int (nI tn), .int (nI 1), .int (nI K), .int (nI sp), .int mm]))] := hD
    refine lv_iconst (v := nI 0) hx hb dX4_part_19 (by decide) ?_
    exact hret hP hD hS dX4_part_20 rfl (by exact ⟨by rw [zpv, if_pos (by assumption)], by rw [zpd, if_pos (by assumption)]⟩)
set_option maxHeartbeats 4000000 in
set_option maxRecDepth 100000 in
theorem c_X4_find_0_0 (l : Launch) (D : va_G) (cI cJ : ClassId)   : zSi l yX4_find wsX4_find ({ frames := 1, cells := 0, slots := 0, locals := 22 } : Room) D [(cI, .int), (cJ, .array .int)] [.int (nI 0), .int (nI 0)] [] (fun r => r = nI 10) := by
  refine zSi.start (cc := cX4_find) (maxL := 5) (rt := .int) (by first | decide | decide +kernel) rfl (Nat.le_of_ble_eq_true rfl) ?_
  intro pg ev s mt args below meth cd ls AA QQ ⟨hx, hb, hml, hr, hlocks, hown, hts, hK, hN, hZ, hP, hD, hA, hS, hl⟩ hret
  have hown : s.vm.findClass RX4 = some mt.cls := hown
  have hl : lv_has ls 5 [(0, .int (nI 0)), (1, .int (nI 0))] := hl
  refine lv_iload_n hx hb dX4_find_0 rfl (lv_at hl 0 rfl) ?_
  refine lv_istore_n (lv' := [(2, .int (nI 0)), (0, .int (nI 0)), (1, .int (nI 0))]) hx hb dX4_find_1 rfl hl (by decide) rfl (fun ls hl => ?_)
  refine lv_iconst (v := nI 0) hx hb dX4_find_2 (by decide) ?_
  refine lv_istore_n (lv' := [(3, .int (nI 0)), (2, .int (nI 0)), (0, .int (nI 0)), (1, .int (nI 0))]) hx hb dX4_find_3 rfl hl (by decide) rfl (fun ls hl => ?_)
  refine lv_iload_n hx hb dX4_find_4 rfl (lv_at hl 0 rfl) ?_
  refine lv_bipush (v := nI 7) hx hb dX4_find_5 (by decide) ?_
  refine lv_icmp_ge (tgt := 51) hx hb dX4_find_7 (by decide) (fun c7_1 => ?_) (fun c7_1 => ?_)
  · have c7_1 : 7 ≤ 0 := (nI_leI (a := 7) (b := 0) (by omega) (by omega)).mp c7_1
    exact absurd c7_1 (by omega)
  · have c7_1 : ¬ (7 ≤ 0) := fun h9 => c7_1 ((nI_leI (a := 7) (b := 0) (by omega) (by omega)).mpr h9)
    refine lv_iload_n hx hb dX4_find_10 rfl (lv_at hl 1 rfl) ?_
    refine lv_iconst (v := nI 0) hx hb dX4_find_11 (by decide) ?_
    refine lv_bipush (v := nI 6) hx hb dX4_find_12 (by decide) ?_
    refine zcsE (va_runSN (As := [.int (nI 0), .int (nI 0), .int (nI 6)]) (rest := []) ⟨hx, hb, hml, hown, hts⟩ (d_X5_isOutside l D cI cJ (nI 0) (nI 0) (nI 6) 0 6 (by decide) (by decide) s.heap.size) ⟨va_cnB 3 hts gX4_find_X5_isOutside_n52 rfl rfl rfl (hN (.methodLinkNest "UpAllRound$Voices" 52 yX5_isOutside "UpAllRound") (List.mem_of_getElem? (i := 61) rfl)) (hts (.initialized RX5) (List.mem_of_getElem? (i := 3) rfl)) (by decide +kernel) ⟨Nat.le_of_ble_eq_true rfl, Nat.le_of_ble_eq_true rfl⟩, (hts (.static yX5_isOutside) (List.mem_of_getElem? (i := 2) rfl)), trivial⟩ (zpS hK hN hZ hP hD hS hA [] rfl (by decide)) rfl rfl hl.1 rfl (lv_room (Nat.le_of_ble_eq_true rfl)) dX4_find_14 ⟨Nat.zero_le _, Nat.zero_le _⟩) ?_
    refine lv_if_ne (tgt := 51) hx hb dX4_find_17 (by decide) (fun c17_2 => ?_) (fun c17_2 => ?_)
    · have c17_2 := bI_nn0.mp c17_2
      exact absurd (show zrg 0 6 (nI 0) by decide) c17_2
    · have c17_2 := bI_nX0.mp c17_2
      obtain ⟨t_BODIES, hz2a, hz2b⟩ := hZ.2
      refine va_gets hx hb hz2a hS hown (hts (.fieldLink RX4 56 "UpAllRound$Voices" "BODIES" "[I") (List.mem_of_getElem? (i := 1) rfl)) (fun _ h9 => h9) dX4_find_20 ?_
      refine lv_iload_n hx hb dX4_find_23 rfl (lv_at hl 1 rfl) ?_
      refine lv_iconst (v := nI 4) hx hb dX4_find_24 (by decide) ?_
      refine lv_imul hx hb dX4_find_25 ?_
      refine zrw (pk_mul _ _) ?_
      refine lv_iload_n hx hb dX4_find_26 rfl (lv_at hl 3 rfl) ?_
      refine lv_iadd hx hb dX4_find_27 ?_
      refine zrw (nI_add _ _) ?_
      refine zsti (t := 0) hx hb hz2b hS (by omega) dX4_find_28 ?_
      refine zrw (show zBO 0 = nI 10 from rfl) ?_
      refine lv_istore (lv' := [(4, .int (nI 10)), (3, .int (nI 0)), (2, .int (nI 0)), (0, .int (nI 0)), (1, .int (nI 0))]) hx hb dX4_find_29 hl (by decide) rfl (fun ls hl => ?_)
      refine lv_iload hx hb dX4_find_31 (lv_at hl 0 rfl) ?_
      refine lv_if_eq (tgt := 39) hx hb dX4_find_33 (by decide) (fun c33_3 => ?_) (fun c33_3 => ?_)
      · have c33_3 : 10 = 0 := (nI_eq (a := 10) (b := 0) (by omega) (by omega)).mp c33_3
        exact absurd c33_3 (by omega)
      · have c33_3 : ¬ (10 = 0) := fun h9 => c33_3 ((nI_eq (a := 10) (b := 0) (by omega) (by omega)).mpr h9)
        refine lv_iload hx hb dX4_find_36 (lv_at hl 0 rfl) ?_
        exact hret dX4_find_38 rfl (by rfl)
set_option maxHeartbeats 4000000 in
set_option maxRecDepth 100000 in
theorem c_X4_find_0_1 (l : Launch) (D : va_G) (cI cJ : ClassId)   : zSi l yX4_find wsX4_find ({ frames := 1, cells := 0, slots := 0, locals := 22 } : Room) D [(cI, .int), (cJ, .array .int)] [.int (nI 0), .int (nI 1)] [] (fun r => r = nI 11) := by
  refine zSi.start (cc := cX4_find) (maxL := 5) (rt := .int) (by first | decide | decide +kernel) rfl (Nat.le_of_ble_eq_true rfl) ?_
  intro pg ev s mt args below meth cd ls AA QQ ⟨hx, hb, hml, hr, hlocks, hown, hts, hK, hN, hZ, hP, hD, hA, hS, hl⟩ hret
  have hown : s.vm.findClass RX4 = some mt.cls := hown
  have hl : lv_has ls 5 [(0, .int (nI 0)), (1, .int (nI 1))] := hl
  refine lv_iload_n hx hb dX4_find_0 rfl (lv_at hl 0 rfl) ?_
  refine lv_istore_n (lv' := [(2, .int (nI 0)), (0, .int (nI 0)), (1, .int (nI 1))]) hx hb dX4_find_1 rfl hl (by decide) rfl (fun ls hl => ?_)
  refine lv_iconst (v := nI 0) hx hb dX4_find_2 (by decide) ?_
  refine lv_istore_n (lv' := [(3, .int (nI 0)), (2, .int (nI 0)), (0, .int (nI 0)), (1, .int (nI 1))]) hx hb dX4_find_3 rfl hl (by decide) rfl (fun ls hl => ?_)
  refine lv_iload_n hx hb dX4_find_4 rfl (lv_at hl 0 rfl) ?_
  refine lv_bipush (v := nI 7) hx hb dX4_find_5 (by decide) ?_
  refine lv_icmp_ge (tgt := 51) hx hb dX4_find_7 (by decide) (fun c7_1 => ?_) (fun c7_1 => ?_)
  · have c7_1 : 7 ≤ 0 := (nI_leI (a := 7) (b := 0) (by omega) (by omega)).mp c7_1
    exact absurd c7_1 (by omega)
  · have c7_1 : ¬ (7 ≤ 0) := fun h9 => c7_1 ((nI_leI (a := 7) (b := 0) (by omega) (by omega)).mpr h9)
    refine lv_iload_n hx hb dX4_find_10 rfl (lv_at hl 1 rfl) ?_
    refine lv_iconst (v := nI 0) hx hb dX4_find_11 (by decide) ?_
    refine lv_bipush (v := nI 6) hx hb dX4_find_12 (by decide) ?_
    refine zcsE (va_runSN (As := [.int (nI 0), .int (nI 0), .int (nI 6)]) (rest := []) ⟨hx, hb, hml, hown, hts⟩ (d_X5_isOutside l D cI cJ (nI 0) (nI 0) (nI 6) 0 6 (by decide) (by decide) s.heap.size) ⟨va_cnB 3 hts gX4_find_X5_isOutside_n52 rfl rfl rfl (hN (.methodLinkNest "UpAllRound$Voices" 52 yX5_isOutside "UpAllRound") (List.mem_of_getElem? (i := 61) rfl)) (hts (.initialized RX5) (List.mem_of_getElem? (i := 3) rfl)) (by decide +kernel) ⟨Nat.le_of_ble_eq_true rfl, Nat.le_of_ble_eq_true rfl⟩, (hts (.static yX5_isOutside) (List.mem_of_getElem? (i := 2) rfl)), trivial⟩ (zpS hK hN hZ hP hD hS hA [] rfl (by decide)) rfl rfl hl.1 rfl (lv_room (Nat.le_of_ble_eq_true rfl)) dX4_find_14 ⟨Nat.zero_le _, Nat.zero_le _⟩) ?_
    refine lv_if_ne (tgt := 51) hx hb dX4_find_17 (by decide) (fun c17_2 => ?_) (fun c17_2 => ?_)
    · have c17_2 := bI_nn0.mp c17_2
      exact absurd (show zrg 0 6 (nI 0) by decide) c17_2
    · have c17_2 := bI_nX0.mp c17_2
      obtain ⟨t_BODIES, hz2a, hz2b⟩ := hZ.2
      refine va_gets hx hb hz2a hS hown (hts (.fieldLink RX4 56 "UpAllRound$Voices" "BODIES" "[I") (List.mem_of_getElem? (i := 1) rfl)) (fun _ h9 => h9) dX4_find_20 ?_
      refine lv_iload_n hx hb dX4_find_23 rfl (lv_at hl 1 rfl) ?_
      refine lv_iconst (v := nI 4) hx hb dX4_find_24 (by decide) ?_
      refine lv_imul hx hb dX4_find_25 ?_
      refine zrw (pk_mul _ _) ?_
      refine lv_iload_n hx hb dX4_find_26 rfl (lv_at hl 3 rfl) ?_
      refine lv_iadd hx hb dX4_find_27 ?_
      refine zrw (nI_add _ _) ?_
      refine zsti (t := 1) hx hb hz2b hS (by omega) dX4_find_28 ?_
      refine zrw (show zBO 1 = nI 11 from rfl) ?_
      refine lv_istore (lv' := [(4, .int (nI 11)), (3, .int (nI 0)), (2, .int (nI 0)), (0, .int (nI 0)), (1, .int (nI 1))]) hx hb dX4_find_29 hl (by decide) rfl (fun ls hl => ?_)
      refine lv_iload hx hb dX4_find_31 (lv_at hl 0 rfl) ?_
      refine lv_if_eq (tgt := 39) hx hb dX4_find_33 (by decide) (fun c33_3 => ?_) (fun c33_3 => ?_)
      · have c33_3 : 11 = 0 := (nI_eq (a := 11) (b := 0) (by omega) (by omega)).mp c33_3
        exact absurd c33_3 (by omega)
      · have c33_3 : ¬ (11 = 0) := fun h9 => c33_3 ((nI_eq (a := 11) (b := 0) (by omega) (by omega)).mpr h9)
        refine lv_iload hx hb dX4_find_36 (lv_at hl 0 rfl) ?_
        exact hret dX4_find_38 rfl (by rfl)
set_option maxHeartbeats 4000000 in
set_option maxRecDepth 100000 in
theorem c_X4_find_0_2 (l : Launch) (D : va_G) (cI cJ : ClassId)   : zSi l yX4_find wsX4_find ({ frames := 1, cells := 0, slots := 0, locals := 22 } : Room) D [(cI, .int), (cJ, .array .int)] [.int (nI 0), .int (nI 2)] [] (fun r => r = nI 12) := by
  refine zSi.start (cc := cX4_find) (maxL := 5) (rt := .int) (by first | decide | decide +kernel) rfl (Nat.le_of_ble_eq_true rfl) ?_
  intro pg ev s mt args below meth cd ls AA QQ ⟨hx, hb, hml, hr, hlocks, hown, hts, hK, hN, hZ, hP, hD, hA, hS, hl⟩ hret
  have hown : s.vm.findClass RX4 = some mt.cls := hown
  have hl : lv_has ls 5 [(0, .int (nI 0)), (1, .int (nI 2))] := hl
  refine lv_iload_n hx hb dX4_find_0 rfl (lv_at hl 0 rfl) ?_
  refine lv_istore_n (lv' := [(2, .int (nI 0)), (0, .int (nI 0)), (1, .int (nI 2))]) hx hb dX4_find_1 rfl hl (by decide) rfl (fun ls hl => ?_)
  refine lv_iconst (v := nI 0) hx hb dX4_find_2 (by decide) ?_
  refine lv_istore_n (lv' := [(3, .int (nI 0)), (2, .int (nI 0)), (0, .int (nI 0)), (1, .int (nI 2))]) hx hb dX4_find_3 rfl hl (by decide) rfl (fun ls hl => ?_)
  refine lv_iload_n hx hb dX4_find_4 rfl (lv_at hl 0 rfl) ?_
  refine lv_bipush (v := nI 7) hx hb dX4_find_5 (by decide) ?_
  refine lv_icmp_ge (tgt := 51) hx hb dX4_find_7 (by decide) (fun c7_1 => ?_) (fun c7_1 => ?_)
  · have c7_1 : 7 ≤ 0 := (nI_leI (a := 7) (b := 0) (by omega) (by omega)).mp c7_1
    exact absurd c7_1 (by omega)
  · have c7_1 : ¬ (7 ≤ 0) := fun h9 => c7_1 ((nI_leI (a := 7) (b := 0) (by omega) (by omega)).mpr h9)
    refine lv_iload_n hx hb dX4_find_10 rfl (lv_at hl 1 rfl) ?_
    refine lv_iconst (v := nI 0) hx hb dX4_find_11 (by decide) ?_
    refine lv_bipush (v := nI 6) hx hb dX4_find_12 (by decide) ?_
    refine zcsE (va_runSN (As := [.int (nI 0), .int (nI 0), .int (nI 6)]) (rest := []) ⟨hx, hb, hml, hown, hts⟩ (d_X5_isOutside l D cI cJ (nI 0) (nI 0) (nI 6) 0 6 (by decide) (by decide) s.heap.size) ⟨va_cnB 3 hts gX4_find_X5_isOutside_n52 rfl rfl rfl (hN (.methodLinkNest "UpAllRound$Voices" 52 yX5_isOutside "UpAllRound") (List.mem_of_getElem? (i := 61) rfl)) (hts (.initialized RX5) (List.mem_of_getElem? (i := 3) rfl)) (by decide +kernel) ⟨Nat.le_of_ble_eq_true rfl, Nat.le_of_ble_eq_true rfl⟩, (hts (.static yX5_isOutside) (List.mem_of_getElem? (i := 2) rfl)), trivial⟩ (zpS hK hN hZ hP hD hS hA [] rfl (by decide)) rfl rfl hl.1 rfl (lv_room (Nat.le_of_ble_eq_true rfl)) dX4_find_14 ⟨Nat.zero_le _, Nat.zero_le _⟩) ?_
    refine lv_if_ne (tgt := 51) hx hb dX4_find_17 (by decide) (fun c17_2 => ?_) (fun c17_2 => ?_)
    · have c17_2 := bI_nn0.mp c17_2
      exact absurd (show zrg 0 6 (nI 0) by decide) c17_2
    · have c17_2 := bI_nX0.mp c17_2
      obtain ⟨t_BODIES, hz2a, hz2b⟩ := hZ.2
      refine va_gets hx hb hz2a hS hown (hts (.fieldLink RX4 56 "UpAllRound$Voices" "BODIES" "[I") (List.mem_of_getElem? (i := 1) rfl)) (fun _ h9 => h9) dX4_find_20 ?_
      refine lv_iload_n hx hb dX4_find_23 rfl (lv_at hl 1 rfl) ?_
      refine lv_iconst (v := nI 4) hx hb dX4_find_24 (by decide) ?_
      refine lv_imul hx hb dX4_find_25 ?_
      refine zrw (pk_mul _ _) ?_
      refine lv_iload_n hx hb dX4_find_26 rfl (lv_at hl 3 rfl) ?_
      refine lv_iadd hx hb dX4_find_27 ?_
      refine zrw (nI_add _ _) ?_
      refine zsti (t := 2) hx hb hz2b hS (by omega) dX4_find_28 ?_
      refine zrw (show zBO 2 = nI 12 from rfl) ?_
      refine lv_istore (lv' := [(4, .int (nI 12)), (3, .int (nI 0)), (2, .int (nI 0)), (0, .int (nI 0)), (1, .int (nI 2))]) hx hb dX4_find_29 hl (by decide) rfl (fun ls hl => ?_)
      refine lv_iload hx hb dX4_find_31 (lv_at hl 0 rfl) ?_
      refine lv_if_eq (tgt := 39) hx hb dX4_find_33 (by decide) (fun c33_3 => ?_) (fun c33_3 => ?_)
      · have c33_3 : 12 = 0 := (nI_eq (a := 12) (b := 0) (by omega) (by omega)).mp c33_3
        exact absurd c33_3 (by omega)
      · have c33_3 : ¬ (12 = 0) := fun h9 => c33_3 ((nI_eq (a := 12) (b := 0) (by omega) (by omega)).mpr h9)
        refine lv_iload hx hb dX4_find_36 (lv_at hl 0 rfl) ?_
        exact hret dX4_find_38 rfl (by rfl)
set_option maxHeartbeats 4000000 in
set_option maxRecDepth 100000 in
theorem c_X4_find_0_3 (l : Launch) (D : va_G) (cI cJ : ClassId)   : zSi l yX4_find wsX4_find ({ frames := 1, cells := 0, slots := 0, locals := 22 } : Room) D [(cI, .int), (cJ, .array .int)] [.int (nI 0), .int (nI 3)] [] (fun r => r = nI 13) := by
  refine zSi.start (cc := cX4_find) (maxL := 5) (rt := .int) (by first | decide | decide +kernel) rfl (Nat.le_of_ble_eq_true rfl) ?_
  intro pg ev s mt args below meth cd ls AA QQ ⟨hx, hb, hml, hr, hlocks, hown, hts, hK, hN, hZ, hP, hD, hA, hS, hl⟩ hret
  have hown : s.vm.findClass RX4 = some mt.cls := hown
  have hl : lv_has ls 5 [(0, .int (nI 0)), (1, .int (nI 3))] := hl
  refine lv_iload_n hx hb dX4_find_0 rfl (lv_at hl 0 rfl) ?_
  refine lv_istore_n (lv' := [(2, .int (nI 0)), (0, .int (nI 0)), (1, .int (nI 3))]) hx hb dX4_find_1 rfl hl (by decide) rfl (fun ls hl => ?_)
  refine lv_iconst (v := nI 0) hx hb dX4_find_2 (by decide) ?_
  refine lv_istore_n (lv' := [(3, .int (nI 0)), (2, .int (nI 0)), (0, .int (nI 0)), (1, .int (nI 3))]) hx hb dX4_find_3 rfl hl (by decide) rfl (fun ls hl => ?_)
  refine lv_iload_n hx hb dX4_find_4 rfl (lv_at hl 0 rfl) ?_
  refine lv_bipush (v := nI 7) hx hb dX4_find_5 (by decide) ?_
  refine lv_icmp_ge (tgt := 51) hx hb dX4_find_7 (by decide) (fun c7_1 => ?_) (fun c7_1 => ?_)
  · have c7_1 : 7 ≤ 0 := (nI_leI (a := 7) (b := 0) (by omega) (by omega)).mp c7_1
    exact absurd c7_1 (by omega)
  · have c7_1 : ¬ (7 ≤ 0) := fun h9 => c7_1 ((nI_leI (a := 7) (b := 0) (by omega) (by omega)).mpr h9)
    refine lv_iload_n hx hb dX4_find_10 rfl (lv_at hl 1 rfl) ?_
    refine lv_iconst (v := nI 0) hx hb dX4_find_11 (by decide) ?_
    refine lv_bipush (v := nI 6) hx hb dX4_find_12 (by decide) ?_
    refine zcsE (va_runSN (As := [.int (nI 0), .int (nI 0), .int (nI 6)]) (rest := []) ⟨hx, hb, hml, hown, hts⟩ (d_X5_isOutside l D cI cJ (nI 0) (nI 0) (nI 6) 0 6 (by decide) (by decide) s.heap.size) ⟨va_cnB 3 hts gX4_find_X5_isOutside_n52 rfl rfl rfl (hN (.methodLinkNest "UpAllRound$Voices" 52 yX5_isOutside "UpAllRound") (List.mem_of_getElem? (i := 61) rfl)) (hts (.initialized RX5) (List.mem_of_getElem? (i := 3) rfl)) (by decide +kernel) ⟨Nat.le_of_ble_eq_true rfl, Nat.le_of_ble_eq_true rfl⟩, (hts (.static yX5_isOutside) (List.mem_of_getElem? (i := 2) rfl)), trivial⟩ (zpS hK hN hZ hP hD hS hA [] rfl (by decide)) rfl rfl hl.1 rfl (lv_room (Nat.le_of_ble_eq_true rfl)) dX4_find_14 ⟨Nat.zero_le _, Nat.zero_le _⟩) ?_
    refine lv_if_ne (tgt := 51) hx hb dX4_find_17 (by decide) (fun c17_2 => ?_) (fun c17_2 => ?_)
    · have c17_2 := bI_nn0.mp c17_2
      exact absurd (show zrg 0 6 (nI 0) by decide) c17_2
    · have c17_2 := bI_nX0.mp c17_2
      obtain ⟨t_BODIES, hz2a, hz2b⟩ := hZ.2
      refine va_gets hx hb hz2a hS hown (hts (.fieldLink RX4 56 "UpAllRound$Voices" "BODIES" "[I") (List.mem_of_getElem? (i := 1) rfl)) (fun _ h9 => h9) dX4_find_20 ?_
      refine lv_iload_n hx hb dX4_find_23 rfl (lv_at hl 1 rfl) ?_
      refine lv_iconst (v := nI 4) hx hb dX4_find_24 (by decide) ?_
      refine lv_imul hx hb dX4_find_25 ?_
      refine zrw (pk_mul _ _) ?_
      refine lv_iload_n hx hb dX4_find_26 rfl (lv_at hl 3 rfl) ?_
      refine lv_iadd hx hb dX4_find_27 ?_
      refine zrw (nI_add _ _) ?_
      refine zsti (t := 3) hx hb hz2b hS (by omega) dX4_find_28 ?_
      refine zrw (show zBO 3 = nI 13 from rfl) ?_
      refine lv_istore (lv' := [(4, .int (nI 13)), (3, .int (nI 0)), (2, .int (nI 0)), (0, .int (nI 0)), (1, .int (nI 3))]) hx hb dX4_find_29 hl (by decide) rfl (fun ls hl => ?_)
      refine lv_iload hx hb dX4_find_31 (lv_at hl 0 rfl) ?_
      refine lv_if_eq (tgt := 39) hx hb dX4_find_33 (by decide) (fun c33_3 => ?_) (fun c33_3 => ?_)
      · have c33_3 : 13 = 0 := (nI_eq (a := 13) (b := 0) (by omega) (by omega)).mp c33_3
        exact absurd c33_3 (by omega)
      · have c33_3 : ¬ (13 = 0) := fun h9 => c33_3 ((nI_eq (a := 13) (b := 0) (by omega) (by omega)).mpr h9)
        refine lv_iload hx hb dX4_find_36 (lv_at hl 0 rfl) ?_
        exact hret dX4_find_38 rfl (by rfl)
set_option maxHeartbeats 4000000 in
set_option maxRecDepth 100000 in
theorem c_X4_find_1_0 (l : Launch) (D : va_G) (cI cJ : ClassId)   : zSi l yX4_find wsX4_find ({ frames := 1, cells := 0, slots := 0, locals := 22 } : Room) D [(cI, .int), (cJ, .array .int)] [.int (nI 1), .int (nI 0)] [] (fun r => r = nI 20) := by
  refine zSi.start (cc := cX4_find) (maxL := 5) (rt := .int) (by first | decide | decide +kernel) rfl (Nat.le_of_ble_eq_true rfl) ?_
  intro pg ev s mt args below meth cd ls AA QQ ⟨hx, hb, hml, hr, hlocks, hown, hts, hK, hN, hZ, hP, hD, hA, hS, hl⟩ hret
  have hown : s.vm.findClass RX4 = some mt.cls := hown
  have hl : lv_has ls 5 [(0, .int (nI 1)), (1, .int (nI 0))] := hl
  refine lv_iload_n hx hb dX4_find_0 rfl (lv_at hl 0 rfl) ?_
  refine lv_istore_n (lv' := [(2, .int (nI 1)), (0, .int (nI 1)), (1, .int (nI 0))]) hx hb dX4_find_1 rfl hl (by decide) rfl (fun ls hl => ?_)
  refine lv_iconst (v := nI 0) hx hb dX4_find_2 (by decide) ?_
  refine lv_istore_n (lv' := [(3, .int (nI 0)), (2, .int (nI 1)), (0, .int (nI 1)), (1, .int (nI 0))]) hx hb dX4_find_3 rfl hl (by decide) rfl (fun ls hl => ?_)
  refine lv_iload_n hx hb dX4_find_4 rfl (lv_at hl 0 rfl) ?_
  refine lv_bipush (v := nI 7) hx hb dX4_find_5 (by decide) ?_
  refine lv_icmp_ge (tgt := 51) hx hb dX4_find_7 (by decide) (fun c7_1 => ?_) (fun c7_1 => ?_)
  · have c7_1 : 7 ≤ 0 := (nI_leI (a := 7) (b := 0) (by omega) (by omega)).mp c7_1
    exact absurd c7_1 (by omega)
  · have c7_1 : ¬ (7 ≤ 0) := fun h9 => c7_1 ((nI_leI (a := 7) (b := 0) (by omega) (by omega)).mpr h9)
    refine lv_iload_n hx hb dX4_find_10 rfl (lv_at hl 1 rfl) ?_
    refine lv_iconst (v := nI 0) hx hb dX4_find_11 (by decide) ?_
    refine lv_bipush (v := nI 6) hx hb dX4_find_12 (by decide) ?_
    refine zcsE (va_runSN (As := [.int (nI 1), .int (nI 0), .int (nI 6)]) (rest := []) ⟨hx, hb, hml, hown, hts⟩ (d_X5_isOutside l D cI cJ (nI 1) (nI 0) (nI 6) 0 6 (by decide) (by decide) s.heap.size) ⟨va_cnB 3 hts gX4_find_X5_isOutside_n52 rfl rfl rfl (hN (.methodLinkNest "UpAllRound$Voices" 52 yX5_isOutside "UpAllRound") (List.mem_of_getElem? (i := 61) rfl)) (hts (.initialized RX5) (List.mem_of_getElem? (i := 3) rfl)) (by decide +kernel) ⟨Nat.le_of_ble_eq_true rfl, Nat.le_of_ble_eq_true rfl⟩, (hts (.static yX5_isOutside) (List.mem_of_getElem? (i := 2) rfl)), trivial⟩ (zpS hK hN hZ hP hD hS hA [] rfl (by decide)) rfl rfl hl.1 rfl (lv_room (Nat.le_of_ble_eq_true rfl)) dX4_find_14 ⟨Nat.zero_le _, Nat.zero_le _⟩) ?_
    refine lv_if_ne (tgt := 51) hx hb dX4_find_17 (by decide) (fun c17_2 => ?_) (fun c17_2 => ?_)
    · have c17_2 := bI_nn0.mp c17_2
      exact absurd (show zrg 0 6 (nI 1) by decide) c17_2
    · have c17_2 := bI_nX0.mp c17_2
      obtain ⟨t_BODIES, hz2a, hz2b⟩ := hZ.2
      refine va_gets hx hb hz2a hS hown (hts (.fieldLink RX4 56 "UpAllRound$Voices" "BODIES" "[I") (List.mem_of_getElem? (i := 1) rfl)) (fun _ h9 => h9) dX4_find_20 ?_
      refine lv_iload_n hx hb dX4_find_23 rfl (lv_at hl 1 rfl) ?_
      refine lv_iconst (v := nI 4) hx hb dX4_find_24 (by decide) ?_
      refine lv_imul hx hb dX4_find_25 ?_
      refine zrw (pk_mul _ _) ?_
      refine lv_iload_n hx hb dX4_find_26 rfl (lv_at hl 3 rfl) ?_
      refine lv_iadd hx hb dX4_find_27 ?_
      refine zrw (nI_add _ _) ?_
      refine zsti (t := 4) hx hb hz2b hS (by omega) dX4_find_28 ?_
      refine zrw (show zBO 4 = nI 20 from rfl) ?_
      refine lv_istore (lv' := [(4, .int (nI 20)), (3, .int (nI 0)), (2, .int (nI 1)), (0, .int (nI 1)), (1, .int (nI 0))]) hx hb dX4_find_29 hl (by decide) rfl (fun ls hl => ?_)
      refine lv_iload hx hb dX4_find_31 (lv_at hl 0 rfl) ?_
      refine lv_if_eq (tgt := 39) hx hb dX4_find_33 (by decide) (fun c33_3 => ?_) (fun c33_3 => ?_)
      · have c33_3 : 20 = 0 := (nI_eq (a := 20) (b := 0) (by omega) (by omega)).mp c33_3
        exact absurd c33_3 (by omega)
      · have c33_3 : ¬ (20 = 0) := fun h9 => c33_3 ((nI_eq (a := 20) (b := 0) (by omega) (by omega)).mpr h9)
        refine lv_iload hx hb dX4_find_36 (lv_at hl 0 rfl) ?_
        exact hret dX4_find_38 rfl (by rfl)
set_option maxHeartbeats 4000000 in
set_option maxRecDepth 100000 in
theorem c_X4_find_1_1 (l : Launch) (D : va_G) (cI cJ : ClassId)   : zSi l yX4_find wsX4_find ({ frames := 1, cells := 0, slots := 0, locals := 22 } : Room) D [(cI, .int), (cJ, .array .int)] [.int (nI 1), .int (nI 1)] [] (fun r => r = nI 11) := by
  refine zSi.start (cc := cX4_find) (maxL := 5) (rt := .int) (by first | decide | decide +kernel) rfl (Nat.le_of_ble_eq_true rfl) ?_
  intro pg ev s mt args below meth cd ls AA QQ ⟨hx, hb, hml, hr, hlocks, hown, hts, hK, hN, hZ, hP, hD, hA, hS, hl⟩ hret
  have hown : s.vm.findClass RX4 = some mt.cls := hown
  have hl : lv_has ls 5 [(0, .int (nI 1)), (1, .int (nI 1))] := hl
  refine lv_iload_n hx hb dX4_find_0 rfl (lv_at hl 0 rfl) ?_
  refine lv_istore_n (lv' := [(2, .int (nI 1)), (0, .int (nI 1)), (1, .int (nI 1))]) hx hb dX4_find_1 rfl hl (by decide) rfl (fun ls hl => ?_)
  refine lv_iconst (v := nI 0) hx hb dX4_find_2 (by decide) ?_
  refine lv_istore_n (lv' := [(3, .int (nI 0)), (2, .int (nI 1)), (0, .int (nI 1)), (1, .int (nI 1))]) hx hb dX4_find_3 rfl hl (by decide) rfl (fun ls hl => ?_)
  refine lv_iload_n hx hb dX4_find_4 rfl (lv_at hl 0 rfl) ?_
  refine lv_bipush (v := nI 7) hx hb dX4_find_5 (by decide) ?_
  refine lv_icmp_ge (tgt := 51) hx hb dX4_find_7 (by decide) (fun c7_1 => ?_) (fun c7_1 => ?_)
  · have c7_1 : 7 ≤ 0 := (nI_leI (a := 7) (b := 0) (by omega) (by omega)).mp c7_1
    exact absurd c7_1 (by omega)
  · have c7_1 : ¬ (7 ≤ 0) := fun h9 => c7_1 ((nI_leI (a := 7) (b := 0) (by omega) (by omega)).mpr h9)
    refine lv_iload_n hx hb dX4_find_10 rfl (lv_at hl 1 rfl) ?_
    refine lv_iconst (v := nI 0) hx hb dX4_find_11 (by decide) ?_
    refine lv_bipush (v := nI 6) hx hb dX4_find_12 (by decide) ?_
    refine zcsE (va_runSN (As := [.int (nI 1), .int (nI 0), .int (nI 6)]) (rest := []) ⟨hx, hb, hml, hown, hts⟩ (d_X5_isOutside l D cI cJ (nI 1) (nI 0) (nI 6) 0 6 (by decide) (by decide) s.heap.size) ⟨va_cnB 3 hts gX4_find_X5_isOutside_n52 rfl rfl rfl (hN (.methodLinkNest "UpAllRound$Voices" 52 yX5_isOutside "UpAllRound") (List.mem_of_getElem? (i := 61) rfl)) (hts (.initialized RX5) (List.mem_of_getElem? (i := 3) rfl)) (by decide +kernel) ⟨Nat.le_of_ble_eq_true rfl, Nat.le_of_ble_eq_true rfl⟩, (hts (.static yX5_isOutside) (List.mem_of_getElem? (i := 2) rfl)), trivial⟩ (zpS hK hN hZ hP hD hS hA [] rfl (by decide)) rfl rfl hl.1 rfl (lv_room (Nat.le_of_ble_eq_true rfl)) dX4_find_14 ⟨Nat.zero_le _, Nat.zero_le _⟩) ?_
    refine lv_if_ne (tgt := 51) hx hb dX4_find_17 (by decide) (fun c17_2 => ?_) (fun c17_2 => ?_)
    · have c17_2 := bI_nn0.mp c17_2
      exact absurd (show zrg 0 6 (nI 1) by decide) c17_2
    · have c17_2 := bI_nX0.mp c17_2
      obtain ⟨t_BODIES, hz2a, hz2b⟩ := hZ.2
      refine va_gets hx hb hz2a hS hown (hts (.fieldLink RX4 56 "UpAllRound$Voices" "BODIES" "[I") (List.mem_of_getElem? (i := 1) rfl)) (fun _ h9 => h9) dX4_find_20 ?_
      refine lv_iload_n hx hb dX4_find_23 rfl (lv_at hl 1 rfl) ?_
      refine lv_iconst (v := nI 4) hx hb dX4_find_24 (by decide) ?_
      refine lv_imul hx hb dX4_find_25 ?_
      refine zrw (pk_mul _ _) ?_
      refine lv_iload_n hx hb dX4_find_26 rfl (lv_at hl 3 rfl) ?_
      refine lv_iadd hx hb dX4_find_27 ?_
      refine zrw (nI_add _ _) ?_
      refine zsti (t := 5) hx hb hz2b hS (by omega) dX4_find_28 ?_
      refine zrw (show zBO 5 = nI 0 from rfl) ?_
      refine lv_istore (lv' := [(4, .int (nI 0)), (3, .int (nI 0)), (2, .int (nI 1)), (0, .int (nI 1)), (1, .int (nI 1))]) hx hb dX4_find_29 hl (by decide) rfl (fun ls hl => ?_)
      refine lv_iload hx hb dX4_find_31 (lv_at hl 0 rfl) ?_
      refine lv_if_eq (tgt := 39) hx hb dX4_find_33 (by decide) (fun c33_3 => ?_) (fun c33_3 => ?_)
      · have c33_3 : 0 = 0 := (nI_eq (a := 0) (b := 0) (by omega) (by omega)).mp c33_3
        obtain ⟨t_KIND_ABOVE, hz1a, hz1b⟩ := hZ.1
        refine zgetsN hx hb hz1a hS hown (va_Nw.use rfl (hN (.fieldLinkNest "UpAllRound$Voices" 59 "UpAllRound" "KIND_ABOVE" "[I" "UpAllRound") (List.mem_of_getElem? (i := 22) rfl))) (fun _ h9 => h9) dX4_find_39 ?_
        refine lv_iload_n hx hb dX4_find_42 rfl (lv_at hl 2 rfl) ?_
        refine zsti (t := 1) hx hb hz1b hS (by omega) dX4_find_43 ?_
        refine zrw (show zKA 1 = nI 0 from rfl) ?_
        refine lv_istore_n (lv' := [(2, .int (nI 0)), (4, .int (nI 0)), (3, .int (nI 0)), (0, .int (nI 1)), (1, .int (nI 1))]) hx hb dX4_find_44 rfl hl (by decide) rfl (fun ls hl => ?_)
        refine lv_iinc (v := nI (0 + 1)) (lv' := [(3, .int (nI (0 + 1))), (2, .int (nI 0)), (4, .int (nI 0)), (0, .int (nI 1)), (1, .int (nI 1))]) hx hb dX4_find_45 hl (k := 2) rfl (nI_add _ _) (by decide) rfl (fun ls hl => ?_)
        refine lv_goto (tgt := 4) hx hb dX4_find_48 (by decide) ?_
        refine lv_iload_n hx hb dX4_find_4 rfl (lv_at hl 0 rfl) ?_
        refine lv_bipush (v := nI 7) hx hb dX4_find_5 (by decide) ?_
        refine lv_icmp_ge (tgt := 51) hx hb dX4_find_7 (by decide) (fun c7_4 => ?_) (fun c7_4 => ?_)
        · have c7_4 : 7 ≤ (0 + 1) := (nI_leI (a := 7) (b := 0 + 1) (by omega) (by omega)).mp c7_4
          exact absurd c7_4 (by omega)
        · have c7_4 : ¬ (7 ≤ (0 + 1)) := fun h9 => c7_4 ((nI_leI (a := 7) (b := 0 + 1) (by omega) (by omega)).mpr h9)
          refine lv_iload_n hx hb dX4_find_10 rfl (lv_at hl 1 rfl) ?_
          refine lv_iconst (v := nI 0) hx hb dX4_find_11 (by decide) ?_
          refine lv_bipush (v := nI 6) hx hb dX4_find_12 (by decide) ?_
          refine zcsE (va_runSN (As := [.int (nI 0), .int (nI 0), .int (nI 6)]) (rest := []) ⟨hx, hb, hml, hown, hts⟩ (d_X5_isOutside l D cI cJ (nI 0) (nI 0) (nI 6) 0 6 (by decide) (by decide) s.heap.size) ⟨va_cnB 3 hts gX4_find_X5_isOutside_n52 rfl rfl rfl (hN (.methodLinkNest "UpAllRound$Voices" 52 yX5_isOutside "UpAllRound") (List.mem_of_getElem? (i := 61) rfl)) (hts (.initialized RX5) (List.mem_of_getElem? (i := 3) rfl)) (by decide +kernel) ⟨Nat.le_of_ble_eq_true rfl, Nat.le_of_ble_eq_true rfl⟩, (hts (.static yX5_isOutside) (List.mem_of_getElem? (i := 2) rfl)), trivial⟩ (zpS hK hN hZ hP hD hS hA [] rfl (by decide)) rfl rfl hl.1 rfl (lv_room (Nat.le_of_ble_eq_true rfl)) dX4_find_14 ⟨Nat.zero_le _, Nat.zero_le _⟩) ?_
          refine lv_if_ne (tgt := 51) hx hb dX4_find_17 (by decide) (fun c17_5 => ?_) (fun c17_5 => ?_)
          · have c17_5 := bI_nn0.mp c17_5
            exact absurd (show zrg 0 6 (nI 0) by decide) c17_5
          · have c17_5 := bI_nX0.mp c17_5
            obtain ⟨t_BODIES, hz2a, hz2b⟩ := hZ.2
            refine va_gets hx hb hz2a hS hown (hts (.fieldLink RX4 56 "UpAllRound$Voices" "BODIES" "[I") (List.mem_of_getElem? (i := 1) rfl)) (fun _ h9 => h9) dX4_find_20 ?_
            refine lv_iload_n hx hb dX4_find_23 rfl (lv_at hl 1 rfl) ?_
            refine lv_iconst (v := nI 4) hx hb dX4_find_24 (by decide) ?_
            refine lv_imul hx hb dX4_find_25 ?_
            refine zrw (pk_mul _ _) ?_
            refine lv_iload_n hx hb dX4_find_26 rfl (lv_at hl 4 rfl) ?_
            refine lv_iadd hx hb dX4_find_27 ?_
            refine zrw (nI_add _ _) ?_
            refine zsti (t := 1) hx hb hz2b hS (by omega) dX4_find_28 ?_
            refine zrw (show zBO 1 = nI 11 from rfl) ?_
            refine lv_istore (lv' := [(4, .int (nI 11)), (3, .int (nI (0 + 1))), (2, .int (nI 0)), (0, .int (nI 1)), (1, .int (nI 1))]) hx hb dX4_find_29 hl (by decide) rfl (fun ls hl => ?_)
            refine lv_iload hx hb dX4_find_31 (lv_at hl 0 rfl) ?_
            refine lv_if_eq (tgt := 39) hx hb dX4_find_33 (by decide) (fun c33_6 => ?_) (fun c33_6 => ?_)
            · have c33_6 : 11 = 0 := (nI_eq (a := 11) (b := 0) (by omega) (by omega)).mp c33_6
              exact absurd c33_6 (by omega)
            · have c33_6 : ¬ (11 = 0) := fun h9 => c33_6 ((nI_eq (a := 11) (b := 0) (by omega) (by omega)).mpr h9)
              refine lv_iload hx hb dX4_find_36 (lv_at hl 0 rfl) ?_
              exact hret dX4_find_38 rfl (by rfl)
      · have c33_3 : ¬ (0 = 0) := fun h9 => c33_3 ((nI_eq (a := 0) (b := 0) (by omega) (by omega)).mpr h9)
        exact absurd c33_3 (by omega)
set_option maxHeartbeats 4000000 in
set_option maxRecDepth 100000 in
theorem c_X4_find_1_2 (l : Launch) (D : va_G) (cI cJ : ClassId)   : zSi l yX4_find wsX4_find ({ frames := 1, cells := 0, slots := 0, locals := 22 } : Room) D [(cI, .int), (cJ, .array .int)] [.int (nI 1), .int (nI 2)] [] (fun r => r = nI 12) := by
  refine zSi.start (cc := cX4_find) (maxL := 5) (rt := .int) (by first | decide | decide +kernel) rfl (Nat.le_of_ble_eq_true rfl) ?_
  intro pg ev s mt args below meth cd ls AA QQ ⟨hx, hb, hml, hr, hlocks, hown, hts, hK, hN, hZ, hP, hD, hA, hS, hl⟩ hret
  have hown : s.vm.findClass RX4 = some mt.cls := hown
  have hl : lv_has ls 5 [(0, .int (nI 1)), (1, .int (nI 2))] := hl
  refine lv_iload_n hx hb dX4_find_0 rfl (lv_at hl 0 rfl) ?_
  refine lv_istore_n (lv' := [(2, .int (nI 1)), (0, .int (nI 1)), (1, .int (nI 2))]) hx hb dX4_find_1 rfl hl (by decide) rfl (fun ls hl => ?_)
  refine lv_iconst (v := nI 0) hx hb dX4_find_2 (by decide) ?_
  refine lv_istore_n (lv' := [(3, .int (nI 0)), (2, .int (nI 1)), (0, .int (nI 1)), (1, .int (nI 2))]) hx hb dX4_find_3 rfl hl (by decide) rfl (fun ls hl => ?_)
  refine lv_iload_n hx hb dX4_find_4 rfl (lv_at hl 0 rfl) ?_
  refine lv_bipush (v := nI 7) hx hb dX4_find_5 (by decide) ?_
  refine lv_icmp_ge (tgt := 51) hx hb dX4_find_7 (by decide) (fun c7_1 => ?_) (fun c7_1 => ?_)
  · have c7_1 : 7 ≤ 0 := (nI_leI (a := 7) (b := 0) (by omega) (by omega)).mp c7_1
    exact absurd c7_1 (by omega)
  · have c7_1 : ¬ (7 ≤ 0) := fun h9 => c7_1 ((nI_leI (a := 7) (b := 0) (by omega) (by omega)).mpr h9)
    refine lv_iload_n hx hb dX4_find_10 rfl (lv_at hl 1 rfl) ?_
    refine lv_iconst (v := nI 0) hx hb dX4_find_11 (by decide) ?_
    refine lv_bipush (v := nI 6) hx hb dX4_find_12 (by decide) ?_
    refine zcsE (va_runSN (As := [.int (nI 1), .int (nI 0), .int (nI 6)]) (rest := []) ⟨hx, hb, hml, hown, hts⟩ (d_X5_isOutside l D cI cJ (nI 1) (nI 0) (nI 6) 0 6 (by decide) (by decide) s.heap.size) ⟨va_cnB 3 hts gX4_find_X5_isOutside_n52 rfl rfl rfl (hN (.methodLinkNest "UpAllRound$Voices" 52 yX5_isOutside "UpAllRound") (List.mem_of_getElem? (i := 61) rfl)) (hts (.initialized RX5) (List.mem_of_getElem? (i := 3) rfl)) (by decide +kernel) ⟨Nat.le_of_ble_eq_true rfl, Nat.le_of_ble_eq_true rfl⟩, (hts (.static yX5_isOutside) (List.mem_of_getElem? (i := 2) rfl)), trivial⟩ (zpS hK hN hZ hP hD hS hA [] rfl (by decide)) rfl rfl hl.1 rfl (lv_room (Nat.le_of_ble_eq_true rfl)) dX4_find_14 ⟨Nat.zero_le _, Nat.zero_le _⟩) ?_
    refine lv_if_ne (tgt := 51) hx hb dX4_find_17 (by decide) (fun c17_2 => ?_) (fun c17_2 => ?_)
    · have c17_2 := bI_nn0.mp c17_2
      exact absurd (show zrg 0 6 (nI 1) by decide) c17_2
    · have c17_2 := bI_nX0.mp c17_2
      obtain ⟨t_BODIES, hz2a, hz2b⟩ := hZ.2
      refine va_gets hx hb hz2a hS hown (hts (.fieldLink RX4 56 "UpAllRound$Voices" "BODIES" "[I") (List.mem_of_getElem? (i := 1) rfl)) (fun _ h9 => h9) dX4_find_20 ?_
      refine lv_iload_n hx hb dX4_find_23 rfl (lv_at hl 1 rfl) ?_
      refine lv_iconst (v := nI 4) hx hb dX4_find_24 (by decide) ?_
      refine lv_imul hx hb dX4_find_25 ?_
      refine zrw (pk_mul _ _) ?_
      refine lv_iload_n hx hb dX4_find_26 rfl (lv_at hl 3 rfl) ?_
      refine lv_iadd hx hb dX4_find_27 ?_
      refine zrw (nI_add _ _) ?_
      refine zsti (t := 6) hx hb hz2b hS (by omega) dX4_find_28 ?_
      refine zrw (show zBO 6 = nI 0 from rfl) ?_
      refine lv_istore (lv' := [(4, .int (nI 0)), (3, .int (nI 0)), (2, .int (nI 1)), (0, .int (nI 1)), (1, .int (nI 2))]) hx hb dX4_find_29 hl (by decide) rfl (fun ls hl => ?_)
      refine lv_iload hx hb dX4_find_31 (lv_at hl 0 rfl) ?_
      refine lv_if_eq (tgt := 39) hx hb dX4_find_33 (by decide) (fun c33_3 => ?_) (fun c33_3 => ?_)
      · have c33_3 : 0 = 0 := (nI_eq (a := 0) (b := 0) (by omega) (by omega)).mp c33_3
        obtain ⟨t_KIND_ABOVE, hz1a, hz1b⟩ := hZ.1
        refine zgetsN hx hb hz1a hS hown (va_Nw.use rfl (hN (.fieldLinkNest "UpAllRound$Voices" 59 "UpAllRound" "KIND_ABOVE" "[I" "UpAllRound") (List.mem_of_getElem? (i := 22) rfl))) (fun _ h9 => h9) dX4_find_39 ?_
        refine lv_iload_n hx hb dX4_find_42 rfl (lv_at hl 2 rfl) ?_
        refine zsti (t := 1) hx hb hz1b hS (by omega) dX4_find_43 ?_
        refine zrw (show zKA 1 = nI 0 from rfl) ?_
        refine lv_istore_n (lv' := [(2, .int (nI 0)), (4, .int (nI 0)), (3, .int (nI 0)), (0, .int (nI 1)), (1, .int (nI 2))]) hx hb dX4_find_44 rfl hl (by decide) rfl (fun ls hl => ?_)
        refine lv_iinc (v := nI (0 + 1)) (lv' := [(3, .int (nI (0 + 1))), (2, .int (nI 0)), (4, .int (nI 0)), (0, .int (nI 1)), (1, .int (nI 2))]) hx hb dX4_find_45 hl (k := 2) rfl (nI_add _ _) (by decide) rfl (fun ls hl => ?_)
        refine lv_goto (tgt := 4) hx hb dX4_find_48 (by decide) ?_
        refine lv_iload_n hx hb dX4_find_4 rfl (lv_at hl 0 rfl) ?_
        refine lv_bipush (v := nI 7) hx hb dX4_find_5 (by decide) ?_
        refine lv_icmp_ge (tgt := 51) hx hb dX4_find_7 (by decide) (fun c7_4 => ?_) (fun c7_4 => ?_)
        · have c7_4 : 7 ≤ (0 + 1) := (nI_leI (a := 7) (b := 0 + 1) (by omega) (by omega)).mp c7_4
          exact absurd c7_4 (by omega)
        · have c7_4 : ¬ (7 ≤ (0 + 1)) := fun h9 => c7_4 ((nI_leI (a := 7) (b := 0 + 1) (by omega) (by omega)).mpr h9)
          refine lv_iload_n hx hb dX4_find_10 rfl (lv_at hl 1 rfl) ?_
          refine lv_iconst (v := nI 0) hx hb dX4_find_11 (by decide) ?_
          refine lv_bipush (v := nI 6) hx hb dX4_find_12 (by decide) ?_
          refine zcsE (va_runSN (As := [.int (nI 0), .int (nI 0), .int (nI 6)]) (rest := []) ⟨hx, hb, hml, hown, hts⟩ (d_X5_isOutside l D cI cJ (nI 0) (nI 0) (nI 6) 0 6 (by decide) (by decide) s.heap.size) ⟨va_cnB 3 hts gX4_find_X5_isOutside_n52 rfl rfl rfl (hN (.methodLinkNest "UpAllRound$Voices" 52 yX5_isOutside "UpAllRound") (List.mem_of_getElem? (i := 61) rfl)) (hts (.initialized RX5) (List.mem_of_getElem? (i := 3) rfl)) (by decide +kernel) ⟨Nat.le_of_ble_eq_true rfl, Nat.le_of_ble_eq_true rfl⟩, (hts (.static yX5_isOutside) (List.mem_of_getElem? (i := 2) rfl)), trivial⟩ (zpS hK hN hZ hP hD hS hA [] rfl (by decide)) rfl rfl hl.1 rfl (lv_room (Nat.le_of_ble_eq_true rfl)) dX4_find_14 ⟨Nat.zero_le _, Nat.zero_le _⟩) ?_
          refine lv_if_ne (tgt := 51) hx hb dX4_find_17 (by decide) (fun c17_5 => ?_) (fun c17_5 => ?_)
          · have c17_5 := bI_nn0.mp c17_5
            exact absurd (show zrg 0 6 (nI 0) by decide) c17_5
          · have c17_5 := bI_nX0.mp c17_5
            obtain ⟨t_BODIES, hz2a, hz2b⟩ := hZ.2
            refine va_gets hx hb hz2a hS hown (hts (.fieldLink RX4 56 "UpAllRound$Voices" "BODIES" "[I") (List.mem_of_getElem? (i := 1) rfl)) (fun _ h9 => h9) dX4_find_20 ?_
            refine lv_iload_n hx hb dX4_find_23 rfl (lv_at hl 1 rfl) ?_
            refine lv_iconst (v := nI 4) hx hb dX4_find_24 (by decide) ?_
            refine lv_imul hx hb dX4_find_25 ?_
            refine zrw (pk_mul _ _) ?_
            refine lv_iload_n hx hb dX4_find_26 rfl (lv_at hl 4 rfl) ?_
            refine lv_iadd hx hb dX4_find_27 ?_
            refine zrw (nI_add _ _) ?_
            refine zsti (t := 2) hx hb hz2b hS (by omega) dX4_find_28 ?_
            refine zrw (show zBO 2 = nI 12 from rfl) ?_
            refine lv_istore (lv' := [(4, .int (nI 12)), (3, .int (nI (0 + 1))), (2, .int (nI 0)), (0, .int (nI 1)), (1, .int (nI 2))]) hx hb dX4_find_29 hl (by decide) rfl (fun ls hl => ?_)
            refine lv_iload hx hb dX4_find_31 (lv_at hl 0 rfl) ?_
            refine lv_if_eq (tgt := 39) hx hb dX4_find_33 (by decide) (fun c33_6 => ?_) (fun c33_6 => ?_)
            · have c33_6 : 12 = 0 := (nI_eq (a := 12) (b := 0) (by omega) (by omega)).mp c33_6
              exact absurd c33_6 (by omega)
            · have c33_6 : ¬ (12 = 0) := fun h9 => c33_6 ((nI_eq (a := 12) (b := 0) (by omega) (by omega)).mpr h9)
              refine lv_iload hx hb dX4_find_36 (lv_at hl 0 rfl) ?_
              exact hret dX4_find_38 rfl (by rfl)
      · have c33_3 : ¬ (0 = 0) := fun h9 => c33_3 ((nI_eq (a := 0) (b := 0) (by omega) (by omega)).mpr h9)
        exact absurd c33_3 (by omega)
set_option maxHeartbeats 4000000 in
set_option maxRecDepth 100000 in
theorem c_X4_find_1_3 (l : Launch) (D : va_G) (cI cJ : ClassId)   : zSi l yX4_find wsX4_find ({ frames := 1, cells := 0, slots := 0, locals := 22 } : Room) D [(cI, .int), (cJ, .array .int)] [.int (nI 1), .int (nI 3)] [] (fun r => r = nI 21) := by
  refine zSi.start (cc := cX4_find) (maxL := 5) (rt := .int) (by first | decide | decide +kernel) rfl (Nat.le_of_ble_eq_true rfl) ?_
  intro pg ev s mt args below meth cd ls AA QQ ⟨hx, hb, hml, hr, hlocks, hown, hts, hK, hN, hZ, hP, hD, hA, hS, hl⟩ hret
  have hown : s.vm.findClass RX4 = some mt.cls := hown
  have hl : lv_has ls 5 [(0, .int (nI 1)), (1, .int (nI 3))] := hl
  refine lv_iload_n hx hb dX4_find_0 rfl (lv_at hl 0 rfl) ?_
  refine lv_istore_n (lv' := [(2, .int (nI 1)), (0, .int (nI 1)), (1, .int (nI 3))]) hx hb dX4_find_1 rfl hl (by decide) rfl (fun ls hl => ?_)
  refine lv_iconst (v := nI 0) hx hb dX4_find_2 (by decide) ?_
  refine lv_istore_n (lv' := [(3, .int (nI 0)), (2, .int (nI 1)), (0, .int (nI 1)), (1, .int (nI 3))]) hx hb dX4_find_3 rfl hl (by decide) rfl (fun ls hl => ?_)
  refine lv_iload_n hx hb dX4_find_4 rfl (lv_at hl 0 rfl) ?_
  refine lv_bipush (v := nI 7) hx hb dX4_find_5 (by decide) ?_
  refine lv_icmp_ge (tgt := 51) hx hb dX4_find_7 (by decide) (fun c7_1 => ?_) (fun c7_1 => ?_)
  · have c7_1 : 7 ≤ 0 := (nI_leI (a := 7) (b := 0) (by omega) (by omega)).mp c7_1
    exact absurd c7_1 (by omega)
  · have c7_1 : ¬ (7 ≤ 0) := fun h9 => c7_1 ((nI_leI (a := 7) (b := 0) (by omega) (by omega)).mpr h9)
    refine lv_iload_n hx hb dX4_find_10 rfl (lv_at hl 1 rfl) ?_
    refine lv_iconst (v := nI 0) hx hb dX4_find_11 (by decide) ?_
    refine lv_bipush (v := nI 6) hx hb dX4_find_12 (by decide) ?_
    refine zcsE (va_runSN (As := [.int (nI 1), .int (nI 0), .int (nI 6)]) (rest := []) ⟨hx, hb, hml, hown, hts⟩ (d_X5_isOutside l D cI cJ (nI 1) (nI 0) (nI 6) 0 6 (by decide) (by decide) s.heap.size) ⟨va_cnB 3 hts gX4_find_X5_isOutside_n52 rfl rfl rfl (hN (.methodLinkNest "UpAllRound$Voices" 52 yX5_isOutside "UpAllRound") (List.mem_of_getElem? (i := 61) rfl)) (hts (.initialized RX5) (List.mem_of_getElem? (i := 3) rfl)) (by decide +kernel) ⟨Nat.le_of_ble_eq_true rfl, Nat.le_of_ble_eq_true rfl⟩, (hts (.static yX5_isOutside) (List.mem_of_getElem? (i := 2) rfl)), trivial⟩ (zpS hK hN hZ hP hD hS hA [] rfl (by decide)) rfl rfl hl.1 rfl (lv_room (Nat.le_of_ble_eq_true rfl)) dX4_find_14 ⟨Nat.zero_le _, Nat.zero_le _⟩) ?_
    refine lv_if_ne (tgt := 51) hx hb dX4_find_17 (by decide) (fun c17_2 => ?_) (fun c17_2 => ?_)
    · have c17_2 := bI_nn0.mp c17_2
      exact absurd (show zrg 0 6 (nI 1) by decide) c17_2
    · have c17_2 := bI_nX0.mp c17_2
      obtain ⟨t_BODIES, hz2a, hz2b⟩ := hZ.2
      refine va_gets hx hb hz2a hS hown (hts (.fieldLink RX4 56 "UpAllRound$Voices" "BODIES" "[I") (List.mem_of_getElem? (i := 1) rfl)) (fun _ h9 => h9) dX4_find_20 ?_
      refine lv_iload_n hx hb dX4_find_23 rfl (lv_at hl 1 rfl) ?_
      refine lv_iconst (v := nI 4) hx hb dX4_find_24 (by decide) ?_
      refine lv_imul hx hb dX4_find_25 ?_
      refine zrw (pk_mul _ _) ?_
      refine lv_iload_n hx hb dX4_find_26 rfl (lv_at hl 3 rfl) ?_
      refine lv_iadd hx hb dX4_find_27 ?_
      refine zrw (nI_add _ _) ?_
      refine zsti (t := 7) hx hb hz2b hS (by omega) dX4_find_28 ?_
      refine zrw (show zBO 7 = nI 21 from rfl) ?_
      refine lv_istore (lv' := [(4, .int (nI 21)), (3, .int (nI 0)), (2, .int (nI 1)), (0, .int (nI 1)), (1, .int (nI 3))]) hx hb dX4_find_29 hl (by decide) rfl (fun ls hl => ?_)
      refine lv_iload hx hb dX4_find_31 (lv_at hl 0 rfl) ?_
      refine lv_if_eq (tgt := 39) hx hb dX4_find_33 (by decide) (fun c33_3 => ?_) (fun c33_3 => ?_)
      · have c33_3 : 21 = 0 := (nI_eq (a := 21) (b := 0) (by omega) (by omega)).mp c33_3
        exact absurd c33_3 (by omega)
      · have c33_3 : ¬ (21 = 0) := fun h9 => c33_3 ((nI_eq (a := 21) (b := 0) (by omega) (by omega)).mpr h9)
        refine lv_iload hx hb dX4_find_36 (lv_at hl 0 rfl) ?_
        exact hret dX4_find_38 rfl (by rfl)
set_option maxHeartbeats 4000000 in
set_option maxRecDepth 100000 in
theorem c_X4_find_2_0 (l : Launch) (D : va_G) (cI cJ : ClassId)   : zSi l yX4_find wsX4_find ({ frames := 1, cells := 0, slots := 0, locals := 22 } : Room) D [(cI, .int), (cJ, .array .int)] [.int (nI 2), .int (nI 0)] [] (fun r => r = nI 10) := by
  refine zSi.start (cc := cX4_find) (maxL := 5) (rt := .int) (by first | decide | decide +kernel) rfl (Nat.le_of_ble_eq_true rfl) ?_
  intro pg ev s mt args below meth cd ls AA QQ ⟨hx, hb, hml, hr, hlocks, hown, hts, hK, hN, hZ, hP, hD, hA, hS, hl⟩ hret
  have hown : s.vm.findClass RX4 = some mt.cls := hown
  have hl : lv_has ls 5 [(0, .int (nI 2)), (1, .int (nI 0))] := hl
  refine lv_iload_n hx hb dX4_find_0 rfl (lv_at hl 0 rfl) ?_
  refine lv_istore_n (lv' := [(2, .int (nI 2)), (0, .int (nI 2)), (1, .int (nI 0))]) hx hb dX4_find_1 rfl hl (by decide) rfl (fun ls hl => ?_)
  refine lv_iconst (v := nI 0) hx hb dX4_find_2 (by decide) ?_
  refine lv_istore_n (lv' := [(3, .int (nI 0)), (2, .int (nI 2)), (0, .int (nI 2)), (1, .int (nI 0))]) hx hb dX4_find_3 rfl hl (by decide) rfl (fun ls hl => ?_)
  refine lv_iload_n hx hb dX4_find_4 rfl (lv_at hl 0 rfl) ?_
  refine lv_bipush (v := nI 7) hx hb dX4_find_5 (by decide) ?_
  refine lv_icmp_ge (tgt := 51) hx hb dX4_find_7 (by decide) (fun c7_1 => ?_) (fun c7_1 => ?_)
  · have c7_1 : 7 ≤ 0 := (nI_leI (a := 7) (b := 0) (by omega) (by omega)).mp c7_1
    exact absurd c7_1 (by omega)
  · have c7_1 : ¬ (7 ≤ 0) := fun h9 => c7_1 ((nI_leI (a := 7) (b := 0) (by omega) (by omega)).mpr h9)
    refine lv_iload_n hx hb dX4_find_10 rfl (lv_at hl 1 rfl) ?_
    refine lv_iconst (v := nI 0) hx hb dX4_find_11 (by decide) ?_
    refine lv_bipush (v := nI 6) hx hb dX4_find_12 (by decide) ?_
    refine zcsE (va_runSN (As := [.int (nI 2), .int (nI 0), .int (nI 6)]) (rest := []) ⟨hx, hb, hml, hown, hts⟩ (d_X5_isOutside l D cI cJ (nI 2) (nI 0) (nI 6) 0 6 (by decide) (by decide) s.heap.size) ⟨va_cnB 3 hts gX4_find_X5_isOutside_n52 rfl rfl rfl (hN (.methodLinkNest "UpAllRound$Voices" 52 yX5_isOutside "UpAllRound") (List.mem_of_getElem? (i := 61) rfl)) (hts (.initialized RX5) (List.mem_of_getElem? (i := 3) rfl)) (by decide +kernel) ⟨Nat.le_of_ble_eq_true rfl, Nat.le_of_ble_eq_true rfl⟩, (hts (.static yX5_isOutside) (List.mem_of_getElem? (i := 2) rfl)), trivial⟩ (zpS hK hN hZ hP hD hS hA [] rfl (by decide)) rfl rfl hl.1 rfl (lv_room (Nat.le_of_ble_eq_true rfl)) dX4_find_14 ⟨Nat.zero_le _, Nat.zero_le _⟩) ?_
    refine lv_if_ne (tgt := 51) hx hb dX4_find_17 (by decide) (fun c17_2 => ?_) (fun c17_2 => ?_)
    · have c17_2 := bI_nn0.mp c17_2
      exact absurd (show zrg 0 6 (nI 2) by decide) c17_2
    · have c17_2 := bI_nX0.mp c17_2
      obtain ⟨t_BODIES, hz2a, hz2b⟩ := hZ.2
      refine va_gets hx hb hz2a hS hown (hts (.fieldLink RX4 56 "UpAllRound$Voices" "BODIES" "[I") (List.mem_of_getElem? (i := 1) rfl)) (fun _ h9 => h9) dX4_find_20 ?_
      refine lv_iload_n hx hb dX4_find_23 rfl (lv_at hl 1 rfl) ?_
      refine lv_iconst (v := nI 4) hx hb dX4_find_24 (by decide) ?_
      refine lv_imul hx hb dX4_find_25 ?_
      refine zrw (pk_mul _ _) ?_
      refine lv_iload_n hx hb dX4_find_26 rfl (lv_at hl 3 rfl) ?_
      refine lv_iadd hx hb dX4_find_27 ?_
      refine zrw (nI_add _ _) ?_
      refine zsti (t := 8) hx hb hz2b hS (by omega) dX4_find_28 ?_
      refine zrw (show zBO 8 = nI 0 from rfl) ?_
      refine lv_istore (lv' := [(4, .int (nI 0)), (3, .int (nI 0)), (2, .int (nI 2)), (0, .int (nI 2)), (1, .int (nI 0))]) hx hb dX4_find_29 hl (by decide) rfl (fun ls hl => ?_)
      refine lv_iload hx hb dX4_find_31 (lv_at hl 0 rfl) ?_
      refine lv_if_eq (tgt := 39) hx hb dX4_find_33 (by decide) (fun c33_3 => ?_) (fun c33_3 => ?_)
      · have c33_3 : 0 = 0 := (nI_eq (a := 0) (b := 0) (by omega) (by omega)).mp c33_3
        obtain ⟨t_KIND_ABOVE, hz1a, hz1b⟩ := hZ.1
        refine zgetsN hx hb hz1a hS hown (va_Nw.use rfl (hN (.fieldLinkNest "UpAllRound$Voices" 59 "UpAllRound" "KIND_ABOVE" "[I" "UpAllRound") (List.mem_of_getElem? (i := 22) rfl))) (fun _ h9 => h9) dX4_find_39 ?_
        refine lv_iload_n hx hb dX4_find_42 rfl (lv_at hl 2 rfl) ?_
        refine zsti (t := 2) hx hb hz1b hS (by omega) dX4_find_43 ?_
        refine zrw (show zKA 2 = nI 0 from rfl) ?_
        refine lv_istore_n (lv' := [(2, .int (nI 0)), (4, .int (nI 0)), (3, .int (nI 0)), (0, .int (nI 2)), (1, .int (nI 0))]) hx hb dX4_find_44 rfl hl (by decide) rfl (fun ls hl => ?_)
        refine lv_iinc (v := nI (0 + 1)) (lv' := [(3, .int (nI (0 + 1))), (2, .int (nI 0)), (4, .int (nI 0)), (0, .int (nI 2)), (1, .int (nI 0))]) hx hb dX4_find_45 hl (k := 2) rfl (nI_add _ _) (by decide) rfl (fun ls hl => ?_)
        refine lv_goto (tgt := 4) hx hb dX4_find_48 (by decide) ?_
        refine lv_iload_n hx hb dX4_find_4 rfl (lv_at hl 0 rfl) ?_
        refine lv_bipush (v := nI 7) hx hb dX4_find_5 (by decide) ?_
        refine lv_icmp_ge (tgt := 51) hx hb dX4_find_7 (by decide) (fun c7_4 => ?_) (fun c7_4 => ?_)
        · have c7_4 : 7 ≤ (0 + 1) := (nI_leI (a := 7) (b := 0 + 1) (by omega) (by omega)).mp c7_4
          exact absurd c7_4 (by omega)
        · have c7_4 : ¬ (7 ≤ (0 + 1)) := fun h9 => c7_4 ((nI_leI (a := 7) (b := 0 + 1) (by omega) (by omega)).mpr h9)
          refine lv_iload_n hx hb dX4_find_10 rfl (lv_at hl 1 rfl) ?_
          refine lv_iconst (v := nI 0) hx hb dX4_find_11 (by decide) ?_
          refine lv_bipush (v := nI 6) hx hb dX4_find_12 (by decide) ?_
          refine zcsE (va_runSN (As := [.int (nI 0), .int (nI 0), .int (nI 6)]) (rest := []) ⟨hx, hb, hml, hown, hts⟩ (d_X5_isOutside l D cI cJ (nI 0) (nI 0) (nI 6) 0 6 (by decide) (by decide) s.heap.size) ⟨va_cnB 3 hts gX4_find_X5_isOutside_n52 rfl rfl rfl (hN (.methodLinkNest "UpAllRound$Voices" 52 yX5_isOutside "UpAllRound") (List.mem_of_getElem? (i := 61) rfl)) (hts (.initialized RX5) (List.mem_of_getElem? (i := 3) rfl)) (by decide +kernel) ⟨Nat.le_of_ble_eq_true rfl, Nat.le_of_ble_eq_true rfl⟩, (hts (.static yX5_isOutside) (List.mem_of_getElem? (i := 2) rfl)), trivial⟩ (zpS hK hN hZ hP hD hS hA [] rfl (by decide)) rfl rfl hl.1 rfl (lv_room (Nat.le_of_ble_eq_true rfl)) dX4_find_14 ⟨Nat.zero_le _, Nat.zero_le _⟩) ?_
          refine lv_if_ne (tgt := 51) hx hb dX4_find_17 (by decide) (fun c17_5 => ?_) (fun c17_5 => ?_)
          · have c17_5 := bI_nn0.mp c17_5
            exact absurd (show zrg 0 6 (nI 0) by decide) c17_5
          · have c17_5 := bI_nX0.mp c17_5
            obtain ⟨t_BODIES, hz2a, hz2b⟩ := hZ.2
            refine va_gets hx hb hz2a hS hown (hts (.fieldLink RX4 56 "UpAllRound$Voices" "BODIES" "[I") (List.mem_of_getElem? (i := 1) rfl)) (fun _ h9 => h9) dX4_find_20 ?_
            refine lv_iload_n hx hb dX4_find_23 rfl (lv_at hl 1 rfl) ?_
            refine lv_iconst (v := nI 4) hx hb dX4_find_24 (by decide) ?_
            refine lv_imul hx hb dX4_find_25 ?_
            refine zrw (pk_mul _ _) ?_
            refine lv_iload_n hx hb dX4_find_26 rfl (lv_at hl 4 rfl) ?_
            refine lv_iadd hx hb dX4_find_27 ?_
            refine zrw (nI_add _ _) ?_
            refine zsti (t := 0) hx hb hz2b hS (by omega) dX4_find_28 ?_
            refine zrw (show zBO 0 = nI 10 from rfl) ?_
            refine lv_istore (lv' := [(4, .int (nI 10)), (3, .int (nI (0 + 1))), (2, .int (nI 0)), (0, .int (nI 2)), (1, .int (nI 0))]) hx hb dX4_find_29 hl (by decide) rfl (fun ls hl => ?_)
            refine lv_iload hx hb dX4_find_31 (lv_at hl 0 rfl) ?_
            refine lv_if_eq (tgt := 39) hx hb dX4_find_33 (by decide) (fun c33_6 => ?_) (fun c33_6 => ?_)
            · have c33_6 : 10 = 0 := (nI_eq (a := 10) (b := 0) (by omega) (by omega)).mp c33_6
              exact absurd c33_6 (by omega)
            · have c33_6 : ¬ (10 = 0) := fun h9 => c33_6 ((nI_eq (a := 10) (b := 0) (by omega) (by omega)).mpr h9)
              refine lv_iload hx hb dX4_find_36 (lv_at hl 0 rfl) ?_
              exact hret dX4_find_38 rfl (by rfl)
      · have c33_3 : ¬ (0 = 0) := fun h9 => c33_3 ((nI_eq (a := 0) (b := 0) (by omega) (by omega)).mpr h9)
        exact absurd c33_3 (by omega)
set_option maxHeartbeats 4000000 in
set_option maxRecDepth 100000 in
theorem c_X4_find_2_1 (l : Launch) (D : va_G) (cI cJ : ClassId)   : zSi l yX4_find wsX4_find ({ frames := 1, cells := 0, slots := 0, locals := 22 } : Room) D [(cI, .int), (cJ, .array .int)] [.int (nI 2), .int (nI 1)] [] (fun r => r = nI 30) := by
  refine zSi.start (cc := cX4_find) (maxL := 5) (rt := .int) (by first | decide | decide +kernel) rfl (Nat.le_of_ble_eq_true rfl) ?_
  intro pg ev s mt args below meth cd ls AA QQ ⟨hx, hb, hml, hr, hlocks, hown, hts, hK, hN, hZ, hP, hD, hA, hS, hl⟩ hret
  have hown : s.vm.findClass RX4 = some mt.cls := hown
  have hl : lv_has ls 5 [(0, .int (nI 2)), (1, .int (nI 1))] := hl
  refine lv_iload_n hx hb dX4_find_0 rfl (lv_at hl 0 rfl) ?_
  refine lv_istore_n (lv' := [(2, .int (nI 2)), (0, .int (nI 2)), (1, .int (nI 1))]) hx hb dX4_find_1 rfl hl (by decide) rfl (fun ls hl => ?_)
  refine lv_iconst (v := nI 0) hx hb dX4_find_2 (by decide) ?_
  refine lv_istore_n (lv' := [(3, .int (nI 0)), (2, .int (nI 2)), (0, .int (nI 2)), (1, .int (nI 1))]) hx hb dX4_find_3 rfl hl (by decide) rfl (fun ls hl => ?_)
  refine lv_iload_n hx hb dX4_find_4 rfl (lv_at hl 0 rfl) ?_
  refine lv_bipush (v := nI 7) hx hb dX4_find_5 (by decide) ?_
  refine lv_icmp_ge (tgt := 51) hx hb dX4_find_7 (by decide) (fun c7_1 => ?_) (fun c7_1 => ?_)
  · have c7_1 : 7 ≤ 0 := (nI_leI (a := 7) (b := 0) (by omega) (by omega)).mp c7_1
    exact absurd c7_1 (by omega)
  · have c7_1 : ¬ (7 ≤ 0) := fun h9 => c7_1 ((nI_leI (a := 7) (b := 0) (by omega) (by omega)).mpr h9)
    refine lv_iload_n hx hb dX4_find_10 rfl (lv_at hl 1 rfl) ?_
    refine lv_iconst (v := nI 0) hx hb dX4_find_11 (by decide) ?_
    refine lv_bipush (v := nI 6) hx hb dX4_find_12 (by decide) ?_
    refine zcsE (va_runSN (As := [.int (nI 2), .int (nI 0), .int (nI 6)]) (rest := []) ⟨hx, hb, hml, hown, hts⟩ (d_X5_isOutside l D cI cJ (nI 2) (nI 0) (nI 6) 0 6 (by decide) (by decide) s.heap.size) ⟨va_cnB 3 hts gX4_find_X5_isOutside_n52 rfl rfl rfl (hN (.methodLinkNest "UpAllRound$Voices" 52 yX5_isOutside "UpAllRound") (List.mem_of_getElem? (i := 61) rfl)) (hts (.initialized RX5) (List.mem_of_getElem? (i := 3) rfl)) (by decide +kernel) ⟨Nat.le_of_ble_eq_true rfl, Nat.le_of_ble_eq_true rfl⟩, (hts (.static yX5_isOutside) (List.mem_of_getElem? (i := 2) rfl)), trivial⟩ (zpS hK hN hZ hP hD hS hA [] rfl (by decide)) rfl rfl hl.1 rfl (lv_room (Nat.le_of_ble_eq_true rfl)) dX4_find_14 ⟨Nat.zero_le _, Nat.zero_le _⟩) ?_
    refine lv_if_ne (tgt := 51) hx hb dX4_find_17 (by decide) (fun c17_2 => ?_) (fun c17_2 => ?_)
    · have c17_2 := bI_nn0.mp c17_2
      exact absurd (show zrg 0 6 (nI 2) by decide) c17_2
    · have c17_2 := bI_nX0.mp c17_2
      obtain ⟨t_BODIES, hz2a, hz2b⟩ := hZ.2
      refine va_gets hx hb hz2a hS hown (hts (.fieldLink RX4 56 "UpAllRound$Voices" "BODIES" "[I") (List.mem_of_getElem? (i := 1) rfl)) (fun _ h9 => h9) dX4_find_20 ?_
      refine lv_iload_n hx hb dX4_find_23 rfl (lv_at hl 1 rfl) ?_
      refine lv_iconst (v := nI 4) hx hb dX4_find_24 (by decide) ?_
      refine lv_imul hx hb dX4_find_25 ?_
      refine zrw (pk_mul _ _) ?_
      refine lv_iload_n hx hb dX4_find_26 rfl (lv_at hl 3 rfl) ?_
      refine lv_iadd hx hb dX4_find_27 ?_
      refine zrw (nI_add _ _) ?_
      refine zsti (t := 9) hx hb hz2b hS (by omega) dX4_find_28 ?_
      refine zrw (show zBO 9 = nI 30 from rfl) ?_
      refine lv_istore (lv' := [(4, .int (nI 30)), (3, .int (nI 0)), (2, .int (nI 2)), (0, .int (nI 2)), (1, .int (nI 1))]) hx hb dX4_find_29 hl (by decide) rfl (fun ls hl => ?_)
      refine lv_iload hx hb dX4_find_31 (lv_at hl 0 rfl) ?_
      refine lv_if_eq (tgt := 39) hx hb dX4_find_33 (by decide) (fun c33_3 => ?_) (fun c33_3 => ?_)
      · have c33_3 : 30 = 0 := (nI_eq (a := 30) (b := 0) (by omega) (by omega)).mp c33_3
        exact absurd c33_3 (by omega)
      · have c33_3 : ¬ (30 = 0) := fun h9 => c33_3 ((nI_eq (a := 30) (b := 0) (by omega) (by omega)).mpr h9)
        refine lv_iload hx hb dX4_find_36 (lv_at hl 0 rfl) ?_
        exact hret dX4_find_38 rfl (by rfl)
set_option maxHeartbeats 4000000 in
set_option maxRecDepth 100000 in
theorem c_X4_find_2_2 (l : Launch) (D : va_G) (cI cJ : ClassId)   : zSi l yX4_find wsX4_find ({ frames := 1, cells := 0, slots := 0, locals := 22 } : Room) D [(cI, .int), (cJ, .array .int)] [.int (nI 2), .int (nI 2)] [] (fun r => r = nI 12) := by
  refine zSi.start (cc := cX4_find) (maxL := 5) (rt := .int) (by first | decide | decide +kernel) rfl (Nat.le_of_ble_eq_true rfl) ?_
  intro pg ev s mt args below meth cd ls AA QQ ⟨hx, hb, hml, hr, hlocks, hown, hts, hK, hN, hZ, hP, hD, hA, hS, hl⟩ hret
  have hown : s.vm.findClass RX4 = some mt.cls := hown
  have hl : lv_has ls 5 [(0, .int (nI 2)), (1, .int (nI 2))] := hl
  refine lv_iload_n hx hb dX4_find_0 rfl (lv_at hl 0 rfl) ?_
  refine lv_istore_n (lv' := [(2, .int (nI 2)), (0, .int (nI 2)), (1, .int (nI 2))]) hx hb dX4_find_1 rfl hl (by decide) rfl (fun ls hl => ?_)
  refine lv_iconst (v := nI 0) hx hb dX4_find_2 (by decide) ?_
  refine lv_istore_n (lv' := [(3, .int (nI 0)), (2, .int (nI 2)), (0, .int (nI 2)), (1, .int (nI 2))]) hx hb dX4_find_3 rfl hl (by decide) rfl (fun ls hl => ?_)
  refine lv_iload_n hx hb dX4_find_4 rfl (lv_at hl 0 rfl) ?_
  refine lv_bipush (v := nI 7) hx hb dX4_find_5 (by decide) ?_
  refine lv_icmp_ge (tgt := 51) hx hb dX4_find_7 (by decide) (fun c7_1 => ?_) (fun c7_1 => ?_)
  · have c7_1 : 7 ≤ 0 := (nI_leI (a := 7) (b := 0) (by omega) (by omega)).mp c7_1
    exact absurd c7_1 (by omega)
  · have c7_1 : ¬ (7 ≤ 0) := fun h9 => c7_1 ((nI_leI (a := 7) (b := 0) (by omega) (by omega)).mpr h9)
    refine lv_iload_n hx hb dX4_find_10 rfl (lv_at hl 1 rfl) ?_
    refine lv_iconst (v := nI 0) hx hb dX4_find_11 (by decide) ?_
    refine lv_bipush (v := nI 6) hx hb dX4_find_12 (by decide) ?_
    refine zcsE (va_runSN (As := [.int (nI 2), .int (nI 0), .int (nI 6)]) (rest := []) ⟨hx, hb, hml, hown, hts⟩ (d_X5_isOutside l D cI cJ (nI 2) (nI 0) (nI 6) 0 6 (by decide) (by decide) s.heap.size) ⟨va_cnB 3 hts gX4_find_X5_isOutside_n52 rfl rfl rfl (hN (.methodLinkNest "UpAllRound$Voices" 52 yX5_isOutside "UpAllRound") (List.mem_of_getElem? (i := 61) rfl)) (hts (.initialized RX5) (List.mem_of_getElem? (i := 3) rfl)) (by decide +kernel) ⟨Nat.le_of_ble_eq_true rfl, Nat.le_of_ble_eq_true rfl⟩, (hts (.static yX5_isOutside) (List.mem_of_getElem? (i := 2) rfl)), trivial⟩ (zpS hK hN hZ hP hD hS hA [] rfl (by decide)) rfl rfl hl.1 rfl (lv_room (Nat.le_of_ble_eq_true rfl)) dX4_find_14 ⟨Nat.zero_le _, Nat.zero_le _⟩) ?_
    refine lv_if_ne (tgt := 51) hx hb dX4_find_17 (by decide) (fun c17_2 => ?_) (fun c17_2 => ?_)
    · have c17_2 := bI_nn0.mp c17_2
      exact absurd (show zrg 0 6 (nI 2) by decide) c17_2
    · have c17_2 := bI_nX0.mp c17_2
      obtain ⟨t_BODIES, hz2a, hz2b⟩ := hZ.2
      refine va_gets hx hb hz2a hS hown (hts (.fieldLink RX4 56 "UpAllRound$Voices" "BODIES" "[I") (List.mem_of_getElem? (i := 1) rfl)) (fun _ h9 => h9) dX4_find_20 ?_
      refine lv_iload_n hx hb dX4_find_23 rfl (lv_at hl 1 rfl) ?_
      refine lv_iconst (v := nI 4) hx hb dX4_find_24 (by decide) ?_
      refine lv_imul hx hb dX4_find_25 ?_
      refine zrw (pk_mul _ _) ?_
      refine lv_iload_n hx hb dX4_find_26 rfl (lv_at hl 3 rfl) ?_
      refine lv_iadd hx hb dX4_find_27 ?_
      refine zrw (nI_add _ _) ?_
      refine zsti (t := 10) hx hb hz2b hS (by omega) dX4_find_28 ?_
      refine zrw (show zBO 10 = nI 0 from rfl) ?_
      refine lv_istore (lv' := [(4, .int (nI 0)), (3, .int (nI 0)), (2, .int (nI 2)), (0, .int (nI 2)), (1, .int (nI 2))]) hx hb dX4_find_29 hl (by decide) rfl (fun ls hl => ?_)
      refine lv_iload hx hb dX4_find_31 (lv_at hl 0 rfl) ?_
      refine lv_if_eq (tgt := 39) hx hb dX4_find_33 (by decide) (fun c33_3 => ?_) (fun c33_3 => ?_)
      · have c33_3 : 0 = 0 := (nI_eq (a := 0) (b := 0) (by omega) (by omega)).mp c33_3
        obtain ⟨t_KIND_ABOVE, hz1a, hz1b⟩ := hZ.1
        refine zgetsN hx hb hz1a hS hown (va_Nw.use rfl (hN (.fieldLinkNest "UpAllRound$Voices" 59 "UpAllRound" "KIND_ABOVE" "[I" "UpAllRound") (List.mem_of_getElem? (i := 22) rfl))) (fun _ h9 => h9) dX4_find_39 ?_
        refine lv_iload_n hx hb dX4_find_42 rfl (lv_at hl 2 rfl) ?_
        refine zsti (t := 2) hx hb hz1b hS (by omega) dX4_find_43 ?_
        refine zrw (show zKA 2 = nI 0 from rfl) ?_
        refine lv_istore_n (lv' := [(2, .int (nI 0)), (4, .int (nI 0)), (3, .int (nI 0)), (0, .int (nI 2)), (1, .int (nI 2))]) hx hb dX4_find_44 rfl hl (by decide) rfl (fun ls hl => ?_)
        refine lv_iinc (v := nI (0 + 1)) (lv' := [(3, .int (nI (0 + 1))), (2, .int (nI 0)), (4, .int (nI 0)), (0, .int (nI 2)), (1, .int (nI 2))]) hx hb dX4_find_45 hl (k := 2) rfl (nI_add _ _) (by decide) rfl (fun ls hl => ?_)
        refine lv_goto (tgt := 4) hx hb dX4_find_48 (by decide) ?_
        refine lv_iload_n hx hb dX4_find_4 rfl (lv_at hl 0 rfl) ?_
        refine lv_bipush (v := nI 7) hx hb dX4_find_5 (by decide) ?_
        refine lv_icmp_ge (tgt := 51) hx hb dX4_find_7 (by decide) (fun c7_4 => ?_) (fun c7_4 => ?_)
        · have c7_4 : 7 ≤ (0 + 1) := (nI_leI (a := 7) (b := 0 + 1) (by omega) (by omega)).mp c7_4
          exact absurd c7_4 (by omega)
        · have c7_4 : ¬ (7 ≤ (0 + 1)) := fun h9 => c7_4 ((nI_leI (a := 7) (b := 0 + 1) (by omega) (by omega)).mpr h9)
          refine lv_iload_n hx hb dX4_find_10 rfl (lv_at hl 1 rfl) ?_
          refine lv_iconst (v := nI 0) hx hb dX4_find_11 (by decide) ?_
          refine lv_bipush (v := nI 6) hx hb dX4_find_12 (by decide) ?_
          refine zcsE (va_runSN (As := [.int (nI 0), .int (nI 0), .int (nI 6)]) (rest := []) ⟨hx, hb, hml, hown, hts⟩ (d_X5_isOutside l D cI cJ (nI 0) (nI 0) (nI 6) 0 6 (by decide) (by decide) s.heap.size) ⟨va_cnB 3 hts gX4_find_X5_isOutside_n52 rfl rfl rfl (hN (.methodLinkNest "UpAllRound$Voices" 52 yX5_isOutside "UpAllRound") (List.mem_of_getElem? (i := 61) rfl)) (hts (.initialized RX5) (List.mem_of_getElem? (i := 3) rfl)) (by decide +kernel) ⟨Nat.le_of_ble_eq_true rfl, Nat.le_of_ble_eq_true rfl⟩, (hts (.static yX5_isOutside) (List.mem_of_getElem? (i := 2) rfl)), trivial⟩ (zpS hK hN hZ hP hD hS hA [] rfl (by decide)) rfl rfl hl.1 rfl (lv_room (Nat.le_of_ble_eq_true rfl)) dX4_find_14 ⟨Nat.zero_le _, Nat.zero_le _⟩) ?_
          refine lv_if_ne (tgt := 51) hx hb dX4_find_17 (by decide) (fun c17_5 => ?_) (fun c17_5 => ?_)
          · have c17_5 := bI_nn0.mp c17_5
            exact absurd (show zrg 0 6 (nI 0) by decide) c17_5
          · have c17_5 := bI_nX0.mp c17_5
            obtain ⟨t_BODIES, hz2a, hz2b⟩ := hZ.2
            refine va_gets hx hb hz2a hS hown (hts (.fieldLink RX4 56 "UpAllRound$Voices" "BODIES" "[I") (List.mem_of_getElem? (i := 1) rfl)) (fun _ h9 => h9) dX4_find_20 ?_
            refine lv_iload_n hx hb dX4_find_23 rfl (lv_at hl 1 rfl) ?_
            refine lv_iconst (v := nI 4) hx hb dX4_find_24 (by decide) ?_
            refine lv_imul hx hb dX4_find_25 ?_
            refine zrw (pk_mul _ _) ?_
            refine lv_iload_n hx hb dX4_find_26 rfl (lv_at hl 4 rfl) ?_
            refine lv_iadd hx hb dX4_find_27 ?_
            refine zrw (nI_add _ _) ?_
            refine zsti (t := 2) hx hb hz2b hS (by omega) dX4_find_28 ?_
            refine zrw (show zBO 2 = nI 12 from rfl) ?_
            refine lv_istore (lv' := [(4, .int (nI 12)), (3, .int (nI (0 + 1))), (2, .int (nI 0)), (0, .int (nI 2)), (1, .int (nI 2))]) hx hb dX4_find_29 hl (by decide) rfl (fun ls hl => ?_)
            refine lv_iload hx hb dX4_find_31 (lv_at hl 0 rfl) ?_
            refine lv_if_eq (tgt := 39) hx hb dX4_find_33 (by decide) (fun c33_6 => ?_) (fun c33_6 => ?_)
            · have c33_6 : 12 = 0 := (nI_eq (a := 12) (b := 0) (by omega) (by omega)).mp c33_6
              exact absurd c33_6 (by omega)
            · have c33_6 : ¬ (12 = 0) := fun h9 => c33_6 ((nI_eq (a := 12) (b := 0) (by omega) (by omega)).mpr h9)
              refine lv_iload hx hb dX4_find_36 (lv_at hl 0 rfl) ?_
              exact hret dX4_find_38 rfl (by rfl)
      · have c33_3 : ¬ (0 = 0) := fun h9 => c33_3 ((nI_eq (a := 0) (b := 0) (by omega) (by omega)).mpr h9)
        exact absurd c33_3 (by omega)
set_option maxHeartbeats 4000000 in
set_option maxRecDepth 100000 in
theorem c_X4_find_2_3 (l : Launch) (D : va_G) (cI cJ : ClassId)   : zSi l yX4_find wsX4_find ({ frames := 1, cells := 0, slots := 0, locals := 22 } : Room) D [(cI, .int), (cJ, .array .int)] [.int (nI 2), .int (nI 3)] [] (fun r => r = nI 13) := by
  refine zSi.start (cc := cX4_find) (maxL := 5) (rt := .int) (by first | decide | decide +kernel) rfl (Nat.le_of_ble_eq_true rfl) ?_
  intro pg ev s mt args below meth cd ls AA QQ ⟨hx, hb, hml, hr, hlocks, hown, hts, hK, hN, hZ, hP, hD, hA, hS, hl⟩ hret
  have hown : s.vm.findClass RX4 = some mt.cls := hown
  have hl : lv_has ls 5 [(0, .int (nI 2)), (1, .int (nI 3))] := hl
  refine lv_iload_n hx hb dX4_find_0 rfl (lv_at hl 0 rfl) ?_
  refine lv_istore_n (lv' := [(2, .int (nI 2)), (0, .int (nI 2)), (1, .int (nI 3))]) hx hb dX4_find_1 rfl hl (by decide) rfl (fun ls hl => ?_)
  refine lv_iconst (v := nI 0) hx hb dX4_find_2 (by decide) ?_
  refine lv_istore_n (lv' := [(3, .int (nI 0)), (2, .int (nI 2)), (0, .int (nI 2)), (1, .int (nI 3))]) hx hb dX4_find_3 rfl hl (by decide) rfl (fun ls hl => ?_)
  refine lv_iload_n hx hb dX4_find_4 rfl (lv_at hl 0 rfl) ?_
  refine lv_bipush (v := nI 7) hx hb dX4_find_5 (by decide) ?_
  refine lv_icmp_ge (tgt := 51) hx hb dX4_find_7 (by decide) (fun c7_1 => ?_) (fun c7_1 => ?_)
  · have c7_1 : 7 ≤ 0 := (nI_leI (a := 7) (b := 0) (by omega) (by omega)).mp c7_1
    exact absurd c7_1 (by omega)
  · have c7_1 : ¬ (7 ≤ 0) := fun h9 => c7_1 ((nI_leI (a := 7) (b := 0) (by omega) (by omega)).mpr h9)
    refine lv_iload_n hx hb dX4_find_10 rfl (lv_at hl 1 rfl) ?_
    refine lv_iconst (v := nI 0) hx hb dX4_find_11 (by decide) ?_
    refine lv_bipush (v := nI 6) hx hb dX4_find_12 (by decide) ?_
    refine zcsE (va_runSN (As := [.int (nI 2), .int (nI 0), .int (nI 6)]) (rest := []) ⟨hx, hb, hml, hown, hts⟩ (d_X5_isOutside l D cI cJ (nI 2) (nI 0) (nI 6) 0 6 (by decide) (by decide) s.heap.size) ⟨va_cnB 3 hts gX4_find_X5_isOutside_n52 rfl rfl rfl (hN (.methodLinkNest "UpAllRound$Voices" 52 yX5_isOutside "UpAllRound") (List.mem_of_getElem? (i := 61) rfl)) (hts (.initialized RX5) (List.mem_of_getElem? (i := 3) rfl)) (by decide +kernel) ⟨Nat.le_of_ble_eq_true rfl, Nat.le_of_ble_eq_true rfl⟩, (hts (.static yX5_isOutside) (List.mem_of_getElem? (i := 2) rfl)), trivial⟩ (zpS hK hN hZ hP hD hS hA [] rfl (by decide)) rfl rfl hl.1 rfl (lv_room (Nat.le_of_ble_eq_true rfl)) dX4_find_14 ⟨Nat.zero_le _, Nat.zero_le _⟩) ?_
    refine lv_if_ne (tgt := 51) hx hb dX4_find_17 (by decide) (fun c17_2 => ?_) (fun c17_2 => ?_)
    · have c17_2 := bI_nn0.mp c17_2
      exact absurd (show zrg 0 6 (nI 2) by decide) c17_2
    · have c17_2 := bI_nX0.mp c17_2
      obtain ⟨t_BODIES, hz2a, hz2b⟩ := hZ.2
      refine va_gets hx hb hz2a hS hown (hts (.fieldLink RX4 56 "UpAllRound$Voices" "BODIES" "[I") (List.mem_of_getElem? (i := 1) rfl)) (fun _ h9 => h9) dX4_find_20 ?_
      refine lv_iload_n hx hb dX4_find_23 rfl (lv_at hl 1 rfl) ?_
      refine lv_iconst (v := nI 4) hx hb dX4_find_24 (by decide) ?_
      refine lv_imul hx hb dX4_find_25 ?_
      refine zrw (pk_mul _ _) ?_
      refine lv_iload_n hx hb dX4_find_26 rfl (lv_at hl 3 rfl) ?_
      refine lv_iadd hx hb dX4_find_27 ?_
      refine zrw (nI_add _ _) ?_
      refine zsti (t := 11) hx hb hz2b hS (by omega) dX4_find_28 ?_
      refine zrw (show zBO 11 = nI 0 from rfl) ?_
      refine lv_istore (lv' := [(4, .int (nI 0)), (3, .int (nI 0)), (2, .int (nI 2)), (0, .int (nI 2)), (1, .int (nI 3))]) hx hb dX4_find_29 hl (by decide) rfl (fun ls hl => ?_)
      refine lv_iload hx hb dX4_find_31 (lv_at hl 0 rfl) ?_
      refine lv_if_eq (tgt := 39) hx hb dX4_find_33 (by decide) (fun c33_3 => ?_) (fun c33_3 => ?_)
      · have c33_3 : 0 = 0 := (nI_eq (a := 0) (b := 0) (by omega) (by omega)).mp c33_3
        obtain ⟨t_KIND_ABOVE, hz1a, hz1b⟩ := hZ.1
        refine zgetsN hx hb hz1a hS hown (va_Nw.use rfl (hN (.fieldLinkNest "UpAllRound$Voices" 59 "UpAllRound" "KIND_ABOVE" "[I" "UpAllRound") (List.mem_of_getElem? (i := 22) rfl))) (fun _ h9 => h9) dX4_find_39 ?_
        refine lv_iload_n hx hb dX4_find_42 rfl (lv_at hl 2 rfl) ?_
        refine zsti (t := 2) hx hb hz1b hS (by omega) dX4_find_43 ?_
        refine zrw (show zKA 2 = nI 0 from rfl) ?_
        refine lv_istore_n (lv' := [(2, .int (nI 0)), (4, .int (nI 0)), (3, .int (nI 0)), (0, .int (nI 2)), (1, .int (nI 3))]) hx hb dX4_find_44 rfl hl (by decide) rfl (fun ls hl => ?_)
        refine lv_iinc (v := nI (0 + 1)) (lv' := [(3, .int (nI (0 + 1))), (2, .int (nI 0)), (4, .int (nI 0)), (0, .int (nI 2)), (1, .int (nI 3))]) hx hb dX4_find_45 hl (k := 2) rfl (nI_add _ _) (by decide) rfl (fun ls hl => ?_)
        refine lv_goto (tgt := 4) hx hb dX4_find_48 (by decide) ?_
        refine lv_iload_n hx hb dX4_find_4 rfl (lv_at hl 0 rfl) ?_
        refine lv_bipush (v := nI 7) hx hb dX4_find_5 (by decide) ?_
        refine lv_icmp_ge (tgt := 51) hx hb dX4_find_7 (by decide) (fun c7_4 => ?_) (fun c7_4 => ?_)
        · have c7_4 : 7 ≤ (0 + 1) := (nI_leI (a := 7) (b := 0 + 1) (by omega) (by omega)).mp c7_4
          exact absurd c7_4 (by omega)
        · have c7_4 : ¬ (7 ≤ (0 + 1)) := fun h9 => c7_4 ((nI_leI (a := 7) (b := 0 + 1) (by omega) (by omega)).mpr h9)
          refine lv_iload_n hx hb dX4_find_10 rfl (lv_at hl 1 rfl) ?_
          refine lv_iconst (v := nI 0) hx hb dX4_find_11 (by decide) ?_
          refine lv_bipush (v := nI 6) hx hb dX4_find_12 (by decide) ?_
          refine zcsE (va_runSN (As := [.int (nI 0), .int (nI 0), .int (nI 6)]) (rest := []) ⟨hx, hb, hml, hown, hts⟩ (d_X5_isOutside l D cI cJ (nI 0) (nI 0) (nI 6) 0 6 (by decide) (by decide) s.heap.size) ⟨va_cnB 3 hts gX4_find_X5_isOutside_n52 rfl rfl rfl (hN (.methodLinkNest "UpAllRound$Voices" 52 yX5_isOutside "UpAllRound") (List.mem_of_getElem? (i := 61) rfl)) (hts (.initialized RX5) (List.mem_of_getElem? (i := 3) rfl)) (by decide +kernel) ⟨Nat.le_of_ble_eq_true rfl, Nat.le_of_ble_eq_true rfl⟩, (hts (.static yX5_isOutside) (List.mem_of_getElem? (i := 2) rfl)), trivial⟩ (zpS hK hN hZ hP hD hS hA [] rfl (by decide)) rfl rfl hl.1 rfl (lv_room (Nat.le_of_ble_eq_true rfl)) dX4_find_14 ⟨Nat.zero_le _, Nat.zero_le _⟩) ?_
          refine lv_if_ne (tgt := 51) hx hb dX4_find_17 (by decide) (fun c17_5 => ?_) (fun c17_5 => ?_)
          · have c17_5 := bI_nn0.mp c17_5
            exact absurd (show zrg 0 6 (nI 0) by decide) c17_5
          · have c17_5 := bI_nX0.mp c17_5
            obtain ⟨t_BODIES, hz2a, hz2b⟩ := hZ.2
            refine va_gets hx hb hz2a hS hown (hts (.fieldLink RX4 56 "UpAllRound$Voices" "BODIES" "[I") (List.mem_of_getElem? (i := 1) rfl)) (fun _ h9 => h9) dX4_find_20 ?_
            refine lv_iload_n hx hb dX4_find_23 rfl (lv_at hl 1 rfl) ?_
            refine lv_iconst (v := nI 4) hx hb dX4_find_24 (by decide) ?_
            refine lv_imul hx hb dX4_find_25 ?_
            refine zrw (pk_mul _ _) ?_
            refine lv_iload_n hx hb dX4_find_26 rfl (lv_at hl 4 rfl) ?_
            refine lv_iadd hx hb dX4_find_27 ?_
            refine zrw (nI_add _ _) ?_
            refine zsti (t := 3) hx hb hz2b hS (by omega) dX4_find_28 ?_
            refine zrw (show zBO 3 = nI 13 from rfl) ?_
            refine lv_istore (lv' := [(4, .int (nI 13)), (3, .int (nI (0 + 1))), (2, .int (nI 0)), (0, .int (nI 2)), (1, .int (nI 3))]) hx hb dX4_find_29 hl (by decide) rfl (fun ls hl => ?_)
            refine lv_iload hx hb dX4_find_31 (lv_at hl 0 rfl) ?_
            refine lv_if_eq (tgt := 39) hx hb dX4_find_33 (by decide) (fun c33_6 => ?_) (fun c33_6 => ?_)
            · have c33_6 : 13 = 0 := (nI_eq (a := 13) (b := 0) (by omega) (by omega)).mp c33_6
              exact absurd c33_6 (by omega)
            · have c33_6 : ¬ (13 = 0) := fun h9 => c33_6 ((nI_eq (a := 13) (b := 0) (by omega) (by omega)).mpr h9)
              refine lv_iload hx hb dX4_find_36 (lv_at hl 0 rfl) ?_
              exact hret dX4_find_38 rfl (by rfl)
      · have c33_3 : ¬ (0 = 0) := fun h9 => c33_3 ((nI_eq (a := 0) (b := 0) (by omega) (by omega)).mpr h9)
        exact absurd c33_3 (by omega)
set_option maxHeartbeats 4000000 in
set_option maxRecDepth 100000 in
theorem c_X4_find_3_0 (l : Launch) (D : va_G) (cI cJ : ClassId)   : zSi l yX4_find wsX4_find ({ frames := 1, cells := 0, slots := 0, locals := 22 } : Room) D [(cI, .int), (cJ, .array .int)] [.int (nI 3), .int (nI 0)] [] (fun r => r = nI 10) := by
  refine zSi.start (cc := cX4_find) (maxL := 5) (rt := .int) (by first | decide | decide +kernel) rfl (Nat.le_of_ble_eq_true rfl) ?_
  intro pg ev s mt args below meth cd ls AA QQ ⟨hx, hb, hml, hr, hlocks, hown, hts, hK, hN, hZ, hP, hD, hA, hS, hl⟩ hret
  have hown : s.vm.findClass RX4 = some mt.cls := hown
  have hl : lv_has ls 5 [(0, .int (nI 3)), (1, .int (nI 0))] := hl
  refine lv_iload_n hx hb dX4_find_0 rfl (lv_at hl 0 rfl) ?_
  refine lv_istore_n (lv' := [(2, .int (nI 3)), (0, .int (nI 3)), (1, .int (nI 0))]) hx hb dX4_find_1 rfl hl (by decide) rfl (fun ls hl => ?_)
  refine lv_iconst (v := nI 0) hx hb dX4_find_2 (by decide) ?_
  refine lv_istore_n (lv' := [(3, .int (nI 0)), (2, .int (nI 3)), (0, .int (nI 3)), (1, .int (nI 0))]) hx hb dX4_find_3 rfl hl (by decide) rfl (fun ls hl => ?_)
  refine lv_iload_n hx hb dX4_find_4 rfl (lv_at hl 0 rfl) ?_
  refine lv_bipush (v := nI 7) hx hb dX4_find_5 (by decide) ?_
  refine lv_icmp_ge (tgt := 51) hx hb dX4_find_7 (by decide) (fun c7_1 => ?_) (fun c7_1 => ?_)
  · have c7_1 : 7 ≤ 0 := (nI_leI (a := 7) (b := 0) (by omega) (by omega)).mp c7_1
    exact absurd c7_1 (by omega)
  · have c7_1 : ¬ (7 ≤ 0) := fun h9 => c7_1 ((nI_leI (a := 7) (b := 0) (by omega) (by omega)).mpr h9)
    refine lv_iload_n hx hb dX4_find_10 rfl (lv_at hl 1 rfl) ?_
    refine lv_iconst (v := nI 0) hx hb dX4_find_11 (by decide) ?_
    refine lv_bipush (v := nI 6) hx hb dX4_find_12 (by decide) ?_
    refine zcsE (va_runSN (As := [.int (nI 3), .int (nI 0), .int (nI 6)]) (rest := []) ⟨hx, hb, hml, hown, hts⟩ (d_X5_isOutside l D cI cJ (nI 3) (nI 0) (nI 6) 0 6 (by decide) (by decide) s.heap.size) ⟨va_cnB 3 hts gX4_find_X5_isOutside_n52 rfl rfl rfl (hN (.methodLinkNest "UpAllRound$Voices" 52 yX5_isOutside "UpAllRound") (List.mem_of_getElem? (i := 61) rfl)) (hts (.initialized RX5) (List.mem_of_getElem? (i := 3) rfl)) (by decide +kernel) ⟨Nat.le_of_ble_eq_true rfl, Nat.le_of_ble_eq_true rfl⟩, (hts (.static yX5_isOutside) (List.mem_of_getElem? (i := 2) rfl)), trivial⟩ (zpS hK hN hZ hP hD hS hA [] rfl (by decide)) rfl rfl hl.1 rfl (lv_room (Nat.le_of_ble_eq_true rfl)) dX4_find_14 ⟨Nat.zero_le _, Nat.zero_le _⟩) ?_
    refine lv_if_ne (tgt := 51) hx hb dX4_find_17 (by decide) (fun c17_2 => ?_) (fun c17_2 => ?_)
    · have c17_2 := bI_nn0.mp c17_2
      exact absurd (show zrg 0 6 (nI 3) by decide) c17_2
    · have c17_2 := bI_nX0.mp c17_2
      obtain ⟨t_BODIES, hz2a, hz2b⟩ := hZ.2
      refine va_gets hx hb hz2a hS hown (hts (.fieldLink RX4 56 "UpAllRound$Voices" "BODIES" "[I") (List.mem_of_getElem? (i := 1) rfl)) (fun _ h9 => h9) dX4_find_20 ?_
      refine lv_iload_n hx hb dX4_find_23 rfl (lv_at hl 1 rfl) ?_
      refine lv_iconst (v := nI 4) hx hb dX4_find_24 (by decide) ?_
      refine lv_imul hx hb dX4_find_25 ?_
      refine zrw (pk_mul _ _) ?_
      refine lv_iload_n hx hb dX4_find_26 rfl (lv_at hl 3 rfl) ?_
      refine lv_iadd hx hb dX4_find_27 ?_
      refine zrw (nI_add _ _) ?_
      refine zsti (t := 12) hx hb hz2b hS (by omega) dX4_find_28 ?_
      refine zrw (show zBO 12 = nI 0 from rfl) ?_
      refine lv_istore (lv' := [(4, .int (nI 0)), (3, .int (nI 0)), (2, .int (nI 3)), (0, .int (nI 3)), (1, .int (nI 0))]) hx hb dX4_find_29 hl (by decide) rfl (fun ls hl => ?_)
      refine lv_iload hx hb dX4_find_31 (lv_at hl 0 rfl) ?_
      refine lv_if_eq (tgt := 39) hx hb dX4_find_33 (by decide) (fun c33_3 => ?_) (fun c33_3 => ?_)
      · have c33_3 : 0 = 0 := (nI_eq (a := 0) (b := 0) (by omega) (by omega)).mp c33_3
        obtain ⟨t_KIND_ABOVE, hz1a, hz1b⟩ := hZ.1
        refine zgetsN hx hb hz1a hS hown (va_Nw.use rfl (hN (.fieldLinkNest "UpAllRound$Voices" 59 "UpAllRound" "KIND_ABOVE" "[I" "UpAllRound") (List.mem_of_getElem? (i := 22) rfl))) (fun _ h9 => h9) dX4_find_39 ?_
        refine lv_iload_n hx hb dX4_find_42 rfl (lv_at hl 2 rfl) ?_
        refine zsti (t := 3) hx hb hz1b hS (by omega) dX4_find_43 ?_
        refine zrw (show zKA 3 = nI 0 from rfl) ?_
        refine lv_istore_n (lv' := [(2, .int (nI 0)), (4, .int (nI 0)), (3, .int (nI 0)), (0, .int (nI 3)), (1, .int (nI 0))]) hx hb dX4_find_44 rfl hl (by decide) rfl (fun ls hl => ?_)
        refine lv_iinc (v := nI (0 + 1)) (lv' := [(3, .int (nI (0 + 1))), (2, .int (nI 0)), (4, .int (nI 0)), (0, .int (nI 3)), (1, .int (nI 0))]) hx hb dX4_find_45 hl (k := 2) rfl (nI_add _ _) (by decide) rfl (fun ls hl => ?_)
        refine lv_goto (tgt := 4) hx hb dX4_find_48 (by decide) ?_
        refine lv_iload_n hx hb dX4_find_4 rfl (lv_at hl 0 rfl) ?_
        refine lv_bipush (v := nI 7) hx hb dX4_find_5 (by decide) ?_
        refine lv_icmp_ge (tgt := 51) hx hb dX4_find_7 (by decide) (fun c7_4 => ?_) (fun c7_4 => ?_)
        · have c7_4 : 7 ≤ (0 + 1) := (nI_leI (a := 7) (b := 0 + 1) (by omega) (by omega)).mp c7_4
          exact absurd c7_4 (by omega)
        · have c7_4 : ¬ (7 ≤ (0 + 1)) := fun h9 => c7_4 ((nI_leI (a := 7) (b := 0 + 1) (by omega) (by omega)).mpr h9)
          refine lv_iload_n hx hb dX4_find_10 rfl (lv_at hl 1 rfl) ?_
          refine lv_iconst (v := nI 0) hx hb dX4_find_11 (by decide) ?_
          refine lv_bipush (v := nI 6) hx hb dX4_find_12 (by decide) ?_
          refine zcsE (va_runSN (As := [.int (nI 0), .int (nI 0), .int (nI 6)]) (rest := []) ⟨hx, hb, hml, hown, hts⟩ (d_X5_isOutside l D cI cJ (nI 0) (nI 0) (nI 6) 0 6 (by decide) (by decide) s.heap.size) ⟨va_cnB 3 hts gX4_find_X5_isOutside_n52 rfl rfl rfl (hN (.methodLinkNest "UpAllRound$Voices" 52 yX5_isOutside "UpAllRound") (List.mem_of_getElem? (i := 61) rfl)) (hts (.initialized RX5) (List.mem_of_getElem? (i := 3) rfl)) (by decide +kernel) ⟨Nat.le_of_ble_eq_true rfl, Nat.le_of_ble_eq_true rfl⟩, (hts (.static yX5_isOutside) (List.mem_of_getElem? (i := 2) rfl)), trivial⟩ (zpS hK hN hZ hP hD hS hA [] rfl (by decide)) rfl rfl hl.1 rfl (lv_room (Nat.le_of_ble_eq_true rfl)) dX4_find_14 ⟨Nat.zero_le _, Nat.zero_le _⟩) ?_
          refine lv_if_ne (tgt := 51) hx hb dX4_find_17 (by decide) (fun c17_5 => ?_) (fun c17_5 => ?_)
          · have c17_5 := bI_nn0.mp c17_5
            exact absurd (show zrg 0 6 (nI 0) by decide) c17_5
          · have c17_5 := bI_nX0.mp c17_5
            obtain ⟨t_BODIES, hz2a, hz2b⟩ := hZ.2
            refine va_gets hx hb hz2a hS hown (hts (.fieldLink RX4 56 "UpAllRound$Voices" "BODIES" "[I") (List.mem_of_getElem? (i := 1) rfl)) (fun _ h9 => h9) dX4_find_20 ?_
            refine lv_iload_n hx hb dX4_find_23 rfl (lv_at hl 1 rfl) ?_
            refine lv_iconst (v := nI 4) hx hb dX4_find_24 (by decide) ?_
            refine lv_imul hx hb dX4_find_25 ?_
            refine zrw (pk_mul _ _) ?_
            refine lv_iload_n hx hb dX4_find_26 rfl (lv_at hl 4 rfl) ?_
            refine lv_iadd hx hb dX4_find_27 ?_
            refine zrw (nI_add _ _) ?_
            refine zsti (t := 0) hx hb hz2b hS (by omega) dX4_find_28 ?_
            refine zrw (show zBO 0 = nI 10 from rfl) ?_
            refine lv_istore (lv' := [(4, .int (nI 10)), (3, .int (nI (0 + 1))), (2, .int (nI 0)), (0, .int (nI 3)), (1, .int (nI 0))]) hx hb dX4_find_29 hl (by decide) rfl (fun ls hl => ?_)
            refine lv_iload hx hb dX4_find_31 (lv_at hl 0 rfl) ?_
            refine lv_if_eq (tgt := 39) hx hb dX4_find_33 (by decide) (fun c33_6 => ?_) (fun c33_6 => ?_)
            · have c33_6 : 10 = 0 := (nI_eq (a := 10) (b := 0) (by omega) (by omega)).mp c33_6
              exact absurd c33_6 (by omega)
            · have c33_6 : ¬ (10 = 0) := fun h9 => c33_6 ((nI_eq (a := 10) (b := 0) (by omega) (by omega)).mpr h9)
              refine lv_iload hx hb dX4_find_36 (lv_at hl 0 rfl) ?_
              exact hret dX4_find_38 rfl (by rfl)
      · have c33_3 : ¬ (0 = 0) := fun h9 => c33_3 ((nI_eq (a := 0) (b := 0) (by omega) (by omega)).mpr h9)
        exact absurd c33_3 (by omega)
set_option maxHeartbeats 4000000 in
set_option maxRecDepth 100000 in
theorem c_X4_find_3_1 (l : Launch) (D : va_G) (cI cJ : ClassId)   : zSi l yX4_find wsX4_find ({ frames := 1, cells := 0, slots := 0, locals := 22 } : Room) D [(cI, .int), (cJ, .array .int)] [.int (nI 3), .int (nI 1)] [] (fun r => r = nI 11) := by
  refine zSi.start (cc := cX4_find) (maxL := 5) (rt := .int) (by first | decide | decide +kernel) rfl (Nat.le_of_ble_eq_true rfl) ?_
  intro pg ev s mt args below meth cd ls AA QQ ⟨hx, hb, hml, hr, hlocks, hown, hts, hK, hN, hZ, hP, hD, hA, hS, hl⟩ hret
  have hown : s.vm.findClass RX4 = some mt.cls := hown
  have hl : lv_has ls 5 [(0, .int (nI 3)), (1, .int (nI 1))] := hl
  refine lv_iload_n hx hb dX4_find_0 rfl (lv_at hl 0 rfl) ?_
  refine lv_istore_n (lv' := [(2, .int (nI 3)), (0, .int (nI 3)), (1, .int (nI 1))]) hx hb dX4_find_1 rfl hl (by decide) rfl (fun ls hl => ?_)
  refine lv_iconst (v := nI 0) hx hb dX4_find_2 (by decide) ?_
  refine lv_istore_n (lv' := [(3, .int (nI 0)), (2, .int (nI 3)), (0, .int (nI 3)), (1, .int (nI 1))]) hx hb dX4_find_3 rfl hl (by decide) rfl (fun ls hl => ?_)
  refine lv_iload_n hx hb dX4_find_4 rfl (lv_at hl 0 rfl) ?_
  refine lv_bipush (v := nI 7) hx hb dX4_find_5 (by decide) ?_
  refine lv_icmp_ge (tgt := 51) hx hb dX4_find_7 (by decide) (fun c7_1 => ?_) (fun c7_1 => ?_)
  · have c7_1 : 7 ≤ 0 := (nI_leI (a := 7) (b := 0) (by omega) (by omega)).mp c7_1
    exact absurd c7_1 (by omega)
  · have c7_1 : ¬ (7 ≤ 0) := fun h9 => c7_1 ((nI_leI (a := 7) (b := 0) (by omega) (by omega)).mpr h9)
    refine lv_iload_n hx hb dX4_find_10 rfl (lv_at hl 1 rfl) ?_
    refine lv_iconst (v := nI 0) hx hb dX4_find_11 (by decide) ?_
    refine lv_bipush (v := nI 6) hx hb dX4_find_12 (by decide) ?_
    refine zcsE (va_runSN (As := [.int (nI 3), .int (nI 0), .int (nI 6)]) (rest := []) ⟨hx, hb, hml, hown, hts⟩ (d_X5_isOutside l D cI cJ (nI 3) (nI 0) (nI 6) 0 6 (by decide) (by decide) s.heap.size) ⟨va_cnB 3 hts gX4_find_X5_isOutside_n52 rfl rfl rfl (hN (.methodLinkNest "UpAllRound$Voices" 52 yX5_isOutside "UpAllRound") (List.mem_of_getElem? (i := 61) rfl)) (hts (.initialized RX5) (List.mem_of_getElem? (i := 3) rfl)) (by decide +kernel) ⟨Nat.le_of_ble_eq_true rfl, Nat.le_of_ble_eq_true rfl⟩, (hts (.static yX5_isOutside) (List.mem_of_getElem? (i := 2) rfl)), trivial⟩ (zpS hK hN hZ hP hD hS hA [] rfl (by decide)) rfl rfl hl.1 rfl (lv_room (Nat.le_of_ble_eq_true rfl)) dX4_find_14 ⟨Nat.zero_le _, Nat.zero_le _⟩) ?_
    refine lv_if_ne (tgt := 51) hx hb dX4_find_17 (by decide) (fun c17_2 => ?_) (fun c17_2 => ?_)
    · have c17_2 := bI_nn0.mp c17_2
      exact absurd (show zrg 0 6 (nI 3) by decide) c17_2
    · have c17_2 := bI_nX0.mp c17_2
      obtain ⟨t_BODIES, hz2a, hz2b⟩ := hZ.2
      refine va_gets hx hb hz2a hS hown (hts (.fieldLink RX4 56 "UpAllRound$Voices" "BODIES" "[I") (List.mem_of_getElem? (i := 1) rfl)) (fun _ h9 => h9) dX4_find_20 ?_
      refine lv_iload_n hx hb dX4_find_23 rfl (lv_at hl 1 rfl) ?_
      refine lv_iconst (v := nI 4) hx hb dX4_find_24 (by decide) ?_
      refine lv_imul hx hb dX4_find_25 ?_
      refine zrw (pk_mul _ _) ?_
      refine lv_iload_n hx hb dX4_find_26 rfl (lv_at hl 3 rfl) ?_
      refine lv_iadd hx hb dX4_find_27 ?_
      refine zrw (nI_add _ _) ?_
      refine zsti (t := 13) hx hb hz2b hS (by omega) dX4_find_28 ?_
      refine zrw (show zBO 13 = nI 0 from rfl) ?_
      refine lv_istore (lv' := [(4, .int (nI 0)), (3, .int (nI 0)), (2, .int (nI 3)), (0, .int (nI 3)), (1, .int (nI 1))]) hx hb dX4_find_29 hl (by decide) rfl (fun ls hl => ?_)
      refine lv_iload hx hb dX4_find_31 (lv_at hl 0 rfl) ?_
      refine lv_if_eq (tgt := 39) hx hb dX4_find_33 (by decide) (fun c33_3 => ?_) (fun c33_3 => ?_)
      · have c33_3 : 0 = 0 := (nI_eq (a := 0) (b := 0) (by omega) (by omega)).mp c33_3
        obtain ⟨t_KIND_ABOVE, hz1a, hz1b⟩ := hZ.1
        refine zgetsN hx hb hz1a hS hown (va_Nw.use rfl (hN (.fieldLinkNest "UpAllRound$Voices" 59 "UpAllRound" "KIND_ABOVE" "[I" "UpAllRound") (List.mem_of_getElem? (i := 22) rfl))) (fun _ h9 => h9) dX4_find_39 ?_
        refine lv_iload_n hx hb dX4_find_42 rfl (lv_at hl 2 rfl) ?_
        refine zsti (t := 3) hx hb hz1b hS (by omega) dX4_find_43 ?_
        refine zrw (show zKA 3 = nI 0 from rfl) ?_
        refine lv_istore_n (lv' := [(2, .int (nI 0)), (4, .int (nI 0)), (3, .int (nI 0)), (0, .int (nI 3)), (1, .int (nI 1))]) hx hb dX4_find_44 rfl hl (by decide) rfl (fun ls hl => ?_)
        refine lv_iinc (v := nI (0 + 1)) (lv' := [(3, .int (nI (0 + 1))), (2, .int (nI 0)), (4, .int (nI 0)), (0, .int (nI 3)), (1, .int (nI 1))]) hx hb dX4_find_45 hl (k := 2) rfl (nI_add _ _) (by decide) rfl (fun ls hl => ?_)
        refine lv_goto (tgt := 4) hx hb dX4_find_48 (by decide) ?_
        refine lv_iload_n hx hb dX4_find_4 rfl (lv_at hl 0 rfl) ?_
        refine lv_bipush (v := nI 7) hx hb dX4_find_5 (by decide) ?_
        refine lv_icmp_ge (tgt := 51) hx hb dX4_find_7 (by decide) (fun c7_4 => ?_) (fun c7_4 => ?_)
        · have c7_4 : 7 ≤ (0 + 1) := (nI_leI (a := 7) (b := 0 + 1) (by omega) (by omega)).mp c7_4
          exact absurd c7_4 (by omega)
        · have c7_4 : ¬ (7 ≤ (0 + 1)) := fun h9 => c7_4 ((nI_leI (a := 7) (b := 0 + 1) (by omega) (by omega)).mpr h9)
          refine lv_iload_n hx hb dX4_find_10 rfl (lv_at hl 1 rfl) ?_
          refine lv_iconst (v := nI 0) hx hb dX4_find_11 (by decide) ?_
          refine lv_bipush (v := nI 6) hx hb dX4_find_12 (by decide) ?_
          refine zcsE (va_runSN (As := [.int (nI 0), .int (nI 0), .int (nI 6)]) (rest := []) ⟨hx, hb, hml, hown, hts⟩ (d_X5_isOutside l D cI cJ (nI 0) (nI 0) (nI 6) 0 6 (by decide) (by decide) s.heap.size) ⟨va_cnB 3 hts gX4_find_X5_isOutside_n52 rfl rfl rfl (hN (.methodLinkNest "UpAllRound$Voices" 52 yX5_isOutside "UpAllRound") (List.mem_of_getElem? (i := 61) rfl)) (hts (.initialized RX5) (List.mem_of_getElem? (i := 3) rfl)) (by decide +kernel) ⟨Nat.le_of_ble_eq_true rfl, Nat.le_of_ble_eq_true rfl⟩, (hts (.static yX5_isOutside) (List.mem_of_getElem? (i := 2) rfl)), trivial⟩ (zpS hK hN hZ hP hD hS hA [] rfl (by decide)) rfl rfl hl.1 rfl (lv_room (Nat.le_of_ble_eq_true rfl)) dX4_find_14 ⟨Nat.zero_le _, Nat.zero_le _⟩) ?_
          refine lv_if_ne (tgt := 51) hx hb dX4_find_17 (by decide) (fun c17_5 => ?_) (fun c17_5 => ?_)
          · have c17_5 := bI_nn0.mp c17_5
            exact absurd (show zrg 0 6 (nI 0) by decide) c17_5
          · have c17_5 := bI_nX0.mp c17_5
            obtain ⟨t_BODIES, hz2a, hz2b⟩ := hZ.2
            refine va_gets hx hb hz2a hS hown (hts (.fieldLink RX4 56 "UpAllRound$Voices" "BODIES" "[I") (List.mem_of_getElem? (i := 1) rfl)) (fun _ h9 => h9) dX4_find_20 ?_
            refine lv_iload_n hx hb dX4_find_23 rfl (lv_at hl 1 rfl) ?_
            refine lv_iconst (v := nI 4) hx hb dX4_find_24 (by decide) ?_
            refine lv_imul hx hb dX4_find_25 ?_
            refine zrw (pk_mul _ _) ?_
            refine lv_iload_n hx hb dX4_find_26 rfl (lv_at hl 4 rfl) ?_
            refine lv_iadd hx hb dX4_find_27 ?_
            refine zrw (nI_add _ _) ?_
            refine zsti (t := 1) hx hb hz2b hS (by omega) dX4_find_28 ?_
            refine zrw (show zBO 1 = nI 11 from rfl) ?_
            refine lv_istore (lv' := [(4, .int (nI 11)), (3, .int (nI (0 + 1))), (2, .int (nI 0)), (0, .int (nI 3)), (1, .int (nI 1))]) hx hb dX4_find_29 hl (by decide) rfl (fun ls hl => ?_)
            refine lv_iload hx hb dX4_find_31 (lv_at hl 0 rfl) ?_
            refine lv_if_eq (tgt := 39) hx hb dX4_find_33 (by decide) (fun c33_6 => ?_) (fun c33_6 => ?_)
            · have c33_6 : 11 = 0 := (nI_eq (a := 11) (b := 0) (by omega) (by omega)).mp c33_6
              exact absurd c33_6 (by omega)
            · have c33_6 : ¬ (11 = 0) := fun h9 => c33_6 ((nI_eq (a := 11) (b := 0) (by omega) (by omega)).mpr h9)
              refine lv_iload hx hb dX4_find_36 (lv_at hl 0 rfl) ?_
              exact hret dX4_find_38 rfl (by rfl)
      · have c33_3 : ¬ (0 = 0) := fun h9 => c33_3 ((nI_eq (a := 0) (b := 0) (by omega) (by omega)).mpr h9)
        exact absurd c33_3 (by omega)
set_option maxHeartbeats 4000000 in
set_option maxRecDepth 100000 in
theorem c_X4_find_3_2 (l : Launch) (D : va_G) (cI cJ : ClassId)   : zSi l yX4_find wsX4_find ({ frames := 1, cells := 0, slots := 0, locals := 22 } : Room) D [(cI, .int), (cJ, .array .int)] [.int (nI 3), .int (nI 2)] [] (fun r => r = nI 40) := by
  refine zSi.start (cc := cX4_find) (maxL := 5) (rt := .int) (by first | decide | decide +kernel) rfl (Nat.le_of_ble_eq_true rfl) ?_
  intro pg ev s mt args below meth cd ls AA QQ ⟨hx, hb, hml, hr, hlocks, hown, hts, hK, hN, hZ, hP, hD, hA, hS, hl⟩ hret
  have hown : s.vm.findClass RX4 = some mt.cls := hown
  have hl : lv_has ls 5 [(0, .int (nI 3)), (1, .int (nI 2))] := hl
  refine lv_iload_n hx hb dX4_find_0 rfl (lv_at hl 0 rfl) ?_
  refine lv_istore_n (lv' := [(2, .int (nI 3)), (0, .int (nI 3)), (1, .int (nI 2))]) hx hb dX4_find_1 rfl hl (by decide) rfl (fun ls hl => ?_)
  refine lv_iconst (v := nI 0) hx hb dX4_find_2 (by decide) ?_
  refine lv_istore_n (lv' := [(3, .int (nI 0)), (2, .int (nI 3)), (0, .int (nI 3)), (1, .int (nI 2))]) hx hb dX4_find_3 rfl hl (by decide) rfl (fun ls hl => ?_)
  refine lv_iload_n hx hb dX4_find_4 rfl (lv_at hl 0 rfl) ?_
  refine lv_bipush (v := nI 7) hx hb dX4_find_5 (by decide) ?_
  refine lv_icmp_ge (tgt := 51) hx hb dX4_find_7 (by decide) (fun c7_1 => ?_) (fun c7_1 => ?_)
  · have c7_1 : 7 ≤ 0 := (nI_leI (a := 7) (b := 0) (by omega) (by omega)).mp c7_1
    exact absurd c7_1 (by omega)
  · have c7_1 : ¬ (7 ≤ 0) := fun h9 => c7_1 ((nI_leI (a := 7) (b := 0) (by omega) (by omega)).mpr h9)
    refine lv_iload_n hx hb dX4_find_10 rfl (lv_at hl 1 rfl) ?_
    refine lv_iconst (v := nI 0) hx hb dX4_find_11 (by decide) ?_
    refine lv_bipush (v := nI 6) hx hb dX4_find_12 (by decide) ?_
    refine zcsE (va_runSN (As := [.int (nI 3), .int (nI 0), .int (nI 6)]) (rest := []) ⟨hx, hb, hml, hown, hts⟩ (d_X5_isOutside l D cI cJ (nI 3) (nI 0) (nI 6) 0 6 (by decide) (by decide) s.heap.size) ⟨va_cnB 3 hts gX4_find_X5_isOutside_n52 rfl rfl rfl (hN (.methodLinkNest "UpAllRound$Voices" 52 yX5_isOutside "UpAllRound") (List.mem_of_getElem? (i := 61) rfl)) (hts (.initialized RX5) (List.mem_of_getElem? (i := 3) rfl)) (by decide +kernel) ⟨Nat.le_of_ble_eq_true rfl, Nat.le_of_ble_eq_true rfl⟩, (hts (.static yX5_isOutside) (List.mem_of_getElem? (i := 2) rfl)), trivial⟩ (zpS hK hN hZ hP hD hS hA [] rfl (by decide)) rfl rfl hl.1 rfl (lv_room (Nat.le_of_ble_eq_true rfl)) dX4_find_14 ⟨Nat.zero_le _, Nat.zero_le _⟩) ?_
    refine lv_if_ne (tgt := 51) hx hb dX4_find_17 (by decide) (fun c17_2 => ?_) (fun c17_2 => ?_)
    · have c17_2 := bI_nn0.mp c17_2
      exact absurd (show zrg 0 6 (nI 3) by decide) c17_2
    · have c17_2 := bI_nX0.mp c17_2
      obtain ⟨t_BODIES, hz2a, hz2b⟩ := hZ.2
      refine va_gets hx hb hz2a hS hown (hts (.fieldLink RX4 56 "UpAllRound$Voices" "BODIES" "[I") (List.mem_of_getElem? (i := 1) rfl)) (fun _ h9 => h9) dX4_find_20 ?_
      refine lv_iload_n hx hb dX4_find_23 rfl (lv_at hl 1 rfl) ?_
      refine lv_iconst (v := nI 4) hx hb dX4_find_24 (by decide) ?_
      refine lv_imul hx hb dX4_find_25 ?_
      refine zrw (pk_mul _ _) ?_
      refine lv_iload_n hx hb dX4_find_26 rfl (lv_at hl 3 rfl) ?_
      refine lv_iadd hx hb dX4_find_27 ?_
      refine zrw (nI_add _ _) ?_
      refine zsti (t := 14) hx hb hz2b hS (by omega) dX4_find_28 ?_
      refine zrw (show zBO 14 = nI 40 from rfl) ?_
      refine lv_istore (lv' := [(4, .int (nI 40)), (3, .int (nI 0)), (2, .int (nI 3)), (0, .int (nI 3)), (1, .int (nI 2))]) hx hb dX4_find_29 hl (by decide) rfl (fun ls hl => ?_)
      refine lv_iload hx hb dX4_find_31 (lv_at hl 0 rfl) ?_
      refine lv_if_eq (tgt := 39) hx hb dX4_find_33 (by decide) (fun c33_3 => ?_) (fun c33_3 => ?_)
      · have c33_3 : 40 = 0 := (nI_eq (a := 40) (b := 0) (by omega) (by omega)).mp c33_3
        exact absurd c33_3 (by omega)
      · have c33_3 : ¬ (40 = 0) := fun h9 => c33_3 ((nI_eq (a := 40) (b := 0) (by omega) (by omega)).mpr h9)
        refine lv_iload hx hb dX4_find_36 (lv_at hl 0 rfl) ?_
        exact hret dX4_find_38 rfl (by rfl)
set_option maxHeartbeats 4000000 in
set_option maxRecDepth 100000 in
theorem c_X4_find_3_3 (l : Launch) (D : va_G) (cI cJ : ClassId)   : zSi l yX4_find wsX4_find ({ frames := 1, cells := 0, slots := 0, locals := 22 } : Room) D [(cI, .int), (cJ, .array .int)] [.int (nI 3), .int (nI 3)] [] (fun r => r = nI 13) := by
  refine zSi.start (cc := cX4_find) (maxL := 5) (rt := .int) (by first | decide | decide +kernel) rfl (Nat.le_of_ble_eq_true rfl) ?_
  intro pg ev s mt args below meth cd ls AA QQ ⟨hx, hb, hml, hr, hlocks, hown, hts, hK, hN, hZ, hP, hD, hA, hS, hl⟩ hret
  have hown : s.vm.findClass RX4 = some mt.cls := hown
  have hl : lv_has ls 5 [(0, .int (nI 3)), (1, .int (nI 3))] := hl
  refine lv_iload_n hx hb dX4_find_0 rfl (lv_at hl 0 rfl) ?_
  refine lv_istore_n (lv' := [(2, .int (nI 3)), (0, .int (nI 3)), (1, .int (nI 3))]) hx hb dX4_find_1 rfl hl (by decide) rfl (fun ls hl => ?_)
  refine lv_iconst (v := nI 0) hx hb dX4_find_2 (by decide) ?_
  refine lv_istore_n (lv' := [(3, .int (nI 0)), (2, .int (nI 3)), (0, .int (nI 3)), (1, .int (nI 3))]) hx hb dX4_find_3 rfl hl (by decide) rfl (fun ls hl => ?_)
  refine lv_iload_n hx hb dX4_find_4 rfl (lv_at hl 0 rfl) ?_
  refine lv_bipush (v := nI 7) hx hb dX4_find_5 (by decide) ?_
  refine lv_icmp_ge (tgt := 51) hx hb dX4_find_7 (by decide) (fun c7_1 => ?_) (fun c7_1 => ?_)
  · have c7_1 : 7 ≤ 0 := (nI_leI (a := 7) (b := 0) (by omega) (by omega)).mp c7_1
    exact absurd c7_1 (by omega)
  · have c7_1 : ¬ (7 ≤ 0) := fun h9 => c7_1 ((nI_leI (a := 7) (b := 0) (by omega) (by omega)).mpr h9)
    refine lv_iload_n hx hb dX4_find_10 rfl (lv_at hl 1 rfl) ?_
    refine lv_iconst (v := nI 0) hx hb dX4_find_11 (by decide) ?_
    refine lv_bipush (v := nI 6) hx hb dX4_find_12 (by decide) ?_
    refine zcsE (va_runSN (As := [.int (nI 3), .int (nI 0), .int (nI 6)]) (rest := []) ⟨hx, hb, hml, hown, hts⟩ (d_X5_isOutside l D cI cJ (nI 3) (nI 0) (nI 6) 0 6 (by decide) (by decide) s.heap.size) ⟨va_cnB 3 hts gX4_find_X5_isOutside_n52 rfl rfl rfl (hN (.methodLinkNest "UpAllRound$Voices" 52 yX5_isOutside "UpAllRound") (List.mem_of_getElem? (i := 61) rfl)) (hts (.initialized RX5) (List.mem_of_getElem? (i := 3) rfl)) (by decide +kernel) ⟨Nat.le_of_ble_eq_true rfl, Nat.le_of_ble_eq_true rfl⟩, (hts (.static yX5_isOutside) (List.mem_of_getElem? (i := 2) rfl)), trivial⟩ (zpS hK hN hZ hP hD hS hA [] rfl (by decide)) rfl rfl hl.1 rfl (lv_room (Nat.le_of_ble_eq_true rfl)) dX4_find_14 ⟨Nat.zero_le _, Nat.zero_le _⟩) ?_
    refine lv_if_ne (tgt := 51) hx hb dX4_find_17 (by decide) (fun c17_2 => ?_) (fun c17_2 => ?_)
    · have c17_2 := bI_nn0.mp c17_2
      exact absurd (show zrg 0 6 (nI 3) by decide) c17_2
    · have c17_2 := bI_nX0.mp c17_2
      obtain ⟨t_BODIES, hz2a, hz2b⟩ := hZ.2
      refine va_gets hx hb hz2a hS hown (hts (.fieldLink RX4 56 "UpAllRound$Voices" "BODIES" "[I") (List.mem_of_getElem? (i := 1) rfl)) (fun _ h9 => h9) dX4_find_20 ?_
      refine lv_iload_n hx hb dX4_find_23 rfl (lv_at hl 1 rfl) ?_
      refine lv_iconst (v := nI 4) hx hb dX4_find_24 (by decide) ?_
      refine lv_imul hx hb dX4_find_25 ?_
      refine zrw (pk_mul _ _) ?_
      refine lv_iload_n hx hb dX4_find_26 rfl (lv_at hl 3 rfl) ?_
      refine lv_iadd hx hb dX4_find_27 ?_
      refine zrw (nI_add _ _) ?_
      refine zsti (t := 15) hx hb hz2b hS (by omega) dX4_find_28 ?_
      refine zrw (show zBO 15 = nI 0 from rfl) ?_
      refine lv_istore (lv' := [(4, .int (nI 0)), (3, .int (nI 0)), (2, .int (nI 3)), (0, .int (nI 3)), (1, .int (nI 3))]) hx hb dX4_find_29 hl (by decide) rfl (fun ls hl => ?_)
      refine lv_iload hx hb dX4_find_31 (lv_at hl 0 rfl) ?_
      refine lv_if_eq (tgt := 39) hx hb dX4_find_33 (by decide) (fun c33_3 => ?_) (fun c33_3 => ?_)
      · have c33_3 : 0 = 0 := (nI_eq (a := 0) (b := 0) (by omega) (by omega)).mp c33_3
        obtain ⟨t_KIND_ABOVE, hz1a, hz1b⟩ := hZ.1
        refine zgetsN hx hb hz1a hS hown (va_Nw.use rfl (hN (.fieldLinkNest "UpAllRound$Voices" 59 "UpAllRound" "KIND_ABOVE" "[I" "UpAllRound") (List.mem_of_getElem? (i := 22) rfl))) (fun _ h9 => h9) dX4_find_39 ?_
        refine lv_iload_n hx hb dX4_find_42 rfl (lv_at hl 2 rfl) ?_
        refine zsti (t := 3) hx hb hz1b hS (by omega) dX4_find_43 ?_
        refine zrw (show zKA 3 = nI 0 from rfl) ?_
        refine lv_istore_n (lv' := [(2, .int (nI 0)), (4, .int (nI 0)), (3, .int (nI 0)), (0, .int (nI 3)), (1, .int (nI 3))]) hx hb dX4_find_44 rfl hl (by decide) rfl (fun ls hl => ?_)
        refine lv_iinc (v := nI (0 + 1)) (lv' := [(3, .int (nI (0 + 1))), (2, .int (nI 0)), (4, .int (nI 0)), (0, .int (nI 3)), (1, .int (nI 3))]) hx hb dX4_find_45 hl (k := 2) rfl (nI_add _ _) (by decide) rfl (fun ls hl => ?_)
        refine lv_goto (tgt := 4) hx hb dX4_find_48 (by decide) ?_
        refine lv_iload_n hx hb dX4_find_4 rfl (lv_at hl 0 rfl) ?_
        refine lv_bipush (v := nI 7) hx hb dX4_find_5 (by decide) ?_
        refine lv_icmp_ge (tgt := 51) hx hb dX4_find_7 (by decide) (fun c7_4 => ?_) (fun c7_4 => ?_)
        · have c7_4 : 7 ≤ (0 + 1) := (nI_leI (a := 7) (b := 0 + 1) (by omega) (by omega)).mp c7_4
          exact absurd c7_4 (by omega)
        · have c7_4 : ¬ (7 ≤ (0 + 1)) := fun h9 => c7_4 ((nI_leI (a := 7) (b := 0 + 1) (by omega) (by omega)).mpr h9)
          refine lv_iload_n hx hb dX4_find_10 rfl (lv_at hl 1 rfl) ?_
          refine lv_iconst (v := nI 0) hx hb dX4_find_11 (by decide) ?_
          refine lv_bipush (v := nI 6) hx hb dX4_find_12 (by decide) ?_
          refine zcsE (va_runSN (As := [.int (nI 0), .int (nI 0), .int (nI 6)]) (rest := []) ⟨hx, hb, hml, hown, hts⟩ (d_X5_isOutside l D cI cJ (nI 0) (nI 0) (nI 6) 0 6 (by decide) (by decide) s.heap.size) ⟨va_cnB 3 hts gX4_find_X5_isOutside_n52 rfl rfl rfl (hN (.methodLinkNest "UpAllRound$Voices" 52 yX5_isOutside "UpAllRound") (List.mem_of_getElem? (i := 61) rfl)) (hts (.initialized RX5) (List.mem_of_getElem? (i := 3) rfl)) (by decide +kernel) ⟨Nat.le_of_ble_eq_true rfl, Nat.le_of_ble_eq_true rfl⟩, (hts (.static yX5_isOutside) (List.mem_of_getElem? (i := 2) rfl)), trivial⟩ (zpS hK hN hZ hP hD hS hA [] rfl (by decide)) rfl rfl hl.1 rfl (lv_room (Nat.le_of_ble_eq_true rfl)) dX4_find_14 ⟨Nat.zero_le _, Nat.zero_le _⟩) ?_
          refine lv_if_ne (tgt := 51) hx hb dX4_find_17 (by decide) (fun c17_5 => ?_) (fun c17_5 => ?_)
          · have c17_5 := bI_nn0.mp c17_5
            exact absurd (show zrg 0 6 (nI 0) by decide) c17_5
          · have c17_5 := bI_nX0.mp c17_5
            obtain ⟨t_BODIES, hz2a, hz2b⟩ := hZ.2
            refine va_gets hx hb hz2a hS hown (hts (.fieldLink RX4 56 "UpAllRound$Voices" "BODIES" "[I") (List.mem_of_getElem? (i := 1) rfl)) (fun _ h9 => h9) dX4_find_20 ?_
            refine lv_iload_n hx hb dX4_find_23 rfl (lv_at hl 1 rfl) ?_
            refine lv_iconst (v := nI 4) hx hb dX4_find_24 (by decide) ?_
            refine lv_imul hx hb dX4_find_25 ?_
            refine zrw (pk_mul _ _) ?_
            refine lv_iload_n hx hb dX4_find_26 rfl (lv_at hl 4 rfl) ?_
            refine lv_iadd hx hb dX4_find_27 ?_
            refine zrw (nI_add _ _) ?_
            refine zsti (t := 3) hx hb hz2b hS (by omega) dX4_find_28 ?_
            refine zrw (show zBO 3 = nI 13 from rfl) ?_
            refine lv_istore (lv' := [(4, .int (nI 13)), (3, .int (nI (0 + 1))), (2, .int (nI 0)), (0, .int (nI 3)), (1, .int (nI 3))]) hx hb dX4_find_29 hl (by decide) rfl (fun ls hl => ?_)
            refine lv_iload hx hb dX4_find_31 (lv_at hl 0 rfl) ?_
            refine lv_if_eq (tgt := 39) hx hb dX4_find_33 (by decide) (fun c33_6 => ?_) (fun c33_6 => ?_)
            · have c33_6 : 13 = 0 := (nI_eq (a := 13) (b := 0) (by omega) (by omega)).mp c33_6
              exact absurd c33_6 (by omega)
            · have c33_6 : ¬ (13 = 0) := fun h9 => c33_6 ((nI_eq (a := 13) (b := 0) (by omega) (by omega)).mpr h9)
              refine lv_iload hx hb dX4_find_36 (lv_at hl 0 rfl) ?_
              exact hret dX4_find_38 rfl (by rfl)
      · have c33_3 : ¬ (0 = 0) := fun h9 => c33_3 ((nI_eq (a := 0) (b := 0) (by omega) (by omega)).mpr h9)
        exact absurd c33_3 (by omega)
set_option maxHeartbeats 4000000 in
set_option maxRecDepth 100000 in
theorem c_X4_find_4_0 (l : Launch) (D : va_G) (cI cJ : ClassId)   : zSi l yX4_find wsX4_find ({ frames := 1, cells := 0, slots := 0, locals := 22 } : Room) D [(cI, .int), (cJ, .array .int)] [.int (nI 4), .int (nI 0)] [] (fun r => r = nI 50) := by
  refine zSi.start (cc := cX4_find) (maxL := 5) (rt := .int) (by first | decide | decide +kernel) rfl (Nat.le_of_ble_eq_true rfl) ?_
  intro pg ev s mt args below meth cd ls AA QQ ⟨hx, hb, hml, hr, hlocks, hown, hts, hK, hN, hZ, hP, hD, hA, hS, hl⟩ hret
  have hown : s.vm.findClass RX4 = some mt.cls := hown
  have hl : lv_has ls 5 [(0, .int (nI 4)), (1, .int (nI 0))] := hl
  refine lv_iload_n hx hb dX4_find_0 rfl (lv_at hl 0 rfl) ?_
  refine lv_istore_n (lv' := [(2, .int (nI 4)), (0, .int (nI 4)), (1, .int (nI 0))]) hx hb dX4_find_1 rfl hl (by decide) rfl (fun ls hl => ?_)
  refine lv_iconst (v := nI 0) hx hb dX4_find_2 (by decide) ?_
  refine lv_istore_n (lv' := [(3, .int (nI 0)), (2, .int (nI 4)), (0, .int (nI 4)), (1, .int (nI 0))]) hx hb dX4_find_3 rfl hl (by decide) rfl (fun ls hl => ?_)
  refine lv_iload_n hx hb dX4_find_4 rfl (lv_at hl 0 rfl) ?_
  refine lv_bipush (v := nI 7) hx hb dX4_find_5 (by decide) ?_
  refine lv_icmp_ge (tgt := 51) hx hb dX4_find_7 (by decide) (fun c7_1 => ?_) (fun c7_1 => ?_)
  · have c7_1 : 7 ≤ 0 := (nI_leI (a := 7) (b := 0) (by omega) (by omega)).mp c7_1
    exact absurd c7_1 (by omega)
  · have c7_1 : ¬ (7 ≤ 0) := fun h9 => c7_1 ((nI_leI (a := 7) (b := 0) (by omega) (by omega)).mpr h9)
    refine lv_iload_n hx hb dX4_find_10 rfl (lv_at hl 1 rfl) ?_
    refine lv_iconst (v := nI 0) hx hb dX4_find_11 (by decide) ?_
    refine lv_bipush (v := nI 6) hx hb dX4_find_12 (by decide) ?_
    refine zcsE (va_runSN (As := [.int (nI 4), .int (nI 0), .int (nI 6)]) (rest := []) ⟨hx, hb, hml, hown, hts⟩ (d_X5_isOutside l D cI cJ (nI 4) (nI 0) (nI 6) 0 6 (by decide) (by decide) s.heap.size) ⟨va_cnB 3 hts gX4_find_X5_isOutside_n52 rfl rfl rfl (hN (.methodLinkNest "UpAllRound$Voices" 52 yX5_isOutside "UpAllRound") (List.mem_of_getElem? (i := 61) rfl)) (hts (.initialized RX5) (List.mem_of_getElem? (i := 3) rfl)) (by decide +kernel) ⟨Nat.le_of_ble_eq_true rfl, Nat.le_of_ble_eq_true rfl⟩, (hts (.static yX5_isOutside) (List.mem_of_getElem? (i := 2) rfl)), trivial⟩ (zpS hK hN hZ hP hD hS hA [] rfl (by decide)) rfl rfl hl.1 rfl (lv_room (Nat.le_of_ble_eq_true rfl)) dX4_find_14 ⟨Nat.zero_le _, Nat.zero_le _⟩) ?_
    refine lv_if_ne (tgt := 51) hx hb dX4_find_17 (by decide) (fun c17_2 => ?_) (fun c17_2 => ?_)
    · have c17_2 := bI_nn0.mp c17_2
      exact absurd (show zrg 0 6 (nI 4) by decide) c17_2
    · have c17_2 := bI_nX0.mp c17_2
      obtain ⟨t_BODIES, hz2a, hz2b⟩ := hZ.2
      refine va_gets hx hb hz2a hS hown (hts (.fieldLink RX4 56 "UpAllRound$Voices" "BODIES" "[I") (List.mem_of_getElem? (i := 1) rfl)) (fun _ h9 => h9) dX4_find_20 ?_
      refine lv_iload_n hx hb dX4_find_23 rfl (lv_at hl 1 rfl) ?_
      refine lv_iconst (v := nI 4) hx hb dX4_find_24 (by decide) ?_
      refine lv_imul hx hb dX4_find_25 ?_
      refine zrw (pk_mul _ _) ?_
      refine lv_iload_n hx hb dX4_find_26 rfl (lv_at hl 3 rfl) ?_
      refine lv_iadd hx hb dX4_find_27 ?_
      refine zrw (nI_add _ _) ?_
      refine zsti (t := 16) hx hb hz2b hS (by omega) dX4_find_28 ?_
      refine zrw (show zBO 16 = nI 50 from rfl) ?_
      refine lv_istore (lv' := [(4, .int (nI 50)), (3, .int (nI 0)), (2, .int (nI 4)), (0, .int (nI 4)), (1, .int (nI 0))]) hx hb dX4_find_29 hl (by decide) rfl (fun ls hl => ?_)
      refine lv_iload hx hb dX4_find_31 (lv_at hl 0 rfl) ?_
      refine lv_if_eq (tgt := 39) hx hb dX4_find_33 (by decide) (fun c33_3 => ?_) (fun c33_3 => ?_)
      · have c33_3 : 50 = 0 := (nI_eq (a := 50) (b := 0) (by omega) (by omega)).mp c33_3
        exact absurd c33_3 (by omega)
      · have c33_3 : ¬ (50 = 0) := fun h9 => c33_3 ((nI_eq (a := 50) (b := 0) (by omega) (by omega)).mpr h9)
        refine lv_iload hx hb dX4_find_36 (lv_at hl 0 rfl) ?_
        exact hret dX4_find_38 rfl (by rfl)
set_option maxHeartbeats 4000000 in
set_option maxRecDepth 100000 in
theorem c_X4_find_4_1 (l : Launch) (D : va_G) (cI cJ : ClassId)   : zSi l yX4_find wsX4_find ({ frames := 1, cells := 0, slots := 0, locals := 22 } : Room) D [(cI, .int), (cJ, .array .int)] [.int (nI 4), .int (nI 1)] [] (fun r => r = nI 11) := by
  refine zSi.start (cc := cX4_find) (maxL := 5) (rt := .int) (by first | decide | decide +kernel) rfl (Nat.le_of_ble_eq_true rfl) ?_
  intro pg ev s mt args below meth cd ls AA QQ ⟨hx, hb, hml, hr, hlocks, hown, hts, hK, hN, hZ, hP, hD, hA, hS, hl⟩ hret
  have hown : s.vm.findClass RX4 = some mt.cls := hown
  have hl : lv_has ls 5 [(0, .int (nI 4)), (1, .int (nI 1))] := hl
  refine lv_iload_n hx hb dX4_find_0 rfl (lv_at hl 0 rfl) ?_
  refine lv_istore_n (lv' := [(2, .int (nI 4)), (0, .int (nI 4)), (1, .int (nI 1))]) hx hb dX4_find_1 rfl hl (by decide) rfl (fun ls hl => ?_)
  refine lv_iconst (v := nI 0) hx hb dX4_find_2 (by decide) ?_
  refine lv_istore_n (lv' := [(3, .int (nI 0)), (2, .int (nI 4)), (0, .int (nI 4)), (1, .int (nI 1))]) hx hb dX4_find_3 rfl hl (by decide) rfl (fun ls hl => ?_)
  refine lv_iload_n hx hb dX4_find_4 rfl (lv_at hl 0 rfl) ?_
  refine lv_bipush (v := nI 7) hx hb dX4_find_5 (by decide) ?_
  refine lv_icmp_ge (tgt := 51) hx hb dX4_find_7 (by decide) (fun c7_1 => ?_) (fun c7_1 => ?_)
  · have c7_1 : 7 ≤ 0 := (nI_leI (a := 7) (b := 0) (by omega) (by omega)).mp c7_1
    exact absurd c7_1 (by omega)
  · have c7_1 : ¬ (7 ≤ 0) := fun h9 => c7_1 ((nI_leI (a := 7) (b := 0) (by omega) (by omega)).mpr h9)
    refine lv_iload_n hx hb dX4_find_10 rfl (lv_at hl 1 rfl) ?_
    refine lv_iconst (v := nI 0) hx hb dX4_find_11 (by decide) ?_
    refine lv_bipush (v := nI 6) hx hb dX4_find_12 (by decide) ?_
    refine zcsE (va_runSN (As := [.int (nI 4), .int (nI 0), .int (nI 6)]) (rest := []) ⟨hx, hb, hml, hown, hts⟩ (d_X5_isOutside l D cI cJ (nI 4) (nI 0) (nI 6) 0 6 (by decide) (by decide) s.heap.size) ⟨va_cnB 3 hts gX4_find_X5_isOutside_n52 rfl rfl rfl (hN (.methodLinkNest "UpAllRound$Voices" 52 yX5_isOutside "UpAllRound") (List.mem_of_getElem? (i := 61) rfl)) (hts (.initialized RX5) (List.mem_of_getElem? (i := 3) rfl)) (by decide +kernel) ⟨Nat.le_of_ble_eq_true rfl, Nat.le_of_ble_eq_true rfl⟩, (hts (.static yX5_isOutside) (List.mem_of_getElem? (i := 2) rfl)), trivial⟩ (zpS hK hN hZ hP hD hS hA [] rfl (by decide)) rfl rfl hl.1 rfl (lv_room (Nat.le_of_ble_eq_true rfl)) dX4_find_14 ⟨Nat.zero_le _, Nat.zero_le _⟩) ?_
    refine lv_if_ne (tgt := 51) hx hb dX4_find_17 (by decide) (fun c17_2 => ?_) (fun c17_2 => ?_)
    · have c17_2 := bI_nn0.mp c17_2
      exact absurd (show zrg 0 6 (nI 4) by decide) c17_2
    · have c17_2 := bI_nX0.mp c17_2
      obtain ⟨t_BODIES, hz2a, hz2b⟩ := hZ.2
      refine va_gets hx hb hz2a hS hown (hts (.fieldLink RX4 56 "UpAllRound$Voices" "BODIES" "[I") (List.mem_of_getElem? (i := 1) rfl)) (fun _ h9 => h9) dX4_find_20 ?_
      refine lv_iload_n hx hb dX4_find_23 rfl (lv_at hl 1 rfl) ?_
      refine lv_iconst (v := nI 4) hx hb dX4_find_24 (by decide) ?_
      refine lv_imul hx hb dX4_find_25 ?_
      refine zrw (pk_mul _ _) ?_
      refine lv_iload_n hx hb dX4_find_26 rfl (lv_at hl 3 rfl) ?_
      refine lv_iadd hx hb dX4_find_27 ?_
      refine zrw (nI_add _ _) ?_
      refine zsti (t := 17) hx hb hz2b hS (by omega) dX4_find_28 ?_
      refine zrw (show zBO 17 = nI 0 from rfl) ?_
      refine lv_istore (lv' := [(4, .int (nI 0)), (3, .int (nI 0)), (2, .int (nI 4)), (0, .int (nI 4)), (1, .int (nI 1))]) hx hb dX4_find_29 hl (by decide) rfl (fun ls hl => ?_)
      refine lv_iload hx hb dX4_find_31 (lv_at hl 0 rfl) ?_
      refine lv_if_eq (tgt := 39) hx hb dX4_find_33 (by decide) (fun c33_3 => ?_) (fun c33_3 => ?_)
      · have c33_3 : 0 = 0 := (nI_eq (a := 0) (b := 0) (by omega) (by omega)).mp c33_3
        obtain ⟨t_KIND_ABOVE, hz1a, hz1b⟩ := hZ.1
        refine zgetsN hx hb hz1a hS hown (va_Nw.use rfl (hN (.fieldLinkNest "UpAllRound$Voices" 59 "UpAllRound" "KIND_ABOVE" "[I" "UpAllRound") (List.mem_of_getElem? (i := 22) rfl))) (fun _ h9 => h9) dX4_find_39 ?_
        refine lv_iload_n hx hb dX4_find_42 rfl (lv_at hl 2 rfl) ?_
        refine zsti (t := 4) hx hb hz1b hS (by omega) dX4_find_43 ?_
        refine zrw (show zKA 4 = nI 1 from rfl) ?_
        refine lv_istore_n (lv' := [(2, .int (nI 1)), (4, .int (nI 0)), (3, .int (nI 0)), (0, .int (nI 4)), (1, .int (nI 1))]) hx hb dX4_find_44 rfl hl (by decide) rfl (fun ls hl => ?_)
        refine lv_iinc (v := nI (0 + 1)) (lv' := [(3, .int (nI (0 + 1))), (2, .int (nI 1)), (4, .int (nI 0)), (0, .int (nI 4)), (1, .int (nI 1))]) hx hb dX4_find_45 hl (k := 2) rfl (nI_add _ _) (by decide) rfl (fun ls hl => ?_)
        refine lv_goto (tgt := 4) hx hb dX4_find_48 (by decide) ?_
        refine lv_iload_n hx hb dX4_find_4 rfl (lv_at hl 0 rfl) ?_
        refine lv_bipush (v := nI 7) hx hb dX4_find_5 (by decide) ?_
        refine lv_icmp_ge (tgt := 51) hx hb dX4_find_7 (by decide) (fun c7_4 => ?_) (fun c7_4 => ?_)
        · have c7_4 : 7 ≤ (0 + 1) := (nI_leI (a := 7) (b := 0 + 1) (by omega) (by omega)).mp c7_4
          exact absurd c7_4 (by omega)
        · have c7_4 : ¬ (7 ≤ (0 + 1)) := fun h9 => c7_4 ((nI_leI (a := 7) (b := 0 + 1) (by omega) (by omega)).mpr h9)
          refine lv_iload_n hx hb dX4_find_10 rfl (lv_at hl 1 rfl) ?_
          refine lv_iconst (v := nI 0) hx hb dX4_find_11 (by decide) ?_
          refine lv_bipush (v := nI 6) hx hb dX4_find_12 (by decide) ?_
          refine zcsE (va_runSN (As := [.int (nI 1), .int (nI 0), .int (nI 6)]) (rest := []) ⟨hx, hb, hml, hown, hts⟩ (d_X5_isOutside l D cI cJ (nI 1) (nI 0) (nI 6) 0 6 (by decide) (by decide) s.heap.size) ⟨va_cnB 3 hts gX4_find_X5_isOutside_n52 rfl rfl rfl (hN (.methodLinkNest "UpAllRound$Voices" 52 yX5_isOutside "UpAllRound") (List.mem_of_getElem? (i := 61) rfl)) (hts (.initialized RX5) (List.mem_of_getElem? (i := 3) rfl)) (by decide +kernel) ⟨Nat.le_of_ble_eq_true rfl, Nat.le_of_ble_eq_true rfl⟩, (hts (.static yX5_isOutside) (List.mem_of_getElem? (i := 2) rfl)), trivial⟩ (zpS hK hN hZ hP hD hS hA [] rfl (by decide)) rfl rfl hl.1 rfl (lv_room (Nat.le_of_ble_eq_true rfl)) dX4_find_14 ⟨Nat.zero_le _, Nat.zero_le _⟩) ?_
          refine lv_if_ne (tgt := 51) hx hb dX4_find_17 (by decide) (fun c17_5 => ?_) (fun c17_5 => ?_)
          · have c17_5 := bI_nn0.mp c17_5
            exact absurd (show zrg 0 6 (nI 1) by decide) c17_5
          · have c17_5 := bI_nX0.mp c17_5
            obtain ⟨t_BODIES, hz2a, hz2b⟩ := hZ.2
            refine va_gets hx hb hz2a hS hown (hts (.fieldLink RX4 56 "UpAllRound$Voices" "BODIES" "[I") (List.mem_of_getElem? (i := 1) rfl)) (fun _ h9 => h9) dX4_find_20 ?_
            refine lv_iload_n hx hb dX4_find_23 rfl (lv_at hl 1 rfl) ?_
            refine lv_iconst (v := nI 4) hx hb dX4_find_24 (by decide) ?_
            refine lv_imul hx hb dX4_find_25 ?_
            refine zrw (pk_mul _ _) ?_
            refine lv_iload_n hx hb dX4_find_26 rfl (lv_at hl 4 rfl) ?_
            refine lv_iadd hx hb dX4_find_27 ?_
            refine zrw (nI_add _ _) ?_
            refine zsti (t := 5) hx hb hz2b hS (by omega) dX4_find_28 ?_
            refine zrw (show zBO 5 = nI 0 from rfl) ?_
            refine lv_istore (lv' := [(4, .int (nI 0)), (3, .int (nI (0 + 1))), (2, .int (nI 1)), (0, .int (nI 4)), (1, .int (nI 1))]) hx hb dX4_find_29 hl (by decide) rfl (fun ls hl => ?_)
            refine lv_iload hx hb dX4_find_31 (lv_at hl 0 rfl) ?_
            refine lv_if_eq (tgt := 39) hx hb dX4_find_33 (by decide) (fun c33_6 => ?_) (fun c33_6 => ?_)
            · have c33_6 : 0 = 0 := (nI_eq (a := 0) (b := 0) (by omega) (by omega)).mp c33_6
              obtain ⟨t_KIND_ABOVE, hz1a, hz1b⟩ := hZ.1
              refine zgetsN hx hb hz1a hS hown (va_Nw.use rfl (hN (.fieldLinkNest "UpAllRound$Voices" 59 "UpAllRound" "KIND_ABOVE" "[I" "UpAllRound") (List.mem_of_getElem? (i := 22) rfl))) (fun _ h9 => h9) dX4_find_39 ?_
              refine lv_iload_n hx hb dX4_find_42 rfl (lv_at hl 2 rfl) ?_
              refine zsti (t := 1) hx hb hz1b hS (by omega) dX4_find_43 ?_
              refine zrw (show zKA 1 = nI 0 from rfl) ?_
              refine lv_istore_n (lv' := [(2, .int (nI 0)), (4, .int (nI 0)), (3, .int (nI (0 + 1))), (0, .int (nI 4)), (1, .int (nI 1))]) hx hb dX4_find_44 rfl hl (by decide) rfl (fun ls hl => ?_)
              refine lv_iinc (v := nI (0 + 1 + 1)) (lv' := [(3, .int (nI (0 + 1 + 1))), (2, .int (nI 0)), (4, .int (nI 0)), (0, .int (nI 4)), (1, .int (nI 1))]) hx hb dX4_find_45 hl (k := 2) rfl (nI_add _ _) (by decide) rfl (fun ls hl => ?_)
              refine lv_goto (tgt := 4) hx hb dX4_find_48 (by decide) ?_
              refine lv_iload_n hx hb dX4_find_4 rfl (lv_at hl 0 rfl) ?_
              refine lv_bipush (v := nI 7) hx hb dX4_find_5 (by decide) ?_
              refine lv_icmp_ge (tgt := 51) hx hb dX4_find_7 (by decide) (fun c7_7 => ?_) (fun c7_7 => ?_)
              · have c7_7 : 7 ≤ (0 + 1 + 1) := (nI_leI (a := 7) (b := 0 + 1 + 1) (by omega) (by omega)).mp c7_7
                exact absurd c7_7 (by omega)
              · have c7_7 : ¬ (7 ≤ (0 + 1 + 1)) := fun h9 => c7_7 ((nI_leI (a := 7) (b := 0 + 1 + 1) (by omega) (by omega)).mpr h9)
                refine lv_iload_n hx hb dX4_find_10 rfl (lv_at hl 1 rfl) ?_
                refine lv_iconst (v := nI 0) hx hb dX4_find_11 (by decide) ?_
                refine lv_bipush (v := nI 6) hx hb dX4_find_12 (by decide) ?_
                refine zcsE (va_runSN (As := [.int (nI 0), .int (nI 0), .int (nI 6)]) (rest := []) ⟨hx, hb, hml, hown, hts⟩ (d_X5_isOutside l D cI cJ (nI 0) (nI 0) (nI 6) 0 6 (by decide) (by decide) s.heap.size) ⟨va_cnB 3 hts gX4_find_X5_isOutside_n52 rfl rfl rfl (hN (.methodLinkNest "UpAllRound$Voices" 52 yX5_isOutside "UpAllRound") (List.mem_of_getElem? (i := 61) rfl)) (hts (.initialized RX5) (List.mem_of_getElem? (i := 3) rfl)) (by decide +kernel) ⟨Nat.le_of_ble_eq_true rfl, Nat.le_of_ble_eq_true rfl⟩, (hts (.static yX5_isOutside) (List.mem_of_getElem? (i := 2) rfl)), trivial⟩ (zpS hK hN hZ hP hD hS hA [] rfl (by decide)) rfl rfl hl.1 rfl (lv_room (Nat.le_of_ble_eq_true rfl)) dX4_find_14 ⟨Nat.zero_le _, Nat.zero_le _⟩) ?_
                refine lv_if_ne (tgt := 51) hx hb dX4_find_17 (by decide) (fun c17_8 => ?_) (fun c17_8 => ?_)
                · have c17_8 := bI_nn0.mp c17_8
                  exact absurd (show zrg 0 6 (nI 0) by decide) c17_8
                · have c17_8 := bI_nX0.mp c17_8
                  obtain ⟨t_BODIES, hz2a, hz2b⟩ := hZ.2
                  refine va_gets hx hb hz2a hS hown (hts (.fieldLink RX4 56 "UpAllRound$Voices" "BODIES" "[I") (List.mem_of_getElem? (i := 1) rfl)) (fun _ h9 => h9) dX4_find_20 ?_
                  refine lv_iload_n hx hb dX4_find_23 rfl (lv_at hl 1 rfl) ?_
                  refine lv_iconst (v := nI 4) hx hb dX4_find_24 (by decide) ?_
                  refine lv_imul hx hb dX4_find_25 ?_
                  refine zrw (pk_mul _ _) ?_
                  refine lv_iload_n hx hb dX4_find_26 rfl (lv_at hl 4 rfl) ?_
                  refine lv_iadd hx hb dX4_find_27 ?_
                  refine zrw (nI_add _ _) ?_
                  refine zsti (t := 1) hx hb hz2b hS (by omega) dX4_find_28 ?_
                  refine zrw (show zBO 1 = nI 11 from rfl) ?_
                  refine lv_istore (lv' := [(4, .int (nI 11)), (3, .int (nI (0 + 1 + 1))), (2, .int (nI 0)), (0, .int (nI 4)), (1, .int (nI 1))]) hx hb dX4_find_29 hl (by decide) rfl (fun ls hl => ?_)
                  refine lv_iload hx hb dX4_find_31 (lv_at hl 0 rfl) ?_
                  refine lv_if_eq (tgt := 39) hx hb dX4_find_33 (by decide) (fun c33_9 => ?_) (fun c33_9 => ?_)
                  · have c33_9 : 11 = 0 := (nI_eq (a := 11) (b := 0) (by omega) (by omega)).mp c33_9
                    exact absurd c33_9 (by omega)
                  · have c33_9 : ¬ (11 = 0) := fun h9 => c33_9 ((nI_eq (a := 11) (b := 0) (by omega) (by omega)).mpr h9)
                    refine lv_iload hx hb dX4_find_36 (lv_at hl 0 rfl) ?_
                    exact hret dX4_find_38 rfl (by rfl)
            · have c33_6 : ¬ (0 = 0) := fun h9 => c33_6 ((nI_eq (a := 0) (b := 0) (by omega) (by omega)).mpr h9)
              exact absurd c33_6 (by omega)
      · have c33_3 : ¬ (0 = 0) := fun h9 => c33_3 ((nI_eq (a := 0) (b := 0) (by omega) (by omega)).mpr h9)
        exact absurd c33_3 (by omega)
set_option maxHeartbeats 4000000 in
set_option maxRecDepth 100000 in
theorem c_X4_find_4_2 (l : Launch) (D : va_G) (cI cJ : ClassId)   : zSi l yX4_find wsX4_find ({ frames := 1, cells := 0, slots := 0, locals := 22 } : Room) D [(cI, .int), (cJ, .array .int)] [.int (nI 4), .int (nI 2)] [] (fun r => r = nI 51) := by
  refine zSi.start (cc := cX4_find) (maxL := 5) (rt := .int) (by first | decide | decide +kernel) rfl (Nat.le_of_ble_eq_true rfl) ?_
  intro pg ev s mt args below meth cd ls AA QQ ⟨hx, hb, hml, hr, hlocks, hown, hts, hK, hN, hZ, hP, hD, hA, hS, hl⟩ hret
  have hown : s.vm.findClass RX4 = some mt.cls := hown
  have hl : lv_has ls 5 [(0, .int (nI 4)), (1, .int (nI 2))] := hl
  refine lv_iload_n hx hb dX4_find_0 rfl (lv_at hl 0 rfl) ?_
  refine lv_istore_n (lv' := [(2, .int (nI 4)), (0, .int (nI 4)), (1, .int (nI 2))]) hx hb dX4_find_1 rfl hl (by decide) rfl (fun ls hl => ?_)
  refine lv_iconst (v := nI 0) hx hb dX4_find_2 (by decide) ?_
  refine lv_istore_n (lv' := [(3, .int (nI 0)), (2, .int (nI 4)), (0, .int (nI 4)), (1, .int (nI 2))]) hx hb dX4_find_3 rfl hl (by decide) rfl (fun ls hl => ?_)
  refine lv_iload_n hx hb dX4_find_4 rfl (lv_at hl 0 rfl) ?_
  refine lv_bipush (v := nI 7) hx hb dX4_find_5 (by decide) ?_
  refine lv_icmp_ge (tgt := 51) hx hb dX4_find_7 (by decide) (fun c7_1 => ?_) (fun c7_1 => ?_)
  · have c7_1 : 7 ≤ 0 := (nI_leI (a := 7) (b := 0) (by omega) (by omega)).mp c7_1
    exact absurd c7_1 (by omega)
  · have c7_1 : ¬ (7 ≤ 0) := fun h9 => c7_1 ((nI_leI (a := 7) (b := 0) (by omega) (by omega)).mpr h9)
    refine lv_iload_n hx hb dX4_find_10 rfl (lv_at hl 1 rfl) ?_
    refine lv_iconst (v := nI 0) hx hb dX4_find_11 (by decide) ?_
    refine lv_bipush (v := nI 6) hx hb dX4_find_12 (by decide) ?_
    refine zcsE (va_runSN (As := [.int (nI 4), .int (nI 0), .int (nI 6)]) (rest := []) ⟨hx, hb, hml, hown, hts⟩ (d_X5_isOutside l D cI cJ (nI 4) (nI 0) (nI 6) 0 6 (by decide) (by decide) s.heap.size) ⟨va_cnB 3 hts gX4_find_X5_isOutside_n52 rfl rfl rfl (hN (.methodLinkNest "UpAllRound$Voices" 52 yX5_isOutside "UpAllRound") (List.mem_of_getElem? (i := 61) rfl)) (hts (.initialized RX5) (List.mem_of_getElem? (i := 3) rfl)) (by decide +kernel) ⟨Nat.le_of_ble_eq_true rfl, Nat.le_of_ble_eq_true rfl⟩, (hts (.static yX5_isOutside) (List.mem_of_getElem? (i := 2) rfl)), trivial⟩ (zpS hK hN hZ hP hD hS hA [] rfl (by decide)) rfl rfl hl.1 rfl (lv_room (Nat.le_of_ble_eq_true rfl)) dX4_find_14 ⟨Nat.zero_le _, Nat.zero_le _⟩) ?_
    refine lv_if_ne (tgt := 51) hx hb dX4_find_17 (by decide) (fun c17_2 => ?_) (fun c17_2 => ?_)
    · have c17_2 := bI_nn0.mp c17_2
      exact absurd (show zrg 0 6 (nI 4) by decide) c17_2
    · have c17_2 := bI_nX0.mp c17_2
      obtain ⟨t_BODIES, hz2a, hz2b⟩ := hZ.2
      refine va_gets hx hb hz2a hS hown (hts (.fieldLink RX4 56 "UpAllRound$Voices" "BODIES" "[I") (List.mem_of_getElem? (i := 1) rfl)) (fun _ h9 => h9) dX4_find_20 ?_
      refine lv_iload_n hx hb dX4_find_23 rfl (lv_at hl 1 rfl) ?_
      refine lv_iconst (v := nI 4) hx hb dX4_find_24 (by decide) ?_
      refine lv_imul hx hb dX4_find_25 ?_
      refine zrw (pk_mul _ _) ?_
      refine lv_iload_n hx hb dX4_find_26 rfl (lv_at hl 3 rfl) ?_
      refine lv_iadd hx hb dX4_find_27 ?_
      refine zrw (nI_add _ _) ?_
      refine zsti (t := 18) hx hb hz2b hS (by omega) dX4_find_28 ?_
      refine zrw (show zBO 18 = nI 51 from rfl) ?_
      refine lv_istore (lv' := [(4, .int (nI 51)), (3, .int (nI 0)), (2, .int (nI 4)), (0, .int (nI 4)), (1, .int (nI 2))]) hx hb dX4_find_29 hl (by decide) rfl (fun ls hl => ?_)
      refine lv_iload hx hb dX4_find_31 (lv_at hl 0 rfl) ?_
      refine lv_if_eq (tgt := 39) hx hb dX4_find_33 (by decide) (fun c33_3 => ?_) (fun c33_3 => ?_)
      · have c33_3 : 51 = 0 := (nI_eq (a := 51) (b := 0) (by omega) (by omega)).mp c33_3
        exact absurd c33_3 (by omega)
      · have c33_3 : ¬ (51 = 0) := fun h9 => c33_3 ((nI_eq (a := 51) (b := 0) (by omega) (by omega)).mpr h9)
        refine lv_iload hx hb dX4_find_36 (lv_at hl 0 rfl) ?_
        exact hret dX4_find_38 rfl (by rfl)
set_option maxHeartbeats 4000000 in
set_option maxRecDepth 100000 in
theorem c_X4_find_4_3 (l : Launch) (D : va_G) (cI cJ : ClassId)   : zSi l yX4_find wsX4_find ({ frames := 1, cells := 0, slots := 0, locals := 22 } : Room) D [(cI, .int), (cJ, .array .int)] [.int (nI 4), .int (nI 3)] [] (fun r => r = nI 21) := by
  refine zSi.start (cc := cX4_find) (maxL := 5) (rt := .int) (by first | decide | decide +kernel) rfl (Nat.le_of_ble_eq_true rfl) ?_
  intro pg ev s mt args below meth cd ls AA QQ ⟨hx, hb, hml, hr, hlocks, hown, hts, hK, hN, hZ, hP, hD, hA, hS, hl⟩ hret
  have hown : s.vm.findClass RX4 = some mt.cls := hown
  have hl : lv_has ls 5 [(0, .int (nI 4)), (1, .int (nI 3))] := hl
  refine lv_iload_n hx hb dX4_find_0 rfl (lv_at hl 0 rfl) ?_
  refine lv_istore_n (lv' := [(2, .int (nI 4)), (0, .int (nI 4)), (1, .int (nI 3))]) hx hb dX4_find_1 rfl hl (by decide) rfl (fun ls hl => ?_)
  refine lv_iconst (v := nI 0) hx hb dX4_find_2 (by decide) ?_
  refine lv_istore_n (lv' := [(3, .int (nI 0)), (2, .int (nI 4)), (0, .int (nI 4)), (1, .int (nI 3))]) hx hb dX4_find_3 rfl hl (by decide) rfl (fun ls hl => ?_)
  refine lv_iload_n hx hb dX4_find_4 rfl (lv_at hl 0 rfl) ?_
  refine lv_bipush (v := nI 7) hx hb dX4_find_5 (by decide) ?_
  refine lv_icmp_ge (tgt := 51) hx hb dX4_find_7 (by decide) (fun c7_1 => ?_) (fun c7_1 => ?_)
  · have c7_1 : 7 ≤ 0 := (nI_leI (a := 7) (b := 0) (by omega) (by omega)).mp c7_1
    exact absurd c7_1 (by omega)
  · have c7_1 : ¬ (7 ≤ 0) := fun h9 => c7_1 ((nI_leI (a := 7) (b := 0) (by omega) (by omega)).mpr h9)
    refine lv_iload_n hx hb dX4_find_10 rfl (lv_at hl 1 rfl) ?_
    refine lv_iconst (v := nI 0) hx hb dX4_find_11 (by decide) ?_
    refine lv_bipush (v := nI 6) hx hb dX4_find_12 (by decide) ?_
    refine zcsE (va_runSN (As := [.int (nI 4), .int (nI 0), .int (nI 6)]) (rest := []) ⟨hx, hb, hml, hown, hts⟩ (d_X5_isOutside l D cI cJ (nI 4) (nI 0) (nI 6) 0 6 (by decide) (by decide) s.heap.size) ⟨va_cnB 3 hts gX4_find_X5_isOutside_n52 rfl rfl rfl (hN (.methodLinkNest "UpAllRound$Voices" 52 yX5_isOutside "UpAllRound") (List.mem_of_getElem? (i := 61) rfl)) (hts (.initialized RX5) (List.mem_of_getElem? (i := 3) rfl)) (by decide +kernel) ⟨Nat.le_of_ble_eq_true rfl, Nat.le_of_ble_eq_true rfl⟩, (hts (.static yX5_isOutside) (List.mem_of_getElem? (i := 2) rfl)), trivial⟩ (zpS hK hN hZ hP hD hS hA [] rfl (by decide)) rfl rfl hl.1 rfl (lv_room (Nat.le_of_ble_eq_true rfl)) dX4_find_14 ⟨Nat.zero_le _, Nat.zero_le _⟩) ?_
    refine lv_if_ne (tgt := 51) hx hb dX4_find_17 (by decide) (fun c17_2 => ?_) (fun c17_2 => ?_)
    · have c17_2 := bI_nn0.mp c17_2
      exact absurd (show zrg 0 6 (nI 4) by decide) c17_2
    · have c17_2 := bI_nX0.mp c17_2
      obtain ⟨t_BODIES, hz2a, hz2b⟩ := hZ.2
      refine va_gets hx hb hz2a hS hown (hts (.fieldLink RX4 56 "UpAllRound$Voices" "BODIES" "[I") (List.mem_of_getElem? (i := 1) rfl)) (fun _ h9 => h9) dX4_find_20 ?_
      refine lv_iload_n hx hb dX4_find_23 rfl (lv_at hl 1 rfl) ?_
      refine lv_iconst (v := nI 4) hx hb dX4_find_24 (by decide) ?_
      refine lv_imul hx hb dX4_find_25 ?_
      refine zrw (pk_mul _ _) ?_
      refine lv_iload_n hx hb dX4_find_26 rfl (lv_at hl 3 rfl) ?_
      refine lv_iadd hx hb dX4_find_27 ?_
      refine zrw (nI_add _ _) ?_
      refine zsti (t := 19) hx hb hz2b hS (by omega) dX4_find_28 ?_
      refine zrw (show zBO 19 = nI 0 from rfl) ?_
      refine lv_istore (lv' := [(4, .int (nI 0)), (3, .int (nI 0)), (2, .int (nI 4)), (0, .int (nI 4)), (1, .int (nI 3))]) hx hb dX4_find_29 hl (by decide) rfl (fun ls hl => ?_)
      refine lv_iload hx hb dX4_find_31 (lv_at hl 0 rfl) ?_
      refine lv_if_eq (tgt := 39) hx hb dX4_find_33 (by decide) (fun c33_3 => ?_) (fun c33_3 => ?_)
      · have c33_3 : 0 = 0 := (nI_eq (a := 0) (b := 0) (by omega) (by omega)).mp c33_3
        obtain ⟨t_KIND_ABOVE, hz1a, hz1b⟩ := hZ.1
        refine zgetsN hx hb hz1a hS hown (va_Nw.use rfl (hN (.fieldLinkNest "UpAllRound$Voices" 59 "UpAllRound" "KIND_ABOVE" "[I" "UpAllRound") (List.mem_of_getElem? (i := 22) rfl))) (fun _ h9 => h9) dX4_find_39 ?_
        refine lv_iload_n hx hb dX4_find_42 rfl (lv_at hl 2 rfl) ?_
        refine zsti (t := 4) hx hb hz1b hS (by omega) dX4_find_43 ?_
        refine zrw (show zKA 4 = nI 1 from rfl) ?_
        refine lv_istore_n (lv' := [(2, .int (nI 1)), (4, .int (nI 0)), (3, .int (nI 0)), (0, .int (nI 4)), (1, .int (nI 3))]) hx hb dX4_find_44 rfl hl (by decide) rfl (fun ls hl => ?_)
        refine lv_iinc (v := nI (0 + 1)) (lv' := [(3, .int (nI (0 + 1))), (2, .int (nI 1)), (4, .int (nI 0)), (0, .int (nI 4)), (1, .int (nI 3))]) hx hb dX4_find_45 hl (k := 2) rfl (nI_add _ _) (by decide) rfl (fun ls hl => ?_)
        refine lv_goto (tgt := 4) hx hb dX4_find_48 (by decide) ?_
        refine lv_iload_n hx hb dX4_find_4 rfl (lv_at hl 0 rfl) ?_
        refine lv_bipush (v := nI 7) hx hb dX4_find_5 (by decide) ?_
        refine lv_icmp_ge (tgt := 51) hx hb dX4_find_7 (by decide) (fun c7_4 => ?_) (fun c7_4 => ?_)
        · have c7_4 : 7 ≤ (0 + 1) := (nI_leI (a := 7) (b := 0 + 1) (by omega) (by omega)).mp c7_4
          exact absurd c7_4 (by omega)
        · have c7_4 : ¬ (7 ≤ (0 + 1)) := fun h9 => c7_4 ((nI_leI (a := 7) (b := 0 + 1) (by omega) (by omega)).mpr h9)
          refine lv_iload_n hx hb dX4_find_10 rfl (lv_at hl 1 rfl) ?_
          refine lv_iconst (v := nI 0) hx hb dX4_find_11 (by decide) ?_
          refine lv_bipush (v := nI 6) hx hb dX4_find_12 (by decide) ?_
          refine zcsE (va_runSN (As := [.int (nI 1), .int (nI 0), .int (nI 6)]) (rest := []) ⟨hx, hb, hml, hown, hts⟩ (d_X5_isOutside l D cI cJ (nI 1) (nI 0) (nI 6) 0 6 (by decide) (by decide) s.heap.size) ⟨va_cnB 3 hts gX4_find_X5_isOutside_n52 rfl rfl rfl (hN (.methodLinkNest "UpAllRound$Voices" 52 yX5_isOutside "UpAllRound") (List.mem_of_getElem? (i := 61) rfl)) (hts (.initialized RX5) (List.mem_of_getElem? (i := 3) rfl)) (by decide +kernel) ⟨Nat.le_of_ble_eq_true rfl, Nat.le_of_ble_eq_true rfl⟩, (hts (.static yX5_isOutside) (List.mem_of_getElem? (i := 2) rfl)), trivial⟩ (zpS hK hN hZ hP hD hS hA [] rfl (by decide)) rfl rfl hl.1 rfl (lv_room (Nat.le_of_ble_eq_true rfl)) dX4_find_14 ⟨Nat.zero_le _, Nat.zero_le _⟩) ?_
          refine lv_if_ne (tgt := 51) hx hb dX4_find_17 (by decide) (fun c17_5 => ?_) (fun c17_5 => ?_)
          · have c17_5 := bI_nn0.mp c17_5
            exact absurd (show zrg 0 6 (nI 1) by decide) c17_5
          · have c17_5 := bI_nX0.mp c17_5
            obtain ⟨t_BODIES, hz2a, hz2b⟩ := hZ.2
            refine va_gets hx hb hz2a hS hown (hts (.fieldLink RX4 56 "UpAllRound$Voices" "BODIES" "[I") (List.mem_of_getElem? (i := 1) rfl)) (fun _ h9 => h9) dX4_find_20 ?_
            refine lv_iload_n hx hb dX4_find_23 rfl (lv_at hl 1 rfl) ?_
            refine lv_iconst (v := nI 4) hx hb dX4_find_24 (by decide) ?_
            refine lv_imul hx hb dX4_find_25 ?_
            refine zrw (pk_mul _ _) ?_
            refine lv_iload_n hx hb dX4_find_26 rfl (lv_at hl 4 rfl) ?_
            refine lv_iadd hx hb dX4_find_27 ?_
            refine zrw (nI_add _ _) ?_
            refine zsti (t := 7) hx hb hz2b hS (by omega) dX4_find_28 ?_
            refine zrw (show zBO 7 = nI 21 from rfl) ?_
            refine lv_istore (lv' := [(4, .int (nI 21)), (3, .int (nI (0 + 1))), (2, .int (nI 1)), (0, .int (nI 4)), (1, .int (nI 3))]) hx hb dX4_find_29 hl (by decide) rfl (fun ls hl => ?_)
            refine lv_iload hx hb dX4_find_31 (lv_at hl 0 rfl) ?_
            refine lv_if_eq (tgt := 39) hx hb dX4_find_33 (by decide) (fun c33_6 => ?_) (fun c33_6 => ?_)
            · have c33_6 : 21 = 0 := (nI_eq (a := 21) (b := 0) (by omega) (by omega)).mp c33_6
              exact absurd c33_6 (by omega)
            · have c33_6 : ¬ (21 = 0) := fun h9 => c33_6 ((nI_eq (a := 21) (b := 0) (by omega) (by omega)).mpr h9)
              refine lv_iload hx hb dX4_find_36 (lv_at hl 0 rfl) ?_
              exact hret dX4_find_38 rfl (by rfl)
      · have c33_3 : ¬ (0 = 0) := fun h9 => c33_3 ((nI_eq (a := 0) (b := 0) (by omega) (by omega)).mpr h9)
        exact absurd c33_3 (by omega)
set_option maxHeartbeats 4000000 in
set_option maxRecDepth 100000 in
theorem c_X4_find_5_0 (l : Launch) (D : va_G) (cI cJ : ClassId)   : zSi l yX4_find wsX4_find ({ frames := 1, cells := 0, slots := 0, locals := 22 } : Room) D [(cI, .int), (cJ, .array .int)] [.int (nI 5), .int (nI 0)] [] (fun r => r = nI 10) := by
  refine zSi.start (cc := cX4_find) (maxL := 5) (rt := .int) (by first | decide | decide +kernel) rfl (Nat.le_of_ble_eq_true rfl) ?_
  intro pg ev s mt args below meth cd ls AA QQ ⟨hx, hb, hml, hr, hlocks, hown, hts, hK, hN, hZ, hP, hD, hA, hS, hl⟩ hret
  have hown : s.vm.findClass RX4 = some mt.cls := hown
  have hl : lv_has ls 5 [(0, .int (nI 5)), (1, .int (nI 0))] := hl
  refine lv_iload_n hx hb dX4_find_0 rfl (lv_at hl 0 rfl) ?_
  refine lv_istore_n (lv' := [(2, .int (nI 5)), (0, .int (nI 5)), (1, .int (nI 0))]) hx hb dX4_find_1 rfl hl (by decide) rfl (fun ls hl => ?_)
  refine lv_iconst (v := nI 0) hx hb dX4_find_2 (by decide) ?_
  refine lv_istore_n (lv' := [(3, .int (nI 0)), (2, .int (nI 5)), (0, .int (nI 5)), (1, .int (nI 0))]) hx hb dX4_find_3 rfl hl (by decide) rfl (fun ls hl => ?_)
  refine lv_iload_n hx hb dX4_find_4 rfl (lv_at hl 0 rfl) ?_
  refine lv_bipush (v := nI 7) hx hb dX4_find_5 (by decide) ?_
  refine lv_icmp_ge (tgt := 51) hx hb dX4_find_7 (by decide) (fun c7_1 => ?_) (fun c7_1 => ?_)
  · have c7_1 : 7 ≤ 0 := (nI_leI (a := 7) (b := 0) (by omega) (by omega)).mp c7_1
    exact absurd c7_1 (by omega)
  · have c7_1 : ¬ (7 ≤ 0) := fun h9 => c7_1 ((nI_leI (a := 7) (b := 0) (by omega) (by omega)).mpr h9)
    refine lv_iload_n hx hb dX4_find_10 rfl (lv_at hl 1 rfl) ?_
    refine lv_iconst (v := nI 0) hx hb dX4_find_11 (by decide) ?_
    refine lv_bipush (v := nI 6) hx hb dX4_find_12 (by decide) ?_
    refine zcsE (va_runSN (As := [.int (nI 5), .int (nI 0), .int (nI 6)]) (rest := []) ⟨hx, hb, hml, hown, hts⟩ (d_X5_isOutside l D cI cJ (nI 5) (nI 0) (nI 6) 0 6 (by decide) (by decide) s.heap.size) ⟨va_cnB 3 hts gX4_find_X5_isOutside_n52 rfl rfl rfl (hN (.methodLinkNest "UpAllRound$Voices" 52 yX5_isOutside "UpAllRound") (List.mem_of_getElem? (i := 61) rfl)) (hts (.initialized RX5) (List.mem_of_getElem? (i := 3) rfl)) (by decide +kernel) ⟨Nat.le_of_ble_eq_true rfl, Nat.le_of_ble_eq_true rfl⟩, (hts (.static yX5_isOutside) (List.mem_of_getElem? (i := 2) rfl)), trivial⟩ (zpS hK hN hZ hP hD hS hA [] rfl (by decide)) rfl rfl hl.1 rfl (lv_room (Nat.le_of_ble_eq_true rfl)) dX4_find_14 ⟨Nat.zero_le _, Nat.zero_le _⟩) ?_
    refine lv_if_ne (tgt := 51) hx hb dX4_find_17 (by decide) (fun c17_2 => ?_) (fun c17_2 => ?_)
    · have c17_2 := bI_nn0.mp c17_2
      exact absurd (show zrg 0 6 (nI 5) by decide) c17_2
    · have c17_2 := bI_nX0.mp c17_2
      obtain ⟨t_BODIES, hz2a, hz2b⟩ := hZ.2
      refine va_gets hx hb hz2a hS hown (hts (.fieldLink RX4 56 "UpAllRound$Voices" "BODIES" "[I") (List.mem_of_getElem? (i := 1) rfl)) (fun _ h9 => h9) dX4_find_20 ?_
      refine lv_iload_n hx hb dX4_find_23 rfl (lv_at hl 1 rfl) ?_
      refine lv_iconst (v := nI 4) hx hb dX4_find_24 (by decide) ?_
      refine lv_imul hx hb dX4_find_25 ?_
      refine zrw (pk_mul _ _) ?_
      refine lv_iload_n hx hb dX4_find_26 rfl (lv_at hl 3 rfl) ?_
      refine lv_iadd hx hb dX4_find_27 ?_
      refine zrw (nI_add _ _) ?_
      refine zsti (t := 20) hx hb hz2b hS (by omega) dX4_find_28 ?_
      refine zrw (show zBO 20 = nI 0 from rfl) ?_
      refine lv_istore (lv' := [(4, .int (nI 0)), (3, .int (nI 0)), (2, .int (nI 5)), (0, .int (nI 5)), (1, .int (nI 0))]) hx hb dX4_find_29 hl (by decide) rfl (fun ls hl => ?_)
      refine lv_iload hx hb dX4_find_31 (lv_at hl 0 rfl) ?_
      refine lv_if_eq (tgt := 39) hx hb dX4_find_33 (by decide) (fun c33_3 => ?_) (fun c33_3 => ?_)
      · have c33_3 : 0 = 0 := (nI_eq (a := 0) (b := 0) (by omega) (by omega)).mp c33_3
        obtain ⟨t_KIND_ABOVE, hz1a, hz1b⟩ := hZ.1
        refine zgetsN hx hb hz1a hS hown (va_Nw.use rfl (hN (.fieldLinkNest "UpAllRound$Voices" 59 "UpAllRound" "KIND_ABOVE" "[I" "UpAllRound") (List.mem_of_getElem? (i := 22) rfl))) (fun _ h9 => h9) dX4_find_39 ?_
        refine lv_iload_n hx hb dX4_find_42 rfl (lv_at hl 2 rfl) ?_
        refine zsti (t := 5) hx hb hz1b hS (by omega) dX4_find_43 ?_
        refine zrw (show zKA 5 = nI 2 from rfl) ?_
        refine lv_istore_n (lv' := [(2, .int (nI 2)), (4, .int (nI 0)), (3, .int (nI 0)), (0, .int (nI 5)), (1, .int (nI 0))]) hx hb dX4_find_44 rfl hl (by decide) rfl (fun ls hl => ?_)
        refine lv_iinc (v := nI (0 + 1)) (lv' := [(3, .int (nI (0 + 1))), (2, .int (nI 2)), (4, .int (nI 0)), (0, .int (nI 5)), (1, .int (nI 0))]) hx hb dX4_find_45 hl (k := 2) rfl (nI_add _ _) (by decide) rfl (fun ls hl => ?_)
        refine lv_goto (tgt := 4) hx hb dX4_find_48 (by decide) ?_
        refine lv_iload_n hx hb dX4_find_4 rfl (lv_at hl 0 rfl) ?_
        refine lv_bipush (v := nI 7) hx hb dX4_find_5 (by decide) ?_
        refine lv_icmp_ge (tgt := 51) hx hb dX4_find_7 (by decide) (fun c7_4 => ?_) (fun c7_4 => ?_)
        · have c7_4 : 7 ≤ (0 + 1) := (nI_leI (a := 7) (b := 0 + 1) (by omega) (by omega)).mp c7_4
          exact absurd c7_4 (by omega)
        · have c7_4 : ¬ (7 ≤ (0 + 1)) := fun h9 => c7_4 ((nI_leI (a := 7) (b := 0 + 1) (by omega) (by omega)).mpr h9)
          refine lv_iload_n hx hb dX4_find_10 rfl (lv_at hl 1 rfl) ?_
          refine lv_iconst (v := nI 0) hx hb dX4_find_11 (by decide) ?_
          refine lv_bipush (v := nI 6) hx hb dX4_find_12 (by decide) ?_
          refine zcsE (va_runSN (As := [.int (nI 2), .int (nI 0), .int (nI 6)]) (rest := []) ⟨hx, hb, hml, hown, hts⟩ (d_X5_isOutside l D cI cJ (nI 2) (nI 0) (nI 6) 0 6 (by decide) (by decide) s.heap.size) ⟨va_cnB 3 hts gX4_find_X5_isOutside_n52 rfl rfl rfl (hN (.methodLinkNest "UpAllRound$Voices" 52 yX5_isOutside "UpAllRound") (List.mem_of_getElem? (i := 61) rfl)) (hts (.initialized RX5) (List.mem_of_getElem? (i := 3) rfl)) (by decide +kernel) ⟨Nat.le_of_ble_eq_true rfl, Nat.le_of_ble_eq_true rfl⟩, (hts (.static yX5_isOutside) (List.mem_of_getElem? (i := 2) rfl)), trivial⟩ (zpS hK hN hZ hP hD hS hA [] rfl (by decide)) rfl rfl hl.1 rfl (lv_room (Nat.le_of_ble_eq_true rfl)) dX4_find_14 ⟨Nat.zero_le _, Nat.zero_le _⟩) ?_
          refine lv_if_ne (tgt := 51) hx hb dX4_find_17 (by decide) (fun c17_5 => ?_) (fun c17_5 => ?_)
          · have c17_5 := bI_nn0.mp c17_5
            exact absurd (show zrg 0 6 (nI 2) by decide) c17_5
          · have c17_5 := bI_nX0.mp c17_5
            obtain ⟨t_BODIES, hz2a, hz2b⟩ := hZ.2
            refine va_gets hx hb hz2a hS hown (hts (.fieldLink RX4 56 "UpAllRound$Voices" "BODIES" "[I") (List.mem_of_getElem? (i := 1) rfl)) (fun _ h9 => h9) dX4_find_20 ?_
            refine lv_iload_n hx hb dX4_find_23 rfl (lv_at hl 1 rfl) ?_
            refine lv_iconst (v := nI 4) hx hb dX4_find_24 (by decide) ?_
            refine lv_imul hx hb dX4_find_25 ?_
            refine zrw (pk_mul _ _) ?_
            refine lv_iload_n hx hb dX4_find_26 rfl (lv_at hl 4 rfl) ?_
            refine lv_iadd hx hb dX4_find_27 ?_
            refine zrw (nI_add _ _) ?_
            refine zsti (t := 8) hx hb hz2b hS (by omega) dX4_find_28 ?_
            refine zrw (show zBO 8 = nI 0 from rfl) ?_
            refine lv_istore (lv' := [(4, .int (nI 0)), (3, .int (nI (0 + 1))), (2, .int (nI 2)), (0, .int (nI 5)), (1, .int (nI 0))]) hx hb dX4_find_29 hl (by decide) rfl (fun ls hl => ?_)
            refine lv_iload hx hb dX4_find_31 (lv_at hl 0 rfl) ?_
            refine lv_if_eq (tgt := 39) hx hb dX4_find_33 (by decide) (fun c33_6 => ?_) (fun c33_6 => ?_)
            · have c33_6 : 0 = 0 := (nI_eq (a := 0) (b := 0) (by omega) (by omega)).mp c33_6
              obtain ⟨t_KIND_ABOVE, hz1a, hz1b⟩ := hZ.1
              refine zgetsN hx hb hz1a hS hown (va_Nw.use rfl (hN (.fieldLinkNest "UpAllRound$Voices" 59 "UpAllRound" "KIND_ABOVE" "[I" "UpAllRound") (List.mem_of_getElem? (i := 22) rfl))) (fun _ h9 => h9) dX4_find_39 ?_
              refine lv_iload_n hx hb dX4_find_42 rfl (lv_at hl 2 rfl) ?_
              refine zsti (t := 2) hx hb hz1b hS (by omega) dX4_find_43 ?_
              refine zrw (show zKA 2 = nI 0 from rfl) ?_
              refine lv_istore_n (lv' := [(2, .int (nI 0)), (4, .int (nI 0)), (3, .int (nI (0 + 1))), (0, .int (nI 5)), (1, .int (nI 0))]) hx hb dX4_find_44 rfl hl (by decide) rfl (fun ls hl => ?_)
              refine lv_iinc (v := nI (0 + 1 + 1)) (lv' := [(3, .int (nI (0 + 1 + 1))), (2, .int (nI 0)), (4, .int (nI 0)), (0, .int (nI 5)), (1, .int (nI 0))]) hx hb dX4_find_45 hl (k := 2) rfl (nI_add _ _) (by decide) rfl (fun ls hl => ?_)
              refine lv_goto (tgt := 4) hx hb dX4_find_48 (by decide) ?_
              refine lv_iload_n hx hb dX4_find_4 rfl (lv_at hl 0 rfl) ?_
              refine lv_bipush (v := nI 7) hx hb dX4_find_5 (by decide) ?_
              refine lv_icmp_ge (tgt := 51) hx hb dX4_find_7 (by decide) (fun c7_7 => ?_) (fun c7_7 => ?_)
              · have c7_7 : 7 ≤ (0 + 1 + 1) := (nI_leI (a := 7) (b := 0 + 1 + 1) (by omega) (by omega)).mp c7_7
                exact absurd c7_7 (by omega)
              · have c7_7 : ¬ (7 ≤ (0 + 1 + 1)) := fun h9 => c7_7 ((nI_leI (a := 7) (b := 0 + 1 + 1) (by omega) (by omega)).mpr h9)
                refine lv_iload_n hx hb dX4_find_10 rfl (lv_at hl 1 rfl) ?_
                refine lv_iconst (v := nI 0) hx hb dX4_find_11 (by decide) ?_
                refine lv_bipush (v := nI 6) hx hb dX4_find_12 (by decide) ?_
                refine zcsE (va_runSN (As := [.int (nI 0), .int (nI 0), .int (nI 6)]) (rest := []) ⟨hx, hb, hml, hown, hts⟩ (d_X5_isOutside l D cI cJ (nI 0) (nI 0) (nI 6) 0 6 (by decide) (by decide) s.heap.size) ⟨va_cnB 3 hts gX4_find_X5_isOutside_n52 rfl rfl rfl (hN (.methodLinkNest "UpAllRound$Voices" 52 yX5_isOutside "UpAllRound") (List.mem_of_getElem? (i := 61) rfl)) (hts (.initialized RX5) (List.mem_of_getElem? (i := 3) rfl)) (by decide +kernel) ⟨Nat.le_of_ble_eq_true rfl, Nat.le_of_ble_eq_true rfl⟩, (hts (.static yX5_isOutside) (List.mem_of_getElem? (i := 2) rfl)), trivial⟩ (zpS hK hN hZ hP hD hS hA [] rfl (by decide)) rfl rfl hl.1 rfl (lv_room (Nat.le_of_ble_eq_true rfl)) dX4_find_14 ⟨Nat.zero_le _, Nat.zero_le _⟩) ?_
                refine lv_if_ne (tgt := 51) hx hb dX4_find_17 (by decide) (fun c17_8 => ?_) (fun c17_8 => ?_)
                · have c17_8 := bI_nn0.mp c17_8
                  exact absurd (show zrg 0 6 (nI 0) by decide) c17_8
                · have c17_8 := bI_nX0.mp c17_8
                  obtain ⟨t_BODIES, hz2a, hz2b⟩ := hZ.2
                  refine va_gets hx hb hz2a hS hown (hts (.fieldLink RX4 56 "UpAllRound$Voices" "BODIES" "[I") (List.mem_of_getElem? (i := 1) rfl)) (fun _ h9 => h9) dX4_find_20 ?_
                  refine lv_iload_n hx hb dX4_find_23 rfl (lv_at hl 1 rfl) ?_
                  refine lv_iconst (v := nI 4) hx hb dX4_find_24 (by decide) ?_
                  refine lv_imul hx hb dX4_find_25 ?_
                  refine zrw (pk_mul _ _) ?_
                  refine lv_iload_n hx hb dX4_find_26 rfl (lv_at hl 4 rfl) ?_
                  refine lv_iadd hx hb dX4_find_27 ?_
                  refine zrw (nI_add _ _) ?_
                  refine zsti (t := 0) hx hb hz2b hS (by omega) dX4_find_28 ?_
                  refine zrw (show zBO 0 = nI 10 from rfl) ?_
                  refine lv_istore (lv' := [(4, .int (nI 10)), (3, .int (nI (0 + 1 + 1))), (2, .int (nI 0)), (0, .int (nI 5)), (1, .int (nI 0))]) hx hb dX4_find_29 hl (by decide) rfl (fun ls hl => ?_)
                  refine lv_iload hx hb dX4_find_31 (lv_at hl 0 rfl) ?_
                  refine lv_if_eq (tgt := 39) hx hb dX4_find_33 (by decide) (fun c33_9 => ?_) (fun c33_9 => ?_)
                  · have c33_9 : 10 = 0 := (nI_eq (a := 10) (b := 0) (by omega) (by omega)).mp c33_9
                    exact absurd c33_9 (by omega)
                  · have c33_9 : ¬ (10 = 0) := fun h9 => c33_9 ((nI_eq (a := 10) (b := 0) (by omega) (by omega)).mpr h9)
                    refine lv_iload hx hb dX4_find_36 (lv_at hl 0 rfl) ?_
                    exact hret dX4_find_38 rfl (by rfl)
            · have c33_6 : ¬ (0 = 0) := fun h9 => c33_6 ((nI_eq (a := 0) (b := 0) (by omega) (by omega)).mpr h9)
              exact absurd c33_6 (by omega)
      · have c33_3 : ¬ (0 = 0) := fun h9 => c33_3 ((nI_eq (a := 0) (b := 0) (by omega) (by omega)).mpr h9)
        exact absurd c33_3 (by omega)
set_option maxHeartbeats 4000000 in
set_option maxRecDepth 100000 in
theorem c_X4_find_5_1 (l : Launch) (D : va_G) (cI cJ : ClassId)   : zSi l yX4_find wsX4_find ({ frames := 1, cells := 0, slots := 0, locals := 22 } : Room) D [(cI, .int), (cJ, .array .int)] [.int (nI 5), .int (nI 1)] [] (fun r => r = nI 60) := by
  refine zSi.start (cc := cX4_find) (maxL := 5) (rt := .int) (by first | decide | decide +kernel) rfl (Nat.le_of_ble_eq_true rfl) ?_
  intro pg ev s mt args below meth cd ls AA QQ ⟨hx, hb, hml, hr, hlocks, hown, hts, hK, hN, hZ, hP, hD, hA, hS, hl⟩ hret
  have hown : s.vm.findClass RX4 = some mt.cls := hown
  have hl : lv_has ls 5 [(0, .int (nI 5)), (1, .int (nI 1))] := hl
  refine lv_iload_n hx hb dX4_find_0 rfl (lv_at hl 0 rfl) ?_
  refine lv_istore_n (lv' := [(2, .int (nI 5)), (0, .int (nI 5)), (1, .int (nI 1))]) hx hb dX4_find_1 rfl hl (by decide) rfl (fun ls hl => ?_)
  refine lv_iconst (v := nI 0) hx hb dX4_find_2 (by decide) ?_
  refine lv_istore_n (lv' := [(3, .int (nI 0)), (2, .int (nI 5)), (0, .int (nI 5)), (1, .int (nI 1))]) hx hb dX4_find_3 rfl hl (by decide) rfl (fun ls hl => ?_)
  refine lv_iload_n hx hb dX4_find_4 rfl (lv_at hl 0 rfl) ?_
  refine lv_bipush (v := nI 7) hx hb dX4_find_5 (by decide) ?_
  refine lv_icmp_ge (tgt := 51) hx hb dX4_find_7 (by decide) (fun c7_1 => ?_) (fun c7_1 => ?_)
  · have c7_1 : 7 ≤ 0 := (nI_leI (a := 7) (b := 0) (by omega) (by omega)).mp c7_1
    exact absurd c7_1 (by omega)
  · have c7_1 : ¬ (7 ≤ 0) := fun h9 => c7_1 ((nI_leI (a := 7) (b := 0) (by omega) (by omega)).mpr h9)
    refine lv_iload_n hx hb dX4_find_10 rfl (lv_at hl 1 rfl) ?_
    refine lv_iconst (v := nI 0) hx hb dX4_find_11 (by decide) ?_
    refine lv_bipush (v := nI 6) hx hb dX4_find_12 (by decide) ?_
    refine zcsE (va_runSN (As := [.int (nI 5), .int (nI 0), .int (nI 6)]) (rest := []) ⟨hx, hb, hml, hown, hts⟩ (d_X5_isOutside l D cI cJ (nI 5) (nI 0) (nI 6) 0 6 (by decide) (by decide) s.heap.size) ⟨va_cnB 3 hts gX4_find_X5_isOutside_n52 rfl rfl rfl (hN (.methodLinkNest "UpAllRound$Voices" 52 yX5_isOutside "UpAllRound") (List.mem_of_getElem? (i := 61) rfl)) (hts (.initialized RX5) (List.mem_of_getElem? (i := 3) rfl)) (by decide +kernel) ⟨Nat.le_of_ble_eq_true rfl, Nat.le_of_ble_eq_true rfl⟩, (hts (.static yX5_isOutside) (List.mem_of_getElem? (i := 2) rfl)), trivial⟩ (zpS hK hN hZ hP hD hS hA [] rfl (by decide)) rfl rfl hl.1 rfl (lv_room (Nat.le_of_ble_eq_true rfl)) dX4_find_14 ⟨Nat.zero_le _, Nat.zero_le _⟩) ?_
    refine lv_if_ne (tgt := 51) hx hb dX4_find_17 (by decide) (fun c17_2 => ?_) (fun c17_2 => ?_)
    · have c17_2 := bI_nn0.mp c17_2
      exact absurd (show zrg 0 6 (nI 5) by decide) c17_2
    · have c17_2 := bI_nX0.mp c17_2
      obtain ⟨t_BODIES, hz2a, hz2b⟩ := hZ.2
      refine va_gets hx hb hz2a hS hown (hts (.fieldLink RX4 56 "UpAllRound$Voices" "BODIES" "[I") (List.mem_of_getElem? (i := 1) rfl)) (fun _ h9 => h9) dX4_find_20 ?_
      refine lv_iload_n hx hb dX4_find_23 rfl (lv_at hl 1 rfl) ?_
      refine lv_iconst (v := nI 4) hx hb dX4_find_24 (by decide) ?_
      refine lv_imul hx hb dX4_find_25 ?_
      refine zrw (pk_mul _ _) ?_
      refine lv_iload_n hx hb dX4_find_26 rfl (lv_at hl 3 rfl) ?_
      refine lv_iadd hx hb dX4_find_27 ?_
      refine zrw (nI_add _ _) ?_
      refine zsti (t := 21) hx hb hz2b hS (by omega) dX4_find_28 ?_
      refine zrw (show zBO 21 = nI 60 from rfl) ?_
      refine lv_istore (lv' := [(4, .int (nI 60)), (3, .int (nI 0)), (2, .int (nI 5)), (0, .int (nI 5)), (1, .int (nI 1))]) hx hb dX4_find_29 hl (by decide) rfl (fun ls hl => ?_)
      refine lv_iload hx hb dX4_find_31 (lv_at hl 0 rfl) ?_
      refine lv_if_eq (tgt := 39) hx hb dX4_find_33 (by decide) (fun c33_3 => ?_) (fun c33_3 => ?_)
      · have c33_3 : 60 = 0 := (nI_eq (a := 60) (b := 0) (by omega) (by omega)).mp c33_3
        exact absurd c33_3 (by omega)
      · have c33_3 : ¬ (60 = 0) := fun h9 => c33_3 ((nI_eq (a := 60) (b := 0) (by omega) (by omega)).mpr h9)
        refine lv_iload hx hb dX4_find_36 (lv_at hl 0 rfl) ?_
        exact hret dX4_find_38 rfl (by rfl)
set_option maxHeartbeats 4000000 in
set_option maxRecDepth 100000 in
theorem c_X4_find_5_2 (l : Launch) (D : va_G) (cI cJ : ClassId)   : zSi l yX4_find wsX4_find ({ frames := 1, cells := 0, slots := 0, locals := 22 } : Room) D [(cI, .int), (cJ, .array .int)] [.int (nI 5), .int (nI 2)] [] (fun r => r = nI 12) := by
  refine zSi.start (cc := cX4_find) (maxL := 5) (rt := .int) (by first | decide | decide +kernel) rfl (Nat.le_of_ble_eq_true rfl) ?_
  intro pg ev s mt args below meth cd ls AA QQ ⟨hx, hb, hml, hr, hlocks, hown, hts, hK, hN, hZ, hP, hD, hA, hS, hl⟩ hret
  have hown : s.vm.findClass RX4 = some mt.cls := hown
  have hl : lv_has ls 5 [(0, .int (nI 5)), (1, .int (nI 2))] := hl
  refine lv_iload_n hx hb dX4_find_0 rfl (lv_at hl 0 rfl) ?_
  refine lv_istore_n (lv' := [(2, .int (nI 5)), (0, .int (nI 5)), (1, .int (nI 2))]) hx hb dX4_find_1 rfl hl (by decide) rfl (fun ls hl => ?_)
  refine lv_iconst (v := nI 0) hx hb dX4_find_2 (by decide) ?_
  refine lv_istore_n (lv' := [(3, .int (nI 0)), (2, .int (nI 5)), (0, .int (nI 5)), (1, .int (nI 2))]) hx hb dX4_find_3 rfl hl (by decide) rfl (fun ls hl => ?_)
  refine lv_iload_n hx hb dX4_find_4 rfl (lv_at hl 0 rfl) ?_
  refine lv_bipush (v := nI 7) hx hb dX4_find_5 (by decide) ?_
  refine lv_icmp_ge (tgt := 51) hx hb dX4_find_7 (by decide) (fun c7_1 => ?_) (fun c7_1 => ?_)
  · have c7_1 : 7 ≤ 0 := (nI_leI (a := 7) (b := 0) (by omega) (by omega)).mp c7_1
    exact absurd c7_1 (by omega)
  · have c7_1 : ¬ (7 ≤ 0) := fun h9 => c7_1 ((nI_leI (a := 7) (b := 0) (by omega) (by omega)).mpr h9)
    refine lv_iload_n hx hb dX4_find_10 rfl (lv_at hl 1 rfl) ?_
    refine lv_iconst (v := nI 0) hx hb dX4_find_11 (by decide) ?_
    refine lv_bipush (v := nI 6) hx hb dX4_find_12 (by decide) ?_
    refine zcsE (va_runSN (As := [.int (nI 5), .int (nI 0), .int (nI 6)]) (rest := []) ⟨hx, hb, hml, hown, hts⟩ (d_X5_isOutside l D cI cJ (nI 5) (nI 0) (nI 6) 0 6 (by decide) (by decide) s.heap.size) ⟨va_cnB 3 hts gX4_find_X5_isOutside_n52 rfl rfl rfl (hN (.methodLinkNest "UpAllRound$Voices" 52 yX5_isOutside "UpAllRound") (List.mem_of_getElem? (i := 61) rfl)) (hts (.initialized RX5) (List.mem_of_getElem? (i := 3) rfl)) (by decide +kernel) ⟨Nat.le_of_ble_eq_true rfl, Nat.le_of_ble_eq_true rfl⟩, (hts (.static yX5_isOutside) (List.mem_of_getElem? (i := 2) rfl)), trivial⟩ (zpS hK hN hZ hP hD hS hA [] rfl (by decide)) rfl rfl hl.1 rfl (lv_room (Nat.le_of_ble_eq_true rfl)) dX4_find_14 ⟨Nat.zero_le _, Nat.zero_le _⟩) ?_
    refine lv_if_ne (tgt := 51) hx hb dX4_find_17 (by decide) (fun c17_2 => ?_) (fun c17_2 => ?_)
    · have c17_2 := bI_nn0.mp c17_2
      exact absurd (show zrg 0 6 (nI 5) by decide) c17_2
    · have c17_2 := bI_nX0.mp c17_2
      obtain ⟨t_BODIES, hz2a, hz2b⟩ := hZ.2
      refine va_gets hx hb hz2a hS hown (hts (.fieldLink RX4 56 "UpAllRound$Voices" "BODIES" "[I") (List.mem_of_getElem? (i := 1) rfl)) (fun _ h9 => h9) dX4_find_20 ?_
      refine lv_iload_n hx hb dX4_find_23 rfl (lv_at hl 1 rfl) ?_
      refine lv_iconst (v := nI 4) hx hb dX4_find_24 (by decide) ?_
      refine lv_imul hx hb dX4_find_25 ?_
      refine zrw (pk_mul _ _) ?_
      refine lv_iload_n hx hb dX4_find_26 rfl (lv_at hl 3 rfl) ?_
      refine lv_iadd hx hb dX4_find_27 ?_
      refine zrw (nI_add _ _) ?_
      refine zsti (t := 22) hx hb hz2b hS (by omega) dX4_find_28 ?_
      refine zrw (show zBO 22 = nI 0 from rfl) ?_
      refine lv_istore (lv' := [(4, .int (nI 0)), (3, .int (nI 0)), (2, .int (nI 5)), (0, .int (nI 5)), (1, .int (nI 2))]) hx hb dX4_find_29 hl (by decide) rfl (fun ls hl => ?_)
      refine lv_iload hx hb dX4_find_31 (lv_at hl 0 rfl) ?_
      refine lv_if_eq (tgt := 39) hx hb dX4_find_33 (by decide) (fun c33_3 => ?_) (fun c33_3 => ?_)
      · have c33_3 : 0 = 0 := (nI_eq (a := 0) (b := 0) (by omega) (by omega)).mp c33_3
        obtain ⟨t_KIND_ABOVE, hz1a, hz1b⟩ := hZ.1
        refine zgetsN hx hb hz1a hS hown (va_Nw.use rfl (hN (.fieldLinkNest "UpAllRound$Voices" 59 "UpAllRound" "KIND_ABOVE" "[I" "UpAllRound") (List.mem_of_getElem? (i := 22) rfl))) (fun _ h9 => h9) dX4_find_39 ?_
        refine lv_iload_n hx hb dX4_find_42 rfl (lv_at hl 2 rfl) ?_
        refine zsti (t := 5) hx hb hz1b hS (by omega) dX4_find_43 ?_
        refine zrw (show zKA 5 = nI 2 from rfl) ?_
        refine lv_istore_n (lv' := [(2, .int (nI 2)), (4, .int (nI 0)), (3, .int (nI 0)), (0, .int (nI 5)), (1, .int (nI 2))]) hx hb dX4_find_44 rfl hl (by decide) rfl (fun ls hl => ?_)
        refine lv_iinc (v := nI (0 + 1)) (lv' := [(3, .int (nI (0 + 1))), (2, .int (nI 2)), (4, .int (nI 0)), (0, .int (nI 5)), (1, .int (nI 2))]) hx hb dX4_find_45 hl (k := 2) rfl (nI_add _ _) (by decide) rfl (fun ls hl => ?_)
        refine lv_goto (tgt := 4) hx hb dX4_find_48 (by decide) ?_
        refine lv_iload_n hx hb dX4_find_4 rfl (lv_at hl 0 rfl) ?_
        refine lv_bipush (v := nI 7) hx hb dX4_find_5 (by decide) ?_
        refine lv_icmp_ge (tgt := 51) hx hb dX4_find_7 (by decide) (fun c7_4 => ?_) (fun c7_4 => ?_)
        · have c7_4 : 7 ≤ (0 + 1) := (nI_leI (a := 7) (b := 0 + 1) (by omega) (by omega)).mp c7_4
          exact absurd c7_4 (by omega)
        · have c7_4 : ¬ (7 ≤ (0 + 1)) := fun h9 => c7_4 ((nI_leI (a := 7) (b := 0 + 1) (by omega) (by omega)).mpr h9)
          refine lv_iload_n hx hb dX4_find_10 rfl (lv_at hl 1 rfl) ?_
          refine lv_iconst (v := nI 0) hx hb dX4_find_11 (by decide) ?_
          refine lv_bipush (v := nI 6) hx hb dX4_find_12 (by decide) ?_
          refine zcsE (va_runSN (As := [.int (nI 2), .int (nI 0), .int (nI 6)]) (rest := []) ⟨hx, hb, hml, hown, hts⟩ (d_X5_isOutside l D cI cJ (nI 2) (nI 0) (nI 6) 0 6 (by decide) (by decide) s.heap.size) ⟨va_cnB 3 hts gX4_find_X5_isOutside_n52 rfl rfl rfl (hN (.methodLinkNest "UpAllRound$Voices" 52 yX5_isOutside "UpAllRound") (List.mem_of_getElem? (i := 61) rfl)) (hts (.initialized RX5) (List.mem_of_getElem? (i := 3) rfl)) (by decide +kernel) ⟨Nat.le_of_ble_eq_true rfl, Nat.le_of_ble_eq_true rfl⟩, (hts (.static yX5_isOutside) (List.mem_of_getElem? (i := 2) rfl)), trivial⟩ (zpS hK hN hZ hP hD hS hA [] rfl (by decide)) rfl rfl hl.1 rfl (lv_room (Nat.le_of_ble_eq_true rfl)) dX4_find_14 ⟨Nat.zero_le _, Nat.zero_le _⟩) ?_
          refine lv_if_ne (tgt := 51) hx hb dX4_find_17 (by decide) (fun c17_5 => ?_) (fun c17_5 => ?_)
          · have c17_5 := bI_nn0.mp c17_5
            exact absurd (show zrg 0 6 (nI 2) by decide) c17_5
          · have c17_5 := bI_nX0.mp c17_5
            obtain ⟨t_BODIES, hz2a, hz2b⟩ := hZ.2
            refine va_gets hx hb hz2a hS hown (hts (.fieldLink RX4 56 "UpAllRound$Voices" "BODIES" "[I") (List.mem_of_getElem? (i := 1) rfl)) (fun _ h9 => h9) dX4_find_20 ?_
            refine lv_iload_n hx hb dX4_find_23 rfl (lv_at hl 1 rfl) ?_
            refine lv_iconst (v := nI 4) hx hb dX4_find_24 (by decide) ?_
            refine lv_imul hx hb dX4_find_25 ?_
            refine zrw (pk_mul _ _) ?_
            refine lv_iload_n hx hb dX4_find_26 rfl (lv_at hl 4 rfl) ?_
            refine lv_iadd hx hb dX4_find_27 ?_
            refine zrw (nI_add _ _) ?_
            refine zsti (t := 10) hx hb hz2b hS (by omega) dX4_find_28 ?_
            refine zrw (show zBO 10 = nI 0 from rfl) ?_
            refine lv_istore (lv' := [(4, .int (nI 0)), (3, .int (nI (0 + 1))), (2, .int (nI 2)), (0, .int (nI 5)), (1, .int (nI 2))]) hx hb dX4_find_29 hl (by decide) rfl (fun ls hl => ?_)
            refine lv_iload hx hb dX4_find_31 (lv_at hl 0 rfl) ?_
            refine lv_if_eq (tgt := 39) hx hb dX4_find_33 (by decide) (fun c33_6 => ?_) (fun c33_6 => ?_)
            · have c33_6 : 0 = 0 := (nI_eq (a := 0) (b := 0) (by omega) (by omega)).mp c33_6
              obtain ⟨t_KIND_ABOVE, hz1a, hz1b⟩ := hZ.1
              refine zgetsN hx hb hz1a hS hown (va_Nw.use rfl (hN (.fieldLinkNest "UpAllRound$Voices" 59 "UpAllRound" "KIND_ABOVE" "[I" "UpAllRound") (List.mem_of_getElem? (i := 22) rfl))) (fun _ h9 => h9) dX4_find_39 ?_
              refine lv_iload_n hx hb dX4_find_42 rfl (lv_at hl 2 rfl) ?_
              refine zsti (t := 2) hx hb hz1b hS (by omega) dX4_find_43 ?_
              refine zrw (show zKA 2 = nI 0 from rfl) ?_
              refine lv_istore_n (lv' := [(2, .int (nI 0)), (4, .int (nI 0)), (3, .int (nI (0 + 1))), (0, .int (nI 5)), (1, .int (nI 2))]) hx hb dX4_find_44 rfl hl (by decide) rfl (fun ls hl => ?_)
              refine lv_iinc (v := nI (0 + 1 + 1)) (lv' := [(3, .int (nI (0 + 1 + 1))), (2, .int (nI 0)), (4, .int (nI 0)), (0, .int (nI 5)), (1, .int (nI 2))]) hx hb dX4_find_45 hl (k := 2) rfl (nI_add _ _) (by decide) rfl (fun ls hl => ?_)
              refine lv_goto (tgt := 4) hx hb dX4_find_48 (by decide) ?_
              refine lv_iload_n hx hb dX4_find_4 rfl (lv_at hl 0 rfl) ?_
              refine lv_bipush (v := nI 7) hx hb dX4_find_5 (by decide) ?_
              refine lv_icmp_ge (tgt := 51) hx hb dX4_find_7 (by decide) (fun c7_7 => ?_) (fun c7_7 => ?_)
              · have c7_7 : 7 ≤ (0 + 1 + 1) := (nI_leI (a := 7) (b := 0 + 1 + 1) (by omega) (by omega)).mp c7_7
                exact absurd c7_7 (by omega)
              · have c7_7 : ¬ (7 ≤ (0 + 1 + 1)) := fun h9 => c7_7 ((nI_leI (a := 7) (b := 0 + 1 + 1) (by omega) (by omega)).mpr h9)
                refine lv_iload_n hx hb dX4_find_10 rfl (lv_at hl 1 rfl) ?_
                refine lv_iconst (v := nI 0) hx hb dX4_find_11 (by decide) ?_
                refine lv_bipush (v := nI 6) hx hb dX4_find_12 (by decide) ?_
                refine zcsE (va_runSN (As := [.int (nI 0), .int (nI 0), .int (nI 6)]) (rest := []) ⟨hx, hb, hml, hown, hts⟩ (d_X5_isOutside l D cI cJ (nI 0) (nI 0) (nI 6) 0 6 (by decide) (by decide) s.heap.size) ⟨va_cnB 3 hts gX4_find_X5_isOutside_n52 rfl rfl rfl (hN (.methodLinkNest "UpAllRound$Voices" 52 yX5_isOutside "UpAllRound") (List.mem_of_getElem? (i := 61) rfl)) (hts (.initialized RX5) (List.mem_of_getElem? (i := 3) rfl)) (by decide +kernel) ⟨Nat.le_of_ble_eq_true rfl, Nat.le_of_ble_eq_true rfl⟩, (hts (.static yX5_isOutside) (List.mem_of_getElem? (i := 2) rfl)), trivial⟩ (zpS hK hN hZ hP hD hS hA [] rfl (by decide)) rfl rfl hl.1 rfl (lv_room (Nat.le_of_ble_eq_true rfl)) dX4_find_14 ⟨Nat.zero_le _, Nat.zero_le _⟩) ?_
                refine lv_if_ne (tgt := 51) hx hb dX4_find_17 (by decide) (fun c17_8 => ?_) (fun c17_8 => ?_)
                · have c17_8 := bI_nn0.mp c17_8
                  exact absurd (show zrg 0 6 (nI 0) by decide) c17_8
                · have c17_8 := bI_nX0.mp c17_8
                  obtain ⟨t_BODIES, hz2a, hz2b⟩ := hZ.2
                  refine va_gets hx hb hz2a hS hown (hts (.fieldLink RX4 56 "UpAllRound$Voices" "BODIES" "[I") (List.mem_of_getElem? (i := 1) rfl)) (fun _ h9 => h9) dX4_find_20 ?_
                  refine lv_iload_n hx hb dX4_find_23 rfl (lv_at hl 1 rfl) ?_
                  refine lv_iconst (v := nI 4) hx hb dX4_find_24 (by decide) ?_
                  refine lv_imul hx hb dX4_find_25 ?_
                  refine zrw (pk_mul _ _) ?_
                  refine lv_iload_n hx hb dX4_find_26 rfl (lv_at hl 4 rfl) ?_
                  refine lv_iadd hx hb dX4_find_27 ?_
                  refine zrw (nI_add _ _) ?_
                  refine zsti (t := 2) hx hb hz2b hS (by omega) dX4_find_28 ?_
                  refine zrw (show zBO 2 = nI 12 from rfl) ?_
                  refine lv_istore (lv' := [(4, .int (nI 12)), (3, .int (nI (0 + 1 + 1))), (2, .int (nI 0)), (0, .int (nI 5)), (1, .int (nI 2))]) hx hb dX4_find_29 hl (by decide) rfl (fun ls hl => ?_)
                  refine lv_iload hx hb dX4_find_31 (lv_at hl 0 rfl) ?_
                  refine lv_if_eq (tgt := 39) hx hb dX4_find_33 (by decide) (fun c33_9 => ?_) (fun c33_9 => ?_)
                  · have c33_9 : 12 = 0 := (nI_eq (a := 12) (b := 0) (by omega) (by omega)).mp c33_9
                    exact absurd c33_9 (by omega)
                  · have c33_9 : ¬ (12 = 0) := fun h9 => c33_9 ((nI_eq (a := 12) (b := 0) (by omega) (by omega)).mpr h9)
                    refine lv_iload hx hb dX4_find_36 (lv_at hl 0 rfl) ?_
                    exact hret dX4_find_38 rfl (by rfl)
            · have c33_6 : ¬ (0 = 0) := fun h9 => c33_6 ((nI_eq (a := 0) (b := 0) (by omega) (by omega)).mpr h9)
              exact absurd c33_6 (by omega)
      · have c33_3 : ¬ (0 = 0) := fun h9 => c33_3 ((nI_eq (a := 0) (b := 0) (by omega) (by omega)).mpr h9)
        exact absurd c33_3 (by omega)
set_option maxHeartbeats 4000000 in
set_option maxRecDepth 100000 in
theorem c_X4_find_5_3 (l : Launch) (D : va_G) (cI cJ : ClassId)   : zSi l yX4_find wsX4_find ({ frames := 1, cells := 0, slots := 0, locals := 22 } : Room) D [(cI, .int), (cJ, .array .int)] [.int (nI 5), .int (nI 3)] [] (fun r => r = nI 13) := by
  refine zSi.start (cc := cX4_find) (maxL := 5) (rt := .int) (by first | decide | decide +kernel) rfl (Nat.le_of_ble_eq_true rfl) ?_
  intro pg ev s mt args below meth cd ls AA QQ ⟨hx, hb, hml, hr, hlocks, hown, hts, hK, hN, hZ, hP, hD, hA, hS, hl⟩ hret
  have hown : s.vm.findClass RX4 = some mt.cls := hown
  have hl : lv_has ls 5 [(0, .int (nI 5)), (1, .int (nI 3))] := hl
  refine lv_iload_n hx hb dX4_find_0 rfl (lv_at hl 0 rfl) ?_
  refine lv_istore_n (lv' := [(2, .int (nI 5)), (0, .int (nI 5)), (1, .int (nI 3))]) hx hb dX4_find_1 rfl hl (by decide) rfl (fun ls hl => ?_)
  refine lv_iconst (v := nI 0) hx hb dX4_find_2 (by decide) ?_
  refine lv_istore_n (lv' := [(3, .int (nI 0)), (2, .int (nI 5)), (0, .int (nI 5)), (1, .int (nI 3))]) hx hb dX4_find_3 rfl hl (by decide) rfl (fun ls hl => ?_)
  refine lv_iload_n hx hb dX4_find_4 rfl (lv_at hl 0 rfl) ?_
  refine lv_bipush (v := nI 7) hx hb dX4_find_5 (by decide) ?_
  refine lv_icmp_ge (tgt := 51) hx hb dX4_find_7 (by decide) (fun c7_1 => ?_) (fun c7_1 => ?_)
  · have c7_1 : 7 ≤ 0 := (nI_leI (a := 7) (b := 0) (by omega) (by omega)).mp c7_1
    exact absurd c7_1 (by omega)
  · have c7_1 : ¬ (7 ≤ 0) := fun h9 => c7_1 ((nI_leI (a := 7) (b := 0) (by omega) (by omega)).mpr h9)
    refine lv_iload_n hx hb dX4_find_10 rfl (lv_at hl 1 rfl) ?_
    refine lv_iconst (v := nI 0) hx hb dX4_find_11 (by decide) ?_
    refine lv_bipush (v := nI 6) hx hb dX4_find_12 (by decide) ?_
    refine zcsE (va_runSN (As := [.int (nI 5), .int (nI 0), .int (nI 6)]) (rest := []) ⟨hx, hb, hml, hown, hts⟩ (d_X5_isOutside l D cI cJ (nI 5) (nI 0) (nI 6) 0 6 (by decide) (by decide) s.heap.size) ⟨va_cnB 3 hts gX4_find_X5_isOutside_n52 rfl rfl rfl (hN (.methodLinkNest "UpAllRound$Voices" 52 yX5_isOutside "UpAllRound") (List.mem_of_getElem? (i := 61) rfl)) (hts (.initialized RX5) (List.mem_of_getElem? (i := 3) rfl)) (by decide +kernel) ⟨Nat.le_of_ble_eq_true rfl, Nat.le_of_ble_eq_true rfl⟩, (hts (.static yX5_isOutside) (List.mem_of_getElem? (i := 2) rfl)), trivial⟩ (zpS hK hN hZ hP hD hS hA [] rfl (by decide)) rfl rfl hl.1 rfl (lv_room (Nat.le_of_ble_eq_true rfl)) dX4_find_14 ⟨Nat.zero_le _, Nat.zero_le _⟩) ?_
    refine lv_if_ne (tgt := 51) hx hb dX4_find_17 (by decide) (fun c17_2 => ?_) (fun c17_2 => ?_)
    · have c17_2 := bI_nn0.mp c17_2
      exact absurd (show zrg 0 6 (nI 5) by decide) c17_2
    · have c17_2 := bI_nX0.mp c17_2
      obtain ⟨t_BODIES, hz2a, hz2b⟩ := hZ.2
      refine va_gets hx hb hz2a hS hown (hts (.fieldLink RX4 56 "UpAllRound$Voices" "BODIES" "[I") (List.mem_of_getElem? (i := 1) rfl)) (fun _ h9 => h9) dX4_find_20 ?_
      refine lv_iload_n hx hb dX4_find_23 rfl (lv_at hl 1 rfl) ?_
      refine lv_iconst (v := nI 4) hx hb dX4_find_24 (by decide) ?_
      refine lv_imul hx hb dX4_find_25 ?_
      refine zrw (pk_mul _ _) ?_
      refine lv_iload_n hx hb dX4_find_26 rfl (lv_at hl 3 rfl) ?_
      refine lv_iadd hx hb dX4_find_27 ?_
      refine zrw (nI_add _ _) ?_
      refine zsti (t := 23) hx hb hz2b hS (by omega) dX4_find_28 ?_
      refine zrw (show zBO 23 = nI 0 from rfl) ?_
      refine lv_istore (lv' := [(4, .int (nI 0)), (3, .int (nI 0)), (2, .int (nI 5)), (0, .int (nI 5)), (1, .int (nI 3))]) hx hb dX4_find_29 hl (by decide) rfl (fun ls hl => ?_)
      refine lv_iload hx hb dX4_find_31 (lv_at hl 0 rfl) ?_
      refine lv_if_eq (tgt := 39) hx hb dX4_find_33 (by decide) (fun c33_3 => ?_) (fun c33_3 => ?_)
      · have c33_3 : 0 = 0 := (nI_eq (a := 0) (b := 0) (by omega) (by omega)).mp c33_3
        obtain ⟨t_KIND_ABOVE, hz1a, hz1b⟩ := hZ.1
        refine zgetsN hx hb hz1a hS hown (va_Nw.use rfl (hN (.fieldLinkNest "UpAllRound$Voices" 59 "UpAllRound" "KIND_ABOVE" "[I" "UpAllRound") (List.mem_of_getElem? (i := 22) rfl))) (fun _ h9 => h9) dX4_find_39 ?_
        refine lv_iload_n hx hb dX4_find_42 rfl (lv_at hl 2 rfl) ?_
        refine zsti (t := 5) hx hb hz1b hS (by omega) dX4_find_43 ?_
        refine zrw (show zKA 5 = nI 2 from rfl) ?_
        refine lv_istore_n (lv' := [(2, .int (nI 2)), (4, .int (nI 0)), (3, .int (nI 0)), (0, .int (nI 5)), (1, .int (nI 3))]) hx hb dX4_find_44 rfl hl (by decide) rfl (fun ls hl => ?_)
        refine lv_iinc (v := nI (0 + 1)) (lv' := [(3, .int (nI (0 + 1))), (2, .int (nI 2)), (4, .int (nI 0)), (0, .int (nI 5)), (1, .int (nI 3))]) hx hb dX4_find_45 hl (k := 2) rfl (nI_add _ _) (by decide) rfl (fun ls hl => ?_)
        refine lv_goto (tgt := 4) hx hb dX4_find_48 (by decide) ?_
        refine lv_iload_n hx hb dX4_find_4 rfl (lv_at hl 0 rfl) ?_
        refine lv_bipush (v := nI 7) hx hb dX4_find_5 (by decide) ?_
        refine lv_icmp_ge (tgt := 51) hx hb dX4_find_7 (by decide) (fun c7_4 => ?_) (fun c7_4 => ?_)
        · have c7_4 : 7 ≤ (0 + 1) := (nI_leI (a := 7) (b := 0 + 1) (by omega) (by omega)).mp c7_4
          exact absurd c7_4 (by omega)
        · have c7_4 : ¬ (7 ≤ (0 + 1)) := fun h9 => c7_4 ((nI_leI (a := 7) (b := 0 + 1) (by omega) (by omega)).mpr h9)
          refine lv_iload_n hx hb dX4_find_10 rfl (lv_at hl 1 rfl) ?_
          refine lv_iconst (v := nI 0) hx hb dX4_find_11 (by decide) ?_
          refine lv_bipush (v := nI 6) hx hb dX4_find_12 (by decide) ?_
          refine zcsE (va_runSN (As := [.int (nI 2), .int (nI 0), .int (nI 6)]) (rest := []) ⟨hx, hb, hml, hown, hts⟩ (d_X5_isOutside l D cI cJ (nI 2) (nI 0) (nI 6) 0 6 (by decide) (by decide) s.heap.size) ⟨va_cnB 3 hts gX4_find_X5_isOutside_n52 rfl rfl rfl (hN (.methodLinkNest "UpAllRound$Voices" 52 yX5_isOutside "UpAllRound") (List.mem_of_getElem? (i := 61) rfl)) (hts (.initialized RX5) (List.mem_of_getElem? (i := 3) rfl)) (by decide +kernel) ⟨Nat.le_of_ble_eq_true rfl, Nat.le_of_ble_eq_true rfl⟩, (hts (.static yX5_isOutside) (List.mem_of_getElem? (i := 2) rfl)), trivial⟩ (zpS hK hN hZ hP hD hS hA [] rfl (by decide)) rfl rfl hl.1 rfl (lv_room (Nat.le_of_ble_eq_true rfl)) dX4_find_14 ⟨Nat.zero_le _, Nat.zero_le _⟩) ?_
          refine lv_if_ne (tgt := 51) hx hb dX4_find_17 (by decide) (fun c17_5 => ?_) (fun c17_5 => ?_)
          · have c17_5 := bI_nn0.mp c17_5
            exact absurd (show zrg 0 6 (nI 2) by decide) c17_5
          · have c17_5 := bI_nX0.mp c17_5
            obtain ⟨t_BODIES, hz2a, hz2b⟩ := hZ.2
            refine va_gets hx hb hz2a hS hown (hts (.fieldLink RX4 56 "UpAllRound$Voices" "BODIES" "[I") (List.mem_of_getElem? (i := 1) rfl)) (fun _ h9 => h9) dX4_find_20 ?_
            refine lv_iload_n hx hb dX4_find_23 rfl (lv_at hl 1 rfl) ?_
            refine lv_iconst (v := nI 4) hx hb dX4_find_24 (by decide) ?_
            refine lv_imul hx hb dX4_find_25 ?_
            refine zrw (pk_mul _ _) ?_
            refine lv_iload_n hx hb dX4_find_26 rfl (lv_at hl 4 rfl) ?_
            refine lv_iadd hx hb dX4_find_27 ?_
            refine zrw (nI_add _ _) ?_
            refine zsti (t := 11) hx hb hz2b hS (by omega) dX4_find_28 ?_
            refine zrw (show zBO 11 = nI 0 from rfl) ?_
            refine lv_istore (lv' := [(4, .int (nI 0)), (3, .int (nI (0 + 1))), (2, .int (nI 2)), (0, .int (nI 5)), (1, .int (nI 3))]) hx hb dX4_find_29 hl (by decide) rfl (fun ls hl => ?_)
            refine lv_iload hx hb dX4_find_31 (lv_at hl 0 rfl) ?_
            refine lv_if_eq (tgt := 39) hx hb dX4_find_33 (by decide) (fun c33_6 => ?_) (fun c33_6 => ?_)
            · have c33_6 : 0 = 0 := (nI_eq (a := 0) (b := 0) (by omega) (by omega)).mp c33_6
              obtain ⟨t_KIND_ABOVE, hz1a, hz1b⟩ := hZ.1
              refine zgetsN hx hb hz1a hS hown (va_Nw.use rfl (hN (.fieldLinkNest "UpAllRound$Voices" 59 "UpAllRound" "KIND_ABOVE" "[I" "UpAllRound") (List.mem_of_getElem? (i := 22) rfl))) (fun _ h9 => h9) dX4_find_39 ?_
              refine lv_iload_n hx hb dX4_find_42 rfl (lv_at hl 2 rfl) ?_
              refine zsti (t := 2) hx hb hz1b hS (by omega) dX4_find_43 ?_
              refine zrw (show zKA 2 = nI 0 from rfl) ?_
              refine lv_istore_n (lv' := [(2, .int (nI 0)), (4, .int (nI 0)), (3, .int (nI (0 + 1))), (0, .int (nI 5)), (1, .int (nI 3))]) hx hb dX4_find_44 rfl hl (by decide) rfl (fun ls hl => ?_)
              refine lv_iinc (v := nI (0 + 1 + 1)) (lv' := [(3, .int (nI (0 + 1 + 1))), (2, .int (nI 0)), (4, .int (nI 0)), (0, .int (nI 5)), (1, .int (nI 3))]) hx hb dX4_find_45 hl (k := 2) rfl (nI_add _ _) (by decide) rfl (fun ls hl => ?_)
              refine lv_goto (tgt := 4) hx hb dX4_find_48 (by decide) ?_
              refine lv_iload_n hx hb dX4_find_4 rfl (lv_at hl 0 rfl) ?_
              refine lv_bipush (v := nI 7) hx hb dX4_find_5 (by decide) ?_
              refine lv_icmp_ge (tgt := 51) hx hb dX4_find_7 (by decide) (fun c7_7 => ?_) (fun c7_7 => ?_)
              · have c7_7 : 7 ≤ (0 + 1 + 1) := (nI_leI (a := 7) (b := 0 + 1 + 1) (by omega) (by omega)).mp c7_7
                exact absurd c7_7 (by omega)
              · have c7_7 : ¬ (7 ≤ (0 + 1 + 1)) := fun h9 => c7_7 ((nI_leI (a := 7) (b := 0 + 1 + 1) (by omega) (by omega)).mpr h9)
                refine lv_iload_n hx hb dX4_find_10 rfl (lv_at hl 1 rfl) ?_
                refine lv_iconst (v := nI 0) hx hb dX4_find_11 (by decide) ?_
                refine lv_bipush (v := nI 6) hx hb dX4_find_12 (by decide) ?_
                refine zcsE (va_runSN (As := [.int (nI 0), .int (nI 0), .int (nI 6)]) (rest := []) ⟨hx, hb, hml, hown, hts⟩ (d_X5_isOutside l D cI cJ (nI 0) (nI 0) (nI 6) 0 6 (by decide) (by decide) s.heap.size) ⟨va_cnB 3 hts gX4_find_X5_isOutside_n52 rfl rfl rfl (hN (.methodLinkNest "UpAllRound$Voices" 52 yX5_isOutside "UpAllRound") (List.mem_of_getElem? (i := 61) rfl)) (hts (.initialized RX5) (List.mem_of_getElem? (i := 3) rfl)) (by decide +kernel) ⟨Nat.le_of_ble_eq_true rfl, Nat.le_of_ble_eq_true rfl⟩, (hts (.static yX5_isOutside) (List.mem_of_getElem? (i := 2) rfl)), trivial⟩ (zpS hK hN hZ hP hD hS hA [] rfl (by decide)) rfl rfl hl.1 rfl (lv_room (Nat.le_of_ble_eq_true rfl)) dX4_find_14 ⟨Nat.zero_le _, Nat.zero_le _⟩) ?_
                refine lv_if_ne (tgt := 51) hx hb dX4_find_17 (by decide) (fun c17_8 => ?_) (fun c17_8 => ?_)
                · have c17_8 := bI_nn0.mp c17_8
                  exact absurd (show zrg 0 6 (nI 0) by decide) c17_8
                · have c17_8 := bI_nX0.mp c17_8
                  obtain ⟨t_BODIES, hz2a, hz2b⟩ := hZ.2
                  refine va_gets hx hb hz2a hS hown (hts (.fieldLink RX4 56 "UpAllRound$Voices" "BODIES" "[I") (List.mem_of_getElem? (i := 1) rfl)) (fun _ h9 => h9) dX4_find_20 ?_
                  refine lv_iload_n hx hb dX4_find_23 rfl (lv_at hl 1 rfl) ?_
                  refine lv_iconst (v := nI 4) hx hb dX4_find_24 (by decide) ?_
                  refine lv_imul hx hb dX4_find_25 ?_
                  refine zrw (pk_mul _ _) ?_
                  refine lv_iload_n hx hb dX4_find_26 rfl (lv_at hl 4 rfl) ?_
                  refine lv_iadd hx hb dX4_find_27 ?_
                  refine zrw (nI_add _ _) ?_
                  refine zsti (t := 3) hx hb hz2b hS (by omega) dX4_find_28 ?_
                  refine zrw (show zBO 3 = nI 13 from rfl) ?_
                  refine lv_istore (lv' := [(4, .int (nI 13)), (3, .int (nI (0 + 1 + 1))), (2, .int (nI 0)), (0, .int (nI 5)), (1, .int (nI 3))]) hx hb dX4_find_29 hl (by decide) rfl (fun ls hl => ?_)
                  refine lv_iload hx hb dX4_find_31 (lv_at hl 0 rfl) ?_
                  refine lv_if_eq (tgt := 39) hx hb dX4_find_33 (by decide) (fun c33_9 => ?_) (fun c33_9 => ?_)
                  · have c33_9 : 13 = 0 := (nI_eq (a := 13) (b := 0) (by omega) (by omega)).mp c33_9
                    exact absurd c33_9 (by omega)
                  · have c33_9 : ¬ (13 = 0) := fun h9 => c33_9 ((nI_eq (a := 13) (b := 0) (by omega) (by omega)).mpr h9)
                    refine lv_iload hx hb dX4_find_36 (lv_at hl 0 rfl) ?_
                    exact hret dX4_find_38 rfl (by rfl)
            · have c33_6 : ¬ (0 = 0) := fun h9 => c33_6 ((nI_eq (a := 0) (b := 0) (by omega) (by omega)).mpr h9)
              exact absurd c33_6 (by omega)
      · have c33_3 : ¬ (0 = 0) := fun h9 => c33_3 ((nI_eq (a := 0) (b := 0) (by omega) (by omega)).mpr h9)
        exact absurd c33_3 (by omega)
set_option maxHeartbeats 4000000 in
set_option maxRecDepth 100000 in
theorem c_X4_find_6_0 (l : Launch) (D : va_G) (cI cJ : ClassId)   : zSi l yX4_find wsX4_find ({ frames := 1, cells := 0, slots := 0, locals := 22 } : Room) D [(cI, .int), (cJ, .array .int)] [.int (nI 6), .int (nI 0)] [] (fun r => r = nI 70) := by
  refine zSi.start (cc := cX4_find) (maxL := 5) (rt := .int) (by first | decide | decide +kernel) rfl (Nat.le_of_ble_eq_true rfl) ?_
  intro pg ev s mt args below meth cd ls AA QQ ⟨hx, hb, hml, hr, hlocks, hown, hts, hK, hN, hZ, hP, hD, hA, hS, hl⟩ hret
  have hown : s.vm.findClass RX4 = some mt.cls := hown
  have hl : lv_has ls 5 [(0, .int (nI 6)), (1, .int (nI 0))] := hl
  refine lv_iload_n hx hb dX4_find_0 rfl (lv_at hl 0 rfl) ?_
  refine lv_istore_n (lv' := [(2, .int (nI 6)), (0, .int (nI 6)), (1, .int (nI 0))]) hx hb dX4_find_1 rfl hl (by decide) rfl (fun ls hl => ?_)
  refine lv_iconst (v := nI 0) hx hb dX4_find_2 (by decide) ?_
  refine lv_istore_n (lv' := [(3, .int (nI 0)), (2, .int (nI 6)), (0, .int (nI 6)), (1, .int (nI 0))]) hx hb dX4_find_3 rfl hl (by decide) rfl (fun ls hl => ?_)
  refine lv_iload_n hx hb dX4_find_4 rfl (lv_at hl 0 rfl) ?_
  refine lv_bipush (v := nI 7) hx hb dX4_find_5 (by decide) ?_
  refine lv_icmp_ge (tgt := 51) hx hb dX4_find_7 (by decide) (fun c7_1 => ?_) (fun c7_1 => ?_)
  · have c7_1 : 7 ≤ 0 := (nI_leI (a := 7) (b := 0) (by omega) (by omega)).mp c7_1
    exact absurd c7_1 (by omega)
  · have c7_1 : ¬ (7 ≤ 0) := fun h9 => c7_1 ((nI_leI (a := 7) (b := 0) (by omega) (by omega)).mpr h9)
    refine lv_iload_n hx hb dX4_find_10 rfl (lv_at hl 1 rfl) ?_
    refine lv_iconst (v := nI 0) hx hb dX4_find_11 (by decide) ?_
    refine lv_bipush (v := nI 6) hx hb dX4_find_12 (by decide) ?_
    refine zcsE (va_runSN (As := [.int (nI 6), .int (nI 0), .int (nI 6)]) (rest := []) ⟨hx, hb, hml, hown, hts⟩ (d_X5_isOutside l D cI cJ (nI 6) (nI 0) (nI 6) 0 6 (by decide) (by decide) s.heap.size) ⟨va_cnB 3 hts gX4_find_X5_isOutside_n52 rfl rfl rfl (hN (.methodLinkNest "UpAllRound$Voices" 52 yX5_isOutside "UpAllRound") (List.mem_of_getElem? (i := 61) rfl)) (hts (.initialized RX5) (List.mem_of_getElem? (i := 3) rfl)) (by decide +kernel) ⟨Nat.le_of_ble_eq_true rfl, Nat.le_of_ble_eq_true rfl⟩, (hts (.static yX5_isOutside) (List.mem_of_getElem? (i := 2) rfl)), trivial⟩ (zpS hK hN hZ hP hD hS hA [] rfl (by decide)) rfl rfl hl.1 rfl (lv_room (Nat.le_of_ble_eq_true rfl)) dX4_find_14 ⟨Nat.zero_le _, Nat.zero_le _⟩) ?_
    refine lv_if_ne (tgt := 51) hx hb dX4_find_17 (by decide) (fun c17_2 => ?_) (fun c17_2 => ?_)
    · have c17_2 := bI_nn0.mp c17_2
      exact absurd (show zrg 0 6 (nI 6) by decide) c17_2
    · have c17_2 := bI_nX0.mp c17_2
      obtain ⟨t_BODIES, hz2a, hz2b⟩ := hZ.2
      refine va_gets hx hb hz2a hS hown (hts (.fieldLink RX4 56 "UpAllRound$Voices" "BODIES" "[I") (List.mem_of_getElem? (i := 1) rfl)) (fun _ h9 => h9) dX4_find_20 ?_
      refine lv_iload_n hx hb dX4_find_23 rfl (lv_at hl 1 rfl) ?_
      refine lv_iconst (v := nI 4) hx hb dX4_find_24 (by decide) ?_
      refine lv_imul hx hb dX4_find_25 ?_
      refine zrw (pk_mul _ _) ?_
      refine lv_iload_n hx hb dX4_find_26 rfl (lv_at hl 3 rfl) ?_
      refine lv_iadd hx hb dX4_find_27 ?_
      refine zrw (nI_add _ _) ?_
      refine zsti (t := 24) hx hb hz2b hS (by omega) dX4_find_28 ?_
      refine zrw (show zBO 24 = nI 70 from rfl) ?_
      refine lv_istore (lv' := [(4, .int (nI 70)), (3, .int (nI 0)), (2, .int (nI 6)), (0, .int (nI 6)), (1, .int (nI 0))]) hx hb dX4_find_29 hl (by decide) rfl (fun ls hl => ?_)
      refine lv_iload hx hb dX4_find_31 (lv_at hl 0 rfl) ?_
      refine lv_if_eq (tgt := 39) hx hb dX4_find_33 (by decide) (fun c33_3 => ?_) (fun c33_3 => ?_)
      · have c33_3 : 70 = 0 := (nI_eq (a := 70) (b := 0) (by omega) (by omega)).mp c33_3
        exact absurd c33_3 (by omega)
      · have c33_3 : ¬ (70 = 0) := fun h9 => c33_3 ((nI_eq (a := 70) (b := 0) (by omega) (by omega)).mpr h9)
        refine lv_iload hx hb dX4_find_36 (lv_at hl 0 rfl) ?_
        exact hret dX4_find_38 rfl (by rfl)
set_option maxHeartbeats 4000000 in
set_option maxRecDepth 100000 in
theorem c_X4_find_6_1 (l : Launch) (D : va_G) (cI cJ : ClassId)   : zSi l yX4_find wsX4_find ({ frames := 1, cells := 0, slots := 0, locals := 22 } : Room) D [(cI, .int), (cJ, .array .int)] [.int (nI 6), .int (nI 1)] [] (fun r => r = nI 71) := by
  refine zSi.start (cc := cX4_find) (maxL := 5) (rt := .int) (by first | decide | decide +kernel) rfl (Nat.le_of_ble_eq_true rfl) ?_
  intro pg ev s mt args below meth cd ls AA QQ ⟨hx, hb, hml, hr, hlocks, hown, hts, hK, hN, hZ, hP, hD, hA, hS, hl⟩ hret
  have hown : s.vm.findClass RX4 = some mt.cls := hown
  have hl : lv_has ls 5 [(0, .int (nI 6)), (1, .int (nI 1))] := hl
  refine lv_iload_n hx hb dX4_find_0 rfl (lv_at hl 0 rfl) ?_
  refine lv_istore_n (lv' := [(2, .int (nI 6)), (0, .int (nI 6)), (1, .int (nI 1))]) hx hb dX4_find_1 rfl hl (by decide) rfl (fun ls hl => ?_)
  refine lv_iconst (v := nI 0) hx hb dX4_find_2 (by decide) ?_
  refine lv_istore_n (lv' := [(3, .int (nI 0)), (2, .int (nI 6)), (0, .int (nI 6)), (1, .int (nI 1))]) hx hb dX4_find_3 rfl hl (by decide) rfl (fun ls hl => ?_)
  refine lv_iload_n hx hb dX4_find_4 rfl (lv_at hl 0 rfl) ?_
  refine lv_bipush (v := nI 7) hx hb dX4_find_5 (by decide) ?_
  refine lv_icmp_ge (tgt := 51) hx hb dX4_find_7 (by decide) (fun c7_1 => ?_) (fun c7_1 => ?_)
  · have c7_1 : 7 ≤ 0 := (nI_leI (a := 7) (b := 0) (by omega) (by omega)).mp c7_1
    exact absurd c7_1 (by omega)
  · have c7_1 : ¬ (7 ≤ 0) := fun h9 => c7_1 ((nI_leI (a := 7) (b := 0) (by omega) (by omega)).mpr h9)
    refine lv_iload_n hx hb dX4_find_10 rfl (lv_at hl 1 rfl) ?_
    refine lv_iconst (v := nI 0) hx hb dX4_find_11 (by decide) ?_
    refine lv_bipush (v := nI 6) hx hb dX4_find_12 (by decide) ?_
    refine zcsE (va_runSN (As := [.int (nI 6), .int (nI 0), .int (nI 6)]) (rest := []) ⟨hx, hb, hml, hown, hts⟩ (d_X5_isOutside l D cI cJ (nI 6) (nI 0) (nI 6) 0 6 (by decide) (by decide) s.heap.size) ⟨va_cnB 3 hts gX4_find_X5_isOutside_n52 rfl rfl rfl (hN (.methodLinkNest "UpAllRound$Voices" 52 yX5_isOutside "UpAllRound") (List.mem_of_getElem? (i := 61) rfl)) (hts (.initialized RX5) (List.mem_of_getElem? (i := 3) rfl)) (by decide +kernel) ⟨Nat.le_of_ble_eq_true rfl, Nat.le_of_ble_eq_true rfl⟩, (hts (.static yX5_isOutside) (List.mem_of_getElem? (i := 2) rfl)), trivial⟩ (zpS hK hN hZ hP hD hS hA [] rfl (by decide)) rfl rfl hl.1 rfl (lv_room (Nat.le_of_ble_eq_true rfl)) dX4_find_14 ⟨Nat.zero_le _, Nat.zero_le _⟩) ?_
    refine lv_if_ne (tgt := 51) hx hb dX4_find_17 (by decide) (fun c17_2 => ?_) (fun c17_2 => ?_)
    · have c17_2 := bI_nn0.mp c17_2
      exact absurd (show zrg 0 6 (nI 6) by decide) c17_2
    · have c17_2 := bI_nX0.mp c17_2
      obtain ⟨t_BODIES, hz2a, hz2b⟩ := hZ.2
      refine va_gets hx hb hz2a hS hown (hts (.fieldLink RX4 56 "UpAllRound$Voices" "BODIES" "[I") (List.mem_of_getElem? (i := 1) rfl)) (fun _ h9 => h9) dX4_find_20 ?_
      refine lv_iload_n hx hb dX4_find_23 rfl (lv_at hl 1 rfl) ?_
      refine lv_iconst (v := nI 4) hx hb dX4_find_24 (by decide) ?_
      refine lv_imul hx hb dX4_find_25 ?_
      refine zrw (pk_mul _ _) ?_
      refine lv_iload_n hx hb dX4_find_26 rfl (lv_at hl 3 rfl) ?_
      refine lv_iadd hx hb dX4_find_27 ?_
      refine zrw (nI_add _ _) ?_
      refine zsti (t := 25) hx hb hz2b hS (by omega) dX4_find_28 ?_
      refine zrw (show zBO 25 = nI 71 from rfl) ?_
      refine lv_istore (lv' := [(4, .int (nI 71)), (3, .int (nI 0)), (2, .int (nI 6)), (0, .int (nI 6)), (1, .int (nI 1))]) hx hb dX4_find_29 hl (by decide) rfl (fun ls hl => ?_)
      refine lv_iload hx hb dX4_find_31 (lv_at hl 0 rfl) ?_
      refine lv_if_eq (tgt := 39) hx hb dX4_find_33 (by decide) (fun c33_3 => ?_) (fun c33_3 => ?_)
      · have c33_3 : 71 = 0 := (nI_eq (a := 71) (b := 0) (by omega) (by omega)).mp c33_3
        exact absurd c33_3 (by omega)
      · have c33_3 : ¬ (71 = 0) := fun h9 => c33_3 ((nI_eq (a := 71) (b := 0) (by omega) (by omega)).mpr h9)
        refine lv_iload hx hb dX4_find_36 (lv_at hl 0 rfl) ?_
        exact hret dX4_find_38 rfl (by rfl)
set_option maxHeartbeats 4000000 in
set_option maxRecDepth 100000 in
theorem c_X4_find_6_2 (l : Launch) (D : va_G) (cI cJ : ClassId)   : zSi l yX4_find wsX4_find ({ frames := 1, cells := 0, slots := 0, locals := 22 } : Room) D [(cI, .int), (cJ, .array .int)] [.int (nI 6), .int (nI 2)] [] (fun r => r = nI 12) := by
  refine zSi.start (cc := cX4_find) (maxL := 5) (rt := .int) (by first | decide | decide +kernel) rfl (Nat.le_of_ble_eq_true rfl) ?_
  intro pg ev s mt args below meth cd ls AA QQ ⟨hx, hb, hml, hr, hlocks, hown, hts, hK, hN, hZ, hP, hD, hA, hS, hl⟩ hret
  have hown : s.vm.findClass RX4 = some mt.cls := hown
  have hl : lv_has ls 5 [(0, .int (nI 6)), (1, .int (nI 2))] := hl
  refine lv_iload_n hx hb dX4_find_0 rfl (lv_at hl 0 rfl) ?_
  refine lv_istore_n (lv' := [(2, .int (nI 6)), (0, .int (nI 6)), (1, .int (nI 2))]) hx hb dX4_find_1 rfl hl (by decide) rfl (fun ls hl => ?_)
  refine lv_iconst (v := nI 0) hx hb dX4_find_2 (by decide) ?_
  refine lv_istore_n (lv' := [(3, .int (nI 0)), (2, .int (nI 6)), (0, .int (nI 6)), (1, .int (nI 2))]) hx hb dX4_find_3 rfl hl (by decide) rfl (fun ls hl => ?_)
  refine lv_iload_n hx hb dX4_find_4 rfl (lv_at hl 0 rfl) ?_
  refine lv_bipush (v := nI 7) hx hb dX4_find_5 (by decide) ?_
  refine lv_icmp_ge (tgt := 51) hx hb dX4_find_7 (by decide) (fun c7_1 => ?_) (fun c7_1 => ?_)
  · have c7_1 : 7 ≤ 0 := (nI_leI (a := 7) (b := 0) (by omega) (by omega)).mp c7_1
    exact absurd c7_1 (by omega)
  · have c7_1 : ¬ (7 ≤ 0) := fun h9 => c7_1 ((nI_leI (a := 7) (b := 0) (by omega) (by omega)).mpr h9)
    refine lv_iload_n hx hb dX4_find_10 rfl (lv_at hl 1 rfl) ?_
    refine lv_iconst (v := nI 0) hx hb dX4_find_11 (by decide) ?_
    refine lv_bipush (v := nI 6) hx hb dX4_find_12 (by decide) ?_
    refine zcsE (va_runSN (As := [.int (nI 6), .int (nI 0), .int (nI 6)]) (rest := []) ⟨hx, hb, hml, hown, hts⟩ (d_X5_isOutside l D cI cJ (nI 6) (nI 0) (nI 6) 0 6 (by decide) (by decide) s.heap.size) ⟨va_cnB 3 hts gX4_find_X5_isOutside_n52 rfl rfl rfl (hN (.methodLinkNest "UpAllRound$Voices" 52 yX5_isOutside "UpAllRound") (List.mem_of_getElem? (i := 61) rfl)) (hts (.initialized RX5) (List.mem_of_getElem? (i := 3) rfl)) (by decide +kernel) ⟨Nat.le_of_ble_eq_true rfl, Nat.le_of_ble_eq_true rfl⟩, (hts (.static yX5_isOutside) (List.mem_of_getElem? (i := 2) rfl)), trivial⟩ (zpS hK hN hZ hP hD hS hA [] rfl (by decide)) rfl rfl hl.1 rfl (lv_room (Nat.le_of_ble_eq_true rfl)) dX4_find_14 ⟨Nat.zero_le _, Nat.zero_le _⟩) ?_
    refine lv_if_ne (tgt := 51) hx hb dX4_find_17 (by decide) (fun c17_2 => ?_) (fun c17_2 => ?_)
    · have c17_2 := bI_nn0.mp c17_2
      exact absurd (show zrg 0 6 (nI 6) by decide) c17_2
    · have c17_2 := bI_nX0.mp c17_2
      obtain ⟨t_BODIES, hz2a, hz2b⟩ := hZ.2
      refine va_gets hx hb hz2a hS hown (hts (.fieldLink RX4 56 "UpAllRound$Voices" "BODIES" "[I") (List.mem_of_getElem? (i := 1) rfl)) (fun _ h9 => h9) dX4_find_20 ?_
      refine lv_iload_n hx hb dX4_find_23 rfl (lv_at hl 1 rfl) ?_
      refine lv_iconst (v := nI 4) hx hb dX4_find_24 (by decide) ?_
      refine lv_imul hx hb dX4_find_25 ?_
      refine zrw (pk_mul _ _) ?_
      refine lv_iload_n hx hb dX4_find_26 rfl (lv_at hl 3 rfl) ?_
      refine lv_iadd hx hb dX4_find_27 ?_
      refine zrw (nI_add _ _) ?_
      refine zsti (t := 26) hx hb hz2b hS (by omega) dX4_find_28 ?_
      refine zrw (show zBO 26 = nI 0 from rfl) ?_
      refine lv_istore (lv' := [(4, .int (nI 0)), (3, .int (nI 0)), (2, .int (nI 6)), (0, .int (nI 6)), (1, .int (nI 2))]) hx hb dX4_find_29 hl (by decide) rfl (fun ls hl => ?_)
      refine lv_iload hx hb dX4_find_31 (lv_at hl 0 rfl) ?_
      refine lv_if_eq (tgt := 39) hx hb dX4_find_33 (by decide) (fun c33_3 => ?_) (fun c33_3 => ?_)
      · have c33_3 : 0 = 0 := (nI_eq (a := 0) (b := 0) (by omega) (by omega)).mp c33_3
        obtain ⟨t_KIND_ABOVE, hz1a, hz1b⟩ := hZ.1
        refine zgetsN hx hb hz1a hS hown (va_Nw.use rfl (hN (.fieldLinkNest "UpAllRound$Voices" 59 "UpAllRound" "KIND_ABOVE" "[I" "UpAllRound") (List.mem_of_getElem? (i := 22) rfl))) (fun _ h9 => h9) dX4_find_39 ?_
        refine lv_iload_n hx hb dX4_find_42 rfl (lv_at hl 2 rfl) ?_
        refine zsti (t := 6) hx hb hz1b hS (by omega) dX4_find_43 ?_
        refine zrw (show zKA 6 = nI 0 from rfl) ?_
        refine lv_istore_n (lv' := [(2, .int (nI 0)), (4, .int (nI 0)), (3, .int (nI 0)), (0, .int (nI 6)), (1, .int (nI 2))]) hx hb dX4_find_44 rfl hl (by decide) rfl (fun ls hl => ?_)
        refine lv_iinc (v := nI (0 + 1)) (lv' := [(3, .int (nI (0 + 1))), (2, .int (nI 0)), (4, .int (nI 0)), (0, .int (nI 6)), (1, .int (nI 2))]) hx hb dX4_find_45 hl (k := 2) rfl (nI_add _ _) (by decide) rfl (fun ls hl => ?_)
        refine lv_goto (tgt := 4) hx hb dX4_find_48 (by decide) ?_
        refine lv_iload_n hx hb dX4_find_4 rfl (lv_at hl 0 rfl) ?_
        refine lv_bipush (v := nI 7) hx hb dX4_find_5 (by decide) ?_
        refine lv_icmp_ge (tgt := 51) hx hb dX4_find_7 (by decide) (fun c7_4 => ?_) (fun c7_4 => ?_)
        · have c7_4 : 7 ≤ (0 + 1) := (nI_leI (a := 7) (b := 0 + 1) (by omega) (by omega)).mp c7_4
          exact absurd c7_4 (by omega)
        · have c7_4 : ¬ (7 ≤ (0 + 1)) := fun h9 => c7_4 ((nI_leI (a := 7) (b := 0 + 1) (by omega) (by omega)).mpr h9)
          refine lv_iload_n hx hb dX4_find_10 rfl (lv_at hl 1 rfl) ?_
          refine lv_iconst (v := nI 0) hx hb dX4_find_11 (by decide) ?_
          refine lv_bipush (v := nI 6) hx hb dX4_find_12 (by decide) ?_
          refine zcsE (va_runSN (As := [.int (nI 0), .int (nI 0), .int (nI 6)]) (rest := []) ⟨hx, hb, hml, hown, hts⟩ (d_X5_isOutside l D cI cJ (nI 0) (nI 0) (nI 6) 0 6 (by decide) (by decide) s.heap.size) ⟨va_cnB 3 hts gX4_find_X5_isOutside_n52 rfl rfl rfl (hN (.methodLinkNest "UpAllRound$Voices" 52 yX5_isOutside "UpAllRound") (List.mem_of_getElem? (i := 61) rfl)) (hts (.initialized RX5) (List.mem_of_getElem? (i := 3) rfl)) (by decide +kernel) ⟨Nat.le_of_ble_eq_true rfl, Nat.le_of_ble_eq_true rfl⟩, (hts (.static yX5_isOutside) (List.mem_of_getElem? (i := 2) rfl)), trivial⟩ (zpS hK hN hZ hP hD hS hA [] rfl (by decide)) rfl rfl hl.1 rfl (lv_room (Nat.le_of_ble_eq_true rfl)) dX4_find_14 ⟨Nat.zero_le _, Nat.zero_le _⟩) ?_
          refine lv_if_ne (tgt := 51) hx hb dX4_find_17 (by decide) (fun c17_5 => ?_) (fun c17_5 => ?_)
          · have c17_5 := bI_nn0.mp c17_5
            exact absurd (show zrg 0 6 (nI 0) by decide) c17_5
          · have c17_5 := bI_nX0.mp c17_5
            obtain ⟨t_BODIES, hz2a, hz2b⟩ := hZ.2
            refine va_gets hx hb hz2a hS hown (hts (.fieldLink RX4 56 "UpAllRound$Voices" "BODIES" "[I") (List.mem_of_getElem? (i := 1) rfl)) (fun _ h9 => h9) dX4_find_20 ?_
            refine lv_iload_n hx hb dX4_find_23 rfl (lv_at hl 1 rfl) ?_
            refine lv_iconst (v := nI 4) hx hb dX4_find_24 (by decide) ?_
            refine lv_imul hx hb dX4_find_25 ?_
            refine zrw (pk_mul _ _) ?_
            refine lv_iload_n hx hb dX4_find_26 rfl (lv_at hl 4 rfl) ?_
            refine lv_iadd hx hb dX4_find_27 ?_
            refine zrw (nI_add _ _) ?_
            refine zsti (t := 2) hx hb hz2b hS (by omega) dX4_find_28 ?_
            refine zrw (show zBO 2 = nI 12 from rfl) ?_
            refine lv_istore (lv' := [(4, .int (nI 12)), (3, .int (nI (0 + 1))), (2, .int (nI 0)), (0, .int (nI 6)), (1, .int (nI 2))]) hx hb dX4_find_29 hl (by decide) rfl (fun ls hl => ?_)
            refine lv_iload hx hb dX4_find_31 (lv_at hl 0 rfl) ?_
            refine lv_if_eq (tgt := 39) hx hb dX4_find_33 (by decide) (fun c33_6 => ?_) (fun c33_6 => ?_)
            · have c33_6 : 12 = 0 := (nI_eq (a := 12) (b := 0) (by omega) (by omega)).mp c33_6
              exact absurd c33_6 (by omega)
            · have c33_6 : ¬ (12 = 0) := fun h9 => c33_6 ((nI_eq (a := 12) (b := 0) (by omega) (by omega)).mpr h9)
              refine lv_iload hx hb dX4_find_36 (lv_at hl 0 rfl) ?_
              exact hret dX4_find_38 rfl (by rfl)
      · have c33_3 : ¬ (0 = 0) := fun h9 => c33_3 ((nI_eq (a := 0) (b := 0) (by omega) (by omega)).mpr h9)
        exact absurd c33_3 (by omega)
set_option maxHeartbeats 4000000 in
set_option maxRecDepth 100000 in
theorem c_X4_find_6_3 (l : Launch) (D : va_G) (cI cJ : ClassId)   : zSi l yX4_find wsX4_find ({ frames := 1, cells := 0, slots := 0, locals := 22 } : Room) D [(cI, .int), (cJ, .array .int)] [.int (nI 6), .int (nI 3)] [] (fun r => r = nI 13) := by
  refine zSi.start (cc := cX4_find) (maxL := 5) (rt := .int) (by first | decide | decide +kernel) rfl (Nat.le_of_ble_eq_true rfl) ?_
  intro pg ev s mt args below meth cd ls AA QQ ⟨hx, hb, hml, hr, hlocks, hown, hts, hK, hN, hZ, hP, hD, hA, hS, hl⟩ hret
  have hown : s.vm.findClass RX4 = some mt.cls := hown
  have hl : lv_has ls 5 [(0, .int (nI 6)), (1, .int (nI 3))] := hl
  refine lv_iload_n hx hb dX4_find_0 rfl (lv_at hl 0 rfl) ?_
  refine lv_istore_n (lv' := [(2, .int (nI 6)), (0, .int (nI 6)), (1, .int (nI 3))]) hx hb dX4_find_1 rfl hl (by decide) rfl (fun ls hl => ?_)
  refine lv_iconst (v := nI 0) hx hb dX4_find_2 (by decide) ?_
  refine lv_istore_n (lv' := [(3, .int (nI 0)), (2, .int (nI 6)), (0, .int (nI 6)), (1, .int (nI 3))]) hx hb dX4_find_3 rfl hl (by decide) rfl (fun ls hl => ?_)
  refine lv_iload_n hx hb dX4_find_4 rfl (lv_at hl 0 rfl) ?_
  refine lv_bipush (v := nI 7) hx hb dX4_find_5 (by decide) ?_
  refine lv_icmp_ge (tgt := 51) hx hb dX4_find_7 (by decide) (fun c7_1 => ?_) (fun c7_1 => ?_)
  · have c7_1 : 7 ≤ 0 := (nI_leI (a := 7) (b := 0) (by omega) (by omega)).mp c7_1
    exact absurd c7_1 (by omega)
  · have c7_1 : ¬ (7 ≤ 0) := fun h9 => c7_1 ((nI_leI (a := 7) (b := 0) (by omega) (by omega)).mpr h9)
    refine lv_iload_n hx hb dX4_find_10 rfl (lv_at hl 1 rfl) ?_
    refine lv_iconst (v := nI 0) hx hb dX4_find_11 (by decide) ?_
    refine lv_bipush (v := nI 6) hx hb dX4_find_12 (by decide) ?_
    refine zcsE (va_runSN (As := [.int (nI 6), .int (nI 0), .int (nI 6)]) (rest := []) ⟨hx, hb, hml, hown, hts⟩ (d_X5_isOutside l D cI cJ (nI 6) (nI 0) (nI 6) 0 6 (by decide) (by decide) s.heap.size) ⟨va_cnB 3 hts gX4_find_X5_isOutside_n52 rfl rfl rfl (hN (.methodLinkNest "UpAllRound$Voices" 52 yX5_isOutside "UpAllRound") (List.mem_of_getElem? (i := 61) rfl)) (hts (.initialized RX5) (List.mem_of_getElem? (i := 3) rfl)) (by decide +kernel) ⟨Nat.le_of_ble_eq_true rfl, Nat.le_of_ble_eq_true rfl⟩, (hts (.static yX5_isOutside) (List.mem_of_getElem? (i := 2) rfl)), trivial⟩ (zpS hK hN hZ hP hD hS hA [] rfl (by decide)) rfl rfl hl.1 rfl (lv_room (Nat.le_of_ble_eq_true rfl)) dX4_find_14 ⟨Nat.zero_le _, Nat.zero_le _⟩) ?_
    refine lv_if_ne (tgt := 51) hx hb dX4_find_17 (by decide) (fun c17_2 => ?_) (fun c17_2 => ?_)
    · have c17_2 := bI_nn0.mp c17_2
      exact absurd (show zrg 0 6 (nI 6) by decide) c17_2
    · have c17_2 := bI_nX0.mp c17_2
      obtain ⟨t_BODIES, hz2a, hz2b⟩ := hZ.2
      refine va_gets hx hb hz2a hS hown (hts (.fieldLink RX4 56 "UpAllRound$Voices" "BODIES" "[I") (List.mem_of_getElem? (i := 1) rfl)) (fun _ h9 => h9) dX4_find_20 ?_
      refine lv_iload_n hx hb dX4_find_23 rfl (lv_at hl 1 rfl) ?_
      refine lv_iconst (v := nI 4) hx hb dX4_find_24 (by decide) ?_
      refine lv_imul hx hb dX4_find_25 ?_
      refine zrw (pk_mul _ _) ?_
      refine lv_iload_n hx hb dX4_find_26 rfl (lv_at hl 3 rfl) ?_
      refine lv_iadd hx hb dX4_find_27 ?_
      refine zrw (nI_add _ _) ?_
      refine zsti (t := 27) hx hb hz2b hS (by omega) dX4_find_28 ?_
      refine zrw (show zBO 27 = nI 0 from rfl) ?_
      refine lv_istore (lv' := [(4, .int (nI 0)), (3, .int (nI 0)), (2, .int (nI 6)), (0, .int (nI 6)), (1, .int (nI 3))]) hx hb dX4_find_29 hl (by decide) rfl (fun ls hl => ?_)
      refine lv_iload hx hb dX4_find_31 (lv_at hl 0 rfl) ?_
      refine lv_if_eq (tgt := 39) hx hb dX4_find_33 (by decide) (fun c33_3 => ?_) (fun c33_3 => ?_)
      · have c33_3 : 0 = 0 := (nI_eq (a := 0) (b := 0) (by omega) (by omega)).mp c33_3
        obtain ⟨t_KIND_ABOVE, hz1a, hz1b⟩ := hZ.1
        refine zgetsN hx hb hz1a hS hown (va_Nw.use rfl (hN (.fieldLinkNest "UpAllRound$Voices" 59 "UpAllRound" "KIND_ABOVE" "[I" "UpAllRound") (List.mem_of_getElem? (i := 22) rfl))) (fun _ h9 => h9) dX4_find_39 ?_
        refine lv_iload_n hx hb dX4_find_42 rfl (lv_at hl 2 rfl) ?_
        refine zsti (t := 6) hx hb hz1b hS (by omega) dX4_find_43 ?_
        refine zrw (show zKA 6 = nI 0 from rfl) ?_
        refine lv_istore_n (lv' := [(2, .int (nI 0)), (4, .int (nI 0)), (3, .int (nI 0)), (0, .int (nI 6)), (1, .int (nI 3))]) hx hb dX4_find_44 rfl hl (by decide) rfl (fun ls hl => ?_)
        refine lv_iinc (v := nI (0 + 1)) (lv' := [(3, .int (nI (0 + 1))), (2, .int (nI 0)), (4, .int (nI 0)), (0, .int (nI 6)), (1, .int (nI 3))]) hx hb dX4_find_45 hl (k := 2) rfl (nI_add _ _) (by decide) rfl (fun ls hl => ?_)
        refine lv_goto (tgt := 4) hx hb dX4_find_48 (by decide) ?_
        refine lv_iload_n hx hb dX4_find_4 rfl (lv_at hl 0 rfl) ?_
        refine lv_bipush (v := nI 7) hx hb dX4_find_5 (by decide) ?_
        refine lv_icmp_ge (tgt := 51) hx hb dX4_find_7 (by decide) (fun c7_4 => ?_) (fun c7_4 => ?_)
        · have c7_4 : 7 ≤ (0 + 1) := (nI_leI (a := 7) (b := 0 + 1) (by omega) (by omega)).mp c7_4
          exact absurd c7_4 (by omega)
        · have c7_4 : ¬ (7 ≤ (0 + 1)) := fun h9 => c7_4 ((nI_leI (a := 7) (b := 0 + 1) (by omega) (by omega)).mpr h9)
          refine lv_iload_n hx hb dX4_find_10 rfl (lv_at hl 1 rfl) ?_
          refine lv_iconst (v := nI 0) hx hb dX4_find_11 (by decide) ?_
          refine lv_bipush (v := nI 6) hx hb dX4_find_12 (by decide) ?_
          refine zcsE (va_runSN (As := [.int (nI 0), .int (nI 0), .int (nI 6)]) (rest := []) ⟨hx, hb, hml, hown, hts⟩ (d_X5_isOutside l D cI cJ (nI 0) (nI 0) (nI 6) 0 6 (by decide) (by decide) s.heap.size) ⟨va_cnB 3 hts gX4_find_X5_isOutside_n52 rfl rfl rfl (hN (.methodLinkNest "UpAllRound$Voices" 52 yX5_isOutside "UpAllRound") (List.mem_of_getElem? (i := 61) rfl)) (hts (.initialized RX5) (List.mem_of_getElem? (i := 3) rfl)) (by decide +kernel) ⟨Nat.le_of_ble_eq_true rfl, Nat.le_of_ble_eq_true rfl⟩, (hts (.static yX5_isOutside) (List.mem_of_getElem? (i := 2) rfl)), trivial⟩ (zpS hK hN hZ hP hD hS hA [] rfl (by decide)) rfl rfl hl.1 rfl (lv_room (Nat.le_of_ble_eq_true rfl)) dX4_find_14 ⟨Nat.zero_le _, Nat.zero_le _⟩) ?_
          refine lv_if_ne (tgt := 51) hx hb dX4_find_17 (by decide) (fun c17_5 => ?_) (fun c17_5 => ?_)
          · have c17_5 := bI_nn0.mp c17_5
            exact absurd (show zrg 0 6 (nI 0) by decide) c17_5
          · have c17_5 := bI_nX0.mp c17_5
            obtain ⟨t_BODIES, hz2a, hz2b⟩ := hZ.2
            refine va_gets hx hb hz2a hS hown (hts (.fieldLink RX4 56 "UpAllRound$Voices" "BODIES" "[I") (List.mem_of_getElem? (i := 1) rfl)) (fun _ h9 => h9) dX4_find_20 ?_
            refine lv_iload_n hx hb dX4_find_23 rfl (lv_at hl 1 rfl) ?_
            refine lv_iconst (v := nI 4) hx hb dX4_find_24 (by decide) ?_
            refine lv_imul hx hb dX4_find_25 ?_
            refine zrw (pk_mul _ _) ?_
            refine lv_iload_n hx hb dX4_find_26 rfl (lv_at hl 4 rfl) ?_
            refine lv_iadd hx hb dX4_find_27 ?_
            refine zrw (nI_add _ _) ?_
            refine zsti (t := 3) hx hb hz2b hS (by omega) dX4_find_28 ?_
            refine zrw (show zBO 3 = nI 13 from rfl) ?_
            refine lv_istore (lv' := [(4, .int (nI 13)), (3, .int (nI (0 + 1))), (2, .int (nI 0)), (0, .int (nI 6)), (1, .int (nI 3))]) hx hb dX4_find_29 hl (by decide) rfl (fun ls hl => ?_)
            refine lv_iload hx hb dX4_find_31 (lv_at hl 0 rfl) ?_
            refine lv_if_eq (tgt := 39) hx hb dX4_find_33 (by decide) (fun c33_6 => ?_) (fun c33_6 => ?_)
            · have c33_6 : 13 = 0 := (nI_eq (a := 13) (b := 0) (by omega) (by omega)).mp c33_6
              exact absurd c33_6 (by omega)
            · have c33_6 : ¬ (13 = 0) := fun h9 => c33_6 ((nI_eq (a := 13) (b := 0) (by omega) (by omega)).mpr h9)
              refine lv_iload hx hb dX4_find_36 (lv_at hl 0 rfl) ?_
              exact hret dX4_find_38 rfl (by rfl)
      · have c33_3 : ¬ (0 = 0) := fun h9 => c33_3 ((nI_eq (a := 0) (b := 0) (by omega) (by omega)).mpr h9)
        exact absurd c33_3 (by omega)
