
def zo_body (S E T : Nat → Int32) (tn : Nat) (i : Int32) : zOut := if zin i tn then (T i.toNatClampNeg, S, E) else zerrE 2 S E
def zpants (kd sp : Nat) (x : Int32) : Int32 := match kd with
  | 1 => x + nI sp - nI 4
  | 4 => (x + nI sp - nI 4) * nI 3
  | 6 => nI 9
  | _ => x + nI sp
set_option maxHeartbeats 4000000 in
set_option maxRecDepth 100000 in
theorem c_X6_body (l : Launch) (D : va_G) (cI cJ : ClassId) (h : Nat) (hE : Nat) (fs : List Value) (S : Nat → Int32) (E : Nat → Int32) (hT9 : Nat) (T : Nat → Int32) (tn : Nat) (i : Int32) (hf4 : fs[4]? = some (.ref hE)) (hf12 : fs[12]? = some (.int (nI tn))) (hf13 : fs[13]? = some (.ref hT9)) (htn : tn ≤ 30) : zMi l yX6_body wsX6_body ({ frames := 1, cells := 0, slots := 0, locals := 22 } : Room) D [(cI, .int), (cJ, .array .int)] [.ref h, .int i] [(h, .inr (6, fs)), (hE, .inl (cI, 7, .inl E)), (hT9, .inl (cI, 30, .inl T))] (fun r w => r = (zo_body S E T tn i).1 ∧ w = [(h, .inr (6, fs)), (hE, .inl (cI, 7, .inl ((zo_body S E T tn i).2.2))), (hT9, .inl (cI, 30, .inl T))]) := by
  refine zMi.start (cc := cX6_body) (maxL := 2) (rt := .int) (by first | decide | decide +kernel) rfl (Nat.le_of_ble_eq_true rfl) ?_
  intro pg ev s mt args below meth cd ls AA QQ ⟨hx, hb, hml, hr, hlocks, hown, hts, hK, hN, hZ, hP, hD, hA, hS, hl⟩ hret
  have hown : s.vm.findClass RX6 = some mt.cls := hown
  have hl : lv_has ls 2 [(0, .ref h), (1, .int i)] := hl
  have hin6 : ∀ w ∈ wsX60, w ∈ wsX6_body := fun w h => List.mem_cons_of_mem _ (List.mem_append_right _ (h))
  refine lv_iload_n hx hb dX6_body_0 rfl (lv_at hl 1 rfl) ?_
  refine lv_iconst (v := nI 0) hx hb dX6_body_1 (by decide) ?_
  refine lv_aload_n hx hb dX6_body_2 rfl (lv_at hl 0 rfl) ?_
  refine va_get (ci := 6) (v := .int (nI tn)) (C := RX6) (T := TX6) (N := 20) hx hb hts hin6 hown hK hP 0 rfl rfl 12 (by decide) (hts (.fieldLink RX6 205 "UpAllRoundModel" "traced" "I") (List.mem_of_getElem? (i := 1) rfl)) (fun _ h9 => h9) hf12 dX6_body_3 ?_
  refine lv_iconst (v := nI 1) hx hb dX6_body_6 (by decide) ?_
  refine lv_isub hx hb dX6_body_7 ?_
  refine zcsE (va_runS (As := [.int i, .int (nI 0), .int ((nI tn) - (nI 1))]) (rest := []) ⟨hx, hb, hml, hown, hts⟩ (d_X6_in l D cI cJ i (nI 0) ((nI tn) - (nI 1)) 0 (((tn : Int) - 1)) (by decide) (zpred_toInt (by omega)) s.heap.size) (va_cwS 3 hts gX6_body_X6_in rfl rfl rfl (by decide +kernel) ⟨Nat.le_of_ble_eq_true rfl, Nat.le_of_ble_eq_true rfl⟩) (zpS hK hN hZ hP hD hS hA [] rfl (by decide)) rfl rfl hl.1 rfl (lv_room (Nat.le_of_ble_eq_true rfl)) dX6_body_8 ⟨Nat.zero_le _, Nat.zero_le _⟩) ?_
  refine lv_if_eq (tgt := 23) hx hb dX6_body_11 (by decide) (fun c11_1 => ?_) (fun c11_1 => ?_)
  · have c11_1 := bI_0.mp c11_1
    have c11_1 : ¬ zin i tn := fun h9 => c11_1 (zin_rg.mpr h9)
    refine lv_aload_n hx hb dX6_body_23 rfl (lv_at hl 0 rfl) ?_
    refine lv_iconst (v := nI 2) hx hb dX6_body_24 (by decide) ?_
    refine zci (wr := [(hT9, .inl (cI, 30, .inl T))]) (va_runV (As := [.int (nI 2)]) (rest := []) ⟨hx, hb, hml, hown, hts⟩ (c_X6_error l D cI cJ h hE fs E 2 (by first | rfl | assumption | omega) (by first | rfl | assumption | omega) s.heap.size) (cwV 1 hts gX6_body_X6_error rfl rfl rfl (by decide +kernel) ⟨Nat.le_of_ble_eq_true rfl, Nat.le_of_ble_eq_true rfl⟩) (zpV hK hN hZ hP hD hS hA [0, 1] rfl (by decide) 0 rfl rfl rfl) rfl rfl hl.1 rfl (lv_room (Nat.le_of_ble_eq_true rfl)) dX6_body_25 ⟨Nat.zero_le _, Nat.zero_le _⟩) hP hD hS hA [0, 1] [2] rfl rfl (by decide) (by decide) (fun r_4 w_3 H locs h_2 hP hD hS => ?_)
    obtain ⟨rfl, rfl⟩ := h_2
    have hP : va_P D vwCl [(hT9, .inl (cI, 30, .inl T)), (h, .inr (6, fs)), (hE, .inl (cI, 7, .inl (upd E 2 (E 2 + nI 1))))] H := hP
    have hD : va_D AA [(hT9, .inl (cI, 30, .inl T)), (h, .inr (6, fs)), (hE, .inl (cI, 7, .inl (upd E 2 (E 2 + nI 1))))] := hD
    have hP := hP.sub (ws' := [(h, .inr (6, fs)), (hE, .inl (cI, 7, .inl (upd E 2 (E 2 + nI 1)))), (hT9, .inl (cI, 30, .inl T))]) [1, 2, 0] rfl
    have hD := hD.sub (ws' := [(h, .inr (6, fs)), (hE, .inl (cI, 7, .inl (upd E 2 (E 2 + nI 1)))), (hT9, .inl (cI, 30, .inl T))]) [1, 2, 0] (by decide) rfl
    exact hret hP hD hS dX6_body_28 rfl (by rw [show zo_body S E T tn i = zerrE 2 S E from if_neg (by assumption)]; exact ⟨rfl, rfl⟩)
  · have c11_1 := bI_n0.mp c11_1
    have c11_1 := zin_rg.mp c11_1
    obtain ⟨q, h_q, rfl⟩ := zin_of c11_1 (by omega)
    refine lv_aload_n hx hb dX6_body_14 rfl (lv_at hl 0 rfl) ?_
    refine va_get (ci := 6) (v := .ref hT9) (C := RX6) (T := TX6) (N := 20) hx hb hts hin6 hown hK hP 0 rfl rfl 13 (by decide) (hts (.fieldLink RX6 31 "UpAllRoundModel" "trace" "[I") (List.mem_of_getElem? (i := 2) rfl)) (fun _ h9 => h9) hf13 dX6_body_15 ?_
    refine lv_iload_n hx hb dX6_body_18 rfl (lv_at hl 1 rfl) ?_
    refine zald (t := q) hx hb hK hP 2 rfl (by omega) (by decide) dX6_body_19 ?_
    refine lv_goto (tgt := 28) hx hb dX6_body_20 (by decide) ?_
    exact hret hP hD hS dX6_body_28 rfl (by rw [show zo_body S E T tn (nI q) = (T q, S, E) from by rw [zo_body, if_pos (by assumption), nI_clamp (show q < 2147483648 by omega)]]; exact ⟨rfl, rfl⟩)
set_option maxHeartbeats 4000000 in
set_option maxRecDepth 100000 in
theorem c_X5_body (l : Launch) (D : va_G) (cI cJ : ClassId) (h : Nat) (hE : Nat) (hV : Nat) (fs : List Value) (fv : List Value) (S : Nat → Int32) (E : Nat → Int32) (hT9 : Nat) (T : Nat → Int32) (tn : Nat) (i : Int32) (hU4 : fs[4]? = some (.ref hV)) (hU7 : fs[7]? = some (.ref hE)) (hV0 : fv[0]? = some (.ref hT9)) (hV1 : fv[1]? = some (.int (nI tn))) (htn : tn ≤ 30) : zMi l yX5_body wsX5_body ({ frames := 1, cells := 0, slots := 0, locals := 22 } : Room) D [(cI, .int), (cJ, .array .int)] [.ref h, .int i] [(h, .inr (5, fs)), (hV, .inr (4, fv)), (hT9, .inl (cI, 30, .inl T)), (hE, .inl (cI, 7, .inl E))] (fun r w => r = (zo_body S E T tn i).1 ∧ w = [(h, .inr (5, fs)), (hV, .inr (4, fv)), (hT9, .inl (cI, 30, .inl T)), (hE, .inl (cI, 7, .inl ((zo_body S E T tn i).2.2)))]) := by
  refine zMi.start (cc := cX5_body) (maxL := 2) (rt := .int) (by first | decide | decide +kernel) rfl (Nat.le_of_ble_eq_true rfl) ?_
  intro pg ev s mt args below meth cd ls AA QQ ⟨hx, hb, hml, hr, hlocks, hown, hts, hK, hN, hZ, hP, hD, hA, hS, hl⟩ hret
  have hown : s.vm.findClass RX5 = some mt.cls := hown
  have hl : lv_has ls 2 [(0, .ref h), (1, .int i)] := hl
  have hin4 : ∀ w ∈ wsX40, w ∈ wsX5_body := fun w h => List.mem_cons_of_mem _ (List.mem_append_right _ (h))
  have hin5 : ∀ w ∈ wsX50, w ∈ wsX5_body := fun w h => List.mem_cons_of_mem _ (List.mem_append_left _ (List.mem_append_right _ (h)))
  refine lv_iload_n hx hb dX5_body_0 rfl (lv_at hl 1 rfl) ?_
  refine lv_iconst (v := nI 0) hx hb dX5_body_1 (by decide) ?_
  refine lv_aload_n hx hb dX5_body_2 rfl (lv_at hl 0 rfl) ?_
  refine va_get (ci := 5) (v := .ref hV) (C := RX5) (T := TX5) (N := 9) hx hb hts hin5 hown hK hP 0 rfl rfl 4 (by decide) (hts (.fieldLink RX5 32 "UpAllRound" "voices" "LUpAllRound$Voices;") (List.mem_of_getElem? (i := 1) rfl)) (fun _ h9 => h9) hU4 dX5_body_3 ?_
  refine va_getN (ci := 4) (v := .int (nI tn)) (C := RX4) (T := TX4) (N := 6) hx hb hts hin4 hown hK hP 1 rfl rfl 1 (by decide) (va_Nw.use rfl (hN (.fieldLinkNest "UpAllRound" 225 "UpAllRound$Voices" "traced" "I" "UpAllRound") (List.mem_of_getElem? (i := 17) rfl))) (fun _ h9 => h9) hV1 dX5_body_6 ?_
  refine lv_iconst (v := nI 1) hx hb dX5_body_9 (by decide) ?_
  refine lv_isub hx hb dX5_body_10 ?_
  refine zcsE (va_runS (As := [.int i, .int (nI 0), .int ((nI tn) - (nI 1))]) (rest := []) ⟨hx, hb, hml, hown, hts⟩ (d_X5_isOutside l D cI cJ i (nI 0) ((nI tn) - (nI 1)) 0 (((tn : Int) - 1)) (by decide) (zpred_toInt (by omega)) s.heap.size) (va_cwS 3 hts gX5_body_X5_isOutside rfl rfl rfl (by decide +kernel) ⟨Nat.le_of_ble_eq_true rfl, Nat.le_of_ble_eq_true rfl⟩) (zpS hK hN hZ hP hD hS hA [] rfl (by decide)) rfl rfl hl.1 rfl (lv_room (Nat.le_of_ble_eq_true rfl)) dX5_body_11 ⟨Nat.zero_le _, Nat.zero_le _⟩) ?_
  refine lv_if_eq (tgt := 23) hx hb dX5_body_14 (by decide) (fun c14_1 => ?_) (fun c14_1 => ?_)
  · have c14_1 := bI_nX0.mp c14_1
    have c14_1 := zin_rg.mp c14_1
    obtain ⟨q, h_q, rfl⟩ := zin_of c14_1 (by omega)
    refine lv_aload_n hx hb dX5_body_23 rfl (lv_at hl 0 rfl) ?_
    refine va_get (ci := 5) (v := .ref hV) (C := RX5) (T := TX5) (N := 9) hx hb hts hin5 hown hK hP 0 rfl rfl 4 (by decide) (hts (.fieldLink RX5 32 "UpAllRound" "voices" "LUpAllRound$Voices;") (List.mem_of_getElem? (i := 1) rfl)) (fun _ h9 => h9) hU4 dX5_body_24 ?_
    refine va_getN (ci := 4) (v := .ref hT9) (C := RX4) (T := TX4) (N := 6) hx hb hts hin4 hown hK hP 1 rfl rfl 0 (by decide) (va_Nw.use rfl (hN (.fieldLinkNest "UpAllRound" 228 "UpAllRound$Voices" "trace" "[I" "UpAllRound") (List.mem_of_getElem? (i := 16) rfl))) (fun _ h9 => h9) hV0 dX5_body_27 ?_
    refine lv_iload_n hx hb dX5_body_30 rfl (lv_at hl 1 rfl) ?_
    refine zald (t := q) hx hb hK hP 2 rfl (by omega) (by decide) dX5_body_31 ?_
    exact hret hP hD hS dX5_body_32 rfl (by rw [show zo_body S E T tn (nI q) = (T q, S, E) from by rw [zo_body, if_pos (by assumption), nI_clamp (show q < 2147483648 by omega)]]; exact ⟨rfl, rfl⟩)
  · have c14_1 := bI_nn0.mp c14_1
    have c14_1 : ¬ zin i tn := fun h9 => c14_1 (zin_rg.mpr h9)
    refine lv_aload_n hx hb dX5_body_17 rfl (lv_at hl 0 rfl) ?_
    refine lv_iconst (v := nI 2) hx hb dX5_body_18 (by decide) ?_
    refine zci (wr := [(hV, .inr (4, fv)), (hT9, .inl (cI, 30, .inl T))]) (va_runV (As := [.int (nI 2)]) (rest := []) ⟨hx, hb, hml, hown, hts⟩ (c_X5_refuse l D cI cJ h hE fs E 2 (by first | rfl | assumption | omega) (by first | rfl | assumption | omega) s.heap.size) (cwV 1 hts gX5_body_X5_refuse rfl rfl rfl (by decide +kernel) ⟨Nat.le_of_ble_eq_true rfl, Nat.le_of_ble_eq_true rfl⟩) (zpV hK hN hZ hP hD hS hA [0, 3] rfl (by decide) 0 rfl rfl rfl) rfl rfl hl.1 rfl (lv_room (Nat.le_of_ble_eq_true rfl)) dX5_body_19 ⟨Nat.zero_le _, Nat.zero_le _⟩) hP hD hS hA [0, 3] [1, 2] rfl rfl (by decide) (by decide) (fun r_4 w_3 H locs h_2 hP hD hS => ?_)
    obtain ⟨rfl, rfl⟩ := h_2
    have hP : va_P D vwCl [(hV, .inr (4, fv)), (hT9, .inl (cI, 30, .inl T)), (h, .inr (5, fs)), (hE, .inl (cI, 7, .inl (upd E 2 (E 2 + nI 1))))] H := hP
    have hD : va_D AA [(hV, .inr (4, fv)), (hT9, .inl (cI, 30, .inl T)), (h, .inr (5, fs)), (hE, .inl (cI, 7, .inl (upd E 2 (E 2 + nI 1))))] := hD
    have hP := hP.sub (ws' := [(h, .inr (5, fs)), (hV, .inr (4, fv)), (hT9, .inl (cI, 30, .inl T)), (hE, .inl (cI, 7, .inl (upd E 2 (E 2 + nI 1))))]) [2, 0, 1, 3] rfl
    have hD := hD.sub (ws' := [(h, .inr (5, fs)), (hV, .inr (4, fv)), (hT9, .inl (cI, 30, .inl T)), (hE, .inl (cI, 7, .inl (upd E 2 (E 2 + nI 1))))]) [2, 0, 1, 3] (by decide) rfl
    exact hret hP hD hS dX5_body_22 rfl (by rw [show zo_body S E T tn i = zerrE 2 S E from if_neg (by assumption)]; exact ⟨rfl, rfl⟩)
set_option maxHeartbeats 4000000 in
set_option maxRecDepth 100000 in
theorem c_X6_begins (l : Launch) (D : va_G) (cI cJ : ClassId) (h : Nat) (m0 : Nat) (m1 : Nat) (m2 : Nat) (m4 : Nat) (m9 : Nat) (m10 : Nat) (m11 : Nat) (m13 : Nat) (m16 : Nat) (m17 : Nat) (m18 : Nat) (m19 : Nat) (i3 : Int32) (i5 : Int32) (i6 : Int32) (i7 : Int32) (i8 : Int32) (S : Nat → Int32) (T : Nat → Int32) (tn : Nat) (sp : Nat) (pt : Nat) (b : Nat) (htn : tn < 30) : zMv l yX6_begins wsX6_begins ({ frames := 0, cells := 0, slots := 0, locals := 0 } : Room) D [(cI, .int), (cJ, .array .int)] [.ref h, .int (nI b)] [(h, .inr (6, [.ref m0, .ref m1, .ref m2, .int i3, .ref m4, .int i5, .int i6, .int i7, .int i8, .ref m9, .ref m10, .ref m11, .int (nI tn), .ref m13, .int (nI sp), .int (nI pt), .ref m16, .ref m17, .ref m18, .ref m19])), (m0, .inl (cI, 380, .inl S)), (m13, .inl (cI, 30, .inl T))] (fun w => w = [(h, .inr (6, [.ref m0, .ref m1, .ref m2, .int i3, .ref m4, .int i5, .int i6, .int i7, .int i8, .ref m9, .ref m10, .ref m11, .int (nI ((tn + 1))), .ref m13, .int (nI sp), .int (nI pt), .ref m16, .ref m17, .ref m18, .ref m19])), (m0, .inl (cI, 380, .inl S)), (m13, .inl (cI, 30, .inl ((upd T tn (nI b)))))]) := by
  refine zMv.start (cc := cX6_begins) (maxL := 2) (by first | decide | decide +kernel) rfl (Nat.le_of_ble_eq_true rfl) ?_
  intro pg ev s mt args below meth cd ls AA QQ ⟨hx, hb, hml, hr, hlocks, hown, hts, hK, hN, hZ, hP, hD, hA, hS, hl⟩ hret
  have hown : s.vm.findClass RX6 = some mt.cls := hown
  have hl : lv_has ls 2 [(0, .ref h), (1, .int (nI b))] := hl
  have hin6 : ∀ w ∈ wsX60, w ∈ wsX6_begins := fun w h => List.mem_cons_of_mem _ (List.mem_append_right _ (h))
  refine lv_aload_n hx hb dX6_begins_0 rfl (lv_at hl 0 rfl) ?_
  refine va_get (ci := 6) (v := .int (nI tn)) (C := RX6) (T := TX6) (N := 20) hx hb hts hin6 hown hK hP 0 rfl rfl 12 (by decide) (hts (.fieldLink RX6 205 "UpAllRoundModel" "traced" "I") (List.mem_of_getElem? (i := 1) rfl)) (fun _ h9 => h9) rfl dX6_begins_1 ?_
  refine lv_bipush (v := nI 30) hx hb dX6_begins_4 (by decide) ?_
  refine lv_icmp_ge (tgt := 29) hx hb dX6_begins_6 (by decide) (fun c6_1 => ?_) (fun c6_1 => ?_)
  · have c6_1 : 30 ≤ tn := (nI_leI (a := 30) (b := tn) (by omega) (by omega)).mp c6_1
    exact absurd c6_1 (by omega)
  · have c6_1 : ¬ (30 ≤ tn) := fun h9 => c6_1 ((nI_leI (a := 30) (b := tn) (by omega) (by omega)).mpr h9)
    refine lv_aload_n hx hb dX6_begins_9 rfl (lv_at hl 0 rfl) ?_
    refine va_get (ci := 6) (v := .ref m13) (C := RX6) (T := TX6) (N := 20) hx hb hts hin6 hown hK hP 0 rfl rfl 13 (by decide) (hts (.fieldLink RX6 31 "UpAllRoundModel" "trace" "[I") (List.mem_of_getElem? (i := 2) rfl)) (fun _ h9 => h9) rfl dX6_begins_10 ?_
    refine lv_aload_n hx hb dX6_begins_13 rfl (lv_at hl 0 rfl) ?_
    refine va_get (ci := 6) (v := .int (nI tn)) (C := RX6) (T := TX6) (N := 20) hx hb hts hin6 hown hK hP 0 rfl rfl 12 (by decide) (hts (.fieldLink RX6 205 "UpAllRoundModel" "traced" "I") (List.mem_of_getElem? (i := 1) rfl)) (fun _ h9 => h9) rfl dX6_begins_14 ?_
    refine lv_iload_n hx hb dX6_begins_17 rfl (lv_at hl 1 rfl) ?_
    refine zast (t := tn) hx hb hK hP hD hS 2 rfl (by omega) (by decide) dX6_begins_18 (fun H locs hP hD hS => ?_)
    have hP : va_P D vwCl [(h, .inr (6, [.ref m0, .ref m1, .ref m2, .int i3, .ref m4, .int i5, .int i6, .int i7, .int i8, .ref m9, .ref m10, .ref m11, .int (nI tn), .ref m13, .int (nI sp), .int (nI pt), .ref m16, .ref m17, .ref m18, .ref m19])), (m0, .inl (cI, 380, .inl S)), (m13, .inl (cI, 30, .inl (upd T tn (nI b))))] H := hP
    have hD : va_D AA [(h, .inr (6, [.ref m0, .ref m1, .ref m2, .int i3, .ref m4, .int i5, .int i6, .int i7, .int i8, .ref m9, .ref m10, .ref m11, .int (nI tn), .ref m13, .int (nI sp), .int (nI pt), .ref m16, .ref m17, .ref m18, .ref m19])), (m0, .inl (cI, 380, .inl S)), (m13, .inl (cI, 30, .inl (upd T tn (nI b))))] := hD
    refine lv_aload_n hx hb dX6_begins_19 rfl (lv_at hl 0 rfl) ?_
    refine lv_dup hx hb dX6_begins_20 rfl ?_
    refine va_get (ci := 6) (v := .int (nI tn)) (C := RX6) (T := TX6) (N := 20) hx hb hts hin6 hown hK hP 0 rfl rfl 12 (by decide) (hts (.fieldLink RX6 205 "UpAllRoundModel" "traced" "I") (List.mem_of_getElem? (i := 1) rfl)) (fun _ h9 => h9) rfl dX6_begins_21 ?_
    refine lv_iconst (v := nI 1) hx hb dX6_begins_24 (by decide) ?_
    refine lv_iadd hx hb dX6_begins_25 ?_
    refine zrw (nI_add _ _) ?_
    refine va_put (ci := 6) (v := .int (nI (tn + 1))) (ty := .int) (C := RX6) (T := TX6) (N := 20) hx hb hts hin6 tyX6 tyX6_ok nmX6 hown hK hP hD hS 0 rfl rfl 12 (by decide) (hts (.fieldLink RX6 205 "UpAllRoundModel" "traced" "I") (List.mem_of_getElem? (i := 1) rfl)) (fun _ h9 => h9) rfl (by decide +kernel) rfl rfl (Nat.le_of_ble_eq_true rfl) dX6_begins_26 (fun H locs hP hD hS => ?_)
    have hP : va_P D vwCl [(h, .inr (6, [.ref m0, .ref m1, .ref m2, .int i3, .ref m4, .int i5, .int i6, .int i7, .int i8, .ref m9, .ref m10, .ref m11, .int (nI (tn + 1)), .ref m13, .int (nI sp), .int (nI pt), .ref m16, .ref m17, .ref m18, .ref m19])), (m0, .inl (cI, 380, .inl S)), (m13, .inl (cI, 30, .inl (upd T tn (nI b))))] H := hP
    have hD : va_D AA [(h, .inr (6, [.ref m0, .ref m1, .ref m2, .int i3, .ref m4, .int i5, .int i6, .int i7, .int i8, .ref m9, .ref m10, .ref m11, .int (nI (tn + 1)), .ref m13, .int (nI sp), .int (nI pt), .ref m16, .ref m17, .ref m18, .ref m19])), (m0, .inl (cI, 380, .inl S)), (m13, .inl (cI, 30, .inl (upd T tn (nI b))))] := hD
    exact hret hP hD hS dX6_begins_29 (by rfl)
set_option maxHeartbeats 4000000 in
set_option maxRecDepth 100000 in
theorem c_X6_pantsAs_0 (l : Launch) (D : va_G) (cI cJ : ClassId) (h : Nat) (m0 : Nat) (m1 : Nat) (m2 : Nat) (m4 : Nat) (m9 : Nat) (m10 : Nat) (m11 : Nat) (m13 : Nat) (m16 : Nat) (m17 : Nat) (m18 : Nat) (m19 : Nat) (i3 : Int32) (i5 : Int32) (i6 : Int32) (i7 : Int32) (i8 : Int32) (S : Nat → Int32) (T : Nat → Int32) (tn : Nat) (sp : Nat) (pt : Nat) (x : Int32) (htn : tn + 1 ≤ 30) : zMi l yX6_pantsAs wsX6_pantsAs ({ frames := 1, cells := 0, slots := 0, locals := 21 } : Room) D [(cI, .int), (cJ, .array .int)] [.ref h, .int (nI 0), .int x] [(h, .inr (6, [.ref m0, .ref m1, .ref m2, .int i3, .ref m4, .int i5, .int i6, .int i7, .int i8, .ref m9, .ref m10, .ref m11, .int (nI tn), .ref m13, .int (nI sp), .int (nI pt), .ref m16, .ref m17, .ref m18, .ref m19])), (m0, .inl (cI, 380, .inl S)), (m13, .inl (cI, 30, .inl T))] (fun r w => r = (zpants 0 sp x) ∧ w = [(h, .inr (6, [.ref m0, .ref m1, .ref m2, .int i3, .ref m4, .int i5, .int i6, .int i7, .int i8, .ref m9, .ref m10, .ref m11, .int (nI ((tn + 1))), .ref m13, .int (nI sp), .int (nI pt), .ref m16, .ref m17, .ref m18, .ref m19])), (m0, .inl (cI, 380, .inl S)), (m13, .inl (cI, 30, .inl ((upd T tn (nI 10)))))]) := by
  refine zMi.start (cc := cX6_pantsAs) (maxL := 3) (rt := .int) (by first | decide | decide +kernel) rfl (Nat.le_of_ble_eq_true rfl) ?_
  intro pg ev s mt args below meth cd ls AA QQ ⟨hx, hb, hml, hr, hlocks, hown, hts, hK, hN, hZ, hP, hD, hA, hS, hl⟩ hret
  have hown : s.vm.findClass RX6 = some mt.cls := hown
  have hl : lv_has ls 3 [(0, .ref h), (1, .int (nI 0)), (2, .int x)] := hl
  have hin6 : ∀ w ∈ wsX60, w ∈ wsX6_pantsAs := fun w h => List.mem_cons_of_mem _ (List.mem_append_right _ (h))
  refine lv_iload_n hx hb dX6_pantsAs_0 rfl (lv_at hl 1 rfl) ?_
  refine lv_tableIn (off := 43) (tgt := 44) hx hb dX6_pantsAs_1 (by decide) (by decide) rfl (by decide) ?_
  refine lv_aload_n hx hb dX6_pantsAs_44 rfl (lv_at hl 0 rfl) ?_
  refine lv_bipush (v := nI 10) hx hb dX6_pantsAs_45 (by decide) ?_
  refine zcv (wr := []) (va_runV (As := [.int (nI 10)]) (rest := []) ⟨hx, hb, hml, hown, hts⟩ (c_X6_begins l D cI cJ h m0 m1 m2 m4 m9 m10 m11 m13 m16 m17 m18 m19 i3 i5 i6 i7 i8 S T tn sp pt 10 (by first | rfl | assumption | omega) s.heap.size) (cwV 1 hts gX6_pantsAs_X6_begins rfl rfl rfl (by decide +kernel) ⟨Nat.le_of_ble_eq_true rfl, Nat.le_of_ble_eq_true rfl⟩) (zpV hK hN hZ hP hD hS hA [0, 1, 2] rfl (by decide) 0 rfl rfl rfl) rfl rfl hl.1 rfl (lv_room (Nat.le_of_ble_eq_true rfl)) dX6_pantsAs_47 ⟨Nat.zero_le _, Nat.zero_le _⟩) hP hD hS hA [0, 1, 2] [] rfl rfl (by decide) (by decide) (fun w_2 H locs h_1 hP hD hS => ?_)
  obtain rfl := h_1
  have hP : va_P D vwCl [(h, .inr (6, [.ref m0, .ref m1, .ref m2, .int i3, .ref m4, .int i5, .int i6, .int i7, .int i8, .ref m9, .ref m10, .ref m11, .int (nI ((tn + 1))), .ref m13, .int (nI sp), .int (nI pt), .ref m16, .ref m17, .ref m18, .ref m19])), (m0, .inl (cI, 380, .inl S)), (m13, .inl (cI, 30, .inl ((upd T tn (nI 10)))))] H := hP
  have hD : va_D AA [(h, .inr (6, [.ref m0, .ref m1, .ref m2, .int i3, .ref m4, .int i5, .int i6, .int i7, .int i8, .ref m9, .ref m10, .ref m11, .int (nI ((tn + 1))), .ref m13, .int (nI sp), .int (nI pt), .ref m16, .ref m17, .ref m18, .ref m19])), (m0, .inl (cI, 380, .inl S)), (m13, .inl (cI, 30, .inl ((upd T tn (nI 10)))))] := hD
  refine lv_iload_n hx hb dX6_pantsAs_50 rfl (lv_at hl 2 rfl) ?_
  refine lv_aload_n hx hb dX6_pantsAs_51 rfl (lv_at hl 0 rfl) ?_
  refine va_get (ci := 6) (v := .int (nI sp)) (C := RX6) (T := TX6) (N := 20) hx hb hts hin6 hown hK hP 0 rfl rfl 14 (by decide) (hts (.fieldLink RX6 208 "UpAllRoundModel" "speaks" "I") (List.mem_of_getElem? (i := 1) rfl)) (fun _ h9 => h9) rfl dX6_pantsAs_52 ?_
  refine lv_iadd hx hb dX6_pantsAs_55 ?_
  exact hret hP hD hS dX6_pantsAs_56 rfl (by exact ⟨rfl, rfl⟩)
set_option maxHeartbeats 4000000 in
set_option maxRecDepth 100000 in
theorem c_X6_pantsAs_1 (l : Launch) (D : va_G) (cI cJ : ClassId) (h : Nat) (m0 : Nat) (m1 : Nat) (m2 : Nat) (m4 : Nat) (m9 : Nat) (m10 : Nat) (m11 : Nat) (m13 : Nat) (m16 : Nat) (m17 : Nat) (m18 : Nat) (m19 : Nat) (i3 : Int32) (i5 : Int32) (i6 : Int32) (i7 : Int32) (i8 : Int32) (S : Nat → Int32) (T : Nat → Int32) (tn : Nat) (sp : Nat) (pt : Nat) (x : Int32) (htn : tn + 2 ≤ 30) : zMi l yX6_pantsAs wsX6_pantsAs ({ frames := 2, cells := 0, slots := 0, locals := 43 } : Room) D [(cI, .int), (cJ, .array .int)] [.ref h, .int (nI 1), .int x] [(h, .inr (6, [.ref m0, .ref m1, .ref m2, .int i3, .ref m4, .int i5, .int i6, .int i7, .int i8, .ref m9, .ref m10, .ref m11, .int (nI tn), .ref m13, .int (nI sp), .int (nI pt), .ref m16, .ref m17, .ref m18, .ref m19])), (m0, .inl (cI, 380, .inl S)), (m13, .inl (cI, 30, .inl T))] (fun r w => r = (zpants 1 sp x) ∧ w = [(h, .inr (6, [.ref m0, .ref m1, .ref m2, .int i3, .ref m4, .int i5, .int i6, .int i7, .int i8, .ref m9, .ref m10, .ref m11, .int (nI (((tn + 1) + 1))), .ref m13, .int (nI sp), .int (nI pt), .ref m16, .ref m17, .ref m18, .ref m19])), (m0, .inl (cI, 380, .inl S)), (m13, .inl (cI, 30, .inl ((upd (upd T tn (nI 20)) (tn + 1) (nI 10)))))]) := by
  refine zMi.start (cc := cX6_pantsAs) (maxL := 3) (rt := .int) (by first | decide | decide +kernel) rfl (Nat.le_of_ble_eq_true rfl) ?_
  intro pg ev s mt args below meth cd ls AA QQ ⟨hx, hb, hml, hr, hlocks, hown, hts, hK, hN, hZ, hP, hD, hA, hS, hl⟩ hret
  have hown : s.vm.findClass RX6 = some mt.cls := hown
  have hl : lv_has ls 3 [(0, .ref h), (1, .int (nI 1)), (2, .int x)] := hl
  have hin6 : ∀ w ∈ wsX60, w ∈ wsX6_pantsAs := fun w h => List.mem_cons_of_mem _ (List.mem_append_right _ (h))
  refine lv_iload_n hx hb dX6_pantsAs_0 rfl (lv_at hl 1 rfl) ?_
  refine lv_tableIn (off := 56) (tgt := 57) hx hb dX6_pantsAs_1 (by decide) (by decide) rfl (by decide) ?_
  refine lv_aload_n hx hb dX6_pantsAs_57 rfl (lv_at hl 0 rfl) ?_
  refine lv_bipush (v := nI 20) hx hb dX6_pantsAs_58 (by decide) ?_
  refine zcv (wr := []) (va_runV (As := [.int (nI 20)]) (rest := []) ⟨hx, hb, hml, hown, hts⟩ (c_X6_begins l D cI cJ h m0 m1 m2 m4 m9 m10 m11 m13 m16 m17 m18 m19 i3 i5 i6 i7 i8 S T tn sp pt 20 (by first | rfl | assumption | omega) s.heap.size) (cwV 1 hts gX6_pantsAs_X6_begins rfl rfl rfl (by decide +kernel) ⟨Nat.le_of_ble_eq_true rfl, Nat.le_of_ble_eq_true rfl⟩) (zpV hK hN hZ hP hD hS hA [0, 1, 2] rfl (by decide) 0 rfl rfl rfl) rfl rfl hl.1 rfl (lv_room (Nat.le_of_ble_eq_true rfl)) dX6_pantsAs_60 ⟨Nat.zero_le _, Nat.zero_le _⟩) hP hD hS hA [0, 1, 2] [] rfl rfl (by decide) (by decide) (fun w_2 H locs h_1 hP hD hS => ?_)
  obtain rfl := h_1
  have hP : va_P D vwCl [(h, .inr (6, [.ref m0, .ref m1, .ref m2, .int i3, .ref m4, .int i5, .int i6, .int i7, .int i8, .ref m9, .ref m10, .ref m11, .int (nI ((tn + 1))), .ref m13, .int (nI sp), .int (nI pt), .ref m16, .ref m17, .ref m18, .ref m19])), (m0, .inl (cI, 380, .inl S)), (m13, .inl (cI, 30, .inl ((upd T tn (nI 20)))))] H := hP
  have hD : va_D AA [(h, .inr (6, [.ref m0, .ref m1, .ref m2, .int i3, .ref m4, .int i5, .int i6, .int i7, .int i8, .ref m9, .ref m10, .ref m11, .int (nI ((tn + 1))), .ref m13, .int (nI sp), .int (nI pt), .ref m16, .ref m17, .ref m18, .ref m19])), (m0, .inl (cI, 380, .inl S)), (m13, .inl (cI, 30, .inl ((upd T tn (nI 20)))))] := hD
  refine lv_aload_n hx hb dX6_pantsAs_63 rfl (lv_at hl 0 rfl) ?_
  refine lv_iconst (v := nI 1) hx hb dX6_pantsAs_64 (by decide) ?_
  refine zcsE (va_runS (As := [.int (nI 1)]) (rest := [.ref h]) ⟨hx, hb, hml, hown, hts⟩ (c_X6_above l D cI cJ 1 (by first | rfl | assumption | omega) H.size) (va_cwS 1 hts gX6_pantsAs_X6_above rfl rfl rfl (by decide +kernel) ⟨Nat.le_of_ble_eq_true rfl, Nat.le_of_ble_eq_true rfl⟩) (zpS hK hN hZ hP hD hS hA [] rfl (by decide)) rfl rfl hl.1 rfl (lv_room (Nat.le_of_ble_eq_true rfl)) dX6_pantsAs_65 ⟨Nat.zero_le _, Nat.zero_le _⟩) ?_
  refine zrw (show nI (if 1 = 4 then 1 else if 1 = 5 then 2 else 0) = nI 0 from rfl) ?_
  refine lv_iload_n hx hb dX6_pantsAs_68 rfl (lv_at hl 2 rfl) ?_
  refine zci (wr := []) (va_runV (As := [.int (nI 0), .int x]) (rest := []) ⟨hx, hb, hml, hown, hts⟩ (c_X6_pantsAs_0 l D cI cJ h m0 m1 m2 m4 m9 m10 m11 m13 m16 m17 m18 m19 i3 i5 i6 i7 i8 S ((upd T tn (nI 20))) ((tn + 1)) sp pt x (by first | rfl | assumption | omega) H.size) (cwV 2 hts gX6_pantsAs_X6_pantsAs rfl rfl rfl (by decide +kernel) ⟨Nat.le_of_ble_eq_true rfl, Nat.le_of_ble_eq_true rfl⟩) (zpV hK hN hZ hP hD hS hA [0, 1, 2] rfl (by decide) 0 rfl rfl rfl) rfl rfl hl.1 rfl (lv_room (Nat.le_of_ble_eq_true rfl)) dX6_pantsAs_69 ⟨Nat.zero_le _, Nat.zero_le _⟩) hP hD hS hA [0, 1, 2] [] rfl rfl (by decide) (by decide) (fun r_5 w_4 H locs h_3 hP hD hS => ?_)
  obtain ⟨rfl, rfl⟩ := h_3
  have hP : va_P D vwCl [(h, .inr (6, [.ref m0, .ref m1, .ref m2, .int i3, .ref m4, .int i5, .int i6, .int i7, .int i8, .ref m9, .ref m10, .ref m11, .int (nI ((((tn + 1)) + 1))), .ref m13, .int (nI sp), .int (nI pt), .ref m16, .ref m17, .ref m18, .ref m19])), (m0, .inl (cI, 380, .inl S)), (m13, .inl (cI, 30, .inl ((upd ((upd T tn (nI 20))) ((tn + 1)) (nI 10)))))] H := hP
  have hD : va_D AA [(h, .inr (6, [.ref m0, .ref m1, .ref m2, .int i3, .ref m4, .int i5, .int i6, .int i7, .int i8, .ref m9, .ref m10, .ref m11, .int (nI ((((tn + 1)) + 1))), .ref m13, .int (nI sp), .int (nI pt), .ref m16, .ref m17, .ref m18, .ref m19])), (m0, .inl (cI, 380, .inl S)), (m13, .inl (cI, 30, .inl ((upd ((upd T tn (nI 20))) ((tn + 1)) (nI 10)))))] := hD
  refine lv_iconst (v := nI 4) hx hb dX6_pantsAs_72 (by decide) ?_
  refine lv_isub hx hb dX6_pantsAs_73 ?_
  exact hret hP hD hS dX6_pantsAs_74 rfl (by exact ⟨rfl, rfl⟩)
set_option maxHeartbeats 4000000 in
set_option maxRecDepth 100000 in
theorem c_X6_pantsAs_2 (l : Launch) (D : va_G) (cI cJ : ClassId) (h : Nat) (m0 : Nat) (m1 : Nat) (m2 : Nat) (m4 : Nat) (m9 : Nat) (m10 : Nat) (m11 : Nat) (m13 : Nat) (m16 : Nat) (m17 : Nat) (m18 : Nat) (m19 : Nat) (i3 : Int32) (i5 : Int32) (i6 : Int32) (i7 : Int32) (i8 : Int32) (S : Nat → Int32) (T : Nat → Int32) (tn : Nat) (sp : Nat) (pt : Nat) (x : Int32) (htn : tn + 1 ≤ 30) : zMi l yX6_pantsAs wsX6_pantsAs ({ frames := 2, cells := 0, slots := 0, locals := 43 } : Room) D [(cI, .int), (cJ, .array .int)] [.ref h, .int (nI 2), .int x] [(h, .inr (6, [.ref m0, .ref m1, .ref m2, .int i3, .ref m4, .int i5, .int i6, .int i7, .int i8, .ref m9, .ref m10, .ref m11, .int (nI tn), .ref m13, .int (nI sp), .int (nI pt), .ref m16, .ref m17, .ref m18, .ref m19])), (m0, .inl (cI, 380, .inl S)), (m13, .inl (cI, 30, .inl T))] (fun r w => r = (zpants 2 sp x) ∧ w = [(h, .inr (6, [.ref m0, .ref m1, .ref m2, .int i3, .ref m4, .int i5, .int i6, .int i7, .int i8, .ref m9, .ref m10, .ref m11, .int (nI ((tn + 1))), .ref m13, .int (nI sp), .int (nI pt), .ref m16, .ref m17, .ref m18, .ref m19])), (m0, .inl (cI, 380, .inl S)), (m13, .inl (cI, 30, .inl ((upd T tn (nI 10)))))]) := by
  refine zMi.start (cc := cX6_pantsAs) (maxL := 3) (rt := .int) (by first | decide | decide +kernel) rfl (Nat.le_of_ble_eq_true rfl) ?_
  intro pg ev s mt args below meth cd ls AA QQ ⟨hx, hb, hml, hr, hlocks, hown, hts, hK, hN, hZ, hP, hD, hA, hS, hl⟩ hret
  have hown : s.vm.findClass RX6 = some mt.cls := hown
  have hl : lv_has ls 3 [(0, .ref h), (1, .int (nI 2)), (2, .int x)] := hl
  have hin6 : ∀ w ∈ wsX60, w ∈ wsX6_pantsAs := fun w h => List.mem_cons_of_mem _ (List.mem_append_right _ (h))
  refine lv_iload_n hx hb dX6_pantsAs_0 rfl (lv_at hl 1 rfl) ?_
  refine lv_tableIn (off := 101) (tgt := 102) hx hb dX6_pantsAs_1 (by decide) (by decide) rfl (by decide) ?_
  refine lv_aload_n hx hb dX6_pantsAs_102 rfl (lv_at hl 0 rfl) ?_
  refine lv_iload_n hx hb dX6_pantsAs_103 rfl (lv_at hl 1 rfl) ?_
  refine zcsE (va_runS (As := [.int (nI 2)]) (rest := [.ref h]) ⟨hx, hb, hml, hown, hts⟩ (c_X6_above l D cI cJ 2 (by first | rfl | assumption | omega) s.heap.size) (va_cwS 1 hts gX6_pantsAs_X6_above rfl rfl rfl (by decide +kernel) ⟨Nat.le_of_ble_eq_true rfl, Nat.le_of_ble_eq_true rfl⟩) (zpS hK hN hZ hP hD hS hA [] rfl (by decide)) rfl rfl hl.1 rfl (lv_room (Nat.le_of_ble_eq_true rfl)) dX6_pantsAs_104 ⟨Nat.zero_le _, Nat.zero_le _⟩) ?_
  refine zrw (show nI (if 2 = 4 then 1 else if 2 = 5 then 2 else 0) = nI 0 from rfl) ?_
  refine lv_iload_n hx hb dX6_pantsAs_107 rfl (lv_at hl 2 rfl) ?_
  refine zci (wr := []) (va_runV (As := [.int (nI 0), .int x]) (rest := []) ⟨hx, hb, hml, hown, hts⟩ (c_X6_pantsAs_0 l D cI cJ h m0 m1 m2 m4 m9 m10 m11 m13 m16 m17 m18 m19 i3 i5 i6 i7 i8 S T tn sp pt x (by first | rfl | assumption | omega) s.heap.size) (cwV 2 hts gX6_pantsAs_X6_pantsAs rfl rfl rfl (by decide +kernel) ⟨Nat.le_of_ble_eq_true rfl, Nat.le_of_ble_eq_true rfl⟩) (zpV hK hN hZ hP hD hS hA [0, 1, 2] rfl (by decide) 0 rfl rfl rfl) rfl rfl hl.1 rfl (lv_room (Nat.le_of_ble_eq_true rfl)) dX6_pantsAs_108 ⟨Nat.zero_le _, Nat.zero_le _⟩) hP hD hS hA [0, 1, 2] [] rfl rfl (by decide) (by decide) (fun r_3 w_2 H locs h_1 hP hD hS => ?_)
  obtain ⟨rfl, rfl⟩ := h_1
  have hP : va_P D vwCl [(h, .inr (6, [.ref m0, .ref m1, .ref m2, .int i3, .ref m4, .int i5, .int i6, .int i7, .int i8, .ref m9, .ref m10, .ref m11, .int (nI ((tn + 1))), .ref m13, .int (nI sp), .int (nI pt), .ref m16, .ref m17, .ref m18, .ref m19])), (m0, .inl (cI, 380, .inl S)), (m13, .inl (cI, 30, .inl ((upd T tn (nI 10)))))] H := hP
  have hD : va_D AA [(h, .inr (6, [.ref m0, .ref m1, .ref m2, .int i3, .ref m4, .int i5, .int i6, .int i7, .int i8, .ref m9, .ref m10, .ref m11, .int (nI ((tn + 1))), .ref m13, .int (nI sp), .int (nI pt), .ref m16, .ref m17, .ref m18, .ref m19])), (m0, .inl (cI, 380, .inl S)), (m13, .inl (cI, 30, .inl ((upd T tn (nI 10)))))] := hD
  exact hret hP hD hS dX6_pantsAs_111 rfl (by exact ⟨rfl, rfl⟩)
set_option maxHeartbeats 4000000 in
set_option maxRecDepth 100000 in
theorem c_X6_pantsAs_3 (l : Launch) (D : va_G) (cI cJ : ClassId) (h : Nat) (m0 : Nat) (m1 : Nat) (m2 : Nat) (m4 : Nat) (m9 : Nat) (m10 : Nat) (m11 : Nat) (m13 : Nat) (m16 : Nat) (m17 : Nat) (m18 : Nat) (m19 : Nat) (i3 : Int32) (i5 : Int32) (i6 : Int32) (i7 : Int32) (i8 : Int32) (S : Nat → Int32) (T : Nat → Int32) (tn : Nat) (sp : Nat) (pt : Nat) (x : Int32) (htn : tn + 1 ≤ 30) : zMi l yX6_pantsAs wsX6_pantsAs ({ frames := 2, cells := 0, slots := 0, locals := 43 } : Room) D [(cI, .int), (cJ, .array .int)] [.ref h, .int (nI 3), .int x] [(h, .inr (6, [.ref m0, .ref m1, .ref m2, .int i3, .ref m4, .int i5, .int i6, .int i7, .int i8, .ref m9, .ref m10, .ref m11, .int (nI tn), .ref m13, .int (nI sp), .int (nI pt), .ref m16, .ref m17, .ref m18, .ref m19])), (m0, .inl (cI, 380, .inl S)), (m13, .inl (cI, 30, .inl T))] (fun r w => r = (zpants 3 sp x) ∧ w = [(h, .inr (6, [.ref m0, .ref m1, .ref m2, .int i3, .ref m4, .int i5, .int i6, .int i7, .int i8, .ref m9, .ref m10, .ref m11, .int (nI ((tn + 1))), .ref m13, .int (nI sp), .int (nI pt), .ref m16, .ref m17, .ref m18, .ref m19])), (m0, .inl (cI, 380, .inl S)), (m13, .inl (cI, 30, .inl ((upd T tn (nI 10)))))]) := by
  refine zMi.start (cc := cX6_pantsAs) (maxL := 3) (rt := .int) (by first | decide | decide +kernel) rfl (Nat.le_of_ble_eq_true rfl) ?_
  intro pg ev s mt args below meth cd ls AA QQ ⟨hx, hb, hml, hr, hlocks, hown, hts, hK, hN, hZ, hP, hD, hA, hS, hl⟩ hret
  have hown : s.vm.findClass RX6 = some mt.cls := hown
  have hl : lv_has ls 3 [(0, .ref h), (1, .int (nI 3)), (2, .int x)] := hl
  have hin6 : ∀ w ∈ wsX60, w ∈ wsX6_pantsAs := fun w h => List.mem_cons_of_mem _ (List.mem_append_right _ (h))
  refine lv_iload_n hx hb dX6_pantsAs_0 rfl (lv_at hl 1 rfl) ?_
  refine lv_tableIn (off := 101) (tgt := 102) hx hb dX6_pantsAs_1 (by decide) (by decide) rfl (by decide) ?_
  refine lv_aload_n hx hb dX6_pantsAs_102 rfl (lv_at hl 0 rfl) ?_
  refine lv_iload_n hx hb dX6_pantsAs_103 rfl (lv_at hl 1 rfl) ?_
  refine zcsE (va_runS (As := [.int (nI 3)]) (rest := [.ref h]) ⟨hx, hb, hml, hown, hts⟩ (c_X6_above l D cI cJ 3 (by first | rfl | assumption | omega) s.heap.size) (va_cwS 1 hts gX6_pantsAs_X6_above rfl rfl rfl (by decide +kernel) ⟨Nat.le_of_ble_eq_true rfl, Nat.le_of_ble_eq_true rfl⟩) (zpS hK hN hZ hP hD hS hA [] rfl (by decide)) rfl rfl hl.1 rfl (lv_room (Nat.le_of_ble_eq_true rfl)) dX6_pantsAs_104 ⟨Nat.zero_le _, Nat.zero_le _⟩) ?_
  refine zrw (show nI (if 3 = 4 then 1 else if 3 = 5 then 2 else 0) = nI 0 from rfl) ?_
  refine lv_iload_n hx hb dX6_pantsAs_107 rfl (lv_at hl 2 rfl) ?_
  refine zci (wr := []) (va_runV (As := [.int (nI 0), .int x]) (rest := []) ⟨hx, hb, hml, hown, hts⟩ (c_X6_pantsAs_0 l D cI cJ h m0 m1 m2 m4 m9 m10 m11 m13 m16 m17 m18 m19 i3 i5 i6 i7 i8 S T tn sp pt x (by first | rfl | assumption | omega) s.heap.size) (cwV 2 hts gX6_pantsAs_X6_pantsAs rfl rfl rfl (by decide +kernel) ⟨Nat.le_of_ble_eq_true rfl, Nat.le_of_ble_eq_true rfl⟩) (zpV hK hN hZ hP hD hS hA [0, 1, 2] rfl (by decide) 0 rfl rfl rfl) rfl rfl hl.1 rfl (lv_room (Nat.le_of_ble_eq_true rfl)) dX6_pantsAs_108 ⟨Nat.zero_le _, Nat.zero_le _⟩) hP hD hS hA [0, 1, 2] [] rfl rfl (by decide) (by decide) (fun r_3 w_2 H locs h_1 hP hD hS => ?_)
  obtain ⟨rfl, rfl⟩ := h_1
  have hP : va_P D vwCl [(h, .inr (6, [.ref m0, .ref m1, .ref m2, .int i3, .ref m4, .int i5, .int i6, .int i7, .int i8, .ref m9, .ref m10, .ref m11, .int (nI ((tn + 1))), .ref m13, .int (nI sp), .int (nI pt), .ref m16, .ref m17, .ref m18, .ref m19])), (m0, .inl (cI, 380, .inl S)), (m13, .inl (cI, 30, .inl ((upd T tn (nI 10)))))] H := hP
  have hD : va_D AA [(h, .inr (6, [.ref m0, .ref m1, .ref m2, .int i3, .ref m4, .int i5, .int i6, .int i7, .int i8, .ref m9, .ref m10, .ref m11, .int (nI ((tn + 1))), .ref m13, .int (nI sp), .int (nI pt), .ref m16, .ref m17, .ref m18, .ref m19])), (m0, .inl (cI, 380, .inl S)), (m13, .inl (cI, 30, .inl ((upd T tn (nI 10)))))] := hD
  exact hret hP hD hS dX6_pantsAs_111 rfl (by exact ⟨rfl, rfl⟩)
set_option maxHeartbeats 4000000 in
set_option maxRecDepth 100000 in
theorem c_X6_pantsAs_4 (l : Launch) (D : va_G) (cI cJ : ClassId) (h : Nat) (m0 : Nat) (m1 : Nat) (m2 : Nat) (m4 : Nat) (m9 : Nat) (m10 : Nat) (m11 : Nat) (m13 : Nat) (m16 : Nat) (m17 : Nat) (m18 : Nat) (m19 : Nat) (i3 : Int32) (i5 : Int32) (i6 : Int32) (i7 : Int32) (i8 : Int32) (S : Nat → Int32) (T : Nat → Int32) (tn : Nat) (sp : Nat) (pt : Nat) (x : Int32) (htn : tn + 3 ≤ 30) : zMi l yX6_pantsAs wsX6_pantsAs ({ frames := 3, cells := 0, slots := 0, locals := 65 } : Room) D [(cI, .int), (cJ, .array .int)] [.ref h, .int (nI 4), .int x] [(h, .inr (6, [.ref m0, .ref m1, .ref m2, .int i3, .ref m4, .int i5, .int i6, .int i7, .int i8, .ref m9, .ref m10, .ref m11, .int (nI tn), .ref m13, .int (nI sp), .int (nI pt), .ref m16, .ref m17, .ref m18, .ref m19])), (m0, .inl (cI, 380, .inl S)), (m13, .inl (cI, 30, .inl T))] (fun r w => r = (zpants 4 sp x) ∧ w = [(h, .inr (6, [.ref m0, .ref m1, .ref m2, .int i3, .ref m4, .int i5, .int i6, .int i7, .int i8, .ref m9, .ref m10, .ref m11, .int (nI ((((tn + 1) + 1) + 1))), .ref m13, .int (nI sp), .int (nI pt), .ref m16, .ref m17, .ref m18, .ref m19])), (m0, .inl (cI, 380, .inl S)), (m13, .inl (cI, 30, .inl ((upd (upd (upd T tn (nI 50)) (tn + 1) (nI 20)) ((tn + 1) + 1) (nI 10)))))]) := by
  refine zMi.start (cc := cX6_pantsAs) (maxL := 3) (rt := .int) (by first | decide | decide +kernel) rfl (Nat.le_of_ble_eq_true rfl) ?_
  intro pg ev s mt args below meth cd ls AA QQ ⟨hx, hb, hml, hr, hlocks, hown, hts, hK, hN, hZ, hP, hD, hA, hS, hl⟩ hret
  have hown : s.vm.findClass RX6 = some mt.cls := hown
  have hl : lv_has ls 3 [(0, .ref h), (1, .int (nI 4)), (2, .int x)] := hl
  have hin6 : ∀ w ∈ wsX60, w ∈ wsX6_pantsAs := fun w h => List.mem_cons_of_mem _ (List.mem_append_right _ (h))
  refine lv_iload_n hx hb dX6_pantsAs_0 rfl (lv_at hl 1 rfl) ?_
  refine lv_tableIn (off := 74) (tgt := 75) hx hb dX6_pantsAs_1 (by decide) (by decide) rfl (by decide) ?_
  refine lv_aload_n hx hb dX6_pantsAs_75 rfl (lv_at hl 0 rfl) ?_
  refine lv_bipush (v := nI 50) hx hb dX6_pantsAs_76 (by decide) ?_
  refine zcv (wr := []) (va_runV (As := [.int (nI 50)]) (rest := []) ⟨hx, hb, hml, hown, hts⟩ (c_X6_begins l D cI cJ h m0 m1 m2 m4 m9 m10 m11 m13 m16 m17 m18 m19 i3 i5 i6 i7 i8 S T tn sp pt 50 (by first | rfl | assumption | omega) s.heap.size) (cwV 1 hts gX6_pantsAs_X6_begins rfl rfl rfl (by decide +kernel) ⟨Nat.le_of_ble_eq_true rfl, Nat.le_of_ble_eq_true rfl⟩) (zpV hK hN hZ hP hD hS hA [0, 1, 2] rfl (by decide) 0 rfl rfl rfl) rfl rfl hl.1 rfl (lv_room (Nat.le_of_ble_eq_true rfl)) dX6_pantsAs_78 ⟨Nat.zero_le _, Nat.zero_le _⟩) hP hD hS hA [0, 1, 2] [] rfl rfl (by decide) (by decide) (fun w_2 H locs h_1 hP hD hS => ?_)
  obtain rfl := h_1
  have hP : va_P D vwCl [(h, .inr (6, [.ref m0, .ref m1, .ref m2, .int i3, .ref m4, .int i5, .int i6, .int i7, .int i8, .ref m9, .ref m10, .ref m11, .int (nI ((tn + 1))), .ref m13, .int (nI sp), .int (nI pt), .ref m16, .ref m17, .ref m18, .ref m19])), (m0, .inl (cI, 380, .inl S)), (m13, .inl (cI, 30, .inl ((upd T tn (nI 50)))))] H := hP
  have hD : va_D AA [(h, .inr (6, [.ref m0, .ref m1, .ref m2, .int i3, .ref m4, .int i5, .int i6, .int i7, .int i8, .ref m9, .ref m10, .ref m11, .int (nI ((tn + 1))), .ref m13, .int (nI sp), .int (nI pt), .ref m16, .ref m17, .ref m18, .ref m19])), (m0, .inl (cI, 380, .inl S)), (m13, .inl (cI, 30, .inl ((upd T tn (nI 50)))))] := hD
  refine lv_aload_n hx hb dX6_pantsAs_81 rfl (lv_at hl 0 rfl) ?_
  refine lv_iconst (v := nI 4) hx hb dX6_pantsAs_82 (by decide) ?_
  refine zcsE (va_runS (As := [.int (nI 4)]) (rest := [.ref h]) ⟨hx, hb, hml, hown, hts⟩ (c_X6_above l D cI cJ 4 (by first | rfl | assumption | omega) H.size) (va_cwS 1 hts gX6_pantsAs_X6_above rfl rfl rfl (by decide +kernel) ⟨Nat.le_of_ble_eq_true rfl, Nat.le_of_ble_eq_true rfl⟩) (zpS hK hN hZ hP hD hS hA [] rfl (by decide)) rfl rfl hl.1 rfl (lv_room (Nat.le_of_ble_eq_true rfl)) dX6_pantsAs_83 ⟨Nat.zero_le _, Nat.zero_le _⟩) ?_
  refine zrw (show nI (if 4 = 4 then 1 else if 4 = 5 then 2 else 0) = nI 1 from rfl) ?_
  refine lv_iload_n hx hb dX6_pantsAs_86 rfl (lv_at hl 2 rfl) ?_
  refine zci (wr := []) (va_runV (As := [.int (nI 1), .int x]) (rest := []) ⟨hx, hb, hml, hown, hts⟩ (c_X6_pantsAs_1 l D cI cJ h m0 m1 m2 m4 m9 m10 m11 m13 m16 m17 m18 m19 i3 i5 i6 i7 i8 S ((upd T tn (nI 50))) ((tn + 1)) sp pt x (by first | rfl | assumption | omega) H.size) (cwV 2 hts gX6_pantsAs_X6_pantsAs rfl rfl rfl (by decide +kernel) ⟨Nat.le_of_ble_eq_true rfl, Nat.le_of_ble_eq_true rfl⟩) (zpV hK hN hZ hP hD hS hA [0, 1, 2] rfl (by decide) 0 rfl rfl rfl) rfl rfl hl.1 rfl (lv_room (Nat.le_of_ble_eq_true rfl)) dX6_pantsAs_87 ⟨Nat.zero_le _, Nat.zero_le _⟩) hP hD hS hA [0, 1, 2] [] rfl rfl (by decide) (by decide) (fun r_5 w_4 H locs h_3 hP hD hS => ?_)
  obtain ⟨rfl, rfl⟩ := h_3
  have hP : va_P D vwCl [(h, .inr (6, [.ref m0, .ref m1, .ref m2, .int i3, .ref m4, .int i5, .int i6, .int i7, .int i8, .ref m9, .ref m10, .ref m11, .int (nI (((((tn + 1)) + 1) + 1))), .ref m13, .int (nI sp), .int (nI pt), .ref m16, .ref m17, .ref m18, .ref m19])), (m0, .inl (cI, 380, .inl S)), (m13, .inl (cI, 30, .inl ((upd (upd ((upd T tn (nI 50))) ((tn + 1)) (nI 20)) (((tn + 1)) + 1) (nI 10)))))] H := hP
  have hD : va_D AA [(h, .inr (6, [.ref m0, .ref m1, .ref m2, .int i3, .ref m4, .int i5, .int i6, .int i7, .int i8, .ref m9, .ref m10, .ref m11, .int (nI (((((tn + 1)) + 1) + 1))), .ref m13, .int (nI sp), .int (nI pt), .ref m16, .ref m17, .ref m18, .ref m19])), (m0, .inl (cI, 380, .inl S)), (m13, .inl (cI, 30, .inl ((upd (upd ((upd T tn (nI 50))) ((tn + 1)) (nI 20)) (((tn + 1)) + 1) (nI 10)))))] := hD
  refine lv_iconst (v := nI 3) hx hb dX6_pantsAs_90 (by decide) ?_
  refine lv_imul hx hb dX6_pantsAs_91 ?_
  exact hret hP hD hS dX6_pantsAs_92 rfl (by exact ⟨rfl, rfl⟩)
set_option maxHeartbeats 4000000 in
set_option maxRecDepth 100000 in
theorem c_X6_pantsAs_5 (l : Launch) (D : va_G) (cI cJ : ClassId) (h : Nat) (m0 : Nat) (m1 : Nat) (m2 : Nat) (m4 : Nat) (m9 : Nat) (m10 : Nat) (m11 : Nat) (m13 : Nat) (m16 : Nat) (m17 : Nat) (m18 : Nat) (m19 : Nat) (i3 : Int32) (i5 : Int32) (i6 : Int32) (i7 : Int32) (i8 : Int32) (S : Nat → Int32) (T : Nat → Int32) (tn : Nat) (sp : Nat) (pt : Nat) (x : Int32) (htn : tn + 1 ≤ 30) : zMi l yX6_pantsAs wsX6_pantsAs ({ frames := 3, cells := 0, slots := 0, locals := 65 } : Room) D [(cI, .int), (cJ, .array .int)] [.ref h, .int (nI 5), .int x] [(h, .inr (6, [.ref m0, .ref m1, .ref m2, .int i3, .ref m4, .int i5, .int i6, .int i7, .int i8, .ref m9, .ref m10, .ref m11, .int (nI tn), .ref m13, .int (nI sp), .int (nI pt), .ref m16, .ref m17, .ref m18, .ref m19])), (m0, .inl (cI, 380, .inl S)), (m13, .inl (cI, 30, .inl T))] (fun r w => r = (zpants 5 sp x) ∧ w = [(h, .inr (6, [.ref m0, .ref m1, .ref m2, .int i3, .ref m4, .int i5, .int i6, .int i7, .int i8, .ref m9, .ref m10, .ref m11, .int (nI ((tn + 1))), .ref m13, .int (nI sp), .int (nI pt), .ref m16, .ref m17, .ref m18, .ref m19])), (m0, .inl (cI, 380, .inl S)), (m13, .inl (cI, 30, .inl ((upd T tn (nI 10)))))]) := by
  refine zMi.start (cc := cX6_pantsAs) (maxL := 3) (rt := .int) (by first | decide | decide +kernel) rfl (Nat.le_of_ble_eq_true rfl) ?_
  intro pg ev s mt args below meth cd ls AA QQ ⟨hx, hb, hml, hr, hlocks, hown, hts, hK, hN, hZ, hP, hD, hA, hS, hl⟩ hret
  have hown : s.vm.findClass RX6 = some mt.cls := hown
  have hl : lv_has ls 3 [(0, .ref h), (1, .int (nI 5)), (2, .int x)] := hl
  have hin6 : ∀ w ∈ wsX60, w ∈ wsX6_pantsAs := fun w h => List.mem_cons_of_mem _ (List.mem_append_right _ (h))
  refine lv_iload_n hx hb dX6_pantsAs_0 rfl (lv_at hl 1 rfl) ?_
  refine lv_tableIn (off := 101) (tgt := 102) hx hb dX6_pantsAs_1 (by decide) (by decide) rfl (by decide) ?_
  refine lv_aload_n hx hb dX6_pantsAs_102 rfl (lv_at hl 0 rfl) ?_
  refine lv_iload_n hx hb dX6_pantsAs_103 rfl (lv_at hl 1 rfl) ?_
  refine zcsE (va_runS (As := [.int (nI 5)]) (rest := [.ref h]) ⟨hx, hb, hml, hown, hts⟩ (c_X6_above l D cI cJ 5 (by first | rfl | assumption | omega) s.heap.size) (va_cwS 1 hts gX6_pantsAs_X6_above rfl rfl rfl (by decide +kernel) ⟨Nat.le_of_ble_eq_true rfl, Nat.le_of_ble_eq_true rfl⟩) (zpS hK hN hZ hP hD hS hA [] rfl (by decide)) rfl rfl hl.1 rfl (lv_room (Nat.le_of_ble_eq_true rfl)) dX6_pantsAs_104 ⟨Nat.zero_le _, Nat.zero_le _⟩) ?_
  refine zrw (show nI (if 5 = 4 then 1 else if 5 = 5 then 2 else 0) = nI 2 from rfl) ?_
  refine lv_iload_n hx hb dX6_pantsAs_107 rfl (lv_at hl 2 rfl) ?_
  refine zci (wr := []) (va_runV (As := [.int (nI 2), .int x]) (rest := []) ⟨hx, hb, hml, hown, hts⟩ (c_X6_pantsAs_2 l D cI cJ h m0 m1 m2 m4 m9 m10 m11 m13 m16 m17 m18 m19 i3 i5 i6 i7 i8 S T tn sp pt x (by first | rfl | assumption | omega) s.heap.size) (cwV 2 hts gX6_pantsAs_X6_pantsAs rfl rfl rfl (by decide +kernel) ⟨Nat.le_of_ble_eq_true rfl, Nat.le_of_ble_eq_true rfl⟩) (zpV hK hN hZ hP hD hS hA [0, 1, 2] rfl (by decide) 0 rfl rfl rfl) rfl rfl hl.1 rfl (lv_room (Nat.le_of_ble_eq_true rfl)) dX6_pantsAs_108 ⟨Nat.zero_le _, Nat.zero_le _⟩) hP hD hS hA [0, 1, 2] [] rfl rfl (by decide) (by decide) (fun r_3 w_2 H locs h_1 hP hD hS => ?_)
  obtain ⟨rfl, rfl⟩ := h_1
  have hP : va_P D vwCl [(h, .inr (6, [.ref m0, .ref m1, .ref m2, .int i3, .ref m4, .int i5, .int i6, .int i7, .int i8, .ref m9, .ref m10, .ref m11, .int (nI ((tn + 1))), .ref m13, .int (nI sp), .int (nI pt), .ref m16, .ref m17, .ref m18, .ref m19])), (m0, .inl (cI, 380, .inl S)), (m13, .inl (cI, 30, .inl ((upd T tn (nI 10)))))] H := hP
  have hD : va_D AA [(h, .inr (6, [.ref m0, .ref m1, .ref m2, .int i3, .ref m4, .int i5, .int i6, .int i7, .int i8, .ref m9, .ref m10, .ref m11, .int (nI ((tn + 1))), .ref m13, .int (nI sp), .int (nI pt), .ref m16, .ref m17, .ref m18, .ref m19])), (m0, .inl (cI, 380, .inl S)), (m13, .inl (cI, 30, .inl ((upd T tn (nI 10)))))] := hD
  exact hret hP hD hS dX6_pantsAs_111 rfl (by exact ⟨rfl, rfl⟩)
set_option maxHeartbeats 4000000 in
set_option maxRecDepth 100000 in
theorem c_X6_pantsAs_6 (l : Launch) (D : va_G) (cI cJ : ClassId) (h : Nat) (m0 : Nat) (m1 : Nat) (m2 : Nat) (m4 : Nat) (m9 : Nat) (m10 : Nat) (m11 : Nat) (m13 : Nat) (m16 : Nat) (m17 : Nat) (m18 : Nat) (m19 : Nat) (i3 : Int32) (i5 : Int32) (i6 : Int32) (i7 : Int32) (i8 : Int32) (S : Nat → Int32) (T : Nat → Int32) (tn : Nat) (sp : Nat) (pt : Nat) (x : Int32) (htn : tn + 1 ≤ 30) : zMi l yX6_pantsAs wsX6_pantsAs ({ frames := 1, cells := 0, slots := 0, locals := 21 } : Room) D [(cI, .int), (cJ, .array .int)] [.ref h, .int (nI 6), .int x] [(h, .inr (6, [.ref m0, .ref m1, .ref m2, .int i3, .ref m4, .int i5, .int i6, .int i7, .int i8, .ref m9, .ref m10, .ref m11, .int (nI tn), .ref m13, .int (nI sp), .int (nI pt), .ref m16, .ref m17, .ref m18, .ref m19])), (m0, .inl (cI, 380, .inl S)), (m13, .inl (cI, 30, .inl T))] (fun r w => r = (zpants 6 sp x) ∧ w = [(h, .inr (6, [.ref m0, .ref m1, .ref m2, .int i3, .ref m4, .int i5, .int i6, .int i7, .int i8, .ref m9, .ref m10, .ref m11, .int (nI ((tn + 1))), .ref m13, .int (nI sp), .int (nI pt), .ref m16, .ref m17, .ref m18, .ref m19])), (m0, .inl (cI, 380, .inl S)), (m13, .inl (cI, 30, .inl ((upd T tn (nI 70)))))]) := by
  refine zMi.start (cc := cX6_pantsAs) (maxL := 3) (rt := .int) (by first | decide | decide +kernel) rfl (Nat.le_of_ble_eq_true rfl) ?_
  intro pg ev s mt args below meth cd ls AA QQ ⟨hx, hb, hml, hr, hlocks, hown, hts, hK, hN, hZ, hP, hD, hA, hS, hl⟩ hret
  have hown : s.vm.findClass RX6 = some mt.cls := hown
  have hl : lv_has ls 3 [(0, .ref h), (1, .int (nI 6)), (2, .int x)] := hl
  have hin6 : ∀ w ∈ wsX60, w ∈ wsX6_pantsAs := fun w h => List.mem_cons_of_mem _ (List.mem_append_right _ (h))
  refine lv_iload_n hx hb dX6_pantsAs_0 rfl (lv_at hl 1 rfl) ?_
  refine lv_tableIn (off := 92) (tgt := 93) hx hb dX6_pantsAs_1 (by decide) (by decide) rfl (by decide) ?_
  refine lv_aload_n hx hb dX6_pantsAs_93 rfl (lv_at hl 0 rfl) ?_
  refine lv_bipush (v := nI 70) hx hb dX6_pantsAs_94 (by decide) ?_
  refine zcv (wr := []) (va_runV (As := [.int (nI 70)]) (rest := []) ⟨hx, hb, hml, hown, hts⟩ (c_X6_begins l D cI cJ h m0 m1 m2 m4 m9 m10 m11 m13 m16 m17 m18 m19 i3 i5 i6 i7 i8 S T tn sp pt 70 (by first | rfl | assumption | omega) s.heap.size) (cwV 1 hts gX6_pantsAs_X6_begins rfl rfl rfl (by decide +kernel) ⟨Nat.le_of_ble_eq_true rfl, Nat.le_of_ble_eq_true rfl⟩) (zpV hK hN hZ hP hD hS hA [0, 1, 2] rfl (by decide) 0 rfl rfl rfl) rfl rfl hl.1 rfl (lv_room (Nat.le_of_ble_eq_true rfl)) dX6_pantsAs_96 ⟨Nat.zero_le _, Nat.zero_le _⟩) hP hD hS hA [0, 1, 2] [] rfl rfl (by decide) (by decide) (fun w_2 H locs h_1 hP hD hS => ?_)
  obtain rfl := h_1
  have hP : va_P D vwCl [(h, .inr (6, [.ref m0, .ref m1, .ref m2, .int i3, .ref m4, .int i5, .int i6, .int i7, .int i8, .ref m9, .ref m10, .ref m11, .int (nI ((tn + 1))), .ref m13, .int (nI sp), .int (nI pt), .ref m16, .ref m17, .ref m18, .ref m19])), (m0, .inl (cI, 380, .inl S)), (m13, .inl (cI, 30, .inl ((upd T tn (nI 70)))))] H := hP
  have hD : va_D AA [(h, .inr (6, [.ref m0, .ref m1, .ref m2, .int i3, .ref m4, .int i5, .int i6, .int i7, .int i8, .ref m9, .ref m10, .ref m11, .int (nI ((tn + 1))), .ref m13, .int (nI sp), .int (nI pt), .ref m16, .ref m17, .ref m18, .ref m19])), (m0, .inl (cI, 380, .inl S)), (m13, .inl (cI, 30, .inl ((upd T tn (nI 70)))))] := hD
  refine lv_bipush (v := nI 9) hx hb dX6_pantsAs_99 (by decide) ?_
  exact hret hP hD hS dX6_pantsAs_101 rfl (by exact ⟨rfl, rfl⟩)
