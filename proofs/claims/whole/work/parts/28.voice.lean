
def zo_body (S E T : Nat → Int32) (tn : Nat) (i : Int32) : zOut := if zin i tn then (T i.toNatClampNeg, S, E) else zerrE 2 S E
set_option maxHeartbeats 4000000 in
set_option maxRecDepth 100000 in
theorem c_X6_body (l : Launch) (D : va_G) (cI cJ : ClassId) (h : Nat) (hE : Nat) (fs : List Value) (S : Nat → Int32) (E : Nat → Int32) (hT9 : Nat) (T : Nat → Int32) (tn : Nat) (i : Int32) (hf4 : fs[4]? = some (.ref hE)) (hf12 : fs[12]? = some (.int (nI tn))) (hf13 : fs[13]? = some (.ref hT9)) (htn : tn ≤ 30) : zMi l yX6_body wsX6_body ({ frames := 1, cells := 0, slots := 0, locals := 22 } : Room) D [(cI, .int), (cJ, .array .int)] [.ref h, .int i] [(h, .inr (6, fs)), (hE, .inl (cI, 7, .inl E)), (hT9, .inl (cI, 30, .inl T))] (fun r w => r = (zo_body S E T tn i).1 ∧ w = [(h, .inr (6, fs)), (hE, .inl (cI, 7, .inl ((zo_body S E T tn i).2.2))), (hT9, .inl (cI, 30, .inl T))]) := by
  refine zMi.start (cc := cX6_body) (maxL := 2) (rt := .int) (by first | decide | decide +kernel) rfl (Nat.le_of_ble_eq_true rfl) ?_
  intro pg ev s mt args below meth cd ls AA QQ ⟨hx, hb, hml, hr, hlocks, hown, hts, hK, hN, hZ, hP, hD, hA, hS, hl⟩ hret
  have hown : s.vm.findClass RX6 = some mt.cls := hown
  have hl : lv_has ls 2 [(0, .ref h), (1, .int i)] := hl
  have hin6 : ∀ w ∈ wsX60, w ∈ wsX6_body := fun w h => List.mem_cons_of_mem _ (List.mem_append_right _ (h))
  refine lv_iload_n hx hb dX6_body_0 rfl (lv_at hl 1 rfl) ?_
  refine lv_iconst (v := nI 0) hx hb dX6_body_1 (by decide) ?_
  refine lv_aload_n hx hb dX6_body_2 rfl (lv_at hl 0 rfl) ?_
  refine va_get (ci := 6) (v := .int (nI tn)) (C := RX6) (T := TX6) (N := 20) hx hb hts hin6 hown hK hP 0 rfl rfl 12 (by decide) (hts (.fieldLink RX6 205 "UpAllRoundModel" "traced" "I") (List.mem_of_getElem? (i := 1) rfl)) (fun _ h9 => h9) hf12 dX6_body_3 ?_
  refine lv_iconst (v := nI 1) hx hb dX6_body_6 (by decide) ?_
  refine lv_isub hx hb dX6_body_7 ?_
  refine zcsE (va_runS (As := [.int i, .int (nI 0), .int ((nI tn) - (nI 1))]) (rest := []) ⟨hx, hb, hml, hown, hts⟩ (d_X6_in l D cI cJ i (nI 0) ((nI tn) - (nI 1)) 0 (((tn : Int) - 1)) (by decide) (zpred_toInt (by omega)) s.heap.size) (va_cwS 3 hts gX6_body_X6_in rfl rfl rfl (by decide +kernel) ⟨Nat.le_of_ble_eq_true rfl, Nat.le_of_ble_eq_true rfl⟩) (zpS hK hN hZ hP hD hS hA [] rfl (by decide)) rfl rfl hl.1 rfl (lv_room (Nat.le_of_ble_eq_true rfl)) dX6_body_8 ⟨Nat.zero_le _, Nat.zero_le _⟩) ?_
  refine lv_if_eq (tgt := 23) hx hb dX6_body_11 (by decide) (fun c11_1 => ?_) (fun c11_1 => ?_)
  · have c11_1 := bI_0.mp c11_1
    have c11_1 : ¬ zin i tn := fun h9 => c11_1 (zin_rg.mpr h9)
    refine lv_aload_n hx hb dX6_body_23 rfl (lv_at hl 0 rfl) ?_
    refine lv_iconst (v := nI 2) hx hb dX6_body_24 (by decide) ?_
    refine zci (wr := [(hT9, .inl (cI, 30, .inl T))]) (va_runV (As := [.int (nI 2)]) (rest := []) ⟨hx, hb, hml, hown, hts⟩ (c_X6_error l D cI cJ h hE fs E 2 (by first | rfl | assumption | omega) (by first | rfl | assumption | omega) s.heap.size) (cwV 1 hts gX6_body_X6_error rfl rfl rfl (by decide +kernel) ⟨Nat.le_of_ble_eq_true rfl, Nat.le_of_ble_eq_true rfl⟩) (zpV hK hN hZ hP hD hS hA [0, 1] rfl (by decide) 0 rfl rfl rfl) rfl rfl hl.1 rfl (lv_room (Nat.le_of_ble_eq_true rfl)) dX6_body_25 ⟨Nat.zero_le _, Nat.zero_le _⟩) hP hD hS hA [0, 1] [2] rfl rfl (by decide) (by decide) (fun r_4 w_3 H locs h_2 hP hD hS => ?_)
    obtain ⟨rfl, rfl⟩ := h_2
    have hP : va_P D vwCl [(hT9, .inl (cI, 30, .inl T)), (h, .inr (6, fs)), (hE, .inl (cI, 7, .inl (upd E 2 (E 2 + nI 1))))] H := hP
    have hD : va_D AA [(hT9, .inl (cI, 30, .inl T)), (h, .inr (6, fs)), (hE, .inl (cI, 7, .inl (upd E 2 (E 2 + nI 1))))] := hD
    have hP := hP.sub (ws' := [(h, .inr (6, fs)), (hE, .inl (cI, 7, .inl (upd E 2 (E 2 + nI 1)))), (hT9, .inl (cI, 30, .inl T))]) [1, 2, 0] rfl
    have hD := hD.sub (ws' := [(h, .inr (6, fs)), (hE, .inl (cI, 7, .inl (upd E 2 (E 2 + nI 1)))), (hT9, .inl (cI, 30, .inl T))]) [1, 2, 0] (by decide) rfl
    exact hret hP hD hS dX6_body_28 rfl (by rw [show zo_body S E T tn i = zerrE 2 S E from if_neg (by assumption)]; exact ⟨rfl, rfl⟩)
  · have c11_1 := bI_n0.mp c11_1
    have c11_1 := zin_rg.mp c11_1
    obtain ⟨q, h_q, rfl⟩ := zin_of c11_1 (by omega)
    refine lv_aload_n hx hb dX6_body_14 rfl (lv_at hl 0 rfl) ?_
    refine va_get (ci := 6) (v := .ref hT9) (C := RX6) (T := TX6) (N := 20) hx hb hts hin6 hown hK hP 0 rfl rfl 13 (by decide) (hts (.fieldLink RX6 31 "UpAllRoundModel" "trace" "[I") (List.mem_of_getElem? (i := 2) rfl)) (fun _ h9 => h9) hf13 dX6_body_15 ?_
    refine lv_iload_n hx hb dX6_body_18 rfl (lv_at hl 1 rfl) ?_
    refine zald (t := q) hx hb hK hP 2 rfl (by omega) (by decide) dX6_body_19 ?_
    refine lv_goto (tgt := 28) hx hb dX6_body_20 (by decide) ?_
    exact hret hP hD hS dX6_body_28 rfl (by rw [show zo_body S E T tn (nI q) = (T q, S, E) from by rw [zo_body, if_pos (by assumption), nI_clamp (show q < 2147483648 by omega)]]; exact ⟨rfl, rfl⟩)
set_option maxHeartbeats 4000000 in
set_option maxRecDepth 100000 in
theorem c_X5_body (l : Launch) (D : va_G) (cI cJ : ClassId) (h : Nat) (hE : Nat) (hV : Nat) (fs : List Value) (fv : List Value) (S : Nat → Int32) (E : Nat → Int32) (hT9 : Nat) (T : Nat → Int32) (tn : Nat) (i : Int32) (hU4 : fs[4]? = some (.ref hV)) (hU7 : fs[7]? = some (.ref hE)) (hV0 : fv[0]? = some (.ref hT9)) (hV1 : fv[1]? = some (.int (nI tn))) (htn : tn ≤ 30) : zMi l yX5_body wsX5_body ({ frames := 1, cells := 0, slots := 0, locals := 22 } : Room) D [(cI, .int), (cJ, .array .int)] [.ref h, .int i] [(h, .inr (5, fs)), (hV, .inr (4, fv)), (hT9, .inl (cI, 30, .inl T)), (hE, .inl (cI, 7, .inl E))] (fun r w => r = (zo_body S E T tn i).1 ∧ w = [(h, .inr (5, fs)), (hV, .inr (4, fv)), (hT9, .inl (cI, 30, .inl T)), (hE, .inl (cI, 7, .inl ((zo_body S E T tn i).2.2)))]) := by
  refine zMi.start (cc := cX5_body) (maxL := 2) (rt := .int) (by first | decide | decide +kernel) rfl (Nat.le_of_ble_eq_true rfl) ?_
  intro pg ev s mt args below meth cd ls AA QQ ⟨hx, hb, hml, hr, hlocks, hown, hts, hK, hN, hZ, hP, hD, hA, hS, hl⟩ hret
  have hown : s.vm.findClass RX5 = some mt.cls := hown
  have hl : lv_has ls 2 [(0, .ref h), (1, .int i)] := hl
  have hin4 : ∀ w ∈ wsX40, w ∈ wsX5_body := fun w h => List.mem_cons_of_mem _ (List.mem_append_right _ (h))
  have hin5 : ∀ w ∈ wsX50, w ∈ wsX5_body := fun w h => List.mem_cons_of_mem _ (List.mem_append_left _ (List.mem_append_right _ (h)))
  refine lv_iload_n hx hb dX5_body_0 rfl (lv_at hl 1 rfl) ?_
  refine lv_iconst (v := nI 0) hx hb dX5_body_1 (by decide) ?_
  refine lv_aload_n hx hb dX5_body_2 rfl (lv_at hl 0 rfl) ?_
  refine va_get (ci := 5) (v := .ref hV) (C := RX5) (T := TX5) (N := 9) hx hb hts hin5 hown hK hP 0 rfl rfl 4 (by decide) (hts (.fieldLink RX5 32 "UpAllRound" "voices" "LUpAllRound$Voices;") (List.mem_of_getElem? (i := 1) rfl)) (fun _ h9 => h9) hU4 dX5_body_3 ?_
  refine va_getN (ci := 4) (v := .int (nI tn)) (C := RX4) (T := TX4) (N := 6) hx hb hts hin4 hown hK hP 1 rfl rfl 1 (by decide) (va_Nw.use rfl (hN (.fieldLinkNest "UpAllRound" 225 "UpAllRound$Voices" "traced" "I" "UpAllRound") (List.mem_of_getElem? (i := 17) rfl))) (fun _ h9 => h9) hV1 dX5_body_6 ?_
  refine lv_iconst (v := nI 1) hx hb dX5_body_9 (by decide) ?_
  refine lv_isub hx hb dX5_body_10 ?_
  refine zcsE (va_runS (As := [.int i, .int (nI 0), .int ((nI tn) - (nI 1))]) (rest := []) ⟨hx, hb, hml, hown, hts⟩ (d_X5_isOutside l D cI cJ i (nI 0) ((nI tn) - (nI 1)) 0 (((tn : Int) - 1)) (by decide) (zpred_toInt (by omega)) s.heap.size) (va_cwS 3 hts gX5_body_X5_isOutside rfl rfl rfl (by decide +kernel) ⟨Nat.le_of_ble_eq_true rfl, Nat.le_of_ble_eq_true rfl⟩) (zpS hK hN hZ hP hD hS hA [] rfl (by decide)) rfl rfl hl.1 rfl (lv_room (Nat.le_of_ble_eq_true rfl)) dX5_body_11 ⟨Nat.zero_le _, Nat.zero_le _⟩) ?_
  refine lv_if_eq (tgt := 23) hx hb dX5_body_14 (by decide) (fun c14_1 => ?_) (fun c14_1 => ?_)
  · have c14_1 := bI_nX0.mp c14_1
    have c14_1 := zin_rg.mp c14_1
    obtain ⟨q, h_q, rfl⟩ := zin_of c14_1 (by omega)
    refine lv_aload_n hx hb dX5_body_23 rfl (lv_at hl 0 rfl) ?_
    refine va_get (ci := 5) (v := .ref hV) (C := RX5) (T := TX5) (N := 9) hx hb hts hin5 hown hK hP 0 rfl rfl 4 (by decide) (hts (.fieldLink RX5 32 "UpAllRound" "voices" "LUpAllRound$Voices;") (List.mem_of_getElem? (i := 1) rfl)) (fun _ h9 => h9) hU4 dX5_body_24 ?_
    refine va_getN (ci := 4) (v := .ref hT9) (C := RX4) (T := TX4) (N := 6) hx hb hts hin4 hown hK hP 1 rfl rfl 0 (by decide) (va_Nw.use rfl (hN (.fieldLinkNest "UpAllRound" 228 "UpAllRound$Voices" "trace" "[I" "UpAllRound") (List.mem_of_getElem? (i := 16) rfl))) (fun _ h9 => h9) hV0 dX5_body_27 ?_
    refine lv_iload_n hx hb dX5_body_30 rfl (lv_at hl 1 rfl) ?_
    refine zald (t := q) hx hb hK hP 2 rfl (by omega) (by decide) dX5_body_31 ?_
    exact hret hP hD hS dX5_body_32 rfl (by rw [show zo_body S E T tn (nI q) = (T q, S, E) from by rw [zo_body, if_pos (by assumption), nI_clamp (show q < 2147483648 by omega)]]; exact ⟨rfl, rfl⟩)
  · have c14_1 := bI_nn0.mp c14_1
    have c14_1 : ¬ zin i tn := fun h9 => c14_1 (zin_rg.mpr h9)
    refine lv_aload_n hx hb dX5_body_17 rfl (lv_at hl 0 rfl) ?_
    refine lv_iconst (v := nI 2) hx hb dX5_body_18 (by decide) ?_
    refine zci (wr := [(hV, .inr (4, fv)), (hT9, .inl (cI, 30, .inl T))]) (va_runV (As := [.int (nI 2)]) (rest := []) ⟨hx, hb, hml, hown, hts⟩ (c_X5_refuse l D cI cJ h hE fs E 2 (by first | rfl | assumption | omega) (by first | rfl | assumption | omega) s.heap.size) (cwV 1 hts gX5_body_X5_refuse rfl rfl rfl (by decide +kernel) ⟨Nat.le_of_ble_eq_true rfl, Nat.le_of_ble_eq_true rfl⟩) (zpV hK hN hZ hP hD hS hA [0, 3] rfl (by decide) 0 rfl rfl rfl) rfl rfl hl.1 rfl (lv_room (Nat.le_of_ble_eq_true rfl)) dX5_body_19 ⟨Nat.zero_le _, Nat.zero_le _⟩) hP hD hS hA [0, 3] [1, 2] rfl rfl (by decide) (by decide) (fun r_4 w_3 H locs h_2 hP hD hS => ?_)
    obtain ⟨rfl, rfl⟩ := h_2
    have hP : va_P D vwCl [(hV, .inr (4, fv)), (hT9, .inl (cI, 30, .inl T)), (h, .inr (5, fs)), (hE, .inl (cI, 7, .inl (upd E 2 (E 2 + nI 1))))] H := hP
    have hD : va_D AA [(hV, .inr (4, fv)), (hT9, .inl (cI, 30, .inl T)), (h, .inr (5, fs)), (hE, .inl (cI, 7, .inl (upd E 2 (E 2 + nI 1))))] := hD
    have hP := hP.sub (ws' := [(h, .inr (5, fs)), (hV, .inr (4, fv)), (hT9, .inl (cI, 30, .inl T)), (hE, .inl (cI, 7, .inl (upd E 2 (E 2 + nI 1))))]) [2, 0, 1, 3] rfl
    have hD := hD.sub (ws' := [(h, .inr (5, fs)), (hV, .inr (4, fv)), (hT9, .inl (cI, 30, .inl T)), (hE, .inl (cI, 7, .inl (upd E 2 (E 2 + nI 1))))]) [2, 0, 1, 3] (by decide) rfl
    exact hret hP hD hS dX5_body_22 rfl (by rw [show zo_body S E T tn i = zerrE 2 S E from if_neg (by assumption)]; exact ⟨rfl, rfl⟩)
