
def zfst (P : Nat → Prop) [DecidablePred P] : Nat → Nat → Int32
  | 0, _ => 0
  | f + 1, i => if P i then zfst P f (i + 1) else nI 1 + nI i
theorem zfst_p {P : Nat → Prop} [DecidablePred P] {f i : Nat} (h : P i) : zfst P (f + 1) i = zfst P f (i + 1) := if_pos h
theorem zfst_n {P : Nat → Prop} [DecidablePred P] {f i : Nat} (h : ¬ P i) : zfst P (f + 1) i = nI 1 + nI i := if_neg h
theorem zpr_w {S : Nat → Int32} {c0 j : Nat} {v x : Int32} {q : Nat} (hq : ∀ i, c0 + i ≠ q) : upd (fun i => S (c0 + i)) j v = fun i => upd (upd S (c0 + j) v) q x (c0 + i) := by
  funext i
  rw [zupd_n (hq i)]
  exact congrFun zpr_c i
def zo_tell (S E : Nat → Int32) (n k : Nat) (v : Int32) : zOut := if S 5 = nI 24 then zerrE 4 S E else (nI ((S 5).toNatClampNeg + 1), upd (upd S (356 + (S 5).toNatClampNeg) v) 5 (nI ((S 5).toNatClampNeg + 1)), E)
set_option maxHeartbeats 4000000 in
set_option maxRecDepth 100000 in
theorem c_X6_tell (l : Launch) (D : va_G) (cI cJ : ClassId) (h : Nat) (hs : Nat) (hE : Nat) (fs : List Value) (S : Nat → Int32) (E : Nat → Int32) (n : Nat) (k : Nat) (wt : Nat) (v : Int32) (hf0 : fs[0]? = some (.ref hs)) (hf4 : fs[4]? = some (.ref hE)) (hn1 : S 1 = nI n) (hk6 : S 6 = nI k) (hn4 : 4 ≤ n) (hn14 : n ≤ 14) (hkle : k ≤ 6) (hwt : S 5 = nI wt) (hwt24 : wt ≤ 24) : zMi l yX6_tell wsX6_tell ({ frames := 1, cells := 0, slots := 0, locals := 21 } : Room) D [(cI, .int), (cJ, .array .int)] [.ref h, .int v] [(h, .inr (6, fs)), (hs, .inl (cI, 380, .inl S)), (hE, .inl (cI, 7, .inl E))] (fun r w => r = (zo_tell S E n k v).1 ∧ w = [(h, .inr (6, fs)), (hs, .inl (cI, 380, .inl ((zo_tell S E n k v).2.1))), (hE, .inl (cI, 7, .inl ((zo_tell S E n k v).2.2)))]) := by
  refine zMi.start (cc := cX6_tell) (maxL := 2) (rt := .int) (by first | decide | decide +kernel) rfl (Nat.le_of_ble_eq_true rfl) ?_
  intro pg ev s mt args below meth cd ls AA QQ ⟨hx, hb, hml, hr, hlocks, hown, hts, hK, hN, hZ, hP, hD, hA, hS, hl⟩ hret
  have hown : s.vm.findClass RX6 = some mt.cls := hown
  have hl : lv_has ls 2 [(0, .ref h), (1, .int v)] := hl
  have hin6 : ∀ w ∈ wsX60, w ∈ wsX6_tell := fun w h => List.mem_cons_of_mem _ (List.mem_append_right _ (h))
  refine lv_aload_n hx hb dX6_tell_0 rfl (lv_at hl 0 rfl) ?_
  refine va_get (ci := 6) (v := .ref hs) (C := RX6) (T := TX6) (N := 20) hx hb hts hin6 hown hK hP 0 rfl rfl 0 (by decide) (hts (.fieldLink RX6 7 "UpAllRoundModel" "s" "[I") (List.mem_of_getElem? (i := 1) rfl)) (fun _ h9 => h9) hf0 dX6_tell_1 ?_
  refine lv_iconst (v := nI 5) hx hb dX6_tell_4 (by decide) ?_
  refine zald (t := 5) hx hb hK hP 1 rfl (by omega) (by decide) dX6_tell_5 ?_
  refine zrw hwt ?_
  refine lv_bipush (v := nI 24) hx hb dX6_tell_6 (by decide) ?_
  refine lv_icmp_ne (tgt := 17) hx hb dX6_tell_8 (by decide) (fun c8_1 => ?_) (fun c8_1 => ?_)
  · have c8_1 : ¬ (wt = 24) := fun h9 => c8_1 ((nI_eq (a := wt) (b := 24) (by omega) (by omega)).mpr h9)
    refine lv_aload_n hx hb dX6_tell_17 rfl (lv_at hl 0 rfl) ?_
    refine va_get (ci := 6) (v := .ref hs) (C := RX6) (T := TX6) (N := 20) hx hb hts hin6 hown hK hP 0 rfl rfl 0 (by decide) (hts (.fieldLink RX6 7 "UpAllRoundModel" "s" "[I") (List.mem_of_getElem? (i := 1) rfl)) (fun _ h9 => h9) hf0 dX6_tell_18 ?_
    refine lv_sipush (v := nI 356) hx hb dX6_tell_21 (by decide) ?_
    refine lv_aload_n hx hb dX6_tell_24 rfl (lv_at hl 0 rfl) ?_
    refine va_get (ci := 6) (v := .ref hs) (C := RX6) (T := TX6) (N := 20) hx hb hts hin6 hown hK hP 0 rfl rfl 0 (by decide) (hts (.fieldLink RX6 7 "UpAllRoundModel" "s" "[I") (List.mem_of_getElem? (i := 1) rfl)) (fun _ h9 => h9) hf0 dX6_tell_25 ?_
    refine lv_iconst (v := nI 5) hx hb dX6_tell_28 (by decide) ?_
    refine zald (t := 5) hx hb hK hP 1 rfl (by omega) (by decide) dX6_tell_29 ?_
    refine zrw hwt ?_
    refine lv_iadd hx hb dX6_tell_30 ?_
    refine zrw (nI_add _ _) ?_
    refine lv_iload_n hx hb dX6_tell_31 rfl (lv_at hl 1 rfl) ?_
    refine zast (t := 356 + wt) hx hb hK hP hD hS 1 rfl (by omega) (by decide) dX6_tell_32 (fun H locs hP hD hS => ?_)
    have hP : va_P D vwCl [(h, .inr (6, fs)), (hs, .inl (cI, 380, .inl (upd S (356 + wt) v))), (hE, .inl (cI, 7, .inl E))] H := hP
    have hD : va_D AA [(h, .inr (6, fs)), (hs, .inl (cI, 380, .inl (upd S (356 + wt) v))), (hE, .inl (cI, 7, .inl E))] := hD
    refine lv_aload_n hx hb dX6_tell_33 rfl (lv_at hl 0 rfl) ?_
    refine va_get (ci := 6) (v := .ref hs) (C := RX6) (T := TX6) (N := 20) hx hb hts hin6 hown hK hP 0 rfl rfl 0 (by decide) (hts (.fieldLink RX6 7 "UpAllRoundModel" "s" "[I") (List.mem_of_getElem? (i := 1) rfl)) (fun _ h9 => h9) hf0 dX6_tell_34 ?_
    refine lv_iconst (v := nI 5) hx hb dX6_tell_37 (by decide) ?_
    refine lv_dup2_11 hx hb dX6_tell_38 rfl rfl ?_
    refine zald (t := 5) hx hb hK hP 1 rfl (by omega) (by decide) dX6_tell_39 ?_
    refine zrw (show upd S (356 + wt) v 5 = nI wt from by rw [zupd_n (by omega)]; exact hwt) ?_
    refine lv_iconst (v := nI 1) hx hb dX6_tell_40 (by decide) ?_
    refine lv_iadd hx hb dX6_tell_41 ?_
    refine zrw (nI_add _ _) ?_
    refine zast (t := 5) hx hb hK hP hD hS 1 rfl (by omega) (by decide) dX6_tell_42 (fun H locs hP hD hS => ?_)
    have hP : va_P D vwCl [(h, .inr (6, fs)), (hs, .inl (cI, 380, .inl (upd (upd S (356 + wt) v) 5 (nI (wt + 1))))), (hE, .inl (cI, 7, .inl E))] H := hP
    have hD : va_D AA [(h, .inr (6, fs)), (hs, .inl (cI, 380, .inl (upd (upd S (356 + wt) v) 5 (nI (wt + 1))))), (hE, .inl (cI, 7, .inl E))] := hD
    refine lv_aload_n hx hb dX6_tell_43 rfl (lv_at hl 0 rfl) ?_
    refine va_get (ci := 6) (v := .ref hs) (C := RX6) (T := TX6) (N := 20) hx hb hts hin6 hown hK hP 0 rfl rfl 0 (by decide) (hts (.fieldLink RX6 7 "UpAllRoundModel" "s" "[I") (List.mem_of_getElem? (i := 1) rfl)) (fun _ h9 => h9) hf0 dX6_tell_44 ?_
    refine lv_iconst (v := nI 5) hx hb dX6_tell_47 (by decide) ?_
    refine zald (t := 5) hx hb hK hP 1 rfl (by omega) (by decide) dX6_tell_48 ?_
    refine zrw (show upd (upd S (356 + wt) v) 5 (nI (wt + 1)) 5 = nI (wt + 1) from if_pos rfl) ?_
    exact hret hP hD hS dX6_tell_49 rfl (by rw [show zo_tell S E n k v = (nI (wt + 1), upd (upd S (356 + wt) v) 5 (nI (wt + 1)), E) from by rw [zo_tell, hwt, if_neg (fun h9 => by have h91 := (nI_eq (a := wt) (b := 24) (by omega) (by omega)).mp h9; omega), nI_clamp (show wt < 2147483648 by omega)] <;> rfl]; exact ⟨rfl, rfl⟩)
  · have c8_1 : wt = 24 := (nI_eq (a := wt) (b := 24) (by omega) (by omega)).mp c8_1
    refine lv_aload_n hx hb dX6_tell_11 rfl (lv_at hl 0 rfl) ?_
    refine lv_iconst (v := nI 4) hx hb dX6_tell_12 (by decide) ?_
    refine zci (wr := [(hs, .inl (cI, 380, .inl S))]) (va_runV (As := [.int (nI 4)]) (rest := []) ⟨hx, hb, hml, hown, hts⟩ (c_X6_error l D cI cJ h hE fs E 4 (by first | rfl | assumption | omega) (by first | rfl | assumption | omega) s.heap.size) (cwV 1 hts gX6_tell_X6_error rfl rfl rfl (by decide +kernel) ⟨Nat.le_of_ble_eq_true rfl, Nat.le_of_ble_eq_true rfl⟩) (zpV hK hN hZ hP hD hS hA [0, 2] rfl (by decide) 0 rfl rfl rfl) rfl rfl hl.1 rfl (lv_room (Nat.le_of_ble_eq_true rfl)) dX6_tell_13 ⟨Nat.zero_le _, Nat.zero_le _⟩) hP hD hS hA [0, 2] [1] rfl rfl (by decide) (by decide) (fun r_4 w_3 H locs h_2 hP hD hS => ?_)
    obtain ⟨rfl, rfl⟩ := h_2
    have hP : va_P D vwCl [(hs, .inl (cI, 380, .inl S)), (h, .inr (6, fs)), (hE, .inl (cI, 7, .inl (upd E 4 (E 4 + nI 1))))] H := hP
    have hD : va_D AA [(hs, .inl (cI, 380, .inl S)), (h, .inr (6, fs)), (hE, .inl (cI, 7, .inl (upd E 4 (E 4 + nI 1))))] := hD
    have hP := hP.sub (ws' := [(h, .inr (6, fs)), (hs, .inl (cI, 380, .inl S)), (hE, .inl (cI, 7, .inl (upd E 4 (E 4 + nI 1))))]) [1, 0, 2] rfl
    have hD := hD.sub (ws' := [(h, .inr (6, fs)), (hs, .inl (cI, 380, .inl S)), (hE, .inl (cI, 7, .inl (upd E 4 (E 4 + nI 1))))]) [1, 0, 2] (by decide) rfl
    exact hret hP hD hS dX6_tell_16 rfl (by rw [show zo_tell S E n k v = zerrE 4 S E from by rw [zo_tell, hwt, if_pos (by rw [show wt = 24 by omega])] <;> rfl]; exact ⟨rfl, rfl⟩)
set_option maxHeartbeats 4000000 in
set_option maxRecDepth 100000 in
theorem c_X5_tell (l : Launch) (D : va_G) (cI cJ : ClassId) (h : Nat) (hE : Nat) (hS9 : Nat) (fs : List Value) (S : Nat → Int32) (E : Nat → Int32) (n : Nat) (k : Nat) (hr9 : Nat) (hk : Nat) (hm : Nat) (hp : Nat) (hh : Nat) (hw : Nat) (hv : Nat) (ht : Nat) (hq : Nat) (wt : Nat) (v : Int32) (hU0 : fs[0]? = some (.ref hS9)) (hU7 : fs[7]? = some (.ref hE)) (hn1 : S 1 = nI n) (hk6 : S 6 = nI k) (hn4 : 4 ≤ n) (hn14 : n ≤ 14) (hkle : k ≤ 6) (hwt : S 5 = nI wt) (hwt24 : wt ≤ 24) : zMi l yX5_tell wsX5_tell ({ frames := 1, cells := 0, slots := 0, locals := 21 } : Room) D [(cI, .int), (cJ, .array .int)] [.ref h, .int v] [(h, .inr (5, fs)), (hS9, .inr (3, [.int (nI n), .ref hr9, .int (S 2), .int (S 0), .int (nI k), .ref hk, .ref hm, .ref hp, .ref hh, .ref hw, .ref hv, .int (S 3), .ref ht, .int (S 4), .ref hq, .int (nI wt)])), (hq, .inl (cI, 24, .inl ((fun i => S (356 + i))))), (hE, .inl (cI, 7, .inl E))] (fun r w => r = (zo_tell S E n k v).1 ∧ w = [(h, .inr (5, fs)), (hS9, .inr (3, [.int (nI n), .ref hr9, .int (S 2), .int (S 0), .int (nI k), .ref hk, .ref hm, .ref hp, .ref hh, .ref hw, .ref hv, .int (S 3), .ref ht, .int (S 4), .ref hq, .int ((zo_tell S E n k v).2.1 5)])), (hq, .inl (cI, 24, .inl ((fun i => (zo_tell S E n k v).2.1 (356 + i))))), (hE, .inl (cI, 7, .inl ((zo_tell S E n k v).2.2)))]) := by
  refine zMi.start (cc := cX5_tell) (maxL := 2) (rt := .int) (by first | decide | decide +kernel) rfl (Nat.le_of_ble_eq_true rfl) ?_
  intro pg ev s mt args below meth cd ls AA QQ ⟨hx, hb, hml, hr, hlocks, hown, hts, hK, hN, hZ, hP, hD, hA, hS, hl⟩ hret
  have hown : s.vm.findClass RX5 = some mt.cls := hown
  have hl : lv_has ls 2 [(0, .ref h), (1, .int v)] := hl
  have hin3 : ∀ w ∈ wsX30, w ∈ wsX5_tell := fun w h => List.mem_cons_of_mem _ (List.mem_append_right _ (h))
  have hin5 : ∀ w ∈ wsX50, w ∈ wsX5_tell := fun w h => List.mem_cons_of_mem _ (List.mem_append_left _ (List.mem_append_right _ (h)))
  refine lv_aload_n hx hb dX5_tell_0 rfl (lv_at hl 0 rfl) ?_
  refine va_get (ci := 5) (v := .ref hS9) (C := RX5) (T := TX5) (N := 9) hx hb hts hin5 hown hK hP 0 rfl rfl 0 (by decide) (hts (.fieldLink RX5 12 "UpAllRound" "now" "LUpAllRound$Stair;") (List.mem_of_getElem? (i := 1) rfl)) (fun _ h9 => h9) hU0 dX5_tell_1 ?_
  refine va_getN (ci := 3) (v := .int (nI wt)) (C := RX3) (T := TX3) (N := 16) hx hb hts hin3 hown hK hP 1 rfl rfl 15 (by decide) (va_Nw.use rfl (hN (.fieldLinkNest "UpAllRound" 254 "UpAllRound$Stair" "waits" "I" "UpAllRound") (List.mem_of_getElem? (i := 13) rfl))) (fun _ h9 => h9) rfl dX5_tell_4 ?_
  refine lv_bipush (v := nI 24) hx hb dX5_tell_7 (by decide) ?_
  refine lv_icmp_lt (tgt := 18) hx hb dX5_tell_9 (by decide) (fun c9_1 => ?_) (fun c9_1 => ?_)
  · have c9_1 : wt < 24 := (nI_ltI (a := wt) (b := 24) (by omega) (by omega)).mp c9_1
    refine lv_aload_n hx hb dX5_tell_18 rfl (lv_at hl 0 rfl) ?_
    refine va_get (ci := 5) (v := .ref hS9) (C := RX5) (T := TX5) (N := 9) hx hb hts hin5 hown hK hP 0 rfl rfl 0 (by decide) (hts (.fieldLink RX5 12 "UpAllRound" "now" "LUpAllRound$Stair;") (List.mem_of_getElem? (i := 1) rfl)) (fun _ h9 => h9) hU0 dX5_tell_19 ?_
    refine va_getN (ci := 3) (v := .ref hq) (C := RX3) (T := TX3) (N := 16) hx hb hts hin3 hown hK hP 1 rfl rfl 14 (by decide) (va_Nw.use rfl (hN (.fieldLinkNest "UpAllRound" 257 "UpAllRound$Stair" "waiting" "[I" "UpAllRound") (List.mem_of_getElem? (i := 12) rfl))) (fun _ h9 => h9) rfl dX5_tell_22 ?_
    refine lv_aload_n hx hb dX5_tell_25 rfl (lv_at hl 0 rfl) ?_
    refine va_get (ci := 5) (v := .ref hS9) (C := RX5) (T := TX5) (N := 9) hx hb hts hin5 hown hK hP 0 rfl rfl 0 (by decide) (hts (.fieldLink RX5 12 "UpAllRound" "now" "LUpAllRound$Stair;") (List.mem_of_getElem? (i := 1) rfl)) (fun _ h9 => h9) hU0 dX5_tell_26 ?_
    refine va_getN (ci := 3) (v := .int (nI wt)) (C := RX3) (T := TX3) (N := 16) hx hb hts hin3 hown hK hP 1 rfl rfl 15 (by decide) (va_Nw.use rfl (hN (.fieldLinkNest "UpAllRound" 254 "UpAllRound$Stair" "waits" "I" "UpAllRound") (List.mem_of_getElem? (i := 13) rfl))) (fun _ h9 => h9) rfl dX5_tell_29 ?_
    refine lv_iload_n hx hb dX5_tell_32 rfl (lv_at hl 1 rfl) ?_
    refine zast (t := wt) hx hb hK hP hD hS 2 rfl (by omega) (by decide) dX5_tell_33 (fun H locs hP hD hS => ?_)
    have hP : va_P D vwCl [(h, .inr (5, fs)), (hS9, .inr (3, [.int (nI n), .ref hr9, .int (S 2), .int (S 0), .int (nI k), .ref hk, .ref hm, .ref hp, .ref hh, .ref hw, .ref hv, .int (S 3), .ref ht, .int (S 4), .ref hq, .int (nI wt)])), (hq, .inl (cI, 24, .inl (upd ((fun i => S (356 + i))) wt v))), (hE, .inl (cI, 7, .inl E))] H := hP
    have hD : va_D AA [(h, .inr (5, fs)), (hS9, .inr (3, [.int (nI n), .ref hr9, .int (S 2), .int (S 0), .int (nI k), .ref hk, .ref hm, .ref hp, .ref hh, .ref hw, .ref hv, .int (S 3), .ref ht, .int (S 4), .ref hq, .int (nI wt)])), (hq, .inl (cI, 24, .inl (upd ((fun i => S (356 + i))) wt v))), (hE, .inl (cI, 7, .inl E))] := hD
    refine lv_aload_n hx hb dX5_tell_34 rfl (lv_at hl 0 rfl) ?_
    refine va_get (ci := 5) (v := .ref hS9) (C := RX5) (T := TX5) (N := 9) hx hb hts hin5 hown hK hP 0 rfl rfl 0 (by decide) (hts (.fieldLink RX5 12 "UpAllRound" "now" "LUpAllRound$Stair;") (List.mem_of_getElem? (i := 1) rfl)) (fun _ h9 => h9) hU0 dX5_tell_35 ?_
    refine lv_dup hx hb dX5_tell_38 rfl ?_
    refine va_getN (ci := 3) (v := .int (nI wt)) (C := RX3) (T := TX3) (N := 16) hx hb hts hin3 hown hK hP 1 rfl rfl 15 (by decide) (va_Nw.use rfl (hN (.fieldLinkNest "UpAllRound" 254 "UpAllRound$Stair" "waits" "I" "UpAllRound") (List.mem_of_getElem? (i := 13) rfl))) (fun _ h9 => h9) rfl dX5_tell_39 ?_
    refine lv_iconst (v := nI 1) hx hb dX5_tell_42 (by decide) ?_
    refine lv_iadd hx hb dX5_tell_43 ?_
    refine zrw (nI_add _ _) ?_
    refine va_putN (ci := 3) (v := .int (nI (wt + 1))) (ty := .int) (C := RX3) (T := TX3) (N := 16) hx hb hts hin3 tyX3 tyX3_ok nmX3 hown hK hP hD hS 1 rfl rfl 15 (by decide) (va_Nw.use rfl (hN (.fieldLinkNest "UpAllRound" 254 "UpAllRound$Stair" "waits" "I" "UpAllRound") (List.mem_of_getElem? (i := 13) rfl))) (fun _ h9 => h9) rfl (by decide +kernel) rfl rfl (Nat.le_of_ble_eq_true rfl) dX5_tell_44 (fun H locs hP hD hS => ?_)
    have hP : va_P D vwCl [(h, .inr (5, fs)), (hS9, .inr (3, [.int (nI n), .ref hr9, .int (S 2), .int (S 0), .int (nI k), .ref hk, .ref hm, .ref hp, .ref hh, .ref hw, .ref hv, .int (S 3), .ref ht, .int (S 4), .ref hq, .int (nI (wt + 1))])), (hq, .inl (cI, 24, .inl (upd ((fun i => S (356 + i))) wt v))), (hE, .inl (cI, 7, .inl E))] H := hP
    have hD : va_D AA [(h, .inr (5, fs)), (hS9, .inr (3, [.int (nI n), .ref hr9, .int (S 2), .int (S 0), .int (nI k), .ref hk, .ref hm, .ref hp, .ref hh, .ref hw, .ref hv, .int (S 3), .ref ht, .int (S 4), .ref hq, .int (nI (wt + 1))])), (hq, .inl (cI, 24, .inl (upd ((fun i => S (356 + i))) wt v))), (hE, .inl (cI, 7, .inl E))] := hD
    refine lv_aload_n hx hb dX5_tell_47 rfl (lv_at hl 0 rfl) ?_
    refine va_get (ci := 5) (v := .ref hS9) (C := RX5) (T := TX5) (N := 9) hx hb hts hin5 hown hK hP 0 rfl rfl 0 (by decide) (hts (.fieldLink RX5 12 "UpAllRound" "now" "LUpAllRound$Stair;") (List.mem_of_getElem? (i := 1) rfl)) (fun _ h9 => h9) hU0 dX5_tell_48 ?_
    refine va_getN (ci := 3) (v := .int (nI (wt + 1))) (C := RX3) (T := TX3) (N := 16) hx hb hts hin3 hown hK hP 1 rfl rfl 15 (by decide) (va_Nw.use rfl (hN (.fieldLinkNest "UpAllRound" 254 "UpAllRound$Stair" "waits" "I" "UpAllRound") (List.mem_of_getElem? (i := 13) rfl))) (fun _ h9 => h9) rfl dX5_tell_51 ?_
    exact hret hP hD hS dX5_tell_54 rfl (by rw [show zo_tell S E n k v = (nI (wt + 1), upd (upd S (356 + wt) v) 5 (nI (wt + 1)), E) from by rw [zo_tell, hwt, if_neg (fun h9 => by have h91 := (nI_eq (a := wt) (b := 24) (by omega) (by omega)).mp h9; omega), nI_clamp (show wt < 2147483648 by omega)] <;> rfl]; exact ⟨rfl, by rw [zpr_w (q := 5) (x := nI (wt + 1)) (fun i => by omega)]; rfl⟩)
  · have c9_1 : ¬ (wt < 24) := fun h9 => c9_1 ((nI_ltI (a := wt) (b := 24) (by omega) (by omega)).mpr h9)
    refine lv_aload_n hx hb dX5_tell_12 rfl (lv_at hl 0 rfl) ?_
    refine lv_iconst (v := nI 4) hx hb dX5_tell_13 (by decide) ?_
    refine zci (wr := [(hS9, .inr (3, [.int (nI n), .ref hr9, .int (S 2), .int (S 0), .int (nI k), .ref hk, .ref hm, .ref hp, .ref hh, .ref hw, .ref hv, .int (S 3), .ref ht, .int (S 4), .ref hq, .int (nI wt)])), (hq, .inl (cI, 24, .inl ((fun i => S (356 + i)))))]) (va_runV (As := [.int (nI 4)]) (rest := []) ⟨hx, hb, hml, hown, hts⟩ (c_X5_refuse l D cI cJ h hE fs E 4 (by first | rfl | assumption | omega) (by first | rfl | assumption | omega) s.heap.size) (cwV 1 hts gX5_tell_X5_refuse rfl rfl rfl (by decide +kernel) ⟨Nat.le_of_ble_eq_true rfl, Nat.le_of_ble_eq_true rfl⟩) (zpV hK hN hZ hP hD hS hA [0, 3] rfl (by decide) 0 rfl rfl rfl) rfl rfl hl.1 rfl (lv_room (Nat.le_of_ble_eq_true rfl)) dX5_tell_14 ⟨Nat.zero_le _, Nat.zero_le _⟩) hP hD hS hA [0, 3] [1, 2] rfl rfl (by decide) (by decide) (fun r_4 w_3 H locs h_2 hP hD hS => ?_)
    obtain ⟨rfl, rfl⟩ := h_2
    have hP : va_P D vwCl [(hS9, .inr (3, [.int (nI n), .ref hr9, .int (S 2), .int (S 0), .int (nI k), .ref hk, .ref hm, .ref hp, .ref hh, .ref hw, .ref hv, .int (S 3), .ref ht, .int (S 4), .ref hq, .int (nI wt)])), (hq, .inl (cI, 24, .inl ((fun i => S (356 + i))))), (h, .inr (5, fs)), (hE, .inl (cI, 7, .inl (upd E 4 (E 4 + nI 1))))] H := hP
    have hD : va_D AA [(hS9, .inr (3, [.int (nI n), .ref hr9, .int (S 2), .int (S 0), .int (nI k), .ref hk, .ref hm, .ref hp, .ref hh, .ref hw, .ref hv, .int (S 3), .ref ht, .int (S 4), .ref hq, .int (nI wt)])), (hq, .inl (cI, 24, .inl ((fun i => S (356 + i))))), (h, .inr (5, fs)), (hE, .inl (cI, 7, .inl (upd E 4 (E 4 + nI 1))))] := hD
    have hP := hP.sub (ws' := [(h, .inr (5, fs)), (hS9, .inr (3, [.int (nI n), .ref hr9, .int (S 2), .int (S 0), .int (nI k), .ref hk, .ref hm, .ref hp, .ref hh, .ref hw, .ref hv, .int (S 3), .ref ht, .int (S 4), .ref hq, .int (nI wt)])), (hq, .inl (cI, 24, .inl ((fun i => S (356 + i))))), (hE, .inl (cI, 7, .inl (upd E 4 (E 4 + nI 1))))]) [2, 0, 1, 3] rfl
    have hD := hD.sub (ws' := [(h, .inr (5, fs)), (hS9, .inr (3, [.int (nI n), .ref hr9, .int (S 2), .int (S 0), .int (nI k), .ref hk, .ref hm, .ref hp, .ref hh, .ref hw, .ref hv, .int (S 3), .ref ht, .int (S 4), .ref hq, .int (nI wt)])), (hq, .inl (cI, 24, .inl ((fun i => S (356 + i))))), (hE, .inl (cI, 7, .inl (upd E 4 (E 4 + nI 1))))]) [2, 0, 1, 3] (by decide) rfl
    exact hret hP hD hS dX5_tell_17 rfl (by rw [show zo_tell S E n k v = zerrE 4 S E from by rw [zo_tell, hwt, if_pos (by rw [show wt = 24 by omega])] <;> rfl]; exact ⟨rfl, by rw [← hwt]; rfl⟩)
def zo_check (S E : Nat → Int32) (n k : Nat)  : zOut := (zfst (fun i => i < k ∧ S (356 + i) = S (8 + 4 * i + 3)) (S 5).toNatClampNeg 0, upd S 5 (nI 0), E)
set_option maxHeartbeats 4000000 in
set_option maxRecDepth 100000 in
theorem c_X6_check (l : Launch) (D : va_G) (cI cJ : ClassId) (h : Nat) (hs : Nat) (hE : Nat) (fs : List Value) (S : Nat → Int32) (E : Nat → Int32) (n : Nat) (k : Nat) (wt : Nat) (hf0 : fs[0]? = some (.ref hs)) (hf4 : fs[4]? = some (.ref hE)) (hn1 : S 1 = nI n) (hk6 : S 6 = nI k) (hn4 : 4 ≤ n) (hn14 : n ≤ 14) (hkle : k ≤ 6) (hwt : S 5 = nI wt) (hwt24 : wt ≤ 24) : zMi l yX6_check wsX6_check ({ frames := 2, cells := 0, slots := 0, locals := 43 } : Room) D [(cI, .int), (cJ, .array .int)] [.ref h] [(h, .inr (6, fs)), (hs, .inl (cI, 380, .inl S)), (hE, .inl (cI, 7, .inl E))] (fun r w => r = (zo_check S E n k ).1 ∧ w = [(h, .inr (6, fs)), (hs, .inl (cI, 380, .inl ((zo_check S E n k ).2.1))), (hE, .inl (cI, 7, .inl ((zo_check S E n k ).2.2)))]) := by
  refine zMi.start (cc := cX6_check) (maxL := 3) (rt := .int) (by first | decide | decide +kernel) rfl (Nat.le_of_ble_eq_true rfl) ?_
  intro pg ev s mt args below meth cd ls AA QQ ⟨hx, hb, hml, hr, hlocks, hown, hts, hK, hN, hZ, hP, hD, hA, hS, hl⟩ hret
  have hown : s.vm.findClass RX6 = some mt.cls := hown
  have hl : lv_has ls 3 [(0, .ref h)] := hl
  have hin6 : ∀ w ∈ wsX60, w ∈ wsX6_check := fun w h => List.mem_cons_of_mem _ (List.mem_append_right _ (h))
  refine lv_aload_n hx hb dX6_check_0 rfl (lv_at hl 0 rfl) ?_
  refine va_get (ci := 6) (v := .ref hs) (C := RX6) (T := TX6) (N := 20) hx hb hts hin6 hown hK hP 0 rfl rfl 0 (by decide) (hts (.fieldLink RX6 7 "UpAllRoundModel" "s" "[I") (List.mem_of_getElem? (i := 1) rfl)) (fun _ h9 => h9) hf0 dX6_check_1 ?_
  refine lv_iconst (v := nI 5) hx hb dX6_check_4 (by decide) ?_
  refine zald (t := 5) hx hb hK hP 1 rfl (by omega) (by decide) dX6_check_5 ?_
  refine zrw hwt ?_
  refine lv_istore_n (lv' := [(1, .int (nI wt)), (0, .ref h)]) hx hb dX6_check_6 rfl hl (by decide) rfl (fun ls hl => ?_)
  refine lv_aload_n hx hb dX6_check_7 rfl (lv_at hl 1 rfl) ?_
  refine va_get (ci := 6) (v := .ref hs) (C := RX6) (T := TX6) (N := 20) hx hb hts hin6 hown hK hP 0 rfl rfl 0 (by decide) (hts (.fieldLink RX6 7 "UpAllRoundModel" "s" "[I") (List.mem_of_getElem? (i := 1) rfl)) (fun _ h9 => h9) hf0 dX6_check_8 ?_
  refine lv_iconst (v := nI 5) hx hb dX6_check_11 (by decide) ?_
  refine lv_iconst (v := nI 0) hx hb dX6_check_12 (by decide) ?_
  refine zast (t := 5) hx hb hK hP hD hS 1 rfl (by omega) (by decide) dX6_check_13 (fun H locs hP hD hS => ?_)
  have hP : va_P D vwCl [(h, .inr (6, fs)), (hs, .inl (cI, 380, .inl (upd S 5 (nI 0)))), (hE, .inl (cI, 7, .inl E))] H := hP
  have hD : va_D AA [(h, .inr (6, fs)), (hs, .inl (cI, 380, .inl (upd S 5 (nI 0)))), (hE, .inl (cI, 7, .inl E))] := hD
  refine lv_iconst (v := nI 0) hx hb dX6_check_14 (by decide) ?_
  refine lv_istore_n (lv' := [(2, .int (nI 0)), (1, .int (nI wt)), (0, .ref h)]) hx hb dX6_check_15 rfl hl (by decide) rfl (fun ls hl => ?_)
  have L_16 : ∀ (fu i : Nat)  (hi : i ≤ wt) (hn : wt + 1 ≤ i + fu) (hz : zfst (fun i => i < k ∧ S (356 + i) = S (8 + 4 * i + 3)) (wt - i) i = zfst (fun i => i < k ∧ S (356 + i) = S (8 + 4 * i + 3)) wt 0), ∀ (ls : Array Slot), lv_has ls 3 [(0, .ref h), (1, .int (nI wt)), (2, .int (nI i))] → ∀ (H : Heap) (locs : List Loc), va_P D vwCl [(h, .inr (6, fs)), (hs, .inl (cI, 380, .inl (upd S 5 (nI 0)))), (hE, .inl (cI, 7, .inl E))] H → va_D AA [(h, .inr (6, fs)), (hs, .inl (cI, 380, .inl (upd S 5 (nI 0)))), (hE, .inl (cI, 7, .inl E))] → va_S AA s.heap H locs → W pg l ev ({ frames := 2, cells := 0, slots := 0, locals := 43 } : Room) s mt args below meth cd H locs 0 0 QQ (F0 mt 16 ls []) := by
    intro fu
    induction fu with
    | zero =>
      intro i  hi hn
      exact absurd hn (by omega)
    | succ fu ih_16 =>
      intro i  hi hn hz ls hl H locs hP hD hS
      refine lv_iload_n hx hb dX6_check_16 rfl (lv_at hl 2 rfl) ?_
      refine lv_iload_n hx hb dX6_check_17 rfl (lv_at hl 1 rfl) ?_
      refine lv_icmp_ge (tgt := 58) hx hb dX6_check_18 (by decide) (fun c18_1 => ?_) (fun c18_1 => ?_)
      · have c18_1 : wt ≤ i := (nI_leI (a := wt) (b := i) (by omega) (by omega)).mp c18_1
        refine lv_iconst (v := nI 0) hx hb dX6_check_58 (by decide) ?_
        exact hret hP hD hS dX6_check_59 rfl (by rw [show zo_check S E n k  = (zfst (fun i => i < k ∧ S (356 + i) = S (8 + 4 * i + 3)) wt 0, upd S 5 (nI 0), E) from by rw [zo_check, hwt, nI_clamp (show wt < 2147483648 by omega)] <;> rfl]; exact ⟨by rw [← hz, show wt - i = 0 by omega]; rfl, rfl⟩)
      · have c18_1 : ¬ (wt ≤ i) := fun h9 => c18_1 ((nI_leI (a := wt) (b := i) (by omega) (by omega)).mpr h9)
        refine lv_aload_n hx hb dX6_check_21 rfl (lv_at hl 0 rfl) ?_
        refine lv_iload_n hx hb dX6_check_22 rfl (lv_at hl 2 rfl) ?_
        refine zcsE (va_runV (As := [.int (nI i)]) (rest := []) ⟨hx, hb, hml, hown, hts⟩ (c_X6_isClimber l D cI cJ h hs fs (upd S 5 (nI 0)) k (nI i) (by first | rfl | assumption | omega) (by rw [zupd_n (by omega)]; exact hk6) (by first | rfl | assumption | omega) H.size) (cwV 1 hts gX6_check_X6_isClimber rfl rfl rfl (by decide +kernel) ⟨Nat.le_of_ble_eq_true rfl, Nat.le_of_ble_eq_true rfl⟩) (zpV hK hN hZ hP hD hS hA [0, 1] rfl (by decide) 0 rfl rfl rfl) rfl rfl hl.1 rfl (lv_room (Nat.le_of_ble_eq_true rfl)) dX6_check_23 ⟨Nat.zero_le _, Nat.zero_le _⟩) ?_
        refine lv_if_eq (tgt := 48) hx hb dX6_check_26 (by decide) (fun c26_2 => ?_) (fun c26_2 => ?_)
        · have c26_2 := bI_0.mp c26_2
          refine lv_iconst (v := nI 1) hx hb dX6_check_48 (by decide) ?_
          refine lv_iload_n hx hb dX6_check_49 rfl (lv_at hl 2 rfl) ?_
          refine lv_iadd hx hb dX6_check_50 ?_
          refine zrw (nI_add _ _) ?_
          exact hret hP hD hS dX6_check_51 rfl (by rw [show zo_check S E n k  = (zfst (fun i => i < k ∧ S (356 + i) = S (8 + 4 * i + 3)) wt 0, upd S 5 (nI 0), E) from by rw [zo_check, hwt, nI_clamp (show wt < 2147483648 by omega)] <;> rfl]; exact ⟨by rw [← hz, show wt - i = (wt - (i + 1)) + 1 by omega, zfst_n (P := (fun i => i < k ∧ S (356 + i) = S (8 + 4 * i + 3))) (fun h9 => absurd ((zin_nI (by omega)).mpr h9.1) (by assumption))]; rw [nI_add], rfl⟩)
        · have c26_2 := bI_n0.mp c26_2
          refine lv_aload_n hx hb dX6_check_29 rfl (lv_at hl 0 rfl) ?_
          refine va_get (ci := 6) (v := .ref hs) (C := RX6) (T := TX6) (N := 20) hx hb hts hin6 hown hK hP 0 rfl rfl 0 (by decide) (hts (.fieldLink RX6 7 "UpAllRoundModel" "s" "[I") (List.mem_of_getElem? (i := 1) rfl)) (fun _ h9 => h9) hf0 dX6_check_30 ?_
          refine lv_sipush (v := nI 356) hx hb dX6_check_33 (by decide) ?_
          refine lv_iload_n hx hb dX6_check_36 rfl (lv_at hl 2 rfl) ?_
          refine lv_iadd hx hb dX6_check_37 ?_
          refine zrw (nI_add _ _) ?_
          refine zald (t := 356 + i) hx hb hK hP 1 rfl (by omega) (by decide) dX6_check_38 ?_
          refine zrw (show upd S 5 (nI 0) (356 + i) = S (356 + i) from zupd_n (by omega)) ?_
          refine lv_aload_n hx hb dX6_check_39 rfl (lv_at hl 0 rfl) ?_
          refine lv_iload_n hx hb dX6_check_40 rfl (lv_at hl 2 rfl) ?_
          refine lv_iconst (v := nI 3) hx hb dX6_check_41 (by decide) ?_
          refine zcsE (va_runV (As := [.int (nI i), .int (nI 3)]) (rest := [.int (S (356 + i))]) ⟨hx, hb, hml, hown, hts⟩ (c_X6_its l D cI cJ h hs fs (upd S 5 (nI 0)) i 3 (by first | rfl | assumption | omega) (by first | rfl | assumption | omega) H.size) (cwV 2 hts gX6_check_X6_its rfl rfl rfl (by decide +kernel) ⟨Nat.le_of_ble_eq_true rfl, Nat.le_of_ble_eq_true rfl⟩) (zpV hK hN hZ hP hD hS hA [0, 1] rfl (by decide) 0 rfl rfl rfl) rfl rfl hl.1 rfl (lv_room (Nat.le_of_ble_eq_true rfl)) dX6_check_42 ⟨Nat.zero_le _, Nat.zero_le _⟩) ?_
          refine zrw (show upd S 5 (nI 0) (8 + 4 * i + 3) = S (8 + 4 * i + 3) from zupd_n (by omega)) ?_
          refine lv_icmp_eq (tgt := 52) hx hb dX6_check_45 (by decide) (fun c45_3 => ?_) (fun c45_3 => ?_)
          · refine lv_iinc (v := nI (i + 1)) (lv' := [(2, .int (nI (i + 1))), (0, .ref h), (1, .int (nI wt))]) hx hb dX6_check_52 hl (k := 2) rfl (nI_add _ _) (by decide) rfl (fun ls hl => ?_)
            refine lv_goto (tgt := 16) hx hb dX6_check_55 (by decide) ?_
            exact ih_16  (i + 1)  (by omega) (by omega) (by rw [← hz, show wt - i = (wt - (i + 1)) + 1 by omega, zfst_p (P := (fun i => i < k ∧ S (356 + i) = S (8 + 4 * i + 3))) ⟨(zin_nI (by omega)).mp (by assumption), by assumption⟩]) ls (lv_sub hl [1, 2, 0] rfl) H locs hP hD hS
          · refine lv_iconst (v := nI 1) hx hb dX6_check_48 (by decide) ?_
            refine lv_iload_n hx hb dX6_check_49 rfl (lv_at hl 2 rfl) ?_
            refine lv_iadd hx hb dX6_check_50 ?_
            refine zrw (nI_add _ _) ?_
            exact hret hP hD hS dX6_check_51 rfl (by rw [show zo_check S E n k  = (zfst (fun i => i < k ∧ S (356 + i) = S (8 + 4 * i + 3)) wt 0, upd S 5 (nI 0), E) from by rw [zo_check, hwt, nI_clamp (show wt < 2147483648 by omega)] <;> rfl]; exact ⟨by rw [← hz, show wt - i = (wt - (i + 1)) + 1 by omega, zfst_n (P := (fun i => i < k ∧ S (356 + i) = S (8 + 4 * i + 3))) (fun h9 => absurd h9.2 (by assumption))]; rw [nI_add], rfl⟩)
  exact L_16 (wt + 1) 0  (by omega) (by omega) rfl ls (lv_sub hl [2, 1, 0] rfl) _ _ hP hD hS
set_option maxHeartbeats 4000000 in
set_option maxRecDepth 100000 in
theorem c_X5_check (l : Launch) (D : va_G) (cI cJ : ClassId) (h : Nat) (hE : Nat) (hS9 : Nat) (fs : List Value) (S : Nat → Int32) (E : Nat → Int32) (n : Nat) (k : Nat) (hr9 : Nat) (hk : Nat) (hm : Nat) (hp : Nat) (hh : Nat) (hw : Nat) (hv : Nat) (ht : Nat) (hq : Nat) (wt : Nat) (hU0 : fs[0]? = some (.ref hS9)) (hU7 : fs[7]? = some (.ref hE)) (hn1 : S 1 = nI n) (hk6 : S 6 = nI k) (hn4 : 4 ≤ n) (hn14 : n ≤ 14) (hkle : k ≤ 6) (hwt : S 5 = nI wt) (hwt24 : wt ≤ 24) : zMi l yX5_check wsX5_check ({ frames := 1, cells := 0, slots := 0, locals := 21 } : Room) D [(cI, .int), (cJ, .array .int)] [.ref h] [(h, .inr (5, fs)), (hS9, .inr (3, [.int (nI n), .ref hr9, .int (S 2), .int (S 0), .int (nI k), .ref hk, .ref hm, .ref hp, .ref hh, .ref hw, .ref hv, .int (S 3), .ref ht, .int (S 4), .ref hq, .int (nI wt)])), (hq, .inl (cI, 24, .inl ((fun i => S (356 + i))))), (hh, .inl (cI, 6, .inl ((fun c => S (8 + 4 * c + 3))))), (hE, .inl (cI, 7, .inl E))] (fun r w => r = (zo_check S E n k ).1 ∧ w = [(h, .inr (5, fs)), (hS9, .inr (3, [.int (nI n), .ref hr9, .int (S 2), .int (S 0), .int (nI k), .ref hk, .ref hm, .ref hp, .ref hh, .ref hw, .ref hv, .int (S 3), .ref ht, .int (S 4), .ref hq, .int ((zo_check S E n k ).2.1 5)])), (hq, .inl (cI, 24, .inl ((fun i => S (356 + i))))), (hh, .inl (cI, 6, .inl ((fun c => S (8 + 4 * c + 3))))), (hE, .inl (cI, 7, .inl ((zo_check S E n k ).2.2)))]) := by
  refine zMi.start (cc := cX5_check) (maxL := 3) (rt := .int) (by first | decide | decide +kernel) rfl (Nat.le_of_ble_eq_true rfl) ?_
  intro pg ev s mt args below meth cd ls AA QQ ⟨hx, hb, hml, hr, hlocks, hown, hts, hK, hN, hZ, hP, hD, hA, hS, hl⟩ hret
  have hown : s.vm.findClass RX5 = some mt.cls := hown
  have hl : lv_has ls 3 [(0, .ref h)] := hl
  have hin3 : ∀ w ∈ wsX30, w ∈ wsX5_check := fun w h => List.mem_cons_of_mem _ (List.mem_append_right _ (h))
  have hin5 : ∀ w ∈ wsX50, w ∈ wsX5_check := fun w h => List.mem_cons_of_mem _ (List.mem_append_left _ (List.mem_append_right _ (h)))
  refine lv_aload_n hx hb dX5_check_0 rfl (lv_at hl 0 rfl) ?_
  refine va_get (ci := 5) (v := .ref hS9) (C := RX5) (T := TX5) (N := 9) hx hb hts hin5 hown hK hP 0 rfl rfl 0 (by decide) (hts (.fieldLink RX5 12 "UpAllRound" "now" "LUpAllRound$Stair;") (List.mem_of_getElem? (i := 1) rfl)) (fun _ h9 => h9) hU0 dX5_check_1 ?_
  refine va_getN (ci := 3) (v := .int (nI wt)) (C := RX3) (T := TX3) (N := 16) hx hb hts hin3 hown hK hP 1 rfl rfl 15 (by decide) (va_Nw.use rfl (hN (.fieldLinkNest "UpAllRound" 254 "UpAllRound$Stair" "waits" "I" "UpAllRound") (List.mem_of_getElem? (i := 13) rfl))) (fun _ h9 => h9) rfl dX5_check_4 ?_
  refine lv_istore_n (lv' := [(1, .int (nI wt)), (0, .ref h)]) hx hb dX5_check_7 rfl hl (by decide) rfl (fun ls hl => ?_)
  refine lv_aload_n hx hb dX5_check_8 rfl (lv_at hl 1 rfl) ?_
  refine va_get (ci := 5) (v := .ref hS9) (C := RX5) (T := TX5) (N := 9) hx hb hts hin5 hown hK hP 0 rfl rfl 0 (by decide) (hts (.fieldLink RX5 12 "UpAllRound" "now" "LUpAllRound$Stair;") (List.mem_of_getElem? (i := 1) rfl)) (fun _ h9 => h9) hU0 dX5_check_9 ?_
  refine lv_iconst (v := nI 0) hx hb dX5_check_12 (by decide) ?_
  refine va_putN (ci := 3) (v := .int (nI 0)) (ty := .int) (C := RX3) (T := TX3) (N := 16) hx hb hts hin3 tyX3 tyX3_ok nmX3 hown hK hP hD hS 1 rfl rfl 15 (by decide) (va_Nw.use rfl (hN (.fieldLinkNest "UpAllRound" 254 "UpAllRound$Stair" "waits" "I" "UpAllRound") (List.mem_of_getElem? (i := 13) rfl))) (fun _ h9 => h9) rfl (by decide +kernel) rfl rfl (Nat.le_of_ble_eq_true rfl) dX5_check_13 (fun H locs hP hD hS => ?_)
  have hP : va_P D vwCl [(h, .inr (5, fs)), (hS9, .inr (3, [.int (nI n), .ref hr9, .int (S 2), .int (S 0), .int (nI k), .ref hk, .ref hm, .ref hp, .ref hh, .ref hw, .ref hv, .int (S 3), .ref ht, .int (S 4), .ref hq, .int (nI 0)])), (hq, .inl (cI, 24, .inl ((fun i => S (356 + i))))), (hh, .inl (cI, 6, .inl ((fun c => S (8 + 4 * c + 3))))), (hE, .inl (cI, 7, .inl E))] H := hP
  have hD : va_D AA [(h, .inr (5, fs)), (hS9, .inr (3, [.int (nI n), .ref hr9, .int (S 2), .int (S 0), .int (nI k), .ref hk, .ref hm, .ref hp, .ref hh, .ref hw, .ref hv, .int (S 3), .ref ht, .int (S 4), .ref hq, .int (nI 0)])), (hq, .inl (cI, 24, .inl ((fun i => S (356 + i))))), (hh, .inl (cI, 6, .inl ((fun c => S (8 + 4 * c + 3))))), (hE, .inl (cI, 7, .inl E))] := hD
  refine lv_iconst (v := nI 0) hx hb dX5_check_16 (by decide) ?_
  refine lv_istore_n (lv' := [(2, .int (nI 0)), (1, .int (nI wt)), (0, .ref h)]) hx hb dX5_check_17 rfl hl (by decide) rfl (fun ls hl => ?_)
  have L_18 : ∀ (fu i : Nat)  (hi : i ≤ wt) (hn : wt + 1 ≤ i + fu) (hz : zfst (fun i => i < k ∧ S (356 + i) = S (8 + 4 * i + 3)) (wt - i) i = zfst (fun i => i < k ∧ S (356 + i) = S (8 + 4 * i + 3)) wt 0), ∀ (ls : Array Slot), lv_has ls 3 [(0, .ref h), (1, .int (nI wt)), (2, .int (nI i))] → ∀ (H : Heap) (locs : List Loc), va_P D vwCl [(h, .inr (5, fs)), (hS9, .inr (3, [.int (nI n), .ref hr9, .int (S 2), .int (S 0), .int (nI k), .ref hk, .ref hm, .ref hp, .ref hh, .ref hw, .ref hv, .int (S 3), .ref ht, .int (S 4), .ref hq, .int (nI 0)])), (hq, .inl (cI, 24, .inl ((fun i => S (356 + i))))), (hh, .inl (cI, 6, .inl ((fun c => S (8 + 4 * c + 3))))), (hE, .inl (cI, 7, .inl E))] H → va_D AA [(h, .inr (5, fs)), (hS9, .inr (3, [.int (nI n), .ref hr9, .int (S 2), .int (S 0), .int (nI k), .ref hk, .ref hm, .ref hp, .ref hh, .ref hw, .ref hv, .int (S 3), .ref ht, .int (S 4), .ref hq, .int (nI 0)])), (hq, .inl (cI, 24, .inl ((fun i => S (356 + i))))), (hh, .inl (cI, 6, .inl ((fun c => S (8 + 4 * c + 3))))), (hE, .inl (cI, 7, .inl E))] → va_S AA s.heap H locs → W pg l ev ({ frames := 1, cells := 0, slots := 0, locals := 21 } : Room) s mt args below meth cd H locs 0 0 QQ (F0 mt 18 ls []) := by
    intro fu
    induction fu with
    | zero =>
      intro i  hi hn
      exact absurd hn (by omega)
    | succ fu ih_18 =>
      intro i  hi hn hz ls hl H locs hP hD hS
      refine lv_iload_n hx hb dX5_check_18 rfl (lv_at hl 2 rfl) ?_
      refine lv_iload_n hx hb dX5_check_19 rfl (lv_at hl 1 rfl) ?_
      refine lv_icmp_ge (tgt := 65) hx hb dX5_check_20 (by decide) (fun c20_1 => ?_) (fun c20_1 => ?_)
      · have c20_1 : wt ≤ i := (nI_leI (a := wt) (b := i) (by omega) (by omega)).mp c20_1
        refine lv_iconst (v := nI 0) hx hb dX5_check_65 (by decide) ?_
        exact hret hP hD hS dX5_check_66 rfl (by rw [show zo_check S E n k  = (zfst (fun i => i < k ∧ S (356 + i) = S (8 + 4 * i + 3)) wt 0, upd S 5 (nI 0), E) from by rw [zo_check, hwt, nI_clamp (show wt < 2147483648 by omega)] <;> rfl]; exact ⟨by rw [← hz, show wt - i = 0 by omega]; rfl, rfl⟩)
      · have c20_1 : ¬ (wt ≤ i) := fun h9 => c20_1 ((nI_leI (a := wt) (b := i) (by omega) (by omega)).mpr h9)
        refine lv_aload_n hx hb dX5_check_23 rfl (lv_at hl 0 rfl) ?_
        refine va_get (ci := 5) (v := .ref hS9) (C := RX5) (T := TX5) (N := 9) hx hb hts hin5 hown hK hP 0 rfl rfl 0 (by decide) (hts (.fieldLink RX5 12 "UpAllRound" "now" "LUpAllRound$Stair;") (List.mem_of_getElem? (i := 1) rfl)) (fun _ h9 => h9) hU0 dX5_check_24 ?_
        refine lv_iload_n hx hb dX5_check_27 rfl (lv_at hl 2 rfl) ?_
        refine zcsE (va_runVN (As := [.int (nI i)]) (rest := []) ⟨hx, hb, hml, hown, hts⟩ (c_X3_hasClimber l D cI cJ hS9 [.int (nI n), .ref hr9, .int (S 2), .int (S 0), .int (nI k), .ref hk, .ref hm, .ref hp, .ref hh, .ref hw, .ref hv, .int (S 3), .ref ht, .int (S 4), .ref hq, .int (nI 0)] k (nI i) (by first | rfl | assumption | omega) (by first | rfl | assumption | omega) H.size) ⟨va_cnB 1 hts gX5_check_X3_hasClimber_n91 rfl rfl rfl (hN (.methodLinkNest "UpAllRound" 91 yX3_hasClimber "UpAllRound") (List.mem_of_getElem? (i := 33) rfl)) (hts (.initialized RX3) (List.mem_of_getElem? (i := 3) rfl)) (by decide +kernel) ⟨Nat.le_of_ble_eq_true rfl, Nat.le_of_ble_eq_true rfl⟩, (hts (.instanceMethod yX3_hasClimber) (List.mem_of_getElem? (i := 2) rfl)), (hts (.selects RX3 yX3_hasClimber yX3_hasClimber) (List.mem_of_getElem? (i := 4) rfl))⟩ (zpV hK hN hZ hP hD hS hA [1] rfl (by decide) 1 rfl rfl rfl) rfl rfl hl.1 rfl (lv_room (Nat.le_of_ble_eq_true rfl)) dX5_check_28 ⟨Nat.zero_le _, Nat.zero_le _⟩) ?_
        refine lv_if_eq (tgt := 55) hx hb dX5_check_31 (by decide) (fun c31_2 => ?_) (fun c31_2 => ?_)
        · have c31_2 := bI_0.mp c31_2
          refine lv_iconst (v := nI 1) hx hb dX5_check_55 (by decide) ?_
          refine lv_iload_n hx hb dX5_check_56 rfl (lv_at hl 2 rfl) ?_
          refine lv_iadd hx hb dX5_check_57 ?_
          refine zrw (nI_add _ _) ?_
          exact hret hP hD hS dX5_check_58 rfl (by rw [show zo_check S E n k  = (zfst (fun i => i < k ∧ S (356 + i) = S (8 + 4 * i + 3)) wt 0, upd S 5 (nI 0), E) from by rw [zo_check, hwt, nI_clamp (show wt < 2147483648 by omega)] <;> rfl]; exact ⟨by rw [← hz, show wt - i = (wt - (i + 1)) + 1 by omega, zfst_n (P := (fun i => i < k ∧ S (356 + i) = S (8 + 4 * i + 3))) (fun h9 => absurd ((zin_nI (by omega)).mpr h9.1) (by assumption))]; rw [nI_add], rfl⟩)
        · have c31_2 := bI_n0.mp c31_2
          have h_i := (zin_nI (n := k) (show i < 2147483648 by omega)).mp c31_2
          refine lv_aload_n hx hb dX5_check_34 rfl (lv_at hl 0 rfl) ?_
          refine va_get (ci := 5) (v := .ref hS9) (C := RX5) (T := TX5) (N := 9) hx hb hts hin5 hown hK hP 0 rfl rfl 0 (by decide) (hts (.fieldLink RX5 12 "UpAllRound" "now" "LUpAllRound$Stair;") (List.mem_of_getElem? (i := 1) rfl)) (fun _ h9 => h9) hU0 dX5_check_35 ?_
          refine va_getN (ci := 3) (v := .ref hq) (C := RX3) (T := TX3) (N := 16) hx hb hts hin3 hown hK hP 1 rfl rfl 14 (by decide) (va_Nw.use rfl (hN (.fieldLinkNest "UpAllRound" 257 "UpAllRound$Stair" "waiting" "[I" "UpAllRound") (List.mem_of_getElem? (i := 12) rfl))) (fun _ h9 => h9) rfl dX5_check_38 ?_
          refine lv_iload_n hx hb dX5_check_41 rfl (lv_at hl 2 rfl) ?_
          refine zald (t := i) hx hb hK hP 2 rfl (by omega) (by decide) dX5_check_42 ?_
          refine lv_aload_n hx hb dX5_check_43 rfl (lv_at hl 0 rfl) ?_
          refine va_get (ci := 5) (v := .ref hS9) (C := RX5) (T := TX5) (N := 9) hx hb hts hin5 hown hK hP 0 rfl rfl 0 (by decide) (hts (.fieldLink RX5 12 "UpAllRound" "now" "LUpAllRound$Stair;") (List.mem_of_getElem? (i := 1) rfl)) (fun _ h9 => h9) hU0 dX5_check_44 ?_
          refine va_getN (ci := 3) (v := .ref hh) (C := RX3) (T := TX3) (N := 16) hx hb hts hin3 hown hK hP 1 rfl rfl 8 (by decide) (va_Nw.use rfl (hN (.fieldLinkNest "UpAllRound" 103 "UpAllRound$Stair" "heights" "[I" "UpAllRound") (List.mem_of_getElem? (i := 8) rfl))) (fun _ h9 => h9) rfl dX5_check_47 ?_
          refine lv_iload_n hx hb dX5_check_50 rfl (lv_at hl 2 rfl) ?_
          refine zald (t := i) hx hb hK hP 3 rfl (by omega) (by decide) dX5_check_51 ?_
          refine lv_icmp_eq (tgt := 59) hx hb dX5_check_52 (by decide) (fun c52_3 => ?_) (fun c52_3 => ?_)
          · refine lv_iinc (v := nI (i + 1)) (lv' := [(2, .int (nI (i + 1))), (0, .ref h), (1, .int (nI wt))]) hx hb dX5_check_59 hl (k := 2) rfl (nI_add _ _) (by decide) rfl (fun ls hl => ?_)
            refine lv_goto (tgt := 18) hx hb dX5_check_62 (by decide) ?_
            exact ih_18  (i + 1)  (by omega) (by omega) (by rw [← hz, show wt - i = (wt - (i + 1)) + 1 by omega, zfst_p (P := (fun i => i < k ∧ S (356 + i) = S (8 + 4 * i + 3))) ⟨(zin_nI (by omega)).mp (by assumption), by assumption⟩]) ls (lv_sub hl [1, 2, 0] rfl) H locs hP hD hS
          · refine lv_iconst (v := nI 1) hx hb dX5_check_55 (by decide) ?_
            refine lv_iload_n hx hb dX5_check_56 rfl (lv_at hl 2 rfl) ?_
            refine lv_iadd hx hb dX5_check_57 ?_
            refine zrw (nI_add _ _) ?_
            exact hret hP hD hS dX5_check_58 rfl (by rw [show zo_check S E n k  = (zfst (fun i => i < k ∧ S (356 + i) = S (8 + 4 * i + 3)) wt 0, upd S 5 (nI 0), E) from by rw [zo_check, hwt, nI_clamp (show wt < 2147483648 by omega)] <;> rfl]; exact ⟨by rw [← hz, show wt - i = (wt - (i + 1)) + 1 by omega, zfst_n (P := (fun i => i < k ∧ S (356 + i) = S (8 + 4 * i + 3))) (fun h9 => absurd h9.2 (by assumption))]; rw [nI_add], rfl⟩)
  exact L_18 (wt + 1) 0  (by omega) (by omega) rfl ls (lv_sub hl [2, 1, 0] rfl) _ _ hP hD hS
def zo_untell (S E : Nat → Int32) (n k : Nat) (use : Int32) : zOut := if zrg 0 1 use then (bI (0 < (S (46 + 125 * use.toNatClampNeg)).toNatClampNeg), upd S (46 + 125 * use.toNatClampNeg) (nI 0), E) else zerrE 1 S E
set_option maxHeartbeats 4000000 in
set_option maxRecDepth 100000 in
theorem c_X6_untell (l : Launch) (D : va_G) (cI cJ : ClassId) (h : Nat) (hs : Nat) (hE : Nat) (fs : List Value) (S : Nat → Int32) (E : Nat → Int32) (n : Nat) (k : Nat) (len0 : Nat) (tk0 : zTk) (len1 : Nat) (tk1 : zTk) (use : Int32) (hf0 : fs[0]? = some (.ref hs)) (hf4 : fs[4]? = some (.ref hE)) (hn1 : S 1 = nI n) (hk6 : S 6 = nI k) (hn4 : 4 ≤ n) (hn14 : n ≤ 14) (hkle : k ≤ 6) (htx0 : zTX S 0 len0 tk0) (htx1 : zTX S 1 len1 tk1) (hwf0 : zWF len0 tk0) (hwf1 : zWF len1 tk1) : zMi l yX6_untell wsX6_untell ({ frames := 1, cells := 0, slots := 0, locals := 22 } : Room) D [(cI, .int), (cJ, .array .int)] [.ref h, .int use] [(h, .inr (6, fs)), (hs, .inl (cI, 380, .inl S)), (hE, .inl (cI, 7, .inl E))] (fun r w => r = (zo_untell S E n k use).1 ∧ w = [(h, .inr (6, fs)), (hs, .inl (cI, 380, .inl ((zo_untell S E n k use).2.1))), (hE, .inl (cI, 7, .inl ((zo_untell S E n k use).2.2)))]) := by
  refine zMi.start (cc := cX6_untell) (maxL := 3) (rt := .int) (by first | decide | decide +kernel) rfl (Nat.le_of_ble_eq_true rfl) ?_
  intro pg ev s mt args below meth cd ls AA QQ ⟨hx, hb, hml, hr, hlocks, hown, hts, hK, hN, hZ, hP, hD, hA, hS, hl⟩ hret
  have hown : s.vm.findClass RX6 = some mt.cls := hown
  have hl : lv_has ls 3 [(0, .ref h), (1, .int use)] := hl
  have hin6 : ∀ w ∈ wsX60, w ∈ wsX6_untell := fun w h => List.mem_cons_of_mem _ (List.mem_append_right _ (h))
  refine lv_iload_n hx hb dX6_untell_0 rfl (lv_at hl 1 rfl) ?_
  refine lv_iconst (v := nI 0) hx hb dX6_untell_1 (by decide) ?_
  refine lv_iconst (v := nI 1) hx hb dX6_untell_2 (by decide) ?_
  refine zcsE (va_runS (As := [.int use, .int (nI 0), .int (nI 1)]) (rest := []) ⟨hx, hb, hml, hown, hts⟩ (d_X6_in l D cI cJ use (nI 0) (nI 1) 0 1 (by decide) (by decide) s.heap.size) (va_cwS 3 hts gX6_untell_X6_in rfl rfl rfl (by decide +kernel) ⟨Nat.le_of_ble_eq_true rfl, Nat.le_of_ble_eq_true rfl⟩) (zpS hK hN hZ hP hD hS hA [] rfl (by decide)) rfl rfl hl.1 rfl (lv_room (Nat.le_of_ble_eq_true rfl)) dX6_untell_3 ⟨Nat.zero_le _, Nat.zero_le _⟩) ?_
  refine lv_if_ne (tgt := 15) hx hb dX6_untell_6 (by decide) (fun c6_1 => ?_) (fun c6_1 => ?_)
  · have c6_1 := bI_n0.mp c6_1
    obtain ⟨q, h_q, rfl⟩ : ∃ q : Nat, q ≤ 1 ∧ use = nI q := zrg_of c6_1 (by decide)
    rcases (show q = 0 ∨ q = 1 from by omega) with h9 | h9
    · subst h9
      refine lv_aload_n hx hb dX6_untell_15 rfl (lv_at hl 0 rfl) ?_
      refine lv_iload_n hx hb dX6_untell_16 rfl (lv_at hl 1 rfl) ?_
      refine zcsE (va_runV (As := [.int (nI 0)]) (rest := []) ⟨hx, hb, hml, hown, hts⟩ (c_X6_hasText l D cI cJ h hs fs S 0 len0 (by first | rfl | assumption | omega) (by decide) htx0.1 hwf0.1 s.heap.size) (cwV 1 hts gX6_untell_X6_hasText rfl rfl rfl (by decide +kernel) ⟨Nat.le_of_ble_eq_true rfl, Nat.le_of_ble_eq_true rfl⟩) (zpV hK hN hZ hP hD hS hA [0, 1] rfl (by decide) 0 rfl rfl rfl) rfl rfl hl.1 rfl (lv_room (Nat.le_of_ble_eq_true rfl)) dX6_untell_17 ⟨Nat.zero_le _, Nat.zero_le _⟩) ?_
      refine lv_if_eq (tgt := 27) hx hb dX6_untell_20 (by decide) (fun c20_2 => ?_) (fun c20_2 => ?_)
      · have c20_2 := bI_0.mp c20_2
        refine lv_iconst (v := nI 0) hx hb dX6_untell_27 (by decide) ?_
        refine lv_istore_n (lv' := [(2, .int (nI 0)), (0, .ref h), (1, .int (nI 0))]) hx hb dX6_untell_28 rfl hl (by decide) rfl (fun ls hl => ?_)
        refine lv_aload_n hx hb dX6_untell_29 rfl (lv_at hl 1 rfl) ?_
        refine va_get (ci := 6) (v := .ref hs) (C := RX6) (T := TX6) (N := 20) hx hb hts hin6 hown hK hP 0 rfl rfl 0 (by decide) (hts (.fieldLink RX6 7 "UpAllRoundModel" "s" "[I") (List.mem_of_getElem? (i := 1) rfl)) (fun _ h9 => h9) hf0 dX6_untell_30 ?_
        refine lv_bipush (v := nI 46) hx hb dX6_untell_33 (by decide) ?_
        refine lv_bipush (v := nI 125) hx hb dX6_untell_35 (by decide) ?_
        refine lv_iload_n hx hb dX6_untell_37 rfl (lv_at hl 2 rfl) ?_
        refine lv_imul hx hb dX6_untell_38 ?_
        refine zrw (pk_mul _ _) ?_
        refine lv_iadd hx hb dX6_untell_39 ?_
        refine zrw (nI_add _ _) ?_
        refine lv_iconst (v := nI 0) hx hb dX6_untell_40 (by decide) ?_
        refine zast (t := 46) hx hb hK hP hD hS 1 rfl (by omega) (by decide) dX6_untell_41 (fun H locs hP hD hS => ?_)
        have hP : va_P D vwCl [(h, .inr (6, fs)), (hs, .inl (cI, 380, .inl (upd S 46 (nI 0)))), (hE, .inl (cI, 7, .inl E))] H := hP
        have hD : va_D AA [(h, .inr (6, fs)), (hs, .inl (cI, 380, .inl (upd S 46 (nI 0)))), (hE, .inl (cI, 7, .inl E))] := hD
        refine lv_iload_n hx hb dX6_untell_42 rfl (lv_at hl 0 rfl) ?_
        exact hret hP hD hS dX6_untell_43 rfl (by rw [show zo_untell S E n k (nI 0) = (bI (0 < len0), upd S (46 + 125 * 0) (nI 0), E) from by rw [zo_untell, if_pos (show zrg 0 1 (nI 0) by decide), nI_clamp (show 0 < 2147483648 by omega), htx0.1, nI_clamp (Nat.lt_of_le_of_lt hwf0.1 (by decide))] <;> rfl]; exact ⟨(bI_f (by assumption)).symm, rfl⟩)
      · have c20_2 := bI_n0.mp c20_2
        refine lv_iconst (v := nI 1) hx hb dX6_untell_23 (by decide) ?_
        refine lv_goto (tgt := 28) hx hb dX6_untell_24 (by decide) ?_
        refine lv_istore_n (lv' := [(2, .int (nI 1)), (0, .ref h), (1, .int (nI 0))]) hx hb dX6_untell_28 rfl hl (by decide) rfl (fun ls hl => ?_)
        refine lv_aload_n hx hb dX6_untell_29 rfl (lv_at hl 1 rfl) ?_
        refine va_get (ci := 6) (v := .ref hs) (C := RX6) (T := TX6) (N := 20) hx hb hts hin6 hown hK hP 0 rfl rfl 0 (by decide) (hts (.fieldLink RX6 7 "UpAllRoundModel" "s" "[I") (List.mem_of_getElem? (i := 1) rfl)) (fun _ h9 => h9) hf0 dX6_untell_30 ?_
        refine lv_bipush (v := nI 46) hx hb dX6_untell_33 (by decide) ?_
        refine lv_bipush (v := nI 125) hx hb dX6_untell_35 (by decide) ?_
        refine lv_iload_n hx hb dX6_untell_37 rfl (lv_at hl 2 rfl) ?_
        refine lv_imul hx hb dX6_untell_38 ?_
        refine zrw (pk_mul _ _) ?_
        refine lv_iadd hx hb dX6_untell_39 ?_
        refine zrw (nI_add _ _) ?_
        refine lv_iconst (v := nI 0) hx hb dX6_untell_40 (by decide) ?_
        refine zast (t := 46) hx hb hK hP hD hS 1 rfl (by omega) (by decide) dX6_untell_41 (fun H locs hP hD hS => ?_)
        have hP : va_P D vwCl [(h, .inr (6, fs)), (hs, .inl (cI, 380, .inl (upd S 46 (nI 0)))), (hE, .inl (cI, 7, .inl E))] H := hP
        have hD : va_D AA [(h, .inr (6, fs)), (hs, .inl (cI, 380, .inl (upd S 46 (nI 0)))), (hE, .inl (cI, 7, .inl E))] := hD
        refine lv_iload_n hx hb dX6_untell_42 rfl (lv_at hl 0 rfl) ?_
        exact hret hP hD hS dX6_untell_43 rfl (by rw [show zo_untell S E n k (nI 0) = (bI (0 < len0), upd S (46 + 125 * 0) (nI 0), E) from by rw [zo_untell, if_pos (show zrg 0 1 (nI 0) by decide), nI_clamp (show 0 < 2147483648 by omega), htx0.1, nI_clamp (Nat.lt_of_le_of_lt hwf0.1 (by decide))] <;> rfl]; exact ⟨(bI_t (by assumption)).symm, rfl⟩)
    · subst h9
      refine lv_aload_n hx hb dX6_untell_15 rfl (lv_at hl 0 rfl) ?_
      refine lv_iload_n hx hb dX6_untell_16 rfl (lv_at hl 1 rfl) ?_
      refine zcsE (va_runV (As := [.int (nI 1)]) (rest := []) ⟨hx, hb, hml, hown, hts⟩ (c_X6_hasText l D cI cJ h hs fs S 1 len1 (by first | rfl | assumption | omega) (by decide) htx1.1 hwf1.1 s.heap.size) (cwV 1 hts gX6_untell_X6_hasText rfl rfl rfl (by decide +kernel) ⟨Nat.le_of_ble_eq_true rfl, Nat.le_of_ble_eq_true rfl⟩) (zpV hK hN hZ hP hD hS hA [0, 1] rfl (by decide) 0 rfl rfl rfl) rfl rfl hl.1 rfl (lv_room (Nat.le_of_ble_eq_true rfl)) dX6_untell_17 ⟨Nat.zero_le _, Nat.zero_le _⟩) ?_
      refine lv_if_eq (tgt := 27) hx hb dX6_untell_20 (by decide) (fun c20_3 => ?_) (fun c20_3 => ?_)
      · have c20_3 := bI_0.mp c20_3
        refine lv_iconst (v := nI 0) hx hb dX6_untell_27 (by decide) ?_
        refine lv_istore_n (lv' := [(2, .int (nI 0)), (0, .ref h), (1, .int (nI 1))]) hx hb dX6_untell_28 rfl hl (by decide) rfl (fun ls hl => ?_)
        refine lv_aload_n hx hb dX6_untell_29 rfl (lv_at hl 1 rfl) ?_
        refine va_get (ci := 6) (v := .ref hs) (C := RX6) (T := TX6) (N := 20) hx hb hts hin6 hown hK hP 0 rfl rfl 0 (by decide) (hts (.fieldLink RX6 7 "UpAllRoundModel" "s" "[I") (List.mem_of_getElem? (i := 1) rfl)) (fun _ h9 => h9) hf0 dX6_untell_30 ?_
        refine lv_bipush (v := nI 46) hx hb dX6_untell_33 (by decide) ?_
        refine lv_bipush (v := nI 125) hx hb dX6_untell_35 (by decide) ?_
        refine lv_iload_n hx hb dX6_untell_37 rfl (lv_at hl 2 rfl) ?_
        refine lv_imul hx hb dX6_untell_38 ?_
        refine zrw (pk_mul _ _) ?_
        refine lv_iadd hx hb dX6_untell_39 ?_
        refine zrw (nI_add _ _) ?_
        refine lv_iconst (v := nI 0) hx hb dX6_untell_40 (by decide) ?_
        refine zast (t := 171) hx hb hK hP hD hS 1 rfl (by omega) (by decide) dX6_untell_41 (fun H locs hP hD hS => ?_)
        have hP : va_P D vwCl [(h, .inr (6, fs)), (hs, .inl (cI, 380, .inl (upd S 171 (nI 0)))), (hE, .inl (cI, 7, .inl E))] H := hP
        have hD : va_D AA [(h, .inr (6, fs)), (hs, .inl (cI, 380, .inl (upd S 171 (nI 0)))), (hE, .inl (cI, 7, .inl E))] := hD
        refine lv_iload_n hx hb dX6_untell_42 rfl (lv_at hl 0 rfl) ?_
        exact hret hP hD hS dX6_untell_43 rfl (by rw [show zo_untell S E n k (nI 1) = (bI (0 < len1), upd S (46 + 125 * 1) (nI 0), E) from by rw [zo_untell, if_pos (show zrg 0 1 (nI 1) by decide), nI_clamp (show 1 < 2147483648 by omega), htx1.1, nI_clamp (Nat.lt_of_le_of_lt hwf1.1 (by decide))] <;> rfl]; exact ⟨(bI_f (by assumption)).symm, rfl⟩)
      · have c20_3 := bI_n0.mp c20_3
        refine lv_iconst (v := nI 1) hx hb dX6_untell_23 (by decide) ?_
        refine lv_goto (tgt := 28) hx hb dX6_untell_24 (by decide) ?_
        refine lv_istore_n (lv' := [(2, .int (nI 1)), (0, .ref h), (1, .int (nI 1))]) hx hb dX6_untell_28 rfl hl (by decide) rfl (fun ls hl => ?_)
        refine lv_aload_n hx hb dX6_untell_29 rfl (lv_at hl 1 rfl) ?_
        refine va_get (ci := 6) (v := .ref hs) (C := RX6) (T := TX6) (N := 20) hx hb hts hin6 hown hK hP 0 rfl rfl 0 (by decide) (hts (.fieldLink RX6 7 "UpAllRoundModel" "s" "[I") (List.mem_of_getElem? (i := 1) rfl)) (fun _ h9 => h9) hf0 dX6_untell_30 ?_
        refine lv_bipush (v := nI 46) hx hb dX6_untell_33 (by decide) ?_
        refine lv_bipush (v := nI 125) hx hb dX6_untell_35 (by decide) ?_
        refine lv_iload_n hx hb dX6_untell_37 rfl (lv_at hl 2 rfl) ?_
        refine lv_imul hx hb dX6_untell_38 ?_
        refine zrw (pk_mul _ _) ?_
        refine lv_iadd hx hb dX6_untell_39 ?_
        refine zrw (nI_add _ _) ?_
        refine lv_iconst (v := nI 0) hx hb dX6_untell_40 (by decide) ?_
        refine zast (t := 171) hx hb hK hP hD hS 1 rfl (by omega) (by decide) dX6_untell_41 (fun H locs hP hD hS => ?_)
        have hP : va_P D vwCl [(h, .inr (6, fs)), (hs, .inl (cI, 380, .inl (upd S 171 (nI 0)))), (hE, .inl (cI, 7, .inl E))] H := hP
        have hD : va_D AA [(h, .inr (6, fs)), (hs, .inl (cI, 380, .inl (upd S 171 (nI 0)))), (hE, .inl (cI, 7, .inl E))] := hD
        refine lv_iload_n hx hb dX6_untell_42 rfl (lv_at hl 0 rfl) ?_
        exact hret hP hD hS dX6_untell_43 rfl (by rw [show zo_untell S E n k (nI 1) = (bI (0 < len1), upd S (46 + 125 * 1) (nI 0), E) from by rw [zo_untell, if_pos (show zrg 0 1 (nI 1) by decide), nI_clamp (show 1 < 2147483648 by omega), htx1.1, nI_clamp (Nat.lt_of_le_of_lt hwf1.1 (by decide))] <;> rfl]; exact ⟨(bI_t (by assumption)).symm, rfl⟩)
  · have c6_1 := bI_0.mp c6_1
    refine lv_aload_n hx hb dX6_untell_9 rfl (lv_at hl 0 rfl) ?_
    refine lv_iconst (v := nI 1) hx hb dX6_untell_10 (by decide) ?_
    refine zci (wr := [(hs, .inl (cI, 380, .inl S))]) (va_runV (As := [.int (nI 1)]) (rest := []) ⟨hx, hb, hml, hown, hts⟩ (c_X6_error l D cI cJ h hE fs E 1 (by first | rfl | assumption | omega) (by first | rfl | assumption | omega) s.heap.size) (cwV 1 hts gX6_untell_X6_error rfl rfl rfl (by decide +kernel) ⟨Nat.le_of_ble_eq_true rfl, Nat.le_of_ble_eq_true rfl⟩) (zpV hK hN hZ hP hD hS hA [0, 2] rfl (by decide) 0 rfl rfl rfl) rfl rfl hl.1 rfl (lv_room (Nat.le_of_ble_eq_true rfl)) dX6_untell_11 ⟨Nat.zero_le _, Nat.zero_le _⟩) hP hD hS hA [0, 2] [1] rfl rfl (by decide) (by decide) (fun r_6 w_5 H locs h_4 hP hD hS => ?_)
    obtain ⟨rfl, rfl⟩ := h_4
    have hP : va_P D vwCl [(hs, .inl (cI, 380, .inl S)), (h, .inr (6, fs)), (hE, .inl (cI, 7, .inl (upd E 1 (E 1 + nI 1))))] H := hP
    have hD : va_D AA [(hs, .inl (cI, 380, .inl S)), (h, .inr (6, fs)), (hE, .inl (cI, 7, .inl (upd E 1 (E 1 + nI 1))))] := hD
    have hP := hP.sub (ws' := [(h, .inr (6, fs)), (hs, .inl (cI, 380, .inl S)), (hE, .inl (cI, 7, .inl (upd E 1 (E 1 + nI 1))))]) [1, 0, 2] rfl
    have hD := hD.sub (ws' := [(h, .inr (6, fs)), (hs, .inl (cI, 380, .inl S)), (hE, .inl (cI, 7, .inl (upd E 1 (E 1 + nI 1))))]) [1, 0, 2] (by decide) rfl
    exact hret hP hD hS dX6_untell_14 rfl (by rw [show zo_untell S E n k use = zerrE 1 S E from by rw [zo_untell, if_neg (by assumption)] <;> rfl]; exact ⟨rfl, rfl⟩)
set_option maxHeartbeats 4000000 in
set_option maxRecDepth 100000 in
theorem c_X3_lawOf (l : Launch) (D : va_G) (cI cJ : ClassId) (h : Nat) (hw : Nat) (hv : Nat) (fs : List Value) (u : Nat) (x9 : Nat) (hf9 : fs[9]? = some (.ref hw)) (hf10 : fs[10]? = some (.ref hv)) (hx9 : x9 = if u = 0 then hw else hv) (hu1 : u ≤ 1) : zSr l yX3_lawOf wsX3_lawOf ({ frames := 0, cells := 0, slots := 0, locals := 0 } : Room) D [(cI, .int), (cJ, .array .int)] [.ref h, .int (nI u)] [(h, .inr (3, fs))] (x9) := by
  refine zSr.start (cc := cX3_lawOf) (maxL := 2) (rt := (.object "UpAllRound$Law")) (by first | decide | decide +kernel) rfl (Nat.le_of_ble_eq_true rfl) ?_
  intro pg ev s mt args below meth cd ls AA QQ ⟨hx, hb, hml, hr, hlocks, hown, hts, hK, hN, hZ, hP, hD, hA, hS, hl⟩ hret
  have hown : s.vm.findClass RX3 = some mt.cls := hown
  have hl : lv_has ls 2 [(0, .ref h), (1, .int (nI u))] := hl
  have hin3 : ∀ w ∈ wsX30, w ∈ wsX3_lawOf := fun w h => List.mem_cons_of_mem _ (List.mem_append_right _ (h))
  refine lv_iload_n hx hb dX3_lawOf_0 rfl (lv_at hl 1 rfl) ?_
  refine lv_if_ne (tgt := 11) hx hb dX3_lawOf_1 (by decide) (fun c1_1 => ?_) (fun c1_1 => ?_)
  · have c1_1 : ¬ (u = 0) := fun h9 => c1_1 ((nI_eq (a := u) (b := 0) (by omega) (by omega)).mpr h9)
    refine lv_aload_n hx hb dX3_lawOf_11 rfl (lv_at hl 0 rfl) ?_
    refine va_get (ci := 3) (v := .ref hv) (C := RX3) (T := TX3) (N := 16) hx hb hts hin3 hown hK hP 0 rfl rfl 10 (by decide) (hts (.fieldLink RX3 41 "UpAllRound$Stair" "worth" "LUpAllRound$Law;") (List.mem_of_getElem? (i := 2) rfl)) (fun _ h9 => h9) hf10 dX3_lawOf_12 ?_
    exact hret dX3_lawOf_15 (Or.inl ⟨_, rfl⟩) (by rw [hx9, if_neg (by omega)])
  · have c1_1 : u = 0 := (nI_eq (a := u) (b := 0) (by omega) (by omega)).mp c1_1
    refine lv_aload_n hx hb dX3_lawOf_4 rfl (lv_at hl 0 rfl) ?_
    refine va_get (ci := 3) (v := .ref hw) (C := RX3) (T := TX3) (N := 16) hx hb hts hin3 hown hK hP 0 rfl rfl 9 (by decide) (hts (.fieldLink RX3 37 "UpAllRound$Stair" "counted" "LUpAllRound$Law;") (List.mem_of_getElem? (i := 1) rfl)) (fun _ h9 => h9) hf9 dX3_lawOf_5 ?_
    refine lv_goto (tgt := 15) hx hb dX3_lawOf_8 (by decide) ?_
    exact hret dX3_lawOf_15 (Or.inl ⟨_, rfl⟩) (by rw [hx9, if_pos (by omega)])
set_option maxHeartbeats 4000000 in
set_option maxRecDepth 100000 in
theorem c_X5_untell (l : Launch) (D : va_G) (cI cJ : ClassId) (h : Nat) (hE : Nat) (hS9 : Nat) (fs : List Value) (S : Nat → Int32) (E : Nat → Int32) (n : Nat) (k : Nat) (ft : List Value) (hw : Nat) (hv : Nat) (hc0 : Nat) (hs0 : Nat) (hc1 : Nat) (hs1 : Nat) (len0 : Nat) (tk0 : zTk) (len1 : Nat) (tk1 : zTk) (use : Int32) (hU0 : fs[0]? = some (.ref hS9)) (hU7 : fs[7]? = some (.ref hE)) (hn1 : S 1 = nI n) (hk6 : S 6 = nI k) (hn4 : 4 ≤ n) (hn14 : n ≤ 14) (hkle : k ≤ 6) (hft9 : ft[9]? = some (.ref hw)) (hft10 : ft[10]? = some (.ref hv)) (htx0 : zTX S 0 len0 tk0) (htx1 : zTX S 1 len1 tk1) (hwf0 : zWF len0 tk0) (hwf1 : zWF len1 tk1) : zMi l yX5_untell wsX5_untell ({ frames := 1, cells := 0, slots := 0, locals := 22 } : Room) D [(cI, .int), (cJ, .array .int)] [.ref h, .int use] [(h, .inr (5, fs)), (hS9, .inr (3, ft)), (hE, .inl (cI, 7, .inl E)), (hw, .inr (0, [.ref hc0, .int (nI len0), .ref hs0])), (hv, .inr (0, [.ref hc1, .int (nI len1), .ref hs1]))] (fun r w => r = (zo_untell S E n k use).1 ∧ w = [(h, .inr (5, fs)), (hS9, .inr (3, ft)), (hE, .inl (cI, 7, .inl ((zo_untell S E n k use).2.2))), (hw, .inr (0, [.ref hc0, .int ((zo_untell S E n k use).2.1 46), .ref hs0])), (hv, .inr (0, [.ref hc1, .int ((zo_untell S E n k use).2.1 171), .ref hs1]))]) := by
  refine zMi.start (cc := cX5_untell) (maxL := 4) (rt := .int) (by first | decide | decide +kernel) rfl (Nat.le_of_ble_eq_true rfl) ?_
  intro pg ev s mt args below meth cd ls AA QQ ⟨hx, hb, hml, hr, hlocks, hown, hts, hK, hN, hZ, hP, hD, hA, hS, hl⟩ hret
  have hown : s.vm.findClass RX5 = some mt.cls := hown
  have hl : lv_has ls 4 [(0, .ref h), (1, .int use)] := hl
  have hin0 : ∀ w ∈ wsX00, w ∈ wsX5_untell := fun w h => List.mem_cons_of_mem _ (List.mem_append_right _ (h))
  have hin3 : ∀ w ∈ wsX30, w ∈ wsX5_untell := fun w h => List.mem_cons_of_mem _ (List.mem_append_left _ (List.mem_append_right _ (h)))
  have hin5 : ∀ w ∈ wsX50, w ∈ wsX5_untell := fun w h => List.mem_cons_of_mem _ (List.mem_append_left _ (List.mem_append_left _ (List.mem_append_right _ (h))))
  refine lv_iload_n hx hb dX5_untell_0 rfl (lv_at hl 1 rfl) ?_
  refine lv_iconst (v := nI 0) hx hb dX5_untell_1 (by decide) ?_
  refine lv_iconst (v := nI 1) hx hb dX5_untell_2 (by decide) ?_
  refine zcsE (va_runS (As := [.int use, .int (nI 0), .int (nI 1)]) (rest := []) ⟨hx, hb, hml, hown, hts⟩ (d_X5_isOutside l D cI cJ use (nI 0) (nI 1) 0 1 (by decide) (by decide) s.heap.size) (va_cwS 3 hts gX5_untell_X5_isOutside rfl rfl rfl (by decide +kernel) ⟨Nat.le_of_ble_eq_true rfl, Nat.le_of_ble_eq_true rfl⟩) (zpS hK hN hZ hP hD hS hA [] rfl (by decide)) rfl rfl hl.1 rfl (lv_room (Nat.le_of_ble_eq_true rfl)) dX5_untell_3 ⟨Nat.zero_le _, Nat.zero_le _⟩) ?_
  refine lv_if_eq (tgt := 15) hx hb dX5_untell_6 (by decide) (fun c6_1 => ?_) (fun c6_1 => ?_)
  · have c6_1 := bI_nX0.mp c6_1
    obtain ⟨q, h_q, rfl⟩ : ∃ q : Nat, q ≤ 1 ∧ use = nI q := zrg_of c6_1 (by decide)
    rcases (show q = 0 ∨ q = 1 from by omega) with h9 | h9
    · subst h9
      refine lv_aload_n hx hb dX5_untell_15 rfl (lv_at hl 0 rfl) ?_
      refine va_get (ci := 5) (v := .ref hS9) (C := RX5) (T := TX5) (N := 9) hx hb hts hin5 hown hK hP 0 rfl rfl 0 (by decide) (hts (.fieldLink RX5 12 "UpAllRound" "now" "LUpAllRound$Stair;") (List.mem_of_getElem? (i := 1) rfl)) (fun _ h9 => h9) hU0 dX5_untell_16 ?_
      refine lv_iload_n hx hb dX5_untell_19 rfl (lv_at hl 1 rfl) ?_
      refine zcr (va_runVN (As := [.int (nI 0)]) (rest := []) ⟨hx, hb, hml, hown, hts⟩ (c_X3_lawOf l D cI cJ hS9 hw hv ft 0 hw (by first | rfl | assumption | omega) (by first | rfl | assumption | omega) (by first | rfl | assumption | omega) (by first | rfl | assumption | omega) s.heap.size) ⟨va_cnB 1 hts gX5_untell_X3_lawOf_n130 rfl rfl rfl (hN (.methodLinkNest "UpAllRound" 130 yX3_lawOf "UpAllRound") (List.mem_of_getElem? (i := 39) rfl)) (hts (.initialized RX3) (List.mem_of_getElem? (i := 13) rfl)) (by decide +kernel) ⟨Nat.le_of_ble_eq_true rfl, Nat.le_of_ble_eq_true rfl⟩, (hts (.instanceMethod yX3_lawOf) (List.mem_of_getElem? (i := 12) rfl)), (hts (.selects RX3 yX3_lawOf yX3_lawOf) (List.mem_of_getElem? (i := 14) rfl))⟩ (zpV hK hN hZ hP hD hS hA [1] rfl (by decide) 1 rfl rfl rfl) rfl rfl hl.1 rfl (lv_room (Nat.le_of_ble_eq_true rfl)) dX5_untell_20 ⟨Nat.zero_le _, Nat.zero_le _⟩) ?_
      refine lv_astore_n (lv' := [(2, .ref hw), (0, .ref h), (1, .int (nI 0))]) hx hb dX5_untell_23 rfl hl (by decide) rfl (fun ls hl => ?_)
      refine lv_aload_n hx hb dX5_untell_24 rfl (lv_at hl 0 rfl) ?_
      refine zcsE (va_runVN (As := []) (rest := []) ⟨hx, hb, hml, hown, hts⟩ (c_X0_stands l D cI cJ hw [.ref hc0, .int (nI len0), .ref hs0] len0 (by first | rfl | assumption | omega) hwf0.1 s.heap.size) ⟨va_cnB 0 hts gX5_untell_X0_stands_n144 rfl rfl rfl (hN (.methodLinkNest "UpAllRound" 144 yX0_stands "UpAllRound") (List.mem_of_getElem? (i := 41) rfl)) (hts (.initialized RX0) (List.mem_of_getElem? (i := 19) rfl)) (by decide +kernel) ⟨Nat.le_of_ble_eq_true rfl, Nat.le_of_ble_eq_true rfl⟩, (hts (.instanceMethod yX0_stands) (List.mem_of_getElem? (i := 18) rfl)), (hts (.selects RX0 yX0_stands yX0_stands) (List.mem_of_getElem? (i := 20) rfl))⟩ (zpV hK hN hZ hP hD hS hA [3] rfl (by decide) 3 rfl rfl rfl) rfl rfl hl.1 rfl (lv_room (Nat.le_of_ble_eq_true rfl)) dX5_untell_25 ⟨Nat.zero_le _, Nat.zero_le _⟩) ?_
      refine lv_if_eq (tgt := 35) hx hb dX5_untell_28 (by decide) (fun c28_2 => ?_) (fun c28_2 => ?_)
      · have c28_2 := bI_0.mp c28_2
        refine lv_iconst (v := nI 0) hx hb dX5_untell_35 (by decide) ?_
        refine lv_istore_n (lv' := [(3, .int (nI 0)), (2, .ref hw), (0, .ref h), (1, .int (nI 0))]) hx hb dX5_untell_36 rfl hl (by decide) rfl (fun ls hl => ?_)
        refine lv_aload_n hx hb dX5_untell_37 rfl (lv_at hl 1 rfl) ?_
        refine zcv (wr := [(h, .inr (5, fs)), (hS9, .inr (3, ft)), (hE, .inl (cI, 7, .inl E)), (hv, .inr (0, [.ref hc1, .int (nI len1), .ref hs1]))]) (va_runVN (As := []) (rest := []) ⟨hx, hb, hml, hown, hts⟩ (c_X0_clear l D cI cJ hw hc0 hs0 len0  s.heap.size) ⟨va_cnB 0 hts gX5_untell_X0_clear_n148 rfl rfl rfl (hN (.methodLinkNest "UpAllRound" 148 yX0_clear "UpAllRound") (List.mem_of_getElem? (i := 42) rfl)) (hts (.initialized RX0) (List.mem_of_getElem? (i := 19) rfl)) (by decide +kernel) ⟨Nat.le_of_ble_eq_true rfl, Nat.le_of_ble_eq_true rfl⟩, (hts (.instanceMethod yX0_clear) (List.mem_of_getElem? (i := 23) rfl)), (hts (.selects RX0 yX0_clear yX0_clear) (List.mem_of_getElem? (i := 24) rfl))⟩ (zpV hK hN hZ hP hD hS hA [3] rfl (by decide) 3 rfl rfl rfl) rfl rfl hl.1 rfl (lv_room (Nat.le_of_ble_eq_true rfl)) dX5_untell_38 ⟨Nat.zero_le _, Nat.zero_le _⟩) hP hD hS hA [3] [0, 1, 2, 4] rfl rfl (by decide) (by decide) (fun w_4 H locs h_3 hP hD hS => ?_)
        obtain rfl := h_3
        have hP : va_P D vwCl [(h, .inr (5, fs)), (hS9, .inr (3, ft)), (hE, .inl (cI, 7, .inl E)), (hv, .inr (0, [.ref hc1, .int (nI len1), .ref hs1])), (hw, .inr (0, [.ref hc0, .int (nI 0), .ref hs0]))] H := hP
        have hD : va_D AA [(h, .inr (5, fs)), (hS9, .inr (3, ft)), (hE, .inl (cI, 7, .inl E)), (hv, .inr (0, [.ref hc1, .int (nI len1), .ref hs1])), (hw, .inr (0, [.ref hc0, .int (nI 0), .ref hs0]))] := hD
        refine lv_iload_n hx hb dX5_untell_41 rfl (lv_at hl 0 rfl) ?_
        have hP := hP.sub (ws' := [(h, .inr (5, fs)), (hS9, .inr (3, ft)), (hE, .inl (cI, 7, .inl E)), (hw, .inr (0, [.ref hc0, .int (nI 0), .ref hs0])), (hv, .inr (0, [.ref hc1, .int (nI len1), .ref hs1]))]) [0, 1, 2, 4, 3] rfl
        have hD := hD.sub (ws' := [(h, .inr (5, fs)), (hS9, .inr (3, ft)), (hE, .inl (cI, 7, .inl E)), (hw, .inr (0, [.ref hc0, .int (nI 0), .ref hs0])), (hv, .inr (0, [.ref hc1, .int (nI len1), .ref hs1]))]) [0, 1, 2, 4, 3] (by decide) rfl
        exact hret hP hD hS dX5_untell_42 rfl (by rw [show zo_untell S E n k (nI 0) = (bI (0 < len0), upd S (46 + 125 * 0) (nI 0), E) from by rw [zo_untell, if_pos (show zrg 0 1 (nI 0) by decide), nI_clamp (show 0 < 2147483648 by omega), htx0.1, nI_clamp (Nat.lt_of_le_of_lt hwf0.1 (by decide))] <;> rfl]; exact ⟨(bI_f (by assumption)).symm, by rw [← show S 171 = nI len1 from htx1.1]; rfl⟩)
      · have c28_2 := bI_n0.mp c28_2
        refine lv_iconst (v := nI 1) hx hb dX5_untell_31 (by decide) ?_
        refine lv_goto (tgt := 36) hx hb dX5_untell_32 (by decide) ?_
        refine lv_istore_n (lv' := [(3, .int (nI 1)), (2, .ref hw), (0, .ref h), (1, .int (nI 0))]) hx hb dX5_untell_36 rfl hl (by decide) rfl (fun ls hl => ?_)
        refine lv_aload_n hx hb dX5_untell_37 rfl (lv_at hl 1 rfl) ?_
        refine zcv (wr := [(h, .inr (5, fs)), (hS9, .inr (3, ft)), (hE, .inl (cI, 7, .inl E)), (hv, .inr (0, [.ref hc1, .int (nI len1), .ref hs1]))]) (va_runVN (As := []) (rest := []) ⟨hx, hb, hml, hown, hts⟩ (c_X0_clear l D cI cJ hw hc0 hs0 len0  s.heap.size) ⟨va_cnB 0 hts gX5_untell_X0_clear_n148 rfl rfl rfl (hN (.methodLinkNest "UpAllRound" 148 yX0_clear "UpAllRound") (List.mem_of_getElem? (i := 42) rfl)) (hts (.initialized RX0) (List.mem_of_getElem? (i := 19) rfl)) (by decide +kernel) ⟨Nat.le_of_ble_eq_true rfl, Nat.le_of_ble_eq_true rfl⟩, (hts (.instanceMethod yX0_clear) (List.mem_of_getElem? (i := 23) rfl)), (hts (.selects RX0 yX0_clear yX0_clear) (List.mem_of_getElem? (i := 24) rfl))⟩ (zpV hK hN hZ hP hD hS hA [3] rfl (by decide) 3 rfl rfl rfl) rfl rfl hl.1 rfl (lv_room (Nat.le_of_ble_eq_true rfl)) dX5_untell_38 ⟨Nat.zero_le _, Nat.zero_le _⟩) hP hD hS hA [3] [0, 1, 2, 4] rfl rfl (by decide) (by decide) (fun w_6 H locs h_5 hP hD hS => ?_)
        obtain rfl := h_5
        have hP : va_P D vwCl [(h, .inr (5, fs)), (hS9, .inr (3, ft)), (hE, .inl (cI, 7, .inl E)), (hv, .inr (0, [.ref hc1, .int (nI len1), .ref hs1])), (hw, .inr (0, [.ref hc0, .int (nI 0), .ref hs0]))] H := hP
        have hD : va_D AA [(h, .inr (5, fs)), (hS9, .inr (3, ft)), (hE, .inl (cI, 7, .inl E)), (hv, .inr (0, [.ref hc1, .int (nI len1), .ref hs1])), (hw, .inr (0, [.ref hc0, .int (nI 0), .ref hs0]))] := hD
        refine lv_iload_n hx hb dX5_untell_41 rfl (lv_at hl 0 rfl) ?_
        have hP := hP.sub (ws' := [(h, .inr (5, fs)), (hS9, .inr (3, ft)), (hE, .inl (cI, 7, .inl E)), (hw, .inr (0, [.ref hc0, .int (nI 0), .ref hs0])), (hv, .inr (0, [.ref hc1, .int (nI len1), .ref hs1]))]) [0, 1, 2, 4, 3] rfl
        have hD := hD.sub (ws' := [(h, .inr (5, fs)), (hS9, .inr (3, ft)), (hE, .inl (cI, 7, .inl E)), (hw, .inr (0, [.ref hc0, .int (nI 0), .ref hs0])), (hv, .inr (0, [.ref hc1, .int (nI len1), .ref hs1]))]) [0, 1, 2, 4, 3] (by decide) rfl
        exact hret hP hD hS dX5_untell_42 rfl (by rw [show zo_untell S E n k (nI 0) = (bI (0 < len0), upd S (46 + 125 * 0) (nI 0), E) from by rw [zo_untell, if_pos (show zrg 0 1 (nI 0) by decide), nI_clamp (show 0 < 2147483648 by omega), htx0.1, nI_clamp (Nat.lt_of_le_of_lt hwf0.1 (by decide))] <;> rfl]; exact ⟨(bI_t (by assumption)).symm, by rw [← show S 171 = nI len1 from htx1.1]; rfl⟩)
    · subst h9
      refine lv_aload_n hx hb dX5_untell_15 rfl (lv_at hl 0 rfl) ?_
      refine va_get (ci := 5) (v := .ref hS9) (C := RX5) (T := TX5) (N := 9) hx hb hts hin5 hown hK hP 0 rfl rfl 0 (by decide) (hts (.fieldLink RX5 12 "UpAllRound" "now" "LUpAllRound$Stair;") (List.mem_of_getElem? (i := 1) rfl)) (fun _ h9 => h9) hU0 dX5_untell_16 ?_
      refine lv_iload_n hx hb dX5_untell_19 rfl (lv_at hl 1 rfl) ?_
      refine zcr (va_runVN (As := [.int (nI 1)]) (rest := []) ⟨hx, hb, hml, hown, hts⟩ (c_X3_lawOf l D cI cJ hS9 hw hv ft 1 hv (by first | rfl | assumption | omega) (by first | rfl | assumption | omega) (by first | rfl | assumption | omega) (by first | rfl | assumption | omega) s.heap.size) ⟨va_cnB 1 hts gX5_untell_X3_lawOf_n130 rfl rfl rfl (hN (.methodLinkNest "UpAllRound" 130 yX3_lawOf "UpAllRound") (List.mem_of_getElem? (i := 39) rfl)) (hts (.initialized RX3) (List.mem_of_getElem? (i := 13) rfl)) (by decide +kernel) ⟨Nat.le_of_ble_eq_true rfl, Nat.le_of_ble_eq_true rfl⟩, (hts (.instanceMethod yX3_lawOf) (List.mem_of_getElem? (i := 12) rfl)), (hts (.selects RX3 yX3_lawOf yX3_lawOf) (List.mem_of_getElem? (i := 14) rfl))⟩ (zpV hK hN hZ hP hD hS hA [1] rfl (by decide) 1 rfl rfl rfl) rfl rfl hl.1 rfl (lv_room (Nat.le_of_ble_eq_true rfl)) dX5_untell_20 ⟨Nat.zero_le _, Nat.zero_le _⟩) ?_
      refine lv_astore_n (lv' := [(2, .ref hv), (0, .ref h), (1, .int (nI 1))]) hx hb dX5_untell_23 rfl hl (by decide) rfl (fun ls hl => ?_)
      refine lv_aload_n hx hb dX5_untell_24 rfl (lv_at hl 0 rfl) ?_
      refine zcsE (va_runVN (As := []) (rest := []) ⟨hx, hb, hml, hown, hts⟩ (c_X0_stands l D cI cJ hv [.ref hc1, .int (nI len1), .ref hs1] len1 (by first | rfl | assumption | omega) hwf1.1 s.heap.size) ⟨va_cnB 0 hts gX5_untell_X0_stands_n144 rfl rfl rfl (hN (.methodLinkNest "UpAllRound" 144 yX0_stands "UpAllRound") (List.mem_of_getElem? (i := 41) rfl)) (hts (.initialized RX0) (List.mem_of_getElem? (i := 19) rfl)) (by decide +kernel) ⟨Nat.le_of_ble_eq_true rfl, Nat.le_of_ble_eq_true rfl⟩, (hts (.instanceMethod yX0_stands) (List.mem_of_getElem? (i := 18) rfl)), (hts (.selects RX0 yX0_stands yX0_stands) (List.mem_of_getElem? (i := 20) rfl))⟩ (zpV hK hN hZ hP hD hS hA [4] rfl (by decide) 4 rfl rfl rfl) rfl rfl hl.1 rfl (lv_room (Nat.le_of_ble_eq_true rfl)) dX5_untell_25 ⟨Nat.zero_le _, Nat.zero_le _⟩) ?_
      refine lv_if_eq (tgt := 35) hx hb dX5_untell_28 (by decide) (fun c28_7 => ?_) (fun c28_7 => ?_)
      · have c28_7 := bI_0.mp c28_7
        refine lv_iconst (v := nI 0) hx hb dX5_untell_35 (by decide) ?_
        refine lv_istore_n (lv' := [(3, .int (nI 0)), (2, .ref hv), (0, .ref h), (1, .int (nI 1))]) hx hb dX5_untell_36 rfl hl (by decide) rfl (fun ls hl => ?_)
        refine lv_aload_n hx hb dX5_untell_37 rfl (lv_at hl 1 rfl) ?_
        refine zcv (wr := [(h, .inr (5, fs)), (hS9, .inr (3, ft)), (hE, .inl (cI, 7, .inl E)), (hw, .inr (0, [.ref hc0, .int (nI len0), .ref hs0]))]) (va_runVN (As := []) (rest := []) ⟨hx, hb, hml, hown, hts⟩ (c_X0_clear l D cI cJ hv hc1 hs1 len1  s.heap.size) ⟨va_cnB 0 hts gX5_untell_X0_clear_n148 rfl rfl rfl (hN (.methodLinkNest "UpAllRound" 148 yX0_clear "UpAllRound") (List.mem_of_getElem? (i := 42) rfl)) (hts (.initialized RX0) (List.mem_of_getElem? (i := 19) rfl)) (by decide +kernel) ⟨Nat.le_of_ble_eq_true rfl, Nat.le_of_ble_eq_true rfl⟩, (hts (.instanceMethod yX0_clear) (List.mem_of_getElem? (i := 23) rfl)), (hts (.selects RX0 yX0_clear yX0_clear) (List.mem_of_getElem? (i := 24) rfl))⟩ (zpV hK hN hZ hP hD hS hA [4] rfl (by decide) 4 rfl rfl rfl) rfl rfl hl.1 rfl (lv_room (Nat.le_of_ble_eq_true rfl)) dX5_untell_38 ⟨Nat.zero_le _, Nat.zero_le _⟩) hP hD hS hA [4] [0, 1, 2, 3] rfl rfl (by decide) (by decide) (fun w_9 H locs h_8 hP hD hS => ?_)
        obtain rfl := h_8
        have hP : va_P D vwCl [(h, .inr (5, fs)), (hS9, .inr (3, ft)), (hE, .inl (cI, 7, .inl E)), (hw, .inr (0, [.ref hc0, .int (nI len0), .ref hs0])), (hv, .inr (0, [.ref hc1, .int (nI 0), .ref hs1]))] H := hP
        have hD : va_D AA [(h, .inr (5, fs)), (hS9, .inr (3, ft)), (hE, .inl (cI, 7, .inl E)), (hw, .inr (0, [.ref hc0, .int (nI len0), .ref hs0])), (hv, .inr (0, [.ref hc1, .int (nI 0), .ref hs1]))] := hD
        refine lv_iload_n hx hb dX5_untell_41 rfl (lv_at hl 0 rfl) ?_
        exact hret hP hD hS dX5_untell_42 rfl (by rw [show zo_untell S E n k (nI 1) = (bI (0 < len1), upd S (46 + 125 * 1) (nI 0), E) from by rw [zo_untell, if_pos (show zrg 0 1 (nI 1) by decide), nI_clamp (show 1 < 2147483648 by omega), htx1.1, nI_clamp (Nat.lt_of_le_of_lt hwf1.1 (by decide))] <;> rfl]; exact ⟨(bI_f (by assumption)).symm, by rw [← show S 46 = nI len0 from htx0.1]; rfl⟩)
      · have c28_7 := bI_n0.mp c28_7
        refine lv_iconst (v := nI 1) hx hb dX5_untell_31 (by decide) ?_
        refine lv_goto (tgt := 36) hx hb dX5_untell_32 (by decide) ?_
        refine lv_istore_n (lv' := [(3, .int (nI 1)), (2, .ref hv), (0, .ref h), (1, .int (nI 1))]) hx hb dX5_untell_36 rfl hl (by decide) rfl (fun ls hl => ?_)
        refine lv_aload_n hx hb dX5_untell_37 rfl (lv_at hl 1 rfl) ?_
        refine zcv (wr := [(h, .inr (5, fs)), (hS9, .inr (3, ft)), (hE, .inl (cI, 7, .inl E)), (hw, .inr (0, [.ref hc0, .int (nI len0), .ref hs0]))]) (va_runVN (As := []) (rest := []) ⟨hx, hb, hml, hown, hts⟩ (c_X0_clear l D cI cJ hv hc1 hs1 len1  s.heap.size) ⟨va_cnB 0 hts gX5_untell_X0_clear_n148 rfl rfl rfl (hN (.methodLinkNest "UpAllRound" 148 yX0_clear "UpAllRound") (List.mem_of_getElem? (i := 42) rfl)) (hts (.initialized RX0) (List.mem_of_getElem? (i := 19) rfl)) (by decide +kernel) ⟨Nat.le_of_ble_eq_true rfl, Nat.le_of_ble_eq_true rfl⟩, (hts (.instanceMethod yX0_clear) (List.mem_of_getElem? (i := 23) rfl)), (hts (.selects RX0 yX0_clear yX0_clear) (List.mem_of_getElem? (i := 24) rfl))⟩ (zpV hK hN hZ hP hD hS hA [4] rfl (by decide) 4 rfl rfl rfl) rfl rfl hl.1 rfl (lv_room (Nat.le_of_ble_eq_true rfl)) dX5_untell_38 ⟨Nat.zero_le _, Nat.zero_le _⟩) hP hD hS hA [4] [0, 1, 2, 3] rfl rfl (by decide) (by decide) (fun w_11 H locs h_10 hP hD hS => ?_)
        obtain rfl := h_10
        have hP : va_P D vwCl [(h, .inr (5, fs)), (hS9, .inr (3, ft)), (hE, .inl (cI, 7, .inl E)), (hw, .inr (0, [.ref hc0, .int (nI len0), .ref hs0])), (hv, .inr (0, [.ref hc1, .int (nI 0), .ref hs1]))] H := hP
        have hD : va_D AA [(h, .inr (5, fs)), (hS9, .inr (3, ft)), (hE, .inl (cI, 7, .inl E)), (hw, .inr (0, [.ref hc0, .int (nI len0), .ref hs0])), (hv, .inr (0, [.ref hc1, .int (nI 0), .ref hs1]))] := hD
        refine lv_iload_n hx hb dX5_untell_41 rfl (lv_at hl 0 rfl) ?_
        exact hret hP hD hS dX5_untell_42 rfl (by rw [show zo_untell S E n k (nI 1) = (bI (0 < len1), upd S (46 + 125 * 1) (nI 0), E) from by rw [zo_untell, if_pos (show zrg 0 1 (nI 1) by decide), nI_clamp (show 1 < 2147483648 by omega), htx1.1, nI_clamp (Nat.lt_of_le_of_lt hwf1.1 (by decide))] <;> rfl]; exact ⟨(bI_t (by assumption)).symm, by rw [← show S 46 = nI len0 from htx0.1]; rfl⟩)
  · have c6_1 := bI_nn0.mp c6_1
    refine lv_aload_n hx hb dX5_untell_9 rfl (lv_at hl 0 rfl) ?_
    refine lv_iconst (v := nI 1) hx hb dX5_untell_10 (by decide) ?_
    refine zci (wr := [(hS9, .inr (3, ft)), (hw, .inr (0, [.ref hc0, .int (nI len0), .ref hs0])), (hv, .inr (0, [.ref hc1, .int (nI len1), .ref hs1]))]) (va_runV (As := [.int (nI 1)]) (rest := []) ⟨hx, hb, hml, hown, hts⟩ (c_X5_refuse l D cI cJ h hE fs E 1 (by first | rfl | assumption | omega) (by first | rfl | assumption | omega) s.heap.size) (cwV 1 hts gX5_untell_X5_refuse rfl rfl rfl (by decide +kernel) ⟨Nat.le_of_ble_eq_true rfl, Nat.le_of_ble_eq_true rfl⟩) (zpV hK hN hZ hP hD hS hA [0, 2] rfl (by decide) 0 rfl rfl rfl) rfl rfl hl.1 rfl (lv_room (Nat.le_of_ble_eq_true rfl)) dX5_untell_11 ⟨Nat.zero_le _, Nat.zero_le _⟩) hP hD hS hA [0, 2] [1, 3, 4] rfl rfl (by decide) (by decide) (fun r_14 w_13 H locs h_12 hP hD hS => ?_)
    obtain ⟨rfl, rfl⟩ := h_12
    have hP : va_P D vwCl [(hS9, .inr (3, ft)), (hw, .inr (0, [.ref hc0, .int (nI len0), .ref hs0])), (hv, .inr (0, [.ref hc1, .int (nI len1), .ref hs1])), (h, .inr (5, fs)), (hE, .inl (cI, 7, .inl (upd E 1 (E 1 + nI 1))))] H := hP
    have hD : va_D AA [(hS9, .inr (3, ft)), (hw, .inr (0, [.ref hc0, .int (nI len0), .ref hs0])), (hv, .inr (0, [.ref hc1, .int (nI len1), .ref hs1])), (h, .inr (5, fs)), (hE, .inl (cI, 7, .inl (upd E 1 (E 1 + nI 1))))] := hD
    have hP := hP.sub (ws' := [(h, .inr (5, fs)), (hS9, .inr (3, ft)), (hE, .inl (cI, 7, .inl (upd E 1 (E 1 + nI 1)))), (hw, .inr (0, [.ref hc0, .int (nI len0), .ref hs0])), (hv, .inr (0, [.ref hc1, .int (nI len1), .ref hs1]))]) [3, 0, 4, 1, 2] rfl
    have hD := hD.sub (ws' := [(h, .inr (5, fs)), (hS9, .inr (3, ft)), (hE, .inl (cI, 7, .inl (upd E 1 (E 1 + nI 1)))), (hw, .inr (0, [.ref hc0, .int (nI len0), .ref hs0])), (hv, .inr (0, [.ref hc1, .int (nI len1), .ref hs1]))]) [3, 0, 4, 1, 2] (by decide) rfl
    exact hret hP hD hS dX5_untell_14 rfl (by rw [show zo_untell S E n k use = zerrE 1 S E from by rw [zo_untell, if_neg (by assumption)] <;> rfl]; exact ⟨rfl, by rw [← show S 46 = nI len0 from htx0.1, ← show S 171 = nI len1 from htx1.1]; rfl⟩)
def zo_law (S E : Nat → Int32) (n k : Nat) (len0 : Nat) (tk0 : zTk) (len1 : Nat) (tk1 : zTk) (use : Int32) (a : Int32) (b : Int32) (c9 : Int32) : zOut := if zrg 0 1 use then ((if use = nI 0 then zcnt len0 tk0 a b c9 else zwor len1 tk1 a b c9), S, E) else zerrE 1 S E
set_option maxHeartbeats 4000000 in
set_option maxRecDepth 100000 in
theorem c_X6_law (l : Launch) (D : va_G) (cI cJ : ClassId) (h : Nat) (hs : Nat) (hE : Nat) (fs : List Value) (S : Nat → Int32) (E : Nat → Int32) (n : Nat) (k : Nat) (hN9 : Nat) (hp : Nat) (NM : Nat → Int32) (PI : Nat → Int32) (len0 : Nat) (tk0 : zTk) (len1 : Nat) (tk1 : zTk) (use : Int32) (a : Int32) (b : Int32) (c9 : Int32) (hf0 : fs[0]? = some (.ref hs)) (hf4 : fs[4]? = some (.ref hE)) (hn1 : S 1 = nI n) (hk6 : S 6 = nI k) (hn4 : 4 ≤ n) (hn14 : n ≤ 14) (hkle : k ≤ 6) (hf10 : fs[10]? = some (.ref hN9)) (hf11 : fs[11]? = some (.ref hp)) (htx0 : zTX S 0 len0 tk0) (htx1 : zTX S 1 len1 tk1) (hwf0 : zWF len0 tk0) (hwf1 : zWF len1 tk1) : zMi l yX6_law wsX6_law ({ frames := 3, cells := 0, slots := 0, locals := 71 } : Room) D [(cI, .int), (cJ, .array .int)] [.ref h, .int use, .int a, .int b, .int c9] [(h, .inr (6, fs)), (hs, .inl (cI, 380, .inl S)), (hE, .inl (cI, 7, .inl E)), (hN9, .inl (cI, 128, .inl NM)), (hp, .inl (cI, 64, .inl PI))] (fun r w => ∃ NM9 PI9 : Nat → Int32, r = (zo_law S E n k len0 tk0 len1 tk1 use a b c9).1 ∧ w = [(h, .inr (6, fs)), (hs, .inl (cI, 380, .inl S)), (hE, .inl (cI, 7, .inl ((zo_law S E n k len0 tk0 len1 tk1 use a b c9).2.2))), (hN9, .inl (cI, 128, .inl NM9)), (hp, .inl (cI, 64, .inl PI9))]) := by
  refine zMi.start (cc := cX6_law) (maxL := 5) (rt := .int) (by first | decide | decide +kernel) rfl (Nat.le_of_ble_eq_true rfl) ?_
  intro pg ev s mt args below meth cd ls AA QQ ⟨hx, hb, hml, hr, hlocks, hown, hts, hK, hN, hZ, hP, hD, hA, hS, hl⟩ hret
  have hown : s.vm.findClass RX6 = some mt.cls := hown
  have hl : lv_has ls 5 [(0, .ref h), (1, .int use), (2, .int a), (3, .int b), (4, .int c9)] := hl
  have hin6 : ∀ w ∈ wsX60, w ∈ wsX6_law := fun w h => List.mem_cons_of_mem _ (List.mem_append_right _ (h))
  refine lv_iload_n hx hb dX6_law_0 rfl (lv_at hl 1 rfl) ?_
  refine lv_iconst (v := nI 0) hx hb dX6_law_1 (by decide) ?_
  refine lv_iconst (v := nI 1) hx hb dX6_law_2 (by decide) ?_
  refine zcsE (va_runS (As := [.int use, .int (nI 0), .int (nI 1)]) (rest := []) ⟨hx, hb, hml, hown, hts⟩ (d_X6_in l D cI cJ use (nI 0) (nI 1) 0 1 (by decide) (by decide) s.heap.size) (va_cwS 3 hts gX6_law_X6_in rfl rfl rfl (by decide +kernel) ⟨Nat.le_of_ble_eq_true rfl, Nat.le_of_ble_eq_true rfl⟩) (zpS hK hN hZ hP hD hS hA [] rfl (by decide)) rfl rfl hl.1 rfl (lv_room (Nat.le_of_ble_eq_true rfl)) dX6_law_3 ⟨Nat.zero_le _, Nat.zero_le _⟩) ?_
  refine lv_if_ne (tgt := 15) hx hb dX6_law_6 (by decide) (fun c6_1 => ?_) (fun c6_1 => ?_)
  · have c6_1 := bI_n0.mp c6_1
    refine lv_iload_n hx hb dX6_law_15 rfl (lv_at hl 1 rfl) ?_
    refine lv_if_ne (tgt := 30) hx hb dX6_law_16 (by decide) (fun c16_2 => ?_) (fun c16_2 => ?_)
    · refine lv_aload_n hx hb dX6_law_30 rfl (lv_at hl 0 rfl) ?_
      refine lv_iload_n hx hb dX6_law_31 rfl (lv_at hl 2 rfl) ?_
      refine lv_iload_n hx hb dX6_law_32 rfl (lv_at hl 3 rfl) ?_
      refine lv_iload hx hb dX6_law_33 (lv_at hl 4 rfl) ?_
      refine zci (wr := [(hE, .inl (cI, 7, .inl E))]) (va_runV (As := [.int a, .int b, .int c9]) (rest := []) ⟨hx, hb, hml, hown, hts⟩ (c_X6_worthTold l D cI cJ h hs hN9 hp fs S NM PI len1 tk1 a b c9 (by first | rfl | assumption | omega) (by first | rfl | assumption | omega) (by first | rfl | assumption | omega) htx1 hwf1 s.heap.size) (cwV 3 hts gX6_law_X6_worthTold rfl rfl rfl (by decide +kernel) ⟨Nat.le_of_ble_eq_true rfl, Nat.le_of_ble_eq_true rfl⟩) (zpV hK hN hZ hP hD hS hA [0, 1, 3, 4] rfl (by decide) 0 rfl rfl rfl) rfl rfl hl.1 rfl (lv_room (Nat.le_of_ble_eq_true rfl)) dX6_law_35 ⟨Nat.zero_le _, Nat.zero_le _⟩) hP hD hS hA [0, 1, 3, 4] [2] rfl rfl (by decide) (by decide) (fun r_5 w_4 H locs h_3 hP hD hS => ?_)
      obtain ⟨NM9_6, PI9_7, rfl, rfl⟩ := h_3
      have hP : va_P D vwCl [(hE, .inl (cI, 7, .inl E)), (h, .inr (6, fs)), (hs, .inl (cI, 380, .inl S)), (hN9, .inl (cI, 128, .inl NM9_6)), (hp, .inl (cI, 64, .inl PI9_7))] H := hP
      have hD : va_D AA [(hE, .inl (cI, 7, .inl E)), (h, .inr (6, fs)), (hs, .inl (cI, 380, .inl S)), (hN9, .inl (cI, 128, .inl NM9_6)), (hp, .inl (cI, 64, .inl PI9_7))] := hD
      have hP := hP.sub (ws' := [(h, .inr (6, fs)), (hs, .inl (cI, 380, .inl S)), (hE, .inl (cI, 7, .inl E)), (hN9, .inl (cI, 128, .inl NM9_6)), (hp, .inl (cI, 64, .inl PI9_7))]) [1, 2, 0, 3, 4] rfl
      have hD := hD.sub (ws' := [(h, .inr (6, fs)), (hs, .inl (cI, 380, .inl S)), (hE, .inl (cI, 7, .inl E)), (hN9, .inl (cI, 128, .inl NM9_6)), (hp, .inl (cI, 64, .inl PI9_7))]) [1, 2, 0, 3, 4] (by decide) rfl
      exact hret hP hD hS dX6_law_38 rfl (by rw [show zo_law S E n k len0 tk0 len1 tk1 use a b c9 = (zwor len1 tk1 a b c9, S, E) from by rw [zo_law, if_pos (by assumption), if_neg (show ¬ use = nI 0 from c16_2)]]; exact ⟨_, _, rfl, rfl⟩)
    · refine lv_aload_n hx hb dX6_law_19 rfl (lv_at hl 0 rfl) ?_
      refine lv_iload_n hx hb dX6_law_20 rfl (lv_at hl 2 rfl) ?_
      refine lv_iload_n hx hb dX6_law_21 rfl (lv_at hl 3 rfl) ?_
      refine lv_iload hx hb dX6_law_22 (lv_at hl 4 rfl) ?_
      refine zci (wr := [(hE, .inl (cI, 7, .inl E))]) (va_runV (As := [.int a, .int b, .int c9]) (rest := []) ⟨hx, hb, hml, hown, hts⟩ (c_X6_countedTold l D cI cJ h hs hN9 hp fs S NM PI len0 tk0 a b c9 (by first | rfl | assumption | omega) (by first | rfl | assumption | omega) (by first | rfl | assumption | omega) htx0 hwf0 s.heap.size) (cwV 3 hts gX6_law_X6_countedTold rfl rfl rfl (by decide +kernel) ⟨Nat.le_of_ble_eq_true rfl, Nat.le_of_ble_eq_true rfl⟩) (zpV hK hN hZ hP hD hS hA [0, 1, 3, 4] rfl (by decide) 0 rfl rfl rfl) rfl rfl hl.1 rfl (lv_room (Nat.le_of_ble_eq_true rfl)) dX6_law_24 ⟨Nat.zero_le _, Nat.zero_le _⟩) hP hD hS hA [0, 1, 3, 4] [2] rfl rfl (by decide) (by decide) (fun r_10 w_9 H locs h_8 hP hD hS => ?_)
      obtain ⟨NM9_11, PI9_12, rfl, rfl⟩ := h_8
      have hP : va_P D vwCl [(hE, .inl (cI, 7, .inl E)), (h, .inr (6, fs)), (hs, .inl (cI, 380, .inl S)), (hN9, .inl (cI, 128, .inl NM9_11)), (hp, .inl (cI, 64, .inl PI9_12))] H := hP
      have hD : va_D AA [(hE, .inl (cI, 7, .inl E)), (h, .inr (6, fs)), (hs, .inl (cI, 380, .inl S)), (hN9, .inl (cI, 128, .inl NM9_11)), (hp, .inl (cI, 64, .inl PI9_12))] := hD
      refine lv_goto (tgt := 38) hx hb dX6_law_27 (by decide) ?_
      have hP := hP.sub (ws' := [(h, .inr (6, fs)), (hs, .inl (cI, 380, .inl S)), (hE, .inl (cI, 7, .inl E)), (hN9, .inl (cI, 128, .inl NM9_11)), (hp, .inl (cI, 64, .inl PI9_12))]) [1, 2, 0, 3, 4] rfl
      have hD := hD.sub (ws' := [(h, .inr (6, fs)), (hs, .inl (cI, 380, .inl S)), (hE, .inl (cI, 7, .inl E)), (hN9, .inl (cI, 128, .inl NM9_11)), (hp, .inl (cI, 64, .inl PI9_12))]) [1, 2, 0, 3, 4] (by decide) rfl
      exact hret hP hD hS dX6_law_38 rfl (by rw [show zo_law S E n k len0 tk0 len1 tk1 use a b c9 = (zcnt len0 tk0 a b c9, S, E) from by rw [zo_law, if_pos (by assumption), if_pos (show use = nI 0 from c16_2)]]; exact ⟨_, _, rfl, rfl⟩)
  · have c6_1 := bI_0.mp c6_1
    refine lv_aload_n hx hb dX6_law_9 rfl (lv_at hl 0 rfl) ?_
    refine lv_iconst (v := nI 1) hx hb dX6_law_10 (by decide) ?_
    refine zci (wr := [(hs, .inl (cI, 380, .inl S)), (hN9, .inl (cI, 128, .inl NM)), (hp, .inl (cI, 64, .inl PI))]) (va_runV (As := [.int (nI 1)]) (rest := []) ⟨hx, hb, hml, hown, hts⟩ (c_X6_error l D cI cJ h hE fs E 1 (by first | rfl | assumption | omega) (by first | rfl | assumption | omega) s.heap.size) (cwV 1 hts gX6_law_X6_error rfl rfl rfl (by decide +kernel) ⟨Nat.le_of_ble_eq_true rfl, Nat.le_of_ble_eq_true rfl⟩) (zpV hK hN hZ hP hD hS hA [0, 2] rfl (by decide) 0 rfl rfl rfl) rfl rfl hl.1 rfl (lv_room (Nat.le_of_ble_eq_true rfl)) dX6_law_11 ⟨Nat.zero_le _, Nat.zero_le _⟩) hP hD hS hA [0, 2] [1, 3, 4] rfl rfl (by decide) (by decide) (fun r_15 w_14 H locs h_13 hP hD hS => ?_)
    obtain ⟨rfl, rfl⟩ := h_13
    have hP : va_P D vwCl [(hs, .inl (cI, 380, .inl S)), (hN9, .inl (cI, 128, .inl NM)), (hp, .inl (cI, 64, .inl PI)), (h, .inr (6, fs)), (hE, .inl (cI, 7, .inl (upd E 1 (E 1 + nI 1))))] H := hP
    have hD : va_D AA [(hs, .inl (cI, 380, .inl S)), (hN9, .inl (cI, 128, .inl NM)), (hp, .inl (cI, 64, .inl PI)), (h, .inr (6, fs)), (hE, .inl (cI, 7, .inl (upd E 1 (E 1 + nI 1))))] := hD
    have hP := hP.sub (ws' := [(h, .inr (6, fs)), (hs, .inl (cI, 380, .inl S)), (hE, .inl (cI, 7, .inl (upd E 1 (E 1 + nI 1)))), (hN9, .inl (cI, 128, .inl NM)), (hp, .inl (cI, 64, .inl PI))]) [3, 0, 4, 1, 2] rfl
    have hD := hD.sub (ws' := [(h, .inr (6, fs)), (hs, .inl (cI, 380, .inl S)), (hE, .inl (cI, 7, .inl (upd E 1 (E 1 + nI 1)))), (hN9, .inl (cI, 128, .inl NM)), (hp, .inl (cI, 64, .inl PI))]) [3, 0, 4, 1, 2] (by decide) rfl
    exact hret hP hD hS dX6_law_14 rfl (by rw [show zo_law S E n k len0 tk0 len1 tk1 use a b c9 = zerrE 1 S E from if_neg (by assumption)]; exact ⟨_, _, rfl, rfl⟩)
set_option maxHeartbeats 4000000 in
set_option maxRecDepth 100000 in
theorem c_X5_law (l : Launch) (D : va_G) (cI cJ : ClassId) (h : Nat) (hE : Nat) (hS9 : Nat) (fs : List Value) (S : Nat → Int32) (E : Nat → Int32) (n : Nat) (k : Nat) (ft : List Value) (hw : Nat) (hv : Nat) (hc0 : Nat) (hs0 : Nat) (hc1 : Nat) (hs1 : Nat) (C0 : Nat → Int32) (T0 : Nat → Int32) (C1 : Nat → Int32) (T1 : Nat → Int32) (len0 : Nat) (tk0 : zTk) (len1 : Nat) (tk1 : zTk) (use : Int32) (a : Int32) (b : Int32) (c9 : Int32) (hU0 : fs[0]? = some (.ref hS9)) (hU7 : fs[7]? = some (.ref hE)) (hn1 : S 1 = nI n) (hk6 : S 6 = nI k) (hn4 : 4 ≤ n) (hn14 : n ≤ 14) (hkle : k ≤ 6) (hft9 : ft[9]? = some (.ref hw)) (hft10 : ft[10]? = some (.ref hv)) (hwf0 : zWF len0 tk0) (hwf1 : zWF len1 tk1) (hcd0 : zCD C0 len0 tk0) (hcd1 : zCD C1 len1 tk1) : zMi l yX5_law wsX5_law ({ frames := 3, cells := 0, slots := 0, locals := 71 } : Room) D [(cI, .int), (cJ, .array .int)] [.ref h, .int use, .int a, .int b, .int c9] [(h, .inr (5, fs)), (hS9, .inr (3, ft)), (hE, .inl (cI, 7, .inl E)), (hw, .inr (0, [.ref hc0, .int (nI len0), .ref hs0])), (hc0, .inl (cI, 60, .inl C0)), (hs0, .inl (cI, 60, .inl T0)), (hv, .inr (0, [.ref hc1, .int (nI len1), .ref hs1])), (hc1, .inl (cI, 60, .inl C1)), (hs1, .inl (cI, 60, .inl T1))] (fun r w => ∃ T8 T9 : Nat → Int32, r = (zo_law S E n k len0 tk0 len1 tk1 use a b c9).1 ∧ w = [(h, .inr (5, fs)), (hS9, .inr (3, ft)), (hE, .inl (cI, 7, .inl ((zo_law S E n k len0 tk0 len1 tk1 use a b c9).2.2))), (hw, .inr (0, [.ref hc0, .int (nI len0), .ref hs0])), (hc0, .inl (cI, 60, .inl C0)), (hs0, .inl (cI, 60, .inl T8)), (hv, .inr (0, [.ref hc1, .int (nI len1), .ref hs1])), (hc1, .inl (cI, 60, .inl C1)), (hs1, .inl (cI, 60, .inl T9))]) := by
  refine zMi.start (cc := cX5_law) (maxL := 5) (rt := .int) (by first | decide | decide +kernel) rfl (Nat.le_of_ble_eq_true rfl) ?_
  intro pg ev s mt args below meth cd ls AA QQ ⟨hx, hb, hml, hr, hlocks, hown, hts, hK, hN, hZ, hP, hD, hA, hS, hl⟩ hret
  have hown : s.vm.findClass RX5 = some mt.cls := hown
  have hl : lv_has ls 5 [(0, .ref h), (1, .int use), (2, .int a), (3, .int b), (4, .int c9)] := hl
  have hin0 : ∀ w ∈ wsX00, w ∈ wsX5_law := fun w h => List.mem_cons_of_mem _ (List.mem_append_right _ (h))
  have hin3 : ∀ w ∈ wsX30, w ∈ wsX5_law := fun w h => List.mem_cons_of_mem _ (List.mem_append_left _ (List.mem_append_right _ (h)))
  have hin5 : ∀ w ∈ wsX50, w ∈ wsX5_law := fun w h => List.mem_cons_of_mem _ (List.mem_append_left _ (List.mem_append_left _ (List.mem_append_right _ (h))))
  refine lv_iload_n hx hb dX5_law_0 rfl (lv_at hl 1 rfl) ?_
  refine lv_iconst (v := nI 0) hx hb dX5_law_1 (by decide) ?_
  refine lv_iconst (v := nI 1) hx hb dX5_law_2 (by decide) ?_
  refine zcsE (va_runS (As := [.int use, .int (nI 0), .int (nI 1)]) (rest := []) ⟨hx, hb, hml, hown, hts⟩ (d_X5_isOutside l D cI cJ use (nI 0) (nI 1) 0 1 (by decide) (by decide) s.heap.size) (va_cwS 3 hts gX5_law_X5_isOutside rfl rfl rfl (by decide +kernel) ⟨Nat.le_of_ble_eq_true rfl, Nat.le_of_ble_eq_true rfl⟩) (zpS hK hN hZ hP hD hS hA [] rfl (by decide)) rfl rfl hl.1 rfl (lv_room (Nat.le_of_ble_eq_true rfl)) dX5_law_3 ⟨Nat.zero_le _, Nat.zero_le _⟩) ?_
  refine lv_if_eq (tgt := 15) hx hb dX5_law_6 (by decide) (fun c6_1 => ?_) (fun c6_1 => ?_)
  · have c6_1 := bI_nX0.mp c6_1
    refine lv_iload_n hx hb dX5_law_15 rfl (lv_at hl 1 rfl) ?_
    refine lv_if_ne (tgt := 33) hx hb dX5_law_16 (by decide) (fun c16_2 => ?_) (fun c16_2 => ?_)
    · refine lv_aload_n hx hb dX5_law_33 rfl (lv_at hl 0 rfl) ?_
      refine va_get (ci := 5) (v := .ref hS9) (C := RX5) (T := TX5) (N := 9) hx hb hts hin5 hown hK hP 0 rfl rfl 0 (by decide) (hts (.fieldLink RX5 12 "UpAllRound" "now" "LUpAllRound$Stair;") (List.mem_of_getElem? (i := 1) rfl)) (fun _ h9 => h9) hU0 dX5_law_34 ?_
      refine lv_iload_n hx hb dX5_law_37 rfl (lv_at hl 2 rfl) ?_
      refine lv_iload_n hx hb dX5_law_38 rfl (lv_at hl 3 rfl) ?_
      refine lv_iload hx hb dX5_law_39 (lv_at hl 4 rfl) ?_
      refine zci (wr := [(h, .inr (5, fs)), (hE, .inl (cI, 7, .inl E)), (hw, .inr (0, [.ref hc0, .int (nI len0), .ref hs0])), (hc0, .inl (cI, 60, .inl C0)), (hs0, .inl (cI, 60, .inl T0))]) (va_runVN (As := [.int a, .int b, .int c9]) (rest := []) ⟨hx, hb, hml, hown, hts⟩ (c_X3_worthOf l D cI cJ hS9 hv hc1 hs1 ft C1 T1 len1 tk1 a b c9 (by first | rfl | assumption | omega) hcd1 hwf1 s.heap.size) ⟨va_cnB 3 hts gX5_law_X3_worthOf_n155 rfl rfl rfl (hN (.methodLinkNest "UpAllRound" 155 yX3_worthOf "UpAllRound") (List.mem_of_getElem? (i := 47) rfl)) (hts (.initialized RX3) (List.mem_of_getElem? (i := 13) rfl)) (by decide +kernel) ⟨Nat.le_of_ble_eq_true rfl, Nat.le_of_ble_eq_true rfl⟩, (hts (.instanceMethod yX3_worthOf) (List.mem_of_getElem? (i := 39) rfl)), (hts (.selects RX3 yX3_worthOf yX3_worthOf) (List.mem_of_getElem? (i := 40) rfl))⟩ (zpV hK hN hZ hP hD hS hA [1, 6, 7, 8] rfl (by decide) 1 rfl rfl rfl) rfl rfl hl.1 rfl (lv_room (Nat.le_of_ble_eq_true rfl)) dX5_law_41 ⟨Nat.zero_le _, Nat.zero_le _⟩) hP hD hS hA [1, 6, 7, 8] [0, 2, 3, 4, 5] rfl rfl (by decide) (by decide) (fun r_5 w_4 H locs h_3 hP hD hS => ?_)
      obtain ⟨ST9_6, rfl, rfl⟩ := h_3
      have hP : va_P D vwCl [(h, .inr (5, fs)), (hE, .inl (cI, 7, .inl E)), (hw, .inr (0, [.ref hc0, .int (nI len0), .ref hs0])), (hc0, .inl (cI, 60, .inl C0)), (hs0, .inl (cI, 60, .inl T0)), (hS9, .inr (3, ft)), (hv, .inr (0, [.ref hc1, .int (nI len1), .ref hs1])), (hc1, .inl (cI, 60, .inl C1)), (hs1, .inl (cI, 60, .inl ST9_6))] H := hP
      have hD : va_D AA [(h, .inr (5, fs)), (hE, .inl (cI, 7, .inl E)), (hw, .inr (0, [.ref hc0, .int (nI len0), .ref hs0])), (hc0, .inl (cI, 60, .inl C0)), (hs0, .inl (cI, 60, .inl T0)), (hS9, .inr (3, ft)), (hv, .inr (0, [.ref hc1, .int (nI len1), .ref hs1])), (hc1, .inl (cI, 60, .inl C1)), (hs1, .inl (cI, 60, .inl ST9_6))] := hD
      have hP := hP.sub (ws' := [(h, .inr (5, fs)), (hS9, .inr (3, ft)), (hE, .inl (cI, 7, .inl E)), (hw, .inr (0, [.ref hc0, .int (nI len0), .ref hs0])), (hc0, .inl (cI, 60, .inl C0)), (hs0, .inl (cI, 60, .inl T0)), (hv, .inr (0, [.ref hc1, .int (nI len1), .ref hs1])), (hc1, .inl (cI, 60, .inl C1)), (hs1, .inl (cI, 60, .inl ST9_6))]) [0, 5, 1, 2, 3, 4, 6, 7, 8] rfl
      have hD := hD.sub (ws' := [(h, .inr (5, fs)), (hS9, .inr (3, ft)), (hE, .inl (cI, 7, .inl E)), (hw, .inr (0, [.ref hc0, .int (nI len0), .ref hs0])), (hc0, .inl (cI, 60, .inl C0)), (hs0, .inl (cI, 60, .inl T0)), (hv, .inr (0, [.ref hc1, .int (nI len1), .ref hs1])), (hc1, .inl (cI, 60, .inl C1)), (hs1, .inl (cI, 60, .inl ST9_6))]) [0, 5, 1, 2, 3, 4, 6, 7, 8] (by decide) rfl
      exact hret hP hD hS dX5_law_44 rfl (by rw [show zo_law S E n k len0 tk0 len1 tk1 use a b c9 = (zwor len1 tk1 a b c9, S, E) from by rw [zo_law, if_pos (by assumption), if_neg (show ¬ use = nI 0 from c16_2)]]; exact ⟨_, _, rfl, rfl⟩)
    · refine lv_aload_n hx hb dX5_law_19 rfl (lv_at hl 0 rfl) ?_
      refine va_get (ci := 5) (v := .ref hS9) (C := RX5) (T := TX5) (N := 9) hx hb hts hin5 hown hK hP 0 rfl rfl 0 (by decide) (hts (.fieldLink RX5 12 "UpAllRound" "now" "LUpAllRound$Stair;") (List.mem_of_getElem? (i := 1) rfl)) (fun _ h9 => h9) hU0 dX5_law_20 ?_
      refine lv_iload_n hx hb dX5_law_23 rfl (lv_at hl 2 rfl) ?_
      refine lv_iload_n hx hb dX5_law_24 rfl (lv_at hl 3 rfl) ?_
      refine lv_iload hx hb dX5_law_25 (lv_at hl 4 rfl) ?_
      refine zci (wr := [(h, .inr (5, fs)), (hE, .inl (cI, 7, .inl E)), (hv, .inr (0, [.ref hc1, .int (nI len1), .ref hs1])), (hc1, .inl (cI, 60, .inl C1)), (hs1, .inl (cI, 60, .inl T1))]) (va_runVN (As := [.int a, .int b, .int c9]) (rest := []) ⟨hx, hb, hml, hown, hts⟩ (c_X3_countedOf l D cI cJ hS9 hw hc0 hs0 ft C0 T0 len0 tk0 a b c9 (by first | rfl | assumption | omega) hcd0 hwf0 s.heap.size) ⟨va_cnB 3 hts gX5_law_X3_countedOf_n151 rfl rfl rfl (hN (.methodLinkNest "UpAllRound" 151 yX3_countedOf "UpAllRound") (List.mem_of_getElem? (i := 43) rfl)) (hts (.initialized RX3) (List.mem_of_getElem? (i := 13) rfl)) (by decide +kernel) ⟨Nat.le_of_ble_eq_true rfl, Nat.le_of_ble_eq_true rfl⟩, (hts (.instanceMethod yX3_countedOf) (List.mem_of_getElem? (i := 12) rfl)), (hts (.selects RX3 yX3_countedOf yX3_countedOf) (List.mem_of_getElem? (i := 14) rfl))⟩ (zpV hK hN hZ hP hD hS hA [1, 3, 4, 5] rfl (by decide) 1 rfl rfl rfl) rfl rfl hl.1 rfl (lv_room (Nat.le_of_ble_eq_true rfl)) dX5_law_27 ⟨Nat.zero_le _, Nat.zero_le _⟩) hP hD hS hA [1, 3, 4, 5] [0, 2, 6, 7, 8] rfl rfl (by decide) (by decide) (fun r_9 w_8 H locs h_7 hP hD hS => ?_)
      obtain ⟨ST9_10, rfl, rfl⟩ := h_7
      have hP : va_P D vwCl [(h, .inr (5, fs)), (hE, .inl (cI, 7, .inl E)), (hv, .inr (0, [.ref hc1, .int (nI len1), .ref hs1])), (hc1, .inl (cI, 60, .inl C1)), (hs1, .inl (cI, 60, .inl T1)), (hS9, .inr (3, ft)), (hw, .inr (0, [.ref hc0, .int (nI len0), .ref hs0])), (hc0, .inl (cI, 60, .inl C0)), (hs0, .inl (cI, 60, .inl ST9_10))] H := hP
      have hD : va_D AA [(h, .inr (5, fs)), (hE, .inl (cI, 7, .inl E)), (hv, .inr (0, [.ref hc1, .int (nI len1), .ref hs1])), (hc1, .inl (cI, 60, .inl C1)), (hs1, .inl (cI, 60, .inl T1)), (hS9, .inr (3, ft)), (hw, .inr (0, [.ref hc0, .int (nI len0), .ref hs0])), (hc0, .inl (cI, 60, .inl C0)), (hs0, .inl (cI, 60, .inl ST9_10))] := hD
      refine lv_goto (tgt := 44) hx hb dX5_law_30 (by decide) ?_
      have hP := hP.sub (ws' := [(h, .inr (5, fs)), (hS9, .inr (3, ft)), (hE, .inl (cI, 7, .inl E)), (hw, .inr (0, [.ref hc0, .int (nI len0), .ref hs0])), (hc0, .inl (cI, 60, .inl C0)), (hs0, .inl (cI, 60, .inl ST9_10)), (hv, .inr (0, [.ref hc1, .int (nI len1), .ref hs1])), (hc1, .inl (cI, 60, .inl C1)), (hs1, .inl (cI, 60, .inl T1))]) [0, 5, 1, 6, 7, 8, 2, 3, 4] rfl
      have hD := hD.sub (ws' := [(h, .inr (5, fs)), (hS9, .inr (3, ft)), (hE, .inl (cI, 7, .inl E)), (hw, .inr (0, [.ref hc0, .int (nI len0), .ref hs0])), (hc0, .inl (cI, 60, .inl C0)), (hs0, .inl (cI, 60, .inl ST9_10)), (hv, .inr (0, [.ref hc1, .int (nI len1), .ref hs1])), (hc1, .inl (cI, 60, .inl C1)), (hs1, .inl (cI, 60, .inl T1))]) [0, 5, 1, 6, 7, 8, 2, 3, 4] (by decide) rfl
      exact hret hP hD hS dX5_law_44 rfl (by rw [show zo_law S E n k len0 tk0 len1 tk1 use a b c9 = (zcnt len0 tk0 a b c9, S, E) from by rw [zo_law, if_pos (by assumption), if_pos (show use = nI 0 from c16_2)]]; exact ⟨_, _, rfl, rfl⟩)
  · have c6_1 := bI_nn0.mp c6_1
    refine lv_aload_n hx hb dX5_law_9 rfl (lv_at hl 0 rfl) ?_
    refine lv_iconst (v := nI 1) hx hb dX5_law_10 (by decide) ?_
    refine zci (wr := [(hS9, .inr (3, ft)), (hw, .inr (0, [.ref hc0, .int (nI len0), .ref hs0])), (hc0, .inl (cI, 60, .inl C0)), (hs0, .inl (cI, 60, .inl T0)), (hv, .inr (0, [.ref hc1, .int (nI len1), .ref hs1])), (hc1, .inl (cI, 60, .inl C1)), (hs1, .inl (cI, 60, .inl T1))]) (va_runV (As := [.int (nI 1)]) (rest := []) ⟨hx, hb, hml, hown, hts⟩ (c_X5_refuse l D cI cJ h hE fs E 1 (by first | rfl | assumption | omega) (by first | rfl | assumption | omega) s.heap.size) (cwV 1 hts gX5_law_X5_refuse rfl rfl rfl (by decide +kernel) ⟨Nat.le_of_ble_eq_true rfl, Nat.le_of_ble_eq_true rfl⟩) (zpV hK hN hZ hP hD hS hA [0, 2] rfl (by decide) 0 rfl rfl rfl) rfl rfl hl.1 rfl (lv_room (Nat.le_of_ble_eq_true rfl)) dX5_law_11 ⟨Nat.zero_le _, Nat.zero_le _⟩) hP hD hS hA [0, 2] [1, 3, 4, 5, 6, 7, 8] rfl rfl (by decide) (by decide) (fun r_13 w_12 H locs h_11 hP hD hS => ?_)
    obtain ⟨rfl, rfl⟩ := h_11
    have hP : va_P D vwCl [(hS9, .inr (3, ft)), (hw, .inr (0, [.ref hc0, .int (nI len0), .ref hs0])), (hc0, .inl (cI, 60, .inl C0)), (hs0, .inl (cI, 60, .inl T0)), (hv, .inr (0, [.ref hc1, .int (nI len1), .ref hs1])), (hc1, .inl (cI, 60, .inl C1)), (hs1, .inl (cI, 60, .inl T1)), (h, .inr (5, fs)), (hE, .inl (cI, 7, .inl (upd E 1 (E 1 + nI 1))))] H := hP
    have hD : va_D AA [(hS9, .inr (3, ft)), (hw, .inr (0, [.ref hc0, .int (nI len0), .ref hs0])), (hc0, .inl (cI, 60, .inl C0)), (hs0, .inl (cI, 60, .inl T0)), (hv, .inr (0, [.ref hc1, .int (nI len1), .ref hs1])), (hc1, .inl (cI, 60, .inl C1)), (hs1, .inl (cI, 60, .inl T1)), (h, .inr (5, fs)), (hE, .inl (cI, 7, .inl (upd E 1 (E 1 + nI 1))))] := hD
    have hP := hP.sub (ws' := [(h, .inr (5, fs)), (hS9, .inr (3, ft)), (hE, .inl (cI, 7, .inl (upd E 1 (E 1 + nI 1)))), (hw, .inr (0, [.ref hc0, .int (nI len0), .ref hs0])), (hc0, .inl (cI, 60, .inl C0)), (hs0, .inl (cI, 60, .inl T0)), (hv, .inr (0, [.ref hc1, .int (nI len1), .ref hs1])), (hc1, .inl (cI, 60, .inl C1)), (hs1, .inl (cI, 60, .inl T1))]) [7, 0, 8, 1, 2, 3, 4, 5, 6] rfl
    have hD := hD.sub (ws' := [(h, .inr (5, fs)), (hS9, .inr (3, ft)), (hE, .inl (cI, 7, .inl (upd E 1 (E 1 + nI 1)))), (hw, .inr (0, [.ref hc0, .int (nI len0), .ref hs0])), (hc0, .inl (cI, 60, .inl C0)), (hs0, .inl (cI, 60, .inl T0)), (hv, .inr (0, [.ref hc1, .int (nI len1), .ref hs1])), (hc1, .inl (cI, 60, .inl C1)), (hs1, .inl (cI, 60, .inl T1))]) [7, 0, 8, 1, 2, 3, 4, 5, 6] (by decide) rfl
    exact hret hP hD hS dX5_law_14 rfl (by rw [show zo_law S E n k len0 tk0 len1 tk1 use a b c9 = zerrE 1 S E from if_neg (by assumption)]; exact ⟨_, _, rfl, rfl⟩)
