theorem zupd_n {f : Nat → Int32} {i j : Nat} {x : Int32} (h : j ≠ i) : upd f i x j = f j := if_neg h
theorem zbec0 {S : Nat → Int32} {j : Nat} {x y : Int32} : (fun c => upd (upd S (8 + 4 * j + 1) x) (8 + 4 * j + 0) y (8 + 4 * c + 0)) = fun c => upd S (8 + 4 * j + 0) y (8 + 4 * c + 0) := by
  funext c; unfold upd
  by_cases e : c = j
  · subst e; simp
  · rw [if_neg (by omega), if_neg (by omega), if_neg (by omega)]
theorem zbec1 {S : Nat → Int32} {j : Nat} {x y : Int32} : (fun c => upd (upd S (8 + 4 * j + 1) x) (8 + 4 * j + 0) y (8 + 4 * c + 1)) = fun c => upd S (8 + 4 * j + 1) x (8 + 4 * c + 1) := by
  funext c; unfold upd
  rw [if_neg (by omega)]
theorem zcl0 {S : Nat → Int32} {k : Nat} {x0 x1 x2 x3 x4 : Int32} : (fun c => upd (upd (upd (upd (upd S (8 + 4 * k + 0) x0) (8 + 4 * k + 1) x1) (8 + 4 * k + 2) x2) (8 + 4 * k + 3) x3) 6 x4 (8 + 4 * c + 0)) = upd (fun c => S (8 + 4 * c + 0)) k x0 := by
  funext c; unfold upd
  by_cases e : c = k
  · subst e; rw [if_neg (by omega), if_pos rfl]; repeat (first | rw [if_pos rfl] | rw [if_neg (by omega)])
  · rw [if_neg (by omega), if_neg (by omega), if_neg (by omega), if_neg (by omega), if_neg (by omega), if_neg e]
theorem zcl1 {S : Nat → Int32} {k : Nat} {x0 x1 x2 x3 x4 : Int32} : (fun c => upd (upd (upd (upd (upd S (8 + 4 * k + 0) x0) (8 + 4 * k + 1) x1) (8 + 4 * k + 2) x2) (8 + 4 * k + 3) x3) 6 x4 (8 + 4 * c + 1)) = upd (fun c => S (8 + 4 * c + 1)) k x1 := by
  funext c; unfold upd
  by_cases e : c = k
  · subst e; rw [if_neg (by omega), if_pos rfl]; repeat (first | rw [if_pos rfl] | rw [if_neg (by omega)])
  · rw [if_neg (by omega), if_neg (by omega), if_neg (by omega), if_neg (by omega), if_neg (by omega), if_neg e]
theorem zcl2 {S : Nat → Int32} {k : Nat} {x0 x1 x2 x3 x4 : Int32} : (fun c => upd (upd (upd (upd (upd S (8 + 4 * k + 0) x0) (8 + 4 * k + 1) x1) (8 + 4 * k + 2) x2) (8 + 4 * k + 3) x3) 6 x4 (8 + 4 * c + 2)) = upd (fun c => S (8 + 4 * c + 2)) k x2 := by
  funext c; unfold upd
  by_cases e : c = k
  · subst e; rw [if_neg (by omega), if_pos rfl]; repeat (first | rw [if_pos rfl] | rw [if_neg (by omega)])
  · rw [if_neg (by omega), if_neg (by omega), if_neg (by omega), if_neg (by omega), if_neg (by omega), if_neg e]
theorem zcl3 {S : Nat → Int32} {k : Nat} {x0 x1 x2 x3 x4 : Int32} : (fun c => upd (upd (upd (upd (upd S (8 + 4 * k + 0) x0) (8 + 4 * k + 1) x1) (8 + 4 * k + 2) x2) (8 + 4 * k + 3) x3) 6 x4 (8 + 4 * c + 3)) = upd (fun c => S (8 + 4 * c + 3)) k x3 := by
  funext c; unfold upd
  by_cases e : c = k
  · subst e; rw [if_neg (by omega), if_pos rfl]; repeat (first | rw [if_pos rfl] | rw [if_neg (by omega)])
  · rw [if_neg (by omega), if_neg (by omega), if_neg (by omega), if_neg (by omega), if_neg (by omega), if_neg e]
set_option maxHeartbeats 4000000 in
set_option maxRecDepth 100000 in
theorem c_X6_isKind (l : Launch) (D : va_G) (cI cJ : ClassId) (v : Int32)  : zSi l yX6_isKind wsX6_isKind ({ frames := 1, cells := 0, slots := 0, locals := 22 } : Room) D [(cI, .int), (cJ, .array .int)] [.int v] [] (fun r => r = bI (zrg 0 69 v)) := by
  refine zSi.start (cc := cX6_isKind) (maxL := 1) (rt := .boolean) (by first | decide | decide +kernel) rfl (Nat.le_of_ble_eq_true rfl) ?_
  intro pg ev s mt args below meth cd ls AA QQ ⟨hx, hb, hml, hr, hlocks, hown, hts, hK, hN, hZ, hP, hD, hA, hS, hl⟩ hret
  have hown : s.vm.findClass RX6 = some mt.cls := hown
  have hl : lv_has ls 1 [(0, .int v)] := hl
  refine lv_iload_n hx hb dX6_isKind_0 rfl (lv_at hl 0 rfl) ?_
  refine lv_iconst (v := nI 0) hx hb dX6_isKind_1 (by decide) ?_
  refine lv_bipush (v := nI 69) hx hb dX6_isKind_2 (by decide) ?_
  refine zcsE (va_runS (As := [.int v, .int (nI 0), .int (nI 69)]) (rest := []) ⟨hx, hb, hml, hown, hts⟩ (d_X6_in l D cI cJ v (nI 0) (nI 69) 0 69 (by decide) (by decide) s.heap.size) (va_cwS 3 hts gX6_isKind_X6_in rfl rfl rfl (by decide +kernel) ⟨Nat.le_of_ble_eq_true rfl, Nat.le_of_ble_eq_true rfl⟩) (zpS hK hN hZ hP hD hS hA [] rfl (by decide)) rfl rfl hl.1 rfl (lv_room (Nat.le_of_ble_eq_true rfl)) dX6_isKind_4 ⟨Nat.zero_le _, Nat.zero_le _⟩) ?_
  exact hret dX6_isKind_7 nar_bI (by rfl)
def zo_stepIs (S E : Nat → Int32) (n k : Nat) (step : Int32) (what : Int32) : zOut := if zin step n ∧ zrg 0 2 what then (if what = 0 then S (32 + step.toNatClampNeg) else if what = 1 then bI (S 2 = step) else zsum (fun c => bI (S (8 + 4 * c + 2) = step)) k, S, E) else zerrE 1 S E
set_option maxHeartbeats 4000000 in
set_option maxRecDepth 100000 in
theorem c_X6_stepIs (l : Launch) (D : va_G) (cI cJ : ClassId) (h : Nat) (hs : Nat) (hE : Nat) (fs : List Value) (S : Nat → Int32) (E : Nat → Int32) (n : Nat) (k : Nat) (step : Int32) (what : Int32) (hf0 : fs[0]? = some (.ref hs)) (hf4 : fs[4]? = some (.ref hE)) (hn1 : S 1 = nI n) (hk6 : S 6 = nI k) (hn4 : 4 ≤ n) (hn14 : n ≤ 14) (hkle : k ≤ 6) : zMi l yX6_stepIs wsX6_stepIs ({ frames := 2, cells := 0, slots := 0, locals := 45 } : Room) D [(cI, .int), (cJ, .array .int)] [.ref h, .int step, .int what] [(h, .inr (6, fs)), (hs, .inl (cI, 380, .inl S)), (hE, .inl (cI, 7, .inl E))] (fun r w => r = (zo_stepIs S E n k step what).1 ∧ w = [(h, .inr (6, fs)), (hs, .inl (cI, 380, .inl ((zo_stepIs S E n k step what).2.1))), (hE, .inl (cI, 7, .inl ((zo_stepIs S E n k step what).2.2)))]) := by
  refine zMi.start (cc := cX6_stepIs) (maxL := 3) (rt := .int) (by first | decide | decide +kernel) rfl (Nat.le_of_ble_eq_true rfl) ?_
  intro pg ev s mt args below meth cd ls AA QQ ⟨hx, hb, hml, hr, hlocks, hown, hts, hK, hN, hZ, hP, hD, hA, hS, hl⟩ hret
  have hown : s.vm.findClass RX6 = some mt.cls := hown
  have hl : lv_has ls 3 [(0, .ref h), (1, .int step), (2, .int what)] := hl
  have hin6 : ∀ w ∈ wsX60, w ∈ wsX6_stepIs := fun w h => List.mem_cons_of_mem _ (List.mem_append_right _ (h))
  refine lv_aload_n hx hb dX6_stepIs_0 rfl (lv_at hl 0 rfl) ?_
  refine lv_iload_n hx hb dX6_stepIs_1 rfl (lv_at hl 1 rfl) ?_
  refine zcsE (va_runV (As := [.int step]) (rest := []) ⟨hx, hb, hml, hown, hts⟩ (c_X6_isStep l D cI cJ h hs fs S n step (by first | rfl | assumption | omega) (by first | rfl | assumption | omega) (by first | rfl | assumption | omega) s.heap.size) (cwV 1 hts gX6_stepIs_X6_isStep rfl rfl rfl (by decide +kernel) ⟨Nat.le_of_ble_eq_true rfl, Nat.le_of_ble_eq_true rfl⟩) (zpV hK hN hZ hP hD hS hA [0, 1] rfl (by decide) 0 rfl rfl rfl) rfl rfl hl.1 rfl (lv_room (Nat.le_of_ble_eq_true rfl)) dX6_stepIs_2 ⟨Nat.zero_le _, Nat.zero_le _⟩) ?_
  refine lv_if_eq (tgt := 17) hx hb dX6_stepIs_5 (by decide) (fun c5_1 => ?_) (fun c5_1 => ?_)
  · have c5_1 := bI_0.mp c5_1
    refine lv_aload_n hx hb dX6_stepIs_17 rfl (lv_at hl 0 rfl) ?_
    refine lv_iconst (v := nI 1) hx hb dX6_stepIs_18 (by decide) ?_
    refine zci (wr := [(hs, .inl (cI, 380, .inl S))]) (va_runV (As := [.int (nI 1)]) (rest := []) ⟨hx, hb, hml, hown, hts⟩ (c_X6_error l D cI cJ h hE fs E 1 (by first | rfl | assumption | omega) (by first | rfl | assumption | omega) s.heap.size) (cwV 1 hts gX6_stepIs_X6_error rfl rfl rfl (by decide +kernel) ⟨Nat.le_of_ble_eq_true rfl, Nat.le_of_ble_eq_true rfl⟩) (zpV hK hN hZ hP hD hS hA [0, 2] rfl (by decide) 0 rfl rfl rfl) rfl rfl hl.1 rfl (lv_room (Nat.le_of_ble_eq_true rfl)) dX6_stepIs_19 ⟨Nat.zero_le _, Nat.zero_le _⟩) hP hD hS hA [0, 2] [1] rfl rfl (by decide) (by decide) (fun r_4 w_3 H locs h_2 hP hD hS => ?_)
    obtain ⟨rfl, rfl⟩ := h_2
    have hP : va_P D vwCl [(hs, .inl (cI, 380, .inl S)), (h, .inr (6, fs)), (hE, .inl (cI, 7, .inl (upd E 1 (E 1 + nI 1))))] H := hP
    have hD : va_D AA [(hs, .inl (cI, 380, .inl S)), (h, .inr (6, fs)), (hE, .inl (cI, 7, .inl (upd E 1 (E 1 + nI 1))))] := hD
    have hP := hP.sub (ws' := [(h, .inr (6, fs)), (hs, .inl (cI, 380, .inl S)), (hE, .inl (cI, 7, .inl (upd E 1 (E 1 + nI 1))))]) [1, 0, 2] rfl
    have hD := hD.sub (ws' := [(h, .inr (6, fs)), (hs, .inl (cI, 380, .inl S)), (hE, .inl (cI, 7, .inl (upd E 1 (E 1 + nI 1))))]) [1, 0, 2] (by decide) rfl
    exact hret hP hD hS dX6_stepIs_22 rfl (by rw [show zo_stepIs S E n k step what = zerrE 1 S E from by rw [zo_stepIs, if_neg (by intro h9; first | exact absurd h9.1 (by assumption) | exact absurd h9.2 (by assumption))] <;> rfl]; exact ⟨rfl, rfl⟩)
  · have c5_1 := bI_n0.mp c5_1
    obtain ⟨j, h_j, rfl⟩ := zin_of c5_1 (by omega)
    refine lv_iload_n hx hb dX6_stepIs_8 rfl (lv_at hl 2 rfl) ?_
    refine lv_iconst (v := nI 0) hx hb dX6_stepIs_9 (by decide) ?_
    refine lv_iconst (v := nI 2) hx hb dX6_stepIs_10 (by decide) ?_
    refine zcsE (va_runS (As := [.int what, .int (nI 0), .int (nI 2)]) (rest := []) ⟨hx, hb, hml, hown, hts⟩ (d_X6_in l D cI cJ what (nI 0) (nI 2) 0 2 (by decide) (by decide) s.heap.size) (va_cwS 3 hts gX6_stepIs_X6_in rfl rfl rfl (by decide +kernel) ⟨Nat.le_of_ble_eq_true rfl, Nat.le_of_ble_eq_true rfl⟩) (zpS hK hN hZ hP hD hS hA [] rfl (by decide)) rfl rfl hl.1 rfl (lv_room (Nat.le_of_ble_eq_true rfl)) dX6_stepIs_11 ⟨Nat.zero_le _, Nat.zero_le _⟩) ?_
    refine lv_if_ne (tgt := 23) hx hb dX6_stepIs_14 (by decide) (fun c14_5 => ?_) (fun c14_5 => ?_)
    · have c14_5 := bI_n0.mp c14_5
      refine lv_iload_n hx hb dX6_stepIs_23 rfl (lv_at hl 2 rfl) ?_
      refine lv_if_ne (tgt := 39) hx hb dX6_stepIs_24 (by decide) (fun c24_6 => ?_) (fun c24_6 => ?_)
      · refine lv_iload_n hx hb dX6_stepIs_39 rfl (lv_at hl 2 rfl) ?_
        refine lv_iconst (v := nI 1) hx hb dX6_stepIs_40 (by decide) ?_
        refine lv_icmp_ne (tgt := 62) hx hb dX6_stepIs_41 (by decide) (fun c41_7 => ?_) (fun c41_7 => ?_)
        · refine lv_aload_n hx hb dX6_stepIs_62 rfl (lv_at hl 0 rfl) ?_
          refine lv_iload_n hx hb dX6_stepIs_63 rfl (lv_at hl 1 rfl) ?_
          refine zcsE (va_runV (As := [.int (nI j)]) (rest := []) ⟨hx, hb, hml, hown, hts⟩ (c_X6_howManyAt l D cI cJ h hs fs S k (nI j) (by first | rfl | assumption | omega) (by first | rfl | assumption | omega) (by first | rfl | assumption | omega) s.heap.size) (cwV 1 hts gX6_stepIs_X6_howManyAt rfl rfl rfl (by decide +kernel) ⟨Nat.le_of_ble_eq_true rfl, Nat.le_of_ble_eq_true rfl⟩) (zpV hK hN hZ hP hD hS hA [0, 1] rfl (by decide) 0 rfl rfl rfl) rfl rfl hl.1 rfl (lv_room (Nat.le_of_ble_eq_true rfl)) dX6_stepIs_64 ⟨Nat.zero_le _, Nat.zero_le _⟩) ?_
          exact hret hP hD hS dX6_stepIs_67 rfl (by rw [show zo_stepIs S E n k (nI j) what = (zsum (fun c => bI (S (8 + 4 * c + 2) = nI j)) k, S, E) from by rw [zo_stepIs, if_pos ⟨by assumption, by assumption⟩, if_neg (by first | assumption | (intro h9; subst h9; first | contradiction | simp_all)), if_neg (by first | assumption | (intro h9; subst h9; first | contradiction | simp_all))] <;> rfl]; exact ⟨rfl, rfl⟩)
        · refine lv_aload_n hx hb dX6_stepIs_44 rfl (lv_at hl 0 rfl) ?_
          refine va_get (ci := 6) (v := .ref hs) (C := RX6) (T := TX6) (N := 20) hx hb hts hin6 hown hK hP 0 rfl rfl 0 (by decide) (hts (.fieldLink RX6 7 "UpAllRoundModel" "s" "[I") (List.mem_of_getElem? (i := 1) rfl)) (fun _ h9 => h9) hf0 dX6_stepIs_45 ?_
          refine lv_iconst (v := nI 2) hx hb dX6_stepIs_48 (by decide) ?_
          refine zald (t := 2) hx hb hK hP 1 rfl (by omega) (by decide) dX6_stepIs_49 ?_
          refine lv_iload_n hx hb dX6_stepIs_50 rfl (lv_at hl 1 rfl) ?_
          refine lv_icmp_ne (tgt := 58) hx hb dX6_stepIs_51 (by decide) (fun c51_8 => ?_) (fun c51_8 => ?_)
          · refine lv_iconst (v := nI 0) hx hb dX6_stepIs_58 (by decide) ?_
            refine lv_goto (tgt := 67) hx hb dX6_stepIs_59 (by decide) ?_
            exact hret hP hD hS dX6_stepIs_67 rfl (by rw [show zo_stepIs S E n k (nI j) what = (nI 0, S, E) from by rw [zo_stepIs, if_pos ⟨by assumption, by assumption⟩, if_neg (by first | assumption | (intro h9; subst h9; first | contradiction | simp_all)), if_pos (by first | assumption | exact congrArg nI (by assumption)), bI_f (by assumption)] <;> rfl]; exact ⟨rfl, rfl⟩)
          · refine lv_iconst (v := nI 1) hx hb dX6_stepIs_54 (by decide) ?_
            refine lv_goto (tgt := 67) hx hb dX6_stepIs_55 (by decide) ?_
            exact hret hP hD hS dX6_stepIs_67 rfl (by rw [show zo_stepIs S E n k (nI j) what = (nI 1, S, E) from by rw [zo_stepIs, if_pos ⟨by assumption, by assumption⟩, if_neg (by first | assumption | (intro h9; subst h9; first | contradiction | simp_all)), if_pos (by first | assumption | exact congrArg nI (by assumption)), bI_t (by assumption)] <;> rfl]; exact ⟨rfl, rfl⟩)
      · refine lv_aload_n hx hb dX6_stepIs_27 rfl (lv_at hl 0 rfl) ?_
        refine va_get (ci := 6) (v := .ref hs) (C := RX6) (T := TX6) (N := 20) hx hb hts hin6 hown hK hP 0 rfl rfl 0 (by decide) (hts (.fieldLink RX6 7 "UpAllRoundModel" "s" "[I") (List.mem_of_getElem? (i := 1) rfl)) (fun _ h9 => h9) hf0 dX6_stepIs_28 ?_
        refine lv_bipush (v := nI 32) hx hb dX6_stepIs_31 (by decide) ?_
        refine lv_iload_n hx hb dX6_stepIs_33 rfl (lv_at hl 1 rfl) ?_
        refine lv_iadd hx hb dX6_stepIs_34 ?_
        refine zrw (nI_add _ _) ?_
        refine zald (t := 32 + j) hx hb hK hP 1 rfl (by omega) (by decide) dX6_stepIs_35 ?_
        refine lv_goto (tgt := 67) hx hb dX6_stepIs_36 (by decide) ?_
        exact hret hP hD hS dX6_stepIs_67 rfl (by rw [show zo_stepIs S E n k (nI j) what = (S (32 + j), S, E) from by rw [zo_stepIs, if_pos ⟨by assumption, by assumption⟩, if_pos (by first | assumption | exact congrArg nI (by assumption)), nI_clamp (show j < 2147483648 by omega)] <;> rfl]; exact ⟨rfl, rfl⟩)
    · have c14_5 := bI_0.mp c14_5
      refine lv_aload_n hx hb dX6_stepIs_17 rfl (lv_at hl 0 rfl) ?_
      refine lv_iconst (v := nI 1) hx hb dX6_stepIs_18 (by decide) ?_
      refine zci (wr := [(hs, .inl (cI, 380, .inl S))]) (va_runV (As := [.int (nI 1)]) (rest := []) ⟨hx, hb, hml, hown, hts⟩ (c_X6_error l D cI cJ h hE fs E 1 (by first | rfl | assumption | omega) (by first | rfl | assumption | omega) s.heap.size) (cwV 1 hts gX6_stepIs_X6_error rfl rfl rfl (by decide +kernel) ⟨Nat.le_of_ble_eq_true rfl, Nat.le_of_ble_eq_true rfl⟩) (zpV hK hN hZ hP hD hS hA [0, 2] rfl (by decide) 0 rfl rfl rfl) rfl rfl hl.1 rfl (lv_room (Nat.le_of_ble_eq_true rfl)) dX6_stepIs_19 ⟨Nat.zero_le _, Nat.zero_le _⟩) hP hD hS hA [0, 2] [1] rfl rfl (by decide) (by decide) (fun r_11 w_10 H locs h_9 hP hD hS => ?_)
      obtain ⟨rfl, rfl⟩ := h_9
      have hP : va_P D vwCl [(hs, .inl (cI, 380, .inl S)), (h, .inr (6, fs)), (hE, .inl (cI, 7, .inl (upd E 1 (E 1 + nI 1))))] H := hP
      have hD : va_D AA [(hs, .inl (cI, 380, .inl S)), (h, .inr (6, fs)), (hE, .inl (cI, 7, .inl (upd E 1 (E 1 + nI 1))))] := hD
      have hP := hP.sub (ws' := [(h, .inr (6, fs)), (hs, .inl (cI, 380, .inl S)), (hE, .inl (cI, 7, .inl (upd E 1 (E 1 + nI 1))))]) [1, 0, 2] rfl
      have hD := hD.sub (ws' := [(h, .inr (6, fs)), (hs, .inl (cI, 380, .inl S)), (hE, .inl (cI, 7, .inl (upd E 1 (E 1 + nI 1))))]) [1, 0, 2] (by decide) rfl
      exact hret hP hD hS dX6_stepIs_22 rfl (by rw [show zo_stepIs S E n k (nI j) what = zerrE 1 S E from by rw [zo_stepIs, if_neg (by intro h9; first | exact absurd h9.1 (by assumption) | exact absurd h9.2 (by assumption))] <;> rfl]; exact ⟨rfl, rfl⟩)
set_option maxHeartbeats 4000000 in
set_option maxRecDepth 100000 in
theorem c_X5_stepIs (l : Launch) (D : va_G) (cI cJ : ClassId) (h : Nat) (hE : Nat) (hS9 : Nat) (fs : List Value) (S : Nat → Int32) (E : Nat → Int32) (n : Nat) (k : Nat) (ft : List Value) (hr9 : Nat) (hp : Nat) (step : Int32) (what : Int32) (hU0 : fs[0]? = some (.ref hS9)) (hU7 : fs[7]? = some (.ref hE)) (hn1 : S 1 = nI n) (hk6 : S 6 = nI k) (hn4 : 4 ≤ n) (hn14 : n ≤ 14) (hkle : k ≤ 6) (hft0 : ft[0]? = some (.int (nI n))) (hft1 : ft[1]? = some (.ref hr9)) (hft2 : ft[2]? = some (.int (S 2))) (hft4 : ft[4]? = some (.int (nI k))) (hft7 : ft[7]? = some (.ref hp)) : zMi l yX5_stepIs wsX5_stepIs ({ frames := 1, cells := 0, slots := 0, locals := 23 } : Room) D [(cI, .int), (cJ, .array .int)] [.ref h, .int step, .int what] [(h, .inr (5, fs)), (hS9, .inr (3, ft)), (hr9, .inl (cI, 14, .inl ((fun i => S (32 + i))))), (hp, .inl (cI, 6, .inl ((fun c => S (8 + 4 * c + 2))))), (hE, .inl (cI, 7, .inl E))] (fun r w => r = (zo_stepIs S E n k step what).1 ∧ w = [(h, .inr (5, fs)), (hS9, .inr (3, ft)), (hr9, .inl (cI, 14, .inl ((fun i => S (32 + i))))), (hp, .inl (cI, 6, .inl ((fun c => S (8 + 4 * c + 2))))), (hE, .inl (cI, 7, .inl ((zo_stepIs S E n k step what).2.2)))]) := by
  refine zMi.start (cc := cX5_stepIs) (maxL := 3) (rt := .int) (by first | decide | decide +kernel) rfl (Nat.le_of_ble_eq_true rfl) ?_
  intro pg ev s mt args below meth cd ls AA QQ ⟨hx, hb, hml, hr, hlocks, hown, hts, hK, hN, hZ, hP, hD, hA, hS, hl⟩ hret
  have hown : s.vm.findClass RX5 = some mt.cls := hown
  have hl : lv_has ls 3 [(0, .ref h), (1, .int step), (2, .int what)] := hl
  have hin3 : ∀ w ∈ wsX30, w ∈ wsX5_stepIs := fun w h => List.mem_cons_of_mem _ (List.mem_append_right _ (h))
  have hin5 : ∀ w ∈ wsX50, w ∈ wsX5_stepIs := fun w h => List.mem_cons_of_mem _ (List.mem_append_left _ (List.mem_append_right _ (h)))
  refine lv_aload_n hx hb dX5_stepIs_0 rfl (lv_at hl 0 rfl) ?_
  refine va_get (ci := 5) (v := .ref hS9) (C := RX5) (T := TX5) (N := 9) hx hb hts hin5 hown hK hP 0 rfl rfl 0 (by decide) (hts (.fieldLink RX5 12 "UpAllRound" "now" "LUpAllRound$Stair;") (List.mem_of_getElem? (i := 1) rfl)) (fun _ h9 => h9) hU0 dX5_stepIs_1 ?_
  refine lv_iload_n hx hb dX5_stepIs_4 rfl (lv_at hl 1 rfl) ?_
  refine zcsE (va_runVN (As := [.int step]) (rest := []) ⟨hx, hb, hml, hown, hts⟩ (c_X3_hasStep l D cI cJ hS9 ft n step (by first | rfl | assumption | omega) (by first | rfl | assumption | omega) s.heap.size) ⟨va_cnB 1 hts gX5_stepIs_X3_hasStep_n74 rfl rfl rfl (hN (.methodLinkNest "UpAllRound" 74 yX3_hasStep "UpAllRound") (List.mem_of_getElem? (i := 30) rfl)) (hts (.initialized RX3) (List.mem_of_getElem? (i := 3) rfl)) (by decide +kernel) ⟨Nat.le_of_ble_eq_true rfl, Nat.le_of_ble_eq_true rfl⟩, (hts (.instanceMethod yX3_hasStep) (List.mem_of_getElem? (i := 2) rfl)), (hts (.selects RX3 yX3_hasStep yX3_hasStep) (List.mem_of_getElem? (i := 4) rfl))⟩ (zpV hK hN hZ hP hD hS hA [1] rfl (by decide) 1 rfl rfl rfl) rfl rfl hl.1 rfl (lv_room (Nat.le_of_ble_eq_true rfl)) dX5_stepIs_5 ⟨Nat.zero_le _, Nat.zero_le _⟩) ?_
  refine lv_if_eq (tgt := 20) hx hb dX5_stepIs_8 (by decide) (fun c8_1 => ?_) (fun c8_1 => ?_)
  · have c8_1 := bI_0.mp c8_1
    refine lv_aload_n hx hb dX5_stepIs_20 rfl (lv_at hl 0 rfl) ?_
    refine lv_iconst (v := nI 1) hx hb dX5_stepIs_21 (by decide) ?_
    refine zci (wr := [(hS9, .inr (3, ft)), (hr9, .inl (cI, 14, .inl ((fun i => S (32 + i))))), (hp, .inl (cI, 6, .inl ((fun c => S (8 + 4 * c + 2)))))]) (va_runV (As := [.int (nI 1)]) (rest := []) ⟨hx, hb, hml, hown, hts⟩ (c_X5_refuse l D cI cJ h hE fs E 1 (by first | rfl | assumption | omega) (by first | rfl | assumption | omega) s.heap.size) (cwV 1 hts gX5_stepIs_X5_refuse rfl rfl rfl (by decide +kernel) ⟨Nat.le_of_ble_eq_true rfl, Nat.le_of_ble_eq_true rfl⟩) (zpV hK hN hZ hP hD hS hA [0, 4] rfl (by decide) 0 rfl rfl rfl) rfl rfl hl.1 rfl (lv_room (Nat.le_of_ble_eq_true rfl)) dX5_stepIs_22 ⟨Nat.zero_le _, Nat.zero_le _⟩) hP hD hS hA [0, 4] [1, 2, 3] rfl rfl (by decide) (by decide) (fun r_4 w_3 H locs h_2 hP hD hS => ?_)
    obtain ⟨rfl, rfl⟩ := h_2
    have hP : va_P D vwCl [(hS9, .inr (3, ft)), (hr9, .inl (cI, 14, .inl ((fun i => S (32 + i))))), (hp, .inl (cI, 6, .inl ((fun c => S (8 + 4 * c + 2))))), (h, .inr (5, fs)), (hE, .inl (cI, 7, .inl (upd E 1 (E 1 + nI 1))))] H := hP
    have hD : va_D AA [(hS9, .inr (3, ft)), (hr9, .inl (cI, 14, .inl ((fun i => S (32 + i))))), (hp, .inl (cI, 6, .inl ((fun c => S (8 + 4 * c + 2))))), (h, .inr (5, fs)), (hE, .inl (cI, 7, .inl (upd E 1 (E 1 + nI 1))))] := hD
    have hP := hP.sub (ws' := [(h, .inr (5, fs)), (hS9, .inr (3, ft)), (hr9, .inl (cI, 14, .inl ((fun i => S (32 + i))))), (hp, .inl (cI, 6, .inl ((fun c => S (8 + 4 * c + 2))))), (hE, .inl (cI, 7, .inl (upd E 1 (E 1 + nI 1))))]) [3, 0, 1, 2, 4] rfl
    have hD := hD.sub (ws' := [(h, .inr (5, fs)), (hS9, .inr (3, ft)), (hr9, .inl (cI, 14, .inl ((fun i => S (32 + i))))), (hp, .inl (cI, 6, .inl ((fun c => S (8 + 4 * c + 2))))), (hE, .inl (cI, 7, .inl (upd E 1 (E 1 + nI 1))))]) [3, 0, 1, 2, 4] (by decide) rfl
    exact hret hP hD hS dX5_stepIs_25 rfl (by rw [show zo_stepIs S E n k step what = zerrE 1 S E from by rw [zo_stepIs, if_neg (by intro h9; first | exact absurd h9.1 (by assumption) | exact absurd h9.2 (by assumption))] <;> rfl]; exact ⟨rfl, rfl⟩)
  · have c8_1 := bI_n0.mp c8_1
    obtain ⟨j, h_j, rfl⟩ := zin_of c8_1 (by omega)
    refine lv_iload_n hx hb dX5_stepIs_11 rfl (lv_at hl 2 rfl) ?_
    refine lv_iconst (v := nI 0) hx hb dX5_stepIs_12 (by decide) ?_
    refine lv_iconst (v := nI 2) hx hb dX5_stepIs_13 (by decide) ?_
    refine zcsE (va_runS (As := [.int what, .int (nI 0), .int (nI 2)]) (rest := []) ⟨hx, hb, hml, hown, hts⟩ (d_X5_isOutside l D cI cJ what (nI 0) (nI 2) 0 2 (by decide) (by decide) s.heap.size) (va_cwS 3 hts gX5_stepIs_X5_isOutside rfl rfl rfl (by decide +kernel) ⟨Nat.le_of_ble_eq_true rfl, Nat.le_of_ble_eq_true rfl⟩) (zpS hK hN hZ hP hD hS hA [] rfl (by decide)) rfl rfl hl.1 rfl (lv_room (Nat.le_of_ble_eq_true rfl)) dX5_stepIs_14 ⟨Nat.zero_le _, Nat.zero_le _⟩) ?_
    refine lv_if_eq (tgt := 26) hx hb dX5_stepIs_17 (by decide) (fun c17_5 => ?_) (fun c17_5 => ?_)
    · have c17_5 := bI_nX0.mp c17_5
      refine lv_iload_n hx hb dX5_stepIs_26 rfl (lv_at hl 2 rfl) ?_
      by_cases k27_6 : what = nI 0
      · refine lv_lookup (off := 25) (tgt := 52) hx hb dX5_stepIs_27 (by decide) (by rw [k27_6]; decide) (by decide) ?_
        refine lv_aload_n hx hb dX5_stepIs_52 rfl (lv_at hl 0 rfl) ?_
        refine va_get (ci := 5) (v := .ref hS9) (C := RX5) (T := TX5) (N := 9) hx hb hts hin5 hown hK hP 0 rfl rfl 0 (by decide) (hts (.fieldLink RX5 12 "UpAllRound" "now" "LUpAllRound$Stair;") (List.mem_of_getElem? (i := 1) rfl)) (fun _ h9 => h9) hU0 dX5_stepIs_53 ?_
        refine va_getN (ci := 3) (v := .ref hr9) (C := RX3) (T := TX3) (N := 16) hx hb hts hin3 hown hK hP 1 rfl rfl 1 (by decide) (va_Nw.use rfl (hN (.fieldLinkNest "UpAllRound" 78 "UpAllRound$Stair" "rises" "[I" "UpAllRound") (List.mem_of_getElem? (i := 1) rfl))) (fun _ h9 => h9) hft1 dX5_stepIs_56 ?_
        refine lv_iload_n hx hb dX5_stepIs_59 rfl (lv_at hl 1 rfl) ?_
        refine zald (t := j) hx hb hK hP 2 rfl (by omega) (by decide) dX5_stepIs_60 ?_
        exact hret hP hD hS dX5_stepIs_61 rfl (by rw [show zo_stepIs S E n k (nI j) what = (S (32 + j), S, E) from by rw [zo_stepIs, if_pos ⟨by assumption, by assumption⟩, if_pos (by first | assumption | exact congrArg nI (by assumption)), nI_clamp (show j < 2147483648 by omega)] <;> rfl]; exact ⟨rfl, rfl⟩)
      by_cases k27_7 : what = nI 1
      · refine lv_lookup (off := 35) (tgt := 62) hx hb dX5_stepIs_27 (by decide) (by rw [k27_7]; decide) (by decide) ?_
        refine lv_aload_n hx hb dX5_stepIs_62 rfl (lv_at hl 0 rfl) ?_
        refine va_get (ci := 5) (v := .ref hS9) (C := RX5) (T := TX5) (N := 9) hx hb hts hin5 hown hK hP 0 rfl rfl 0 (by decide) (hts (.fieldLink RX5 12 "UpAllRound" "now" "LUpAllRound$Stair;") (List.mem_of_getElem? (i := 1) rfl)) (fun _ h9 => h9) hU0 dX5_stepIs_63 ?_
        refine va_getN (ci := 3) (v := .int (S 2)) (C := RX3) (T := TX3) (N := 16) hx hb hts hin3 hown hK hP 1 rfl rfl 2 (by decide) (va_Nw.use rfl (hN (.fieldLinkNest "UpAllRound" 81 "UpAllRound$Stair" "none" "I" "UpAllRound") (List.mem_of_getElem? (i := 2) rfl))) (fun _ h9 => h9) hft2 dX5_stepIs_66 ?_
        refine lv_iload_n hx hb dX5_stepIs_69 rfl (lv_at hl 1 rfl) ?_
        refine lv_icmp_ne (tgt := 77) hx hb dX5_stepIs_70 (by decide) (fun c70_8 => ?_) (fun c70_8 => ?_)
        · refine lv_iconst (v := nI 0) hx hb dX5_stepIs_77 (by decide) ?_
          exact hret hP hD hS dX5_stepIs_78 rfl (by rw [show zo_stepIs S E n k (nI j) what = (nI 0, S, E) from by rw [zo_stepIs, if_pos ⟨by assumption, by assumption⟩, if_neg (by first | assumption | (intro h9; subst h9; first | contradiction | simp_all)), if_pos (by first | assumption | exact congrArg nI (by assumption)), bI_f (by assumption)] <;> rfl]; exact ⟨rfl, rfl⟩)
        · refine lv_iconst (v := nI 1) hx hb dX5_stepIs_73 (by decide) ?_
          refine lv_goto (tgt := 78) hx hb dX5_stepIs_74 (by decide) ?_
          exact hret hP hD hS dX5_stepIs_78 rfl (by rw [show zo_stepIs S E n k (nI j) what = (nI 1, S, E) from by rw [zo_stepIs, if_pos ⟨by assumption, by assumption⟩, if_neg (by first | assumption | (intro h9; subst h9; first | contradiction | simp_all)), if_pos (by first | assumption | exact congrArg nI (by assumption)), bI_t (by assumption)] <;> rfl]; exact ⟨rfl, rfl⟩)
      refine lv_lookup (off := 52) (tgt := 79) hx hb dX5_stepIs_27 (by decide) ((lv_osw (k := nI 0) k27_6 (by decide)).trans ((lv_osw (k := nI 1) k27_7 (by decide)).trans rfl)) (by decide) ?_
      refine lv_aload_n hx hb dX5_stepIs_79 rfl (lv_at hl 0 rfl) ?_
      refine va_get (ci := 5) (v := .ref hS9) (C := RX5) (T := TX5) (N := 9) hx hb hts hin5 hown hK hP 0 rfl rfl 0 (by decide) (hts (.fieldLink RX5 12 "UpAllRound" "now" "LUpAllRound$Stair;") (List.mem_of_getElem? (i := 1) rfl)) (fun _ h9 => h9) hU0 dX5_stepIs_80 ?_
      refine lv_iload_n hx hb dX5_stepIs_83 rfl (lv_at hl 1 rfl) ?_
      refine zcsE (va_runVN (As := [.int (nI j)]) (rest := []) ⟨hx, hb, hml, hown, hts⟩ (c_X3_climbersAt l D cI cJ hS9 hp ft k ((fun c => S (8 + 4 * c + 2))) (nI j) (by first | rfl | assumption | omega) (by first | rfl | assumption | omega) (by first | rfl | assumption | omega) s.heap.size) ⟨va_cnB 1 hts gX5_stepIs_X3_climbersAt_n84 rfl rfl rfl (hN (.methodLinkNest "UpAllRound" 84 yX3_climbersAt "UpAllRound") (List.mem_of_getElem? (i := 31) rfl)) (hts (.initialized RX3) (List.mem_of_getElem? (i := 3) rfl)) (by decide +kernel) ⟨Nat.le_of_ble_eq_true rfl, Nat.le_of_ble_eq_true rfl⟩, (hts (.instanceMethod yX3_climbersAt) (List.mem_of_getElem? (i := 17) rfl)), (hts (.selects RX3 yX3_climbersAt yX3_climbersAt) (List.mem_of_getElem? (i := 18) rfl))⟩ (zpV hK hN hZ hP hD hS hA [1, 3] rfl (by decide) 1 rfl rfl rfl) rfl rfl hl.1 rfl (lv_room (Nat.le_of_ble_eq_true rfl)) dX5_stepIs_84 ⟨Nat.zero_le _, Nat.zero_le _⟩) ?_
      exact hret hP hD hS dX5_stepIs_87 rfl (by rw [show zo_stepIs S E n k (nI j) what = (zsum (fun c => bI (S (8 + 4 * c + 2) = nI j)) k, S, E) from by rw [zo_stepIs, if_pos ⟨by assumption, by assumption⟩, if_neg (by first | assumption | (intro h9; subst h9; first | contradiction | simp_all)), if_neg (by first | assumption | (intro h9; subst h9; first | contradiction | simp_all))] <;> rfl]; exact ⟨rfl, rfl⟩)
    · have c17_5 := bI_nn0.mp c17_5
      refine lv_aload_n hx hb dX5_stepIs_20 rfl (lv_at hl 0 rfl) ?_
      refine lv_iconst (v := nI 1) hx hb dX5_stepIs_21 (by decide) ?_
      refine zci (wr := [(hS9, .inr (3, ft)), (hr9, .inl (cI, 14, .inl ((fun i => S (32 + i))))), (hp, .inl (cI, 6, .inl ((fun c => S (8 + 4 * c + 2)))))]) (va_runV (As := [.int (nI 1)]) (rest := []) ⟨hx, hb, hml, hown, hts⟩ (c_X5_refuse l D cI cJ h hE fs E 1 (by first | rfl | assumption | omega) (by first | rfl | assumption | omega) s.heap.size) (cwV 1 hts gX5_stepIs_X5_refuse rfl rfl rfl (by decide +kernel) ⟨Nat.le_of_ble_eq_true rfl, Nat.le_of_ble_eq_true rfl⟩) (zpV hK hN hZ hP hD hS hA [0, 4] rfl (by decide) 0 rfl rfl rfl) rfl rfl hl.1 rfl (lv_room (Nat.le_of_ble_eq_true rfl)) dX5_stepIs_22 ⟨Nat.zero_le _, Nat.zero_le _⟩) hP hD hS hA [0, 4] [1, 2, 3] rfl rfl (by decide) (by decide) (fun r_11 w_10 H locs h_9 hP hD hS => ?_)
      obtain ⟨rfl, rfl⟩ := h_9
      have hP : va_P D vwCl [(hS9, .inr (3, ft)), (hr9, .inl (cI, 14, .inl ((fun i => S (32 + i))))), (hp, .inl (cI, 6, .inl ((fun c => S (8 + 4 * c + 2))))), (h, .inr (5, fs)), (hE, .inl (cI, 7, .inl (upd E 1 (E 1 + nI 1))))] H := hP
      have hD : va_D AA [(hS9, .inr (3, ft)), (hr9, .inl (cI, 14, .inl ((fun i => S (32 + i))))), (hp, .inl (cI, 6, .inl ((fun c => S (8 + 4 * c + 2))))), (h, .inr (5, fs)), (hE, .inl (cI, 7, .inl (upd E 1 (E 1 + nI 1))))] := hD
      have hP := hP.sub (ws' := [(h, .inr (5, fs)), (hS9, .inr (3, ft)), (hr9, .inl (cI, 14, .inl ((fun i => S (32 + i))))), (hp, .inl (cI, 6, .inl ((fun c => S (8 + 4 * c + 2))))), (hE, .inl (cI, 7, .inl (upd E 1 (E 1 + nI 1))))]) [3, 0, 1, 2, 4] rfl
      have hD := hD.sub (ws' := [(h, .inr (5, fs)), (hS9, .inr (3, ft)), (hr9, .inl (cI, 14, .inl ((fun i => S (32 + i))))), (hp, .inl (cI, 6, .inl ((fun c => S (8 + 4 * c + 2))))), (hE, .inl (cI, 7, .inl (upd E 1 (E 1 + nI 1))))]) [3, 0, 1, 2, 4] (by decide) rfl
      exact hret hP hD hS dX5_stepIs_25 rfl (by rw [show zo_stepIs S E n k (nI j) what = zerrE 1 S E from by rw [zo_stepIs, if_neg (by intro h9; first | exact absurd h9.1 (by assumption) | exact absurd h9.2 (by assumption))] <;> rfl]; exact ⟨rfl, rfl⟩)
def zo_hide (S E : Nat → Int32) (n k : Nat) (step : Int32) : zOut := if step = -1 ∨ zin step n then (S 2, upd S 2 step, E) else zerrE 1 S E
set_option maxHeartbeats 4000000 in
set_option maxRecDepth 100000 in
theorem c_X6_hide (l : Launch) (D : va_G) (cI cJ : ClassId) (h : Nat) (hs : Nat) (hE : Nat) (fs : List Value) (S : Nat → Int32) (E : Nat → Int32) (n : Nat) (k : Nat) (step : Int32) (hf0 : fs[0]? = some (.ref hs)) (hf4 : fs[4]? = some (.ref hE)) (hn1 : S 1 = nI n) (hk6 : S 6 = nI k) (hn4 : 4 ≤ n) (hn14 : n ≤ 14) (hkle : k ≤ 6) : zMi l yX6_hide wsX6_hide ({ frames := 2, cells := 0, slots := 0, locals := 43 } : Room) D [(cI, .int), (cJ, .array .int)] [.ref h, .int step] [(h, .inr (6, fs)), (hs, .inl (cI, 380, .inl S)), (hE, .inl (cI, 7, .inl E))] (fun r w => r = (zo_hide S E n k step).1 ∧ w = [(h, .inr (6, fs)), (hs, .inl (cI, 380, .inl ((zo_hide S E n k step).2.1))), (hE, .inl (cI, 7, .inl ((zo_hide S E n k step).2.2)))]) := by
  refine zMi.start (cc := cX6_hide) (maxL := 2) (rt := .int) (by first | decide | decide +kernel) rfl (Nat.le_of_ble_eq_true rfl) ?_
  intro pg ev s mt args below meth cd ls AA QQ ⟨hx, hb, hml, hr, hlocks, hown, hts, hK, hN, hZ, hP, hD, hA, hS, hl⟩ hret
  have hown : s.vm.findClass RX6 = some mt.cls := hown
  have hl : lv_has ls 2 [(0, .ref h), (1, .int step)] := hl
  have hin6 : ∀ w ∈ wsX60, w ∈ wsX6_hide := fun w h => List.mem_cons_of_mem _ (List.mem_append_right _ (h))
  refine lv_iload_n hx hb dX6_hide_0 rfl (lv_at hl 1 rfl) ?_
  refine lv_iconst (v := (-1)) hx hb dX6_hide_1 (by decide) ?_
  refine lv_icmp_eq (tgt := 13) hx hb dX6_hide_2 (by decide) (fun c2_1 => ?_) (fun c2_1 => ?_)
  · refine lv_aload_n hx hb dX6_hide_13 rfl (lv_at hl 0 rfl) ?_
    refine lv_iconst (v := nI 2) hx hb dX6_hide_14 (by decide) ?_
    refine lv_iload_n hx hb dX6_hide_15 rfl (lv_at hl 1 rfl) ?_
    refine zci (wr := [(hE, .inl (cI, 7, .inl E))]) (va_runV (As := [.int (nI 2), .int step]) (rest := []) ⟨hx, hb, hml, hown, hts⟩ (c_X6_change1 l D cI cJ h hs fs S 2 step (by first | rfl | assumption | omega) (by first | rfl | assumption | omega) s.heap.size) (cwV 2 hts gX6_hide_X6_change1 rfl rfl rfl (by decide +kernel) ⟨Nat.le_of_ble_eq_true rfl, Nat.le_of_ble_eq_true rfl⟩) (zpV hK hN hZ hP hD hS hA [0, 1] rfl (by decide) 0 rfl rfl rfl) rfl rfl hl.1 rfl (lv_room (Nat.le_of_ble_eq_true rfl)) dX6_hide_16 ⟨Nat.zero_le _, Nat.zero_le _⟩) hP hD hS hA [0, 1] [2] rfl rfl (by decide) (by decide) (fun r_4 w_3 H locs h_2 hP hD hS => ?_)
    obtain ⟨rfl, rfl⟩ := h_2
    have hP : va_P D vwCl [(hE, .inl (cI, 7, .inl E)), (h, .inr (6, fs)), (hs, .inl (cI, 380, .inl (upd S 2 step)))] H := hP
    have hD : va_D AA [(hE, .inl (cI, 7, .inl E)), (h, .inr (6, fs)), (hs, .inl (cI, 380, .inl (upd S 2 step)))] := hD
    refine lv_goto (tgt := 27) hx hb dX6_hide_19 (by decide) ?_
    have hP := hP.sub (ws' := [(h, .inr (6, fs)), (hs, .inl (cI, 380, .inl (upd S 2 step))), (hE, .inl (cI, 7, .inl E))]) [1, 2, 0] rfl
    have hD := hD.sub (ws' := [(h, .inr (6, fs)), (hs, .inl (cI, 380, .inl (upd S 2 step))), (hE, .inl (cI, 7, .inl E))]) [1, 2, 0] (by decide) rfl
    exact hret hP hD hS dX6_hide_27 rfl (by rw [show zo_hide S E n k step = (S 2, upd S 2 step, E) from by rw [zo_hide, if_pos (by first | exact Or.inl (by assumption) | exact Or.inr (by assumption))] <;> rfl]; exact ⟨rfl, rfl⟩)
  · refine lv_aload_n hx hb dX6_hide_5 rfl (lv_at hl 0 rfl) ?_
    refine lv_iload_n hx hb dX6_hide_6 rfl (lv_at hl 1 rfl) ?_
    refine zcsE (va_runV (As := [.int step]) (rest := []) ⟨hx, hb, hml, hown, hts⟩ (c_X6_isStep l D cI cJ h hs fs S n step (by first | rfl | assumption | omega) (by first | rfl | assumption | omega) (by first | rfl | assumption | omega) s.heap.size) (cwV 1 hts gX6_hide_X6_isStep rfl rfl rfl (by decide +kernel) ⟨Nat.le_of_ble_eq_true rfl, Nat.le_of_ble_eq_true rfl⟩) (zpV hK hN hZ hP hD hS hA [0, 1] rfl (by decide) 0 rfl rfl rfl) rfl rfl hl.1 rfl (lv_room (Nat.le_of_ble_eq_true rfl)) dX6_hide_7 ⟨Nat.zero_le _, Nat.zero_le _⟩) ?_
    refine lv_if_eq (tgt := 22) hx hb dX6_hide_10 (by decide) (fun c10_5 => ?_) (fun c10_5 => ?_)
    · have c10_5 := bI_0.mp c10_5
      refine lv_aload_n hx hb dX6_hide_22 rfl (lv_at hl 0 rfl) ?_
      refine lv_iconst (v := nI 1) hx hb dX6_hide_23 (by decide) ?_
      refine zci (wr := [(hs, .inl (cI, 380, .inl S))]) (va_runV (As := [.int (nI 1)]) (rest := []) ⟨hx, hb, hml, hown, hts⟩ (c_X6_error l D cI cJ h hE fs E 1 (by first | rfl | assumption | omega) (by first | rfl | assumption | omega) s.heap.size) (cwV 1 hts gX6_hide_X6_error rfl rfl rfl (by decide +kernel) ⟨Nat.le_of_ble_eq_true rfl, Nat.le_of_ble_eq_true rfl⟩) (zpV hK hN hZ hP hD hS hA [0, 2] rfl (by decide) 0 rfl rfl rfl) rfl rfl hl.1 rfl (lv_room (Nat.le_of_ble_eq_true rfl)) dX6_hide_24 ⟨Nat.zero_le _, Nat.zero_le _⟩) hP hD hS hA [0, 2] [1] rfl rfl (by decide) (by decide) (fun r_8 w_7 H locs h_6 hP hD hS => ?_)
      obtain ⟨rfl, rfl⟩ := h_6
      have hP : va_P D vwCl [(hs, .inl (cI, 380, .inl S)), (h, .inr (6, fs)), (hE, .inl (cI, 7, .inl (upd E 1 (E 1 + nI 1))))] H := hP
      have hD : va_D AA [(hs, .inl (cI, 380, .inl S)), (h, .inr (6, fs)), (hE, .inl (cI, 7, .inl (upd E 1 (E 1 + nI 1))))] := hD
      have hP := hP.sub (ws' := [(h, .inr (6, fs)), (hs, .inl (cI, 380, .inl S)), (hE, .inl (cI, 7, .inl (upd E 1 (E 1 + nI 1))))]) [1, 0, 2] rfl
      have hD := hD.sub (ws' := [(h, .inr (6, fs)), (hs, .inl (cI, 380, .inl S)), (hE, .inl (cI, 7, .inl (upd E 1 (E 1 + nI 1))))]) [1, 0, 2] (by decide) rfl
      exact hret hP hD hS dX6_hide_27 rfl (by rw [show zo_hide S E n k step = zerrE 1 S E from by rw [zo_hide, if_neg (by intro h9; rcases h9 with h9 | h9 <;> exact absurd h9 (by assumption))] <;> rfl]; exact ⟨rfl, rfl⟩)
    · have c10_5 := bI_n0.mp c10_5
      refine lv_aload_n hx hb dX6_hide_13 rfl (lv_at hl 0 rfl) ?_
      refine lv_iconst (v := nI 2) hx hb dX6_hide_14 (by decide) ?_
      refine lv_iload_n hx hb dX6_hide_15 rfl (lv_at hl 1 rfl) ?_
      refine zci (wr := [(hE, .inl (cI, 7, .inl E))]) (va_runV (As := [.int (nI 2), .int step]) (rest := []) ⟨hx, hb, hml, hown, hts⟩ (c_X6_change1 l D cI cJ h hs fs S 2 step (by first | rfl | assumption | omega) (by first | rfl | assumption | omega) s.heap.size) (cwV 2 hts gX6_hide_X6_change1 rfl rfl rfl (by decide +kernel) ⟨Nat.le_of_ble_eq_true rfl, Nat.le_of_ble_eq_true rfl⟩) (zpV hK hN hZ hP hD hS hA [0, 1] rfl (by decide) 0 rfl rfl rfl) rfl rfl hl.1 rfl (lv_room (Nat.le_of_ble_eq_true rfl)) dX6_hide_16 ⟨Nat.zero_le _, Nat.zero_le _⟩) hP hD hS hA [0, 1] [2] rfl rfl (by decide) (by decide) (fun r_11 w_10 H locs h_9 hP hD hS => ?_)
      obtain ⟨rfl, rfl⟩ := h_9
      have hP : va_P D vwCl [(hE, .inl (cI, 7, .inl E)), (h, .inr (6, fs)), (hs, .inl (cI, 380, .inl (upd S 2 step)))] H := hP
      have hD : va_D AA [(hE, .inl (cI, 7, .inl E)), (h, .inr (6, fs)), (hs, .inl (cI, 380, .inl (upd S 2 step)))] := hD
      refine lv_goto (tgt := 27) hx hb dX6_hide_19 (by decide) ?_
      have hP := hP.sub (ws' := [(h, .inr (6, fs)), (hs, .inl (cI, 380, .inl (upd S 2 step))), (hE, .inl (cI, 7, .inl E))]) [1, 2, 0] rfl
      have hD := hD.sub (ws' := [(h, .inr (6, fs)), (hs, .inl (cI, 380, .inl (upd S 2 step))), (hE, .inl (cI, 7, .inl E))]) [1, 2, 0] (by decide) rfl
      exact hret hP hD hS dX6_hide_27 rfl (by rw [show zo_hide S E n k step = (S 2, upd S 2 step, E) from by rw [zo_hide, if_pos (by first | exact Or.inl (by assumption) | exact Or.inr (by assumption))] <;> rfl]; exact ⟨rfl, rfl⟩)
set_option maxHeartbeats 4000000 in
set_option maxRecDepth 100000 in
theorem c_X5_hide (l : Launch) (D : va_G) (cI cJ : ClassId) (h : Nat) (hE : Nat) (hS9 : Nat) (fs : List Value) (S : Nat → Int32) (E : Nat → Int32) (n : Nat) (k : Nat) (hr9 : Nat) (hk : Nat) (hm : Nat) (hp : Nat) (hh : Nat) (hw : Nat) (hv : Nat) (ht : Nat) (hq : Nat) (step : Int32) (hU0 : fs[0]? = some (.ref hS9)) (hU7 : fs[7]? = some (.ref hE)) (hn1 : S 1 = nI n) (hk6 : S 6 = nI k) (hn4 : 4 ≤ n) (hn14 : n ≤ 14) (hkle : k ≤ 6) : zMi l yX5_hide wsX5_hide ({ frames := 1, cells := 0, slots := 0, locals := 21 } : Room) D [(cI, .int), (cJ, .array .int)] [.ref h, .int step] [(h, .inr (5, fs)), (hS9, .inr (3, [.int (nI n), .ref hr9, .int (S 2), .int (S 0), .int (nI k), .ref hk, .ref hm, .ref hp, .ref hh, .ref hw, .ref hv, .int (S 3), .ref ht, .int (S 4), .ref hq, .int (S 5)])), (hE, .inl (cI, 7, .inl E))] (fun r w => r = (zo_hide S E n k step).1 ∧ w = [(h, .inr (5, fs)), (hS9, .inr (3, [.int (nI n), .ref hr9, .int ((zo_hide S E n k step).2.1 2), .int (S 0), .int (nI k), .ref hk, .ref hm, .ref hp, .ref hh, .ref hw, .ref hv, .int (S 3), .ref ht, .int (S 4), .ref hq, .int (S 5)])), (hE, .inl (cI, 7, .inl ((zo_hide S E n k step).2.2)))]) := by
  refine zMi.start (cc := cX5_hide) (maxL := 3) (rt := .int) (by first | decide | decide +kernel) rfl (Nat.le_of_ble_eq_true rfl) ?_
  intro pg ev s mt args below meth cd ls AA QQ ⟨hx, hb, hml, hr, hlocks, hown, hts, hK, hN, hZ, hP, hD, hA, hS, hl⟩ hret
  have hown : s.vm.findClass RX5 = some mt.cls := hown
  have hl : lv_has ls 3 [(0, .ref h), (1, .int step)] := hl
  have hin3 : ∀ w ∈ wsX30, w ∈ wsX5_hide := fun w h => List.mem_cons_of_mem _ (List.mem_append_right _ (h))
  have hin5 : ∀ w ∈ wsX50, w ∈ wsX5_hide := fun w h => List.mem_cons_of_mem _ (List.mem_append_left _ (List.mem_append_right _ (h)))
  refine lv_iload_n hx hb dX5_hide_0 rfl (lv_at hl 1 rfl) ?_
  refine lv_iconst (v := (-1)) hx hb dX5_hide_1 (by decide) ?_
  refine lv_icmp_eq (tgt := 22) hx hb dX5_hide_2 (by decide) (fun c2_1 => ?_) (fun c2_1 => ?_)
  · refine lv_aload_n hx hb dX5_hide_22 rfl (lv_at hl 0 rfl) ?_
    refine va_get (ci := 5) (v := .ref hS9) (C := RX5) (T := TX5) (N := 9) hx hb hts hin5 hown hK hP 0 rfl rfl 0 (by decide) (hts (.fieldLink RX5 12 "UpAllRound" "now" "LUpAllRound$Stair;") (List.mem_of_getElem? (i := 1) rfl)) (fun _ h9 => h9) hU0 dX5_hide_23 ?_
    refine va_getN (ci := 3) (v := .int (S 2)) (C := RX3) (T := TX3) (N := 16) hx hb hts hin3 hown hK hP 1 rfl rfl 2 (by decide) (va_Nw.use rfl (hN (.fieldLinkNest "UpAllRound" 81 "UpAllRound$Stair" "none" "I" "UpAllRound") (List.mem_of_getElem? (i := 2) rfl))) (fun _ h9 => h9) rfl dX5_hide_26 ?_
    refine lv_istore_n (lv' := [(2, .int (S 2)), (0, .ref h), (1, .int step)]) hx hb dX5_hide_29 rfl hl (by decide) rfl (fun ls hl => ?_)
    refine lv_aload_n hx hb dX5_hide_30 rfl (lv_at hl 1 rfl) ?_
    refine va_get (ci := 5) (v := .ref hS9) (C := RX5) (T := TX5) (N := 9) hx hb hts hin5 hown hK hP 0 rfl rfl 0 (by decide) (hts (.fieldLink RX5 12 "UpAllRound" "now" "LUpAllRound$Stair;") (List.mem_of_getElem? (i := 1) rfl)) (fun _ h9 => h9) hU0 dX5_hide_31 ?_
    refine lv_iload_n hx hb dX5_hide_34 rfl (lv_at hl 2 rfl) ?_
    refine va_putN (ci := 3) (v := .int step) (ty := .int) (C := RX3) (T := TX3) (N := 16) hx hb hts hin3 tyX3 tyX3_ok nmX3 hown hK hP hD hS 1 rfl rfl 2 (by decide) (va_Nw.use rfl (hN (.fieldLinkNest "UpAllRound" 81 "UpAllRound$Stair" "none" "I" "UpAllRound") (List.mem_of_getElem? (i := 2) rfl))) (fun _ h9 => h9) rfl (by decide +kernel) rfl rfl (Nat.le_of_ble_eq_true rfl) dX5_hide_35 (fun H locs hP hD hS => ?_)
    have hP : va_P D vwCl [(h, .inr (5, fs)), (hS9, .inr (3, [.int (nI n), .ref hr9, .int step, .int (S 0), .int (nI k), .ref hk, .ref hm, .ref hp, .ref hh, .ref hw, .ref hv, .int (S 3), .ref ht, .int (S 4), .ref hq, .int (S 5)])), (hE, .inl (cI, 7, .inl E))] H := hP
    have hD : va_D AA [(h, .inr (5, fs)), (hS9, .inr (3, [.int (nI n), .ref hr9, .int step, .int (S 0), .int (nI k), .ref hk, .ref hm, .ref hp, .ref hh, .ref hw, .ref hv, .int (S 3), .ref ht, .int (S 4), .ref hq, .int (S 5)])), (hE, .inl (cI, 7, .inl E))] := hD
    refine lv_iload_n hx hb dX5_hide_38 rfl (lv_at hl 0 rfl) ?_
    exact hret hP hD hS dX5_hide_39 rfl (by rw [show zo_hide S E n k step = (S 2, upd S 2 step, E) from by rw [zo_hide, if_pos (by first | exact Or.inl (by assumption) | exact Or.inr (by assumption))] <;> rfl]; exact ⟨rfl, rfl⟩)
  · refine lv_aload_n hx hb dX5_hide_5 rfl (lv_at hl 0 rfl) ?_
    refine va_get (ci := 5) (v := .ref hS9) (C := RX5) (T := TX5) (N := 9) hx hb hts hin5 hown hK hP 0 rfl rfl 0 (by decide) (hts (.fieldLink RX5 12 "UpAllRound" "now" "LUpAllRound$Stair;") (List.mem_of_getElem? (i := 1) rfl)) (fun _ h9 => h9) hU0 dX5_hide_6 ?_
    refine lv_iload_n hx hb dX5_hide_9 rfl (lv_at hl 1 rfl) ?_
    refine zcsE (va_runVN (As := [.int step]) (rest := []) ⟨hx, hb, hml, hown, hts⟩ (c_X3_hasStep l D cI cJ hS9 [.int (nI n), .ref hr9, .int (S 2), .int (S 0), .int (nI k), .ref hk, .ref hm, .ref hp, .ref hh, .ref hw, .ref hv, .int (S 3), .ref ht, .int (S 4), .ref hq, .int (S 5)] n step (by first | rfl | assumption | omega) (by first | rfl | assumption | omega) s.heap.size) ⟨va_cnB 1 hts gX5_hide_X3_hasStep_n74 rfl rfl rfl (hN (.methodLinkNest "UpAllRound" 74 yX3_hasStep "UpAllRound") (List.mem_of_getElem? (i := 30) rfl)) (hts (.initialized RX3) (List.mem_of_getElem? (i := 3) rfl)) (by decide +kernel) ⟨Nat.le_of_ble_eq_true rfl, Nat.le_of_ble_eq_true rfl⟩, (hts (.instanceMethod yX3_hasStep) (List.mem_of_getElem? (i := 2) rfl)), (hts (.selects RX3 yX3_hasStep yX3_hasStep) (List.mem_of_getElem? (i := 4) rfl))⟩ (zpV hK hN hZ hP hD hS hA [1] rfl (by decide) 1 rfl rfl rfl) rfl rfl hl.1 rfl (lv_room (Nat.le_of_ble_eq_true rfl)) dX5_hide_10 ⟨Nat.zero_le _, Nat.zero_le _⟩) ?_
    refine lv_if_ne (tgt := 22) hx hb dX5_hide_13 (by decide) (fun c13_2 => ?_) (fun c13_2 => ?_)
    · have c13_2 := bI_n0.mp c13_2
      refine lv_aload_n hx hb dX5_hide_22 rfl (lv_at hl 0 rfl) ?_
      refine va_get (ci := 5) (v := .ref hS9) (C := RX5) (T := TX5) (N := 9) hx hb hts hin5 hown hK hP 0 rfl rfl 0 (by decide) (hts (.fieldLink RX5 12 "UpAllRound" "now" "LUpAllRound$Stair;") (List.mem_of_getElem? (i := 1) rfl)) (fun _ h9 => h9) hU0 dX5_hide_23 ?_
      refine va_getN (ci := 3) (v := .int (S 2)) (C := RX3) (T := TX3) (N := 16) hx hb hts hin3 hown hK hP 1 rfl rfl 2 (by decide) (va_Nw.use rfl (hN (.fieldLinkNest "UpAllRound" 81 "UpAllRound$Stair" "none" "I" "UpAllRound") (List.mem_of_getElem? (i := 2) rfl))) (fun _ h9 => h9) rfl dX5_hide_26 ?_
      refine lv_istore_n (lv' := [(2, .int (S 2)), (0, .ref h), (1, .int step)]) hx hb dX5_hide_29 rfl hl (by decide) rfl (fun ls hl => ?_)
      refine lv_aload_n hx hb dX5_hide_30 rfl (lv_at hl 1 rfl) ?_
      refine va_get (ci := 5) (v := .ref hS9) (C := RX5) (T := TX5) (N := 9) hx hb hts hin5 hown hK hP 0 rfl rfl 0 (by decide) (hts (.fieldLink RX5 12 "UpAllRound" "now" "LUpAllRound$Stair;") (List.mem_of_getElem? (i := 1) rfl)) (fun _ h9 => h9) hU0 dX5_hide_31 ?_
      refine lv_iload_n hx hb dX5_hide_34 rfl (lv_at hl 2 rfl) ?_
      refine va_putN (ci := 3) (v := .int step) (ty := .int) (C := RX3) (T := TX3) (N := 16) hx hb hts hin3 tyX3 tyX3_ok nmX3 hown hK hP hD hS 1 rfl rfl 2 (by decide) (va_Nw.use rfl (hN (.fieldLinkNest "UpAllRound" 81 "UpAllRound$Stair" "none" "I" "UpAllRound") (List.mem_of_getElem? (i := 2) rfl))) (fun _ h9 => h9) rfl (by decide +kernel) rfl rfl (Nat.le_of_ble_eq_true rfl) dX5_hide_35 (fun H locs hP hD hS => ?_)
      have hP : va_P D vwCl [(h, .inr (5, fs)), (hS9, .inr (3, [.int (nI n), .ref hr9, .int step, .int (S 0), .int (nI k), .ref hk, .ref hm, .ref hp, .ref hh, .ref hw, .ref hv, .int (S 3), .ref ht, .int (S 4), .ref hq, .int (S 5)])), (hE, .inl (cI, 7, .inl E))] H := hP
      have hD : va_D AA [(h, .inr (5, fs)), (hS9, .inr (3, [.int (nI n), .ref hr9, .int step, .int (S 0), .int (nI k), .ref hk, .ref hm, .ref hp, .ref hh, .ref hw, .ref hv, .int (S 3), .ref ht, .int (S 4), .ref hq, .int (S 5)])), (hE, .inl (cI, 7, .inl E))] := hD
      refine lv_iload_n hx hb dX5_hide_38 rfl (lv_at hl 0 rfl) ?_
      exact hret hP hD hS dX5_hide_39 rfl (by rw [show zo_hide S E n k step = (S 2, upd S 2 step, E) from by rw [zo_hide, if_pos (by first | exact Or.inl (by assumption) | exact Or.inr (by assumption))] <;> rfl]; exact ⟨rfl, rfl⟩)
    · have c13_2 := bI_0.mp c13_2
      refine lv_aload_n hx hb dX5_hide_16 rfl (lv_at hl 0 rfl) ?_
      refine lv_iconst (v := nI 1) hx hb dX5_hide_17 (by decide) ?_
      refine zci (wr := [(hS9, .inr (3, [.int (nI n), .ref hr9, .int (S 2), .int (S 0), .int (nI k), .ref hk, .ref hm, .ref hp, .ref hh, .ref hw, .ref hv, .int (S 3), .ref ht, .int (S 4), .ref hq, .int (S 5)]))]) (va_runV (As := [.int (nI 1)]) (rest := []) ⟨hx, hb, hml, hown, hts⟩ (c_X5_refuse l D cI cJ h hE fs E 1 (by first | rfl | assumption | omega) (by first | rfl | assumption | omega) s.heap.size) (cwV 1 hts gX5_hide_X5_refuse rfl rfl rfl (by decide +kernel) ⟨Nat.le_of_ble_eq_true rfl, Nat.le_of_ble_eq_true rfl⟩) (zpV hK hN hZ hP hD hS hA [0, 2] rfl (by decide) 0 rfl rfl rfl) rfl rfl hl.1 rfl (lv_room (Nat.le_of_ble_eq_true rfl)) dX5_hide_18 ⟨Nat.zero_le _, Nat.zero_le _⟩) hP hD hS hA [0, 2] [1] rfl rfl (by decide) (by decide) (fun r_5 w_4 H locs h_3 hP hD hS => ?_)
      obtain ⟨rfl, rfl⟩ := h_3
      have hP : va_P D vwCl [(hS9, .inr (3, [.int (nI n), .ref hr9, .int (S 2), .int (S 0), .int (nI k), .ref hk, .ref hm, .ref hp, .ref hh, .ref hw, .ref hv, .int (S 3), .ref ht, .int (S 4), .ref hq, .int (S 5)])), (h, .inr (5, fs)), (hE, .inl (cI, 7, .inl (upd E 1 (E 1 + nI 1))))] H := hP
      have hD : va_D AA [(hS9, .inr (3, [.int (nI n), .ref hr9, .int (S 2), .int (S 0), .int (nI k), .ref hk, .ref hm, .ref hp, .ref hh, .ref hw, .ref hv, .int (S 3), .ref ht, .int (S 4), .ref hq, .int (S 5)])), (h, .inr (5, fs)), (hE, .inl (cI, 7, .inl (upd E 1 (E 1 + nI 1))))] := hD
      have hP := hP.sub (ws' := [(h, .inr (5, fs)), (hS9, .inr (3, [.int (nI n), .ref hr9, .int (S 2), .int (S 0), .int (nI k), .ref hk, .ref hm, .ref hp, .ref hh, .ref hw, .ref hv, .int (S 3), .ref ht, .int (S 4), .ref hq, .int (S 5)])), (hE, .inl (cI, 7, .inl (upd E 1 (E 1 + nI 1))))]) [1, 0, 2] rfl
      have hD := hD.sub (ws' := [(h, .inr (5, fs)), (hS9, .inr (3, [.int (nI n), .ref hr9, .int (S 2), .int (S 0), .int (nI k), .ref hk, .ref hm, .ref hp, .ref hh, .ref hw, .ref hv, .int (S 3), .ref ht, .int (S 4), .ref hq, .int (S 5)])), (hE, .inl (cI, 7, .inl (upd E 1 (E 1 + nI 1))))]) [1, 0, 2] (by decide) rfl
      exact hret hP hD hS dX5_hide_21 rfl (by rw [show zo_hide S E n k step = zerrE 1 S E from by rw [zo_hide, if_neg (by intro h9; rcases h9 with h9 | h9 <;> exact absurd h9 (by assumption))] <;> rfl]; exact ⟨rfl, rfl⟩)
def zo_carry (S E : Nat → Int32) (n k : Nat) (climber : Int32) (v : Int32) : zOut := if zin climber k ∧ zin v n then (S (8 + 4 * climber.toNatClampNeg + 2), upd S (8 + 4 * climber.toNatClampNeg + 2) v, E) else zerrE 1 S E
set_option maxHeartbeats 4000000 in
set_option maxRecDepth 100000 in
theorem c_X6_carry (l : Launch) (D : va_G) (cI cJ : ClassId) (h : Nat) (hs : Nat) (hE : Nat) (fs : List Value) (S : Nat → Int32) (E : Nat → Int32) (n : Nat) (k : Nat) (climber : Int32) (v : Int32) (hf0 : fs[0]? = some (.ref hs)) (hf4 : fs[4]? = some (.ref hE)) (hn1 : S 1 = nI n) (hk6 : S 6 = nI k) (hn4 : 4 ≤ n) (hn14 : n ≤ 14) (hkle : k ≤ 6) : zMi l yX6_carry wsX6_carry ({ frames := 2, cells := 0, slots := 0, locals := 43 } : Room) D [(cI, .int), (cJ, .array .int)] [.ref h, .int climber, .int v] [(h, .inr (6, fs)), (hs, .inl (cI, 380, .inl S)), (hE, .inl (cI, 7, .inl E))] (fun r w => r = (zo_carry S E n k climber v).1 ∧ w = [(h, .inr (6, fs)), (hs, .inl (cI, 380, .inl ((zo_carry S E n k climber v).2.1))), (hE, .inl (cI, 7, .inl ((zo_carry S E n k climber v).2.2)))]) := by
  refine zMi.start (cc := cX6_carry) (maxL := 3) (rt := .int) (by first | decide | decide +kernel) rfl (Nat.le_of_ble_eq_true rfl) ?_
  intro pg ev s mt args below meth cd ls AA QQ ⟨hx, hb, hml, hr, hlocks, hown, hts, hK, hN, hZ, hP, hD, hA, hS, hl⟩ hret
  have hown : s.vm.findClass RX6 = some mt.cls := hown
  have hl : lv_has ls 3 [(0, .ref h), (1, .int climber), (2, .int v)] := hl
  have hin6 : ∀ w ∈ wsX60, w ∈ wsX6_carry := fun w h => List.mem_cons_of_mem _ (List.mem_append_right _ (h))
  refine lv_aload_n hx hb dX6_carry_0 rfl (lv_at hl 0 rfl) ?_
  refine lv_iload_n hx hb dX6_carry_1 rfl (lv_at hl 1 rfl) ?_
  refine zcsE (va_runV (As := [.int climber]) (rest := []) ⟨hx, hb, hml, hown, hts⟩ (c_X6_isClimber l D cI cJ h hs fs S k climber (by first | rfl | assumption | omega) (by first | rfl | assumption | omega) (by first | rfl | assumption | omega) s.heap.size) (cwV 1 hts gX6_carry_X6_isClimber rfl rfl rfl (by decide +kernel) ⟨Nat.le_of_ble_eq_true rfl, Nat.le_of_ble_eq_true rfl⟩) (zpV hK hN hZ hP hD hS hA [0, 1] rfl (by decide) 0 rfl rfl rfl) rfl rfl hl.1 rfl (lv_room (Nat.le_of_ble_eq_true rfl)) dX6_carry_2 ⟨Nat.zero_le _, Nat.zero_le _⟩) ?_
  refine lv_if_eq (tgt := 32) hx hb dX6_carry_5 (by decide) (fun c5_1 => ?_) (fun c5_1 => ?_)
  · have c5_1 := bI_0.mp c5_1
    refine lv_aload_n hx hb dX6_carry_32 rfl (lv_at hl 0 rfl) ?_
    refine lv_iconst (v := nI 1) hx hb dX6_carry_33 (by decide) ?_
    refine zci (wr := [(hs, .inl (cI, 380, .inl S))]) (va_runV (As := [.int (nI 1)]) (rest := []) ⟨hx, hb, hml, hown, hts⟩ (c_X6_error l D cI cJ h hE fs E 1 (by first | rfl | assumption | omega) (by first | rfl | assumption | omega) s.heap.size) (cwV 1 hts gX6_carry_X6_error rfl rfl rfl (by decide +kernel) ⟨Nat.le_of_ble_eq_true rfl, Nat.le_of_ble_eq_true rfl⟩) (zpV hK hN hZ hP hD hS hA [0, 2] rfl (by decide) 0 rfl rfl rfl) rfl rfl hl.1 rfl (lv_room (Nat.le_of_ble_eq_true rfl)) dX6_carry_34 ⟨Nat.zero_le _, Nat.zero_le _⟩) hP hD hS hA [0, 2] [1] rfl rfl (by decide) (by decide) (fun r_4 w_3 H locs h_2 hP hD hS => ?_)
    obtain ⟨rfl, rfl⟩ := h_2
    have hP : va_P D vwCl [(hs, .inl (cI, 380, .inl S)), (h, .inr (6, fs)), (hE, .inl (cI, 7, .inl (upd E 1 (E 1 + nI 1))))] H := hP
    have hD : va_D AA [(hs, .inl (cI, 380, .inl S)), (h, .inr (6, fs)), (hE, .inl (cI, 7, .inl (upd E 1 (E 1 + nI 1))))] := hD
    have hP := hP.sub (ws' := [(h, .inr (6, fs)), (hs, .inl (cI, 380, .inl S)), (hE, .inl (cI, 7, .inl (upd E 1 (E 1 + nI 1))))]) [1, 0, 2] rfl
    have hD := hD.sub (ws' := [(h, .inr (6, fs)), (hs, .inl (cI, 380, .inl S)), (hE, .inl (cI, 7, .inl (upd E 1 (E 1 + nI 1))))]) [1, 0, 2] (by decide) rfl
    exact hret hP hD hS dX6_carry_37 rfl (by rw [show zo_carry S E n k climber v = zerrE 1 S E from by rw [zo_carry, if_neg (by intro h9; first | exact absurd h9.1 (by assumption) | exact absurd h9.2 (by assumption))] <;> rfl]; exact ⟨rfl, rfl⟩)
  · have c5_1 := bI_n0.mp c5_1
    obtain ⟨j, h_j, rfl⟩ := zin_of c5_1 (by omega)
    refine lv_aload_n hx hb dX6_carry_8 rfl (lv_at hl 0 rfl) ?_
    refine lv_iload_n hx hb dX6_carry_9 rfl (lv_at hl 2 rfl) ?_
    refine zcsE (va_runV (As := [.int v]) (rest := []) ⟨hx, hb, hml, hown, hts⟩ (c_X6_isStep l D cI cJ h hs fs S n v (by first | rfl | assumption | omega) (by first | rfl | assumption | omega) (by first | rfl | assumption | omega) s.heap.size) (cwV 1 hts gX6_carry_X6_isStep rfl rfl rfl (by decide +kernel) ⟨Nat.le_of_ble_eq_true rfl, Nat.le_of_ble_eq_true rfl⟩) (zpV hK hN hZ hP hD hS hA [0, 1] rfl (by decide) 0 rfl rfl rfl) rfl rfl hl.1 rfl (lv_room (Nat.le_of_ble_eq_true rfl)) dX6_carry_10 ⟨Nat.zero_le _, Nat.zero_le _⟩) ?_
    refine lv_if_eq (tgt := 32) hx hb dX6_carry_13 (by decide) (fun c13_5 => ?_) (fun c13_5 => ?_)
    · have c13_5 := bI_0.mp c13_5
      refine lv_aload_n hx hb dX6_carry_32 rfl (lv_at hl 0 rfl) ?_
      refine lv_iconst (v := nI 1) hx hb dX6_carry_33 (by decide) ?_
      refine zci (wr := [(hs, .inl (cI, 380, .inl S))]) (va_runV (As := [.int (nI 1)]) (rest := []) ⟨hx, hb, hml, hown, hts⟩ (c_X6_error l D cI cJ h hE fs E 1 (by first | rfl | assumption | omega) (by first | rfl | assumption | omega) s.heap.size) (cwV 1 hts gX6_carry_X6_error rfl rfl rfl (by decide +kernel) ⟨Nat.le_of_ble_eq_true rfl, Nat.le_of_ble_eq_true rfl⟩) (zpV hK hN hZ hP hD hS hA [0, 2] rfl (by decide) 0 rfl rfl rfl) rfl rfl hl.1 rfl (lv_room (Nat.le_of_ble_eq_true rfl)) dX6_carry_34 ⟨Nat.zero_le _, Nat.zero_le _⟩) hP hD hS hA [0, 2] [1] rfl rfl (by decide) (by decide) (fun r_8 w_7 H locs h_6 hP hD hS => ?_)
      obtain ⟨rfl, rfl⟩ := h_6
      have hP : va_P D vwCl [(hs, .inl (cI, 380, .inl S)), (h, .inr (6, fs)), (hE, .inl (cI, 7, .inl (upd E 1 (E 1 + nI 1))))] H := hP
      have hD : va_D AA [(hs, .inl (cI, 380, .inl S)), (h, .inr (6, fs)), (hE, .inl (cI, 7, .inl (upd E 1 (E 1 + nI 1))))] := hD
      have hP := hP.sub (ws' := [(h, .inr (6, fs)), (hs, .inl (cI, 380, .inl S)), (hE, .inl (cI, 7, .inl (upd E 1 (E 1 + nI 1))))]) [1, 0, 2] rfl
      have hD := hD.sub (ws' := [(h, .inr (6, fs)), (hs, .inl (cI, 380, .inl S)), (hE, .inl (cI, 7, .inl (upd E 1 (E 1 + nI 1))))]) [1, 0, 2] (by decide) rfl
      exact hret hP hD hS dX6_carry_37 rfl (by rw [show zo_carry S E n k (nI j) v = zerrE 1 S E from by rw [zo_carry, if_neg (by intro h9; first | exact absurd h9.1 (by assumption) | exact absurd h9.2 (by assumption))] <;> rfl]; exact ⟨rfl, rfl⟩)
    · have c13_5 := bI_n0.mp c13_5
      refine lv_aload_n hx hb dX6_carry_16 rfl (lv_at hl 0 rfl) ?_
      refine lv_bipush (v := nI 8) hx hb dX6_carry_17 (by decide) ?_
      refine lv_iconst (v := nI 4) hx hb dX6_carry_19 (by decide) ?_
      refine lv_iload_n hx hb dX6_carry_20 rfl (lv_at hl 1 rfl) ?_
      refine lv_imul hx hb dX6_carry_21 ?_
      refine zrw (pk_mul _ _) ?_
      refine lv_iadd hx hb dX6_carry_22 ?_
      refine zrw (nI_add _ _) ?_
      refine lv_iconst (v := nI 2) hx hb dX6_carry_23 (by decide) ?_
      refine lv_iadd hx hb dX6_carry_24 ?_
      refine zrw (nI_add _ _) ?_
      refine lv_iload_n hx hb dX6_carry_25 rfl (lv_at hl 2 rfl) ?_
      refine zci (wr := [(hE, .inl (cI, 7, .inl E))]) (va_runV (As := [.int (nI ((8 + (4 * j)) + 2)), .int v]) (rest := []) ⟨hx, hb, hml, hown, hts⟩ (c_X6_change1 l D cI cJ h hs fs S ((8 + (4 * j)) + 2) v (by first | rfl | assumption | omega) (by first | rfl | assumption | omega) s.heap.size) (cwV 2 hts gX6_carry_X6_change1 rfl rfl rfl (by decide +kernel) ⟨Nat.le_of_ble_eq_true rfl, Nat.le_of_ble_eq_true rfl⟩) (zpV hK hN hZ hP hD hS hA [0, 1] rfl (by decide) 0 rfl rfl rfl) rfl rfl hl.1 rfl (lv_room (Nat.le_of_ble_eq_true rfl)) dX6_carry_26 ⟨Nat.zero_le _, Nat.zero_le _⟩) hP hD hS hA [0, 1] [2] rfl rfl (by decide) (by decide) (fun r_11 w_10 H locs h_9 hP hD hS => ?_)
      obtain ⟨rfl, rfl⟩ := h_9
      have hP : va_P D vwCl [(hE, .inl (cI, 7, .inl E)), (h, .inr (6, fs)), (hs, .inl (cI, 380, .inl (upd S ((8 + (4 * j)) + 2) v)))] H := hP
      have hD : va_D AA [(hE, .inl (cI, 7, .inl E)), (h, .inr (6, fs)), (hs, .inl (cI, 380, .inl (upd S ((8 + (4 * j)) + 2) v)))] := hD
      refine lv_goto (tgt := 37) hx hb dX6_carry_29 (by decide) ?_
      have hP := hP.sub (ws' := [(h, .inr (6, fs)), (hs, .inl (cI, 380, .inl (upd S ((8 + (4 * j)) + 2) v))), (hE, .inl (cI, 7, .inl E))]) [1, 2, 0] rfl
      have hD := hD.sub (ws' := [(h, .inr (6, fs)), (hs, .inl (cI, 380, .inl (upd S ((8 + (4 * j)) + 2) v))), (hE, .inl (cI, 7, .inl E))]) [1, 2, 0] (by decide) rfl
      exact hret hP hD hS dX6_carry_37 rfl (by rw [show zo_carry S E n k (nI j) v = (S (8 + 4 * j + 2), upd S (8 + 4 * j + 2) v, E) from by rw [zo_carry, if_pos ⟨by assumption, by assumption⟩, nI_clamp (show j < 2147483648 by omega)] <;> rfl]; exact ⟨rfl, rfl⟩)
set_option maxHeartbeats 4000000 in
set_option maxRecDepth 100000 in
theorem c_X5_carry (l : Launch) (D : va_G) (cI cJ : ClassId) (h : Nat) (hE : Nat) (hS9 : Nat) (fs : List Value) (S : Nat → Int32) (E : Nat → Int32) (n : Nat) (k : Nat) (ft : List Value) (hp : Nat) (climber : Int32) (v : Int32) (hU0 : fs[0]? = some (.ref hS9)) (hU7 : fs[7]? = some (.ref hE)) (hn1 : S 1 = nI n) (hk6 : S 6 = nI k) (hn4 : 4 ≤ n) (hn14 : n ≤ 14) (hkle : k ≤ 6) (hft0 : ft[0]? = some (.int (nI n))) (hft4 : ft[4]? = some (.int (nI k))) (hft7 : ft[7]? = some (.ref hp)) : zMi l yX5_carry wsX5_carry ({ frames := 1, cells := 0, slots := 0, locals := 21 } : Room) D [(cI, .int), (cJ, .array .int)] [.ref h, .int climber, .int v] [(h, .inr (5, fs)), (hS9, .inr (3, ft)), (hp, .inl (cI, 6, .inl ((fun c => S (8 + 4 * c + 2))))), (hE, .inl (cI, 7, .inl E))] (fun r w => r = (zo_carry S E n k climber v).1 ∧ w = [(h, .inr (5, fs)), (hS9, .inr (3, ft)), (hp, .inl (cI, 6, .inl ((fun c => (zo_carry S E n k climber v).2.1 (8 + 4 * c + 2))))), (hE, .inl (cI, 7, .inl ((zo_carry S E n k climber v).2.2)))]) := by
  refine zMi.start (cc := cX5_carry) (maxL := 4) (rt := .int) (by first | decide | decide +kernel) rfl (Nat.le_of_ble_eq_true rfl) ?_
  intro pg ev s mt args below meth cd ls AA QQ ⟨hx, hb, hml, hr, hlocks, hown, hts, hK, hN, hZ, hP, hD, hA, hS, hl⟩ hret
  have hown : s.vm.findClass RX5 = some mt.cls := hown
  have hl : lv_has ls 4 [(0, .ref h), (1, .int climber), (2, .int v)] := hl
  have hin3 : ∀ w ∈ wsX30, w ∈ wsX5_carry := fun w h => List.mem_cons_of_mem _ (List.mem_append_right _ (h))
  have hin5 : ∀ w ∈ wsX50, w ∈ wsX5_carry := fun w h => List.mem_cons_of_mem _ (List.mem_append_left _ (List.mem_append_right _ (h)))
  refine lv_aload_n hx hb dX5_carry_0 rfl (lv_at hl 0 rfl) ?_
  refine va_get (ci := 5) (v := .ref hS9) (C := RX5) (T := TX5) (N := 9) hx hb hts hin5 hown hK hP 0 rfl rfl 0 (by decide) (hts (.fieldLink RX5 12 "UpAllRound" "now" "LUpAllRound$Stair;") (List.mem_of_getElem? (i := 1) rfl)) (fun _ h9 => h9) hU0 dX5_carry_1 ?_
  refine lv_iload_n hx hb dX5_carry_4 rfl (lv_at hl 1 rfl) ?_
  refine zcsE (va_runVN (As := [.int climber]) (rest := []) ⟨hx, hb, hml, hown, hts⟩ (c_X3_hasClimber l D cI cJ hS9 ft k climber (by first | rfl | assumption | omega) (by first | rfl | assumption | omega) s.heap.size) ⟨va_cnB 1 hts gX5_carry_X3_hasClimber_n91 rfl rfl rfl (hN (.methodLinkNest "UpAllRound" 91 yX3_hasClimber "UpAllRound") (List.mem_of_getElem? (i := 33) rfl)) (hts (.initialized RX3) (List.mem_of_getElem? (i := 3) rfl)) (by decide +kernel) ⟨Nat.le_of_ble_eq_true rfl, Nat.le_of_ble_eq_true rfl⟩, (hts (.instanceMethod yX3_hasClimber) (List.mem_of_getElem? (i := 2) rfl)), (hts (.selects RX3 yX3_hasClimber yX3_hasClimber) (List.mem_of_getElem? (i := 4) rfl))⟩ (zpV hK hN hZ hP hD hS hA [1] rfl (by decide) 1 rfl rfl rfl) rfl rfl hl.1 rfl (lv_room (Nat.le_of_ble_eq_true rfl)) dX5_carry_5 ⟨Nat.zero_le _, Nat.zero_le _⟩) ?_
  refine lv_if_eq (tgt := 22) hx hb dX5_carry_8 (by decide) (fun c8_1 => ?_) (fun c8_1 => ?_)
  · have c8_1 := bI_0.mp c8_1
    refine lv_aload_n hx hb dX5_carry_22 rfl (lv_at hl 0 rfl) ?_
    refine lv_iconst (v := nI 1) hx hb dX5_carry_23 (by decide) ?_
    refine zci (wr := [(hS9, .inr (3, ft)), (hp, .inl (cI, 6, .inl ((fun c => S (8 + 4 * c + 2)))))]) (va_runV (As := [.int (nI 1)]) (rest := []) ⟨hx, hb, hml, hown, hts⟩ (c_X5_refuse l D cI cJ h hE fs E 1 (by first | rfl | assumption | omega) (by first | rfl | assumption | omega) s.heap.size) (cwV 1 hts gX5_carry_X5_refuse rfl rfl rfl (by decide +kernel) ⟨Nat.le_of_ble_eq_true rfl, Nat.le_of_ble_eq_true rfl⟩) (zpV hK hN hZ hP hD hS hA [0, 3] rfl (by decide) 0 rfl rfl rfl) rfl rfl hl.1 rfl (lv_room (Nat.le_of_ble_eq_true rfl)) dX5_carry_24 ⟨Nat.zero_le _, Nat.zero_le _⟩) hP hD hS hA [0, 3] [1, 2] rfl rfl (by decide) (by decide) (fun r_4 w_3 H locs h_2 hP hD hS => ?_)
    obtain ⟨rfl, rfl⟩ := h_2
    have hP : va_P D vwCl [(hS9, .inr (3, ft)), (hp, .inl (cI, 6, .inl ((fun c => S (8 + 4 * c + 2))))), (h, .inr (5, fs)), (hE, .inl (cI, 7, .inl (upd E 1 (E 1 + nI 1))))] H := hP
    have hD : va_D AA [(hS9, .inr (3, ft)), (hp, .inl (cI, 6, .inl ((fun c => S (8 + 4 * c + 2))))), (h, .inr (5, fs)), (hE, .inl (cI, 7, .inl (upd E 1 (E 1 + nI 1))))] := hD
    have hP := hP.sub (ws' := [(h, .inr (5, fs)), (hS9, .inr (3, ft)), (hp, .inl (cI, 6, .inl ((fun c => S (8 + 4 * c + 2))))), (hE, .inl (cI, 7, .inl (upd E 1 (E 1 + nI 1))))]) [2, 0, 1, 3] rfl
    have hD := hD.sub (ws' := [(h, .inr (5, fs)), (hS9, .inr (3, ft)), (hp, .inl (cI, 6, .inl ((fun c => S (8 + 4 * c + 2))))), (hE, .inl (cI, 7, .inl (upd E 1 (E 1 + nI 1))))]) [2, 0, 1, 3] (by decide) rfl
    exact hret hP hD hS dX5_carry_27 rfl (by rw [show zo_carry S E n k climber v = zerrE 1 S E from by rw [zo_carry, if_neg (by intro h9; first | exact absurd h9.1 (by assumption) | exact absurd h9.2 (by assumption))] <;> rfl]; exact ⟨rfl, rfl⟩)
  · have c8_1 := bI_n0.mp c8_1
    obtain ⟨j, h_j, rfl⟩ := zin_of c8_1 (by omega)
    refine lv_aload_n hx hb dX5_carry_11 rfl (lv_at hl 0 rfl) ?_
    refine va_get (ci := 5) (v := .ref hS9) (C := RX5) (T := TX5) (N := 9) hx hb hts hin5 hown hK hP 0 rfl rfl 0 (by decide) (hts (.fieldLink RX5 12 "UpAllRound" "now" "LUpAllRound$Stair;") (List.mem_of_getElem? (i := 1) rfl)) (fun _ h9 => h9) hU0 dX5_carry_12 ?_
    refine lv_iload_n hx hb dX5_carry_15 rfl (lv_at hl 2 rfl) ?_
    refine zcsE (va_runVN (As := [.int v]) (rest := []) ⟨hx, hb, hml, hown, hts⟩ (c_X3_hasStep l D cI cJ hS9 ft n v (by first | rfl | assumption | omega) (by first | rfl | assumption | omega) s.heap.size) ⟨va_cnB 1 hts gX5_carry_X3_hasStep_n74 rfl rfl rfl (hN (.methodLinkNest "UpAllRound" 74 yX3_hasStep "UpAllRound") (List.mem_of_getElem? (i := 30) rfl)) (hts (.initialized RX3) (List.mem_of_getElem? (i := 3) rfl)) (by decide +kernel) ⟨Nat.le_of_ble_eq_true rfl, Nat.le_of_ble_eq_true rfl⟩, (hts (.instanceMethod yX3_hasStep) (List.mem_of_getElem? (i := 7) rfl)), (hts (.selects RX3 yX3_hasStep yX3_hasStep) (List.mem_of_getElem? (i := 8) rfl))⟩ (zpV hK hN hZ hP hD hS hA [1] rfl (by decide) 1 rfl rfl rfl) rfl rfl hl.1 rfl (lv_room (Nat.le_of_ble_eq_true rfl)) dX5_carry_16 ⟨Nat.zero_le _, Nat.zero_le _⟩) ?_
    refine lv_if_ne (tgt := 28) hx hb dX5_carry_19 (by decide) (fun c19_5 => ?_) (fun c19_5 => ?_)
    · have c19_5 := bI_n0.mp c19_5
      refine lv_aload_n hx hb dX5_carry_28 rfl (lv_at hl 0 rfl) ?_
      refine va_get (ci := 5) (v := .ref hS9) (C := RX5) (T := TX5) (N := 9) hx hb hts hin5 hown hK hP 0 rfl rfl 0 (by decide) (hts (.fieldLink RX5 12 "UpAllRound" "now" "LUpAllRound$Stair;") (List.mem_of_getElem? (i := 1) rfl)) (fun _ h9 => h9) hU0 dX5_carry_29 ?_
      refine va_getN (ci := 3) (v := .ref hp) (C := RX3) (T := TX3) (N := 16) hx hb hts hin3 hown hK hP 1 rfl rfl 7 (by decide) (va_Nw.use rfl (hN (.fieldLinkNest "UpAllRound" 100 "UpAllRound$Stair" "places" "[I" "UpAllRound") (List.mem_of_getElem? (i := 7) rfl))) (fun _ h9 => h9) hft7 dX5_carry_32 ?_
      refine lv_iload_n hx hb dX5_carry_35 rfl (lv_at hl 1 rfl) ?_
      refine zald (t := j) hx hb hK hP 2 rfl (by omega) (by decide) dX5_carry_36 ?_
      refine lv_istore_n (lv' := [(3, .int (((fun c => S (8 + 4 * c + 2))) j)), (0, .ref h), (1, .int (nI j)), (2, .int v)]) hx hb dX5_carry_37 rfl hl (by decide) rfl (fun ls hl => ?_)
      refine lv_aload_n hx hb dX5_carry_38 rfl (lv_at hl 1 rfl) ?_
      refine va_get (ci := 5) (v := .ref hS9) (C := RX5) (T := TX5) (N := 9) hx hb hts hin5 hown hK hP 0 rfl rfl 0 (by decide) (hts (.fieldLink RX5 12 "UpAllRound" "now" "LUpAllRound$Stair;") (List.mem_of_getElem? (i := 1) rfl)) (fun _ h9 => h9) hU0 dX5_carry_39 ?_
      refine va_getN (ci := 3) (v := .ref hp) (C := RX3) (T := TX3) (N := 16) hx hb hts hin3 hown hK hP 1 rfl rfl 7 (by decide) (va_Nw.use rfl (hN (.fieldLinkNest "UpAllRound" 100 "UpAllRound$Stair" "places" "[I" "UpAllRound") (List.mem_of_getElem? (i := 7) rfl))) (fun _ h9 => h9) hft7 dX5_carry_42 ?_
      refine lv_iload_n hx hb dX5_carry_45 rfl (lv_at hl 2 rfl) ?_
      refine lv_iload_n hx hb dX5_carry_46 rfl (lv_at hl 3 rfl) ?_
      refine zast (t := j) hx hb hK hP hD hS 2 rfl (by omega) (by decide) dX5_carry_47 (fun H locs hP hD hS => ?_)
      have hP : va_P D vwCl [(h, .inr (5, fs)), (hS9, .inr (3, ft)), (hp, .inl (cI, 6, .inl (upd ((fun c => S (8 + 4 * c + 2))) j v))), (hE, .inl (cI, 7, .inl E))] H := hP
      have hD : va_D AA [(h, .inr (5, fs)), (hS9, .inr (3, ft)), (hp, .inl (cI, 6, .inl (upd ((fun c => S (8 + 4 * c + 2))) j v))), (hE, .inl (cI, 7, .inl E))] := hD
      refine lv_iload_n hx hb dX5_carry_48 rfl (lv_at hl 0 rfl) ?_
      exact hret hP hD hS dX5_carry_49 rfl (by rw [show zo_carry S E n k (nI j) v = (S (8 + 4 * j + 2), upd S (8 + 4 * j + 2) v, E) from by rw [zo_carry, if_pos ⟨by assumption, by assumption⟩, nI_clamp (show j < 2147483648 by omega)] <;> rfl]; exact ⟨rfl, by rw [zpr_k]⟩)
    · have c19_5 := bI_0.mp c19_5
      refine lv_aload_n hx hb dX5_carry_22 rfl (lv_at hl 0 rfl) ?_
      refine lv_iconst (v := nI 1) hx hb dX5_carry_23 (by decide) ?_
      refine zci (wr := [(hS9, .inr (3, ft)), (hp, .inl (cI, 6, .inl ((fun c => S (8 + 4 * c + 2)))))]) (va_runV (As := [.int (nI 1)]) (rest := []) ⟨hx, hb, hml, hown, hts⟩ (c_X5_refuse l D cI cJ h hE fs E 1 (by first | rfl | assumption | omega) (by first | rfl | assumption | omega) s.heap.size) (cwV 1 hts gX5_carry_X5_refuse rfl rfl rfl (by decide +kernel) ⟨Nat.le_of_ble_eq_true rfl, Nat.le_of_ble_eq_true rfl⟩) (zpV hK hN hZ hP hD hS hA [0, 3] rfl (by decide) 0 rfl rfl rfl) rfl rfl hl.1 rfl (lv_room (Nat.le_of_ble_eq_true rfl)) dX5_carry_24 ⟨Nat.zero_le _, Nat.zero_le _⟩) hP hD hS hA [0, 3] [1, 2] rfl rfl (by decide) (by decide) (fun r_8 w_7 H locs h_6 hP hD hS => ?_)
      obtain ⟨rfl, rfl⟩ := h_6
      have hP : va_P D vwCl [(hS9, .inr (3, ft)), (hp, .inl (cI, 6, .inl ((fun c => S (8 + 4 * c + 2))))), (h, .inr (5, fs)), (hE, .inl (cI, 7, .inl (upd E 1 (E 1 + nI 1))))] H := hP
      have hD : va_D AA [(hS9, .inr (3, ft)), (hp, .inl (cI, 6, .inl ((fun c => S (8 + 4 * c + 2))))), (h, .inr (5, fs)), (hE, .inl (cI, 7, .inl (upd E 1 (E 1 + nI 1))))] := hD
      have hP := hP.sub (ws' := [(h, .inr (5, fs)), (hS9, .inr (3, ft)), (hp, .inl (cI, 6, .inl ((fun c => S (8 + 4 * c + 2))))), (hE, .inl (cI, 7, .inl (upd E 1 (E 1 + nI 1))))]) [2, 0, 1, 3] rfl
      have hD := hD.sub (ws' := [(h, .inr (5, fs)), (hS9, .inr (3, ft)), (hp, .inl (cI, 6, .inl ((fun c => S (8 + 4 * c + 2))))), (hE, .inl (cI, 7, .inl (upd E 1 (E 1 + nI 1))))]) [2, 0, 1, 3] (by decide) rfl
      exact hret hP hD hS dX5_carry_27 rfl (by rw [show zo_carry S E n k (nI j) v = zerrE 1 S E from by rw [zo_carry, if_neg (by intro h9; first | exact absurd h9.1 (by assumption) | exact absurd h9.2 (by assumption))] <;> rfl]; exact ⟨rfl, rfl⟩)
def zo_height (S E : Nat → Int32) (n k : Nat) (climber : Int32) (v : Int32) : zOut := if zin climber k ∧ zrg (-9999) 9999 v then (S (8 + 4 * climber.toNatClampNeg + 3), upd S (8 + 4 * climber.toNatClampNeg + 3) v, E) else zerrE 1 S E
set_option maxHeartbeats 4000000 in
set_option maxRecDepth 100000 in
theorem c_X6_height (l : Launch) (D : va_G) (cI cJ : ClassId) (h : Nat) (hs : Nat) (hE : Nat) (fs : List Value) (S : Nat → Int32) (E : Nat → Int32) (n : Nat) (k : Nat) (climber : Int32) (v : Int32) (hf0 : fs[0]? = some (.ref hs)) (hf4 : fs[4]? = some (.ref hE)) (hn1 : S 1 = nI n) (hk6 : S 6 = nI k) (hn4 : 4 ≤ n) (hn14 : n ≤ 14) (hkle : k ≤ 6) : zMi l yX6_height wsX6_height ({ frames := 2, cells := 0, slots := 0, locals := 43 } : Room) D [(cI, .int), (cJ, .array .int)] [.ref h, .int climber, .int v] [(h, .inr (6, fs)), (hs, .inl (cI, 380, .inl S)), (hE, .inl (cI, 7, .inl E))] (fun r w => r = (zo_height S E n k climber v).1 ∧ w = [(h, .inr (6, fs)), (hs, .inl (cI, 380, .inl ((zo_height S E n k climber v).2.1))), (hE, .inl (cI, 7, .inl ((zo_height S E n k climber v).2.2)))]) := by
  refine zMi.start (cc := cX6_height) (maxL := 3) (rt := .int) (by first | decide | decide +kernel) rfl (Nat.le_of_ble_eq_true rfl) ?_
  intro pg ev s mt args below meth cd ls AA QQ ⟨hx, hb, hml, hr, hlocks, hown, hts, hK, hN, hZ, hP, hD, hA, hS, hl⟩ hret
  have hown : s.vm.findClass RX6 = some mt.cls := hown
  have hl : lv_has ls 3 [(0, .ref h), (1, .int climber), (2, .int v)] := hl
  have hin6 : ∀ w ∈ wsX60, w ∈ wsX6_height := fun w h => List.mem_cons_of_mem _ (List.mem_append_right _ (h))
  refine lv_aload_n hx hb dX6_height_0 rfl (lv_at hl 0 rfl) ?_
  refine lv_iload_n hx hb dX6_height_1 rfl (lv_at hl 1 rfl) ?_
  refine zcsE (va_runV (As := [.int climber]) (rest := []) ⟨hx, hb, hml, hown, hts⟩ (c_X6_isClimber l D cI cJ h hs fs S k climber (by first | rfl | assumption | omega) (by first | rfl | assumption | omega) (by first | rfl | assumption | omega) s.heap.size) (cwV 1 hts gX6_height_X6_isClimber rfl rfl rfl (by decide +kernel) ⟨Nat.le_of_ble_eq_true rfl, Nat.le_of_ble_eq_true rfl⟩) (zpV hK hN hZ hP hD hS hA [0, 1] rfl (by decide) 0 rfl rfl rfl) rfl rfl hl.1 rfl (lv_room (Nat.le_of_ble_eq_true rfl)) dX6_height_2 ⟨Nat.zero_le _, Nat.zero_le _⟩) ?_
  refine lv_if_eq (tgt := 37) hx hb dX6_height_5 (by decide) (fun c5_1 => ?_) (fun c5_1 => ?_)
  · have c5_1 := bI_0.mp c5_1
    refine lv_aload_n hx hb dX6_height_37 rfl (lv_at hl 0 rfl) ?_
    refine lv_iconst (v := nI 1) hx hb dX6_height_38 (by decide) ?_
    refine zci (wr := [(hs, .inl (cI, 380, .inl S))]) (va_runV (As := [.int (nI 1)]) (rest := []) ⟨hx, hb, hml, hown, hts⟩ (c_X6_error l D cI cJ h hE fs E 1 (by first | rfl | assumption | omega) (by first | rfl | assumption | omega) s.heap.size) (cwV 1 hts gX6_height_X6_error rfl rfl rfl (by decide +kernel) ⟨Nat.le_of_ble_eq_true rfl, Nat.le_of_ble_eq_true rfl⟩) (zpV hK hN hZ hP hD hS hA [0, 2] rfl (by decide) 0 rfl rfl rfl) rfl rfl hl.1 rfl (lv_room (Nat.le_of_ble_eq_true rfl)) dX6_height_39 ⟨Nat.zero_le _, Nat.zero_le _⟩) hP hD hS hA [0, 2] [1] rfl rfl (by decide) (by decide) (fun r_4 w_3 H locs h_2 hP hD hS => ?_)
    obtain ⟨rfl, rfl⟩ := h_2
    have hP : va_P D vwCl [(hs, .inl (cI, 380, .inl S)), (h, .inr (6, fs)), (hE, .inl (cI, 7, .inl (upd E 1 (E 1 + nI 1))))] H := hP
    have hD : va_D AA [(hs, .inl (cI, 380, .inl S)), (h, .inr (6, fs)), (hE, .inl (cI, 7, .inl (upd E 1 (E 1 + nI 1))))] := hD
    have hP := hP.sub (ws' := [(h, .inr (6, fs)), (hs, .inl (cI, 380, .inl S)), (hE, .inl (cI, 7, .inl (upd E 1 (E 1 + nI 1))))]) [1, 0, 2] rfl
    have hD := hD.sub (ws' := [(h, .inr (6, fs)), (hs, .inl (cI, 380, .inl S)), (hE, .inl (cI, 7, .inl (upd E 1 (E 1 + nI 1))))]) [1, 0, 2] (by decide) rfl
    exact hret hP hD hS dX6_height_42 rfl (by rw [show zo_height S E n k climber v = zerrE 1 S E from by rw [zo_height, if_neg (by intro h9; first | exact absurd h9.1 (by assumption) | exact absurd h9.2 (by assumption))] <;> rfl]; exact ⟨rfl, rfl⟩)
  · have c5_1 := bI_n0.mp c5_1
    obtain ⟨j, h_j, rfl⟩ := zin_of c5_1 (by omega)
    refine lv_iload_n hx hb dX6_height_8 rfl (lv_at hl 2 rfl) ?_
    refine lv_sipush (v := (-9999)) hx hb dX6_height_9 (by decide) ?_
    refine lv_sipush (v := nI 9999) hx hb dX6_height_12 (by decide) ?_
    refine zcsE (va_runS (As := [.int v, .int ((-9999)), .int (nI 9999)]) (rest := []) ⟨hx, hb, hml, hown, hts⟩ (d_X6_in l D cI cJ v ((-9999)) (nI 9999) ((-9999)) 9999 (by decide) (by decide) s.heap.size) (va_cwS 3 hts gX6_height_X6_in rfl rfl rfl (by decide +kernel) ⟨Nat.le_of_ble_eq_true rfl, Nat.le_of_ble_eq_true rfl⟩) (zpS hK hN hZ hP hD hS hA [] rfl (by decide)) rfl rfl hl.1 rfl (lv_room (Nat.le_of_ble_eq_true rfl)) dX6_height_15 ⟨Nat.zero_le _, Nat.zero_le _⟩) ?_
    refine lv_if_eq (tgt := 37) hx hb dX6_height_18 (by decide) (fun c18_5 => ?_) (fun c18_5 => ?_)
    · have c18_5 := bI_0.mp c18_5
      refine lv_aload_n hx hb dX6_height_37 rfl (lv_at hl 0 rfl) ?_
      refine lv_iconst (v := nI 1) hx hb dX6_height_38 (by decide) ?_
      refine zci (wr := [(hs, .inl (cI, 380, .inl S))]) (va_runV (As := [.int (nI 1)]) (rest := []) ⟨hx, hb, hml, hown, hts⟩ (c_X6_error l D cI cJ h hE fs E 1 (by first | rfl | assumption | omega) (by first | rfl | assumption | omega) s.heap.size) (cwV 1 hts gX6_height_X6_error rfl rfl rfl (by decide +kernel) ⟨Nat.le_of_ble_eq_true rfl, Nat.le_of_ble_eq_true rfl⟩) (zpV hK hN hZ hP hD hS hA [0, 2] rfl (by decide) 0 rfl rfl rfl) rfl rfl hl.1 rfl (lv_room (Nat.le_of_ble_eq_true rfl)) dX6_height_39 ⟨Nat.zero_le _, Nat.zero_le _⟩) hP hD hS hA [0, 2] [1] rfl rfl (by decide) (by decide) (fun r_8 w_7 H locs h_6 hP hD hS => ?_)
      obtain ⟨rfl, rfl⟩ := h_6
      have hP : va_P D vwCl [(hs, .inl (cI, 380, .inl S)), (h, .inr (6, fs)), (hE, .inl (cI, 7, .inl (upd E 1 (E 1 + nI 1))))] H := hP
      have hD : va_D AA [(hs, .inl (cI, 380, .inl S)), (h, .inr (6, fs)), (hE, .inl (cI, 7, .inl (upd E 1 (E 1 + nI 1))))] := hD
      have hP := hP.sub (ws' := [(h, .inr (6, fs)), (hs, .inl (cI, 380, .inl S)), (hE, .inl (cI, 7, .inl (upd E 1 (E 1 + nI 1))))]) [1, 0, 2] rfl
      have hD := hD.sub (ws' := [(h, .inr (6, fs)), (hs, .inl (cI, 380, .inl S)), (hE, .inl (cI, 7, .inl (upd E 1 (E 1 + nI 1))))]) [1, 0, 2] (by decide) rfl
      exact hret hP hD hS dX6_height_42 rfl (by rw [show zo_height S E n k (nI j) v = zerrE 1 S E from by rw [zo_height, if_neg (by intro h9; first | exact absurd h9.1 (by assumption) | exact absurd h9.2 (by assumption))] <;> rfl]; exact ⟨rfl, rfl⟩)
    · have c18_5 := bI_n0.mp c18_5
      refine lv_aload_n hx hb dX6_height_21 rfl (lv_at hl 0 rfl) ?_
      refine lv_bipush (v := nI 8) hx hb dX6_height_22 (by decide) ?_
      refine lv_iconst (v := nI 4) hx hb dX6_height_24 (by decide) ?_
      refine lv_iload_n hx hb dX6_height_25 rfl (lv_at hl 1 rfl) ?_
      refine lv_imul hx hb dX6_height_26 ?_
      refine zrw (pk_mul _ _) ?_
      refine lv_iadd hx hb dX6_height_27 ?_
      refine zrw (nI_add _ _) ?_
      refine lv_iconst (v := nI 3) hx hb dX6_height_28 (by decide) ?_
      refine lv_iadd hx hb dX6_height_29 ?_
      refine zrw (nI_add _ _) ?_
      refine lv_iload_n hx hb dX6_height_30 rfl (lv_at hl 2 rfl) ?_
      refine zci (wr := [(hE, .inl (cI, 7, .inl E))]) (va_runV (As := [.int (nI ((8 + (4 * j)) + 3)), .int v]) (rest := []) ⟨hx, hb, hml, hown, hts⟩ (c_X6_change1 l D cI cJ h hs fs S ((8 + (4 * j)) + 3) v (by first | rfl | assumption | omega) (by first | rfl | assumption | omega) s.heap.size) (cwV 2 hts gX6_height_X6_change1 rfl rfl rfl (by decide +kernel) ⟨Nat.le_of_ble_eq_true rfl, Nat.le_of_ble_eq_true rfl⟩) (zpV hK hN hZ hP hD hS hA [0, 1] rfl (by decide) 0 rfl rfl rfl) rfl rfl hl.1 rfl (lv_room (Nat.le_of_ble_eq_true rfl)) dX6_height_31 ⟨Nat.zero_le _, Nat.zero_le _⟩) hP hD hS hA [0, 1] [2] rfl rfl (by decide) (by decide) (fun r_11 w_10 H locs h_9 hP hD hS => ?_)
      obtain ⟨rfl, rfl⟩ := h_9
      have hP : va_P D vwCl [(hE, .inl (cI, 7, .inl E)), (h, .inr (6, fs)), (hs, .inl (cI, 380, .inl (upd S ((8 + (4 * j)) + 3) v)))] H := hP
      have hD : va_D AA [(hE, .inl (cI, 7, .inl E)), (h, .inr (6, fs)), (hs, .inl (cI, 380, .inl (upd S ((8 + (4 * j)) + 3) v)))] := hD
      refine lv_goto (tgt := 42) hx hb dX6_height_34 (by decide) ?_
      have hP := hP.sub (ws' := [(h, .inr (6, fs)), (hs, .inl (cI, 380, .inl (upd S ((8 + (4 * j)) + 3) v))), (hE, .inl (cI, 7, .inl E))]) [1, 2, 0] rfl
      have hD := hD.sub (ws' := [(h, .inr (6, fs)), (hs, .inl (cI, 380, .inl (upd S ((8 + (4 * j)) + 3) v))), (hE, .inl (cI, 7, .inl E))]) [1, 2, 0] (by decide) rfl
      exact hret hP hD hS dX6_height_42 rfl (by rw [show zo_height S E n k (nI j) v = (S (8 + 4 * j + 3), upd S (8 + 4 * j + 3) v, E) from by rw [zo_height, if_pos ⟨by assumption, by assumption⟩, nI_clamp (show j < 2147483648 by omega)] <;> rfl]; exact ⟨rfl, rfl⟩)
set_option maxHeartbeats 4000000 in
set_option maxRecDepth 100000 in
theorem c_X5_height (l : Launch) (D : va_G) (cI cJ : ClassId) (h : Nat) (hE : Nat) (hS9 : Nat) (fs : List Value) (S : Nat → Int32) (E : Nat → Int32) (n : Nat) (k : Nat) (ft : List Value) (hh : Nat) (climber : Int32) (v : Int32) (hU0 : fs[0]? = some (.ref hS9)) (hU7 : fs[7]? = some (.ref hE)) (hn1 : S 1 = nI n) (hk6 : S 6 = nI k) (hn4 : 4 ≤ n) (hn14 : n ≤ 14) (hkle : k ≤ 6) (hft4 : ft[4]? = some (.int (nI k))) (hft8 : ft[8]? = some (.ref hh)) : zMi l yX5_height wsX5_height ({ frames := 1, cells := 0, slots := 0, locals := 22 } : Room) D [(cI, .int), (cJ, .array .int)] [.ref h, .int climber, .int v] [(h, .inr (5, fs)), (hS9, .inr (3, ft)), (hh, .inl (cI, 6, .inl ((fun c => S (8 + 4 * c + 3))))), (hE, .inl (cI, 7, .inl E))] (fun r w => r = (zo_height S E n k climber v).1 ∧ w = [(h, .inr (5, fs)), (hS9, .inr (3, ft)), (hh, .inl (cI, 6, .inl ((fun c => (zo_height S E n k climber v).2.1 (8 + 4 * c + 3))))), (hE, .inl (cI, 7, .inl ((zo_height S E n k climber v).2.2)))]) := by
  refine zMi.start (cc := cX5_height) (maxL := 4) (rt := .int) (by first | decide | decide +kernel) rfl (Nat.le_of_ble_eq_true rfl) ?_
  intro pg ev s mt args below meth cd ls AA QQ ⟨hx, hb, hml, hr, hlocks, hown, hts, hK, hN, hZ, hP, hD, hA, hS, hl⟩ hret
  have hown : s.vm.findClass RX5 = some mt.cls := hown
  have hl : lv_has ls 4 [(0, .ref h), (1, .int climber), (2, .int v)] := hl
  have hin3 : ∀ w ∈ wsX30, w ∈ wsX5_height := fun w h => List.mem_cons_of_mem _ (List.mem_append_right _ (h))
  have hin5 : ∀ w ∈ wsX50, w ∈ wsX5_height := fun w h => List.mem_cons_of_mem _ (List.mem_append_left _ (List.mem_append_right _ (h)))
  refine lv_aload_n hx hb dX5_height_0 rfl (lv_at hl 0 rfl) ?_
  refine va_get (ci := 5) (v := .ref hS9) (C := RX5) (T := TX5) (N := 9) hx hb hts hin5 hown hK hP 0 rfl rfl 0 (by decide) (hts (.fieldLink RX5 12 "UpAllRound" "now" "LUpAllRound$Stair;") (List.mem_of_getElem? (i := 1) rfl)) (fun _ h9 => h9) hU0 dX5_height_1 ?_
  refine lv_iload_n hx hb dX5_height_4 rfl (lv_at hl 1 rfl) ?_
  refine zcsE (va_runVN (As := [.int climber]) (rest := []) ⟨hx, hb, hml, hown, hts⟩ (c_X3_hasClimber l D cI cJ hS9 ft k climber (by first | rfl | assumption | omega) (by first | rfl | assumption | omega) s.heap.size) ⟨va_cnB 1 hts gX5_height_X3_hasClimber_n91 rfl rfl rfl (hN (.methodLinkNest "UpAllRound" 91 yX3_hasClimber "UpAllRound") (List.mem_of_getElem? (i := 33) rfl)) (hts (.initialized RX3) (List.mem_of_getElem? (i := 3) rfl)) (by decide +kernel) ⟨Nat.le_of_ble_eq_true rfl, Nat.le_of_ble_eq_true rfl⟩, (hts (.instanceMethod yX3_hasClimber) (List.mem_of_getElem? (i := 2) rfl)), (hts (.selects RX3 yX3_hasClimber yX3_hasClimber) (List.mem_of_getElem? (i := 4) rfl))⟩ (zpV hK hN hZ hP hD hS hA [1] rfl (by decide) 1 rfl rfl rfl) rfl rfl hl.1 rfl (lv_room (Nat.le_of_ble_eq_true rfl)) dX5_height_5 ⟨Nat.zero_le _, Nat.zero_le _⟩) ?_
  refine lv_if_eq (tgt := 24) hx hb dX5_height_8 (by decide) (fun c8_1 => ?_) (fun c8_1 => ?_)
  · have c8_1 := bI_0.mp c8_1
    refine lv_aload_n hx hb dX5_height_24 rfl (lv_at hl 0 rfl) ?_
    refine lv_iconst (v := nI 1) hx hb dX5_height_25 (by decide) ?_
    refine zci (wr := [(hS9, .inr (3, ft)), (hh, .inl (cI, 6, .inl ((fun c => S (8 + 4 * c + 3)))))]) (va_runV (As := [.int (nI 1)]) (rest := []) ⟨hx, hb, hml, hown, hts⟩ (c_X5_refuse l D cI cJ h hE fs E 1 (by first | rfl | assumption | omega) (by first | rfl | assumption | omega) s.heap.size) (cwV 1 hts gX5_height_X5_refuse rfl rfl rfl (by decide +kernel) ⟨Nat.le_of_ble_eq_true rfl, Nat.le_of_ble_eq_true rfl⟩) (zpV hK hN hZ hP hD hS hA [0, 3] rfl (by decide) 0 rfl rfl rfl) rfl rfl hl.1 rfl (lv_room (Nat.le_of_ble_eq_true rfl)) dX5_height_26 ⟨Nat.zero_le _, Nat.zero_le _⟩) hP hD hS hA [0, 3] [1, 2] rfl rfl (by decide) (by decide) (fun r_4 w_3 H locs h_2 hP hD hS => ?_)
    obtain ⟨rfl, rfl⟩ := h_2
    have hP : va_P D vwCl [(hS9, .inr (3, ft)), (hh, .inl (cI, 6, .inl ((fun c => S (8 + 4 * c + 3))))), (h, .inr (5, fs)), (hE, .inl (cI, 7, .inl (upd E 1 (E 1 + nI 1))))] H := hP
    have hD : va_D AA [(hS9, .inr (3, ft)), (hh, .inl (cI, 6, .inl ((fun c => S (8 + 4 * c + 3))))), (h, .inr (5, fs)), (hE, .inl (cI, 7, .inl (upd E 1 (E 1 + nI 1))))] := hD
    have hP := hP.sub (ws' := [(h, .inr (5, fs)), (hS9, .inr (3, ft)), (hh, .inl (cI, 6, .inl ((fun c => S (8 + 4 * c + 3))))), (hE, .inl (cI, 7, .inl (upd E 1 (E 1 + nI 1))))]) [2, 0, 1, 3] rfl
    have hD := hD.sub (ws' := [(h, .inr (5, fs)), (hS9, .inr (3, ft)), (hh, .inl (cI, 6, .inl ((fun c => S (8 + 4 * c + 3))))), (hE, .inl (cI, 7, .inl (upd E 1 (E 1 + nI 1))))]) [2, 0, 1, 3] (by decide) rfl
    exact hret hP hD hS dX5_height_29 rfl (by rw [show zo_height S E n k climber v = zerrE 1 S E from by rw [zo_height, if_neg (by intro h9; first | exact absurd h9.1 (by assumption) | exact absurd h9.2 (by assumption))] <;> rfl]; exact ⟨rfl, rfl⟩)
  · have c8_1 := bI_n0.mp c8_1
    obtain ⟨j, h_j, rfl⟩ := zin_of c8_1 (by omega)
    refine lv_iload_n hx hb dX5_height_11 rfl (lv_at hl 2 rfl) ?_
    refine lv_sipush (v := (-9999)) hx hb dX5_height_12 (by decide) ?_
    refine lv_sipush (v := nI 9999) hx hb dX5_height_15 (by decide) ?_
    refine zcsE (va_runS (As := [.int v, .int ((-9999)), .int (nI 9999)]) (rest := []) ⟨hx, hb, hml, hown, hts⟩ (d_X5_isOutside l D cI cJ v ((-9999)) (nI 9999) ((-9999)) 9999 (by decide) (by decide) s.heap.size) (va_cwS 3 hts gX5_height_X5_isOutside rfl rfl rfl (by decide +kernel) ⟨Nat.le_of_ble_eq_true rfl, Nat.le_of_ble_eq_true rfl⟩) (zpS hK hN hZ hP hD hS hA [] rfl (by decide)) rfl rfl hl.1 rfl (lv_room (Nat.le_of_ble_eq_true rfl)) dX5_height_18 ⟨Nat.zero_le _, Nat.zero_le _⟩) ?_
    refine lv_if_eq (tgt := 30) hx hb dX5_height_21 (by decide) (fun c21_5 => ?_) (fun c21_5 => ?_)
    · have c21_5 := bI_nX0.mp c21_5
      refine lv_aload_n hx hb dX5_height_30 rfl (lv_at hl 0 rfl) ?_
      refine va_get (ci := 5) (v := .ref hS9) (C := RX5) (T := TX5) (N := 9) hx hb hts hin5 hown hK hP 0 rfl rfl 0 (by decide) (hts (.fieldLink RX5 12 "UpAllRound" "now" "LUpAllRound$Stair;") (List.mem_of_getElem? (i := 1) rfl)) (fun _ h9 => h9) hU0 dX5_height_31 ?_
      refine va_getN (ci := 3) (v := .ref hh) (C := RX3) (T := TX3) (N := 16) hx hb hts hin3 hown hK hP 1 rfl rfl 8 (by decide) (va_Nw.use rfl (hN (.fieldLinkNest "UpAllRound" 103 "UpAllRound$Stair" "heights" "[I" "UpAllRound") (List.mem_of_getElem? (i := 8) rfl))) (fun _ h9 => h9) hft8 dX5_height_34 ?_
      refine lv_iload_n hx hb dX5_height_37 rfl (lv_at hl 1 rfl) ?_
      refine zald (t := j) hx hb hK hP 2 rfl (by omega) (by decide) dX5_height_38 ?_
      refine lv_istore_n (lv' := [(3, .int (((fun c => S (8 + 4 * c + 3))) j)), (0, .ref h), (1, .int (nI j)), (2, .int v)]) hx hb dX5_height_39 rfl hl (by decide) rfl (fun ls hl => ?_)
      refine lv_aload_n hx hb dX5_height_40 rfl (lv_at hl 1 rfl) ?_
      refine va_get (ci := 5) (v := .ref hS9) (C := RX5) (T := TX5) (N := 9) hx hb hts hin5 hown hK hP 0 rfl rfl 0 (by decide) (hts (.fieldLink RX5 12 "UpAllRound" "now" "LUpAllRound$Stair;") (List.mem_of_getElem? (i := 1) rfl)) (fun _ h9 => h9) hU0 dX5_height_41 ?_
      refine va_getN (ci := 3) (v := .ref hh) (C := RX3) (T := TX3) (N := 16) hx hb hts hin3 hown hK hP 1 rfl rfl 8 (by decide) (va_Nw.use rfl (hN (.fieldLinkNest "UpAllRound" 103 "UpAllRound$Stair" "heights" "[I" "UpAllRound") (List.mem_of_getElem? (i := 8) rfl))) (fun _ h9 => h9) hft8 dX5_height_44 ?_
      refine lv_iload_n hx hb dX5_height_47 rfl (lv_at hl 2 rfl) ?_
      refine lv_iload_n hx hb dX5_height_48 rfl (lv_at hl 3 rfl) ?_
      refine zast (t := j) hx hb hK hP hD hS 2 rfl (by omega) (by decide) dX5_height_49 (fun H locs hP hD hS => ?_)
      have hP : va_P D vwCl [(h, .inr (5, fs)), (hS9, .inr (3, ft)), (hh, .inl (cI, 6, .inl (upd ((fun c => S (8 + 4 * c + 3))) j v))), (hE, .inl (cI, 7, .inl E))] H := hP
      have hD : va_D AA [(h, .inr (5, fs)), (hS9, .inr (3, ft)), (hh, .inl (cI, 6, .inl (upd ((fun c => S (8 + 4 * c + 3))) j v))), (hE, .inl (cI, 7, .inl E))] := hD
      refine lv_iload_n hx hb dX5_height_50 rfl (lv_at hl 0 rfl) ?_
      exact hret hP hD hS dX5_height_51 rfl (by rw [show zo_height S E n k (nI j) v = (S (8 + 4 * j + 3), upd S (8 + 4 * j + 3) v, E) from by rw [zo_height, if_pos ⟨by assumption, by assumption⟩, nI_clamp (show j < 2147483648 by omega)] <;> rfl]; exact ⟨rfl, by rw [zpr_k]⟩)
    · have c21_5 := bI_nn0.mp c21_5
      refine lv_aload_n hx hb dX5_height_24 rfl (lv_at hl 0 rfl) ?_
      refine lv_iconst (v := nI 1) hx hb dX5_height_25 (by decide) ?_
      refine zci (wr := [(hS9, .inr (3, ft)), (hh, .inl (cI, 6, .inl ((fun c => S (8 + 4 * c + 3)))))]) (va_runV (As := [.int (nI 1)]) (rest := []) ⟨hx, hb, hml, hown, hts⟩ (c_X5_refuse l D cI cJ h hE fs E 1 (by first | rfl | assumption | omega) (by first | rfl | assumption | omega) s.heap.size) (cwV 1 hts gX5_height_X5_refuse rfl rfl rfl (by decide +kernel) ⟨Nat.le_of_ble_eq_true rfl, Nat.le_of_ble_eq_true rfl⟩) (zpV hK hN hZ hP hD hS hA [0, 3] rfl (by decide) 0 rfl rfl rfl) rfl rfl hl.1 rfl (lv_room (Nat.le_of_ble_eq_true rfl)) dX5_height_26 ⟨Nat.zero_le _, Nat.zero_le _⟩) hP hD hS hA [0, 3] [1, 2] rfl rfl (by decide) (by decide) (fun r_8 w_7 H locs h_6 hP hD hS => ?_)
      obtain ⟨rfl, rfl⟩ := h_6
      have hP : va_P D vwCl [(hS9, .inr (3, ft)), (hh, .inl (cI, 6, .inl ((fun c => S (8 + 4 * c + 3))))), (h, .inr (5, fs)), (hE, .inl (cI, 7, .inl (upd E 1 (E 1 + nI 1))))] H := hP
      have hD : va_D AA [(hS9, .inr (3, ft)), (hh, .inl (cI, 6, .inl ((fun c => S (8 + 4 * c + 3))))), (h, .inr (5, fs)), (hE, .inl (cI, 7, .inl (upd E 1 (E 1 + nI 1))))] := hD
      have hP := hP.sub (ws' := [(h, .inr (5, fs)), (hS9, .inr (3, ft)), (hh, .inl (cI, 6, .inl ((fun c => S (8 + 4 * c + 3))))), (hE, .inl (cI, 7, .inl (upd E 1 (E 1 + nI 1))))]) [2, 0, 1, 3] rfl
      have hD := hD.sub (ws' := [(h, .inr (5, fs)), (hS9, .inr (3, ft)), (hh, .inl (cI, 6, .inl ((fun c => S (8 + 4 * c + 3))))), (hE, .inl (cI, 7, .inl (upd E 1 (E 1 + nI 1))))]) [2, 0, 1, 3] (by decide) rfl
      exact hret hP hD hS dX5_height_29 rfl (by rw [show zo_height S E n k (nI j) v = zerrE 1 S E from by rw [zo_height, if_neg (by intro h9; first | exact absurd h9.1 (by assumption) | exact absurd h9.2 (by assumption))] <;> rfl]; exact ⟨rfl, rfl⟩)
def zo_become (S E : Nat → Int32) (n k : Nat) (climber : Int32) (km : Int32) : zOut := if zin climber k ∧ zrg 0 69 km then (S (8 + 4 * climber.toNatClampNeg + 0), upd (upd S (8 + 4 * climber.toNatClampNeg + 1) (nI (km.toNatClampNeg % 10))) (8 + 4 * climber.toNatClampNeg + 0) (nI (km.toNatClampNeg / 10)), E) else zerrE 1 S E
set_option maxHeartbeats 4000000 in
set_option maxRecDepth 100000 in
theorem c_X6_become (l : Launch) (D : va_G) (cI cJ : ClassId) (h : Nat) (hs : Nat) (hE : Nat) (fs : List Value) (S : Nat → Int32) (E : Nat → Int32) (n : Nat) (k : Nat) (climber : Int32) (km : Int32) (hf0 : fs[0]? = some (.ref hs)) (hf4 : fs[4]? = some (.ref hE)) (hn1 : S 1 = nI n) (hk6 : S 6 = nI k) (hn4 : 4 ≤ n) (hn14 : n ≤ 14) (hkle : k ≤ 6) : zMi l yX6_become wsX6_become ({ frames := 2, cells := 0, slots := 0, locals := 43 } : Room) D [(cI, .int), (cJ, .array .int)] [.ref h, .int climber, .int km] [(h, .inr (6, fs)), (hs, .inl (cI, 380, .inl S)), (hE, .inl (cI, 7, .inl E))] (fun r w => r = (zo_become S E n k climber km).1 ∧ w = [(h, .inr (6, fs)), (hs, .inl (cI, 380, .inl ((zo_become S E n k climber km).2.1))), (hE, .inl (cI, 7, .inl ((zo_become S E n k climber km).2.2)))]) := by
  refine zMi.start (cc := cX6_become) (maxL := 3) (rt := .int) (by first | decide | decide +kernel) rfl (Nat.le_of_ble_eq_true rfl) ?_
  intro pg ev s mt args below meth cd ls AA QQ ⟨hx, hb, hml, hr, hlocks, hown, hts, hK, hN, hZ, hP, hD, hA, hS, hl⟩ hret
  have hown : s.vm.findClass RX6 = some mt.cls := hown
  have hl : lv_has ls 3 [(0, .ref h), (1, .int climber), (2, .int km)] := hl
  have hin6 : ∀ w ∈ wsX60, w ∈ wsX6_become := fun w h => List.mem_cons_of_mem _ (List.mem_append_right _ (h))
  refine lv_aload_n hx hb dX6_become_0 rfl (lv_at hl 0 rfl) ?_
  refine lv_iload_n hx hb dX6_become_1 rfl (lv_at hl 1 rfl) ?_
  refine zcsE (va_runV (As := [.int climber]) (rest := []) ⟨hx, hb, hml, hown, hts⟩ (c_X6_isClimber l D cI cJ h hs fs S k climber (by first | rfl | assumption | omega) (by first | rfl | assumption | omega) (by first | rfl | assumption | omega) s.heap.size) (cwV 1 hts gX6_become_X6_isClimber rfl rfl rfl (by decide +kernel) ⟨Nat.le_of_ble_eq_true rfl, Nat.le_of_ble_eq_true rfl⟩) (zpV hK hN hZ hP hD hS hA [0, 1] rfl (by decide) 0 rfl rfl rfl) rfl rfl hl.1 rfl (lv_room (Nat.le_of_ble_eq_true rfl)) dX6_become_2 ⟨Nat.zero_le _, Nat.zero_le _⟩) ?_
  refine lv_if_eq (tgt := 15) hx hb dX6_become_5 (by decide) (fun c5_1 => ?_) (fun c5_1 => ?_)
  · have c5_1 := bI_0.mp c5_1
    refine lv_aload_n hx hb dX6_become_15 rfl (lv_at hl 0 rfl) ?_
    refine lv_iconst (v := nI 1) hx hb dX6_become_16 (by decide) ?_
    refine zci (wr := [(hs, .inl (cI, 380, .inl S))]) (va_runV (As := [.int (nI 1)]) (rest := []) ⟨hx, hb, hml, hown, hts⟩ (c_X6_error l D cI cJ h hE fs E 1 (by first | rfl | assumption | omega) (by first | rfl | assumption | omega) s.heap.size) (cwV 1 hts gX6_become_X6_error rfl rfl rfl (by decide +kernel) ⟨Nat.le_of_ble_eq_true rfl, Nat.le_of_ble_eq_true rfl⟩) (zpV hK hN hZ hP hD hS hA [0, 2] rfl (by decide) 0 rfl rfl rfl) rfl rfl hl.1 rfl (lv_room (Nat.le_of_ble_eq_true rfl)) dX6_become_17 ⟨Nat.zero_le _, Nat.zero_le _⟩) hP hD hS hA [0, 2] [1] rfl rfl (by decide) (by decide) (fun r_4 w_3 H locs h_2 hP hD hS => ?_)
    obtain ⟨rfl, rfl⟩ := h_2
    have hP : va_P D vwCl [(hs, .inl (cI, 380, .inl S)), (h, .inr (6, fs)), (hE, .inl (cI, 7, .inl (upd E 1 (E 1 + nI 1))))] H := hP
    have hD : va_D AA [(hs, .inl (cI, 380, .inl S)), (h, .inr (6, fs)), (hE, .inl (cI, 7, .inl (upd E 1 (E 1 + nI 1))))] := hD
    have hP := hP.sub (ws' := [(h, .inr (6, fs)), (hs, .inl (cI, 380, .inl S)), (hE, .inl (cI, 7, .inl (upd E 1 (E 1 + nI 1))))]) [1, 0, 2] rfl
    have hD := hD.sub (ws' := [(h, .inr (6, fs)), (hs, .inl (cI, 380, .inl S)), (hE, .inl (cI, 7, .inl (upd E 1 (E 1 + nI 1))))]) [1, 0, 2] (by decide) rfl
    exact hret hP hD hS dX6_become_20 rfl (by rw [show zo_become S E n k climber km = zerrE 1 S E from by rw [zo_become, if_neg (by intro h9; first | exact absurd h9.1 (by assumption) | exact absurd h9.2 (by assumption))] <;> rfl]; exact ⟨rfl, rfl⟩)
  · have c5_1 := bI_n0.mp c5_1
    obtain ⟨j, h_j, rfl⟩ := zin_of c5_1 (by omega)
    refine lv_iload_n hx hb dX6_become_8 rfl (lv_at hl 2 rfl) ?_
    refine zcsE (va_runS (As := [.int km]) (rest := []) ⟨hx, hb, hml, hown, hts⟩ (c_X6_isKind l D cI cJ km  s.heap.size) (va_cwS 1 hts gX6_become_X6_isKind rfl rfl rfl (by decide +kernel) ⟨Nat.le_of_ble_eq_true rfl, Nat.le_of_ble_eq_true rfl⟩) (zpS hK hN hZ hP hD hS hA [] rfl (by decide)) rfl rfl hl.1 rfl (lv_room (Nat.le_of_ble_eq_true rfl)) dX6_become_9 ⟨Nat.zero_le _, Nat.zero_le _⟩) ?_
    refine lv_if_ne (tgt := 21) hx hb dX6_become_12 (by decide) (fun c12_5 => ?_) (fun c12_5 => ?_)
    · have c12_5 := bI_n0.mp c12_5
      obtain ⟨q, h_q, rfl⟩ : ∃ q : Nat, q ≤ 69 ∧ km = nI q := zrg_of c12_5 (by decide)
      refine lv_aload_n hx hb dX6_become_21 rfl (lv_at hl 0 rfl) ?_
      refine lv_iload_n hx hb dX6_become_22 rfl (lv_at hl 1 rfl) ?_
      refine lv_iconst (v := nI 1) hx hb dX6_become_23 (by decide) ?_
      refine lv_iload_n hx hb dX6_become_24 rfl (lv_at hl 2 rfl) ?_
      refine lv_bipush (v := nI 10) hx hb dX6_become_25 (by decide) ?_
      refine lv_irem hx hb dX6_become_27 (by decide) ?_
      refine zrw (pk_rem (by omega) (by omega) (by omega)) ?_
      refine zcv (wr := [(hE, .inl (cI, 7, .inl E))]) (va_runV (As := [.int (nI j), .int (nI 1), .int (nI (q % 10))]) (rest := []) ⟨hx, hb, hml, hown, hts⟩ (c_X6_lays1 l D cI cJ h hs fs S j 1 (nI (q % 10)) (by first | rfl | assumption | omega) (by first | rfl | assumption | omega) s.heap.size) (cwV 3 hts gX6_become_X6_lays1 rfl rfl rfl (by decide +kernel) ⟨Nat.le_of_ble_eq_true rfl, Nat.le_of_ble_eq_true rfl⟩) (zpV hK hN hZ hP hD hS hA [0, 1] rfl (by decide) 0 rfl rfl rfl) rfl rfl hl.1 rfl (lv_room (Nat.le_of_ble_eq_true rfl)) dX6_become_28 ⟨Nat.zero_le _, Nat.zero_le _⟩) hP hD hS hA [0, 1] [2] rfl rfl (by decide) (by decide) (fun w_7 H locs h_6 hP hD hS => ?_)
      obtain rfl := h_6
      have hP : va_P D vwCl [(hE, .inl (cI, 7, .inl E)), (h, .inr (6, fs)), (hs, .inl (cI, 380, .inl (upd S (8 + 4 * j + 1) (nI (q % 10)))))] H := hP
      have hD : va_D AA [(hE, .inl (cI, 7, .inl E)), (h, .inr (6, fs)), (hs, .inl (cI, 380, .inl (upd S (8 + 4 * j + 1) (nI (q % 10)))))] := hD
      refine lv_aload_n hx hb dX6_become_31 rfl (lv_at hl 0 rfl) ?_
      refine lv_bipush (v := nI 8) hx hb dX6_become_32 (by decide) ?_
      refine lv_iconst (v := nI 4) hx hb dX6_become_34 (by decide) ?_
      refine lv_iload_n hx hb dX6_become_35 rfl (lv_at hl 1 rfl) ?_
      refine lv_imul hx hb dX6_become_36 ?_
      refine zrw (pk_mul _ _) ?_
      refine lv_iadd hx hb dX6_become_37 ?_
      refine zrw (nI_add _ _) ?_
      refine lv_iconst (v := nI 0) hx hb dX6_become_38 (by decide) ?_
      refine lv_iadd hx hb dX6_become_39 ?_
      refine zrw (nI_add _ _) ?_
      refine lv_iload_n hx hb dX6_become_40 rfl (lv_at hl 2 rfl) ?_
      refine lv_bipush (v := nI 10) hx hb dX6_become_41 (by decide) ?_
      refine lv_idiv hx hb dX6_become_43 (by decide) ?_
      refine zrw (pk_div (by omega) (by omega) (by omega)) ?_
      refine zci (wr := [(hE, .inl (cI, 7, .inl E))]) (va_runV (As := [.int (nI ((8 + (4 * j)) + 0)), .int (nI (q / 10))]) (rest := []) ⟨hx, hb, hml, hown, hts⟩ (c_X6_change1 l D cI cJ h hs fs (upd S (8 + 4 * j + 1) (nI (q % 10))) ((8 + (4 * j)) + 0) (nI (q / 10)) (by first | rfl | assumption | omega) (by first | rfl | assumption | omega) H.size) (cwV 2 hts gX6_become_X6_change1 rfl rfl rfl (by decide +kernel) ⟨Nat.le_of_ble_eq_true rfl, Nat.le_of_ble_eq_true rfl⟩) (zpV hK hN hZ hP hD hS hA [1, 2] rfl (by decide) 1 rfl rfl rfl) rfl rfl hl.1 rfl (lv_room (Nat.le_of_ble_eq_true rfl)) dX6_become_44 ⟨Nat.zero_le _, Nat.zero_le _⟩) hP hD hS hA [1, 2] [0] rfl rfl (by decide) (by decide) (fun r_10 w_9 H locs h_8 hP hD hS => ?_)
      obtain ⟨rfl, rfl⟩ := h_8
      have hP : va_P D vwCl [(hE, .inl (cI, 7, .inl E)), (h, .inr (6, fs)), (hs, .inl (cI, 380, .inl (upd (upd S (8 + 4 * j + 1) (nI (q % 10))) ((8 + (4 * j)) + 0) (nI (q / 10)))))] H := hP
      have hD : va_D AA [(hE, .inl (cI, 7, .inl E)), (h, .inr (6, fs)), (hs, .inl (cI, 380, .inl (upd (upd S (8 + 4 * j + 1) (nI (q % 10))) ((8 + (4 * j)) + 0) (nI (q / 10)))))] := hD
      have hP := hP.sub (ws' := [(h, .inr (6, fs)), (hs, .inl (cI, 380, .inl (upd (upd S (8 + 4 * j + 1) (nI (q % 10))) ((8 + (4 * j)) + 0) (nI (q / 10))))), (hE, .inl (cI, 7, .inl E))]) [1, 2, 0] rfl
      have hD := hD.sub (ws' := [(h, .inr (6, fs)), (hs, .inl (cI, 380, .inl (upd (upd S (8 + 4 * j + 1) (nI (q % 10))) ((8 + (4 * j)) + 0) (nI (q / 10))))), (hE, .inl (cI, 7, .inl E))]) [1, 2, 0] (by decide) rfl
      exact hret hP hD hS dX6_become_47 rfl (by rw [show zo_become S E n k (nI j) (nI q) = (S (8 + 4 * j + 0), upd (upd S (8 + 4 * j + 1) (nI (q % 10))) (8 + 4 * j + 0) (nI (q / 10)), E) from by rw [zo_become, if_pos ⟨by assumption, by assumption⟩, nI_clamp (show j < 2147483648 by omega), nI_clamp (show q < 2147483648 by omega)] <;> rfl]; exact ⟨zupd_n (by omega), rfl⟩)
    · have c12_5 := bI_0.mp c12_5
      refine lv_aload_n hx hb dX6_become_15 rfl (lv_at hl 0 rfl) ?_
      refine lv_iconst (v := nI 1) hx hb dX6_become_16 (by decide) ?_
      refine zci (wr := [(hs, .inl (cI, 380, .inl S))]) (va_runV (As := [.int (nI 1)]) (rest := []) ⟨hx, hb, hml, hown, hts⟩ (c_X6_error l D cI cJ h hE fs E 1 (by first | rfl | assumption | omega) (by first | rfl | assumption | omega) s.heap.size) (cwV 1 hts gX6_become_X6_error rfl rfl rfl (by decide +kernel) ⟨Nat.le_of_ble_eq_true rfl, Nat.le_of_ble_eq_true rfl⟩) (zpV hK hN hZ hP hD hS hA [0, 2] rfl (by decide) 0 rfl rfl rfl) rfl rfl hl.1 rfl (lv_room (Nat.le_of_ble_eq_true rfl)) dX6_become_17 ⟨Nat.zero_le _, Nat.zero_le _⟩) hP hD hS hA [0, 2] [1] rfl rfl (by decide) (by decide) (fun r_13 w_12 H locs h_11 hP hD hS => ?_)
      obtain ⟨rfl, rfl⟩ := h_11
      have hP : va_P D vwCl [(hs, .inl (cI, 380, .inl S)), (h, .inr (6, fs)), (hE, .inl (cI, 7, .inl (upd E 1 (E 1 + nI 1))))] H := hP
      have hD : va_D AA [(hs, .inl (cI, 380, .inl S)), (h, .inr (6, fs)), (hE, .inl (cI, 7, .inl (upd E 1 (E 1 + nI 1))))] := hD
      have hP := hP.sub (ws' := [(h, .inr (6, fs)), (hs, .inl (cI, 380, .inl S)), (hE, .inl (cI, 7, .inl (upd E 1 (E 1 + nI 1))))]) [1, 0, 2] rfl
      have hD := hD.sub (ws' := [(h, .inr (6, fs)), (hs, .inl (cI, 380, .inl S)), (hE, .inl (cI, 7, .inl (upd E 1 (E 1 + nI 1))))]) [1, 0, 2] (by decide) rfl
      exact hret hP hD hS dX6_become_20 rfl (by rw [show zo_become S E n k (nI j) km = zerrE 1 S E from by rw [zo_become, if_neg (by intro h9; first | exact absurd h9.1 (by assumption) | exact absurd h9.2 (by assumption))] <;> rfl]; exact ⟨rfl, rfl⟩)
set_option maxHeartbeats 4000000 in
set_option maxRecDepth 100000 in
theorem c_X5_become (l : Launch) (D : va_G) (cI cJ : ClassId) (h : Nat) (hE : Nat) (hS9 : Nat) (fs : List Value) (S : Nat → Int32) (E : Nat → Int32) (n : Nat) (k : Nat) (ft : List Value) (hk : Nat) (hm : Nat) (climber : Int32) (km : Int32) (hU0 : fs[0]? = some (.ref hS9)) (hU7 : fs[7]? = some (.ref hE)) (hn1 : S 1 = nI n) (hk6 : S 6 = nI k) (hn4 : 4 ≤ n) (hn14 : n ≤ 14) (hkle : k ≤ 6) (hft4 : ft[4]? = some (.int (nI k))) (hft5 : ft[5]? = some (.ref hk)) (hft6 : ft[6]? = some (.ref hm)) : zMi l yX5_become wsX5_become ({ frames := 1, cells := 0, slots := 0, locals := 22 } : Room) D [(cI, .int), (cJ, .array .int)] [.ref h, .int climber, .int km] [(h, .inr (5, fs)), (hS9, .inr (3, ft)), (hk, .inl (cI, 6, .inl ((fun c => S (8 + 4 * c + 0))))), (hm, .inl (cI, 6, .inl ((fun c => S (8 + 4 * c + 1))))), (hE, .inl (cI, 7, .inl E))] (fun r w => r = (zo_become S E n k climber km).1 ∧ w = [(h, .inr (5, fs)), (hS9, .inr (3, ft)), (hk, .inl (cI, 6, .inl ((fun c => (zo_become S E n k climber km).2.1 (8 + 4 * c + 0))))), (hm, .inl (cI, 6, .inl ((fun c => (zo_become S E n k climber km).2.1 (8 + 4 * c + 1))))), (hE, .inl (cI, 7, .inl ((zo_become S E n k climber km).2.2)))]) := by
  refine zMi.start (cc := cX5_become) (maxL := 4) (rt := .int) (by first | decide | decide +kernel) rfl (Nat.le_of_ble_eq_true rfl) ?_
  intro pg ev s mt args below meth cd ls AA QQ ⟨hx, hb, hml, hr, hlocks, hown, hts, hK, hN, hZ, hP, hD, hA, hS, hl⟩ hret
  have hown : s.vm.findClass RX5 = some mt.cls := hown
  have hl : lv_has ls 4 [(0, .ref h), (1, .int climber), (2, .int km)] := hl
  have hin3 : ∀ w ∈ wsX30, w ∈ wsX5_become := fun w h => List.mem_cons_of_mem _ (List.mem_append_right _ (h))
  have hin5 : ∀ w ∈ wsX50, w ∈ wsX5_become := fun w h => List.mem_cons_of_mem _ (List.mem_append_left _ (List.mem_append_right _ (h)))
  refine lv_aload_n hx hb dX5_become_0 rfl (lv_at hl 0 rfl) ?_
  refine va_get (ci := 5) (v := .ref hS9) (C := RX5) (T := TX5) (N := 9) hx hb hts hin5 hown hK hP 0 rfl rfl 0 (by decide) (hts (.fieldLink RX5 12 "UpAllRound" "now" "LUpAllRound$Stair;") (List.mem_of_getElem? (i := 1) rfl)) (fun _ h9 => h9) hU0 dX5_become_1 ?_
  refine lv_iload_n hx hb dX5_become_4 rfl (lv_at hl 1 rfl) ?_
  refine zcsE (va_runVN (As := [.int climber]) (rest := []) ⟨hx, hb, hml, hown, hts⟩ (c_X3_hasClimber l D cI cJ hS9 ft k climber (by first | rfl | assumption | omega) (by first | rfl | assumption | omega) s.heap.size) ⟨va_cnB 1 hts gX5_become_X3_hasClimber_n91 rfl rfl rfl (hN (.methodLinkNest "UpAllRound" 91 yX3_hasClimber "UpAllRound") (List.mem_of_getElem? (i := 33) rfl)) (hts (.initialized RX3) (List.mem_of_getElem? (i := 3) rfl)) (by decide +kernel) ⟨Nat.le_of_ble_eq_true rfl, Nat.le_of_ble_eq_true rfl⟩, (hts (.instanceMethod yX3_hasClimber) (List.mem_of_getElem? (i := 2) rfl)), (hts (.selects RX3 yX3_hasClimber yX3_hasClimber) (List.mem_of_getElem? (i := 4) rfl))⟩ (zpV hK hN hZ hP hD hS hA [1] rfl (by decide) 1 rfl rfl rfl) rfl rfl hl.1 rfl (lv_room (Nat.le_of_ble_eq_true rfl)) dX5_become_5 ⟨Nat.zero_le _, Nat.zero_le _⟩) ?_
  refine lv_if_eq (tgt := 21) hx hb dX5_become_8 (by decide) (fun c8_1 => ?_) (fun c8_1 => ?_)
  · have c8_1 := bI_0.mp c8_1
    refine lv_aload_n hx hb dX5_become_21 rfl (lv_at hl 0 rfl) ?_
    refine lv_iconst (v := nI 1) hx hb dX5_become_22 (by decide) ?_
    refine zci (wr := [(hS9, .inr (3, ft)), (hk, .inl (cI, 6, .inl ((fun c => S (8 + 4 * c + 0))))), (hm, .inl (cI, 6, .inl ((fun c => S (8 + 4 * c + 1)))))]) (va_runV (As := [.int (nI 1)]) (rest := []) ⟨hx, hb, hml, hown, hts⟩ (c_X5_refuse l D cI cJ h hE fs E 1 (by first | rfl | assumption | omega) (by first | rfl | assumption | omega) s.heap.size) (cwV 1 hts gX5_become_X5_refuse rfl rfl rfl (by decide +kernel) ⟨Nat.le_of_ble_eq_true rfl, Nat.le_of_ble_eq_true rfl⟩) (zpV hK hN hZ hP hD hS hA [0, 4] rfl (by decide) 0 rfl rfl rfl) rfl rfl hl.1 rfl (lv_room (Nat.le_of_ble_eq_true rfl)) dX5_become_23 ⟨Nat.zero_le _, Nat.zero_le _⟩) hP hD hS hA [0, 4] [1, 2, 3] rfl rfl (by decide) (by decide) (fun r_4 w_3 H locs h_2 hP hD hS => ?_)
    obtain ⟨rfl, rfl⟩ := h_2
    have hP : va_P D vwCl [(hS9, .inr (3, ft)), (hk, .inl (cI, 6, .inl ((fun c => S (8 + 4 * c + 0))))), (hm, .inl (cI, 6, .inl ((fun c => S (8 + 4 * c + 1))))), (h, .inr (5, fs)), (hE, .inl (cI, 7, .inl (upd E 1 (E 1 + nI 1))))] H := hP
    have hD : va_D AA [(hS9, .inr (3, ft)), (hk, .inl (cI, 6, .inl ((fun c => S (8 + 4 * c + 0))))), (hm, .inl (cI, 6, .inl ((fun c => S (8 + 4 * c + 1))))), (h, .inr (5, fs)), (hE, .inl (cI, 7, .inl (upd E 1 (E 1 + nI 1))))] := hD
    have hP := hP.sub (ws' := [(h, .inr (5, fs)), (hS9, .inr (3, ft)), (hk, .inl (cI, 6, .inl ((fun c => S (8 + 4 * c + 0))))), (hm, .inl (cI, 6, .inl ((fun c => S (8 + 4 * c + 1))))), (hE, .inl (cI, 7, .inl (upd E 1 (E 1 + nI 1))))]) [3, 0, 1, 2, 4] rfl
    have hD := hD.sub (ws' := [(h, .inr (5, fs)), (hS9, .inr (3, ft)), (hk, .inl (cI, 6, .inl ((fun c => S (8 + 4 * c + 0))))), (hm, .inl (cI, 6, .inl ((fun c => S (8 + 4 * c + 1))))), (hE, .inl (cI, 7, .inl (upd E 1 (E 1 + nI 1))))]) [3, 0, 1, 2, 4] (by decide) rfl
    exact hret hP hD hS dX5_become_26 rfl (by rw [show zo_become S E n k climber km = zerrE 1 S E from by rw [zo_become, if_neg (by intro h9; first | exact absurd h9.1 (by assumption) | exact absurd h9.2 (by assumption))] <;> rfl]; exact ⟨rfl, rfl⟩)
  · have c8_1 := bI_n0.mp c8_1
    obtain ⟨j, h_j, rfl⟩ := zin_of c8_1 (by omega)
    refine lv_iload_n hx hb dX5_become_11 rfl (lv_at hl 2 rfl) ?_
    refine lv_iconst (v := nI 0) hx hb dX5_become_12 (by decide) ?_
    refine lv_bipush (v := nI 69) hx hb dX5_become_13 (by decide) ?_
    refine zcsE (va_runS (As := [.int km, .int (nI 0), .int (nI 69)]) (rest := []) ⟨hx, hb, hml, hown, hts⟩ (d_X5_isOutside l D cI cJ km (nI 0) (nI 69) 0 69 (by decide) (by decide) s.heap.size) (va_cwS 3 hts gX5_become_X5_isOutside rfl rfl rfl (by decide +kernel) ⟨Nat.le_of_ble_eq_true rfl, Nat.le_of_ble_eq_true rfl⟩) (zpS hK hN hZ hP hD hS hA [] rfl (by decide)) rfl rfl hl.1 rfl (lv_room (Nat.le_of_ble_eq_true rfl)) dX5_become_15 ⟨Nat.zero_le _, Nat.zero_le _⟩) ?_
    refine lv_if_eq (tgt := 27) hx hb dX5_become_18 (by decide) (fun c18_5 => ?_) (fun c18_5 => ?_)
    · have c18_5 := bI_nX0.mp c18_5
      obtain ⟨q, h_q, rfl⟩ : ∃ q : Nat, q ≤ 69 ∧ km = nI q := zrg_of c18_5 (by decide)
      refine lv_aload_n hx hb dX5_become_27 rfl (lv_at hl 0 rfl) ?_
      refine va_get (ci := 5) (v := .ref hS9) (C := RX5) (T := TX5) (N := 9) hx hb hts hin5 hown hK hP 0 rfl rfl 0 (by decide) (hts (.fieldLink RX5 12 "UpAllRound" "now" "LUpAllRound$Stair;") (List.mem_of_getElem? (i := 1) rfl)) (fun _ h9 => h9) hU0 dX5_become_28 ?_
      refine va_getN (ci := 3) (v := .ref hk) (C := RX3) (T := TX3) (N := 16) hx hb hts hin3 hown hK hP 1 rfl rfl 5 (by decide) (va_Nw.use rfl (hN (.fieldLinkNest "UpAllRound" 94 "UpAllRound$Stair" "kinds" "[I" "UpAllRound") (List.mem_of_getElem? (i := 5) rfl))) (fun _ h9 => h9) hft5 dX5_become_31 ?_
      refine lv_iload_n hx hb dX5_become_34 rfl (lv_at hl 1 rfl) ?_
      refine zald (t := j) hx hb hK hP 2 rfl (by omega) (by decide) dX5_become_35 ?_
      refine lv_istore_n (lv' := [(3, .int (((fun c => S (8 + 4 * c + 0))) j)), (0, .ref h), (1, .int (nI j)), (2, .int (nI q))]) hx hb dX5_become_36 rfl hl (by decide) rfl (fun ls hl => ?_)
      refine lv_aload_n hx hb dX5_become_37 rfl (lv_at hl 1 rfl) ?_
      refine va_get (ci := 5) (v := .ref hS9) (C := RX5) (T := TX5) (N := 9) hx hb hts hin5 hown hK hP 0 rfl rfl 0 (by decide) (hts (.fieldLink RX5 12 "UpAllRound" "now" "LUpAllRound$Stair;") (List.mem_of_getElem? (i := 1) rfl)) (fun _ h9 => h9) hU0 dX5_become_38 ?_
      refine va_getN (ci := 3) (v := .ref hk) (C := RX3) (T := TX3) (N := 16) hx hb hts hin3 hown hK hP 1 rfl rfl 5 (by decide) (va_Nw.use rfl (hN (.fieldLinkNest "UpAllRound" 94 "UpAllRound$Stair" "kinds" "[I" "UpAllRound") (List.mem_of_getElem? (i := 5) rfl))) (fun _ h9 => h9) hft5 dX5_become_41 ?_
      refine lv_iload_n hx hb dX5_become_44 rfl (lv_at hl 2 rfl) ?_
      refine lv_iload_n hx hb dX5_become_45 rfl (lv_at hl 3 rfl) ?_
      refine lv_bipush (v := nI 10) hx hb dX5_become_46 (by decide) ?_
      refine lv_idiv hx hb dX5_become_48 (by decide) ?_
      refine zrw (pk_div (by omega) (by omega) (by omega)) ?_
      refine zast (t := j) hx hb hK hP hD hS 2 rfl (by omega) (by decide) dX5_become_49 (fun H locs hP hD hS => ?_)
      have hP : va_P D vwCl [(h, .inr (5, fs)), (hS9, .inr (3, ft)), (hk, .inl (cI, 6, .inl (upd ((fun c => S (8 + 4 * c + 0))) j (nI (q / 10))))), (hm, .inl (cI, 6, .inl ((fun c => S (8 + 4 * c + 1))))), (hE, .inl (cI, 7, .inl E))] H := hP
      have hD : va_D AA [(h, .inr (5, fs)), (hS9, .inr (3, ft)), (hk, .inl (cI, 6, .inl (upd ((fun c => S (8 + 4 * c + 0))) j (nI (q / 10))))), (hm, .inl (cI, 6, .inl ((fun c => S (8 + 4 * c + 1))))), (hE, .inl (cI, 7, .inl E))] := hD
      refine lv_aload_n hx hb dX5_become_50 rfl (lv_at hl 1 rfl) ?_
      refine va_get (ci := 5) (v := .ref hS9) (C := RX5) (T := TX5) (N := 9) hx hb hts hin5 hown hK hP 0 rfl rfl 0 (by decide) (hts (.fieldLink RX5 12 "UpAllRound" "now" "LUpAllRound$Stair;") (List.mem_of_getElem? (i := 1) rfl)) (fun _ h9 => h9) hU0 dX5_become_51 ?_
      refine va_getN (ci := 3) (v := .ref hm) (C := RX3) (T := TX3) (N := 16) hx hb hts hin3 hown hK hP 1 rfl rfl 6 (by decide) (va_Nw.use rfl (hN (.fieldLinkNest "UpAllRound" 97 "UpAllRound$Stair" "numbers" "[I" "UpAllRound") (List.mem_of_getElem? (i := 6) rfl))) (fun _ h9 => h9) hft6 dX5_become_54 ?_
      refine lv_iload_n hx hb dX5_become_57 rfl (lv_at hl 2 rfl) ?_
      refine lv_iload_n hx hb dX5_become_58 rfl (lv_at hl 3 rfl) ?_
      refine lv_bipush (v := nI 10) hx hb dX5_become_59 (by decide) ?_
      refine lv_irem hx hb dX5_become_61 (by decide) ?_
      refine zrw (pk_rem (by omega) (by omega) (by omega)) ?_
      refine zast (t := j) hx hb hK hP hD hS 3 rfl (by omega) (by decide) dX5_become_62 (fun H locs hP hD hS => ?_)
      have hP : va_P D vwCl [(h, .inr (5, fs)), (hS9, .inr (3, ft)), (hk, .inl (cI, 6, .inl (upd ((fun c => S (8 + 4 * c + 0))) j (nI (q / 10))))), (hm, .inl (cI, 6, .inl (upd ((fun c => S (8 + 4 * c + 1))) j (nI (q % 10))))), (hE, .inl (cI, 7, .inl E))] H := hP
      have hD : va_D AA [(h, .inr (5, fs)), (hS9, .inr (3, ft)), (hk, .inl (cI, 6, .inl (upd ((fun c => S (8 + 4 * c + 0))) j (nI (q / 10))))), (hm, .inl (cI, 6, .inl (upd ((fun c => S (8 + 4 * c + 1))) j (nI (q % 10))))), (hE, .inl (cI, 7, .inl E))] := hD
      refine lv_iload_n hx hb dX5_become_63 rfl (lv_at hl 0 rfl) ?_
      exact hret hP hD hS dX5_become_64 rfl (by rw [show zo_become S E n k (nI j) (nI q) = (S (8 + 4 * j + 0), upd (upd S (8 + 4 * j + 1) (nI (q % 10))) (8 + 4 * j + 0) (nI (q / 10)), E) from by rw [zo_become, if_pos ⟨by assumption, by assumption⟩, nI_clamp (show j < 2147483648 by omega), nI_clamp (show q < 2147483648 by omega)] <;> rfl]; exact ⟨rfl, by rw [zpr_k, zpr_k, zbec0, zbec1]⟩)
    · have c18_5 := bI_nn0.mp c18_5
      refine lv_aload_n hx hb dX5_become_21 rfl (lv_at hl 0 rfl) ?_
      refine lv_iconst (v := nI 1) hx hb dX5_become_22 (by decide) ?_
      refine zci (wr := [(hS9, .inr (3, ft)), (hk, .inl (cI, 6, .inl ((fun c => S (8 + 4 * c + 0))))), (hm, .inl (cI, 6, .inl ((fun c => S (8 + 4 * c + 1)))))]) (va_runV (As := [.int (nI 1)]) (rest := []) ⟨hx, hb, hml, hown, hts⟩ (c_X5_refuse l D cI cJ h hE fs E 1 (by first | rfl | assumption | omega) (by first | rfl | assumption | omega) s.heap.size) (cwV 1 hts gX5_become_X5_refuse rfl rfl rfl (by decide +kernel) ⟨Nat.le_of_ble_eq_true rfl, Nat.le_of_ble_eq_true rfl⟩) (zpV hK hN hZ hP hD hS hA [0, 4] rfl (by decide) 0 rfl rfl rfl) rfl rfl hl.1 rfl (lv_room (Nat.le_of_ble_eq_true rfl)) dX5_become_23 ⟨Nat.zero_le _, Nat.zero_le _⟩) hP hD hS hA [0, 4] [1, 2, 3] rfl rfl (by decide) (by decide) (fun r_8 w_7 H locs h_6 hP hD hS => ?_)
      obtain ⟨rfl, rfl⟩ := h_6
      have hP : va_P D vwCl [(hS9, .inr (3, ft)), (hk, .inl (cI, 6, .inl ((fun c => S (8 + 4 * c + 0))))), (hm, .inl (cI, 6, .inl ((fun c => S (8 + 4 * c + 1))))), (h, .inr (5, fs)), (hE, .inl (cI, 7, .inl (upd E 1 (E 1 + nI 1))))] H := hP
      have hD : va_D AA [(hS9, .inr (3, ft)), (hk, .inl (cI, 6, .inl ((fun c => S (8 + 4 * c + 0))))), (hm, .inl (cI, 6, .inl ((fun c => S (8 + 4 * c + 1))))), (h, .inr (5, fs)), (hE, .inl (cI, 7, .inl (upd E 1 (E 1 + nI 1))))] := hD
      have hP := hP.sub (ws' := [(h, .inr (5, fs)), (hS9, .inr (3, ft)), (hk, .inl (cI, 6, .inl ((fun c => S (8 + 4 * c + 0))))), (hm, .inl (cI, 6, .inl ((fun c => S (8 + 4 * c + 1))))), (hE, .inl (cI, 7, .inl (upd E 1 (E 1 + nI 1))))]) [3, 0, 1, 2, 4] rfl
      have hD := hD.sub (ws' := [(h, .inr (5, fs)), (hS9, .inr (3, ft)), (hk, .inl (cI, 6, .inl ((fun c => S (8 + 4 * c + 0))))), (hm, .inl (cI, 6, .inl ((fun c => S (8 + 4 * c + 1))))), (hE, .inl (cI, 7, .inl (upd E 1 (E 1 + nI 1))))]) [3, 0, 1, 2, 4] (by decide) rfl
      exact hret hP hD hS dX5_become_26 rfl (by rw [show zo_become S E n k (nI j) km = zerrE 1 S E from by rw [zo_become, if_neg (by intro h9; first | exact absurd h9.1 (by assumption) | exact absurd h9.2 (by assumption))] <;> rfl]; exact ⟨rfl, rfl⟩)
def zo_climberIs (S E : Nat → Int32) (n k : Nat) (climber : Int32) (what : Int32) : zOut := if zin climber k ∧ zrg 0 4 what then (if what.toNatClampNeg < 4 then S (8 + 4 * climber.toNatClampNeg + what.toNatClampNeg) else zgoes (S (8 + 4 * climber.toNatClampNeg + 0)).toNatClampNeg (S (8 + 4 * climber.toNatClampNeg + 1)).toNatClampNeg (S 0).toNatClampNeg, S, E) else zerrE 1 S E
set_option maxHeartbeats 4000000 in
set_option maxRecDepth 100000 in
theorem c_X6_climberIs (l : Launch) (D : va_G) (cI cJ : ClassId) (h : Nat) (hs : Nat) (hE : Nat) (fs : List Value) (S : Nat → Int32) (E : Nat → Int32) (n : Nat) (k : Nat) (climber : Int32) (what : Int32) (hf0 : fs[0]? = some (.ref hs)) (hf4 : fs[4]? = some (.ref hE)) (hn1 : S 1 = nI n) (hk6 : S 6 = nI k) (hn4 : 4 ≤ n) (hn14 : n ≤ 14) (hkle : k ≤ 6) (hcl : ∀ c, c < k → ∃ kd m : Nat, S (8 + 4 * c + 0) = nI kd ∧ S (8 + 4 * c + 1) = nI m ∧ kd < 7 ∧ m < 10) (hmi : ∃ mi : Nat, S 0 = nI mi ∧ mi < 20000) : zMi l yX6_climberIs wsX6_climberIs ({ frames := 2, cells := 0, slots := 0, locals := 44 } : Room) D [(cI, .int), (cJ, .array .int)] [.ref h, .int climber, .int what] [(h, .inr (6, fs)), (hs, .inl (cI, 380, .inl S)), (hE, .inl (cI, 7, .inl E))] (fun r w => r = (zo_climberIs S E n k climber what).1 ∧ w = [(h, .inr (6, fs)), (hs, .inl (cI, 380, .inl ((zo_climberIs S E n k climber what).2.1))), (hE, .inl (cI, 7, .inl ((zo_climberIs S E n k climber what).2.2)))]) := by
  refine zMi.start (cc := cX6_climberIs) (maxL := 3) (rt := .int) (by first | decide | decide +kernel) rfl (Nat.le_of_ble_eq_true rfl) ?_
  intro pg ev s mt args below meth cd ls AA QQ ⟨hx, hb, hml, hr, hlocks, hown, hts, hK, hN, hZ, hP, hD, hA, hS, hl⟩ hret
  have hown : s.vm.findClass RX6 = some mt.cls := hown
  have hl : lv_has ls 3 [(0, .ref h), (1, .int climber), (2, .int what)] := hl
  have hin6 : ∀ w ∈ wsX60, w ∈ wsX6_climberIs := fun w h => List.mem_cons_of_mem _ (List.mem_append_right _ (h))
  refine lv_aload_n hx hb dX6_climberIs_0 rfl (lv_at hl 0 rfl) ?_
  refine lv_iload_n hx hb dX6_climberIs_1 rfl (lv_at hl 1 rfl) ?_
  refine zcsE (va_runV (As := [.int climber]) (rest := []) ⟨hx, hb, hml, hown, hts⟩ (c_X6_isClimber l D cI cJ h hs fs S k climber (by first | rfl | assumption | omega) (by first | rfl | assumption | omega) (by first | rfl | assumption | omega) s.heap.size) (cwV 1 hts gX6_climberIs_X6_isClimber rfl rfl rfl (by decide +kernel) ⟨Nat.le_of_ble_eq_true rfl, Nat.le_of_ble_eq_true rfl⟩) (zpV hK hN hZ hP hD hS hA [0, 1] rfl (by decide) 0 rfl rfl rfl) rfl rfl hl.1 rfl (lv_room (Nat.le_of_ble_eq_true rfl)) dX6_climberIs_2 ⟨Nat.zero_le _, Nat.zero_le _⟩) ?_
  refine lv_if_eq (tgt := 17) hx hb dX6_climberIs_5 (by decide) (fun c5_1 => ?_) (fun c5_1 => ?_)
  · have c5_1 := bI_0.mp c5_1
    refine lv_aload_n hx hb dX6_climberIs_17 rfl (lv_at hl 0 rfl) ?_
    refine lv_iconst (v := nI 1) hx hb dX6_climberIs_18 (by decide) ?_
    refine zci (wr := [(hs, .inl (cI, 380, .inl S))]) (va_runV (As := [.int (nI 1)]) (rest := []) ⟨hx, hb, hml, hown, hts⟩ (c_X6_error l D cI cJ h hE fs E 1 (by first | rfl | assumption | omega) (by first | rfl | assumption | omega) s.heap.size) (cwV 1 hts gX6_climberIs_X6_error rfl rfl rfl (by decide +kernel) ⟨Nat.le_of_ble_eq_true rfl, Nat.le_of_ble_eq_true rfl⟩) (zpV hK hN hZ hP hD hS hA [0, 2] rfl (by decide) 0 rfl rfl rfl) rfl rfl hl.1 rfl (lv_room (Nat.le_of_ble_eq_true rfl)) dX6_climberIs_19 ⟨Nat.zero_le _, Nat.zero_le _⟩) hP hD hS hA [0, 2] [1] rfl rfl (by decide) (by decide) (fun r_4 w_3 H locs h_2 hP hD hS => ?_)
    obtain ⟨rfl, rfl⟩ := h_2
    have hP : va_P D vwCl [(hs, .inl (cI, 380, .inl S)), (h, .inr (6, fs)), (hE, .inl (cI, 7, .inl (upd E 1 (E 1 + nI 1))))] H := hP
    have hD : va_D AA [(hs, .inl (cI, 380, .inl S)), (h, .inr (6, fs)), (hE, .inl (cI, 7, .inl (upd E 1 (E 1 + nI 1))))] := hD
    have hP := hP.sub (ws' := [(h, .inr (6, fs)), (hs, .inl (cI, 380, .inl S)), (hE, .inl (cI, 7, .inl (upd E 1 (E 1 + nI 1))))]) [1, 0, 2] rfl
    have hD := hD.sub (ws' := [(h, .inr (6, fs)), (hs, .inl (cI, 380, .inl S)), (hE, .inl (cI, 7, .inl (upd E 1 (E 1 + nI 1))))]) [1, 0, 2] (by decide) rfl
    exact hret hP hD hS dX6_climberIs_22 rfl (by rw [show zo_climberIs S E n k climber what = zerrE 1 S E from by rw [zo_climberIs, if_neg (by intro h9; first | exact absurd h9.1 (by assumption) | exact absurd h9.2 (by assumption))] <;> rfl]; exact ⟨rfl, rfl⟩)
  · have c5_1 := bI_n0.mp c5_1
    obtain ⟨j, h_j, rfl⟩ := zin_of c5_1 (by omega)
    refine lv_iload_n hx hb dX6_climberIs_8 rfl (lv_at hl 2 rfl) ?_
    refine lv_iconst (v := nI 0) hx hb dX6_climberIs_9 (by decide) ?_
    refine lv_iconst (v := nI 4) hx hb dX6_climberIs_10 (by decide) ?_
    refine zcsE (va_runS (As := [.int what, .int (nI 0), .int (nI 4)]) (rest := []) ⟨hx, hb, hml, hown, hts⟩ (d_X6_in l D cI cJ what (nI 0) (nI 4) 0 4 (by decide) (by decide) s.heap.size) (va_cwS 3 hts gX6_climberIs_X6_in rfl rfl rfl (by decide +kernel) ⟨Nat.le_of_ble_eq_true rfl, Nat.le_of_ble_eq_true rfl⟩) (zpS hK hN hZ hP hD hS hA [] rfl (by decide)) rfl rfl hl.1 rfl (lv_room (Nat.le_of_ble_eq_true rfl)) dX6_climberIs_11 ⟨Nat.zero_le _, Nat.zero_le _⟩) ?_
    refine lv_if_ne (tgt := 23) hx hb dX6_climberIs_14 (by decide) (fun c14_5 => ?_) (fun c14_5 => ?_)
    · have c14_5 := bI_n0.mp c14_5
      obtain ⟨q, h_q, rfl⟩ : ∃ q : Nat, q ≤ 4 ∧ what = nI q := zrg_of c14_5 (by decide)
      refine lv_iload_n hx hb dX6_climberIs_23 rfl (lv_at hl 2 rfl) ?_
      refine lv_iconst (v := nI 4) hx hb dX6_climberIs_24 (by decide) ?_
      refine lv_icmp_ge (tgt := 37) hx hb dX6_climberIs_25 (by decide) (fun c25_6 => ?_) (fun c25_6 => ?_)
      · have c25_6 : 4 ≤ q := (nI_leI (a := 4) (b := q) (by omega) (by omega)).mp c25_6
        obtain ⟨kd, m, hkd, hmm, hkd7, hm10⟩ := hcl j (by omega)
        obtain ⟨mi, hmi0, hmi2⟩ := hmi
        refine lv_aload_n hx hb dX6_climberIs_37 rfl (lv_at hl 0 rfl) ?_
        refine lv_iload_n hx hb dX6_climberIs_38 rfl (lv_at hl 1 rfl) ?_
        refine zcsE (va_runV (As := [.int (nI j)]) (rest := []) ⟨hx, hb, hml, hown, hts⟩ (c_X6_goesBy l D cI cJ h hs fs S j kd m mi (by first | rfl | assumption | omega) (by first | rfl | assumption | omega) (by first | rfl | assumption | omega) (by first | rfl | assumption | omega) (by first | rfl | assumption | omega) (by first | rfl | assumption | omega) (by first | rfl | assumption | omega) (by first | rfl | assumption | omega) s.heap.size) (cwV 1 hts gX6_climberIs_X6_goesBy rfl rfl rfl (by decide +kernel) ⟨Nat.le_of_ble_eq_true rfl, Nat.le_of_ble_eq_true rfl⟩) (zpV hK hN hZ hP hD hS hA [0, 1] rfl (by decide) 0 rfl rfl rfl) rfl rfl hl.1 rfl (lv_room (Nat.le_of_ble_eq_true rfl)) dX6_climberIs_39 ⟨Nat.zero_le _, Nat.zero_le _⟩) ?_
        exact hret hP hD hS dX6_climberIs_42 rfl (by rw [show zo_climberIs S E n k (nI j) (nI q) = (zgoes kd m mi, S, E) from by rw [zo_climberIs, if_pos ⟨by assumption, by assumption⟩, if_neg (by rw [nI_clamp (show q < 2147483648 by omega)]; omega), nI_clamp (show j < 2147483648 by omega), hkd, hmm, hmi0, nI_clamp (show kd < 2147483648 by omega), nI_clamp (show m < 2147483648 by omega), nI_clamp (show mi < 2147483648 by omega)] <;> rfl]; exact ⟨rfl, rfl⟩)
      · have c25_6 : ¬ (4 ≤ q) := fun h9 => c25_6 ((nI_leI (a := 4) (b := q) (by omega) (by omega)).mpr h9)
        refine lv_aload_n hx hb dX6_climberIs_28 rfl (lv_at hl 0 rfl) ?_
        refine lv_iload_n hx hb dX6_climberIs_29 rfl (lv_at hl 1 rfl) ?_
        refine lv_iload_n hx hb dX6_climberIs_30 rfl (lv_at hl 2 rfl) ?_
        refine zcsE (va_runV (As := [.int (nI j), .int (nI q)]) (rest := []) ⟨hx, hb, hml, hown, hts⟩ (c_X6_its l D cI cJ h hs fs S j q (by first | rfl | assumption | omega) (by first | rfl | assumption | omega) s.heap.size) (cwV 2 hts gX6_climberIs_X6_its rfl rfl rfl (by decide +kernel) ⟨Nat.le_of_ble_eq_true rfl, Nat.le_of_ble_eq_true rfl⟩) (zpV hK hN hZ hP hD hS hA [0, 1] rfl (by decide) 0 rfl rfl rfl) rfl rfl hl.1 rfl (lv_room (Nat.le_of_ble_eq_true rfl)) dX6_climberIs_31 ⟨Nat.zero_le _, Nat.zero_le _⟩) ?_
        refine lv_goto (tgt := 42) hx hb dX6_climberIs_34 (by decide) ?_
        exact hret hP hD hS dX6_climberIs_42 rfl (by rw [show zo_climberIs S E n k (nI j) (nI q) = (S (8 + 4 * j + q), S, E) from by rw [zo_climberIs, if_pos ⟨by assumption, by assumption⟩, if_pos (by rw [nI_clamp (show q < 2147483648 by omega)]; omega), nI_clamp (show j < 2147483648 by omega), nI_clamp (show q < 2147483648 by omega)] <;> rfl]; exact ⟨rfl, rfl⟩)
    · have c14_5 := bI_0.mp c14_5
      refine lv_aload_n hx hb dX6_climberIs_17 rfl (lv_at hl 0 rfl) ?_
      refine lv_iconst (v := nI 1) hx hb dX6_climberIs_18 (by decide) ?_
      refine zci (wr := [(hs, .inl (cI, 380, .inl S))]) (va_runV (As := [.int (nI 1)]) (rest := []) ⟨hx, hb, hml, hown, hts⟩ (c_X6_error l D cI cJ h hE fs E 1 (by first | rfl | assumption | omega) (by first | rfl | assumption | omega) s.heap.size) (cwV 1 hts gX6_climberIs_X6_error rfl rfl rfl (by decide +kernel) ⟨Nat.le_of_ble_eq_true rfl, Nat.le_of_ble_eq_true rfl⟩) (zpV hK hN hZ hP hD hS hA [0, 2] rfl (by decide) 0 rfl rfl rfl) rfl rfl hl.1 rfl (lv_room (Nat.le_of_ble_eq_true rfl)) dX6_climberIs_19 ⟨Nat.zero_le _, Nat.zero_le _⟩) hP hD hS hA [0, 2] [1] rfl rfl (by decide) (by decide) (fun r_9 w_8 H locs h_7 hP hD hS => ?_)
      obtain ⟨rfl, rfl⟩ := h_7
      have hP : va_P D vwCl [(hs, .inl (cI, 380, .inl S)), (h, .inr (6, fs)), (hE, .inl (cI, 7, .inl (upd E 1 (E 1 + nI 1))))] H := hP
      have hD : va_D AA [(hs, .inl (cI, 380, .inl S)), (h, .inr (6, fs)), (hE, .inl (cI, 7, .inl (upd E 1 (E 1 + nI 1))))] := hD
      have hP := hP.sub (ws' := [(h, .inr (6, fs)), (hs, .inl (cI, 380, .inl S)), (hE, .inl (cI, 7, .inl (upd E 1 (E 1 + nI 1))))]) [1, 0, 2] rfl
      have hD := hD.sub (ws' := [(h, .inr (6, fs)), (hs, .inl (cI, 380, .inl S)), (hE, .inl (cI, 7, .inl (upd E 1 (E 1 + nI 1))))]) [1, 0, 2] (by decide) rfl
      exact hret hP hD hS dX6_climberIs_22 rfl (by rw [show zo_climberIs S E n k (nI j) what = zerrE 1 S E from by rw [zo_climberIs, if_neg (by intro h9; first | exact absurd h9.1 (by assumption) | exact absurd h9.2 (by assumption))] <;> rfl]; exact ⟨rfl, rfl⟩)
set_option maxHeartbeats 4000000 in
set_option maxRecDepth 100000 in
theorem c_X5_climberIs (l : Launch) (D : va_G) (cI cJ : ClassId) (h : Nat) (hE : Nat) (hS9 : Nat) (fs : List Value) (S : Nat → Int32) (E : Nat → Int32) (n : Nat) (k : Nat) (ft : List Value) (hk : Nat) (hm : Nat) (hp : Nat) (hh : Nat) (climber : Int32) (what : Int32) (hU0 : fs[0]? = some (.ref hS9)) (hU7 : fs[7]? = some (.ref hE)) (hn1 : S 1 = nI n) (hk6 : S 6 = nI k) (hn4 : 4 ≤ n) (hn14 : n ≤ 14) (hkle : k ≤ 6) (hft3 : ft[3]? = some (.int (S 0))) (hft4 : ft[4]? = some (.int (nI k))) (hft5 : ft[5]? = some (.ref hk)) (hft6 : ft[6]? = some (.ref hm)) (hft7 : ft[7]? = some (.ref hp)) (hft8 : ft[8]? = some (.ref hh)) (hcl : ∀ c, c < k → ∃ kd m : Nat, S (8 + 4 * c + 0) = nI kd ∧ S (8 + 4 * c + 1) = nI m ∧ kd < 7 ∧ m < 10) (hmi : ∃ mi : Nat, S 0 = nI mi ∧ mi < 20000) : zMi l yX5_climberIs wsX5_climberIs ({ frames := 2, cells := 0, slots := 0, locals := 43 } : Room) D [(cI, .int), (cJ, .array .int)] [.ref h, .int climber, .int what] [(h, .inr (5, fs)), (hS9, .inr (3, ft)), (hk, .inl (cI, 6, .inl ((fun c => S (8 + 4 * c + 0))))), (hm, .inl (cI, 6, .inl ((fun c => S (8 + 4 * c + 1))))), (hp, .inl (cI, 6, .inl ((fun c => S (8 + 4 * c + 2))))), (hh, .inl (cI, 6, .inl ((fun c => S (8 + 4 * c + 3))))), (hE, .inl (cI, 7, .inl E))] (fun r w => r = (zo_climberIs S E n k climber what).1 ∧ w = [(h, .inr (5, fs)), (hS9, .inr (3, ft)), (hk, .inl (cI, 6, .inl ((fun c => S (8 + 4 * c + 0))))), (hm, .inl (cI, 6, .inl ((fun c => S (8 + 4 * c + 1))))), (hp, .inl (cI, 6, .inl ((fun c => S (8 + 4 * c + 2))))), (hh, .inl (cI, 6, .inl ((fun c => S (8 + 4 * c + 3))))), (hE, .inl (cI, 7, .inl ((zo_climberIs S E n k climber what).2.2)))]) := by
  refine zMi.start (cc := cX5_climberIs) (maxL := 3) (rt := .int) (by first | decide | decide +kernel) rfl (Nat.le_of_ble_eq_true rfl) ?_
  intro pg ev s mt args below meth cd ls AA QQ ⟨hx, hb, hml, hr, hlocks, hown, hts, hK, hN, hZ, hP, hD, hA, hS, hl⟩ hret
  have hown : s.vm.findClass RX5 = some mt.cls := hown
  have hl : lv_has ls 3 [(0, .ref h), (1, .int climber), (2, .int what)] := hl
  have hin3 : ∀ w ∈ wsX30, w ∈ wsX5_climberIs := fun w h => List.mem_cons_of_mem _ (List.mem_append_right _ (h))
  have hin5 : ∀ w ∈ wsX50, w ∈ wsX5_climberIs := fun w h => List.mem_cons_of_mem _ (List.mem_append_left _ (List.mem_append_right _ (h)))
  refine lv_aload_n hx hb dX5_climberIs_0 rfl (lv_at hl 0 rfl) ?_
  refine va_get (ci := 5) (v := .ref hS9) (C := RX5) (T := TX5) (N := 9) hx hb hts hin5 hown hK hP 0 rfl rfl 0 (by decide) (hts (.fieldLink RX5 12 "UpAllRound" "now" "LUpAllRound$Stair;") (List.mem_of_getElem? (i := 1) rfl)) (fun _ h9 => h9) hU0 dX5_climberIs_1 ?_
  refine lv_iload_n hx hb dX5_climberIs_4 rfl (lv_at hl 1 rfl) ?_
  refine zcsE (va_runVN (As := [.int climber]) (rest := []) ⟨hx, hb, hml, hown, hts⟩ (c_X3_hasClimber l D cI cJ hS9 ft k climber (by first | rfl | assumption | omega) (by first | rfl | assumption | omega) s.heap.size) ⟨va_cnB 1 hts gX5_climberIs_X3_hasClimber_n91 rfl rfl rfl (hN (.methodLinkNest "UpAllRound" 91 yX3_hasClimber "UpAllRound") (List.mem_of_getElem? (i := 33) rfl)) (hts (.initialized RX3) (List.mem_of_getElem? (i := 3) rfl)) (by decide +kernel) ⟨Nat.le_of_ble_eq_true rfl, Nat.le_of_ble_eq_true rfl⟩, (hts (.instanceMethod yX3_hasClimber) (List.mem_of_getElem? (i := 2) rfl)), (hts (.selects RX3 yX3_hasClimber yX3_hasClimber) (List.mem_of_getElem? (i := 4) rfl))⟩ (zpV hK hN hZ hP hD hS hA [1] rfl (by decide) 1 rfl rfl rfl) rfl rfl hl.1 rfl (lv_room (Nat.le_of_ble_eq_true rfl)) dX5_climberIs_5 ⟨Nat.zero_le _, Nat.zero_le _⟩) ?_
  refine lv_if_eq (tgt := 20) hx hb dX5_climberIs_8 (by decide) (fun c8_1 => ?_) (fun c8_1 => ?_)
  · have c8_1 := bI_0.mp c8_1
    refine lv_aload_n hx hb dX5_climberIs_20 rfl (lv_at hl 0 rfl) ?_
    refine lv_iconst (v := nI 1) hx hb dX5_climberIs_21 (by decide) ?_
    refine zci (wr := [(hS9, .inr (3, ft)), (hk, .inl (cI, 6, .inl ((fun c => S (8 + 4 * c + 0))))), (hm, .inl (cI, 6, .inl ((fun c => S (8 + 4 * c + 1))))), (hp, .inl (cI, 6, .inl ((fun c => S (8 + 4 * c + 2))))), (hh, .inl (cI, 6, .inl ((fun c => S (8 + 4 * c + 3)))))]) (va_runV (As := [.int (nI 1)]) (rest := []) ⟨hx, hb, hml, hown, hts⟩ (c_X5_refuse l D cI cJ h hE fs E 1 (by first | rfl | assumption | omega) (by first | rfl | assumption | omega) s.heap.size) (cwV 1 hts gX5_climberIs_X5_refuse rfl rfl rfl (by decide +kernel) ⟨Nat.le_of_ble_eq_true rfl, Nat.le_of_ble_eq_true rfl⟩) (zpV hK hN hZ hP hD hS hA [0, 6] rfl (by decide) 0 rfl rfl rfl) rfl rfl hl.1 rfl (lv_room (Nat.le_of_ble_eq_true rfl)) dX5_climberIs_22 ⟨Nat.zero_le _, Nat.zero_le _⟩) hP hD hS hA [0, 6] [1, 2, 3, 4, 5] rfl rfl (by decide) (by decide) (fun r_4 w_3 H locs h_2 hP hD hS => ?_)
    obtain ⟨rfl, rfl⟩ := h_2
    have hP : va_P D vwCl [(hS9, .inr (3, ft)), (hk, .inl (cI, 6, .inl ((fun c => S (8 + 4 * c + 0))))), (hm, .inl (cI, 6, .inl ((fun c => S (8 + 4 * c + 1))))), (hp, .inl (cI, 6, .inl ((fun c => S (8 + 4 * c + 2))))), (hh, .inl (cI, 6, .inl ((fun c => S (8 + 4 * c + 3))))), (h, .inr (5, fs)), (hE, .inl (cI, 7, .inl (upd E 1 (E 1 + nI 1))))] H := hP
    have hD : va_D AA [(hS9, .inr (3, ft)), (hk, .inl (cI, 6, .inl ((fun c => S (8 + 4 * c + 0))))), (hm, .inl (cI, 6, .inl ((fun c => S (8 + 4 * c + 1))))), (hp, .inl (cI, 6, .inl ((fun c => S (8 + 4 * c + 2))))), (hh, .inl (cI, 6, .inl ((fun c => S (8 + 4 * c + 3))))), (h, .inr (5, fs)), (hE, .inl (cI, 7, .inl (upd E 1 (E 1 + nI 1))))] := hD
    have hP := hP.sub (ws' := [(h, .inr (5, fs)), (hS9, .inr (3, ft)), (hk, .inl (cI, 6, .inl ((fun c => S (8 + 4 * c + 0))))), (hm, .inl (cI, 6, .inl ((fun c => S (8 + 4 * c + 1))))), (hp, .inl (cI, 6, .inl ((fun c => S (8 + 4 * c + 2))))), (hh, .inl (cI, 6, .inl ((fun c => S (8 + 4 * c + 3))))), (hE, .inl (cI, 7, .inl (upd E 1 (E 1 + nI 1))))]) [5, 0, 1, 2, 3, 4, 6] rfl
    have hD := hD.sub (ws' := [(h, .inr (5, fs)), (hS9, .inr (3, ft)), (hk, .inl (cI, 6, .inl ((fun c => S (8 + 4 * c + 0))))), (hm, .inl (cI, 6, .inl ((fun c => S (8 + 4 * c + 1))))), (hp, .inl (cI, 6, .inl ((fun c => S (8 + 4 * c + 2))))), (hh, .inl (cI, 6, .inl ((fun c => S (8 + 4 * c + 3))))), (hE, .inl (cI, 7, .inl (upd E 1 (E 1 + nI 1))))]) [5, 0, 1, 2, 3, 4, 6] (by decide) rfl
    exact hret hP hD hS dX5_climberIs_25 rfl (by rw [show zo_climberIs S E n k climber what = zerrE 1 S E from by rw [zo_climberIs, if_neg (by intro h9; first | exact absurd h9.1 (by assumption) | exact absurd h9.2 (by assumption))] <;> rfl]; exact ⟨rfl, rfl⟩)
  · have c8_1 := bI_n0.mp c8_1
    obtain ⟨j, h_j, rfl⟩ := zin_of c8_1 (by omega)
    refine lv_iload_n hx hb dX5_climberIs_11 rfl (lv_at hl 2 rfl) ?_
    refine lv_iconst (v := nI 0) hx hb dX5_climberIs_12 (by decide) ?_
    refine lv_iconst (v := nI 4) hx hb dX5_climberIs_13 (by decide) ?_
    refine zcsE (va_runS (As := [.int what, .int (nI 0), .int (nI 4)]) (rest := []) ⟨hx, hb, hml, hown, hts⟩ (d_X5_isOutside l D cI cJ what (nI 0) (nI 4) 0 4 (by decide) (by decide) s.heap.size) (va_cwS 3 hts gX5_climberIs_X5_isOutside rfl rfl rfl (by decide +kernel) ⟨Nat.le_of_ble_eq_true rfl, Nat.le_of_ble_eq_true rfl⟩) (zpS hK hN hZ hP hD hS hA [] rfl (by decide)) rfl rfl hl.1 rfl (lv_room (Nat.le_of_ble_eq_true rfl)) dX5_climberIs_14 ⟨Nat.zero_le _, Nat.zero_le _⟩) ?_
    refine lv_if_eq (tgt := 26) hx hb dX5_climberIs_17 (by decide) (fun c17_5 => ?_) (fun c17_5 => ?_)
    · have c17_5 := bI_nX0.mp c17_5
      obtain ⟨q, h_q, rfl⟩ : ∃ q : Nat, q ≤ 4 ∧ what = nI q := zrg_of c17_5 (by decide)
      refine lv_iload_n hx hb dX5_climberIs_26 rfl (lv_at hl 2 rfl) ?_
      by_cases k27_6 : q = 0
      · refine lv_tableIn (off := 29) (tgt := 56) hx hb dX5_climberIs_27 (by rw [k27_6]; decide) (by rw [k27_6]; decide) (by rw [k27_6]; rfl) (by decide) ?_
        refine lv_aload_n hx hb dX5_climberIs_56 rfl (lv_at hl 0 rfl) ?_
        refine va_get (ci := 5) (v := .ref hS9) (C := RX5) (T := TX5) (N := 9) hx hb hts hin5 hown hK hP 0 rfl rfl 0 (by decide) (hts (.fieldLink RX5 12 "UpAllRound" "now" "LUpAllRound$Stair;") (List.mem_of_getElem? (i := 1) rfl)) (fun _ h9 => h9) hU0 dX5_climberIs_57 ?_
        refine va_getN (ci := 3) (v := .ref hk) (C := RX3) (T := TX3) (N := 16) hx hb hts hin3 hown hK hP 1 rfl rfl 5 (by decide) (va_Nw.use rfl (hN (.fieldLinkNest "UpAllRound" 94 "UpAllRound$Stair" "kinds" "[I" "UpAllRound") (List.mem_of_getElem? (i := 5) rfl))) (fun _ h9 => h9) hft5 dX5_climberIs_60 ?_
        refine lv_iload_n hx hb dX5_climberIs_63 rfl (lv_at hl 1 rfl) ?_
        refine zald (t := j) hx hb hK hP 2 rfl (by omega) (by decide) dX5_climberIs_64 ?_
        exact hret hP hD hS dX5_climberIs_65 rfl (by rw [show zo_climberIs S E n k (nI j) (nI q) = (S (8 + 4 * j + q), S, E) from by rw [zo_climberIs, if_pos ⟨by assumption, by assumption⟩, if_pos (by rw [nI_clamp (show q < 2147483648 by omega)]; omega), nI_clamp (show j < 2147483648 by omega), nI_clamp (show q < 2147483648 by omega)] <;> rfl]; exact ⟨by subst k27_6; rfl, rfl⟩)
      by_cases k27_7 : q = 1
      · refine lv_tableIn (off := 39) (tgt := 66) hx hb dX5_climberIs_27 (by rw [k27_7]; decide) (by rw [k27_7]; decide) (by rw [k27_7]; rfl) (by decide) ?_
        refine lv_aload_n hx hb dX5_climberIs_66 rfl (lv_at hl 0 rfl) ?_
        refine va_get (ci := 5) (v := .ref hS9) (C := RX5) (T := TX5) (N := 9) hx hb hts hin5 hown hK hP 0 rfl rfl 0 (by decide) (hts (.fieldLink RX5 12 "UpAllRound" "now" "LUpAllRound$Stair;") (List.mem_of_getElem? (i := 1) rfl)) (fun _ h9 => h9) hU0 dX5_climberIs_67 ?_
        refine va_getN (ci := 3) (v := .ref hm) (C := RX3) (T := TX3) (N := 16) hx hb hts hin3 hown hK hP 1 rfl rfl 6 (by decide) (va_Nw.use rfl (hN (.fieldLinkNest "UpAllRound" 97 "UpAllRound$Stair" "numbers" "[I" "UpAllRound") (List.mem_of_getElem? (i := 6) rfl))) (fun _ h9 => h9) hft6 dX5_climberIs_70 ?_
        refine lv_iload_n hx hb dX5_climberIs_73 rfl (lv_at hl 1 rfl) ?_
        refine zald (t := j) hx hb hK hP 3 rfl (by omega) (by decide) dX5_climberIs_74 ?_
        exact hret hP hD hS dX5_climberIs_75 rfl (by rw [show zo_climberIs S E n k (nI j) (nI q) = (S (8 + 4 * j + q), S, E) from by rw [zo_climberIs, if_pos ⟨by assumption, by assumption⟩, if_pos (by rw [nI_clamp (show q < 2147483648 by omega)]; omega), nI_clamp (show j < 2147483648 by omega), nI_clamp (show q < 2147483648 by omega)] <;> rfl]; exact ⟨by subst k27_7; rfl, rfl⟩)
      by_cases k27_8 : q = 2
      · refine lv_tableIn (off := 49) (tgt := 76) hx hb dX5_climberIs_27 (by rw [k27_8]; decide) (by rw [k27_8]; decide) (by rw [k27_8]; rfl) (by decide) ?_
        refine lv_aload_n hx hb dX5_climberIs_76 rfl (lv_at hl 0 rfl) ?_
        refine va_get (ci := 5) (v := .ref hS9) (C := RX5) (T := TX5) (N := 9) hx hb hts hin5 hown hK hP 0 rfl rfl 0 (by decide) (hts (.fieldLink RX5 12 "UpAllRound" "now" "LUpAllRound$Stair;") (List.mem_of_getElem? (i := 1) rfl)) (fun _ h9 => h9) hU0 dX5_climberIs_77 ?_
        refine va_getN (ci := 3) (v := .ref hp) (C := RX3) (T := TX3) (N := 16) hx hb hts hin3 hown hK hP 1 rfl rfl 7 (by decide) (va_Nw.use rfl (hN (.fieldLinkNest "UpAllRound" 100 "UpAllRound$Stair" "places" "[I" "UpAllRound") (List.mem_of_getElem? (i := 7) rfl))) (fun _ h9 => h9) hft7 dX5_climberIs_80 ?_
        refine lv_iload_n hx hb dX5_climberIs_83 rfl (lv_at hl 1 rfl) ?_
        refine zald (t := j) hx hb hK hP 4 rfl (by omega) (by decide) dX5_climberIs_84 ?_
        exact hret hP hD hS dX5_climberIs_85 rfl (by rw [show zo_climberIs S E n k (nI j) (nI q) = (S (8 + 4 * j + q), S, E) from by rw [zo_climberIs, if_pos ⟨by assumption, by assumption⟩, if_pos (by rw [nI_clamp (show q < 2147483648 by omega)]; omega), nI_clamp (show j < 2147483648 by omega), nI_clamp (show q < 2147483648 by omega)] <;> rfl]; exact ⟨by subst k27_8; rfl, rfl⟩)
      by_cases k27_9 : q = 3
      · refine lv_tableIn (off := 59) (tgt := 86) hx hb dX5_climberIs_27 (by rw [k27_9]; decide) (by rw [k27_9]; decide) (by rw [k27_9]; rfl) (by decide) ?_
        refine lv_aload_n hx hb dX5_climberIs_86 rfl (lv_at hl 0 rfl) ?_
        refine va_get (ci := 5) (v := .ref hS9) (C := RX5) (T := TX5) (N := 9) hx hb hts hin5 hown hK hP 0 rfl rfl 0 (by decide) (hts (.fieldLink RX5 12 "UpAllRound" "now" "LUpAllRound$Stair;") (List.mem_of_getElem? (i := 1) rfl)) (fun _ h9 => h9) hU0 dX5_climberIs_87 ?_
        refine va_getN (ci := 3) (v := .ref hh) (C := RX3) (T := TX3) (N := 16) hx hb hts hin3 hown hK hP 1 rfl rfl 8 (by decide) (va_Nw.use rfl (hN (.fieldLinkNest "UpAllRound" 103 "UpAllRound$Stair" "heights" "[I" "UpAllRound") (List.mem_of_getElem? (i := 8) rfl))) (fun _ h9 => h9) hft8 dX5_climberIs_90 ?_
        refine lv_iload_n hx hb dX5_climberIs_93 rfl (lv_at hl 1 rfl) ?_
        refine zald (t := j) hx hb hK hP 5 rfl (by omega) (by decide) dX5_climberIs_94 ?_
        exact hret hP hD hS dX5_climberIs_95 rfl (by rw [show zo_climberIs S E n k (nI j) (nI q) = (S (8 + 4 * j + q), S, E) from by rw [zo_climberIs, if_pos ⟨by assumption, by assumption⟩, if_pos (by rw [nI_clamp (show q < 2147483648 by omega)]; omega), nI_clamp (show j < 2147483648 by omega), nI_clamp (show q < 2147483648 by omega)] <;> rfl]; exact ⟨by subst k27_9; rfl, rfl⟩)
      refine lv_tableOut (tgt := 96) hx hb dX5_climberIs_27 (by rw [nI_toInt (by omega)]; omega) (by decide) ?_
      obtain ⟨kd, m, hkd, hmm, hkd7, hm10⟩ := hcl j (by omega)
      obtain ⟨mi, hmi0, hmi2⟩ := hmi
      refine lv_aload_n hx hb dX5_climberIs_96 rfl (lv_at hl 0 rfl) ?_
      refine va_get (ci := 5) (v := .ref hS9) (C := RX5) (T := TX5) (N := 9) hx hb hts hin5 hown hK hP 0 rfl rfl 0 (by decide) (hts (.fieldLink RX5 12 "UpAllRound" "now" "LUpAllRound$Stair;") (List.mem_of_getElem? (i := 1) rfl)) (fun _ h9 => h9) hU0 dX5_climberIs_97 ?_
      refine lv_iload_n hx hb dX5_climberIs_100 rfl (lv_at hl 1 rfl) ?_
      refine zcsE (va_runVN (As := [.int (nI j)]) (rest := []) ⟨hx, hb, hml, hown, hts⟩ (c_X3_goes l D cI cJ hS9 hk hm ft ((fun c => S (8 + 4 * c + 0))) ((fun c => S (8 + 4 * c + 1))) j kd m mi (by rw [hft3, hmi0]) (by first | rfl | assumption | omega) (by first | rfl | assumption | omega) (by first | rfl | assumption | omega) hkd hmm (by first | rfl | assumption | omega) (by first | rfl | assumption | omega) (by first | rfl | assumption | omega) s.heap.size) ⟨va_cnB 1 hts gX5_climberIs_X3_goes_n106 rfl rfl rfl (hN (.methodLinkNest "UpAllRound" 106 yX3_goes "UpAllRound") (List.mem_of_getElem? (i := 34) rfl)) (hts (.initialized RX3) (List.mem_of_getElem? (i := 3) rfl)) (by decide +kernel) ⟨Nat.le_of_ble_eq_true rfl, Nat.le_of_ble_eq_true rfl⟩, (hts (.instanceMethod yX3_goes) (List.mem_of_getElem? (i := 17) rfl)), (hts (.selects RX3 yX3_goes yX3_goes) (List.mem_of_getElem? (i := 18) rfl))⟩ (zpV hK hN hZ hP hD hS hA [1, 2, 3] rfl (by decide) 1 rfl rfl rfl) rfl rfl hl.1 rfl (lv_room (Nat.le_of_ble_eq_true rfl)) dX5_climberIs_101 ⟨Nat.zero_le _, Nat.zero_le _⟩) ?_
      exact hret hP hD hS dX5_climberIs_104 rfl (by rw [show zo_climberIs S E n k (nI j) (nI q) = (zgoes kd m mi, S, E) from by rw [zo_climberIs, if_pos ⟨by assumption, by assumption⟩, if_neg (by rw [nI_clamp (show q < 2147483648 by omega)]; omega), nI_clamp (show j < 2147483648 by omega), hkd, hmm, hmi0, nI_clamp (show kd < 2147483648 by omega), nI_clamp (show m < 2147483648 by omega), nI_clamp (show mi < 2147483648 by omega)] <;> rfl]; exact ⟨rfl, rfl⟩)
    · have c17_5 := bI_nn0.mp c17_5
      refine lv_aload_n hx hb dX5_climberIs_20 rfl (lv_at hl 0 rfl) ?_
      refine lv_iconst (v := nI 1) hx hb dX5_climberIs_21 (by decide) ?_
      refine zci (wr := [(hS9, .inr (3, ft)), (hk, .inl (cI, 6, .inl ((fun c => S (8 + 4 * c + 0))))), (hm, .inl (cI, 6, .inl ((fun c => S (8 + 4 * c + 1))))), (hp, .inl (cI, 6, .inl ((fun c => S (8 + 4 * c + 2))))), (hh, .inl (cI, 6, .inl ((fun c => S (8 + 4 * c + 3)))))]) (va_runV (As := [.int (nI 1)]) (rest := []) ⟨hx, hb, hml, hown, hts⟩ (c_X5_refuse l D cI cJ h hE fs E 1 (by first | rfl | assumption | omega) (by first | rfl | assumption | omega) s.heap.size) (cwV 1 hts gX5_climberIs_X5_refuse rfl rfl rfl (by decide +kernel) ⟨Nat.le_of_ble_eq_true rfl, Nat.le_of_ble_eq_true rfl⟩) (zpV hK hN hZ hP hD hS hA [0, 6] rfl (by decide) 0 rfl rfl rfl) rfl rfl hl.1 rfl (lv_room (Nat.le_of_ble_eq_true rfl)) dX5_climberIs_22 ⟨Nat.zero_le _, Nat.zero_le _⟩) hP hD hS hA [0, 6] [1, 2, 3, 4, 5] rfl rfl (by decide) (by decide) (fun r_12 w_11 H locs h_10 hP hD hS => ?_)
      obtain ⟨rfl, rfl⟩ := h_10
      have hP : va_P D vwCl [(hS9, .inr (3, ft)), (hk, .inl (cI, 6, .inl ((fun c => S (8 + 4 * c + 0))))), (hm, .inl (cI, 6, .inl ((fun c => S (8 + 4 * c + 1))))), (hp, .inl (cI, 6, .inl ((fun c => S (8 + 4 * c + 2))))), (hh, .inl (cI, 6, .inl ((fun c => S (8 + 4 * c + 3))))), (h, .inr (5, fs)), (hE, .inl (cI, 7, .inl (upd E 1 (E 1 + nI 1))))] H := hP
      have hD : va_D AA [(hS9, .inr (3, ft)), (hk, .inl (cI, 6, .inl ((fun c => S (8 + 4 * c + 0))))), (hm, .inl (cI, 6, .inl ((fun c => S (8 + 4 * c + 1))))), (hp, .inl (cI, 6, .inl ((fun c => S (8 + 4 * c + 2))))), (hh, .inl (cI, 6, .inl ((fun c => S (8 + 4 * c + 3))))), (h, .inr (5, fs)), (hE, .inl (cI, 7, .inl (upd E 1 (E 1 + nI 1))))] := hD
      have hP := hP.sub (ws' := [(h, .inr (5, fs)), (hS9, .inr (3, ft)), (hk, .inl (cI, 6, .inl ((fun c => S (8 + 4 * c + 0))))), (hm, .inl (cI, 6, .inl ((fun c => S (8 + 4 * c + 1))))), (hp, .inl (cI, 6, .inl ((fun c => S (8 + 4 * c + 2))))), (hh, .inl (cI, 6, .inl ((fun c => S (8 + 4 * c + 3))))), (hE, .inl (cI, 7, .inl (upd E 1 (E 1 + nI 1))))]) [5, 0, 1, 2, 3, 4, 6] rfl
      have hD := hD.sub (ws' := [(h, .inr (5, fs)), (hS9, .inr (3, ft)), (hk, .inl (cI, 6, .inl ((fun c => S (8 + 4 * c + 0))))), (hm, .inl (cI, 6, .inl ((fun c => S (8 + 4 * c + 1))))), (hp, .inl (cI, 6, .inl ((fun c => S (8 + 4 * c + 2))))), (hh, .inl (cI, 6, .inl ((fun c => S (8 + 4 * c + 3))))), (hE, .inl (cI, 7, .inl (upd E 1 (E 1 + nI 1))))]) [5, 0, 1, 2, 3, 4, 6] (by decide) rfl
      exact hret hP hD hS dX5_climberIs_25 rfl (by rw [show zo_climberIs S E n k (nI j) what = zerrE 1 S E from by rw [zo_climberIs, if_neg (by intro h9; first | exact absurd h9.1 (by assumption) | exact absurd h9.2 (by assumption))] <;> rfl]; exact ⟨rfl, rfl⟩)
def zo_seed (S E : Nat → Int32) (n k : Nat) (v : Int32) : zOut := (S 3, upd S 3 v, E)
set_option maxHeartbeats 4000000 in
set_option maxRecDepth 100000 in
theorem c_X6_seed (l : Launch) (D : va_G) (cI cJ : ClassId) (h : Nat) (hs : Nat) (hE : Nat) (fs : List Value) (S : Nat → Int32) (E : Nat → Int32) (n : Nat) (k : Nat) (v : Int32) (hf0 : fs[0]? = some (.ref hs)) (hf4 : fs[4]? = some (.ref hE)) (hn1 : S 1 = nI n) (hk6 : S 6 = nI k) (hn4 : 4 ≤ n) (hn14 : n ≤ 14) (hkle : k ≤ 6) : zMi l yX6_seed wsX6_seed ({ frames := 1, cells := 0, slots := 0, locals := 23 } : Room) D [(cI, .int), (cJ, .array .int)] [.ref h, .int v] [(h, .inr (6, fs)), (hs, .inl (cI, 380, .inl S)), (hE, .inl (cI, 7, .inl E))] (fun r w => r = (zo_seed S E n k v).1 ∧ w = [(h, .inr (6, fs)), (hs, .inl (cI, 380, .inl ((zo_seed S E n k v).2.1))), (hE, .inl (cI, 7, .inl ((zo_seed S E n k v).2.2)))]) := by
  refine zMi.start (cc := cX6_seed) (maxL := 2) (rt := .int) (by first | decide | decide +kernel) rfl (Nat.le_of_ble_eq_true rfl) ?_
  intro pg ev s mt args below meth cd ls AA QQ ⟨hx, hb, hml, hr, hlocks, hown, hts, hK, hN, hZ, hP, hD, hA, hS, hl⟩ hret
  have hown : s.vm.findClass RX6 = some mt.cls := hown
  have hl : lv_has ls 2 [(0, .ref h), (1, .int v)] := hl
  have hin6 : ∀ w ∈ wsX60, w ∈ wsX6_seed := fun w h => List.mem_cons_of_mem _ (List.mem_append_right _ (h))
  refine lv_aload_n hx hb dX6_seed_0 rfl (lv_at hl 0 rfl) ?_
  refine lv_iconst (v := nI 3) hx hb dX6_seed_1 (by decide) ?_
  refine lv_iload_n hx hb dX6_seed_2 rfl (lv_at hl 1 rfl) ?_
  refine zci (wr := [(hE, .inl (cI, 7, .inl E))]) (va_runV (As := [.int (nI 3), .int v]) (rest := []) ⟨hx, hb, hml, hown, hts⟩ (c_X6_change1 l D cI cJ h hs fs S 3 v (by first | rfl | assumption | omega) (by first | rfl | assumption | omega) s.heap.size) (cwV 2 hts gX6_seed_X6_change1 rfl rfl rfl (by decide +kernel) ⟨Nat.le_of_ble_eq_true rfl, Nat.le_of_ble_eq_true rfl⟩) (zpV hK hN hZ hP hD hS hA [0, 1] rfl (by decide) 0 rfl rfl rfl) rfl rfl hl.1 rfl (lv_room (Nat.le_of_ble_eq_true rfl)) dX6_seed_3 ⟨Nat.zero_le _, Nat.zero_le _⟩) hP hD hS hA [0, 1] [2] rfl rfl (by decide) (by decide) (fun r_3 w_2 H locs h_1 hP hD hS => ?_)
  obtain ⟨rfl, rfl⟩ := h_1
  have hP : va_P D vwCl [(hE, .inl (cI, 7, .inl E)), (h, .inr (6, fs)), (hs, .inl (cI, 380, .inl (upd S 3 v)))] H := hP
  have hD : va_D AA [(hE, .inl (cI, 7, .inl E)), (h, .inr (6, fs)), (hs, .inl (cI, 380, .inl (upd S 3 v)))] := hD
  have hP := hP.sub (ws' := [(h, .inr (6, fs)), (hs, .inl (cI, 380, .inl (upd S 3 v))), (hE, .inl (cI, 7, .inl E))]) [1, 2, 0] rfl
  have hD := hD.sub (ws' := [(h, .inr (6, fs)), (hs, .inl (cI, 380, .inl (upd S 3 v))), (hE, .inl (cI, 7, .inl E))]) [1, 2, 0] (by decide) rfl
  exact hret hP hD hS dX6_seed_6 rfl (by rw [show zo_seed S E n k v = (S 3, upd S 3 v, E) from by rw [zo_seed] <;> rfl]; exact ⟨rfl, rfl⟩)
set_option maxHeartbeats 4000000 in
set_option maxRecDepth 100000 in
theorem c_X5_seed (l : Launch) (D : va_G) (cI cJ : ClassId) (h : Nat) (hE : Nat) (hS9 : Nat) (fs : List Value) (S : Nat → Int32) (E : Nat → Int32) (n : Nat) (k : Nat) (hr9 : Nat) (hk : Nat) (hm : Nat) (hp : Nat) (hh : Nat) (hw : Nat) (hv : Nat) (ht : Nat) (hq : Nat) (v : Int32) (hU0 : fs[0]? = some (.ref hS9)) (hU7 : fs[7]? = some (.ref hE)) (hn1 : S 1 = nI n) (hk6 : S 6 = nI k) (hn4 : 4 ≤ n) (hn14 : n ≤ 14) (hkle : k ≤ 6) : zMi l yX5_seed wsX5_seed ({ frames := 0, cells := 0, slots := 0, locals := 0 } : Room) D [(cI, .int), (cJ, .array .int)] [.ref h, .int v] [(h, .inr (5, fs)), (hS9, .inr (3, [.int (nI n), .ref hr9, .int (S 2), .int (S 0), .int (nI k), .ref hk, .ref hm, .ref hp, .ref hh, .ref hw, .ref hv, .int (S 3), .ref ht, .int (S 4), .ref hq, .int (S 5)])), (hE, .inl (cI, 7, .inl E))] (fun r w => r = (zo_seed S E n k v).1 ∧ w = [(h, .inr (5, fs)), (hS9, .inr (3, [.int (nI n), .ref hr9, .int (S 2), .int (S 0), .int (nI k), .ref hk, .ref hm, .ref hp, .ref hh, .ref hw, .ref hv, .int ((zo_seed S E n k v).2.1 3), .ref ht, .int (S 4), .ref hq, .int (S 5)])), (hE, .inl (cI, 7, .inl ((zo_seed S E n k v).2.2)))]) := by
  refine zMi.start (cc := cX5_seed) (maxL := 3) (rt := .int) (by first | decide | decide +kernel) rfl (Nat.le_of_ble_eq_true rfl) ?_
  intro pg ev s mt args below meth cd ls AA QQ ⟨hx, hb, hml, hr, hlocks, hown, hts, hK, hN, hZ, hP, hD, hA, hS, hl⟩ hret
  have hown : s.vm.findClass RX5 = some mt.cls := hown
  have hl : lv_has ls 3 [(0, .ref h), (1, .int v)] := hl
  have hin3 : ∀ w ∈ wsX30, w ∈ wsX5_seed := fun w h => List.mem_cons_of_mem _ (List.mem_append_right _ (h))
  have hin5 : ∀ w ∈ wsX50, w ∈ wsX5_seed := fun w h => List.mem_cons_of_mem _ (List.mem_append_left _ (List.mem_append_right _ (h)))
  refine lv_aload_n hx hb dX5_seed_0 rfl (lv_at hl 0 rfl) ?_
  refine va_get (ci := 5) (v := .ref hS9) (C := RX5) (T := TX5) (N := 9) hx hb hts hin5 hown hK hP 0 rfl rfl 0 (by decide) (hts (.fieldLink RX5 12 "UpAllRound" "now" "LUpAllRound$Stair;") (List.mem_of_getElem? (i := 1) rfl)) (fun _ h9 => h9) hU0 dX5_seed_1 ?_
  refine va_getN (ci := 3) (v := .int (S 3)) (C := RX3) (T := TX3) (N := 16) hx hb hts hin3 hown hK hP 1 rfl rfl 11 (by decide) (va_Nw.use rfl (hN (.fieldLinkNest "UpAllRound" 171 "UpAllRound$Stair" "z" "I" "UpAllRound") (List.mem_of_getElem? (i := 9) rfl))) (fun _ h9 => h9) rfl dX5_seed_4 ?_
  refine lv_istore_n (lv' := [(2, .int (S 3)), (0, .ref h), (1, .int v)]) hx hb dX5_seed_7 rfl hl (by decide) rfl (fun ls hl => ?_)
  refine lv_aload_n hx hb dX5_seed_8 rfl (lv_at hl 1 rfl) ?_
  refine va_get (ci := 5) (v := .ref hS9) (C := RX5) (T := TX5) (N := 9) hx hb hts hin5 hown hK hP 0 rfl rfl 0 (by decide) (hts (.fieldLink RX5 12 "UpAllRound" "now" "LUpAllRound$Stair;") (List.mem_of_getElem? (i := 1) rfl)) (fun _ h9 => h9) hU0 dX5_seed_9 ?_
  refine lv_iload_n hx hb dX5_seed_12 rfl (lv_at hl 2 rfl) ?_
  refine va_putN (ci := 3) (v := .int v) (ty := .int) (C := RX3) (T := TX3) (N := 16) hx hb hts hin3 tyX3 tyX3_ok nmX3 hown hK hP hD hS 1 rfl rfl 11 (by decide) (va_Nw.use rfl (hN (.fieldLinkNest "UpAllRound" 171 "UpAllRound$Stair" "z" "I" "UpAllRound") (List.mem_of_getElem? (i := 9) rfl))) (fun _ h9 => h9) rfl (by decide +kernel) rfl rfl (Nat.le_of_ble_eq_true rfl) dX5_seed_13 (fun H locs hP hD hS => ?_)
  have hP : va_P D vwCl [(h, .inr (5, fs)), (hS9, .inr (3, [.int (nI n), .ref hr9, .int (S 2), .int (S 0), .int (nI k), .ref hk, .ref hm, .ref hp, .ref hh, .ref hw, .ref hv, .int v, .ref ht, .int (S 4), .ref hq, .int (S 5)])), (hE, .inl (cI, 7, .inl E))] H := hP
  have hD : va_D AA [(h, .inr (5, fs)), (hS9, .inr (3, [.int (nI n), .ref hr9, .int (S 2), .int (S 0), .int (nI k), .ref hk, .ref hm, .ref hp, .ref hh, .ref hw, .ref hv, .int v, .ref ht, .int (S 4), .ref hq, .int (S 5)])), (hE, .inl (cI, 7, .inl E))] := hD
  refine lv_iload_n hx hb dX5_seed_16 rfl (lv_at hl 0 rfl) ?_
  exact hret hP hD hS dX5_seed_17 rfl (by rw [show zo_seed S E n k v = (S 3, upd S 3 v, E) from by rw [zo_seed] <;> rfl]; exact ⟨rfl, rfl⟩)
def zo_told (S E : Nat → Int32) (n k : Nat) (v : Int32) : zOut := if zrg 1 6 v then (E v.toNatClampNeg, S, E) else zerrE 1 S E
set_option maxHeartbeats 4000000 in
set_option maxRecDepth 100000 in
theorem c_X6_told (l : Launch) (D : va_G) (cI cJ : ClassId) (h : Nat) (hs : Nat) (hE : Nat) (fs : List Value) (S : Nat → Int32) (E : Nat → Int32) (n : Nat) (k : Nat) (v : Int32) (hf0 : fs[0]? = some (.ref hs)) (hf4 : fs[4]? = some (.ref hE)) (hn1 : S 1 = nI n) (hk6 : S 6 = nI k) (hn4 : 4 ≤ n) (hn14 : n ≤ 14) (hkle : k ≤ 6) : zMi l yX6_told wsX6_told ({ frames := 1, cells := 0, slots := 0, locals := 22 } : Room) D [(cI, .int), (cJ, .array .int)] [.ref h, .int v] [(h, .inr (6, fs)), (hs, .inl (cI, 380, .inl S)), (hE, .inl (cI, 7, .inl E))] (fun r w => r = (zo_told S E n k v).1 ∧ w = [(h, .inr (6, fs)), (hs, .inl (cI, 380, .inl ((zo_told S E n k v).2.1))), (hE, .inl (cI, 7, .inl ((zo_told S E n k v).2.2)))]) := by
  refine zMi.start (cc := cX6_told) (maxL := 2) (rt := .int) (by first | decide | decide +kernel) rfl (Nat.le_of_ble_eq_true rfl) ?_
  intro pg ev s mt args below meth cd ls AA QQ ⟨hx, hb, hml, hr, hlocks, hown, hts, hK, hN, hZ, hP, hD, hA, hS, hl⟩ hret
  have hown : s.vm.findClass RX6 = some mt.cls := hown
  have hl : lv_has ls 2 [(0, .ref h), (1, .int v)] := hl
  have hin6 : ∀ w ∈ wsX60, w ∈ wsX6_told := fun w h => List.mem_cons_of_mem _ (List.mem_append_right _ (h))
  refine lv_iload_n hx hb dX6_told_0 rfl (lv_at hl 1 rfl) ?_
  refine lv_iconst (v := nI 1) hx hb dX6_told_1 (by decide) ?_
  refine lv_bipush (v := nI 6) hx hb dX6_told_2 (by decide) ?_
  refine zcsE (va_runS (As := [.int v, .int (nI 1), .int (nI 6)]) (rest := []) ⟨hx, hb, hml, hown, hts⟩ (d_X6_in l D cI cJ v (nI 1) (nI 6) 1 6 (by decide) (by decide) s.heap.size) (va_cwS 3 hts gX6_told_X6_in rfl rfl rfl (by decide +kernel) ⟨Nat.le_of_ble_eq_true rfl, Nat.le_of_ble_eq_true rfl⟩) (zpS hK hN hZ hP hD hS hA [] rfl (by decide)) rfl rfl hl.1 rfl (lv_room (Nat.le_of_ble_eq_true rfl)) dX6_told_4 ⟨Nat.zero_le _, Nat.zero_le _⟩) ?_
  refine lv_if_eq (tgt := 19) hx hb dX6_told_7 (by decide) (fun c7_1 => ?_) (fun c7_1 => ?_)
  · have c7_1 := bI_0.mp c7_1
    refine lv_aload_n hx hb dX6_told_19 rfl (lv_at hl 0 rfl) ?_
    refine lv_iconst (v := nI 1) hx hb dX6_told_20 (by decide) ?_
    refine zci (wr := [(hs, .inl (cI, 380, .inl S))]) (va_runV (As := [.int (nI 1)]) (rest := []) ⟨hx, hb, hml, hown, hts⟩ (c_X6_error l D cI cJ h hE fs E 1 (by first | rfl | assumption | omega) (by first | rfl | assumption | omega) s.heap.size) (cwV 1 hts gX6_told_X6_error rfl rfl rfl (by decide +kernel) ⟨Nat.le_of_ble_eq_true rfl, Nat.le_of_ble_eq_true rfl⟩) (zpV hK hN hZ hP hD hS hA [0, 2] rfl (by decide) 0 rfl rfl rfl) rfl rfl hl.1 rfl (lv_room (Nat.le_of_ble_eq_true rfl)) dX6_told_21 ⟨Nat.zero_le _, Nat.zero_le _⟩) hP hD hS hA [0, 2] [1] rfl rfl (by decide) (by decide) (fun r_4 w_3 H locs h_2 hP hD hS => ?_)
    obtain ⟨rfl, rfl⟩ := h_2
    have hP : va_P D vwCl [(hs, .inl (cI, 380, .inl S)), (h, .inr (6, fs)), (hE, .inl (cI, 7, .inl (upd E 1 (E 1 + nI 1))))] H := hP
    have hD : va_D AA [(hs, .inl (cI, 380, .inl S)), (h, .inr (6, fs)), (hE, .inl (cI, 7, .inl (upd E 1 (E 1 + nI 1))))] := hD
    have hP := hP.sub (ws' := [(h, .inr (6, fs)), (hs, .inl (cI, 380, .inl S)), (hE, .inl (cI, 7, .inl (upd E 1 (E 1 + nI 1))))]) [1, 0, 2] rfl
    have hD := hD.sub (ws' := [(h, .inr (6, fs)), (hs, .inl (cI, 380, .inl S)), (hE, .inl (cI, 7, .inl (upd E 1 (E 1 + nI 1))))]) [1, 0, 2] (by decide) rfl
    exact hret hP hD hS dX6_told_24 rfl (by rw [show zo_told S E n k v = zerrE 1 S E from by rw [zo_told, if_neg (by assumption)] <;> rfl]; exact ⟨rfl, rfl⟩)
  · have c7_1 := bI_n0.mp c7_1
    obtain ⟨j, h_j, rfl⟩ : ∃ q : Nat, q ≤ 6 ∧ v = nI q := zrg_of (U := 6) ⟨by have h91 := (c7_1).1; omega, (c7_1).2⟩ (by decide)
    refine lv_aload_n hx hb dX6_told_10 rfl (lv_at hl 0 rfl) ?_
    refine va_get (ci := 6) (v := .ref hE) (C := RX6) (T := TX6) (N := 20) hx hb hts hin6 hown hK hP 0 rfl rfl 4 (by decide) (hts (.fieldLink RX6 19 "UpAllRoundModel" "errors" "[I") (List.mem_of_getElem? (i := 1) rfl)) (fun _ h9 => h9) hf4 dX6_told_11 ?_
    refine lv_iload_n hx hb dX6_told_14 rfl (lv_at hl 1 rfl) ?_
    refine zald (t := j) hx hb hK hP 2 rfl (by omega) (by decide) dX6_told_15 ?_
    refine lv_goto (tgt := 24) hx hb dX6_told_16 (by decide) ?_
    exact hret hP hD hS dX6_told_24 rfl (by rw [show zo_told S E n k (nI j) = (E j, S, E) from by rw [zo_told, if_pos (by assumption), nI_clamp (show j < 2147483648 by omega)] <;> rfl]; exact ⟨rfl, rfl⟩)
set_option maxHeartbeats 4000000 in
set_option maxRecDepth 100000 in
theorem c_X5_told (l : Launch) (D : va_G) (cI cJ : ClassId) (h : Nat) (hE : Nat) (hS9 : Nat) (fs : List Value) (S : Nat → Int32) (E : Nat → Int32) (n : Nat) (k : Nat) (ft : List Value) (v : Int32) (hU0 : fs[0]? = some (.ref hS9)) (hU7 : fs[7]? = some (.ref hE)) (hn1 : S 1 = nI n) (hk6 : S 6 = nI k) (hn4 : 4 ≤ n) (hn14 : n ≤ 14) (hkle : k ≤ 6) : zMi l yX5_told wsX5_told ({ frames := 1, cells := 0, slots := 0, locals := 22 } : Room) D [(cI, .int), (cJ, .array .int)] [.ref h, .int v] [(h, .inr (5, fs)), (hS9, .inr (3, ft)), (hE, .inl (cI, 7, .inl E))] (fun r w => r = (zo_told S E n k v).1 ∧ w = [(h, .inr (5, fs)), (hS9, .inr (3, ft)), (hE, .inl (cI, 7, .inl ((zo_told S E n k v).2.2)))]) := by
  refine zMi.start (cc := cX5_told) (maxL := 2) (rt := .int) (by first | decide | decide +kernel) rfl (Nat.le_of_ble_eq_true rfl) ?_
  intro pg ev s mt args below meth cd ls AA QQ ⟨hx, hb, hml, hr, hlocks, hown, hts, hK, hN, hZ, hP, hD, hA, hS, hl⟩ hret
  have hown : s.vm.findClass RX5 = some mt.cls := hown
  have hl : lv_has ls 2 [(0, .ref h), (1, .int v)] := hl
  have hin5 : ∀ w ∈ wsX50, w ∈ wsX5_told := fun w h => List.mem_cons_of_mem _ (List.mem_append_right _ (h))
  refine lv_iload_n hx hb dX5_told_0 rfl (lv_at hl 1 rfl) ?_
  refine lv_iconst (v := nI 1) hx hb dX5_told_1 (by decide) ?_
  refine lv_bipush (v := nI 6) hx hb dX5_told_2 (by decide) ?_
  refine zcsE (va_runS (As := [.int v, .int (nI 1), .int (nI 6)]) (rest := []) ⟨hx, hb, hml, hown, hts⟩ (d_X5_isOutside l D cI cJ v (nI 1) (nI 6) 1 6 (by decide) (by decide) s.heap.size) (va_cwS 3 hts gX5_told_X5_isOutside rfl rfl rfl (by decide +kernel) ⟨Nat.le_of_ble_eq_true rfl, Nat.le_of_ble_eq_true rfl⟩) (zpS hK hN hZ hP hD hS hA [] rfl (by decide)) rfl rfl hl.1 rfl (lv_room (Nat.le_of_ble_eq_true rfl)) dX5_told_4 ⟨Nat.zero_le _, Nat.zero_le _⟩) ?_
  refine lv_if_eq (tgt := 16) hx hb dX5_told_7 (by decide) (fun c7_1 => ?_) (fun c7_1 => ?_)
  · have c7_1 := bI_nX0.mp c7_1
    obtain ⟨j, h_j, rfl⟩ : ∃ q : Nat, q ≤ 6 ∧ v = nI q := zrg_of (U := 6) ⟨by have h91 := (c7_1).1; omega, (c7_1).2⟩ (by decide)
    refine lv_aload_n hx hb dX5_told_16 rfl (lv_at hl 0 rfl) ?_
    refine va_get (ci := 5) (v := .ref hE) (C := RX5) (T := TX5) (N := 9) hx hb hts hin5 hown hK hP 0 rfl rfl 7 (by decide) (hts (.fieldLink RX5 48 "UpAllRound" "refusals" "[I") (List.mem_of_getElem? (i := 1) rfl)) (fun _ h9 => h9) hU7 dX5_told_17 ?_
    refine lv_iload_n hx hb dX5_told_20 rfl (lv_at hl 1 rfl) ?_
    refine zald (t := j) hx hb hK hP 2 rfl (by omega) (by decide) dX5_told_21 ?_
    exact hret hP hD hS dX5_told_22 rfl (by rw [show zo_told S E n k (nI j) = (E j, S, E) from by rw [zo_told, if_pos (by assumption), nI_clamp (show j < 2147483648 by omega)] <;> rfl]; exact ⟨rfl, rfl⟩)
  · have c7_1 := bI_nn0.mp c7_1
    refine lv_aload_n hx hb dX5_told_10 rfl (lv_at hl 0 rfl) ?_
    refine lv_iconst (v := nI 1) hx hb dX5_told_11 (by decide) ?_
    refine zci (wr := [(hS9, .inr (3, ft))]) (va_runV (As := [.int (nI 1)]) (rest := []) ⟨hx, hb, hml, hown, hts⟩ (c_X5_refuse l D cI cJ h hE fs E 1 (by first | rfl | assumption | omega) (by first | rfl | assumption | omega) s.heap.size) (cwV 1 hts gX5_told_X5_refuse rfl rfl rfl (by decide +kernel) ⟨Nat.le_of_ble_eq_true rfl, Nat.le_of_ble_eq_true rfl⟩) (zpV hK hN hZ hP hD hS hA [0, 2] rfl (by decide) 0 rfl rfl rfl) rfl rfl hl.1 rfl (lv_room (Nat.le_of_ble_eq_true rfl)) dX5_told_12 ⟨Nat.zero_le _, Nat.zero_le _⟩) hP hD hS hA [0, 2] [1] rfl rfl (by decide) (by decide) (fun r_4 w_3 H locs h_2 hP hD hS => ?_)
    obtain ⟨rfl, rfl⟩ := h_2
    have hP : va_P D vwCl [(hS9, .inr (3, ft)), (h, .inr (5, fs)), (hE, .inl (cI, 7, .inl (upd E 1 (E 1 + nI 1))))] H := hP
    have hD : va_D AA [(hS9, .inr (3, ft)), (h, .inr (5, fs)), (hE, .inl (cI, 7, .inl (upd E 1 (E 1 + nI 1))))] := hD
    have hP := hP.sub (ws' := [(h, .inr (5, fs)), (hS9, .inr (3, ft)), (hE, .inl (cI, 7, .inl (upd E 1 (E 1 + nI 1))))]) [1, 0, 2] rfl
    have hD := hD.sub (ws' := [(h, .inr (5, fs)), (hS9, .inr (3, ft)), (hE, .inl (cI, 7, .inl (upd E 1 (E 1 + nI 1))))]) [1, 0, 2] (by decide) rfl
    exact hret hP hD hS dX5_told_15 rfl (by rw [show zo_told S E n k v = zerrE 1 S E from by rw [zo_told, if_neg (by assumption)] <;> rfl]; exact ⟨rfl, rfl⟩)
def zo_climber (S E : Nat → Int32) (n k : Nat) (km : Int32) (step : Int32) : zOut := if zrg 0 69 km ∧ zin step n then (if k = 6 then zerrE 4 S E else (nI k, upd (upd (upd (upd (upd S (8 + 4 * k + 0) (nI (km.toNatClampNeg / 10))) (8 + 4 * k + 1) (nI (km.toNatClampNeg % 10))) (8 + 4 * k + 2) step) (8 + 4 * k + 3) (nI 0)) 6 (nI (k + 1)), E)) else zerrE 1 S E
set_option maxHeartbeats 4000000 in
set_option maxRecDepth 100000 in
theorem c_X6_climber (l : Launch) (D : va_G) (cI cJ : ClassId) (h : Nat) (hs : Nat) (hE : Nat) (fs : List Value) (S : Nat → Int32) (E : Nat → Int32) (n : Nat) (k : Nat) (km : Int32) (step : Int32) (hf0 : fs[0]? = some (.ref hs)) (hf4 : fs[4]? = some (.ref hE)) (hn1 : S 1 = nI n) (hk6 : S 6 = nI k) (hn4 : 4 ≤ n) (hn14 : n ≤ 14) (hkle : k ≤ 6) : zMi l yX6_climber wsX6_climber ({ frames := 2, cells := 0, slots := 0, locals := 43 } : Room) D [(cI, .int), (cJ, .array .int)] [.ref h, .int km, .int step] [(h, .inr (6, fs)), (hs, .inl (cI, 380, .inl S)), (hE, .inl (cI, 7, .inl E))] (fun r w => r = (zo_climber S E n k km step).1 ∧ w = [(h, .inr (6, fs)), (hs, .inl (cI, 380, .inl ((zo_climber S E n k km step).2.1))), (hE, .inl (cI, 7, .inl ((zo_climber S E n k km step).2.2)))]) := by
  refine zMi.start (cc := cX6_climber) (maxL := 4) (rt := .int) (by first | decide | decide +kernel) rfl (Nat.le_of_ble_eq_true rfl) ?_
  intro pg ev s mt args below meth cd ls AA QQ ⟨hx, hb, hml, hr, hlocks, hown, hts, hK, hN, hZ, hP, hD, hA, hS, hl⟩ hret
  have hown : s.vm.findClass RX6 = some mt.cls := hown
  have hl : lv_has ls 4 [(0, .ref h), (1, .int km), (2, .int step)] := hl
  have hin6 : ∀ w ∈ wsX60, w ∈ wsX6_climber := fun w h => List.mem_cons_of_mem _ (List.mem_append_right _ (h))
  refine lv_iload_n hx hb dX6_climber_0 rfl (lv_at hl 1 rfl) ?_
  refine zcsE (va_runS (As := [.int km]) (rest := []) ⟨hx, hb, hml, hown, hts⟩ (c_X6_isKind l D cI cJ km  s.heap.size) (va_cwS 1 hts gX6_climber_X6_isKind rfl rfl rfl (by decide +kernel) ⟨Nat.le_of_ble_eq_true rfl, Nat.le_of_ble_eq_true rfl⟩) (zpS hK hN hZ hP hD hS hA [] rfl (by decide)) rfl rfl hl.1 rfl (lv_room (Nat.le_of_ble_eq_true rfl)) dX6_climber_1 ⟨Nat.zero_le _, Nat.zero_le _⟩) ?_
  refine lv_if_eq (tgt := 15) hx hb dX6_climber_4 (by decide) (fun c4_1 => ?_) (fun c4_1 => ?_)
  · have c4_1 := bI_0.mp c4_1
    refine lv_aload_n hx hb dX6_climber_15 rfl (lv_at hl 0 rfl) ?_
    refine lv_iconst (v := nI 1) hx hb dX6_climber_16 (by decide) ?_
    refine zci (wr := [(hs, .inl (cI, 380, .inl S))]) (va_runV (As := [.int (nI 1)]) (rest := []) ⟨hx, hb, hml, hown, hts⟩ (c_X6_error l D cI cJ h hE fs E 1 (by first | rfl | assumption | omega) (by first | rfl | assumption | omega) s.heap.size) (cwV 1 hts gX6_climber_X6_error rfl rfl rfl (by decide +kernel) ⟨Nat.le_of_ble_eq_true rfl, Nat.le_of_ble_eq_true rfl⟩) (zpV hK hN hZ hP hD hS hA [0, 2] rfl (by decide) 0 rfl rfl rfl) rfl rfl hl.1 rfl (lv_room (Nat.le_of_ble_eq_true rfl)) dX6_climber_17 ⟨Nat.zero_le _, Nat.zero_le _⟩) hP hD hS hA [0, 2] [1] rfl rfl (by decide) (by decide) (fun r_4 w_3 H locs h_2 hP hD hS => ?_)
    obtain ⟨rfl, rfl⟩ := h_2
    have hP : va_P D vwCl [(hs, .inl (cI, 380, .inl S)), (h, .inr (6, fs)), (hE, .inl (cI, 7, .inl (upd E 1 (E 1 + nI 1))))] H := hP
    have hD : va_D AA [(hs, .inl (cI, 380, .inl S)), (h, .inr (6, fs)), (hE, .inl (cI, 7, .inl (upd E 1 (E 1 + nI 1))))] := hD
    have hP := hP.sub (ws' := [(h, .inr (6, fs)), (hs, .inl (cI, 380, .inl S)), (hE, .inl (cI, 7, .inl (upd E 1 (E 1 + nI 1))))]) [1, 0, 2] rfl
    have hD := hD.sub (ws' := [(h, .inr (6, fs)), (hs, .inl (cI, 380, .inl S)), (hE, .inl (cI, 7, .inl (upd E 1 (E 1 + nI 1))))]) [1, 0, 2] (by decide) rfl
    exact hret hP hD hS dX6_climber_20 rfl (by rw [show zo_climber S E n k km step = zerrE 1 S E from by rw [zo_climber, if_neg (by intro h9; first | exact absurd h9.1 (by assumption) | exact absurd h9.2 (by assumption))] <;> rfl]; exact ⟨rfl, rfl⟩)
  · have c4_1 := bI_n0.mp c4_1
    obtain ⟨q, h_q, rfl⟩ : ∃ q : Nat, q ≤ 69 ∧ km = nI q := zrg_of c4_1 (by decide)
    refine lv_aload_n hx hb dX6_climber_7 rfl (lv_at hl 0 rfl) ?_
    refine lv_iload_n hx hb dX6_climber_8 rfl (lv_at hl 2 rfl) ?_
    refine zcsE (va_runV (As := [.int step]) (rest := []) ⟨hx, hb, hml, hown, hts⟩ (c_X6_isStep l D cI cJ h hs fs S n step (by first | rfl | assumption | omega) (by first | rfl | assumption | omega) (by first | rfl | assumption | omega) s.heap.size) (cwV 1 hts gX6_climber_X6_isStep rfl rfl rfl (by decide +kernel) ⟨Nat.le_of_ble_eq_true rfl, Nat.le_of_ble_eq_true rfl⟩) (zpV hK hN hZ hP hD hS hA [0, 1] rfl (by decide) 0 rfl rfl rfl) rfl rfl hl.1 rfl (lv_room (Nat.le_of_ble_eq_true rfl)) dX6_climber_9 ⟨Nat.zero_le _, Nat.zero_le _⟩) ?_
    refine lv_if_ne (tgt := 21) hx hb dX6_climber_12 (by decide) (fun c12_5 => ?_) (fun c12_5 => ?_)
    · have c12_5 := bI_n0.mp c12_5
      obtain ⟨j, h_j, rfl⟩ := zin_of c12_5 (by omega)
      refine lv_aload_n hx hb dX6_climber_21 rfl (lv_at hl 0 rfl) ?_
      refine va_get (ci := 6) (v := .ref hs) (C := RX6) (T := TX6) (N := 20) hx hb hts hin6 hown hK hP 0 rfl rfl 0 (by decide) (hts (.fieldLink RX6 7 "UpAllRoundModel" "s" "[I") (List.mem_of_getElem? (i := 1) rfl)) (fun _ h9 => h9) hf0 dX6_climber_22 ?_
      refine lv_bipush (v := nI 6) hx hb dX6_climber_25 (by decide) ?_
      refine zald (t := 6) hx hb hK hP 1 rfl (by omega) (by decide) dX6_climber_27 ?_
      refine zrw hk6 ?_
      refine lv_bipush (v := nI 6) hx hb dX6_climber_28 (by decide) ?_
      refine lv_icmp_ne (tgt := 39) hx hb dX6_climber_30 (by decide) (fun c30_6 => ?_) (fun c30_6 => ?_)
      · have c30_6 : ¬ (k = 6) := fun h9 => c30_6 ((nI_eq (a := k) (b := 6) (by omega) (by omega)).mpr h9)
        refine lv_aload_n hx hb dX6_climber_39 rfl (lv_at hl 0 rfl) ?_
        refine va_get (ci := 6) (v := .ref hs) (C := RX6) (T := TX6) (N := 20) hx hb hts hin6 hown hK hP 0 rfl rfl 0 (by decide) (hts (.fieldLink RX6 7 "UpAllRoundModel" "s" "[I") (List.mem_of_getElem? (i := 1) rfl)) (fun _ h9 => h9) hf0 dX6_climber_40 ?_
        refine lv_bipush (v := nI 6) hx hb dX6_climber_43 (by decide) ?_
        refine zald (t := 6) hx hb hK hP 1 rfl (by omega) (by decide) dX6_climber_45 ?_
        refine zrw hk6 ?_
        refine lv_istore_n (lv' := [(3, .int (nI k)), (0, .ref h), (1, .int (nI q)), (2, .int (nI j))]) hx hb dX6_climber_46 rfl hl (by decide) rfl (fun ls hl => ?_)
        refine lv_aload_n hx hb dX6_climber_47 rfl (lv_at hl 1 rfl) ?_
        refine lv_iload_n hx hb dX6_climber_48 rfl (lv_at hl 0 rfl) ?_
        refine lv_iconst (v := nI 0) hx hb dX6_climber_49 (by decide) ?_
        refine lv_iload_n hx hb dX6_climber_50 rfl (lv_at hl 2 rfl) ?_
        refine lv_bipush (v := nI 10) hx hb dX6_climber_51 (by decide) ?_
        refine lv_idiv hx hb dX6_climber_53 (by decide) ?_
        refine zrw (pk_div (by omega) (by omega) (by omega)) ?_
        refine zcv (wr := [(hE, .inl (cI, 7, .inl E))]) (va_runV (As := [.int (nI k), .int (nI 0), .int (nI (q / 10))]) (rest := []) ⟨hx, hb, hml, hown, hts⟩ (c_X6_lays1 l D cI cJ h hs fs S k 0 (nI (q / 10)) (by first | rfl | assumption | omega) (by first | rfl | assumption | omega) s.heap.size) (cwV 3 hts gX6_climber_X6_lays1 rfl rfl rfl (by decide +kernel) ⟨Nat.le_of_ble_eq_true rfl, Nat.le_of_ble_eq_true rfl⟩) (zpV hK hN hZ hP hD hS hA [0, 1] rfl (by decide) 0 rfl rfl rfl) rfl rfl hl.1 rfl (lv_room (Nat.le_of_ble_eq_true rfl)) dX6_climber_54 ⟨Nat.zero_le _, Nat.zero_le _⟩) hP hD hS hA [0, 1] [2] rfl rfl (by decide) (by decide) (fun w_8 H locs h_7 hP hD hS => ?_)
        obtain rfl := h_7
        have hP : va_P D vwCl [(hE, .inl (cI, 7, .inl E)), (h, .inr (6, fs)), (hs, .inl (cI, 380, .inl (upd S (8 + 4 * k + 0) (nI (q / 10)))))] H := hP
        have hD : va_D AA [(hE, .inl (cI, 7, .inl E)), (h, .inr (6, fs)), (hs, .inl (cI, 380, .inl (upd S (8 + 4 * k + 0) (nI (q / 10)))))] := hD
        refine lv_aload_n hx hb dX6_climber_57 rfl (lv_at hl 1 rfl) ?_
        refine lv_iload_n hx hb dX6_climber_58 rfl (lv_at hl 0 rfl) ?_
        refine lv_iconst (v := nI 1) hx hb dX6_climber_59 (by decide) ?_
        refine lv_iload_n hx hb dX6_climber_60 rfl (lv_at hl 2 rfl) ?_
        refine lv_bipush (v := nI 10) hx hb dX6_climber_61 (by decide) ?_
        refine lv_irem hx hb dX6_climber_63 (by decide) ?_
        refine zrw (pk_rem (by omega) (by omega) (by omega)) ?_
        refine zcv (wr := [(hE, .inl (cI, 7, .inl E))]) (va_runV (As := [.int (nI k), .int (nI 1), .int (nI (q % 10))]) (rest := []) ⟨hx, hb, hml, hown, hts⟩ (c_X6_lays1 l D cI cJ h hs fs (upd S (8 + 4 * k + 0) (nI (q / 10))) k 1 (nI (q % 10)) (by first | rfl | assumption | omega) (by first | rfl | assumption | omega) H.size) (cwV 3 hts gX6_climber_X6_lays1 rfl rfl rfl (by decide +kernel) ⟨Nat.le_of_ble_eq_true rfl, Nat.le_of_ble_eq_true rfl⟩) (zpV hK hN hZ hP hD hS hA [1, 2] rfl (by decide) 1 rfl rfl rfl) rfl rfl hl.1 rfl (lv_room (Nat.le_of_ble_eq_true rfl)) dX6_climber_64 ⟨Nat.zero_le _, Nat.zero_le _⟩) hP hD hS hA [1, 2] [0] rfl rfl (by decide) (by decide) (fun w_10 H locs h_9 hP hD hS => ?_)
        obtain rfl := h_9
        have hP : va_P D vwCl [(hE, .inl (cI, 7, .inl E)), (h, .inr (6, fs)), (hs, .inl (cI, 380, .inl (upd (upd S (8 + 4 * k + 0) (nI (q / 10))) (8 + 4 * k + 1) (nI (q % 10)))))] H := hP
        have hD : va_D AA [(hE, .inl (cI, 7, .inl E)), (h, .inr (6, fs)), (hs, .inl (cI, 380, .inl (upd (upd S (8 + 4 * k + 0) (nI (q / 10))) (8 + 4 * k + 1) (nI (q % 10)))))] := hD
        refine lv_aload_n hx hb dX6_climber_67 rfl (lv_at hl 1 rfl) ?_
        refine lv_iload_n hx hb dX6_climber_68 rfl (lv_at hl 0 rfl) ?_
        refine lv_iconst (v := nI 2) hx hb dX6_climber_69 (by decide) ?_
        refine lv_iload_n hx hb dX6_climber_70 rfl (lv_at hl 3 rfl) ?_
        refine zcv (wr := [(hE, .inl (cI, 7, .inl E))]) (va_runV (As := [.int (nI k), .int (nI 2), .int (nI j)]) (rest := []) ⟨hx, hb, hml, hown, hts⟩ (c_X6_lays1 l D cI cJ h hs fs (upd (upd S (8 + 4 * k + 0) (nI (q / 10))) (8 + 4 * k + 1) (nI (q % 10))) k 2 (nI j) (by first | rfl | assumption | omega) (by first | rfl | assumption | omega) H.size) (cwV 3 hts gX6_climber_X6_lays1 rfl rfl rfl (by decide +kernel) ⟨Nat.le_of_ble_eq_true rfl, Nat.le_of_ble_eq_true rfl⟩) (zpV hK hN hZ hP hD hS hA [1, 2] rfl (by decide) 1 rfl rfl rfl) rfl rfl hl.1 rfl (lv_room (Nat.le_of_ble_eq_true rfl)) dX6_climber_71 ⟨Nat.zero_le _, Nat.zero_le _⟩) hP hD hS hA [1, 2] [0] rfl rfl (by decide) (by decide) (fun w_12 H locs h_11 hP hD hS => ?_)
        obtain rfl := h_11
        have hP : va_P D vwCl [(hE, .inl (cI, 7, .inl E)), (h, .inr (6, fs)), (hs, .inl (cI, 380, .inl (upd (upd (upd S (8 + 4 * k + 0) (nI (q / 10))) (8 + 4 * k + 1) (nI (q % 10))) (8 + 4 * k + 2) (nI j))))] H := hP
        have hD : va_D AA [(hE, .inl (cI, 7, .inl E)), (h, .inr (6, fs)), (hs, .inl (cI, 380, .inl (upd (upd (upd S (8 + 4 * k + 0) (nI (q / 10))) (8 + 4 * k + 1) (nI (q % 10))) (8 + 4 * k + 2) (nI j))))] := hD
        refine lv_aload_n hx hb dX6_climber_74 rfl (lv_at hl 1 rfl) ?_
        refine lv_iload_n hx hb dX6_climber_75 rfl (lv_at hl 0 rfl) ?_
        refine lv_iconst (v := nI 3) hx hb dX6_climber_76 (by decide) ?_
        refine lv_iconst (v := nI 0) hx hb dX6_climber_77 (by decide) ?_
        refine zcv (wr := [(hE, .inl (cI, 7, .inl E))]) (va_runV (As := [.int (nI k), .int (nI 3), .int (nI 0)]) (rest := []) ⟨hx, hb, hml, hown, hts⟩ (c_X6_lays1 l D cI cJ h hs fs (upd (upd (upd S (8 + 4 * k + 0) (nI (q / 10))) (8 + 4 * k + 1) (nI (q % 10))) (8 + 4 * k + 2) (nI j)) k 3 (nI 0) (by first | rfl | assumption | omega) (by first | rfl | assumption | omega) H.size) (cwV 3 hts gX6_climber_X6_lays1 rfl rfl rfl (by decide +kernel) ⟨Nat.le_of_ble_eq_true rfl, Nat.le_of_ble_eq_true rfl⟩) (zpV hK hN hZ hP hD hS hA [1, 2] rfl (by decide) 1 rfl rfl rfl) rfl rfl hl.1 rfl (lv_room (Nat.le_of_ble_eq_true rfl)) dX6_climber_78 ⟨Nat.zero_le _, Nat.zero_le _⟩) hP hD hS hA [1, 2] [0] rfl rfl (by decide) (by decide) (fun w_14 H locs h_13 hP hD hS => ?_)
        obtain rfl := h_13
        have hP : va_P D vwCl [(hE, .inl (cI, 7, .inl E)), (h, .inr (6, fs)), (hs, .inl (cI, 380, .inl (upd (upd (upd (upd S (8 + 4 * k + 0) (nI (q / 10))) (8 + 4 * k + 1) (nI (q % 10))) (8 + 4 * k + 2) (nI j)) (8 + 4 * k + 3) (nI 0))))] H := hP
        have hD : va_D AA [(hE, .inl (cI, 7, .inl E)), (h, .inr (6, fs)), (hs, .inl (cI, 380, .inl (upd (upd (upd (upd S (8 + 4 * k + 0) (nI (q / 10))) (8 + 4 * k + 1) (nI (q % 10))) (8 + 4 * k + 2) (nI j)) (8 + 4 * k + 3) (nI 0))))] := hD
        refine lv_aload_n hx hb dX6_climber_81 rfl (lv_at hl 1 rfl) ?_
        refine va_get (ci := 6) (v := .ref hs) (C := RX6) (T := TX6) (N := 20) hx hb hts hin6 hown hK hP 1 rfl rfl 0 (by decide) (hts (.fieldLink RX6 7 "UpAllRoundModel" "s" "[I") (List.mem_of_getElem? (i := 1) rfl)) (fun _ h9 => h9) hf0 dX6_climber_82 ?_
        refine lv_bipush (v := nI 6) hx hb dX6_climber_85 (by decide) ?_
        refine lv_dup2_11 hx hb dX6_climber_87 rfl rfl ?_
        refine zald (t := 6) hx hb hK hP 2 rfl (by omega) (by decide) dX6_climber_88 ?_
        refine zrw (show (upd (upd (upd (upd S (8 + 4 * k + 0) (nI (q / 10))) (8 + 4 * k + 1) (nI (q % 10))) (8 + 4 * k + 2) (nI j)) (8 + 4 * k + 3) (nI 0)) 6 = nI k from by rw [zupd_n (by omega), zupd_n (by omega), zupd_n (by omega), zupd_n (by omega)]; exact hk6) ?_
        refine lv_iconst (v := nI 1) hx hb dX6_climber_89 (by decide) ?_
        refine lv_iadd hx hb dX6_climber_90 ?_
        refine zrw (nI_add _ _) ?_
        refine zast (t := 6) hx hb hK hP hD hS 2 rfl (by omega) (by decide) dX6_climber_91 (fun H locs hP hD hS => ?_)
        have hP : va_P D vwCl [(hE, .inl (cI, 7, .inl E)), (h, .inr (6, fs)), (hs, .inl (cI, 380, .inl (upd (upd (upd (upd (upd S (8 + 4 * k + 0) (nI (q / 10))) (8 + 4 * k + 1) (nI (q % 10))) (8 + 4 * k + 2) (nI j)) (8 + 4 * k + 3) (nI 0)) 6 (nI (k + 1)))))] H := hP
        have hD : va_D AA [(hE, .inl (cI, 7, .inl E)), (h, .inr (6, fs)), (hs, .inl (cI, 380, .inl (upd (upd (upd (upd (upd S (8 + 4 * k + 0) (nI (q / 10))) (8 + 4 * k + 1) (nI (q % 10))) (8 + 4 * k + 2) (nI j)) (8 + 4 * k + 3) (nI 0)) 6 (nI (k + 1)))))] := hD
        refine lv_iload_n hx hb dX6_climber_92 rfl (lv_at hl 0 rfl) ?_
        have hP := hP.sub (ws' := [(h, .inr (6, fs)), (hs, .inl (cI, 380, .inl (upd (upd (upd (upd (upd S (8 + 4 * k + 0) (nI (q / 10))) (8 + 4 * k + 1) (nI (q % 10))) (8 + 4 * k + 2) (nI j)) (8 + 4 * k + 3) (nI 0)) 6 (nI (k + 1))))), (hE, .inl (cI, 7, .inl E))]) [1, 2, 0] rfl
        have hD := hD.sub (ws' := [(h, .inr (6, fs)), (hs, .inl (cI, 380, .inl (upd (upd (upd (upd (upd S (8 + 4 * k + 0) (nI (q / 10))) (8 + 4 * k + 1) (nI (q % 10))) (8 + 4 * k + 2) (nI j)) (8 + 4 * k + 3) (nI 0)) 6 (nI (k + 1))))), (hE, .inl (cI, 7, .inl E))]) [1, 2, 0] (by decide) rfl
        exact hret hP hD hS dX6_climber_93 rfl (by rw [show zo_climber S E n k (nI q) (nI j) = (nI k, upd (upd (upd (upd (upd S (8 + 4 * k + 0) (nI (q / 10))) (8 + 4 * k + 1) (nI (q % 10))) (8 + 4 * k + 2) (nI j)) (8 + 4 * k + 3) (nI 0)) 6 (nI (k + 1)), E) from by rw [zo_climber, if_pos ⟨by assumption, by assumption⟩, if_neg (by omega), nI_clamp (show q < 2147483648 by omega)] <;> rfl]; exact ⟨rfl, rfl⟩)
      · have c30_6 : k = 6 := (nI_eq (a := k) (b := 6) (by omega) (by omega)).mp c30_6
        refine lv_aload_n hx hb dX6_climber_33 rfl (lv_at hl 0 rfl) ?_
        refine lv_iconst (v := nI 4) hx hb dX6_climber_34 (by decide) ?_
        refine zci (wr := [(hs, .inl (cI, 380, .inl S))]) (va_runV (As := [.int (nI 4)]) (rest := []) ⟨hx, hb, hml, hown, hts⟩ (c_X6_error l D cI cJ h hE fs E 4 (by first | rfl | assumption | omega) (by first | rfl | assumption | omega) s.heap.size) (cwV 1 hts gX6_climber_X6_error rfl rfl rfl (by decide +kernel) ⟨Nat.le_of_ble_eq_true rfl, Nat.le_of_ble_eq_true rfl⟩) (zpV hK hN hZ hP hD hS hA [0, 2] rfl (by decide) 0 rfl rfl rfl) rfl rfl hl.1 rfl (lv_room (Nat.le_of_ble_eq_true rfl)) dX6_climber_35 ⟨Nat.zero_le _, Nat.zero_le _⟩) hP hD hS hA [0, 2] [1] rfl rfl (by decide) (by decide) (fun r_17 w_16 H locs h_15 hP hD hS => ?_)
        obtain ⟨rfl, rfl⟩ := h_15
        have hP : va_P D vwCl [(hs, .inl (cI, 380, .inl S)), (h, .inr (6, fs)), (hE, .inl (cI, 7, .inl (upd E 4 (E 4 + nI 1))))] H := hP
        have hD : va_D AA [(hs, .inl (cI, 380, .inl S)), (h, .inr (6, fs)), (hE, .inl (cI, 7, .inl (upd E 4 (E 4 + nI 1))))] := hD
        have hP := hP.sub (ws' := [(h, .inr (6, fs)), (hs, .inl (cI, 380, .inl S)), (hE, .inl (cI, 7, .inl (upd E 4 (E 4 + nI 1))))]) [1, 0, 2] rfl
        have hD := hD.sub (ws' := [(h, .inr (6, fs)), (hs, .inl (cI, 380, .inl S)), (hE, .inl (cI, 7, .inl (upd E 4 (E 4 + nI 1))))]) [1, 0, 2] (by decide) rfl
        exact hret hP hD hS dX6_climber_38 rfl (by rw [show zo_climber S E n k (nI q) (nI j) = zerrE 4 S E from by rw [zo_climber, if_pos ⟨by assumption, by assumption⟩, if_pos (by omega)] <;> rfl]; exact ⟨rfl, rfl⟩)
    · have c12_5 := bI_0.mp c12_5
      refine lv_aload_n hx hb dX6_climber_15 rfl (lv_at hl 0 rfl) ?_
      refine lv_iconst (v := nI 1) hx hb dX6_climber_16 (by decide) ?_
      refine zci (wr := [(hs, .inl (cI, 380, .inl S))]) (va_runV (As := [.int (nI 1)]) (rest := []) ⟨hx, hb, hml, hown, hts⟩ (c_X6_error l D cI cJ h hE fs E 1 (by first | rfl | assumption | omega) (by first | rfl | assumption | omega) s.heap.size) (cwV 1 hts gX6_climber_X6_error rfl rfl rfl (by decide +kernel) ⟨Nat.le_of_ble_eq_true rfl, Nat.le_of_ble_eq_true rfl⟩) (zpV hK hN hZ hP hD hS hA [0, 2] rfl (by decide) 0 rfl rfl rfl) rfl rfl hl.1 rfl (lv_room (Nat.le_of_ble_eq_true rfl)) dX6_climber_17 ⟨Nat.zero_le _, Nat.zero_le _⟩) hP hD hS hA [0, 2] [1] rfl rfl (by decide) (by decide) (fun r_20 w_19 H locs h_18 hP hD hS => ?_)
      obtain ⟨rfl, rfl⟩ := h_18
      have hP : va_P D vwCl [(hs, .inl (cI, 380, .inl S)), (h, .inr (6, fs)), (hE, .inl (cI, 7, .inl (upd E 1 (E 1 + nI 1))))] H := hP
      have hD : va_D AA [(hs, .inl (cI, 380, .inl S)), (h, .inr (6, fs)), (hE, .inl (cI, 7, .inl (upd E 1 (E 1 + nI 1))))] := hD
      have hP := hP.sub (ws' := [(h, .inr (6, fs)), (hs, .inl (cI, 380, .inl S)), (hE, .inl (cI, 7, .inl (upd E 1 (E 1 + nI 1))))]) [1, 0, 2] rfl
      have hD := hD.sub (ws' := [(h, .inr (6, fs)), (hs, .inl (cI, 380, .inl S)), (hE, .inl (cI, 7, .inl (upd E 1 (E 1 + nI 1))))]) [1, 0, 2] (by decide) rfl
      exact hret hP hD hS dX6_climber_20 rfl (by rw [show zo_climber S E n k (nI q) step = zerrE 1 S E from by rw [zo_climber, if_neg (by intro h9; first | exact absurd h9.1 (by assumption) | exact absurd h9.2 (by assumption))] <;> rfl]; exact ⟨rfl, rfl⟩)
set_option maxHeartbeats 4000000 in
set_option maxRecDepth 100000 in
theorem c_X3_takeOn (l : Launch) (D : va_G) (cI cJ : ClassId) (h : Nat) (hr9 : Nat) (hk : Nat) (hm : Nat) (hp : Nat) (hh : Nat) (hw : Nat) (hv : Nat) (ht : Nat) (hq : Nat) (f0 : Int32) (f2 : Int32) (f3 : Int32) (f11 : Int32) (f13 : Int32) (f15 : Int32) (k : Nat) (KD : Nat → Int32) (MM : Nat → Int32) (P : Nat → Int32) (G : Nat → Int32) (q : Nat) (step : Int32) (hk6 : k < 6) (hq69 : q ≤ 69) : zMi l yX3_takeOn wsX3_takeOn ({ frames := 0, cells := 0, slots := 0, locals := 0 } : Room) D [(cI, .int), (cJ, .array .int)] [.ref h, .int (nI q), .int step] [(h, .inr (3, [.int f0, .ref hr9, .int f2, .int f3, .int (nI k), .ref hk, .ref hm, .ref hp, .ref hh, .ref hw, .ref hv, .int f11, .ref ht, .int f13, .ref hq, .int f15])), (hk, .inl (cI, 6, .inl KD)), (hm, .inl (cI, 6, .inl MM)), (hp, .inl (cI, 6, .inl P)), (hh, .inl (cI, 6, .inl G))] (fun r w => r = nI k ∧ w = [(h, .inr (3, [.int f0, .ref hr9, .int f2, .int f3, .int (nI (k + 1)), .ref hk, .ref hm, .ref hp, .ref hh, .ref hw, .ref hv, .int f11, .ref ht, .int f13, .ref hq, .int f15])), (hk, .inl (cI, 6, .inl (upd KD k (nI (q / 10))))), (hm, .inl (cI, 6, .inl (upd MM k (nI (q % 10))))), (hp, .inl (cI, 6, .inl (upd P k step))), (hh, .inl (cI, 6, .inl (upd G k (nI 0))))]) := by
  refine zMi.start (cc := cX3_takeOn) (maxL := 4) (rt := .int) (by first | decide | decide +kernel) rfl (Nat.le_of_ble_eq_true rfl) ?_
  intro pg ev s mt args below meth cd ls AA QQ ⟨hx, hb, hml, hr, hlocks, hown, hts, hK, hN, hZ, hP, hD, hA, hS, hl⟩ hret
  have hown : s.vm.findClass RX3 = some mt.cls := hown
  have hl : lv_has ls 4 [(0, .ref h), (1, .int (nI q)), (2, .int step)] := hl
  have hin3 : ∀ w ∈ wsX30, w ∈ wsX3_takeOn := fun w h => List.mem_cons_of_mem _ (List.mem_append_right _ (h))
  refine lv_aload_n hx hb dX3_takeOn_0 rfl (lv_at hl 0 rfl) ?_
  refine va_get (ci := 3) (v := .int (nI k)) (C := RX3) (T := TX3) (N := 16) hx hb hts hin3 hown hK hP 0 rfl rfl 4 (by decide) (hts (.fieldLink RX3 19 "UpAllRound$Stair" "climbers" "I") (List.mem_of_getElem? (i := 1) rfl)) (fun _ h9 => h9) rfl dX3_takeOn_1 ?_
  refine lv_istore_n (lv' := [(3, .int (nI k)), (0, .ref h), (1, .int (nI q)), (2, .int step)]) hx hb dX3_takeOn_4 rfl hl (by decide) rfl (fun ls hl => ?_)
  refine lv_aload_n hx hb dX3_takeOn_5 rfl (lv_at hl 1 rfl) ?_
  refine va_get (ci := 3) (v := .ref hk) (C := RX3) (T := TX3) (N := 16) hx hb hts hin3 hown hK hP 0 rfl rfl 5 (by decide) (hts (.fieldLink RX3 22 "UpAllRound$Stair" "kinds" "[I") (List.mem_of_getElem? (i := 2) rfl)) (fun _ h9 => h9) rfl dX3_takeOn_6 ?_
  refine lv_iload_n hx hb dX3_takeOn_9 rfl (lv_at hl 0 rfl) ?_
  refine lv_iload_n hx hb dX3_takeOn_10 rfl (lv_at hl 2 rfl) ?_
  refine lv_bipush (v := nI 10) hx hb dX3_takeOn_11 (by decide) ?_
  refine lv_idiv hx hb dX3_takeOn_13 (by decide) ?_
  refine zrw (pk_div (by omega) (by omega) (by omega)) ?_
  refine zast (t := k) hx hb hK hP hD hS 1 rfl (by omega) (by decide) dX3_takeOn_14 (fun H locs hP hD hS => ?_)
  have hP : va_P D vwCl [(h, .inr (3, [.int f0, .ref hr9, .int f2, .int f3, .int (nI k), .ref hk, .ref hm, .ref hp, .ref hh, .ref hw, .ref hv, .int f11, .ref ht, .int f13, .ref hq, .int f15])), (hk, .inl (cI, 6, .inl (upd KD k (nI (q / 10))))), (hm, .inl (cI, 6, .inl MM)), (hp, .inl (cI, 6, .inl P)), (hh, .inl (cI, 6, .inl G))] H := hP
  have hD : va_D AA [(h, .inr (3, [.int f0, .ref hr9, .int f2, .int f3, .int (nI k), .ref hk, .ref hm, .ref hp, .ref hh, .ref hw, .ref hv, .int f11, .ref ht, .int f13, .ref hq, .int f15])), (hk, .inl (cI, 6, .inl (upd KD k (nI (q / 10))))), (hm, .inl (cI, 6, .inl MM)), (hp, .inl (cI, 6, .inl P)), (hh, .inl (cI, 6, .inl G))] := hD
  refine lv_aload_n hx hb dX3_takeOn_15 rfl (lv_at hl 1 rfl) ?_
  refine va_get (ci := 3) (v := .ref hm) (C := RX3) (T := TX3) (N := 16) hx hb hts hin3 hown hK hP 0 rfl rfl 6 (by decide) (hts (.fieldLink RX3 25 "UpAllRound$Stair" "numbers" "[I") (List.mem_of_getElem? (i := 3) rfl)) (fun _ h9 => h9) rfl dX3_takeOn_16 ?_
  refine lv_iload_n hx hb dX3_takeOn_19 rfl (lv_at hl 0 rfl) ?_
  refine lv_iload_n hx hb dX3_takeOn_20 rfl (lv_at hl 2 rfl) ?_
  refine lv_bipush (v := nI 10) hx hb dX3_takeOn_21 (by decide) ?_
  refine lv_irem hx hb dX3_takeOn_23 (by decide) ?_
  refine zrw (pk_rem (by omega) (by omega) (by omega)) ?_
  refine zast (t := k) hx hb hK hP hD hS 2 rfl (by omega) (by decide) dX3_takeOn_24 (fun H locs hP hD hS => ?_)
  have hP : va_P D vwCl [(h, .inr (3, [.int f0, .ref hr9, .int f2, .int f3, .int (nI k), .ref hk, .ref hm, .ref hp, .ref hh, .ref hw, .ref hv, .int f11, .ref ht, .int f13, .ref hq, .int f15])), (hk, .inl (cI, 6, .inl (upd KD k (nI (q / 10))))), (hm, .inl (cI, 6, .inl (upd MM k (nI (q % 10))))), (hp, .inl (cI, 6, .inl P)), (hh, .inl (cI, 6, .inl G))] H := hP
  have hD : va_D AA [(h, .inr (3, [.int f0, .ref hr9, .int f2, .int f3, .int (nI k), .ref hk, .ref hm, .ref hp, .ref hh, .ref hw, .ref hv, .int f11, .ref ht, .int f13, .ref hq, .int f15])), (hk, .inl (cI, 6, .inl (upd KD k (nI (q / 10))))), (hm, .inl (cI, 6, .inl (upd MM k (nI (q % 10))))), (hp, .inl (cI, 6, .inl P)), (hh, .inl (cI, 6, .inl G))] := hD
  refine lv_aload_n hx hb dX3_takeOn_25 rfl (lv_at hl 1 rfl) ?_
  refine va_get (ci := 3) (v := .ref hp) (C := RX3) (T := TX3) (N := 16) hx hb hts hin3 hown hK hP 0 rfl rfl 7 (by decide) (hts (.fieldLink RX3 28 "UpAllRound$Stair" "places" "[I") (List.mem_of_getElem? (i := 4) rfl)) (fun _ h9 => h9) rfl dX3_takeOn_26 ?_
  refine lv_iload_n hx hb dX3_takeOn_29 rfl (lv_at hl 0 rfl) ?_
  refine lv_iload_n hx hb dX3_takeOn_30 rfl (lv_at hl 3 rfl) ?_
  refine zast (t := k) hx hb hK hP hD hS 3 rfl (by omega) (by decide) dX3_takeOn_31 (fun H locs hP hD hS => ?_)
  have hP : va_P D vwCl [(h, .inr (3, [.int f0, .ref hr9, .int f2, .int f3, .int (nI k), .ref hk, .ref hm, .ref hp, .ref hh, .ref hw, .ref hv, .int f11, .ref ht, .int f13, .ref hq, .int f15])), (hk, .inl (cI, 6, .inl (upd KD k (nI (q / 10))))), (hm, .inl (cI, 6, .inl (upd MM k (nI (q % 10))))), (hp, .inl (cI, 6, .inl (upd P k step))), (hh, .inl (cI, 6, .inl G))] H := hP
  have hD : va_D AA [(h, .inr (3, [.int f0, .ref hr9, .int f2, .int f3, .int (nI k), .ref hk, .ref hm, .ref hp, .ref hh, .ref hw, .ref hv, .int f11, .ref ht, .int f13, .ref hq, .int f15])), (hk, .inl (cI, 6, .inl (upd KD k (nI (q / 10))))), (hm, .inl (cI, 6, .inl (upd MM k (nI (q % 10))))), (hp, .inl (cI, 6, .inl (upd P k step))), (hh, .inl (cI, 6, .inl G))] := hD
  refine lv_aload_n hx hb dX3_takeOn_32 rfl (lv_at hl 1 rfl) ?_
  refine va_get (ci := 3) (v := .ref hh) (C := RX3) (T := TX3) (N := 16) hx hb hts hin3 hown hK hP 0 rfl rfl 8 (by decide) (hts (.fieldLink RX3 31 "UpAllRound$Stair" "heights" "[I") (List.mem_of_getElem? (i := 5) rfl)) (fun _ h9 => h9) rfl dX3_takeOn_33 ?_
  refine lv_iload_n hx hb dX3_takeOn_36 rfl (lv_at hl 0 rfl) ?_
  refine lv_iconst (v := nI 0) hx hb dX3_takeOn_37 (by decide) ?_
  refine zast (t := k) hx hb hK hP hD hS 4 rfl (by omega) (by decide) dX3_takeOn_38 (fun H locs hP hD hS => ?_)
  have hP : va_P D vwCl [(h, .inr (3, [.int f0, .ref hr9, .int f2, .int f3, .int (nI k), .ref hk, .ref hm, .ref hp, .ref hh, .ref hw, .ref hv, .int f11, .ref ht, .int f13, .ref hq, .int f15])), (hk, .inl (cI, 6, .inl (upd KD k (nI (q / 10))))), (hm, .inl (cI, 6, .inl (upd MM k (nI (q % 10))))), (hp, .inl (cI, 6, .inl (upd P k step))), (hh, .inl (cI, 6, .inl (upd G k (nI 0))))] H := hP
  have hD : va_D AA [(h, .inr (3, [.int f0, .ref hr9, .int f2, .int f3, .int (nI k), .ref hk, .ref hm, .ref hp, .ref hh, .ref hw, .ref hv, .int f11, .ref ht, .int f13, .ref hq, .int f15])), (hk, .inl (cI, 6, .inl (upd KD k (nI (q / 10))))), (hm, .inl (cI, 6, .inl (upd MM k (nI (q % 10))))), (hp, .inl (cI, 6, .inl (upd P k step))), (hh, .inl (cI, 6, .inl (upd G k (nI 0))))] := hD
  refine lv_aload_n hx hb dX3_takeOn_39 rfl (lv_at hl 1 rfl) ?_
  refine lv_dup hx hb dX3_takeOn_40 rfl ?_
  refine va_get (ci := 3) (v := .int (nI k)) (C := RX3) (T := TX3) (N := 16) hx hb hts hin3 hown hK hP 0 rfl rfl 4 (by decide) (hts (.fieldLink RX3 19 "UpAllRound$Stair" "climbers" "I") (List.mem_of_getElem? (i := 1) rfl)) (fun _ h9 => h9) rfl dX3_takeOn_41 ?_
  refine lv_iconst (v := nI 1) hx hb dX3_takeOn_44 (by decide) ?_
  refine lv_iadd hx hb dX3_takeOn_45 ?_
  refine zrw (nI_add _ _) ?_
  refine va_put (ci := 3) (v := .int (nI (k + 1))) (ty := .int) (C := RX3) (T := TX3) (N := 16) hx hb hts hin3 tyX3 tyX3_ok nmX3 hown hK hP hD hS 0 rfl rfl 4 (by decide) (hts (.fieldLink RX3 19 "UpAllRound$Stair" "climbers" "I") (List.mem_of_getElem? (i := 1) rfl)) (fun _ h9 => h9) rfl (by decide +kernel) rfl rfl (Nat.le_of_ble_eq_true rfl) dX3_takeOn_46 (fun H locs hP hD hS => ?_)
  have hP : va_P D vwCl [(h, .inr (3, [.int f0, .ref hr9, .int f2, .int f3, .int (nI (k + 1)), .ref hk, .ref hm, .ref hp, .ref hh, .ref hw, .ref hv, .int f11, .ref ht, .int f13, .ref hq, .int f15])), (hk, .inl (cI, 6, .inl (upd KD k (nI (q / 10))))), (hm, .inl (cI, 6, .inl (upd MM k (nI (q % 10))))), (hp, .inl (cI, 6, .inl (upd P k step))), (hh, .inl (cI, 6, .inl (upd G k (nI 0))))] H := hP
  have hD : va_D AA [(h, .inr (3, [.int f0, .ref hr9, .int f2, .int f3, .int (nI (k + 1)), .ref hk, .ref hm, .ref hp, .ref hh, .ref hw, .ref hv, .int f11, .ref ht, .int f13, .ref hq, .int f15])), (hk, .inl (cI, 6, .inl (upd KD k (nI (q / 10))))), (hm, .inl (cI, 6, .inl (upd MM k (nI (q % 10))))), (hp, .inl (cI, 6, .inl (upd P k step))), (hh, .inl (cI, 6, .inl (upd G k (nI 0))))] := hD
  refine lv_iload_n hx hb dX3_takeOn_49 rfl (lv_at hl 0 rfl) ?_
  exact hret hP hD hS dX3_takeOn_50 rfl (by exact ⟨rfl, rfl⟩)
set_option maxHeartbeats 4000000 in
set_option maxRecDepth 100000 in
theorem c_X5_climber (l : Launch) (D : va_G) (cI cJ : ClassId) (h : Nat) (hE : Nat) (hS9 : Nat) (fs : List Value) (S : Nat → Int32) (E : Nat → Int32) (n : Nat) (k : Nat) (hr9 : Nat) (hk : Nat) (hm : Nat) (hp : Nat) (hh : Nat) (hw : Nat) (hv : Nat) (ht : Nat) (hq : Nat) (km : Int32) (step : Int32) (hU0 : fs[0]? = some (.ref hS9)) (hU7 : fs[7]? = some (.ref hE)) (hn1 : S 1 = nI n) (hk6 : S 6 = nI k) (hn4 : 4 ≤ n) (hn14 : n ≤ 14) (hkle : k ≤ 6) : zMi l yX5_climber wsX5_climber ({ frames := 1, cells := 0, slots := 0, locals := 23 } : Room) D [(cI, .int), (cJ, .array .int)] [.ref h, .int km, .int step] [(h, .inr (5, fs)), (hS9, .inr (3, [.int (nI n), .ref hr9, .int (S 2), .int (S 0), .int (nI k), .ref hk, .ref hm, .ref hp, .ref hh, .ref hw, .ref hv, .int (S 3), .ref ht, .int (S 4), .ref hq, .int (S 5)])), (hk, .inl (cI, 6, .inl ((fun c => S (8 + 4 * c + 0))))), (hm, .inl (cI, 6, .inl ((fun c => S (8 + 4 * c + 1))))), (hp, .inl (cI, 6, .inl ((fun c => S (8 + 4 * c + 2))))), (hh, .inl (cI, 6, .inl ((fun c => S (8 + 4 * c + 3))))), (hE, .inl (cI, 7, .inl E))] (fun r w => r = (zo_climber S E n k km step).1 ∧ w = [(h, .inr (5, fs)), (hS9, .inr (3, [.int (nI n), .ref hr9, .int (S 2), .int (S 0), .int ((zo_climber S E n k km step).2.1 6), .ref hk, .ref hm, .ref hp, .ref hh, .ref hw, .ref hv, .int (S 3), .ref ht, .int (S 4), .ref hq, .int (S 5)])), (hk, .inl (cI, 6, .inl ((fun c => (zo_climber S E n k km step).2.1 (8 + 4 * c + 0))))), (hm, .inl (cI, 6, .inl ((fun c => (zo_climber S E n k km step).2.1 (8 + 4 * c + 1))))), (hp, .inl (cI, 6, .inl ((fun c => (zo_climber S E n k km step).2.1 (8 + 4 * c + 2))))), (hh, .inl (cI, 6, .inl ((fun c => (zo_climber S E n k km step).2.1 (8 + 4 * c + 3))))), (hE, .inl (cI, 7, .inl ((zo_climber S E n k km step).2.2)))]) := by
  refine zMi.start (cc := cX5_climber) (maxL := 3) (rt := .int) (by first | decide | decide +kernel) rfl (Nat.le_of_ble_eq_true rfl) ?_
  intro pg ev s mt args below meth cd ls AA QQ ⟨hx, hb, hml, hr, hlocks, hown, hts, hK, hN, hZ, hP, hD, hA, hS, hl⟩ hret
  have hown : s.vm.findClass RX5 = some mt.cls := hown
  have hl : lv_has ls 3 [(0, .ref h), (1, .int km), (2, .int step)] := hl
  have hin3 : ∀ w ∈ wsX30, w ∈ wsX5_climber := fun w h => List.mem_cons_of_mem _ (List.mem_append_right _ (h))
  have hin5 : ∀ w ∈ wsX50, w ∈ wsX5_climber := fun w h => List.mem_cons_of_mem _ (List.mem_append_left _ (List.mem_append_right _ (h)))
  refine lv_iload_n hx hb dX5_climber_0 rfl (lv_at hl 1 rfl) ?_
  refine lv_iconst (v := nI 0) hx hb dX5_climber_1 (by decide) ?_
  refine lv_bipush (v := nI 69) hx hb dX5_climber_2 (by decide) ?_
  refine zcsE (va_runS (As := [.int km, .int (nI 0), .int (nI 69)]) (rest := []) ⟨hx, hb, hml, hown, hts⟩ (d_X5_isOutside l D cI cJ km (nI 0) (nI 69) 0 69 (by decide) (by decide) s.heap.size) (va_cwS 3 hts gX5_climber_X5_isOutside rfl rfl rfl (by decide +kernel) ⟨Nat.le_of_ble_eq_true rfl, Nat.le_of_ble_eq_true rfl⟩) (zpS hK hN hZ hP hD hS hA [] rfl (by decide)) rfl rfl hl.1 rfl (lv_room (Nat.le_of_ble_eq_true rfl)) dX5_climber_4 ⟨Nat.zero_le _, Nat.zero_le _⟩) ?_
  refine lv_if_ne (tgt := 21) hx hb dX5_climber_7 (by decide) (fun c7_1 => ?_) (fun c7_1 => ?_)
  · have c7_1 := bI_nn0.mp c7_1
    refine lv_aload_n hx hb dX5_climber_21 rfl (lv_at hl 0 rfl) ?_
    refine lv_iconst (v := nI 1) hx hb dX5_climber_22 (by decide) ?_
    refine zci (wr := [(hS9, .inr (3, [.int (nI n), .ref hr9, .int (S 2), .int (S 0), .int (nI k), .ref hk, .ref hm, .ref hp, .ref hh, .ref hw, .ref hv, .int (S 3), .ref ht, .int (S 4), .ref hq, .int (S 5)])), (hk, .inl (cI, 6, .inl ((fun c => S (8 + 4 * c + 0))))), (hm, .inl (cI, 6, .inl ((fun c => S (8 + 4 * c + 1))))), (hp, .inl (cI, 6, .inl ((fun c => S (8 + 4 * c + 2))))), (hh, .inl (cI, 6, .inl ((fun c => S (8 + 4 * c + 3)))))]) (va_runV (As := [.int (nI 1)]) (rest := []) ⟨hx, hb, hml, hown, hts⟩ (c_X5_refuse l D cI cJ h hE fs E 1 (by first | rfl | assumption | omega) (by first | rfl | assumption | omega) s.heap.size) (cwV 1 hts gX5_climber_X5_refuse rfl rfl rfl (by decide +kernel) ⟨Nat.le_of_ble_eq_true rfl, Nat.le_of_ble_eq_true rfl⟩) (zpV hK hN hZ hP hD hS hA [0, 6] rfl (by decide) 0 rfl rfl rfl) rfl rfl hl.1 rfl (lv_room (Nat.le_of_ble_eq_true rfl)) dX5_climber_23 ⟨Nat.zero_le _, Nat.zero_le _⟩) hP hD hS hA [0, 6] [1, 2, 3, 4, 5] rfl rfl (by decide) (by decide) (fun r_4 w_3 H locs h_2 hP hD hS => ?_)
    obtain ⟨rfl, rfl⟩ := h_2
    have hP : va_P D vwCl [(hS9, .inr (3, [.int (nI n), .ref hr9, .int (S 2), .int (S 0), .int (nI k), .ref hk, .ref hm, .ref hp, .ref hh, .ref hw, .ref hv, .int (S 3), .ref ht, .int (S 4), .ref hq, .int (S 5)])), (hk, .inl (cI, 6, .inl ((fun c => S (8 + 4 * c + 0))))), (hm, .inl (cI, 6, .inl ((fun c => S (8 + 4 * c + 1))))), (hp, .inl (cI, 6, .inl ((fun c => S (8 + 4 * c + 2))))), (hh, .inl (cI, 6, .inl ((fun c => S (8 + 4 * c + 3))))), (h, .inr (5, fs)), (hE, .inl (cI, 7, .inl (upd E 1 (E 1 + nI 1))))] H := hP
    have hD : va_D AA [(hS9, .inr (3, [.int (nI n), .ref hr9, .int (S 2), .int (S 0), .int (nI k), .ref hk, .ref hm, .ref hp, .ref hh, .ref hw, .ref hv, .int (S 3), .ref ht, .int (S 4), .ref hq, .int (S 5)])), (hk, .inl (cI, 6, .inl ((fun c => S (8 + 4 * c + 0))))), (hm, .inl (cI, 6, .inl ((fun c => S (8 + 4 * c + 1))))), (hp, .inl (cI, 6, .inl ((fun c => S (8 + 4 * c + 2))))), (hh, .inl (cI, 6, .inl ((fun c => S (8 + 4 * c + 3))))), (h, .inr (5, fs)), (hE, .inl (cI, 7, .inl (upd E 1 (E 1 + nI 1))))] := hD
    have hP := hP.sub (ws' := [(h, .inr (5, fs)), (hS9, .inr (3, [.int (nI n), .ref hr9, .int (S 2), .int (S 0), .int (nI k), .ref hk, .ref hm, .ref hp, .ref hh, .ref hw, .ref hv, .int (S 3), .ref ht, .int (S 4), .ref hq, .int (S 5)])), (hk, .inl (cI, 6, .inl ((fun c => S (8 + 4 * c + 0))))), (hm, .inl (cI, 6, .inl ((fun c => S (8 + 4 * c + 1))))), (hp, .inl (cI, 6, .inl ((fun c => S (8 + 4 * c + 2))))), (hh, .inl (cI, 6, .inl ((fun c => S (8 + 4 * c + 3))))), (hE, .inl (cI, 7, .inl (upd E 1 (E 1 + nI 1))))]) [5, 0, 1, 2, 3, 4, 6] rfl
    have hD := hD.sub (ws' := [(h, .inr (5, fs)), (hS9, .inr (3, [.int (nI n), .ref hr9, .int (S 2), .int (S 0), .int (nI k), .ref hk, .ref hm, .ref hp, .ref hh, .ref hw, .ref hv, .int (S 3), .ref ht, .int (S 4), .ref hq, .int (S 5)])), (hk, .inl (cI, 6, .inl ((fun c => S (8 + 4 * c + 0))))), (hm, .inl (cI, 6, .inl ((fun c => S (8 + 4 * c + 1))))), (hp, .inl (cI, 6, .inl ((fun c => S (8 + 4 * c + 2))))), (hh, .inl (cI, 6, .inl ((fun c => S (8 + 4 * c + 3))))), (hE, .inl (cI, 7, .inl (upd E 1 (E 1 + nI 1))))]) [5, 0, 1, 2, 3, 4, 6] (by decide) rfl
    exact hret hP hD hS dX5_climber_26 rfl (by rw [show zo_climber S E n k km step = zerrE 1 S E from by rw [zo_climber, if_neg (by intro h9; first | exact absurd h9.1 (by assumption) | exact absurd h9.2 (by assumption))] <;> rfl]; exact ⟨rfl, by rw [← hk6]; rfl⟩)
  · have c7_1 := bI_nX0.mp c7_1
    obtain ⟨q, h_q, rfl⟩ : ∃ q : Nat, q ≤ 69 ∧ km = nI q := zrg_of c7_1 (by decide)
    refine lv_aload_n hx hb dX5_climber_10 rfl (lv_at hl 0 rfl) ?_
    refine va_get (ci := 5) (v := .ref hS9) (C := RX5) (T := TX5) (N := 9) hx hb hts hin5 hown hK hP 0 rfl rfl 0 (by decide) (hts (.fieldLink RX5 12 "UpAllRound" "now" "LUpAllRound$Stair;") (List.mem_of_getElem? (i := 1) rfl)) (fun _ h9 => h9) hU0 dX5_climber_11 ?_
    refine lv_iload_n hx hb dX5_climber_14 rfl (lv_at hl 2 rfl) ?_
    refine zcsE (va_runVN (As := [.int step]) (rest := []) ⟨hx, hb, hml, hown, hts⟩ (c_X3_hasStep l D cI cJ hS9 [.int (nI n), .ref hr9, .int (S 2), .int (S 0), .int (nI k), .ref hk, .ref hm, .ref hp, .ref hh, .ref hw, .ref hv, .int (S 3), .ref ht, .int (S 4), .ref hq, .int (S 5)] n step (by first | rfl | assumption | omega) (by first | rfl | assumption | omega) s.heap.size) ⟨va_cnB 1 hts gX5_climber_X3_hasStep_n74 rfl rfl rfl (hN (.methodLinkNest "UpAllRound" 74 yX3_hasStep "UpAllRound") (List.mem_of_getElem? (i := 30) rfl)) (hts (.initialized RX3) (List.mem_of_getElem? (i := 7) rfl)) (by decide +kernel) ⟨Nat.le_of_ble_eq_true rfl, Nat.le_of_ble_eq_true rfl⟩, (hts (.instanceMethod yX3_hasStep) (List.mem_of_getElem? (i := 6) rfl)), (hts (.selects RX3 yX3_hasStep yX3_hasStep) (List.mem_of_getElem? (i := 8) rfl))⟩ (zpV hK hN hZ hP hD hS hA [1] rfl (by decide) 1 rfl rfl rfl) rfl rfl hl.1 rfl (lv_room (Nat.le_of_ble_eq_true rfl)) dX5_climber_15 ⟨Nat.zero_le _, Nat.zero_le _⟩) ?_
    refine lv_if_ne (tgt := 27) hx hb dX5_climber_18 (by decide) (fun c18_5 => ?_) (fun c18_5 => ?_)
    · have c18_5 := bI_n0.mp c18_5
      obtain ⟨j, h_j, rfl⟩ := zin_of c18_5 (by omega)
      refine lv_aload_n hx hb dX5_climber_27 rfl (lv_at hl 0 rfl) ?_
      refine va_get (ci := 5) (v := .ref hS9) (C := RX5) (T := TX5) (N := 9) hx hb hts hin5 hown hK hP 0 rfl rfl 0 (by decide) (hts (.fieldLink RX5 12 "UpAllRound" "now" "LUpAllRound$Stair;") (List.mem_of_getElem? (i := 1) rfl)) (fun _ h9 => h9) hU0 dX5_climber_28 ?_
      refine va_getN (ci := 3) (v := .int (nI k)) (C := RX3) (T := TX3) (N := 16) hx hb hts hin3 hown hK hP 1 rfl rfl 4 (by decide) (va_Nw.use rfl (hN (.fieldLinkNest "UpAllRound" 64 "UpAllRound$Stair" "climbers" "I" "UpAllRound") (List.mem_of_getElem? (i := 4) rfl))) (fun _ h9 => h9) rfl dX5_climber_31 ?_
      refine lv_bipush (v := nI 6) hx hb dX5_climber_34 (by decide) ?_
      refine lv_icmp_lt (tgt := 45) hx hb dX5_climber_36 (by decide) (fun c36_6 => ?_) (fun c36_6 => ?_)
      · have c36_6 : k < 6 := (nI_ltI (a := k) (b := 6) (by omega) (by omega)).mp c36_6
        refine lv_aload_n hx hb dX5_climber_45 rfl (lv_at hl 0 rfl) ?_
        refine va_get (ci := 5) (v := .ref hS9) (C := RX5) (T := TX5) (N := 9) hx hb hts hin5 hown hK hP 0 rfl rfl 0 (by decide) (hts (.fieldLink RX5 12 "UpAllRound" "now" "LUpAllRound$Stair;") (List.mem_of_getElem? (i := 1) rfl)) (fun _ h9 => h9) hU0 dX5_climber_46 ?_
        refine lv_iload_n hx hb dX5_climber_49 rfl (lv_at hl 1 rfl) ?_
        refine lv_iload_n hx hb dX5_climber_50 rfl (lv_at hl 2 rfl) ?_
        refine zci (wr := [(h, .inr (5, fs)), (hE, .inl (cI, 7, .inl E))]) (va_runVN (As := [.int (nI q), .int (nI j)]) (rest := []) ⟨hx, hb, hml, hown, hts⟩ (c_X3_takeOn l D cI cJ hS9 hr9 hk hm hp hh hw hv ht hq (nI n) (S 2) (S 0) (S 3) (S 4) (S 5) k ((fun c => S (8 + 4 * c + 0))) ((fun c => S (8 + 4 * c + 1))) ((fun c => S (8 + 4 * c + 2))) ((fun c => S (8 + 4 * c + 3))) q (nI j) (by first | rfl | assumption | omega) (by first | rfl | assumption | omega) s.heap.size) ⟨va_cnB 2 hts gX5_climber_X3_takeOn_n87 rfl rfl rfl (hN (.methodLinkNest "UpAllRound" 87 yX3_takeOn "UpAllRound") (List.mem_of_getElem? (i := 32) rfl)) (hts (.initialized RX3) (List.mem_of_getElem? (i := 7) rfl)) (by decide +kernel) ⟨Nat.le_of_ble_eq_true rfl, Nat.le_of_ble_eq_true rfl⟩, (hts (.instanceMethod yX3_takeOn) (List.mem_of_getElem? (i := 17) rfl)), (hts (.selects RX3 yX3_takeOn yX3_takeOn) (List.mem_of_getElem? (i := 18) rfl))⟩ (zpV hK hN hZ hP hD hS hA [1, 2, 3, 4, 5] rfl (by decide) 1 rfl rfl rfl) rfl rfl hl.1 rfl (lv_room (Nat.le_of_ble_eq_true rfl)) dX5_climber_51 ⟨Nat.zero_le _, Nat.zero_le _⟩) hP hD hS hA [1, 2, 3, 4, 5] [0, 6] rfl rfl (by decide) (by decide) (fun r_9 w_8 H locs h_7 hP hD hS => ?_)
        obtain ⟨rfl, rfl⟩ := h_7
        have hP : va_P D vwCl [(h, .inr (5, fs)), (hE, .inl (cI, 7, .inl E)), (hS9, .inr (3, [.int ((nI n)), .ref hr9, .int ((S 2)), .int ((S 0)), .int (nI (k + 1)), .ref hk, .ref hm, .ref hp, .ref hh, .ref hw, .ref hv, .int ((S 3)), .ref ht, .int ((S 4)), .ref hq, .int ((S 5))])), (hk, .inl (cI, 6, .inl (upd ((fun c => S (8 + 4 * c + 0))) k (nI (q / 10))))), (hm, .inl (cI, 6, .inl (upd ((fun c => S (8 + 4 * c + 1))) k (nI (q % 10))))), (hp, .inl (cI, 6, .inl (upd ((fun c => S (8 + 4 * c + 2))) k (nI j)))), (hh, .inl (cI, 6, .inl (upd ((fun c => S (8 + 4 * c + 3))) k (nI 0))))] H := hP
        have hD : va_D AA [(h, .inr (5, fs)), (hE, .inl (cI, 7, .inl E)), (hS9, .inr (3, [.int ((nI n)), .ref hr9, .int ((S 2)), .int ((S 0)), .int (nI (k + 1)), .ref hk, .ref hm, .ref hp, .ref hh, .ref hw, .ref hv, .int ((S 3)), .ref ht, .int ((S 4)), .ref hq, .int ((S 5))])), (hk, .inl (cI, 6, .inl (upd ((fun c => S (8 + 4 * c + 0))) k (nI (q / 10))))), (hm, .inl (cI, 6, .inl (upd ((fun c => S (8 + 4 * c + 1))) k (nI (q % 10))))), (hp, .inl (cI, 6, .inl (upd ((fun c => S (8 + 4 * c + 2))) k (nI j)))), (hh, .inl (cI, 6, .inl (upd ((fun c => S (8 + 4 * c + 3))) k (nI 0))))] := hD
        have hP := hP.sub (ws' := [(h, .inr (5, fs)), (hS9, .inr (3, [.int ((nI n)), .ref hr9, .int ((S 2)), .int ((S 0)), .int (nI (k + 1)), .ref hk, .ref hm, .ref hp, .ref hh, .ref hw, .ref hv, .int ((S 3)), .ref ht, .int ((S 4)), .ref hq, .int ((S 5))])), (hk, .inl (cI, 6, .inl (upd ((fun c => S (8 + 4 * c + 0))) k (nI (q / 10))))), (hm, .inl (cI, 6, .inl (upd ((fun c => S (8 + 4 * c + 1))) k (nI (q % 10))))), (hp, .inl (cI, 6, .inl (upd ((fun c => S (8 + 4 * c + 2))) k (nI j)))), (hh, .inl (cI, 6, .inl (upd ((fun c => S (8 + 4 * c + 3))) k (nI 0)))), (hE, .inl (cI, 7, .inl E))]) [0, 2, 3, 4, 5, 6, 1] rfl
        have hD := hD.sub (ws' := [(h, .inr (5, fs)), (hS9, .inr (3, [.int ((nI n)), .ref hr9, .int ((S 2)), .int ((S 0)), .int (nI (k + 1)), .ref hk, .ref hm, .ref hp, .ref hh, .ref hw, .ref hv, .int ((S 3)), .ref ht, .int ((S 4)), .ref hq, .int ((S 5))])), (hk, .inl (cI, 6, .inl (upd ((fun c => S (8 + 4 * c + 0))) k (nI (q / 10))))), (hm, .inl (cI, 6, .inl (upd ((fun c => S (8 + 4 * c + 1))) k (nI (q % 10))))), (hp, .inl (cI, 6, .inl (upd ((fun c => S (8 + 4 * c + 2))) k (nI j)))), (hh, .inl (cI, 6, .inl (upd ((fun c => S (8 + 4 * c + 3))) k (nI 0)))), (hE, .inl (cI, 7, .inl E))]) [0, 2, 3, 4, 5, 6, 1] (by decide) rfl
        exact hret hP hD hS dX5_climber_54 rfl (by rw [show zo_climber S E n k (nI q) (nI j) = (nI k, upd (upd (upd (upd (upd S (8 + 4 * k + 0) (nI (q / 10))) (8 + 4 * k + 1) (nI (q % 10))) (8 + 4 * k + 2) (nI j)) (8 + 4 * k + 3) (nI 0)) 6 (nI (k + 1)), E) from by rw [zo_climber, if_pos ⟨by assumption, by assumption⟩, if_neg (by omega), nI_clamp (show q < 2147483648 by omega)] <;> rfl]; exact ⟨rfl, by rw [zcl0, zcl1, zcl2, zcl3]; rfl⟩)
      · have c36_6 : ¬ (k < 6) := fun h9 => c36_6 ((nI_ltI (a := k) (b := 6) (by omega) (by omega)).mpr h9)
        refine lv_aload_n hx hb dX5_climber_39 rfl (lv_at hl 0 rfl) ?_
        refine lv_iconst (v := nI 4) hx hb dX5_climber_40 (by decide) ?_
        refine zci (wr := [(hS9, .inr (3, [.int (nI n), .ref hr9, .int (S 2), .int (S 0), .int (nI k), .ref hk, .ref hm, .ref hp, .ref hh, .ref hw, .ref hv, .int (S 3), .ref ht, .int (S 4), .ref hq, .int (S 5)])), (hk, .inl (cI, 6, .inl ((fun c => S (8 + 4 * c + 0))))), (hm, .inl (cI, 6, .inl ((fun c => S (8 + 4 * c + 1))))), (hp, .inl (cI, 6, .inl ((fun c => S (8 + 4 * c + 2))))), (hh, .inl (cI, 6, .inl ((fun c => S (8 + 4 * c + 3)))))]) (va_runV (As := [.int (nI 4)]) (rest := []) ⟨hx, hb, hml, hown, hts⟩ (c_X5_refuse l D cI cJ h hE fs E 4 (by first | rfl | assumption | omega) (by first | rfl | assumption | omega) s.heap.size) (cwV 1 hts gX5_climber_X5_refuse rfl rfl rfl (by decide +kernel) ⟨Nat.le_of_ble_eq_true rfl, Nat.le_of_ble_eq_true rfl⟩) (zpV hK hN hZ hP hD hS hA [0, 6] rfl (by decide) 0 rfl rfl rfl) rfl rfl hl.1 rfl (lv_room (Nat.le_of_ble_eq_true rfl)) dX5_climber_41 ⟨Nat.zero_le _, Nat.zero_le _⟩) hP hD hS hA [0, 6] [1, 2, 3, 4, 5] rfl rfl (by decide) (by decide) (fun r_12 w_11 H locs h_10 hP hD hS => ?_)
        obtain ⟨rfl, rfl⟩ := h_10
        have hP : va_P D vwCl [(hS9, .inr (3, [.int (nI n), .ref hr9, .int (S 2), .int (S 0), .int (nI k), .ref hk, .ref hm, .ref hp, .ref hh, .ref hw, .ref hv, .int (S 3), .ref ht, .int (S 4), .ref hq, .int (S 5)])), (hk, .inl (cI, 6, .inl ((fun c => S (8 + 4 * c + 0))))), (hm, .inl (cI, 6, .inl ((fun c => S (8 + 4 * c + 1))))), (hp, .inl (cI, 6, .inl ((fun c => S (8 + 4 * c + 2))))), (hh, .inl (cI, 6, .inl ((fun c => S (8 + 4 * c + 3))))), (h, .inr (5, fs)), (hE, .inl (cI, 7, .inl (upd E 4 (E 4 + nI 1))))] H := hP
        have hD : va_D AA [(hS9, .inr (3, [.int (nI n), .ref hr9, .int (S 2), .int (S 0), .int (nI k), .ref hk, .ref hm, .ref hp, .ref hh, .ref hw, .ref hv, .int (S 3), .ref ht, .int (S 4), .ref hq, .int (S 5)])), (hk, .inl (cI, 6, .inl ((fun c => S (8 + 4 * c + 0))))), (hm, .inl (cI, 6, .inl ((fun c => S (8 + 4 * c + 1))))), (hp, .inl (cI, 6, .inl ((fun c => S (8 + 4 * c + 2))))), (hh, .inl (cI, 6, .inl ((fun c => S (8 + 4 * c + 3))))), (h, .inr (5, fs)), (hE, .inl (cI, 7, .inl (upd E 4 (E 4 + nI 1))))] := hD
        have hP := hP.sub (ws' := [(h, .inr (5, fs)), (hS9, .inr (3, [.int (nI n), .ref hr9, .int (S 2), .int (S 0), .int (nI k), .ref hk, .ref hm, .ref hp, .ref hh, .ref hw, .ref hv, .int (S 3), .ref ht, .int (S 4), .ref hq, .int (S 5)])), (hk, .inl (cI, 6, .inl ((fun c => S (8 + 4 * c + 0))))), (hm, .inl (cI, 6, .inl ((fun c => S (8 + 4 * c + 1))))), (hp, .inl (cI, 6, .inl ((fun c => S (8 + 4 * c + 2))))), (hh, .inl (cI, 6, .inl ((fun c => S (8 + 4 * c + 3))))), (hE, .inl (cI, 7, .inl (upd E 4 (E 4 + nI 1))))]) [5, 0, 1, 2, 3, 4, 6] rfl
        have hD := hD.sub (ws' := [(h, .inr (5, fs)), (hS9, .inr (3, [.int (nI n), .ref hr9, .int (S 2), .int (S 0), .int (nI k), .ref hk, .ref hm, .ref hp, .ref hh, .ref hw, .ref hv, .int (S 3), .ref ht, .int (S 4), .ref hq, .int (S 5)])), (hk, .inl (cI, 6, .inl ((fun c => S (8 + 4 * c + 0))))), (hm, .inl (cI, 6, .inl ((fun c => S (8 + 4 * c + 1))))), (hp, .inl (cI, 6, .inl ((fun c => S (8 + 4 * c + 2))))), (hh, .inl (cI, 6, .inl ((fun c => S (8 + 4 * c + 3))))), (hE, .inl (cI, 7, .inl (upd E 4 (E 4 + nI 1))))]) [5, 0, 1, 2, 3, 4, 6] (by decide) rfl
        exact hret hP hD hS dX5_climber_44 rfl (by rw [show zo_climber S E n k (nI q) (nI j) = zerrE 4 S E from by rw [zo_climber, if_pos ⟨by assumption, by assumption⟩, if_pos (by omega)] <;> rfl]; exact ⟨rfl, by rw [← hk6]; rfl⟩)
    · have c18_5 := bI_0.mp c18_5
      refine lv_aload_n hx hb dX5_climber_21 rfl (lv_at hl 0 rfl) ?_
      refine lv_iconst (v := nI 1) hx hb dX5_climber_22 (by decide) ?_
      refine zci (wr := [(hS9, .inr (3, [.int (nI n), .ref hr9, .int (S 2), .int (S 0), .int (nI k), .ref hk, .ref hm, .ref hp, .ref hh, .ref hw, .ref hv, .int (S 3), .ref ht, .int (S 4), .ref hq, .int (S 5)])), (hk, .inl (cI, 6, .inl ((fun c => S (8 + 4 * c + 0))))), (hm, .inl (cI, 6, .inl ((fun c => S (8 + 4 * c + 1))))), (hp, .inl (cI, 6, .inl ((fun c => S (8 + 4 * c + 2))))), (hh, .inl (cI, 6, .inl ((fun c => S (8 + 4 * c + 3)))))]) (va_runV (As := [.int (nI 1)]) (rest := []) ⟨hx, hb, hml, hown, hts⟩ (c_X5_refuse l D cI cJ h hE fs E 1 (by first | rfl | assumption | omega) (by first | rfl | assumption | omega) s.heap.size) (cwV 1 hts gX5_climber_X5_refuse rfl rfl rfl (by decide +kernel) ⟨Nat.le_of_ble_eq_true rfl, Nat.le_of_ble_eq_true rfl⟩) (zpV hK hN hZ hP hD hS hA [0, 6] rfl (by decide) 0 rfl rfl rfl) rfl rfl hl.1 rfl (lv_room (Nat.le_of_ble_eq_true rfl)) dX5_climber_23 ⟨Nat.zero_le _, Nat.zero_le _⟩) hP hD hS hA [0, 6] [1, 2, 3, 4, 5] rfl rfl (by decide) (by decide) (fun r_15 w_14 H locs h_13 hP hD hS => ?_)
      obtain ⟨rfl, rfl⟩ := h_13
      have hP : va_P D vwCl [(hS9, .inr (3, [.int (nI n), .ref hr9, .int (S 2), .int (S 0), .int (nI k), .ref hk, .ref hm, .ref hp, .ref hh, .ref hw, .ref hv, .int (S 3), .ref ht, .int (S 4), .ref hq, .int (S 5)])), (hk, .inl (cI, 6, .inl ((fun c => S (8 + 4 * c + 0))))), (hm, .inl (cI, 6, .inl ((fun c => S (8 + 4 * c + 1))))), (hp, .inl (cI, 6, .inl ((fun c => S (8 + 4 * c + 2))))), (hh, .inl (cI, 6, .inl ((fun c => S (8 + 4 * c + 3))))), (h, .inr (5, fs)), (hE, .inl (cI, 7, .inl (upd E 1 (E 1 + nI 1))))] H := hP
      have hD : va_D AA [(hS9, .inr (3, [.int (nI n), .ref hr9, .int (S 2), .int (S 0), .int (nI k), .ref hk, .ref hm, .ref hp, .ref hh, .ref hw, .ref hv, .int (S 3), .ref ht, .int (S 4), .ref hq, .int (S 5)])), (hk, .inl (cI, 6, .inl ((fun c => S (8 + 4 * c + 0))))), (hm, .inl (cI, 6, .inl ((fun c => S (8 + 4 * c + 1))))), (hp, .inl (cI, 6, .inl ((fun c => S (8 + 4 * c + 2))))), (hh, .inl (cI, 6, .inl ((fun c => S (8 + 4 * c + 3))))), (h, .inr (5, fs)), (hE, .inl (cI, 7, .inl (upd E 1 (E 1 + nI 1))))] := hD
      have hP := hP.sub (ws' := [(h, .inr (5, fs)), (hS9, .inr (3, [.int (nI n), .ref hr9, .int (S 2), .int (S 0), .int (nI k), .ref hk, .ref hm, .ref hp, .ref hh, .ref hw, .ref hv, .int (S 3), .ref ht, .int (S 4), .ref hq, .int (S 5)])), (hk, .inl (cI, 6, .inl ((fun c => S (8 + 4 * c + 0))))), (hm, .inl (cI, 6, .inl ((fun c => S (8 + 4 * c + 1))))), (hp, .inl (cI, 6, .inl ((fun c => S (8 + 4 * c + 2))))), (hh, .inl (cI, 6, .inl ((fun c => S (8 + 4 * c + 3))))), (hE, .inl (cI, 7, .inl (upd E 1 (E 1 + nI 1))))]) [5, 0, 1, 2, 3, 4, 6] rfl
      have hD := hD.sub (ws' := [(h, .inr (5, fs)), (hS9, .inr (3, [.int (nI n), .ref hr9, .int (S 2), .int (S 0), .int (nI k), .ref hk, .ref hm, .ref hp, .ref hh, .ref hw, .ref hv, .int (S 3), .ref ht, .int (S 4), .ref hq, .int (S 5)])), (hk, .inl (cI, 6, .inl ((fun c => S (8 + 4 * c + 0))))), (hm, .inl (cI, 6, .inl ((fun c => S (8 + 4 * c + 1))))), (hp, .inl (cI, 6, .inl ((fun c => S (8 + 4 * c + 2))))), (hh, .inl (cI, 6, .inl ((fun c => S (8 + 4 * c + 3))))), (hE, .inl (cI, 7, .inl (upd E 1 (E 1 + nI 1))))]) [5, 0, 1, 2, 3, 4, 6] (by decide) rfl
      exact hret hP hD hS dX5_climber_26 rfl (by rw [show zo_climber S E n k (nI q) step = zerrE 1 S E from by rw [zo_climber, if_neg (by intro h9; first | exact absurd h9.1 (by assumption) | exact absurd h9.2 (by assumption))] <;> rfl]; exact ⟨rfl, by rw [← hk6]; rfl⟩)
