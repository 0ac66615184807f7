
theorem bI_nn {X : Prop} [Decidable X] : bI (¬ X) = bI (¬ X) := rfl
abbrev zrg (L U : Int) (v : Int32) : Prop := L ≤ v.toInt ∧ v.toInt ≤ U
theorem bI_nn0 {X : Prop} [Decidable X] : ¬ bI (¬ X) = 0 ↔ ¬ X := bI_n0
theorem bI_nX0 {X : Prop} [Decidable X] : bI (¬ X) = 0 ↔ X := by rw [bI_0, Decidable.not_not]
abbrev zOut : Type := Int32 × (Nat → Int32) × (Nat → Int32)
def zerrE (k : Nat) (S E : Nat → Int32) : zOut := (zerr k, S, upd E k (E k + nI 1))
theorem zpr_c {S : Nat → Int32} {c0 j : Nat} {v : Int32} : upd (fun i => S (c0 + i)) j v = fun i => upd S (c0 + j) v (c0 + i) := by
  funext i; unfold upd; simp
theorem zpr_k {S : Nat → Int32} {w j : Nat} {v : Int32} : upd (fun c => S (8 + 4 * c + w)) j v = fun c => upd S (8 + 4 * j + w) v (8 + 4 * c + w) := by
  funext i; unfold upd
  by_cases e : i = j
  · subst e; simp
  · rw [if_neg e, if_neg (by omega)]
theorem d_X6_in (l : Launch) (D : va_G) (cI cJ : ClassId) (v : Int32) (lo : Int32) (hi : Int32) (L U : Int) (hL : lo.toInt = L) (hU : hi.toInt = U) : zSi l yX6_in wsX6_in ({ frames := 0, cells := 0, slots := 0, locals := 0 } : Room) D [(cI, .int), (cJ, .array .int)] [.int v, .int lo, .int hi] [] (fun r => r = bI (zrg L U v)) := by
  subst hL hU; exact c_X6_in l D cI cJ v lo hi
theorem d_X5_isOutside (l : Launch) (D : va_G) (cI cJ : ClassId) (v : Int32) (lo : Int32) (hi : Int32) (L U : Int) (hL : lo.toInt = L) (hU : hi.toInt = U) : zSi l yX5_isOutside wsX5_isOutside ({ frames := 0, cells := 0, slots := 0, locals := 0 } : Room) D [(cI, .int), (cJ, .array .int)] [.int v, .int lo, .int hi] [] (fun r => r = bI (¬ zrg L U v)) := by
  subst hL hU
  have e : bI (¬ zrg lo.toInt hi.toInt v) = bI (v.toInt < lo.toInt ∨ hi.toInt < v.toInt) := by
    have e2 : (¬ zrg lo.toInt hi.toInt v) ↔ (v.toInt < lo.toInt ∨ hi.toInt < v.toInt) := by unfold zrg; omega
    simp only [bI, e2]
  rw [e]
  exact c_X5_isOutside l D cI cJ v lo hi
theorem zrg_of {U : Nat} {v : Int32} (h : zrg 0 U v) (hU : U < 2147483647) : ∃ q : Nat, q ≤ U ∧ v = nI q := by
  obtain ⟨j, hj, e⟩ := zin_of (k := v) (n := U + 1) ⟨h.1, by have := h.2; omega⟩ (by omega)
  exact ⟨j, by omega, e⟩
def zo_rise (S E : Nat → Int32) (n k : Nat) (step : Int32) (v : Int32) : zOut := if zin step n ∧ zrg (-9) 9 v then (S (32 + step.toNatClampNeg), upd S (32 + step.toNatClampNeg) v, E) else zerrE 1 S E
set_option maxHeartbeats 4000000 in
set_option maxRecDepth 100000 in
theorem c_X6_rise (l : Launch) (D : va_G) (cI cJ : ClassId) (h : Nat) (hs : Nat) (hE : Nat) (fs : List Value) (S : Nat → Int32) (E : Nat → Int32) (n : Nat) (k : Nat) (step : Int32) (v : Int32) (hf0 : fs[0]? = some (.ref hs)) (hf4 : fs[4]? = some (.ref hE)) (hn1 : S 1 = nI n) (hk6 : S 6 = nI k) (hn4 : 4 ≤ n) (hn14 : n ≤ 14) (hkle : k ≤ 6) : zMi l yX6_rise wsX6_rise ({ frames := 2, cells := 0, slots := 0, locals := 43 } : Room) D [(cI, .int), (cJ, .array .int)] [.ref h, .int step, .int v] [(h, .inr (6, fs)), (hs, .inl (cI, 380, .inl S)), (hE, .inl (cI, 7, .inl E))] (fun r w => r = (zo_rise S E n k step v).1 ∧ w = [(h, .inr (6, fs)), (hs, .inl (cI, 380, .inl ((zo_rise S E n k step v).2.1))), (hE, .inl (cI, 7, .inl ((zo_rise S E n k step v).2.2)))]) := by
  refine zMi.start (cc := cX6_rise) (maxL := 3) (rt := .int) (by first | decide | decide +kernel) rfl (Nat.le_of_ble_eq_true rfl) ?_
  intro pg ev s mt args below meth cd ls AA QQ ⟨hx, hb, hml, hr, hlocks, hown, hts, hK, hN, hZ, hP, hD, hA, hS, hl⟩ hret
  have hown : s.vm.findClass RX6 = some mt.cls := hown
  have hl : lv_has ls 3 [(0, .ref h), (1, .int step), (2, .int v)] := hl
  have hin6 : ∀ w ∈ wsX60, w ∈ wsX6_rise := fun w h => List.mem_cons_of_mem _ (List.mem_append_right _ (h))
  refine lv_aload_n hx hb dX6_rise_0 rfl (lv_at hl 0 rfl) ?_
  refine lv_iload_n hx hb dX6_rise_1 rfl (lv_at hl 1 rfl) ?_
  refine zcsE (va_runV (As := [.int step]) (rest := []) ⟨hx, hb, hml, hown, hts⟩ (c_X6_isStep l D cI cJ h hs fs S n step (by first | rfl | assumption | omega) (by first | rfl | assumption | omega) (by first | rfl | assumption | omega) s.heap.size) (cwV 1 hts gX6_rise_X6_isStep rfl rfl rfl (by decide +kernel) ⟨Nat.le_of_ble_eq_true rfl, Nat.le_of_ble_eq_true rfl⟩) (zpV hK hN hZ hP hD hS hA [0, 1] rfl (by decide) 0 rfl rfl rfl) rfl rfl hl.1 rfl (lv_room (Nat.le_of_ble_eq_true rfl)) dX6_rise_2 ⟨Nat.zero_le _, Nat.zero_le _⟩) ?_
  refine lv_if_eq (tgt := 31) hx hb dX6_rise_5 (by decide) (fun c5_1 => ?_) (fun c5_1 => ?_)
  · have c5_1 := bI_0.mp c5_1
    refine lv_aload_n hx hb dX6_rise_31 rfl (lv_at hl 0 rfl) ?_
    refine lv_iconst (v := nI 1) hx hb dX6_rise_32 (by decide) ?_
    refine zci (wr := [(hs, .inl (cI, 380, .inl S))]) (va_runV (As := [.int (nI 1)]) (rest := []) ⟨hx, hb, hml, hown, hts⟩ (c_X6_error l D cI cJ h hE fs E 1 (by first | rfl | assumption | omega) (by first | rfl | assumption | omega) s.heap.size) (cwV 1 hts gX6_rise_X6_error rfl rfl rfl (by decide +kernel) ⟨Nat.le_of_ble_eq_true rfl, Nat.le_of_ble_eq_true rfl⟩) (zpV hK hN hZ hP hD hS hA [0, 2] rfl (by decide) 0 rfl rfl rfl) rfl rfl hl.1 rfl (lv_room (Nat.le_of_ble_eq_true rfl)) dX6_rise_33 ⟨Nat.zero_le _, Nat.zero_le _⟩) hP hD hS hA [0, 2] [1] rfl rfl (by decide) (by decide) (fun r_4 w_3 H locs h_2 hP hD hS => ?_)
    obtain ⟨rfl, rfl⟩ := h_2
    have hP : va_P D vwCl [(hs, .inl (cI, 380, .inl S)), (h, .inr (6, fs)), (hE, .inl (cI, 7, .inl (upd E 1 (E 1 + nI 1))))] H := hP
    have hD : va_D AA [(hs, .inl (cI, 380, .inl S)), (h, .inr (6, fs)), (hE, .inl (cI, 7, .inl (upd E 1 (E 1 + nI 1))))] := hD
    have hP := hP.sub (ws' := [(h, .inr (6, fs)), (hs, .inl (cI, 380, .inl S)), (hE, .inl (cI, 7, .inl (upd E 1 (E 1 + nI 1))))]) [1, 0, 2] rfl
    have hD := hD.sub (ws' := [(h, .inr (6, fs)), (hs, .inl (cI, 380, .inl S)), (hE, .inl (cI, 7, .inl (upd E 1 (E 1 + nI 1))))]) [1, 0, 2] (by decide) rfl
    exact hret hP hD hS dX6_rise_36 rfl (by rw [show zo_rise S E n k step v = zerrE 1 S E from by rw [zo_rise, if_neg (by intro h9; first | exact absurd h9.1 (by assumption) | exact absurd h9.2 (by assumption))] <;> rfl]; exact ⟨rfl, rfl⟩)
  · have c5_1 := bI_n0.mp c5_1
    obtain ⟨j, h_j, rfl⟩ := zin_of c5_1 (by omega)
    refine lv_iload_n hx hb dX6_rise_8 rfl (lv_at hl 2 rfl) ?_
    refine lv_bipush (v := (-9)) hx hb dX6_rise_9 (by decide) ?_
    refine lv_bipush (v := nI 9) hx hb dX6_rise_11 (by decide) ?_
    refine zcsE (va_runS (As := [.int v, .int ((-9)), .int (nI 9)]) (rest := []) ⟨hx, hb, hml, hown, hts⟩ (d_X6_in l D cI cJ v ((-9)) (nI 9) ((-9)) 9 (by decide) (by decide) s.heap.size) (va_cwS 3 hts gX6_rise_X6_in rfl rfl rfl (by decide +kernel) ⟨Nat.le_of_ble_eq_true rfl, Nat.le_of_ble_eq_true rfl⟩) (zpS hK hN hZ hP hD hS hA [] rfl (by decide)) rfl rfl hl.1 rfl (lv_room (Nat.le_of_ble_eq_true rfl)) dX6_rise_13 ⟨Nat.zero_le _, Nat.zero_le _⟩) ?_
    refine lv_if_eq (tgt := 31) hx hb dX6_rise_16 (by decide) (fun c16_5 => ?_) (fun c16_5 => ?_)
    · have c16_5 := bI_0.mp c16_5
      refine lv_aload_n hx hb dX6_rise_31 rfl (lv_at hl 0 rfl) ?_
      refine lv_iconst (v := nI 1) hx hb dX6_rise_32 (by decide) ?_
      refine zci (wr := [(hs, .inl (cI, 380, .inl S))]) (va_runV (As := [.int (nI 1)]) (rest := []) ⟨hx, hb, hml, hown, hts⟩ (c_X6_error l D cI cJ h hE fs E 1 (by first | rfl | assumption | omega) (by first | rfl | assumption | omega) s.heap.size) (cwV 1 hts gX6_rise_X6_error rfl rfl rfl (by decide +kernel) ⟨Nat.le_of_ble_eq_true rfl, Nat.le_of_ble_eq_true rfl⟩) (zpV hK hN hZ hP hD hS hA [0, 2] rfl (by decide) 0 rfl rfl rfl) rfl rfl hl.1 rfl (lv_room (Nat.le_of_ble_eq_true rfl)) dX6_rise_33 ⟨Nat.zero_le _, Nat.zero_le _⟩) hP hD hS hA [0, 2] [1] rfl rfl (by decide) (by decide) (fun r_8 w_7 H locs h_6 hP hD hS => ?_)
      obtain ⟨rfl, rfl⟩ := h_6
      have hP : va_P D vwCl [(hs, .inl (cI, 380, .inl S)), (h, .inr (6, fs)), (hE, .inl (cI, 7, .inl (upd E 1 (E 1 + nI 1))))] H := hP
      have hD : va_D AA [(hs, .inl (cI, 380, .inl S)), (h, .inr (6, fs)), (hE, .inl (cI, 7, .inl (upd E 1 (E 1 + nI 1))))] := hD
      have hP := hP.sub (ws' := [(h, .inr (6, fs)), (hs, .inl (cI, 380, .inl S)), (hE, .inl (cI, 7, .inl (upd E 1 (E 1 + nI 1))))]) [1, 0, 2] rfl
      have hD := hD.sub (ws' := [(h, .inr (6, fs)), (hs, .inl (cI, 380, .inl S)), (hE, .inl (cI, 7, .inl (upd E 1 (E 1 + nI 1))))]) [1, 0, 2] (by decide) rfl
      exact hret hP hD hS dX6_rise_36 rfl (by rw [show zo_rise S E n k (nI j) v = zerrE 1 S E from by rw [zo_rise, if_neg (by intro h9; first | exact absurd h9.1 (by assumption) | exact absurd h9.2 (by assumption))] <;> rfl]; exact ⟨rfl, rfl⟩)
    · have c16_5 := bI_n0.mp c16_5
      refine lv_aload_n hx hb dX6_rise_19 rfl (lv_at hl 0 rfl) ?_
      refine lv_bipush (v := nI 32) hx hb dX6_rise_20 (by decide) ?_
      refine lv_iload_n hx hb dX6_rise_22 rfl (lv_at hl 1 rfl) ?_
      refine lv_iadd hx hb dX6_rise_23 ?_
      refine zrw (nI_add _ _) ?_
      refine lv_iload_n hx hb dX6_rise_24 rfl (lv_at hl 2 rfl) ?_
      refine zci (wr := [(hE, .inl (cI, 7, .inl E))]) (va_runV (As := [.int (nI (32 + j)), .int v]) (rest := []) ⟨hx, hb, hml, hown, hts⟩ (c_X6_change1 l D cI cJ h hs fs S (32 + j) v (by first | rfl | assumption | omega) (by first | rfl | assumption | omega) s.heap.size) (cwV 2 hts gX6_rise_X6_change1 rfl rfl rfl (by decide +kernel) ⟨Nat.le_of_ble_eq_true rfl, Nat.le_of_ble_eq_true rfl⟩) (zpV hK hN hZ hP hD hS hA [0, 1] rfl (by decide) 0 rfl rfl rfl) rfl rfl hl.1 rfl (lv_room (Nat.le_of_ble_eq_true rfl)) dX6_rise_25 ⟨Nat.zero_le _, Nat.zero_le _⟩) hP hD hS hA [0, 1] [2] rfl rfl (by decide) (by decide) (fun r_11 w_10 H locs h_9 hP hD hS => ?_)
      obtain ⟨rfl, rfl⟩ := h_9
      have hP : va_P D vwCl [(hE, .inl (cI, 7, .inl E)), (h, .inr (6, fs)), (hs, .inl (cI, 380, .inl (upd S (32 + j) v)))] H := hP
      have hD : va_D AA [(hE, .inl (cI, 7, .inl E)), (h, .inr (6, fs)), (hs, .inl (cI, 380, .inl (upd S (32 + j) v)))] := hD
      refine lv_goto (tgt := 36) hx hb dX6_rise_28 (by decide) ?_
      have hP := hP.sub (ws' := [(h, .inr (6, fs)), (hs, .inl (cI, 380, .inl (upd S (32 + j) v))), (hE, .inl (cI, 7, .inl E))]) [1, 2, 0] rfl
      have hD := hD.sub (ws' := [(h, .inr (6, fs)), (hs, .inl (cI, 380, .inl (upd S (32 + j) v))), (hE, .inl (cI, 7, .inl E))]) [1, 2, 0] (by decide) rfl
      exact hret hP hD hS dX6_rise_36 rfl (by rw [show zo_rise S E n k (nI j) v = (S (32 + j), upd S (32 + j) v, E) from by rw [zo_rise, if_pos ⟨by assumption, by assumption⟩, nI_clamp (show j < 2147483648 by omega)] <;> rfl]; exact ⟨rfl, rfl⟩)
set_option maxHeartbeats 4000000 in
set_option maxRecDepth 100000 in
theorem c_X5_rise (l : Launch) (D : va_G) (cI cJ : ClassId) (h : Nat) (hE : Nat) (hS9 : Nat) (fs : List Value) (S : Nat → Int32) (E : Nat → Int32) (n : Nat) (k : Nat) (ft : List Value) (hr9 : Nat) (step : Int32) (v : Int32) (hU0 : fs[0]? = some (.ref hS9)) (hU7 : fs[7]? = some (.ref hE)) (hn1 : S 1 = nI n) (hk6 : S 6 = nI k) (hn4 : 4 ≤ n) (hn14 : n ≤ 14) (hkle : k ≤ 6) (hft0 : ft[0]? = some (.int (nI n))) (hft1 : ft[1]? = some (.ref hr9)) : zMi l yX5_rise wsX5_rise ({ frames := 1, cells := 0, slots := 0, locals := 22 } : Room) D [(cI, .int), (cJ, .array .int)] [.ref h, .int step, .int v] [(h, .inr (5, fs)), (hS9, .inr (3, ft)), (hr9, .inl (cI, 14, .inl ((fun i => S (32 + i))))), (hE, .inl (cI, 7, .inl E))] (fun r w => r = (zo_rise S E n k step v).1 ∧ w = [(h, .inr (5, fs)), (hS9, .inr (3, ft)), (hr9, .inl (cI, 14, .inl ((fun i => (zo_rise S E n k step v).2.1 (32 + i))))), (hE, .inl (cI, 7, .inl ((zo_rise S E n k step v).2.2)))]) := by
  refine zMi.start (cc := cX5_rise) (maxL := 4) (rt := .int) (by first | decide | decide +kernel) rfl (Nat.le_of_ble_eq_true rfl) ?_
  intro pg ev s mt args below meth cd ls AA QQ ⟨hx, hb, hml, hr, hlocks, hown, hts, hK, hN, hZ, hP, hD, hA, hS, hl⟩ hret
  have hown : s.vm.findClass RX5 = some mt.cls := hown
  have hl : lv_has ls 4 [(0, .ref h), (1, .int step), (2, .int v)] := hl
  have hin3 : ∀ w ∈ wsX30, w ∈ wsX5_rise := fun w h => List.mem_cons_of_mem _ (List.mem_append_right _ (h))
  have hin5 : ∀ w ∈ wsX50, w ∈ wsX5_rise := fun w h => List.mem_cons_of_mem _ (List.mem_append_left _ (List.mem_append_right _ (h)))
  refine lv_aload_n hx hb dX5_rise_0 rfl (lv_at hl 0 rfl) ?_
  refine va_get (ci := 5) (v := .ref hS9) (C := RX5) (T := TX5) (N := 9) hx hb hts hin5 hown hK hP 0 rfl rfl 0 (by decide) (hts (.fieldLink RX5 12 "UpAllRound" "now" "LUpAllRound$Stair;") (List.mem_of_getElem? (i := 1) rfl)) (fun _ h9 => h9) hU0 dX5_rise_1 ?_
  refine lv_iload_n hx hb dX5_rise_4 rfl (lv_at hl 1 rfl) ?_
  refine zcsE (va_runVN (As := [.int step]) (rest := []) ⟨hx, hb, hml, hown, hts⟩ (c_X3_hasStep l D cI cJ hS9 ft n step (by first | rfl | assumption | omega) (by first | rfl | assumption | omega) s.heap.size) ⟨va_cnB 1 hts gX5_rise_X3_hasStep_n74 rfl rfl rfl (hN (.methodLinkNest "UpAllRound" 74 yX3_hasStep "UpAllRound") (List.mem_of_getElem? (i := 30) rfl)) (hts (.initialized RX3) (List.mem_of_getElem? (i := 3) rfl)) (by decide +kernel) ⟨Nat.le_of_ble_eq_true rfl, Nat.le_of_ble_eq_true rfl⟩, (hts (.instanceMethod yX3_hasStep) (List.mem_of_getElem? (i := 2) rfl)), (hts (.selects RX3 yX3_hasStep yX3_hasStep) (List.mem_of_getElem? (i := 4) rfl))⟩ (zpV hK hN hZ hP hD hS hA [1] rfl (by decide) 1 rfl rfl rfl) rfl rfl hl.1 rfl (lv_room (Nat.le_of_ble_eq_true rfl)) dX5_rise_5 ⟨Nat.zero_le _, Nat.zero_le _⟩) ?_
  refine lv_if_eq (tgt := 22) hx hb dX5_rise_8 (by decide) (fun c8_1 => ?_) (fun c8_1 => ?_)
  · have c8_1 := bI_0.mp c8_1
    refine lv_aload_n hx hb dX5_rise_22 rfl (lv_at hl 0 rfl) ?_
    refine lv_iconst (v := nI 1) hx hb dX5_rise_23 (by decide) ?_
    refine zci (wr := [(hS9, .inr (3, ft)), (hr9, .inl (cI, 14, .inl ((fun i => S (32 + i)))))]) (va_runV (As := [.int (nI 1)]) (rest := []) ⟨hx, hb, hml, hown, hts⟩ (c_X5_refuse l D cI cJ h hE fs E 1 (by first | rfl | assumption | omega) (by first | rfl | assumption | omega) s.heap.size) (cwV 1 hts gX5_rise_X5_refuse rfl rfl rfl (by decide +kernel) ⟨Nat.le_of_ble_eq_true rfl, Nat.le_of_ble_eq_true rfl⟩) (zpV hK hN hZ hP hD hS hA [0, 3] rfl (by decide) 0 rfl rfl rfl) rfl rfl hl.1 rfl (lv_room (Nat.le_of_ble_eq_true rfl)) dX5_rise_24 ⟨Nat.zero_le _, Nat.zero_le _⟩) hP hD hS hA [0, 3] [1, 2] rfl rfl (by decide) (by decide) (fun r_4 w_3 H locs h_2 hP hD hS => ?_)
    obtain ⟨rfl, rfl⟩ := h_2
    have hP : va_P D vwCl [(hS9, .inr (3, ft)), (hr9, .inl (cI, 14, .inl ((fun i => S (32 + i))))), (h, .inr (5, fs)), (hE, .inl (cI, 7, .inl (upd E 1 (E 1 + nI 1))))] H := hP
    have hD : va_D AA [(hS9, .inr (3, ft)), (hr9, .inl (cI, 14, .inl ((fun i => S (32 + i))))), (h, .inr (5, fs)), (hE, .inl (cI, 7, .inl (upd E 1 (E 1 + nI 1))))] := hD
    have hP := hP.sub (ws' := [(h, .inr (5, fs)), (hS9, .inr (3, ft)), (hr9, .inl (cI, 14, .inl ((fun i => S (32 + i))))), (hE, .inl (cI, 7, .inl (upd E 1 (E 1 + nI 1))))]) [2, 0, 1, 3] rfl
    have hD := hD.sub (ws' := [(h, .inr (5, fs)), (hS9, .inr (3, ft)), (hr9, .inl (cI, 14, .inl ((fun i => S (32 + i))))), (hE, .inl (cI, 7, .inl (upd E 1 (E 1 + nI 1))))]) [2, 0, 1, 3] (by decide) rfl
    exact hret hP hD hS dX5_rise_27 rfl (by rw [show zo_rise S E n k step v = zerrE 1 S E from by rw [zo_rise, if_neg (by intro h9; first | exact absurd h9.1 (by assumption) | exact absurd h9.2 (by assumption))] <;> rfl]; exact ⟨rfl, rfl⟩)
  · have c8_1 := bI_n0.mp c8_1
    obtain ⟨j, h_j, rfl⟩ := zin_of c8_1 (by omega)
    refine lv_iload_n hx hb dX5_rise_11 rfl (lv_at hl 2 rfl) ?_
    refine lv_bipush (v := (-9)) hx hb dX5_rise_12 (by decide) ?_
    refine lv_bipush (v := nI 9) hx hb dX5_rise_14 (by decide) ?_
    refine zcsE (va_runS (As := [.int v, .int ((-9)), .int (nI 9)]) (rest := []) ⟨hx, hb, hml, hown, hts⟩ (d_X5_isOutside l D cI cJ v ((-9)) (nI 9) ((-9)) 9 (by decide) (by decide) s.heap.size) (va_cwS 3 hts gX5_rise_X5_isOutside rfl rfl rfl (by decide +kernel) ⟨Nat.le_of_ble_eq_true rfl, Nat.le_of_ble_eq_true rfl⟩) (zpS hK hN hZ hP hD hS hA [] rfl (by decide)) rfl rfl hl.1 rfl (lv_room (Nat.le_of_ble_eq_true rfl)) dX5_rise_16 ⟨Nat.zero_le _, Nat.zero_le _⟩) ?_
    refine lv_if_eq (tgt := 28) hx hb dX5_rise_19 (by decide) (fun c19_5 => ?_) (fun c19_5 => ?_)
    · have c19_5 := bI_nX0.mp c19_5
      refine lv_aload_n hx hb dX5_rise_28 rfl (lv_at hl 0 rfl) ?_
      refine va_get (ci := 5) (v := .ref hS9) (C := RX5) (T := TX5) (N := 9) hx hb hts hin5 hown hK hP 0 rfl rfl 0 (by decide) (hts (.fieldLink RX5 12 "UpAllRound" "now" "LUpAllRound$Stair;") (List.mem_of_getElem? (i := 1) rfl)) (fun _ h9 => h9) hU0 dX5_rise_29 ?_
      refine va_getN (ci := 3) (v := .ref hr9) (C := RX3) (T := TX3) (N := 16) hx hb hts hin3 hown hK hP 1 rfl rfl 1 (by decide) (va_Nw.use rfl (hN (.fieldLinkNest "UpAllRound" 78 "UpAllRound$Stair" "rises" "[I" "UpAllRound") (List.mem_of_getElem? (i := 1) rfl))) (fun _ h9 => h9) hft1 dX5_rise_32 ?_
      refine lv_iload_n hx hb dX5_rise_35 rfl (lv_at hl 1 rfl) ?_
      refine zald (t := j) hx hb hK hP 2 rfl (by omega) (by decide) dX5_rise_36 ?_
      refine lv_istore_n (lv' := [(3, .int (((fun i => S (32 + i))) j)), (0, .ref h), (1, .int (nI j)), (2, .int v)]) hx hb dX5_rise_37 rfl hl (by decide) rfl (fun ls hl => ?_)
      refine lv_aload_n hx hb dX5_rise_38 rfl (lv_at hl 1 rfl) ?_
      refine va_get (ci := 5) (v := .ref hS9) (C := RX5) (T := TX5) (N := 9) hx hb hts hin5 hown hK hP 0 rfl rfl 0 (by decide) (hts (.fieldLink RX5 12 "UpAllRound" "now" "LUpAllRound$Stair;") (List.mem_of_getElem? (i := 1) rfl)) (fun _ h9 => h9) hU0 dX5_rise_39 ?_
      refine va_getN (ci := 3) (v := .ref hr9) (C := RX3) (T := TX3) (N := 16) hx hb hts hin3 hown hK hP 1 rfl rfl 1 (by decide) (va_Nw.use rfl (hN (.fieldLinkNest "UpAllRound" 78 "UpAllRound$Stair" "rises" "[I" "UpAllRound") (List.mem_of_getElem? (i := 1) rfl))) (fun _ h9 => h9) hft1 dX5_rise_42 ?_
      refine lv_iload_n hx hb dX5_rise_45 rfl (lv_at hl 2 rfl) ?_
      refine lv_iload_n hx hb dX5_rise_46 rfl (lv_at hl 3 rfl) ?_
      refine zast (t := j) hx hb hK hP hD hS 2 rfl (by omega) (by decide) dX5_rise_47 (fun H locs hP hD hS => ?_)
      have hP : va_P D vwCl [(h, .inr (5, fs)), (hS9, .inr (3, ft)), (hr9, .inl (cI, 14, .inl (upd ((fun i => S (32 + i))) j v))), (hE, .inl (cI, 7, .inl E))] H := hP
      have hD : va_D AA [(h, .inr (5, fs)), (hS9, .inr (3, ft)), (hr9, .inl (cI, 14, .inl (upd ((fun i => S (32 + i))) j v))), (hE, .inl (cI, 7, .inl E))] := hD
      refine lv_iload_n hx hb dX5_rise_48 rfl (lv_at hl 0 rfl) ?_
      exact hret hP hD hS dX5_rise_49 rfl (by rw [show zo_rise S E n k (nI j) v = (S (32 + j), upd S (32 + j) v, E) from by rw [zo_rise, if_pos ⟨by assumption, by assumption⟩, nI_clamp (show j < 2147483648 by omega)] <;> rfl]; exact ⟨rfl, by rw [zpr_c]⟩)
    · have c19_5 := bI_nn0.mp c19_5
      refine lv_aload_n hx hb dX5_rise_22 rfl (lv_at hl 0 rfl) ?_
      refine lv_iconst (v := nI 1) hx hb dX5_rise_23 (by decide) ?_
      refine zci (wr := [(hS9, .inr (3, ft)), (hr9, .inl (cI, 14, .inl ((fun i => S (32 + i)))))]) (va_runV (As := [.int (nI 1)]) (rest := []) ⟨hx, hb, hml, hown, hts⟩ (c_X5_refuse l D cI cJ h hE fs E 1 (by first | rfl | assumption | omega) (by first | rfl | assumption | omega) s.heap.size) (cwV 1 hts gX5_rise_X5_refuse rfl rfl rfl (by decide +kernel) ⟨Nat.le_of_ble_eq_true rfl, Nat.le_of_ble_eq_true rfl⟩) (zpV hK hN hZ hP hD hS hA [0, 3] rfl (by decide) 0 rfl rfl rfl) rfl rfl hl.1 rfl (lv_room (Nat.le_of_ble_eq_true rfl)) dX5_rise_24 ⟨Nat.zero_le _, Nat.zero_le _⟩) hP hD hS hA [0, 3] [1, 2] rfl rfl (by decide) (by decide) (fun r_8 w_7 H locs h_6 hP hD hS => ?_)
      obtain ⟨rfl, rfl⟩ := h_6
      have hP : va_P D vwCl [(hS9, .inr (3, ft)), (hr9, .inl (cI, 14, .inl ((fun i => S (32 + i))))), (h, .inr (5, fs)), (hE, .inl (cI, 7, .inl (upd E 1 (E 1 + nI 1))))] H := hP
      have hD : va_D AA [(hS9, .inr (3, ft)), (hr9, .inl (cI, 14, .inl ((fun i => S (32 + i))))), (h, .inr (5, fs)), (hE, .inl (cI, 7, .inl (upd E 1 (E 1 + nI 1))))] := hD
      have hP := hP.sub (ws' := [(h, .inr (5, fs)), (hS9, .inr (3, ft)), (hr9, .inl (cI, 14, .inl ((fun i => S (32 + i))))), (hE, .inl (cI, 7, .inl (upd E 1 (E 1 + nI 1))))]) [2, 0, 1, 3] rfl
      have hD := hD.sub (ws' := [(h, .inr (5, fs)), (hS9, .inr (3, ft)), (hr9, .inl (cI, 14, .inl ((fun i => S (32 + i))))), (hE, .inl (cI, 7, .inl (upd E 1 (E 1 + nI 1))))]) [2, 0, 1, 3] (by decide) rfl
      exact hret hP hD hS dX5_rise_27 rfl (by rw [show zo_rise S E n k (nI j) v = zerrE 1 S E from by rw [zo_rise, if_neg (by intro h9; first | exact absurd h9.1 (by assumption) | exact absurd h9.2 (by assumption))] <;> rfl]; exact ⟨rfl, rfl⟩)
set_option maxHeartbeats 4000000 in
set_option maxRecDepth 100000 in
theorem c_J7_fill_53178 (l : Launch) (D : va_G) (cI cJ : ClassId) (h : Nat) (N0 : Nat) (F : Nat → Int32) (v : Int32) (hN0 : N0 < 2147483648) : zMv l yJ7_fill_53178 wsJ7_fill_53178 ({ frames := 0, cells := 0, slots := 0, locals := 0 } : Room) D [(cI, .int), (cJ, .array .int)] [.ref h, .int v] [(h, .inl (cI, N0, .inl F))] (fun w => w = [(h, .inl (cI, N0, .inl (zfill F 0 N0 v)))]) := by
  refine zMv.start (cc := cJ7_fill_53178) (maxL := 4) (by first | decide | decide +kernel) rfl (Nat.le_of_ble_eq_true rfl) ?_
  intro pg ev s mt args below meth cd ls AA QQ ⟨hx, hb, hml, hr, hlocks, hown, hts, hK, hN, hZ, hP, hD, hA, hS, hl⟩ hret
  have hown : s.vm.findClass RJ7 = some mt.cls := hown
  have hl : lv_has ls 4 [(0, .ref h), (1, .int v)] := hl
  refine lv_iconst (v := nI 0) hx hb dJ7_fill_53178_0 (by decide) ?_
  refine lv_istore_n (lv' := [(2, .int (nI 0)), (0, .ref h), (1, .int v)]) hx hb dJ7_fill_53178_1 rfl hl (by decide) rfl (fun ls hl => ?_)
  refine lv_aload_n hx hb dJ7_fill_53178_2 rfl (lv_at hl 1 rfl) ?_
  refine va_alen hx hb hK hP 0 0 rfl rfl (v := nI N0) rfl dJ7_fill_53178_3 ?_
  refine lv_istore_n (lv' := [(3, .int (nI N0)), (2, .int (nI 0)), (0, .ref h), (1, .int v)]) hx hb dJ7_fill_53178_4 rfl hl (by decide) rfl (fun ls hl => ?_)
  rw [← zfill_0 F 0 v] at hP hD
  have L_5 : ∀ (fu j : Nat)  (hi : j ≤ N0) (hn : N0 + 1 ≤ j + fu) , ∀ (ls : Array Slot), lv_has ls 4 [(0, .ref h), (1, .int v), (2, .int (nI j)), (3, .int (nI N0))] → ∀ (H : Heap) (locs : List Loc), va_P D vwCl [(h, .inl (cI, N0, .inl (zfill F 0 j v)))] H → va_D AA [(h, .inl (cI, N0, .inl (zfill F 0 j v)))] → va_S AA s.heap H locs → W pg l ev ({ frames := 0, cells := 0, slots := 0, locals := 0 } : Room) s mt args below meth cd H locs 0 0 QQ (F0 mt 5 ls []) := by
    intro fu
    induction fu with
    | zero =>
      intro j  hi hn
      exact absurd hn (by omega)
    | succ fu ih_5 =>
      intro j  hi hn  ls hl H locs hP hD hS
      refine lv_iload_n hx hb dJ7_fill_53178_5 rfl (lv_at hl 2 rfl) ?_
      refine lv_iload_n hx hb dJ7_fill_53178_6 rfl (lv_at hl 3 rfl) ?_
      refine lv_icmp_ge (tgt := 20) hx hb dJ7_fill_53178_7 (by decide) (fun c7_1 => ?_) (fun c7_1 => ?_)
      · have c7_1 : N0 ≤ j := (nI_leI (a := N0) (b := j) (by omega) (by omega)).mp c7_1
        exact hret hP hD hS dJ7_fill_53178_20 (by rw [show j = N0 from by omega])
      · have c7_1 : ¬ (N0 ≤ j) := fun h9 => c7_1 ((nI_leI (a := N0) (b := j) (by omega) (by omega)).mpr h9)
        refine lv_aload_n hx hb dJ7_fill_53178_10 rfl (lv_at hl 0 rfl) ?_
        refine lv_iload_n hx hb dJ7_fill_53178_11 rfl (lv_at hl 2 rfl) ?_
        refine lv_iload_n hx hb dJ7_fill_53178_12 rfl (lv_at hl 1 rfl) ?_
        refine zast (t := j) hx hb hK hP hD hS 0 rfl (by omega) hN0 dJ7_fill_53178_13 (fun H locs hP hD hS => ?_)
        have hP : va_P D vwCl [(h, .inl (cI, N0, .inl (upd (zfill F 0 j v) j v)))] H := hP
        have hD : va_D AA [(h, .inl (cI, N0, .inl (upd (zfill F 0 j v) j v)))] := hD
        refine lv_iinc (v := nI (j + 1)) (lv' := [(2, .int (nI (j + 1))), (0, .ref h), (1, .int v), (3, .int (nI N0))]) hx hb dJ7_fill_53178_14 hl (k := 2) rfl (nI_add _ _) (by decide) rfl (fun ls hl => ?_)
        refine lv_goto (tgt := 5) hx hb dJ7_fill_53178_17 (by decide) ?_
        rw [show upd (zfill F 0 j v) j v = zfill F 0 (j + 1) v from by have h9 := zfill_s F 0 j v; rwa [Nat.zero_add] at h9] at hP hD
        exact ih_5  (j + 1)  (by omega) (by omega)  ls (lv_sub hl [1, 2, 0, 3] rfl) H locs hP hD hS
  exact L_5 (N0 + 1) 0  (by omega) (by omega)  ls (lv_sub hl [2, 3, 1, 0] rfl) _ _ hP hD hS
set_option maxHeartbeats 4000000 in
set_option maxRecDepth 100000 in
theorem c_X3_lay (l : Launch) (D : va_G) (cI cJ : ClassId) (h : Nat) (hr9 : Nat) (hk : Nat) (hm : Nat) (hp : Nat) (hh : Nat) (hw : Nat) (hv : Nat) (ht : Nat) (hq : Nat) (f0 : Int32) (f2 : Int32) (f3 : Int32) (f4 : Int32) (f11 : Int32) (f13 : Int32) (f15 : Int32) (R0 : Nat → Int32) (nn : Nat)  : zMv l yX3_lay wsX3_lay ({ frames := 1, cells := 0, slots := 0, locals := 23 } : Room) D [(cI, .int), (cJ, .array .int)] [.ref h, .int (nI nn)] [(h, .inr (3, [.int f0, .ref hr9, .int f2, .int f3, .int f4, .ref hk, .ref hm, .ref hp, .ref hh, .ref hw, .ref hv, .int f11, .ref ht, .int f13, .ref hq, .int f15])), (hr9, .inl (cI, 14, .inl R0))] (fun w => w = [(h, .inr (3, [.int (nI nn), .ref hr9, .int ((-1)), .int f3, .int f4, .ref hk, .ref hm, .ref hp, .ref hh, .ref hw, .ref hv, .int f11, .ref ht, .int f13, .ref hq, .int f15])), (hr9, .inl (cI, 14, .inl (zfill R0 0 14 (nI 1))))]) := by
  refine zMv.start (cc := cX3_lay) (maxL := 2) (by first | decide | decide +kernel) rfl (Nat.le_of_ble_eq_true rfl) ?_
  intro pg ev s mt args below meth cd ls AA QQ ⟨hx, hb, hml, hr, hlocks, hown, hts, hK, hN, hZ, hP, hD, hA, hS, hl⟩ hret
  have hown : s.vm.findClass RX3 = some mt.cls := hown
  have hl : lv_has ls 2 [(0, .ref h), (1, .int (nI nn))] := hl
  have hin3 : ∀ w ∈ wsX30, w ∈ wsX3_lay := fun w h => List.mem_cons_of_mem _ (List.mem_append_right _ (h))
  refine lv_aload_n hx hb dX3_lay_0 rfl (lv_at hl 0 rfl) ?_
  refine lv_iload_n hx hb dX3_lay_1 rfl (lv_at hl 1 rfl) ?_
  refine va_put (ci := 3) (v := .int (nI nn)) (ty := .int) (C := RX3) (T := TX3) (N := 16) hx hb hts hin3 tyX3 tyX3_ok nmX3 hown hK hP hD hS 0 rfl rfl 0 (by decide) (hts (.fieldLink RX3 63 "UpAllRound$Stair" "steps" "I") (List.mem_of_getElem? (i := 1) rfl)) (fun _ h9 => h9) rfl (by decide +kernel) rfl rfl (Nat.le_of_ble_eq_true rfl) dX3_lay_2 (fun H locs hP hD hS => ?_)
  have hP : va_P D vwCl [(h, .inr (3, [.int (nI nn), .ref hr9, .int f2, .int f3, .int f4, .ref hk, .ref hm, .ref hp, .ref hh, .ref hw, .ref hv, .int f11, .ref ht, .int f13, .ref hq, .int f15])), (hr9, .inl (cI, 14, .inl R0))] H := hP
  have hD : va_D AA [(h, .inr (3, [.int (nI nn), .ref hr9, .int f2, .int f3, .int f4, .ref hk, .ref hm, .ref hp, .ref hh, .ref hw, .ref hv, .int f11, .ref ht, .int f13, .ref hq, .int f15])), (hr9, .inl (cI, 14, .inl R0))] := hD
  refine lv_aload_n hx hb dX3_lay_5 rfl (lv_at hl 0 rfl) ?_
  refine lv_iconst (v := (-1)) hx hb dX3_lay_6 (by decide) ?_
  refine va_put (ci := 3) (v := .int ((-1))) (ty := .int) (C := RX3) (T := TX3) (N := 16) hx hb hts hin3 tyX3 tyX3_ok nmX3 hown hK hP hD hS 0 rfl rfl 2 (by decide) (hts (.fieldLink RX3 66 "UpAllRound$Stair" "none" "I") (List.mem_of_getElem? (i := 2) rfl)) (fun _ h9 => h9) rfl (by decide +kernel) rfl rfl (Nat.le_of_ble_eq_true rfl) dX3_lay_7 (fun H locs hP hD hS => ?_)
  have hP : va_P D vwCl [(h, .inr (3, [.int (nI nn), .ref hr9, .int ((-1)), .int f3, .int f4, .ref hk, .ref hm, .ref hp, .ref hh, .ref hw, .ref hv, .int f11, .ref ht, .int f13, .ref hq, .int f15])), (hr9, .inl (cI, 14, .inl R0))] H := hP
  have hD : va_D AA [(h, .inr (3, [.int (nI nn), .ref hr9, .int ((-1)), .int f3, .int f4, .ref hk, .ref hm, .ref hp, .ref hh, .ref hw, .ref hv, .int f11, .ref ht, .int f13, .ref hq, .int f15])), (hr9, .inl (cI, 14, .inl R0))] := hD
  refine lv_aload_n hx hb dX3_lay_10 rfl (lv_at hl 0 rfl) ?_
  refine va_get (ci := 3) (v := .ref hr9) (C := RX3) (T := TX3) (N := 16) hx hb hts hin3 hown hK hP 0 rfl rfl 1 (by decide) (hts (.fieldLink RX3 9 "UpAllRound$Stair" "rises" "[I") (List.mem_of_getElem? (i := 3) rfl)) (fun _ h9 => h9) rfl dX3_lay_11 ?_
  refine lv_iconst (v := nI 1) hx hb dX3_lay_14 (by decide) ?_
  refine zcv (wr := [(h, .inr (3, [.int (nI nn), .ref hr9, .int ((-1)), .int f3, .int f4, .ref hk, .ref hm, .ref hp, .ref hh, .ref hw, .ref hv, .int f11, .ref ht, .int f13, .ref hq, .int f15]))]) (va_runS (As := [.ref hr9, .int (nI 1)]) (rest := []) ⟨hx, hb, hml, hown, hts⟩ (c_J7_fill_53178 l D cI cJ hr9 14 R0 (nI 1) (by first | rfl | assumption | omega) H.size) (va_cwS 2 hts gX3_lay_J7_fill_53178 rfl rfl rfl (by decide +kernel) ⟨Nat.le_of_ble_eq_true rfl, Nat.le_of_ble_eq_true rfl⟩) (zpS hK hN hZ hP hD hS hA [1] rfl (by decide)) rfl rfl hl.1 rfl (lv_room (Nat.le_of_ble_eq_true rfl)) dX3_lay_15 ⟨Nat.zero_le _, Nat.zero_le _⟩) hP hD hS hA [1] [0] rfl rfl (by decide) (by decide) (fun w_2 H locs h_1 hP hD hS => ?_)
  obtain rfl := h_1
  have hP : va_P D vwCl [(h, .inr (3, [.int (nI nn), .ref hr9, .int ((-1)), .int f3, .int f4, .ref hk, .ref hm, .ref hp, .ref hh, .ref hw, .ref hv, .int f11, .ref ht, .int f13, .ref hq, .int f15])), (hr9, .inl (cI, 14, .inl (zfill R0 0 14 (nI 1))))] H := hP
  have hD : va_D AA [(h, .inr (3, [.int (nI nn), .ref hr9, .int ((-1)), .int f3, .int f4, .ref hk, .ref hm, .ref hp, .ref hh, .ref hw, .ref hv, .int f11, .ref ht, .int f13, .ref hq, .int f15])), (hr9, .inl (cI, 14, .inl (zfill R0 0 14 (nI 1))))] := hD
  exact hret hP hD hS dX3_lay_18 (by rfl)
def zo_build (S E : Nat → Int32) (n k : Nat) (v : Int32) : zOut := if zrg 4 14 v then (if 0 < k then zerrE 3 S E else (S 1, zbuilds S v.toNatClampNeg, E)) else zerrE 1 S E
theorem zrg_of4 {v : Int32} (h : zrg 4 14 v) : ∃ q : Nat, q ≤ 14 ∧ v = nI q := zrg_of (U := 14) ⟨by have := h.1; omega, h.2⟩ (by decide)
set_option maxHeartbeats 4000000 in
set_option maxRecDepth 100000 in
theorem c_X6_build (l : Launch) (D : va_G) (cI cJ : ClassId) (h : Nat) (hs : Nat) (hE : Nat) (fs : List Value) (S : Nat → Int32) (E : Nat → Int32) (n : Nat) (k : Nat) (v : Int32) (hf0 : fs[0]? = some (.ref hs)) (hf4 : fs[4]? = some (.ref hE)) (hn1 : S 1 = nI n) (hk6 : S 6 = nI k) (hn4 : 4 ≤ n) (hn14 : n ≤ 14) (hkle : k ≤ 6) : zMi l yX6_build wsX6_build ({ frames := 1, cells := 0, slots := 0, locals := 22 } : Room) D [(cI, .int), (cJ, .array .int)] [.ref h, .int v] [(h, .inr (6, fs)), (hs, .inl (cI, 380, .inl S)), (hE, .inl (cI, 7, .inl E))] (fun r w => r = (zo_build S E n k v).1 ∧ w = [(h, .inr (6, fs)), (hs, .inl (cI, 380, .inl ((zo_build S E n k v).2.1))), (hE, .inl (cI, 7, .inl ((zo_build S E n k v).2.2)))]) := by
  refine zMi.start (cc := cX6_build) (maxL := 3) (rt := .int) (by first | decide | decide +kernel) rfl (Nat.le_of_ble_eq_true rfl) ?_
  intro pg ev s mt args below meth cd ls AA QQ ⟨hx, hb, hml, hr, hlocks, hown, hts, hK, hN, hZ, hP, hD, hA, hS, hl⟩ hret
  have hown : s.vm.findClass RX6 = some mt.cls := hown
  have hl : lv_has ls 3 [(0, .ref h), (1, .int v)] := hl
  have hin6 : ∀ w ∈ wsX60, w ∈ wsX6_build := fun w h => List.mem_cons_of_mem _ (List.mem_append_right _ (h))
  refine lv_iload_n hx hb dX6_build_0 rfl (lv_at hl 1 rfl) ?_
  refine lv_iconst (v := nI 4) hx hb dX6_build_1 (by decide) ?_
  refine lv_bipush (v := nI 14) hx hb dX6_build_2 (by decide) ?_
  refine zcsE (va_runS (As := [.int v, .int (nI 4), .int (nI 14)]) (rest := []) ⟨hx, hb, hml, hown, hts⟩ (d_X6_in l D cI cJ v (nI 4) (nI 14) 4 14 (by decide) (by decide) s.heap.size) (va_cwS 3 hts gX6_build_X6_in rfl rfl rfl (by decide +kernel) ⟨Nat.le_of_ble_eq_true rfl, Nat.le_of_ble_eq_true rfl⟩) (zpS hK hN hZ hP hD hS hA [] rfl (by decide)) rfl rfl hl.1 rfl (lv_room (Nat.le_of_ble_eq_true rfl)) dX6_build_4 ⟨Nat.zero_le _, Nat.zero_le _⟩) ?_
  refine lv_if_ne (tgt := 16) hx hb dX6_build_7 (by decide) (fun c7_1 => ?_) (fun c7_1 => ?_)
  · have c7_1 := bI_n0.mp c7_1
    obtain ⟨j, h_j, rfl⟩ : ∃ q : Nat, q ≤ 14 ∧ v = nI q := zrg_of4 c7_1
    refine lv_aload_n hx hb dX6_build_16 rfl (lv_at hl 0 rfl) ?_
    refine va_get (ci := 6) (v := .ref hs) (C := RX6) (T := TX6) (N := 20) hx hb hts hin6 hown hK hP 0 rfl rfl 0 (by decide) (hts (.fieldLink RX6 7 "UpAllRoundModel" "s" "[I") (List.mem_of_getElem? (i := 1) rfl)) (fun _ h9 => h9) hf0 dX6_build_17 ?_
    refine lv_bipush (v := nI 6) hx hb dX6_build_20 (by decide) ?_
    refine zald (t := 6) hx hb hK hP 1 rfl (by omega) (by decide) dX6_build_22 ?_
    refine zrw hk6 ?_
    refine lv_if_le (tgt := 32) hx hb dX6_build_23 (by decide) (fun c23_2 => ?_) (fun c23_2 => ?_)
    · have c23_2 : k ≤ 0 := (nI_leI (a := k) (b := 0) (by omega) (by omega)).mp c23_2
      refine lv_aload_n hx hb dX6_build_32 rfl (lv_at hl 0 rfl) ?_
      refine va_get (ci := 6) (v := .ref hs) (C := RX6) (T := TX6) (N := 20) hx hb hts hin6 hown hK hP 0 rfl rfl 0 (by decide) (hts (.fieldLink RX6 7 "UpAllRoundModel" "s" "[I") (List.mem_of_getElem? (i := 1) rfl)) (fun _ h9 => h9) hf0 dX6_build_33 ?_
      refine lv_iconst (v := nI 1) hx hb dX6_build_36 (by decide) ?_
      refine zald (t := 1) hx hb hK hP 1 rfl (by omega) (by decide) dX6_build_37 ?_
      refine lv_istore_n (lv' := [(2, .int (S 1)), (0, .ref h), (1, .int (nI j))]) hx hb dX6_build_38 rfl hl (by decide) rfl (fun ls hl => ?_)
      refine lv_aload_n hx hb dX6_build_39 rfl (lv_at hl 1 rfl) ?_
      refine lv_iload_n hx hb dX6_build_40 rfl (lv_at hl 2 rfl) ?_
      refine zcv (wr := [(hE, .inl (cI, 7, .inl E))]) (va_runV (As := [.int (nI j)]) (rest := []) ⟨hx, hb, hml, hown, hts⟩ (c_X6_builds l D cI cJ h hs fs S j (by first | rfl | assumption | omega) s.heap.size) (cwV 1 hts gX6_build_X6_builds rfl rfl rfl (by decide +kernel) ⟨Nat.le_of_ble_eq_true rfl, Nat.le_of_ble_eq_true rfl⟩) (zpV hK hN hZ hP hD hS hA [0, 1] rfl (by decide) 0 rfl rfl rfl) rfl rfl hl.1 rfl (lv_room (Nat.le_of_ble_eq_true rfl)) dX6_build_41 ⟨Nat.zero_le _, Nat.zero_le _⟩) hP hD hS hA [0, 1] [2] rfl rfl (by decide) (by decide) (fun w_4 H locs h_3 hP hD hS => ?_)
      obtain rfl := h_3
      have hP : va_P D vwCl [(hE, .inl (cI, 7, .inl E)), (h, .inr (6, fs)), (hs, .inl (cI, 380, .inl (zbuilds S j)))] H := hP
      have hD : va_D AA [(hE, .inl (cI, 7, .inl E)), (h, .inr (6, fs)), (hs, .inl (cI, 380, .inl (zbuilds S j)))] := hD
      refine lv_iload_n hx hb dX6_build_44 rfl (lv_at hl 0 rfl) ?_
      have hP := hP.sub (ws' := [(h, .inr (6, fs)), (hs, .inl (cI, 380, .inl (zbuilds S j))), (hE, .inl (cI, 7, .inl E))]) [1, 2, 0] rfl
      have hD := hD.sub (ws' := [(h, .inr (6, fs)), (hs, .inl (cI, 380, .inl (zbuilds S j))), (hE, .inl (cI, 7, .inl E))]) [1, 2, 0] (by decide) rfl
      exact hret hP hD hS dX6_build_45 rfl (by rw [show zo_build S E n k (nI j) = (S 1, zbuilds S j, E) from by rw [zo_build, if_pos (by assumption), if_neg (by omega), nI_clamp (show j < 2147483648 by omega)] <;> rfl]; exact ⟨rfl, rfl⟩)
    · have c23_2 : ¬ (k ≤ 0) := fun h9 => c23_2 ((nI_leI (a := k) (b := 0) (by omega) (by omega)).mpr h9)
      refine lv_aload_n hx hb dX6_build_26 rfl (lv_at hl 0 rfl) ?_
      refine lv_iconst (v := nI 3) hx hb dX6_build_27 (by decide) ?_
      refine zci (wr := [(hs, .inl (cI, 380, .inl S))]) (va_runV (As := [.int (nI 3)]) (rest := []) ⟨hx, hb, hml, hown, hts⟩ (c_X6_error l D cI cJ h hE fs E 3 (by first | rfl | assumption | omega) (by first | rfl | assumption | omega) s.heap.size) (cwV 1 hts gX6_build_X6_error rfl rfl rfl (by decide +kernel) ⟨Nat.le_of_ble_eq_true rfl, Nat.le_of_ble_eq_true rfl⟩) (zpV hK hN hZ hP hD hS hA [0, 2] rfl (by decide) 0 rfl rfl rfl) rfl rfl hl.1 rfl (lv_room (Nat.le_of_ble_eq_true rfl)) dX6_build_28 ⟨Nat.zero_le _, Nat.zero_le _⟩) hP hD hS hA [0, 2] [1] rfl rfl (by decide) (by decide) (fun r_7 w_6 H locs h_5 hP hD hS => ?_)
      obtain ⟨rfl, rfl⟩ := h_5
      have hP : va_P D vwCl [(hs, .inl (cI, 380, .inl S)), (h, .inr (6, fs)), (hE, .inl (cI, 7, .inl (upd E 3 (E 3 + nI 1))))] H := hP
      have hD : va_D AA [(hs, .inl (cI, 380, .inl S)), (h, .inr (6, fs)), (hE, .inl (cI, 7, .inl (upd E 3 (E 3 + nI 1))))] := hD
      have hP := hP.sub (ws' := [(h, .inr (6, fs)), (hs, .inl (cI, 380, .inl S)), (hE, .inl (cI, 7, .inl (upd E 3 (E 3 + nI 1))))]) [1, 0, 2] rfl
      have hD := hD.sub (ws' := [(h, .inr (6, fs)), (hs, .inl (cI, 380, .inl S)), (hE, .inl (cI, 7, .inl (upd E 3 (E 3 + nI 1))))]) [1, 0, 2] (by decide) rfl
      exact hret hP hD hS dX6_build_31 rfl (by rw [show zo_build S E n k (nI j) = zerrE 3 S E from by rw [zo_build, if_pos (by assumption), if_pos (by omega)] <;> rfl]; exact ⟨rfl, rfl⟩)
  · have c7_1 := bI_0.mp c7_1
    refine lv_aload_n hx hb dX6_build_10 rfl (lv_at hl 0 rfl) ?_
    refine lv_iconst (v := nI 1) hx hb dX6_build_11 (by decide) ?_
    refine zci (wr := [(hs, .inl (cI, 380, .inl S))]) (va_runV (As := [.int (nI 1)]) (rest := []) ⟨hx, hb, hml, hown, hts⟩ (c_X6_error l D cI cJ h hE fs E 1 (by first | rfl | assumption | omega) (by first | rfl | assumption | omega) s.heap.size) (cwV 1 hts gX6_build_X6_error rfl rfl rfl (by decide +kernel) ⟨Nat.le_of_ble_eq_true rfl, Nat.le_of_ble_eq_true rfl⟩) (zpV hK hN hZ hP hD hS hA [0, 2] rfl (by decide) 0 rfl rfl rfl) rfl rfl hl.1 rfl (lv_room (Nat.le_of_ble_eq_true rfl)) dX6_build_12 ⟨Nat.zero_le _, Nat.zero_le _⟩) hP hD hS hA [0, 2] [1] rfl rfl (by decide) (by decide) (fun r_10 w_9 H locs h_8 hP hD hS => ?_)
    obtain ⟨rfl, rfl⟩ := h_8
    have hP : va_P D vwCl [(hs, .inl (cI, 380, .inl S)), (h, .inr (6, fs)), (hE, .inl (cI, 7, .inl (upd E 1 (E 1 + nI 1))))] H := hP
    have hD : va_D AA [(hs, .inl (cI, 380, .inl S)), (h, .inr (6, fs)), (hE, .inl (cI, 7, .inl (upd E 1 (E 1 + nI 1))))] := hD
    have hP := hP.sub (ws' := [(h, .inr (6, fs)), (hs, .inl (cI, 380, .inl S)), (hE, .inl (cI, 7, .inl (upd E 1 (E 1 + nI 1))))]) [1, 0, 2] rfl
    have hD := hD.sub (ws' := [(h, .inr (6, fs)), (hs, .inl (cI, 380, .inl S)), (hE, .inl (cI, 7, .inl (upd E 1 (E 1 + nI 1))))]) [1, 0, 2] (by decide) rfl
    exact hret hP hD hS dX6_build_15 rfl (by rw [show zo_build S E n k v = zerrE 1 S E from by rw [zo_build, if_neg (by assumption)] <;> rfl]; exact ⟨rfl, rfl⟩)
theorem zbuilds_r (S : Nat → Int32) (j : Nat) : zfill (fun i => S (32 + i)) 0 14 (nI 1) = fun i => zbuilds S j (32 + i) := by
  funext i; unfold zbuilds zfill upd
  by_cases h : i < 14
  · rw [if_pos (by omega), if_pos (by omega)]
  · rw [if_neg (by omega), if_neg (by omega), if_neg (by omega), if_neg (by omega)]
set_option maxHeartbeats 4000000 in
set_option maxRecDepth 100000 in
theorem c_X5_build (l : Launch) (D : va_G) (cI cJ : ClassId) (h : Nat) (hE : Nat) (hS9 : Nat) (fs : List Value) (S : Nat → Int32) (E : Nat → Int32) (n : Nat) (k : Nat) (hr9 : Nat) (hk : Nat) (hm : Nat) (hp : Nat) (hh : Nat) (hw : Nat) (hv : Nat) (ht : Nat) (hq : Nat) (v : Int32) (hU0 : fs[0]? = some (.ref hS9)) (hU7 : fs[7]? = some (.ref hE)) (hn1 : S 1 = nI n) (hk6 : S 6 = nI k) (hn4 : 4 ≤ n) (hn14 : n ≤ 14) (hkle : k ≤ 6) : zMi l yX5_build wsX5_build ({ frames := 2, cells := 0, slots := 0, locals := 44 } : Room) D [(cI, .int), (cJ, .array .int)] [.ref h, .int v] [(h, .inr (5, fs)), (hS9, .inr (3, [.int (nI n), .ref hr9, .int (S 2), .int (S 0), .int (nI k), .ref hk, .ref hm, .ref hp, .ref hh, .ref hw, .ref hv, .int (S 3), .ref ht, .int (S 4), .ref hq, .int (S 5)])), (hr9, .inl (cI, 14, .inl ((fun i => S (32 + i))))), (hE, .inl (cI, 7, .inl E))] (fun r w => r = (zo_build S E n k v).1 ∧ w = [(h, .inr (5, fs)), (hS9, .inr (3, [.int ((zo_build S E n k v).2.1 1), .ref hr9, .int ((zo_build S E n k v).2.1 2), .int (S 0), .int (nI k), .ref hk, .ref hm, .ref hp, .ref hh, .ref hw, .ref hv, .int (S 3), .ref ht, .int (S 4), .ref hq, .int (S 5)])), (hr9, .inl (cI, 14, .inl ((fun i => (zo_build S E n k v).2.1 (32 + i))))), (hE, .inl (cI, 7, .inl ((zo_build S E n k v).2.2)))]) := by
  refine zMi.start (cc := cX5_build) (maxL := 3) (rt := .int) (by first | decide | decide +kernel) rfl (Nat.le_of_ble_eq_true rfl) ?_
  intro pg ev s mt args below meth cd ls AA QQ ⟨hx, hb, hml, hr, hlocks, hown, hts, hK, hN, hZ, hP, hD, hA, hS, hl⟩ hret
  have hown : s.vm.findClass RX5 = some mt.cls := hown
  have hl : lv_has ls 3 [(0, .ref h), (1, .int v)] := hl
  have hin3 : ∀ w ∈ wsX30, w ∈ wsX5_build := fun w h => List.mem_cons_of_mem _ (List.mem_append_right _ (h))
  have hin5 : ∀ w ∈ wsX50, w ∈ wsX5_build := fun w h => List.mem_cons_of_mem _ (List.mem_append_left _ (List.mem_append_right _ (h)))
  refine lv_iload_n hx hb dX5_build_0 rfl (lv_at hl 1 rfl) ?_
  refine lv_iconst (v := nI 4) hx hb dX5_build_1 (by decide) ?_
  refine lv_bipush (v := nI 14) hx hb dX5_build_2 (by decide) ?_
  refine zcsE (va_runS (As := [.int v, .int (nI 4), .int (nI 14)]) (rest := []) ⟨hx, hb, hml, hown, hts⟩ (d_X5_isOutside l D cI cJ v (nI 4) (nI 14) 4 14 (by decide) (by decide) s.heap.size) (va_cwS 3 hts gX5_build_X5_isOutside rfl rfl rfl (by decide +kernel) ⟨Nat.le_of_ble_eq_true rfl, Nat.le_of_ble_eq_true rfl⟩) (zpS hK hN hZ hP hD hS hA [] rfl (by decide)) rfl rfl hl.1 rfl (lv_room (Nat.le_of_ble_eq_true rfl)) dX5_build_4 ⟨Nat.zero_le _, Nat.zero_le _⟩) ?_
  refine lv_if_eq (tgt := 16) hx hb dX5_build_7 (by decide) (fun c7_1 => ?_) (fun c7_1 => ?_)
  · have c7_1 := bI_nX0.mp c7_1
    obtain ⟨j, h_j, rfl⟩ : ∃ q : Nat, q ≤ 14 ∧ v = nI q := zrg_of4 c7_1
    refine lv_aload_n hx hb dX5_build_16 rfl (lv_at hl 0 rfl) ?_
    refine va_get (ci := 5) (v := .ref hS9) (C := RX5) (T := TX5) (N := 9) hx hb hts hin5 hown hK hP 0 rfl rfl 0 (by decide) (hts (.fieldLink RX5 12 "UpAllRound" "now" "LUpAllRound$Stair;") (List.mem_of_getElem? (i := 1) rfl)) (fun _ h9 => h9) hU0 dX5_build_17 ?_
    refine va_getN (ci := 3) (v := .int (nI k)) (C := RX3) (T := TX3) (N := 16) hx hb hts hin3 hown hK hP 1 rfl rfl 4 (by decide) (va_Nw.use rfl (hN (.fieldLinkNest "UpAllRound" 64 "UpAllRound$Stair" "climbers" "I" "UpAllRound") (List.mem_of_getElem? (i := 4) rfl))) (fun _ h9 => h9) rfl dX5_build_20 ?_
    refine lv_if_le (tgt := 32) hx hb dX5_build_23 (by decide) (fun c23_2 => ?_) (fun c23_2 => ?_)
    · have c23_2 : k ≤ 0 := (nI_leI (a := k) (b := 0) (by omega) (by omega)).mp c23_2
      refine lv_aload_n hx hb dX5_build_32 rfl (lv_at hl 0 rfl) ?_
      refine va_get (ci := 5) (v := .ref hS9) (C := RX5) (T := TX5) (N := 9) hx hb hts hin5 hown hK hP 0 rfl rfl 0 (by decide) (hts (.fieldLink RX5 12 "UpAllRound" "now" "LUpAllRound$Stair;") (List.mem_of_getElem? (i := 1) rfl)) (fun _ h9 => h9) hU0 dX5_build_33 ?_
      refine va_getN (ci := 3) (v := .int (nI n)) (C := RX3) (T := TX3) (N := 16) hx hb hts hin3 hown hK hP 1 rfl rfl 0 (by decide) (va_Nw.use rfl (hN (.fieldLinkNest "UpAllRound" 67 "UpAllRound$Stair" "steps" "I" "UpAllRound") (List.mem_of_getElem? (i := 0) rfl))) (fun _ h9 => h9) rfl dX5_build_36 ?_
      refine lv_istore_n (lv' := [(2, .int (nI n)), (0, .ref h), (1, .int (nI j))]) hx hb dX5_build_39 rfl hl (by decide) rfl (fun ls hl => ?_)
      refine lv_aload_n hx hb dX5_build_40 rfl (lv_at hl 1 rfl) ?_
      refine va_get (ci := 5) (v := .ref hS9) (C := RX5) (T := TX5) (N := 9) hx hb hts hin5 hown hK hP 0 rfl rfl 0 (by decide) (hts (.fieldLink RX5 12 "UpAllRound" "now" "LUpAllRound$Stair;") (List.mem_of_getElem? (i := 1) rfl)) (fun _ h9 => h9) hU0 dX5_build_41 ?_
      refine lv_iload_n hx hb dX5_build_44 rfl (lv_at hl 2 rfl) ?_
      refine zcv (wr := [(h, .inr (5, fs)), (hE, .inl (cI, 7, .inl E))]) (va_runVN (As := [.int (nI j)]) (rest := []) ⟨hx, hb, hml, hown, hts⟩ (c_X3_lay l D cI cJ hS9 hr9 hk hm hp hh hw hv ht hq (nI n) (S 2) (S 0) (nI k) (S 3) (S 4) (S 5) ((fun i => S (32 + i))) j  s.heap.size) ⟨va_cnB 1 hts gX5_build_X3_lay_n70 rfl rfl rfl (hN (.methodLinkNest "UpAllRound" 70 yX3_lay "UpAllRound") (List.mem_of_getElem? (i := 29) rfl)) (hts (.initialized RX3) (List.mem_of_getElem? (i := 13) rfl)) (by decide +kernel) ⟨Nat.le_of_ble_eq_true rfl, Nat.le_of_ble_eq_true rfl⟩, (hts (.instanceMethod yX3_lay) (List.mem_of_getElem? (i := 12) rfl)), (hts (.selects RX3 yX3_lay yX3_lay) (List.mem_of_getElem? (i := 14) rfl))⟩ (zpV hK hN hZ hP hD hS hA [1, 2] rfl (by decide) 1 rfl rfl rfl) rfl rfl hl.1 rfl (lv_room (Nat.le_of_ble_eq_true rfl)) dX5_build_45 ⟨Nat.zero_le _, Nat.zero_le _⟩) hP hD hS hA [1, 2] [0, 3] rfl rfl (by decide) (by decide) (fun w_4 H locs h_3 hP hD hS => ?_)
      obtain rfl := h_3
      have hP : va_P D vwCl [(h, .inr (5, fs)), (hE, .inl (cI, 7, .inl E)), (hS9, .inr (3, [.int (nI j), .ref hr9, .int ((-1)), .int ((S 0)), .int ((nI k)), .ref hk, .ref hm, .ref hp, .ref hh, .ref hw, .ref hv, .int ((S 3)), .ref ht, .int ((S 4)), .ref hq, .int ((S 5))])), (hr9, .inl (cI, 14, .inl (zfill ((fun i => S (32 + i))) 0 14 (nI 1))))] H := hP
      have hD : va_D AA [(h, .inr (5, fs)), (hE, .inl (cI, 7, .inl E)), (hS9, .inr (3, [.int (nI j), .ref hr9, .int ((-1)), .int ((S 0)), .int ((nI k)), .ref hk, .ref hm, .ref hp, .ref hh, .ref hw, .ref hv, .int ((S 3)), .ref ht, .int ((S 4)), .ref hq, .int ((S 5))])), (hr9, .inl (cI, 14, .inl (zfill ((fun i => S (32 + i))) 0 14 (nI 1))))] := hD
      refine lv_iload_n hx hb dX5_build_48 rfl (lv_at hl 0 rfl) ?_
      have hP := hP.sub (ws' := [(h, .inr (5, fs)), (hS9, .inr (3, [.int (nI j), .ref hr9, .int ((-1)), .int ((S 0)), .int ((nI k)), .ref hk, .ref hm, .ref hp, .ref hh, .ref hw, .ref hv, .int ((S 3)), .ref ht, .int ((S 4)), .ref hq, .int ((S 5))])), (hr9, .inl (cI, 14, .inl (zfill ((fun i => S (32 + i))) 0 14 (nI 1)))), (hE, .inl (cI, 7, .inl E))]) [0, 2, 3, 1] rfl
      have hD := hD.sub (ws' := [(h, .inr (5, fs)), (hS9, .inr (3, [.int (nI j), .ref hr9, .int ((-1)), .int ((S 0)), .int ((nI k)), .ref hk, .ref hm, .ref hp, .ref hh, .ref hw, .ref hv, .int ((S 3)), .ref ht, .int ((S 4)), .ref hq, .int ((S 5))])), (hr9, .inl (cI, 14, .inl (zfill ((fun i => S (32 + i))) 0 14 (nI 1)))), (hE, .inl (cI, 7, .inl E))]) [0, 2, 3, 1] (by decide) rfl
      exact hret hP hD hS dX5_build_49 rfl (by rw [show zo_build S E n k (nI j) = (S 1, zbuilds S j, E) from by rw [zo_build, if_pos (by assumption), if_neg (by omega), nI_clamp (show j < 2147483648 by omega)] <;> rfl]; exact ⟨hn1.symm, by rw [zbuilds_r S j]; rfl⟩)
    · have c23_2 : ¬ (k ≤ 0) := fun h9 => c23_2 ((nI_leI (a := k) (b := 0) (by omega) (by omega)).mpr h9)
      refine lv_aload_n hx hb dX5_build_26 rfl (lv_at hl 0 rfl) ?_
      refine lv_iconst (v := nI 3) hx hb dX5_build_27 (by decide) ?_
      refine zci (wr := [(hS9, .inr (3, [.int (nI n), .ref hr9, .int (S 2), .int (S 0), .int (nI k), .ref hk, .ref hm, .ref hp, .ref hh, .ref hw, .ref hv, .int (S 3), .ref ht, .int (S 4), .ref hq, .int (S 5)])), (hr9, .inl (cI, 14, .inl ((fun i => S (32 + i)))))]) (va_runV (As := [.int (nI 3)]) (rest := []) ⟨hx, hb, hml, hown, hts⟩ (c_X5_refuse l D cI cJ h hE fs E 3 (by first | rfl | assumption | omega) (by first | rfl | assumption | omega) s.heap.size) (cwV 1 hts gX5_build_X5_refuse rfl rfl rfl (by decide +kernel) ⟨Nat.le_of_ble_eq_true rfl, Nat.le_of_ble_eq_true rfl⟩) (zpV hK hN hZ hP hD hS hA [0, 3] rfl (by decide) 0 rfl rfl rfl) rfl rfl hl.1 rfl (lv_room (Nat.le_of_ble_eq_true rfl)) dX5_build_28 ⟨Nat.zero_le _, Nat.zero_le _⟩) hP hD hS hA [0, 3] [1, 2] rfl rfl (by decide) (by decide) (fun r_7 w_6 H locs h_5 hP hD hS => ?_)
      obtain ⟨rfl, rfl⟩ := h_5
      have hP : va_P D vwCl [(hS9, .inr (3, [.int (nI n), .ref hr9, .int (S 2), .int (S 0), .int (nI k), .ref hk, .ref hm, .ref hp, .ref hh, .ref hw, .ref hv, .int (S 3), .ref ht, .int (S 4), .ref hq, .int (S 5)])), (hr9, .inl (cI, 14, .inl ((fun i => S (32 + i))))), (h, .inr (5, fs)), (hE, .inl (cI, 7, .inl (upd E 3 (E 3 + nI 1))))] H := hP
      have hD : va_D AA [(hS9, .inr (3, [.int (nI n), .ref hr9, .int (S 2), .int (S 0), .int (nI k), .ref hk, .ref hm, .ref hp, .ref hh, .ref hw, .ref hv, .int (S 3), .ref ht, .int (S 4), .ref hq, .int (S 5)])), (hr9, .inl (cI, 14, .inl ((fun i => S (32 + i))))), (h, .inr (5, fs)), (hE, .inl (cI, 7, .inl (upd E 3 (E 3 + nI 1))))] := hD
      have hP := hP.sub (ws' := [(h, .inr (5, fs)), (hS9, .inr (3, [.int (nI n), .ref hr9, .int (S 2), .int (S 0), .int (nI k), .ref hk, .ref hm, .ref hp, .ref hh, .ref hw, .ref hv, .int (S 3), .ref ht, .int (S 4), .ref hq, .int (S 5)])), (hr9, .inl (cI, 14, .inl ((fun i => S (32 + i))))), (hE, .inl (cI, 7, .inl (upd E 3 (E 3 + nI 1))))]) [2, 0, 1, 3] rfl
      have hD := hD.sub (ws' := [(h, .inr (5, fs)), (hS9, .inr (3, [.int (nI n), .ref hr9, .int (S 2), .int (S 0), .int (nI k), .ref hk, .ref hm, .ref hp, .ref hh, .ref hw, .ref hv, .int (S 3), .ref ht, .int (S 4), .ref hq, .int (S 5)])), (hr9, .inl (cI, 14, .inl ((fun i => S (32 + i))))), (hE, .inl (cI, 7, .inl (upd E 3 (E 3 + nI 1))))]) [2, 0, 1, 3] (by decide) rfl
      exact hret hP hD hS dX5_build_31 rfl (by rw [show zo_build S E n k (nI j) = zerrE 3 S E from by rw [zo_build, if_pos (by assumption), if_pos (by omega)] <;> rfl]; exact ⟨rfl, by rw [← hn1]; rfl⟩)
  · have c7_1 := bI_nn0.mp c7_1
    refine lv_aload_n hx hb dX5_build_10 rfl (lv_at hl 0 rfl) ?_
    refine lv_iconst (v := nI 1) hx hb dX5_build_11 (by decide) ?_
    refine zci (wr := [(hS9, .inr (3, [.int (nI n), .ref hr9, .int (S 2), .int (S 0), .int (nI k), .ref hk, .ref hm, .ref hp, .ref hh, .ref hw, .ref hv, .int (S 3), .ref ht, .int (S 4), .ref hq, .int (S 5)])), (hr9, .inl (cI, 14, .inl ((fun i => S (32 + i)))))]) (va_runV (As := [.int (nI 1)]) (rest := []) ⟨hx, hb, hml, hown, hts⟩ (c_X5_refuse l D cI cJ h hE fs E 1 (by first | rfl | assumption | omega) (by first | rfl | assumption | omega) s.heap.size) (cwV 1 hts gX5_build_X5_refuse rfl rfl rfl (by decide +kernel) ⟨Nat.le_of_ble_eq_true rfl, Nat.le_of_ble_eq_true rfl⟩) (zpV hK hN hZ hP hD hS hA [0, 3] rfl (by decide) 0 rfl rfl rfl) rfl rfl hl.1 rfl (lv_room (Nat.le_of_ble_eq_true rfl)) dX5_build_12 ⟨Nat.zero_le _, Nat.zero_le _⟩) hP hD hS hA [0, 3] [1, 2] rfl rfl (by decide) (by decide) (fun r_10 w_9 H locs h_8 hP hD hS => ?_)
    obtain ⟨rfl, rfl⟩ := h_8
    have hP : va_P D vwCl [(hS9, .inr (3, [.int (nI n), .ref hr9, .int (S 2), .int (S 0), .int (nI k), .ref hk, .ref hm, .ref hp, .ref hh, .ref hw, .ref hv, .int (S 3), .ref ht, .int (S 4), .ref hq, .int (S 5)])), (hr9, .inl (cI, 14, .inl ((fun i => S (32 + i))))), (h, .inr (5, fs)), (hE, .inl (cI, 7, .inl (upd E 1 (E 1 + nI 1))))] H := hP
    have hD : va_D AA [(hS9, .inr (3, [.int (nI n), .ref hr9, .int (S 2), .int (S 0), .int (nI k), .ref hk, .ref hm, .ref hp, .ref hh, .ref hw, .ref hv, .int (S 3), .ref ht, .int (S 4), .ref hq, .int (S 5)])), (hr9, .inl (cI, 14, .inl ((fun i => S (32 + i))))), (h, .inr (5, fs)), (hE, .inl (cI, 7, .inl (upd E 1 (E 1 + nI 1))))] := hD
    have hP := hP.sub (ws' := [(h, .inr (5, fs)), (hS9, .inr (3, [.int (nI n), .ref hr9, .int (S 2), .int (S 0), .int (nI k), .ref hk, .ref hm, .ref hp, .ref hh, .ref hw, .ref hv, .int (S 3), .ref ht, .int (S 4), .ref hq, .int (S 5)])), (hr9, .inl (cI, 14, .inl ((fun i => S (32 + i))))), (hE, .inl (cI, 7, .inl (upd E 1 (E 1 + nI 1))))]) [2, 0, 1, 3] rfl
    have hD := hD.sub (ws' := [(h, .inr (5, fs)), (hS9, .inr (3, [.int (nI n), .ref hr9, .int (S 2), .int (S 0), .int (nI k), .ref hk, .ref hm, .ref hp, .ref hh, .ref hw, .ref hv, .int (S 3), .ref ht, .int (S 4), .ref hq, .int (S 5)])), (hr9, .inl (cI, 14, .inl ((fun i => S (32 + i))))), (hE, .inl (cI, 7, .inl (upd E 1 (E 1 + nI 1))))]) [2, 0, 1, 3] (by decide) rfl
    exact hret hP hD hS dX5_build_15 rfl (by rw [show zo_build S E n k v = zerrE 1 S E from by rw [zo_build, if_neg (by assumption)] <;> rfl]; exact ⟨rfl, by rw [← hn1]; rfl⟩)
