
def zbsp (kd : Nat) : List Nat := match kd with
  | 1 => [20, 10] | 4 => [50, 20, 10] | 6 => [70] | _ => [10]
def zbco (K kd : Nat) : List Nat := match kd with
  | 2 => 30 :: 11 :: zbsp K | 5 => 60 :: 30 :: 11 :: zbsp K | 6 => 71 :: 11 :: zbsp K | _ => 11 :: zbsp K
def zbsw (K : Nat) : List Nat := match K with
  | 3 => 40 :: 12 :: zbco K K | 4 => 51 :: 12 :: zbco K K | _ => 12 :: zbco K K
def zapT (T : Nat → Int32) (n : Nat) : List Nat → (Nat → Int32) × Nat
  | [] => (T, n)
  | b :: l => zapT (upd T n (nI b)) (n + 1) l
abbrev zvO : Type := Int32 × (Nat → Int32) × (Nat → Int32) × Nat
def zvo (E T : Nat → Int32) (K w sp : Nat) (m x : Int32) : zvO := match w with
  | 0 => (zpants K sp x, E, zapT T 0 (zbsp K))
  | 1 => (zcounts K K sp m x, E, zapT T 0 (zbco K K))
  | 2 => (zswears K K sp m x, E, zapT T 0 (zbsw K))
  | _ => if m - nI sp = 0 then (zerr 6, upd E 6 (E 6 + nI 1), zapT T 0 (match K with | 1 => [21, 13] | 4 => [21, 13] | _ => [13])) else match K with
    | 1 => (zparts K sp m x, E, zapT T 0 (21 :: 13 :: zbco K K))
    | 4 => (zparts K sp m x, E, zapT T 0 (21 :: 13 :: zbco K K))
    | _ => (zpv sp m x, E, zapT T 0 [13])
def zo_voice (S E T : Nat → Int32) (tn k : Nat) (c v x : Int32) : zvO := if zin c k ∧ zrg 0 3 v then zvo E T (S (8 + 4 * c.toNatClampNeg + 0)).toNatClampNeg v.toNatClampNeg c.toNatClampNeg (S (8 + 4 * c.toNatClampNeg + 1)) x else (zerr 1, upd E 1 (E 1 + nI 1), T, tn)
theorem zvo_p0 {E T : Nat → Int32} {K sp : Nat} {m x : Int32} (h : m - nI sp = 0) : zvo E T K 3 sp m x = (zerr 6, upd E 6 (E 6 + nI 1), zapT T 0 (match K with | 1 => [21, 13] | 4 => [21, 13] | _ => [13])) := if_pos h
theorem zvo_p1 {E T : Nat → Int32} {K sp : Nat} {m x : Int32} (h : ¬ m - nI sp = 0) : zvo E T K 3 sp m x = match K with
    | 1 => (zparts K sp m x, E, zapT T 0 (21 :: 13 :: zbco K K))
    | 4 => (zparts K sp m x, E, zapT T 0 (21 :: 13 :: zbco K K))
    | _ => (zpv sp m x, E, zapT T 0 [13]) := if_neg h
theorem zo_voice_in {S E T : Nat → Int32} {tn k j w K : Nat} {x : Int32} (h1 : zin (nI j) k) (h2 : zrg 0 3 (nI w)) (hj : j < 2147483648) (hw : w < 2147483648) (hK : S (8 + 4 * j + 0) = nI K) (hK2 : K < 2147483648) : zo_voice S E T tn k (nI j) (nI w) x = zvo E T K w j (S (8 + 4 * j + 1)) x := by
  rw [zo_voice, if_pos ⟨h1, h2⟩, nI_clamp hj, nI_clamp hw, hK, nI_clamp hK2]
set_option maxHeartbeats 4000000 in
set_option maxRecDepth 100000 in
theorem c_X4_say_p (l : Launch) (D : va_G) (cI cJ : ClassId) (h : Nat) (hT9 : Nat) (T : Nat → Int32) (tn : Nat) (sp : Nat) (mm : Int32) (x : Int32) (d : Nat) (K : Nat) (fr : Nat) (w : Nat)  : zMi l yX4_say wsX4_say ({ frames := 0, cells := 0, slots := 0, locals := 0 } : Room) D [(cI, .int), (cJ, .array .int)] [.ref h, .int (nI fr), .int (nI w), .int x, .int (nI d)] [(h, .inr (4, [.ref hT9, .int (nI tn), .int (nI 1), .int (nI K), .int (nI sp), .int mm])), (hT9, .inl (cI, 30, .inl T))] (fun r w => r = nI 0 ∧ w = [(h, .inr (4, [.ref hT9, .int (nI tn), .int (nI 1), .int (nI K), .int (nI sp), .int mm])), (hT9, .inl (cI, 30, .inl T))]) := by
  refine zMi.start (cc := cX4_say) (maxL := 6) (rt := .int) (by first | decide | decide +kernel) rfl (Nat.le_of_ble_eq_true rfl) ?_
  intro pg ev s mt args below meth cd ls AA QQ ⟨hx, hb, hml, hr, hlocks, hown, hts, hK, hN, hZ, hP, hD, hA, hS, hl⟩ hret
  have hown : s.vm.findClass RX4 = some mt.cls := hown
  have hl : lv_has ls 6 [(0, .ref h), (1, .int (nI fr)), (2, .int (nI w)), (3, .int x), (4, .int (nI d))] := hl
  have hin4 : ∀ w ∈ wsX40, w ∈ wsX4_say := fun w h => List.mem_cons_of_mem _ (List.mem_append_right _ (h))
  refine lv_aload_n hx hb dX4_say_0 rfl (lv_at hl 0 rfl) ?_
  refine va_get (ci := 4) (v := .int (nI 1)) (C := RX4) (T := TX4) (N := 6) hx hb hts hin4 hown hK hP 0 rfl rfl 2 (by decide) (hts (.fieldLink RX4 19 "UpAllRound$Voices" "parted" "Z") (List.mem_of_getElem? (i := 1) rfl)) (fun _ h9 => h9) rfl dX4_say_1 ?_
  refine lv_if_ne (tgt := 14) hx hb dX4_say_4 (by decide) (fun c4_1 => ?_) (fun c4_1 => ?_)
  · have c4_1 : ¬ (1 = 0) := fun h9 => c4_1 ((nI_eq (a := 1) (b := 0) (by omega) (by omega)).mpr h9)
    refine lv_iconst (v := nI 0) hx hb dX4_say_14 (by decide) ?_
    exact hret hP hD hS dX4_say_15 rfl (by exact ⟨rfl, rfl⟩)
  · have c4_1 : 1 = 0 := (nI_eq (a := 1) (b := 0) (by omega) (by omega)).mp c4_1
    exact absurd c4_1 (by omega)
set_option maxHeartbeats 4000000 in
set_option maxRecDepth 100000 in
theorem c_X4_sayBody_0_0_0 (l : Launch) (D : va_G) (cI cJ : ClassId) (h : Nat) (hT9 : Nat) (T : Nat → Int32) (tn : Nat) (sp : Nat) (mm : Int32) (x : Int32) (d : Nat) (htn : tn + 0 ≤ 30) (hd : d + 0 ≤ 40) : zMi l yX4_sayBody wsX4_sayBody ({ frames := 0, cells := 0, slots := 0, locals := 0 } : Room) D [(cI, .int), (cJ, .array .int)] [.ref h, .int (nI 10), .int x, .int (nI d)] [(h, .inr (4, [.ref hT9, .int (nI tn), .int (nI 0), .int (nI 0), .int (nI sp), .int mm])), (hT9, .inl (cI, 30, .inl T))] (fun r w => r = (zpants 0 sp x ) ∧ w = [(h, .inr (4, [.ref hT9, .int (nI tn), .int (nI 0), .int (nI 0), .int (nI sp), .int mm])), (hT9, .inl (cI, 30, .inl T))]) := by
  refine zMi.start (cc := cX4_sayBody) (maxL := 4) (rt := .int) (by first | decide | decide +kernel) rfl (Nat.le_of_ble_eq_true rfl) ?_
  intro pg ev s mt args below meth cd ls AA QQ ⟨hx, hb, hml, hr, hlocks, hown, hts, hK, hN, hZ, hP, hD, hA, hS, hl⟩ hret
  have hown : s.vm.findClass RX4 = some mt.cls := hown
  have hl : lv_has ls 4 [(0, .ref h), (1, .int (nI 10)), (2, .int x), (3, .int (nI d))] := hl
  have hin4 : ∀ w ∈ wsX40, w ∈ wsX4_sayBody := fun w h => List.mem_cons_of_mem _ (List.mem_append_right _ (h))
  refine lv_iload_n hx hb dX4_sayBody_0 rfl (lv_at hl 1 rfl) ?_
  refine lv_lookup (off := 115) (tgt := 116) hx hb dX4_sayBody_1 (by decide) (by decide) (by decide) ?_
  refine lv_iload_n hx hb dX4_sayBody_116 rfl (lv_at hl 2 rfl) ?_
  refine lv_aload_n hx hb dX4_sayBody_117 rfl (lv_at hl 0 rfl) ?_
  refine va_get (ci := 4) (v := .int (nI sp)) (C := RX4) (T := TX4) (N := 6) hx hb hts hin4 hown hK hP 0 rfl rfl 4 (by decide) (hts (.fieldLink RX4 26 "UpAllRound$Voices" "k" "I") (List.mem_of_getElem? (i := 1) rfl)) (fun _ h9 => h9) rfl dX4_sayBody_118 ?_
  refine lv_iadd hx hb dX4_sayBody_121 ?_
  exact hret hP hD hS dX4_sayBody_122 rfl (by exact ⟨rfl, rfl⟩)
set_option maxHeartbeats 4000000 in
set_option maxRecDepth 100000 in
theorem c_X4_say_0_0_0 (l : Launch) (D : va_G) (cI cJ : ClassId) (h : Nat) (hT9 : Nat) (T : Nat → Int32) (tn : Nat) (sp : Nat) (mm : Int32) (x : Int32) (d : Nat) (htn : tn + 1 ≤ 30) (hd : d + 1 ≤ 40) : zMi l yX4_say wsX4_say ({ frames := 2, cells := 0, slots := 0, locals := 46 } : Room) D [(cI, .int), (cJ, .array .int)] [.ref h, .int (nI 0), .int (nI 0), .int x, .int (nI d)] [(h, .inr (4, [.ref hT9, .int (nI tn), .int (nI 0), .int (nI 0), .int (nI sp), .int mm])), (hT9, .inl (cI, 30, .inl T))] (fun r w => r = (zpants 0 sp x ) ∧ w = [(h, .inr (4, [.ref hT9, .int (nI ((tn + 1))), .int (nI 0), .int (nI 0), .int (nI sp), .int mm])), (hT9, .inl (cI, 30, .inl ((upd T tn (nI 10)))))]) := by
  refine zMi.start (cc := cX4_say) (maxL := 6) (rt := .int) (by first | decide | decide +kernel) rfl (Nat.le_of_ble_eq_true rfl) ?_
  intro pg ev s mt args below meth cd ls AA QQ ⟨hx, hb, hml, hr, hlocks, hown, hts, hK, hN, hZ, hP, hD, hA, hS, hl⟩ hret
  have hown : s.vm.findClass RX4 = some mt.cls := hown
  have hl : lv_has ls 6 [(0, .ref h), (1, .int (nI 0)), (2, .int (nI 0)), (3, .int x), (4, .int (nI d))] := hl
  have hin4 : ∀ w ∈ wsX40, w ∈ wsX4_say := fun w h => List.mem_cons_of_mem _ (List.mem_append_right _ (h))
  refine lv_aload_n hx hb dX4_say_0 rfl (lv_at hl 0 rfl) ?_
  refine va_get (ci := 4) (v := .int (nI 0)) (C := RX4) (T := TX4) (N := 6) hx hb hts hin4 hown hK hP 0 rfl rfl 2 (by decide) (hts (.fieldLink RX4 19 "UpAllRound$Voices" "parted" "Z") (List.mem_of_getElem? (i := 1) rfl)) (fun _ h9 => h9) rfl dX4_say_1 ?_
  refine lv_if_ne (tgt := 14) hx hb dX4_say_4 (by decide) (fun c4_1 => ?_) (fun c4_1 => ?_)
  · have c4_1 : ¬ (0 = 0) := fun h9 => c4_1 ((nI_eq (a := 0) (b := 0) (by omega) (by omega)).mpr h9)
    exact absurd c4_1 (by omega)
  · have c4_1 : 0 = 0 := (nI_eq (a := 0) (b := 0) (by omega) (by omega)).mp c4_1
    refine lv_iload hx hb dX4_say_7 (lv_at hl 4 rfl) ?_
    refine lv_bipush (v := nI 40) hx hb dX4_say_9 (by decide) ?_
    refine lv_icmp_le (tgt := 16) hx hb dX4_say_11 (by decide) (fun c11_2 => ?_) (fun c11_2 => ?_)
    · have c11_2 : d ≤ 40 := (nI_leI (a := d) (b := 40) (by omega) (by omega)).mp c11_2
      refine lv_iload_n hx hb dX4_say_16 rfl (lv_at hl 1 rfl) ?_
      refine lv_iload_n hx hb dX4_say_17 rfl (lv_at hl 2 rfl) ?_
      refine zcsE (va_runS (As := [.int (nI 0), .int (nI 0)]) (rest := []) ⟨hx, hb, hml, hown, hts⟩ (c_X4_find_0_0 l D cI cJ   s.heap.size) (va_cwS 2 hts gX4_say_X4_find rfl rfl rfl (by decide +kernel) ⟨Nat.le_of_ble_eq_true rfl, Nat.le_of_ble_eq_true rfl⟩) (zpS hK hN hZ hP hD hS hA [] rfl (by decide)) rfl rfl hl.1 rfl (lv_room (Nat.le_of_ble_eq_true rfl)) dX4_say_18 ⟨Nat.zero_le _, Nat.zero_le _⟩) ?_
      refine lv_istore (lv' := [(5, .int (nI 10)), (0, .ref h), (1, .int (nI 0)), (2, .int (nI 0)), (3, .int x), (4, .int (nI d))]) hx hb dX4_say_21 hl (by decide) rfl (fun ls hl => ?_)
      refine lv_aload_n hx hb dX4_say_23 rfl (lv_at hl 1 rfl) ?_
      refine lv_iload hx hb dX4_say_24 (lv_at hl 0 rfl) ?_
      refine zcv (wr := []) (va_runV (As := [.int (nI 10)]) (rest := []) ⟨hx, hb, hml, hown, hts⟩ (c_X4_begin l D cI cJ h hT9 T tn 0 0 sp mm 10 (by first | rfl | assumption | omega) s.heap.size) (cwV 1 hts gX4_say_X4_begin rfl rfl rfl (by decide +kernel) ⟨Nat.le_of_ble_eq_true rfl, Nat.le_of_ble_eq_true rfl⟩) (zpV hK hN hZ hP hD hS hA [0, 1] rfl (by decide) 0 rfl rfl rfl) rfl rfl hl.1 rfl (lv_room (Nat.le_of_ble_eq_true rfl)) dX4_say_26 ⟨Nat.zero_le _, Nat.zero_le _⟩) hP hD hS hA [0, 1] [] rfl rfl (by decide) (by decide) (fun w_4 H locs h_3 hP hD hS => ?_)
      obtain rfl := h_3
      have hP : va_P D vwCl [(h, .inr (4, [.ref hT9, .int (nI ((tn + 1))), .int (nI 0), .int (nI 0), .int (nI sp), .int mm])), (hT9, .inl (cI, 30, .inl ((upd T tn (nI 10)))))] H := hP
      have hD : va_D AA [(h, .inr (4, [.ref hT9, .int (nI ((tn + 1))), .int (nI 0), .int (nI 0), .int (nI sp), .int mm])), (hT9, .inl (cI, 30, .inl ((upd T tn (nI 10)))))] := hD
      refine lv_aload_n hx hb dX4_say_29 rfl (lv_at hl 1 rfl) ?_
      refine lv_iload hx hb dX4_say_30 (lv_at hl 0 rfl) ?_
      refine lv_iload_n hx hb dX4_say_32 rfl (lv_at hl 4 rfl) ?_
      refine lv_iload hx hb dX4_say_33 (lv_at hl 5 rfl) ?_
      refine lv_iconst (v := nI 1) hx hb dX4_say_35 (by decide) ?_
      refine lv_iadd hx hb dX4_say_36 ?_
      refine zrw (nI_add _ _) ?_
      refine zci (wr := []) (va_runV (As := [.int (nI 10), .int x, .int (nI (d + 1))]) (rest := []) ⟨hx, hb, hml, hown, hts⟩ (c_X4_sayBody_0_0_0 l D cI cJ h hT9 ((upd T tn (nI 10))) ((tn + 1)) sp mm x (d + 1) (by first | rfl | assumption | omega) (by first | rfl | assumption | omega) H.size) (cwV 3 hts gX4_say_X4_sayBody rfl rfl rfl (by decide +kernel) ⟨Nat.le_of_ble_eq_true rfl, Nat.le_of_ble_eq_true rfl⟩) (zpV hK hN hZ hP hD hS hA [0, 1] rfl (by decide) 0 rfl rfl rfl) rfl rfl hl.1 rfl (lv_room (Nat.le_of_ble_eq_true rfl)) dX4_say_37 ⟨Nat.zero_le _, Nat.zero_le _⟩) hP hD hS hA [0, 1] [] rfl rfl (by decide) (by decide) (fun r_7 w_6 H locs h_5 hP hD hS => ?_)
      obtain ⟨rfl, rfl⟩ := h_5
      have hP : va_P D vwCl [(h, .inr (4, [.ref hT9, .int (nI (((tn + 1)))), .int (nI 0), .int (nI 0), .int (nI sp), .int mm])), (hT9, .inl (cI, 30, .inl (((upd T tn (nI 10))))))] H := hP
      have hD : va_D AA [(h, .inr (4, [.ref hT9, .int (nI (((tn + 1)))), .int (nI 0), .int (nI 0), .int (nI sp), .int mm])), (hT9, .inl (cI, 30, .inl (((upd T tn (nI 10))))))] := hD
      exact hret hP hD hS dX4_say_40 rfl (by exact ⟨rfl, rfl⟩)
    · have c11_2 : ¬ (d ≤ 40) := fun h9 => c11_2 ((nI_leI (a := d) (b := 40) (by omega) (by omega)).mpr h9)
      exact absurd c11_2 (by omega)
set_option maxHeartbeats 4000000 in
set_option maxRecDepth 100000 in
theorem c_X4_sayBody_0_1_0 (l : Launch) (D : va_G) (cI cJ : ClassId) (h : Nat) (hT9 : Nat) (T : Nat → Int32) (tn : Nat) (sp : Nat) (mm : Int32) (x : Int32) (d : Nat) (htn : tn + 1 ≤ 30) (hd : d + 1 ≤ 40) : zMi l yX4_sayBody wsX4_sayBody ({ frames := 3, cells := 0, slots := 0, locals := 71 } : Room) D [(cI, .int), (cJ, .array .int)] [.ref h, .int (nI 11), .int x, .int (nI d)] [(h, .inr (4, [.ref hT9, .int (nI tn), .int (nI 0), .int (nI 0), .int (nI sp), .int mm])), (hT9, .inl (cI, 30, .inl T))] (fun r w => r = (zcounts 0 0 sp mm x ) ∧ w = [(h, .inr (4, [.ref hT9, .int (nI ((tn + 1))), .int (nI 0), .int (nI 0), .int (nI sp), .int mm])), (hT9, .inl (cI, 30, .inl ((upd T tn (nI 10)))))]) := by
  refine zMi.start (cc := cX4_sayBody) (maxL := 4) (rt := .int) (by first | decide | decide +kernel) rfl (Nat.le_of_ble_eq_true rfl) ?_
  intro pg ev s mt args below meth cd ls AA QQ ⟨hx, hb, hml, hr, hlocks, hown, hts, hK, hN, hZ, hP, hD, hA, hS, hl⟩ hret
  have hown : s.vm.findClass RX4 = some mt.cls := hown
  have hl : lv_has ls 4 [(0, .ref h), (1, .int (nI 11)), (2, .int x), (3, .int (nI d))] := hl
  have hin4 : ∀ w ∈ wsX40, w ∈ wsX4_sayBody := fun w h => List.mem_cons_of_mem _ (List.mem_append_right _ (h))
  refine lv_iload_n hx hb dX4_sayBody_0 rfl (lv_at hl 1 rfl) ?_
  refine lv_lookup (off := 122) (tgt := 123) hx hb dX4_sayBody_1 (by decide) (by decide) (by decide) ?_
  refine lv_aload_n hx hb dX4_sayBody_123 rfl (lv_at hl 0 rfl) ?_
  refine lv_aload_n hx hb dX4_sayBody_124 rfl (lv_at hl 0 rfl) ?_
  refine va_get (ci := 4) (v := .int (nI 0)) (C := RX4) (T := TX4) (N := 6) hx hb hts hin4 hown hK hP 0 rfl rfl 3 (by decide) (hts (.fieldLink RX4 23 "UpAllRound$Voices" "kind" "I") (List.mem_of_getElem? (i := 2) rfl)) (fun _ h9 => h9) rfl dX4_sayBody_125 ?_
  refine lv_iconst (v := nI 0) hx hb dX4_sayBody_128 (by decide) ?_
  refine lv_iload_n hx hb dX4_sayBody_129 rfl (lv_at hl 2 rfl) ?_
  refine lv_iload_n hx hb dX4_sayBody_130 rfl (lv_at hl 3 rfl) ?_
  refine zci (wr := []) (va_runV (As := [.int (nI 0), .int (nI 0), .int x, .int (nI d)]) (rest := []) ⟨hx, hb, hml, hown, hts⟩ (c_X4_say_0_0_0 l D cI cJ h hT9 T tn sp mm x d (by first | rfl | assumption | omega) (by first | rfl | assumption | omega) s.heap.size) (cwV 4 hts gX4_sayBody_X4_say rfl rfl rfl (by decide +kernel) ⟨Nat.le_of_ble_eq_true rfl, Nat.le_of_ble_eq_true rfl⟩) (zpV hK hN hZ hP hD hS hA [0, 1] rfl (by decide) 0 rfl rfl rfl) rfl rfl hl.1 rfl (lv_room (Nat.le_of_ble_eq_true rfl)) dX4_sayBody_131 ⟨Nat.zero_le _, Nat.zero_le _⟩) hP hD hS hA [0, 1] [] rfl rfl (by decide) (by decide) (fun r_3 w_2 H locs h_1 hP hD hS => ?_)
  obtain ⟨rfl, rfl⟩ := h_1
  have hP : va_P D vwCl [(h, .inr (4, [.ref hT9, .int (nI ((tn + 1))), .int (nI 0), .int (nI 0), .int (nI sp), .int mm])), (hT9, .inl (cI, 30, .inl ((upd T tn (nI 10)))))] H := hP
  have hD : va_D AA [(h, .inr (4, [.ref hT9, .int (nI ((tn + 1))), .int (nI 0), .int (nI 0), .int (nI sp), .int mm])), (hT9, .inl (cI, 30, .inl ((upd T tn (nI 10)))))] := hD
  refine lv_iconst (v := nI 2) hx hb dX4_sayBody_134 (by decide) ?_
  refine lv_imul hx hb dX4_sayBody_135 ?_
  exact hret hP hD hS dX4_sayBody_136 rfl (by exact ⟨rfl, rfl⟩)
set_option maxHeartbeats 4000000 in
set_option maxRecDepth 100000 in
theorem c_X4_say_0_1_0 (l : Launch) (D : va_G) (cI cJ : ClassId) (h : Nat) (hT9 : Nat) (T : Nat → Int32) (tn : Nat) (sp : Nat) (mm : Int32) (x : Int32) (d : Nat) (htn : tn + 2 ≤ 30) (hd : d + 2 ≤ 40) : zMi l yX4_say wsX4_say ({ frames := 4, cells := 0, slots := 0, locals := 94 } : Room) D [(cI, .int), (cJ, .array .int)] [.ref h, .int (nI 0), .int (nI 1), .int x, .int (nI d)] [(h, .inr (4, [.ref hT9, .int (nI tn), .int (nI 0), .int (nI 0), .int (nI sp), .int mm])), (hT9, .inl (cI, 30, .inl T))] (fun r w => r = (zcounts 0 0 sp mm x ) ∧ w = [(h, .inr (4, [.ref hT9, .int (nI (((tn + 1) + 1))), .int (nI 0), .int (nI 0), .int (nI sp), .int mm])), (hT9, .inl (cI, 30, .inl ((upd (upd T tn (nI 11)) (tn + 1) (nI 10)))))]) := by
  refine zMi.start (cc := cX4_say) (maxL := 6) (rt := .int) (by first | decide | decide +kernel) rfl (Nat.le_of_ble_eq_true rfl) ?_
  intro pg ev s mt args below meth cd ls AA QQ ⟨hx, hb, hml, hr, hlocks, hown, hts, hK, hN, hZ, hP, hD, hA, hS, hl⟩ hret
  have hown : s.vm.findClass RX4 = some mt.cls := hown
  have hl : lv_has ls 6 [(0, .ref h), (1, .int (nI 0)), (2, .int (nI 1)), (3, .int x), (4, .int (nI d))] := hl
  have hin4 : ∀ w ∈ wsX40, w ∈ wsX4_say := fun w h => List.mem_cons_of_mem _ (List.mem_append_right _ (h))
  refine lv_aload_n hx hb dX4_say_0 rfl (lv_at hl 0 rfl) ?_
  refine va_get (ci := 4) (v := .int (nI 0)) (C := RX4) (T := TX4) (N := 6) hx hb hts hin4 hown hK hP 0 rfl rfl 2 (by decide) (hts (.fieldLink RX4 19 "UpAllRound$Voices" "parted" "Z") (List.mem_of_getElem? (i := 1) rfl)) (fun _ h9 => h9) rfl dX4_say_1 ?_
  refine lv_if_ne (tgt := 14) hx hb dX4_say_4 (by decide) (fun c4_1 => ?_) (fun c4_1 => ?_)
  · have c4_1 : ¬ (0 = 0) := fun h9 => c4_1 ((nI_eq (a := 0) (b := 0) (by omega) (by omega)).mpr h9)
    exact absurd c4_1 (by omega)
  · have c4_1 : 0 = 0 := (nI_eq (a := 0) (b := 0) (by omega) (by omega)).mp c4_1
    refine lv_iload hx hb dX4_say_7 (lv_at hl 4 rfl) ?_
    refine lv_bipush (v := nI 40) hx hb dX4_say_9 (by decide) ?_
    refine lv_icmp_le (tgt := 16) hx hb dX4_say_11 (by decide) (fun c11_2 => ?_) (fun c11_2 => ?_)
    · have c11_2 : d ≤ 40 := (nI_leI (a := d) (b := 40) (by omega) (by omega)).mp c11_2
      refine lv_iload_n hx hb dX4_say_16 rfl (lv_at hl 1 rfl) ?_
      refine lv_iload_n hx hb dX4_say_17 rfl (lv_at hl 2 rfl) ?_
      refine zcsE (va_runS (As := [.int (nI 0), .int (nI 1)]) (rest := []) ⟨hx, hb, hml, hown, hts⟩ (c_X4_find_0_1 l D cI cJ   s.heap.size) (va_cwS 2 hts gX4_say_X4_find rfl rfl rfl (by decide +kernel) ⟨Nat.le_of_ble_eq_true rfl, Nat.le_of_ble_eq_true rfl⟩) (zpS hK hN hZ hP hD hS hA [] rfl (by decide)) rfl rfl hl.1 rfl (lv_room (Nat.le_of_ble_eq_true rfl)) dX4_say_18 ⟨Nat.zero_le _, Nat.zero_le _⟩) ?_
      refine lv_istore (lv' := [(5, .int (nI 11)), (0, .ref h), (1, .int (nI 0)), (2, .int (nI 1)), (3, .int x), (4, .int (nI d))]) hx hb dX4_say_21 hl (by decide) rfl (fun ls hl => ?_)
      refine lv_aload_n hx hb dX4_say_23 rfl (lv_at hl 1 rfl) ?_
      refine lv_iload hx hb dX4_say_24 (lv_at hl 0 rfl) ?_
      refine zcv (wr := []) (va_runV (As := [.int (nI 11)]) (rest := []) ⟨hx, hb, hml, hown, hts⟩ (c_X4_begin l D cI cJ h hT9 T tn 0 0 sp mm 11 (by first | rfl | assumption | omega) s.heap.size) (cwV 1 hts gX4_say_X4_begin rfl rfl rfl (by decide +kernel) ⟨Nat.le_of_ble_eq_true rfl, Nat.le_of_ble_eq_true rfl⟩) (zpV hK hN hZ hP hD hS hA [0, 1] rfl (by decide) 0 rfl rfl rfl) rfl rfl hl.1 rfl (lv_room (Nat.le_of_ble_eq_true rfl)) dX4_say_26 ⟨Nat.zero_le _, Nat.zero_le _⟩) hP hD hS hA [0, 1] [] rfl rfl (by decide) (by decide) (fun w_4 H locs h_3 hP hD hS => ?_)
      obtain rfl := h_3
      have hP : va_P D vwCl [(h, .inr (4, [.ref hT9, .int (nI ((tn + 1))), .int (nI 0), .int (nI 0), .int (nI sp), .int mm])), (hT9, .inl (cI, 30, .inl ((upd T tn (nI 11)))))] H := hP
      have hD : va_D AA [(h, .inr (4, [.ref hT9, .int (nI ((tn + 1))), .int (nI 0), .int (nI 0), .int (nI sp), .int mm])), (hT9, .inl (cI, 30, .inl ((upd T tn (nI 11)))))] := hD
      refine lv_aload_n hx hb dX4_say_29 rfl (lv_at hl 1 rfl) ?_
      refine lv_iload hx hb dX4_say_30 (lv_at hl 0 rfl) ?_
      refine lv_iload_n hx hb dX4_say_32 rfl (lv_at hl 4 rfl) ?_
      refine lv_iload hx hb dX4_say_33 (lv_at hl 5 rfl) ?_
      refine lv_iconst (v := nI 1) hx hb dX4_say_35 (by decide) ?_
      refine lv_iadd hx hb dX4_say_36 ?_
      refine zrw (nI_add _ _) ?_
      refine zci (wr := []) (va_runV (As := [.int (nI 11), .int x, .int (nI (d + 1))]) (rest := []) ⟨hx, hb, hml, hown, hts⟩ (c_X4_sayBody_0_1_0 l D cI cJ h hT9 ((upd T tn (nI 11))) ((tn + 1)) sp mm x (d + 1) (by first | rfl | assumption | omega) (by first | rfl | assumption | omega) H.size) (cwV 3 hts gX4_say_X4_sayBody rfl rfl rfl (by decide +kernel) ⟨Nat.le_of_ble_eq_true rfl, Nat.le_of_ble_eq_true rfl⟩) (zpV hK hN hZ hP hD hS hA [0, 1] rfl (by decide) 0 rfl rfl rfl) rfl rfl hl.1 rfl (lv_room (Nat.le_of_ble_eq_true rfl)) dX4_say_37 ⟨Nat.zero_le _, Nat.zero_le _⟩) hP hD hS hA [0, 1] [] rfl rfl (by decide) (by decide) (fun r_7 w_6 H locs h_5 hP hD hS => ?_)
      obtain ⟨rfl, rfl⟩ := h_5
      have hP : va_P D vwCl [(h, .inr (4, [.ref hT9, .int (nI ((((tn + 1)) + 1))), .int (nI 0), .int (nI 0), .int (nI sp), .int mm])), (hT9, .inl (cI, 30, .inl ((upd ((upd T tn (nI 11))) ((tn + 1)) (nI 10)))))] H := hP
      have hD : va_D AA [(h, .inr (4, [.ref hT9, .int (nI ((((tn + 1)) + 1))), .int (nI 0), .int (nI 0), .int (nI sp), .int mm])), (hT9, .inl (cI, 30, .inl ((upd ((upd T tn (nI 11))) ((tn + 1)) (nI 10)))))] := hD
      exact hret hP hD hS dX4_say_40 rfl (by exact ⟨rfl, rfl⟩)
    · have c11_2 : ¬ (d ≤ 40) := fun h9 => c11_2 ((nI_leI (a := d) (b := 40) (by omega) (by omega)).mpr h9)
      exact absurd c11_2 (by omega)
set_option maxHeartbeats 4000000 in
set_option maxRecDepth 100000 in
theorem c_X4_sayBody_0_2_0 (l : Launch) (D : va_G) (cI cJ : ClassId) (h : Nat) (hT9 : Nat) (T : Nat → Int32) (tn : Nat) (sp : Nat) (mm : Int32) (x : Int32) (d : Nat) (htn : tn + 2 ≤ 30) (hd : d + 2 ≤ 40) : zMi l yX4_sayBody wsX4_sayBody ({ frames := 5, cells := 0, slots := 0, locals := 119 } : Room) D [(cI, .int), (cJ, .array .int)] [.ref h, .int (nI 12), .int x, .int (nI d)] [(h, .inr (4, [.ref hT9, .int (nI tn), .int (nI 0), .int (nI 0), .int (nI sp), .int mm])), (hT9, .inl (cI, 30, .inl T))] (fun r w => r = (zswears 0 0 sp mm x ) ∧ w = [(h, .inr (4, [.ref hT9, .int (nI (((tn + 1) + 1))), .int (nI 0), .int (nI 0), .int (nI sp), .int mm])), (hT9, .inl (cI, 30, .inl ((upd (upd T tn (nI 11)) (tn + 1) (nI 10)))))]) := by
  refine zMi.start (cc := cX4_sayBody) (maxL := 4) (rt := .int) (by first | decide | decide +kernel) rfl (Nat.le_of_ble_eq_true rfl) ?_
  intro pg ev s mt args below meth cd ls AA QQ ⟨hx, hb, hml, hr, hlocks, hown, hts, hK, hN, hZ, hP, hD, hA, hS, hl⟩ hret
  have hown : s.vm.findClass RX4 = some mt.cls := hown
  have hl : lv_has ls 4 [(0, .ref h), (1, .int (nI 12)), (2, .int x), (3, .int (nI d))] := hl
  have hin4 : ∀ w ∈ wsX40, w ∈ wsX4_sayBody := fun w h => List.mem_cons_of_mem _ (List.mem_append_right _ (h))
  refine lv_iload_n hx hb dX4_sayBody_0 rfl (lv_at hl 1 rfl) ?_
  refine lv_lookup (off := 136) (tgt := 137) hx hb dX4_sayBody_1 (by decide) (by decide) (by decide) ?_
  refine lv_aload_n hx hb dX4_sayBody_137 rfl (lv_at hl 0 rfl) ?_
  refine lv_aload_n hx hb dX4_sayBody_138 rfl (lv_at hl 0 rfl) ?_
  refine va_get (ci := 4) (v := .int (nI 0)) (C := RX4) (T := TX4) (N := 6) hx hb hts hin4 hown hK hP 0 rfl rfl 3 (by decide) (hts (.fieldLink RX4 23 "UpAllRound$Voices" "kind" "I") (List.mem_of_getElem? (i := 2) rfl)) (fun _ h9 => h9) rfl dX4_sayBody_139 ?_
  refine lv_iconst (v := nI 1) hx hb dX4_sayBody_142 (by decide) ?_
  refine lv_iload_n hx hb dX4_sayBody_143 rfl (lv_at hl 2 rfl) ?_
  refine lv_iload_n hx hb dX4_sayBody_144 rfl (lv_at hl 3 rfl) ?_
  refine zci (wr := []) (va_runV (As := [.int (nI 0), .int (nI 1), .int x, .int (nI d)]) (rest := []) ⟨hx, hb, hml, hown, hts⟩ (c_X4_say_0_1_0 l D cI cJ h hT9 T tn sp mm x d (by first | rfl | assumption | omega) (by first | rfl | assumption | omega) s.heap.size) (cwV 4 hts gX4_sayBody_X4_say rfl rfl rfl (by decide +kernel) ⟨Nat.le_of_ble_eq_true rfl, Nat.le_of_ble_eq_true rfl⟩) (zpV hK hN hZ hP hD hS hA [0, 1] rfl (by decide) 0 rfl rfl rfl) rfl rfl hl.1 rfl (lv_room (Nat.le_of_ble_eq_true rfl)) dX4_sayBody_145 ⟨Nat.zero_le _, Nat.zero_le _⟩) hP hD hS hA [0, 1] [] rfl rfl (by decide) (by decide) (fun r_3 w_2 H locs h_1 hP hD hS => ?_)
  obtain ⟨rfl, rfl⟩ := h_1
  have hP : va_P D vwCl [(h, .inr (4, [.ref hT9, .int (nI (((tn + 1) + 1))), .int (nI 0), .int (nI 0), .int (nI sp), .int mm])), (hT9, .inl (cI, 30, .inl ((upd (upd T tn (nI 11)) (tn + 1) (nI 10)))))] H := hP
  have hD : va_D AA [(h, .inr (4, [.ref hT9, .int (nI (((tn + 1) + 1))), .int (nI 0), .int (nI 0), .int (nI sp), .int mm])), (hT9, .inl (cI, 30, .inl ((upd (upd T tn (nI 11)) (tn + 1) (nI 10)))))] := hD
  refine lv_aload_n hx hb dX4_sayBody_148 rfl (lv_at hl 0 rfl) ?_
  refine va_get (ci := 4) (v := .int mm) (C := RX4) (T := TX4) (N := 6) hx hb hts hin4 hown hK hP 0 rfl rfl 5 (by decide) (hts (.fieldLink RX4 29 "UpAllRound$Voices" "m" "I") (List.mem_of_getElem? (i := 3) rfl)) (fun _ h9 => h9) rfl dX4_sayBody_149 ?_
  refine lv_isub hx hb dX4_sayBody_152 ?_
  exact hret hP hD hS dX4_sayBody_153 rfl (by exact ⟨rfl, rfl⟩)
set_option maxHeartbeats 4000000 in
set_option maxRecDepth 100000 in
theorem c_X4_say_0_2_0 (l : Launch) (D : va_G) (cI cJ : ClassId) (h : Nat) (hT9 : Nat) (T : Nat → Int32) (tn : Nat) (sp : Nat) (mm : Int32) (x : Int32) (d : Nat) (htn : tn + 3 ≤ 30) (hd : d + 3 ≤ 40) : zMi l yX4_say wsX4_say ({ frames := 6, cells := 0, slots := 0, locals := 142 } : Room) D [(cI, .int), (cJ, .array .int)] [.ref h, .int (nI 0), .int (nI 2), .int x, .int (nI d)] [(h, .inr (4, [.ref hT9, .int (nI tn), .int (nI 0), .int (nI 0), .int (nI sp), .int mm])), (hT9, .inl (cI, 30, .inl T))] (fun r w => r = (zswears 0 0 sp mm x ) ∧ w = [(h, .inr (4, [.ref hT9, .int (nI ((((tn + 1) + 1) + 1))), .int (nI 0), .int (nI 0), .int (nI sp), .int mm])), (hT9, .inl (cI, 30, .inl ((upd (upd (upd T tn (nI 12)) (tn + 1) (nI 11)) ((tn + 1) + 1) (nI 10)))))]) := by
  refine zMi.start (cc := cX4_say) (maxL := 6) (rt := .int) (by first | decide | decide +kernel) rfl (Nat.le_of_ble_eq_true rfl) ?_
  intro pg ev s mt args below meth cd ls AA QQ ⟨hx, hb, hml, hr, hlocks, hown, hts, hK, hN, hZ, hP, hD, hA, hS, hl⟩ hret
  have hown : s.vm.findClass RX4 = some mt.cls := hown
  have hl : lv_has ls 6 [(0, .ref h), (1, .int (nI 0)), (2, .int (nI 2)), (3, .int x), (4, .int (nI d))] := hl
  have hin4 : ∀ w ∈ wsX40, w ∈ wsX4_say := fun w h => List.mem_cons_of_mem _ (List.mem_append_right _ (h))
  refine lv_aload_n hx hb dX4_say_0 rfl (lv_at hl 0 rfl) ?_
  refine va_get (ci := 4) (v := .int (nI 0)) (C := RX4) (T := TX4) (N := 6) hx hb hts hin4 hown hK hP 0 rfl rfl 2 (by decide) (hts (.fieldLink RX4 19 "UpAllRound$Voices" "parted" "Z") (List.mem_of_getElem? (i := 1) rfl)) (fun _ h9 => h9) rfl dX4_say_1 ?_
  refine lv_if_ne (tgt := 14) hx hb dX4_say_4 (by decide) (fun c4_1 => ?_) (fun c4_1 => ?_)
  · have c4_1 : ¬ (0 = 0) := fun h9 => c4_1 ((nI_eq (a := 0) (b := 0) (by omega) (by omega)).mpr h9)
    exact absurd c4_1 (by omega)
  · have c4_1 : 0 = 0 := (nI_eq (a := 0) (b := 0) (by omega) (by omega)).mp c4_1
    refine lv_iload hx hb dX4_say_7 (lv_at hl 4 rfl) ?_
    refine lv_bipush (v := nI 40) hx hb dX4_say_9 (by decide) ?_
    refine lv_icmp_le (tgt := 16) hx hb dX4_say_11 (by decide) (fun c11_2 => ?_) (fun c11_2 => ?_)
    · have c11_2 : d ≤ 40 := (nI_leI (a := d) (b := 40) (by omega) (by omega)).mp c11_2
      refine lv_iload_n hx hb dX4_say_16 rfl (lv_at hl 1 rfl) ?_
      refine lv_iload_n hx hb dX4_say_17 rfl (lv_at hl 2 rfl) ?_
      refine zcsE (va_runS (As := [.int (nI 0), .int (nI 2)]) (rest := []) ⟨hx, hb, hml, hown, hts⟩ (c_X4_find_0_2 l D cI cJ   s.heap.size) (va_cwS 2 hts gX4_say_X4_find rfl rfl rfl (by decide +kernel) ⟨Nat.le_of_ble_eq_true rfl, Nat.le_of_ble_eq_true rfl⟩) (zpS hK hN hZ hP hD hS hA [] rfl (by decide)) rfl rfl hl.1 rfl (lv_room (Nat.le_of_ble_eq_true rfl)) dX4_say_18 ⟨Nat.zero_le _, Nat.zero_le _⟩) ?_
      refine lv_istore (lv' := [(5, .int (nI 12)), (0, .ref h), (1, .int (nI 0)), (2, .int (nI 2)), (3, .int x), (4, .int (nI d))]) hx hb dX4_say_21 hl (by decide) rfl (fun ls hl => ?_)
      refine lv_aload_n hx hb dX4_say_23 rfl (lv_at hl 1 rfl) ?_
      refine lv_iload hx hb dX4_say_24 (lv_at hl 0 rfl) ?_
      refine zcv (wr := []) (va_runV (As := [.int (nI 12)]) (rest := []) ⟨hx, hb, hml, hown, hts⟩ (c_X4_begin l D cI cJ h hT9 T tn 0 0 sp mm 12 (by first | rfl | assumption | omega) s.heap.size) (cwV 1 hts gX4_say_X4_begin rfl rfl rfl (by decide +kernel) ⟨Nat.le_of_ble_eq_true rfl, Nat.le_of_ble_eq_true rfl⟩) (zpV hK hN hZ hP hD hS hA [0, 1] rfl (by decide) 0 rfl rfl rfl) rfl rfl hl.1 rfl (lv_room (Nat.le_of_ble_eq_true rfl)) dX4_say_26 ⟨Nat.zero_le _, Nat.zero_le _⟩) hP hD hS hA [0, 1] [] rfl rfl (by decide) (by decide) (fun w_4 H locs h_3 hP hD hS => ?_)
      obtain rfl := h_3
      have hP : va_P D vwCl [(h, .inr (4, [.ref hT9, .int (nI ((tn + 1))), .int (nI 0), .int (nI 0), .int (nI sp), .int mm])), (hT9, .inl (cI, 30, .inl ((upd T tn (nI 12)))))] H := hP
      have hD : va_D AA [(h, .inr (4, [.ref hT9, .int (nI ((tn + 1))), .int (nI 0), .int (nI 0), .int (nI sp), .int mm])), (hT9, .inl (cI, 30, .inl ((upd T tn (nI 12)))))] := hD
      refine lv_aload_n hx hb dX4_say_29 rfl (lv_at hl 1 rfl) ?_
      refine lv_iload hx hb dX4_say_30 (lv_at hl 0 rfl) ?_
      refine lv_iload_n hx hb dX4_say_32 rfl (lv_at hl 4 rfl) ?_
      refine lv_iload hx hb dX4_say_33 (lv_at hl 5 rfl) ?_
      refine lv_iconst (v := nI 1) hx hb dX4_say_35 (by decide) ?_
      refine lv_iadd hx hb dX4_say_36 ?_
      refine zrw (nI_add _ _) ?_
      refine zci (wr := []) (va_runV (As := [.int (nI 12), .int x, .int (nI (d + 1))]) (rest := []) ⟨hx, hb, hml, hown, hts⟩ (c_X4_sayBody_0_2_0 l D cI cJ h hT9 ((upd T tn (nI 12))) ((tn + 1)) sp mm x (d + 1) (by first | rfl | assumption | omega) (by first | rfl | assumption | omega) H.size) (cwV 3 hts gX4_say_X4_sayBody rfl rfl rfl (by decide +kernel) ⟨Nat.le_of_ble_eq_true rfl, Nat.le_of_ble_eq_true rfl⟩) (zpV hK hN hZ hP hD hS hA [0, 1] rfl (by decide) 0 rfl rfl rfl) rfl rfl hl.1 rfl (lv_room (Nat.le_of_ble_eq_true rfl)) dX4_say_37 ⟨Nat.zero_le _, Nat.zero_le _⟩) hP hD hS hA [0, 1] [] rfl rfl (by decide) (by decide) (fun r_7 w_6 H locs h_5 hP hD hS => ?_)
      obtain ⟨rfl, rfl⟩ := h_5
      have hP : va_P D vwCl [(h, .inr (4, [.ref hT9, .int (nI (((((tn + 1)) + 1) + 1))), .int (nI 0), .int (nI 0), .int (nI sp), .int mm])), (hT9, .inl (cI, 30, .inl ((upd (upd ((upd T tn (nI 12))) ((tn + 1)) (nI 11)) (((tn + 1)) + 1) (nI 10)))))] H := hP
      have hD : va_D AA [(h, .inr (4, [.ref hT9, .int (nI (((((tn + 1)) + 1) + 1))), .int (nI 0), .int (nI 0), .int (nI sp), .int mm])), (hT9, .inl (cI, 30, .inl ((upd (upd ((upd T tn (nI 12))) ((tn + 1)) (nI 11)) (((tn + 1)) + 1) (nI 10)))))] := hD
      exact hret hP hD hS dX4_say_40 rfl (by exact ⟨rfl, rfl⟩)
    · have c11_2 : ¬ (d ≤ 40) := fun h9 => c11_2 ((nI_leI (a := d) (b := 40) (by omega) (by omega)).mpr h9)
      exact absurd c11_2 (by omega)
set_option maxHeartbeats 4000000 in
set_option maxRecDepth 100000 in
theorem c_X4_sayBody_0_3_0 (l : Launch) (D : va_G) (cI cJ : ClassId) (h : Nat) (hT9 : Nat) (T : Nat → Int32) (tn : Nat) (sp : Nat) (mm : Int32) (x : Int32) (d : Nat) (htn : tn + 0 ≤ 30) (hd : d + 0 ≤ 40) : zMi l yX4_sayBody wsX4_sayBody ({ frames := 1, cells := 0, slots := 0, locals := 22 } : Room) D [(cI, .int), (cJ, .array .int)] [.ref h, .int (nI 13), .int x, .int (nI d)] [(h, .inr (4, [.ref hT9, .int (nI tn), .int (nI 0), .int (nI 0), .int (nI sp), .int mm])), (hT9, .inl (cI, 30, .inl T))] (fun r w => r = (zpv sp mm x) ∧ w = [(h, .inr (4, [.ref hT9, .int (nI tn), .int (nI ((zpd sp mm))), .int (nI 0), .int (nI sp), .int mm])), (hT9, .inl (cI, 30, .inl T))]) := by
  refine zMi.start (cc := cX4_sayBody) (maxL := 4) (rt := .int) (by first | decide | decide +kernel) rfl (Nat.le_of_ble_eq_true rfl) ?_
  intro pg ev s mt args below meth cd ls AA QQ ⟨hx, hb, hml, hr, hlocks, hown, hts, hK, hN, hZ, hP, hD, hA, hS, hl⟩ hret
  have hown : s.vm.findClass RX4 = some mt.cls := hown
  have hl : lv_has ls 4 [(0, .ref h), (1, .int (nI 13)), (2, .int x), (3, .int (nI d))] := hl
  have hin4 : ∀ w ∈ wsX40, w ∈ wsX4_sayBody := fun w h => List.mem_cons_of_mem _ (List.mem_append_right _ (h))
  refine lv_iload_n hx hb dX4_sayBody_0 rfl (lv_at hl 1 rfl) ?_
  refine lv_lookup (off := 153) (tgt := 154) hx hb dX4_sayBody_1 (by decide) (by decide) (by decide) ?_
  refine lv_aload_n hx hb dX4_sayBody_154 rfl (lv_at hl 0 rfl) ?_
  refine lv_iload_n hx hb dX4_sayBody_155 rfl (lv_at hl 2 rfl) ?_
  refine zci (wr := [(hT9, .inl (cI, 30, .inl T))]) (va_runV (As := [.int x]) (rest := []) ⟨hx, hb, hml, hown, hts⟩ (c_X4_part l D cI cJ h hT9 tn 0 sp mm x  s.heap.size) (cwV 1 hts gX4_sayBody_X4_part rfl rfl rfl (by decide +kernel) ⟨Nat.le_of_ble_eq_true rfl, Nat.le_of_ble_eq_true rfl⟩) (zpV hK hN hZ hP hD hS hA [0] rfl (by decide) 0 rfl rfl rfl) rfl rfl hl.1 rfl (lv_room (Nat.le_of_ble_eq_true rfl)) dX4_sayBody_156 ⟨Nat.zero_le _, Nat.zero_le _⟩) hP hD hS hA [0] [1] rfl rfl (by decide) (by decide) (fun r_3 w_2 H locs h_1 hP hD hS => ?_)
  obtain ⟨rfl, rfl⟩ := h_1
  have hP : va_P D vwCl [(hT9, .inl (cI, 30, .inl T)), (h, .inr (4, [.ref hT9, .int (nI tn), .int (nI ((zpd sp mm))), .int (nI 0), .int (nI sp), .int mm]))] H := hP
  have hD : va_D AA [(hT9, .inl (cI, 30, .inl T)), (h, .inr (4, [.ref hT9, .int (nI tn), .int (nI ((zpd sp mm))), .int (nI 0), .int (nI sp), .int mm]))] := hD
  have hP := hP.sub (ws' := [(h, .inr (4, [.ref hT9, .int (nI tn), .int (nI ((zpd sp mm))), .int (nI 0), .int (nI sp), .int mm])), (hT9, .inl (cI, 30, .inl T))]) [1, 0] rfl
  have hD := hD.sub (ws' := [(h, .inr (4, [.ref hT9, .int (nI tn), .int (nI ((zpd sp mm))), .int (nI 0), .int (nI sp), .int mm])), (hT9, .inl (cI, 30, .inl T))]) [1, 0] (by decide) rfl
  exact hret hP hD hS dX4_sayBody_159 rfl (by exact ⟨rfl, rfl⟩)
set_option maxHeartbeats 4000000 in
set_option maxRecDepth 100000 in
theorem c_X4_say_0_3_0 (l : Launch) (D : va_G) (cI cJ : ClassId) (h : Nat) (hT9 : Nat) (T : Nat → Int32) (tn : Nat) (sp : Nat) (mm : Int32) (x : Int32) (d : Nat) (htn : tn + 1 ≤ 30) (hd : d + 1 ≤ 40) : zMi l yX4_say wsX4_say ({ frames := 2, cells := 0, slots := 0, locals := 46 } : Room) D [(cI, .int), (cJ, .array .int)] [.ref h, .int (nI 0), .int (nI 3), .int x, .int (nI d)] [(h, .inr (4, [.ref hT9, .int (nI tn), .int (nI 0), .int (nI 0), .int (nI sp), .int mm])), (hT9, .inl (cI, 30, .inl T))] (fun r w => r = (zpv sp mm x) ∧ w = [(h, .inr (4, [.ref hT9, .int (nI ((tn + 1))), .int (nI ((zpd sp mm))), .int (nI 0), .int (nI sp), .int mm])), (hT9, .inl (cI, 30, .inl ((upd T tn (nI 13)))))]) := by
  refine zMi.start (cc := cX4_say) (maxL := 6) (rt := .int) (by first | decide | decide +kernel) rfl (Nat.le_of_ble_eq_true rfl) ?_
  intro pg ev s mt args below meth cd ls AA QQ ⟨hx, hb, hml, hr, hlocks, hown, hts, hK, hN, hZ, hP, hD, hA, hS, hl⟩ hret
  have hown : s.vm.findClass RX4 = some mt.cls := hown
  have hl : lv_has ls 6 [(0, .ref h), (1, .int (nI 0)), (2, .int (nI 3)), (3, .int x), (4, .int (nI d))] := hl
  have hin4 : ∀ w ∈ wsX40, w ∈ wsX4_say := fun w h => List.mem_cons_of_mem _ (List.mem_append_right _ (h))
  refine lv_aload_n hx hb dX4_say_0 rfl (lv_at hl 0 rfl) ?_
  refine va_get (ci := 4) (v := .int (nI 0)) (C := RX4) (T := TX4) (N := 6) hx hb hts hin4 hown hK hP 0 rfl rfl 2 (by decide) (hts (.fieldLink RX4 19 "UpAllRound$Voices" "parted" "Z") (List.mem_of_getElem? (i := 1) rfl)) (fun _ h9 => h9) rfl dX4_say_1 ?_
  refine lv_if_ne (tgt := 14) hx hb dX4_say_4 (by decide) (fun c4_1 => ?_) (fun c4_1 => ?_)
  · have c4_1 : ¬ (0 = 0) := fun h9 => c4_1 ((nI_eq (a := 0) (b := 0) (by omega) (by omega)).mpr h9)
    exact absurd c4_1 (by omega)
  · have c4_1 : 0 = 0 := (nI_eq (a := 0) (b := 0) (by omega) (by omega)).mp c4_1
    refine lv_iload hx hb dX4_say_7 (lv_at hl 4 rfl) ?_
    refine lv_bipush (v := nI 40) hx hb dX4_say_9 (by decide) ?_
    refine lv_icmp_le (tgt := 16) hx hb dX4_say_11 (by decide) (fun c11_2 => ?_) (fun c11_2 => ?_)
    · have c11_2 : d ≤ 40 := (nI_leI (a := d) (b := 40) (by omega) (by omega)).mp c11_2
      refine lv_iload_n hx hb dX4_say_16 rfl (lv_at hl 1 rfl) ?_
      refine lv_iload_n hx hb dX4_say_17 rfl (lv_at hl 2 rfl) ?_
      refine zcsE (va_runS (As := [.int (nI 0), .int (nI 3)]) (rest := []) ⟨hx, hb, hml, hown, hts⟩ (c_X4_find_0_3 l D cI cJ   s.heap.size) (va_cwS 2 hts gX4_say_X4_find rfl rfl rfl (by decide +kernel) ⟨Nat.le_of_ble_eq_true rfl, Nat.le_of_ble_eq_true rfl⟩) (zpS hK hN hZ hP hD hS hA [] rfl (by decide)) rfl rfl hl.1 rfl (lv_room (Nat.le_of_ble_eq_true rfl)) dX4_say_18 ⟨Nat.zero_le _, Nat.zero_le _⟩) ?_
      refine lv_istore (lv' := [(5, .int (nI 13)), (0, .ref h), (1, .int (nI 0)), (2, .int (nI 3)), (3, .int x), (4, .int (nI d))]) hx hb dX4_say_21 hl (by decide) rfl (fun ls hl => ?_)
      refine lv_aload_n hx hb dX4_say_23 rfl (lv_at hl 1 rfl) ?_
      refine lv_iload hx hb dX4_say_24 (lv_at hl 0 rfl) ?_
      refine zcv (wr := []) (va_runV (As := [.int (nI 13)]) (rest := []) ⟨hx, hb, hml, hown, hts⟩ (c_X4_begin l D cI cJ h hT9 T tn 0 0 sp mm 13 (by first | rfl | assumption | omega) s.heap.size) (cwV 1 hts gX4_say_X4_begin rfl rfl rfl (by decide +kernel) ⟨Nat.le_of_ble_eq_true rfl, Nat.le_of_ble_eq_true rfl⟩) (zpV hK hN hZ hP hD hS hA [0, 1] rfl (by decide) 0 rfl rfl rfl) rfl rfl hl.1 rfl (lv_room (Nat.le_of_ble_eq_true rfl)) dX4_say_26 ⟨Nat.zero_le _, Nat.zero_le _⟩) hP hD hS hA [0, 1] [] rfl rfl (by decide) (by decide) (fun w_4 H locs h_3 hP hD hS => ?_)
      obtain rfl := h_3
      have hP : va_P D vwCl [(h, .inr (4, [.ref hT9, .int (nI ((tn + 1))), .int (nI 0), .int (nI 0), .int (nI sp), .int mm])), (hT9, .inl (cI, 30, .inl ((upd T tn (nI 13)))))] H := hP
      have hD : va_D AA [(h, .inr (4, [.ref hT9, .int (nI ((tn + 1))), .int (nI 0), .int (nI 0), .int (nI sp), .int mm])), (hT9, .inl (cI, 30, .inl ((upd T tn (nI 13)))))] := hD
      refine lv_aload_n hx hb dX4_say_29 rfl (lv_at hl 1 rfl) ?_
      refine lv_iload hx hb dX4_say_30 (lv_at hl 0 rfl) ?_
      refine lv_iload_n hx hb dX4_say_32 rfl (lv_at hl 4 rfl) ?_
      refine lv_iload hx hb dX4_say_33 (lv_at hl 5 rfl) ?_
      refine lv_iconst (v := nI 1) hx hb dX4_say_35 (by decide) ?_
      refine lv_iadd hx hb dX4_say_36 ?_
      refine zrw (nI_add _ _) ?_
      refine zci (wr := []) (va_runV (As := [.int (nI 13), .int x, .int (nI (d + 1))]) (rest := []) ⟨hx, hb, hml, hown, hts⟩ (c_X4_sayBody_0_3_0 l D cI cJ h hT9 ((upd T tn (nI 13))) ((tn + 1)) sp mm x (d + 1) (by first | rfl | assumption | omega) (by first | rfl | assumption | omega) H.size) (cwV 3 hts gX4_say_X4_sayBody rfl rfl rfl (by decide +kernel) ⟨Nat.le_of_ble_eq_true rfl, Nat.le_of_ble_eq_true rfl⟩) (zpV hK hN hZ hP hD hS hA [0, 1] rfl (by decide) 0 rfl rfl rfl) rfl rfl hl.1 rfl (lv_room (Nat.le_of_ble_eq_true rfl)) dX4_say_37 ⟨Nat.zero_le _, Nat.zero_le _⟩) hP hD hS hA [0, 1] [] rfl rfl (by decide) (by decide) (fun r_7 w_6 H locs h_5 hP hD hS => ?_)
      obtain ⟨rfl, rfl⟩ := h_5
      have hP : va_P D vwCl [(h, .inr (4, [.ref hT9, .int (nI (((tn + 1)))), .int (nI ((zpd sp mm))), .int (nI 0), .int (nI sp), .int mm])), (hT9, .inl (cI, 30, .inl (((upd T tn (nI 13))))))] H := hP
      have hD : va_D AA [(h, .inr (4, [.ref hT9, .int (nI (((tn + 1)))), .int (nI ((zpd sp mm))), .int (nI 0), .int (nI sp), .int mm])), (hT9, .inl (cI, 30, .inl (((upd T tn (nI 13))))))] := hD
      exact hret hP hD hS dX4_say_40 rfl (by exact ⟨rfl, rfl⟩)
    · have c11_2 : ¬ (d ≤ 40) := fun h9 => c11_2 ((nI_leI (a := d) (b := 40) (by omega) (by omega)).mpr h9)
      exact absurd c11_2 (by omega)
set_option maxHeartbeats 4000000 in
set_option maxRecDepth 100000 in
theorem c_X4_sayBody_0_0_1 (l : Launch) (D : va_G) (cI cJ : ClassId) (h : Nat) (hT9 : Nat) (T : Nat → Int32) (tn : Nat) (sp : Nat) (mm : Int32) (x : Int32) (d : Nat) (htn : tn + 0 ≤ 30) (hd : d + 0 ≤ 40) : zMi l yX4_sayBody wsX4_sayBody ({ frames := 0, cells := 0, slots := 0, locals := 0 } : Room) D [(cI, .int), (cJ, .array .int)] [.ref h, .int (nI 10), .int x, .int (nI d)] [(h, .inr (4, [.ref hT9, .int (nI tn), .int (nI 0), .int (nI 1), .int (nI sp), .int mm])), (hT9, .inl (cI, 30, .inl T))] (fun r w => r = (zpants 0 sp x ) ∧ w = [(h, .inr (4, [.ref hT9, .int (nI tn), .int (nI 0), .int (nI 1), .int (nI sp), .int mm])), (hT9, .inl (cI, 30, .inl T))]) := by
  refine zMi.start (cc := cX4_sayBody) (maxL := 4) (rt := .int) (by first | decide | decide +kernel) rfl (Nat.le_of_ble_eq_true rfl) ?_
  intro pg ev s mt args below meth cd ls AA QQ ⟨hx, hb, hml, hr, hlocks, hown, hts, hK, hN, hZ, hP, hD, hA, hS, hl⟩ hret
  have hown : s.vm.findClass RX4 = some mt.cls := hown
  have hl : lv_has ls 4 [(0, .ref h), (1, .int (nI 10)), (2, .int x), (3, .int (nI d))] := hl
  have hin4 : ∀ w ∈ wsX40, w ∈ wsX4_sayBody := fun w h => List.mem_cons_of_mem _ (List.mem_append_right _ (h))
  refine lv_iload_n hx hb dX4_sayBody_0 rfl (lv_at hl 1 rfl) ?_
  refine lv_lookup (off := 115) (tgt := 116) hx hb dX4_sayBody_1 (by decide) (by decide) (by decide) ?_
  refine lv_iload_n hx hb dX4_sayBody_116 rfl (lv_at hl 2 rfl) ?_
  refine lv_aload_n hx hb dX4_sayBody_117 rfl (lv_at hl 0 rfl) ?_
  refine va_get (ci := 4) (v := .int (nI sp)) (C := RX4) (T := TX4) (N := 6) hx hb hts hin4 hown hK hP 0 rfl rfl 4 (by decide) (hts (.fieldLink RX4 26 "UpAllRound$Voices" "k" "I") (List.mem_of_getElem? (i := 1) rfl)) (fun _ h9 => h9) rfl dX4_sayBody_118 ?_
  refine lv_iadd hx hb dX4_sayBody_121 ?_
  exact hret hP hD hS dX4_sayBody_122 rfl (by exact ⟨rfl, rfl⟩)
set_option maxHeartbeats 4000000 in
set_option maxRecDepth 100000 in
theorem c_X4_say_0_0_1 (l : Launch) (D : va_G) (cI cJ : ClassId) (h : Nat) (hT9 : Nat) (T : Nat → Int32) (tn : Nat) (sp : Nat) (mm : Int32) (x : Int32) (d : Nat) (htn : tn + 1 ≤ 30) (hd : d + 1 ≤ 40) : zMi l yX4_say wsX4_say ({ frames := 2, cells := 0, slots := 0, locals := 46 } : Room) D [(cI, .int), (cJ, .array .int)] [.ref h, .int (nI 0), .int (nI 0), .int x, .int (nI d)] [(h, .inr (4, [.ref hT9, .int (nI tn), .int (nI 0), .int (nI 1), .int (nI sp), .int mm])), (hT9, .inl (cI, 30, .inl T))] (fun r w => r = (zpants 0 sp x ) ∧ w = [(h, .inr (4, [.ref hT9, .int (nI ((tn + 1))), .int (nI 0), .int (nI 1), .int (nI sp), .int mm])), (hT9, .inl (cI, 30, .inl ((upd T tn (nI 10)))))]) := by
  refine zMi.start (cc := cX4_say) (maxL := 6) (rt := .int) (by first | decide | decide +kernel) rfl (Nat.le_of_ble_eq_true rfl) ?_
  intro pg ev s mt args below meth cd ls AA QQ ⟨hx, hb, hml, hr, hlocks, hown, hts, hK, hN, hZ, hP, hD, hA, hS, hl⟩ hret
  have hown : s.vm.findClass RX4 = some mt.cls := hown
  have hl : lv_has ls 6 [(0, .ref h), (1, .int (nI 0)), (2, .int (nI 0)), (3, .int x), (4, .int (nI d))] := hl
  have hin4 : ∀ w ∈ wsX40, w ∈ wsX4_say := fun w h => List.mem_cons_of_mem _ (List.mem_append_right _ (h))
  refine lv_aload_n hx hb dX4_say_0 rfl (lv_at hl 0 rfl) ?_
  refine va_get (ci := 4) (v := .int (nI 0)) (C := RX4) (T := TX4) (N := 6) hx hb hts hin4 hown hK hP 0 rfl rfl 2 (by decide) (hts (.fieldLink RX4 19 "UpAllRound$Voices" "parted" "Z") (List.mem_of_getElem? (i := 1) rfl)) (fun _ h9 => h9) rfl dX4_say_1 ?_
  refine lv_if_ne (tgt := 14) hx hb dX4_say_4 (by decide) (fun c4_1 => ?_) (fun c4_1 => ?_)
  · have c4_1 : ¬ (0 = 0) := fun h9 => c4_1 ((nI_eq (a := 0) (b := 0) (by omega) (by omega)).mpr h9)
    exact absurd c4_1 (by omega)
  · have c4_1 : 0 = 0 := (nI_eq (a := 0) (b := 0) (by omega) (by omega)).mp c4_1
    refine lv_iload hx hb dX4_say_7 (lv_at hl 4 rfl) ?_
    refine lv_bipush (v := nI 40) hx hb dX4_say_9 (by decide) ?_
    refine lv_icmp_le (tgt := 16) hx hb dX4_say_11 (by decide) (fun c11_2 => ?_) (fun c11_2 => ?_)
    · have c11_2 : d ≤ 40 := (nI_leI (a := d) (b := 40) (by omega) (by omega)).mp c11_2
      refine lv_iload_n hx hb dX4_say_16 rfl (lv_at hl 1 rfl) ?_
      refine lv_iload_n hx hb dX4_say_17 rfl (lv_at hl 2 rfl) ?_
      refine zcsE (va_runS (As := [.int (nI 0), .int (nI 0)]) (rest := []) ⟨hx, hb, hml, hown, hts⟩ (c_X4_find_0_0 l D cI cJ   s.heap.size) (va_cwS 2 hts gX4_say_X4_find rfl rfl rfl (by decide +kernel) ⟨Nat.le_of_ble_eq_true rfl, Nat.le_of_ble_eq_true rfl⟩) (zpS hK hN hZ hP hD hS hA [] rfl (by decide)) rfl rfl hl.1 rfl (lv_room (Nat.le_of_ble_eq_true rfl)) dX4_say_18 ⟨Nat.zero_le _, Nat.zero_le _⟩) ?_
      refine lv_istore (lv' := [(5, .int (nI 10)), (0, .ref h), (1, .int (nI 0)), (2, .int (nI 0)), (3, .int x), (4, .int (nI d))]) hx hb dX4_say_21 hl (by decide) rfl (fun ls hl => ?_)
      refine lv_aload_n hx hb dX4_say_23 rfl (lv_at hl 1 rfl) ?_
      refine lv_iload hx hb dX4_say_24 (lv_at hl 0 rfl) ?_
      refine zcv (wr := []) (va_runV (As := [.int (nI 10)]) (rest := []) ⟨hx, hb, hml, hown, hts⟩ (c_X4_begin l D cI cJ h hT9 T tn 0 1 sp mm 10 (by first | rfl | assumption | omega) s.heap.size) (cwV 1 hts gX4_say_X4_begin rfl rfl rfl (by decide +kernel) ⟨Nat.le_of_ble_eq_true rfl, Nat.le_of_ble_eq_true rfl⟩) (zpV hK hN hZ hP hD hS hA [0, 1] rfl (by decide) 0 rfl rfl rfl) rfl rfl hl.1 rfl (lv_room (Nat.le_of_ble_eq_true rfl)) dX4_say_26 ⟨Nat.zero_le _, Nat.zero_le _⟩) hP hD hS hA [0, 1] [] rfl rfl (by decide) (by decide) (fun w_4 H locs h_3 hP hD hS => ?_)
      obtain rfl := h_3
      have hP : va_P D vwCl [(h, .inr (4, [.ref hT9, .int (nI ((tn + 1))), .int (nI 0), .int (nI 1), .int (nI sp), .int mm])), (hT9, .inl (cI, 30, .inl ((upd T tn (nI 10)))))] H := hP
      have hD : va_D AA [(h, .inr (4, [.ref hT9, .int (nI ((tn + 1))), .int (nI 0), .int (nI 1), .int (nI sp), .int mm])), (hT9, .inl (cI, 30, .inl ((upd T tn (nI 10)))))] := hD
      refine lv_aload_n hx hb dX4_say_29 rfl (lv_at hl 1 rfl) ?_
      refine lv_iload hx hb dX4_say_30 (lv_at hl 0 rfl) ?_
      refine lv_iload_n hx hb dX4_say_32 rfl (lv_at hl 4 rfl) ?_
      refine lv_iload hx hb dX4_say_33 (lv_at hl 5 rfl) ?_
      refine lv_iconst (v := nI 1) hx hb dX4_say_35 (by decide) ?_
      refine lv_iadd hx hb dX4_say_36 ?_
      refine zrw (nI_add _ _) ?_
      refine zci (wr := []) (va_runV (As := [.int (nI 10), .int x, .int (nI (d + 1))]) (rest := []) ⟨hx, hb, hml, hown, hts⟩ (c_X4_sayBody_0_0_1 l D cI cJ h hT9 ((upd T tn (nI 10))) ((tn + 1)) sp mm x (d + 1) (by first | rfl | assumption | omega) (by first | rfl | assumption | omega) H.size) (cwV 3 hts gX4_say_X4_sayBody rfl rfl rfl (by decide +kernel) ⟨Nat.le_of_ble_eq_true rfl, Nat.le_of_ble_eq_true rfl⟩) (zpV hK hN hZ hP hD hS hA [0, 1] rfl (by decide) 0 rfl rfl rfl) rfl rfl hl.1 rfl (lv_room (Nat.le_of_ble_eq_true rfl)) dX4_say_37 ⟨Nat.zero_le _, Nat.zero_le _⟩) hP hD hS hA [0, 1] [] rfl rfl (by decide) (by decide) (fun r_7 w_6 H locs h_5 hP hD hS => ?_)
      obtain ⟨rfl, rfl⟩ := h_5
      have hP : va_P D vwCl [(h, .inr (4, [.ref hT9, .int (nI (((tn + 1)))), .int (nI 0), .int (nI 1), .int (nI sp), .int mm])), (hT9, .inl (cI, 30, .inl (((upd T tn (nI 10))))))] H := hP
      have hD : va_D AA [(h, .inr (4, [.ref hT9, .int (nI (((tn + 1)))), .int (nI 0), .int (nI 1), .int (nI sp), .int mm])), (hT9, .inl (cI, 30, .inl (((upd T tn (nI 10))))))] := hD
      exact hret hP hD hS dX4_say_40 rfl (by exact ⟨rfl, rfl⟩)
    · have c11_2 : ¬ (d ≤ 40) := fun h9 => c11_2 ((nI_leI (a := d) (b := 40) (by omega) (by omega)).mpr h9)
      exact absurd c11_2 (by omega)
set_option maxHeartbeats 4000000 in
set_option maxRecDepth 100000 in
theorem c_X4_sayBody_1_0_1 (l : Launch) (D : va_G) (cI cJ : ClassId) (h : Nat) (hT9 : Nat) (T : Nat → Int32) (tn : Nat) (sp : Nat) (mm : Int32) (x : Int32) (d : Nat) (htn : tn + 1 ≤ 30) (hd : d + 1 ≤ 40) : zMi l yX4_sayBody wsX4_sayBody ({ frames := 3, cells := 0, slots := 0, locals := 71 } : Room) D [(cI, .int), (cJ, .array .int)] [.ref h, .int (nI 20), .int x, .int (nI d)] [(h, .inr (4, [.ref hT9, .int (nI tn), .int (nI 0), .int (nI 1), .int (nI sp), .int mm])), (hT9, .inl (cI, 30, .inl T))] (fun r w => r = (zpants 1 sp x ) ∧ w = [(h, .inr (4, [.ref hT9, .int (nI ((tn + 1))), .int (nI 0), .int (nI 1), .int (nI sp), .int mm])), (hT9, .inl (cI, 30, .inl ((upd T tn (nI 10)))))]) := by
  refine zMi.start (cc := cX4_sayBody) (maxL := 4) (rt := .int) (by first | decide | decide +kernel) rfl (Nat.le_of_ble_eq_true rfl) ?_
  intro pg ev s mt args below meth cd ls AA QQ ⟨hx, hb, hml, hr, hlocks, hown, hts, hK, hN, hZ, hP, hD, hA, hS, hl⟩ hret
  have hown : s.vm.findClass RX4 = some mt.cls := hown
  have hl : lv_has ls 4 [(0, .ref h), (1, .int (nI 20)), (2, .int x), (3, .int (nI d))] := hl
  have hin4 : ∀ w ∈ wsX40, w ∈ wsX4_sayBody := fun w h => List.mem_cons_of_mem _ (List.mem_append_right _ (h))
  refine lv_iload_n hx hb dX4_sayBody_0 rfl (lv_at hl 1 rfl) ?_
  refine lv_lookup (off := 159) (tgt := 160) hx hb dX4_sayBody_1 (by decide) (by decide) (by decide) ?_
  refine lv_aload_n hx hb dX4_sayBody_160 rfl (lv_at hl 0 rfl) ?_
  refine lv_iconst (v := nI 0) hx hb dX4_sayBody_161 (by decide) ?_
  refine lv_iconst (v := nI 0) hx hb dX4_sayBody_162 (by decide) ?_
  refine lv_iload_n hx hb dX4_sayBody_163 rfl (lv_at hl 2 rfl) ?_
  refine lv_iload_n hx hb dX4_sayBody_164 rfl (lv_at hl 3 rfl) ?_
  refine zci (wr := []) (va_runV (As := [.int (nI 0), .int (nI 0), .int x, .int (nI d)]) (rest := []) ⟨hx, hb, hml, hown, hts⟩ (c_X4_say_0_0_1 l D cI cJ h hT9 T tn sp mm x d (by first | rfl | assumption | omega) (by first | rfl | assumption | omega) s.heap.size) (cwV 4 hts gX4_sayBody_X4_say rfl rfl rfl (by decide +kernel) ⟨Nat.le_of_ble_eq_true rfl, Nat.le_of_ble_eq_true rfl⟩) (zpV hK hN hZ hP hD hS hA [0, 1] rfl (by decide) 0 rfl rfl rfl) rfl rfl hl.1 rfl (lv_room (Nat.le_of_ble_eq_true rfl)) dX4_sayBody_165 ⟨Nat.zero_le _, Nat.zero_le _⟩) hP hD hS hA [0, 1] [] rfl rfl (by decide) (by decide) (fun r_3 w_2 H locs h_1 hP hD hS => ?_)
  obtain ⟨rfl, rfl⟩ := h_1
  have hP : va_P D vwCl [(h, .inr (4, [.ref hT9, .int (nI ((tn + 1))), .int (nI 0), .int (nI 1), .int (nI sp), .int mm])), (hT9, .inl (cI, 30, .inl ((upd T tn (nI 10)))))] H := hP
  have hD : va_D AA [(h, .inr (4, [.ref hT9, .int (nI ((tn + 1))), .int (nI 0), .int (nI 1), .int (nI sp), .int mm])), (hT9, .inl (cI, 30, .inl ((upd T tn (nI 10)))))] := hD
  refine lv_iconst (v := nI 4) hx hb dX4_sayBody_168 (by decide) ?_
  refine lv_isub hx hb dX4_sayBody_169 ?_
  exact hret hP hD hS dX4_sayBody_170 rfl (by exact ⟨rfl, rfl⟩)
set_option maxHeartbeats 4000000 in
set_option maxRecDepth 100000 in
theorem c_X4_say_1_0_1 (l : Launch) (D : va_G) (cI cJ : ClassId) (h : Nat) (hT9 : Nat) (T : Nat → Int32) (tn : Nat) (sp : Nat) (mm : Int32) (x : Int32) (d : Nat) (htn : tn + 2 ≤ 30) (hd : d + 2 ≤ 40) : zMi l yX4_say wsX4_say ({ frames := 4, cells := 0, slots := 0, locals := 94 } : Room) D [(cI, .int), (cJ, .array .int)] [.ref h, .int (nI 1), .int (nI 0), .int x, .int (nI d)] [(h, .inr (4, [.ref hT9, .int (nI tn), .int (nI 0), .int (nI 1), .int (nI sp), .int mm])), (hT9, .inl (cI, 30, .inl T))] (fun r w => r = (zpants 1 sp x ) ∧ w = [(h, .inr (4, [.ref hT9, .int (nI (((tn + 1) + 1))), .int (nI 0), .int (nI 1), .int (nI sp), .int mm])), (hT9, .inl (cI, 30, .inl ((upd (upd T tn (nI 20)) (tn + 1) (nI 10)))))]) := by
  refine zMi.start (cc := cX4_say) (maxL := 6) (rt := .int) (by first | decide | decide +kernel) rfl (Nat.le_of_ble_eq_true rfl) ?_
  intro pg ev s mt args below meth cd ls AA QQ ⟨hx, hb, hml, hr, hlocks, hown, hts, hK, hN, hZ, hP, hD, hA, hS, hl⟩ hret
  have hown : s.vm.findClass RX4 = some mt.cls := hown
  have hl : lv_has ls 6 [(0, .ref h), (1, .int (nI 1)), (2, .int (nI 0)), (3, .int x), (4, .int (nI d))] := hl
  have hin4 : ∀ w ∈ wsX40, w ∈ wsX4_say := fun w h => List.mem_cons_of_mem _ (List.mem_append_right _ (h))
  refine lv_aload_n hx hb dX4_say_0 rfl (lv_at hl 0 rfl) ?_
  refine va_get (ci := 4) (v := .int (nI 0)) (C := RX4) (T := TX4) (N := 6) hx hb hts hin4 hown hK hP 0 rfl rfl 2 (by decide) (hts (.fieldLink RX4 19 "UpAllRound$Voices" "parted" "Z") (List.mem_of_getElem? (i := 1) rfl)) (fun _ h9 => h9) rfl dX4_say_1 ?_
  refine lv_if_ne (tgt := 14) hx hb dX4_say_4 (by decide) (fun c4_1 => ?_) (fun c4_1 => ?_)
  · have c4_1 : ¬ (0 = 0) := fun h9 => c4_1 ((nI_eq (a := 0) (b := 0) (by omega) (by omega)).mpr h9)
    exact absurd c4_1 (by omega)
  · have c4_1 : 0 = 0 := (nI_eq (a := 0) (b := 0) (by omega) (by omega)).mp c4_1
    refine lv_iload hx hb dX4_say_7 (lv_at hl 4 rfl) ?_
    refine lv_bipush (v := nI 40) hx hb dX4_say_9 (by decide) ?_
    refine lv_icmp_le (tgt := 16) hx hb dX4_say_11 (by decide) (fun c11_2 => ?_) (fun c11_2 => ?_)
    · have c11_2 : d ≤ 40 := (nI_leI (a := d) (b := 40) (by omega) (by omega)).mp c11_2
      refine lv_iload_n hx hb dX4_say_16 rfl (lv_at hl 1 rfl) ?_
      refine lv_iload_n hx hb dX4_say_17 rfl (lv_at hl 2 rfl) ?_
      refine zcsE (va_runS (As := [.int (nI 1), .int (nI 0)]) (rest := []) ⟨hx, hb, hml, hown, hts⟩ (c_X4_find_1_0 l D cI cJ   s.heap.size) (va_cwS 2 hts gX4_say_X4_find rfl rfl rfl (by decide +kernel) ⟨Nat.le_of_ble_eq_true rfl, Nat.le_of_ble_eq_true rfl⟩) (zpS hK hN hZ hP hD hS hA [] rfl (by decide)) rfl rfl hl.1 rfl (lv_room (Nat.le_of_ble_eq_true rfl)) dX4_say_18 ⟨Nat.zero_le _, Nat.zero_le _⟩) ?_
      refine lv_istore (lv' := [(5, .int (nI 20)), (0, .ref h), (1, .int (nI 1)), (2, .int (nI 0)), (3, .int x), (4, .int (nI d))]) hx hb dX4_say_21 hl (by decide) rfl (fun ls hl => ?_)
      refine lv_aload_n hx hb dX4_say_23 rfl (lv_at hl 1 rfl) ?_
      refine lv_iload hx hb dX4_say_24 (lv_at hl 0 rfl) ?_
      refine zcv (wr := []) (va_runV (As := [.int (nI 20)]) (rest := []) ⟨hx, hb, hml, hown, hts⟩ (c_X4_begin l D cI cJ h hT9 T tn 0 1 sp mm 20 (by first | rfl | assumption | omega) s.heap.size) (cwV 1 hts gX4_say_X4_begin rfl rfl rfl (by decide +kernel) ⟨Nat.le_of_ble_eq_true rfl, Nat.le_of_ble_eq_true rfl⟩) (zpV hK hN hZ hP hD hS hA [0, 1] rfl (by decide) 0 rfl rfl rfl) rfl rfl hl.1 rfl (lv_room (Nat.le_of_ble_eq_true rfl)) dX4_say_26 ⟨Nat.zero_le _, Nat.zero_le _⟩) hP hD hS hA [0, 1] [] rfl rfl (by decide) (by decide) (fun w_4 H locs h_3 hP hD hS => ?_)
      obtain rfl := h_3
      have hP : va_P D vwCl [(h, .inr (4, [.ref hT9, .int (nI ((tn + 1))), .int (nI 0), .int (nI 1), .int (nI sp), .int mm])), (hT9, .inl (cI, 30, .inl ((upd T tn (nI 20)))))] H := hP
      have hD : va_D AA [(h, .inr (4, [.ref hT9, .int (nI ((tn + 1))), .int (nI 0), .int (nI 1), .int (nI sp), .int mm])), (hT9, .inl (cI, 30, .inl ((upd T tn (nI 20)))))] := hD
      refine lv_aload_n hx hb dX4_say_29 rfl (lv_at hl 1 rfl) ?_
      refine lv_iload hx hb dX4_say_30 (lv_at hl 0 rfl) ?_
      refine lv_iload_n hx hb dX4_say_32 rfl (lv_at hl 4 rfl) ?_
      refine lv_iload hx hb dX4_say_33 (lv_at hl 5 rfl) ?_
      refine lv_iconst (v := nI 1) hx hb dX4_say_35 (by decide) ?_
      refine lv_iadd hx hb dX4_say_36 ?_
      refine zrw (nI_add _ _) ?_
      refine zci (wr := []) (va_runV (As := [.int (nI 20), .int x, .int (nI (d + 1))]) (rest := []) ⟨hx, hb, hml, hown, hts⟩ (c_X4_sayBody_1_0_1 l D cI cJ h hT9 ((upd T tn (nI 20))) ((tn + 1)) sp mm x (d + 1) (by first | rfl | assumption | omega) (by first | rfl | assumption | omega) H.size) (cwV 3 hts gX4_say_X4_sayBody rfl rfl rfl (by decide +kernel) ⟨Nat.le_of_ble_eq_true rfl, Nat.le_of_ble_eq_true rfl⟩) (zpV hK hN hZ hP hD hS hA [0, 1] rfl (by decide) 0 rfl rfl rfl) rfl rfl hl.1 rfl (lv_room (Nat.le_of_ble_eq_true rfl)) dX4_say_37 ⟨Nat.zero_le _, Nat.zero_le _⟩) hP hD hS hA [0, 1] [] rfl rfl (by decide) (by decide) (fun r_7 w_6 H locs h_5 hP hD hS => ?_)
      obtain ⟨rfl, rfl⟩ := h_5
      have hP : va_P D vwCl [(h, .inr (4, [.ref hT9, .int (nI ((((tn + 1)) + 1))), .int (nI 0), .int (nI 1), .int (nI sp), .int mm])), (hT9, .inl (cI, 30, .inl ((upd ((upd T tn (nI 20))) ((tn + 1)) (nI 10)))))] H := hP
      have hD : va_D AA [(h, .inr (4, [.ref hT9, .int (nI ((((tn + 1)) + 1))), .int (nI 0), .int (nI 1), .int (nI sp), .int mm])), (hT9, .inl (cI, 30, .inl ((upd ((upd T tn (nI 20))) ((tn + 1)) (nI 10)))))] := hD
      exact hret hP hD hS dX4_say_40 rfl (by exact ⟨rfl, rfl⟩)
    · have c11_2 : ¬ (d ≤ 40) := fun h9 => c11_2 ((nI_leI (a := d) (b := 40) (by omega) (by omega)).mpr h9)
      exact absurd c11_2 (by omega)
set_option maxHeartbeats 4000000 in
set_option maxRecDepth 100000 in
theorem c_X4_sayBody_1_1_1 (l : Launch) (D : va_G) (cI cJ : ClassId) (h : Nat) (hT9 : Nat) (T : Nat → Int32) (tn : Nat) (sp : Nat) (mm : Int32) (x : Int32) (d : Nat) (htn : tn + 2 ≤ 30) (hd : d + 2 ≤ 40) : zMi l yX4_sayBody wsX4_sayBody ({ frames := 5, cells := 0, slots := 0, locals := 119 } : Room) D [(cI, .int), (cJ, .array .int)] [.ref h, .int (nI 11), .int x, .int (nI d)] [(h, .inr (4, [.ref hT9, .int (nI tn), .int (nI 0), .int (nI 1), .int (nI sp), .int mm])), (hT9, .inl (cI, 30, .inl T))] (fun r w => r = (zcounts 1 1 sp mm x ) ∧ w = [(h, .inr (4, [.ref hT9, .int (nI (((tn + 1) + 1))), .int (nI 0), .int (nI 1), .int (nI sp), .int mm])), (hT9, .inl (cI, 30, .inl ((upd (upd T tn (nI 20)) (tn + 1) (nI 10)))))]) := by
  refine zMi.start (cc := cX4_sayBody) (maxL := 4) (rt := .int) (by first | decide | decide +kernel) rfl (Nat.le_of_ble_eq_true rfl) ?_
  intro pg ev s mt args below meth cd ls AA QQ ⟨hx, hb, hml, hr, hlocks, hown, hts, hK, hN, hZ, hP, hD, hA, hS, hl⟩ hret
  have hown : s.vm.findClass RX4 = some mt.cls := hown
  have hl : lv_has ls 4 [(0, .ref h), (1, .int (nI 11)), (2, .int x), (3, .int (nI d))] := hl
  have hin4 : ∀ w ∈ wsX40, w ∈ wsX4_sayBody := fun w h => List.mem_cons_of_mem _ (List.mem_append_right _ (h))
  refine lv_iload_n hx hb dX4_sayBody_0 rfl (lv_at hl 1 rfl) ?_
  refine lv_lookup (off := 122) (tgt := 123) hx hb dX4_sayBody_1 (by decide) (by decide) (by decide) ?_
  refine lv_aload_n hx hb dX4_sayBody_123 rfl (lv_at hl 0 rfl) ?_
  refine lv_aload_n hx hb dX4_sayBody_124 rfl (lv_at hl 0 rfl) ?_
  refine va_get (ci := 4) (v := .int (nI 1)) (C := RX4) (T := TX4) (N := 6) hx hb hts hin4 hown hK hP 0 rfl rfl 3 (by decide) (hts (.fieldLink RX4 23 "UpAllRound$Voices" "kind" "I") (List.mem_of_getElem? (i := 2) rfl)) (fun _ h9 => h9) rfl dX4_sayBody_125 ?_
  refine lv_iconst (v := nI 0) hx hb dX4_sayBody_128 (by decide) ?_
  refine lv_iload_n hx hb dX4_sayBody_129 rfl (lv_at hl 2 rfl) ?_
  refine lv_iload_n hx hb dX4_sayBody_130 rfl (lv_at hl 3 rfl) ?_
  refine zci (wr := []) (va_runV (As := [.int (nI 1), .int (nI 0), .int x, .int (nI d)]) (rest := []) ⟨hx, hb, hml, hown, hts⟩ (c_X4_say_1_0_1 l D cI cJ h hT9 T tn sp mm x d (by first | rfl | assumption | omega) (by first | rfl | assumption | omega) s.heap.size) (cwV 4 hts gX4_sayBody_X4_say rfl rfl rfl (by decide +kernel) ⟨Nat.le_of_ble_eq_true rfl, Nat.le_of_ble_eq_true rfl⟩) (zpV hK hN hZ hP hD hS hA [0, 1] rfl (by decide) 0 rfl rfl rfl) rfl rfl hl.1 rfl (lv_room (Nat.le_of_ble_eq_true rfl)) dX4_sayBody_131 ⟨Nat.zero_le _, Nat.zero_le _⟩) hP hD hS hA [0, 1] [] rfl rfl (by decide) (by decide) (fun r_3 w_2 H locs h_1 hP hD hS => ?_)
  obtain ⟨rfl, rfl⟩ := h_1
  have hP : va_P D vwCl [(h, .inr (4, [.ref hT9, .int (nI (((tn + 1) + 1))), .int (nI 0), .int (nI 1), .int (nI sp), .int mm])), (hT9, .inl (cI, 30, .inl ((upd (upd T tn (nI 20)) (tn + 1) (nI 10)))))] H := hP
  have hD : va_D AA [(h, .inr (4, [.ref hT9, .int (nI (((tn + 1) + 1))), .int (nI 0), .int (nI 1), .int (nI sp), .int mm])), (hT9, .inl (cI, 30, .inl ((upd (upd T tn (nI 20)) (tn + 1) (nI 10)))))] := hD
  refine lv_iconst (v := nI 2) hx hb dX4_sayBody_134 (by decide) ?_
  refine lv_imul hx hb dX4_sayBody_135 ?_
  exact hret hP hD hS dX4_sayBody_136 rfl (by exact ⟨rfl, rfl⟩)
set_option maxHeartbeats 4000000 in
set_option maxRecDepth 100000 in
theorem c_X4_say_1_1_1 (l : Launch) (D : va_G) (cI cJ : ClassId) (h : Nat) (hT9 : Nat) (T : Nat → Int32) (tn : Nat) (sp : Nat) (mm : Int32) (x : Int32) (d : Nat) (htn : tn + 3 ≤ 30) (hd : d + 3 ≤ 40) : zMi l yX4_say wsX4_say ({ frames := 6, cells := 0, slots := 0, locals := 142 } : Room) D [(cI, .int), (cJ, .array .int)] [.ref h, .int (nI 1), .int (nI 1), .int x, .int (nI d)] [(h, .inr (4, [.ref hT9, .int (nI tn), .int (nI 0), .int (nI 1), .int (nI sp), .int mm])), (hT9, .inl (cI, 30, .inl T))] (fun r w => r = (zcounts 1 1 sp mm x ) ∧ w = [(h, .inr (4, [.ref hT9, .int (nI ((((tn + 1) + 1) + 1))), .int (nI 0), .int (nI 1), .int (nI sp), .int mm])), (hT9, .inl (cI, 30, .inl ((upd (upd (upd T tn (nI 11)) (tn + 1) (nI 20)) ((tn + 1) + 1) (nI 10)))))]) := by
  refine zMi.start (cc := cX4_say) (maxL := 6) (rt := .int) (by first | decide | decide +kernel) rfl (Nat.le_of_ble_eq_true rfl) ?_
  intro pg ev s mt args below meth cd ls AA QQ ⟨hx, hb, hml, hr, hlocks, hown, hts, hK, hN, hZ, hP, hD, hA, hS, hl⟩ hret
  have hown : s.vm.findClass RX4 = some mt.cls := hown
  have hl : lv_has ls 6 [(0, .ref h), (1, .int (nI 1)), (2, .int (nI 1)), (3, .int x), (4, .int (nI d))] := hl
  have hin4 : ∀ w ∈ wsX40, w ∈ wsX4_say := fun w h => List.mem_cons_of_mem _ (List.mem_append_right _ (h))
  refine lv_aload_n hx hb dX4_say_0 rfl (lv_at hl 0 rfl) ?_
  refine va_get (ci := 4) (v := .int (nI 0)) (C := RX4) (T := TX4) (N := 6) hx hb hts hin4 hown hK hP 0 rfl rfl 2 (by decide) (hts (.fieldLink RX4 19 "UpAllRound$Voices" "parted" "Z") (List.mem_of_getElem? (i := 1) rfl)) (fun _ h9 => h9) rfl dX4_say_1 ?_
  refine lv_if_ne (tgt := 14) hx hb dX4_say_4 (by decide) (fun c4_1 => ?_) (fun c4_1 => ?_)
  · have c4_1 : ¬ (0 = 0) := fun h9 => c4_1 ((nI_eq (a := 0) (b := 0) (by omega) (by omega)).mpr h9)
    exact absurd c4_1 (by omega)
  · have c4_1 : 0 = 0 := (nI_eq (a := 0) (b := 0) (by omega) (by omega)).mp c4_1
    refine lv_iload hx hb dX4_say_7 (lv_at hl 4 rfl) ?_
    refine lv_bipush (v := nI 40) hx hb dX4_say_9 (by decide) ?_
    refine lv_icmp_le (tgt := 16) hx hb dX4_say_11 (by decide) (fun c11_2 => ?_) (fun c11_2 => ?_)
    · have c11_2 : d ≤ 40 := (nI_leI (a := d) (b := 40) (by omega) (by omega)).mp c11_2
      refine lv_iload_n hx hb dX4_say_16 rfl (lv_at hl 1 rfl) ?_
      refine lv_iload_n hx hb dX4_say_17 rfl (lv_at hl 2 rfl) ?_
      refine zcsE (va_runS (As := [.int (nI 1), .int (nI 1)]) (rest := []) ⟨hx, hb, hml, hown, hts⟩ (c_X4_find_1_1 l D cI cJ   s.heap.size) (va_cwS 2 hts gX4_say_X4_find rfl rfl rfl (by decide +kernel) ⟨Nat.le_of_ble_eq_true rfl, Nat.le_of_ble_eq_true rfl⟩) (zpS hK hN hZ hP hD hS hA [] rfl (by decide)) rfl rfl hl.1 rfl (lv_room (Nat.le_of_ble_eq_true rfl)) dX4_say_18 ⟨Nat.zero_le _, Nat.zero_le _⟩) ?_
      refine lv_istore (lv' := [(5, .int (nI 11)), (0, .ref h), (1, .int (nI 1)), (2, .int (nI 1)), (3, .int x), (4, .int (nI d))]) hx hb dX4_say_21 hl (by decide) rfl (fun ls hl => ?_)
      refine lv_aload_n hx hb dX4_say_23 rfl (lv_at hl 1 rfl) ?_
      refine lv_iload hx hb dX4_say_24 (lv_at hl 0 rfl) ?_
      refine zcv (wr := []) (va_runV (As := [.int (nI 11)]) (rest := []) ⟨hx, hb, hml, hown, hts⟩ (c_X4_begin l D cI cJ h hT9 T tn 0 1 sp mm 11 (by first | rfl | assumption | omega) s.heap.size) (cwV 1 hts gX4_say_X4_begin rfl rfl rfl (by decide +kernel) ⟨Nat.le_of_ble_eq_true rfl, Nat.le_of_ble_eq_true rfl⟩) (zpV hK hN hZ hP hD hS hA [0, 1] rfl (by decide) 0 rfl rfl rfl) rfl rfl hl.1 rfl (lv_room (Nat.le_of_ble_eq_true rfl)) dX4_say_26 ⟨Nat.zero_le _, Nat.zero_le _⟩) hP hD hS hA [0, 1] [] rfl rfl (by decide) (by decide) (fun w_4 H locs h_3 hP hD hS => ?_)
      obtain rfl := h_3
      have hP : va_P D vwCl [(h, .inr (4, [.ref hT9, .int (nI ((tn + 1))), .int (nI 0), .int (nI 1), .int (nI sp), .int mm])), (hT9, .inl (cI, 30, .inl ((upd T tn (nI 11)))))] H := hP
      have hD : va_D AA [(h, .inr (4, [.ref hT9, .int (nI ((tn + 1))), .int (nI 0), .int (nI 1), .int (nI sp), .int mm])), (hT9, .inl (cI, 30, .inl ((upd T tn (nI 11)))))] := hD
      refine lv_aload_n hx hb dX4_say_29 rfl (lv_at hl 1 rfl) ?_
      refine lv_iload hx hb dX4_say_30 (lv_at hl 0 rfl) ?_
      refine lv_iload_n hx hb dX4_say_32 rfl (lv_at hl 4 rfl) ?_
      refine lv_iload hx hb dX4_say_33 (lv_at hl 5 rfl) ?_
      refine lv_iconst (v := nI 1) hx hb dX4_say_35 (by decide) ?_
      refine lv_iadd hx hb dX4_say_36 ?_
      refine zrw (nI_add _ _) ?_
      refine zci (wr := []) (va_runV (As := [.int (nI 11), .int x, .int (nI (d + 1))]) (rest := []) ⟨hx, hb, hml, hown, hts⟩ (c_X4_sayBody_1_1_1 l D cI cJ h hT9 ((upd T tn (nI 11))) ((tn + 1)) sp mm x (d + 1) (by first | rfl | assumption | omega) (by first | rfl | assumption | omega) H.size) (cwV 3 hts gX4_say_X4_sayBody rfl rfl rfl (by decide +kernel) ⟨Nat.le_of_ble_eq_true rfl, Nat.le_of_ble_eq_true rfl⟩) (zpV hK hN hZ hP hD hS hA [0, 1] rfl (by decide) 0 rfl rfl rfl) rfl rfl hl.1 rfl (lv_room (Nat.le_of_ble_eq_true rfl)) dX4_say_37 ⟨Nat.zero_le _, Nat.zero_le _⟩) hP hD hS hA [0, 1] [] rfl rfl (by decide) (by decide) (fun r_7 w_6 H locs h_5 hP hD hS => ?_)
      obtain ⟨rfl, rfl⟩ := h_5
      have hP : va_P D vwCl [(h, .inr (4, [.ref hT9, .int (nI (((((tn + 1)) + 1) + 1))), .int (nI 0), .int (nI 1), .int (nI sp), .int mm])), (hT9, .inl (cI, 30, .inl ((upd (upd ((upd T tn (nI 11))) ((tn + 1)) (nI 20)) (((tn + 1)) + 1) (nI 10)))))] H := hP
      have hD : va_D AA [(h, .inr (4, [.ref hT9, .int (nI (((((tn + 1)) + 1) + 1))), .int (nI 0), .int (nI 1), .int (nI sp), .int mm])), (hT9, .inl (cI, 30, .inl ((upd (upd ((upd T tn (nI 11))) ((tn + 1)) (nI 20)) (((tn + 1)) + 1) (nI 10)))))] := hD
      exact hret hP hD hS dX4_say_40 rfl (by exact ⟨rfl, rfl⟩)
    · have c11_2 : ¬ (d ≤ 40) := fun h9 => c11_2 ((nI_leI (a := d) (b := 40) (by omega) (by omega)).mpr h9)
      exact absurd c11_2 (by omega)
set_option maxHeartbeats 4000000 in
set_option maxRecDepth 100000 in
theorem c_X4_sayBody_1_2_1 (l : Launch) (D : va_G) (cI cJ : ClassId) (h : Nat) (hT9 : Nat) (T : Nat → Int32) (tn : Nat) (sp : Nat) (mm : Int32) (x : Int32) (d : Nat) (htn : tn + 3 ≤ 30) (hd : d + 3 ≤ 40) : zMi l yX4_sayBody wsX4_sayBody ({ frames := 7, cells := 0, slots := 0, locals := 167 } : Room) D [(cI, .int), (cJ, .array .int)] [.ref h, .int (nI 12), .int x, .int (nI d)] [(h, .inr (4, [.ref hT9, .int (nI tn), .int (nI 0), .int (nI 1), .int (nI sp), .int mm])), (hT9, .inl (cI, 30, .inl T))] (fun r w => r = (zswears 1 1 sp mm x ) ∧ w = [(h, .inr (4, [.ref hT9, .int (nI ((((tn + 1) + 1) + 1))), .int (nI 0), .int (nI 1), .int (nI sp), .int mm])), (hT9, .inl (cI, 30, .inl ((upd (upd (upd T tn (nI 11)) (tn + 1) (nI 20)) ((tn + 1) + 1) (nI 10)))))]) := by
  refine zMi.start (cc := cX4_sayBody) (maxL := 4) (rt := .int) (by first | decide | decide +kernel) rfl (Nat.le_of_ble_eq_true rfl) ?_
  intro pg ev s mt args below meth cd ls AA QQ ⟨hx, hb, hml, hr, hlocks, hown, hts, hK, hN, hZ, hP, hD, hA, hS, hl⟩ hret
  have hown : s.vm.findClass RX4 = some mt.cls := hown
  have hl : lv_has ls 4 [(0, .ref h), (1, .int (nI 12)), (2, .int x), (3, .int (nI d))] := hl
  have hin4 : ∀ w ∈ wsX40, w ∈ wsX4_sayBody := fun w h => List.mem_cons_of_mem _ (List.mem_append_right _ (h))
  refine lv_iload_n hx hb dX4_sayBody_0 rfl (lv_at hl 1 rfl) ?_
  refine lv_lookup (off := 136) (tgt := 137) hx hb dX4_sayBody_1 (by decide) (by decide) (by decide) ?_
  refine lv_aload_n hx hb dX4_sayBody_137 rfl (lv_at hl 0 rfl) ?_
  refine lv_aload_n hx hb dX4_sayBody_138 rfl (lv_at hl 0 rfl) ?_
  refine va_get (ci := 4) (v := .int (nI 1)) (C := RX4) (T := TX4) (N := 6) hx hb hts hin4 hown hK hP 0 rfl rfl 3 (by decide) (hts (.fieldLink RX4 23 "UpAllRound$Voices" "kind" "I") (List.mem_of_getElem? (i := 2) rfl)) (fun _ h9 => h9) rfl dX4_sayBody_139 ?_
  refine lv_iconst (v := nI 1) hx hb dX4_sayBody_142 (by decide) ?_
  refine lv_iload_n hx hb dX4_sayBody_143 rfl (lv_at hl 2 rfl) ?_
  refine lv_iload_n hx hb dX4_sayBody_144 rfl (lv_at hl 3 rfl) ?_
  refine zci (wr := []) (va_runV (As := [.int (nI 1), .int (nI 1), .int x, .int (nI d)]) (rest := []) ⟨hx, hb, hml, hown, hts⟩ (c_X4_say_1_1_1 l D cI cJ h hT9 T tn sp mm x d (by first | rfl | assumption | omega) (by first | rfl | assumption | omega) s.heap.size) (cwV 4 hts gX4_sayBody_X4_say rfl rfl rfl (by decide +kernel) ⟨Nat.le_of_ble_eq_true rfl, Nat.le_of_ble_eq_true rfl⟩) (zpV hK hN hZ hP hD hS hA [0, 1] rfl (by decide) 0 rfl rfl rfl) rfl rfl hl.1 rfl (lv_room (Nat.le_of_ble_eq_true rfl)) dX4_sayBody_145 ⟨Nat.zero_le _, Nat.zero_le _⟩) hP hD hS hA [0, 1] [] rfl rfl (by decide) (by decide) (fun r_3 w_2 H locs h_1 hP hD hS => ?_)
  obtain ⟨rfl, rfl⟩ := h_1
  have hP : va_P D vwCl [(h, .inr (4, [.ref hT9, .int (nI ((((tn + 1) + 1) + 1))), .int (nI 0), .int (nI 1), .int (nI sp), .int mm])), (hT9, .inl (cI, 30, .inl ((upd (upd (upd T tn (nI 11)) (tn + 1) (nI 20)) ((tn + 1) + 1) (nI 10)))))] H := hP
  have hD : va_D AA [(h, .inr (4, [.ref hT9, .int (nI ((((tn + 1) + 1) + 1))), .int (nI 0), .int (nI 1), .int (nI sp), .int mm])), (hT9, .inl (cI, 30, .inl ((upd (upd (upd T tn (nI 11)) (tn + 1) (nI 20)) ((tn + 1) + 1) (nI 10)))))] := hD
  refine lv_aload_n hx hb dX4_sayBody_148 rfl (lv_at hl 0 rfl) ?_
  refine va_get (ci := 4) (v := .int mm) (C := RX4) (T := TX4) (N := 6) hx hb hts hin4 hown hK hP 0 rfl rfl 5 (by decide) (hts (.fieldLink RX4 29 "UpAllRound$Voices" "m" "I") (List.mem_of_getElem? (i := 3) rfl)) (fun _ h9 => h9) rfl dX4_sayBody_149 ?_
  refine lv_isub hx hb dX4_sayBody_152 ?_
  exact hret hP hD hS dX4_sayBody_153 rfl (by exact ⟨rfl, rfl⟩)
set_option maxHeartbeats 4000000 in
set_option maxRecDepth 100000 in
theorem c_X4_say_1_2_1 (l : Launch) (D : va_G) (cI cJ : ClassId) (h : Nat) (hT9 : Nat) (T : Nat → Int32) (tn : Nat) (sp : Nat) (mm : Int32) (x : Int32) (d : Nat) (htn : tn + 4 ≤ 30) (hd : d + 4 ≤ 40) : zMi l yX4_say wsX4_say ({ frames := 8, cells := 0, slots := 0, locals := 190 } : Room) D [(cI, .int), (cJ, .array .int)] [.ref h, .int (nI 1), .int (nI 2), .int x, .int (nI d)] [(h, .inr (4, [.ref hT9, .int (nI tn), .int (nI 0), .int (nI 1), .int (nI sp), .int mm])), (hT9, .inl (cI, 30, .inl T))] (fun r w => r = (zswears 1 1 sp mm x ) ∧ w = [(h, .inr (4, [.ref hT9, .int (nI (((((tn + 1) + 1) + 1) + 1))), .int (nI 0), .int (nI 1), .int (nI sp), .int mm])), (hT9, .inl (cI, 30, .inl ((upd (upd (upd (upd T tn (nI 12)) (tn + 1) (nI 11)) ((tn + 1) + 1) (nI 20)) (((tn + 1) + 1) + 1) (nI 10)))))]) := by
  refine zMi.start (cc := cX4_say) (maxL := 6) (rt := .int) (by first | decide | decide +kernel) rfl (Nat.le_of_ble_eq_true rfl) ?_
  intro pg ev s mt args below meth cd ls AA QQ ⟨hx, hb, hml, hr, hlocks, hown, hts, hK, hN, hZ, hP, hD, hA, hS, hl⟩ hret
  have hown : s.vm.findClass RX4 = some mt.cls := hown
  have hl : lv_has ls 6 [(0, .ref h), (1, .int (nI 1)), (2, .int (nI 2)), (3, .int x), (4, .int (nI d))] := hl
  have hin4 : ∀ w ∈ wsX40, w ∈ wsX4_say := fun w h => List.mem_cons_of_mem _ (List.mem_append_right _ (h))
  refine lv_aload_n hx hb dX4_say_0 rfl (lv_at hl 0 rfl) ?_
  refine va_get (ci := 4) (v := .int (nI 0)) (C := RX4) (T := TX4) (N := 6) hx hb hts hin4 hown hK hP 0 rfl rfl 2 (by decide) (hts (.fieldLink RX4 19 "UpAllRound$Voices" "parted" "Z") (List.mem_of_getElem? (i := 1) rfl)) (fun _ h9 => h9) rfl dX4_say_1 ?_
  refine lv_if_ne (tgt := 14) hx hb dX4_say_4 (by decide) (fun c4_1 => ?_) (fun c4_1 => ?_)
  · have c4_1 : ¬ (0 = 0) := fun h9 => c4_1 ((nI_eq (a := 0) (b := 0) (by omega) (by omega)).mpr h9)
    exact absurd c4_1 (by omega)
  · have c4_1 : 0 = 0 := (nI_eq (a := 0) (b := 0) (by omega) (by omega)).mp c4_1
    refine lv_iload hx hb dX4_say_7 (lv_at hl 4 rfl) ?_
    refine lv_bipush (v := nI 40) hx hb dX4_say_9 (by decide) ?_
    refine lv_icmp_le (tgt := 16) hx hb dX4_say_11 (by decide) (fun c11_2 => ?_) (fun c11_2 => ?_)
    · have c11_2 : d ≤ 40 := (nI_leI (a := d) (b := 40) (by omega) (by omega)).mp c11_2
      refine lv_iload_n hx hb dX4_say_16 rfl (lv_at hl 1 rfl) ?_
      refine lv_iload_n hx hb dX4_say_17 rfl (lv_at hl 2 rfl) ?_
      refine zcsE (va_runS (As := [.int (nI 1), .int (nI 2)]) (rest := []) ⟨hx, hb, hml, hown, hts⟩ (c_X4_find_1_2 l D cI cJ   s.heap.size) (va_cwS 2 hts gX4_say_X4_find rfl rfl rfl (by decide +kernel) ⟨Nat.le_of_ble_eq_true rfl, Nat.le_of_ble_eq_true rfl⟩) (zpS hK hN hZ hP hD hS hA [] rfl (by decide)) rfl rfl hl.1 rfl (lv_room (Nat.le_of_ble_eq_true rfl)) dX4_say_18 ⟨Nat.zero_le _, Nat.zero_le _⟩) ?_
      refine lv_istore (lv' := [(5, .int (nI 12)), (0, .ref h), (1, .int (nI 1)), (2, .int (nI 2)), (3, .int x), (4, .int (nI d))]) hx hb dX4_say_21 hl (by decide) rfl (fun ls hl => ?_)
      refine lv_aload_n hx hb dX4_say_23 rfl (lv_at hl 1 rfl) ?_
      refine lv_iload hx hb dX4_say_24 (lv_at hl 0 rfl) ?_
      refine zcv (wr := []) (va_runV (As := [.int (nI 12)]) (rest := []) ⟨hx, hb, hml, hown, hts⟩ (c_X4_begin l D cI cJ h hT9 T tn 0 1 sp mm 12 (by first | rfl | assumption | omega) s.heap.size) (cwV 1 hts gX4_say_X4_begin rfl rfl rfl (by decide +kernel) ⟨Nat.le_of_ble_eq_true rfl, Nat.le_of_ble_eq_true rfl⟩) (zpV hK hN hZ hP hD hS hA [0, 1] rfl (by decide) 0 rfl rfl rfl) rfl rfl hl.1 rfl (lv_room (Nat.le_of_ble_eq_true rfl)) dX4_say_26 ⟨Nat.zero_le _, Nat.zero_le _⟩) hP hD hS hA [0, 1] [] rfl rfl (by decide) (by decide) (fun w_4 H locs h_3 hP hD hS => ?_)
      obtain rfl := h_3
      have hP : va_P D vwCl [(h, .inr (4, [.ref hT9, .int (nI ((tn + 1))), .int (nI 0), .int (nI 1), .int (nI sp), .int mm])), (hT9, .inl (cI, 30, .inl ((upd T tn (nI 12)))))] H := hP
      have hD : va_D AA [(h, .inr (4, [.ref hT9, .int (nI ((tn + 1))), .int (nI 0), .int (nI 1), .int (nI sp), .int mm])), (hT9, .inl (cI, 30, .inl ((upd T tn (nI 12)))))] := hD
      refine lv_aload_n hx hb dX4_say_29 rfl (lv_at hl 1 rfl) ?_
      refine lv_iload hx hb dX4_say_30 (lv_at hl 0 rfl) ?_
      refine lv_iload_n hx hb dX4_say_32 rfl (lv_at hl 4 rfl) ?_
      refine lv_iload hx hb dX4_say_33 (lv_at hl 5 rfl) ?_
      refine lv_iconst (v := nI 1) hx hb dX4_say_35 (by decide) ?_
      refine lv_iadd hx hb dX4_say_36 ?_
      refine zrw (nI_add _ _) ?_
      refine zci (wr := []) (va_runV (As := [.int (nI 12), .int x, .int (nI (d + 1))]) (rest := []) ⟨hx, hb, hml, hown, hts⟩ (c_X4_sayBody_1_2_1 l D cI cJ h hT9 ((upd T tn (nI 12))) ((tn + 1)) sp mm x (d + 1) (by first | rfl | assumption | omega) (by first | rfl | assumption | omega) H.size) (cwV 3 hts gX4_say_X4_sayBody rfl rfl rfl (by decide +kernel) ⟨Nat.le_of_ble_eq_true rfl, Nat.le_of_ble_eq_true rfl⟩) (zpV hK hN hZ hP hD hS hA [0, 1] rfl (by decide) 0 rfl rfl rfl) rfl rfl hl.1 rfl (lv_room (Nat.le_of_ble_eq_true rfl)) dX4_say_37 ⟨Nat.zero_le _, Nat.zero_le _⟩) hP hD hS hA [0, 1] [] rfl rfl (by decide) (by decide) (fun r_7 w_6 H locs h_5 hP hD hS => ?_)
      obtain ⟨rfl, rfl⟩ := h_5
      have hP : va_P D vwCl [(h, .inr (4, [.ref hT9, .int (nI ((((((tn + 1)) + 1) + 1) + 1))), .int (nI 0), .int (nI 1), .int (nI sp), .int mm])), (hT9, .inl (cI, 30, .inl ((upd (upd (upd ((upd T tn (nI 12))) ((tn + 1)) (nI 11)) (((tn + 1)) + 1) (nI 20)) ((((tn + 1)) + 1) + 1) (nI 10)))))] H := hP
      have hD : va_D AA [(h, .inr (4, [.ref hT9, .int (nI ((((((tn + 1)) + 1) + 1) + 1))), .int (nI 0), .int (nI 1), .int (nI sp), .int mm])), (hT9, .inl (cI, 30, .inl ((upd (upd (upd ((upd T tn (nI 12))) ((tn + 1)) (nI 11)) (((tn + 1)) + 1) (nI 20)) ((((tn + 1)) + 1) + 1) (nI 10)))))] := hD
      exact hret hP hD hS dX4_say_40 rfl (by exact ⟨rfl, rfl⟩)
    · have c11_2 : ¬ (d ≤ 40) := fun h9 => c11_2 ((nI_leI (a := d) (b := 40) (by omega) (by omega)).mpr h9)
      exact absurd c11_2 (by omega)
set_option maxHeartbeats 4000000 in
set_option maxRecDepth 100000 in
theorem c_X4_sayBody_0_3_1 (l : Launch) (D : va_G) (cI cJ : ClassId) (h : Nat) (hT9 : Nat) (T : Nat → Int32) (tn : Nat) (sp : Nat) (mm : Int32) (x : Int32) (d : Nat) (htn : tn + 0 ≤ 30) (hd : d + 0 ≤ 40) : zMi l yX4_sayBody wsX4_sayBody ({ frames := 1, cells := 0, slots := 0, locals := 22 } : Room) D [(cI, .int), (cJ, .array .int)] [.ref h, .int (nI 13), .int x, .int (nI d)] [(h, .inr (4, [.ref hT9, .int (nI tn), .int (nI 0), .int (nI 1), .int (nI sp), .int mm])), (hT9, .inl (cI, 30, .inl T))] (fun r w => r = (zpv sp mm x) ∧ w = [(h, .inr (4, [.ref hT9, .int (nI tn), .int (nI ((zpd sp mm))), .int (nI 1), .int (nI sp), .int mm])), (hT9, .inl (cI, 30, .inl T))]) := by
  refine zMi.start (cc := cX4_sayBody) (maxL := 4) (rt := .int) (by first | decide | decide +kernel) rfl (Nat.le_of_ble_eq_true rfl) ?_
  intro pg ev s mt args below meth cd ls AA QQ ⟨hx, hb, hml, hr, hlocks, hown, hts, hK, hN, hZ, hP, hD, hA, hS, hl⟩ hret
  have hown : s.vm.findClass RX4 = some mt.cls := hown
  have hl : lv_has ls 4 [(0, .ref h), (1, .int (nI 13)), (2, .int x), (3, .int (nI d))] := hl
  have hin4 : ∀ w ∈ wsX40, w ∈ wsX4_sayBody := fun w h => List.mem_cons_of_mem _ (List.mem_append_right _ (h))
  refine lv_iload_n hx hb dX4_sayBody_0 rfl (lv_at hl 1 rfl) ?_
  refine lv_lookup (off := 153) (tgt := 154) hx hb dX4_sayBody_1 (by decide) (by decide) (by decide) ?_
  refine lv_aload_n hx hb dX4_sayBody_154 rfl (lv_at hl 0 rfl) ?_
  refine lv_iload_n hx hb dX4_sayBody_155 rfl (lv_at hl 2 rfl) ?_
  refine zci (wr := [(hT9, .inl (cI, 30, .inl T))]) (va_runV (As := [.int x]) (rest := []) ⟨hx, hb, hml, hown, hts⟩ (c_X4_part l D cI cJ h hT9 tn 1 sp mm x  s.heap.size) (cwV 1 hts gX4_sayBody_X4_part rfl rfl rfl (by decide +kernel) ⟨Nat.le_of_ble_eq_true rfl, Nat.le_of_ble_eq_true rfl⟩) (zpV hK hN hZ hP hD hS hA [0] rfl (by decide) 0 rfl rfl rfl) rfl rfl hl.1 rfl (lv_room (Nat.le_of_ble_eq_true rfl)) dX4_sayBody_156 ⟨Nat.zero_le _, Nat.zero_le _⟩) hP hD hS hA [0] [1] rfl rfl (by decide) (by decide) (fun r_3 w_2 H locs h_1 hP hD hS => ?_)
  obtain ⟨rfl, rfl⟩ := h_1
  have hP : va_P D vwCl [(hT9, .inl (cI, 30, .inl T)), (h, .inr (4, [.ref hT9, .int (nI tn), .int (nI ((zpd sp mm))), .int (nI 1), .int (nI sp), .int mm]))] H := hP
  have hD : va_D AA [(hT9, .inl (cI, 30, .inl T)), (h, .inr (4, [.ref hT9, .int (nI tn), .int (nI ((zpd sp mm))), .int (nI 1), .int (nI sp), .int mm]))] := hD
  have hP := hP.sub (ws' := [(h, .inr (4, [.ref hT9, .int (nI tn), .int (nI ((zpd sp mm))), .int (nI 1), .int (nI sp), .int mm])), (hT9, .inl (cI, 30, .inl T))]) [1, 0] rfl
  have hD := hD.sub (ws' := [(h, .inr (4, [.ref hT9, .int (nI tn), .int (nI ((zpd sp mm))), .int (nI 1), .int (nI sp), .int mm])), (hT9, .inl (cI, 30, .inl T))]) [1, 0] (by decide) rfl
  exact hret hP hD hS dX4_sayBody_159 rfl (by exact ⟨rfl, rfl⟩)
set_option maxHeartbeats 4000000 in
set_option maxRecDepth 100000 in
theorem c_X4_say_0_3_1 (l : Launch) (D : va_G) (cI cJ : ClassId) (h : Nat) (hT9 : Nat) (T : Nat → Int32) (tn : Nat) (sp : Nat) (mm : Int32) (x : Int32) (d : Nat) (htn : tn + 1 ≤ 30) (hd : d + 1 ≤ 40) : zMi l yX4_say wsX4_say ({ frames := 2, cells := 0, slots := 0, locals := 46 } : Room) D [(cI, .int), (cJ, .array .int)] [.ref h, .int (nI 0), .int (nI 3), .int x, .int (nI d)] [(h, .inr (4, [.ref hT9, .int (nI tn), .int (nI 0), .int (nI 1), .int (nI sp), .int mm])), (hT9, .inl (cI, 30, .inl T))] (fun r w => r = (zpv sp mm x) ∧ w = [(h, .inr (4, [.ref hT9, .int (nI ((tn + 1))), .int (nI ((zpd sp mm))), .int (nI 1), .int (nI sp), .int mm])), (hT9, .inl (cI, 30, .inl ((upd T tn (nI 13)))))]) := by
  refine zMi.start (cc := cX4_say) (maxL := 6) (rt := .int) (by first | decide | decide +kernel) rfl (Nat.le_of_ble_eq_true rfl) ?_
  intro pg ev s mt args below meth cd ls AA QQ ⟨hx, hb, hml, hr, hlocks, hown, hts, hK, hN, hZ, hP, hD, hA, hS, hl⟩ hret
  have hown : s.vm.findClass RX4 = some mt.cls := hown
  have hl : lv_has ls 6 [(0, .ref h), (1, .int (nI 0)), (2, .int (nI 3)), (3, .int x), (4, .int (nI d))] := hl
  have hin4 : ∀ w ∈ wsX40, w ∈ wsX4_say := fun w h => List.mem_cons_of_mem _ (List.mem_append_right _ (h))
  refine lv_aload_n hx hb dX4_say_0 rfl (lv_at hl 0 rfl) ?_
  refine va_get (ci := 4) (v := .int (nI 0)) (C := RX4) (T := TX4) (N := 6) hx hb hts hin4 hown hK hP 0 rfl rfl 2 (by decide) (hts (.fieldLink RX4 19 "UpAllRound$Voices" "parted" "Z") (List.mem_of_getElem? (i := 1) rfl)) (fun _ h9 => h9) rfl dX4_say_1 ?_
  refine lv_if_ne (tgt := 14) hx hb dX4_say_4 (by decide) (fun c4_1 => ?_) (fun c4_1 => ?_)
  · have c4_1 : ¬ (0 = 0) := fun h9 => c4_1 ((nI_eq (a := 0) (b := 0) (by omega) (by omega)).mpr h9)
    exact absurd c4_1 (by omega)
  · have c4_1 : 0 = 0 := (nI_eq (a := 0) (b := 0) (by omega) (by omega)).mp c4_1
    refine lv_iload hx hb dX4_say_7 (lv_at hl 4 rfl) ?_
    refine lv_bipush (v := nI 40) hx hb dX4_say_9 (by decide) ?_
    refine lv_icmp_le (tgt := 16) hx hb dX4_say_11 (by decide) (fun c11_2 => ?_) (fun c11_2 => ?_)
    · have c11_2 : d ≤ 40 := (nI_leI (a := d) (b := 40) (by omega) (by omega)).mp c11_2
      refine lv_iload_n hx hb dX4_say_16 rfl (lv_at hl 1 rfl) ?_
      refine lv_iload_n hx hb dX4_say_17 rfl (lv_at hl 2 rfl) ?_
      refine zcsE (va_runS (As := [.int (nI 0), .int (nI 3)]) (rest := []) ⟨hx, hb, hml, hown, hts⟩ (c_X4_find_0_3 l D cI cJ   s.heap.size) (va_cwS 2 hts gX4_say_X4_find rfl rfl rfl (by decide +kernel) ⟨Nat.le_of_ble_eq_true rfl, Nat.le_of_ble_eq_true rfl⟩) (zpS hK hN hZ hP hD hS hA [] rfl (by decide)) rfl rfl hl.1 rfl (lv_room (Nat.le_of_ble_eq_true rfl)) dX4_say_18 ⟨Nat.zero_le _, Nat.zero_le _⟩) ?_
      refine lv_istore (lv' := [(5, .int (nI 13)), (0, .ref h), (1, .int (nI 0)), (2, .int (nI 3)), (3, .int x), (4, .int (nI d))]) hx hb dX4_say_21 hl (by decide) rfl (fun ls hl => ?_)
      refine lv_aload_n hx hb dX4_say_23 rfl (lv_at hl 1 rfl) ?_
      refine lv_iload hx hb dX4_say_24 (lv_at hl 0 rfl) ?_
      refine zcv (wr := []) (va_runV (As := [.int (nI 13)]) (rest := []) ⟨hx, hb, hml, hown, hts⟩ (c_X4_begin l D cI cJ h hT9 T tn 0 1 sp mm 13 (by first | rfl | assumption | omega) s.heap.size) (cwV 1 hts gX4_say_X4_begin rfl rfl rfl (by decide +kernel) ⟨Nat.le_of_ble_eq_true rfl, Nat.le_of_ble_eq_true rfl⟩) (zpV hK hN hZ hP hD hS hA [0, 1] rfl (by decide) 0 rfl rfl rfl) rfl rfl hl.1 rfl (lv_room (Nat.le_of_ble_eq_true rfl)) dX4_say_26 ⟨Nat.zero_le _, Nat.zero_le _⟩) hP hD hS hA [0, 1] [] rfl rfl (by decide) (by decide) (fun w_4 H locs h_3 hP hD hS => ?_)
      obtain rfl := h_3
      have hP : va_P D vwCl [(h, .inr (4, [.ref hT9, .int (nI ((tn + 1))), .int (nI 0), .int (nI 1), .int (nI sp), .int mm])), (hT9, .inl (cI, 30, .inl ((upd T tn (nI 13)))))] H := hP
      have hD : va_D AA [(h, .inr (4, [.ref hT9, .int (nI ((tn + 1))), .int (nI 0), .int (nI 1), .int (nI sp), .int mm])), (hT9, .inl (cI, 30, .inl ((upd T tn (nI 13)))))] := hD
      refine lv_aload_n hx hb dX4_say_29 rfl (lv_at hl 1 rfl) ?_
      refine lv_iload hx hb dX4_say_30 (lv_at hl 0 rfl) ?_
      refine lv_iload_n hx hb dX4_say_32 rfl (lv_at hl 4 rfl) ?_
      refine lv_iload hx hb dX4_say_33 (lv_at hl 5 rfl) ?_
      refine lv_iconst (v := nI 1) hx hb dX4_say_35 (by decide) ?_
      refine lv_iadd hx hb dX4_say_36 ?_
      refine zrw (nI_add _ _) ?_
      refine zci (wr := []) (va_runV (As := [.int (nI 13), .int x, .int (nI (d + 1))]) (rest := []) ⟨hx, hb, hml, hown, hts⟩ (c_X4_sayBody_0_3_1 l D cI cJ h hT9 ((upd T tn (nI 13))) ((tn + 1)) sp mm x (d + 1) (by first | rfl | assumption | omega) (by first | rfl | assumption | omega) H.size) (cwV 3 hts gX4_say_X4_sayBody rfl rfl rfl (by decide +kernel) ⟨Nat.le_of_ble_eq_true rfl, Nat.le_of_ble_eq_true rfl⟩) (zpV hK hN hZ hP hD hS hA [0, 1] rfl (by decide) 0 rfl rfl rfl) rfl rfl hl.1 rfl (lv_room (Nat.le_of_ble_eq_true rfl)) dX4_say_37 ⟨Nat.zero_le _, Nat.zero_le _⟩) hP hD hS hA [0, 1] [] rfl rfl (by decide) (by decide) (fun r_7 w_6 H locs h_5 hP hD hS => ?_)
      obtain ⟨rfl, rfl⟩ := h_5
      have hP : va_P D vwCl [(h, .inr (4, [.ref hT9, .int (nI (((tn + 1)))), .int (nI ((zpd sp mm))), .int (nI 1), .int (nI sp), .int mm])), (hT9, .inl (cI, 30, .inl (((upd T tn (nI 13))))))] H := hP
      have hD : va_D AA [(h, .inr (4, [.ref hT9, .int (nI (((tn + 1)))), .int (nI ((zpd sp mm))), .int (nI 1), .int (nI sp), .int mm])), (hT9, .inl (cI, 30, .inl (((upd T tn (nI 13))))))] := hD
      exact hret hP hD hS dX4_say_40 rfl (by exact ⟨rfl, rfl⟩)
    · have c11_2 : ¬ (d ≤ 40) := fun h9 => c11_2 ((nI_leI (a := d) (b := 40) (by omega) (by omega)).mpr h9)
      exact absurd c11_2 (by omega)
set_option maxHeartbeats 4000000 in
set_option maxRecDepth 100000 in
theorem c_X4_sayBody_1_3_1 (l : Launch) (D : va_G) (cI cJ : ClassId) (h : Nat) (hT9 : Nat) (T : Nat → Int32) (tn : Nat) (sp : Nat) (mm : Int32) (x : Int32) (d : Nat) (htn : tn + 4 ≤ 30) (hd : d + 3 ≤ 40) : zMi l yX4_sayBody wsX4_sayBody ({ frames := 7, cells := 0, slots := 0, locals := 167 } : Room) D [(cI, .int), (cJ, .array .int)] [.ref h, .int (nI 21), .int x, .int (nI d)] [(h, .inr (4, [.ref hT9, .int (nI tn), .int (nI 0), .int (nI 1), .int (nI sp), .int mm])), (hT9, .inl (cI, 30, .inl T))] (fun r w => r = (zparts 1 sp mm x) ∧ w = [(h, .inr (4, [.ref hT9, .int (nI ((if (mm - nI sp = 0) then (tn + 1) else ((((tn + 1) + 1) + 1) + 1)))), .int (nI ((zpd sp mm))), .int (nI 1), .int (nI sp), .int mm])), (hT9, .inl (cI, 30, .inl ((if (mm - nI sp = 0) then (upd T tn (nI 13)) else (upd (upd (upd (upd T tn (nI 13)) (tn + 1) (nI 11)) ((tn + 1) + 1) (nI 20)) (((tn + 1) + 1) + 1) (nI 10))))))]) := by
  refine zMi.start (cc := cX4_sayBody) (maxL := 4) (rt := .int) (by first | decide | decide +kernel) rfl (Nat.le_of_ble_eq_true rfl) ?_
  intro pg ev s mt args below meth cd ls AA QQ ⟨hx, hb, hml, hr, hlocks, hown, hts, hK, hN, hZ, hP, hD, hA, hS, hl⟩ hret
  have hown : s.vm.findClass RX4 = some mt.cls := hown
  have hl : lv_has ls 4 [(0, .ref h), (1, .int (nI 21)), (2, .int x), (3, .int (nI d))] := hl
  have hin4 : ∀ w ∈ wsX40, w ∈ wsX4_sayBody := fun w h => List.mem_cons_of_mem _ (List.mem_append_right _ (h))
  refine lv_iload_n hx hb dX4_sayBody_0 rfl (lv_at hl 1 rfl) ?_
  refine lv_lookup (off := 170) (tgt := 171) hx hb dX4_sayBody_1 (by decide) (by decide) (by decide) ?_
  refine lv_aload_n hx hb dX4_sayBody_171 rfl (lv_at hl 0 rfl) ?_
  refine lv_iconst (v := nI 0) hx hb dX4_sayBody_172 (by decide) ?_
  refine lv_iconst (v := nI 3) hx hb dX4_sayBody_173 (by decide) ?_
  refine lv_iload_n hx hb dX4_sayBody_174 rfl (lv_at hl 2 rfl) ?_
  refine lv_iload_n hx hb dX4_sayBody_175 rfl (lv_at hl 3 rfl) ?_
  refine zci (wr := []) (va_runV (As := [.int (nI 0), .int (nI 3), .int x, .int (nI d)]) (rest := []) ⟨hx, hb, hml, hown, hts⟩ (c_X4_say_0_3_1 l D cI cJ h hT9 T tn sp mm x d (by first | rfl | assumption | omega) (by first | rfl | assumption | omega) s.heap.size) (cwV 4 hts gX4_sayBody_X4_say rfl rfl rfl (by decide +kernel) ⟨Nat.le_of_ble_eq_true rfl, Nat.le_of_ble_eq_true rfl⟩) (zpV hK hN hZ hP hD hS hA [0, 1] rfl (by decide) 0 rfl rfl rfl) rfl rfl hl.1 rfl (lv_room (Nat.le_of_ble_eq_true rfl)) dX4_sayBody_176 ⟨Nat.zero_le _, Nat.zero_le _⟩) hP hD hS hA [0, 1] [] rfl rfl (by decide) (by decide) (fun r_3 w_2 H locs h_1 hP hD hS => ?_)
  obtain ⟨rfl, rfl⟩ := h_1
  have hP : va_P D vwCl [(h, .inr (4, [.ref hT9, .int (nI ((tn + 1))), .int (nI ((zpd sp mm))), .int (nI 1), .int (nI sp), .int mm])), (hT9, .inl (cI, 30, .inl ((upd T tn (nI 13)))))] H := hP
  have hD : va_D AA [(h, .inr (4, [.ref hT9, .int (nI ((tn + 1))), .int (nI ((zpd sp mm))), .int (nI 1), .int (nI sp), .int mm])), (hT9, .inl (cI, 30, .inl ((upd T tn (nI 13)))))] := hD
  by_cases hpd : mm - nI sp = 0
  · rw [show zpd sp mm = 1 from if_pos hpd] at hP hD
    have hP : va_P D vwCl [(h, .inr (4, [.ref hT9, .int (nI ((tn + 1))), .int (nI 1), .int (nI 1), .int (nI sp), .int mm])), (hT9, .inl (cI, 30, .inl ((upd T tn (nI 13)))))] H := hP
    have hD : va_D AA [(h, .inr (4, [.ref hT9, .int (nI ((tn + 1))), .int (nI 1), .int (nI 1), .int (nI sp), .int mm])), (hT9, .inl (cI, 30, .inl ((upd T tn (nI 13)))))] := hD
    refine lv_aload_n hx hb dX4_sayBody_179 rfl (lv_at hl 0 rfl) ?_
    refine lv_aload_n hx hb dX4_sayBody_180 rfl (lv_at hl 0 rfl) ?_
    refine va_get (ci := 4) (v := .int (nI 1)) (C := RX4) (T := TX4) (N := 6) hx hb hts hin4 hown hK hP 0 rfl rfl 3 (by decide) (hts (.fieldLink RX4 23 "UpAllRound$Voices" "kind" "I") (List.mem_of_getElem? (i := 2) rfl)) (fun _ h9 => h9) rfl dX4_sayBody_181 ?_
    refine lv_iconst (v := nI 1) hx hb dX4_sayBody_184 (by decide) ?_
    refine lv_iconst (v := nI 1) hx hb dX4_sayBody_185 (by decide) ?_
    refine lv_iload_n hx hb dX4_sayBody_186 rfl (lv_at hl 3 rfl) ?_
    refine zci (wr := []) (va_runV (As := [.int (nI 1), .int (nI 1), .int (nI 1), .int (nI d)]) (rest := [.int ((zpv sp mm x))]) ⟨hx, hb, hml, hown, hts⟩ (c_X4_say_p l D cI cJ h hT9 ((upd T tn (nI 13))) ((tn + 1)) sp mm (nI 1) d 1 1 1  H.size) (cwV 4 hts gX4_sayBody_X4_say rfl rfl rfl (by decide +kernel) ⟨Nat.le_of_ble_eq_true rfl, Nat.le_of_ble_eq_true rfl⟩) (zpV hK hN hZ hP hD hS hA [0, 1] rfl (by decide) 0 rfl rfl rfl) rfl rfl hl.1 rfl (lv_room (Nat.le_of_ble_eq_true rfl)) dX4_sayBody_187 ⟨Nat.zero_le _, Nat.zero_le _⟩) hP hD hS hA [0, 1] [] rfl rfl (by decide) (by decide) (fun r_6 w_5 H locs h_4 hP hD hS => ?_)
    obtain ⟨rfl, rfl⟩ := h_4
    have hP : va_P D vwCl [(h, .inr (4, [.ref hT9, .int (nI (((tn + 1)))), .int (nI 1), .int (nI 1), .int (nI sp), .int mm])), (hT9, .inl (cI, 30, .inl (((upd T tn (nI 13))))))] H := hP
    have hD : va_D AA [(h, .inr (4, [.ref hT9, .int (nI (((tn + 1)))), .int (nI 1), .int (nI 1), .int (nI sp), .int mm])), (hT9, .inl (cI, 30, .inl (((upd T tn (nI 13))))))] := hD
    refine lv_iadd hx hb dX4_sayBody_190 ?_
    exact hret hP hD hS dX4_sayBody_191 rfl (by exact ⟨by rw [zparts, if_pos hpd, zpv, if_pos hpd] <;> rfl, by rw [if_pos hpd, if_pos hpd, show zpd sp mm = 1 from if_pos hpd]⟩)
  · rw [show zpd sp mm = 0 from if_neg hpd] at hP hD
    have hP : va_P D vwCl [(h, .inr (4, [.ref hT9, .int (nI ((tn + 1))), .int (nI 0), .int (nI 1), .int (nI sp), .int mm])), (hT9, .inl (cI, 30, .inl ((upd T tn (nI 13)))))] H := hP
    have hD : va_D AA [(h, .inr (4, [.ref hT9, .int (nI ((tn + 1))), .int (nI 0), .int (nI 1), .int (nI sp), .int mm])), (hT9, .inl (cI, 30, .inl ((upd T tn (nI 13)))))] := hD
    refine lv_aload_n hx hb dX4_sayBody_179 rfl (lv_at hl 0 rfl) ?_
    refine lv_aload_n hx hb dX4_sayBody_180 rfl (lv_at hl 0 rfl) ?_
    refine va_get (ci := 4) (v := .int (nI 1)) (C := RX4) (T := TX4) (N := 6) hx hb hts hin4 hown hK hP 0 rfl rfl 3 (by decide) (hts (.fieldLink RX4 23 "UpAllRound$Voices" "kind" "I") (List.mem_of_getElem? (i := 2) rfl)) (fun _ h9 => h9) rfl dX4_sayBody_181 ?_
    refine lv_iconst (v := nI 1) hx hb dX4_sayBody_184 (by decide) ?_
    refine lv_iconst (v := nI 1) hx hb dX4_sayBody_185 (by decide) ?_
    refine lv_iload_n hx hb dX4_sayBody_186 rfl (lv_at hl 3 rfl) ?_
    refine zci (wr := []) (va_runV (As := [.int (nI 1), .int (nI 1), .int (nI 1), .int (nI d)]) (rest := [.int ((zpv sp mm x))]) ⟨hx, hb, hml, hown, hts⟩ (c_X4_say_1_1_1 l D cI cJ h hT9 ((upd T tn (nI 13))) ((tn + 1)) sp mm (nI 1) d (by first | rfl | assumption | omega) (by first | rfl | assumption | omega) H.size) (cwV 4 hts gX4_sayBody_X4_say rfl rfl rfl (by decide +kernel) ⟨Nat.le_of_ble_eq_true rfl, Nat.le_of_ble_eq_true rfl⟩) (zpV hK hN hZ hP hD hS hA [0, 1] rfl (by decide) 0 rfl rfl rfl) rfl rfl hl.1 rfl (lv_room (Nat.le_of_ble_eq_true rfl)) dX4_sayBody_187 ⟨Nat.zero_le _, Nat.zero_le _⟩) hP hD hS hA [0, 1] [] rfl rfl (by decide) (by decide) (fun r_9 w_8 H locs h_7 hP hD hS => ?_)
    obtain ⟨rfl, rfl⟩ := h_7
    have hP : va_P D vwCl [(h, .inr (4, [.ref hT9, .int (nI ((((((tn + 1)) + 1) + 1) + 1))), .int (nI 0), .int (nI 1), .int (nI sp), .int mm])), (hT9, .inl (cI, 30, .inl ((upd (upd (upd ((upd T tn (nI 13))) ((tn + 1)) (nI 11)) (((tn + 1)) + 1) (nI 20)) ((((tn + 1)) + 1) + 1) (nI 10)))))] H := hP
    have hD : va_D AA [(h, .inr (4, [.ref hT9, .int (nI ((((((tn + 1)) + 1) + 1) + 1))), .int (nI 0), .int (nI 1), .int (nI sp), .int mm])), (hT9, .inl (cI, 30, .inl ((upd (upd (upd ((upd T tn (nI 13))) ((tn + 1)) (nI 11)) (((tn + 1)) + 1) (nI 20)) ((((tn + 1)) + 1) + 1) (nI 10)))))] := hD
    refine lv_iadd hx hb dX4_sayBody_190 ?_
    exact hret hP hD hS dX4_sayBody_191 rfl (by exact ⟨by rw [zparts, if_neg hpd] <;> rfl, by rw [if_neg hpd, if_neg hpd, show zpd sp mm = 0 from if_neg hpd]⟩)
set_option maxHeartbeats 4000000 in
set_option maxRecDepth 100000 in
theorem c_X4_say_1_3_1 (l : Launch) (D : va_G) (cI cJ : ClassId) (h : Nat) (hT9 : Nat) (T : Nat → Int32) (tn : Nat) (sp : Nat) (mm : Int32) (x : Int32) (d : Nat) (htn : tn + 5 ≤ 30) (hd : d + 4 ≤ 40) : zMi l yX4_say wsX4_say ({ frames := 8, cells := 0, slots := 0, locals := 190 } : Room) D [(cI, .int), (cJ, .array .int)] [.ref h, .int (nI 1), .int (nI 3), .int x, .int (nI d)] [(h, .inr (4, [.ref hT9, .int (nI tn), .int (nI 0), .int (nI 1), .int (nI sp), .int mm])), (hT9, .inl (cI, 30, .inl T))] (fun r w => r = (zparts 1 sp mm x) ∧ w = [(h, .inr (4, [.ref hT9, .int (nI ((if (mm - nI sp = 0) then ((tn + 1) + 1) else (((((tn + 1) + 1) + 1) + 1) + 1)))), .int (nI ((zpd sp mm))), .int (nI 1), .int (nI sp), .int mm])), (hT9, .inl (cI, 30, .inl ((if (mm - nI sp = 0) then (upd (upd T tn (nI 21)) (tn + 1) (nI 13)) else (upd (upd (upd (upd (upd T tn (nI 21)) (tn + 1) (nI 13)) ((tn + 1) + 1) (nI 11)) (((tn + 1) + 1) + 1) (nI 20)) ((((tn + 1) + 1) + 1) + 1) (nI 10))))))]) := by
  refine zMi.start (cc := cX4_say) (maxL := 6) (rt := .int) (by first | decide | decide +kernel) rfl (Nat.le_of_ble_eq_true rfl) ?_
  intro pg ev s mt args below meth cd ls AA QQ ⟨hx, hb, hml, hr, hlocks, hown, hts, hK, hN, hZ, hP, hD, hA, hS, hl⟩ hret
  have hown : s.vm.findClass RX4 = some mt.cls := hown
  have hl : lv_has ls 6 [(0, .ref h), (1, .int (nI 1)), (2, .int (nI 3)), (3, .int x), (4, .int (nI d))] := hl
  have hin4 : ∀ w ∈ wsX40, w ∈ wsX4_say := fun w h => List.mem_cons_of_mem _ (List.mem_append_right _ (h))
  refine lv_aload_n hx hb dX4_say_0 rfl (lv_at hl 0 rfl) ?_
  refine va_get (ci := 4) (v := .int (nI 0)) (C := RX4) (T := TX4) (N := 6) hx hb hts hin4 hown hK hP 0 rfl rfl 2 (by decide) (hts (.fieldLink RX4 19 "UpAllRound$Voices" "parted" "Z") (List.mem_of_getElem? (i := 1) rfl)) (fun _ h9 => h9) rfl dX4_say_1 ?_
  refine lv_if_ne (tgt := 14) hx hb dX4_say_4 (by decide) (fun c4_1 => ?_) (fun c4_1 => ?_)
  · have c4_1 : ¬ (0 = 0) := fun h9 => c4_1 ((nI_eq (a := 0) (b := 0) (by omega) (by omega)).mpr h9)
    exact absurd c4_1 (by omega)
  · have c4_1 : 0 = 0 := (nI_eq (a := 0) (b := 0) (by omega) (by omega)).mp c4_1
    refine lv_iload hx hb dX4_say_7 (lv_at hl 4 rfl) ?_
    refine lv_bipush (v := nI 40) hx hb dX4_say_9 (by decide) ?_
    refine lv_icmp_le (tgt := 16) hx hb dX4_say_11 (by decide) (fun c11_2 => ?_) (fun c11_2 => ?_)
    · have c11_2 : d ≤ 40 := (nI_leI (a := d) (b := 40) (by omega) (by omega)).mp c11_2
      refine lv_iload_n hx hb dX4_say_16 rfl (lv_at hl 1 rfl) ?_
      refine lv_iload_n hx hb dX4_say_17 rfl (lv_at hl 2 rfl) ?_
      refine zcsE (va_runS (As := [.int (nI 1), .int (nI 3)]) (rest := []) ⟨hx, hb, hml, hown, hts⟩ (c_X4_find_1_3 l D cI cJ   s.heap.size) (va_cwS 2 hts gX4_say_X4_find rfl rfl rfl (by decide +kernel) ⟨Nat.le_of_ble_eq_true rfl, Nat.le_of_ble_eq_true rfl⟩) (zpS hK hN hZ hP hD hS hA [] rfl (by decide)) rfl rfl hl.1 rfl (lv_room (Nat.le_of_ble_eq_true rfl)) dX4_say_18 ⟨Nat.zero_le _, Nat.zero_le _⟩) ?_
      refine lv_istore (lv' := [(5, .int (nI 21)), (0, .ref h), (1, .int (nI 1)), (2, .int (nI 3)), (3, .int x), (4, .int (nI d))]) hx hb dX4_say_21 hl (by decide) rfl (fun ls hl => ?_)
      refine lv_aload_n hx hb dX4_say_23 rfl (lv_at hl 1 rfl) ?_
      refine lv_iload hx hb dX4_say_24 (lv_at hl 0 rfl) ?_
      refine zcv (wr := []) (va_runV (As := [.int (nI 21)]) (rest := []) ⟨hx, hb, hml, hown, hts⟩ (c_X4_begin l D cI cJ h hT9 T tn 0 1 sp mm 21 (by first | rfl | assumption | omega) s.heap.size) (cwV 1 hts gX4_say_X4_begin rfl rfl rfl (by decide +kernel) ⟨Nat.le_of_ble_eq_true rfl, Nat.le_of_ble_eq_true rfl⟩) (zpV hK hN hZ hP hD hS hA [0, 1] rfl (by decide) 0 rfl rfl rfl) rfl rfl hl.1 rfl (lv_room (Nat.le_of_ble_eq_true rfl)) dX4_say_26 ⟨Nat.zero_le _, Nat.zero_le _⟩) hP hD hS hA [0, 1] [] rfl rfl (by decide) (by decide) (fun w_4 H locs h_3 hP hD hS => ?_)
      obtain rfl := h_3
      have hP : va_P D vwCl [(h, .inr (4, [.ref hT9, .int (nI ((tn + 1))), .int (nI 0), .int (nI 1), .int (nI sp), .int mm])), (hT9, .inl (cI, 30, .inl ((upd T tn (nI 21)))))] H := hP
      have hD : va_D AA [(h, .inr (4, [.ref hT9, .int (nI ((tn + 1))), .int (nI 0), .int (nI 1), .int (nI sp), .int mm])), (hT9, .inl (cI, 30, .inl ((upd T tn (nI 21)))))] := hD
      refine lv_aload_n hx hb dX4_say_29 rfl (lv_at hl 1 rfl) ?_
      refine lv_iload hx hb dX4_say_30 (lv_at hl 0 rfl) ?_
      refine lv_iload_n hx hb dX4_say_32 rfl (lv_at hl 4 rfl) ?_
      refine lv_iload hx hb dX4_say_33 (lv_at hl 5 rfl) ?_
      refine lv_iconst (v := nI 1) hx hb dX4_say_35 (by decide) ?_
      refine lv_iadd hx hb dX4_say_36 ?_
      refine zrw (nI_add _ _) ?_
      refine zci (wr := []) (va_runV (As := [.int (nI 21), .int x, .int (nI (d + 1))]) (rest := []) ⟨hx, hb, hml, hown, hts⟩ (c_X4_sayBody_1_3_1 l D cI cJ h hT9 ((upd T tn (nI 21))) ((tn + 1)) sp mm x (d + 1) (by first | rfl | assumption | omega) (by first | rfl | assumption | omega) H.size) (cwV 3 hts gX4_say_X4_sayBody rfl rfl rfl (by decide +kernel) ⟨Nat.le_of_ble_eq_true rfl, Nat.le_of_ble_eq_true rfl⟩) (zpV hK hN hZ hP hD hS hA [0, 1] rfl (by decide) 0 rfl rfl rfl) rfl rfl hl.1 rfl (lv_room (Nat.le_of_ble_eq_true rfl)) dX4_say_37 ⟨Nat.zero_le _, Nat.zero_le _⟩) hP hD hS hA [0, 1] [] rfl rfl (by decide) (by decide) (fun r_7 w_6 H locs h_5 hP hD hS => ?_)
      obtain ⟨rfl, rfl⟩ := h_5
      have hP : va_P D vwCl [(h, .inr (4, [.ref hT9, .int (nI ((if (mm - nI sp = 0) then (((tn + 1)) + 1) else ((((((tn + 1)) + 1) + 1) + 1) + 1)))), .int (nI ((zpd sp mm))), .int (nI 1), .int (nI sp), .int mm])), (hT9, .inl (cI, 30, .inl ((if (mm - nI sp = 0) then (upd ((upd T tn (nI 21))) ((tn + 1)) (nI 13)) else (upd (upd (upd (upd ((upd T tn (nI 21))) ((tn + 1)) (nI 13)) (((tn + 1)) + 1) (nI 11)) ((((tn + 1)) + 1) + 1) (nI 20)) (((((tn + 1)) + 1) + 1) + 1) (nI 10))))))] H := hP
      have hD : va_D AA [(h, .inr (4, [.ref hT9, .int (nI ((if (mm - nI sp = 0) then (((tn + 1)) + 1) else ((((((tn + 1)) + 1) + 1) + 1) + 1)))), .int (nI ((zpd sp mm))), .int (nI 1), .int (nI sp), .int mm])), (hT9, .inl (cI, 30, .inl ((if (mm - nI sp = 0) then (upd ((upd T tn (nI 21))) ((tn + 1)) (nI 13)) else (upd (upd (upd (upd ((upd T tn (nI 21))) ((tn + 1)) (nI 13)) (((tn + 1)) + 1) (nI 11)) ((((tn + 1)) + 1) + 1) (nI 20)) (((((tn + 1)) + 1) + 1) + 1) (nI 10))))))] := hD
      exact hret hP hD hS dX4_say_40 rfl (by exact ⟨rfl, rfl⟩)
    · have c11_2 : ¬ (d ≤ 40) := fun h9 => c11_2 ((nI_leI (a := d) (b := 40) (by omega) (by omega)).mpr h9)
      exact absurd c11_2 (by omega)
set_option maxHeartbeats 4000000 in
set_option maxRecDepth 100000 in
theorem c_X4_sayBody_2_0_2 (l : Launch) (D : va_G) (cI cJ : ClassId) (h : Nat) (hT9 : Nat) (T : Nat → Int32) (tn : Nat) (sp : Nat) (mm : Int32) (x : Int32) (d : Nat) (htn : tn + 0 ≤ 30) (hd : d + 0 ≤ 40) : zMi l yX4_sayBody wsX4_sayBody ({ frames := 0, cells := 0, slots := 0, locals := 0 } : Room) D [(cI, .int), (cJ, .array .int)] [.ref h, .int (nI 10), .int x, .int (nI d)] [(h, .inr (4, [.ref hT9, .int (nI tn), .int (nI 0), .int (nI 2), .int (nI sp), .int mm])), (hT9, .inl (cI, 30, .inl T))] (fun r w => r = (zpants 2 sp x ) ∧ w = [(h, .inr (4, [.ref hT9, .int (nI tn), .int (nI 0), .int (nI 2), .int (nI sp), .int mm])), (hT9, .inl (cI, 30, .inl T))]) := by
  refine zMi.start (cc := cX4_sayBody) (maxL := 4) (rt := .int) (by first | decide | decide +kernel) rfl (Nat.le_of_ble_eq_true rfl) ?_
  intro pg ev s mt args below meth cd ls AA QQ ⟨hx, hb, hml, hr, hlocks, hown, hts, hK, hN, hZ, hP, hD, hA, hS, hl⟩ hret
  have hown : s.vm.findClass RX4 = some mt.cls := hown
  have hl : lv_has ls 4 [(0, .ref h), (1, .int (nI 10)), (2, .int x), (3, .int (nI d))] := hl
  have hin4 : ∀ w ∈ wsX40, w ∈ wsX4_sayBody := fun w h => List.mem_cons_of_mem _ (List.mem_append_right _ (h))
  refine lv_iload_n hx hb dX4_sayBody_0 rfl (lv_at hl 1 rfl) ?_
  refine lv_lookup (off := 115) (tgt := 116) hx hb dX4_sayBody_1 (by decide) (by decide) (by decide) ?_
  refine lv_iload_n hx hb dX4_sayBody_116 rfl (lv_at hl 2 rfl) ?_
  refine lv_aload_n hx hb dX4_sayBody_117 rfl (lv_at hl 0 rfl) ?_
  refine va_get (ci := 4) (v := .int (nI sp)) (C := RX4) (T := TX4) (N := 6) hx hb hts hin4 hown hK hP 0 rfl rfl 4 (by decide) (hts (.fieldLink RX4 26 "UpAllRound$Voices" "k" "I") (List.mem_of_getElem? (i := 1) rfl)) (fun _ h9 => h9) rfl dX4_sayBody_118 ?_
  refine lv_iadd hx hb dX4_sayBody_121 ?_
  exact hret hP hD hS dX4_sayBody_122 rfl (by exact ⟨rfl, rfl⟩)
set_option maxHeartbeats 4000000 in
set_option maxRecDepth 100000 in
theorem c_X4_say_2_0_2 (l : Launch) (D : va_G) (cI cJ : ClassId) (h : Nat) (hT9 : Nat) (T : Nat → Int32) (tn : Nat) (sp : Nat) (mm : Int32) (x : Int32) (d : Nat) (htn : tn + 1 ≤ 30) (hd : d + 1 ≤ 40) : zMi l yX4_say wsX4_say ({ frames := 2, cells := 0, slots := 0, locals := 46 } : Room) D [(cI, .int), (cJ, .array .int)] [.ref h, .int (nI 2), .int (nI 0), .int x, .int (nI d)] [(h, .inr (4, [.ref hT9, .int (nI tn), .int (nI 0), .int (nI 2), .int (nI sp), .int mm])), (hT9, .inl (cI, 30, .inl T))] (fun r w => r = (zpants 2 sp x ) ∧ w = [(h, .inr (4, [.ref hT9, .int (nI ((tn + 1))), .int (nI 0), .int (nI 2), .int (nI sp), .int mm])), (hT9, .inl (cI, 30, .inl ((upd T tn (nI 10)))))]) := by
  refine zMi.start (cc := cX4_say) (maxL := 6) (rt := .int) (by first | decide | decide +kernel) rfl (Nat.le_of_ble_eq_true rfl) ?_
  intro pg ev s mt args below meth cd ls AA QQ ⟨hx, hb, hml, hr, hlocks, hown, hts, hK, hN, hZ, hP, hD, hA, hS, hl⟩ hret
  have hown : s.vm.findClass RX4 = some mt.cls := hown
  have hl : lv_has ls 6 [(0, .ref h), (1, .int (nI 2)), (2, .int (nI 0)), (3, .int x), (4, .int (nI d))] := hl
  have hin4 : ∀ w ∈ wsX40, w ∈ wsX4_say := fun w h => List.mem_cons_of_mem _ (List.mem_append_right _ (h))
  refine lv_aload_n hx hb dX4_say_0 rfl (lv_at hl 0 rfl) ?_
  refine va_get (ci := 4) (v := .int (nI 0)) (C := RX4) (T := TX4) (N := 6) hx hb hts hin4 hown hK hP 0 rfl rfl 2 (by decide) (hts (.fieldLink RX4 19 "UpAllRound$Voices" "parted" "Z") (List.mem_of_getElem? (i := 1) rfl)) (fun _ h9 => h9) rfl dX4_say_1 ?_
  refine lv_if_ne (tgt := 14) hx hb dX4_say_4 (by decide) (fun c4_1 => ?_) (fun c4_1 => ?_)
  · have c4_1 : ¬ (0 = 0) := fun h9 => c4_1 ((nI_eq (a := 0) (b := 0) (by omega) (by omega)).mpr h9)
    exact absurd c4_1 (by omega)
  · have c4_1 : 0 = 0 := (nI_eq (a := 0) (b := 0) (by omega) (by omega)).mp c4_1
    refine lv_iload hx hb dX4_say_7 (lv_at hl 4 rfl) ?_
    refine lv_bipush (v := nI 40) hx hb dX4_say_9 (by decide) ?_
    refine lv_icmp_le (tgt := 16) hx hb dX4_say_11 (by decide) (fun c11_2 => ?_) (fun c11_2 => ?_)
    · have c11_2 : d ≤ 40 := (nI_leI (a := d) (b := 40) (by omega) (by omega)).mp c11_2
      refine lv_iload_n hx hb dX4_say_16 rfl (lv_at hl 1 rfl) ?_
      refine lv_iload_n hx hb dX4_say_17 rfl (lv_at hl 2 rfl) ?_
      refine zcsE (va_runS (As := [.int (nI 2), .int (nI 0)]) (rest := []) ⟨hx, hb, hml, hown, hts⟩ (c_X4_find_2_0 l D cI cJ   s.heap.size) (va_cwS 2 hts gX4_say_X4_find rfl rfl rfl (by decide +kernel) ⟨Nat.le_of_ble_eq_true rfl, Nat.le_of_ble_eq_true rfl⟩) (zpS hK hN hZ hP hD hS hA [] rfl (by decide)) rfl rfl hl.1 rfl (lv_room (Nat.le_of_ble_eq_true rfl)) dX4_say_18 ⟨Nat.zero_le _, Nat.zero_le _⟩) ?_
      refine lv_istore (lv' := [(5, .int (nI 10)), (0, .ref h), (1, .int (nI 2)), (2, .int (nI 0)), (3, .int x), (4, .int (nI d))]) hx hb dX4_say_21 hl (by decide) rfl (fun ls hl => ?_)
      refine lv_aload_n hx hb dX4_say_23 rfl (lv_at hl 1 rfl) ?_
      refine lv_iload hx hb dX4_say_24 (lv_at hl 0 rfl) ?_
      refine zcv (wr := []) (va_runV (As := [.int (nI 10)]) (rest := []) ⟨hx, hb, hml, hown, hts⟩ (c_X4_begin l D cI cJ h hT9 T tn 0 2 sp mm 10 (by first | rfl | assumption | omega) s.heap.size) (cwV 1 hts gX4_say_X4_begin rfl rfl rfl (by decide +kernel) ⟨Nat.le_of_ble_eq_true rfl, Nat.le_of_ble_eq_true rfl⟩) (zpV hK hN hZ hP hD hS hA [0, 1] rfl (by decide) 0 rfl rfl rfl) rfl rfl hl.1 rfl (lv_room (Nat.le_of_ble_eq_true rfl)) dX4_say_26 ⟨Nat.zero_le _, Nat.zero_le _⟩) hP hD hS hA [0, 1] [] rfl rfl (by decide) (by decide) (fun w_4 H locs h_3 hP hD hS => ?_)
      obtain rfl := h_3
      have hP : va_P D vwCl [(h, .inr (4, [.ref hT9, .int (nI ((tn + 1))), .int (nI 0), .int (nI 2), .int (nI sp), .int mm])), (hT9, .inl (cI, 30, .inl ((upd T tn (nI 10)))))] H := hP
      have hD : va_D AA [(h, .inr (4, [.ref hT9, .int (nI ((tn + 1))), .int (nI 0), .int (nI 2), .int (nI sp), .int mm])), (hT9, .inl (cI, 30, .inl ((upd T tn (nI 10)))))] := hD
      refine lv_aload_n hx hb dX4_say_29 rfl (lv_at hl 1 rfl) ?_
      refine lv_iload hx hb dX4_say_30 (lv_at hl 0 rfl) ?_
      refine lv_iload_n hx hb dX4_say_32 rfl (lv_at hl 4 rfl) ?_
      refine lv_iload hx hb dX4_say_33 (lv_at hl 5 rfl) ?_
      refine lv_iconst (v := nI 1) hx hb dX4_say_35 (by decide) ?_
      refine lv_iadd hx hb dX4_say_36 ?_
      refine zrw (nI_add _ _) ?_
      refine zci (wr := []) (va_runV (As := [.int (nI 10), .int x, .int (nI (d + 1))]) (rest := []) ⟨hx, hb, hml, hown, hts⟩ (c_X4_sayBody_2_0_2 l D cI cJ h hT9 ((upd T tn (nI 10))) ((tn + 1)) sp mm x (d + 1) (by first | rfl | assumption | omega) (by first | rfl | assumption | omega) H.size) (cwV 3 hts gX4_say_X4_sayBody rfl rfl rfl (by decide +kernel) ⟨Nat.le_of_ble_eq_true rfl, Nat.le_of_ble_eq_true rfl⟩) (zpV hK hN hZ hP hD hS hA [0, 1] rfl (by decide) 0 rfl rfl rfl) rfl rfl hl.1 rfl (lv_room (Nat.le_of_ble_eq_true rfl)) dX4_say_37 ⟨Nat.zero_le _, Nat.zero_le _⟩) hP hD hS hA [0, 1] [] rfl rfl (by decide) (by decide) (fun r_7 w_6 H locs h_5 hP hD hS => ?_)
      obtain ⟨rfl, rfl⟩ := h_5
      have hP : va_P D vwCl [(h, .inr (4, [.ref hT9, .int (nI (((tn + 1)))), .int (nI 0), .int (nI 2), .int (nI sp), .int mm])), (hT9, .inl (cI, 30, .inl (((upd T tn (nI 10))))))] H := hP
      have hD : va_D AA [(h, .inr (4, [.ref hT9, .int (nI (((tn + 1)))), .int (nI 0), .int (nI 2), .int (nI sp), .int mm])), (hT9, .inl (cI, 30, .inl (((upd T tn (nI 10))))))] := hD
      exact hret hP hD hS dX4_say_40 rfl (by exact ⟨rfl, rfl⟩)
    · have c11_2 : ¬ (d ≤ 40) := fun h9 => c11_2 ((nI_leI (a := d) (b := 40) (by omega) (by omega)).mpr h9)
      exact absurd c11_2 (by omega)
set_option maxHeartbeats 4000000 in
set_option maxRecDepth 100000 in
theorem c_X4_sayBody_0_1_2 (l : Launch) (D : va_G) (cI cJ : ClassId) (h : Nat) (hT9 : Nat) (T : Nat → Int32) (tn : Nat) (sp : Nat) (mm : Int32) (x : Int32) (d : Nat) (htn : tn + 1 ≤ 30) (hd : d + 1 ≤ 40) : zMi l yX4_sayBody wsX4_sayBody ({ frames := 3, cells := 0, slots := 0, locals := 71 } : Room) D [(cI, .int), (cJ, .array .int)] [.ref h, .int (nI 11), .int x, .int (nI d)] [(h, .inr (4, [.ref hT9, .int (nI tn), .int (nI 0), .int (nI 2), .int (nI sp), .int mm])), (hT9, .inl (cI, 30, .inl T))] (fun r w => r = (zcounts 2 0 sp mm x ) ∧ w = [(h, .inr (4, [.ref hT9, .int (nI ((tn + 1))), .int (nI 0), .int (nI 2), .int (nI sp), .int mm])), (hT9, .inl (cI, 30, .inl ((upd T tn (nI 10)))))]) := by
  refine zMi.start (cc := cX4_sayBody) (maxL := 4) (rt := .int) (by first | decide | decide +kernel) rfl (Nat.le_of_ble_eq_true rfl) ?_
  intro pg ev s mt args below meth cd ls AA QQ ⟨hx, hb, hml, hr, hlocks, hown, hts, hK, hN, hZ, hP, hD, hA, hS, hl⟩ hret
  have hown : s.vm.findClass RX4 = some mt.cls := hown
  have hl : lv_has ls 4 [(0, .ref h), (1, .int (nI 11)), (2, .int x), (3, .int (nI d))] := hl
  have hin4 : ∀ w ∈ wsX40, w ∈ wsX4_sayBody := fun w h => List.mem_cons_of_mem _ (List.mem_append_right _ (h))
  refine lv_iload_n hx hb dX4_sayBody_0 rfl (lv_at hl 1 rfl) ?_
  refine lv_lookup (off := 122) (tgt := 123) hx hb dX4_sayBody_1 (by decide) (by decide) (by decide) ?_
  refine lv_aload_n hx hb dX4_sayBody_123 rfl (lv_at hl 0 rfl) ?_
  refine lv_aload_n hx hb dX4_sayBody_124 rfl (lv_at hl 0 rfl) ?_
  refine va_get (ci := 4) (v := .int (nI 2)) (C := RX4) (T := TX4) (N := 6) hx hb hts hin4 hown hK hP 0 rfl rfl 3 (by decide) (hts (.fieldLink RX4 23 "UpAllRound$Voices" "kind" "I") (List.mem_of_getElem? (i := 2) rfl)) (fun _ h9 => h9) rfl dX4_sayBody_125 ?_
  refine lv_iconst (v := nI 0) hx hb dX4_sayBody_128 (by decide) ?_
  refine lv_iload_n hx hb dX4_sayBody_129 rfl (lv_at hl 2 rfl) ?_
  refine lv_iload_n hx hb dX4_sayBody_130 rfl (lv_at hl 3 rfl) ?_
  refine zci (wr := []) (va_runV (As := [.int (nI 2), .int (nI 0), .int x, .int (nI d)]) (rest := []) ⟨hx, hb, hml, hown, hts⟩ (c_X4_say_2_0_2 l D cI cJ h hT9 T tn sp mm x d (by first | rfl | assumption | omega) (by first | rfl | assumption | omega) s.heap.size) (cwV 4 hts gX4_sayBody_X4_say rfl rfl rfl (by decide +kernel) ⟨Nat.le_of_ble_eq_true rfl, Nat.le_of_ble_eq_true rfl⟩) (zpV hK hN hZ hP hD hS hA [0, 1] rfl (by decide) 0 rfl rfl rfl) rfl rfl hl.1 rfl (lv_room (Nat.le_of_ble_eq_true rfl)) dX4_sayBody_131 ⟨Nat.zero_le _, Nat.zero_le _⟩) hP hD hS hA [0, 1] [] rfl rfl (by decide) (by decide) (fun r_3 w_2 H locs h_1 hP hD hS => ?_)
  obtain ⟨rfl, rfl⟩ := h_1
  have hP : va_P D vwCl [(h, .inr (4, [.ref hT9, .int (nI ((tn + 1))), .int (nI 0), .int (nI 2), .int (nI sp), .int mm])), (hT9, .inl (cI, 30, .inl ((upd T tn (nI 10)))))] H := hP
  have hD : va_D AA [(h, .inr (4, [.ref hT9, .int (nI ((tn + 1))), .int (nI 0), .int (nI 2), .int (nI sp), .int mm])), (hT9, .inl (cI, 30, .inl ((upd T tn (nI 10)))))] := hD
  refine lv_iconst (v := nI 2) hx hb dX4_sayBody_134 (by decide) ?_
  refine lv_imul hx hb dX4_sayBody_135 ?_
  exact hret hP hD hS dX4_sayBody_136 rfl (by exact ⟨rfl, rfl⟩)
set_option maxHeartbeats 4000000 in
set_option maxRecDepth 100000 in
theorem c_X4_say_0_1_2 (l : Launch) (D : va_G) (cI cJ : ClassId) (h : Nat) (hT9 : Nat) (T : Nat → Int32) (tn : Nat) (sp : Nat) (mm : Int32) (x : Int32) (d : Nat) (htn : tn + 2 ≤ 30) (hd : d + 2 ≤ 40) : zMi l yX4_say wsX4_say ({ frames := 4, cells := 0, slots := 0, locals := 94 } : Room) D [(cI, .int), (cJ, .array .int)] [.ref h, .int (nI 0), .int (nI 1), .int x, .int (nI d)] [(h, .inr (4, [.ref hT9, .int (nI tn), .int (nI 0), .int (nI 2), .int (nI sp), .int mm])), (hT9, .inl (cI, 30, .inl T))] (fun r w => r = (zcounts 2 0 sp mm x ) ∧ w = [(h, .inr (4, [.ref hT9, .int (nI (((tn + 1) + 1))), .int (nI 0), .int (nI 2), .int (nI sp), .int mm])), (hT9, .inl (cI, 30, .inl ((upd (upd T tn (nI 11)) (tn + 1) (nI 10)))))]) := by
  refine zMi.start (cc := cX4_say) (maxL := 6) (rt := .int) (by first | decide | decide +kernel) rfl (Nat.le_of_ble_eq_true rfl) ?_
  intro pg ev s mt args below meth cd ls AA QQ ⟨hx, hb, hml, hr, hlocks, hown, hts, hK, hN, hZ, hP, hD, hA, hS, hl⟩ hret
  have hown : s.vm.findClass RX4 = some mt.cls := hown
  have hl : lv_has ls 6 [(0, .ref h), (1, .int (nI 0)), (2, .int (nI 1)), (3, .int x), (4, .int (nI d))] := hl
  have hin4 : ∀ w ∈ wsX40, w ∈ wsX4_say := fun w h => List.mem_cons_of_mem _ (List.mem_append_right _ (h))
  refine lv_aload_n hx hb dX4_say_0 rfl (lv_at hl 0 rfl) ?_
  refine va_get (ci := 4) (v := .int (nI 0)) (C := RX4) (T := TX4) (N := 6) hx hb hts hin4 hown hK hP 0 rfl rfl 2 (by decide) (hts (.fieldLink RX4 19 "UpAllRound$Voices" "parted" "Z") (List.mem_of_getElem? (i := 1) rfl)) (fun _ h9 => h9) rfl dX4_say_1 ?_
  refine lv_if_ne (tgt := 14) hx hb dX4_say_4 (by decide) (fun c4_1 => ?_) (fun c4_1 => ?_)
  · have c4_1 : ¬ (0 = 0) := fun h9 => c4_1 ((nI_eq (a := 0) (b := 0) (by omega) (by omega)).mpr h9)
    exact absurd c4_1 (by omega)
  · have c4_1 : 0 = 0 := (nI_eq (a := 0) (b := 0) (by omega) (by omega)).mp c4_1
    refine lv_iload hx hb dX4_say_7 (lv_at hl 4 rfl) ?_
    refine lv_bipush (v := nI 40) hx hb dX4_say_9 (by decide) ?_
    refine lv_icmp_le (tgt := 16) hx hb dX4_say_11 (by decide) (fun c11_2 => ?_) (fun c11_2 => ?_)
    · have c11_2 : d ≤ 40 := (nI_leI (a := d) (b := 40) (by omega) (by omega)).mp c11_2
      refine lv_iload_n hx hb dX4_say_16 rfl (lv_at hl 1 rfl) ?_
      refine lv_iload_n hx hb dX4_say_17 rfl (lv_at hl 2 rfl) ?_
      refine zcsE (va_runS (As := [.int (nI 0), .int (nI 1)]) (rest := []) ⟨hx, hb, hml, hown, hts⟩ (c_X4_find_0_1 l D cI cJ   s.heap.size) (va_cwS 2 hts gX4_say_X4_find rfl rfl rfl (by decide +kernel) ⟨Nat.le_of_ble_eq_true rfl, Nat.le_of_ble_eq_true rfl⟩) (zpS hK hN hZ hP hD hS hA [] rfl (by decide)) rfl rfl hl.1 rfl (lv_room (Nat.le_of_ble_eq_true rfl)) dX4_say_18 ⟨Nat.zero_le _, Nat.zero_le _⟩) ?_
      refine lv_istore (lv' := [(5, .int (nI 11)), (0, .ref h), (1, .int (nI 0)), (2, .int (nI 1)), (3, .int x), (4, .int (nI d))]) hx hb dX4_say_21 hl (by decide) rfl (fun ls hl => ?_)
      refine lv_aload_n hx hb dX4_say_23 rfl (lv_at hl 1 rfl) ?_
      refine lv_iload hx hb dX4_say_24 (lv_at hl 0 rfl) ?_
      refine zcv (wr := []) (va_runV (As := [.int (nI 11)]) (rest := []) ⟨hx, hb, hml, hown, hts⟩ (c_X4_begin l D cI cJ h hT9 T tn 0 2 sp mm 11 (by first | rfl | assumption | omega) s.heap.size) (cwV 1 hts gX4_say_X4_begin rfl rfl rfl (by decide +kernel) ⟨Nat.le_of_ble_eq_true rfl, Nat.le_of_ble_eq_true rfl⟩) (zpV hK hN hZ hP hD hS hA [0, 1] rfl (by decide) 0 rfl rfl rfl) rfl rfl hl.1 rfl (lv_room (Nat.le_of_ble_eq_true rfl)) dX4_say_26 ⟨Nat.zero_le _, Nat.zero_le _⟩) hP hD hS hA [0, 1] [] rfl rfl (by decide) (by decide) (fun w_4 H locs h_3 hP hD hS => ?_)
      obtain rfl := h_3
      have hP : va_P D vwCl [(h, .inr (4, [.ref hT9, .int (nI ((tn + 1))), .int (nI 0), .int (nI 2), .int (nI sp), .int mm])), (hT9, .inl (cI, 30, .inl ((upd T tn (nI 11)))))] H := hP
      have hD : va_D AA [(h, .inr (4, [.ref hT9, .int (nI ((tn + 1))), .int (nI 0), .int (nI 2), .int (nI sp), .int mm])), (hT9, .inl (cI, 30, .inl ((upd T tn (nI 11)))))] := hD
      refine lv_aload_n hx hb dX4_say_29 rfl (lv_at hl 1 rfl) ?_
      refine lv_iload hx hb dX4_say_30 (lv_at hl 0 rfl) ?_
      refine lv_iload_n hx hb dX4_say_32 rfl (lv_at hl 4 rfl) ?_
      refine lv_iload hx hb dX4_say_33 (lv_at hl 5 rfl) ?_
      refine lv_iconst (v := nI 1) hx hb dX4_say_35 (by decide) ?_
      refine lv_iadd hx hb dX4_say_36 ?_
      refine zrw (nI_add _ _) ?_
      refine zci (wr := []) (va_runV (As := [.int (nI 11), .int x, .int (nI (d + 1))]) (rest := []) ⟨hx, hb, hml, hown, hts⟩ (c_X4_sayBody_0_1_2 l D cI cJ h hT9 ((upd T tn (nI 11))) ((tn + 1)) sp mm x (d + 1) (by first | rfl | assumption | omega) (by first | rfl | assumption | omega) H.size) (cwV 3 hts gX4_say_X4_sayBody rfl rfl rfl (by decide +kernel) ⟨Nat.le_of_ble_eq_true rfl, Nat.le_of_ble_eq_true rfl⟩) (zpV hK hN hZ hP hD hS hA [0, 1] rfl (by decide) 0 rfl rfl rfl) rfl rfl hl.1 rfl (lv_room (Nat.le_of_ble_eq_true rfl)) dX4_say_37 ⟨Nat.zero_le _, Nat.zero_le _⟩) hP hD hS hA [0, 1] [] rfl rfl (by decide) (by decide) (fun r_7 w_6 H locs h_5 hP hD hS => ?_)
      obtain ⟨rfl, rfl⟩ := h_5
      have hP : va_P D vwCl [(h, .inr (4, [.ref hT9, .int (nI ((((tn + 1)) + 1))), .int (nI 0), .int (nI 2), .int (nI sp), .int mm])), (hT9, .inl (cI, 30, .inl ((upd ((upd T tn (nI 11))) ((tn + 1)) (nI 10)))))] H := hP
      have hD : va_D AA [(h, .inr (4, [.ref hT9, .int (nI ((((tn + 1)) + 1))), .int (nI 0), .int (nI 2), .int (nI sp), .int mm])), (hT9, .inl (cI, 30, .inl ((upd ((upd T tn (nI 11))) ((tn + 1)) (nI 10)))))] := hD
      exact hret hP hD hS dX4_say_40 rfl (by exact ⟨rfl, rfl⟩)
    · have c11_2 : ¬ (d ≤ 40) := fun h9 => c11_2 ((nI_leI (a := d) (b := 40) (by omega) (by omega)).mpr h9)
      exact absurd c11_2 (by omega)
set_option maxHeartbeats 4000000 in
set_option maxRecDepth 100000 in
theorem c_X4_sayBody_2_1_2 (l : Launch) (D : va_G) (cI cJ : ClassId) (h : Nat) (hT9 : Nat) (T : Nat → Int32) (tn : Nat) (sp : Nat) (mm : Int32) (x : Int32) (d : Nat) (htn : tn + 2 ≤ 30) (hd : d + 2 ≤ 40) : zMi l yX4_sayBody wsX4_sayBody ({ frames := 5, cells := 0, slots := 0, locals := 119 } : Room) D [(cI, .int), (cJ, .array .int)] [.ref h, .int (nI 30), .int x, .int (nI d)] [(h, .inr (4, [.ref hT9, .int (nI tn), .int (nI 0), .int (nI 2), .int (nI sp), .int mm])), (hT9, .inl (cI, 30, .inl T))] (fun r w => r = (zcounts 2 2 sp mm x ) ∧ w = [(h, .inr (4, [.ref hT9, .int (nI (((tn + 1) + 1))), .int (nI 0), .int (nI 2), .int (nI sp), .int mm])), (hT9, .inl (cI, 30, .inl ((upd (upd T tn (nI 11)) (tn + 1) (nI 10)))))]) := by
  refine zMi.start (cc := cX4_sayBody) (maxL := 4) (rt := .int) (by first | decide | decide +kernel) rfl (Nat.le_of_ble_eq_true rfl) ?_
  intro pg ev s mt args below meth cd ls AA QQ ⟨hx, hb, hml, hr, hlocks, hown, hts, hK, hN, hZ, hP, hD, hA, hS, hl⟩ hret
  have hown : s.vm.findClass RX4 = some mt.cls := hown
  have hl : lv_has ls 4 [(0, .ref h), (1, .int (nI 30)), (2, .int x), (3, .int (nI d))] := hl
  have hin4 : ∀ w ∈ wsX40, w ∈ wsX4_sayBody := fun w h => List.mem_cons_of_mem _ (List.mem_append_right _ (h))
  refine lv_iload_n hx hb dX4_sayBody_0 rfl (lv_at hl 1 rfl) ?_
  refine lv_lookup (off := 191) (tgt := 192) hx hb dX4_sayBody_1 (by decide) (by decide) (by decide) ?_
  refine lv_iconst (v := nI 0) hx hb dX4_sayBody_192 (by decide) ?_
  refine lv_aload_n hx hb dX4_sayBody_193 rfl (lv_at hl 0 rfl) ?_
  refine lv_iconst (v := nI 0) hx hb dX4_sayBody_194 (by decide) ?_
  refine lv_iconst (v := nI 1) hx hb dX4_sayBody_195 (by decide) ?_
  refine lv_iload_n hx hb dX4_sayBody_196 rfl (lv_at hl 2 rfl) ?_
  refine lv_iload_n hx hb dX4_sayBody_197 rfl (lv_at hl 3 rfl) ?_
  refine zci (wr := []) (va_runV (As := [.int (nI 0), .int (nI 1), .int x, .int (nI d)]) (rest := [.int (nI 0)]) ⟨hx, hb, hml, hown, hts⟩ (c_X4_say_0_1_2 l D cI cJ h hT9 T tn sp mm x d (by first | rfl | assumption | omega) (by first | rfl | assumption | omega) s.heap.size) (cwV 4 hts gX4_sayBody_X4_say rfl rfl rfl (by decide +kernel) ⟨Nat.le_of_ble_eq_true rfl, Nat.le_of_ble_eq_true rfl⟩) (zpV hK hN hZ hP hD hS hA [0, 1] rfl (by decide) 0 rfl rfl rfl) rfl rfl hl.1 rfl (lv_room (Nat.le_of_ble_eq_true rfl)) dX4_sayBody_198 ⟨Nat.zero_le _, Nat.zero_le _⟩) hP hD hS hA [0, 1] [] rfl rfl (by decide) (by decide) (fun r_3 w_2 H locs h_1 hP hD hS => ?_)
  obtain ⟨rfl, rfl⟩ := h_1
  have hP : va_P D vwCl [(h, .inr (4, [.ref hT9, .int (nI (((tn + 1) + 1))), .int (nI 0), .int (nI 2), .int (nI sp), .int mm])), (hT9, .inl (cI, 30, .inl ((upd (upd T tn (nI 11)) (tn + 1) (nI 10)))))] H := hP
  have hD : va_D AA [(h, .inr (4, [.ref hT9, .int (nI (((tn + 1) + 1))), .int (nI 0), .int (nI 2), .int (nI sp), .int mm])), (hT9, .inl (cI, 30, .inl ((upd (upd T tn (nI 11)) (tn + 1) (nI 10)))))] := hD
  refine lv_isub hx hb dX4_sayBody_201 ?_
  exact hret hP hD hS dX4_sayBody_202 rfl (by exact ⟨rfl, rfl⟩)
set_option maxHeartbeats 4000000 in
set_option maxRecDepth 100000 in
theorem c_X4_say_2_1_2 (l : Launch) (D : va_G) (cI cJ : ClassId) (h : Nat) (hT9 : Nat) (T : Nat → Int32) (tn : Nat) (sp : Nat) (mm : Int32) (x : Int32) (d : Nat) (htn : tn + 3 ≤ 30) (hd : d + 3 ≤ 40) : zMi l yX4_say wsX4_say ({ frames := 6, cells := 0, slots := 0, locals := 142 } : Room) D [(cI, .int), (cJ, .array .int)] [.ref h, .int (nI 2), .int (nI 1), .int x, .int (nI d)] [(h, .inr (4, [.ref hT9, .int (nI tn), .int (nI 0), .int (nI 2), .int (nI sp), .int mm])), (hT9, .inl (cI, 30, .inl T))] (fun r w => r = (zcounts 2 2 sp mm x ) ∧ w = [(h, .inr (4, [.ref hT9, .int (nI ((((tn + 1) + 1) + 1))), .int (nI 0), .int (nI 2), .int (nI sp), .int mm])), (hT9, .inl (cI, 30, .inl ((upd (upd (upd T tn (nI 30)) (tn + 1) (nI 11)) ((tn + 1) + 1) (nI 10)))))]) := by
  refine zMi.start (cc := cX4_say) (maxL := 6) (rt := .int) (by first | decide | decide +kernel) rfl (Nat.le_of_ble_eq_true rfl) ?_
  intro pg ev s mt args below meth cd ls AA QQ ⟨hx, hb, hml, hr, hlocks, hown, hts, hK, hN, hZ, hP, hD, hA, hS, hl⟩ hret
  have hown : s.vm.findClass RX4 = some mt.cls := hown
  have hl : lv_has ls 6 [(0, .ref h), (1, .int (nI 2)), (2, .int (nI 1)), (3, .int x), (4, .int (nI d))] := hl
  have hin4 : ∀ w ∈ wsX40, w ∈ wsX4_say := fun w h => List.mem_cons_of_mem _ (List.mem_append_right _ (h))
  refine lv_aload_n hx hb dX4_say_0 rfl (lv_at hl 0 rfl) ?_
  refine va_get (ci := 4) (v := .int (nI 0)) (C := RX4) (T := TX4) (N := 6) hx hb hts hin4 hown hK hP 0 rfl rfl 2 (by decide) (hts (.fieldLink RX4 19 "UpAllRound$Voices" "parted" "Z") (List.mem_of_getElem? (i := 1) rfl)) (fun _ h9 => h9) rfl dX4_say_1 ?_
  refine lv_if_ne (tgt := 14) hx hb dX4_say_4 (by decide) (fun c4_1 => ?_) (fun c4_1 => ?_)
  · have c4_1 : ¬ (0 = 0) := fun h9 => c4_1 ((nI_eq (a := 0) (b := 0) (by omega) (by omega)).mpr h9)
    exact absurd c4_1 (by omega)
  · have c4_1 : 0 = 0 := (nI_eq (a := 0) (b := 0) (by omega) (by omega)).mp c4_1
    refine lv_iload hx hb dX4_say_7 (lv_at hl 4 rfl) ?_
    refine lv_bipush (v := nI 40) hx hb dX4_say_9 (by decide) ?_
    refine lv_icmp_le (tgt := 16) hx hb dX4_say_11 (by decide) (fun c11_2 => ?_) (fun c11_2 => ?_)
    · have c11_2 : d ≤ 40 := (nI_leI (a := d) (b := 40) (by omega) (by omega)).mp c11_2
      refine lv_iload_n hx hb dX4_say_16 rfl (lv_at hl 1 rfl) ?_
      refine lv_iload_n hx hb dX4_say_17 rfl (lv_at hl 2 rfl) ?_
      refine zcsE (va_runS (As := [.int (nI 2), .int (nI 1)]) (rest := []) ⟨hx, hb, hml, hown, hts⟩ (c_X4_find_2_1 l D cI cJ   s.heap.size) (va_cwS 2 hts gX4_say_X4_find rfl rfl rfl (by decide +kernel) ⟨Nat.le_of_ble_eq_true rfl, Nat.le_of_ble_eq_true rfl⟩) (zpS hK hN hZ hP hD hS hA [] rfl (by decide)) rfl rfl hl.1 rfl (lv_room (Nat.le_of_ble_eq_true rfl)) dX4_say_18 ⟨Nat.zero_le _, Nat.zero_le _⟩) ?_
      refine lv_istore (lv' := [(5, .int (nI 30)), (0, .ref h), (1, .int (nI 2)), (2, .int (nI 1)), (3, .int x), (4, .int (nI d))]) hx hb dX4_say_21 hl (by decide) rfl (fun ls hl => ?_)
      refine lv_aload_n hx hb dX4_say_23 rfl (lv_at hl 1 rfl) ?_
      refine lv_iload hx hb dX4_say_24 (lv_at hl 0 rfl) ?_
      refine zcv (wr := []) (va_runV (As := [.int (nI 30)]) (rest := []) ⟨hx, hb, hml, hown, hts⟩ (c_X4_begin l D cI cJ h hT9 T tn 0 2 sp mm 30 (by first | rfl | assumption | omega) s.heap.size) (cwV 1 hts gX4_say_X4_begin rfl rfl rfl (by decide +kernel) ⟨Nat.le_of_ble_eq_true rfl, Nat.le_of_ble_eq_true rfl⟩) (zpV hK hN hZ hP hD hS hA [0, 1] rfl (by decide) 0 rfl rfl rfl) rfl rfl hl.1 rfl (lv_room (Nat.le_of_ble_eq_true rfl)) dX4_say_26 ⟨Nat.zero_le _, Nat.zero_le _⟩) hP hD hS hA [0, 1] [] rfl rfl (by decide) (by decide) (fun w_4 H locs h_3 hP hD hS => ?_)
      obtain rfl := h_3
      have hP : va_P D vwCl [(h, .inr (4, [.ref hT9, .int (nI ((tn + 1))), .int (nI 0), .int (nI 2), .int (nI sp), .int mm])), (hT9, .inl (cI, 30, .inl ((upd T tn (nI 30)))))] H := hP
      have hD : va_D AA [(h, .inr (4, [.ref hT9, .int (nI ((tn + 1))), .int (nI 0), .int (nI 2), .int (nI sp), .int mm])), (hT9, .inl (cI, 30, .inl ((upd T tn (nI 30)))))] := hD
      refine lv_aload_n hx hb dX4_say_29 rfl (lv_at hl 1 rfl) ?_
      refine lv_iload hx hb dX4_say_30 (lv_at hl 0 rfl) ?_
      refine lv_iload_n hx hb dX4_say_32 rfl (lv_at hl 4 rfl) ?_
      refine lv_iload hx hb dX4_say_33 (lv_at hl 5 rfl) ?_
      refine lv_iconst (v := nI 1) hx hb dX4_say_35 (by decide) ?_
      refine lv_iadd hx hb dX4_say_36 ?_
      refine zrw (nI_add _ _) ?_
      refine zci (wr := []) (va_runV (As := [.int (nI 30), .int x, .int (nI (d + 1))]) (rest := []) ⟨hx, hb, hml, hown, hts⟩ (c_X4_sayBody_2_1_2 l D cI cJ h hT9 ((upd T tn (nI 30))) ((tn + 1)) sp mm x (d + 1) (by first | rfl | assumption | omega) (by first | rfl | assumption | omega) H.size) (cwV 3 hts gX4_say_X4_sayBody rfl rfl rfl (by decide +kernel) ⟨Nat.le_of_ble_eq_true rfl, Nat.le_of_ble_eq_true rfl⟩) (zpV hK hN hZ hP hD hS hA [0, 1] rfl (by decide) 0 rfl rfl rfl) rfl rfl hl.1 rfl (lv_room (Nat.le_of_ble_eq_true rfl)) dX4_say_37 ⟨Nat.zero_le _, Nat.zero_le _⟩) hP hD hS hA [0, 1] [] rfl rfl (by decide) (by decide) (fun r_7 w_6 H locs h_5 hP hD hS => ?_)
      obtain ⟨rfl, rfl⟩ := h_5
      have hP : va_P D vwCl [(h, .inr (4, [.ref hT9, .int (nI (((((tn + 1)) + 1) + 1))), .int (nI 0), .int (nI 2), .int (nI sp), .int mm])), (hT9, .inl (cI, 30, .inl ((upd (upd ((upd T tn (nI 30))) ((tn + 1)) (nI 11)) (((tn + 1)) + 1) (nI 10)))))] H := hP
      have hD : va_D AA [(h, .inr (4, [.ref hT9, .int (nI (((((tn + 1)) + 1) + 1))), .int (nI 0), .int (nI 2), .int (nI sp), .int mm])), (hT9, .inl (cI, 30, .inl ((upd (upd ((upd T tn (nI 30))) ((tn + 1)) (nI 11)) (((tn + 1)) + 1) (nI 10)))))] := hD
      exact hret hP hD hS dX4_say_40 rfl (by exact ⟨rfl, rfl⟩)
    · have c11_2 : ¬ (d ≤ 40) := fun h9 => c11_2 ((nI_leI (a := d) (b := 40) (by omega) (by omega)).mpr h9)
      exact absurd c11_2 (by omega)
set_option maxHeartbeats 4000000 in
set_option maxRecDepth 100000 in
theorem c_X4_sayBody_2_2_2 (l : Launch) (D : va_G) (cI cJ : ClassId) (h : Nat) (hT9 : Nat) (T : Nat → Int32) (tn : Nat) (sp : Nat) (mm : Int32) (x : Int32) (d : Nat) (htn : tn + 3 ≤ 30) (hd : d + 3 ≤ 40) : zMi l yX4_sayBody wsX4_sayBody ({ frames := 7, cells := 0, slots := 0, locals := 167 } : Room) D [(cI, .int), (cJ, .array .int)] [.ref h, .int (nI 12), .int x, .int (nI d)] [(h, .inr (4, [.ref hT9, .int (nI tn), .int (nI 0), .int (nI 2), .int (nI sp), .int mm])), (hT9, .inl (cI, 30, .inl T))] (fun r w => r = (zswears 2 2 sp mm x ) ∧ w = [(h, .inr (4, [.ref hT9, .int (nI ((((tn + 1) + 1) + 1))), .int (nI 0), .int (nI 2), .int (nI sp), .int mm])), (hT9, .inl (cI, 30, .inl ((upd (upd (upd T tn (nI 30)) (tn + 1) (nI 11)) ((tn + 1) + 1) (nI 10)))))]) := by
  refine zMi.start (cc := cX4_sayBody) (maxL := 4) (rt := .int) (by first | decide | decide +kernel) rfl (Nat.le_of_ble_eq_true rfl) ?_
  intro pg ev s mt args below meth cd ls AA QQ ⟨hx, hb, hml, hr, hlocks, hown, hts, hK, hN, hZ, hP, hD, hA, hS, hl⟩ hret
  have hown : s.vm.findClass RX4 = some mt.cls := hown
  have hl : lv_has ls 4 [(0, .ref h), (1, .int (nI 12)), (2, .int x), (3, .int (nI d))] := hl
  have hin4 : ∀ w ∈ wsX40, w ∈ wsX4_sayBody := fun w h => List.mem_cons_of_mem _ (List.mem_append_right _ (h))
  refine lv_iload_n hx hb dX4_sayBody_0 rfl (lv_at hl 1 rfl) ?_
  refine lv_lookup (off := 136) (tgt := 137) hx hb dX4_sayBody_1 (by decide) (by decide) (by decide) ?_
  refine lv_aload_n hx hb dX4_sayBody_137 rfl (lv_at hl 0 rfl) ?_
  refine lv_aload_n hx hb dX4_sayBody_138 rfl (lv_at hl 0 rfl) ?_
  refine va_get (ci := 4) (v := .int (nI 2)) (C := RX4) (T := TX4) (N := 6) hx hb hts hin4 hown hK hP 0 rfl rfl 3 (by decide) (hts (.fieldLink RX4 23 "UpAllRound$Voices" "kind" "I") (List.mem_of_getElem? (i := 2) rfl)) (fun _ h9 => h9) rfl dX4_sayBody_139 ?_
  refine lv_iconst (v := nI 1) hx hb dX4_sayBody_142 (by decide) ?_
  refine lv_iload_n hx hb dX4_sayBody_143 rfl (lv_at hl 2 rfl) ?_
  refine lv_iload_n hx hb dX4_sayBody_144 rfl (lv_at hl 3 rfl) ?_
  refine zci (wr := []) (va_runV (As := [.int (nI 2), .int (nI 1), .int x, .int (nI d)]) (rest := []) ⟨hx, hb, hml, hown, hts⟩ (c_X4_say_2_1_2 l D cI cJ h hT9 T tn sp mm x d (by first | rfl | assumption | omega) (by first | rfl | assumption | omega) s.heap.size) (cwV 4 hts gX4_sayBody_X4_say rfl rfl rfl (by decide +kernel) ⟨Nat.le_of_ble_eq_true rfl, Nat.le_of_ble_eq_true rfl⟩) (zpV hK hN hZ hP hD hS hA [0, 1] rfl (by decide) 0 rfl rfl rfl) rfl rfl hl.1 rfl (lv_room (Nat.le_of_ble_eq_true rfl)) dX4_sayBody_145 ⟨Nat.zero_le _, Nat.zero_le _⟩) hP hD hS hA [0, 1] [] rfl rfl (by decide) (by decide) (fun r_3 w_2 H locs h_1 hP hD hS => ?_)
  obtain ⟨rfl, rfl⟩ := h_1
  have hP : va_P D vwCl [(h, .inr (4, [.ref hT9, .int (nI ((((tn + 1) + 1) + 1))), .int (nI 0), .int (nI 2), .int (nI sp), .int mm])), (hT9, .inl (cI, 30, .inl ((upd (upd (upd T tn (nI 30)) (tn + 1) (nI 11)) ((tn + 1) + 1) (nI 10)))))] H := hP
  have hD : va_D AA [(h, .inr (4, [.ref hT9, .int (nI ((((tn + 1) + 1) + 1))), .int (nI 0), .int (nI 2), .int (nI sp), .int mm])), (hT9, .inl (cI, 30, .inl ((upd (upd (upd T tn (nI 30)) (tn + 1) (nI 11)) ((tn + 1) + 1) (nI 10)))))] := hD
  refine lv_aload_n hx hb dX4_sayBody_148 rfl (lv_at hl 0 rfl) ?_
  refine va_get (ci := 4) (v := .int mm) (C := RX4) (T := TX4) (N := 6) hx hb hts hin4 hown hK hP 0 rfl rfl 5 (by decide) (hts (.fieldLink RX4 29 "UpAllRound$Voices" "m" "I") (List.mem_of_getElem? (i := 3) rfl)) (fun _ h9 => h9) rfl dX4_sayBody_149 ?_
  refine lv_isub hx hb dX4_sayBody_152 ?_
  exact hret hP hD hS dX4_sayBody_153 rfl (by exact ⟨rfl, rfl⟩)
set_option maxHeartbeats 4000000 in
set_option maxRecDepth 100000 in
theorem c_X4_say_2_2_2 (l : Launch) (D : va_G) (cI cJ : ClassId) (h : Nat) (hT9 : Nat) (T : Nat → Int32) (tn : Nat) (sp : Nat) (mm : Int32) (x : Int32) (d : Nat) (htn : tn + 4 ≤ 30) (hd : d + 4 ≤ 40) : zMi l yX4_say wsX4_say ({ frames := 8, cells := 0, slots := 0, locals := 190 } : Room) D [(cI, .int), (cJ, .array .int)] [.ref h, .int (nI 2), .int (nI 2), .int x, .int (nI d)] [(h, .inr (4, [.ref hT9, .int (nI tn), .int (nI 0), .int (nI 2), .int (nI sp), .int mm])), (hT9, .inl (cI, 30, .inl T))] (fun r w => r = (zswears 2 2 sp mm x ) ∧ w = [(h, .inr (4, [.ref hT9, .int (nI (((((tn + 1) + 1) + 1) + 1))), .int (nI 0), .int (nI 2), .int (nI sp), .int mm])), (hT9, .inl (cI, 30, .inl ((upd (upd (upd (upd T tn (nI 12)) (tn + 1) (nI 30)) ((tn + 1) + 1) (nI 11)) (((tn + 1) + 1) + 1) (nI 10)))))]) := by
  refine zMi.start (cc := cX4_say) (maxL := 6) (rt := .int) (by first | decide | decide +kernel) rfl (Nat.le_of_ble_eq_true rfl) ?_
  intro pg ev s mt args below meth cd ls AA QQ ⟨hx, hb, hml, hr, hlocks, hown, hts, hK, hN, hZ, hP, hD, hA, hS, hl⟩ hret
  have hown : s.vm.findClass RX4 = some mt.cls := hown
  have hl : lv_has ls 6 [(0, .ref h), (1, .int (nI 2)), (2, .int (nI 2)), (3, .int x), (4, .int (nI d))] := hl
  have hin4 : ∀ w ∈ wsX40, w ∈ wsX4_say := fun w h => List.mem_cons_of_mem _ (List.mem_append_right _ (h))
  refine lv_aload_n hx hb dX4_say_0 rfl (lv_at hl 0 rfl) ?_
  refine va_get (ci := 4) (v := .int (nI 0)) (C := RX4) (T := TX4) (N := 6) hx hb hts hin4 hown hK hP 0 rfl rfl 2 (by decide) (hts (.fieldLink RX4 19 "UpAllRound$Voices" "parted" "Z") (List.mem_of_getElem? (i := 1) rfl)) (fun _ h9 => h9) rfl dX4_say_1 ?_
  refine lv_if_ne (tgt := 14) hx hb dX4_say_4 (by decide) (fun c4_1 => ?_) (fun c4_1 => ?_)
  · have c4_1 : ¬ (0 = 0) := fun h9 => c4_1 ((nI_eq (a := 0) (b := 0) (by omega) (by omega)).mpr h9)
    exact absurd c4_1 (by omega)
  · have c4_1 : 0 = 0 := (nI_eq (a := 0) (b := 0) (by omega) (by omega)).mp c4_1
    refine lv_iload hx hb dX4_say_7 (lv_at hl 4 rfl) ?_
    refine lv_bipush (v := nI 40) hx hb dX4_say_9 (by decide) ?_
    refine lv_icmp_le (tgt := 16) hx hb dX4_say_11 (by decide) (fun c11_2 => ?_) (fun c11_2 => ?_)
    · have c11_2 : d ≤ 40 := (nI_leI (a := d) (b := 40) (by omega) (by omega)).mp c11_2
      refine lv_iload_n hx hb dX4_say_16 rfl (lv_at hl 1 rfl) ?_
      refine lv_iload_n hx hb dX4_say_17 rfl (lv_at hl 2 rfl) ?_
      refine zcsE (va_runS (As := [.int (nI 2), .int (nI 2)]) (rest := []) ⟨hx, hb, hml, hown, hts⟩ (c_X4_find_2_2 l D cI cJ   s.heap.size) (va_cwS 2 hts gX4_say_X4_find rfl rfl rfl (by decide +kernel) ⟨Nat.le_of_ble_eq_true rfl, Nat.le_of_ble_eq_true rfl⟩) (zpS hK hN hZ hP hD hS hA [] rfl (by decide)) rfl rfl hl.1 rfl (lv_room (Nat.le_of_ble_eq_true rfl)) dX4_say_18 ⟨Nat.zero_le _, Nat.zero_le _⟩) ?_
      refine lv_istore (lv' := [(5, .int (nI 12)), (0, .ref h), (1, .int (nI 2)), (2, .int (nI 2)), (3, .int x), (4, .int (nI d))]) hx hb dX4_say_21 hl (by decide) rfl (fun ls hl => ?_)
      refine lv_aload_n hx hb dX4_say_23 rfl (lv_at hl 1 rfl) ?_
      refine lv_iload hx hb dX4_say_24 (lv_at hl 0 rfl) ?_
      refine zcv (wr := []) (va_runV (As := [.int (nI 12)]) (rest := []) ⟨hx, hb, hml, hown, hts⟩ (c_X4_begin l D cI cJ h hT9 T tn 0 2 sp mm 12 (by first | rfl | assumption | omega) s.heap.size) (cwV 1 hts gX4_say_X4_begin rfl rfl rfl (by decide +kernel) ⟨Nat.le_of_ble_eq_true rfl, Nat.le_of_ble_eq_true rfl⟩) (zpV hK hN hZ hP hD hS hA [0, 1] rfl (by decide) 0 rfl rfl rfl) rfl rfl hl.1 rfl (lv_room (Nat.le_of_ble_eq_true rfl)) dX4_say_26 ⟨Nat.zero_le _, Nat.zero_le _⟩) hP hD hS hA [0, 1] [] rfl rfl (by decide) (by decide) (fun w_4 H locs h_3 hP hD hS => ?_)
      obtain rfl := h_3
      have hP : va_P D vwCl [(h, .inr (4, [.ref hT9, .int (nI ((tn + 1))), .int (nI 0), .int (nI 2), .int (nI sp), .int mm])), (hT9, .inl (cI, 30, .inl ((upd T tn (nI 12)))))] H := hP
      have hD : va_D AA [(h, .inr (4, [.ref hT9, .int (nI ((tn + 1))), .int (nI 0), .int (nI 2), .int (nI sp), .int mm])), (hT9, .inl (cI, 30, .inl ((upd T tn (nI 12)))))] := hD
      refine lv_aload_n hx hb dX4_say_29 rfl (lv_at hl 1 rfl) ?_
      refine lv_iload hx hb dX4_say_30 (lv_at hl 0 rfl) ?_
      refine lv_iload_n hx hb dX4_say_32 rfl (lv_at hl 4 rfl) ?_
      refine lv_iload hx hb dX4_say_33 (lv_at hl 5 rfl) ?_
      refine lv_iconst (v := nI 1) hx hb dX4_say_35 (by decide) ?_
      refine lv_iadd hx hb dX4_say_36 ?_
      refine zrw (nI_add _ _) ?_
      refine zci (wr := []) (va_runV (As := [.int (nI 12), .int x, .int (nI (d + 1))]) (rest := []) ⟨hx, hb, hml, hown, hts⟩ (c_X4_sayBody_2_2_2 l D cI cJ h hT9 ((upd T tn (nI 12))) ((tn + 1)) sp mm x (d + 1) (by first | rfl | assumption | omega) (by first | rfl | assumption | omega) H.size) (cwV 3 hts gX4_say_X4_sayBody rfl rfl rfl (by decide +kernel) ⟨Nat.le_of_ble_eq_true rfl, Nat.le_of_ble_eq_true rfl⟩) (zpV hK hN hZ hP hD hS hA [0, 1] rfl (by decide) 0 rfl rfl rfl) rfl rfl hl.1 rfl (lv_room (Nat.le_of_ble_eq_true rfl)) dX4_say_37 ⟨Nat.zero_le _, Nat.zero_le _⟩) hP hD hS hA [0, 1] [] rfl rfl (by decide) (by decide) (fun r_7 w_6 H locs h_5 hP hD hS => ?_)
      obtain ⟨rfl, rfl⟩ := h_5
      have hP : va_P D vwCl [(h, .inr (4, [.ref hT9, .int (nI ((((((tn + 1)) + 1) + 1) + 1))), .int (nI 0), .int (nI 2), .int (nI sp), .int mm])), (hT9, .inl (cI, 30, .inl ((upd (upd (upd ((upd T tn (nI 12))) ((tn + 1)) (nI 30)) (((tn + 1)) + 1) (nI 11)) ((((tn + 1)) + 1) + 1) (nI 10)))))] H := hP
      have hD : va_D AA [(h, .inr (4, [.ref hT9, .int (nI ((((((tn + 1)) + 1) + 1) + 1))), .int (nI 0), .int (nI 2), .int (nI sp), .int mm])), (hT9, .inl (cI, 30, .inl ((upd (upd (upd ((upd T tn (nI 12))) ((tn + 1)) (nI 30)) (((tn + 1)) + 1) (nI 11)) ((((tn + 1)) + 1) + 1) (nI 10)))))] := hD
      exact hret hP hD hS dX4_say_40 rfl (by exact ⟨rfl, rfl⟩)
    · have c11_2 : ¬ (d ≤ 40) := fun h9 => c11_2 ((nI_leI (a := d) (b := 40) (by omega) (by omega)).mpr h9)
      exact absurd c11_2 (by omega)
set_option maxHeartbeats 4000000 in
set_option maxRecDepth 100000 in
theorem c_X4_sayBody_2_3_2 (l : Launch) (D : va_G) (cI cJ : ClassId) (h : Nat) (hT9 : Nat) (T : Nat → Int32) (tn : Nat) (sp : Nat) (mm : Int32) (x : Int32) (d : Nat) (htn : tn + 0 ≤ 30) (hd : d + 0 ≤ 40) : zMi l yX4_sayBody wsX4_sayBody ({ frames := 1, cells := 0, slots := 0, locals := 22 } : Room) D [(cI, .int), (cJ, .array .int)] [.ref h, .int (nI 13), .int x, .int (nI d)] [(h, .inr (4, [.ref hT9, .int (nI tn), .int (nI 0), .int (nI 2), .int (nI sp), .int mm])), (hT9, .inl (cI, 30, .inl T))] (fun r w => r = (zpv sp mm x) ∧ w = [(h, .inr (4, [.ref hT9, .int (nI tn), .int (nI ((zpd sp mm))), .int (nI 2), .int (nI sp), .int mm])), (hT9, .inl (cI, 30, .inl T))]) := by
  refine zMi.start (cc := cX4_sayBody) (maxL := 4) (rt := .int) (by first | decide | decide +kernel) rfl (Nat.le_of_ble_eq_true rfl) ?_
  intro pg ev s mt args below meth cd ls AA QQ ⟨hx, hb, hml, hr, hlocks, hown, hts, hK, hN, hZ, hP, hD, hA, hS, hl⟩ hret
  have hown : s.vm.findClass RX4 = some mt.cls := hown
  have hl : lv_has ls 4 [(0, .ref h), (1, .int (nI 13)), (2, .int x), (3, .int (nI d))] := hl
  have hin4 : ∀ w ∈ wsX40, w ∈ wsX4_sayBody := fun w h => List.mem_cons_of_mem _ (List.mem_append_right _ (h))
  refine lv_iload_n hx hb dX4_sayBody_0 rfl (lv_at hl 1 rfl) ?_
  refine lv_lookup (off := 153) (tgt := 154) hx hb dX4_sayBody_1 (by decide) (by decide) (by decide) ?_
  refine lv_aload_n hx hb dX4_sayBody_154 rfl (lv_at hl 0 rfl) ?_
  refine lv_iload_n hx hb dX4_sayBody_155 rfl (lv_at hl 2 rfl) ?_
  refine zci (wr := [(hT9, .inl (cI, 30, .inl T))]) (va_runV (As := [.int x]) (rest := []) ⟨hx, hb, hml, hown, hts⟩ (c_X4_part l D cI cJ h hT9 tn 2 sp mm x  s.heap.size) (cwV 1 hts gX4_sayBody_X4_part rfl rfl rfl (by decide +kernel) ⟨Nat.le_of_ble_eq_true rfl, Nat.le_of_ble_eq_true rfl⟩) (zpV hK hN hZ hP hD hS hA [0] rfl (by decide) 0 rfl rfl rfl) rfl rfl hl.1 rfl (lv_room (Nat.le_of_ble_eq_true rfl)) dX4_sayBody_156 ⟨Nat.zero_le _, Nat.zero_le _⟩) hP hD hS hA [0] [1] rfl rfl (by decide) (by decide) (fun r_3 w_2 H locs h_1 hP hD hS => ?_)
  obtain ⟨rfl, rfl⟩ := h_1
  have hP : va_P D vwCl [(hT9, .inl (cI, 30, .inl T)), (h, .inr (4, [.ref hT9, .int (nI tn), .int (nI ((zpd sp mm))), .int (nI 2), .int (nI sp), .int mm]))] H := hP
  have hD : va_D AA [(hT9, .inl (cI, 30, .inl T)), (h, .inr (4, [.ref hT9, .int (nI tn), .int (nI ((zpd sp mm))), .int (nI 2), .int (nI sp), .int mm]))] := hD
  have hP := hP.sub (ws' := [(h, .inr (4, [.ref hT9, .int (nI tn), .int (nI ((zpd sp mm))), .int (nI 2), .int (nI sp), .int mm])), (hT9, .inl (cI, 30, .inl T))]) [1, 0] rfl
  have hD := hD.sub (ws' := [(h, .inr (4, [.ref hT9, .int (nI tn), .int (nI ((zpd sp mm))), .int (nI 2), .int (nI sp), .int mm])), (hT9, .inl (cI, 30, .inl T))]) [1, 0] (by decide) rfl
  exact hret hP hD hS dX4_sayBody_159 rfl (by exact ⟨rfl, rfl⟩)
set_option maxHeartbeats 4000000 in
set_option maxRecDepth 100000 in
theorem c_X4_say_2_3_2 (l : Launch) (D : va_G) (cI cJ : ClassId) (h : Nat) (hT9 : Nat) (T : Nat → Int32) (tn : Nat) (sp : Nat) (mm : Int32) (x : Int32) (d : Nat) (htn : tn + 1 ≤ 30) (hd : d + 1 ≤ 40) : zMi l yX4_say wsX4_say ({ frames := 2, cells := 0, slots := 0, locals := 46 } : Room) D [(cI, .int), (cJ, .array .int)] [.ref h, .int (nI 2), .int (nI 3), .int x, .int (nI d)] [(h, .inr (4, [.ref hT9, .int (nI tn), .int (nI 0), .int (nI 2), .int (nI sp), .int mm])), (hT9, .inl (cI, 30, .inl T))] (fun r w => r = (zpv sp mm x) ∧ w = [(h, .inr (4, [.ref hT9, .int (nI ((tn + 1))), .int (nI ((zpd sp mm))), .int (nI 2), .int (nI sp), .int mm])), (hT9, .inl (cI, 30, .inl ((upd T tn (nI 13)))))]) := by
  refine zMi.start (cc := cX4_say) (maxL := 6) (rt := .int) (by first | decide | decide +kernel) rfl (Nat.le_of_ble_eq_true rfl) ?_
  intro pg ev s mt args below meth cd ls AA QQ ⟨hx, hb, hml, hr, hlocks, hown, hts, hK, hN, hZ, hP, hD, hA, hS, hl⟩ hret
  have hown : s.vm.findClass RX4 = some mt.cls := hown
  have hl : lv_has ls 6 [(0, .ref h), (1, .int (nI 2)), (2, .int (nI 3)), (3, .int x), (4, .int (nI d))] := hl
  have hin4 : ∀ w ∈ wsX40, w ∈ wsX4_say := fun w h => List.mem_cons_of_mem _ (List.mem_append_right _ (h))
  refine lv_aload_n hx hb dX4_say_0 rfl (lv_at hl 0 rfl) ?_
  refine va_get (ci := 4) (v := .int (nI 0)) (C := RX4) (T := TX4) (N := 6) hx hb hts hin4 hown hK hP 0 rfl rfl 2 (by decide) (hts (.fieldLink RX4 19 "UpAllRound$Voices" "parted" "Z") (List.mem_of_getElem? (i := 1) rfl)) (fun _ h9 => h9) rfl dX4_say_1 ?_
  refine lv_if_ne (tgt := 14) hx hb dX4_say_4 (by decide) (fun c4_1 => ?_) (fun c4_1 => ?_)
  · have c4_1 : ¬ (0 = 0) := fun h9 => c4_1 ((nI_eq (a := 0) (b := 0) (by omega) (by omega)).mpr h9)
    exact absurd c4_1 (by omega)
  · have c4_1 : 0 = 0 := (nI_eq (a := 0) (b := 0) (by omega) (by omega)).mp c4_1
    refine lv_iload hx hb dX4_say_7 (lv_at hl 4 rfl) ?_
    refine lv_bipush (v := nI 40) hx hb dX4_say_9 (by decide) ?_
    refine lv_icmp_le (tgt := 16) hx hb dX4_say_11 (by decide) (fun c11_2 => ?_) (fun c11_2 => ?_)
    · have c11_2 : d ≤ 40 := (nI_leI (a := d) (b := 40) (by omega) (by omega)).mp c11_2
      refine lv_iload_n hx hb dX4_say_16 rfl (lv_at hl 1 rfl) ?_
      refine lv_iload_n hx hb dX4_say_17 rfl (lv_at hl 2 rfl) ?_
      refine zcsE (va_runS (As := [.int (nI 2), .int (nI 3)]) (rest := []) ⟨hx, hb, hml, hown, hts⟩ (c_X4_find_2_3 l D cI cJ   s.heap.size) (va_cwS 2 hts gX4_say_X4_find rfl rfl rfl (by decide +kernel) ⟨Nat.le_of_ble_eq_true rfl, Nat.le_of_ble_eq_true rfl⟩) (zpS hK hN hZ hP hD hS hA [] rfl (by decide)) rfl rfl hl.1 rfl (lv_room (Nat.le_of_ble_eq_true rfl)) dX4_say_18 ⟨Nat.zero_le _, Nat.zero_le _⟩) ?_
      refine lv_istore (lv' := [(5, .int (nI 13)), (0, .ref h), (1, .int (nI 2)), (2, .int (nI 3)), (3, .int x), (4, .int (nI d))]) hx hb dX4_say_21 hl (by decide) rfl (fun ls hl => ?_)
      refine lv_aload_n hx hb dX4_say_23 rfl (lv_at hl 1 rfl) ?_
      refine lv_iload hx hb dX4_say_24 (lv_at hl 0 rfl) ?_
      refine zcv (wr := []) (va_runV (As := [.int (nI 13)]) (rest := []) ⟨hx, hb, hml, hown, hts⟩ (c_X4_begin l D cI cJ h hT9 T tn 0 2 sp mm 13 (by first | rfl | assumption | omega) s.heap.size) (cwV 1 hts gX4_say_X4_begin rfl rfl rfl (by decide +kernel) ⟨Nat.le_of_ble_eq_true rfl, Nat.le_of_ble_eq_true rfl⟩) (zpV hK hN hZ hP hD hS hA [0, 1] rfl (by decide) 0 rfl rfl rfl) rfl rfl hl.1 rfl (lv_room (Nat.le_of_ble_eq_true rfl)) dX4_say_26 ⟨Nat.zero_le _, Nat.zero_le _⟩) hP hD hS hA [0, 1] [] rfl rfl (by decide) (by decide) (fun w_4 H locs h_3 hP hD hS => ?_)
      obtain rfl := h_3
      have hP : va_P D vwCl [(h, .inr (4, [.ref hT9, .int (nI ((tn + 1))), .int (nI 0), .int (nI 2), .int (nI sp), .int mm])), (hT9, .inl (cI, 30, .inl ((upd T tn (nI 13)))))] H := hP
      have hD : va_D AA [(h, .inr (4, [.ref hT9, .int (nI ((tn + 1))), .int (nI 0), .int (nI 2), .int (nI sp), .int mm])), (hT9, .inl (cI, 30, .inl ((upd T tn (nI 13)))))] := hD
      refine lv_aload_n hx hb dX4_say_29 rfl (lv_at hl 1 rfl) ?_
      refine lv_iload hx hb dX4_say_30 (lv_at hl 0 rfl) ?_
      refine lv_iload_n hx hb dX4_say_32 rfl (lv_at hl 4 rfl) ?_
      refine lv_iload hx hb dX4_say_33 (lv_at hl 5 rfl) ?_
      refine lv_iconst (v := nI 1) hx hb dX4_say_35 (by decide) ?_
      refine lv_iadd hx hb dX4_say_36 ?_
      refine zrw (nI_add _ _) ?_
      refine zci (wr := []) (va_runV (As := [.int (nI 13), .int x, .int (nI (d + 1))]) (rest := []) ⟨hx, hb, hml, hown, hts⟩ (c_X4_sayBody_2_3_2 l D cI cJ h hT9 ((upd T tn (nI 13))) ((tn + 1)) sp mm x (d + 1) (by first | rfl | assumption | omega) (by first | rfl | assumption | omega) H.size) (cwV 3 hts gX4_say_X4_sayBody rfl rfl rfl (by decide +kernel) ⟨Nat.le_of_ble_eq_true rfl, Nat.le_of_ble_eq_true rfl⟩) (zpV hK hN hZ hP hD hS hA [0, 1] rfl (by decide) 0 rfl rfl rfl) rfl rfl hl.1 rfl (lv_room (Nat.le_of_ble_eq_true rfl)) dX4_say_37 ⟨Nat.zero_le _, Nat.zero_le _⟩) hP hD hS hA [0, 1] [] rfl rfl (by decide) (by decide) (fun r_7 w_6 H locs h_5 hP hD hS => ?_)
      obtain ⟨rfl, rfl⟩ := h_5
      have hP : va_P D vwCl [(h, .inr (4, [.ref hT9, .int (nI (((tn + 1)))), .int (nI ((zpd sp mm))), .int (nI 2), .int (nI sp), .int mm])), (hT9, .inl (cI, 30, .inl (((upd T tn (nI 13))))))] H := hP
      have hD : va_D AA [(h, .inr (4, [.ref hT9, .int (nI (((tn + 1)))), .int (nI ((zpd sp mm))), .int (nI 2), .int (nI sp), .int mm])), (hT9, .inl (cI, 30, .inl (((upd T tn (nI 13))))))] := hD
      exact hret hP hD hS dX4_say_40 rfl (by exact ⟨rfl, rfl⟩)
    · have c11_2 : ¬ (d ≤ 40) := fun h9 => c11_2 ((nI_leI (a := d) (b := 40) (by omega) (by omega)).mpr h9)
      exact absurd c11_2 (by omega)
set_option maxHeartbeats 4000000 in
set_option maxRecDepth 100000 in
theorem c_X4_sayBody_3_0_3 (l : Launch) (D : va_G) (cI cJ : ClassId) (h : Nat) (hT9 : Nat) (T : Nat → Int32) (tn : Nat) (sp : Nat) (mm : Int32) (x : Int32) (d : Nat) (htn : tn + 0 ≤ 30) (hd : d + 0 ≤ 40) : zMi l yX4_sayBody wsX4_sayBody ({ frames := 0, cells := 0, slots := 0, locals := 0 } : Room) D [(cI, .int), (cJ, .array .int)] [.ref h, .int (nI 10), .int x, .int (nI d)] [(h, .inr (4, [.ref hT9, .int (nI tn), .int (nI 0), .int (nI 3), .int (nI sp), .int mm])), (hT9, .inl (cI, 30, .inl T))] (fun r w => r = (zpants 3 sp x ) ∧ w = [(h, .inr (4, [.ref hT9, .int (nI tn), .int (nI 0), .int (nI 3), .int (nI sp), .int mm])), (hT9, .inl (cI, 30, .inl T))]) := by
  refine zMi.start (cc := cX4_sayBody) (maxL := 4) (rt := .int) (by first | decide | decide +kernel) rfl (Nat.le_of_ble_eq_true rfl) ?_
  intro pg ev s mt args below meth cd ls AA QQ ⟨hx, hb, hml, hr, hlocks, hown, hts, hK, hN, hZ, hP, hD, hA, hS, hl⟩ hret
  have hown : s.vm.findClass RX4 = some mt.cls := hown
  have hl : lv_has ls 4 [(0, .ref h), (1, .int (nI 10)), (2, .int x), (3, .int (nI d))] := hl
  have hin4 : ∀ w ∈ wsX40, w ∈ wsX4_sayBody := fun w h => List.mem_cons_of_mem _ (List.mem_append_right _ (h))
  refine lv_iload_n hx hb dX4_sayBody_0 rfl (lv_at hl 1 rfl) ?_
  refine lv_lookup (off := 115) (tgt := 116) hx hb dX4_sayBody_1 (by decide) (by decide) (by decide) ?_
  refine lv_iload_n hx hb dX4_sayBody_116 rfl (lv_at hl 2 rfl) ?_
  refine lv_aload_n hx hb dX4_sayBody_117 rfl (lv_at hl 0 rfl) ?_
  refine va_get (ci := 4) (v := .int (nI sp)) (C := RX4) (T := TX4) (N := 6) hx hb hts hin4 hown hK hP 0 rfl rfl 4 (by decide) (hts (.fieldLink RX4 26 "UpAllRound$Voices" "k" "I") (List.mem_of_getElem? (i := 1) rfl)) (fun _ h9 => h9) rfl dX4_sayBody_118 ?_
  refine lv_iadd hx hb dX4_sayBody_121 ?_
  exact hret hP hD hS dX4_sayBody_122 rfl (by exact ⟨rfl, rfl⟩)
set_option maxHeartbeats 4000000 in
set_option maxRecDepth 100000 in
theorem c_X4_say_3_0_3 (l : Launch) (D : va_G) (cI cJ : ClassId) (h : Nat) (hT9 : Nat) (T : Nat → Int32) (tn : Nat) (sp : Nat) (mm : Int32) (x : Int32) (d : Nat) (htn : tn + 1 ≤ 30) (hd : d + 1 ≤ 40) : zMi l yX4_say wsX4_say ({ frames := 2, cells := 0, slots := 0, locals := 46 } : Room) D [(cI, .int), (cJ, .array .int)] [.ref h, .int (nI 3), .int (nI 0), .int x, .int (nI d)] [(h, .inr (4, [.ref hT9, .int (nI tn), .int (nI 0), .int (nI 3), .int (nI sp), .int mm])), (hT9, .inl (cI, 30, .inl T))] (fun r w => r = (zpants 3 sp x ) ∧ w = [(h, .inr (4, [.ref hT9, .int (nI ((tn + 1))), .int (nI 0), .int (nI 3), .int (nI sp), .int mm])), (hT9, .inl (cI, 30, .inl ((upd T tn (nI 10)))))]) := by
  refine zMi.start (cc := cX4_say) (maxL := 6) (rt := .int) (by first | decide | decide +kernel) rfl (Nat.le_of_ble_eq_true rfl) ?_
  intro pg ev s mt args below meth cd ls AA QQ ⟨hx, hb, hml, hr, hlocks, hown, hts, hK, hN, hZ, hP, hD, hA, hS, hl⟩ hret
  have hown : s.vm.findClass RX4 = some mt.cls := hown
  have hl : lv_has ls 6 [(0, .ref h), (1, .int (nI 3)), (2, .int (nI 0)), (3, .int x), (4, .int (nI d))] := hl
  have hin4 : ∀ w ∈ wsX40, w ∈ wsX4_say := fun w h => List.mem_cons_of_mem _ (List.mem_append_right _ (h))
  refine lv_aload_n hx hb dX4_say_0 rfl (lv_at hl 0 rfl) ?_
  refine va_get (ci := 4) (v := .int (nI 0)) (C := RX4) (T := TX4) (N := 6) hx hb hts hin4 hown hK hP 0 rfl rfl 2 (by decide) (hts (.fieldLink RX4 19 "UpAllRound$Voices" "parted" "Z") (List.mem_of_getElem? (i := 1) rfl)) (fun _ h9 => h9) rfl dX4_say_1 ?_
  refine lv_if_ne (tgt := 14) hx hb dX4_say_4 (by decide) (fun c4_1 => ?_) (fun c4_1 => ?_)
  · have c4_1 : ¬ (0 = 0) := fun h9 => c4_1 ((nI_eq (a := 0) (b := 0) (by omega) (by omega)).mpr h9)
    exact absurd c4_1 (by omega)
  · have c4_1 : 0 = 0 := (nI_eq (a := 0) (b := 0) (by omega) (by omega)).mp c4_1
    refine lv_iload hx hb dX4_say_7 (lv_at hl 4 rfl) ?_
    refine lv_bipush (v := nI 40) hx hb dX4_say_9 (by decide) ?_
    refine lv_icmp_le (tgt := 16) hx hb dX4_say_11 (by decide) (fun c11_2 => ?_) (fun c11_2 => ?_)
    · have c11_2 : d ≤ 40 := (nI_leI (a := d) (b := 40) (by omega) (by omega)).mp c11_2
      refine lv_iload_n hx hb dX4_say_16 rfl (lv_at hl 1 rfl) ?_
      refine lv_iload_n hx hb dX4_say_17 rfl (lv_at hl 2 rfl) ?_
      refine zcsE (va_runS (As := [.int (nI 3), .int (nI 0)]) (rest := []) ⟨hx, hb, hml, hown, hts⟩ (c_X4_find_3_0 l D cI cJ   s.heap.size) (va_cwS 2 hts gX4_say_X4_find rfl rfl rfl (by decide +kernel) ⟨Nat.le_of_ble_eq_true rfl, Nat.le_of_ble_eq_true rfl⟩) (zpS hK hN hZ hP hD hS hA [] rfl (by decide)) rfl rfl hl.1 rfl (lv_room (Nat.le_of_ble_eq_true rfl)) dX4_say_18 ⟨Nat.zero_le _, Nat.zero_le _⟩) ?_
      refine lv_istore (lv' := [(5, .int (nI 10)), (0, .ref h), (1, .int (nI 3)), (2, .int (nI 0)), (3, .int x), (4, .int (nI d))]) hx hb dX4_say_21 hl (by decide) rfl (fun ls hl => ?_)
      refine lv_aload_n hx hb dX4_say_23 rfl (lv_at hl 1 rfl) ?_
      refine lv_iload hx hb dX4_say_24 (lv_at hl 0 rfl) ?_
      refine zcv (wr := []) (va_runV (As := [.int (nI 10)]) (rest := []) ⟨hx, hb, hml, hown, hts⟩ (c_X4_begin l D cI cJ h hT9 T tn 0 3 sp mm 10 (by first | rfl | assumption | omega) s.heap.size) (cwV 1 hts gX4_say_X4_begin rfl rfl rfl (by decide +kernel) ⟨Nat.le_of_ble_eq_true rfl, Nat.le_of_ble_eq_true rfl⟩) (zpV hK hN hZ hP hD hS hA [0, 1] rfl (by decide) 0 rfl rfl rfl) rfl rfl hl.1 rfl (lv_room (Nat.le_of_ble_eq_true rfl)) dX4_say_26 ⟨Nat.zero_le _, Nat.zero_le _⟩) hP hD hS hA [0, 1] [] rfl rfl (by decide) (by decide) (fun w_4 H locs h_3 hP hD hS => ?_)
      obtain rfl := h_3
      have hP : va_P D vwCl [(h, .inr (4, [.ref hT9, .int (nI ((tn + 1))), .int (nI 0), .int (nI 3), .int (nI sp), .int mm])), (hT9, .inl (cI, 30, .inl ((upd T tn (nI 10)))))] H := hP
      have hD : va_D AA [(h, .inr (4, [.ref hT9, .int (nI ((tn + 1))), .int (nI 0), .int (nI 3), .int (nI sp), .int mm])), (hT9, .inl (cI, 30, .inl ((upd T tn (nI 10)))))] := hD
      refine lv_aload_n hx hb dX4_say_29 rfl (lv_at hl 1 rfl) ?_
      refine lv_iload hx hb dX4_say_30 (lv_at hl 0 rfl) ?_
      refine lv_iload_n hx hb dX4_say_32 rfl (lv_at hl 4 rfl) ?_
      refine lv_iload hx hb dX4_say_33 (lv_at hl 5 rfl) ?_
      refine lv_iconst (v := nI 1) hx hb dX4_say_35 (by decide) ?_
      refine lv_iadd hx hb dX4_say_36 ?_
      refine zrw (nI_add _ _) ?_
      refine zci (wr := []) (va_runV (As := [.int (nI 10), .int x, .int (nI (d + 1))]) (rest := []) ⟨hx, hb, hml, hown, hts⟩ (c_X4_sayBody_3_0_3 l D cI cJ h hT9 ((upd T tn (nI 10))) ((tn + 1)) sp mm x (d + 1) (by first | rfl | assumption | omega) (by first | rfl | assumption | omega) H.size) (cwV 3 hts gX4_say_X4_sayBody rfl rfl rfl (by decide +kernel) ⟨Nat.le_of_ble_eq_true rfl, Nat.le_of_ble_eq_true rfl⟩) (zpV hK hN hZ hP hD hS hA [0, 1] rfl (by decide) 0 rfl rfl rfl) rfl rfl hl.1 rfl (lv_room (Nat.le_of_ble_eq_true rfl)) dX4_say_37 ⟨Nat.zero_le _, Nat.zero_le _⟩) hP hD hS hA [0, 1] [] rfl rfl (by decide) (by decide) (fun r_7 w_6 H locs h_5 hP hD hS => ?_)
      obtain ⟨rfl, rfl⟩ := h_5
      have hP : va_P D vwCl [(h, .inr (4, [.ref hT9, .int (nI (((tn + 1)))), .int (nI 0), .int (nI 3), .int (nI sp), .int mm])), (hT9, .inl (cI, 30, .inl (((upd T tn (nI 10))))))] H := hP
      have hD : va_D AA [(h, .inr (4, [.ref hT9, .int (nI (((tn + 1)))), .int (nI 0), .int (nI 3), .int (nI sp), .int mm])), (hT9, .inl (cI, 30, .inl (((upd T tn (nI 10))))))] := hD
      exact hret hP hD hS dX4_say_40 rfl (by exact ⟨rfl, rfl⟩)
    · have c11_2 : ¬ (d ≤ 40) := fun h9 => c11_2 ((nI_leI (a := d) (b := 40) (by omega) (by omega)).mpr h9)
      exact absurd c11_2 (by omega)
set_option maxHeartbeats 4000000 in
set_option maxRecDepth 100000 in
theorem c_X4_sayBody_3_1_3 (l : Launch) (D : va_G) (cI cJ : ClassId) (h : Nat) (hT9 : Nat) (T : Nat → Int32) (tn : Nat) (sp : Nat) (mm : Int32) (x : Int32) (d : Nat) (htn : tn + 1 ≤ 30) (hd : d + 1 ≤ 40) : zMi l yX4_sayBody wsX4_sayBody ({ frames := 3, cells := 0, slots := 0, locals := 71 } : Room) D [(cI, .int), (cJ, .array .int)] [.ref h, .int (nI 11), .int x, .int (nI d)] [(h, .inr (4, [.ref hT9, .int (nI tn), .int (nI 0), .int (nI 3), .int (nI sp), .int mm])), (hT9, .inl (cI, 30, .inl T))] (fun r w => r = (zcounts 3 3 sp mm x ) ∧ w = [(h, .inr (4, [.ref hT9, .int (nI ((tn + 1))), .int (nI 0), .int (nI 3), .int (nI sp), .int mm])), (hT9, .inl (cI, 30, .inl ((upd T tn (nI 10)))))]) := by
  refine zMi.start (cc := cX4_sayBody) (maxL := 4) (rt := .int) (by first | decide | decide +kernel) rfl (Nat.le_of_ble_eq_true rfl) ?_
  intro pg ev s mt args below meth cd ls AA QQ ⟨hx, hb, hml, hr, hlocks, hown, hts, hK, hN, hZ, hP, hD, hA, hS, hl⟩ hret
  have hown : s.vm.findClass RX4 = some mt.cls := hown
  have hl : lv_has ls 4 [(0, .ref h), (1, .int (nI 11)), (2, .int x), (3, .int (nI d))] := hl
  have hin4 : ∀ w ∈ wsX40, w ∈ wsX4_sayBody := fun w h => List.mem_cons_of_mem _ (List.mem_append_right _ (h))
  refine lv_iload_n hx hb dX4_sayBody_0 rfl (lv_at hl 1 rfl) ?_
  refine lv_lookup (off := 122) (tgt := 123) hx hb dX4_sayBody_1 (by decide) (by decide) (by decide) ?_
  refine lv_aload_n hx hb dX4_sayBody_123 rfl (lv_at hl 0 rfl) ?_
  refine lv_aload_n hx hb dX4_sayBody_124 rfl (lv_at hl 0 rfl) ?_
  refine va_get (ci := 4) (v := .int (nI 3)) (C := RX4) (T := TX4) (N := 6) hx hb hts hin4 hown hK hP 0 rfl rfl 3 (by decide) (hts (.fieldLink RX4 23 "UpAllRound$Voices" "kind" "I") (List.mem_of_getElem? (i := 2) rfl)) (fun _ h9 => h9) rfl dX4_sayBody_125 ?_
  refine lv_iconst (v := nI 0) hx hb dX4_sayBody_128 (by decide) ?_
  refine lv_iload_n hx hb dX4_sayBody_129 rfl (lv_at hl 2 rfl) ?_
  refine lv_iload_n hx hb dX4_sayBody_130 rfl (lv_at hl 3 rfl) ?_
  refine zci (wr := []) (va_runV (As := [.int (nI 3), .int (nI 0), .int x, .int (nI d)]) (rest := []) ⟨hx, hb, hml, hown, hts⟩ (c_X4_say_3_0_3 l D cI cJ h hT9 T tn sp mm x d (by first | rfl | assumption | omega) (by first | rfl | assumption | omega) s.heap.size) (cwV 4 hts gX4_sayBody_X4_say rfl rfl rfl (by decide +kernel) ⟨Nat.le_of_ble_eq_true rfl, Nat.le_of_ble_eq_true rfl⟩) (zpV hK hN hZ hP hD hS hA [0, 1] rfl (by decide) 0 rfl rfl rfl) rfl rfl hl.1 rfl (lv_room (Nat.le_of_ble_eq_true rfl)) dX4_sayBody_131 ⟨Nat.zero_le _, Nat.zero_le _⟩) hP hD hS hA [0, 1] [] rfl rfl (by decide) (by decide) (fun r_3 w_2 H locs h_1 hP hD hS => ?_)
  obtain ⟨rfl, rfl⟩ := h_1
  have hP : va_P D vwCl [(h, .inr (4, [.ref hT9, .int (nI ((tn + 1))), .int (nI 0), .int (nI 3), .int (nI sp), .int mm])), (hT9, .inl (cI, 30, .inl ((upd T tn (nI 10)))))] H := hP
  have hD : va_D AA [(h, .inr (4, [.ref hT9, .int (nI ((tn + 1))), .int (nI 0), .int (nI 3), .int (nI sp), .int mm])), (hT9, .inl (cI, 30, .inl ((upd T tn (nI 10)))))] := hD
  refine lv_iconst (v := nI 2) hx hb dX4_sayBody_134 (by decide) ?_
  refine lv_imul hx hb dX4_sayBody_135 ?_
  exact hret hP hD hS dX4_sayBody_136 rfl (by exact ⟨rfl, rfl⟩)
set_option maxHeartbeats 4000000 in
set_option maxRecDepth 100000 in
theorem c_X4_say_3_1_3 (l : Launch) (D : va_G) (cI cJ : ClassId) (h : Nat) (hT9 : Nat) (T : Nat → Int32) (tn : Nat) (sp : Nat) (mm : Int32) (x : Int32) (d : Nat) (htn : tn + 2 ≤ 30) (hd : d + 2 ≤ 40) : zMi l yX4_say wsX4_say ({ frames := 4, cells := 0, slots := 0, locals := 94 } : Room) D [(cI, .int), (cJ, .array .int)] [.ref h, .int (nI 3), .int (nI 1), .int x, .int (nI d)] [(h, .inr (4, [.ref hT9, .int (nI tn), .int (nI 0), .int (nI 3), .int (nI sp), .int mm])), (hT9, .inl (cI, 30, .inl T))] (fun r w => r = (zcounts 3 3 sp mm x ) ∧ w = [(h, .inr (4, [.ref hT9, .int (nI (((tn + 1) + 1))), .int (nI 0), .int (nI 3), .int (nI sp), .int mm])), (hT9, .inl (cI, 30, .inl ((upd (upd T tn (nI 11)) (tn + 1) (nI 10)))))]) := by
  refine zMi.start (cc := cX4_say) (maxL := 6) (rt := .int) (by first | decide | decide +kernel) rfl (Nat.le_of_ble_eq_true rfl) ?_
  intro pg ev s mt args below meth cd ls AA QQ ⟨hx, hb, hml, hr, hlocks, hown, hts, hK, hN, hZ, hP, hD, hA, hS, hl⟩ hret
  have hown : s.vm.findClass RX4 = some mt.cls := hown
  have hl : lv_has ls 6 [(0, .ref h), (1, .int (nI 3)), (2, .int (nI 1)), (3, .int x), (4, .int (nI d))] := hl
  have hin4 : ∀ w ∈ wsX40, w ∈ wsX4_say := fun w h => List.mem_cons_of_mem _ (List.mem_append_right _ (h))
  refine lv_aload_n hx hb dX4_say_0 rfl (lv_at hl 0 rfl) ?_
  refine va_get (ci := 4) (v := .int (nI 0)) (C := RX4) (T := TX4) (N := 6) hx hb hts hin4 hown hK hP 0 rfl rfl 2 (by decide) (hts (.fieldLink RX4 19 "UpAllRound$Voices" "parted" "Z") (List.mem_of_getElem? (i := 1) rfl)) (fun _ h9 => h9) rfl dX4_say_1 ?_
  refine lv_if_ne (tgt := 14) hx hb dX4_say_4 (by decide) (fun c4_1 => ?_) (fun c4_1 => ?_)
  · have c4_1 : ¬ (0 = 0) := fun h9 => c4_1 ((nI_eq (a := 0) (b := 0) (by omega) (by omega)).mpr h9)
    exact absurd c4_1 (by omega)
  · have c4_1 : 0 = 0 := (nI_eq (a := 0) (b := 0) (by omega) (by omega)).mp c4_1
    refine lv_iload hx hb dX4_say_7 (lv_at hl 4 rfl) ?_
    refine lv_bipush (v := nI 40) hx hb dX4_say_9 (by decide) ?_
    refine lv_icmp_le (tgt := 16) hx hb dX4_say_11 (by decide) (fun c11_2 => ?_) (fun c11_2 => ?_)
    · have c11_2 : d ≤ 40 := (nI_leI (a := d) (b := 40) (by omega) (by omega)).mp c11_2
      refine lv_iload_n hx hb dX4_say_16 rfl (lv_at hl 1 rfl) ?_
      refine lv_iload_n hx hb dX4_say_17 rfl (lv_at hl 2 rfl) ?_
      refine zcsE (va_runS (As := [.int (nI 3), .int (nI 1)]) (rest := []) ⟨hx, hb, hml, hown, hts⟩ (c_X4_find_3_1 l D cI cJ   s.heap.size) (va_cwS 2 hts gX4_say_X4_find rfl rfl rfl (by decide +kernel) ⟨Nat.le_of_ble_eq_true rfl, Nat.le_of_ble_eq_true rfl⟩) (zpS hK hN hZ hP hD hS hA [] rfl (by decide)) rfl rfl hl.1 rfl (lv_room (Nat.le_of_ble_eq_true rfl)) dX4_say_18 ⟨Nat.zero_le _, Nat.zero_le _⟩) ?_
      refine lv_istore (lv' := [(5, .int (nI 11)), (0, .ref h), (1, .int (nI 3)), (2, .int (nI 1)), (3, .int x), (4, .int (nI d))]) hx hb dX4_say_21 hl (by decide) rfl (fun ls hl => ?_)
      refine lv_aload_n hx hb dX4_say_23 rfl (lv_at hl 1 rfl) ?_
      refine lv_iload hx hb dX4_say_24 (lv_at hl 0 rfl) ?_
      refine zcv (wr := []) (va_runV (As := [.int (nI 11)]) (rest := []) ⟨hx, hb, hml, hown, hts⟩ (c_X4_begin l D cI cJ h hT9 T tn 0 3 sp mm 11 (by first | rfl | assumption | omega) s.heap.size) (cwV 1 hts gX4_say_X4_begin rfl rfl rfl (by decide +kernel) ⟨Nat.le_of_ble_eq_true rfl, Nat.le_of_ble_eq_true rfl⟩) (zpV hK hN hZ hP hD hS hA [0, 1] rfl (by decide) 0 rfl rfl rfl) rfl rfl hl.1 rfl (lv_room (Nat.le_of_ble_eq_true rfl)) dX4_say_26 ⟨Nat.zero_le _, Nat.zero_le _⟩) hP hD hS hA [0, 1] [] rfl rfl (by decide) (by decide) (fun w_4 H locs h_3 hP hD hS => ?_)
      obtain rfl := h_3
      have hP : va_P D vwCl [(h, .inr (4, [.ref hT9, .int (nI ((tn + 1))), .int (nI 0), .int (nI 3), .int (nI sp), .int mm])), (hT9, .inl (cI, 30, .inl ((upd T tn (nI 11)))))] H := hP
      have hD : va_D AA [(h, .inr (4, [.ref hT9, .int (nI ((tn + 1))), .int (nI 0), .int (nI 3), .int (nI sp), .int mm])), (hT9, .inl (cI, 30, .inl ((upd T tn (nI 11)))))] := hD
      refine lv_aload_n hx hb dX4_say_29 rfl (lv_at hl 1 rfl) ?_
      refine lv_iload hx hb dX4_say_30 (lv_at hl 0 rfl) ?_
      refine lv_iload_n hx hb dX4_say_32 rfl (lv_at hl 4 rfl) ?_
      refine lv_iload hx hb dX4_say_33 (lv_at hl 5 rfl) ?_
      refine lv_iconst (v := nI 1) hx hb dX4_say_35 (by decide) ?_
      refine lv_iadd hx hb dX4_say_36 ?_
      refine zrw (nI_add _ _) ?_
      refine zci (wr := []) (va_runV (As := [.int (nI 11), .int x, .int (nI (d + 1))]) (rest := []) ⟨hx, hb, hml, hown, hts⟩ (c_X4_sayBody_3_1_3 l D cI cJ h hT9 ((upd T tn (nI 11))) ((tn + 1)) sp mm x (d + 1) (by first | rfl | assumption | omega) (by first | rfl | assumption | omega) H.size) (cwV 3 hts gX4_say_X4_sayBody rfl rfl rfl (by decide +kernel) ⟨Nat.le_of_ble_eq_true rfl, Nat.le_of_ble_eq_true rfl⟩) (zpV hK hN hZ hP hD hS hA [0, 1] rfl (by decide) 0 rfl rfl rfl) rfl rfl hl.1 rfl (lv_room (Nat.le_of_ble_eq_true rfl)) dX4_say_37 ⟨Nat.zero_le _, Nat.zero_le _⟩) hP hD hS hA [0, 1] [] rfl rfl (by decide) (by decide) (fun r_7 w_6 H locs h_5 hP hD hS => ?_)
      obtain ⟨rfl, rfl⟩ := h_5
      have hP : va_P D vwCl [(h, .inr (4, [.ref hT9, .int (nI ((((tn + 1)) + 1))), .int (nI 0), .int (nI 3), .int (nI sp), .int mm])), (hT9, .inl (cI, 30, .inl ((upd ((upd T tn (nI 11))) ((tn + 1)) (nI 10)))))] H := hP
      have hD : va_D AA [(h, .inr (4, [.ref hT9, .int (nI ((((tn + 1)) + 1))), .int (nI 0), .int (nI 3), .int (nI sp), .int mm])), (hT9, .inl (cI, 30, .inl ((upd ((upd T tn (nI 11))) ((tn + 1)) (nI 10)))))] := hD
      exact hret hP hD hS dX4_say_40 rfl (by exact ⟨rfl, rfl⟩)
    · have c11_2 : ¬ (d ≤ 40) := fun h9 => c11_2 ((nI_leI (a := d) (b := 40) (by omega) (by omega)).mpr h9)
      exact absurd c11_2 (by omega)
set_option maxHeartbeats 4000000 in
set_option maxRecDepth 100000 in
theorem c_X4_sayBody_0_2_3 (l : Launch) (D : va_G) (cI cJ : ClassId) (h : Nat) (hT9 : Nat) (T : Nat → Int32) (tn : Nat) (sp : Nat) (mm : Int32) (x : Int32) (d : Nat) (htn : tn + 2 ≤ 30) (hd : d + 2 ≤ 40) : zMi l yX4_sayBody wsX4_sayBody ({ frames := 5, cells := 0, slots := 0, locals := 119 } : Room) D [(cI, .int), (cJ, .array .int)] [.ref h, .int (nI 12), .int x, .int (nI d)] [(h, .inr (4, [.ref hT9, .int (nI tn), .int (nI 0), .int (nI 3), .int (nI sp), .int mm])), (hT9, .inl (cI, 30, .inl T))] (fun r w => r = (zswears 3 0 sp mm x ) ∧ w = [(h, .inr (4, [.ref hT9, .int (nI (((tn + 1) + 1))), .int (nI 0), .int (nI 3), .int (nI sp), .int mm])), (hT9, .inl (cI, 30, .inl ((upd (upd T tn (nI 11)) (tn + 1) (nI 10)))))]) := by
  refine zMi.start (cc := cX4_sayBody) (maxL := 4) (rt := .int) (by first | decide | decide +kernel) rfl (Nat.le_of_ble_eq_true rfl) ?_
  intro pg ev s mt args below meth cd ls AA QQ ⟨hx, hb, hml, hr, hlocks, hown, hts, hK, hN, hZ, hP, hD, hA, hS, hl⟩ hret
  have hown : s.vm.findClass RX4 = some mt.cls := hown
  have hl : lv_has ls 4 [(0, .ref h), (1, .int (nI 12)), (2, .int x), (3, .int (nI d))] := hl
  have hin4 : ∀ w ∈ wsX40, w ∈ wsX4_sayBody := fun w h => List.mem_cons_of_mem _ (List.mem_append_right _ (h))
  refine lv_iload_n hx hb dX4_sayBody_0 rfl (lv_at hl 1 rfl) ?_
  refine lv_lookup (off := 136) (tgt := 137) hx hb dX4_sayBody_1 (by decide) (by decide) (by decide) ?_
  refine lv_aload_n hx hb dX4_sayBody_137 rfl (lv_at hl 0 rfl) ?_
  refine lv_aload_n hx hb dX4_sayBody_138 rfl (lv_at hl 0 rfl) ?_
  refine va_get (ci := 4) (v := .int (nI 3)) (C := RX4) (T := TX4) (N := 6) hx hb hts hin4 hown hK hP 0 rfl rfl 3 (by decide) (hts (.fieldLink RX4 23 "UpAllRound$Voices" "kind" "I") (List.mem_of_getElem? (i := 2) rfl)) (fun _ h9 => h9) rfl dX4_sayBody_139 ?_
  refine lv_iconst (v := nI 1) hx hb dX4_sayBody_142 (by decide) ?_
  refine lv_iload_n hx hb dX4_sayBody_143 rfl (lv_at hl 2 rfl) ?_
  refine lv_iload_n hx hb dX4_sayBody_144 rfl (lv_at hl 3 rfl) ?_
  refine zci (wr := []) (va_runV (As := [.int (nI 3), .int (nI 1), .int x, .int (nI d)]) (rest := []) ⟨hx, hb, hml, hown, hts⟩ (c_X4_say_3_1_3 l D cI cJ h hT9 T tn sp mm x d (by first | rfl | assumption | omega) (by first | rfl | assumption | omega) s.heap.size) (cwV 4 hts gX4_sayBody_X4_say rfl rfl rfl (by decide +kernel) ⟨Nat.le_of_ble_eq_true rfl, Nat.le_of_ble_eq_true rfl⟩) (zpV hK hN hZ hP hD hS hA [0, 1] rfl (by decide) 0 rfl rfl rfl) rfl rfl hl.1 rfl (lv_room (Nat.le_of_ble_eq_true rfl)) dX4_sayBody_145 ⟨Nat.zero_le _, Nat.zero_le _⟩) hP hD hS hA [0, 1] [] rfl rfl (by decide) (by decide) (fun r_3 w_2 H locs h_1 hP hD hS => ?_)
  obtain ⟨rfl, rfl⟩ := h_1
  have hP : va_P D vwCl [(h, .inr (4, [.ref hT9, .int (nI (((tn + 1) + 1))), .int (nI 0), .int (nI 3), .int (nI sp), .int mm])), (hT9, .inl (cI, 30, .inl ((upd (upd T tn (nI 11)) (tn + 1) (nI 10)))))] H := hP
  have hD : va_D AA [(h, .inr (4, [.ref hT9, .int (nI (((tn + 1) + 1))), .int (nI 0), .int (nI 3), .int (nI sp), .int mm])), (hT9, .inl (cI, 30, .inl ((upd (upd T tn (nI 11)) (tn + 1) (nI 10)))))] := hD
  refine lv_aload_n hx hb dX4_sayBody_148 rfl (lv_at hl 0 rfl) ?_
  refine va_get (ci := 4) (v := .int mm) (C := RX4) (T := TX4) (N := 6) hx hb hts hin4 hown hK hP 0 rfl rfl 5 (by decide) (hts (.fieldLink RX4 29 "UpAllRound$Voices" "m" "I") (List.mem_of_getElem? (i := 3) rfl)) (fun _ h9 => h9) rfl dX4_sayBody_149 ?_
  refine lv_isub hx hb dX4_sayBody_152 ?_
  exact hret hP hD hS dX4_sayBody_153 rfl (by exact ⟨rfl, rfl⟩)
set_option maxHeartbeats 4000000 in
set_option maxRecDepth 100000 in
theorem c_X4_say_0_2_3 (l : Launch) (D : va_G) (cI cJ : ClassId) (h : Nat) (hT9 : Nat) (T : Nat → Int32) (tn : Nat) (sp : Nat) (mm : Int32) (x : Int32) (d : Nat) (htn : tn + 3 ≤ 30) (hd : d + 3 ≤ 40) : zMi l yX4_say wsX4_say ({ frames := 6, cells := 0, slots := 0, locals := 142 } : Room) D [(cI, .int), (cJ, .array .int)] [.ref h, .int (nI 0), .int (nI 2), .int x, .int (nI d)] [(h, .inr (4, [.ref hT9, .int (nI tn), .int (nI 0), .int (nI 3), .int (nI sp), .int mm])), (hT9, .inl (cI, 30, .inl T))] (fun r w => r = (zswears 3 0 sp mm x ) ∧ w = [(h, .inr (4, [.ref hT9, .int (nI ((((tn + 1) + 1) + 1))), .int (nI 0), .int (nI 3), .int (nI sp), .int mm])), (hT9, .inl (cI, 30, .inl ((upd (upd (upd T tn (nI 12)) (tn + 1) (nI 11)) ((tn + 1) + 1) (nI 10)))))]) := by
  refine zMi.start (cc := cX4_say) (maxL := 6) (rt := .int) (by first | decide | decide +kernel) rfl (Nat.le_of_ble_eq_true rfl) ?_
  intro pg ev s mt args below meth cd ls AA QQ ⟨hx, hb, hml, hr, hlocks, hown, hts, hK, hN, hZ, hP, hD, hA, hS, hl⟩ hret
  have hown : s.vm.findClass RX4 = some mt.cls := hown
  have hl : lv_has ls 6 [(0, .ref h), (1, .int (nI 0)), (2, .int (nI 2)), (3, .int x), (4, .int (nI d))] := hl
  have hin4 : ∀ w ∈ wsX40, w ∈ wsX4_say := fun w h => List.mem_cons_of_mem _ (List.mem_append_right _ (h))
  refine lv_aload_n hx hb dX4_say_0 rfl (lv_at hl 0 rfl) ?_
  refine va_get (ci := 4) (v := .int (nI 0)) (C := RX4) (T := TX4) (N := 6) hx hb hts hin4 hown hK hP 0 rfl rfl 2 (by decide) (hts (.fieldLink RX4 19 "UpAllRound$Voices" "parted" "Z") (List.mem_of_getElem? (i := 1) rfl)) (fun _ h9 => h9) rfl dX4_say_1 ?_
  refine lv_if_ne (tgt := 14) hx hb dX4_say_4 (by decide) (fun c4_1 => ?_) (fun c4_1 => ?_)
  · have c4_1 : ¬ (0 = 0) := fun h9 => c4_1 ((nI_eq (a := 0) (b := 0) (by omega) (by omega)).mpr h9)
    exact absurd c4_1 (by omega)
  · have c4_1 : 0 = 0 := (nI_eq (a := 0) (b := 0) (by omega) (by omega)).mp c4_1
    refine lv_iload hx hb dX4_say_7 (lv_at hl 4 rfl) ?_
    refine lv_bipush (v := nI 40) hx hb dX4_say_9 (by decide) ?_
    refine lv_icmp_le (tgt := 16) hx hb dX4_say_11 (by decide) (fun c11_2 => ?_) (fun c11_2 => ?_)
    · have c11_2 : d ≤ 40 := (nI_leI (a := d) (b := 40) (by omega) (by omega)).mp c11_2
      refine lv_iload_n hx hb dX4_say_16 rfl (lv_at hl 1 rfl) ?_
      refine lv_iload_n hx hb dX4_say_17 rfl (lv_at hl 2 rfl) ?_
      refine zcsE (va_runS (As := [.int (nI 0), .int (nI 2)]) (rest := []) ⟨hx, hb, hml, hown, hts⟩ (c_X4_find_0_2 l D cI cJ   s.heap.size) (va_cwS 2 hts gX4_say_X4_find rfl rfl rfl (by decide +kernel) ⟨Nat.le_of_ble_eq_true rfl, Nat.le_of_ble_eq_true rfl⟩) (zpS hK hN hZ hP hD hS hA [] rfl (by decide)) rfl rfl hl.1 rfl (lv_room (Nat.le_of_ble_eq_true rfl)) dX4_say_18 ⟨Nat.zero_le _, Nat.zero_le _⟩) ?_
      refine lv_istore (lv' := [(5, .int (nI 12)), (0, .ref h), (1, .int (nI 0)), (2, .int (nI 2)), (3, .int x), (4, .int (nI d))]) hx hb dX4_say_21 hl (by decide) rfl (fun ls hl => ?_)
      refine lv_aload_n hx hb dX4_say_23 rfl (lv_at hl 1 rfl) ?_
      refine lv_iload hx hb dX4_say_24 (lv_at hl 0 rfl) ?_
      refine zcv (wr := []) (va_runV (As := [.int (nI 12)]) (rest := []) ⟨hx, hb, hml, hown, hts⟩ (c_X4_begin l D cI cJ h hT9 T tn 0 3 sp mm 12 (by first | rfl | assumption | omega) s.heap.size) (cwV 1 hts gX4_say_X4_begin rfl rfl rfl (by decide +kernel) ⟨Nat.le_of_ble_eq_true rfl, Nat.le_of_ble_eq_true rfl⟩) (zpV hK hN hZ hP hD hS hA [0, 1] rfl (by decide) 0 rfl rfl rfl) rfl rfl hl.1 rfl (lv_room (Nat.le_of_ble_eq_true rfl)) dX4_say_26 ⟨Nat.zero_le _, Nat.zero_le _⟩) hP hD hS hA [0, 1] [] rfl rfl (by decide) (by decide) (fun w_4 H locs h_3 hP hD hS => ?_)
      obtain rfl := h_3
      have hP : va_P D vwCl [(h, .inr (4, [.ref hT9, .int (nI ((tn + 1))), .int (nI 0), .int (nI 3), .int (nI sp), .int mm])), (hT9, .inl (cI, 30, .inl ((upd T tn (nI 12)))))] H := hP
      have hD : va_D AA [(h, .inr (4, [.ref hT9, .int (nI ((tn + 1))), .int (nI 0), .int (nI 3), .int (nI sp), .int mm])), (hT9, .inl (cI, 30, .inl ((upd T tn (nI 12)))))] := hD
      refine lv_aload_n hx hb dX4_say_29 rfl (lv_at hl 1 rfl) ?_
      refine lv_iload hx hb dX4_say_30 (lv_at hl 0 rfl) ?_
      refine lv_iload_n hx hb dX4_say_32 rfl (lv_at hl 4 rfl) ?_
      refine lv_iload hx hb dX4_say_33 (lv_at hl 5 rfl) ?_
      refine lv_iconst (v := nI 1) hx hb dX4_say_35 (by decide) ?_
      refine lv_iadd hx hb dX4_say_36 ?_
      refine zrw (nI_add _ _) ?_
      refine zci (wr := []) (va_runV (As := [.int (nI 12), .int x, .int (nI (d + 1))]) (rest := []) ⟨hx, hb, hml, hown, hts⟩ (c_X4_sayBody_0_2_3 l D cI cJ h hT9 ((upd T tn (nI 12))) ((tn + 1)) sp mm x (d + 1) (by first | rfl | assumption | omega) (by first | rfl | assumption | omega) H.size) (cwV 3 hts gX4_say_X4_sayBody rfl rfl rfl (by decide +kernel) ⟨Nat.le_of_ble_eq_true rfl, Nat.le_of_ble_eq_true rfl⟩) (zpV hK hN hZ hP hD hS hA [0, 1] rfl (by decide) 0 rfl rfl rfl) rfl rfl hl.1 rfl (lv_room (Nat.le_of_ble_eq_true rfl)) dX4_say_37 ⟨Nat.zero_le _, Nat.zero_le _⟩) hP hD hS hA [0, 1] [] rfl rfl (by decide) (by decide) (fun r_7 w_6 H locs h_5 hP hD hS => ?_)
      obtain ⟨rfl, rfl⟩ := h_5
      have hP : va_P D vwCl [(h, .inr (4, [.ref hT9, .int (nI (((((tn + 1)) + 1) + 1))), .int (nI 0), .int (nI 3), .int (nI sp), .int mm])), (hT9, .inl (cI, 30, .inl ((upd (upd ((upd T tn (nI 12))) ((tn + 1)) (nI 11)) (((tn + 1)) + 1) (nI 10)))))] H := hP
      have hD : va_D AA [(h, .inr (4, [.ref hT9, .int (nI (((((tn + 1)) + 1) + 1))), .int (nI 0), .int (nI 3), .int (nI sp), .int mm])), (hT9, .inl (cI, 30, .inl ((upd (upd ((upd T tn (nI 12))) ((tn + 1)) (nI 11)) (((tn + 1)) + 1) (nI 10)))))] := hD
      exact hret hP hD hS dX4_say_40 rfl (by exact ⟨rfl, rfl⟩)
    · have c11_2 : ¬ (d ≤ 40) := fun h9 => c11_2 ((nI_leI (a := d) (b := 40) (by omega) (by omega)).mpr h9)
      exact absurd c11_2 (by omega)
set_option maxHeartbeats 4000000 in
set_option maxRecDepth 100000 in
theorem c_X4_sayBody_3_2_3 (l : Launch) (D : va_G) (cI cJ : ClassId) (h : Nat) (hT9 : Nat) (T : Nat → Int32) (tn : Nat) (sp : Nat) (mm : Int32) (x : Int32) (d : Nat) (htn : tn + 3 ≤ 30) (hd : d + 3 ≤ 40) : zMi l yX4_sayBody wsX4_sayBody ({ frames := 7, cells := 0, slots := 0, locals := 167 } : Room) D [(cI, .int), (cJ, .array .int)] [.ref h, .int (nI 40), .int x, .int (nI d)] [(h, .inr (4, [.ref hT9, .int (nI tn), .int (nI 0), .int (nI 3), .int (nI sp), .int mm])), (hT9, .inl (cI, 30, .inl T))] (fun r w => r = (zswears 3 3 sp mm x ) ∧ w = [(h, .inr (4, [.ref hT9, .int (nI ((((tn + 1) + 1) + 1))), .int (nI 0), .int (nI 3), .int (nI sp), .int mm])), (hT9, .inl (cI, 30, .inl ((upd (upd (upd T tn (nI 12)) (tn + 1) (nI 11)) ((tn + 1) + 1) (nI 10)))))]) := by
  refine zMi.start (cc := cX4_sayBody) (maxL := 4) (rt := .int) (by first | decide | decide +kernel) rfl (Nat.le_of_ble_eq_true rfl) ?_
  intro pg ev s mt args below meth cd ls AA QQ ⟨hx, hb, hml, hr, hlocks, hown, hts, hK, hN, hZ, hP, hD, hA, hS, hl⟩ hret
  have hown : s.vm.findClass RX4 = some mt.cls := hown
  have hl : lv_has ls 4 [(0, .ref h), (1, .int (nI 40)), (2, .int x), (3, .int (nI d))] := hl
  have hin4 : ∀ w ∈ wsX40, w ∈ wsX4_sayBody := fun w h => List.mem_cons_of_mem _ (List.mem_append_right _ (h))
  refine lv_iload_n hx hb dX4_sayBody_0 rfl (lv_at hl 1 rfl) ?_
  refine lv_lookup (off := 202) (tgt := 203) hx hb dX4_sayBody_1 (by decide) (by decide) (by decide) ?_
  refine lv_aload_n hx hb dX4_sayBody_203 rfl (lv_at hl 0 rfl) ?_
  refine lv_iconst (v := nI 0) hx hb dX4_sayBody_204 (by decide) ?_
  refine lv_iconst (v := nI 2) hx hb dX4_sayBody_205 (by decide) ?_
  refine lv_iload_n hx hb dX4_sayBody_206 rfl (lv_at hl 2 rfl) ?_
  refine lv_iconst (v := nI 2) hx hb dX4_sayBody_207 (by decide) ?_
  refine lv_idiv hx hb dX4_sayBody_208 (by decide) ?_
  refine lv_iload_n hx hb dX4_sayBody_209 rfl (lv_at hl 3 rfl) ?_
  refine zci (wr := []) (va_runV (As := [.int (nI 0), .int (nI 2), .int (x / (nI 2)), .int (nI d)]) (rest := []) ⟨hx, hb, hml, hown, hts⟩ (c_X4_say_0_2_3 l D cI cJ h hT9 T tn sp mm (x / (nI 2)) d (by first | rfl | assumption | omega) (by first | rfl | assumption | omega) s.heap.size) (cwV 4 hts gX4_sayBody_X4_say rfl rfl rfl (by decide +kernel) ⟨Nat.le_of_ble_eq_true rfl, Nat.le_of_ble_eq_true rfl⟩) (zpV hK hN hZ hP hD hS hA [0, 1] rfl (by decide) 0 rfl rfl rfl) rfl rfl hl.1 rfl (lv_room (Nat.le_of_ble_eq_true rfl)) dX4_sayBody_210 ⟨Nat.zero_le _, Nat.zero_le _⟩) hP hD hS hA [0, 1] [] rfl rfl (by decide) (by decide) (fun r_3 w_2 H locs h_1 hP hD hS => ?_)
  obtain ⟨rfl, rfl⟩ := h_1
  have hP : va_P D vwCl [(h, .inr (4, [.ref hT9, .int (nI ((((tn + 1) + 1) + 1))), .int (nI 0), .int (nI 3), .int (nI sp), .int mm])), (hT9, .inl (cI, 30, .inl ((upd (upd (upd T tn (nI 12)) (tn + 1) (nI 11)) ((tn + 1) + 1) (nI 10)))))] H := hP
  have hD : va_D AA [(h, .inr (4, [.ref hT9, .int (nI ((((tn + 1) + 1) + 1))), .int (nI 0), .int (nI 3), .int (nI sp), .int mm])), (hT9, .inl (cI, 30, .inl ((upd (upd (upd T tn (nI 12)) (tn + 1) (nI 11)) ((tn + 1) + 1) (nI 10)))))] := hD
  exact hret hP hD hS dX4_sayBody_213 rfl (by exact ⟨rfl, rfl⟩)
set_option maxHeartbeats 4000000 in
set_option maxRecDepth 100000 in
theorem c_X4_say_3_2_3 (l : Launch) (D : va_G) (cI cJ : ClassId) (h : Nat) (hT9 : Nat) (T : Nat → Int32) (tn : Nat) (sp : Nat) (mm : Int32) (x : Int32) (d : Nat) (htn : tn + 4 ≤ 30) (hd : d + 4 ≤ 40) : zMi l yX4_say wsX4_say ({ frames := 8, cells := 0, slots := 0, locals := 190 } : Room) D [(cI, .int), (cJ, .array .int)] [.ref h, .int (nI 3), .int (nI 2), .int x, .int (nI d)] [(h, .inr (4, [.ref hT9, .int (nI tn), .int (nI 0), .int (nI 3), .int (nI sp), .int mm])), (hT9, .inl (cI, 30, .inl T))] (fun r w => r = (zswears 3 3 sp mm x ) ∧ w = [(h, .inr (4, [.ref hT9, .int (nI (((((tn + 1) + 1) + 1) + 1))), .int (nI 0), .int (nI 3), .int (nI sp), .int mm])), (hT9, .inl (cI, 30, .inl ((upd (upd (upd (upd T tn (nI 40)) (tn + 1) (nI 12)) ((tn + 1) + 1) (nI 11)) (((tn + 1) + 1) + 1) (nI 10)))))]) := by
  refine zMi.start (cc := cX4_say) (maxL := 6) (rt := .int) (by first | decide | decide +kernel) rfl (Nat.le_of_ble_eq_true rfl) ?_
  intro pg ev s mt args below meth cd ls AA QQ ⟨hx, hb, hml, hr, hlocks, hown, hts, hK, hN, hZ, hP, hD, hA, hS, hl⟩ hret
  have hown : s.vm.findClass RX4 = some mt.cls := hown
  have hl : lv_has ls 6 [(0, .ref h), (1, .int (nI 3)), (2, .int (nI 2)), (3, .int x), (4, .int (nI d))] := hl
  have hin4 : ∀ w ∈ wsX40, w ∈ wsX4_say := fun w h => List.mem_cons_of_mem _ (List.mem_append_right _ (h))
  refine lv_aload_n hx hb dX4_say_0 rfl (lv_at hl 0 rfl) ?_
  refine va_get (ci := 4) (v := .int (nI 0)) (C := RX4) (T := TX4) (N := 6) hx hb hts hin4 hown hK hP 0 rfl rfl 2 (by decide) (hts (.fieldLink RX4 19 "UpAllRound$Voices" "parted" "Z") (List.mem_of_getElem? (i := 1) rfl)) (fun _ h9 => h9) rfl dX4_say_1 ?_
  refine lv_if_ne (tgt := 14) hx hb dX4_say_4 (by decide) (fun c4_1 => ?_) (fun c4_1 => ?_)
  · have c4_1 : ¬ (0 = 0) := fun h9 => c4_1 ((nI_eq (a := 0) (b := 0) (by omega) (by omega)).mpr h9)
    exact absurd c4_1 (by omega)
  · have c4_1 : 0 = 0 := (nI_eq (a := 0) (b := 0) (by omega) (by omega)).mp c4_1
    refine lv_iload hx hb dX4_say_7 (lv_at hl 4 rfl) ?_
    refine lv_bipush (v := nI 40) hx hb dX4_say_9 (by decide) ?_
    refine lv_icmp_le (tgt := 16) hx hb dX4_say_11 (by decide) (fun c11_2 => ?_) (fun c11_2 => ?_)
    · have c11_2 : d ≤ 40 := (nI_leI (a := d) (b := 40) (by omega) (by omega)).mp c11_2
      refine lv_iload_n hx hb dX4_say_16 rfl (lv_at hl 1 rfl) ?_
      refine lv_iload_n hx hb dX4_say_17 rfl (lv_at hl 2 rfl) ?_
      refine zcsE (va_runS (As := [.int (nI 3), .int (nI 2)]) (rest := []) ⟨hx, hb, hml, hown, hts⟩ (c_X4_find_3_2 l D cI cJ   s.heap.size) (va_cwS 2 hts gX4_say_X4_find rfl rfl rfl (by decide +kernel) ⟨Nat.le_of_ble_eq_true rfl, Nat.le_of_ble_eq_true rfl⟩) (zpS hK hN hZ hP hD hS hA [] rfl (by decide)) rfl rfl hl.1 rfl (lv_room (Nat.le_of_ble_eq_true rfl)) dX4_say_18 ⟨Nat.zero_le _, Nat.zero_le _⟩) ?_
      refine lv_istore (lv' := [(5, .int (nI 40)), (0, .ref h), (1, .int (nI 3)), (2, .int (nI 2)), (3, .int x), (4, .int (nI d))]) hx hb dX4_say_21 hl (by decide) rfl (fun ls hl => ?_)
      refine lv_aload_n hx hb dX4_say_23 rfl (lv_at hl 1 rfl) ?_
      refine lv_iload hx hb dX4_say_24 (lv_at hl 0 rfl) ?_
      refine zcv (wr := []) (va_runV (As := [.int (nI 40)]) (rest := []) ⟨hx, hb, hml, hown, hts⟩ (c_X4_begin l D cI cJ h hT9 T tn 0 3 sp mm 40 (by first | rfl | assumption | omega) s.heap.size) (cwV 1 hts gX4_say_X4_begin rfl rfl rfl (by decide +kernel) ⟨Nat.le_of_ble_eq_true rfl, Nat.le_of_ble_eq_true rfl⟩) (zpV hK hN hZ hP hD hS hA [0, 1] rfl (by decide) 0 rfl rfl rfl) rfl rfl hl.1 rfl (lv_room (Nat.le_of_ble_eq_true rfl)) dX4_say_26 ⟨Nat.zero_le _, Nat.zero_le _⟩) hP hD hS hA [0, 1] [] rfl rfl (by decide) (by decide) (fun w_4 H locs h_3 hP hD hS => ?_)
      obtain rfl := h_3
      have hP : va_P D vwCl [(h, .inr (4, [.ref hT9, .int (nI ((tn + 1))), .int (nI 0), .int (nI 3), .int (nI sp), .int mm])), (hT9, .inl (cI, 30, .inl ((upd T tn (nI 40)))))] H := hP
      have hD : va_D AA [(h, .inr (4, [.ref hT9, .int (nI ((tn + 1))), .int (nI 0), .int (nI 3), .int (nI sp), .int mm])), (hT9, .inl (cI, 30, .inl ((upd T tn (nI 40)))))] := hD
      refine lv_aload_n hx hb dX4_say_29 rfl (lv_at hl 1 rfl) ?_
      refine lv_iload hx hb dX4_say_30 (lv_at hl 0 rfl) ?_
      refine lv_iload_n hx hb dX4_say_32 rfl (lv_at hl 4 rfl) ?_
      refine lv_iload hx hb dX4_say_33 (lv_at hl 5 rfl) ?_
      refine lv_iconst (v := nI 1) hx hb dX4_say_35 (by decide) ?_
      refine lv_iadd hx hb dX4_say_36 ?_
      refine zrw (nI_add _ _) ?_
      refine zci (wr := []) (va_runV (As := [.int (nI 40), .int x, .int (nI (d + 1))]) (rest := []) ⟨hx, hb, hml, hown, hts⟩ (c_X4_sayBody_3_2_3 l D cI cJ h hT9 ((upd T tn (nI 40))) ((tn + 1)) sp mm x (d + 1) (by first | rfl | assumption | omega) (by first | rfl | assumption | omega) H.size) (cwV 3 hts gX4_say_X4_sayBody rfl rfl rfl (by decide +kernel) ⟨Nat.le_of_ble_eq_true rfl, Nat.le_of_ble_eq_true rfl⟩) (zpV hK hN hZ hP hD hS hA [0, 1] rfl (by decide) 0 rfl rfl rfl) rfl rfl hl.1 rfl (lv_room (Nat.le_of_ble_eq_true rfl)) dX4_say_37 ⟨Nat.zero_le _, Nat.zero_le _⟩) hP hD hS hA [0, 1] [] rfl rfl (by decide) (by decide) (fun r_7 w_6 H locs h_5 hP hD hS => ?_)
      obtain ⟨rfl, rfl⟩ := h_5
      have hP : va_P D vwCl [(h, .inr (4, [.ref hT9, .int (nI ((((((tn + 1)) + 1) + 1) + 1))), .int (nI 0), .int (nI 3), .int (nI sp), .int mm])), (hT9, .inl (cI, 30, .inl ((upd (upd (upd ((upd T tn (nI 40))) ((tn + 1)) (nI 12)) (((tn + 1)) + 1) (nI 11)) ((((tn + 1)) + 1) + 1) (nI 10)))))] H := hP
      have hD : va_D AA [(h, .inr (4, [.ref hT9, .int (nI ((((((tn + 1)) + 1) + 1) + 1))), .int (nI 0), .int (nI 3), .int (nI sp), .int mm])), (hT9, .inl (cI, 30, .inl ((upd (upd (upd ((upd T tn (nI 40))) ((tn + 1)) (nI 12)) (((tn + 1)) + 1) (nI 11)) ((((tn + 1)) + 1) + 1) (nI 10)))))] := hD
      exact hret hP hD hS dX4_say_40 rfl (by exact ⟨rfl, rfl⟩)
    · have c11_2 : ¬ (d ≤ 40) := fun h9 => c11_2 ((nI_leI (a := d) (b := 40) (by omega) (by omega)).mpr h9)
      exact absurd c11_2 (by omega)
set_option maxHeartbeats 4000000 in
set_option maxRecDepth 100000 in
theorem c_X4_sayBody_3_3_3 (l : Launch) (D : va_G) (cI cJ : ClassId) (h : Nat) (hT9 : Nat) (T : Nat → Int32) (tn : Nat) (sp : Nat) (mm : Int32) (x : Int32) (d : Nat) (htn : tn + 0 ≤ 30) (hd : d + 0 ≤ 40) : zMi l yX4_sayBody wsX4_sayBody ({ frames := 1, cells := 0, slots := 0, locals := 22 } : Room) D [(cI, .int), (cJ, .array .int)] [.ref h, .int (nI 13), .int x, .int (nI d)] [(h, .inr (4, [.ref hT9, .int (nI tn), .int (nI 0), .int (nI 3), .int (nI sp), .int mm])), (hT9, .inl (cI, 30, .inl T))] (fun r w => r = (zpv sp mm x) ∧ w = [(h, .inr (4, [.ref hT9, .int (nI tn), .int (nI ((zpd sp mm))), .int (nI 3), .int (nI sp), .int mm])), (hT9, .inl (cI, 30, .inl T))]) := by
  refine zMi.start (cc := cX4_sayBody) (maxL := 4) (rt := .int) (by first | decide | decide +kernel) rfl (Nat.le_of_ble_eq_true rfl) ?_
  intro pg ev s mt args below meth cd ls AA QQ ⟨hx, hb, hml, hr, hlocks, hown, hts, hK, hN, hZ, hP, hD, hA, hS, hl⟩ hret
  have hown : s.vm.findClass RX4 = some mt.cls := hown
  have hl : lv_has ls 4 [(0, .ref h), (1, .int (nI 13)), (2, .int x), (3, .int (nI d))] := hl
  have hin4 : ∀ w ∈ wsX40, w ∈ wsX4_sayBody := fun w h => List.mem_cons_of_mem _ (List.mem_append_right _ (h))
  refine lv_iload_n hx hb dX4_sayBody_0 rfl (lv_at hl 1 rfl) ?_
  refine lv_lookup (off := 153) (tgt := 154) hx hb dX4_sayBody_1 (by decide) (by decide) (by decide) ?_
  refine lv_aload_n hx hb dX4_sayBody_154 rfl (lv_at hl 0 rfl) ?_
  refine lv_iload_n hx hb dX4_sayBody_155 rfl (lv_at hl 2 rfl) ?_
  refine zci (wr := [(hT9, .inl (cI, 30, .inl T))]) (va_runV (As := [.int x]) (rest := []) ⟨hx, hb, hml, hown, hts⟩ (c_X4_part l D cI cJ h hT9 tn 3 sp mm x  s.heap.size) (cwV 1 hts gX4_sayBody_X4_part rfl rfl rfl (by decide +kernel) ⟨Nat.le_of_ble_eq_true rfl, Nat.le_of_ble_eq_true rfl⟩) (zpV hK hN hZ hP hD hS hA [0] rfl (by decide) 0 rfl rfl rfl) rfl rfl hl.1 rfl (lv_room (Nat.le_of_ble_eq_true rfl)) dX4_sayBody_156 ⟨Nat.zero_le _, Nat.zero_le _⟩) hP hD hS hA [0] [1] rfl rfl (by decide) (by decide) (fun r_3 w_2 H locs h_1 hP hD hS => ?_)
  obtain ⟨rfl, rfl⟩ := h_1
  have hP : va_P D vwCl [(hT9, .inl (cI, 30, .inl T)), (h, .inr (4, [.ref hT9, .int (nI tn), .int (nI ((zpd sp mm))), .int (nI 3), .int (nI sp), .int mm]))] H := hP
  have hD : va_D AA [(hT9, .inl (cI, 30, .inl T)), (h, .inr (4, [.ref hT9, .int (nI tn), .int (nI ((zpd sp mm))), .int (nI 3), .int (nI sp), .int mm]))] := hD
  have hP := hP.sub (ws' := [(h, .inr (4, [.ref hT9, .int (nI tn), .int (nI ((zpd sp mm))), .int (nI 3), .int (nI sp), .int mm])), (hT9, .inl (cI, 30, .inl T))]) [1, 0] rfl
  have hD := hD.sub (ws' := [(h, .inr (4, [.ref hT9, .int (nI tn), .int (nI ((zpd sp mm))), .int (nI 3), .int (nI sp), .int mm])), (hT9, .inl (cI, 30, .inl T))]) [1, 0] (by decide) rfl
  exact hret hP hD hS dX4_sayBody_159 rfl (by exact ⟨rfl, rfl⟩)
set_option maxHeartbeats 4000000 in
set_option maxRecDepth 100000 in
theorem c_X4_say_3_3_3 (l : Launch) (D : va_G) (cI cJ : ClassId) (h : Nat) (hT9 : Nat) (T : Nat → Int32) (tn : Nat) (sp : Nat) (mm : Int32) (x : Int32) (d : Nat) (htn : tn + 1 ≤ 30) (hd : d + 1 ≤ 40) : zMi l yX4_say wsX4_say ({ frames := 2, cells := 0, slots := 0, locals := 46 } : Room) D [(cI, .int), (cJ, .array .int)] [.ref h, .int (nI 3), .int (nI 3), .int x, .int (nI d)] [(h, .inr (4, [.ref hT9, .int (nI tn), .int (nI 0), .int (nI 3), .int (nI sp), .int mm])), (hT9, .inl (cI, 30, .inl T))] (fun r w => r = (zpv sp mm x) ∧ w = [(h, .inr (4, [.ref hT9, .int (nI ((tn + 1))), .int (nI ((zpd sp mm))), .int (nI 3), .int (nI sp), .int mm])), (hT9, .inl (cI, 30, .inl ((upd T tn (nI 13)))))]) := by
  refine zMi.start (cc := cX4_say) (maxL := 6) (rt := .int) (by first | decide | decide +kernel) rfl (Nat.le_of_ble_eq_true rfl) ?_
  intro pg ev s mt args below meth cd ls AA QQ ⟨hx, hb, hml, hr, hlocks, hown, hts, hK, hN, hZ, hP, hD, hA, hS, hl⟩ hret
  have hown : s.vm.findClass RX4 = some mt.cls := hown
  have hl : lv_has ls 6 [(0, .ref h), (1, .int (nI 3)), (2, .int (nI 3)), (3, .int x), (4, .int (nI d))] := hl
  have hin4 : ∀ w ∈ wsX40, w ∈ wsX4_say := fun w h => List.mem_cons_of_mem _ (List.mem_append_right _ (h))
  refine lv_aload_n hx hb dX4_say_0 rfl (lv_at hl 0 rfl) ?_
  refine va_get (ci := 4) (v := .int (nI 0)) (C := RX4) (T := TX4) (N := 6) hx hb hts hin4 hown hK hP 0 rfl rfl 2 (by decide) (hts (.fieldLink RX4 19 "UpAllRound$Voices" "parted" "Z") (List.mem_of_getElem? (i := 1) rfl)) (fun _ h9 => h9) rfl dX4_say_1 ?_
  refine lv_if_ne (tgt := 14) hx hb dX4_say_4 (by decide) (fun c4_1 => ?_) (fun c4_1 => ?_)
  · have c4_1 : ¬ (0 = 0) := fun h9 => c4_1 ((nI_eq (a := 0) (b := 0) (by omega) (by omega)).mpr h9)
    exact absurd c4_1 (by omega)
  · have c4_1 : 0 = 0 := (nI_eq (a := 0) (b := 0) (by omega) (by omega)).mp c4_1
    refine lv_iload hx hb dX4_say_7 (lv_at hl 4 rfl) ?_
    refine lv_bipush (v := nI 40) hx hb dX4_say_9 (by decide) ?_
    refine lv_icmp_le (tgt := 16) hx hb dX4_say_11 (by decide) (fun c11_2 => ?_) (fun c11_2 => ?_)
    · have c11_2 : d ≤ 40 := (nI_leI (a := d) (b := 40) (by omega) (by omega)).mp c11_2
      refine lv_iload_n hx hb dX4_say_16 rfl (lv_at hl 1 rfl) ?_
      refine lv_iload_n hx hb dX4_say_17 rfl (lv_at hl 2 rfl) ?_
      refine zcsE (va_runS (As := [.int (nI 3), .int (nI 3)]) (rest := []) ⟨hx, hb, hml, hown, hts⟩ (c_X4_find_3_3 l D cI cJ   s.heap.size) (va_cwS 2 hts gX4_say_X4_find rfl rfl rfl (by decide +kernel) ⟨Nat.le_of_ble_eq_true rfl, Nat.le_of_ble_eq_true rfl⟩) (zpS hK hN hZ hP hD hS hA [] rfl (by decide)) rfl rfl hl.1 rfl (lv_room (Nat.le_of_ble_eq_true rfl)) dX4_say_18 ⟨Nat.zero_le _, Nat.zero_le _⟩) ?_
      refine lv_istore (lv' := [(5, .int (nI 13)), (0, .ref h), (1, .int (nI 3)), (2, .int (nI 3)), (3, .int x), (4, .int (nI d))]) hx hb dX4_say_21 hl (by decide) rfl (fun ls hl => ?_)
      refine lv_aload_n hx hb dX4_say_23 rfl (lv_at hl 1 rfl) ?_
      refine lv_iload hx hb dX4_say_24 (lv_at hl 0 rfl) ?_
      refine zcv (wr := []) (va_runV (As := [.int (nI 13)]) (rest := []) ⟨hx, hb, hml, hown, hts⟩ (c_X4_begin l D cI cJ h hT9 T tn 0 3 sp mm 13 (by first | rfl | assumption | omega) s.heap.size) (cwV 1 hts gX4_say_X4_begin rfl rfl rfl (by decide +kernel) ⟨Nat.le_of_ble_eq_true rfl, Nat.le_of_ble_eq_true rfl⟩) (zpV hK hN hZ hP hD hS hA [0, 1] rfl (by decide) 0 rfl rfl rfl) rfl rfl hl.1 rfl (lv_room (Nat.le_of_ble_eq_true rfl)) dX4_say_26 ⟨Nat.zero_le _, Nat.zero_le _⟩) hP hD hS hA [0, 1] [] rfl rfl (by decide) (by decide) (fun w_4 H locs h_3 hP hD hS => ?_)
      obtain rfl := h_3
      have hP : va_P D vwCl [(h, .inr (4, [.ref hT9, .int (nI ((tn + 1))), .int (nI 0), .int (nI 3), .int (nI sp), .int mm])), (hT9, .inl (cI, 30, .inl ((upd T tn (nI 13)))))] H := hP
      have hD : va_D AA [(h, .inr (4, [.ref hT9, .int (nI ((tn + 1))), .int (nI 0), .int (nI 3), .int (nI sp), .int mm])), (hT9, .inl (cI, 30, .inl ((upd T tn (nI 13)))))] := hD
      refine lv_aload_n hx hb dX4_say_29 rfl (lv_at hl 1 rfl) ?_
      refine lv_iload hx hb dX4_say_30 (lv_at hl 0 rfl) ?_
      refine lv_iload_n hx hb dX4_say_32 rfl (lv_at hl 4 rfl) ?_
      refine lv_iload hx hb dX4_say_33 (lv_at hl 5 rfl) ?_
      refine lv_iconst (v := nI 1) hx hb dX4_say_35 (by decide) ?_
      refine lv_iadd hx hb dX4_say_36 ?_
      refine zrw (nI_add _ _) ?_
      refine zci (wr := []) (va_runV (As := [.int (nI 13), .int x, .int (nI (d + 1))]) (rest := []) ⟨hx, hb, hml, hown, hts⟩ (c_X4_sayBody_3_3_3 l D cI cJ h hT9 ((upd T tn (nI 13))) ((tn + 1)) sp mm x (d + 1) (by first | rfl | assumption | omega) (by first | rfl | assumption | omega) H.size) (cwV 3 hts gX4_say_X4_sayBody rfl rfl rfl (by decide +kernel) ⟨Nat.le_of_ble_eq_true rfl, Nat.le_of_ble_eq_true rfl⟩) (zpV hK hN hZ hP hD hS hA [0, 1] rfl (by decide) 0 rfl rfl rfl) rfl rfl hl.1 rfl (lv_room (Nat.le_of_ble_eq_true rfl)) dX4_say_37 ⟨Nat.zero_le _, Nat.zero_le _⟩) hP hD hS hA [0, 1] [] rfl rfl (by decide) (by decide) (fun r_7 w_6 H locs h_5 hP hD hS => ?_)
      obtain ⟨rfl, rfl⟩ := h_5
      have hP : va_P D vwCl [(h, .inr (4, [.ref hT9, .int (nI (((tn + 1)))), .int (nI ((zpd sp mm))), .int (nI 3), .int (nI sp), .int mm])), (hT9, .inl (cI, 30, .inl (((upd T tn (nI 13))))))] H := hP
      have hD : va_D AA [(h, .inr (4, [.ref hT9, .int (nI (((tn + 1)))), .int (nI ((zpd sp mm))), .int (nI 3), .int (nI sp), .int mm])), (hT9, .inl (cI, 30, .inl (((upd T tn (nI 13))))))] := hD
      exact hret hP hD hS dX4_say_40 rfl (by exact ⟨rfl, rfl⟩)
    · have c11_2 : ¬ (d ≤ 40) := fun h9 => c11_2 ((nI_leI (a := d) (b := 40) (by omega) (by omega)).mpr h9)
      exact absurd c11_2 (by omega)
set_option maxHeartbeats 4000000 in
set_option maxRecDepth 100000 in
theorem c_X4_sayBody_0_0_4 (l : Launch) (D : va_G) (cI cJ : ClassId) (h : Nat) (hT9 : Nat) (T : Nat → Int32) (tn : Nat) (sp : Nat) (mm : Int32) (x : Int32) (d : Nat) (htn : tn + 0 ≤ 30) (hd : d + 0 ≤ 40) : zMi l yX4_sayBody wsX4_sayBody ({ frames := 0, cells := 0, slots := 0, locals := 0 } : Room) D [(cI, .int), (cJ, .array .int)] [.ref h, .int (nI 10), .int x, .int (nI d)] [(h, .inr (4, [.ref hT9, .int (nI tn), .int (nI 0), .int (nI 4), .int (nI sp), .int mm])), (hT9, .inl (cI, 30, .inl T))] (fun r w => r = (zpants 0 sp x ) ∧ w = [(h, .inr (4, [.ref hT9, .int (nI tn), .int (nI 0), .int (nI 4), .int (nI sp), .int mm])), (hT9, .inl (cI, 30, .inl T))]) := by
  refine zMi.start (cc := cX4_sayBody) (maxL := 4) (rt := .int) (by first | decide | decide +kernel) rfl (Nat.le_of_ble_eq_true rfl) ?_
  intro pg ev s mt args below meth cd ls AA QQ ⟨hx, hb, hml, hr, hlocks, hown, hts, hK, hN, hZ, hP, hD, hA, hS, hl⟩ hret
  have hown : s.vm.findClass RX4 = some mt.cls := hown
  have hl : lv_has ls 4 [(0, .ref h), (1, .int (nI 10)), (2, .int x), (3, .int (nI d))] := hl
  have hin4 : ∀ w ∈ wsX40, w ∈ wsX4_sayBody := fun w h => List.mem_cons_of_mem _ (List.mem_append_right _ (h))
  refine lv_iload_n hx hb dX4_sayBody_0 rfl (lv_at hl 1 rfl) ?_
  refine lv_lookup (off := 115) (tgt := 116) hx hb dX4_sayBody_1 (by decide) (by decide) (by decide) ?_
  refine lv_iload_n hx hb dX4_sayBody_116 rfl (lv_at hl 2 rfl) ?_
  refine lv_aload_n hx hb dX4_sayBody_117 rfl (lv_at hl 0 rfl) ?_
  refine va_get (ci := 4) (v := .int (nI sp)) (C := RX4) (T := TX4) (N := 6) hx hb hts hin4 hown hK hP 0 rfl rfl 4 (by decide) (hts (.fieldLink RX4 26 "UpAllRound$Voices" "k" "I") (List.mem_of_getElem? (i := 1) rfl)) (fun _ h9 => h9) rfl dX4_sayBody_118 ?_
  refine lv_iadd hx hb dX4_sayBody_121 ?_
  exact hret hP hD hS dX4_sayBody_122 rfl (by exact ⟨rfl, rfl⟩)
set_option maxHeartbeats 4000000 in
set_option maxRecDepth 100000 in
theorem c_X4_say_0_0_4 (l : Launch) (D : va_G) (cI cJ : ClassId) (h : Nat) (hT9 : Nat) (T : Nat → Int32) (tn : Nat) (sp : Nat) (mm : Int32) (x : Int32) (d : Nat) (htn : tn + 1 ≤ 30) (hd : d + 1 ≤ 40) : zMi l yX4_say wsX4_say ({ frames := 2, cells := 0, slots := 0, locals := 46 } : Room) D [(cI, .int), (cJ, .array .int)] [.ref h, .int (nI 0), .int (nI 0), .int x, .int (nI d)] [(h, .inr (4, [.ref hT9, .int (nI tn), .int (nI 0), .int (nI 4), .int (nI sp), .int mm])), (hT9, .inl (cI, 30, .inl T))] (fun r w => r = (zpants 0 sp x ) ∧ w = [(h, .inr (4, [.ref hT9, .int (nI ((tn + 1))), .int (nI 0), .int (nI 4), .int (nI sp), .int mm])), (hT9, .inl (cI, 30, .inl ((upd T tn (nI 10)))))]) := by
  refine zMi.start (cc := cX4_say) (maxL := 6) (rt := .int) (by first | decide | decide +kernel) rfl (Nat.le_of_ble_eq_true rfl) ?_
  intro pg ev s mt args below meth cd ls AA QQ ⟨hx, hb, hml, hr, hlocks, hown, hts, hK, hN, hZ, hP, hD, hA, hS, hl⟩ hret
  have hown : s.vm.findClass RX4 = some mt.cls := hown
  have hl : lv_has ls 6 [(0, .ref h), (1, .int (nI 0)), (2, .int (nI 0)), (3, .int x), (4, .int (nI d))] := hl
  have hin4 : ∀ w ∈ wsX40, w ∈ wsX4_say := fun w h => List.mem_cons_of_mem _ (List.mem_append_right _ (h))
  refine lv_aload_n hx hb dX4_say_0 rfl (lv_at hl 0 rfl) ?_
  refine va_get (ci := 4) (v := .int (nI 0)) (C := RX4) (T := TX4) (N := 6) hx hb hts hin4 hown hK hP 0 rfl rfl 2 (by decide) (hts (.fieldLink RX4 19 "UpAllRound$Voices" "parted" "Z") (List.mem_of_getElem? (i := 1) rfl)) (fun _ h9 => h9) rfl dX4_say_1 ?_
  refine lv_if_ne (tgt := 14) hx hb dX4_say_4 (by decide) (fun c4_1 => ?_) (fun c4_1 => ?_)
  · have c4_1 : ¬ (0 = 0) := fun h9 => c4_1 ((nI_eq (a := 0) (b := 0) (by omega) (by omega)).mpr h9)
    exact absurd c4_1 (by omega)
  · have c4_1 : 0 = 0 := (nI_eq (a := 0) (b := 0) (by omega) (by omega)).mp c4_1
    refine lv_iload hx hb dX4_say_7 (lv_at hl 4 rfl) ?_
    refine lv_bipush (v := nI 40) hx hb dX4_say_9 (by decide) ?_
    refine lv_icmp_le (tgt := 16) hx hb dX4_say_11 (by decide) (fun c11_2 => ?_) (fun c11_2 => ?_)
    · have c11_2 : d ≤ 40 := (nI_leI (a := d) (b := 40) (by omega) (by omega)).mp c11_2
      refine lv_iload_n hx hb dX4_say_16 rfl (lv_at hl 1 rfl) ?_
      refine lv_iload_n hx hb dX4_say_17 rfl (lv_at hl 2 rfl) ?_
      refine zcsE (va_runS (As := [.int (nI 0), .int (nI 0)]) (rest := []) ⟨hx, hb, hml, hown, hts⟩ (c_X4_find_0_0 l D cI cJ   s.heap.size) (va_cwS 2 hts gX4_say_X4_find rfl rfl rfl (by decide +kernel) ⟨Nat.le_of_ble_eq_true rfl, Nat.le_of_ble_eq_true rfl⟩) (zpS hK hN hZ hP hD hS hA [] rfl (by decide)) rfl rfl hl.1 rfl (lv_room (Nat.le_of_ble_eq_true rfl)) dX4_say_18 ⟨Nat.zero_le _, Nat.zero_le _⟩) ?_
      refine lv_istore (lv' := [(5, .int (nI 10)), (0, .ref h), (1, .int (nI 0)), (2, .int (nI 0)), (3, .int x), (4, .int (nI d))]) hx hb dX4_say_21 hl (by decide) rfl (fun ls hl => ?_)
      refine lv_aload_n hx hb dX4_say_23 rfl (lv_at hl 1 rfl) ?_
      refine lv_iload hx hb dX4_say_24 (lv_at hl 0 rfl) ?_
      refine zcv (wr := []) (va_runV (As := [.int (nI 10)]) (rest := []) ⟨hx, hb, hml, hown, hts⟩ (c_X4_begin l D cI cJ h hT9 T tn 0 4 sp mm 10 (by first | rfl | assumption | omega) s.heap.size) (cwV 1 hts gX4_say_X4_begin rfl rfl rfl (by decide +kernel) ⟨Nat.le_of_ble_eq_true rfl, Nat.le_of_ble_eq_true rfl⟩) (zpV hK hN hZ hP hD hS hA [0, 1] rfl (by decide) 0 rfl rfl rfl) rfl rfl hl.1 rfl (lv_room (Nat.le_of_ble_eq_true rfl)) dX4_say_26 ⟨Nat.zero_le _, Nat.zero_le _⟩) hP hD hS hA [0, 1] [] rfl rfl (by decide) (by decide) (fun w_4 H locs h_3 hP hD hS => ?_)
      obtain rfl := h_3
      have hP : va_P D vwCl [(h, .inr (4, [.ref hT9, .int (nI ((tn + 1))), .int (nI 0), .int (nI 4), .int (nI sp), .int mm])), (hT9, .inl (cI, 30, .inl ((upd T tn (nI 10)))))] H := hP
      have hD : va_D AA [(h, .inr (4, [.ref hT9, .int (nI ((tn + 1))), .int (nI 0), .int (nI 4), .int (nI sp), .int mm])), (hT9, .inl (cI, 30, .inl ((upd T tn (nI 10)))))] := hD
      refine lv_aload_n hx hb dX4_say_29 rfl (lv_at hl 1 rfl) ?_
      refine lv_iload hx hb dX4_say_30 (lv_at hl 0 rfl) ?_
      refine lv_iload_n hx hb dX4_say_32 rfl (lv_at hl 4 rfl) ?_
      refine lv_iload hx hb dX4_say_33 (lv_at hl 5 rfl) ?_
      refine lv_iconst (v := nI 1) hx hb dX4_say_35 (by decide) ?_
      refine lv_iadd hx hb dX4_say_36 ?_
      refine zrw (nI_add _ _) ?_
      refine zci (wr := []) (va_runV (As := [.int (nI 10), .int x, .int (nI (d + 1))]) (rest := []) ⟨hx, hb, hml, hown, hts⟩ (c_X4_sayBody_0_0_4 l D cI cJ h hT9 ((upd T tn (nI 10))) ((tn + 1)) sp mm x (d + 1) (by first | rfl | assumption | omega) (by first | rfl | assumption | omega) H.size) (cwV 3 hts gX4_say_X4_sayBody rfl rfl rfl (by decide +kernel) ⟨Nat.le_of_ble_eq_true rfl, Nat.le_of_ble_eq_true rfl⟩) (zpV hK hN hZ hP hD hS hA [0, 1] rfl (by decide) 0 rfl rfl rfl) rfl rfl hl.1 rfl (lv_room (Nat.le_of_ble_eq_true rfl)) dX4_say_37 ⟨Nat.zero_le _, Nat.zero_le _⟩) hP hD hS hA [0, 1] [] rfl rfl (by decide) (by decide) (fun r_7 w_6 H locs h_5 hP hD hS => ?_)
      obtain ⟨rfl, rfl⟩ := h_5
      have hP : va_P D vwCl [(h, .inr (4, [.ref hT9, .int (nI (((tn + 1)))), .int (nI 0), .int (nI 4), .int (nI sp), .int mm])), (hT9, .inl (cI, 30, .inl (((upd T tn (nI 10))))))] H := hP
      have hD : va_D AA [(h, .inr (4, [.ref hT9, .int (nI (((tn + 1)))), .int (nI 0), .int (nI 4), .int (nI sp), .int mm])), (hT9, .inl (cI, 30, .inl (((upd T tn (nI 10))))))] := hD
      exact hret hP hD hS dX4_say_40 rfl (by exact ⟨rfl, rfl⟩)
    · have c11_2 : ¬ (d ≤ 40) := fun h9 => c11_2 ((nI_leI (a := d) (b := 40) (by omega) (by omega)).mpr h9)
      exact absurd c11_2 (by omega)
set_option maxHeartbeats 4000000 in
set_option maxRecDepth 100000 in
theorem c_X4_sayBody_1_0_4 (l : Launch) (D : va_G) (cI cJ : ClassId) (h : Nat) (hT9 : Nat) (T : Nat → Int32) (tn : Nat) (sp : Nat) (mm : Int32) (x : Int32) (d : Nat) (htn : tn + 1 ≤ 30) (hd : d + 1 ≤ 40) : zMi l yX4_sayBody wsX4_sayBody ({ frames := 3, cells := 0, slots := 0, locals := 71 } : Room) D [(cI, .int), (cJ, .array .int)] [.ref h, .int (nI 20), .int x, .int (nI d)] [(h, .inr (4, [.ref hT9, .int (nI tn), .int (nI 0), .int (nI 4), .int (nI sp), .int mm])), (hT9, .inl (cI, 30, .inl T))] (fun r w => r = (zpants 1 sp x ) ∧ w = [(h, .inr (4, [.ref hT9, .int (nI ((tn + 1))), .int (nI 0), .int (nI 4), .int (nI sp), .int mm])), (hT9, .inl (cI, 30, .inl ((upd T tn (nI 10)))))]) := by
  refine zMi.start (cc := cX4_sayBody) (maxL := 4) (rt := .int) (by first | decide | decide +kernel) rfl (Nat.le_of_ble_eq_true rfl) ?_
  intro pg ev s mt args below meth cd ls AA QQ ⟨hx, hb, hml, hr, hlocks, hown, hts, hK, hN, hZ, hP, hD, hA, hS, hl⟩ hret
  have hown : s.vm.findClass RX4 = some mt.cls := hown
  have hl : lv_has ls 4 [(0, .ref h), (1, .int (nI 20)), (2, .int x), (3, .int (nI d))] := hl
  have hin4 : ∀ w ∈ wsX40, w ∈ wsX4_sayBody := fun w h => List.mem_cons_of_mem _ (List.mem_append_right _ (h))
  refine lv_iload_n hx hb dX4_sayBody_0 rfl (lv_at hl 1 rfl) ?_
  refine lv_lookup (off := 159) (tgt := 160) hx hb dX4_sayBody_1 (by decide) (by decide) (by decide) ?_
  refine lv_aload_n hx hb dX4_sayBody_160 rfl (lv_at hl 0 rfl) ?_
  refine lv_iconst (v := nI 0) hx hb dX4_sayBody_161 (by decide) ?_
  refine lv_iconst (v := nI 0) hx hb dX4_sayBody_162 (by decide) ?_
  refine lv_iload_n hx hb dX4_sayBody_163 rfl (lv_at hl 2 rfl) ?_
  refine lv_iload_n hx hb dX4_sayBody_164 rfl (lv_at hl 3 rfl) ?_
  refine zci (wr := []) (va_runV (As := [.int (nI 0), .int (nI 0), .int x, .int (nI d)]) (rest := []) ⟨hx, hb, hml, hown, hts⟩ (c_X4_say_0_0_4 l D cI cJ h hT9 T tn sp mm x d (by first | rfl | assumption | omega) (by first | rfl | assumption | omega) s.heap.size) (cwV 4 hts gX4_sayBody_X4_say rfl rfl rfl (by decide +kernel) ⟨Nat.le_of_ble_eq_true rfl, Nat.le_of_ble_eq_true rfl⟩) (zpV hK hN hZ hP hD hS hA [0, 1] rfl (by decide) 0 rfl rfl rfl) rfl rfl hl.1 rfl (lv_room (Nat.le_of_ble_eq_true rfl)) dX4_sayBody_165 ⟨Nat.zero_le _, Nat.zero_le _⟩) hP hD hS hA [0, 1] [] rfl rfl (by decide) (by decide) (fun r_3 w_2 H locs h_1 hP hD hS => ?_)
  obtain ⟨rfl, rfl⟩ := h_1
  have hP : va_P D vwCl [(h, .inr (4, [.ref hT9, .int (nI ((tn + 1))), .int (nI 0), .int (nI 4), .int (nI sp), .int mm])), (hT9, .inl (cI, 30, .inl ((upd T tn (nI 10)))))] H := hP
  have hD : va_D AA [(h, .inr (4, [.ref hT9, .int (nI ((tn + 1))), .int (nI 0), .int (nI 4), .int (nI sp), .int mm])), (hT9, .inl (cI, 30, .inl ((upd T tn (nI 10)))))] := hD
  refine lv_iconst (v := nI 4) hx hb dX4_sayBody_168 (by decide) ?_
  refine lv_isub hx hb dX4_sayBody_169 ?_
  exact hret hP hD hS dX4_sayBody_170 rfl (by exact ⟨rfl, rfl⟩)
set_option maxHeartbeats 4000000 in
set_option maxRecDepth 100000 in
theorem c_X4_say_1_0_4 (l : Launch) (D : va_G) (cI cJ : ClassId) (h : Nat) (hT9 : Nat) (T : Nat → Int32) (tn : Nat) (sp : Nat) (mm : Int32) (x : Int32) (d : Nat) (htn : tn + 2 ≤ 30) (hd : d + 2 ≤ 40) : zMi l yX4_say wsX4_say ({ frames := 4, cells := 0, slots := 0, locals := 94 } : Room) D [(cI, .int), (cJ, .array .int)] [.ref h, .int (nI 1), .int (nI 0), .int x, .int (nI d)] [(h, .inr (4, [.ref hT9, .int (nI tn), .int (nI 0), .int (nI 4), .int (nI sp), .int mm])), (hT9, .inl (cI, 30, .inl T))] (fun r w => r = (zpants 1 sp x ) ∧ w = [(h, .inr (4, [.ref hT9, .int (nI (((tn + 1) + 1))), .int (nI 0), .int (nI 4), .int (nI sp), .int mm])), (hT9, .inl (cI, 30, .inl ((upd (upd T tn (nI 20)) (tn + 1) (nI 10)))))]) := by
  refine zMi.start (cc := cX4_say) (maxL := 6) (rt := .int) (by first | decide | decide +kernel) rfl (Nat.le_of_ble_eq_true rfl) ?_
  intro pg ev s mt args below meth cd ls AA QQ ⟨hx, hb, hml, hr, hlocks, hown, hts, hK, hN, hZ, hP, hD, hA, hS, hl⟩ hret
  have hown : s.vm.findClass RX4 = some mt.cls := hown
  have hl : lv_has ls 6 [(0, .ref h), (1, .int (nI 1)), (2, .int (nI 0)), (3, .int x), (4, .int (nI d))] := hl
  have hin4 : ∀ w ∈ wsX40, w ∈ wsX4_say := fun w h => List.mem_cons_of_mem _ (List.mem_append_right _ (h))
  refine lv_aload_n hx hb dX4_say_0 rfl (lv_at hl 0 rfl) ?_
  refine va_get (ci := 4) (v := .int (nI 0)) (C := RX4) (T := TX4) (N := 6) hx hb hts hin4 hown hK hP 0 rfl rfl 2 (by decide) (hts (.fieldLink RX4 19 "UpAllRound$Voices" "parted" "Z") (List.mem_of_getElem? (i := 1) rfl)) (fun _ h9 => h9) rfl dX4_say_1 ?_
  refine lv_if_ne (tgt := 14) hx hb dX4_say_4 (by decide) (fun c4_1 => ?_) (fun c4_1 => ?_)
  · have c4_1 : ¬ (0 = 0) := fun h9 => c4_1 ((nI_eq (a := 0) (b := 0) (by omega) (by omega)).mpr h9)
    exact absurd c4_1 (by omega)
  · have c4_1 : 0 = 0 := (nI_eq (a := 0) (b := 0) (by omega) (by omega)).mp c4_1
    refine lv_iload hx hb dX4_say_7 (lv_at hl 4 rfl) ?_
    refine lv_bipush (v := nI 40) hx hb dX4_say_9 (by decide) ?_
    refine lv_icmp_le (tgt := 16) hx hb dX4_say_11 (by decide) (fun c11_2 => ?_) (fun c11_2 => ?_)
    · have c11_2 : d ≤ 40 := (nI_leI (a := d) (b := 40) (by omega) (by omega)).mp c11_2
      refine lv_iload_n hx hb dX4_say_16 rfl (lv_at hl 1 rfl) ?_
      refine lv_iload_n hx hb dX4_say_17 rfl (lv_at hl 2 rfl) ?_
      refine zcsE (va_runS (As := [.int (nI 1), .int (nI 0)]) (rest := []) ⟨hx, hb, hml, hown, hts⟩ (c_X4_find_1_0 l D cI cJ   s.heap.size) (va_cwS 2 hts gX4_say_X4_find rfl rfl rfl (by decide +kernel) ⟨Nat.le_of_ble_eq_true rfl, Nat.le_of_ble_eq_true rfl⟩) (zpS hK hN hZ hP hD hS hA [] rfl (by decide)) rfl rfl hl.1 rfl (lv_room (Nat.le_of_ble_eq_true rfl)) dX4_say_18 ⟨Nat.zero_le _, Nat.zero_le _⟩) ?_
      refine lv_istore (lv' := [(5, .int (nI 20)), (0, .ref h), (1, .int (nI 1)), (2, .int (nI 0)), (3, .int x), (4, .int (nI d))]) hx hb dX4_say_21 hl (by decide) rfl (fun ls hl => ?_)
      refine lv_aload_n hx hb dX4_say_23 rfl (lv_at hl 1 rfl) ?_
      refine lv_iload hx hb dX4_say_24 (lv_at hl 0 rfl) ?_
      refine zcv (wr := []) (va_runV (As := [.int (nI 20)]) (rest := []) ⟨hx, hb, hml, hown, hts⟩ (c_X4_begin l D cI cJ h hT9 T tn 0 4 sp mm 20 (by first | rfl | assumption | omega) s.heap.size) (cwV 1 hts gX4_say_X4_begin rfl rfl rfl (by decide +kernel) ⟨Nat.le_of_ble_eq_true rfl, Nat.le_of_ble_eq_true rfl⟩) (zpV hK hN hZ hP hD hS hA [0, 1] rfl (by decide) 0 rfl rfl rfl) rfl rfl hl.1 rfl (lv_room (Nat.le_of_ble_eq_true rfl)) dX4_say_26 ⟨Nat.zero_le _, Nat.zero_le _⟩) hP hD hS hA [0, 1] [] rfl rfl (by decide) (by decide) (fun w_4 H locs h_3 hP hD hS => ?_)
      obtain rfl := h_3
      have hP : va_P D vwCl [(h, .inr (4, [.ref hT9, .int (nI ((tn + 1))), .int (nI 0), .int (nI 4), .int (nI sp), .int mm])), (hT9, .inl (cI, 30, .inl ((upd T tn (nI 20)))))] H := hP
      have hD : va_D AA [(h, .inr (4, [.ref hT9, .int (nI ((tn + 1))), .int (nI 0), .int (nI 4), .int (nI sp), .int mm])), (hT9, .inl (cI, 30, .inl ((upd T tn (nI 20)))))] := hD
      refine lv_aload_n hx hb dX4_say_29 rfl (lv_at hl 1 rfl) ?_
      refine lv_iload hx hb dX4_say_30 (lv_at hl 0 rfl) ?_
      refine lv_iload_n hx hb dX4_say_32 rfl (lv_at hl 4 rfl) ?_
      refine lv_iload hx hb dX4_say_33 (lv_at hl 5 rfl) ?_
      refine lv_iconst (v := nI 1) hx hb dX4_say_35 (by decide) ?_
      refine lv_iadd hx hb dX4_say_36 ?_
      refine zrw (nI_add _ _) ?_
      refine zci (wr := []) (va_runV (As := [.int (nI 20), .int x, .int (nI (d + 1))]) (rest := []) ⟨hx, hb, hml, hown, hts⟩ (c_X4_sayBody_1_0_4 l D cI cJ h hT9 ((upd T tn (nI 20))) ((tn + 1)) sp mm x (d + 1) (by first | rfl | assumption | omega) (by first | rfl | assumption | omega) H.size) (cwV 3 hts gX4_say_X4_sayBody rfl rfl rfl (by decide +kernel) ⟨Nat.le_of_ble_eq_true rfl, Nat.le_of_ble_eq_true rfl⟩) (zpV hK hN hZ hP hD hS hA [0, 1] rfl (by decide) 0 rfl rfl rfl) rfl rfl hl.1 rfl (lv_room (Nat.le_of_ble_eq_true rfl)) dX4_say_37 ⟨Nat.zero_le _, Nat.zero_le _⟩) hP hD hS hA [0, 1] [] rfl rfl (by decide) (by decide) (fun r_7 w_6 H locs h_5 hP hD hS => ?_)
      obtain ⟨rfl, rfl⟩ := h_5
      have hP : va_P D vwCl [(h, .inr (4, [.ref hT9, .int (nI ((((tn + 1)) + 1))), .int (nI 0), .int (nI 4), .int (nI sp), .int mm])), (hT9, .inl (cI, 30, .inl ((upd ((upd T tn (nI 20))) ((tn + 1)) (nI 10)))))] H := hP
      have hD : va_D AA [(h, .inr (4, [.ref hT9, .int (nI ((((tn + 1)) + 1))), .int (nI 0), .int (nI 4), .int (nI sp), .int mm])), (hT9, .inl (cI, 30, .inl ((upd ((upd T tn (nI 20))) ((tn + 1)) (nI 10)))))] := hD
      exact hret hP hD hS dX4_say_40 rfl (by exact ⟨rfl, rfl⟩)
    · have c11_2 : ¬ (d ≤ 40) := fun h9 => c11_2 ((nI_leI (a := d) (b := 40) (by omega) (by omega)).mpr h9)
      exact absurd c11_2 (by omega)
set_option maxHeartbeats 4000000 in
set_option maxRecDepth 100000 in
theorem c_X4_sayBody_4_0_4 (l : Launch) (D : va_G) (cI cJ : ClassId) (h : Nat) (hT9 : Nat) (T : Nat → Int32) (tn : Nat) (sp : Nat) (mm : Int32) (x : Int32) (d : Nat) (htn : tn + 2 ≤ 30) (hd : d + 2 ≤ 40) : zMi l yX4_sayBody wsX4_sayBody ({ frames := 5, cells := 0, slots := 0, locals := 119 } : Room) D [(cI, .int), (cJ, .array .int)] [.ref h, .int (nI 50), .int x, .int (nI d)] [(h, .inr (4, [.ref hT9, .int (nI tn), .int (nI 0), .int (nI 4), .int (nI sp), .int mm])), (hT9, .inl (cI, 30, .inl T))] (fun r w => r = (zpants 4 sp x ) ∧ w = [(h, .inr (4, [.ref hT9, .int (nI (((tn + 1) + 1))), .int (nI 0), .int (nI 4), .int (nI sp), .int mm])), (hT9, .inl (cI, 30, .inl ((upd (upd T tn (nI 20)) (tn + 1) (nI 10)))))]) := by
  refine zMi.start (cc := cX4_sayBody) (maxL := 4) (rt := .int) (by first | decide | decide +kernel) rfl (Nat.le_of_ble_eq_true rfl) ?_
  intro pg ev s mt args below meth cd ls AA QQ ⟨hx, hb, hml, hr, hlocks, hown, hts, hK, hN, hZ, hP, hD, hA, hS, hl⟩ hret
  have hown : s.vm.findClass RX4 = some mt.cls := hown
  have hl : lv_has ls 4 [(0, .ref h), (1, .int (nI 50)), (2, .int x), (3, .int (nI d))] := hl
  have hin4 : ∀ w ∈ wsX40, w ∈ wsX4_sayBody := fun w h => List.mem_cons_of_mem _ (List.mem_append_right _ (h))
  refine lv_iload_n hx hb dX4_sayBody_0 rfl (lv_at hl 1 rfl) ?_
  refine lv_lookup (off := 213) (tgt := 214) hx hb dX4_sayBody_1 (by decide) (by decide) (by decide) ?_
  refine lv_aload_n hx hb dX4_sayBody_214 rfl (lv_at hl 0 rfl) ?_
  refine lv_iconst (v := nI 1) hx hb dX4_sayBody_215 (by decide) ?_
  refine lv_iconst (v := nI 0) hx hb dX4_sayBody_216 (by decide) ?_
  refine lv_iload_n hx hb dX4_sayBody_217 rfl (lv_at hl 2 rfl) ?_
  refine lv_iload_n hx hb dX4_sayBody_218 rfl (lv_at hl 3 rfl) ?_
  refine zci (wr := []) (va_runV (As := [.int (nI 1), .int (nI 0), .int x, .int (nI d)]) (rest := []) ⟨hx, hb, hml, hown, hts⟩ (c_X4_say_1_0_4 l D cI cJ h hT9 T tn sp mm x d (by first | rfl | assumption | omega) (by first | rfl | assumption | omega) s.heap.size) (cwV 4 hts gX4_sayBody_X4_say rfl rfl rfl (by decide +kernel) ⟨Nat.le_of_ble_eq_true rfl, Nat.le_of_ble_eq_true rfl⟩) (zpV hK hN hZ hP hD hS hA [0, 1] rfl (by decide) 0 rfl rfl rfl) rfl rfl hl.1 rfl (lv_room (Nat.le_of_ble_eq_true rfl)) dX4_sayBody_219 ⟨Nat.zero_le _, Nat.zero_le _⟩) hP hD hS hA [0, 1] [] rfl rfl (by decide) (by decide) (fun r_3 w_2 H locs h_1 hP hD hS => ?_)
  obtain ⟨rfl, rfl⟩ := h_1
  have hP : va_P D vwCl [(h, .inr (4, [.ref hT9, .int (nI (((tn + 1) + 1))), .int (nI 0), .int (nI 4), .int (nI sp), .int mm])), (hT9, .inl (cI, 30, .inl ((upd (upd T tn (nI 20)) (tn + 1) (nI 10)))))] H := hP
  have hD : va_D AA [(h, .inr (4, [.ref hT9, .int (nI (((tn + 1) + 1))), .int (nI 0), .int (nI 4), .int (nI sp), .int mm])), (hT9, .inl (cI, 30, .inl ((upd (upd T tn (nI 20)) (tn + 1) (nI 10)))))] := hD
  refine lv_iconst (v := nI 3) hx hb dX4_sayBody_222 (by decide) ?_
  refine lv_imul hx hb dX4_sayBody_223 ?_
  exact hret hP hD hS dX4_sayBody_224 rfl (by exact ⟨rfl, rfl⟩)
set_option maxHeartbeats 4000000 in
set_option maxRecDepth 100000 in
theorem c_X4_say_4_0_4 (l : Launch) (D : va_G) (cI cJ : ClassId) (h : Nat) (hT9 : Nat) (T : Nat → Int32) (tn : Nat) (sp : Nat) (mm : Int32) (x : Int32) (d : Nat) (htn : tn + 3 ≤ 30) (hd : d + 3 ≤ 40) : zMi l yX4_say wsX4_say ({ frames := 6, cells := 0, slots := 0, locals := 142 } : Room) D [(cI, .int), (cJ, .array .int)] [.ref h, .int (nI 4), .int (nI 0), .int x, .int (nI d)] [(h, .inr (4, [.ref hT9, .int (nI tn), .int (nI 0), .int (nI 4), .int (nI sp), .int mm])), (hT9, .inl (cI, 30, .inl T))] (fun r w => r = (zpants 4 sp x ) ∧ w = [(h, .inr (4, [.ref hT9, .int (nI ((((tn + 1) + 1) + 1))), .int (nI 0), .int (nI 4), .int (nI sp), .int mm])), (hT9, .inl (cI, 30, .inl ((upd (upd (upd T tn (nI 50)) (tn + 1) (nI 20)) ((tn + 1) + 1) (nI 10)))))]) := by
  refine zMi.start (cc := cX4_say) (maxL := 6) (rt := .int) (by first | decide | decide +kernel) rfl (Nat.le_of_ble_eq_true rfl) ?_
  intro pg ev s mt args below meth cd ls AA QQ ⟨hx, hb, hml, hr, hlocks, hown, hts, hK, hN, hZ, hP, hD, hA, hS, hl⟩ hret
  have hown : s.vm.findClass RX4 = some mt.cls := hown
  have hl : lv_has ls 6 [(0, .ref h), (1, .int (nI 4)), (2, .int (nI 0)), (3, .int x), (4, .int (nI d))] := hl
  have hin4 : ∀ w ∈ wsX40, w ∈ wsX4_say := fun w h => List.mem_cons_of_mem _ (List.mem_append_right _ (h))
  refine lv_aload_n hx hb dX4_say_0 rfl (lv_at hl 0 rfl) ?_
  refine va_get (ci := 4) (v := .int (nI 0)) (C := RX4) (T := TX4) (N := 6) hx hb hts hin4 hown hK hP 0 rfl rfl 2 (by decide) (hts (.fieldLink RX4 19 "UpAllRound$Voices" "parted" "Z") (List.mem_of_getElem? (i := 1) rfl)) (fun _ h9 => h9) rfl dX4_say_1 ?_
  refine lv_if_ne (tgt := 14) hx hb dX4_say_4 (by decide) (fun c4_1 => ?_) (fun c4_1 => ?_)
  · have c4_1 : ¬ (0 = 0) := fun h9 => c4_1 ((nI_eq (a := 0) (b := 0) (by omega) (by omega)).mpr h9)
    exact absurd c4_1 (by omega)
  · have c4_1 : 0 = 0 := (nI_eq (a := 0) (b := 0) (by omega) (by omega)).mp c4_1
    refine lv_iload hx hb dX4_say_7 (lv_at hl 4 rfl) ?_
    refine lv_bipush (v := nI 40) hx hb dX4_say_9 (by decide) ?_
    refine lv_icmp_le (tgt := 16) hx hb dX4_say_11 (by decide) (fun c11_2 => ?_) (fun c11_2 => ?_)
    · have c11_2 : d ≤ 40 := (nI_leI (a := d) (b := 40) (by omega) (by omega)).mp c11_2
      refine lv_iload_n hx hb dX4_say_16 rfl (lv_at hl 1 rfl) ?_
      refine lv_iload_n hx hb dX4_say_17 rfl (lv_at hl 2 rfl) ?_
      refine zcsE (va_runS (As := [.int (nI 4), .int (nI 0)]) (rest := []) ⟨hx, hb, hml, hown, hts⟩ (c_X4_find_4_0 l D cI cJ   s.heap.size) (va_cwS 2 hts gX4_say_X4_find rfl rfl rfl (by decide +kernel) ⟨Nat.le_of_ble_eq_true rfl, Nat.le_of_ble_eq_true rfl⟩) (zpS hK hN hZ hP hD hS hA [] rfl (by decide)) rfl rfl hl.1 rfl (lv_room (Nat.le_of_ble_eq_true rfl)) dX4_say_18 ⟨Nat.zero_le _, Nat.zero_le _⟩) ?_
      refine lv_istore (lv' := [(5, .int (nI 50)), (0, .ref h), (1, .int (nI 4)), (2, .int (nI 0)), (3, .int x), (4, .int (nI d))]) hx hb dX4_say_21 hl (by decide) rfl (fun ls hl => ?_)
      refine lv_aload_n hx hb dX4_say_23 rfl (lv_at hl 1 rfl) ?_
      refine lv_iload hx hb dX4_say_24 (lv_at hl 0 rfl) ?_
      refine zcv (wr := []) (va_runV (As := [.int (nI 50)]) (rest := []) ⟨hx, hb, hml, hown, hts⟩ (c_X4_begin l D cI cJ h hT9 T tn 0 4 sp mm 50 (by first | rfl | assumption | omega) s.heap.size) (cwV 1 hts gX4_say_X4_begin rfl rfl rfl (by decide +kernel) ⟨Nat.le_of_ble_eq_true rfl, Nat.le_of_ble_eq_true rfl⟩) (zpV hK hN hZ hP hD hS hA [0, 1] rfl (by decide) 0 rfl rfl rfl) rfl rfl hl.1 rfl (lv_room (Nat.le_of_ble_eq_true rfl)) dX4_say_26 ⟨Nat.zero_le _, Nat.zero_le _⟩) hP hD hS hA [0, 1] [] rfl rfl (by decide) (by decide) (fun w_4 H locs h_3 hP hD hS => ?_)
      obtain rfl := h_3
      have hP : va_P D vwCl [(h, .inr (4, [.ref hT9, .int (nI ((tn + 1))), .int (nI 0), .int (nI 4), .int (nI sp), .int mm])), (hT9, .inl (cI, 30, .inl ((upd T tn (nI 50)))))] H := hP
      have hD : va_D AA [(h, .inr (4, [.ref hT9, .int (nI ((tn + 1))), .int (nI 0), .int (nI 4), .int (nI sp), .int mm])), (hT9, .inl (cI, 30, .inl ((upd T tn (nI 50)))))] := hD
      refine lv_aload_n hx hb dX4_say_29 rfl (lv_at hl 1 rfl) ?_
      refine lv_iload hx hb dX4_say_30 (lv_at hl 0 rfl) ?_
      refine lv_iload_n hx hb dX4_say_32 rfl (lv_at hl 4 rfl) ?_
      refine lv_iload hx hb dX4_say_33 (lv_at hl 5 rfl) ?_
      refine lv_iconst (v := nI 1) hx hb dX4_say_35 (by decide) ?_
      refine lv_iadd hx hb dX4_say_36 ?_
      refine zrw (nI_add _ _) ?_
      refine zci (wr := []) (va_runV (As := [.int (nI 50), .int x, .int (nI (d + 1))]) (rest := []) ⟨hx, hb, hml, hown, hts⟩ (c_X4_sayBody_4_0_4 l D cI cJ h hT9 ((upd T tn (nI 50))) ((tn + 1)) sp mm x (d + 1) (by first | rfl | assumption | omega) (by first | rfl | assumption | omega) H.size) (cwV 3 hts gX4_say_X4_sayBody rfl rfl rfl (by decide +kernel) ⟨Nat.le_of_ble_eq_true rfl, Nat.le_of_ble_eq_true rfl⟩) (zpV hK hN hZ hP hD hS hA [0, 1] rfl (by decide) 0 rfl rfl rfl) rfl rfl hl.1 rfl (lv_room (Nat.le_of_ble_eq_true rfl)) dX4_say_37 ⟨Nat.zero_le _, Nat.zero_le _⟩) hP hD hS hA [0, 1] [] rfl rfl (by decide) (by decide) (fun r_7 w_6 H locs h_5 hP hD hS => ?_)
      obtain ⟨rfl, rfl⟩ := h_5
      have hP : va_P D vwCl [(h, .inr (4, [.ref hT9, .int (nI (((((tn + 1)) + 1) + 1))), .int (nI 0), .int (nI 4), .int (nI sp), .int mm])), (hT9, .inl (cI, 30, .inl ((upd (upd ((upd T tn (nI 50))) ((tn + 1)) (nI 20)) (((tn + 1)) + 1) (nI 10)))))] H := hP
      have hD : va_D AA [(h, .inr (4, [.ref hT9, .int (nI (((((tn + 1)) + 1) + 1))), .int (nI 0), .int (nI 4), .int (nI sp), .int mm])), (hT9, .inl (cI, 30, .inl ((upd (upd ((upd T tn (nI 50))) ((tn + 1)) (nI 20)) (((tn + 1)) + 1) (nI 10)))))] := hD
      exact hret hP hD hS dX4_say_40 rfl (by exact ⟨rfl, rfl⟩)
    · have c11_2 : ¬ (d ≤ 40) := fun h9 => c11_2 ((nI_leI (a := d) (b := 40) (by omega) (by omega)).mpr h9)
      exact absurd c11_2 (by omega)
set_option maxHeartbeats 4000000 in
set_option maxRecDepth 100000 in
theorem c_X4_sayBody_4_1_4 (l : Launch) (D : va_G) (cI cJ : ClassId) (h : Nat) (hT9 : Nat) (T : Nat → Int32) (tn : Nat) (sp : Nat) (mm : Int32) (x : Int32) (d : Nat) (htn : tn + 3 ≤ 30) (hd : d + 3 ≤ 40) : zMi l yX4_sayBody wsX4_sayBody ({ frames := 7, cells := 0, slots := 0, locals := 167 } : Room) D [(cI, .int), (cJ, .array .int)] [.ref h, .int (nI 11), .int x, .int (nI d)] [(h, .inr (4, [.ref hT9, .int (nI tn), .int (nI 0), .int (nI 4), .int (nI sp), .int mm])), (hT9, .inl (cI, 30, .inl T))] (fun r w => r = (zcounts 4 4 sp mm x ) ∧ w = [(h, .inr (4, [.ref hT9, .int (nI ((((tn + 1) + 1) + 1))), .int (nI 0), .int (nI 4), .int (nI sp), .int mm])), (hT9, .inl (cI, 30, .inl ((upd (upd (upd T tn (nI 50)) (tn + 1) (nI 20)) ((tn + 1) + 1) (nI 10)))))]) := by
  refine zMi.start (cc := cX4_sayBody) (maxL := 4) (rt := .int) (by first | decide | decide +kernel) rfl (Nat.le_of_ble_eq_true rfl) ?_
  intro pg ev s mt args below meth cd ls AA QQ ⟨hx, hb, hml, hr, hlocks, hown, hts, hK, hN, hZ, hP, hD, hA, hS, hl⟩ hret
  have hown : s.vm.findClass RX4 = some mt.cls := hown
  have hl : lv_has ls 4 [(0, .ref h), (1, .int (nI 11)), (2, .int x), (3, .int (nI d))] := hl
  have hin4 : ∀ w ∈ wsX40, w ∈ wsX4_sayBody := fun w h => List.mem_cons_of_mem _ (List.mem_append_right _ (h))
  refine lv_iload_n hx hb dX4_sayBody_0 rfl (lv_at hl 1 rfl) ?_
  refine lv_lookup (off := 122) (tgt := 123) hx hb dX4_sayBody_1 (by decide) (by decide) (by decide) ?_
  refine lv_aload_n hx hb dX4_sayBody_123 rfl (lv_at hl 0 rfl) ?_
  refine lv_aload_n hx hb dX4_sayBody_124 rfl (lv_at hl 0 rfl) ?_
  refine va_get (ci := 4) (v := .int (nI 4)) (C := RX4) (T := TX4) (N := 6) hx hb hts hin4 hown hK hP 0 rfl rfl 3 (by decide) (hts (.fieldLink RX4 23 "UpAllRound$Voices" "kind" "I") (List.mem_of_getElem? (i := 2) rfl)) (fun _ h9 => h9) rfl dX4_sayBody_125 ?_
  refine lv_iconst (v := nI 0) hx hb dX4_sayBody_128 (by decide) ?_
  refine lv_iload_n hx hb dX4_sayBody_129 rfl (lv_at hl 2 rfl) ?_
  refine lv_iload_n hx hb dX4_sayBody_130 rfl (lv_at hl 3 rfl) ?_
  refine zci (wr := []) (va_runV (As := [.int (nI 4), .int (nI 0), .int x, .int (nI d)]) (rest := []) ⟨hx, hb, hml, hown, hts⟩ (c_X4_say_4_0_4 l D cI cJ h hT9 T tn sp mm x d (by first | rfl | assumption | omega) (by first | rfl | assumption | omega) s.heap.size) (cwV 4 hts gX4_sayBody_X4_say rfl rfl rfl (by decide +kernel) ⟨Nat.le_of_ble_eq_true rfl, Nat.le_of_ble_eq_true rfl⟩) (zpV hK hN hZ hP hD hS hA [0, 1] rfl (by decide) 0 rfl rfl rfl) rfl rfl hl.1 rfl (lv_room (Nat.le_of_ble_eq_true rfl)) dX4_sayBody_131 ⟨Nat.zero_le _, Nat.zero_le _⟩) hP hD hS hA [0, 1] [] rfl rfl (by decide) (by decide) (fun r_3 w_2 H locs h_1 hP hD hS => ?_)
  obtain ⟨rfl, rfl⟩ := h_1
  have hP : va_P D vwCl [(h, .inr (4, [.ref hT9, .int (nI ((((tn + 1) + 1) + 1))), .int (nI 0), .int (nI 4), .int (nI sp), .int mm])), (hT9, .inl (cI, 30, .inl ((upd (upd (upd T tn (nI 50)) (tn + 1) (nI 20)) ((tn + 1) + 1) (nI 10)))))] H := hP
  have hD : va_D AA [(h, .inr (4, [.ref hT9, .int (nI ((((tn + 1) + 1) + 1))), .int (nI 0), .int (nI 4), .int (nI sp), .int mm])), (hT9, .inl (cI, 30, .inl ((upd (upd (upd T tn (nI 50)) (tn + 1) (nI 20)) ((tn + 1) + 1) (nI 10)))))] := hD
  refine lv_iconst (v := nI 2) hx hb dX4_sayBody_134 (by decide) ?_
  refine lv_imul hx hb dX4_sayBody_135 ?_
  exact hret hP hD hS dX4_sayBody_136 rfl (by exact ⟨rfl, rfl⟩)
set_option maxHeartbeats 4000000 in
set_option maxRecDepth 100000 in
theorem c_X4_say_4_1_4 (l : Launch) (D : va_G) (cI cJ : ClassId) (h : Nat) (hT9 : Nat) (T : Nat → Int32) (tn : Nat) (sp : Nat) (mm : Int32) (x : Int32) (d : Nat) (htn : tn + 4 ≤ 30) (hd : d + 4 ≤ 40) : zMi l yX4_say wsX4_say ({ frames := 8, cells := 0, slots := 0, locals := 190 } : Room) D [(cI, .int), (cJ, .array .int)] [.ref h, .int (nI 4), .int (nI 1), .int x, .int (nI d)] [(h, .inr (4, [.ref hT9, .int (nI tn), .int (nI 0), .int (nI 4), .int (nI sp), .int mm])), (hT9, .inl (cI, 30, .inl T))] (fun r w => r = (zcounts 4 4 sp mm x ) ∧ w = [(h, .inr (4, [.ref hT9, .int (nI (((((tn + 1) + 1) + 1) + 1))), .int (nI 0), .int (nI 4), .int (nI sp), .int mm])), (hT9, .inl (cI, 30, .inl ((upd (upd (upd (upd T tn (nI 11)) (tn + 1) (nI 50)) ((tn + 1) + 1) (nI 20)) (((tn + 1) + 1) + 1) (nI 10)))))]) := by
  refine zMi.start (cc := cX4_say) (maxL := 6) (rt := .int) (by first | decide | decide +kernel) rfl (Nat.le_of_ble_eq_true rfl) ?_
  intro pg ev s mt args below meth cd ls AA QQ ⟨hx, hb, hml, hr, hlocks, hown, hts, hK, hN, hZ, hP, hD, hA, hS, hl⟩ hret
  have hown : s.vm.findClass RX4 = some mt.cls := hown
  have hl : lv_has ls 6 [(0, .ref h), (1, .int (nI 4)), (2, .int (nI 1)), (3, .int x), (4, .int (nI d))] := hl
  have hin4 : ∀ w ∈ wsX40, w ∈ wsX4_say := fun w h => List.mem_cons_of_mem _ (List.mem_append_right _ (h))
  refine lv_aload_n hx hb dX4_say_0 rfl (lv_at hl 0 rfl) ?_
  refine va_get (ci := 4) (v := .int (nI 0)) (C := RX4) (T := TX4) (N := 6) hx hb hts hin4 hown hK hP 0 rfl rfl 2 (by decide) (hts (.fieldLink RX4 19 "UpAllRound$Voices" "parted" "Z") (List.mem_of_getElem? (i := 1) rfl)) (fun _ h9 => h9) rfl dX4_say_1 ?_
  refine lv_if_ne (tgt := 14) hx hb dX4_say_4 (by decide) (fun c4_1 => ?_) (fun c4_1 => ?_)
  · have c4_1 : ¬ (0 = 0) := fun h9 => c4_1 ((nI_eq (a := 0) (b := 0) (by omega) (by omega)).mpr h9)
    exact absurd c4_1 (by omega)
  · have c4_1 : 0 = 0 := (nI_eq (a := 0) (b := 0) (by omega) (by omega)).mp c4_1
    refine lv_iload hx hb dX4_say_7 (lv_at hl 4 rfl) ?_
    refine lv_bipush (v := nI 40) hx hb dX4_say_9 (by decide) ?_
    refine lv_icmp_le (tgt := 16) hx hb dX4_say_11 (by decide) (fun c11_2 => ?_) (fun c11_2 => ?_)
    · have c11_2 : d ≤ 40 := (nI_leI (a := d) (b := 40) (by omega) (by omega)).mp c11_2
      refine lv_iload_n hx hb dX4_say_16 rfl (lv_at hl 1 rfl) ?_
      refine lv_iload_n hx hb dX4_say_17 rfl (lv_at hl 2 rfl) ?_
      refine zcsE (va_runS (As := [.int (nI 4), .int (nI 1)]) (rest := []) ⟨hx, hb, hml, hown, hts⟩ (c_X4_find_4_1 l D cI cJ   s.heap.size) (va_cwS 2 hts gX4_say_X4_find rfl rfl rfl (by decide +kernel) ⟨Nat.le_of_ble_eq_true rfl, Nat.le_of_ble_eq_true rfl⟩) (zpS hK hN hZ hP hD hS hA [] rfl (by decide)) rfl rfl hl.1 rfl (lv_room (Nat.le_of_ble_eq_true rfl)) dX4_say_18 ⟨Nat.zero_le _, Nat.zero_le _⟩) ?_
      refine lv_istore (lv' := [(5, .int (nI 11)), (0, .ref h), (1, .int (nI 4)), (2, .int (nI 1)), (3, .int x), (4, .int (nI d))]) hx hb dX4_say_21 hl (by decide) rfl (fun ls hl => ?_)
      refine lv_aload_n hx hb dX4_say_23 rfl (lv_at hl 1 rfl) ?_
      refine lv_iload hx hb dX4_say_24 (lv_at hl 0 rfl) ?_
      refine zcv (wr := []) (va_runV (As := [.int (nI 11)]) (rest := []) ⟨hx, hb, hml, hown, hts⟩ (c_X4_begin l D cI cJ h hT9 T tn 0 4 sp mm 11 (by first | rfl | assumption | omega) s.heap.size) (cwV 1 hts gX4_say_X4_begin rfl rfl rfl (by decide +kernel) ⟨Nat.le_of_ble_eq_true rfl, Nat.le_of_ble_eq_true rfl⟩) (zpV hK hN hZ hP hD hS hA [0, 1] rfl (by decide) 0 rfl rfl rfl) rfl rfl hl.1 rfl (lv_room (Nat.le_of_ble_eq_true rfl)) dX4_say_26 ⟨Nat.zero_le _, Nat.zero_le _⟩) hP hD hS hA [0, 1] [] rfl rfl (by decide) (by decide) (fun w_4 H locs h_3 hP hD hS => ?_)
      obtain rfl := h_3
      have hP : va_P D vwCl [(h, .inr (4, [.ref hT9, .int (nI ((tn + 1))), .int (nI 0), .int (nI 4), .int (nI sp), .int mm])), (hT9, .inl (cI, 30, .inl ((upd T tn (nI 11)))))] H := hP
      have hD : va_D AA [(h, .inr (4, [.ref hT9, .int (nI ((tn + 1))), .int (nI 0), .int (nI 4), .int (nI sp), .int mm])), (hT9, .inl (cI, 30, .inl ((upd T tn (nI 11)))))] := hD
      refine lv_aload_n hx hb dX4_say_29 rfl (lv_at hl 1 rfl) ?_
      refine lv_iload hx hb dX4_say_30 (lv_at hl 0 rfl) ?_
      refine lv_iload_n hx hb dX4_say_32 rfl (lv_at hl 4 rfl) ?_
      refine lv_iload hx hb dX4_say_33 (lv_at hl 5 rfl) ?_
      refine lv_iconst (v := nI 1) hx hb dX4_say_35 (by decide) ?_
      refine lv_iadd hx hb dX4_say_36 ?_
      refine zrw (nI_add _ _) ?_
      refine zci (wr := []) (va_runV (As := [.int (nI 11), .int x, .int (nI (d + 1))]) (rest := []) ⟨hx, hb, hml, hown, hts⟩ (c_X4_sayBody_4_1_4 l D cI cJ h hT9 ((upd T tn (nI 11))) ((tn + 1)) sp mm x (d + 1) (by first | rfl | assumption | omega) (by first | rfl | assumption | omega) H.size) (cwV 3 hts gX4_say_X4_sayBody rfl rfl rfl (by decide +kernel) ⟨Nat.le_of_ble_eq_true rfl, Nat.le_of_ble_eq_true rfl⟩) (zpV hK hN hZ hP hD hS hA [0, 1] rfl (by decide) 0 rfl rfl rfl) rfl rfl hl.1 rfl (lv_room (Nat.le_of_ble_eq_true rfl)) dX4_say_37 ⟨Nat.zero_le _, Nat.zero_le _⟩) hP hD hS hA [0, 1] [] rfl rfl (by decide) (by decide) (fun r_7 w_6 H locs h_5 hP hD hS => ?_)
      obtain ⟨rfl, rfl⟩ := h_5
      have hP : va_P D vwCl [(h, .inr (4, [.ref hT9, .int (nI ((((((tn + 1)) + 1) + 1) + 1))), .int (nI 0), .int (nI 4), .int (nI sp), .int mm])), (hT9, .inl (cI, 30, .inl ((upd (upd (upd ((upd T tn (nI 11))) ((tn + 1)) (nI 50)) (((tn + 1)) + 1) (nI 20)) ((((tn + 1)) + 1) + 1) (nI 10)))))] H := hP
      have hD : va_D AA [(h, .inr (4, [.ref hT9, .int (nI ((((((tn + 1)) + 1) + 1) + 1))), .int (nI 0), .int (nI 4), .int (nI sp), .int mm])), (hT9, .inl (cI, 30, .inl ((upd (upd (upd ((upd T tn (nI 11))) ((tn + 1)) (nI 50)) (((tn + 1)) + 1) (nI 20)) ((((tn + 1)) + 1) + 1) (nI 10)))))] := hD
      exact hret hP hD hS dX4_say_40 rfl (by exact ⟨rfl, rfl⟩)
    · have c11_2 : ¬ (d ≤ 40) := fun h9 => c11_2 ((nI_leI (a := d) (b := 40) (by omega) (by omega)).mpr h9)
      exact absurd c11_2 (by omega)
set_option maxHeartbeats 4000000 in
set_option maxRecDepth 100000 in
theorem c_X4_sayBody_1_2_4 (l : Launch) (D : va_G) (cI cJ : ClassId) (h : Nat) (hT9 : Nat) (T : Nat → Int32) (tn : Nat) (sp : Nat) (mm : Int32) (x : Int32) (d : Nat) (htn : tn + 4 ≤ 30) (hd : d + 4 ≤ 40) : zMi l yX4_sayBody wsX4_sayBody ({ frames := 9, cells := 0, slots := 0, locals := 215 } : Room) D [(cI, .int), (cJ, .array .int)] [.ref h, .int (nI 12), .int x, .int (nI d)] [(h, .inr (4, [.ref hT9, .int (nI tn), .int (nI 0), .int (nI 4), .int (nI sp), .int mm])), (hT9, .inl (cI, 30, .inl T))] (fun r w => r = (zswears 4 1 sp mm x ) ∧ w = [(h, .inr (4, [.ref hT9, .int (nI (((((tn + 1) + 1) + 1) + 1))), .int (nI 0), .int (nI 4), .int (nI sp), .int mm])), (hT9, .inl (cI, 30, .inl ((upd (upd (upd (upd T tn (nI 11)) (tn + 1) (nI 50)) ((tn + 1) + 1) (nI 20)) (((tn + 1) + 1) + 1) (nI 10)))))]) := by
  refine zMi.start (cc := cX4_sayBody) (maxL := 4) (rt := .int) (by first | decide | decide +kernel) rfl (Nat.le_of_ble_eq_true rfl) ?_
  intro pg ev s mt args below meth cd ls AA QQ ⟨hx, hb, hml, hr, hlocks, hown, hts, hK, hN, hZ, hP, hD, hA, hS, hl⟩ hret
  have hown : s.vm.findClass RX4 = some mt.cls := hown
  have hl : lv_has ls 4 [(0, .ref h), (1, .int (nI 12)), (2, .int x), (3, .int (nI d))] := hl
  have hin4 : ∀ w ∈ wsX40, w ∈ wsX4_sayBody := fun w h => List.mem_cons_of_mem _ (List.mem_append_right _ (h))
  refine lv_iload_n hx hb dX4_sayBody_0 rfl (lv_at hl 1 rfl) ?_
  refine lv_lookup (off := 136) (tgt := 137) hx hb dX4_sayBody_1 (by decide) (by decide) (by decide) ?_
  refine lv_aload_n hx hb dX4_sayBody_137 rfl (lv_at hl 0 rfl) ?_
  refine lv_aload_n hx hb dX4_sayBody_138 rfl (lv_at hl 0 rfl) ?_
  refine va_get (ci := 4) (v := .int (nI 4)) (C := RX4) (T := TX4) (N := 6) hx hb hts hin4 hown hK hP 0 rfl rfl 3 (by decide) (hts (.fieldLink RX4 23 "UpAllRound$Voices" "kind" "I") (List.mem_of_getElem? (i := 2) rfl)) (fun _ h9 => h9) rfl dX4_sayBody_139 ?_
  refine lv_iconst (v := nI 1) hx hb dX4_sayBody_142 (by decide) ?_
  refine lv_iload_n hx hb dX4_sayBody_143 rfl (lv_at hl 2 rfl) ?_
  refine lv_iload_n hx hb dX4_sayBody_144 rfl (lv_at hl 3 rfl) ?_
  refine zci (wr := []) (va_runV (As := [.int (nI 4), .int (nI 1), .int x, .int (nI d)]) (rest := []) ⟨hx, hb, hml, hown, hts⟩ (c_X4_say_4_1_4 l D cI cJ h hT9 T tn sp mm x d (by first | rfl | assumption | omega) (by first | rfl | assumption | omega) s.heap.size) (cwV 4 hts gX4_sayBody_X4_say rfl rfl rfl (by decide +kernel) ⟨Nat.le_of_ble_eq_true rfl, Nat.le_of_ble_eq_true rfl⟩) (zpV hK hN hZ hP hD hS hA [0, 1] rfl (by decide) 0 rfl rfl rfl) rfl rfl hl.1 rfl (lv_room (Nat.le_of_ble_eq_true rfl)) dX4_sayBody_145 ⟨Nat.zero_le _, Nat.zero_le _⟩) hP hD hS hA [0, 1] [] rfl rfl (by decide) (by decide) (fun r_3 w_2 H locs h_1 hP hD hS => ?_)
  obtain ⟨rfl, rfl⟩ := h_1
  have hP : va_P D vwCl [(h, .inr (4, [.ref hT9, .int (nI (((((tn + 1) + 1) + 1) + 1))), .int (nI 0), .int (nI 4), .int (nI sp), .int mm])), (hT9, .inl (cI, 30, .inl ((upd (upd (upd (upd T tn (nI 11)) (tn + 1) (nI 50)) ((tn + 1) + 1) (nI 20)) (((tn + 1) + 1) + 1) (nI 10)))))] H := hP
  have hD : va_D AA [(h, .inr (4, [.ref hT9, .int (nI (((((tn + 1) + 1) + 1) + 1))), .int (nI 0), .int (nI 4), .int (nI sp), .int mm])), (hT9, .inl (cI, 30, .inl ((upd (upd (upd (upd T tn (nI 11)) (tn + 1) (nI 50)) ((tn + 1) + 1) (nI 20)) (((tn + 1) + 1) + 1) (nI 10)))))] := hD
  refine lv_aload_n hx hb dX4_sayBody_148 rfl (lv_at hl 0 rfl) ?_
  refine va_get (ci := 4) (v := .int mm) (C := RX4) (T := TX4) (N := 6) hx hb hts hin4 hown hK hP 0 rfl rfl 5 (by decide) (hts (.fieldLink RX4 29 "UpAllRound$Voices" "m" "I") (List.mem_of_getElem? (i := 3) rfl)) (fun _ h9 => h9) rfl dX4_sayBody_149 ?_
  refine lv_isub hx hb dX4_sayBody_152 ?_
  exact hret hP hD hS dX4_sayBody_153 rfl (by exact ⟨rfl, rfl⟩)
set_option maxHeartbeats 4000000 in
set_option maxRecDepth 100000 in
theorem c_X4_say_1_2_4 (l : Launch) (D : va_G) (cI cJ : ClassId) (h : Nat) (hT9 : Nat) (T : Nat → Int32) (tn : Nat) (sp : Nat) (mm : Int32) (x : Int32) (d : Nat) (htn : tn + 5 ≤ 30) (hd : d + 5 ≤ 40) : zMi l yX4_say wsX4_say ({ frames := 10, cells := 0, slots := 0, locals := 238 } : Room) D [(cI, .int), (cJ, .array .int)] [.ref h, .int (nI 1), .int (nI 2), .int x, .int (nI d)] [(h, .inr (4, [.ref hT9, .int (nI tn), .int (nI 0), .int (nI 4), .int (nI sp), .int mm])), (hT9, .inl (cI, 30, .inl T))] (fun r w => r = (zswears 4 1 sp mm x ) ∧ w = [(h, .inr (4, [.ref hT9, .int (nI ((((((tn + 1) + 1) + 1) + 1) + 1))), .int (nI 0), .int (nI 4), .int (nI sp), .int mm])), (hT9, .inl (cI, 30, .inl ((upd (upd (upd (upd (upd T tn (nI 12)) (tn + 1) (nI 11)) ((tn + 1) + 1) (nI 50)) (((tn + 1) + 1) + 1) (nI 20)) ((((tn + 1) + 1) + 1) + 1) (nI 10)))))]) := by
  refine zMi.start (cc := cX4_say) (maxL := 6) (rt := .int) (by first | decide | decide +kernel) rfl (Nat.le_of_ble_eq_true rfl) ?_
  intro pg ev s mt args below meth cd ls AA QQ ⟨hx, hb, hml, hr, hlocks, hown, hts, hK, hN, hZ, hP, hD, hA, hS, hl⟩ hret
  have hown : s.vm.findClass RX4 = some mt.cls := hown
  have hl : lv_has ls 6 [(0, .ref h), (1, .int (nI 1)), (2, .int (nI 2)), (3, .int x), (4, .int (nI d))] := hl
  have hin4 : ∀ w ∈ wsX40, w ∈ wsX4_say := fun w h => List.mem_cons_of_mem _ (List.mem_append_right _ (h))
  refine lv_aload_n hx hb dX4_say_0 rfl (lv_at hl 0 rfl) ?_
  refine va_get (ci := 4) (v := .int (nI 0)) (C := RX4) (T := TX4) (N := 6) hx hb hts hin4 hown hK hP 0 rfl rfl 2 (by decide) (hts (.fieldLink RX4 19 "UpAllRound$Voices" "parted" "Z") (List.mem_of_getElem? (i := 1) rfl)) (fun _ h9 => h9) rfl dX4_say_1 ?_
  refine lv_if_ne (tgt := 14) hx hb dX4_say_4 (by decide) (fun c4_1 => ?_) (fun c4_1 => ?_)
  · have c4_1 : ¬ (0 = 0) := fun h9 => c4_1 ((nI_eq (a := 0) (b := 0) (by omega) (by omega)).mpr h9)
    exact absurd c4_1 (by omega)
  · have c4_1 : 0 = 0 := (nI_eq (a := 0) (b := 0) (by omega) (by omega)).mp c4_1
    refine lv_iload hx hb dX4_say_7 (lv_at hl 4 rfl) ?_
    refine lv_bipush (v := nI 40) hx hb dX4_say_9 (by decide) ?_
    refine lv_icmp_le (tgt := 16) hx hb dX4_say_11 (by decide) (fun c11_2 => ?_) (fun c11_2 => ?_)
    · have c11_2 : d ≤ 40 := (nI_leI (a := d) (b := 40) (by omega) (by omega)).mp c11_2
      refine lv_iload_n hx hb dX4_say_16 rfl (lv_at hl 1 rfl) ?_
      refine lv_iload_n hx hb dX4_say_17 rfl (lv_at hl 2 rfl) ?_
      refine zcsE (va_runS (As := [.int (nI 1), .int (nI 2)]) (rest := []) ⟨hx, hb, hml, hown, hts⟩ (c_X4_find_1_2 l D cI cJ   s.heap.size) (va_cwS 2 hts gX4_say_X4_find rfl rfl rfl (by decide +kernel) ⟨Nat.le_of_ble_eq_true rfl, Nat.le_of_ble_eq_true rfl⟩) (zpS hK hN hZ hP hD hS hA [] rfl (by decide)) rfl rfl hl.1 rfl (lv_room (Nat.le_of_ble_eq_true rfl)) dX4_say_18 ⟨Nat.zero_le _, Nat.zero_le _⟩) ?_
      refine lv_istore (lv' := [(5, .int (nI 12)), (0, .ref h), (1, .int (nI 1)), (2, .int (nI 2)), (3, .int x), (4, .int (nI d))]) hx hb dX4_say_21 hl (by decide) rfl (fun ls hl => ?_)
      refine lv_aload_n hx hb dX4_say_23 rfl (lv_at hl 1 rfl) ?_
      refine lv_iload hx hb dX4_say_24 (lv_at hl 0 rfl) ?_
      refine zcv (wr := []) (va_runV (As := [.int (nI 12)]) (rest := []) ⟨hx, hb, hml, hown, hts⟩ (c_X4_begin l D cI cJ h hT9 T tn 0 4 sp mm 12 (by first | rfl | assumption | omega) s.heap.size) (cwV 1 hts gX4_say_X4_begin rfl rfl rfl (by decide +kernel) ⟨Nat.le_of_ble_eq_true rfl, Nat.le_of_ble_eq_true rfl⟩) (zpV hK hN hZ hP hD hS hA [0, 1] rfl (by decide) 0 rfl rfl rfl) rfl rfl hl.1 rfl (lv_room (Nat.le_of_ble_eq_true rfl)) dX4_say_26 ⟨Nat.zero_le _, Nat.zero_le _⟩) hP hD hS hA [0, 1] [] rfl rfl (by decide) (by decide) (fun w_4 H locs h_3 hP hD hS => ?_)
      obtain rfl := h_3
      have hP : va_P D vwCl [(h, .inr (4, [.ref hT9, .int (nI ((tn + 1))), .int (nI 0), .int (nI 4), .int (nI sp), .int mm])), (hT9, .inl (cI, 30, .inl ((upd T tn (nI 12)))))] H := hP
      have hD : va_D AA [(h, .inr (4, [.ref hT9, .int (nI ((tn + 1))), .int (nI 0), .int (nI 4), .int (nI sp), .int mm])), (hT9, .inl (cI, 30, .inl ((upd T tn (nI 12)))))] := hD
      refine lv_aload_n hx hb dX4_say_29 rfl (lv_at hl 1 rfl) ?_
      refine lv_iload hx hb dX4_say_30 (lv_at hl 0 rfl) ?_
      refine lv_iload_n hx hb dX4_say_32 rfl (lv_at hl 4 rfl) ?_
      refine lv_iload hx hb dX4_say_33 (lv_at hl 5 rfl) ?_
      refine lv_iconst (v := nI 1) hx hb dX4_say_35 (by decide) ?_
      refine lv_iadd hx hb dX4_say_36 ?_
      refine zrw (nI_add _ _) ?_
      refine zci (wr := []) (va_runV (As := [.int (nI 12), .int x, .int (nI (d + 1))]) (rest := []) ⟨hx, hb, hml, hown, hts⟩ (c_X4_sayBody_1_2_4 l D cI cJ h hT9 ((upd T tn (nI 12))) ((tn + 1)) sp mm x (d + 1) (by first | rfl | assumption | omega) (by first | rfl | assumption | omega) H.size) (cwV 3 hts gX4_say_X4_sayBody rfl rfl rfl (by decide +kernel) ⟨Nat.le_of_ble_eq_true rfl, Nat.le_of_ble_eq_true rfl⟩) (zpV hK hN hZ hP hD hS hA [0, 1] rfl (by decide) 0 rfl rfl rfl) rfl rfl hl.1 rfl (lv_room (Nat.le_of_ble_eq_true rfl)) dX4_say_37 ⟨Nat.zero_le _, Nat.zero_le _⟩) hP hD hS hA [0, 1] [] rfl rfl (by decide) (by decide) (fun r_7 w_6 H locs h_5 hP hD hS => ?_)
      obtain ⟨rfl, rfl⟩ := h_5
      have hP : va_P D vwCl [(h, .inr (4, [.ref hT9, .int (nI (((((((tn + 1)) + 1) + 1) + 1) + 1))), .int (nI 0), .int (nI 4), .int (nI sp), .int mm])), (hT9, .inl (cI, 30, .inl ((upd (upd (upd (upd ((upd T tn (nI 12))) ((tn + 1)) (nI 11)) (((tn + 1)) + 1) (nI 50)) ((((tn + 1)) + 1) + 1) (nI 20)) (((((tn + 1)) + 1) + 1) + 1) (nI 10)))))] H := hP
      have hD : va_D AA [(h, .inr (4, [.ref hT9, .int (nI (((((((tn + 1)) + 1) + 1) + 1) + 1))), .int (nI 0), .int (nI 4), .int (nI sp), .int mm])), (hT9, .inl (cI, 30, .inl ((upd (upd (upd (upd ((upd T tn (nI 12))) ((tn + 1)) (nI 11)) (((tn + 1)) + 1) (nI 50)) ((((tn + 1)) + 1) + 1) (nI 20)) (((((tn + 1)) + 1) + 1) + 1) (nI 10)))))] := hD
      exact hret hP hD hS dX4_say_40 rfl (by exact ⟨rfl, rfl⟩)
    · have c11_2 : ¬ (d ≤ 40) := fun h9 => c11_2 ((nI_leI (a := d) (b := 40) (by omega) (by omega)).mpr h9)
      exact absurd c11_2 (by omega)
set_option maxHeartbeats 4000000 in
set_option maxRecDepth 100000 in
theorem c_X4_sayBody_4_2_4 (l : Launch) (D : va_G) (cI cJ : ClassId) (h : Nat) (hT9 : Nat) (T : Nat → Int32) (tn : Nat) (sp : Nat) (mm : Int32) (x : Int32) (d : Nat) (htn : tn + 5 ≤ 30) (hd : d + 5 ≤ 40) : zMi l yX4_sayBody wsX4_sayBody ({ frames := 11, cells := 0, slots := 0, locals := 263 } : Room) D [(cI, .int), (cJ, .array .int)] [.ref h, .int (nI 51), .int x, .int (nI d)] [(h, .inr (4, [.ref hT9, .int (nI tn), .int (nI 0), .int (nI 4), .int (nI sp), .int mm])), (hT9, .inl (cI, 30, .inl T))] (fun r w => r = (zswears 4 4 sp mm x ) ∧ w = [(h, .inr (4, [.ref hT9, .int (nI ((((((tn + 1) + 1) + 1) + 1) + 1))), .int (nI 0), .int (nI 4), .int (nI sp), .int mm])), (hT9, .inl (cI, 30, .inl ((upd (upd (upd (upd (upd T tn (nI 12)) (tn + 1) (nI 11)) ((tn + 1) + 1) (nI 50)) (((tn + 1) + 1) + 1) (nI 20)) ((((tn + 1) + 1) + 1) + 1) (nI 10)))))]) := by
  refine zMi.start (cc := cX4_sayBody) (maxL := 4) (rt := .int) (by first | decide | decide +kernel) rfl (Nat.le_of_ble_eq_true rfl) ?_
  intro pg ev s mt args below meth cd ls AA QQ ⟨hx, hb, hml, hr, hlocks, hown, hts, hK, hN, hZ, hP, hD, hA, hS, hl⟩ hret
  have hown : s.vm.findClass RX4 = some mt.cls := hown
  have hl : lv_has ls 4 [(0, .ref h), (1, .int (nI 51)), (2, .int x), (3, .int (nI d))] := hl
  have hin4 : ∀ w ∈ wsX40, w ∈ wsX4_sayBody := fun w h => List.mem_cons_of_mem _ (List.mem_append_right _ (h))
  refine lv_iload_n hx hb dX4_sayBody_0 rfl (lv_at hl 1 rfl) ?_
  refine lv_lookup (off := 224) (tgt := 225) hx hb dX4_sayBody_1 (by decide) (by decide) (by decide) ?_
  refine lv_aload_n hx hb dX4_sayBody_225 rfl (lv_at hl 0 rfl) ?_
  refine lv_iconst (v := nI 1) hx hb dX4_sayBody_226 (by decide) ?_
  refine lv_iconst (v := nI 2) hx hb dX4_sayBody_227 (by decide) ?_
  refine lv_iload_n hx hb dX4_sayBody_228 rfl (lv_at hl 2 rfl) ?_
  refine lv_iload_n hx hb dX4_sayBody_229 rfl (lv_at hl 3 rfl) ?_
  refine zci (wr := []) (va_runV (As := [.int (nI 1), .int (nI 2), .int x, .int (nI d)]) (rest := []) ⟨hx, hb, hml, hown, hts⟩ (c_X4_say_1_2_4 l D cI cJ h hT9 T tn sp mm x d (by first | rfl | assumption | omega) (by first | rfl | assumption | omega) s.heap.size) (cwV 4 hts gX4_sayBody_X4_say rfl rfl rfl (by decide +kernel) ⟨Nat.le_of_ble_eq_true rfl, Nat.le_of_ble_eq_true rfl⟩) (zpV hK hN hZ hP hD hS hA [0, 1] rfl (by decide) 0 rfl rfl rfl) rfl rfl hl.1 rfl (lv_room (Nat.le_of_ble_eq_true rfl)) dX4_sayBody_230 ⟨Nat.zero_le _, Nat.zero_le _⟩) hP hD hS hA [0, 1] [] rfl rfl (by decide) (by decide) (fun r_3 w_2 H locs h_1 hP hD hS => ?_)
  obtain ⟨rfl, rfl⟩ := h_1
  have hP : va_P D vwCl [(h, .inr (4, [.ref hT9, .int (nI ((((((tn + 1) + 1) + 1) + 1) + 1))), .int (nI 0), .int (nI 4), .int (nI sp), .int mm])), (hT9, .inl (cI, 30, .inl ((upd (upd (upd (upd (upd T tn (nI 12)) (tn + 1) (nI 11)) ((tn + 1) + 1) (nI 50)) (((tn + 1) + 1) + 1) (nI 20)) ((((tn + 1) + 1) + 1) + 1) (nI 10)))))] H := hP
  have hD : va_D AA [(h, .inr (4, [.ref hT9, .int (nI ((((((tn + 1) + 1) + 1) + 1) + 1))), .int (nI 0), .int (nI 4), .int (nI sp), .int mm])), (hT9, .inl (cI, 30, .inl ((upd (upd (upd (upd (upd T tn (nI 12)) (tn + 1) (nI 11)) ((tn + 1) + 1) (nI 50)) (((tn + 1) + 1) + 1) (nI 20)) ((((tn + 1) + 1) + 1) + 1) (nI 10)))))] := hD
  refine lv_aload_n hx hb dX4_sayBody_233 rfl (lv_at hl 0 rfl) ?_
  refine va_get (ci := 4) (v := .int (nI sp)) (C := RX4) (T := TX4) (N := 6) hx hb hts hin4 hown hK hP 0 rfl rfl 4 (by decide) (hts (.fieldLink RX4 26 "UpAllRound$Voices" "k" "I") (List.mem_of_getElem? (i := 1) rfl)) (fun _ h9 => h9) rfl dX4_sayBody_234 ?_
  refine lv_ixor hx hb dX4_sayBody_237 ?_
  exact hret hP hD hS dX4_sayBody_238 rfl (by exact ⟨rfl, rfl⟩)
set_option maxHeartbeats 4000000 in
set_option maxRecDepth 100000 in
theorem c_X4_say_4_2_4 (l : Launch) (D : va_G) (cI cJ : ClassId) (h : Nat) (hT9 : Nat) (T : Nat → Int32) (tn : Nat) (sp : Nat) (mm : Int32) (x : Int32) (d : Nat) (htn : tn + 6 ≤ 30) (hd : d + 6 ≤ 40) : zMi l yX4_say wsX4_say ({ frames := 12, cells := 0, slots := 0, locals := 286 } : Room) D [(cI, .int), (cJ, .array .int)] [.ref h, .int (nI 4), .int (nI 2), .int x, .int (nI d)] [(h, .inr (4, [.ref hT9, .int (nI tn), .int (nI 0), .int (nI 4), .int (nI sp), .int mm])), (hT9, .inl (cI, 30, .inl T))] (fun r w => r = (zswears 4 4 sp mm x ) ∧ w = [(h, .inr (4, [.ref hT9, .int (nI (((((((tn + 1) + 1) + 1) + 1) + 1) + 1))), .int (nI 0), .int (nI 4), .int (nI sp), .int mm])), (hT9, .inl (cI, 30, .inl ((upd (upd (upd (upd (upd (upd T tn (nI 51)) (tn + 1) (nI 12)) ((tn + 1) + 1) (nI 11)) (((tn + 1) + 1) + 1) (nI 50)) ((((tn + 1) + 1) + 1) + 1) (nI 20)) (((((tn + 1) + 1) + 1) + 1) + 1) (nI 10)))))]) := by
  refine zMi.start (cc := cX4_say) (maxL := 6) (rt := .int) (by first | decide | decide +kernel) rfl (Nat.le_of_ble_eq_true rfl) ?_
  intro pg ev s mt args below meth cd ls AA QQ ⟨hx, hb, hml, hr, hlocks, hown, hts, hK, hN, hZ, hP, hD, hA, hS, hl⟩ hret
  have hown : s.vm.findClass RX4 = some mt.cls := hown
  have hl : lv_has ls 6 [(0, .ref h), (1, .int (nI 4)), (2, .int (nI 2)), (3, .int x), (4, .int (nI d))] := hl
  have hin4 : ∀ w ∈ wsX40, w ∈ wsX4_say := fun w h => List.mem_cons_of_mem _ (List.mem_append_right _ (h))
  refine lv_aload_n hx hb dX4_say_0 rfl (lv_at hl 0 rfl) ?_
  refine va_get (ci := 4) (v := .int (nI 0)) (C := RX4) (T := TX4) (N := 6) hx hb hts hin4 hown hK hP 0 rfl rfl 2 (by decide) (hts (.fieldLink RX4 19 "UpAllRound$Voices" "parted" "Z") (List.mem_of_getElem? (i := 1) rfl)) (fun _ h9 => h9) rfl dX4_say_1 ?_
  refine lv_if_ne (tgt := 14) hx hb dX4_say_4 (by decide) (fun c4_1 => ?_) (fun c4_1 => ?_)
  · have c4_1 : ¬ (0 = 0) := fun h9 => c4_1 ((nI_eq (a := 0) (b := 0) (by omega) (by omega)).mpr h9)
    exact absurd c4_1 (by omega)
  · have c4_1 : 0 = 0 := (nI_eq (a := 0) (b := 0) (by omega) (by omega)).mp c4_1
    refine lv_iload hx hb dX4_say_7 (lv_at hl 4 rfl) ?_
    refine lv_bipush (v := nI 40) hx hb dX4_say_9 (by decide) ?_
    refine lv_icmp_le (tgt := 16) hx hb dX4_say_11 (by decide) (fun c11_2 => ?_) (fun c11_2 => ?_)
    · have c11_2 : d ≤ 40 := (nI_leI (a := d) (b := 40) (by omega) (by omega)).mp c11_2
      refine lv_iload_n hx hb dX4_say_16 rfl (lv_at hl 1 rfl) ?_
      refine lv_iload_n hx hb dX4_say_17 rfl (lv_at hl 2 rfl) ?_
      refine zcsE (va_runS (As := [.int (nI 4), .int (nI 2)]) (rest := []) ⟨hx, hb, hml, hown, hts⟩ (c_X4_find_4_2 l D cI cJ   s.heap.size) (va_cwS 2 hts gX4_say_X4_find rfl rfl rfl (by decide +kernel) ⟨Nat.le_of_ble_eq_true rfl, Nat.le_of_ble_eq_true rfl⟩) (zpS hK hN hZ hP hD hS hA [] rfl (by decide)) rfl rfl hl.1 rfl (lv_room (Nat.le_of_ble_eq_true rfl)) dX4_say_18 ⟨Nat.zero_le _, Nat.zero_le _⟩) ?_
      refine lv_istore (lv' := [(5, .int (nI 51)), (0, .ref h), (1, .int (nI 4)), (2, .int (nI 2)), (3, .int x), (4, .int (nI d))]) hx hb dX4_say_21 hl (by decide) rfl (fun ls hl => ?_)
      refine lv_aload_n hx hb dX4_say_23 rfl (lv_at hl 1 rfl) ?_
      refine lv_iload hx hb dX4_say_24 (lv_at hl 0 rfl) ?_
      refine zcv (wr := []) (va_runV (As := [.int (nI 51)]) (rest := []) ⟨hx, hb, hml, hown, hts⟩ (c_X4_begin l D cI cJ h hT9 T tn 0 4 sp mm 51 (by first | rfl | assumption | omega) s.heap.size) (cwV 1 hts gX4_say_X4_begin rfl rfl rfl (by decide +kernel) ⟨Nat.le_of_ble_eq_true rfl, Nat.le_of_ble_eq_true rfl⟩) (zpV hK hN hZ hP hD hS hA [0, 1] rfl (by decide) 0 rfl rfl rfl) rfl rfl hl.1 rfl (lv_room (Nat.le_of_ble_eq_true rfl)) dX4_say_26 ⟨Nat.zero_le _, Nat.zero_le _⟩) hP hD hS hA [0, 1] [] rfl rfl (by decide) (by decide) (fun w_4 H locs h_3 hP hD hS => ?_)
      obtain rfl := h_3
      have hP : va_P D vwCl [(h, .inr (4, [.ref hT9, .int (nI ((tn + 1))), .int (nI 0), .int (nI 4), .int (nI sp), .int mm])), (hT9, .inl (cI, 30, .inl ((upd T tn (nI 51)))))] H := hP
      have hD : va_D AA [(h, .inr (4, [.ref hT9, .int (nI ((tn + 1))), .int (nI 0), .int (nI 4), .int (nI sp), .int mm])), (hT9, .inl (cI, 30, .inl ((upd T tn (nI 51)))))] := hD
      refine lv_aload_n hx hb dX4_say_29 rfl (lv_at hl 1 rfl) ?_
      refine lv_iload hx hb dX4_say_30 (lv_at hl 0 rfl) ?_
      refine lv_iload_n hx hb dX4_say_32 rfl (lv_at hl 4 rfl) ?_
      refine lv_iload hx hb dX4_say_33 (lv_at hl 5 rfl) ?_
      refine lv_iconst (v := nI 1) hx hb dX4_say_35 (by decide) ?_
      refine lv_iadd hx hb dX4_say_36 ?_
      refine zrw (nI_add _ _) ?_
      refine zci (wr := []) (va_runV (As := [.int (nI 51), .int x, .int (nI (d + 1))]) (rest := []) ⟨hx, hb, hml, hown, hts⟩ (c_X4_sayBody_4_2_4 l D cI cJ h hT9 ((upd T tn (nI 51))) ((tn + 1)) sp mm x (d + 1) (by first | rfl | assumption | omega) (by first | rfl | assumption | omega) H.size) (cwV 3 hts gX4_say_X4_sayBody rfl rfl rfl (by decide +kernel) ⟨Nat.le_of_ble_eq_true rfl, Nat.le_of_ble_eq_true rfl⟩) (zpV hK hN hZ hP hD hS hA [0, 1] rfl (by decide) 0 rfl rfl rfl) rfl rfl hl.1 rfl (lv_room (Nat.le_of_ble_eq_true rfl)) dX4_say_37 ⟨Nat.zero_le _, Nat.zero_le _⟩) hP hD hS hA [0, 1] [] rfl rfl (by decide) (by decide) (fun r_7 w_6 H locs h_5 hP hD hS => ?_)
      obtain ⟨rfl, rfl⟩ := h_5
      have hP : va_P D vwCl [(h, .inr (4, [.ref hT9, .int (nI ((((((((tn + 1)) + 1) + 1) + 1) + 1) + 1))), .int (nI 0), .int (nI 4), .int (nI sp), .int mm])), (hT9, .inl (cI, 30, .inl ((upd (upd (upd (upd (upd ((upd T tn (nI 51))) ((tn + 1)) (nI 12)) (((tn + 1)) + 1) (nI 11)) ((((tn + 1)) + 1) + 1) (nI 50)) (((((tn + 1)) + 1) + 1) + 1) (nI 20)) ((((((tn + 1)) + 1) + 1) + 1) + 1) (nI 10)))))] H := hP
      have hD : va_D AA [(h, .inr (4, [.ref hT9, .int (nI ((((((((tn + 1)) + 1) + 1) + 1) + 1) + 1))), .int (nI 0), .int (nI 4), .int (nI sp), .int mm])), (hT9, .inl (cI, 30, .inl ((upd (upd (upd (upd (upd ((upd T tn (nI 51))) ((tn + 1)) (nI 12)) (((tn + 1)) + 1) (nI 11)) ((((tn + 1)) + 1) + 1) (nI 50)) (((((tn + 1)) + 1) + 1) + 1) (nI 20)) ((((((tn + 1)) + 1) + 1) + 1) + 1) (nI 10)))))] := hD
      exact hret hP hD hS dX4_say_40 rfl (by exact ⟨rfl, rfl⟩)
    · have c11_2 : ¬ (d ≤ 40) := fun h9 => c11_2 ((nI_leI (a := d) (b := 40) (by omega) (by omega)).mpr h9)
      exact absurd c11_2 (by omega)
set_option maxHeartbeats 4000000 in
set_option maxRecDepth 100000 in
theorem c_X4_sayBody_0_3_4 (l : Launch) (D : va_G) (cI cJ : ClassId) (h : Nat) (hT9 : Nat) (T : Nat → Int32) (tn : Nat) (sp : Nat) (mm : Int32) (x : Int32) (d : Nat) (htn : tn + 0 ≤ 30) (hd : d + 0 ≤ 40) : zMi l yX4_sayBody wsX4_sayBody ({ frames := 1, cells := 0, slots := 0, locals := 22 } : Room) D [(cI, .int), (cJ, .array .int)] [.ref h, .int (nI 13), .int x, .int (nI d)] [(h, .inr (4, [.ref hT9, .int (nI tn), .int (nI 0), .int (nI 4), .int (nI sp), .int mm])), (hT9, .inl (cI, 30, .inl T))] (fun r w => r = (zpv sp mm x) ∧ w = [(h, .inr (4, [.ref hT9, .int (nI tn), .int (nI ((zpd sp mm))), .int (nI 4), .int (nI sp), .int mm])), (hT9, .inl (cI, 30, .inl T))]) := by
  refine zMi.start (cc := cX4_sayBody) (maxL := 4) (rt := .int) (by first | decide | decide +kernel) rfl (Nat.le_of_ble_eq_true rfl) ?_
  intro pg ev s mt args below meth cd ls AA QQ ⟨hx, hb, hml, hr, hlocks, hown, hts, hK, hN, hZ, hP, hD, hA, hS, hl⟩ hret
  have hown : s.vm.findClass RX4 = some mt.cls := hown
  have hl : lv_has ls 4 [(0, .ref h), (1, .int (nI 13)), (2, .int x), (3, .int (nI d))] := hl
  have hin4 : ∀ w ∈ wsX40, w ∈ wsX4_sayBody := fun w h => List.mem_cons_of_mem _ (List.mem_append_right _ (h))
  refine lv_iload_n hx hb dX4_sayBody_0 rfl (lv_at hl 1 rfl) ?_
  refine lv_lookup (off := 153) (tgt := 154) hx hb dX4_sayBody_1 (by decide) (by decide) (by decide) ?_
  refine lv_aload_n hx hb dX4_sayBody_154 rfl (lv_at hl 0 rfl) ?_
  refine lv_iload_n hx hb dX4_sayBody_155 rfl (lv_at hl 2 rfl) ?_
  refine zci (wr := [(hT9, .inl (cI, 30, .inl T))]) (va_runV (As := [.int x]) (rest := []) ⟨hx, hb, hml, hown, hts⟩ (c_X4_part l D cI cJ h hT9 tn 4 sp mm x  s.heap.size) (cwV 1 hts gX4_sayBody_X4_part rfl rfl rfl (by decide +kernel) ⟨Nat.le_of_ble_eq_true rfl, Nat.le_of_ble_eq_true rfl⟩) (zpV hK hN hZ hP hD hS hA [0] rfl (by decide) 0 rfl rfl rfl) rfl rfl hl.1 rfl (lv_room (Nat.le_of_ble_eq_true rfl)) dX4_sayBody_156 ⟨Nat.zero_le _, Nat.zero_le _⟩) hP hD hS hA [0] [1] rfl rfl (by decide) (by decide) (fun r_3 w_2 H locs h_1 hP hD hS => ?_)
  obtain ⟨rfl, rfl⟩ := h_1
  have hP : va_P D vwCl [(hT9, .inl (cI, 30, .inl T)), (h, .inr (4, [.ref hT9, .int (nI tn), .int (nI ((zpd sp mm))), .int (nI 4), .int (nI sp), .int mm]))] H := hP
  have hD : va_D AA [(hT9, .inl (cI, 30, .inl T)), (h, .inr (4, [.ref hT9, .int (nI tn), .int (nI ((zpd sp mm))), .int (nI 4), .int (nI sp), .int mm]))] := hD
  have hP := hP.sub (ws' := [(h, .inr (4, [.ref hT9, .int (nI tn), .int (nI ((zpd sp mm))), .int (nI 4), .int (nI sp), .int mm])), (hT9, .inl (cI, 30, .inl T))]) [1, 0] rfl
  have hD := hD.sub (ws' := [(h, .inr (4, [.ref hT9, .int (nI tn), .int (nI ((zpd sp mm))), .int (nI 4), .int (nI sp), .int mm])), (hT9, .inl (cI, 30, .inl T))]) [1, 0] (by decide) rfl
  exact hret hP hD hS dX4_sayBody_159 rfl (by exact ⟨rfl, rfl⟩)
set_option maxHeartbeats 4000000 in
set_option maxRecDepth 100000 in
theorem c_X4_say_0_3_4 (l : Launch) (D : va_G) (cI cJ : ClassId) (h : Nat) (hT9 : Nat) (T : Nat → Int32) (tn : Nat) (sp : Nat) (mm : Int32) (x : Int32) (d : Nat) (htn : tn + 1 ≤ 30) (hd : d + 1 ≤ 40) : zMi l yX4_say wsX4_say ({ frames := 2, cells := 0, slots := 0, locals := 46 } : Room) D [(cI, .int), (cJ, .array .int)] [.ref h, .int (nI 0), .int (nI 3), .int x, .int (nI d)] [(h, .inr (4, [.ref hT9, .int (nI tn), .int (nI 0), .int (nI 4), .int (nI sp), .int mm])), (hT9, .inl (cI, 30, .inl T))] (fun r w => r = (zpv sp mm x) ∧ w = [(h, .inr (4, [.ref hT9, .int (nI ((tn + 1))), .int (nI ((zpd sp mm))), .int (nI 4), .int (nI sp), .int mm])), (hT9, .inl (cI, 30, .inl ((upd T tn (nI 13)))))]) := by
  refine zMi.start (cc := cX4_say) (maxL := 6) (rt := .int) (by first | decide | decide +kernel) rfl (Nat.le_of_ble_eq_true rfl) ?_
  intro pg ev s mt args below meth cd ls AA QQ ⟨hx, hb, hml, hr, hlocks, hown, hts, hK, hN, hZ, hP, hD, hA, hS, hl⟩ hret
  have hown : s.vm.findClass RX4 = some mt.cls := hown
  have hl : lv_has ls 6 [(0, .ref h), (1, .int (nI 0)), (2, .int (nI 3)), (3, .int x), (4, .int (nI d))] := hl
  have hin4 : ∀ w ∈ wsX40, w ∈ wsX4_say := fun w h => List.mem_cons_of_mem _ (List.mem_append_right _ (h))
  refine lv_aload_n hx hb dX4_say_0 rfl (lv_at hl 0 rfl) ?_
  refine va_get (ci := 4) (v := .int (nI 0)) (C := RX4) (T := TX4) (N := 6) hx hb hts hin4 hown hK hP 0 rfl rfl 2 (by decide) (hts (.fieldLink RX4 19 "UpAllRound$Voices" "parted" "Z") (List.mem_of_getElem? (i := 1) rfl)) (fun _ h9 => h9) rfl dX4_say_1 ?_
  refine lv_if_ne (tgt := 14) hx hb dX4_say_4 (by decide) (fun c4_1 => ?_) (fun c4_1 => ?_)
  · have c4_1 : ¬ (0 = 0) := fun h9 => c4_1 ((nI_eq (a := 0) (b := 0) (by omega) (by omega)).mpr h9)
    exact absurd c4_1 (by omega)
  · have c4_1 : 0 = 0 := (nI_eq (a := 0) (b := 0) (by omega) (by omega)).mp c4_1
    refine lv_iload hx hb dX4_say_7 (lv_at hl 4 rfl) ?_
    refine lv_bipush (v := nI 40) hx hb dX4_say_9 (by decide) ?_
    refine lv_icmp_le (tgt := 16) hx hb dX4_say_11 (by decide) (fun c11_2 => ?_) (fun c11_2 => ?_)
    · have c11_2 : d ≤ 40 := (nI_leI (a := d) (b := 40) (by omega) (by omega)).mp c11_2
      refine lv_iload_n hx hb dX4_say_16 rfl (lv_at hl 1 rfl) ?_
      refine lv_iload_n hx hb dX4_say_17 rfl (lv_at hl 2 rfl) ?_
      refine zcsE (va_runS (As := [.int (nI 0), .int (nI 3)]) (rest := []) ⟨hx, hb, hml, hown, hts⟩ (c_X4_find_0_3 l D cI cJ   s.heap.size) (va_cwS 2 hts gX4_say_X4_find rfl rfl rfl (by decide +kernel) ⟨Nat.le_of_ble_eq_true rfl, Nat.le_of_ble_eq_true rfl⟩) (zpS hK hN hZ hP hD hS hA [] rfl (by decide)) rfl rfl hl.1 rfl (lv_room (Nat.le_of_ble_eq_true rfl)) dX4_say_18 ⟨Nat.zero_le _, Nat.zero_le _⟩) ?_
      refine lv_istore (lv' := [(5, .int (nI 13)), (0, .ref h), (1, .int (nI 0)), (2, .int (nI 3)), (3, .int x), (4, .int (nI d))]) hx hb dX4_say_21 hl (by decide) rfl (fun ls hl => ?_)
      refine lv_aload_n hx hb dX4_say_23 rfl (lv_at hl 1 rfl) ?_
      refine lv_iload hx hb dX4_say_24 (lv_at hl 0 rfl) ?_
      refine zcv (wr := []) (va_runV (As := [.int (nI 13)]) (rest := []) ⟨hx, hb, hml, hown, hts⟩ (c_X4_begin l D cI cJ h hT9 T tn 0 4 sp mm 13 (by first | rfl | assumption | omega) s.heap.size) (cwV 1 hts gX4_say_X4_begin rfl rfl rfl (by decide +kernel) ⟨Nat.le_of_ble_eq_true rfl, Nat.le_of_ble_eq_true rfl⟩) (zpV hK hN hZ hP hD hS hA [0, 1] rfl (by decide) 0 rfl rfl rfl) rfl rfl hl.1 rfl (lv_room (Nat.le_of_ble_eq_true rfl)) dX4_say_26 ⟨Nat.zero_le _, Nat.zero_le _⟩) hP hD hS hA [0, 1] [] rfl rfl (by decide) (by decide) (fun w_4 H locs h_3 hP hD hS => ?_)
      obtain rfl := h_3
      have hP : va_P D vwCl [(h, .inr (4, [.ref hT9, .int (nI ((tn + 1))), .int (nI 0), .int (nI 4), .int (nI sp), .int mm])), (hT9, .inl (cI, 30, .inl ((upd T tn (nI 13)))))] H := hP
      have hD : va_D AA [(h, .inr (4, [.ref hT9, .int (nI ((tn + 1))), .int (nI 0), .int (nI 4), .int (nI sp), .int mm])), (hT9, .inl (cI, 30, .inl ((upd T tn (nI 13)))))] := hD
      refine lv_aload_n hx hb dX4_say_29 rfl (lv_at hl 1 rfl) ?_
      refine lv_iload hx hb dX4_say_30 (lv_at hl 0 rfl) ?_
      refine lv_iload_n hx hb dX4_say_32 rfl (lv_at hl 4 rfl) ?_
      refine lv_iload hx hb dX4_say_33 (lv_at hl 5 rfl) ?_
      refine lv_iconst (v := nI 1) hx hb dX4_say_35 (by decide) ?_
      refine lv_iadd hx hb dX4_say_36 ?_
      refine zrw (nI_add _ _) ?_
      refine zci (wr := []) (va_runV (As := [.int (nI 13), .int x, .int (nI (d + 1))]) (rest := []) ⟨hx, hb, hml, hown, hts⟩ (c_X4_sayBody_0_3_4 l D cI cJ h hT9 ((upd T tn (nI 13))) ((tn + 1)) sp mm x (d + 1) (by first | rfl | assumption | omega) (by first | rfl | assumption | omega) H.size) (cwV 3 hts gX4_say_X4_sayBody rfl rfl rfl (by decide +kernel) ⟨Nat.le_of_ble_eq_true rfl, Nat.le_of_ble_eq_true rfl⟩) (zpV hK hN hZ hP hD hS hA [0, 1] rfl (by decide) 0 rfl rfl rfl) rfl rfl hl.1 rfl (lv_room (Nat.le_of_ble_eq_true rfl)) dX4_say_37 ⟨Nat.zero_le _, Nat.zero_le _⟩) hP hD hS hA [0, 1] [] rfl rfl (by decide) (by decide) (fun r_7 w_6 H locs h_5 hP hD hS => ?_)
      obtain ⟨rfl, rfl⟩ := h_5
      have hP : va_P D vwCl [(h, .inr (4, [.ref hT9, .int (nI (((tn + 1)))), .int (nI ((zpd sp mm))), .int (nI 4), .int (nI sp), .int mm])), (hT9, .inl (cI, 30, .inl (((upd T tn (nI 13))))))] H := hP
      have hD : va_D AA [(h, .inr (4, [.ref hT9, .int (nI (((tn + 1)))), .int (nI ((zpd sp mm))), .int (nI 4), .int (nI sp), .int mm])), (hT9, .inl (cI, 30, .inl (((upd T tn (nI 13))))))] := hD
      exact hret hP hD hS dX4_say_40 rfl (by exact ⟨rfl, rfl⟩)
    · have c11_2 : ¬ (d ≤ 40) := fun h9 => c11_2 ((nI_leI (a := d) (b := 40) (by omega) (by omega)).mpr h9)
      exact absurd c11_2 (by omega)
set_option maxHeartbeats 4000000 in
set_option maxRecDepth 100000 in
theorem c_X4_sayBody_4_3_4 (l : Launch) (D : va_G) (cI cJ : ClassId) (h : Nat) (hT9 : Nat) (T : Nat → Int32) (tn : Nat) (sp : Nat) (mm : Int32) (x : Int32) (d : Nat) (htn : tn + 5 ≤ 30) (hd : d + 4 ≤ 40) : zMi l yX4_sayBody wsX4_sayBody ({ frames := 9, cells := 0, slots := 0, locals := 215 } : Room) D [(cI, .int), (cJ, .array .int)] [.ref h, .int (nI 21), .int x, .int (nI d)] [(h, .inr (4, [.ref hT9, .int (nI tn), .int (nI 0), .int (nI 4), .int (nI sp), .int mm])), (hT9, .inl (cI, 30, .inl T))] (fun r w => r = (zparts 4 sp mm x) ∧ w = [(h, .inr (4, [.ref hT9, .int (nI ((if (mm - nI sp = 0) then (tn + 1) else (((((tn + 1) + 1) + 1) + 1) + 1)))), .int (nI ((zpd sp mm))), .int (nI 4), .int (nI sp), .int mm])), (hT9, .inl (cI, 30, .inl ((if (mm - nI sp = 0) then (upd T tn (nI 13)) else (upd (upd (upd (upd (upd T tn (nI 13)) (tn + 1) (nI 11)) ((tn + 1) + 1) (nI 50)) (((tn + 1) + 1) + 1) (nI 20)) ((((tn + 1) + 1) + 1) + 1) (nI 10))))))]) := by
  refine zMi.start (cc := cX4_sayBody) (maxL := 4) (rt := .int) (by first | decide | decide +kernel) rfl (Nat.le_of_ble_eq_true rfl) ?_
  intro pg ev s mt args below meth cd ls AA QQ ⟨hx, hb, hml, hr, hlocks, hown, hts, hK, hN, hZ, hP, hD, hA, hS, hl⟩ hret
  have hown : s.vm.findClass RX4 = some mt.cls := hown
  have hl : lv_has ls 4 [(0, .ref h), (1, .int (nI 21)), (2, .int x), (3, .int (nI d))] := hl
  have hin4 : ∀ w ∈ wsX40, w ∈ wsX4_sayBody := fun w h => List.mem_cons_of_mem _ (List.mem_append_right _ (h))
  refine lv_iload_n hx hb dX4_sayBody_0 rfl (lv_at hl 1 rfl) ?_
  refine lv_lookup (off := 170) (tgt := 171) hx hb dX4_sayBody_1 (by decide) (by decide) (by decide) ?_
  refine lv_aload_n hx hb dX4_sayBody_171 rfl (lv_at hl 0 rfl) ?_
  refine lv_iconst (v := nI 0) hx hb dX4_sayBody_172 (by decide) ?_
  refine lv_iconst (v := nI 3) hx hb dX4_sayBody_173 (by decide) ?_
  refine lv_iload_n hx hb dX4_sayBody_174 rfl (lv_at hl 2 rfl) ?_
  refine lv_iload_n hx hb dX4_sayBody_175 rfl (lv_at hl 3 rfl) ?_
  refine zci (wr := []) (va_runV (As := [.int (nI 0), .int (nI 3), .int x, .int (nI d)]) (rest := []) ⟨hx, hb, hml, hown, hts⟩ (c_X4_say_0_3_4 l D cI cJ h hT9 T tn sp mm x d (by first | rfl | assumption | omega) (by first | rfl | assumption | omega) s.heap.size) (cwV 4 hts gX4_sayBody_X4_say rfl rfl rfl (by decide +kernel) ⟨Nat.le_of_ble_eq_true rfl, Nat.le_of_ble_eq_true rfl⟩) (zpV hK hN hZ hP hD hS hA [0, 1] rfl (by decide) 0 rfl rfl rfl) rfl rfl hl.1 rfl (lv_room (Nat.le_of_ble_eq_true rfl)) dX4_sayBody_176 ⟨Nat.zero_le _, Nat.zero_le _⟩) hP hD hS hA [0, 1] [] rfl rfl (by decide) (by decide) (fun r_3 w_2 H locs h_1 hP hD hS => ?_)
  obtain ⟨rfl, rfl⟩ := h_1
  have hP : va_P D vwCl [(h, .inr (4, [.ref hT9, .int (nI ((tn + 1))), .int (nI ((zpd sp mm))), .int (nI 4), .int (nI sp), .int mm])), (hT9, .inl (cI, 30, .inl ((upd T tn (nI 13)))))] H := hP
  have hD : va_D AA [(h, .inr (4, [.ref hT9, .int (nI ((tn + 1))), .int (nI ((zpd sp mm))), .int (nI 4), .int (nI sp), .int mm])), (hT9, .inl (cI, 30, .inl ((upd T tn (nI 13)))))] := hD
  by_cases hpd : mm - nI sp = 0
  · rw [show zpd sp mm = 1 from if_pos hpd] at hP hD
    have hP : va_P D vwCl [(h, .inr (4, [.ref hT9, .int (nI ((tn + 1))), .int (nI 1), .int (nI 4), .int (nI sp), .int mm])), (hT9, .inl (cI, 30, .inl ((upd T tn (nI 13)))))] H := hP
    have hD : va_D AA [(h, .inr (4, [.ref hT9, .int (nI ((tn + 1))), .int (nI 1), .int (nI 4), .int (nI sp), .int mm])), (hT9, .inl (cI, 30, .inl ((upd T tn (nI 13)))))] := hD
    refine lv_aload_n hx hb dX4_sayBody_179 rfl (lv_at hl 0 rfl) ?_
    refine lv_aload_n hx hb dX4_sayBody_180 rfl (lv_at hl 0 rfl) ?_
    refine va_get (ci := 4) (v := .int (nI 4)) (C := RX4) (T := TX4) (N := 6) hx hb hts hin4 hown hK hP 0 rfl rfl 3 (by decide) (hts (.fieldLink RX4 23 "UpAllRound$Voices" "kind" "I") (List.mem_of_getElem? (i := 2) rfl)) (fun _ h9 => h9) rfl dX4_sayBody_181 ?_
    refine lv_iconst (v := nI 1) hx hb dX4_sayBody_184 (by decide) ?_
    refine lv_iconst (v := nI 1) hx hb dX4_sayBody_185 (by decide) ?_
    refine lv_iload_n hx hb dX4_sayBody_186 rfl (lv_at hl 3 rfl) ?_
    refine zci (wr := []) (va_runV (As := [.int (nI 4), .int (nI 1), .int (nI 1), .int (nI d)]) (rest := [.int ((zpv sp mm x))]) ⟨hx, hb, hml, hown, hts⟩ (c_X4_say_p l D cI cJ h hT9 ((upd T tn (nI 13))) ((tn + 1)) sp mm (nI 1) d 4 4 1  H.size) (cwV 4 hts gX4_sayBody_X4_say rfl rfl rfl (by decide +kernel) ⟨Nat.le_of_ble_eq_true rfl, Nat.le_of_ble_eq_true rfl⟩) (zpV hK hN hZ hP hD hS hA [0, 1] rfl (by decide) 0 rfl rfl rfl) rfl rfl hl.1 rfl (lv_room (Nat.le_of_ble_eq_true rfl)) dX4_sayBody_187 ⟨Nat.zero_le _, Nat.zero_le _⟩) hP hD hS hA [0, 1] [] rfl rfl (by decide) (by decide) (fun r_6 w_5 H locs h_4 hP hD hS => ?_)
    obtain ⟨rfl, rfl⟩ := h_4
    have hP : va_P D vwCl [(h, .inr (4, [.ref hT9, .int (nI (((tn + 1)))), .int (nI 1), .int (nI 4), .int (nI sp), .int mm])), (hT9, .inl (cI, 30, .inl (((upd T tn (nI 13))))))] H := hP
    have hD : va_D AA [(h, .inr (4, [.ref hT9, .int (nI (((tn + 1)))), .int (nI 1), .int (nI 4), .int (nI sp), .int mm])), (hT9, .inl (cI, 30, .inl (((upd T tn (nI 13))))))] := hD
    refine lv_iadd hx hb dX4_sayBody_190 ?_
    exact hret hP hD hS dX4_sayBody_191 rfl (by exact ⟨by rw [zparts, if_pos hpd, zpv, if_pos hpd] <;> rfl, by rw [if_pos hpd, if_pos hpd, show zpd sp mm = 1 from if_pos hpd]⟩)
  · rw [show zpd sp mm = 0 from if_neg hpd] at hP hD
    have hP : va_P D vwCl [(h, .inr (4, [.ref hT9, .int (nI ((tn + 1))), .int (nI 0), .int (nI 4), .int (nI sp), .int mm])), (hT9, .inl (cI, 30, .inl ((upd T tn (nI 13)))))] H := hP
    have hD : va_D AA [(h, .inr (4, [.ref hT9, .int (nI ((tn + 1))), .int (nI 0), .int (nI 4), .int (nI sp), .int mm])), (hT9, .inl (cI, 30, .inl ((upd T tn (nI 13)))))] := hD
    refine lv_aload_n hx hb dX4_sayBody_179 rfl (lv_at hl 0 rfl) ?_
    refine lv_aload_n hx hb dX4_sayBody_180 rfl (lv_at hl 0 rfl) ?_
    refine va_get (ci := 4) (v := .int (nI 4)) (C := RX4) (T := TX4) (N := 6) hx hb hts hin4 hown hK hP 0 rfl rfl 3 (by decide) (hts (.fieldLink RX4 23 "UpAllRound$Voices" "kind" "I") (List.mem_of_getElem? (i := 2) rfl)) (fun _ h9 => h9) rfl dX4_sayBody_181 ?_
    refine lv_iconst (v := nI 1) hx hb dX4_sayBody_184 (by decide) ?_
    refine lv_iconst (v := nI 1) hx hb dX4_sayBody_185 (by decide) ?_
    refine lv_iload_n hx hb dX4_sayBody_186 rfl (lv_at hl 3 rfl) ?_
    refine zci (wr := []) (va_runV (As := [.int (nI 4), .int (nI 1), .int (nI 1), .int (nI d)]) (rest := [.int ((zpv sp mm x))]) ⟨hx, hb, hml, hown, hts⟩ (c_X4_say_4_1_4 l D cI cJ h hT9 ((upd T tn (nI 13))) ((tn + 1)) sp mm (nI 1) d (by first | rfl | assumption | omega) (by first | rfl | assumption | omega) H.size) (cwV 4 hts gX4_sayBody_X4_say rfl rfl rfl (by decide +kernel) ⟨Nat.le_of_ble_eq_true rfl, Nat.le_of_ble_eq_true rfl⟩) (zpV hK hN hZ hP hD hS hA [0, 1] rfl (by decide) 0 rfl rfl rfl) rfl rfl hl.1 rfl (lv_room (Nat.le_of_ble_eq_true rfl)) dX4_sayBody_187 ⟨Nat.zero_le _, Nat.zero_le _⟩) hP hD hS hA [0, 1] [] rfl rfl (by decide) (by decide) (fun r_9 w_8 H locs h_7 hP hD hS => ?_)
    obtain ⟨rfl, rfl⟩ := h_7
    have hP : va_P D vwCl [(h, .inr (4, [.ref hT9, .int (nI (((((((tn + 1)) + 1) + 1) + 1) + 1))), .int (nI 0), .int (nI 4), .int (nI sp), .int mm])), (hT9, .inl (cI, 30, .inl ((upd (upd (upd (upd ((upd T tn (nI 13))) ((tn + 1)) (nI 11)) (((tn + 1)) + 1) (nI 50)) ((((tn + 1)) + 1) + 1) (nI 20)) (((((tn + 1)) + 1) + 1) + 1) (nI 10)))))] H := hP
    have hD : va_D AA [(h, .inr (4, [.ref hT9, .int (nI (((((((tn + 1)) + 1) + 1) + 1) + 1))), .int (nI 0), .int (nI 4), .int (nI sp), .int mm])), (hT9, .inl (cI, 30, .inl ((upd (upd (upd (upd ((upd T tn (nI 13))) ((tn + 1)) (nI 11)) (((tn + 1)) + 1) (nI 50)) ((((tn + 1)) + 1) + 1) (nI 20)) (((((tn + 1)) + 1) + 1) + 1) (nI 10)))))] := hD
    refine lv_iadd hx hb dX4_sayBody_190 ?_
    exact hret hP hD hS dX4_sayBody_191 rfl (by exact ⟨by rw [zparts, if_neg hpd] <;> rfl, by rw [if_neg hpd, if_neg hpd, show zpd sp mm = 0 from if_neg hpd]⟩)
set_option maxHeartbeats 4000000 in
set_option maxRecDepth 100000 in
theorem c_X4_say_4_3_4 (l : Launch) (D : va_G) (cI cJ : ClassId) (h : Nat) (hT9 : Nat) (T : Nat → Int32) (tn : Nat) (sp : Nat) (mm : Int32) (x : Int32) (d : Nat) (htn : tn + 6 ≤ 30) (hd : d + 5 ≤ 40) : zMi l yX4_say wsX4_say ({ frames := 10, cells := 0, slots := 0, locals := 238 } : Room) D [(cI, .int), (cJ, .array .int)] [.ref h, .int (nI 4), .int (nI 3), .int x, .int (nI d)] [(h, .inr (4, [.ref hT9, .int (nI tn), .int (nI 0), .int (nI 4), .int (nI sp), .int mm])), (hT9, .inl (cI, 30, .inl T))] (fun r w => r = (zparts 4 sp mm x) ∧ w = [(h, .inr (4, [.ref hT9, .int (nI ((if (mm - nI sp = 0) then ((tn + 1) + 1) else ((((((tn + 1) + 1) + 1) + 1) + 1) + 1)))), .int (nI ((zpd sp mm))), .int (nI 4), .int (nI sp), .int mm])), (hT9, .inl (cI, 30, .inl ((if (mm - nI sp = 0) then (upd (upd T tn (nI 21)) (tn + 1) (nI 13)) else (upd (upd (upd (upd (upd (upd T tn (nI 21)) (tn + 1) (nI 13)) ((tn + 1) + 1) (nI 11)) (((tn + 1) + 1) + 1) (nI 50)) ((((tn + 1) + 1) + 1) + 1) (nI 20)) (((((tn + 1) + 1) + 1) + 1) + 1) (nI 10))))))]) := by
  refine zMi.start (cc := cX4_say) (maxL := 6) (rt := .int) (by first | decide | decide +kernel) rfl (Nat.le_of_ble_eq_true rfl) ?_
  intro pg ev s mt args below meth cd ls AA QQ ⟨hx, hb, hml, hr, hlocks, hown, hts, hK, hN, hZ, hP, hD, hA, hS, hl⟩ hret
  have hown : s.vm.findClass RX4 = some mt.cls := hown
  have hl : lv_has ls 6 [(0, .ref h), (1, .int (nI 4)), (2, .int (nI 3)), (3, .int x), (4, .int (nI d))] := hl
  have hin4 : ∀ w ∈ wsX40, w ∈ wsX4_say := fun w h => List.mem_cons_of_mem _ (List.mem_append_right _ (h))
  refine lv_aload_n hx hb dX4_say_0 rfl (lv_at hl 0 rfl) ?_
  refine va_get (ci := 4) (v := .int (nI 0)) (C := RX4) (T := TX4) (N := 6) hx hb hts hin4 hown hK hP 0 rfl rfl 2 (by decide) (hts (.fieldLink RX4 19 "UpAllRound$Voices" "parted" "Z") (List.mem_of_getElem? (i := 1) rfl)) (fun _ h9 => h9) rfl dX4_say_1 ?_
  refine lv_if_ne (tgt := 14) hx hb dX4_say_4 (by decide) (fun c4_1 => ?_) (fun c4_1 => ?_)
  · have c4_1 : ¬ (0 = 0) := fun h9 => c4_1 ((nI_eq (a := 0) (b := 0) (by omega) (by omega)).mpr h9)
    exact absurd c4_1 (by omega)
  · have c4_1 : 0 = 0 := (nI_eq (a := 0) (b := 0) (by omega) (by omega)).mp c4_1
    refine lv_iload hx hb dX4_say_7 (lv_at hl 4 rfl) ?_
    refine lv_bipush (v := nI 40) hx hb dX4_say_9 (by decide) ?_
    refine lv_icmp_le (tgt := 16) hx hb dX4_say_11 (by decide) (fun c11_2 => ?_) (fun c11_2 => ?_)
    · have c11_2 : d ≤ 40 := (nI_leI (a := d) (b := 40) (by omega) (by omega)).mp c11_2
      refine lv_iload_n hx hb dX4_say_16 rfl (lv_at hl 1 rfl) ?_
      refine lv_iload_n hx hb dX4_say_17 rfl (lv_at hl 2 rfl) ?_
      refine zcsE (va_runS (As := [.int (nI 4), .int (nI 3)]) (rest := []) ⟨hx, hb, hml, hown, hts⟩ (c_X4_find_4_3 l D cI cJ   s.heap.size) (va_cwS 2 hts gX4_say_X4_find rfl rfl rfl (by decide +kernel) ⟨Nat.le_of_ble_eq_true rfl, Nat.le_of_ble_eq_true rfl⟩) (zpS hK hN hZ hP hD hS hA [] rfl (by decide)) rfl rfl hl.1 rfl (lv_room (Nat.le_of_ble_eq_true rfl)) dX4_say_18 ⟨Nat.zero_le _, Nat.zero_le _⟩) ?_
      refine lv_istore (lv' := [(5, .int (nI 21)), (0, .ref h), (1, .int (nI 4)), (2, .int (nI 3)), (3, .int x), (4, .int (nI d))]) hx hb dX4_say_21 hl (by decide) rfl (fun ls hl => ?_)
      refine lv_aload_n hx hb dX4_say_23 rfl (lv_at hl 1 rfl) ?_
      refine lv_iload hx hb dX4_say_24 (lv_at hl 0 rfl) ?_
      refine zcv (wr := []) (va_runV (As := [.int (nI 21)]) (rest := []) ⟨hx, hb, hml, hown, hts⟩ (c_X4_begin l D cI cJ h hT9 T tn 0 4 sp mm 21 (by first | rfl | assumption | omega) s.heap.size) (cwV 1 hts gX4_say_X4_begin rfl rfl rfl (by decide +kernel) ⟨Nat.le_of_ble_eq_true rfl, Nat.le_of_ble_eq_true rfl⟩) (zpV hK hN hZ hP hD hS hA [0, 1] rfl (by decide) 0 rfl rfl rfl) rfl rfl hl.1 rfl (lv_room (Nat.le_of_ble_eq_true rfl)) dX4_say_26 ⟨Nat.zero_le _, Nat.zero_le _⟩) hP hD hS hA [0, 1] [] rfl rfl (by decide) (by decide) (fun w_4 H locs h_3 hP hD hS => ?_)
      obtain rfl := h_3
      have hP : va_P D vwCl [(h, .inr (4, [.ref hT9, .int (nI ((tn + 1))), .int (nI 0), .int (nI 4), .int (nI sp), .int mm])), (hT9, .inl (cI, 30, .inl ((upd T tn (nI 21)))))] H := hP
      have hD : va_D AA [(h, .inr (4, [.ref hT9, .int (nI ((tn + 1))), .int (nI 0), .int (nI 4), .int (nI sp), .int mm])), (hT9, .inl (cI, 30, .inl ((upd T tn (nI 21)))))] := hD
      refine lv_aload_n hx hb dX4_say_29 rfl (lv_at hl 1 rfl) ?_
      refine lv_iload hx hb dX4_say_30 (lv_at hl 0 rfl) ?_
      refine lv_iload_n hx hb dX4_say_32 rfl (lv_at hl 4 rfl) ?_
      refine lv_iload hx hb dX4_say_33 (lv_at hl 5 rfl) ?_
      refine lv_iconst (v := nI 1) hx hb dX4_say_35 (by decide) ?_
      refine lv_iadd hx hb dX4_say_36 ?_
      refine zrw (nI_add _ _) ?_
      refine zci (wr := []) (va_runV (As := [.int (nI 21), .int x, .int (nI (d + 1))]) (rest := []) ⟨hx, hb, hml, hown, hts⟩ (c_X4_sayBody_4_3_4 l D cI cJ h hT9 ((upd T tn (nI 21))) ((tn + 1)) sp mm x (d + 1) (by first | rfl | assumption | omega) (by first | rfl | assumption | omega) H.size) (cwV 3 hts gX4_say_X4_sayBody rfl rfl rfl (by decide +kernel) ⟨Nat.le_of_ble_eq_true rfl, Nat.le_of_ble_eq_true rfl⟩) (zpV hK hN hZ hP hD hS hA [0, 1] rfl (by decide) 0 rfl rfl rfl) rfl rfl hl.1 rfl (lv_room (Nat.le_of_ble_eq_true rfl)) dX4_say_37 ⟨Nat.zero_le _, Nat.zero_le _⟩) hP hD hS hA [0, 1] [] rfl rfl (by decide) (by decide) (fun r_7 w_6 H locs h_5 hP hD hS => ?_)
      obtain ⟨rfl, rfl⟩ := h_5
      have hP : va_P D vwCl [(h, .inr (4, [.ref hT9, .int (nI ((if (mm - nI sp = 0) then (((tn + 1)) + 1) else (((((((tn + 1)) + 1) + 1) + 1) + 1) + 1)))), .int (nI ((zpd sp mm))), .int (nI 4), .int (nI sp), .int mm])), (hT9, .inl (cI, 30, .inl ((if (mm - nI sp = 0) then (upd ((upd T tn (nI 21))) ((tn + 1)) (nI 13)) else (upd (upd (upd (upd (upd ((upd T tn (nI 21))) ((tn + 1)) (nI 13)) (((tn + 1)) + 1) (nI 11)) ((((tn + 1)) + 1) + 1) (nI 50)) (((((tn + 1)) + 1) + 1) + 1) (nI 20)) ((((((tn + 1)) + 1) + 1) + 1) + 1) (nI 10))))))] H := hP
      have hD : va_D AA [(h, .inr (4, [.ref hT9, .int (nI ((if (mm - nI sp = 0) then (((tn + 1)) + 1) else (((((((tn + 1)) + 1) + 1) + 1) + 1) + 1)))), .int (nI ((zpd sp mm))), .int (nI 4), .int (nI sp), .int mm])), (hT9, .inl (cI, 30, .inl ((if (mm - nI sp = 0) then (upd ((upd T tn (nI 21))) ((tn + 1)) (nI 13)) else (upd (upd (upd (upd (upd ((upd T tn (nI 21))) ((tn + 1)) (nI 13)) (((tn + 1)) + 1) (nI 11)) ((((tn + 1)) + 1) + 1) (nI 50)) (((((tn + 1)) + 1) + 1) + 1) (nI 20)) ((((((tn + 1)) + 1) + 1) + 1) + 1) (nI 10))))))] := hD
      exact hret hP hD hS dX4_say_40 rfl (by exact ⟨rfl, rfl⟩)
    · have c11_2 : ¬ (d ≤ 40) := fun h9 => c11_2 ((nI_leI (a := d) (b := 40) (by omega) (by omega)).mpr h9)
      exact absurd c11_2 (by omega)
set_option maxHeartbeats 4000000 in
set_option maxRecDepth 100000 in
theorem c_X4_sayBody_5_0_5 (l : Launch) (D : va_G) (cI cJ : ClassId) (h : Nat) (hT9 : Nat) (T : Nat → Int32) (tn : Nat) (sp : Nat) (mm : Int32) (x : Int32) (d : Nat) (htn : tn + 0 ≤ 30) (hd : d + 0 ≤ 40) : zMi l yX4_sayBody wsX4_sayBody ({ frames := 0, cells := 0, slots := 0, locals := 0 } : Room) D [(cI, .int), (cJ, .array .int)] [.ref h, .int (nI 10), .int x, .int (nI d)] [(h, .inr (4, [.ref hT9, .int (nI tn), .int (nI 0), .int (nI 5), .int (nI sp), .int mm])), (hT9, .inl (cI, 30, .inl T))] (fun r w => r = (zpants 5 sp x ) ∧ w = [(h, .inr (4, [.ref hT9, .int (nI tn), .int (nI 0), .int (nI 5), .int (nI sp), .int mm])), (hT9, .inl (cI, 30, .inl T))]) := by
  refine zMi.start (cc := cX4_sayBody) (maxL := 4) (rt := .int) (by first | decide | decide +kernel) rfl (Nat.le_of_ble_eq_true rfl) ?_
  intro pg ev s mt args below meth cd ls AA QQ ⟨hx, hb, hml, hr, hlocks, hown, hts, hK, hN, hZ, hP, hD, hA, hS, hl⟩ hret
  have hown : s.vm.findClass RX4 = some mt.cls := hown
  have hl : lv_has ls 4 [(0, .ref h), (1, .int (nI 10)), (2, .int x), (3, .int (nI d))] := hl
  have hin4 : ∀ w ∈ wsX40, w ∈ wsX4_sayBody := fun w h => List.mem_cons_of_mem _ (List.mem_append_right _ (h))
  refine lv_iload_n hx hb dX4_sayBody_0 rfl (lv_at hl 1 rfl) ?_
  refine lv_lookup (off := 115) (tgt := 116) hx hb dX4_sayBody_1 (by decide) (by decide) (by decide) ?_
  refine lv_iload_n hx hb dX4_sayBody_116 rfl (lv_at hl 2 rfl) ?_
  refine lv_aload_n hx hb dX4_sayBody_117 rfl (lv_at hl 0 rfl) ?_
  refine va_get (ci := 4) (v := .int (nI sp)) (C := RX4) (T := TX4) (N := 6) hx hb hts hin4 hown hK hP 0 rfl rfl 4 (by decide) (hts (.fieldLink RX4 26 "UpAllRound$Voices" "k" "I") (List.mem_of_getElem? (i := 1) rfl)) (fun _ h9 => h9) rfl dX4_sayBody_118 ?_
  refine lv_iadd hx hb dX4_sayBody_121 ?_
  exact hret hP hD hS dX4_sayBody_122 rfl (by exact ⟨rfl, rfl⟩)
set_option maxHeartbeats 4000000 in
set_option maxRecDepth 100000 in
theorem c_X4_say_5_0_5 (l : Launch) (D : va_G) (cI cJ : ClassId) (h : Nat) (hT9 : Nat) (T : Nat → Int32) (tn : Nat) (sp : Nat) (mm : Int32) (x : Int32) (d : Nat) (htn : tn + 1 ≤ 30) (hd : d + 1 ≤ 40) : zMi l yX4_say wsX4_say ({ frames := 2, cells := 0, slots := 0, locals := 46 } : Room) D [(cI, .int), (cJ, .array .int)] [.ref h, .int (nI 5), .int (nI 0), .int x, .int (nI d)] [(h, .inr (4, [.ref hT9, .int (nI tn), .int (nI 0), .int (nI 5), .int (nI sp), .int mm])), (hT9, .inl (cI, 30, .inl T))] (fun r w => r = (zpants 5 sp x ) ∧ w = [(h, .inr (4, [.ref hT9, .int (nI ((tn + 1))), .int (nI 0), .int (nI 5), .int (nI sp), .int mm])), (hT9, .inl (cI, 30, .inl ((upd T tn (nI 10)))))]) := by
  refine zMi.start (cc := cX4_say) (maxL := 6) (rt := .int) (by first | decide | decide +kernel) rfl (Nat.le_of_ble_eq_true rfl) ?_
  intro pg ev s mt args below meth cd ls AA QQ ⟨hx, hb, hml, hr, hlocks, hown, hts, hK, hN, hZ, hP, hD, hA, hS, hl⟩ hret
  have hown : s.vm.findClass RX4 = some mt.cls := hown
  have hl : lv_has ls 6 [(0, .ref h), (1, .int (nI 5)), (2, .int (nI 0)), (3, .int x), (4, .int (nI d))] := hl
  have hin4 : ∀ w ∈ wsX40, w ∈ wsX4_say := fun w h => List.mem_cons_of_mem _ (List.mem_append_right _ (h))
  refine lv_aload_n hx hb dX4_say_0 rfl (lv_at hl 0 rfl) ?_
  refine va_get (ci := 4) (v := .int (nI 0)) (C := RX4) (T := TX4) (N := 6) hx hb hts hin4 hown hK hP 0 rfl rfl 2 (by decide) (hts (.fieldLink RX4 19 "UpAllRound$Voices" "parted" "Z") (List.mem_of_getElem? (i := 1) rfl)) (fun _ h9 => h9) rfl dX4_say_1 ?_
  refine lv_if_ne (tgt := 14) hx hb dX4_say_4 (by decide) (fun c4_1 => ?_) (fun c4_1 => ?_)
  · have c4_1 : ¬ (0 = 0) := fun h9 => c4_1 ((nI_eq (a := 0) (b := 0) (by omega) (by omega)).mpr h9)
    exact absurd c4_1 (by omega)
  · have c4_1 : 0 = 0 := (nI_eq (a := 0) (b := 0) (by omega) (by omega)).mp c4_1
    refine lv_iload hx hb dX4_say_7 (lv_at hl 4 rfl) ?_
    refine lv_bipush (v := nI 40) hx hb dX4_say_9 (by decide) ?_
    refine lv_icmp_le (tgt := 16) hx hb dX4_say_11 (by decide) (fun c11_2 => ?_) (fun c11_2 => ?_)
    · have c11_2 : d ≤ 40 := (nI_leI (a := d) (b := 40) (by omega) (by omega)).mp c11_2
      refine lv_iload_n hx hb dX4_say_16 rfl (lv_at hl 1 rfl) ?_
      refine lv_iload_n hx hb dX4_say_17 rfl (lv_at hl 2 rfl) ?_
      refine zcsE (va_runS (As := [.int (nI 5), .int (nI 0)]) (rest := []) ⟨hx, hb, hml, hown, hts⟩ (c_X4_find_5_0 l D cI cJ   s.heap.size) (va_cwS 2 hts gX4_say_X4_find rfl rfl rfl (by decide +kernel) ⟨Nat.le_of_ble_eq_true rfl, Nat.le_of_ble_eq_true rfl⟩) (zpS hK hN hZ hP hD hS hA [] rfl (by decide)) rfl rfl hl.1 rfl (lv_room (Nat.le_of_ble_eq_true rfl)) dX4_say_18 ⟨Nat.zero_le _, Nat.zero_le _⟩) ?_
      refine lv_istore (lv' := [(5, .int (nI 10)), (0, .ref h), (1, .int (nI 5)), (2, .int (nI 0)), (3, .int x), (4, .int (nI d))]) hx hb dX4_say_21 hl (by decide) rfl (fun ls hl => ?_)
      refine lv_aload_n hx hb dX4_say_23 rfl (lv_at hl 1 rfl) ?_
      refine lv_iload hx hb dX4_say_24 (lv_at hl 0 rfl) ?_
      refine zcv (wr := []) (va_runV (As := [.int (nI 10)]) (rest := []) ⟨hx, hb, hml, hown, hts⟩ (c_X4_begin l D cI cJ h hT9 T tn 0 5 sp mm 10 (by first | rfl | assumption | omega) s.heap.size) (cwV 1 hts gX4_say_X4_begin rfl rfl rfl (by decide +kernel) ⟨Nat.le_of_ble_eq_true rfl, Nat.le_of_ble_eq_true rfl⟩) (zpV hK hN hZ hP hD hS hA [0, 1] rfl (by decide) 0 rfl rfl rfl) rfl rfl hl.1 rfl (lv_room (Nat.le_of_ble_eq_true rfl)) dX4_say_26 ⟨Nat.zero_le _, Nat.zero_le _⟩) hP hD hS hA [0, 1] [] rfl rfl (by decide) (by decide) (fun w_4 H locs h_3 hP hD hS => ?_)
      obtain rfl := h_3
      have hP : va_P D vwCl [(h, .inr (4, [.ref hT9, .int (nI ((tn + 1))), .int (nI 0), .int (nI 5), .int (nI sp), .int mm])), (hT9, .inl (cI, 30, .inl ((upd T tn (nI 10)))))] H := hP
      have hD : va_D AA [(h, .inr (4, [.ref hT9, .int (nI ((tn + 1))), .int (nI 0), .int (nI 5), .int (nI sp), .int mm])), (hT9, .inl (cI, 30, .inl ((upd T tn (nI 10)))))] := hD
      refine lv_aload_n hx hb dX4_say_29 rfl (lv_at hl 1 rfl) ?_
      refine lv_iload hx hb dX4_say_30 (lv_at hl 0 rfl) ?_
      refine lv_iload_n hx hb dX4_say_32 rfl (lv_at hl 4 rfl) ?_
      refine lv_iload hx hb dX4_say_33 (lv_at hl 5 rfl) ?_
      refine lv_iconst (v := nI 1) hx hb dX4_say_35 (by decide) ?_
      refine lv_iadd hx hb dX4_say_36 ?_
      refine zrw (nI_add _ _) ?_
      refine zci (wr := []) (va_runV (As := [.int (nI 10), .int x, .int (nI (d + 1))]) (rest := []) ⟨hx, hb, hml, hown, hts⟩ (c_X4_sayBody_5_0_5 l D cI cJ h hT9 ((upd T tn (nI 10))) ((tn + 1)) sp mm x (d + 1) (by first | rfl | assumption | omega) (by first | rfl | assumption | omega) H.size) (cwV 3 hts gX4_say_X4_sayBody rfl rfl rfl (by decide +kernel) ⟨Nat.le_of_ble_eq_true rfl, Nat.le_of_ble_eq_true rfl⟩) (zpV hK hN hZ hP hD hS hA [0, 1] rfl (by decide) 0 rfl rfl rfl) rfl rfl hl.1 rfl (lv_room (Nat.le_of_ble_eq_true rfl)) dX4_say_37 ⟨Nat.zero_le _, Nat.zero_le _⟩) hP hD hS hA [0, 1] [] rfl rfl (by decide) (by decide) (fun r_7 w_6 H locs h_5 hP hD hS => ?_)
      obtain ⟨rfl, rfl⟩ := h_5
      have hP : va_P D vwCl [(h, .inr (4, [.ref hT9, .int (nI (((tn + 1)))), .int (nI 0), .int (nI 5), .int (nI sp), .int mm])), (hT9, .inl (cI, 30, .inl (((upd T tn (nI 10))))))] H := hP
      have hD : va_D AA [(h, .inr (4, [.ref hT9, .int (nI (((tn + 1)))), .int (nI 0), .int (nI 5), .int (nI sp), .int mm])), (hT9, .inl (cI, 30, .inl (((upd T tn (nI 10))))))] := hD
      exact hret hP hD hS dX4_say_40 rfl (by exact ⟨rfl, rfl⟩)
    · have c11_2 : ¬ (d ≤ 40) := fun h9 => c11_2 ((nI_leI (a := d) (b := 40) (by omega) (by omega)).mpr h9)
      exact absurd c11_2 (by omega)
set_option maxHeartbeats 4000000 in
set_option maxRecDepth 100000 in
theorem c_X4_sayBody_0_1_5 (l : Launch) (D : va_G) (cI cJ : ClassId) (h : Nat) (hT9 : Nat) (T : Nat → Int32) (tn : Nat) (sp : Nat) (mm : Int32) (x : Int32) (d : Nat) (htn : tn + 1 ≤ 30) (hd : d + 1 ≤ 40) : zMi l yX4_sayBody wsX4_sayBody ({ frames := 3, cells := 0, slots := 0, locals := 71 } : Room) D [(cI, .int), (cJ, .array .int)] [.ref h, .int (nI 11), .int x, .int (nI d)] [(h, .inr (4, [.ref hT9, .int (nI tn), .int (nI 0), .int (nI 5), .int (nI sp), .int mm])), (hT9, .inl (cI, 30, .inl T))] (fun r w => r = (zcounts 5 0 sp mm x ) ∧ w = [(h, .inr (4, [.ref hT9, .int (nI ((tn + 1))), .int (nI 0), .int (nI 5), .int (nI sp), .int mm])), (hT9, .inl (cI, 30, .inl ((upd T tn (nI 10)))))]) := by
  refine zMi.start (cc := cX4_sayBody) (maxL := 4) (rt := .int) (by first | decide | decide +kernel) rfl (Nat.le_of_ble_eq_true rfl) ?_
  intro pg ev s mt args below meth cd ls AA QQ ⟨hx, hb, hml, hr, hlocks, hown, hts, hK, hN, hZ, hP, hD, hA, hS, hl⟩ hret
  have hown : s.vm.findClass RX4 = some mt.cls := hown
  have hl : lv_has ls 4 [(0, .ref h), (1, .int (nI 11)), (2, .int x), (3, .int (nI d))] := hl
  have hin4 : ∀ w ∈ wsX40, w ∈ wsX4_sayBody := fun w h => List.mem_cons_of_mem _ (List.mem_append_right _ (h))
  refine lv_iload_n hx hb dX4_sayBody_0 rfl (lv_at hl 1 rfl) ?_
  refine lv_lookup (off := 122) (tgt := 123) hx hb dX4_sayBody_1 (by decide) (by decide) (by decide) ?_
  refine lv_aload_n hx hb dX4_sayBody_123 rfl (lv_at hl 0 rfl) ?_
  refine lv_aload_n hx hb dX4_sayBody_124 rfl (lv_at hl 0 rfl) ?_
  refine va_get (ci := 4) (v := .int (nI 5)) (C := RX4) (T := TX4) (N := 6) hx hb hts hin4 hown hK hP 0 rfl rfl 3 (by decide) (hts (.fieldLink RX4 23 "UpAllRound$Voices" "kind" "I") (List.mem_of_getElem? (i := 2) rfl)) (fun _ h9 => h9) rfl dX4_sayBody_125 ?_
  refine lv_iconst (v := nI 0) hx hb dX4_sayBody_128 (by decide) ?_
  refine lv_iload_n hx hb dX4_sayBody_129 rfl (lv_at hl 2 rfl) ?_
  refine lv_iload_n hx hb dX4_sayBody_130 rfl (lv_at hl 3 rfl) ?_
  refine zci (wr := []) (va_runV (As := [.int (nI 5), .int (nI 0), .int x, .int (nI d)]) (rest := []) ⟨hx, hb, hml, hown, hts⟩ (c_X4_say_5_0_5 l D cI cJ h hT9 T tn sp mm x d (by first | rfl | assumption | omega) (by first | rfl | assumption | omega) s.heap.size) (cwV 4 hts gX4_sayBody_X4_say rfl rfl rfl (by decide +kernel) ⟨Nat.le_of_ble_eq_true rfl, Nat.le_of_ble_eq_true rfl⟩) (zpV hK hN hZ hP hD hS hA [0, 1] rfl (by decide) 0 rfl rfl rfl) rfl rfl hl.1 rfl (lv_room (Nat.le_of_ble_eq_true rfl)) dX4_sayBody_131 ⟨Nat.zero_le _, Nat.zero_le _⟩) hP hD hS hA [0, 1] [] rfl rfl (by decide) (by decide) (fun r_3 w_2 H locs h_1 hP hD hS => ?_)
  obtain ⟨rfl, rfl⟩ := h_1
  have hP : va_P D vwCl [(h, .inr (4, [.ref hT9, .int (nI ((tn + 1))), .int (nI 0), .int (nI 5), .int (nI sp), .int mm])), (hT9, .inl (cI, 30, .inl ((upd T tn (nI 10)))))] H := hP
  have hD : va_D AA [(h, .inr (4, [.ref hT9, .int (nI ((tn + 1))), .int (nI 0), .int (nI 5), .int (nI sp), .int mm])), (hT9, .inl (cI, 30, .inl ((upd T tn (nI 10)))))] := hD
  refine lv_iconst (v := nI 2) hx hb dX4_sayBody_134 (by decide) ?_
  refine lv_imul hx hb dX4_sayBody_135 ?_
  exact hret hP hD hS dX4_sayBody_136 rfl (by exact ⟨rfl, rfl⟩)
set_option maxHeartbeats 4000000 in
set_option maxRecDepth 100000 in
theorem c_X4_say_0_1_5 (l : Launch) (D : va_G) (cI cJ : ClassId) (h : Nat) (hT9 : Nat) (T : Nat → Int32) (tn : Nat) (sp : Nat) (mm : Int32) (x : Int32) (d : Nat) (htn : tn + 2 ≤ 30) (hd : d + 2 ≤ 40) : zMi l yX4_say wsX4_say ({ frames := 4, cells := 0, slots := 0, locals := 94 } : Room) D [(cI, .int), (cJ, .array .int)] [.ref h, .int (nI 0), .int (nI 1), .int x, .int (nI d)] [(h, .inr (4, [.ref hT9, .int (nI tn), .int (nI 0), .int (nI 5), .int (nI sp), .int mm])), (hT9, .inl (cI, 30, .inl T))] (fun r w => r = (zcounts 5 0 sp mm x ) ∧ w = [(h, .inr (4, [.ref hT9, .int (nI (((tn + 1) + 1))), .int (nI 0), .int (nI 5), .int (nI sp), .int mm])), (hT9, .inl (cI, 30, .inl ((upd (upd T tn (nI 11)) (tn + 1) (nI 10)))))]) := by
  refine zMi.start (cc := cX4_say) (maxL := 6) (rt := .int) (by first | decide | decide +kernel) rfl (Nat.le_of_ble_eq_true rfl) ?_
  intro pg ev s mt args below meth cd ls AA QQ ⟨hx, hb, hml, hr, hlocks, hown, hts, hK, hN, hZ, hP, hD, hA, hS, hl⟩ hret
  have hown : s.vm.findClass RX4 = some mt.cls := hown
  have hl : lv_has ls 6 [(0, .ref h), (1, .int (nI 0)), (2, .int (nI 1)), (3, .int x), (4, .int (nI d))] := hl
  have hin4 : ∀ w ∈ wsX40, w ∈ wsX4_say := fun w h => List.mem_cons_of_mem _ (List.mem_append_right _ (h))
  refine lv_aload_n hx hb dX4_say_0 rfl (lv_at hl 0 rfl) ?_
  refine va_get (ci := 4) (v := .int (nI 0)) (C := RX4) (T := TX4) (N := 6) hx hb hts hin4 hown hK hP 0 rfl rfl 2 (by decide) (hts (.fieldLink RX4 19 "UpAllRound$Voices" "parted" "Z") (List.mem_of_getElem? (i := 1) rfl)) (fun _ h9 => h9) rfl dX4_say_1 ?_
  refine lv_if_ne (tgt := 14) hx hb dX4_say_4 (by decide) (fun c4_1 => ?_) (fun c4_1 => ?_)
  · have c4_1 : ¬ (0 = 0) := fun h9 => c4_1 ((nI_eq (a := 0) (b := 0) (by omega) (by omega)).mpr h9)
    exact absurd c4_1 (by omega)
  · have c4_1 : 0 = 0 := (nI_eq (a := 0) (b := 0) (by omega) (by omega)).mp c4_1
    refine lv_iload hx hb dX4_say_7 (lv_at hl 4 rfl) ?_
    refine lv_bipush (v := nI 40) hx hb dX4_say_9 (by decide) ?_
    refine lv_icmp_le (tgt := 16) hx hb dX4_say_11 (by decide) (fun c11_2 => ?_) (fun c11_2 => ?_)
    · have c11_2 : d ≤ 40 := (nI_leI (a := d) (b := 40) (by omega) (by omega)).mp c11_2
      refine lv_iload_n hx hb dX4_say_16 rfl (lv_at hl 1 rfl) ?_
      refine lv_iload_n hx hb dX4_say_17 rfl (lv_at hl 2 rfl) ?_
      refine zcsE (va_runS (As := [.int (nI 0), .int (nI 1)]) (rest := []) ⟨hx, hb, hml, hown, hts⟩ (c_X4_find_0_1 l D cI cJ   s.heap.size) (va_cwS 2 hts gX4_say_X4_find rfl rfl rfl (by decide +kernel) ⟨Nat.le_of_ble_eq_true rfl, Nat.le_of_ble_eq_true rfl⟩) (zpS hK hN hZ hP hD hS hA [] rfl (by decide)) rfl rfl hl.1 rfl (lv_room (Nat.le_of_ble_eq_true rfl)) dX4_say_18 ⟨Nat.zero_le _, Nat.zero_le _⟩) ?_
      refine lv_istore (lv' := [(5, .int (nI 11)), (0, .ref h), (1, .int (nI 0)), (2, .int (nI 1)), (3, .int x), (4, .int (nI d))]) hx hb dX4_say_21 hl (by decide) rfl (fun ls hl => ?_)
      refine lv_aload_n hx hb dX4_say_23 rfl (lv_at hl 1 rfl) ?_
      refine lv_iload hx hb dX4_say_24 (lv_at hl 0 rfl) ?_
      refine zcv (wr := []) (va_runV (As := [.int (nI 11)]) (rest := []) ⟨hx, hb, hml, hown, hts⟩ (c_X4_begin l D cI cJ h hT9 T tn 0 5 sp mm 11 (by first | rfl | assumption | omega) s.heap.size) (cwV 1 hts gX4_say_X4_begin rfl rfl rfl (by decide +kernel) ⟨Nat.le_of_ble_eq_true rfl, Nat.le_of_ble_eq_true rfl⟩) (zpV hK hN hZ hP hD hS hA [0, 1] rfl (by decide) 0 rfl rfl rfl) rfl rfl hl.1 rfl (lv_room (Nat.le_of_ble_eq_true rfl)) dX4_say_26 ⟨Nat.zero_le _, Nat.zero_le _⟩) hP hD hS hA [0, 1] [] rfl rfl (by decide) (by decide) (fun w_4 H locs h_3 hP hD hS => ?_)
      obtain rfl := h_3
      have hP : va_P D vwCl [(h, .inr (4, [.ref hT9, .int (nI ((tn + 1))), .int (nI 0), .int (nI 5), .int (nI sp), .int mm])), (hT9, .inl (cI, 30, .inl ((upd T tn (nI 11)))))] H := hP
      have hD : va_D AA [(h, .inr (4, [.ref hT9, .int (nI ((tn + 1))), .int (nI 0), .int (nI 5), .int (nI sp), .int mm])), (hT9, .inl (cI, 30, .inl ((upd T tn (nI 11)))))] := hD
      refine lv_aload_n hx hb dX4_say_29 rfl (lv_at hl 1 rfl) ?_
      refine lv_iload hx hb dX4_say_30 (lv_at hl 0 rfl) ?_
      refine lv_iload_n hx hb dX4_say_32 rfl (lv_at hl 4 rfl) ?_
      refine lv_iload hx hb dX4_say_33 (lv_at hl 5 rfl) ?_
      refine lv_iconst (v := nI 1) hx hb dX4_say_35 (by decide) ?_
      refine lv_iadd hx hb dX4_say_36 ?_
      refine zrw (nI_add _ _) ?_
      refine zci (wr := []) (va_runV (As := [.int (nI 11), .int x, .int (nI (d + 1))]) (rest := []) ⟨hx, hb, hml, hown, hts⟩ (c_X4_sayBody_0_1_5 l D cI cJ h hT9 ((upd T tn (nI 11))) ((tn + 1)) sp mm x (d + 1) (by first | rfl | assumption | omega) (by first | rfl | assumption | omega) H.size) (cwV 3 hts gX4_say_X4_sayBody rfl rfl rfl (by decide +kernel) ⟨Nat.le_of_ble_eq_true rfl, Nat.le_of_ble_eq_true rfl⟩) (zpV hK hN hZ hP hD hS hA [0, 1] rfl (by decide) 0 rfl rfl rfl) rfl rfl hl.1 rfl (lv_room (Nat.le_of_ble_eq_true rfl)) dX4_say_37 ⟨Nat.zero_le _, Nat.zero_le _⟩) hP hD hS hA [0, 1] [] rfl rfl (by decide) (by decide) (fun r_7 w_6 H locs h_5 hP hD hS => ?_)
      obtain ⟨rfl, rfl⟩ := h_5
      have hP : va_P D vwCl [(h, .inr (4, [.ref hT9, .int (nI ((((tn + 1)) + 1))), .int (nI 0), .int (nI 5), .int (nI sp), .int mm])), (hT9, .inl (cI, 30, .inl ((upd ((upd T tn (nI 11))) ((tn + 1)) (nI 10)))))] H := hP
      have hD : va_D AA [(h, .inr (4, [.ref hT9, .int (nI ((((tn + 1)) + 1))), .int (nI 0), .int (nI 5), .int (nI sp), .int mm])), (hT9, .inl (cI, 30, .inl ((upd ((upd T tn (nI 11))) ((tn + 1)) (nI 10)))))] := hD
      exact hret hP hD hS dX4_say_40 rfl (by exact ⟨rfl, rfl⟩)
    · have c11_2 : ¬ (d ≤ 40) := fun h9 => c11_2 ((nI_leI (a := d) (b := 40) (by omega) (by omega)).mpr h9)
      exact absurd c11_2 (by omega)
set_option maxHeartbeats 4000000 in
set_option maxRecDepth 100000 in
theorem c_X4_sayBody_2_1_5 (l : Launch) (D : va_G) (cI cJ : ClassId) (h : Nat) (hT9 : Nat) (T : Nat → Int32) (tn : Nat) (sp : Nat) (mm : Int32) (x : Int32) (d : Nat) (htn : tn + 2 ≤ 30) (hd : d + 2 ≤ 40) : zMi l yX4_sayBody wsX4_sayBody ({ frames := 5, cells := 0, slots := 0, locals := 119 } : Room) D [(cI, .int), (cJ, .array .int)] [.ref h, .int (nI 30), .int x, .int (nI d)] [(h, .inr (4, [.ref hT9, .int (nI tn), .int (nI 0), .int (nI 5), .int (nI sp), .int mm])), (hT9, .inl (cI, 30, .inl T))] (fun r w => r = (zcounts 5 2 sp mm x ) ∧ w = [(h, .inr (4, [.ref hT9, .int (nI (((tn + 1) + 1))), .int (nI 0), .int (nI 5), .int (nI sp), .int mm])), (hT9, .inl (cI, 30, .inl ((upd (upd T tn (nI 11)) (tn + 1) (nI 10)))))]) := by
  refine zMi.start (cc := cX4_sayBody) (maxL := 4) (rt := .int) (by first | decide | decide +kernel) rfl (Nat.le_of_ble_eq_true rfl) ?_
  intro pg ev s mt args below meth cd ls AA QQ ⟨hx, hb, hml, hr, hlocks, hown, hts, hK, hN, hZ, hP, hD, hA, hS, hl⟩ hret
  have hown : s.vm.findClass RX4 = some mt.cls := hown
  have hl : lv_has ls 4 [(0, .ref h), (1, .int (nI 30)), (2, .int x), (3, .int (nI d))] := hl
  have hin4 : ∀ w ∈ wsX40, w ∈ wsX4_sayBody := fun w h => List.mem_cons_of_mem _ (List.mem_append_right _ (h))
  refine lv_iload_n hx hb dX4_sayBody_0 rfl (lv_at hl 1 rfl) ?_
  refine lv_lookup (off := 191) (tgt := 192) hx hb dX4_sayBody_1 (by decide) (by decide) (by decide) ?_
  refine lv_iconst (v := nI 0) hx hb dX4_sayBody_192 (by decide) ?_
  refine lv_aload_n hx hb dX4_sayBody_193 rfl (lv_at hl 0 rfl) ?_
  refine lv_iconst (v := nI 0) hx hb dX4_sayBody_194 (by decide) ?_
  refine lv_iconst (v := nI 1) hx hb dX4_sayBody_195 (by decide) ?_
  refine lv_iload_n hx hb dX4_sayBody_196 rfl (lv_at hl 2 rfl) ?_
  refine lv_iload_n hx hb dX4_sayBody_197 rfl (lv_at hl 3 rfl) ?_
  refine zci (wr := []) (va_runV (As := [.int (nI 0), .int (nI 1), .int x, .int (nI d)]) (rest := [.int (nI 0)]) ⟨hx, hb, hml, hown, hts⟩ (c_X4_say_0_1_5 l D cI cJ h hT9 T tn sp mm x d (by first | rfl | assumption | omega) (by first | rfl | assumption | omega) s.heap.size) (cwV 4 hts gX4_sayBody_X4_say rfl rfl rfl (by decide +kernel) ⟨Nat.le_of_ble_eq_true rfl, Nat.le_of_ble_eq_true rfl⟩) (zpV hK hN hZ hP hD hS hA [0, 1] rfl (by decide) 0 rfl rfl rfl) rfl rfl hl.1 rfl (lv_room (Nat.le_of_ble_eq_true rfl)) dX4_sayBody_198 ⟨Nat.zero_le _, Nat.zero_le _⟩) hP hD hS hA [0, 1] [] rfl rfl (by decide) (by decide) (fun r_3 w_2 H locs h_1 hP hD hS => ?_)
  obtain ⟨rfl, rfl⟩ := h_1
  have hP : va_P D vwCl [(h, .inr (4, [.ref hT9, .int (nI (((tn + 1) + 1))), .int (nI 0), .int (nI 5), .int (nI sp), .int mm])), (hT9, .inl (cI, 30, .inl ((upd (upd T tn (nI 11)) (tn + 1) (nI 10)))))] H := hP
  have hD : va_D AA [(h, .inr (4, [.ref hT9, .int (nI (((tn + 1) + 1))), .int (nI 0), .int (nI 5), .int (nI sp), .int mm])), (hT9, .inl (cI, 30, .inl ((upd (upd T tn (nI 11)) (tn + 1) (nI 10)))))] := hD
  refine lv_isub hx hb dX4_sayBody_201 ?_
  exact hret hP hD hS dX4_sayBody_202 rfl (by exact ⟨rfl, rfl⟩)
set_option maxHeartbeats 4000000 in
set_option maxRecDepth 100000 in
theorem c_X4_say_2_1_5 (l : Launch) (D : va_G) (cI cJ : ClassId) (h : Nat) (hT9 : Nat) (T : Nat → Int32) (tn : Nat) (sp : Nat) (mm : Int32) (x : Int32) (d : Nat) (htn : tn + 3 ≤ 30) (hd : d + 3 ≤ 40) : zMi l yX4_say wsX4_say ({ frames := 6, cells := 0, slots := 0, locals := 142 } : Room) D [(cI, .int), (cJ, .array .int)] [.ref h, .int (nI 2), .int (nI 1), .int x, .int (nI d)] [(h, .inr (4, [.ref hT9, .int (nI tn), .int (nI 0), .int (nI 5), .int (nI sp), .int mm])), (hT9, .inl (cI, 30, .inl T))] (fun r w => r = (zcounts 5 2 sp mm x ) ∧ w = [(h, .inr (4, [.ref hT9, .int (nI ((((tn + 1) + 1) + 1))), .int (nI 0), .int (nI 5), .int (nI sp), .int mm])), (hT9, .inl (cI, 30, .inl ((upd (upd (upd T tn (nI 30)) (tn + 1) (nI 11)) ((tn + 1) + 1) (nI 10)))))]) := by
  refine zMi.start (cc := cX4_say) (maxL := 6) (rt := .int) (by first | decide | decide +kernel) rfl (Nat.le_of_ble_eq_true rfl) ?_
  intro pg ev s mt args below meth cd ls AA QQ ⟨hx, hb, hml, hr, hlocks, hown, hts, hK, hN, hZ, hP, hD, hA, hS, hl⟩ hret
  have hown : s.vm.findClass RX4 = some mt.cls := hown
  have hl : lv_has ls 6 [(0, .ref h), (1, .int (nI 2)), (2, .int (nI 1)), (3, .int x), (4, .int (nI d))] := hl
  have hin4 : ∀ w ∈ wsX40, w ∈ wsX4_say := fun w h => List.mem_cons_of_mem _ (List.mem_append_right _ (h))
  refine lv_aload_n hx hb dX4_say_0 rfl (lv_at hl 0 rfl) ?_
  refine va_get (ci := 4) (v := .int (nI 0)) (C := RX4) (T := TX4) (N := 6) hx hb hts hin4 hown hK hP 0 rfl rfl 2 (by decide) (hts (.fieldLink RX4 19 "UpAllRound$Voices" "parted" "Z") (List.mem_of_getElem? (i := 1) rfl)) (fun _ h9 => h9) rfl dX4_say_1 ?_
  refine lv_if_ne (tgt := 14) hx hb dX4_say_4 (by decide) (fun c4_1 => ?_) (fun c4_1 => ?_)
  · have c4_1 : ¬ (0 = 0) := fun h9 => c4_1 ((nI_eq (a := 0) (b := 0) (by omega) (by omega)).mpr h9)
    exact absurd c4_1 (by omega)
  · have c4_1 : 0 = 0 := (nI_eq (a := 0) (b := 0) (by omega) (by omega)).mp c4_1
    refine lv_iload hx hb dX4_say_7 (lv_at hl 4 rfl) ?_
    refine lv_bipush (v := nI 40) hx hb dX4_say_9 (by decide) ?_
    refine lv_icmp_le (tgt := 16) hx hb dX4_say_11 (by decide) (fun c11_2 => ?_) (fun c11_2 => ?_)
    · have c11_2 : d ≤ 40 := (nI_leI (a := d) (b := 40) (by omega) (by omega)).mp c11_2
      refine lv_iload_n hx hb dX4_say_16 rfl (lv_at hl 1 rfl) ?_
      refine lv_iload_n hx hb dX4_say_17 rfl (lv_at hl 2 rfl) ?_
      refine zcsE (va_runS (As := [.int (nI 2), .int (nI 1)]) (rest := []) ⟨hx, hb, hml, hown, hts⟩ (c_X4_find_2_1 l D cI cJ   s.heap.size) (va_cwS 2 hts gX4_say_X4_find rfl rfl rfl (by decide +kernel) ⟨Nat.le_of_ble_eq_true rfl, Nat.le_of_ble_eq_true rfl⟩) (zpS hK hN hZ hP hD hS hA [] rfl (by decide)) rfl rfl hl.1 rfl (lv_room (Nat.le_of_ble_eq_true rfl)) dX4_say_18 ⟨Nat.zero_le _, Nat.zero_le _⟩) ?_
      refine lv_istore (lv' := [(5, .int (nI 30)), (0, .ref h), (1, .int (nI 2)), (2, .int (nI 1)), (3, .int x), (4, .int (nI d))]) hx hb dX4_say_21 hl (by decide) rfl (fun ls hl => ?_)
      refine lv_aload_n hx hb dX4_say_23 rfl (lv_at hl 1 rfl) ?_
      refine lv_iload hx hb dX4_say_24 (lv_at hl 0 rfl) ?_
      refine zcv (wr := []) (va_runV (As := [.int (nI 30)]) (rest := []) ⟨hx, hb, hml, hown, hts⟩ (c_X4_begin l D cI cJ h hT9 T tn 0 5 sp mm 30 (by first | rfl | assumption | omega) s.heap.size) (cwV 1 hts gX4_say_X4_begin rfl rfl rfl (by decide +kernel) ⟨Nat.le_of_ble_eq_true rfl, Nat.le_of_ble_eq_true rfl⟩) (zpV hK hN hZ hP hD hS hA [0, 1] rfl (by decide) 0 rfl rfl rfl) rfl rfl hl.1 rfl (lv_room (Nat.le_of_ble_eq_true rfl)) dX4_say_26 ⟨Nat.zero_le _, Nat.zero_le _⟩) hP hD hS hA [0, 1] [] rfl rfl (by decide) (by decide) (fun w_4 H locs h_3 hP hD hS => ?_)
      obtain rfl := h_3
      have hP : va_P D vwCl [(h, .inr (4, [.ref hT9, .int (nI ((tn + 1))), .int (nI 0), .int (nI 5), .int (nI sp), .int mm])), (hT9, .inl (cI, 30, .inl ((upd T tn (nI 30)))))] H := hP
      have hD : va_D AA [(h, .inr (4, [.ref hT9, .int (nI ((tn + 1))), .int (nI 0), .int (nI 5), .int (nI sp), .int mm])), (hT9, .inl (cI, 30, .inl ((upd T tn (nI 30)))))] := hD
      refine lv_aload_n hx hb dX4_say_29 rfl (lv_at hl 1 rfl) ?_
      refine lv_iload hx hb dX4_say_30 (lv_at hl 0 rfl) ?_
      refine lv_iload_n hx hb dX4_say_32 rfl (lv_at hl 4 rfl) ?_
      refine lv_iload hx hb dX4_say_33 (lv_at hl 5 rfl) ?_
      refine lv_iconst (v := nI 1) hx hb dX4_say_35 (by decide) ?_
      refine lv_iadd hx hb dX4_say_36 ?_
      refine zrw (nI_add _ _) ?_
      refine zci (wr := []) (va_runV (As := [.int (nI 30), .int x, .int (nI (d + 1))]) (rest := []) ⟨hx, hb, hml, hown, hts⟩ (c_X4_sayBody_2_1_5 l D cI cJ h hT9 ((upd T tn (nI 30))) ((tn + 1)) sp mm x (d + 1) (by first | rfl | assumption | omega) (by first | rfl | assumption | omega) H.size) (cwV 3 hts gX4_say_X4_sayBody rfl rfl rfl (by decide +kernel) ⟨Nat.le_of_ble_eq_true rfl, Nat.le_of_ble_eq_true rfl⟩) (zpV hK hN hZ hP hD hS hA [0, 1] rfl (by decide) 0 rfl rfl rfl) rfl rfl hl.1 rfl (lv_room (Nat.le_of_ble_eq_true rfl)) dX4_say_37 ⟨Nat.zero_le _, Nat.zero_le _⟩) hP hD hS hA [0, 1] [] rfl rfl (by decide) (by decide) (fun r_7 w_6 H locs h_5 hP hD hS => ?_)
      obtain ⟨rfl, rfl⟩ := h_5
      have hP : va_P D vwCl [(h, .inr (4, [.ref hT9, .int (nI (((((tn + 1)) + 1) + 1))), .int (nI 0), .int (nI 5), .int (nI sp), .int mm])), (hT9, .inl (cI, 30, .inl ((upd (upd ((upd T tn (nI 30))) ((tn + 1)) (nI 11)) (((tn + 1)) + 1) (nI 10)))))] H := hP
      have hD : va_D AA [(h, .inr (4, [.ref hT9, .int (nI (((((tn + 1)) + 1) + 1))), .int (nI 0), .int (nI 5), .int (nI sp), .int mm])), (hT9, .inl (cI, 30, .inl ((upd (upd ((upd T tn (nI 30))) ((tn + 1)) (nI 11)) (((tn + 1)) + 1) (nI 10)))))] := hD
      exact hret hP hD hS dX4_say_40 rfl (by exact ⟨rfl, rfl⟩)
    · have c11_2 : ¬ (d ≤ 40) := fun h9 => c11_2 ((nI_leI (a := d) (b := 40) (by omega) (by omega)).mpr h9)
      exact absurd c11_2 (by omega)
set_option maxHeartbeats 4000000 in
set_option maxRecDepth 100000 in
theorem c_X4_sayBody_5_1_5 (l : Launch) (D : va_G) (cI cJ : ClassId) (h : Nat) (hT9 : Nat) (T : Nat → Int32) (tn : Nat) (sp : Nat) (mm : Int32) (x : Int32) (d : Nat) (htn : tn + 3 ≤ 30) (hd : d + 3 ≤ 40) : zMi l yX4_sayBody wsX4_sayBody ({ frames := 7, cells := 0, slots := 0, locals := 167 } : Room) D [(cI, .int), (cJ, .array .int)] [.ref h, .int (nI 60), .int x, .int (nI d)] [(h, .inr (4, [.ref hT9, .int (nI tn), .int (nI 0), .int (nI 5), .int (nI sp), .int mm])), (hT9, .inl (cI, 30, .inl T))] (fun r w => r = (zcounts 5 5 sp mm x ) ∧ w = [(h, .inr (4, [.ref hT9, .int (nI ((((tn + 1) + 1) + 1))), .int (nI 0), .int (nI 5), .int (nI sp), .int mm])), (hT9, .inl (cI, 30, .inl ((upd (upd (upd T tn (nI 30)) (tn + 1) (nI 11)) ((tn + 1) + 1) (nI 10)))))]) := by
  refine zMi.start (cc := cX4_sayBody) (maxL := 4) (rt := .int) (by first | decide | decide +kernel) rfl (Nat.le_of_ble_eq_true rfl) ?_
  intro pg ev s mt args below meth cd ls AA QQ ⟨hx, hb, hml, hr, hlocks, hown, hts, hK, hN, hZ, hP, hD, hA, hS, hl⟩ hret
  have hown : s.vm.findClass RX4 = some mt.cls := hown
  have hl : lv_has ls 4 [(0, .ref h), (1, .int (nI 60)), (2, .int x), (3, .int (nI d))] := hl
  have hin4 : ∀ w ∈ wsX40, w ∈ wsX4_sayBody := fun w h => List.mem_cons_of_mem _ (List.mem_append_right _ (h))
  refine lv_iload_n hx hb dX4_sayBody_0 rfl (lv_at hl 1 rfl) ?_
  refine lv_lookup (off := 238) (tgt := 239) hx hb dX4_sayBody_1 (by decide) (by decide) (by decide) ?_
  refine lv_aload_n hx hb dX4_sayBody_239 rfl (lv_at hl 0 rfl) ?_
  refine lv_iconst (v := nI 2) hx hb dX4_sayBody_240 (by decide) ?_
  refine lv_iconst (v := nI 1) hx hb dX4_sayBody_241 (by decide) ?_
  refine lv_iload_n hx hb dX4_sayBody_242 rfl (lv_at hl 2 rfl) ?_
  refine lv_iconst (v := nI 1) hx hb dX4_sayBody_243 (by decide) ?_
  refine lv_iadd hx hb dX4_sayBody_244 ?_
  refine lv_iload_n hx hb dX4_sayBody_245 rfl (lv_at hl 3 rfl) ?_
  refine zci (wr := []) (va_runV (As := [.int (nI 2), .int (nI 1), .int (x + (nI 1)), .int (nI d)]) (rest := []) ⟨hx, hb, hml, hown, hts⟩ (c_X4_say_2_1_5 l D cI cJ h hT9 T tn sp mm (x + (nI 1)) d (by first | rfl | assumption | omega) (by first | rfl | assumption | omega) s.heap.size) (cwV 4 hts gX4_sayBody_X4_say rfl rfl rfl (by decide +kernel) ⟨Nat.le_of_ble_eq_true rfl, Nat.le_of_ble_eq_true rfl⟩) (zpV hK hN hZ hP hD hS hA [0, 1] rfl (by decide) 0 rfl rfl rfl) rfl rfl hl.1 rfl (lv_room (Nat.le_of_ble_eq_true rfl)) dX4_sayBody_246 ⟨Nat.zero_le _, Nat.zero_le _⟩) hP hD hS hA [0, 1] [] rfl rfl (by decide) (by decide) (fun r_3 w_2 H locs h_1 hP hD hS => ?_)
  obtain ⟨rfl, rfl⟩ := h_1
  have hP : va_P D vwCl [(h, .inr (4, [.ref hT9, .int (nI ((((tn + 1) + 1) + 1))), .int (nI 0), .int (nI 5), .int (nI sp), .int mm])), (hT9, .inl (cI, 30, .inl ((upd (upd (upd T tn (nI 30)) (tn + 1) (nI 11)) ((tn + 1) + 1) (nI 10)))))] H := hP
  have hD : va_D AA [(h, .inr (4, [.ref hT9, .int (nI ((((tn + 1) + 1) + 1))), .int (nI 0), .int (nI 5), .int (nI sp), .int mm])), (hT9, .inl (cI, 30, .inl ((upd (upd (upd T tn (nI 30)) (tn + 1) (nI 11)) ((tn + 1) + 1) (nI 10)))))] := hD
  exact hret hP hD hS dX4_sayBody_249 rfl (by exact ⟨rfl, rfl⟩)
set_option maxHeartbeats 4000000 in
set_option maxRecDepth 100000 in
theorem c_X4_say_5_1_5 (l : Launch) (D : va_G) (cI cJ : ClassId) (h : Nat) (hT9 : Nat) (T : Nat → Int32) (tn : Nat) (sp : Nat) (mm : Int32) (x : Int32) (d : Nat) (htn : tn + 4 ≤ 30) (hd : d + 4 ≤ 40) : zMi l yX4_say wsX4_say ({ frames := 8, cells := 0, slots := 0, locals := 190 } : Room) D [(cI, .int), (cJ, .array .int)] [.ref h, .int (nI 5), .int (nI 1), .int x, .int (nI d)] [(h, .inr (4, [.ref hT9, .int (nI tn), .int (nI 0), .int (nI 5), .int (nI sp), .int mm])), (hT9, .inl (cI, 30, .inl T))] (fun r w => r = (zcounts 5 5 sp mm x ) ∧ w = [(h, .inr (4, [.ref hT9, .int (nI (((((tn + 1) + 1) + 1) + 1))), .int (nI 0), .int (nI 5), .int (nI sp), .int mm])), (hT9, .inl (cI, 30, .inl ((upd (upd (upd (upd T tn (nI 60)) (tn + 1) (nI 30)) ((tn + 1) + 1) (nI 11)) (((tn + 1) + 1) + 1) (nI 10)))))]) := by
  refine zMi.start (cc := cX4_say) (maxL := 6) (rt := .int) (by first | decide | decide +kernel) rfl (Nat.le_of_ble_eq_true rfl) ?_
  intro pg ev s mt args below meth cd ls AA QQ ⟨hx, hb, hml, hr, hlocks, hown, hts, hK, hN, hZ, hP, hD, hA, hS, hl⟩ hret
  have hown : s.vm.findClass RX4 = some mt.cls := hown
  have hl : lv_has ls 6 [(0, .ref h), (1, .int (nI 5)), (2, .int (nI 1)), (3, .int x), (4, .int (nI d))] := hl
  have hin4 : ∀ w ∈ wsX40, w ∈ wsX4_say := fun w h => List.mem_cons_of_mem _ (List.mem_append_right _ (h))
  refine lv_aload_n hx hb dX4_say_0 rfl (lv_at hl 0 rfl) ?_
  refine va_get (ci := 4) (v := .int (nI 0)) (C := RX4) (T := TX4) (N := 6) hx hb hts hin4 hown hK hP 0 rfl rfl 2 (by decide) (hts (.fieldLink RX4 19 "UpAllRound$Voices" "parted" "Z") (List.mem_of_getElem? (i := 1) rfl)) (fun _ h9 => h9) rfl dX4_say_1 ?_
  refine lv_if_ne (tgt := 14) hx hb dX4_say_4 (by decide) (fun c4_1 => ?_) (fun c4_1 => ?_)
  · have c4_1 : ¬ (0 = 0) := fun h9 => c4_1 ((nI_eq (a := 0) (b := 0) (by omega) (by omega)).mpr h9)
    exact absurd c4_1 (by omega)
  · have c4_1 : 0 = 0 := (nI_eq (a := 0) (b := 0) (by omega) (by omega)).mp c4_1
    refine lv_iload hx hb dX4_say_7 (lv_at hl 4 rfl) ?_
    refine lv_bipush (v := nI 40) hx hb dX4_say_9 (by decide) ?_
    refine lv_icmp_le (tgt := 16) hx hb dX4_say_11 (by decide) (fun c11_2 => ?_) (fun c11_2 => ?_)
    · have c11_2 : d ≤ 40 := (nI_leI (a := d) (b := 40) (by omega) (by omega)).mp c11_2
      refine lv_iload_n hx hb dX4_say_16 rfl (lv_at hl 1 rfl) ?_
      refine lv_iload_n hx hb dX4_say_17 rfl (lv_at hl 2 rfl) ?_
      refine zcsE (va_runS (As := [.int (nI 5), .int (nI 1)]) (rest := []) ⟨hx, hb, hml, hown, hts⟩ (c_X4_find_5_1 l D cI cJ   s.heap.size) (va_cwS 2 hts gX4_say_X4_find rfl rfl rfl (by decide +kernel) ⟨Nat.le_of_ble_eq_true rfl, Nat.le_of_ble_eq_true rfl⟩) (zpS hK hN hZ hP hD hS hA [] rfl (by decide)) rfl rfl hl.1 rfl (lv_room (Nat.le_of_ble_eq_true rfl)) dX4_say_18 ⟨Nat.zero_le _, Nat.zero_le _⟩) ?_
      refine lv_istore (lv' := [(5, .int (nI 60)), (0, .ref h), (1, .int (nI 5)), (2, .int (nI 1)), (3, .int x), (4, .int (nI d))]) hx hb dX4_say_21 hl (by decide) rfl (fun ls hl => ?_)
      refine lv_aload_n hx hb dX4_say_23 rfl (lv_at hl 1 rfl) ?_
      refine lv_iload hx hb dX4_say_24 (lv_at hl 0 rfl) ?_
      refine zcv (wr := []) (va_runV (As := [.int (nI 60)]) (rest := []) ⟨hx, hb, hml, hown, hts⟩ (c_X4_begin l D cI cJ h hT9 T tn 0 5 sp mm 60 (by first | rfl | assumption | omega) s.heap.size) (cwV 1 hts gX4_say_X4_begin rfl rfl rfl (by decide +kernel) ⟨Nat.le_of_ble_eq_true rfl, Nat.le_of_ble_eq_true rfl⟩) (zpV hK hN hZ hP hD hS hA [0, 1] rfl (by decide) 0 rfl rfl rfl) rfl rfl hl.1 rfl (lv_room (Nat.le_of_ble_eq_true rfl)) dX4_say_26 ⟨Nat.zero_le _, Nat.zero_le _⟩) hP hD hS hA [0, 1] [] rfl rfl (by decide) (by decide) (fun w_4 H locs h_3 hP hD hS => ?_)
      obtain rfl := h_3
      have hP : va_P D vwCl [(h, .inr (4, [.ref hT9, .int (nI ((tn + 1))), .int (nI 0), .int (nI 5), .int (nI sp), .int mm])), (hT9, .inl (cI, 30, .inl ((upd T tn (nI 60)))))] H := hP
      have hD : va_D AA [(h, .inr (4, [.ref hT9, .int (nI ((tn + 1))), .int (nI 0), .int (nI 5), .int (nI sp), .int mm])), (hT9, .inl (cI, 30, .inl ((upd T tn (nI 60)))))] := hD
      refine lv_aload_n hx hb dX4_say_29 rfl (lv_at hl 1 rfl) ?_
      refine lv_iload hx hb dX4_say_30 (lv_at hl 0 rfl) ?_
      refine lv_iload_n hx hb dX4_say_32 rfl (lv_at hl 4 rfl) ?_
      refine lv_iload hx hb dX4_say_33 (lv_at hl 5 rfl) ?_
      refine lv_iconst (v := nI 1) hx hb dX4_say_35 (by decide) ?_
      refine lv_iadd hx hb dX4_say_36 ?_
      refine zrw (nI_add _ _) ?_
      refine zci (wr := []) (va_runV (As := [.int (nI 60), .int x, .int (nI (d + 1))]) (rest := []) ⟨hx, hb, hml, hown, hts⟩ (c_X4_sayBody_5_1_5 l D cI cJ h hT9 ((upd T tn (nI 60))) ((tn + 1)) sp mm x (d + 1) (by first | rfl | assumption | omega) (by first | rfl | assumption | omega) H.size) (cwV 3 hts gX4_say_X4_sayBody rfl rfl rfl (by decide +kernel) ⟨Nat.le_of_ble_eq_true rfl, Nat.le_of_ble_eq_true rfl⟩) (zpV hK hN hZ hP hD hS hA [0, 1] rfl (by decide) 0 rfl rfl rfl) rfl rfl hl.1 rfl (lv_room (Nat.le_of_ble_eq_true rfl)) dX4_say_37 ⟨Nat.zero_le _, Nat.zero_le _⟩) hP hD hS hA [0, 1] [] rfl rfl (by decide) (by decide) (fun r_7 w_6 H locs h_5 hP hD hS => ?_)
      obtain ⟨rfl, rfl⟩ := h_5
      have hP : va_P D vwCl [(h, .inr (4, [.ref hT9, .int (nI ((((((tn + 1)) + 1) + 1) + 1))), .int (nI 0), .int (nI 5), .int (nI sp), .int mm])), (hT9, .inl (cI, 30, .inl ((upd (upd (upd ((upd T tn (nI 60))) ((tn + 1)) (nI 30)) (((tn + 1)) + 1) (nI 11)) ((((tn + 1)) + 1) + 1) (nI 10)))))] H := hP
      have hD : va_D AA [(h, .inr (4, [.ref hT9, .int (nI ((((((tn + 1)) + 1) + 1) + 1))), .int (nI 0), .int (nI 5), .int (nI sp), .int mm])), (hT9, .inl (cI, 30, .inl ((upd (upd (upd ((upd T tn (nI 60))) ((tn + 1)) (nI 30)) (((tn + 1)) + 1) (nI 11)) ((((tn + 1)) + 1) + 1) (nI 10)))))] := hD
      exact hret hP hD hS dX4_say_40 rfl (by exact ⟨rfl, rfl⟩)
    · have c11_2 : ¬ (d ≤ 40) := fun h9 => c11_2 ((nI_leI (a := d) (b := 40) (by omega) (by omega)).mpr h9)
      exact absurd c11_2 (by omega)
set_option maxHeartbeats 4000000 in
set_option maxRecDepth 100000 in
theorem c_X4_sayBody_5_2_5 (l : Launch) (D : va_G) (cI cJ : ClassId) (h : Nat) (hT9 : Nat) (T : Nat → Int32) (tn : Nat) (sp : Nat) (mm : Int32) (x : Int32) (d : Nat) (htn : tn + 4 ≤ 30) (hd : d + 4 ≤ 40) : zMi l yX4_sayBody wsX4_sayBody ({ frames := 9, cells := 0, slots := 0, locals := 215 } : Room) D [(cI, .int), (cJ, .array .int)] [.ref h, .int (nI 12), .int x, .int (nI d)] [(h, .inr (4, [.ref hT9, .int (nI tn), .int (nI 0), .int (nI 5), .int (nI sp), .int mm])), (hT9, .inl (cI, 30, .inl T))] (fun r w => r = (zswears 5 5 sp mm x ) ∧ w = [(h, .inr (4, [.ref hT9, .int (nI (((((tn + 1) + 1) + 1) + 1))), .int (nI 0), .int (nI 5), .int (nI sp), .int mm])), (hT9, .inl (cI, 30, .inl ((upd (upd (upd (upd T tn (nI 60)) (tn + 1) (nI 30)) ((tn + 1) + 1) (nI 11)) (((tn + 1) + 1) + 1) (nI 10)))))]) := by
  refine zMi.start (cc := cX4_sayBody) (maxL := 4) (rt := .int) (by first | decide | decide +kernel) rfl (Nat.le_of_ble_eq_true rfl) ?_
  intro pg ev s mt args below meth cd ls AA QQ ⟨hx, hb, hml, hr, hlocks, hown, hts, hK, hN, hZ, hP, hD, hA, hS, hl⟩ hret
  have hown : s.vm.findClass RX4 = some mt.cls := hown
  have hl : lv_has ls 4 [(0, .ref h), (1, .int (nI 12)), (2, .int x), (3, .int (nI d))] := hl
  have hin4 : ∀ w ∈ wsX40, w ∈ wsX4_sayBody := fun w h => List.mem_cons_of_mem _ (List.mem_append_right _ (h))
  refine lv_iload_n hx hb dX4_sayBody_0 rfl (lv_at hl 1 rfl) ?_
  refine lv_lookup (off := 136) (tgt := 137) hx hb dX4_sayBody_1 (by decide) (by decide) (by decide) ?_
  refine lv_aload_n hx hb dX4_sayBody_137 rfl (lv_at hl 0 rfl) ?_
  refine lv_aload_n hx hb dX4_sayBody_138 rfl (lv_at hl 0 rfl) ?_
  refine va_get (ci := 4) (v := .int (nI 5)) (C := RX4) (T := TX4) (N := 6) hx hb hts hin4 hown hK hP 0 rfl rfl 3 (by decide) (hts (.fieldLink RX4 23 "UpAllRound$Voices" "kind" "I") (List.mem_of_getElem? (i := 2) rfl)) (fun _ h9 => h9) rfl dX4_sayBody_139 ?_
  refine lv_iconst (v := nI 1) hx hb dX4_sayBody_142 (by decide) ?_
  refine lv_iload_n hx hb dX4_sayBody_143 rfl (lv_at hl 2 rfl) ?_
  refine lv_iload_n hx hb dX4_sayBody_144 rfl (lv_at hl 3 rfl) ?_
  refine zci (wr := []) (va_runV (As := [.int (nI 5), .int (nI 1), .int x, .int (nI d)]) (rest := []) ⟨hx, hb, hml, hown, hts⟩ (c_X4_say_5_1_5 l D cI cJ h hT9 T tn sp mm x d (by first | rfl | assumption | omega) (by first | rfl | assumption | omega) s.heap.size) (cwV 4 hts gX4_sayBody_X4_say rfl rfl rfl (by decide +kernel) ⟨Nat.le_of_ble_eq_true rfl, Nat.le_of_ble_eq_true rfl⟩) (zpV hK hN hZ hP hD hS hA [0, 1] rfl (by decide) 0 rfl rfl rfl) rfl rfl hl.1 rfl (lv_room (Nat.le_of_ble_eq_true rfl)) dX4_sayBody_145 ⟨Nat.zero_le _, Nat.zero_le _⟩) hP hD hS hA [0, 1] [] rfl rfl (by decide) (by decide) (fun r_3 w_2 H locs h_1 hP hD hS => ?_)
  obtain ⟨rfl, rfl⟩ := h_1
  have hP : va_P D vwCl [(h, .inr (4, [.ref hT9, .int (nI (((((tn + 1) + 1) + 1) + 1))), .int (nI 0), .int (nI 5), .int (nI sp), .int mm])), (hT9, .inl (cI, 30, .inl ((upd (upd (upd (upd T tn (nI 60)) (tn + 1) (nI 30)) ((tn + 1) + 1) (nI 11)) (((tn + 1) + 1) + 1) (nI 10)))))] H := hP
  have hD : va_D AA [(h, .inr (4, [.ref hT9, .int (nI (((((tn + 1) + 1) + 1) + 1))), .int (nI 0), .int (nI 5), .int (nI sp), .int mm])), (hT9, .inl (cI, 30, .inl ((upd (upd (upd (upd T tn (nI 60)) (tn + 1) (nI 30)) ((tn + 1) + 1) (nI 11)) (((tn + 1) + 1) + 1) (nI 10)))))] := hD
  refine lv_aload_n hx hb dX4_sayBody_148 rfl (lv_at hl 0 rfl) ?_
  refine va_get (ci := 4) (v := .int mm) (C := RX4) (T := TX4) (N := 6) hx hb hts hin4 hown hK hP 0 rfl rfl 5 (by decide) (hts (.fieldLink RX4 29 "UpAllRound$Voices" "m" "I") (List.mem_of_getElem? (i := 3) rfl)) (fun _ h9 => h9) rfl dX4_sayBody_149 ?_
  refine lv_isub hx hb dX4_sayBody_152 ?_
  exact hret hP hD hS dX4_sayBody_153 rfl (by exact ⟨rfl, rfl⟩)
set_option maxHeartbeats 4000000 in
set_option maxRecDepth 100000 in
theorem c_X4_say_5_2_5 (l : Launch) (D : va_G) (cI cJ : ClassId) (h : Nat) (hT9 : Nat) (T : Nat → Int32) (tn : Nat) (sp : Nat) (mm : Int32) (x : Int32) (d : Nat) (htn : tn + 5 ≤ 30) (hd : d + 5 ≤ 40) : zMi l yX4_say wsX4_say ({ frames := 10, cells := 0, slots := 0, locals := 238 } : Room) D [(cI, .int), (cJ, .array .int)] [.ref h, .int (nI 5), .int (nI 2), .int x, .int (nI d)] [(h, .inr (4, [.ref hT9, .int (nI tn), .int (nI 0), .int (nI 5), .int (nI sp), .int mm])), (hT9, .inl (cI, 30, .inl T))] (fun r w => r = (zswears 5 5 sp mm x ) ∧ w = [(h, .inr (4, [.ref hT9, .int (nI ((((((tn + 1) + 1) + 1) + 1) + 1))), .int (nI 0), .int (nI 5), .int (nI sp), .int mm])), (hT9, .inl (cI, 30, .inl ((upd (upd (upd (upd (upd T tn (nI 12)) (tn + 1) (nI 60)) ((tn + 1) + 1) (nI 30)) (((tn + 1) + 1) + 1) (nI 11)) ((((tn + 1) + 1) + 1) + 1) (nI 10)))))]) := by
  refine zMi.start (cc := cX4_say) (maxL := 6) (rt := .int) (by first | decide | decide +kernel) rfl (Nat.le_of_ble_eq_true rfl) ?_
  intro pg ev s mt args below meth cd ls AA QQ ⟨hx, hb, hml, hr, hlocks, hown, hts, hK, hN, hZ, hP, hD, hA, hS, hl⟩ hret
  have hown : s.vm.findClass RX4 = some mt.cls := hown
  have hl : lv_has ls 6 [(0, .ref h), (1, .int (nI 5)), (2, .int (nI 2)), (3, .int x), (4, .int (nI d))] := hl
  have hin4 : ∀ w ∈ wsX40, w ∈ wsX4_say := fun w h => List.mem_cons_of_mem _ (List.mem_append_right _ (h))
  refine lv_aload_n hx hb dX4_say_0 rfl (lv_at hl 0 rfl) ?_
  refine va_get (ci := 4) (v := .int (nI 0)) (C := RX4) (T := TX4) (N := 6) hx hb hts hin4 hown hK hP 0 rfl rfl 2 (by decide) (hts (.fieldLink RX4 19 "UpAllRound$Voices" "parted" "Z") (List.mem_of_getElem? (i := 1) rfl)) (fun _ h9 => h9) rfl dX4_say_1 ?_
  refine lv_if_ne (tgt := 14) hx hb dX4_say_4 (by decide) (fun c4_1 => ?_) (fun c4_1 => ?_)
  · have c4_1 : ¬ (0 = 0) := fun h9 => c4_1 ((nI_eq (a := 0) (b := 0) (by omega) (by omega)).mpr h9)
    exact absurd c4_1 (by omega)
  · have c4_1 : 0 = 0 := (nI_eq (a := 0) (b := 0) (by omega) (by omega)).mp c4_1
    refine lv_iload hx hb dX4_say_7 (lv_at hl 4 rfl) ?_
    refine lv_bipush (v := nI 40) hx hb dX4_say_9 (by decide) ?_
    refine lv_icmp_le (tgt := 16) hx hb dX4_say_11 (by decide) (fun c11_2 => ?_) (fun c11_2 => ?_)
    · have c11_2 : d ≤ 40 := (nI_leI (a := d) (b := 40) (by omega) (by omega)).mp c11_2
      refine lv_iload_n hx hb dX4_say_16 rfl (lv_at hl 1 rfl) ?_
      refine lv_iload_n hx hb dX4_say_17 rfl (lv_at hl 2 rfl) ?_
      refine zcsE (va_runS (As := [.int (nI 5), .int (nI 2)]) (rest := []) ⟨hx, hb, hml, hown, hts⟩ (c_X4_find_5_2 l D cI cJ   s.heap.size) (va_cwS 2 hts gX4_say_X4_find rfl rfl rfl (by decide +kernel) ⟨Nat.le_of_ble_eq_true rfl, Nat.le_of_ble_eq_true rfl⟩) (zpS hK hN hZ hP hD hS hA [] rfl (by decide)) rfl rfl hl.1 rfl (lv_room (Nat.le_of_ble_eq_true rfl)) dX4_say_18 ⟨Nat.zero_le _, Nat.zero_le _⟩) ?_
      refine lv_istore (lv' := [(5, .int (nI 12)), (0, .ref h), (1, .int (nI 5)), (2, .int (nI 2)), (3, .int x), (4, .int (nI d))]) hx hb dX4_say_21 hl (by decide) rfl (fun ls hl => ?_)
      refine lv_aload_n hx hb dX4_say_23 rfl (lv_at hl 1 rfl) ?_
      refine lv_iload hx hb dX4_say_24 (lv_at hl 0 rfl) ?_
      refine zcv (wr := []) (va_runV (As := [.int (nI 12)]) (rest := []) ⟨hx, hb, hml, hown, hts⟩ (c_X4_begin l D cI cJ h hT9 T tn 0 5 sp mm 12 (by first | rfl | assumption | omega) s.heap.size) (cwV 1 hts gX4_say_X4_begin rfl rfl rfl (by decide +kernel) ⟨Nat.le_of_ble_eq_true rfl, Nat.le_of_ble_eq_true rfl⟩) (zpV hK hN hZ hP hD hS hA [0, 1] rfl (by decide) 0 rfl rfl rfl) rfl rfl hl.1 rfl (lv_room (Nat.le_of_ble_eq_true rfl)) dX4_say_26 ⟨Nat.zero_le _, Nat.zero_le _⟩) hP hD hS hA [0, 1] [] rfl rfl (by decide) (by decide) (fun w_4 H locs h_3 hP hD hS => ?_)
      obtain rfl := h_3
      have hP : va_P D vwCl [(h, .inr (4, [.ref hT9, .int (nI ((tn + 1))), .int (nI 0), .int (nI 5), .int (nI sp), .int mm])), (hT9, .inl (cI, 30, .inl ((upd T tn (nI 12)))))] H := hP
      have hD : va_D AA [(h, .inr (4, [.ref hT9, .int (nI ((tn + 1))), .int (nI 0), .int (nI 5), .int (nI sp), .int mm])), (hT9, .inl (cI, 30, .inl ((upd T tn (nI 12)))))] := hD
      refine lv_aload_n hx hb dX4_say_29 rfl (lv_at hl 1 rfl) ?_
      refine lv_iload hx hb dX4_say_30 (lv_at hl 0 rfl) ?_
      refine lv_iload_n hx hb dX4_say_32 rfl (lv_at hl 4 rfl) ?_
      refine lv_iload hx hb dX4_say_33 (lv_at hl 5 rfl) ?_
      refine lv_iconst (v := nI 1) hx hb dX4_say_35 (by decide) ?_
      refine lv_iadd hx hb dX4_say_36 ?_
      refine zrw (nI_add _ _) ?_
      refine zci (wr := []) (va_runV (As := [.int (nI 12), .int x, .int (nI (d + 1))]) (rest := []) ⟨hx, hb, hml, hown, hts⟩ (c_X4_sayBody_5_2_5 l D cI cJ h hT9 ((upd T tn (nI 12))) ((tn + 1)) sp mm x (d + 1) (by first | rfl | assumption | omega) (by first | rfl | assumption | omega) H.size) (cwV 3 hts gX4_say_X4_sayBody rfl rfl rfl (by decide +kernel) ⟨Nat.le_of_ble_eq_true rfl, Nat.le_of_ble_eq_true rfl⟩) (zpV hK hN hZ hP hD hS hA [0, 1] rfl (by decide) 0 rfl rfl rfl) rfl rfl hl.1 rfl (lv_room (Nat.le_of_ble_eq_true rfl)) dX4_say_37 ⟨Nat.zero_le _, Nat.zero_le _⟩) hP hD hS hA [0, 1] [] rfl rfl (by decide) (by decide) (fun r_7 w_6 H locs h_5 hP hD hS => ?_)
      obtain ⟨rfl, rfl⟩ := h_5
      have hP : va_P D vwCl [(h, .inr (4, [.ref hT9, .int (nI (((((((tn + 1)) + 1) + 1) + 1) + 1))), .int (nI 0), .int (nI 5), .int (nI sp), .int mm])), (hT9, .inl (cI, 30, .inl ((upd (upd (upd (upd ((upd T tn (nI 12))) ((tn + 1)) (nI 60)) (((tn + 1)) + 1) (nI 30)) ((((tn + 1)) + 1) + 1) (nI 11)) (((((tn + 1)) + 1) + 1) + 1) (nI 10)))))] H := hP
      have hD : va_D AA [(h, .inr (4, [.ref hT9, .int (nI (((((((tn + 1)) + 1) + 1) + 1) + 1))), .int (nI 0), .int (nI 5), .int (nI sp), .int mm])), (hT9, .inl (cI, 30, .inl ((upd (upd (upd (upd ((upd T tn (nI 12))) ((tn + 1)) (nI 60)) (((tn + 1)) + 1) (nI 30)) ((((tn + 1)) + 1) + 1) (nI 11)) (((((tn + 1)) + 1) + 1) + 1) (nI 10)))))] := hD
      exact hret hP hD hS dX4_say_40 rfl (by exact ⟨rfl, rfl⟩)
    · have c11_2 : ¬ (d ≤ 40) := fun h9 => c11_2 ((nI_leI (a := d) (b := 40) (by omega) (by omega)).mpr h9)
      exact absurd c11_2 (by omega)
set_option maxHeartbeats 4000000 in
set_option maxRecDepth 100000 in
theorem c_X4_sayBody_5_3_5 (l : Launch) (D : va_G) (cI cJ : ClassId) (h : Nat) (hT9 : Nat) (T : Nat → Int32) (tn : Nat) (sp : Nat) (mm : Int32) (x : Int32) (d : Nat) (htn : tn + 0 ≤ 30) (hd : d + 0 ≤ 40) : zMi l yX4_sayBody wsX4_sayBody ({ frames := 1, cells := 0, slots := 0, locals := 22 } : Room) D [(cI, .int), (cJ, .array .int)] [.ref h, .int (nI 13), .int x, .int (nI d)] [(h, .inr (4, [.ref hT9, .int (nI tn), .int (nI 0), .int (nI 5), .int (nI sp), .int mm])), (hT9, .inl (cI, 30, .inl T))] (fun r w => r = (zpv sp mm x) ∧ w = [(h, .inr (4, [.ref hT9, .int (nI tn), .int (nI ((zpd sp mm))), .int (nI 5), .int (nI sp), .int mm])), (hT9, .inl (cI, 30, .inl T))]) := by
  refine zMi.start (cc := cX4_sayBody) (maxL := 4) (rt := .int) (by first | decide | decide +kernel) rfl (Nat.le_of_ble_eq_true rfl) ?_
  intro pg ev s mt args below meth cd ls AA QQ ⟨hx, hb, hml, hr, hlocks, hown, hts, hK, hN, hZ, hP, hD, hA, hS, hl⟩ hret
  have hown : s.vm.findClass RX4 = some mt.cls := hown
  have hl : lv_has ls 4 [(0, .ref h), (1, .int (nI 13)), (2, .int x), (3, .int (nI d))] := hl
  have hin4 : ∀ w ∈ wsX40, w ∈ wsX4_sayBody := fun w h => List.mem_cons_of_mem _ (List.mem_append_right _ (h))
  refine lv_iload_n hx hb dX4_sayBody_0 rfl (lv_at hl 1 rfl) ?_
  refine lv_lookup (off := 153) (tgt := 154) hx hb dX4_sayBody_1 (by decide) (by decide) (by decide) ?_
  refine lv_aload_n hx hb dX4_sayBody_154 rfl (lv_at hl 0 rfl) ?_
  refine lv_iload_n hx hb dX4_sayBody_155 rfl (lv_at hl 2 rfl) ?_
  refine zci (wr := [(hT9, .inl (cI, 30, .inl T))]) (va_runV (As := [.int x]) (rest := []) ⟨hx, hb, hml, hown, hts⟩ (c_X4_part l D cI cJ h hT9 tn 5 sp mm x  s.heap.size) (cwV 1 hts gX4_sayBody_X4_part rfl rfl rfl (by decide +kernel) ⟨Nat.le_of_ble_eq_true rfl, Nat.le_of_ble_eq_true rfl⟩) (zpV hK hN hZ hP hD hS hA [0] rfl (by decide) 0 rfl rfl rfl) rfl rfl hl.1 rfl (lv_room (Nat.le_of_ble_eq_true rfl)) dX4_sayBody_156 ⟨Nat.zero_le _, Nat.zero_le _⟩) hP hD hS hA [0] [1] rfl rfl (by decide) (by decide) (fun r_3 w_2 H locs h_1 hP hD hS => ?_)
  obtain ⟨rfl, rfl⟩ := h_1
  have hP : va_P D vwCl [(hT9, .inl (cI, 30, .inl T)), (h, .inr (4, [.ref hT9, .int (nI tn), .int (nI ((zpd sp mm))), .int (nI 5), .int (nI sp), .int mm]))] H := hP
  have hD : va_D AA [(hT9, .inl (cI, 30, .inl T)), (h, .inr (4, [.ref hT9, .int (nI tn), .int (nI ((zpd sp mm))), .int (nI 5), .int (nI sp), .int mm]))] := hD
  have hP := hP.sub (ws' := [(h, .inr (4, [.ref hT9, .int (nI tn), .int (nI ((zpd sp mm))), .int (nI 5), .int (nI sp), .int mm])), (hT9, .inl (cI, 30, .inl T))]) [1, 0] rfl
  have hD := hD.sub (ws' := [(h, .inr (4, [.ref hT9, .int (nI tn), .int (nI ((zpd sp mm))), .int (nI 5), .int (nI sp), .int mm])), (hT9, .inl (cI, 30, .inl T))]) [1, 0] (by decide) rfl
  exact hret hP hD hS dX4_sayBody_159 rfl (by exact ⟨rfl, rfl⟩)
set_option maxHeartbeats 4000000 in
set_option maxRecDepth 100000 in
theorem c_X4_say_5_3_5 (l : Launch) (D : va_G) (cI cJ : ClassId) (h : Nat) (hT9 : Nat) (T : Nat → Int32) (tn : Nat) (sp : Nat) (mm : Int32) (x : Int32) (d : Nat) (htn : tn + 1 ≤ 30) (hd : d + 1 ≤ 40) : zMi l yX4_say wsX4_say ({ frames := 2, cells := 0, slots := 0, locals := 46 } : Room) D [(cI, .int), (cJ, .array .int)] [.ref h, .int (nI 5), .int (nI 3), .int x, .int (nI d)] [(h, .inr (4, [.ref hT9, .int (nI tn), .int (nI 0), .int (nI 5), .int (nI sp), .int mm])), (hT9, .inl (cI, 30, .inl T))] (fun r w => r = (zpv sp mm x) ∧ w = [(h, .inr (4, [.ref hT9, .int (nI ((tn + 1))), .int (nI ((zpd sp mm))), .int (nI 5), .int (nI sp), .int mm])), (hT9, .inl (cI, 30, .inl ((upd T tn (nI 13)))))]) := by
  refine zMi.start (cc := cX4_say) (maxL := 6) (rt := .int) (by first | decide | decide +kernel) rfl (Nat.le_of_ble_eq_true rfl) ?_
  intro pg ev s mt args below meth cd ls AA QQ ⟨hx, hb, hml, hr, hlocks, hown, hts, hK, hN, hZ, hP, hD, hA, hS, hl⟩ hret
  have hown : s.vm.findClass RX4 = some mt.cls := hown
  have hl : lv_has ls 6 [(0, .ref h), (1, .int (nI 5)), (2, .int (nI 3)), (3, .int x), (4, .int (nI d))] := hl
  have hin4 : ∀ w ∈ wsX40, w ∈ wsX4_say := fun w h => List.mem_cons_of_mem _ (List.mem_append_right _ (h))
  refine lv_aload_n hx hb dX4_say_0 rfl (lv_at hl 0 rfl) ?_
  refine va_get (ci := 4) (v := .int (nI 0)) (C := RX4) (T := TX4) (N := 6) hx hb hts hin4 hown hK hP 0 rfl rfl 2 (by decide) (hts (.fieldLink RX4 19 "UpAllRound$Voices" "parted" "Z") (List.mem_of_getElem? (i := 1) rfl)) (fun _ h9 => h9) rfl dX4_say_1 ?_
  refine lv_if_ne (tgt := 14) hx hb dX4_say_4 (by decide) (fun c4_1 => ?_) (fun c4_1 => ?_)
  · have c4_1 : ¬ (0 = 0) := fun h9 => c4_1 ((nI_eq (a := 0) (b := 0) (by omega) (by omega)).mpr h9)
    exact absurd c4_1 (by omega)
  · have c4_1 : 0 = 0 := (nI_eq (a := 0) (b := 0) (by omega) (by omega)).mp c4_1
    refine lv_iload hx hb dX4_say_7 (lv_at hl 4 rfl) ?_
    refine lv_bipush (v := nI 40) hx hb dX4_say_9 (by decide) ?_
    refine lv_icmp_le (tgt := 16) hx hb dX4_say_11 (by decide) (fun c11_2 => ?_) (fun c11_2 => ?_)
    · have c11_2 : d ≤ 40 := (nI_leI (a := d) (b := 40) (by omega) (by omega)).mp c11_2
      refine lv_iload_n hx hb dX4_say_16 rfl (lv_at hl 1 rfl) ?_
      refine lv_iload_n hx hb dX4_say_17 rfl (lv_at hl 2 rfl) ?_
      refine zcsE (va_runS (As := [.int (nI 5), .int (nI 3)]) (rest := []) ⟨hx, hb, hml, hown, hts⟩ (c_X4_find_5_3 l D cI cJ   s.heap.size) (va_cwS 2 hts gX4_say_X4_find rfl rfl rfl (by decide +kernel) ⟨Nat.le_of_ble_eq_true rfl, Nat.le_of_ble_eq_true rfl⟩) (zpS hK hN hZ hP hD hS hA [] rfl (by decide)) rfl rfl hl.1 rfl (lv_room (Nat.le_of_ble_eq_true rfl)) dX4_say_18 ⟨Nat.zero_le _, Nat.zero_le _⟩) ?_
      refine lv_istore (lv' := [(5, .int (nI 13)), (0, .ref h), (1, .int (nI 5)), (2, .int (nI 3)), (3, .int x), (4, .int (nI d))]) hx hb dX4_say_21 hl (by decide) rfl (fun ls hl => ?_)
      refine lv_aload_n hx hb dX4_say_23 rfl (lv_at hl 1 rfl) ?_
      refine lv_iload hx hb dX4_say_24 (lv_at hl 0 rfl) ?_
      refine zcv (wr := []) (va_runV (As := [.int (nI 13)]) (rest := []) ⟨hx, hb, hml, hown, hts⟩ (c_X4_begin l D cI cJ h hT9 T tn 0 5 sp mm 13 (by first | rfl | assumption | omega) s.heap.size) (cwV 1 hts gX4_say_X4_begin rfl rfl rfl (by decide +kernel) ⟨Nat.le_of_ble_eq_true rfl, Nat.le_of_ble_eq_true rfl⟩) (zpV hK hN hZ hP hD hS hA [0, 1] rfl (by decide) 0 rfl rfl rfl) rfl rfl hl.1 rfl (lv_room (Nat.le_of_ble_eq_true rfl)) dX4_say_26 ⟨Nat.zero_le _, Nat.zero_le _⟩) hP hD hS hA [0, 1] [] rfl rfl (by decide) (by decide) (fun w_4 H locs h_3 hP hD hS => ?_)
      obtain rfl := h_3
      have hP : va_P D vwCl [(h, .inr (4, [.ref hT9, .int (nI ((tn + 1))), .int (nI 0), .int (nI 5), .int (nI sp), .int mm])), (hT9, .inl (cI, 30, .inl ((upd T tn (nI 13)))))] H := hP
      have hD : va_D AA [(h, .inr (4, [.ref hT9, .int (nI ((tn + 1))), .int (nI 0), .int (nI 5), .int (nI sp), .int mm])), (hT9, .inl (cI, 30, .inl ((upd T tn (nI 13)))))] := hD
      refine lv_aload_n hx hb dX4_say_29 rfl (lv_at hl 1 rfl) ?_
      refine lv_iload hx hb dX4_say_30 (lv_at hl 0 rfl) ?_
      refine lv_iload_n hx hb dX4_say_32 rfl (lv_at hl 4 rfl) ?_
      refine lv_iload hx hb dX4_say_33 (lv_at hl 5 rfl) ?_
      refine lv_iconst (v := nI 1) hx hb dX4_say_35 (by decide) ?_
      refine lv_iadd hx hb dX4_say_36 ?_
      refine zrw (nI_add _ _) ?_
      refine zci (wr := []) (va_runV (As := [.int (nI 13), .int x, .int (nI (d + 1))]) (rest := []) ⟨hx, hb, hml, hown, hts⟩ (c_X4_sayBody_5_3_5 l D cI cJ h hT9 ((upd T tn (nI 13))) ((tn + 1)) sp mm x (d + 1) (by first | rfl | assumption | omega) (by first | rfl | assumption | omega) H.size) (cwV 3 hts gX4_say_X4_sayBody rfl rfl rfl (by decide +kernel) ⟨Nat.le_of_ble_eq_true rfl, Nat.le_of_ble_eq_true rfl⟩) (zpV hK hN hZ hP hD hS hA [0, 1] rfl (by decide) 0 rfl rfl rfl) rfl rfl hl.1 rfl (lv_room (Nat.le_of_ble_eq_true rfl)) dX4_say_37 ⟨Nat.zero_le _, Nat.zero_le _⟩) hP hD hS hA [0, 1] [] rfl rfl (by decide) (by decide) (fun r_7 w_6 H locs h_5 hP hD hS => ?_)
      obtain ⟨rfl, rfl⟩ := h_5
      have hP : va_P D vwCl [(h, .inr (4, [.ref hT9, .int (nI (((tn + 1)))), .int (nI ((zpd sp mm))), .int (nI 5), .int (nI sp), .int mm])), (hT9, .inl (cI, 30, .inl (((upd T tn (nI 13))))))] H := hP
      have hD : va_D AA [(h, .inr (4, [.ref hT9, .int (nI (((tn + 1)))), .int (nI ((zpd sp mm))), .int (nI 5), .int (nI sp), .int mm])), (hT9, .inl (cI, 30, .inl (((upd T tn (nI 13))))))] := hD
      exact hret hP hD hS dX4_say_40 rfl (by exact ⟨rfl, rfl⟩)
    · have c11_2 : ¬ (d ≤ 40) := fun h9 => c11_2 ((nI_leI (a := d) (b := 40) (by omega) (by omega)).mpr h9)
      exact absurd c11_2 (by omega)
set_option maxHeartbeats 4000000 in
set_option maxRecDepth 100000 in
theorem c_X4_sayBody_6_0_6 (l : Launch) (D : va_G) (cI cJ : ClassId) (h : Nat) (hT9 : Nat) (T : Nat → Int32) (tn : Nat) (sp : Nat) (mm : Int32) (x : Int32) (d : Nat) (htn : tn + 0 ≤ 30) (hd : d + 0 ≤ 40) : zMi l yX4_sayBody wsX4_sayBody ({ frames := 0, cells := 0, slots := 0, locals := 0 } : Room) D [(cI, .int), (cJ, .array .int)] [.ref h, .int (nI 70), .int x, .int (nI d)] [(h, .inr (4, [.ref hT9, .int (nI tn), .int (nI 0), .int (nI 6), .int (nI sp), .int mm])), (hT9, .inl (cI, 30, .inl T))] (fun r w => r = (zpants 6 sp x ) ∧ w = [(h, .inr (4, [.ref hT9, .int (nI tn), .int (nI 0), .int (nI 6), .int (nI sp), .int mm])), (hT9, .inl (cI, 30, .inl T))]) := by
  refine zMi.start (cc := cX4_sayBody) (maxL := 4) (rt := .int) (by first | decide | decide +kernel) rfl (Nat.le_of_ble_eq_true rfl) ?_
  intro pg ev s mt args below meth cd ls AA QQ ⟨hx, hb, hml, hr, hlocks, hown, hts, hK, hN, hZ, hP, hD, hA, hS, hl⟩ hret
  have hown : s.vm.findClass RX4 = some mt.cls := hown
  have hl : lv_has ls 4 [(0, .ref h), (1, .int (nI 70)), (2, .int x), (3, .int (nI d))] := hl
  have hin4 : ∀ w ∈ wsX40, w ∈ wsX4_sayBody := fun w h => List.mem_cons_of_mem _ (List.mem_append_right _ (h))
  refine lv_iload_n hx hb dX4_sayBody_0 rfl (lv_at hl 1 rfl) ?_
  refine lv_lookup (off := 249) (tgt := 250) hx hb dX4_sayBody_1 (by decide) (by decide) (by decide) ?_
  refine lv_bipush (v := nI 9) hx hb dX4_sayBody_250 (by decide) ?_
  exact hret hP hD hS dX4_sayBody_252 rfl (by exact ⟨rfl, rfl⟩)
set_option maxHeartbeats 4000000 in
set_option maxRecDepth 100000 in
theorem c_X4_say_6_0_6 (l : Launch) (D : va_G) (cI cJ : ClassId) (h : Nat) (hT9 : Nat) (T : Nat → Int32) (tn : Nat) (sp : Nat) (mm : Int32) (x : Int32) (d : Nat) (htn : tn + 1 ≤ 30) (hd : d + 1 ≤ 40) : zMi l yX4_say wsX4_say ({ frames := 2, cells := 0, slots := 0, locals := 46 } : Room) D [(cI, .int), (cJ, .array .int)] [.ref h, .int (nI 6), .int (nI 0), .int x, .int (nI d)] [(h, .inr (4, [.ref hT9, .int (nI tn), .int (nI 0), .int (nI 6), .int (nI sp), .int mm])), (hT9, .inl (cI, 30, .inl T))] (fun r w => r = (zpants 6 sp x ) ∧ w = [(h, .inr (4, [.ref hT9, .int (nI ((tn + 1))), .int (nI 0), .int (nI 6), .int (nI sp), .int mm])), (hT9, .inl (cI, 30, .inl ((upd T tn (nI 70)))))]) := by
  refine zMi.start (cc := cX4_say) (maxL := 6) (rt := .int) (by first | decide | decide +kernel) rfl (Nat.le_of_ble_eq_true rfl) ?_
  intro pg ev s mt args below meth cd ls AA QQ ⟨hx, hb, hml, hr, hlocks, hown, hts, hK, hN, hZ, hP, hD, hA, hS, hl⟩ hret
  have hown : s.vm.findClass RX4 = some mt.cls := hown
  have hl : lv_has ls 6 [(0, .ref h), (1, .int (nI 6)), (2, .int (nI 0)), (3, .int x), (4, .int (nI d))] := hl
  have hin4 : ∀ w ∈ wsX40, w ∈ wsX4_say := fun w h => List.mem_cons_of_mem _ (List.mem_append_right _ (h))
  refine lv_aload_n hx hb dX4_say_0 rfl (lv_at hl 0 rfl) ?_
  refine va_get (ci := 4) (v := .int (nI 0)) (C := RX4) (T := TX4) (N := 6) hx hb hts hin4 hown hK hP 0 rfl rfl 2 (by decide) (hts (.fieldLink RX4 19 "UpAllRound$Voices" "parted" "Z") (List.mem_of_getElem? (i := 1) rfl)) (fun _ h9 => h9) rfl dX4_say_1 ?_
  refine lv_if_ne (tgt := 14) hx hb dX4_say_4 (by decide) (fun c4_1 => ?_) (fun c4_1 => ?_)
  · have c4_1 : ¬ (0 = 0) := fun h9 => c4_1 ((nI_eq (a := 0) (b := 0) (by omega) (by omega)).mpr h9)
    exact absurd c4_1 (by omega)
  · have c4_1 : 0 = 0 := (nI_eq (a := 0) (b := 0) (by omega) (by omega)).mp c4_1
    refine lv_iload hx hb dX4_say_7 (lv_at hl 4 rfl) ?_
    refine lv_bipush (v := nI 40) hx hb dX4_say_9 (by decide) ?_
    refine lv_icmp_le (tgt := 16) hx hb dX4_say_11 (by decide) (fun c11_2 => ?_) (fun c11_2 => ?_)
    · have c11_2 : d ≤ 40 := (nI_leI (a := d) (b := 40) (by omega) (by omega)).mp c11_2
      refine lv_iload_n hx hb dX4_say_16 rfl (lv_at hl 1 rfl) ?_
      refine lv_iload_n hx hb dX4_say_17 rfl (lv_at hl 2 rfl) ?_
      refine zcsE (va_runS (As := [.int (nI 6), .int (nI 0)]) (rest := []) ⟨hx, hb, hml, hown, hts⟩ (c_X4_find_6_0 l D cI cJ   s.heap.size) (va_cwS 2 hts gX4_say_X4_find rfl rfl rfl (by decide +kernel) ⟨Nat.le_of_ble_eq_true rfl, Nat.le_of_ble_eq_true rfl⟩) (zpS hK hN hZ hP hD hS hA [] rfl (by decide)) rfl rfl hl.1 rfl (lv_room (Nat.le_of_ble_eq_true rfl)) dX4_say_18 ⟨Nat.zero_le _, Nat.zero_le _⟩) ?_
      refine lv_istore (lv' := [(5, .int (nI 70)), (0, .ref h), (1, .int (nI 6)), (2, .int (nI 0)), (3, .int x), (4, .int (nI d))]) hx hb dX4_say_21 hl (by decide) rfl (fun ls hl => ?_)
      refine lv_aload_n hx hb dX4_say_23 rfl (lv_at hl 1 rfl) ?_
      refine lv_iload hx hb dX4_say_24 (lv_at hl 0 rfl) ?_
      refine zcv (wr := []) (va_runV (As := [.int (nI 70)]) (rest := []) ⟨hx, hb, hml, hown, hts⟩ (c_X4_begin l D cI cJ h hT9 T tn 0 6 sp mm 70 (by first | rfl | assumption | omega) s.heap.size) (cwV 1 hts gX4_say_X4_begin rfl rfl rfl (by decide +kernel) ⟨Nat.le_of_ble_eq_true rfl, Nat.le_of_ble_eq_true rfl⟩) (zpV hK hN hZ hP hD hS hA [0, 1] rfl (by decide) 0 rfl rfl rfl) rfl rfl hl.1 rfl (lv_room (Nat.le_of_ble_eq_true rfl)) dX4_say_26 ⟨Nat.zero_le _, Nat.zero_le _⟩) hP hD hS hA [0, 1] [] rfl rfl (by decide) (by decide) (fun w_4 H locs h_3 hP hD hS => ?_)
      obtain rfl := h_3
      have hP : va_P D vwCl [(h, .inr (4, [.ref hT9, .int (nI ((tn + 1))), .int (nI 0), .int (nI 6), .int (nI sp), .int mm])), (hT9, .inl (cI, 30, .inl ((upd T tn (nI 70)))))] H := hP
      have hD : va_D AA [(h, .inr (4, [.ref hT9, .int (nI ((tn + 1))), .int (nI 0), .int (nI 6), .int (nI sp), .int mm])), (hT9, .inl (cI, 30, .inl ((upd T tn (nI 70)))))] := hD
      refine lv_aload_n hx hb dX4_say_29 rfl (lv_at hl 1 rfl) ?_
      refine lv_iload hx hb dX4_say_30 (lv_at hl 0 rfl) ?_
      refine lv_iload_n hx hb dX4_say_32 rfl (lv_at hl 4 rfl) ?_
      refine lv_iload hx hb dX4_say_33 (lv_at hl 5 rfl) ?_
      refine lv_iconst (v := nI 1) hx hb dX4_say_35 (by decide) ?_
      refine lv_iadd hx hb dX4_say_36 ?_
      refine zrw (nI_add _ _) ?_
      refine zci (wr := []) (va_runV (As := [.int (nI 70), .int x, .int (nI (d + 1))]) (rest := []) ⟨hx, hb, hml, hown, hts⟩ (c_X4_sayBody_6_0_6 l D cI cJ h hT9 ((upd T tn (nI 70))) ((tn + 1)) sp mm x (d + 1) (by first | rfl | assumption | omega) (by first | rfl | assumption | omega) H.size) (cwV 3 hts gX4_say_X4_sayBody rfl rfl rfl (by decide +kernel) ⟨Nat.le_of_ble_eq_true rfl, Nat.le_of_ble_eq_true rfl⟩) (zpV hK hN hZ hP hD hS hA [0, 1] rfl (by decide) 0 rfl rfl rfl) rfl rfl hl.1 rfl (lv_room (Nat.le_of_ble_eq_true rfl)) dX4_say_37 ⟨Nat.zero_le _, Nat.zero_le _⟩) hP hD hS hA [0, 1] [] rfl rfl (by decide) (by decide) (fun r_7 w_6 H locs h_5 hP hD hS => ?_)
      obtain ⟨rfl, rfl⟩ := h_5
      have hP : va_P D vwCl [(h, .inr (4, [.ref hT9, .int (nI (((tn + 1)))), .int (nI 0), .int (nI 6), .int (nI sp), .int mm])), (hT9, .inl (cI, 30, .inl (((upd T tn (nI 70))))))] H := hP
      have hD : va_D AA [(h, .inr (4, [.ref hT9, .int (nI (((tn + 1)))), .int (nI 0), .int (nI 6), .int (nI sp), .int mm])), (hT9, .inl (cI, 30, .inl (((upd T tn (nI 70))))))] := hD
      exact hret hP hD hS dX4_say_40 rfl (by exact ⟨rfl, rfl⟩)
    · have c11_2 : ¬ (d ≤ 40) := fun h9 => c11_2 ((nI_leI (a := d) (b := 40) (by omega) (by omega)).mpr h9)
      exact absurd c11_2 (by omega)
set_option maxHeartbeats 4000000 in
set_option maxRecDepth 100000 in
theorem c_X4_sayBody_0_1_6 (l : Launch) (D : va_G) (cI cJ : ClassId) (h : Nat) (hT9 : Nat) (T : Nat → Int32) (tn : Nat) (sp : Nat) (mm : Int32) (x : Int32) (d : Nat) (htn : tn + 1 ≤ 30) (hd : d + 1 ≤ 40) : zMi l yX4_sayBody wsX4_sayBody ({ frames := 3, cells := 0, slots := 0, locals := 71 } : Room) D [(cI, .int), (cJ, .array .int)] [.ref h, .int (nI 11), .int x, .int (nI d)] [(h, .inr (4, [.ref hT9, .int (nI tn), .int (nI 0), .int (nI 6), .int (nI sp), .int mm])), (hT9, .inl (cI, 30, .inl T))] (fun r w => r = (zcounts 6 0 sp mm x ) ∧ w = [(h, .inr (4, [.ref hT9, .int (nI ((tn + 1))), .int (nI 0), .int (nI 6), .int (nI sp), .int mm])), (hT9, .inl (cI, 30, .inl ((upd T tn (nI 70)))))]) := by
  refine zMi.start (cc := cX4_sayBody) (maxL := 4) (rt := .int) (by first | decide | decide +kernel) rfl (Nat.le_of_ble_eq_true rfl) ?_
  intro pg ev s mt args below meth cd ls AA QQ ⟨hx, hb, hml, hr, hlocks, hown, hts, hK, hN, hZ, hP, hD, hA, hS, hl⟩ hret
  have hown : s.vm.findClass RX4 = some mt.cls := hown
  have hl : lv_has ls 4 [(0, .ref h), (1, .int (nI 11)), (2, .int x), (3, .int (nI d))] := hl
  have hin4 : ∀ w ∈ wsX40, w ∈ wsX4_sayBody := fun w h => List.mem_cons_of_mem _ (List.mem_append_right _ (h))
  refine lv_iload_n hx hb dX4_sayBody_0 rfl (lv_at hl 1 rfl) ?_
  refine lv_lookup (off := 122) (tgt := 123) hx hb dX4_sayBody_1 (by decide) (by decide) (by decide) ?_
  refine lv_aload_n hx hb dX4_sayBody_123 rfl (lv_at hl 0 rfl) ?_
  refine lv_aload_n hx hb dX4_sayBody_124 rfl (lv_at hl 0 rfl) ?_
  refine va_get (ci := 4) (v := .int (nI 6)) (C := RX4) (T := TX4) (N := 6) hx hb hts hin4 hown hK hP 0 rfl rfl 3 (by decide) (hts (.fieldLink RX4 23 "UpAllRound$Voices" "kind" "I") (List.mem_of_getElem? (i := 2) rfl)) (fun _ h9 => h9) rfl dX4_sayBody_125 ?_
  refine lv_iconst (v := nI 0) hx hb dX4_sayBody_128 (by decide) ?_
  refine lv_iload_n hx hb dX4_sayBody_129 rfl (lv_at hl 2 rfl) ?_
  refine lv_iload_n hx hb dX4_sayBody_130 rfl (lv_at hl 3 rfl) ?_
  refine zci (wr := []) (va_runV (As := [.int (nI 6), .int (nI 0), .int x, .int (nI d)]) (rest := []) ⟨hx, hb, hml, hown, hts⟩ (c_X4_say_6_0_6 l D cI cJ h hT9 T tn sp mm x d (by first | rfl | assumption | omega) (by first | rfl | assumption | omega) s.heap.size) (cwV 4 hts gX4_sayBody_X4_say rfl rfl rfl (by decide +kernel) ⟨Nat.le_of_ble_eq_true rfl, Nat.le_of_ble_eq_true rfl⟩) (zpV hK hN hZ hP hD hS hA [0, 1] rfl (by decide) 0 rfl rfl rfl) rfl rfl hl.1 rfl (lv_room (Nat.le_of_ble_eq_true rfl)) dX4_sayBody_131 ⟨Nat.zero_le _, Nat.zero_le _⟩) hP hD hS hA [0, 1] [] rfl rfl (by decide) (by decide) (fun r_3 w_2 H locs h_1 hP hD hS => ?_)
  obtain ⟨rfl, rfl⟩ := h_1
  have hP : va_P D vwCl [(h, .inr (4, [.ref hT9, .int (nI ((tn + 1))), .int (nI 0), .int (nI 6), .int (nI sp), .int mm])), (hT9, .inl (cI, 30, .inl ((upd T tn (nI 70)))))] H := hP
  have hD : va_D AA [(h, .inr (4, [.ref hT9, .int (nI ((tn + 1))), .int (nI 0), .int (nI 6), .int (nI sp), .int mm])), (hT9, .inl (cI, 30, .inl ((upd T tn (nI 70)))))] := hD
  refine lv_iconst (v := nI 2) hx hb dX4_sayBody_134 (by decide) ?_
  refine lv_imul hx hb dX4_sayBody_135 ?_
  exact hret hP hD hS dX4_sayBody_136 rfl (by exact ⟨rfl, rfl⟩)
set_option maxHeartbeats 4000000 in
set_option maxRecDepth 100000 in
theorem c_X4_say_0_1_6 (l : Launch) (D : va_G) (cI cJ : ClassId) (h : Nat) (hT9 : Nat) (T : Nat → Int32) (tn : Nat) (sp : Nat) (mm : Int32) (x : Int32) (d : Nat) (htn : tn + 2 ≤ 30) (hd : d + 2 ≤ 40) : zMi l yX4_say wsX4_say ({ frames := 4, cells := 0, slots := 0, locals := 94 } : Room) D [(cI, .int), (cJ, .array .int)] [.ref h, .int (nI 0), .int (nI 1), .int x, .int (nI d)] [(h, .inr (4, [.ref hT9, .int (nI tn), .int (nI 0), .int (nI 6), .int (nI sp), .int mm])), (hT9, .inl (cI, 30, .inl T))] (fun r w => r = (zcounts 6 0 sp mm x ) ∧ w = [(h, .inr (4, [.ref hT9, .int (nI (((tn + 1) + 1))), .int (nI 0), .int (nI 6), .int (nI sp), .int mm])), (hT9, .inl (cI, 30, .inl ((upd (upd T tn (nI 11)) (tn + 1) (nI 70)))))]) := by
  refine zMi.start (cc := cX4_say) (maxL := 6) (rt := .int) (by first | decide | decide +kernel) rfl (Nat.le_of_ble_eq_true rfl) ?_
  intro pg ev s mt args below meth cd ls AA QQ ⟨hx, hb, hml, hr, hlocks, hown, hts, hK, hN, hZ, hP, hD, hA, hS, hl⟩ hret
  have hown : s.vm.findClass RX4 = some mt.cls := hown
  have hl : lv_has ls 6 [(0, .ref h), (1, .int (nI 0)), (2, .int (nI 1)), (3, .int x), (4, .int (nI d))] := hl
  have hin4 : ∀ w ∈ wsX40, w ∈ wsX4_say := fun w h => List.mem_cons_of_mem _ (List.mem_append_right _ (h))
  refine lv_aload_n hx hb dX4_say_0 rfl (lv_at hl 0 rfl) ?_
  refine va_get (ci := 4) (v := .int (nI 0)) (C := RX4) (T := TX4) (N := 6) hx hb hts hin4 hown hK hP 0 rfl rfl 2 (by decide) (hts (.fieldLink RX4 19 "UpAllRound$Voices" "parted" "Z") (List.mem_of_getElem? (i := 1) rfl)) (fun _ h9 => h9) rfl dX4_say_1 ?_
  refine lv_if_ne (tgt := 14) hx hb dX4_say_4 (by decide) (fun c4_1 => ?_) (fun c4_1 => ?_)
  · have c4_1 : ¬ (0 = 0) := fun h9 => c4_1 ((nI_eq (a := 0) (b := 0) (by omega) (by omega)).mpr h9)
    exact absurd c4_1 (by omega)
  · have c4_1 : 0 = 0 := (nI_eq (a := 0) (b := 0) (by omega) (by omega)).mp c4_1
    refine lv_iload hx hb dX4_say_7 (lv_at hl 4 rfl) ?_
    refine lv_bipush (v := nI 40) hx hb dX4_say_9 (by decide) ?_
    refine lv_icmp_le (tgt := 16) hx hb dX4_say_11 (by decide) (fun c11_2 => ?_) (fun c11_2 => ?_)
    · have c11_2 : d ≤ 40 := (nI_leI (a := d) (b := 40) (by omega) (by omega)).mp c11_2
      refine lv_iload_n hx hb dX4_say_16 rfl (lv_at hl 1 rfl) ?_
      refine lv_iload_n hx hb dX4_say_17 rfl (lv_at hl 2 rfl) ?_
      refine zcsE (va_runS (As := [.int (nI 0), .int (nI 1)]) (rest := []) ⟨hx, hb, hml, hown, hts⟩ (c_X4_find_0_1 l D cI cJ   s.heap.size) (va_cwS 2 hts gX4_say_X4_find rfl rfl rfl (by decide +kernel) ⟨Nat.le_of_ble_eq_true rfl, Nat.le_of_ble_eq_true rfl⟩) (zpS hK hN hZ hP hD hS hA [] rfl (by decide)) rfl rfl hl.1 rfl (lv_room (Nat.le_of_ble_eq_true rfl)) dX4_say_18 ⟨Nat.zero_le _, Nat.zero_le _⟩) ?_
      refine lv_istore (lv' := [(5, .int (nI 11)), (0, .ref h), (1, .int (nI 0)), (2, .int (nI 1)), (3, .int x), (4, .int (nI d))]) hx hb dX4_say_21 hl (by decide) rfl (fun ls hl => ?_)
      refine lv_aload_n hx hb dX4_say_23 rfl (lv_at hl 1 rfl) ?_
      refine lv_iload hx hb dX4_say_24 (lv_at hl 0 rfl) ?_
      refine zcv (wr := []) (va_runV (As := [.int (nI 11)]) (rest := []) ⟨hx, hb, hml, hown, hts⟩ (c_X4_begin l D cI cJ h hT9 T tn 0 6 sp mm 11 (by first | rfl | assumption | omega) s.heap.size) (cwV 1 hts gX4_say_X4_begin rfl rfl rfl (by decide +kernel) ⟨Nat.le_of_ble_eq_true rfl, Nat.le_of_ble_eq_true rfl⟩) (zpV hK hN hZ hP hD hS hA [0, 1] rfl (by decide) 0 rfl rfl rfl) rfl rfl hl.1 rfl (lv_room (Nat.le_of_ble_eq_true rfl)) dX4_say_26 ⟨Nat.zero_le _, Nat.zero_le _⟩) hP hD hS hA [0, 1] [] rfl rfl (by decide) (by decide) (fun w_4 H locs h_3 hP hD hS => ?_)
      obtain rfl := h_3
      have hP : va_P D vwCl [(h, .inr (4, [.ref hT9, .int (nI ((tn + 1))), .int (nI 0), .int (nI 6), .int (nI sp), .int mm])), (hT9, .inl (cI, 30, .inl ((upd T tn (nI 11)))))] H := hP
      have hD : va_D AA [(h, .inr (4, [.ref hT9, .int (nI ((tn + 1))), .int (nI 0), .int (nI 6), .int (nI sp), .int mm])), (hT9, .inl (cI, 30, .inl ((upd T tn (nI 11)))))] := hD
      refine lv_aload_n hx hb dX4_say_29 rfl (lv_at hl 1 rfl) ?_
      refine lv_iload hx hb dX4_say_30 (lv_at hl 0 rfl) ?_
      refine lv_iload_n hx hb dX4_say_32 rfl (lv_at hl 4 rfl) ?_
      refine lv_iload hx hb dX4_say_33 (lv_at hl 5 rfl) ?_
      refine lv_iconst (v := nI 1) hx hb dX4_say_35 (by decide) ?_
      refine lv_iadd hx hb dX4_say_36 ?_
      refine zrw (nI_add _ _) ?_
      refine zci (wr := []) (va_runV (As := [.int (nI 11), .int x, .int (nI (d + 1))]) (rest := []) ⟨hx, hb, hml, hown, hts⟩ (c_X4_sayBody_0_1_6 l D cI cJ h hT9 ((upd T tn (nI 11))) ((tn + 1)) sp mm x (d + 1) (by first | rfl | assumption | omega) (by first | rfl | assumption | omega) H.size) (cwV 3 hts gX4_say_X4_sayBody rfl rfl rfl (by decide +kernel) ⟨Nat.le_of_ble_eq_true rfl, Nat.le_of_ble_eq_true rfl⟩) (zpV hK hN hZ hP hD hS hA [0, 1] rfl (by decide) 0 rfl rfl rfl) rfl rfl hl.1 rfl (lv_room (Nat.le_of_ble_eq_true rfl)) dX4_say_37 ⟨Nat.zero_le _, Nat.zero_le _⟩) hP hD hS hA [0, 1] [] rfl rfl (by decide) (by decide) (fun r_7 w_6 H locs h_5 hP hD hS => ?_)
      obtain ⟨rfl, rfl⟩ := h_5
      have hP : va_P D vwCl [(h, .inr (4, [.ref hT9, .int (nI ((((tn + 1)) + 1))), .int (nI 0), .int (nI 6), .int (nI sp), .int mm])), (hT9, .inl (cI, 30, .inl ((upd ((upd T tn (nI 11))) ((tn + 1)) (nI 70)))))] H := hP
      have hD : va_D AA [(h, .inr (4, [.ref hT9, .int (nI ((((tn + 1)) + 1))), .int (nI 0), .int (nI 6), .int (nI sp), .int mm])), (hT9, .inl (cI, 30, .inl ((upd ((upd T tn (nI 11))) ((tn + 1)) (nI 70)))))] := hD
      exact hret hP hD hS dX4_say_40 rfl (by exact ⟨rfl, rfl⟩)
    · have c11_2 : ¬ (d ≤ 40) := fun h9 => c11_2 ((nI_leI (a := d) (b := 40) (by omega) (by omega)).mpr h9)
      exact absurd c11_2 (by omega)
set_option maxHeartbeats 4000000 in
set_option maxRecDepth 100000 in
theorem c_X4_sayBody_6_1_6 (l : Launch) (D : va_G) (cI cJ : ClassId) (h : Nat) (hT9 : Nat) (T : Nat → Int32) (tn : Nat) (sp : Nat) (mm : Int32) (x : Int32) (d : Nat) (htn : tn + 2 ≤ 30) (hd : d + 2 ≤ 40) : zMi l yX4_sayBody wsX4_sayBody ({ frames := 5, cells := 0, slots := 0, locals := 119 } : Room) D [(cI, .int), (cJ, .array .int)] [.ref h, .int (nI 71), .int x, .int (nI d)] [(h, .inr (4, [.ref hT9, .int (nI tn), .int (nI 0), .int (nI 6), .int (nI sp), .int mm])), (hT9, .inl (cI, 30, .inl T))] (fun r w => r = (zcounts 6 6 sp mm x ) ∧ w = [(h, .inr (4, [.ref hT9, .int (nI (((tn + 1) + 1))), .int (nI 0), .int (nI 6), .int (nI sp), .int mm])), (hT9, .inl (cI, 30, .inl ((upd (upd T tn (nI 11)) (tn + 1) (nI 70)))))]) := by
  refine zMi.start (cc := cX4_sayBody) (maxL := 4) (rt := .int) (by first | decide | decide +kernel) rfl (Nat.le_of_ble_eq_true rfl) ?_
  intro pg ev s mt args below meth cd ls AA QQ ⟨hx, hb, hml, hr, hlocks, hown, hts, hK, hN, hZ, hP, hD, hA, hS, hl⟩ hret
  have hown : s.vm.findClass RX4 = some mt.cls := hown
  have hl : lv_has ls 4 [(0, .ref h), (1, .int (nI 71)), (2, .int x), (3, .int (nI d))] := hl
  have hin4 : ∀ w ∈ wsX40, w ∈ wsX4_sayBody := fun w h => List.mem_cons_of_mem _ (List.mem_append_right _ (h))
  refine lv_iload_n hx hb dX4_sayBody_0 rfl (lv_at hl 1 rfl) ?_
  refine lv_lookup (off := 252) (tgt := 253) hx hb dX4_sayBody_1 (by decide) (by decide) (by decide) ?_
  refine lv_aload_n hx hb dX4_sayBody_253 rfl (lv_at hl 0 rfl) ?_
  refine lv_iconst (v := nI 0) hx hb dX4_sayBody_254 (by decide) ?_
  refine lv_iconst (v := nI 1) hx hb dX4_sayBody_255 (by decide) ?_
  refine lv_iload_n hx hb dX4_sayBody_256 rfl (lv_at hl 2 rfl) ?_
  refine lv_iload_n hx hb dX4_sayBody_257 rfl (lv_at hl 3 rfl) ?_
  refine zci (wr := []) (va_runV (As := [.int (nI 0), .int (nI 1), .int x, .int (nI d)]) (rest := []) ⟨hx, hb, hml, hown, hts⟩ (c_X4_say_0_1_6 l D cI cJ h hT9 T tn sp mm x d (by first | rfl | assumption | omega) (by first | rfl | assumption | omega) s.heap.size) (cwV 4 hts gX4_sayBody_X4_say rfl rfl rfl (by decide +kernel) ⟨Nat.le_of_ble_eq_true rfl, Nat.le_of_ble_eq_true rfl⟩) (zpV hK hN hZ hP hD hS hA [0, 1] rfl (by decide) 0 rfl rfl rfl) rfl rfl hl.1 rfl (lv_room (Nat.le_of_ble_eq_true rfl)) dX4_sayBody_258 ⟨Nat.zero_le _, Nat.zero_le _⟩) hP hD hS hA [0, 1] [] rfl rfl (by decide) (by decide) (fun r_3 w_2 H locs h_1 hP hD hS => ?_)
  obtain ⟨rfl, rfl⟩ := h_1
  have hP : va_P D vwCl [(h, .inr (4, [.ref hT9, .int (nI (((tn + 1) + 1))), .int (nI 0), .int (nI 6), .int (nI sp), .int mm])), (hT9, .inl (cI, 30, .inl ((upd (upd T tn (nI 11)) (tn + 1) (nI 70)))))] H := hP
  have hD : va_D AA [(h, .inr (4, [.ref hT9, .int (nI (((tn + 1) + 1))), .int (nI 0), .int (nI 6), .int (nI sp), .int mm])), (hT9, .inl (cI, 30, .inl ((upd (upd T tn (nI 11)) (tn + 1) (nI 70)))))] := hD
  refine lv_aload_n hx hb dX4_sayBody_261 rfl (lv_at hl 0 rfl) ?_
  refine va_get (ci := 4) (v := .int mm) (C := RX4) (T := TX4) (N := 6) hx hb hts hin4 hown hK hP 0 rfl rfl 5 (by decide) (hts (.fieldLink RX4 29 "UpAllRound$Voices" "m" "I") (List.mem_of_getElem? (i := 3) rfl)) (fun _ h9 => h9) rfl dX4_sayBody_262 ?_
  refine lv_iadd hx hb dX4_sayBody_265 ?_
  exact hret hP hD hS dX4_sayBody_266 rfl (by exact ⟨rfl, rfl⟩)
set_option maxHeartbeats 4000000 in
set_option maxRecDepth 100000 in
theorem c_X4_say_6_1_6 (l : Launch) (D : va_G) (cI cJ : ClassId) (h : Nat) (hT9 : Nat) (T : Nat → Int32) (tn : Nat) (sp : Nat) (mm : Int32) (x : Int32) (d : Nat) (htn : tn + 3 ≤ 30) (hd : d + 3 ≤ 40) : zMi l yX4_say wsX4_say ({ frames := 6, cells := 0, slots := 0, locals := 142 } : Room) D [(cI, .int), (cJ, .array .int)] [.ref h, .int (nI 6), .int (nI 1), .int x, .int (nI d)] [(h, .inr (4, [.ref hT9, .int (nI tn), .int (nI 0), .int (nI 6), .int (nI sp), .int mm])), (hT9, .inl (cI, 30, .inl T))] (fun r w => r = (zcounts 6 6 sp mm x ) ∧ w = [(h, .inr (4, [.ref hT9, .int (nI ((((tn + 1) + 1) + 1))), .int (nI 0), .int (nI 6), .int (nI sp), .int mm])), (hT9, .inl (cI, 30, .inl ((upd (upd (upd T tn (nI 71)) (tn + 1) (nI 11)) ((tn + 1) + 1) (nI 70)))))]) := by
  refine zMi.start (cc := cX4_say) (maxL := 6) (rt := .int) (by first | decide | decide +kernel) rfl (Nat.le_of_ble_eq_true rfl) ?_
  intro pg ev s mt args below meth cd ls AA QQ ⟨hx, hb, hml, hr, hlocks, hown, hts, hK, hN, hZ, hP, hD, hA, hS, hl⟩ hret
  have hown : s.vm.findClass RX4 = some mt.cls := hown
  have hl : lv_has ls 6 [(0, .ref h), (1, .int (nI 6)), (2, .int (nI 1)), (3, .int x), (4, .int (nI d))] := hl
  have hin4 : ∀ w ∈ wsX40, w ∈ wsX4_say := fun w h => List.mem_cons_of_mem _ (List.mem_append_right _ (h))
  refine lv_aload_n hx hb dX4_say_0 rfl (lv_at hl 0 rfl) ?_
  refine va_get (ci := 4) (v := .int (nI 0)) (C := RX4) (T := TX4) (N := 6) hx hb hts hin4 hown hK hP 0 rfl rfl 2 (by decide) (hts (.fieldLink RX4 19 "UpAllRound$Voices" "parted" "Z") (List.mem_of_getElem? (i := 1) rfl)) (fun _ h9 => h9) rfl dX4_say_1 ?_
  refine lv_if_ne (tgt := 14) hx hb dX4_say_4 (by decide) (fun c4_1 => ?_) (fun c4_1 => ?_)
  · have c4_1 : ¬ (0 = 0) := fun h9 => c4_1 ((nI_eq (a := 0) (b := 0) (by omega) (by omega)).mpr h9)
    exact absurd c4_1 (by omega)
  · have c4_1 : 0 = 0 := (nI_eq (a := 0) (b := 0) (by omega) (by omega)).mp c4_1
    refine lv_iload hx hb dX4_say_7 (lv_at hl 4 rfl) ?_
    refine lv_bipush (v := nI 40) hx hb dX4_say_9 (by decide) ?_
    refine lv_icmp_le (tgt := 16) hx hb dX4_say_11 (by decide) (fun c11_2 => ?_) (fun c11_2 => ?_)
    · have c11_2 : d ≤ 40 := (nI_leI (a := d) (b := 40) (by omega) (by omega)).mp c11_2
      refine lv_iload_n hx hb dX4_say_16 rfl (lv_at hl 1 rfl) ?_
      refine lv_iload_n hx hb dX4_say_17 rfl (lv_at hl 2 rfl) ?_
      refine zcsE (va_runS (As := [.int (nI 6), .int (nI 1)]) (rest := []) ⟨hx, hb, hml, hown, hts⟩ (c_X4_find_6_1 l D cI cJ   s.heap.size) (va_cwS 2 hts gX4_say_X4_find rfl rfl rfl (by decide +kernel) ⟨Nat.le_of_ble_eq_true rfl, Nat.le_of_ble_eq_true rfl⟩) (zpS hK hN hZ hP hD hS hA [] rfl (by decide)) rfl rfl hl.1 rfl (lv_room (Nat.le_of_ble_eq_true rfl)) dX4_say_18 ⟨Nat.zero_le _, Nat.zero_le _⟩) ?_
      refine lv_istore (lv' := [(5, .int (nI 71)), (0, .ref h), (1, .int (nI 6)), (2, .int (nI 1)), (3, .int x), (4, .int (nI d))]) hx hb dX4_say_21 hl (by decide) rfl (fun ls hl => ?_)
      refine lv_aload_n hx hb dX4_say_23 rfl (lv_at hl 1 rfl) ?_
      refine lv_iload hx hb dX4_say_24 (lv_at hl 0 rfl) ?_
      refine zcv (wr := []) (va_runV (As := [.int (nI 71)]) (rest := []) ⟨hx, hb, hml, hown, hts⟩ (c_X4_begin l D cI cJ h hT9 T tn 0 6 sp mm 71 (by first | rfl | assumption | omega) s.heap.size) (cwV 1 hts gX4_say_X4_begin rfl rfl rfl (by decide +kernel) ⟨Nat.le_of_ble_eq_true rfl, Nat.le_of_ble_eq_true rfl⟩) (zpV hK hN hZ hP hD hS hA [0, 1] rfl (by decide) 0 rfl rfl rfl) rfl rfl hl.1 rfl (lv_room (Nat.le_of_ble_eq_true rfl)) dX4_say_26 ⟨Nat.zero_le _, Nat.zero_le _⟩) hP hD hS hA [0, 1] [] rfl rfl (by decide) (by decide) (fun w_4 H locs h_3 hP hD hS => ?_)
      obtain rfl := h_3
      have hP : va_P D vwCl [(h, .inr (4, [.ref hT9, .int (nI ((tn + 1))), .int (nI 0), .int (nI 6), .int (nI sp), .int mm])), (hT9, .inl (cI, 30, .inl ((upd T tn (nI 71)))))] H := hP
      have hD : va_D AA [(h, .inr (4, [.ref hT9, .int (nI ((tn + 1))), .int (nI 0), .int (nI 6), .int (nI sp), .int mm])), (hT9, .inl (cI, 30, .inl ((upd T tn (nI 71)))))] := hD
      refine lv_aload_n hx hb dX4_say_29 rfl (lv_at hl 1 rfl) ?_
      refine lv_iload hx hb dX4_say_30 (lv_at hl 0 rfl) ?_
      refine lv_iload_n hx hb dX4_say_32 rfl (lv_at hl 4 rfl) ?_
      refine lv_iload hx hb dX4_say_33 (lv_at hl 5 rfl) ?_
      refine lv_iconst (v := nI 1) hx hb dX4_say_35 (by decide) ?_
      refine lv_iadd hx hb dX4_say_36 ?_
      refine zrw (nI_add _ _) ?_
      refine zci (wr := []) (va_runV (As := [.int (nI 71), .int x, .int (nI (d + 1))]) (rest := []) ⟨hx, hb, hml, hown, hts⟩ (c_X4_sayBody_6_1_6 l D cI cJ h hT9 ((upd T tn (nI 71))) ((tn + 1)) sp mm x (d + 1) (by first | rfl | assumption | omega) (by first | rfl | assumption | omega) H.size) (cwV 3 hts gX4_say_X4_sayBody rfl rfl rfl (by decide +kernel) ⟨Nat.le_of_ble_eq_true rfl, Nat.le_of_ble_eq_true rfl⟩) (zpV hK hN hZ hP hD hS hA [0, 1] rfl (by decide) 0 rfl rfl rfl) rfl rfl hl.1 rfl (lv_room (Nat.le_of_ble_eq_true rfl)) dX4_say_37 ⟨Nat.zero_le _, Nat.zero_le _⟩) hP hD hS hA [0, 1] [] rfl rfl (by decide) (by decide) (fun r_7 w_6 H locs h_5 hP hD hS => ?_)
      obtain ⟨rfl, rfl⟩ := h_5
      have hP : va_P D vwCl [(h, .inr (4, [.ref hT9, .int (nI (((((tn + 1)) + 1) + 1))), .int (nI 0), .int (nI 6), .int (nI sp), .int mm])), (hT9, .inl (cI, 30, .inl ((upd (upd ((upd T tn (nI 71))) ((tn + 1)) (nI 11)) (((tn + 1)) + 1) (nI 70)))))] H := hP
      have hD : va_D AA [(h, .inr (4, [.ref hT9, .int (nI (((((tn + 1)) + 1) + 1))), .int (nI 0), .int (nI 6), .int (nI sp), .int mm])), (hT9, .inl (cI, 30, .inl ((upd (upd ((upd T tn (nI 71))) ((tn + 1)) (nI 11)) (((tn + 1)) + 1) (nI 70)))))] := hD
      exact hret hP hD hS dX4_say_40 rfl (by exact ⟨rfl, rfl⟩)
    · have c11_2 : ¬ (d ≤ 40) := fun h9 => c11_2 ((nI_leI (a := d) (b := 40) (by omega) (by omega)).mpr h9)
      exact absurd c11_2 (by omega)
set_option maxHeartbeats 4000000 in
set_option maxRecDepth 100000 in
theorem c_X4_sayBody_6_2_6 (l : Launch) (D : va_G) (cI cJ : ClassId) (h : Nat) (hT9 : Nat) (T : Nat → Int32) (tn : Nat) (sp : Nat) (mm : Int32) (x : Int32) (d : Nat) (htn : tn + 3 ≤ 30) (hd : d + 3 ≤ 40) : zMi l yX4_sayBody wsX4_sayBody ({ frames := 7, cells := 0, slots := 0, locals := 167 } : Room) D [(cI, .int), (cJ, .array .int)] [.ref h, .int (nI 12), .int x, .int (nI d)] [(h, .inr (4, [.ref hT9, .int (nI tn), .int (nI 0), .int (nI 6), .int (nI sp), .int mm])), (hT9, .inl (cI, 30, .inl T))] (fun r w => r = (zswears 6 6 sp mm x ) ∧ w = [(h, .inr (4, [.ref hT9, .int (nI ((((tn + 1) + 1) + 1))), .int (nI 0), .int (nI 6), .int (nI sp), .int mm])), (hT9, .inl (cI, 30, .inl ((upd (upd (upd T tn (nI 71)) (tn + 1) (nI 11)) ((tn + 1) + 1) (nI 70)))))]) := by
  refine zMi.start (cc := cX4_sayBody) (maxL := 4) (rt := .int) (by first | decide | decide +kernel) rfl (Nat.le_of_ble_eq_true rfl) ?_
  intro pg ev s mt args below meth cd ls AA QQ ⟨hx, hb, hml, hr, hlocks, hown, hts, hK, hN, hZ, hP, hD, hA, hS, hl⟩ hret
  have hown : s.vm.findClass RX4 = some mt.cls := hown
  have hl : lv_has ls 4 [(0, .ref h), (1, .int (nI 12)), (2, .int x), (3, .int (nI d))] := hl
  have hin4 : ∀ w ∈ wsX40, w ∈ wsX4_sayBody := fun w h => List.mem_cons_of_mem _ (List.mem_append_right _ (h))
  refine lv_iload_n hx hb dX4_sayBody_0 rfl (lv_at hl 1 rfl) ?_
  refine lv_lookup (off := 136) (tgt := 137) hx hb dX4_sayBody_1 (by decide) (by decide) (by decide) ?_
  refine lv_aload_n hx hb dX4_sayBody_137 rfl (lv_at hl 0 rfl) ?_
  refine lv_aload_n hx hb dX4_sayBody_138 rfl (lv_at hl 0 rfl) ?_
  refine va_get (ci := 4) (v := .int (nI 6)) (C := RX4) (T := TX4) (N := 6) hx hb hts hin4 hown hK hP 0 rfl rfl 3 (by decide) (hts (.fieldLink RX4 23 "UpAllRound$Voices" "kind" "I") (List.mem_of_getElem? (i := 2) rfl)) (fun _ h9 => h9) rfl dX4_sayBody_139 ?_
  refine lv_iconst (v := nI 1) hx hb dX4_sayBody_142 (by decide) ?_
  refine lv_iload_n hx hb dX4_sayBody_143 rfl (lv_at hl 2 rfl) ?_
  refine lv_iload_n hx hb dX4_sayBody_144 rfl (lv_at hl 3 rfl) ?_
  refine zci (wr := []) (va_runV (As := [.int (nI 6), .int (nI 1), .int x, .int (nI d)]) (rest := []) ⟨hx, hb, hml, hown, hts⟩ (c_X4_say_6_1_6 l D cI cJ h hT9 T tn sp mm x d (by first | rfl | assumption | omega) (by first | rfl | assumption | omega) s.heap.size) (cwV 4 hts gX4_sayBody_X4_say rfl rfl rfl (by decide +kernel) ⟨Nat.le_of_ble_eq_true rfl, Nat.le_of_ble_eq_true rfl⟩) (zpV hK hN hZ hP hD hS hA [0, 1] rfl (by decide) 0 rfl rfl rfl) rfl rfl hl.1 rfl (lv_room (Nat.le_of_ble_eq_true rfl)) dX4_sayBody_145 ⟨Nat.zero_le _, Nat.zero_le _⟩) hP hD hS hA [0, 1] [] rfl rfl (by decide) (by decide) (fun r_3 w_2 H locs h_1 hP hD hS => ?_)
  obtain ⟨rfl, rfl⟩ := h_1
  have hP : va_P D vwCl [(h, .inr (4, [.ref hT9, .int (nI ((((tn + 1) + 1) + 1))), .int (nI 0), .int (nI 6), .int (nI sp), .int mm])), (hT9, .inl (cI, 30, .inl ((upd (upd (upd T tn (nI 71)) (tn + 1) (nI 11)) ((tn + 1) + 1) (nI 70)))))] H := hP
  have hD : va_D AA [(h, .inr (4, [.ref hT9, .int (nI ((((tn + 1) + 1) + 1))), .int (nI 0), .int (nI 6), .int (nI sp), .int mm])), (hT9, .inl (cI, 30, .inl ((upd (upd (upd T tn (nI 71)) (tn + 1) (nI 11)) ((tn + 1) + 1) (nI 70)))))] := hD
  refine lv_aload_n hx hb dX4_sayBody_148 rfl (lv_at hl 0 rfl) ?_
  refine va_get (ci := 4) (v := .int mm) (C := RX4) (T := TX4) (N := 6) hx hb hts hin4 hown hK hP 0 rfl rfl 5 (by decide) (hts (.fieldLink RX4 29 "UpAllRound$Voices" "m" "I") (List.mem_of_getElem? (i := 3) rfl)) (fun _ h9 => h9) rfl dX4_sayBody_149 ?_
  refine lv_isub hx hb dX4_sayBody_152 ?_
  exact hret hP hD hS dX4_sayBody_153 rfl (by exact ⟨rfl, rfl⟩)
set_option maxHeartbeats 4000000 in
set_option maxRecDepth 100000 in
theorem c_X4_say_6_2_6 (l : Launch) (D : va_G) (cI cJ : ClassId) (h : Nat) (hT9 : Nat) (T : Nat → Int32) (tn : Nat) (sp : Nat) (mm : Int32) (x : Int32) (d : Nat) (htn : tn + 4 ≤ 30) (hd : d + 4 ≤ 40) : zMi l yX4_say wsX4_say ({ frames := 8, cells := 0, slots := 0, locals := 190 } : Room) D [(cI, .int), (cJ, .array .int)] [.ref h, .int (nI 6), .int (nI 2), .int x, .int (nI d)] [(h, .inr (4, [.ref hT9, .int (nI tn), .int (nI 0), .int (nI 6), .int (nI sp), .int mm])), (hT9, .inl (cI, 30, .inl T))] (fun r w => r = (zswears 6 6 sp mm x ) ∧ w = [(h, .inr (4, [.ref hT9, .int (nI (((((tn + 1) + 1) + 1) + 1))), .int (nI 0), .int (nI 6), .int (nI sp), .int mm])), (hT9, .inl (cI, 30, .inl ((upd (upd (upd (upd T tn (nI 12)) (tn + 1) (nI 71)) ((tn + 1) + 1) (nI 11)) (((tn + 1) + 1) + 1) (nI 70)))))]) := by
  refine zMi.start (cc := cX4_say) (maxL := 6) (rt := .int) (by first | decide | decide +kernel) rfl (Nat.le_of_ble_eq_true rfl) ?_
  intro pg ev s mt args below meth cd ls AA QQ ⟨hx, hb, hml, hr, hlocks, hown, hts, hK, hN, hZ, hP, hD, hA, hS, hl⟩ hret
  have hown : s.vm.findClass RX4 = some mt.cls := hown
  have hl : lv_has ls 6 [(0, .ref h), (1, .int (nI 6)), (2, .int (nI 2)), (3, .int x), (4, .int (nI d))] := hl
  have hin4 : ∀ w ∈ wsX40, w ∈ wsX4_say := fun w h => List.mem_cons_of_mem _ (List.mem_append_right _ (h))
  refine lv_aload_n hx hb dX4_say_0 rfl (lv_at hl 0 rfl) ?_
  refine va_get (ci := 4) (v := .int (nI 0)) (C := RX4) (T := TX4) (N := 6) hx hb hts hin4 hown hK hP 0 rfl rfl 2 (by decide) (hts (.fieldLink RX4 19 "UpAllRound$Voices" "parted" "Z") (List.mem_of_getElem? (i := 1) rfl)) (fun _ h9 => h9) rfl dX4_say_1 ?_
  refine lv_if_ne (tgt := 14) hx hb dX4_say_4 (by decide) (fun c4_1 => ?_) (fun c4_1 => ?_)
  · have c4_1 : ¬ (0 = 0) := fun h9 => c4_1 ((nI_eq (a := 0) (b := 0) (by omega) (by omega)).mpr h9)
    exact absurd c4_1 (by omega)
  · have c4_1 : 0 = 0 := (nI_eq (a := 0) (b := 0) (by omega) (by omega)).mp c4_1
    refine lv_iload hx hb dX4_say_7 (lv_at hl 4 rfl) ?_
    refine lv_bipush (v := nI 40) hx hb dX4_say_9 (by decide) ?_
    refine lv_icmp_le (tgt := 16) hx hb dX4_say_11 (by decide) (fun c11_2 => ?_) (fun c11_2 => ?_)
    · have c11_2 : d ≤ 40 := (nI_leI (a := d) (b := 40) (by omega) (by omega)).mp c11_2
      refine lv_iload_n hx hb dX4_say_16 rfl (lv_at hl 1 rfl) ?_
      refine lv_iload_n hx hb dX4_say_17 rfl (lv_at hl 2 rfl) ?_
      refine zcsE (va_runS (As := [.int (nI 6), .int (nI 2)]) (rest := []) ⟨hx, hb, hml, hown, hts⟩ (c_X4_find_6_2 l D cI cJ   s.heap.size) (va_cwS 2 hts gX4_say_X4_find rfl rfl rfl (by decide +kernel) ⟨Nat.le_of_ble_eq_true rfl, Nat.le_of_ble_eq_true rfl⟩) (zpS hK hN hZ hP hD hS hA [] rfl (by decide)) rfl rfl hl.1 rfl (lv_room (Nat.le_of_ble_eq_true rfl)) dX4_say_18 ⟨Nat.zero_le _, Nat.zero_le _⟩) ?_
      refine lv_istore (lv' := [(5, .int (nI 12)), (0, .ref h), (1, .int (nI 6)), (2, .int (nI 2)), (3, .int x), (4, .int (nI d))]) hx hb dX4_say_21 hl (by decide) rfl (fun ls hl => ?_)
      refine lv_aload_n hx hb dX4_say_23 rfl (lv_at hl 1 rfl) ?_
      refine lv_iload hx hb dX4_say_24 (lv_at hl 0 rfl) ?_
      refine zcv (wr := []) (va_runV (As := [.int (nI 12)]) (rest := []) ⟨hx, hb, hml, hown, hts⟩ (c_X4_begin l D cI cJ h hT9 T tn 0 6 sp mm 12 (by first | rfl | assumption | omega) s.heap.size) (cwV 1 hts gX4_say_X4_begin rfl rfl rfl (by decide +kernel) ⟨Nat.le_of_ble_eq_true rfl, Nat.le_of_ble_eq_true rfl⟩) (zpV hK hN hZ hP hD hS hA [0, 1] rfl (by decide) 0 rfl rfl rfl) rfl rfl hl.1 rfl (lv_room (Nat.le_of_ble_eq_true rfl)) dX4_say_26 ⟨Nat.zero_le _, Nat.zero_le _⟩) hP hD hS hA [0, 1] [] rfl rfl (by decide) (by decide) (fun w_4 H locs h_3 hP hD hS => ?_)
      obtain rfl := h_3
      have hP : va_P D vwCl [(h, .inr (4, [.ref hT9, .int (nI ((tn + 1))), .int (nI 0), .int (nI 6), .int (nI sp), .int mm])), (hT9, .inl (cI, 30, .inl ((upd T tn (nI 12)))))] H := hP
      have hD : va_D AA [(h, .inr (4, [.ref hT9, .int (nI ((tn + 1))), .int (nI 0), .int (nI 6), .int (nI sp), .int mm])), (hT9, .inl (cI, 30, .inl ((upd T tn (nI 12)))))] := hD
      refine lv_aload_n hx hb dX4_say_29 rfl (lv_at hl 1 rfl) ?_
      refine lv_iload hx hb dX4_say_30 (lv_at hl 0 rfl) ?_
      refine lv_iload_n hx hb dX4_say_32 rfl (lv_at hl 4 rfl) ?_
      refine lv_iload hx hb dX4_say_33 (lv_at hl 5 rfl) ?_
      refine lv_iconst (v := nI 1) hx hb dX4_say_35 (by decide) ?_
      refine lv_iadd hx hb dX4_say_36 ?_
      refine zrw (nI_add _ _) ?_
      refine zci (wr := []) (va_runV (As := [.int (nI 12), .int x, .int (nI (d + 1))]) (rest := []) ⟨hx, hb, hml, hown, hts⟩ (c_X4_sayBody_6_2_6 l D cI cJ h hT9 ((upd T tn (nI 12))) ((tn + 1)) sp mm x (d + 1) (by first | rfl | assumption | omega) (by first | rfl | assumption | omega) H.size) (cwV 3 hts gX4_say_X4_sayBody rfl rfl rfl (by decide +kernel) ⟨Nat.le_of_ble_eq_true rfl, Nat.le_of_ble_eq_true rfl⟩) (zpV hK hN hZ hP hD hS hA [0, 1] rfl (by decide) 0 rfl rfl rfl) rfl rfl hl.1 rfl (lv_room (Nat.le_of_ble_eq_true rfl)) dX4_say_37 ⟨Nat.zero_le _, Nat.zero_le _⟩) hP hD hS hA [0, 1] [] rfl rfl (by decide) (by decide) (fun r_7 w_6 H locs h_5 hP hD hS => ?_)
      obtain ⟨rfl, rfl⟩ := h_5
      have hP : va_P D vwCl [(h, .inr (4, [.ref hT9, .int (nI ((((((tn + 1)) + 1) + 1) + 1))), .int (nI 0), .int (nI 6), .int (nI sp), .int mm])), (hT9, .inl (cI, 30, .inl ((upd (upd (upd ((upd T tn (nI 12))) ((tn + 1)) (nI 71)) (((tn + 1)) + 1) (nI 11)) ((((tn + 1)) + 1) + 1) (nI 70)))))] H := hP
      have hD : va_D AA [(h, .inr (4, [.ref hT9, .int (nI ((((((tn + 1)) + 1) + 1) + 1))), .int (nI 0), .int (nI 6), .int (nI sp), .int mm])), (hT9, .inl (cI, 30, .inl ((upd (upd (upd ((upd T tn (nI 12))) ((tn + 1)) (nI 71)) (((tn + 1)) + 1) (nI 11)) ((((tn + 1)) + 1) + 1) (nI 70)))))] := hD
      exact hret hP hD hS dX4_say_40 rfl (by exact ⟨rfl, rfl⟩)
    · have c11_2 : ¬ (d ≤ 40) := fun h9 => c11_2 ((nI_leI (a := d) (b := 40) (by omega) (by omega)).mpr h9)
      exact absurd c11_2 (by omega)
set_option maxHeartbeats 4000000 in
set_option maxRecDepth 100000 in
theorem c_X4_sayBody_6_3_6 (l : Launch) (D : va_G) (cI cJ : ClassId) (h : Nat) (hT9 : Nat) (T : Nat → Int32) (tn : Nat) (sp : Nat) (mm : Int32) (x : Int32) (d : Nat) (htn : tn + 0 ≤ 30) (hd : d + 0 ≤ 40) : zMi l yX4_sayBody wsX4_sayBody ({ frames := 1, cells := 0, slots := 0, locals := 22 } : Room) D [(cI, .int), (cJ, .array .int)] [.ref h, .int (nI 13), .int x, .int (nI d)] [(h, .inr (4, [.ref hT9, .int (nI tn), .int (nI 0), .int (nI 6), .int (nI sp), .int mm])), (hT9, .inl (cI, 30, .inl T))] (fun r w => r = (zpv sp mm x) ∧ w = [(h, .inr (4, [.ref hT9, .int (nI tn), .int (nI ((zpd sp mm))), .int (nI 6), .int (nI sp), .int mm])), (hT9, .inl (cI, 30, .inl T))]) := by
  refine zMi.start (cc := cX4_sayBody) (maxL := 4) (rt := .int) (by first | decide | decide +kernel) rfl (Nat.le_of_ble_eq_true rfl) ?_
  intro pg ev s mt args below meth cd ls AA QQ ⟨hx, hb, hml, hr, hlocks, hown, hts, hK, hN, hZ, hP, hD, hA, hS, hl⟩ hret
  have hown : s.vm.findClass RX4 = some mt.cls := hown
  have hl : lv_has ls 4 [(0, .ref h), (1, .int (nI 13)), (2, .int x), (3, .int (nI d))] := hl
  have hin4 : ∀ w ∈ wsX40, w ∈ wsX4_sayBody := fun w h => List.mem_cons_of_mem _ (List.mem_append_right _ (h))
  refine lv_iload_n hx hb dX4_sayBody_0 rfl (lv_at hl 1 rfl) ?_
  refine lv_lookup (off := 153) (tgt := 154) hx hb dX4_sayBody_1 (by decide) (by decide) (by decide) ?_
  refine lv_aload_n hx hb dX4_sayBody_154 rfl (lv_at hl 0 rfl) ?_
  refine lv_iload_n hx hb dX4_sayBody_155 rfl (lv_at hl 2 rfl) ?_
  refine zci (wr := [(hT9, .inl (cI, 30, .inl T))]) (va_runV (As := [.int x]) (rest := []) ⟨hx, hb, hml, hown, hts⟩ (c_X4_part l D cI cJ h hT9 tn 6 sp mm x  s.heap.size) (cwV 1 hts gX4_sayBody_X4_part rfl rfl rfl (by decide +kernel) ⟨Nat.le_of_ble_eq_true rfl, Nat.le_of_ble_eq_true rfl⟩) (zpV hK hN hZ hP hD hS hA [0] rfl (by decide) 0 rfl rfl rfl) rfl rfl hl.1 rfl (lv_room (Nat.le_of_ble_eq_true rfl)) dX4_sayBody_156 ⟨Nat.zero_le _, Nat.zero_le _⟩) hP hD hS hA [0] [1] rfl rfl (by decide) (by decide) (fun r_3 w_2 H locs h_1 hP hD hS => ?_)
  obtain ⟨rfl, rfl⟩ := h_1
  have hP : va_P D vwCl [(hT9, .inl (cI, 30, .inl T)), (h, .inr (4, [.ref hT9, .int (nI tn), .int (nI ((zpd sp mm))), .int (nI 6), .int (nI sp), .int mm]))] H := hP
  have hD : va_D AA [(hT9, .inl (cI, 30, .inl T)), (h, .inr (4, [.ref hT9, .int (nI tn), .int (nI ((zpd sp mm))), .int (nI 6), .int (nI sp), .int mm]))] := hD
  have hP := hP.sub (ws' := [(h, .inr (4, [.ref hT9, .int (nI tn), .int (nI ((zpd sp mm))), .int (nI 6), .int (nI sp), .int mm])), (hT9, .inl (cI, 30, .inl T))]) [1, 0] rfl
  have hD := hD.sub (ws' := [(h, .inr (4, [.ref hT9, .int (nI tn), .int (nI ((zpd sp mm))), .int (nI 6), .int (nI sp), .int mm])), (hT9, .inl (cI, 30, .inl T))]) [1, 0] (by decide) rfl
  exact hret hP hD hS dX4_sayBody_159 rfl (by exact ⟨rfl, rfl⟩)
set_option maxHeartbeats 4000000 in
set_option maxRecDepth 100000 in
theorem c_X4_say_6_3_6 (l : Launch) (D : va_G) (cI cJ : ClassId) (h : Nat) (hT9 : Nat) (T : Nat → Int32) (tn : Nat) (sp : Nat) (mm : Int32) (x : Int32) (d : Nat) (htn : tn + 1 ≤ 30) (hd : d + 1 ≤ 40) : zMi l yX4_say wsX4_say ({ frames := 2, cells := 0, slots := 0, locals := 46 } : Room) D [(cI, .int), (cJ, .array .int)] [.ref h, .int (nI 6), .int (nI 3), .int x, .int (nI d)] [(h, .inr (4, [.ref hT9, .int (nI tn), .int (nI 0), .int (nI 6), .int (nI sp), .int mm])), (hT9, .inl (cI, 30, .inl T))] (fun r w => r = (zpv sp mm x) ∧ w = [(h, .inr (4, [.ref hT9, .int (nI ((tn + 1))), .int (nI ((zpd sp mm))), .int (nI 6), .int (nI sp), .int mm])), (hT9, .inl (cI, 30, .inl ((upd T tn (nI 13)))))]) := by
  refine zMi.start (cc := cX4_say) (maxL := 6) (rt := .int) (by first | decide | decide +kernel) rfl (Nat.le_of_ble_eq_true rfl) ?_
  intro pg ev s mt args below meth cd ls AA QQ ⟨hx, hb, hml, hr, hlocks, hown, hts, hK, hN, hZ, hP, hD, hA, hS, hl⟩ hret
  have hown : s.vm.findClass RX4 = some mt.cls := hown
  have hl : lv_has ls 6 [(0, .ref h), (1, .int (nI 6)), (2, .int (nI 3)), (3, .int x), (4, .int (nI d))] := hl
  have hin4 : ∀ w ∈ wsX40, w ∈ wsX4_say := fun w h => List.mem_cons_of_mem _ (List.mem_append_right _ (h))
  refine lv_aload_n hx hb dX4_say_0 rfl (lv_at hl 0 rfl) ?_
  refine va_get (ci := 4) (v := .int (nI 0)) (C := RX4) (T := TX4) (N := 6) hx hb hts hin4 hown hK hP 0 rfl rfl 2 (by decide) (hts (.fieldLink RX4 19 "UpAllRound$Voices" "parted" "Z") (List.mem_of_getElem? (i := 1) rfl)) (fun _ h9 => h9) rfl dX4_say_1 ?_
  refine lv_if_ne (tgt := 14) hx hb dX4_say_4 (by decide) (fun c4_1 => ?_) (fun c4_1 => ?_)
  · have c4_1 : ¬ (0 = 0) := fun h9 => c4_1 ((nI_eq (a := 0) (b := 0) (by omega) (by omega)).mpr h9)
    exact absurd c4_1 (by omega)
  · have c4_1 : 0 = 0 := (nI_eq (a := 0) (b := 0) (by omega) (by omega)).mp c4_1
    refine lv_iload hx hb dX4_say_7 (lv_at hl 4 rfl) ?_
    refine lv_bipush (v := nI 40) hx hb dX4_say_9 (by decide) ?_
    refine lv_icmp_le (tgt := 16) hx hb dX4_say_11 (by decide) (fun c11_2 => ?_) (fun c11_2 => ?_)
    · have c11_2 : d ≤ 40 := (nI_leI (a := d) (b := 40) (by omega) (by omega)).mp c11_2
      refine lv_iload_n hx hb dX4_say_16 rfl (lv_at hl 1 rfl) ?_
      refine lv_iload_n hx hb dX4_say_17 rfl (lv_at hl 2 rfl) ?_
      refine zcsE (va_runS (As := [.int (nI 6), .int (nI 3)]) (rest := []) ⟨hx, hb, hml, hown, hts⟩ (c_X4_find_6_3 l D cI cJ   s.heap.size) (va_cwS 2 hts gX4_say_X4_find rfl rfl rfl (by decide +kernel) ⟨Nat.le_of_ble_eq_true rfl, Nat.le_of_ble_eq_true rfl⟩) (zpS hK hN hZ hP hD hS hA [] rfl (by decide)) rfl rfl hl.1 rfl (lv_room (Nat.le_of_ble_eq_true rfl)) dX4_say_18 ⟨Nat.zero_le _, Nat.zero_le _⟩) ?_
      refine lv_istore (lv' := [(5, .int (nI 13)), (0, .ref h), (1, .int (nI 6)), (2, .int (nI 3)), (3, .int x), (4, .int (nI d))]) hx hb dX4_say_21 hl (by decide) rfl (fun ls hl => ?_)
      refine lv_aload_n hx hb dX4_say_23 rfl (lv_at hl 1 rfl) ?_
      refine lv_iload hx hb dX4_say_24 (lv_at hl 0 rfl) ?_
      refine zcv (wr := []) (va_runV (As := [.int (nI 13)]) (rest := []) ⟨hx, hb, hml, hown, hts⟩ (c_X4_begin l D cI cJ h hT9 T tn 0 6 sp mm 13 (by first | rfl | assumption | omega) s.heap.size) (cwV 1 hts gX4_say_X4_begin rfl rfl rfl (by decide +kernel) ⟨Nat.le_of_ble_eq_true rfl, Nat.le_of_ble_eq_true rfl⟩) (zpV hK hN hZ hP hD hS hA [0, 1] rfl (by decide) 0 rfl rfl rfl) rfl rfl hl.1 rfl (lv_room (Nat.le_of_ble_eq_true rfl)) dX4_say_26 ⟨Nat.zero_le _, Nat.zero_le _⟩) hP hD hS hA [0, 1] [] rfl rfl (by decide) (by decide) (fun w_4 H locs h_3 hP hD hS => ?_)
      obtain rfl := h_3
      have hP : va_P D vwCl [(h, .inr (4, [.ref hT9, .int (nI ((tn + 1))), .int (nI 0), .int (nI 6), .int (nI sp), .int mm])), (hT9, .inl (cI, 30, .inl ((upd T tn (nI 13)))))] H := hP
      have hD : va_D AA [(h, .inr (4, [.ref hT9, .int (nI ((tn + 1))), .int (nI 0), .int (nI 6), .int (nI sp), .int mm])), (hT9, .inl (cI, 30, .inl ((upd T tn (nI 13)))))] := hD
      refine lv_aload_n hx hb dX4_say_29 rfl (lv_at hl 1 rfl) ?_
      refine lv_iload hx hb dX4_say_30 (lv_at hl 0 rfl) ?_
      refine lv_iload_n hx hb dX4_say_32 rfl (lv_at hl 4 rfl) ?_
      refine lv_iload hx hb dX4_say_33 (lv_at hl 5 rfl) ?_
      refine lv_iconst (v := nI 1) hx hb dX4_say_35 (by decide) ?_
      refine lv_iadd hx hb dX4_say_36 ?_
      refine zrw (nI_add _ _) ?_
      refine zci (wr := []) (va_runV (As := [.int (nI 13), .int x, .int (nI (d + 1))]) (rest := []) ⟨hx, hb, hml, hown, hts⟩ (c_X4_sayBody_6_3_6 l D cI cJ h hT9 ((upd T tn (nI 13))) ((tn + 1)) sp mm x (d + 1) (by first | rfl | assumption | omega) (by first | rfl | assumption | omega) H.size) (cwV 3 hts gX4_say_X4_sayBody rfl rfl rfl (by decide +kernel) ⟨Nat.le_of_ble_eq_true rfl, Nat.le_of_ble_eq_true rfl⟩) (zpV hK hN hZ hP hD hS hA [0, 1] rfl (by decide) 0 rfl rfl rfl) rfl rfl hl.1 rfl (lv_room (Nat.le_of_ble_eq_true rfl)) dX4_say_37 ⟨Nat.zero_le _, Nat.zero_le _⟩) hP hD hS hA [0, 1] [] rfl rfl (by decide) (by decide) (fun r_7 w_6 H locs h_5 hP hD hS => ?_)
      obtain ⟨rfl, rfl⟩ := h_5
      have hP : va_P D vwCl [(h, .inr (4, [.ref hT9, .int (nI (((tn + 1)))), .int (nI ((zpd sp mm))), .int (nI 6), .int (nI sp), .int mm])), (hT9, .inl (cI, 30, .inl (((upd T tn (nI 13))))))] H := hP
      have hD : va_D AA [(h, .inr (4, [.ref hT9, .int (nI (((tn + 1)))), .int (nI ((zpd sp mm))), .int (nI 6), .int (nI sp), .int mm])), (hT9, .inl (cI, 30, .inl (((upd T tn (nI 13))))))] := hD
      exact hret hP hD hS dX4_say_40 rfl (by exact ⟨rfl, rfl⟩)
    · have c11_2 : ¬ (d ≤ 40) := fun h9 => c11_2 ((nI_leI (a := d) (b := 40) (by omega) (by omega)).mpr h9)
      exact absurd c11_2 (by omega)
set_option maxHeartbeats 4000000 in
set_option maxRecDepth 100000 in
theorem c_X4_speak_0_0 (l : Launch) (D : va_G) (cI cJ : ClassId) (h : Nat) (hT9 : Nat) (T : Nat → Int32) (tn0 : Nat) (pt0 : Nat) (K0 : Nat) (sp0 : Nat) (mm0 : Int32) (sp : Nat) (mm : Int32) (x : Int32)  : zMi l yX4_speak wsX4_speak ({ frames := 3, cells := 0, slots := 0, locals := 71 } : Room) D [(cI, .int), (cJ, .array .int)] [.ref h, .int (nI 0), .int (nI sp), .int mm, .int (nI 0), .int x] [(h, .inr (4, [.ref hT9, .int (nI tn0), .int (nI pt0), .int (nI K0), .int (nI sp0), .int mm0])), (hT9, .inl (cI, 30, .inl T))] (fun r w => r = (zpants 0 sp x ) ∧ w = [(h, .inr (4, [.ref hT9, .int (nI ((0 + 1))), .int (nI 0), .int (nI 0), .int (nI sp), .int mm])), (hT9, .inl (cI, 30, .inl ((upd T 0 (nI 10)))))]) := by
  refine zMi.start (cc := cX4_speak) (maxL := 6) (rt := .int) (by first | decide | decide +kernel) rfl (Nat.le_of_ble_eq_true rfl) ?_
  intro pg ev s mt args below meth cd ls AA QQ ⟨hx, hb, hml, hr, hlocks, hown, hts, hK, hN, hZ, hP, hD, hA, hS, hl⟩ hret
  have hown : s.vm.findClass RX4 = some mt.cls := hown
  have hl : lv_has ls 6 [(0, .ref h), (1, .int (nI 0)), (2, .int (nI sp)), (3, .int mm), (4, .int (nI 0)), (5, .int x)] := hl
  have hin4 : ∀ w ∈ wsX40, w ∈ wsX4_speak := fun w h => List.mem_cons_of_mem _ (List.mem_append_right _ (h))
  refine lv_aload_n hx hb dX4_speak_0 rfl (lv_at hl 0 rfl) ?_
  refine lv_iload_n hx hb dX4_speak_1 rfl (lv_at hl 1 rfl) ?_
  refine va_put (ci := 4) (v := .int (nI 0)) (ty := .int) (C := RX4) (T := TX4) (N := 6) hx hb hts hin4 tyX4 tyX4_ok nmX4 hown hK hP hD hS 0 rfl rfl 3 (by decide) (hts (.fieldLink RX4 23 "UpAllRound$Voices" "kind" "I") (List.mem_of_getElem? (i := 1) rfl)) (fun _ h9 => h9) rfl (by decide +kernel) rfl rfl (Nat.le_of_ble_eq_true rfl) dX4_speak_2 (fun H locs hP hD hS => ?_)
  have hP : va_P D vwCl [(h, .inr (4, [.ref hT9, .int (nI tn0), .int (nI pt0), .int (nI 0), .int (nI sp0), .int mm0])), (hT9, .inl (cI, 30, .inl T))] H := hP
  have hD : va_D AA [(h, .inr (4, [.ref hT9, .int (nI tn0), .int (nI pt0), .int (nI 0), .int (nI sp0), .int mm0])), (hT9, .inl (cI, 30, .inl T))] := hD
  refine lv_aload_n hx hb dX4_speak_5 rfl (lv_at hl 0 rfl) ?_
  refine lv_iload_n hx hb dX4_speak_6 rfl (lv_at hl 2 rfl) ?_
  refine va_put (ci := 4) (v := .int (nI sp)) (ty := .int) (C := RX4) (T := TX4) (N := 6) hx hb hts hin4 tyX4 tyX4_ok nmX4 hown hK hP hD hS 0 rfl rfl 4 (by decide) (hts (.fieldLink RX4 26 "UpAllRound$Voices" "k" "I") (List.mem_of_getElem? (i := 2) rfl)) (fun _ h9 => h9) rfl (by decide +kernel) rfl rfl (Nat.le_of_ble_eq_true rfl) dX4_speak_7 (fun H locs hP hD hS => ?_)
  have hP : va_P D vwCl [(h, .inr (4, [.ref hT9, .int (nI tn0), .int (nI pt0), .int (nI 0), .int (nI sp), .int mm0])), (hT9, .inl (cI, 30, .inl T))] H := hP
  have hD : va_D AA [(h, .inr (4, [.ref hT9, .int (nI tn0), .int (nI pt0), .int (nI 0), .int (nI sp), .int mm0])), (hT9, .inl (cI, 30, .inl T))] := hD
  refine lv_aload_n hx hb dX4_speak_10 rfl (lv_at hl 0 rfl) ?_
  refine lv_iload_n hx hb dX4_speak_11 rfl (lv_at hl 3 rfl) ?_
  refine va_put (ci := 4) (v := .int mm) (ty := .int) (C := RX4) (T := TX4) (N := 6) hx hb hts hin4 tyX4 tyX4_ok nmX4 hown hK hP hD hS 0 rfl rfl 5 (by decide) (hts (.fieldLink RX4 29 "UpAllRound$Voices" "m" "I") (List.mem_of_getElem? (i := 3) rfl)) (fun _ h9 => h9) rfl (by decide +kernel) rfl rfl (Nat.le_of_ble_eq_true rfl) dX4_speak_12 (fun H locs hP hD hS => ?_)
  have hP : va_P D vwCl [(h, .inr (4, [.ref hT9, .int (nI tn0), .int (nI pt0), .int (nI 0), .int (nI sp), .int mm])), (hT9, .inl (cI, 30, .inl T))] H := hP
  have hD : va_D AA [(h, .inr (4, [.ref hT9, .int (nI tn0), .int (nI pt0), .int (nI 0), .int (nI sp), .int mm])), (hT9, .inl (cI, 30, .inl T))] := hD
  refine lv_aload_n hx hb dX4_speak_15 rfl (lv_at hl 0 rfl) ?_
  refine lv_iconst (v := nI 0) hx hb dX4_speak_16 (by decide) ?_
  refine va_put (ci := 4) (v := .int (nI 0)) (ty := .int) (C := RX4) (T := TX4) (N := 6) hx hb hts hin4 tyX4 tyX4_ok nmX4 hown hK hP hD hS 0 rfl rfl 1 (by decide) (hts (.fieldLink RX4 15 "UpAllRound$Voices" "traced" "I") (List.mem_of_getElem? (i := 4) rfl)) (fun _ h9 => h9) rfl (by decide +kernel) rfl rfl (Nat.le_of_ble_eq_true rfl) dX4_speak_17 (fun H locs hP hD hS => ?_)
  have hP : va_P D vwCl [(h, .inr (4, [.ref hT9, .int (nI 0), .int (nI pt0), .int (nI 0), .int (nI sp), .int mm])), (hT9, .inl (cI, 30, .inl T))] H := hP
  have hD : va_D AA [(h, .inr (4, [.ref hT9, .int (nI 0), .int (nI pt0), .int (nI 0), .int (nI sp), .int mm])), (hT9, .inl (cI, 30, .inl T))] := hD
  refine lv_aload_n hx hb dX4_speak_20 rfl (lv_at hl 0 rfl) ?_
  refine lv_iconst (v := nI 0) hx hb dX4_speak_21 (by decide) ?_
  refine va_put (ci := 4) (v := .int (nI 0)) (ty := .boolean) (C := RX4) (T := TX4) (N := 6) hx hb hts hin4 tyX4 tyX4_ok nmX4 hown hK hP hD hS 0 rfl rfl 2 (by decide) (hts (.fieldLink RX4 19 "UpAllRound$Voices" "parted" "Z") (List.mem_of_getElem? (i := 5) rfl)) (fun _ h9 => h9) rfl (by decide +kernel) rfl rfl (Nat.le_of_ble_eq_true rfl) dX4_speak_22 (fun H locs hP hD hS => ?_)
  have hP : va_P D vwCl [(h, .inr (4, [.ref hT9, .int (nI 0), .int (nI 0), .int (nI 0), .int (nI sp), .int mm])), (hT9, .inl (cI, 30, .inl T))] H := hP
  have hD : va_D AA [(h, .inr (4, [.ref hT9, .int (nI 0), .int (nI 0), .int (nI 0), .int (nI sp), .int mm])), (hT9, .inl (cI, 30, .inl T))] := hD
  refine lv_aload_n hx hb dX4_speak_25 rfl (lv_at hl 0 rfl) ?_
  refine lv_aload_n hx hb dX4_speak_26 rfl (lv_at hl 0 rfl) ?_
  refine va_get (ci := 4) (v := .int (nI 0)) (C := RX4) (T := TX4) (N := 6) hx hb hts hin4 hown hK hP 0 rfl rfl 3 (by decide) (hts (.fieldLink RX4 23 "UpAllRound$Voices" "kind" "I") (List.mem_of_getElem? (i := 1) rfl)) (fun _ h9 => h9) rfl dX4_speak_27 ?_
  refine lv_iload hx hb dX4_speak_30 (lv_at hl 4 rfl) ?_
  refine lv_iload hx hb dX4_speak_32 (lv_at hl 5 rfl) ?_
  refine lv_iconst (v := nI 0) hx hb dX4_speak_34 (by decide) ?_
  refine zci (wr := []) (va_runV (As := [.int (nI 0), .int (nI 0), .int x, .int (nI 0)]) (rest := []) ⟨hx, hb, hml, hown, hts⟩ (c_X4_say_0_0_0 l D cI cJ h hT9 T 0 sp mm x 0 (by first | rfl | assumption | omega) (by first | rfl | assumption | omega) H.size) (cwV 4 hts gX4_speak_X4_say rfl rfl rfl (by decide +kernel) ⟨Nat.le_of_ble_eq_true rfl, Nat.le_of_ble_eq_true rfl⟩) (zpV hK hN hZ hP hD hS hA [0, 1] rfl (by decide) 0 rfl rfl rfl) rfl rfl hl.1 rfl (lv_room (Nat.le_of_ble_eq_true rfl)) dX4_speak_35 ⟨Nat.zero_le _, Nat.zero_le _⟩) hP hD hS hA [0, 1] [] rfl rfl (by decide) (by decide) (fun r_3 w_2 H locs h_1 hP hD hS => ?_)
  obtain ⟨rfl, rfl⟩ := h_1
  have hP : va_P D vwCl [(h, .inr (4, [.ref hT9, .int (nI ((0 + 1))), .int (nI 0), .int (nI 0), .int (nI sp), .int mm])), (hT9, .inl (cI, 30, .inl ((upd T 0 (nI 10)))))] H := hP
  have hD : va_D AA [(h, .inr (4, [.ref hT9, .int (nI ((0 + 1))), .int (nI 0), .int (nI 0), .int (nI sp), .int mm])), (hT9, .inl (cI, 30, .inl ((upd T 0 (nI 10)))))] := hD
  exact hret hP hD hS dX4_speak_38 rfl (by exact ⟨rfl, rfl⟩)
set_option maxHeartbeats 4000000 in
set_option maxRecDepth 100000 in
theorem c_X4_speak_0_1 (l : Launch) (D : va_G) (cI cJ : ClassId) (h : Nat) (hT9 : Nat) (T : Nat → Int32) (tn0 : Nat) (pt0 : Nat) (K0 : Nat) (sp0 : Nat) (mm0 : Int32) (sp : Nat) (mm : Int32) (x : Int32)  : zMi l yX4_speak wsX4_speak ({ frames := 5, cells := 0, slots := 0, locals := 119 } : Room) D [(cI, .int), (cJ, .array .int)] [.ref h, .int (nI 0), .int (nI sp), .int mm, .int (nI 1), .int x] [(h, .inr (4, [.ref hT9, .int (nI tn0), .int (nI pt0), .int (nI K0), .int (nI sp0), .int mm0])), (hT9, .inl (cI, 30, .inl T))] (fun r w => r = (zcounts 0 0 sp mm x ) ∧ w = [(h, .inr (4, [.ref hT9, .int (nI (((0 + 1) + 1))), .int (nI 0), .int (nI 0), .int (nI sp), .int mm])), (hT9, .inl (cI, 30, .inl ((upd (upd T 0 (nI 11)) (0 + 1) (nI 10)))))]) := by
  refine zMi.start (cc := cX4_speak) (maxL := 6) (rt := .int) (by first | decide | decide +kernel) rfl (Nat.le_of_ble_eq_true rfl) ?_
  intro pg ev s mt args below meth cd ls AA QQ ⟨hx, hb, hml, hr, hlocks, hown, hts, hK, hN, hZ, hP, hD, hA, hS, hl⟩ hret
  have hown : s.vm.findClass RX4 = some mt.cls := hown
  have hl : lv_has ls 6 [(0, .ref h), (1, .int (nI 0)), (2, .int (nI sp)), (3, .int mm), (4, .int (nI 1)), (5, .int x)] := hl
  have hin4 : ∀ w ∈ wsX40, w ∈ wsX4_speak := fun w h => List.mem_cons_of_mem _ (List.mem_append_right _ (h))
  refine lv_aload_n hx hb dX4_speak_0 rfl (lv_at hl 0 rfl) ?_
  refine lv_iload_n hx hb dX4_speak_1 rfl (lv_at hl 1 rfl) ?_
  refine va_put (ci := 4) (v := .int (nI 0)) (ty := .int) (C := RX4) (T := TX4) (N := 6) hx hb hts hin4 tyX4 tyX4_ok nmX4 hown hK hP hD hS 0 rfl rfl 3 (by decide) (hts (.fieldLink RX4 23 "UpAllRound$Voices" "kind" "I") (List.mem_of_getElem? (i := 1) rfl)) (fun _ h9 => h9) rfl (by decide +kernel) rfl rfl (Nat.le_of_ble_eq_true rfl) dX4_speak_2 (fun H locs hP hD hS => ?_)
  have hP : va_P D vwCl [(h, .inr (4, [.ref hT9, .int (nI tn0), .int (nI pt0), .int (nI 0), .int (nI sp0), .int mm0])), (hT9, .inl (cI, 30, .inl T))] H := hP
  have hD : va_D AA [(h, .inr (4, [.ref hT9, .int (nI tn0), .int (nI pt0), .int (nI 0), .int (nI sp0), .int mm0])), (hT9, .inl (cI, 30, .inl T))] := hD
  refine lv_aload_n hx hb dX4_speak_5 rfl (lv_at hl 0 rfl) ?_
  refine lv_iload_n hx hb dX4_speak_6 rfl (lv_at hl 2 rfl) ?_
  refine va_put (ci := 4) (v := .int (nI sp)) (ty := .int) (C := RX4) (T := TX4) (N := 6) hx hb hts hin4 tyX4 tyX4_ok nmX4 hown hK hP hD hS 0 rfl rfl 4 (by decide) (hts (.fieldLink RX4 26 "UpAllRound$Voices" "k" "I") (List.mem_of_getElem? (i := 2) rfl)) (fun _ h9 => h9) rfl (by decide +kernel) rfl rfl (Nat.le_of_ble_eq_true rfl) dX4_speak_7 (fun H locs hP hD hS => ?_)
  have hP : va_P D vwCl [(h, .inr (4, [.ref hT9, .int (nI tn0), .int (nI pt0), .int (nI 0), .int (nI sp), .int mm0])), (hT9, .inl (cI, 30, .inl T))] H := hP
  have hD : va_D AA [(h, .inr (4, [.ref hT9, .int (nI tn0), .int (nI pt0), .int (nI 0), .int (nI sp), .int mm0])), (hT9, .inl (cI, 30, .inl T))] := hD
  refine lv_aload_n hx hb dX4_speak_10 rfl (lv_at hl 0 rfl) ?_
  refine lv_iload_n hx hb dX4_speak_11 rfl (lv_at hl 3 rfl) ?_
  refine va_put (ci := 4) (v := .int mm) (ty := .int) (C := RX4) (T := TX4) (N := 6) hx hb hts hin4 tyX4 tyX4_ok nmX4 hown hK hP hD hS 0 rfl rfl 5 (by decide) (hts (.fieldLink RX4 29 "UpAllRound$Voices" "m" "I") (List.mem_of_getElem? (i := 3) rfl)) (fun _ h9 => h9) rfl (by decide +kernel) rfl rfl (Nat.le_of_ble_eq_true rfl) dX4_speak_12 (fun H locs hP hD hS => ?_)
  have hP : va_P D vwCl [(h, .inr (4, [.ref hT9, .int (nI tn0), .int (nI pt0), .int (nI 0), .int (nI sp), .int mm])), (hT9, .inl (cI, 30, .inl T))] H := hP
  have hD : va_D AA [(h, .inr (4, [.ref hT9, .int (nI tn0), .int (nI pt0), .int (nI 0), .int (nI sp), .int mm])), (hT9, .inl (cI, 30, .inl T))] := hD
  refine lv_aload_n hx hb dX4_speak_15 rfl (lv_at hl 0 rfl) ?_
  refine lv_iconst (v := nI 0) hx hb dX4_speak_16 (by decide) ?_
  refine va_put (ci := 4) (v := .int (nI 0)) (ty := .int) (C := RX4) (T := TX4) (N := 6) hx hb hts hin4 tyX4 tyX4_ok nmX4 hown hK hP hD hS 0 rfl rfl 1 (by decide) (hts (.fieldLink RX4 15 "UpAllRound$Voices" "traced" "I") (List.mem_of_getElem? (i := 4) rfl)) (fun _ h9 => h9) rfl (by decide +kernel) rfl rfl (Nat.le_of_ble_eq_true rfl) dX4_speak_17 (fun H locs hP hD hS => ?_)
  have hP : va_P D vwCl [(h, .inr (4, [.ref hT9, .int (nI 0), .int (nI pt0), .int (nI 0), .int (nI sp), .int mm])), (hT9, .inl (cI, 30, .inl T))] H := hP
  have hD : va_D AA [(h, .inr (4, [.ref hT9, .int (nI 0), .int (nI pt0), .int (nI 0), .int (nI sp), .int mm])), (hT9, .inl (cI, 30, .inl T))] := hD
  refine lv_aload_n hx hb dX4_speak_20 rfl (lv_at hl 0 rfl) ?_
  refine lv_iconst (v := nI 0) hx hb dX4_speak_21 (by decide) ?_
  refine va_put (ci := 4) (v := .int (nI 0)) (ty := .boolean) (C := RX4) (T := TX4) (N := 6) hx hb hts hin4 tyX4 tyX4_ok nmX4 hown hK hP hD hS 0 rfl rfl 2 (by decide) (hts (.fieldLink RX4 19 "UpAllRound$Voices" "parted" "Z") (List.mem_of_getElem? (i := 5) rfl)) (fun _ h9 => h9) rfl (by decide +kernel) rfl rfl (Nat.le_of_ble_eq_true rfl) dX4_speak_22 (fun H locs hP hD hS => ?_)
  have hP : va_P D vwCl [(h, .inr (4, [.ref hT9, .int (nI 0), .int (nI 0), .int (nI 0), .int (nI sp), .int mm])), (hT9, .inl (cI, 30, .inl T))] H := hP
  have hD : va_D AA [(h, .inr (4, [.ref hT9, .int (nI 0), .int (nI 0), .int (nI 0), .int (nI sp), .int mm])), (hT9, .inl (cI, 30, .inl T))] := hD
  refine lv_aload_n hx hb dX4_speak_25 rfl (lv_at hl 0 rfl) ?_
  refine lv_aload_n hx hb dX4_speak_26 rfl (lv_at hl 0 rfl) ?_
  refine va_get (ci := 4) (v := .int (nI 0)) (C := RX4) (T := TX4) (N := 6) hx hb hts hin4 hown hK hP 0 rfl rfl 3 (by decide) (hts (.fieldLink RX4 23 "UpAllRound$Voices" "kind" "I") (List.mem_of_getElem? (i := 1) rfl)) (fun _ h9 => h9) rfl dX4_speak_27 ?_
  refine lv_iload hx hb dX4_speak_30 (lv_at hl 4 rfl) ?_
  refine lv_iload hx hb dX4_speak_32 (lv_at hl 5 rfl) ?_
  refine lv_iconst (v := nI 0) hx hb dX4_speak_34 (by decide) ?_
  refine zci (wr := []) (va_runV (As := [.int (nI 0), .int (nI 1), .int x, .int (nI 0)]) (rest := []) ⟨hx, hb, hml, hown, hts⟩ (c_X4_say_0_1_0 l D cI cJ h hT9 T 0 sp mm x 0 (by first | rfl | assumption | omega) (by first | rfl | assumption | omega) H.size) (cwV 4 hts gX4_speak_X4_say rfl rfl rfl (by decide +kernel) ⟨Nat.le_of_ble_eq_true rfl, Nat.le_of_ble_eq_true rfl⟩) (zpV hK hN hZ hP hD hS hA [0, 1] rfl (by decide) 0 rfl rfl rfl) rfl rfl hl.1 rfl (lv_room (Nat.le_of_ble_eq_true rfl)) dX4_speak_35 ⟨Nat.zero_le _, Nat.zero_le _⟩) hP hD hS hA [0, 1] [] rfl rfl (by decide) (by decide) (fun r_3 w_2 H locs h_1 hP hD hS => ?_)
  obtain ⟨rfl, rfl⟩ := h_1
  have hP : va_P D vwCl [(h, .inr (4, [.ref hT9, .int (nI (((0 + 1) + 1))), .int (nI 0), .int (nI 0), .int (nI sp), .int mm])), (hT9, .inl (cI, 30, .inl ((upd (upd T 0 (nI 11)) (0 + 1) (nI 10)))))] H := hP
  have hD : va_D AA [(h, .inr (4, [.ref hT9, .int (nI (((0 + 1) + 1))), .int (nI 0), .int (nI 0), .int (nI sp), .int mm])), (hT9, .inl (cI, 30, .inl ((upd (upd T 0 (nI 11)) (0 + 1) (nI 10)))))] := hD
  exact hret hP hD hS dX4_speak_38 rfl (by exact ⟨rfl, rfl⟩)
set_option maxHeartbeats 4000000 in
set_option maxRecDepth 100000 in
theorem c_X4_speak_0_2 (l : Launch) (D : va_G) (cI cJ : ClassId) (h : Nat) (hT9 : Nat) (T : Nat → Int32) (tn0 : Nat) (pt0 : Nat) (K0 : Nat) (sp0 : Nat) (mm0 : Int32) (sp : Nat) (mm : Int32) (x : Int32)  : zMi l yX4_speak wsX4_speak ({ frames := 7, cells := 0, slots := 0, locals := 167 } : Room) D [(cI, .int), (cJ, .array .int)] [.ref h, .int (nI 0), .int (nI sp), .int mm, .int (nI 2), .int x] [(h, .inr (4, [.ref hT9, .int (nI tn0), .int (nI pt0), .int (nI K0), .int (nI sp0), .int mm0])), (hT9, .inl (cI, 30, .inl T))] (fun r w => r = (zswears 0 0 sp mm x ) ∧ w = [(h, .inr (4, [.ref hT9, .int (nI ((((0 + 1) + 1) + 1))), .int (nI 0), .int (nI 0), .int (nI sp), .int mm])), (hT9, .inl (cI, 30, .inl ((upd (upd (upd T 0 (nI 12)) (0 + 1) (nI 11)) ((0 + 1) + 1) (nI 10)))))]) := by
  refine zMi.start (cc := cX4_speak) (maxL := 6) (rt := .int) (by first | decide | decide +kernel) rfl (Nat.le_of_ble_eq_true rfl) ?_
  intro pg ev s mt args below meth cd ls AA QQ ⟨hx, hb, hml, hr, hlocks, hown, hts, hK, hN, hZ, hP, hD, hA, hS, hl⟩ hret
  have hown : s.vm.findClass RX4 = some mt.cls := hown
  have hl : lv_has ls 6 [(0, .ref h), (1, .int (nI 0)), (2, .int (nI sp)), (3, .int mm), (4, .int (nI 2)), (5, .int x)] := hl
  have hin4 : ∀ w ∈ wsX40, w ∈ wsX4_speak := fun w h => List.mem_cons_of_mem _ (List.mem_append_right _ (h))
  refine lv_aload_n hx hb dX4_speak_0 rfl (lv_at hl 0 rfl) ?_
  refine lv_iload_n hx hb dX4_speak_1 rfl (lv_at hl 1 rfl) ?_
  refine va_put (ci := 4) (v := .int (nI 0)) (ty := .int) (C := RX4) (T := TX4) (N := 6) hx hb hts hin4 tyX4 tyX4_ok nmX4 hown hK hP hD hS 0 rfl rfl 3 (by decide) (hts (.fieldLink RX4 23 "UpAllRound$Voices" "kind" "I") (List.mem_of_getElem? (i := 1) rfl)) (fun _ h9 => h9) rfl (by decide +kernel) rfl rfl (Nat.le_of_ble_eq_true rfl) dX4_speak_2 (fun H locs hP hD hS => ?_)
  have hP : va_P D vwCl [(h, .inr (4, [.ref hT9, .int (nI tn0), .int (nI pt0), .int (nI 0), .int (nI sp0), .int mm0])), (hT9, .inl (cI, 30, .inl T))] H := hP
  have hD : va_D AA [(h, .inr (4, [.ref hT9, .int (nI tn0), .int (nI pt0), .int (nI 0), .int (nI sp0), .int mm0])), (hT9, .inl (cI, 30, .inl T))] := hD
  refine lv_aload_n hx hb dX4_speak_5 rfl (lv_at hl 0 rfl) ?_
  refine lv_iload_n hx hb dX4_speak_6 rfl (lv_at hl 2 rfl) ?_
  refine va_put (ci := 4) (v := .int (nI sp)) (ty := .int) (C := RX4) (T := TX4) (N := 6) hx hb hts hin4 tyX4 tyX4_ok nmX4 hown hK hP hD hS 0 rfl rfl 4 (by decide) (hts (.fieldLink RX4 26 "UpAllRound$Voices" "k" "I") (List.mem_of_getElem? (i := 2) rfl)) (fun _ h9 => h9) rfl (by decide +kernel) rfl rfl (Nat.le_of_ble_eq_true rfl) dX4_speak_7 (fun H locs hP hD hS => ?_)
  have hP : va_P D vwCl [(h, .inr (4, [.ref hT9, .int (nI tn0), .int (nI pt0), .int (nI 0), .int (nI sp), .int mm0])), (hT9, .inl (cI, 30, .inl T))] H := hP
  have hD : va_D AA [(h, .inr (4, [.ref hT9, .int (nI tn0), .int (nI pt0), .int (nI 0), .int (nI sp), .int mm0])), (hT9, .inl (cI, 30, .inl T))] := hD
  refine lv_aload_n hx hb dX4_speak_10 rfl (lv_at hl 0 rfl) ?_
  refine lv_iload_n hx hb dX4_speak_11 rfl (lv_at hl 3 rfl) ?_
  refine va_put (ci := 4) (v := .int mm) (ty := .int) (C := RX4) (T := TX4) (N := 6) hx hb hts hin4 tyX4 tyX4_ok nmX4 hown hK hP hD hS 0 rfl rfl 5 (by decide) (hts (.fieldLink RX4 29 "UpAllRound$Voices" "m" "I") (List.mem_of_getElem? (i := 3) rfl)) (fun _ h9 => h9) rfl (by decide +kernel) rfl rfl (Nat.le_of_ble_eq_true rfl) dX4_speak_12 (fun H locs hP hD hS => ?_)
  have hP : va_P D vwCl [(h, .inr (4, [.ref hT9, .int (nI tn0), .int (nI pt0), .int (nI 0), .int (nI sp), .int mm])), (hT9, .inl (cI, 30, .inl T))] H := hP
  have hD : va_D AA [(h, .inr (4, [.ref hT9, .int (nI tn0), .int (nI pt0), .int (nI 0), .int (nI sp), .int mm])), (hT9, .inl (cI, 30, .inl T))] := hD
  refine lv_aload_n hx hb dX4_speak_15 rfl (lv_at hl 0 rfl) ?_
  refine lv_iconst (v := nI 0) hx hb dX4_speak_16 (by decide) ?_
  refine va_put (ci := 4) (v := .int (nI 0)) (ty := .int) (C := RX4) (T := TX4) (N := 6) hx hb hts hin4 tyX4 tyX4_ok nmX4 hown hK hP hD hS 0 rfl rfl 1 (by decide) (hts (.fieldLink RX4 15 "UpAllRound$Voices" "traced" "I") (List.mem_of_getElem? (i := 4) rfl)) (fun _ h9 => h9) rfl (by decide +kernel) rfl rfl (Nat.le_of_ble_eq_true rfl) dX4_speak_17 (fun H locs hP hD hS => ?_)
  have hP : va_P D vwCl [(h, .inr (4, [.ref hT9, .int (nI 0), .int (nI pt0), .int (nI 0), .int (nI sp), .int mm])), (hT9, .inl (cI, 30, .inl T))] H := hP
  have hD : va_D AA [(h, .inr (4, [.ref hT9, .int (nI 0), .int (nI pt0), .int (nI 0), .int (nI sp), .int mm])), (hT9, .inl (cI, 30, .inl T))] := hD
  refine lv_aload_n hx hb dX4_speak_20 rfl (lv_at hl 0 rfl) ?_
  refine lv_iconst (v := nI 0) hx hb dX4_speak_21 (by decide) ?_
  refine va_put (ci := 4) (v := .int (nI 0)) (ty := .boolean) (C := RX4) (T := TX4) (N := 6) hx hb hts hin4 tyX4 tyX4_ok nmX4 hown hK hP hD hS 0 rfl rfl 2 (by decide) (hts (.fieldLink RX4 19 "UpAllRound$Voices" "parted" "Z") (List.mem_of_getElem? (i := 5) rfl)) (fun _ h9 => h9) rfl (by decide +kernel) rfl rfl (Nat.le_of_ble_eq_true rfl) dX4_speak_22 (fun H locs hP hD hS => ?_)
  have hP : va_P D vwCl [(h, .inr (4, [.ref hT9, .int (nI 0), .int (nI 0), .int (nI 0), .int (nI sp), .int mm])), (hT9, .inl (cI, 30, .inl T))] H := hP
  have hD : va_D AA [(h, .inr (4, [.ref hT9, .int (nI 0), .int (nI 0), .int (nI 0), .int (nI sp), .int mm])), (hT9, .inl (cI, 30, .inl T))] := hD
  refine lv_aload_n hx hb dX4_speak_25 rfl (lv_at hl 0 rfl) ?_
  refine lv_aload_n hx hb dX4_speak_26 rfl (lv_at hl 0 rfl) ?_
  refine va_get (ci := 4) (v := .int (nI 0)) (C := RX4) (T := TX4) (N := 6) hx hb hts hin4 hown hK hP 0 rfl rfl 3 (by decide) (hts (.fieldLink RX4 23 "UpAllRound$Voices" "kind" "I") (List.mem_of_getElem? (i := 1) rfl)) (fun _ h9 => h9) rfl dX4_speak_27 ?_
  refine lv_iload hx hb dX4_speak_30 (lv_at hl 4 rfl) ?_
  refine lv_iload hx hb dX4_speak_32 (lv_at hl 5 rfl) ?_
  refine lv_iconst (v := nI 0) hx hb dX4_speak_34 (by decide) ?_
  refine zci (wr := []) (va_runV (As := [.int (nI 0), .int (nI 2), .int x, .int (nI 0)]) (rest := []) ⟨hx, hb, hml, hown, hts⟩ (c_X4_say_0_2_0 l D cI cJ h hT9 T 0 sp mm x 0 (by first | rfl | assumption | omega) (by first | rfl | assumption | omega) H.size) (cwV 4 hts gX4_speak_X4_say rfl rfl rfl (by decide +kernel) ⟨Nat.le_of_ble_eq_true rfl, Nat.le_of_ble_eq_true rfl⟩) (zpV hK hN hZ hP hD hS hA [0, 1] rfl (by decide) 0 rfl rfl rfl) rfl rfl hl.1 rfl (lv_room (Nat.le_of_ble_eq_true rfl)) dX4_speak_35 ⟨Nat.zero_le _, Nat.zero_le _⟩) hP hD hS hA [0, 1] [] rfl rfl (by decide) (by decide) (fun r_3 w_2 H locs h_1 hP hD hS => ?_)
  obtain ⟨rfl, rfl⟩ := h_1
  have hP : va_P D vwCl [(h, .inr (4, [.ref hT9, .int (nI ((((0 + 1) + 1) + 1))), .int (nI 0), .int (nI 0), .int (nI sp), .int mm])), (hT9, .inl (cI, 30, .inl ((upd (upd (upd T 0 (nI 12)) (0 + 1) (nI 11)) ((0 + 1) + 1) (nI 10)))))] H := hP
  have hD : va_D AA [(h, .inr (4, [.ref hT9, .int (nI ((((0 + 1) + 1) + 1))), .int (nI 0), .int (nI 0), .int (nI sp), .int mm])), (hT9, .inl (cI, 30, .inl ((upd (upd (upd T 0 (nI 12)) (0 + 1) (nI 11)) ((0 + 1) + 1) (nI 10)))))] := hD
  exact hret hP hD hS dX4_speak_38 rfl (by exact ⟨rfl, rfl⟩)
set_option maxHeartbeats 4000000 in
set_option maxRecDepth 100000 in
theorem c_X4_speak_0_3 (l : Launch) (D : va_G) (cI cJ : ClassId) (h : Nat) (hT9 : Nat) (T : Nat → Int32) (tn0 : Nat) (pt0 : Nat) (K0 : Nat) (sp0 : Nat) (mm0 : Int32) (sp : Nat) (mm : Int32) (x : Int32)  : zMi l yX4_speak wsX4_speak ({ frames := 3, cells := 0, slots := 0, locals := 71 } : Room) D [(cI, .int), (cJ, .array .int)] [.ref h, .int (nI 0), .int (nI sp), .int mm, .int (nI 3), .int x] [(h, .inr (4, [.ref hT9, .int (nI tn0), .int (nI pt0), .int (nI K0), .int (nI sp0), .int mm0])), (hT9, .inl (cI, 30, .inl T))] (fun r w => r = (zpv sp mm x) ∧ w = [(h, .inr (4, [.ref hT9, .int (nI ((0 + 1))), .int (nI ((zpd sp mm))), .int (nI 0), .int (nI sp), .int mm])), (hT9, .inl (cI, 30, .inl ((upd T 0 (nI 13)))))]) := by
  refine zMi.start (cc := cX4_speak) (maxL := 6) (rt := .int) (by first | decide | decide +kernel) rfl (Nat.le_of_ble_eq_true rfl) ?_
  intro pg ev s mt args below meth cd ls AA QQ ⟨hx, hb, hml, hr, hlocks, hown, hts, hK, hN, hZ, hP, hD, hA, hS, hl⟩ hret
  have hown : s.vm.findClass RX4 = some mt.cls := hown
  have hl : lv_has ls 6 [(0, .ref h), (1, .int (nI 0)), (2, .int (nI sp)), (3, .int mm), (4, .int (nI 3)), (5, .int x)] := hl
  have hin4 : ∀ w ∈ wsX40, w ∈ wsX4_speak := fun w h => List.mem_cons_of_mem _ (List.mem_append_right _ (h))
  refine lv_aload_n hx hb dX4_speak_0 rfl (lv_at hl 0 rfl) ?_
  refine lv_iload_n hx hb dX4_speak_1 rfl (lv_at hl 1 rfl) ?_
  refine va_put (ci := 4) (v := .int (nI 0)) (ty := .int) (C := RX4) (T := TX4) (N := 6) hx hb hts hin4 tyX4 tyX4_ok nmX4 hown hK hP hD hS 0 rfl rfl 3 (by decide) (hts (.fieldLink RX4 23 "UpAllRound$Voices" "kind" "I") (List.mem_of_getElem? (i := 1) rfl)) (fun _ h9 => h9) rfl (by decide +kernel) rfl rfl (Nat.le_of_ble_eq_true rfl) dX4_speak_2 (fun H locs hP hD hS => ?_)
  have hP : va_P D vwCl [(h, .inr (4, [.ref hT9, .int (nI tn0), .int (nI pt0), .int (nI 0), .int (nI sp0), .int mm0])), (hT9, .inl (cI, 30, .inl T))] H := hP
  have hD : va_D AA [(h, .inr (4, [.ref hT9, .int (nI tn0), .int (nI pt0), .int (nI 0), .int (nI sp0), .int mm0])), (hT9, .inl (cI, 30, .inl T))] := hD
  refine lv_aload_n hx hb dX4_speak_5 rfl (lv_at hl 0 rfl) ?_
  refine lv_iload_n hx hb dX4_speak_6 rfl (lv_at hl 2 rfl) ?_
  refine va_put (ci := 4) (v := .int (nI sp)) (ty := .int) (C := RX4) (T := TX4) (N := 6) hx hb hts hin4 tyX4 tyX4_ok nmX4 hown hK hP hD hS 0 rfl rfl 4 (by decide) (hts (.fieldLink RX4 26 "UpAllRound$Voices" "k" "I") (List.mem_of_getElem? (i := 2) rfl)) (fun _ h9 => h9) rfl (by decide +kernel) rfl rfl (Nat.le_of_ble_eq_true rfl) dX4_speak_7 (fun H locs hP hD hS => ?_)
  have hP : va_P D vwCl [(h, .inr (4, [.ref hT9, .int (nI tn0), .int (nI pt0), .int (nI 0), .int (nI sp), .int mm0])), (hT9, .inl (cI, 30, .inl T))] H := hP
  have hD : va_D AA [(h, .inr (4, [.ref hT9, .int (nI tn0), .int (nI pt0), .int (nI 0), .int (nI sp), .int mm0])), (hT9, .inl (cI, 30, .inl T))] := hD
  refine lv_aload_n hx hb dX4_speak_10 rfl (lv_at hl 0 rfl) ?_
  refine lv_iload_n hx hb dX4_speak_11 rfl (lv_at hl 3 rfl) ?_
  refine va_put (ci := 4) (v := .int mm) (ty := .int) (C := RX4) (T := TX4) (N := 6) hx hb hts hin4 tyX4 tyX4_ok nmX4 hown hK hP hD hS 0 rfl rfl 5 (by decide) (hts (.fieldLink RX4 29 "UpAllRound$Voices" "m" "I") (List.mem_of_getElem? (i := 3) rfl)) (fun _ h9 => h9) rfl (by decide +kernel) rfl rfl (Nat.le_of_ble_eq_true rfl) dX4_speak_12 (fun H locs hP hD hS => ?_)
  have hP : va_P D vwCl [(h, .inr (4, [.ref hT9, .int (nI tn0), .int (nI pt0), .int (nI 0), .int (nI sp), .int mm])), (hT9, .inl (cI, 30, .inl T))] H := hP
  have hD : va_D AA [(h, .inr (4, [.ref hT9, .int (nI tn0), .int (nI pt0), .int (nI 0), .int (nI sp), .int mm])), (hT9, .inl (cI, 30, .inl T))] := hD
  refine lv_aload_n hx hb dX4_speak_15 rfl (lv_at hl 0 rfl) ?_
  refine lv_iconst (v := nI 0) hx hb dX4_speak_16 (by decide) ?_
  refine va_put (ci := 4) (v := .int (nI 0)) (ty := .int) (C := RX4) (T := TX4) (N := 6) hx hb hts hin4 tyX4 tyX4_ok nmX4 hown hK hP hD hS 0 rfl rfl 1 (by decide) (hts (.fieldLink RX4 15 "UpAllRound$Voices" "traced" "I") (List.mem_of_getElem? (i := 4) rfl)) (fun _ h9 => h9) rfl (by decide +kernel) rfl rfl (Nat.le_of_ble_eq_true rfl) dX4_speak_17 (fun H locs hP hD hS => ?_)
  have hP : va_P D vwCl [(h, .inr (4, [.ref hT9, .int (nI 0), .int (nI pt0), .int (nI 0), .int (nI sp), .int mm])), (hT9, .inl (cI, 30, .inl T))] H := hP
  have hD : va_D AA [(h, .inr (4, [.ref hT9, .int (nI 0), .int (nI pt0), .int (nI 0), .int (nI sp), .int mm])), (hT9, .inl (cI, 30, .inl T))] := hD
  refine lv_aload_n hx hb dX4_speak_20 rfl (lv_at hl 0 rfl) ?_
  refine lv_iconst (v := nI 0) hx hb dX4_speak_21 (by decide) ?_
  refine va_put (ci := 4) (v := .int (nI 0)) (ty := .boolean) (C := RX4) (T := TX4) (N := 6) hx hb hts hin4 tyX4 tyX4_ok nmX4 hown hK hP hD hS 0 rfl rfl 2 (by decide) (hts (.fieldLink RX4 19 "UpAllRound$Voices" "parted" "Z") (List.mem_of_getElem? (i := 5) rfl)) (fun _ h9 => h9) rfl (by decide +kernel) rfl rfl (Nat.le_of_ble_eq_true rfl) dX4_speak_22 (fun H locs hP hD hS => ?_)
  have hP : va_P D vwCl [(h, .inr (4, [.ref hT9, .int (nI 0), .int (nI 0), .int (nI 0), .int (nI sp), .int mm])), (hT9, .inl (cI, 30, .inl T))] H := hP
  have hD : va_D AA [(h, .inr (4, [.ref hT9, .int (nI 0), .int (nI 0), .int (nI 0), .int (nI sp), .int mm])), (hT9, .inl (cI, 30, .inl T))] := hD
  refine lv_aload_n hx hb dX4_speak_25 rfl (lv_at hl 0 rfl) ?_
  refine lv_aload_n hx hb dX4_speak_26 rfl (lv_at hl 0 rfl) ?_
  refine va_get (ci := 4) (v := .int (nI 0)) (C := RX4) (T := TX4) (N := 6) hx hb hts hin4 hown hK hP 0 rfl rfl 3 (by decide) (hts (.fieldLink RX4 23 "UpAllRound$Voices" "kind" "I") (List.mem_of_getElem? (i := 1) rfl)) (fun _ h9 => h9) rfl dX4_speak_27 ?_
  refine lv_iload hx hb dX4_speak_30 (lv_at hl 4 rfl) ?_
  refine lv_iload hx hb dX4_speak_32 (lv_at hl 5 rfl) ?_
  refine lv_iconst (v := nI 0) hx hb dX4_speak_34 (by decide) ?_
  refine zci (wr := []) (va_runV (As := [.int (nI 0), .int (nI 3), .int x, .int (nI 0)]) (rest := []) ⟨hx, hb, hml, hown, hts⟩ (c_X4_say_0_3_0 l D cI cJ h hT9 T 0 sp mm x 0 (by first | rfl | assumption | omega) (by first | rfl | assumption | omega) H.size) (cwV 4 hts gX4_speak_X4_say rfl rfl rfl (by decide +kernel) ⟨Nat.le_of_ble_eq_true rfl, Nat.le_of_ble_eq_true rfl⟩) (zpV hK hN hZ hP hD hS hA [0, 1] rfl (by decide) 0 rfl rfl rfl) rfl rfl hl.1 rfl (lv_room (Nat.le_of_ble_eq_true rfl)) dX4_speak_35 ⟨Nat.zero_le _, Nat.zero_le _⟩) hP hD hS hA [0, 1] [] rfl rfl (by decide) (by decide) (fun r_3 w_2 H locs h_1 hP hD hS => ?_)
  obtain ⟨rfl, rfl⟩ := h_1
  have hP : va_P D vwCl [(h, .inr (4, [.ref hT9, .int (nI ((0 + 1))), .int (nI ((zpd sp mm))), .int (nI 0), .int (nI sp), .int mm])), (hT9, .inl (cI, 30, .inl ((upd T 0 (nI 13)))))] H := hP
  have hD : va_D AA [(h, .inr (4, [.ref hT9, .int (nI ((0 + 1))), .int (nI ((zpd sp mm))), .int (nI 0), .int (nI sp), .int mm])), (hT9, .inl (cI, 30, .inl ((upd T 0 (nI 13)))))] := hD
  exact hret hP hD hS dX4_speak_38 rfl (by exact ⟨rfl, rfl⟩)
set_option maxHeartbeats 4000000 in
set_option maxRecDepth 100000 in
theorem c_X4_speak_1_0 (l : Launch) (D : va_G) (cI cJ : ClassId) (h : Nat) (hT9 : Nat) (T : Nat → Int32) (tn0 : Nat) (pt0 : Nat) (K0 : Nat) (sp0 : Nat) (mm0 : Int32) (sp : Nat) (mm : Int32) (x : Int32)  : zMi l yX4_speak wsX4_speak ({ frames := 5, cells := 0, slots := 0, locals := 119 } : Room) D [(cI, .int), (cJ, .array .int)] [.ref h, .int (nI 1), .int (nI sp), .int mm, .int (nI 0), .int x] [(h, .inr (4, [.ref hT9, .int (nI tn0), .int (nI pt0), .int (nI K0), .int (nI sp0), .int mm0])), (hT9, .inl (cI, 30, .inl T))] (fun r w => r = (zpants 1 sp x ) ∧ w = [(h, .inr (4, [.ref hT9, .int (nI (((0 + 1) + 1))), .int (nI 0), .int (nI 1), .int (nI sp), .int mm])), (hT9, .inl (cI, 30, .inl ((upd (upd T 0 (nI 20)) (0 + 1) (nI 10)))))]) := by
  refine zMi.start (cc := cX4_speak) (maxL := 6) (rt := .int) (by first | decide | decide +kernel) rfl (Nat.le_of_ble_eq_true rfl) ?_
  intro pg ev s mt args below meth cd ls AA QQ ⟨hx, hb, hml, hr, hlocks, hown, hts, hK, hN, hZ, hP, hD, hA, hS, hl⟩ hret
  have hown : s.vm.findClass RX4 = some mt.cls := hown
  have hl : lv_has ls 6 [(0, .ref h), (1, .int (nI 1)), (2, .int (nI sp)), (3, .int mm), (4, .int (nI 0)), (5, .int x)] := hl
  have hin4 : ∀ w ∈ wsX40, w ∈ wsX4_speak := fun w h => List.mem_cons_of_mem _ (List.mem_append_right _ (h))
  refine lv_aload_n hx hb dX4_speak_0 rfl (lv_at hl 0 rfl) ?_
  refine lv_iload_n hx hb dX4_speak_1 rfl (lv_at hl 1 rfl) ?_
  refine va_put (ci := 4) (v := .int (nI 1)) (ty := .int) (C := RX4) (T := TX4) (N := 6) hx hb hts hin4 tyX4 tyX4_ok nmX4 hown hK hP hD hS 0 rfl rfl 3 (by decide) (hts (.fieldLink RX4 23 "UpAllRound$Voices" "kind" "I") (List.mem_of_getElem? (i := 1) rfl)) (fun _ h9 => h9) rfl (by decide +kernel) rfl rfl (Nat.le_of_ble_eq_true rfl) dX4_speak_2 (fun H locs hP hD hS => ?_)
  have hP : va_P D vwCl [(h, .inr (4, [.ref hT9, .int (nI tn0), .int (nI pt0), .int (nI 1), .int (nI sp0), .int mm0])), (hT9, .inl (cI, 30, .inl T))] H := hP
  have hD : va_D AA [(h, .inr (4, [.ref hT9, .int (nI tn0), .int (nI pt0), .int (nI 1), .int (nI sp0), .int mm0])), (hT9, .inl (cI, 30, .inl T))] := hD
  refine lv_aload_n hx hb dX4_speak_5 rfl (lv_at hl 0 rfl) ?_
  refine lv_iload_n hx hb dX4_speak_6 rfl (lv_at hl 2 rfl) ?_
  refine va_put (ci := 4) (v := .int (nI sp)) (ty := .int) (C := RX4) (T := TX4) (N := 6) hx hb hts hin4 tyX4 tyX4_ok nmX4 hown hK hP hD hS 0 rfl rfl 4 (by decide) (hts (.fieldLink RX4 26 "UpAllRound$Voices" "k" "I") (List.mem_of_getElem? (i := 2) rfl)) (fun _ h9 => h9) rfl (by decide +kernel) rfl rfl (Nat.le_of_ble_eq_true rfl) dX4_speak_7 (fun H locs hP hD hS => ?_)
  have hP : va_P D vwCl [(h, .inr (4, [.ref hT9, .int (nI tn0), .int (nI pt0), .int (nI 1), .int (nI sp), .int mm0])), (hT9, .inl (cI, 30, .inl T))] H := hP
  have hD : va_D AA [(h, .inr (4, [.ref hT9, .int (nI tn0), .int (nI pt0), .int (nI 1), .int (nI sp), .int mm0])), (hT9, .inl (cI, 30, .inl T))] := hD
  refine lv_aload_n hx hb dX4_speak_10 rfl (lv_at hl 0 rfl) ?_
  refine lv_iload_n hx hb dX4_speak_11 rfl (lv_at hl 3 rfl) ?_
  refine va_put (ci := 4) (v := .int mm) (ty := .int) (C := RX4) (T := TX4) (N := 6) hx hb hts hin4 tyX4 tyX4_ok nmX4 hown hK hP hD hS 0 rfl rfl 5 (by decide) (hts (.fieldLink RX4 29 "UpAllRound$Voices" "m" "I") (List.mem_of_getElem? (i := 3) rfl)) (fun _ h9 => h9) rfl (by decide +kernel) rfl rfl (Nat.le_of_ble_eq_true rfl) dX4_speak_12 (fun H locs hP hD hS => ?_)
  have hP : va_P D vwCl [(h, .inr (4, [.ref hT9, .int (nI tn0), .int (nI pt0), .int (nI 1), .int (nI sp), .int mm])), (hT9, .inl (cI, 30, .inl T))] H := hP
  have hD : va_D AA [(h, .inr (4, [.ref hT9, .int (nI tn0), .int (nI pt0), .int (nI 1), .int (nI sp), .int mm])), (hT9, .inl (cI, 30, .inl T))] := hD
  refine lv_aload_n hx hb dX4_speak_15 rfl (lv_at hl 0 rfl) ?_
  refine lv_iconst (v := nI 0) hx hb dX4_speak_16 (by decide) ?_
  refine va_put (ci := 4) (v := .int (nI 0)) (ty := .int) (C := RX4) (T := TX4) (N := 6) hx hb hts hin4 tyX4 tyX4_ok nmX4 hown hK hP hD hS 0 rfl rfl 1 (by decide) (hts (.fieldLink RX4 15 "UpAllRound$Voices" "traced" "I") (List.mem_of_getElem? (i := 4) rfl)) (fun _ h9 => h9) rfl (by decide +kernel) rfl rfl (Nat.le_of_ble_eq_true rfl) dX4_speak_17 (fun H locs hP hD hS => ?_)
  have hP : va_P D vwCl [(h, .inr (4, [.ref hT9, .int (nI 0), .int (nI pt0), .int (nI 1), .int (nI sp), .int mm])), (hT9, .inl (cI, 30, .inl T))] H := hP
  have hD : va_D AA [(h, .inr (4, [.ref hT9, .int (nI 0), .int (nI pt0), .int (nI 1), .int (nI sp), .int mm])), (hT9, .inl (cI, 30, .inl T))] := hD
  refine lv_aload_n hx hb dX4_speak_20 rfl (lv_at hl 0 rfl) ?_
  refine lv_iconst (v := nI 0) hx hb dX4_speak_21 (by decide) ?_
  refine va_put (ci := 4) (v := .int (nI 0)) (ty := .boolean) (C := RX4) (T := TX4) (N := 6) hx hb hts hin4 tyX4 tyX4_ok nmX4 hown hK hP hD hS 0 rfl rfl 2 (by decide) (hts (.fieldLink RX4 19 "UpAllRound$Voices" "parted" "Z") (List.mem_of_getElem? (i := 5) rfl)) (fun _ h9 => h9) rfl (by decide +kernel) rfl rfl (Nat.le_of_ble_eq_true rfl) dX4_speak_22 (fun H locs hP hD hS => ?_)
  have hP : va_P D vwCl [(h, .inr (4, [.ref hT9, .int (nI 0), .int (nI 0), .int (nI 1), .int (nI sp), .int mm])), (hT9, .inl (cI, 30, .inl T))] H := hP
  have hD : va_D AA [(h, .inr (4, [.ref hT9, .int (nI 0), .int (nI 0), .int (nI 1), .int (nI sp), .int mm])), (hT9, .inl (cI, 30, .inl T))] := hD
  refine lv_aload_n hx hb dX4_speak_25 rfl (lv_at hl 0 rfl) ?_
  refine lv_aload_n hx hb dX4_speak_26 rfl (lv_at hl 0 rfl) ?_
  refine va_get (ci := 4) (v := .int (nI 1)) (C := RX4) (T := TX4) (N := 6) hx hb hts hin4 hown hK hP 0 rfl rfl 3 (by decide) (hts (.fieldLink RX4 23 "UpAllRound$Voices" "kind" "I") (List.mem_of_getElem? (i := 1) rfl)) (fun _ h9 => h9) rfl dX4_speak_27 ?_
  refine lv_iload hx hb dX4_speak_30 (lv_at hl 4 rfl) ?_
  refine lv_iload hx hb dX4_speak_32 (lv_at hl 5 rfl) ?_
  refine lv_iconst (v := nI 0) hx hb dX4_speak_34 (by decide) ?_
  refine zci (wr := []) (va_runV (As := [.int (nI 1), .int (nI 0), .int x, .int (nI 0)]) (rest := []) ⟨hx, hb, hml, hown, hts⟩ (c_X4_say_1_0_1 l D cI cJ h hT9 T 0 sp mm x 0 (by first | rfl | assumption | omega) (by first | rfl | assumption | omega) H.size) (cwV 4 hts gX4_speak_X4_say rfl rfl rfl (by decide +kernel) ⟨Nat.le_of_ble_eq_true rfl, Nat.le_of_ble_eq_true rfl⟩) (zpV hK hN hZ hP hD hS hA [0, 1] rfl (by decide) 0 rfl rfl rfl) rfl rfl hl.1 rfl (lv_room (Nat.le_of_ble_eq_true rfl)) dX4_speak_35 ⟨Nat.zero_le _, Nat.zero_le _⟩) hP hD hS hA [0, 1] [] rfl rfl (by decide) (by decide) (fun r_3 w_2 H locs h_1 hP hD hS => ?_)
  obtain ⟨rfl, rfl⟩ := h_1
  have hP : va_P D vwCl [(h, .inr (4, [.ref hT9, .int (nI (((0 + 1) + 1))), .int (nI 0), .int (nI 1), .int (nI sp), .int mm])), (hT9, .inl (cI, 30, .inl ((upd (upd T 0 (nI 20)) (0 + 1) (nI 10)))))] H := hP
  have hD : va_D AA [(h, .inr (4, [.ref hT9, .int (nI (((0 + 1) + 1))), .int (nI 0), .int (nI 1), .int (nI sp), .int mm])), (hT9, .inl (cI, 30, .inl ((upd (upd T 0 (nI 20)) (0 + 1) (nI 10)))))] := hD
  exact hret hP hD hS dX4_speak_38 rfl (by exact ⟨rfl, rfl⟩)
set_option maxHeartbeats 4000000 in
set_option maxRecDepth 100000 in
theorem c_X4_speak_1_1 (l : Launch) (D : va_G) (cI cJ : ClassId) (h : Nat) (hT9 : Nat) (T : Nat → Int32) (tn0 : Nat) (pt0 : Nat) (K0 : Nat) (sp0 : Nat) (mm0 : Int32) (sp : Nat) (mm : Int32) (x : Int32)  : zMi l yX4_speak wsX4_speak ({ frames := 7, cells := 0, slots := 0, locals := 167 } : Room) D [(cI, .int), (cJ, .array .int)] [.ref h, .int (nI 1), .int (nI sp), .int mm, .int (nI 1), .int x] [(h, .inr (4, [.ref hT9, .int (nI tn0), .int (nI pt0), .int (nI K0), .int (nI sp0), .int mm0])), (hT9, .inl (cI, 30, .inl T))] (fun r w => r = (zcounts 1 1 sp mm x ) ∧ w = [(h, .inr (4, [.ref hT9, .int (nI ((((0 + 1) + 1) + 1))), .int (nI 0), .int (nI 1), .int (nI sp), .int mm])), (hT9, .inl (cI, 30, .inl ((upd (upd (upd T 0 (nI 11)) (0 + 1) (nI 20)) ((0 + 1) + 1) (nI 10)))))]) := by
  refine zMi.start (cc := cX4_speak) (maxL := 6) (rt := .int) (by first | decide | decide +kernel) rfl (Nat.le_of_ble_eq_true rfl) ?_
  intro pg ev s mt args below meth cd ls AA QQ ⟨hx, hb, hml, hr, hlocks, hown, hts, hK, hN, hZ, hP, hD, hA, hS, hl⟩ hret
  have hown : s.vm.findClass RX4 = some mt.cls := hown
  have hl : lv_has ls 6 [(0, .ref h), (1, .int (nI 1)), (2, .int (nI sp)), (3, .int mm), (4, .int (nI 1)), (5, .int x)] := hl
  have hin4 : ∀ w ∈ wsX40, w ∈ wsX4_speak := fun w h => List.mem_cons_of_mem _ (List.mem_append_right _ (h))
  refine lv_aload_n hx hb dX4_speak_0 rfl (lv_at hl 0 rfl) ?_
  refine lv_iload_n hx hb dX4_speak_1 rfl (lv_at hl 1 rfl) ?_
  refine va_put (ci := 4) (v := .int (nI 1)) (ty := .int) (C := RX4) (T := TX4) (N := 6) hx hb hts hin4 tyX4 tyX4_ok nmX4 hown hK hP hD hS 0 rfl rfl 3 (by decide) (hts (.fieldLink RX4 23 "UpAllRound$Voices" "kind" "I") (List.mem_of_getElem? (i := 1) rfl)) (fun _ h9 => h9) rfl (by decide +kernel) rfl rfl (Nat.le_of_ble_eq_true rfl) dX4_speak_2 (fun H locs hP hD hS => ?_)
  have hP : va_P D vwCl [(h, .inr (4, [.ref hT9, .int (nI tn0), .int (nI pt0), .int (nI 1), .int (nI sp0), .int mm0])), (hT9, .inl (cI, 30, .inl T))] H := hP
  have hD : va_D AA [(h, .inr (4, [.ref hT9, .int (nI tn0), .int (nI pt0), .int (nI 1), .int (nI sp0), .int mm0])), (hT9, .inl (cI, 30, .inl T))] := hD
  refine lv_aload_n hx hb dX4_speak_5 rfl (lv_at hl 0 rfl) ?_
  refine lv_iload_n hx hb dX4_speak_6 rfl (lv_at hl 2 rfl) ?_
  refine va_put (ci := 4) (v := .int (nI sp)) (ty := .int) (C := RX4) (T := TX4) (N := 6) hx hb hts hin4 tyX4 tyX4_ok nmX4 hown hK hP hD hS 0 rfl rfl 4 (by decide) (hts (.fieldLink RX4 26 "UpAllRound$Voices" "k" "I") (List.mem_of_getElem? (i := 2) rfl)) (fun _ h9 => h9) rfl (by decide +kernel) rfl rfl (Nat.le_of_ble_eq_true rfl) dX4_speak_7 (fun H locs hP hD hS => ?_)
  have hP : va_P D vwCl [(h, .inr (4, [.ref hT9, .int (nI tn0), .int (nI pt0), .int (nI 1), .int (nI sp), .int mm0])), (hT9, .inl (cI, 30, .inl T))] H := hP
  have hD : va_D AA [(h, .inr (4, [.ref hT9, .int (nI tn0), .int (nI pt0), .int (nI 1), .int (nI sp), .int mm0])), (hT9, .inl (cI, 30, .inl T))] := hD
  refine lv_aload_n hx hb dX4_speak_10 rfl (lv_at hl 0 rfl) ?_
  refine lv_iload_n hx hb dX4_speak_11 rfl (lv_at hl 3 rfl) ?_
  refine va_put (ci := 4) (v := .int mm) (ty := .int) (C := RX4) (T := TX4) (N := 6) hx hb hts hin4 tyX4 tyX4_ok nmX4 hown hK hP hD hS 0 rfl rfl 5 (by decide) (hts (.fieldLink RX4 29 "UpAllRound$Voices" "m" "I") (List.mem_of_getElem? (i := 3) rfl)) (fun _ h9 => h9) rfl (by decide +kernel) rfl rfl (Nat.le_of_ble_eq_true rfl) dX4_speak_12 (fun H locs hP hD hS => ?_)
  have hP : va_P D vwCl [(h, .inr (4, [.ref hT9, .int (nI tn0), .int (nI pt0), .int (nI 1), .int (nI sp), .int mm])), (hT9, .inl (cI, 30, .inl T))] H := hP
  have hD : va_D AA [(h, .inr (4, [.ref hT9, .int (nI tn0), .int (nI pt0), .int (nI 1), .int (nI sp), .int mm])), (hT9, .inl (cI, 30, .inl T))] := hD
  refine lv_aload_n hx hb dX4_speak_15 rfl (lv_at hl 0 rfl) ?_
  refine lv_iconst (v := nI 0) hx hb dX4_speak_16 (by decide) ?_
  refine va_put (ci := 4) (v := .int (nI 0)) (ty := .int) (C := RX4) (T := TX4) (N := 6) hx hb hts hin4 tyX4 tyX4_ok nmX4 hown hK hP hD hS 0 rfl rfl 1 (by decide) (hts (.fieldLink RX4 15 "UpAllRound$Voices" "traced" "I") (List.mem_of_getElem? (i := 4) rfl)) (fun _ h9 => h9) rfl (by decide +kernel) rfl rfl (Nat.le_of_ble_eq_true rfl) dX4_speak_17 (fun H locs hP hD hS => ?_)
  have hP : va_P D vwCl [(h, .inr (4, [.ref hT9, .int (nI 0), .int (nI pt0), .int (nI 1), .int (nI sp), .int mm])), (hT9, .inl (cI, 30, .inl T))] H := hP
  have hD : va_D AA [(h, .inr (4, [.ref hT9, .int (nI 0), .int (nI pt0), .int (nI 1), .int (nI sp), .int mm])), (hT9, .inl (cI, 30, .inl T))] := hD
  refine lv_aload_n hx hb dX4_speak_20 rfl (lv_at hl 0 rfl) ?_
  refine lv_iconst (v := nI 0) hx hb dX4_speak_21 (by decide) ?_
  refine va_put (ci := 4) (v := .int (nI 0)) (ty := .boolean) (C := RX4) (T := TX4) (N := 6) hx hb hts hin4 tyX4 tyX4_ok nmX4 hown hK hP hD hS 0 rfl rfl 2 (by decide) (hts (.fieldLink RX4 19 "UpAllRound$Voices" "parted" "Z") (List.mem_of_getElem? (i := 5) rfl)) (fun _ h9 => h9) rfl (by decide +kernel) rfl rfl (Nat.le_of_ble_eq_true rfl) dX4_speak_22 (fun H locs hP hD hS => ?_)
  have hP : va_P D vwCl [(h, .inr (4, [.ref hT9, .int (nI 0), .int (nI 0), .int (nI 1), .int (nI sp), .int mm])), (hT9, .inl (cI, 30, .inl T))] H := hP
  have hD : va_D AA [(h, .inr (4, [.ref hT9, .int (nI 0), .int (nI 0), .int (nI 1), .int (nI sp), .int mm])), (hT9, .inl (cI, 30, .inl T))] := hD
  refine lv_aload_n hx hb dX4_speak_25 rfl (lv_at hl 0 rfl) ?_
  refine lv_aload_n hx hb dX4_speak_26 rfl (lv_at hl 0 rfl) ?_
  refine va_get (ci := 4) (v := .int (nI 1)) (C := RX4) (T := TX4) (N := 6) hx hb hts hin4 hown hK hP 0 rfl rfl 3 (by decide) (hts (.fieldLink RX4 23 "UpAllRound$Voices" "kind" "I") (List.mem_of_getElem? (i := 1) rfl)) (fun _ h9 => h9) rfl dX4_speak_27 ?_
  refine lv_iload hx hb dX4_speak_30 (lv_at hl 4 rfl) ?_
  refine lv_iload hx hb dX4_speak_32 (lv_at hl 5 rfl) ?_
  refine lv_iconst (v := nI 0) hx hb dX4_speak_34 (by decide) ?_
  refine zci (wr := []) (va_runV (As := [.int (nI 1), .int (nI 1), .int x, .int (nI 0)]) (rest := []) ⟨hx, hb, hml, hown, hts⟩ (c_X4_say_1_1_1 l D cI cJ h hT9 T 0 sp mm x 0 (by first | rfl | assumption | omega) (by first | rfl | assumption | omega) H.size) (cwV 4 hts gX4_speak_X4_say rfl rfl rfl (by decide +kernel) ⟨Nat.le_of_ble_eq_true rfl, Nat.le_of_ble_eq_true rfl⟩) (zpV hK hN hZ hP hD hS hA [0, 1] rfl (by decide) 0 rfl rfl rfl) rfl rfl hl.1 rfl (lv_room (Nat.le_of_ble_eq_true rfl)) dX4_speak_35 ⟨Nat.zero_le _, Nat.zero_le _⟩) hP hD hS hA [0, 1] [] rfl rfl (by decide) (by decide) (fun r_3 w_2 H locs h_1 hP hD hS => ?_)
  obtain ⟨rfl, rfl⟩ := h_1
  have hP : va_P D vwCl [(h, .inr (4, [.ref hT9, .int (nI ((((0 + 1) + 1) + 1))), .int (nI 0), .int (nI 1), .int (nI sp), .int mm])), (hT9, .inl (cI, 30, .inl ((upd (upd (upd T 0 (nI 11)) (0 + 1) (nI 20)) ((0 + 1) + 1) (nI 10)))))] H := hP
  have hD : va_D AA [(h, .inr (4, [.ref hT9, .int (nI ((((0 + 1) + 1) + 1))), .int (nI 0), .int (nI 1), .int (nI sp), .int mm])), (hT9, .inl (cI, 30, .inl ((upd (upd (upd T 0 (nI 11)) (0 + 1) (nI 20)) ((0 + 1) + 1) (nI 10)))))] := hD
  exact hret hP hD hS dX4_speak_38 rfl (by exact ⟨rfl, rfl⟩)
set_option maxHeartbeats 4000000 in
set_option maxRecDepth 100000 in
theorem c_X4_speak_1_2 (l : Launch) (D : va_G) (cI cJ : ClassId) (h : Nat) (hT9 : Nat) (T : Nat → Int32) (tn0 : Nat) (pt0 : Nat) (K0 : Nat) (sp0 : Nat) (mm0 : Int32) (sp : Nat) (mm : Int32) (x : Int32)  : zMi l yX4_speak wsX4_speak ({ frames := 9, cells := 0, slots := 0, locals := 215 } : Room) D [(cI, .int), (cJ, .array .int)] [.ref h, .int (nI 1), .int (nI sp), .int mm, .int (nI 2), .int x] [(h, .inr (4, [.ref hT9, .int (nI tn0), .int (nI pt0), .int (nI K0), .int (nI sp0), .int mm0])), (hT9, .inl (cI, 30, .inl T))] (fun r w => r = (zswears 1 1 sp mm x ) ∧ w = [(h, .inr (4, [.ref hT9, .int (nI (((((0 + 1) + 1) + 1) + 1))), .int (nI 0), .int (nI 1), .int (nI sp), .int mm])), (hT9, .inl (cI, 30, .inl ((upd (upd (upd (upd T 0 (nI 12)) (0 + 1) (nI 11)) ((0 + 1) + 1) (nI 20)) (((0 + 1) + 1) + 1) (nI 10)))))]) := by
  refine zMi.start (cc := cX4_speak) (maxL := 6) (rt := .int) (by first | decide | decide +kernel) rfl (Nat.le_of_ble_eq_true rfl) ?_
  intro pg ev s mt args below meth cd ls AA QQ ⟨hx, hb, hml, hr, hlocks, hown, hts, hK, hN, hZ, hP, hD, hA, hS, hl⟩ hret
  have hown : s.vm.findClass RX4 = some mt.cls := hown
  have hl : lv_has ls 6 [(0, .ref h), (1, .int (nI 1)), (2, .int (nI sp)), (3, .int mm), (4, .int (nI 2)), (5, .int x)] := hl
  have hin4 : ∀ w ∈ wsX40, w ∈ wsX4_speak := fun w h => List.mem_cons_of_mem _ (List.mem_append_right _ (h))
  refine lv_aload_n hx hb dX4_speak_0 rfl (lv_at hl 0 rfl) ?_
  refine lv_iload_n hx hb dX4_speak_1 rfl (lv_at hl 1 rfl) ?_
  refine va_put (ci := 4) (v := .int (nI 1)) (ty := .int) (C := RX4) (T := TX4) (N := 6) hx hb hts hin4 tyX4 tyX4_ok nmX4 hown hK hP hD hS 0 rfl rfl 3 (by decide) (hts (.fieldLink RX4 23 "UpAllRound$Voices" "kind" "I") (List.mem_of_getElem? (i := 1) rfl)) (fun _ h9 => h9) rfl (by decide +kernel) rfl rfl (Nat.le_of_ble_eq_true rfl) dX4_speak_2 (fun H locs hP hD hS => ?_)
  have hP : va_P D vwCl [(h, .inr (4, [.ref hT9, .int (nI tn0), .int (nI pt0), .int (nI 1), .int (nI sp0), .int mm0])), (hT9, .inl (cI, 30, .inl T))] H := hP
  have hD : va_D AA [(h, .inr (4, [.ref hT9, .int (nI tn0), .int (nI pt0), .int (nI 1), .int (nI sp0), .int mm0])), (hT9, .inl (cI, 30, .inl T))] := hD
  refine lv_aload_n hx hb dX4_speak_5 rfl (lv_at hl 0 rfl) ?_
  refine lv_iload_n hx hb dX4_speak_6 rfl (lv_at hl 2 rfl) ?_
  refine va_put (ci := 4) (v := .int (nI sp)) (ty := .int) (C := RX4) (T := TX4) (N := 6) hx hb hts hin4 tyX4 tyX4_ok nmX4 hown hK hP hD hS 0 rfl rfl 4 (by decide) (hts (.fieldLink RX4 26 "UpAllRound$Voices" "k" "I") (List.mem_of_getElem? (i := 2) rfl)) (fun _ h9 => h9) rfl (by decide +kernel) rfl rfl (Nat.le_of_ble_eq_true rfl) dX4_speak_7 (fun H locs hP hD hS => ?_)
  have hP : va_P D vwCl [(h, .inr (4, [.ref hT9, .int (nI tn0), .int (nI pt0), .int (nI 1), .int (nI sp), .int mm0])), (hT9, .inl (cI, 30, .inl T))] H := hP
  have hD : va_D AA [(h, .inr (4, [.ref hT9, .int (nI tn0), .int (nI pt0), .int (nI 1), .int (nI sp), .int mm0])), (hT9, .inl (cI, 30, .inl T))] := hD
  refine lv_aload_n hx hb dX4_speak_10 rfl (lv_at hl 0 rfl) ?_
  refine lv_iload_n hx hb dX4_speak_11 rfl (lv_at hl 3 rfl) ?_
  refine va_put (ci := 4) (v := .int mm) (ty := .int) (C := RX4) (T := TX4) (N := 6) hx hb hts hin4 tyX4 tyX4_ok nmX4 hown hK hP hD hS 0 rfl rfl 5 (by decide) (hts (.fieldLink RX4 29 "UpAllRound$Voices" "m" "I") (List.mem_of_getElem? (i := 3) rfl)) (fun _ h9 => h9) rfl (by decide +kernel) rfl rfl (Nat.le_of_ble_eq_true rfl) dX4_speak_12 (fun H locs hP hD hS => ?_)
  have hP : va_P D vwCl [(h, .inr (4, [.ref hT9, .int (nI tn0), .int (nI pt0), .int (nI 1), .int (nI sp), .int mm])), (hT9, .inl (cI, 30, .inl T))] H := hP
  have hD : va_D AA [(h, .inr (4, [.ref hT9, .int (nI tn0), .int (nI pt0), .int (nI 1), .int (nI sp), .int mm])), (hT9, .inl (cI, 30, .inl T))] := hD
  refine lv_aload_n hx hb dX4_speak_15 rfl (lv_at hl 0 rfl) ?_
  refine lv_iconst (v := nI 0) hx hb dX4_speak_16 (by decide) ?_
  refine va_put (ci := 4) (v := .int (nI 0)) (ty := .int) (C := RX4) (T := TX4) (N := 6) hx hb hts hin4 tyX4 tyX4_ok nmX4 hown hK hP hD hS 0 rfl rfl 1 (by decide) (hts (.fieldLink RX4 15 "UpAllRound$Voices" "traced" "I") (List.mem_of_getElem? (i := 4) rfl)) (fun _ h9 => h9) rfl (by decide +kernel) rfl rfl (Nat.le_of_ble_eq_true rfl) dX4_speak_17 (fun H locs hP hD hS => ?_)
  have hP : va_P D vwCl [(h, .inr (4, [.ref hT9, .int (nI 0), .int (nI pt0), .int (nI 1), .int (nI sp), .int mm])), (hT9, .inl (cI, 30, .inl T))] H := hP
  have hD : va_D AA [(h, .inr (4, [.ref hT9, .int (nI 0), .int (nI pt0), .int (nI 1), .int (nI sp), .int mm])), (hT9, .inl (cI, 30, .inl T))] := hD
  refine lv_aload_n hx hb dX4_speak_20 rfl (lv_at hl 0 rfl) ?_
  refine lv_iconst (v := nI 0) hx hb dX4_speak_21 (by decide) ?_
  refine va_put (ci := 4) (v := .int (nI 0)) (ty := .boolean) (C := RX4) (T := TX4) (N := 6) hx hb hts hin4 tyX4 tyX4_ok nmX4 hown hK hP hD hS 0 rfl rfl 2 (by decide) (hts (.fieldLink RX4 19 "UpAllRound$Voices" "parted" "Z") (List.mem_of_getElem? (i := 5) rfl)) (fun _ h9 => h9) rfl (by decide +kernel) rfl rfl (Nat.le_of_ble_eq_true rfl) dX4_speak_22 (fun H locs hP hD hS => ?_)
  have hP : va_P D vwCl [(h, .inr (4, [.ref hT9, .int (nI 0), .int (nI 0), .int (nI 1), .int (nI sp), .int mm])), (hT9, .inl (cI, 30, .inl T))] H := hP
  have hD : va_D AA [(h, .inr (4, [.ref hT9, .int (nI 0), .int (nI 0), .int (nI 1), .int (nI sp), .int mm])), (hT9, .inl (cI, 30, .inl T))] := hD
  refine lv_aload_n hx hb dX4_speak_25 rfl (lv_at hl 0 rfl) ?_
  refine lv_aload_n hx hb dX4_speak_26 rfl (lv_at hl 0 rfl) ?_
  refine va_get (ci := 4) (v := .int (nI 1)) (C := RX4) (T := TX4) (N := 6) hx hb hts hin4 hown hK hP 0 rfl rfl 3 (by decide) (hts (.fieldLink RX4 23 "UpAllRound$Voices" "kind" "I") (List.mem_of_getElem? (i := 1) rfl)) (fun _ h9 => h9) rfl dX4_speak_27 ?_
  refine lv_iload hx hb dX4_speak_30 (lv_at hl 4 rfl) ?_
  refine lv_iload hx hb dX4_speak_32 (lv_at hl 5 rfl) ?_
  refine lv_iconst (v := nI 0) hx hb dX4_speak_34 (by decide) ?_
  refine zci (wr := []) (va_runV (As := [.int (nI 1), .int (nI 2), .int x, .int (nI 0)]) (rest := []) ⟨hx, hb, hml, hown, hts⟩ (c_X4_say_1_2_1 l D cI cJ h hT9 T 0 sp mm x 0 (by first | rfl | assumption | omega) (by first | rfl | assumption | omega) H.size) (cwV 4 hts gX4_speak_X4_say rfl rfl rfl (by decide +kernel) ⟨Nat.le_of_ble_eq_true rfl, Nat.le_of_ble_eq_true rfl⟩) (zpV hK hN hZ hP hD hS hA [0, 1] rfl (by decide) 0 rfl rfl rfl) rfl rfl hl.1 rfl (lv_room (Nat.le_of_ble_eq_true rfl)) dX4_speak_35 ⟨Nat.zero_le _, Nat.zero_le _⟩) hP hD hS hA [0, 1] [] rfl rfl (by decide) (by decide) (fun r_3 w_2 H locs h_1 hP hD hS => ?_)
  obtain ⟨rfl, rfl⟩ := h_1
  have hP : va_P D vwCl [(h, .inr (4, [.ref hT9, .int (nI (((((0 + 1) + 1) + 1) + 1))), .int (nI 0), .int (nI 1), .int (nI sp), .int mm])), (hT9, .inl (cI, 30, .inl ((upd (upd (upd (upd T 0 (nI 12)) (0 + 1) (nI 11)) ((0 + 1) + 1) (nI 20)) (((0 + 1) + 1) + 1) (nI 10)))))] H := hP
  have hD : va_D AA [(h, .inr (4, [.ref hT9, .int (nI (((((0 + 1) + 1) + 1) + 1))), .int (nI 0), .int (nI 1), .int (nI sp), .int mm])), (hT9, .inl (cI, 30, .inl ((upd (upd (upd (upd T 0 (nI 12)) (0 + 1) (nI 11)) ((0 + 1) + 1) (nI 20)) (((0 + 1) + 1) + 1) (nI 10)))))] := hD
  exact hret hP hD hS dX4_speak_38 rfl (by exact ⟨rfl, rfl⟩)
set_option maxHeartbeats 4000000 in
set_option maxRecDepth 100000 in
theorem c_X4_speak_1_3 (l : Launch) (D : va_G) (cI cJ : ClassId) (h : Nat) (hT9 : Nat) (T : Nat → Int32) (tn0 : Nat) (pt0 : Nat) (K0 : Nat) (sp0 : Nat) (mm0 : Int32) (sp : Nat) (mm : Int32) (x : Int32)  : zMi l yX4_speak wsX4_speak ({ frames := 9, cells := 0, slots := 0, locals := 215 } : Room) D [(cI, .int), (cJ, .array .int)] [.ref h, .int (nI 1), .int (nI sp), .int mm, .int (nI 3), .int x] [(h, .inr (4, [.ref hT9, .int (nI tn0), .int (nI pt0), .int (nI K0), .int (nI sp0), .int mm0])), (hT9, .inl (cI, 30, .inl T))] (fun r w => r = (zparts 1 sp mm x) ∧ w = [(h, .inr (4, [.ref hT9, .int (nI ((if (mm - nI sp = 0) then ((0 + 1) + 1) else (((((0 + 1) + 1) + 1) + 1) + 1)))), .int (nI ((zpd sp mm))), .int (nI 1), .int (nI sp), .int mm])), (hT9, .inl (cI, 30, .inl ((if (mm - nI sp = 0) then (upd (upd T 0 (nI 21)) (0 + 1) (nI 13)) else (upd (upd (upd (upd (upd T 0 (nI 21)) (0 + 1) (nI 13)) ((0 + 1) + 1) (nI 11)) (((0 + 1) + 1) + 1) (nI 20)) ((((0 + 1) + 1) + 1) + 1) (nI 10))))))]) := by
  refine zMi.start (cc := cX4_speak) (maxL := 6) (rt := .int) (by first | decide | decide +kernel) rfl (Nat.le_of_ble_eq_true rfl) ?_
  intro pg ev s mt args below meth cd ls AA QQ ⟨hx, hb, hml, hr, hlocks, hown, hts, hK, hN, hZ, hP, hD, hA, hS, hl⟩ hret
  have hown : s.vm.findClass RX4 = some mt.cls := hown
  have hl : lv_has ls 6 [(0, .ref h), (1, .int (nI 1)), (2, .int (nI sp)), (3, .int mm), (4, .int (nI 3)), (5, .int x)] := hl
  have hin4 : ∀ w ∈ wsX40, w ∈ wsX4_speak := fun w h => List.mem_cons_of_mem _ (List.mem_append_right _ (h))
  refine lv_aload_n hx hb dX4_speak_0 rfl (lv_at hl 0 rfl) ?_
  refine lv_iload_n hx hb dX4_speak_1 rfl (lv_at hl 1 rfl) ?_
  refine va_put (ci := 4) (v := .int (nI 1)) (ty := .int) (C := RX4) (T := TX4) (N := 6) hx hb hts hin4 tyX4 tyX4_ok nmX4 hown hK hP hD hS 0 rfl rfl 3 (by decide) (hts (.fieldLink RX4 23 "UpAllRound$Voices" "kind" "I") (List.mem_of_getElem? (i := 1) rfl)) (fun _ h9 => h9) rfl (by decide +kernel) rfl rfl (Nat.le_of_ble_eq_true rfl) dX4_speak_2 (fun H locs hP hD hS => ?_)
  have hP : va_P D vwCl [(h, .inr (4, [.ref hT9, .int (nI tn0), .int (nI pt0), .int (nI 1), .int (nI sp0), .int mm0])), (hT9, .inl (cI, 30, .inl T))] H := hP
  have hD : va_D AA [(h, .inr (4, [.ref hT9, .int (nI tn0), .int (nI pt0), .int (nI 1), .int (nI sp0), .int mm0])), (hT9, .inl (cI, 30, .inl T))] := hD
  refine lv_aload_n hx hb dX4_speak_5 rfl (lv_at hl 0 rfl) ?_
  refine lv_iload_n hx hb dX4_speak_6 rfl (lv_at hl 2 rfl) ?_
  refine va_put (ci := 4) (v := .int (nI sp)) (ty := .int) (C := RX4) (T := TX4) (N := 6) hx hb hts hin4 tyX4 tyX4_ok nmX4 hown hK hP hD hS 0 rfl rfl 4 (by decide) (hts (.fieldLink RX4 26 "UpAllRound$Voices" "k" "I") (List.mem_of_getElem? (i := 2) rfl)) (fun _ h9 => h9) rfl (by decide +kernel) rfl rfl (Nat.le_of_ble_eq_true rfl) dX4_speak_7 (fun H locs hP hD hS => ?_)
  have hP : va_P D vwCl [(h, .inr (4, [.ref hT9, .int (nI tn0), .int (nI pt0), .int (nI 1), .int (nI sp), .int mm0])), (hT9, .inl (cI, 30, .inl T))] H := hP
  have hD : va_D AA [(h, .inr (4, [.ref hT9, .int (nI tn0), .int (nI pt0), .int (nI 1), .int (nI sp), .int mm0])), (hT9, .inl (cI, 30, .inl T))] := hD
  refine lv_aload_n hx hb dX4_speak_10 rfl (lv_at hl 0 rfl) ?_
  refine lv_iload_n hx hb dX4_speak_11 rfl (lv_at hl 3 rfl) ?_
  refine va_put (ci := 4) (v := .int mm) (ty := .int) (C := RX4) (T := TX4) (N := 6) hx hb hts hin4 tyX4 tyX4_ok nmX4 hown hK hP hD hS 0 rfl rfl 5 (by decide) (hts (.fieldLink RX4 29 "UpAllRound$Voices" "m" "I") (List.mem_of_getElem? (i := 3) rfl)) (fun _ h9 => h9) rfl (by decide +kernel) rfl rfl (Nat.le_of_ble_eq_true rfl) dX4_speak_12 (fun H locs hP hD hS => ?_)
  have hP : va_P D vwCl [(h, .inr (4, [.ref hT9, .int (nI tn0), .int (nI pt0), .int (nI 1), .int (nI sp), .int mm])), (hT9, .inl (cI, 30, .inl T))] H := hP
  have hD : va_D AA [(h, .inr (4, [.ref hT9, .int (nI tn0), .int (nI pt0), .int (nI 1), .int (nI sp), .int mm])), (hT9, .inl (cI, 30, .inl T))] := hD
  refine lv_aload_n hx hb dX4_speak_15 rfl (lv_at hl 0 rfl) ?_
  refine lv_iconst (v := nI 0) hx hb dX4_speak_16 (by decide) ?_
  refine va_put (ci := 4) (v := .int (nI 0)) (ty := .int) (C := RX4) (T := TX4) (N := 6) hx hb hts hin4 tyX4 tyX4_ok nmX4 hown hK hP hD hS 0 rfl rfl 1 (by decide) (hts (.fieldLink RX4 15 "UpAllRound$Voices" "traced" "I") (List.mem_of_getElem? (i := 4) rfl)) (fun _ h9 => h9) rfl (by decide +kernel) rfl rfl (Nat.le_of_ble_eq_true rfl) dX4_speak_17 (fun H locs hP hD hS => ?_)
  have hP : va_P D vwCl [(h, .inr (4, [.ref hT9, .int (nI 0), .int (nI pt0), .int (nI 1), .int (nI sp), .int mm])), (hT9, .inl (cI, 30, .inl T))] H := hP
  have hD : va_D AA [(h, .inr (4, [.ref hT9, .int (nI 0), .int (nI pt0), .int (nI 1), .int (nI sp), .int mm])), (hT9, .inl (cI, 30, .inl T))] := hD
  refine lv_aload_n hx hb dX4_speak_20 rfl (lv_at hl 0 rfl) ?_
  refine lv_iconst (v := nI 0) hx hb dX4_speak_21 (by decide) ?_
  refine va_put (ci := 4) (v := .int (nI 0)) (ty := .boolean) (C := RX4) (T := TX4) (N := 6) hx hb hts hin4 tyX4 tyX4_ok nmX4 hown hK hP hD hS 0 rfl rfl 2 (by decide) (hts (.fieldLink RX4 19 "UpAllRound$Voices" "parted" "Z") (List.mem_of_getElem? (i := 5) rfl)) (fun _ h9 => h9) rfl (by decide +kernel) rfl rfl (Nat.le_of_ble_eq_true rfl) dX4_speak_22 (fun H locs hP hD hS => ?_)
  have hP : va_P D vwCl [(h, .inr (4, [.ref hT9, .int (nI 0), .int (nI 0), .int (nI 1), .int (nI sp), .int mm])), (hT9, .inl (cI, 30, .inl T))] H := hP
  have hD : va_D AA [(h, .inr (4, [.ref hT9, .int (nI 0), .int (nI 0), .int (nI 1), .int (nI sp), .int mm])), (hT9, .inl (cI, 30, .inl T))] := hD
  refine lv_aload_n hx hb dX4_speak_25 rfl (lv_at hl 0 rfl) ?_
  refine lv_aload_n hx hb dX4_speak_26 rfl (lv_at hl 0 rfl) ?_
  refine va_get (ci := 4) (v := .int (nI 1)) (C := RX4) (T := TX4) (N := 6) hx hb hts hin4 hown hK hP 0 rfl rfl 3 (by decide) (hts (.fieldLink RX4 23 "UpAllRound$Voices" "kind" "I") (List.mem_of_getElem? (i := 1) rfl)) (fun _ h9 => h9) rfl dX4_speak_27 ?_
  refine lv_iload hx hb dX4_speak_30 (lv_at hl 4 rfl) ?_
  refine lv_iload hx hb dX4_speak_32 (lv_at hl 5 rfl) ?_
  refine lv_iconst (v := nI 0) hx hb dX4_speak_34 (by decide) ?_
  refine zci (wr := []) (va_runV (As := [.int (nI 1), .int (nI 3), .int x, .int (nI 0)]) (rest := []) ⟨hx, hb, hml, hown, hts⟩ (c_X4_say_1_3_1 l D cI cJ h hT9 T 0 sp mm x 0 (by first | rfl | assumption | omega) (by first | rfl | assumption | omega) H.size) (cwV 4 hts gX4_speak_X4_say rfl rfl rfl (by decide +kernel) ⟨Nat.le_of_ble_eq_true rfl, Nat.le_of_ble_eq_true rfl⟩) (zpV hK hN hZ hP hD hS hA [0, 1] rfl (by decide) 0 rfl rfl rfl) rfl rfl hl.1 rfl (lv_room (Nat.le_of_ble_eq_true rfl)) dX4_speak_35 ⟨Nat.zero_le _, Nat.zero_le _⟩) hP hD hS hA [0, 1] [] rfl rfl (by decide) (by decide) (fun r_3 w_2 H locs h_1 hP hD hS => ?_)
  obtain ⟨rfl, rfl⟩ := h_1
  have hP : va_P D vwCl [(h, .inr (4, [.ref hT9, .int (nI ((if (mm - nI sp = 0) then ((0 + 1) + 1) else (((((0 + 1) + 1) + 1) + 1) + 1)))), .int (nI ((zpd sp mm))), .int (nI 1), .int (nI sp), .int mm])), (hT9, .inl (cI, 30, .inl ((if (mm - nI sp = 0) then (upd (upd T 0 (nI 21)) (0 + 1) (nI 13)) else (upd (upd (upd (upd (upd T 0 (nI 21)) (0 + 1) (nI 13)) ((0 + 1) + 1) (nI 11)) (((0 + 1) + 1) + 1) (nI 20)) ((((0 + 1) + 1) + 1) + 1) (nI 10))))))] H := hP
  have hD : va_D AA [(h, .inr (4, [.ref hT9, .int (nI ((if (mm - nI sp = 0) then ((0 + 1) + 1) else (((((0 + 1) + 1) + 1) + 1) + 1)))), .int (nI ((zpd sp mm))), .int (nI 1), .int (nI sp), .int mm])), (hT9, .inl (cI, 30, .inl ((if (mm - nI sp = 0) then (upd (upd T 0 (nI 21)) (0 + 1) (nI 13)) else (upd (upd (upd (upd (upd T 0 (nI 21)) (0 + 1) (nI 13)) ((0 + 1) + 1) (nI 11)) (((0 + 1) + 1) + 1) (nI 20)) ((((0 + 1) + 1) + 1) + 1) (nI 10))))))] := hD
  exact hret hP hD hS dX4_speak_38 rfl (by exact ⟨rfl, rfl⟩)
set_option maxHeartbeats 4000000 in
set_option maxRecDepth 100000 in
theorem c_X4_speak_2_0 (l : Launch) (D : va_G) (cI cJ : ClassId) (h : Nat) (hT9 : Nat) (T : Nat → Int32) (tn0 : Nat) (pt0 : Nat) (K0 : Nat) (sp0 : Nat) (mm0 : Int32) (sp : Nat) (mm : Int32) (x : Int32)  : zMi l yX4_speak wsX4_speak ({ frames := 3, cells := 0, slots := 0, locals := 71 } : Room) D [(cI, .int), (cJ, .array .int)] [.ref h, .int (nI 2), .int (nI sp), .int mm, .int (nI 0), .int x] [(h, .inr (4, [.ref hT9, .int (nI tn0), .int (nI pt0), .int (nI K0), .int (nI sp0), .int mm0])), (hT9, .inl (cI, 30, .inl T))] (fun r w => r = (zpants 2 sp x ) ∧ w = [(h, .inr (4, [.ref hT9, .int (nI ((0 + 1))), .int (nI 0), .int (nI 2), .int (nI sp), .int mm])), (hT9, .inl (cI, 30, .inl ((upd T 0 (nI 10)))))]) := by
  refine zMi.start (cc := cX4_speak) (maxL := 6) (rt := .int) (by first | decide | decide +kernel) rfl (Nat.le_of_ble_eq_true rfl) ?_
  intro pg ev s mt args below meth cd ls AA QQ ⟨hx, hb, hml, hr, hlocks, hown, hts, hK, hN, hZ, hP, hD, hA, hS, hl⟩ hret
  have hown : s.vm.findClass RX4 = some mt.cls := hown
  have hl : lv_has ls 6 [(0, .ref h), (1, .int (nI 2)), (2, .int (nI sp)), (3, .int mm), (4, .int (nI 0)), (5, .int x)] := hl
  have hin4 : ∀ w ∈ wsX40, w ∈ wsX4_speak := fun w h => List.mem_cons_of_mem _ (List.mem_append_right _ (h))
  refine lv_aload_n hx hb dX4_speak_0 rfl (lv_at hl 0 rfl) ?_
  refine lv_iload_n hx hb dX4_speak_1 rfl (lv_at hl 1 rfl) ?_
  refine va_put (ci := 4) (v := .int (nI 2)) (ty := .int) (C := RX4) (T := TX4) (N := 6) hx hb hts hin4 tyX4 tyX4_ok nmX4 hown hK hP hD hS 0 rfl rfl 3 (by decide) (hts (.fieldLink RX4 23 "UpAllRound$Voices" "kind" "I") (List.mem_of_getElem? (i := 1) rfl)) (fun _ h9 => h9) rfl (by decide +kernel) rfl rfl (Nat.le_of_ble_eq_true rfl) dX4_speak_2 (fun H locs hP hD hS => ?_)
  have hP : va_P D vwCl [(h, .inr (4, [.ref hT9, .int (nI tn0), .int (nI pt0), .int (nI 2), .int (nI sp0), .int mm0])), (hT9, .inl (cI, 30, .inl T))] H := hP
  have hD : va_D AA [(h, .inr (4, [.ref hT9, .int (nI tn0), .int (nI pt0), .int (nI 2), .int (nI sp0), .int mm0])), (hT9, .inl (cI, 30, .inl T))] := hD
  refine lv_aload_n hx hb dX4_speak_5 rfl (lv_at hl 0 rfl) ?_
  refine lv_iload_n hx hb dX4_speak_6 rfl (lv_at hl 2 rfl) ?_
  refine va_put (ci := 4) (v := .int (nI sp)) (ty := .int) (C := RX4) (T := TX4) (N := 6) hx hb hts hin4 tyX4 tyX4_ok nmX4 hown hK hP hD hS 0 rfl rfl 4 (by decide) (hts (.fieldLink RX4 26 "UpAllRound$Voices" "k" "I") (List.mem_of_getElem? (i := 2) rfl)) (fun _ h9 => h9) rfl (by decide +kernel) rfl rfl (Nat.le_of_ble_eq_true rfl) dX4_speak_7 (fun H locs hP hD hS => ?_)
  have hP : va_P D vwCl [(h, .inr (4, [.ref hT9, .int (nI tn0), .int (nI pt0), .int (nI 2), .int (nI sp), .int mm0])), (hT9, .inl (cI, 30, .inl T))] H := hP
  have hD : va_D AA [(h, .inr (4, [.ref hT9, .int (nI tn0), .int (nI pt0), .int (nI 2), .int (nI sp), .int mm0])), (hT9, .inl (cI, 30, .inl T))] := hD
  refine lv_aload_n hx hb dX4_speak_10 rfl (lv_at hl 0 rfl) ?_
  refine lv_iload_n hx hb dX4_speak_11 rfl (lv_at hl 3 rfl) ?_
  refine va_put (ci := 4) (v := .int mm) (ty := .int) (C := RX4) (T := TX4) (N := 6) hx hb hts hin4 tyX4 tyX4_ok nmX4 hown hK hP hD hS 0 rfl rfl 5 (by decide) (hts (.fieldLink RX4 29 "UpAllRound$Voices" "m" "I") (List.mem_of_getElem? (i := 3) rfl)) (fun _ h9 => h9) rfl (by decide +kernel) rfl rfl (Nat.le_of_ble_eq_true rfl) dX4_speak_12 (fun H locs hP hD hS => ?_)
  have hP : va_P D vwCl [(h, .inr (4, [.ref hT9, .int (nI tn0), .int (nI pt0), .int (nI 2), .int (nI sp), .int mm])), (hT9, .inl (cI, 30, .inl T))] H := hP
  have hD : va_D AA [(h, .inr (4, [.ref hT9, .int (nI tn0), .int (nI pt0), .int (nI 2), .int (nI sp), .int mm])), (hT9, .inl (cI, 30, .inl T))] := hD
  refine lv_aload_n hx hb dX4_speak_15 rfl (lv_at hl 0 rfl) ?_
  refine lv_iconst (v := nI 0) hx hb dX4_speak_16 (by decide) ?_
  refine va_put (ci := 4) (v := .int (nI 0)) (ty := .int) (C := RX4) (T := TX4) (N := 6) hx hb hts hin4 tyX4 tyX4_ok nmX4 hown hK hP hD hS 0 rfl rfl 1 (by decide) (hts (.fieldLink RX4 15 "UpAllRound$Voices" "traced" "I") (List.mem_of_getElem? (i := 4) rfl)) (fun _ h9 => h9) rfl (by decide +kernel) rfl rfl (Nat.le_of_ble_eq_true rfl) dX4_speak_17 (fun H locs hP hD hS => ?_)
  have hP : va_P D vwCl [(h, .inr (4, [.ref hT9, .int (nI 0), .int (nI pt0), .int (nI 2), .int (nI sp), .int mm])), (hT9, .inl (cI, 30, .inl T))] H := hP
  have hD : va_D AA [(h, .inr (4, [.ref hT9, .int (nI 0), .int (nI pt0), .int (nI 2), .int (nI sp), .int mm])), (hT9, .inl (cI, 30, .inl T))] := hD
  refine lv_aload_n hx hb dX4_speak_20 rfl (lv_at hl 0 rfl) ?_
  refine lv_iconst (v := nI 0) hx hb dX4_speak_21 (by decide) ?_
  refine va_put (ci := 4) (v := .int (nI 0)) (ty := .boolean) (C := RX4) (T := TX4) (N := 6) hx hb hts hin4 tyX4 tyX4_ok nmX4 hown hK hP hD hS 0 rfl rfl 2 (by decide) (hts (.fieldLink RX4 19 "UpAllRound$Voices" "parted" "Z") (List.mem_of_getElem? (i := 5) rfl)) (fun _ h9 => h9) rfl (by decide +kernel) rfl rfl (Nat.le_of_ble_eq_true rfl) dX4_speak_22 (fun H locs hP hD hS => ?_)
  have hP : va_P D vwCl [(h, .inr (4, [.ref hT9, .int (nI 0), .int (nI 0), .int (nI 2), .int (nI sp), .int mm])), (hT9, .inl (cI, 30, .inl T))] H := hP
  have hD : va_D AA [(h, .inr (4, [.ref hT9, .int (nI 0), .int (nI 0), .int (nI 2), .int (nI sp), .int mm])), (hT9, .inl (cI, 30, .inl T))] := hD
  refine lv_aload_n hx hb dX4_speak_25 rfl (lv_at hl 0 rfl) ?_
  refine lv_aload_n hx hb dX4_speak_26 rfl (lv_at hl 0 rfl) ?_
  refine va_get (ci := 4) (v := .int (nI 2)) (C := RX4) (T := TX4) (N := 6) hx hb hts hin4 hown hK hP 0 rfl rfl 3 (by decide) (hts (.fieldLink RX4 23 "UpAllRound$Voices" "kind" "I") (List.mem_of_getElem? (i := 1) rfl)) (fun _ h9 => h9) rfl dX4_speak_27 ?_
  refine lv_iload hx hb dX4_speak_30 (lv_at hl 4 rfl) ?_
  refine lv_iload hx hb dX4_speak_32 (lv_at hl 5 rfl) ?_
  refine lv_iconst (v := nI 0) hx hb dX4_speak_34 (by decide) ?_
  refine zci (wr := []) (va_runV (As := [.int (nI 2), .int (nI 0), .int x, .int (nI 0)]) (rest := []) ⟨hx, hb, hml, hown, hts⟩ (c_X4_say_2_0_2 l D cI cJ h hT9 T 0 sp mm x 0 (by first | rfl | assumption | omega) (by first | rfl | assumption | omega) H.size) (cwV 4 hts gX4_speak_X4_say rfl rfl rfl (by decide +kernel) ⟨Nat.le_of_ble_eq_true rfl, Nat.le_of_ble_eq_true rfl⟩) (zpV hK hN hZ hP hD hS hA [0, 1] rfl (by decide) 0 rfl rfl rfl) rfl rfl hl.1 rfl (lv_room (Nat.le_of_ble_eq_true rfl)) dX4_speak_35 ⟨Nat.zero_le _, Nat.zero_le _⟩) hP hD hS hA [0, 1] [] rfl rfl (by decide) (by decide) (fun r_3 w_2 H locs h_1 hP hD hS => ?_)
  obtain ⟨rfl, rfl⟩ := h_1
  have hP : va_P D vwCl [(h, .inr (4, [.ref hT9, .int (nI ((0 + 1))), .int (nI 0), .int (nI 2), .int (nI sp), .int mm])), (hT9, .inl (cI, 30, .inl ((upd T 0 (nI 10)))))] H := hP
  have hD : va_D AA [(h, .inr (4, [.ref hT9, .int (nI ((0 + 1))), .int (nI 0), .int (nI 2), .int (nI sp), .int mm])), (hT9, .inl (cI, 30, .inl ((upd T 0 (nI 10)))))] := hD
  exact hret hP hD hS dX4_speak_38 rfl (by exact ⟨rfl, rfl⟩)
set_option maxHeartbeats 4000000 in
set_option maxRecDepth 100000 in
theorem c_X4_speak_2_1 (l : Launch) (D : va_G) (cI cJ : ClassId) (h : Nat) (hT9 : Nat) (T : Nat → Int32) (tn0 : Nat) (pt0 : Nat) (K0 : Nat) (sp0 : Nat) (mm0 : Int32) (sp : Nat) (mm : Int32) (x : Int32)  : zMi l yX4_speak wsX4_speak ({ frames := 7, cells := 0, slots := 0, locals := 167 } : Room) D [(cI, .int), (cJ, .array .int)] [.ref h, .int (nI 2), .int (nI sp), .int mm, .int (nI 1), .int x] [(h, .inr (4, [.ref hT9, .int (nI tn0), .int (nI pt0), .int (nI K0), .int (nI sp0), .int mm0])), (hT9, .inl (cI, 30, .inl T))] (fun r w => r = (zcounts 2 2 sp mm x ) ∧ w = [(h, .inr (4, [.ref hT9, .int (nI ((((0 + 1) + 1) + 1))), .int (nI 0), .int (nI 2), .int (nI sp), .int mm])), (hT9, .inl (cI, 30, .inl ((upd (upd (upd T 0 (nI 30)) (0 + 1) (nI 11)) ((0 + 1) + 1) (nI 10)))))]) := by
  refine zMi.start (cc := cX4_speak) (maxL := 6) (rt := .int) (by first | decide | decide +kernel) rfl (Nat.le_of_ble_eq_true rfl) ?_
  intro pg ev s mt args below meth cd ls AA QQ ⟨hx, hb, hml, hr, hlocks, hown, hts, hK, hN, hZ, hP, hD, hA, hS, hl⟩ hret
  have hown : s.vm.findClass RX4 = some mt.cls := hown
  have hl : lv_has ls 6 [(0, .ref h), (1, .int (nI 2)), (2, .int (nI sp)), (3, .int mm), (4, .int (nI 1)), (5, .int x)] := hl
  have hin4 : ∀ w ∈ wsX40, w ∈ wsX4_speak := fun w h => List.mem_cons_of_mem _ (List.mem_append_right _ (h))
  refine lv_aload_n hx hb dX4_speak_0 rfl (lv_at hl 0 rfl) ?_
  refine lv_iload_n hx hb dX4_speak_1 rfl (lv_at hl 1 rfl) ?_
  refine va_put (ci := 4) (v := .int (nI 2)) (ty := .int) (C := RX4) (T := TX4) (N := 6) hx hb hts hin4 tyX4 tyX4_ok nmX4 hown hK hP hD hS 0 rfl rfl 3 (by decide) (hts (.fieldLink RX4 23 "UpAllRound$Voices" "kind" "I") (List.mem_of_getElem? (i := 1) rfl)) (fun _ h9 => h9) rfl (by decide +kernel) rfl rfl (Nat.le_of_ble_eq_true rfl) dX4_speak_2 (fun H locs hP hD hS => ?_)
  have hP : va_P D vwCl [(h, .inr (4, [.ref hT9, .int (nI tn0), .int (nI pt0), .int (nI 2), .int (nI sp0), .int mm0])), (hT9, .inl (cI, 30, .inl T))] H := hP
  have hD : va_D AA [(h, .inr (4, [.ref hT9, .int (nI tn0), .int (nI pt0), .int (nI 2), .int (nI sp0), .int mm0])), (hT9, .inl (cI, 30, .inl T))] := hD
  refine lv_aload_n hx hb dX4_speak_5 rfl (lv_at hl 0 rfl) ?_
  refine lv_iload_n hx hb dX4_speak_6 rfl (lv_at hl 2 rfl) ?_
  refine va_put (ci := 4) (v := .int (nI sp)) (ty := .int) (C := RX4) (T := TX4) (N := 6) hx hb hts hin4 tyX4 tyX4_ok nmX4 hown hK hP hD hS 0 rfl rfl 4 (by decide) (hts (.fieldLink RX4 26 "UpAllRound$Voices" "k" "I") (List.mem_of_getElem? (i := 2) rfl)) (fun _ h9 => h9) rfl (by decide +kernel) rfl rfl (Nat.le_of_ble_eq_true rfl) dX4_speak_7 (fun H locs hP hD hS => ?_)
  have hP : va_P D vwCl [(h, .inr (4, [.ref hT9, .int (nI tn0), .int (nI pt0), .int (nI 2), .int (nI sp), .int mm0])), (hT9, .inl (cI, 30, .inl T))] H := hP
  have hD : va_D AA [(h, .inr (4, [.ref hT9, .int (nI tn0), .int (nI pt0), .int (nI 2), .int (nI sp), .int mm0])), (hT9, .inl (cI, 30, .inl T))] := hD
  refine lv_aload_n hx hb dX4_speak_10 rfl (lv_at hl 0 rfl) ?_
  refine lv_iload_n hx hb dX4_speak_11 rfl (lv_at hl 3 rfl) ?_
  refine va_put (ci := 4) (v := .int mm) (ty := .int) (C := RX4) (T := TX4) (N := 6) hx hb hts hin4 tyX4 tyX4_ok nmX4 hown hK hP hD hS 0 rfl rfl 5 (by decide) (hts (.fieldLink RX4 29 "UpAllRound$Voices" "m" "I") (List.mem_of_getElem? (i := 3) rfl)) (fun _ h9 => h9) rfl (by decide +kernel) rfl rfl (Nat.le_of_ble_eq_true rfl) dX4_speak_12 (fun H locs hP hD hS => ?_)
  have hP : va_P D vwCl [(h, .inr (4, [.ref hT9, .int (nI tn0), .int (nI pt0), .int (nI 2), .int (nI sp), .int mm])), (hT9, .inl (cI, 30, .inl T))] H := hP
  have hD : va_D AA [(h, .inr (4, [.ref hT9, .int (nI tn0), .int (nI pt0), .int (nI 2), .int (nI sp), .int mm])), (hT9, .inl (cI, 30, .inl T))] := hD
  refine lv_aload_n hx hb dX4_speak_15 rfl (lv_at hl 0 rfl) ?_
  refine lv_iconst (v := nI 0) hx hb dX4_speak_16 (by decide) ?_
  refine va_put (ci := 4) (v := .int (nI 0)) (ty := .int) (C := RX4) (T := TX4) (N := 6) hx hb hts hin4 tyX4 tyX4_ok nmX4 hown hK hP hD hS 0 rfl rfl 1 (by decide) (hts (.fieldLink RX4 15 "UpAllRound$Voices" "traced" "I") (List.mem_of_getElem? (i := 4) rfl)) (fun _ h9 => h9) rfl (by decide +kernel) rfl rfl (Nat.le_of_ble_eq_true rfl) dX4_speak_17 (fun H locs hP hD hS => ?_)
  have hP : va_P D vwCl [(h, .inr (4, [.ref hT9, .int (nI 0), .int (nI pt0), .int (nI 2), .int (nI sp), .int mm])), (hT9, .inl (cI, 30, .inl T))] H := hP
  have hD : va_D AA [(h, .inr (4, [.ref hT9, .int (nI 0), .int (nI pt0), .int (nI 2), .int (nI sp), .int mm])), (hT9, .inl (cI, 30, .inl T))] := hD
  refine lv_aload_n hx hb dX4_speak_20 rfl (lv_at hl 0 rfl) ?_
  refine lv_iconst (v := nI 0) hx hb dX4_speak_21 (by decide) ?_
  refine va_put (ci := 4) (v := .int (nI 0)) (ty := .boolean) (C := RX4) (T := TX4) (N := 6) hx hb hts hin4 tyX4 tyX4_ok nmX4 hown hK hP hD hS 0 rfl rfl 2 (by decide) (hts (.fieldLink RX4 19 "UpAllRound$Voices" "parted" "Z") (List.mem_of_getElem? (i := 5) rfl)) (fun _ h9 => h9) rfl (by decide +kernel) rfl rfl (Nat.le_of_ble_eq_true rfl) dX4_speak_22 (fun H locs hP hD hS => ?_)
  have hP : va_P D vwCl [(h, .inr (4, [.ref hT9, .int (nI 0), .int (nI 0), .int (nI 2), .int (nI sp), .int mm])), (hT9, .inl (cI, 30, .inl T))] H := hP
  have hD : va_D AA [(h, .inr (4, [.ref hT9, .int (nI 0), .int (nI 0), .int (nI 2), .int (nI sp), .int mm])), (hT9, .inl (cI, 30, .inl T))] := hD
  refine lv_aload_n hx hb dX4_speak_25 rfl (lv_at hl 0 rfl) ?_
  refine lv_aload_n hx hb dX4_speak_26 rfl (lv_at hl 0 rfl) ?_
  refine va_get (ci := 4) (v := .int (nI 2)) (C := RX4) (T := TX4) (N := 6) hx hb hts hin4 hown hK hP 0 rfl rfl 3 (by decide) (hts (.fieldLink RX4 23 "UpAllRound$Voices" "kind" "I") (List.mem_of_getElem? (i := 1) rfl)) (fun _ h9 => h9) rfl dX4_speak_27 ?_
  refine lv_iload hx hb dX4_speak_30 (lv_at hl 4 rfl) ?_
  refine lv_iload hx hb dX4_speak_32 (lv_at hl 5 rfl) ?_
  refine lv_iconst (v := nI 0) hx hb dX4_speak_34 (by decide) ?_
  refine zci (wr := []) (va_runV (As := [.int (nI 2), .int (nI 1), .int x, .int (nI 0)]) (rest := []) ⟨hx, hb, hml, hown, hts⟩ (c_X4_say_2_1_2 l D cI cJ h hT9 T 0 sp mm x 0 (by first | rfl | assumption | omega) (by first | rfl | assumption | omega) H.size) (cwV 4 hts gX4_speak_X4_say rfl rfl rfl (by decide +kernel) ⟨Nat.le_of_ble_eq_true rfl, Nat.le_of_ble_eq_true rfl⟩) (zpV hK hN hZ hP hD hS hA [0, 1] rfl (by decide) 0 rfl rfl rfl) rfl rfl hl.1 rfl (lv_room (Nat.le_of_ble_eq_true rfl)) dX4_speak_35 ⟨Nat.zero_le _, Nat.zero_le _⟩) hP hD hS hA [0, 1] [] rfl rfl (by decide) (by decide) (fun r_3 w_2 H locs h_1 hP hD hS => ?_)
  obtain ⟨rfl, rfl⟩ := h_1
  have hP : va_P D vwCl [(h, .inr (4, [.ref hT9, .int (nI ((((0 + 1) + 1) + 1))), .int (nI 0), .int (nI 2), .int (nI sp), .int mm])), (hT9, .inl (cI, 30, .inl ((upd (upd (upd T 0 (nI 30)) (0 + 1) (nI 11)) ((0 + 1) + 1) (nI 10)))))] H := hP
  have hD : va_D AA [(h, .inr (4, [.ref hT9, .int (nI ((((0 + 1) + 1) + 1))), .int (nI 0), .int (nI 2), .int (nI sp), .int mm])), (hT9, .inl (cI, 30, .inl ((upd (upd (upd T 0 (nI 30)) (0 + 1) (nI 11)) ((0 + 1) + 1) (nI 10)))))] := hD
  exact hret hP hD hS dX4_speak_38 rfl (by exact ⟨rfl, rfl⟩)
set_option maxHeartbeats 4000000 in
set_option maxRecDepth 100000 in
theorem c_X4_speak_2_2 (l : Launch) (D : va_G) (cI cJ : ClassId) (h : Nat) (hT9 : Nat) (T : Nat → Int32) (tn0 : Nat) (pt0 : Nat) (K0 : Nat) (sp0 : Nat) (mm0 : Int32) (sp : Nat) (mm : Int32) (x : Int32)  : zMi l yX4_speak wsX4_speak ({ frames := 9, cells := 0, slots := 0, locals := 215 } : Room) D [(cI, .int), (cJ, .array .int)] [.ref h, .int (nI 2), .int (nI sp), .int mm, .int (nI 2), .int x] [(h, .inr (4, [.ref hT9, .int (nI tn0), .int (nI pt0), .int (nI K0), .int (nI sp0), .int mm0])), (hT9, .inl (cI, 30, .inl T))] (fun r w => r = (zswears 2 2 sp mm x ) ∧ w = [(h, .inr (4, [.ref hT9, .int (nI (((((0 + 1) + 1) + 1) + 1))), .int (nI 0), .int (nI 2), .int (nI sp), .int mm])), (hT9, .inl (cI, 30, .inl ((upd (upd (upd (upd T 0 (nI 12)) (0 + 1) (nI 30)) ((0 + 1) + 1) (nI 11)) (((0 + 1) + 1) + 1) (nI 10)))))]) := by
  refine zMi.start (cc := cX4_speak) (maxL := 6) (rt := .int) (by first | decide | decide +kernel) rfl (Nat.le_of_ble_eq_true rfl) ?_
  intro pg ev s mt args below meth cd ls AA QQ ⟨hx, hb, hml, hr, hlocks, hown, hts, hK, hN, hZ, hP, hD, hA, hS, hl⟩ hret
  have hown : s.vm.findClass RX4 = some mt.cls := hown
  have hl : lv_has ls 6 [(0, .ref h), (1, .int (nI 2)), (2, .int (nI sp)), (3, .int mm), (4, .int (nI 2)), (5, .int x)] := hl
  have hin4 : ∀ w ∈ wsX40, w ∈ wsX4_speak := fun w h => List.mem_cons_of_mem _ (List.mem_append_right _ (h))
  refine lv_aload_n hx hb dX4_speak_0 rfl (lv_at hl 0 rfl) ?_
  refine lv_iload_n hx hb dX4_speak_1 rfl (lv_at hl 1 rfl) ?_
  refine va_put (ci := 4) (v := .int (nI 2)) (ty := .int) (C := RX4) (T := TX4) (N := 6) hx hb hts hin4 tyX4 tyX4_ok nmX4 hown hK hP hD hS 0 rfl rfl 3 (by decide) (hts (.fieldLink RX4 23 "UpAllRound$Voices" "kind" "I") (List.mem_of_getElem? (i := 1) rfl)) (fun _ h9 => h9) rfl (by decide +kernel) rfl rfl (Nat.le_of_ble_eq_true rfl) dX4_speak_2 (fun H locs hP hD hS => ?_)
  have hP : va_P D vwCl [(h, .inr (4, [.ref hT9, .int (nI tn0), .int (nI pt0), .int (nI 2), .int (nI sp0), .int mm0])), (hT9, .inl (cI, 30, .inl T))] H := hP
  have hD : va_D AA [(h, .inr (4, [.ref hT9, .int (nI tn0), .int (nI pt0), .int (nI 2), .int (nI sp0), .int mm0])), (hT9, .inl (cI, 30, .inl T))] := hD
  refine lv_aload_n hx hb dX4_speak_5 rfl (lv_at hl 0 rfl) ?_
  refine lv_iload_n hx hb dX4_speak_6 rfl (lv_at hl 2 rfl) ?_
  refine va_put (ci := 4) (v := .int (nI sp)) (ty := .int) (C := RX4) (T := TX4) (N := 6) hx hb hts hin4 tyX4 tyX4_ok nmX4 hown hK hP hD hS 0 rfl rfl 4 (by decide) (hts (.fieldLink RX4 26 "UpAllRound$Voices" "k" "I") (List.mem_of_getElem? (i := 2) rfl)) (fun _ h9 => h9) rfl (by decide +kernel) rfl rfl (Nat.le_of_ble_eq_true rfl) dX4_speak_7 (fun H locs hP hD hS => ?_)
  have hP : va_P D vwCl [(h, .inr (4, [.ref hT9, .int (nI tn0), .int (nI pt0), .int (nI 2), .int (nI sp), .int mm0])), (hT9, .inl (cI, 30, .inl T))] H := hP
  have hD : va_D AA [(h, .inr (4, [.ref hT9, .int (nI tn0), .int (nI pt0), .int (nI 2), .int (nI sp), .int mm0])), (hT9, .inl (cI, 30, .inl T))] := hD
  refine lv_aload_n hx hb dX4_speak_10 rfl (lv_at hl 0 rfl) ?_
  refine lv_iload_n hx hb dX4_speak_11 rfl (lv_at hl 3 rfl) ?_
  refine va_put (ci := 4) (v := .int mm) (ty := .int) (C := RX4) (T := TX4) (N := 6) hx hb hts hin4 tyX4 tyX4_ok nmX4 hown hK hP hD hS 0 rfl rfl 5 (by decide) (hts (.fieldLink RX4 29 "UpAllRound$Voices" "m" "I") (List.mem_of_getElem? (i := 3) rfl)) (fun _ h9 => h9) rfl (by decide +kernel) rfl rfl (Nat.le_of_ble_eq_true rfl) dX4_speak_12 (fun H locs hP hD hS => ?_)
  have hP : va_P D vwCl [(h, .inr (4, [.ref hT9, .int (nI tn0), .int (nI pt0), .int (nI 2), .int (nI sp), .int mm])), (hT9, .inl (cI, 30, .inl T))] H := hP
  have hD : va_D AA [(h, .inr (4, [.ref hT9, .int (nI tn0), .int (nI pt0), .int (nI 2), .int (nI sp), .int mm])), (hT9, .inl (cI, 30, .inl T))] := hD
  refine lv_aload_n hx hb dX4_speak_15 rfl (lv_at hl 0 rfl) ?_
  refine lv_iconst (v := nI 0) hx hb dX4_speak_16 (by decide) ?_
  refine va_put (ci := 4) (v := .int (nI 0)) (ty := .int) (C := RX4) (T := TX4) (N := 6) hx hb hts hin4 tyX4 tyX4_ok nmX4 hown hK hP hD hS 0 rfl rfl 1 (by decide) (hts (.fieldLink RX4 15 "UpAllRound$Voices" "traced" "I") (List.mem_of_getElem? (i := 4) rfl)) (fun _ h9 => h9) rfl (by decide +kernel) rfl rfl (Nat.le_of_ble_eq_true rfl) dX4_speak_17 (fun H locs hP hD hS => ?_)
  have hP : va_P D vwCl [(h, .inr (4, [.ref hT9, .int (nI 0), .int (nI pt0), .int (nI 2), .int (nI sp), .int mm])), (hT9, .inl (cI, 30, .inl T))] H := hP
  have hD : va_D AA [(h, .inr (4, [.ref hT9, .int (nI 0), .int (nI pt0), .int (nI 2), .int (nI sp), .int mm])), (hT9, .inl (cI, 30, .inl T))] := hD
  refine lv_aload_n hx hb dX4_speak_20 rfl (lv_at hl 0 rfl) ?_
  refine lv_iconst (v := nI 0) hx hb dX4_speak_21 (by decide) ?_
  refine va_put (ci := 4) (v := .int (nI 0)) (ty := .boolean) (C := RX4) (T := TX4) (N := 6) hx hb hts hin4 tyX4 tyX4_ok nmX4 hown hK hP hD hS 0 rfl rfl 2 (by decide) (hts (.fieldLink RX4 19 "UpAllRound$Voices" "parted" "Z") (List.mem_of_getElem? (i := 5) rfl)) (fun _ h9 => h9) rfl (by decide +kernel) rfl rfl (Nat.le_of_ble_eq_true rfl) dX4_speak_22 (fun H locs hP hD hS => ?_)
  have hP : va_P D vwCl [(h, .inr (4, [.ref hT9, .int (nI 0), .int (nI 0), .int (nI 2), .int (nI sp), .int mm])), (hT9, .inl (cI, 30, .inl T))] H := hP
  have hD : va_D AA [(h, .inr (4, [.ref hT9, .int (nI 0), .int (nI 0), .int (nI 2), .int (nI sp), .int mm])), (hT9, .inl (cI, 30, .inl T))] := hD
  refine lv_aload_n hx hb dX4_speak_25 rfl (lv_at hl 0 rfl) ?_
  refine lv_aload_n hx hb dX4_speak_26 rfl (lv_at hl 0 rfl) ?_
  refine va_get (ci := 4) (v := .int (nI 2)) (C := RX4) (T := TX4) (N := 6) hx hb hts hin4 hown hK hP 0 rfl rfl 3 (by decide) (hts (.fieldLink RX4 23 "UpAllRound$Voices" "kind" "I") (List.mem_of_getElem? (i := 1) rfl)) (fun _ h9 => h9) rfl dX4_speak_27 ?_
  refine lv_iload hx hb dX4_speak_30 (lv_at hl 4 rfl) ?_
  refine lv_iload hx hb dX4_speak_32 (lv_at hl 5 rfl) ?_
  refine lv_iconst (v := nI 0) hx hb dX4_speak_34 (by decide) ?_
  refine zci (wr := []) (va_runV (As := [.int (nI 2), .int (nI 2), .int x, .int (nI 0)]) (rest := []) ⟨hx, hb, hml, hown, hts⟩ (c_X4_say_2_2_2 l D cI cJ h hT9 T 0 sp mm x 0 (by first | rfl | assumption | omega) (by first | rfl | assumption | omega) H.size) (cwV 4 hts gX4_speak_X4_say rfl rfl rfl (by decide +kernel) ⟨Nat.le_of_ble_eq_true rfl, Nat.le_of_ble_eq_true rfl⟩) (zpV hK hN hZ hP hD hS hA [0, 1] rfl (by decide) 0 rfl rfl rfl) rfl rfl hl.1 rfl (lv_room (Nat.le_of_ble_eq_true rfl)) dX4_speak_35 ⟨Nat.zero_le _, Nat.zero_le _⟩) hP hD hS hA [0, 1] [] rfl rfl (by decide) (by decide) (fun r_3 w_2 H locs h_1 hP hD hS => ?_)
  obtain ⟨rfl, rfl⟩ := h_1
  have hP : va_P D vwCl [(h, .inr (4, [.ref hT9, .int (nI (((((0 + 1) + 1) + 1) + 1))), .int (nI 0), .int (nI 2), .int (nI sp), .int mm])), (hT9, .inl (cI, 30, .inl ((upd (upd (upd (upd T 0 (nI 12)) (0 + 1) (nI 30)) ((0 + 1) + 1) (nI 11)) (((0 + 1) + 1) + 1) (nI 10)))))] H := hP
  have hD : va_D AA [(h, .inr (4, [.ref hT9, .int (nI (((((0 + 1) + 1) + 1) + 1))), .int (nI 0), .int (nI 2), .int (nI sp), .int mm])), (hT9, .inl (cI, 30, .inl ((upd (upd (upd (upd T 0 (nI 12)) (0 + 1) (nI 30)) ((0 + 1) + 1) (nI 11)) (((0 + 1) + 1) + 1) (nI 10)))))] := hD
  exact hret hP hD hS dX4_speak_38 rfl (by exact ⟨rfl, rfl⟩)
set_option maxHeartbeats 4000000 in
set_option maxRecDepth 100000 in
theorem c_X4_speak_2_3 (l : Launch) (D : va_G) (cI cJ : ClassId) (h : Nat) (hT9 : Nat) (T : Nat → Int32) (tn0 : Nat) (pt0 : Nat) (K0 : Nat) (sp0 : Nat) (mm0 : Int32) (sp : Nat) (mm : Int32) (x : Int32)  : zMi l yX4_speak wsX4_speak ({ frames := 3, cells := 0, slots := 0, locals := 71 } : Room) D [(cI, .int), (cJ, .array .int)] [.ref h, .int (nI 2), .int (nI sp), .int mm, .int (nI 3), .int x] [(h, .inr (4, [.ref hT9, .int (nI tn0), .int (nI pt0), .int (nI K0), .int (nI sp0), .int mm0])), (hT9, .inl (cI, 30, .inl T))] (fun r w => r = (zpv sp mm x) ∧ w = [(h, .inr (4, [.ref hT9, .int (nI ((0 + 1))), .int (nI ((zpd sp mm))), .int (nI 2), .int (nI sp), .int mm])), (hT9, .inl (cI, 30, .inl ((upd T 0 (nI 13)))))]) := by
  refine zMi.start (cc := cX4_speak) (maxL := 6) (rt := .int) (by first | decide | decide +kernel) rfl (Nat.le_of_ble_eq_true rfl) ?_
  intro pg ev s mt args below meth cd ls AA QQ ⟨hx, hb, hml, hr, hlocks, hown, hts, hK, hN, hZ, hP, hD, hA, hS, hl⟩ hret
  have hown : s.vm.findClass RX4 = some mt.cls := hown
  have hl : lv_has ls 6 [(0, .ref h), (1, .int (nI 2)), (2, .int (nI sp)), (3, .int mm), (4, .int (nI 3)), (5, .int x)] := hl
  have hin4 : ∀ w ∈ wsX40, w ∈ wsX4_speak := fun w h => List.mem_cons_of_mem _ (List.mem_append_right _ (h))
  refine lv_aload_n hx hb dX4_speak_0 rfl (lv_at hl 0 rfl) ?_
  refine lv_iload_n hx hb dX4_speak_1 rfl (lv_at hl 1 rfl) ?_
  refine va_put (ci := 4) (v := .int (nI 2)) (ty := .int) (C := RX4) (T := TX4) (N := 6) hx hb hts hin4 tyX4 tyX4_ok nmX4 hown hK hP hD hS 0 rfl rfl 3 (by decide) (hts (.fieldLink RX4 23 "UpAllRound$Voices" "kind" "I") (List.mem_of_getElem? (i := 1) rfl)) (fun _ h9 => h9) rfl (by decide +kernel) rfl rfl (Nat.le_of_ble_eq_true rfl) dX4_speak_2 (fun H locs hP hD hS => ?_)
  have hP : va_P D vwCl [(h, .inr (4, [.ref hT9, .int (nI tn0), .int (nI pt0), .int (nI 2), .int (nI sp0), .int mm0])), (hT9, .inl (cI, 30, .inl T))] H := hP
  have hD : va_D AA [(h, .inr (4, [.ref hT9, .int (nI tn0), .int (nI pt0), .int (nI 2), .int (nI sp0), .int mm0])), (hT9, .inl (cI, 30, .inl T))] := hD
  refine lv_aload_n hx hb dX4_speak_5 rfl (lv_at hl 0 rfl) ?_
  refine lv_iload_n hx hb dX4_speak_6 rfl (lv_at hl 2 rfl) ?_
  refine va_put (ci := 4) (v := .int (nI sp)) (ty := .int) (C := RX4) (T := TX4) (N := 6) hx hb hts hin4 tyX4 tyX4_ok nmX4 hown hK hP hD hS 0 rfl rfl 4 (by decide) (hts (.fieldLink RX4 26 "UpAllRound$Voices" "k" "I") (List.mem_of_getElem? (i := 2) rfl)) (fun _ h9 => h9) rfl (by decide +kernel) rfl rfl (Nat.le_of_ble_eq_true rfl) dX4_speak_7 (fun H locs hP hD hS => ?_)
  have hP : va_P D vwCl [(h, .inr (4, [.ref hT9, .int (nI tn0), .int (nI pt0), .int (nI 2), .int (nI sp), .int mm0])), (hT9, .inl (cI, 30, .inl T))] H := hP
  have hD : va_D AA [(h, .inr (4, [.ref hT9, .int (nI tn0), .int (nI pt0), .int (nI 2), .int (nI sp), .int mm0])), (hT9, .inl (cI, 30, .inl T))] := hD
  refine lv_aload_n hx hb dX4_speak_10 rfl (lv_at hl 0 rfl) ?_
  refine lv_iload_n hx hb dX4_speak_11 rfl (lv_at hl 3 rfl) ?_
  refine va_put (ci := 4) (v := .int mm) (ty := .int) (C := RX4) (T := TX4) (N := 6) hx hb hts hin4 tyX4 tyX4_ok nmX4 hown hK hP hD hS 0 rfl rfl 5 (by decide) (hts (.fieldLink RX4 29 "UpAllRound$Voices" "m" "I") (List.mem_of_getElem? (i := 3) rfl)) (fun _ h9 => h9) rfl (by decide +kernel) rfl rfl (Nat.le_of_ble_eq_true rfl) dX4_speak_12 (fun H locs hP hD hS => ?_)
  have hP : va_P D vwCl [(h, .inr (4, [.ref hT9, .int (nI tn0), .int (nI pt0), .int (nI 2), .int (nI sp), .int mm])), (hT9, .inl (cI, 30, .inl T))] H := hP
  have hD : va_D AA [(h, .inr (4, [.ref hT9, .int (nI tn0), .int (nI pt0), .int (nI 2), .int (nI sp), .int mm])), (hT9, .inl (cI, 30, .inl T))] := hD
  refine lv_aload_n hx hb dX4_speak_15 rfl (lv_at hl 0 rfl) ?_
  refine lv_iconst (v := nI 0) hx hb dX4_speak_16 (by decide) ?_
  refine va_put (ci := 4) (v := .int (nI 0)) (ty := .int) (C := RX4) (T := TX4) (N := 6) hx hb hts hin4 tyX4 tyX4_ok nmX4 hown hK hP hD hS 0 rfl rfl 1 (by decide) (hts (.fieldLink RX4 15 "UpAllRound$Voices" "traced" "I") (List.mem_of_getElem? (i := 4) rfl)) (fun _ h9 => h9) rfl (by decide +kernel) rfl rfl (Nat.le_of_ble_eq_true rfl) dX4_speak_17 (fun H locs hP hD hS => ?_)
  have hP : va_P D vwCl [(h, .inr (4, [.ref hT9, .int (nI 0), .int (nI pt0), .int (nI 2), .int (nI sp), .int mm])), (hT9, .inl (cI, 30, .inl T))] H := hP
  have hD : va_D AA [(h, .inr (4, [.ref hT9, .int (nI 0), .int (nI pt0), .int (nI 2), .int (nI sp), .int mm])), (hT9, .inl (cI, 30, .inl T))] := hD
  refine lv_aload_n hx hb dX4_speak_20 rfl (lv_at hl 0 rfl) ?_
  refine lv_iconst (v := nI 0) hx hb dX4_speak_21 (by decide) ?_
  refine va_put (ci := 4) (v := .int (nI 0)) (ty := .boolean) (C := RX4) (T := TX4) (N := 6) hx hb hts hin4 tyX4 tyX4_ok nmX4 hown hK hP hD hS 0 rfl rfl 2 (by decide) (hts (.fieldLink RX4 19 "UpAllRound$Voices" "parted" "Z") (List.mem_of_getElem? (i := 5) rfl)) (fun _ h9 => h9) rfl (by decide +kernel) rfl rfl (Nat.le_of_ble_eq_true rfl) dX4_speak_22 (fun H locs hP hD hS => ?_)
  have hP : va_P D vwCl [(h, .inr (4, [.ref hT9, .int (nI 0), .int (nI 0), .int (nI 2), .int (nI sp), .int mm])), (hT9, .inl (cI, 30, .inl T))] H := hP
  have hD : va_D AA [(h, .inr (4, [.ref hT9, .int (nI 0), .int (nI 0), .int (nI 2), .int (nI sp), .int mm])), (hT9, .inl (cI, 30, .inl T))] := hD
  refine lv_aload_n hx hb dX4_speak_25 rfl (lv_at hl 0 rfl) ?_
  refine lv_aload_n hx hb dX4_speak_26 rfl (lv_at hl 0 rfl) ?_
  refine va_get (ci := 4) (v := .int (nI 2)) (C := RX4) (T := TX4) (N := 6) hx hb hts hin4 hown hK hP 0 rfl rfl 3 (by decide) (hts (.fieldLink RX4 23 "UpAllRound$Voices" "kind" "I") (List.mem_of_getElem? (i := 1) rfl)) (fun _ h9 => h9) rfl dX4_speak_27 ?_
  refine lv_iload hx hb dX4_speak_30 (lv_at hl 4 rfl) ?_
  refine lv_iload hx hb dX4_speak_32 (lv_at hl 5 rfl) ?_
  refine lv_iconst (v := nI 0) hx hb dX4_speak_34 (by decide) ?_
  refine zci (wr := []) (va_runV (As := [.int (nI 2), .int (nI 3), .int x, .int (nI 0)]) (rest := []) ⟨hx, hb, hml, hown, hts⟩ (c_X4_say_2_3_2 l D cI cJ h hT9 T 0 sp mm x 0 (by first | rfl | assumption | omega) (by first | rfl | assumption | omega) H.size) (cwV 4 hts gX4_speak_X4_say rfl rfl rfl (by decide +kernel) ⟨Nat.le_of_ble_eq_true rfl, Nat.le_of_ble_eq_true rfl⟩) (zpV hK hN hZ hP hD hS hA [0, 1] rfl (by decide) 0 rfl rfl rfl) rfl rfl hl.1 rfl (lv_room (Nat.le_of_ble_eq_true rfl)) dX4_speak_35 ⟨Nat.zero_le _, Nat.zero_le _⟩) hP hD hS hA [0, 1] [] rfl rfl (by decide) (by decide) (fun r_3 w_2 H locs h_1 hP hD hS => ?_)
  obtain ⟨rfl, rfl⟩ := h_1
  have hP : va_P D vwCl [(h, .inr (4, [.ref hT9, .int (nI ((0 + 1))), .int (nI ((zpd sp mm))), .int (nI 2), .int (nI sp), .int mm])), (hT9, .inl (cI, 30, .inl ((upd T 0 (nI 13)))))] H := hP
  have hD : va_D AA [(h, .inr (4, [.ref hT9, .int (nI ((0 + 1))), .int (nI ((zpd sp mm))), .int (nI 2), .int (nI sp), .int mm])), (hT9, .inl (cI, 30, .inl ((upd T 0 (nI 13)))))] := hD
  exact hret hP hD hS dX4_speak_38 rfl (by exact ⟨rfl, rfl⟩)
set_option maxHeartbeats 4000000 in
set_option maxRecDepth 100000 in
theorem c_X4_speak_3_0 (l : Launch) (D : va_G) (cI cJ : ClassId) (h : Nat) (hT9 : Nat) (T : Nat → Int32) (tn0 : Nat) (pt0 : Nat) (K0 : Nat) (sp0 : Nat) (mm0 : Int32) (sp : Nat) (mm : Int32) (x : Int32)  : zMi l yX4_speak wsX4_speak ({ frames := 3, cells := 0, slots := 0, locals := 71 } : Room) D [(cI, .int), (cJ, .array .int)] [.ref h, .int (nI 3), .int (nI sp), .int mm, .int (nI 0), .int x] [(h, .inr (4, [.ref hT9, .int (nI tn0), .int (nI pt0), .int (nI K0), .int (nI sp0), .int mm0])), (hT9, .inl (cI, 30, .inl T))] (fun r w => r = (zpants 3 sp x ) ∧ w = [(h, .inr (4, [.ref hT9, .int (nI ((0 + 1))), .int (nI 0), .int (nI 3), .int (nI sp), .int mm])), (hT9, .inl (cI, 30, .inl ((upd T 0 (nI 10)))))]) := by
  refine zMi.start (cc := cX4_speak) (maxL := 6) (rt := .int) (by first | decide | decide +kernel) rfl (Nat.le_of_ble_eq_true rfl) ?_
  intro pg ev s mt args below meth cd ls AA QQ ⟨hx, hb, hml, hr, hlocks, hown, hts, hK, hN, hZ, hP, hD, hA, hS, hl⟩ hret
  have hown : s.vm.findClass RX4 = some mt.cls := hown
  have hl : lv_has ls 6 [(0, .ref h), (1, .int (nI 3)), (2, .int (nI sp)), (3, .int mm), (4, .int (nI 0)), (5, .int x)] := hl
  have hin4 : ∀ w ∈ wsX40, w ∈ wsX4_speak := fun w h => List.mem_cons_of_mem _ (List.mem_append_right _ (h))
  refine lv_aload_n hx hb dX4_speak_0 rfl (lv_at hl 0 rfl) ?_
  refine lv_iload_n hx hb dX4_speak_1 rfl (lv_at hl 1 rfl) ?_
  refine va_put (ci := 4) (v := .int (nI 3)) (ty := .int) (C := RX4) (T := TX4) (N := 6) hx hb hts hin4 tyX4 tyX4_ok nmX4 hown hK hP hD hS 0 rfl rfl 3 (by decide) (hts (.fieldLink RX4 23 "UpAllRound$Voices" "kind" "I") (List.mem_of_getElem? (i := 1) rfl)) (fun _ h9 => h9) rfl (by decide +kernel) rfl rfl (Nat.le_of_ble_eq_true rfl) dX4_speak_2 (fun H locs hP hD hS => ?_)
  have hP : va_P D vwCl [(h, .inr (4, [.ref hT9, .int (nI tn0), .int (nI pt0), .int (nI 3), .int (nI sp0), .int mm0])), (hT9, .inl (cI, 30, .inl T))] H := hP
  have hD : va_D AA [(h, .inr (4, [.ref hT9, .int (nI tn0), .int (nI pt0), .int (nI 3), .int (nI sp0), .int mm0])), (hT9, .inl (cI, 30, .inl T))] := hD
  refine lv_aload_n hx hb dX4_speak_5 rfl (lv_at hl 0 rfl) ?_
  refine lv_iload_n hx hb dX4_speak_6 rfl (lv_at hl 2 rfl) ?_
  refine va_put (ci := 4) (v := .int (nI sp)) (ty := .int) (C := RX4) (T := TX4) (N := 6) hx hb hts hin4 tyX4 tyX4_ok nmX4 hown hK hP hD hS 0 rfl rfl 4 (by decide) (hts (.fieldLink RX4 26 "UpAllRound$Voices" "k" "I") (List.mem_of_getElem? (i := 2) rfl)) (fun _ h9 => h9) rfl (by decide +kernel) rfl rfl (Nat.le_of_ble_eq_true rfl) dX4_speak_7 (fun H locs hP hD hS => ?_)
  have hP : va_P D vwCl [(h, .inr (4, [.ref hT9, .int (nI tn0), .int (nI pt0), .int (nI 3), .int (nI sp), .int mm0])), (hT9, .inl (cI, 30, .inl T))] H := hP
  have hD : va_D AA [(h, .inr (4, [.ref hT9, .int (nI tn0), .int (nI pt0), .int (nI 3), .int (nI sp), .int mm0])), (hT9, .inl (cI, 30, .inl T))] := hD
  refine lv_aload_n hx hb dX4_speak_10 rfl (lv_at hl 0 rfl) ?_
  refine lv_iload_n hx hb dX4_speak_11 rfl (lv_at hl 3 rfl) ?_
  refine va_put (ci := 4) (v := .int mm) (ty := .int) (C := RX4) (T := TX4) (N := 6) hx hb hts hin4 tyX4 tyX4_ok nmX4 hown hK hP hD hS 0 rfl rfl 5 (by decide) (hts (.fieldLink RX4 29 "UpAllRound$Voices" "m" "I") (List.mem_of_getElem? (i := 3) rfl)) (fun _ h9 => h9) rfl (by decide +kernel) rfl rfl (Nat.le_of_ble_eq_true rfl) dX4_speak_12 (fun H locs hP hD hS => ?_)
  have hP : va_P D vwCl [(h, .inr (4, [.ref hT9, .int (nI tn0), .int (nI pt0), .int (nI 3), .int (nI sp), .int mm])), (hT9, .inl (cI, 30, .inl T))] H := hP
  have hD : va_D AA [(h, .inr (4, [.ref hT9, .int (nI tn0), .int (nI pt0), .int (nI 3), .int (nI sp), .int mm])), (hT9, .inl (cI, 30, .inl T))] := hD
  refine lv_aload_n hx hb dX4_speak_15 rfl (lv_at hl 0 rfl) ?_
  refine lv_iconst (v := nI 0) hx hb dX4_speak_16 (by decide) ?_
  refine va_put (ci := 4) (v := .int (nI 0)) (ty := .int) (C := RX4) (T := TX4) (N := 6) hx hb hts hin4 tyX4 tyX4_ok nmX4 hown hK hP hD hS 0 rfl rfl 1 (by decide) (hts (.fieldLink RX4 15 "UpAllRound$Voices" "traced" "I") (List.mem_of_getElem? (i := 4) rfl)) (fun _ h9 => h9) rfl (by decide +kernel) rfl rfl (Nat.le_of_ble_eq_true rfl) dX4_speak_17 (fun H locs hP hD hS => ?_)
  have hP : va_P D vwCl [(h, .inr (4, [.ref hT9, .int (nI 0), .int (nI pt0), .int (nI 3), .int (nI sp), .int mm])), (hT9, .inl (cI, 30, .inl T))] H := hP
  have hD : va_D AA [(h, .inr (4, [.ref hT9, .int (nI 0), .int (nI pt0), .int (nI 3), .int (nI sp), .int mm])), (hT9, .inl (cI, 30, .inl T))] := hD
  refine lv_aload_n hx hb dX4_speak_20 rfl (lv_at hl 0 rfl) ?_
  refine lv_iconst (v := nI 0) hx hb dX4_speak_21 (by decide) ?_
  refine va_put (ci := 4) (v := .int (nI 0)) (ty := .boolean) (C := RX4) (T := TX4) (N := 6) hx hb hts hin4 tyX4 tyX4_ok nmX4 hown hK hP hD hS 0 rfl rfl 2 (by decide) (hts (.fieldLink RX4 19 "UpAllRound$Voices" "parted" "Z") (List.mem_of_getElem? (i := 5) rfl)) (fun _ h9 => h9) rfl (by decide +kernel) rfl rfl (Nat.le_of_ble_eq_true rfl) dX4_speak_22 (fun H locs hP hD hS => ?_)
  have hP : va_P D vwCl [(h, .inr (4, [.ref hT9, .int (nI 0), .int (nI 0), .int (nI 3), .int (nI sp), .int mm])), (hT9, .inl (cI, 30, .inl T))] H := hP
  have hD : va_D AA [(h, .inr (4, [.ref hT9, .int (nI 0), .int (nI 0), .int (nI 3), .int (nI sp), .int mm])), (hT9, .inl (cI, 30, .inl T))] := hD
  refine lv_aload_n hx hb dX4_speak_25 rfl (lv_at hl 0 rfl) ?_
  refine lv_aload_n hx hb dX4_speak_26 rfl (lv_at hl 0 rfl) ?_
  refine va_get (ci := 4) (v := .int (nI 3)) (C := RX4) (T := TX4) (N := 6) hx hb hts hin4 hown hK hP 0 rfl rfl 3 (by decide) (hts (.fieldLink RX4 23 "UpAllRound$Voices" "kind" "I") (List.mem_of_getElem? (i := 1) rfl)) (fun _ h9 => h9) rfl dX4_speak_27 ?_
  refine lv_iload hx hb dX4_speak_30 (lv_at hl 4 rfl) ?_
  refine lv_iload hx hb dX4_speak_32 (lv_at hl 5 rfl) ?_
  refine lv_iconst (v := nI 0) hx hb dX4_speak_34 (by decide) ?_
  refine zci (wr := []) (va_runV (As := [.int (nI 3), .int (nI 0), .int x, .int (nI 0)]) (rest := []) ⟨hx, hb, hml, hown, hts⟩ (c_X4_say_3_0_3 l D cI cJ h hT9 T 0 sp mm x 0 (by first | rfl | assumption | omega) (by first | rfl | assumption | omega) H.size) (cwV 4 hts gX4_speak_X4_say rfl rfl rfl (by decide +kernel) ⟨Nat.le_of_ble_eq_true rfl, Nat.le_of_ble_eq_true rfl⟩) (zpV hK hN hZ hP hD hS hA [0, 1] rfl (by decide) 0 rfl rfl rfl) rfl rfl hl.1 rfl (lv_room (Nat.le_of_ble_eq_true rfl)) dX4_speak_35 ⟨Nat.zero_le _, Nat.zero_le _⟩) hP hD hS hA [0, 1] [] rfl rfl (by decide) (by decide) (fun r_3 w_2 H locs h_1 hP hD hS => ?_)
  obtain ⟨rfl, rfl⟩ := h_1
  have hP : va_P D vwCl [(h, .inr (4, [.ref hT9, .int (nI ((0 + 1))), .int (nI 0), .int (nI 3), .int (nI sp), .int mm])), (hT9, .inl (cI, 30, .inl ((upd T 0 (nI 10)))))] H := hP
  have hD : va_D AA [(h, .inr (4, [.ref hT9, .int (nI ((0 + 1))), .int (nI 0), .int (nI 3), .int (nI sp), .int mm])), (hT9, .inl (cI, 30, .inl ((upd T 0 (nI 10)))))] := hD
  exact hret hP hD hS dX4_speak_38 rfl (by exact ⟨rfl, rfl⟩)
set_option maxHeartbeats 4000000 in
set_option maxRecDepth 100000 in
theorem c_X4_speak_3_1 (l : Launch) (D : va_G) (cI cJ : ClassId) (h : Nat) (hT9 : Nat) (T : Nat → Int32) (tn0 : Nat) (pt0 : Nat) (K0 : Nat) (sp0 : Nat) (mm0 : Int32) (sp : Nat) (mm : Int32) (x : Int32)  : zMi l yX4_speak wsX4_speak ({ frames := 5, cells := 0, slots := 0, locals := 119 } : Room) D [(cI, .int), (cJ, .array .int)] [.ref h, .int (nI 3), .int (nI sp), .int mm, .int (nI 1), .int x] [(h, .inr (4, [.ref hT9, .int (nI tn0), .int (nI pt0), .int (nI K0), .int (nI sp0), .int mm0])), (hT9, .inl (cI, 30, .inl T))] (fun r w => r = (zcounts 3 3 sp mm x ) ∧ w = [(h, .inr (4, [.ref hT9, .int (nI (((0 + 1) + 1))), .int (nI 0), .int (nI 3), .int (nI sp), .int mm])), (hT9, .inl (cI, 30, .inl ((upd (upd T 0 (nI 11)) (0 + 1) (nI 10)))))]) := by
  refine zMi.start (cc := cX4_speak) (maxL := 6) (rt := .int) (by first | decide | decide +kernel) rfl (Nat.le_of_ble_eq_true rfl) ?_
  intro pg ev s mt args below meth cd ls AA QQ ⟨hx, hb, hml, hr, hlocks, hown, hts, hK, hN, hZ, hP, hD, hA, hS, hl⟩ hret
  have hown : s.vm.findClass RX4 = some mt.cls := hown
  have hl : lv_has ls 6 [(0, .ref h), (1, .int (nI 3)), (2, .int (nI sp)), (3, .int mm), (4, .int (nI 1)), (5, .int x)] := hl
  have hin4 : ∀ w ∈ wsX40, w ∈ wsX4_speak := fun w h => List.mem_cons_of_mem _ (List.mem_append_right _ (h))
  refine lv_aload_n hx hb dX4_speak_0 rfl (lv_at hl 0 rfl) ?_
  refine lv_iload_n hx hb dX4_speak_1 rfl (lv_at hl 1 rfl) ?_
  refine va_put (ci := 4) (v := .int (nI 3)) (ty := .int) (C := RX4) (T := TX4) (N := 6) hx hb hts hin4 tyX4 tyX4_ok nmX4 hown hK hP hD hS 0 rfl rfl 3 (by decide) (hts (.fieldLink RX4 23 "UpAllRound$Voices" "kind" "I") (List.mem_of_getElem? (i := 1) rfl)) (fun _ h9 => h9) rfl (by decide +kernel) rfl rfl (Nat.le_of_ble_eq_true rfl) dX4_speak_2 (fun H locs hP hD hS => ?_)
  have hP : va_P D vwCl [(h, .inr (4, [.ref hT9, .int (nI tn0), .int (nI pt0), .int (nI 3), .int (nI sp0), .int mm0])), (hT9, .inl (cI, 30, .inl T))] H := hP
  have hD : va_D AA [(h, .inr (4, [.ref hT9, .int (nI tn0), .int (nI pt0), .int (nI 3), .int (nI sp0), .int mm0])), (hT9, .inl (cI, 30, .inl T))] := hD
  refine lv_aload_n hx hb dX4_speak_5 rfl (lv_at hl 0 rfl) ?_
  refine lv_iload_n hx hb dX4_speak_6 rfl (lv_at hl 2 rfl) ?_
  refine va_put (ci := 4) (v := .int (nI sp)) (ty := .int) (C := RX4) (T := TX4) (N := 6) hx hb hts hin4 tyX4 tyX4_ok nmX4 hown hK hP hD hS 0 rfl rfl 4 (by decide) (hts (.fieldLink RX4 26 "UpAllRound$Voices" "k" "I") (List.mem_of_getElem? (i := 2) rfl)) (fun _ h9 => h9) rfl (by decide +kernel) rfl rfl (Nat.le_of_ble_eq_true rfl) dX4_speak_7 (fun H locs hP hD hS => ?_)
  have hP : va_P D vwCl [(h, .inr (4, [.ref hT9, .int (nI tn0), .int (nI pt0), .int (nI 3), .int (nI sp), .int mm0])), (hT9, .inl (cI, 30, .inl T))] H := hP
  have hD : va_D AA [(h, .inr (4, [.ref hT9, .int (nI tn0), .int (nI pt0), .int (nI 3), .int (nI sp), .int mm0])), (hT9, .inl (cI, 30, .inl T))] := hD
  refine lv_aload_n hx hb dX4_speak_10 rfl (lv_at hl 0 rfl) ?_
  refine lv_iload_n hx hb dX4_speak_11 rfl (lv_at hl 3 rfl) ?_
  refine va_put (ci := 4) (v := .int mm) (ty := .int) (C := RX4) (T := TX4) (N := 6) hx hb hts hin4 tyX4 tyX4_ok nmX4 hown hK hP hD hS 0 rfl rfl 5 (by decide) (hts (.fieldLink RX4 29 "UpAllRound$Voices" "m" "I") (List.mem_of_getElem? (i := 3) rfl)) (fun _ h9 => h9) rfl (by decide +kernel) rfl rfl (Nat.le_of_ble_eq_true rfl) dX4_speak_12 (fun H locs hP hD hS => ?_)
  have hP : va_P D vwCl [(h, .inr (4, [.ref hT9, .int (nI tn0), .int (nI pt0), .int (nI 3), .int (nI sp), .int mm])), (hT9, .inl (cI, 30, .inl T))] H := hP
  have hD : va_D AA [(h, .inr (4, [.ref hT9, .int (nI tn0), .int (nI pt0), .int (nI 3), .int (nI sp), .int mm])), (hT9, .inl (cI, 30, .inl T))] := hD
  refine lv_aload_n hx hb dX4_speak_15 rfl (lv_at hl 0 rfl) ?_
  refine lv_iconst (v := nI 0) hx hb dX4_speak_16 (by decide) ?_
  refine va_put (ci := 4) (v := .int (nI 0)) (ty := .int) (C := RX4) (T := TX4) (N := 6) hx hb hts hin4 tyX4 tyX4_ok nmX4 hown hK hP hD hS 0 rfl rfl 1 (by decide) (hts (.fieldLink RX4 15 "UpAllRound$Voices" "traced" "I") (List.mem_of_getElem? (i := 4) rfl)) (fun _ h9 => h9) rfl (by decide +kernel) rfl rfl (Nat.le_of_ble_eq_true rfl) dX4_speak_17 (fun H locs hP hD hS => ?_)
  have hP : va_P D vwCl [(h, .inr (4, [.ref hT9, .int (nI 0), .int (nI pt0), .int (nI 3), .int (nI sp), .int mm])), (hT9, .inl (cI, 30, .inl T))] H := hP
  have hD : va_D AA [(h, .inr (4, [.ref hT9, .int (nI 0), .int (nI pt0), .int (nI 3), .int (nI sp), .int mm])), (hT9, .inl (cI, 30, .inl T))] := hD
  refine lv_aload_n hx hb dX4_speak_20 rfl (lv_at hl 0 rfl) ?_
  refine lv_iconst (v := nI 0) hx hb dX4_speak_21 (by decide) ?_
  refine va_put (ci := 4) (v := .int (nI 0)) (ty := .boolean) (C := RX4) (T := TX4) (N := 6) hx hb hts hin4 tyX4 tyX4_ok nmX4 hown hK hP hD hS 0 rfl rfl 2 (by decide) (hts (.fieldLink RX4 19 "UpAllRound$Voices" "parted" "Z") (List.mem_of_getElem? (i := 5) rfl)) (fun _ h9 => h9) rfl (by decide +kernel) rfl rfl (Nat.le_of_ble_eq_true rfl) dX4_speak_22 (fun H locs hP hD hS => ?_)
  have hP : va_P D vwCl [(h, .inr (4, [.ref hT9, .int (nI 0), .int (nI 0), .int (nI 3), .int (nI sp), .int mm])), (hT9, .inl (cI, 30, .inl T))] H := hP
  have hD : va_D AA [(h, .inr (4, [.ref hT9, .int (nI 0), .int (nI 0), .int (nI 3), .int (nI sp), .int mm])), (hT9, .inl (cI, 30, .inl T))] := hD
  refine lv_aload_n hx hb dX4_speak_25 rfl (lv_at hl 0 rfl) ?_
  refine lv_aload_n hx hb dX4_speak_26 rfl (lv_at hl 0 rfl) ?_
  refine va_get (ci := 4) (v := .int (nI 3)) (C := RX4) (T := TX4) (N := 6) hx hb hts hin4 hown hK hP 0 rfl rfl 3 (by decide) (hts (.fieldLink RX4 23 "UpAllRound$Voices" "kind" "I") (List.mem_of_getElem? (i := 1) rfl)) (fun _ h9 => h9) rfl dX4_speak_27 ?_
  refine lv_iload hx hb dX4_speak_30 (lv_at hl 4 rfl) ?_
  refine lv_iload hx hb dX4_speak_32 (lv_at hl 5 rfl) ?_
  refine lv_iconst (v := nI 0) hx hb dX4_speak_34 (by decide) ?_
  refine zci (wr := []) (va_runV (As := [.int (nI 3), .int (nI 1), .int x, .int (nI 0)]) (rest := []) ⟨hx, hb, hml, hown, hts⟩ (c_X4_say_3_1_3 l D cI cJ h hT9 T 0 sp mm x 0 (by first | rfl | assumption | omega) (by first | rfl | assumption | omega) H.size) (cwV 4 hts gX4_speak_X4_say rfl rfl rfl (by decide +kernel) ⟨Nat.le_of_ble_eq_true rfl, Nat.le_of_ble_eq_true rfl⟩) (zpV hK hN hZ hP hD hS hA [0, 1] rfl (by decide) 0 rfl rfl rfl) rfl rfl hl.1 rfl (lv_room (Nat.le_of_ble_eq_true rfl)) dX4_speak_35 ⟨Nat.zero_le _, Nat.zero_le _⟩) hP hD hS hA [0, 1] [] rfl rfl (by decide) (by decide) (fun r_3 w_2 H locs h_1 hP hD hS => ?_)
  obtain ⟨rfl, rfl⟩ := h_1
  have hP : va_P D vwCl [(h, .inr (4, [.ref hT9, .int (nI (((0 + 1) + 1))), .int (nI 0), .int (nI 3), .int (nI sp), .int mm])), (hT9, .inl (cI, 30, .inl ((upd (upd T 0 (nI 11)) (0 + 1) (nI 10)))))] H := hP
  have hD : va_D AA [(h, .inr (4, [.ref hT9, .int (nI (((0 + 1) + 1))), .int (nI 0), .int (nI 3), .int (nI sp), .int mm])), (hT9, .inl (cI, 30, .inl ((upd (upd T 0 (nI 11)) (0 + 1) (nI 10)))))] := hD
  exact hret hP hD hS dX4_speak_38 rfl (by exact ⟨rfl, rfl⟩)
set_option maxHeartbeats 4000000 in
set_option maxRecDepth 100000 in
theorem c_X4_speak_3_2 (l : Launch) (D : va_G) (cI cJ : ClassId) (h : Nat) (hT9 : Nat) (T : Nat → Int32) (tn0 : Nat) (pt0 : Nat) (K0 : Nat) (sp0 : Nat) (mm0 : Int32) (sp : Nat) (mm : Int32) (x : Int32)  : zMi l yX4_speak wsX4_speak ({ frames := 9, cells := 0, slots := 0, locals := 215 } : Room) D [(cI, .int), (cJ, .array .int)] [.ref h, .int (nI 3), .int (nI sp), .int mm, .int (nI 2), .int x] [(h, .inr (4, [.ref hT9, .int (nI tn0), .int (nI pt0), .int (nI K0), .int (nI sp0), .int mm0])), (hT9, .inl (cI, 30, .inl T))] (fun r w => r = (zswears 3 3 sp mm x ) ∧ w = [(h, .inr (4, [.ref hT9, .int (nI (((((0 + 1) + 1) + 1) + 1))), .int (nI 0), .int (nI 3), .int (nI sp), .int mm])), (hT9, .inl (cI, 30, .inl ((upd (upd (upd (upd T 0 (nI 40)) (0 + 1) (nI 12)) ((0 + 1) + 1) (nI 11)) (((0 + 1) + 1) + 1) (nI 10)))))]) := by
  refine zMi.start (cc := cX4_speak) (maxL := 6) (rt := .int) (by first | decide | decide +kernel) rfl (Nat.le_of_ble_eq_true rfl) ?_
  intro pg ev s mt args below meth cd ls AA QQ ⟨hx, hb, hml, hr, hlocks, hown, hts, hK, hN, hZ, hP, hD, hA, hS, hl⟩ hret
  have hown : s.vm.findClass RX4 = some mt.cls := hown
  have hl : lv_has ls 6 [(0, .ref h), (1, .int (nI 3)), (2, .int (nI sp)), (3, .int mm), (4, .int (nI 2)), (5, .int x)] := hl
  have hin4 : ∀ w ∈ wsX40, w ∈ wsX4_speak := fun w h => List.mem_cons_of_mem _ (List.mem_append_right _ (h))
  refine lv_aload_n hx hb dX4_speak_0 rfl (lv_at hl 0 rfl) ?_
  refine lv_iload_n hx hb dX4_speak_1 rfl (lv_at hl 1 rfl) ?_
  refine va_put (ci := 4) (v := .int (nI 3)) (ty := .int) (C := RX4) (T := TX4) (N := 6) hx hb hts hin4 tyX4 tyX4_ok nmX4 hown hK hP hD hS 0 rfl rfl 3 (by decide) (hts (.fieldLink RX4 23 "UpAllRound$Voices" "kind" "I") (List.mem_of_getElem? (i := 1) rfl)) (fun _ h9 => h9) rfl (by decide +kernel) rfl rfl (Nat.le_of_ble_eq_true rfl) dX4_speak_2 (fun H locs hP hD hS => ?_)
  have hP : va_P D vwCl [(h, .inr (4, [.ref hT9, .int (nI tn0), .int (nI pt0), .int (nI 3), .int (nI sp0), .int mm0])), (hT9, .inl (cI, 30, .inl T))] H := hP
  have hD : va_D AA [(h, .inr (4, [.ref hT9, .int (nI tn0), .int (nI pt0), .int (nI 3), .int (nI sp0), .int mm0])), (hT9, .inl (cI, 30, .inl T))] := hD
  refine lv_aload_n hx hb dX4_speak_5 rfl (lv_at hl 0 rfl) ?_
  refine lv_iload_n hx hb dX4_speak_6 rfl (lv_at hl 2 rfl) ?_
  refine va_put (ci := 4) (v := .int (nI sp)) (ty := .int) (C := RX4) (T := TX4) (N := 6) hx hb hts hin4 tyX4 tyX4_ok nmX4 hown hK hP hD hS 0 rfl rfl 4 (by decide) (hts (.fieldLink RX4 26 "UpAllRound$Voices" "k" "I") (List.mem_of_getElem? (i := 2) rfl)) (fun _ h9 => h9) rfl (by decide +kernel) rfl rfl (Nat.le_of_ble_eq_true rfl) dX4_speak_7 (fun H locs hP hD hS => ?_)
  have hP : va_P D vwCl [(h, .inr (4, [.ref hT9, .int (nI tn0), .int (nI pt0), .int (nI 3), .int (nI sp), .int mm0])), (hT9, .inl (cI, 30, .inl T))] H := hP
  have hD : va_D AA [(h, .inr (4, [.ref hT9, .int (nI tn0), .int (nI pt0), .int (nI 3), .int (nI sp), .int mm0])), (hT9, .inl (cI, 30, .inl T))] := hD
  refine lv_aload_n hx hb dX4_speak_10 rfl (lv_at hl 0 rfl) ?_
  refine lv_iload_n hx hb dX4_speak_11 rfl (lv_at hl 3 rfl) ?_
  refine va_put (ci := 4) (v := .int mm) (ty := .int) (C := RX4) (T := TX4) (N := 6) hx hb hts hin4 tyX4 tyX4_ok nmX4 hown hK hP hD hS 0 rfl rfl 5 (by decide) (hts (.fieldLink RX4 29 "UpAllRound$Voices" "m" "I") (List.mem_of_getElem? (i := 3) rfl)) (fun _ h9 => h9) rfl (by decide +kernel) rfl rfl (Nat.le_of_ble_eq_true rfl) dX4_speak_12 (fun H locs hP hD hS => ?_)
  have hP : va_P D vwCl [(h, .inr (4, [.ref hT9, .int (nI tn0), .int (nI pt0), .int (nI 3), .int (nI sp), .int mm])), (hT9, .inl (cI, 30, .inl T))] H := hP
  have hD : va_D AA [(h, .inr (4, [.ref hT9, .int (nI tn0), .int (nI pt0), .int (nI 3), .int (nI sp), .int mm])), (hT9, .inl (cI, 30, .inl T))] := hD
  refine lv_aload_n hx hb dX4_speak_15 rfl (lv_at hl 0 rfl) ?_
  refine lv_iconst (v := nI 0) hx hb dX4_speak_16 (by decide) ?_
  refine va_put (ci := 4) (v := .int (nI 0)) (ty := .int) (C := RX4) (T := TX4) (N := 6) hx hb hts hin4 tyX4 tyX4_ok nmX4 hown hK hP hD hS 0 rfl rfl 1 (by decide) (hts (.fieldLink RX4 15 "UpAllRound$Voices" "traced" "I") (List.mem_of_getElem? (i := 4) rfl)) (fun _ h9 => h9) rfl (by decide +kernel) rfl rfl (Nat.le_of_ble_eq_true rfl) dX4_speak_17 (fun H locs hP hD hS => ?_)
  have hP : va_P D vwCl [(h, .inr (4, [.ref hT9, .int (nI 0), .int (nI pt0), .int (nI 3), .int (nI sp), .int mm])), (hT9, .inl (cI, 30, .inl T))] H := hP
  have hD : va_D AA [(h, .inr (4, [.ref hT9, .int (nI 0), .int (nI pt0), .int (nI 3), .int (nI sp), .int mm])), (hT9, .inl (cI, 30, .inl T))] := hD
  refine lv_aload_n hx hb dX4_speak_20 rfl (lv_at hl 0 rfl) ?_
  refine lv_iconst (v := nI 0) hx hb dX4_speak_21 (by decide) ?_
  refine va_put (ci := 4) (v := .int (nI 0)) (ty := .boolean) (C := RX4) (T := TX4) (N := 6) hx hb hts hin4 tyX4 tyX4_ok nmX4 hown hK hP hD hS 0 rfl rfl 2 (by decide) (hts (.fieldLink RX4 19 "UpAllRound$Voices" "parted" "Z") (List.mem_of_getElem? (i := 5) rfl)) (fun _ h9 => h9) rfl (by decide +kernel) rfl rfl (Nat.le_of_ble_eq_true rfl) dX4_speak_22 (fun H locs hP hD hS => ?_)
  have hP : va_P D vwCl [(h, .inr (4, [.ref hT9, .int (nI 0), .int (nI 0), .int (nI 3), .int (nI sp), .int mm])), (hT9, .inl (cI, 30, .inl T))] H := hP
  have hD : va_D AA [(h, .inr (4, [.ref hT9, .int (nI 0), .int (nI 0), .int (nI 3), .int (nI sp), .int mm])), (hT9, .inl (cI, 30, .inl T))] := hD
  refine lv_aload_n hx hb dX4_speak_25 rfl (lv_at hl 0 rfl) ?_
  refine lv_aload_n hx hb dX4_speak_26 rfl (lv_at hl 0 rfl) ?_
  refine va_get (ci := 4) (v := .int (nI 3)) (C := RX4) (T := TX4) (N := 6) hx hb hts hin4 hown hK hP 0 rfl rfl 3 (by decide) (hts (.fieldLink RX4 23 "UpAllRound$Voices" "kind" "I") (List.mem_of_getElem? (i := 1) rfl)) (fun _ h9 => h9) rfl dX4_speak_27 ?_
  refine lv_iload hx hb dX4_speak_30 (lv_at hl 4 rfl) ?_
  refine lv_iload hx hb dX4_speak_32 (lv_at hl 5 rfl) ?_
  refine lv_iconst (v := nI 0) hx hb dX4_speak_34 (by decide) ?_
  refine zci (wr := []) (va_runV (As := [.int (nI 3), .int (nI 2), .int x, .int (nI 0)]) (rest := []) ⟨hx, hb, hml, hown, hts⟩ (c_X4_say_3_2_3 l D cI cJ h hT9 T 0 sp mm x 0 (by first | rfl | assumption | omega) (by first | rfl | assumption | omega) H.size) (cwV 4 hts gX4_speak_X4_say rfl rfl rfl (by decide +kernel) ⟨Nat.le_of_ble_eq_true rfl, Nat.le_of_ble_eq_true rfl⟩) (zpV hK hN hZ hP hD hS hA [0, 1] rfl (by decide) 0 rfl rfl rfl) rfl rfl hl.1 rfl (lv_room (Nat.le_of_ble_eq_true rfl)) dX4_speak_35 ⟨Nat.zero_le _, Nat.zero_le _⟩) hP hD hS hA [0, 1] [] rfl rfl (by decide) (by decide) (fun r_3 w_2 H locs h_1 hP hD hS => ?_)
  obtain ⟨rfl, rfl⟩ := h_1
  have hP : va_P D vwCl [(h, .inr (4, [.ref hT9, .int (nI (((((0 + 1) + 1) + 1) + 1))), .int (nI 0), .int (nI 3), .int (nI sp), .int mm])), (hT9, .inl (cI, 30, .inl ((upd (upd (upd (upd T 0 (nI 40)) (0 + 1) (nI 12)) ((0 + 1) + 1) (nI 11)) (((0 + 1) + 1) + 1) (nI 10)))))] H := hP
  have hD : va_D AA [(h, .inr (4, [.ref hT9, .int (nI (((((0 + 1) + 1) + 1) + 1))), .int (nI 0), .int (nI 3), .int (nI sp), .int mm])), (hT9, .inl (cI, 30, .inl ((upd (upd (upd (upd T 0 (nI 40)) (0 + 1) (nI 12)) ((0 + 1) + 1) (nI 11)) (((0 + 1) + 1) + 1) (nI 10)))))] := hD
  exact hret hP hD hS dX4_speak_38 rfl (by exact ⟨rfl, rfl⟩)
set_option maxHeartbeats 4000000 in
set_option maxRecDepth 100000 in
theorem c_X4_speak_3_3 (l : Launch) (D : va_G) (cI cJ : ClassId) (h : Nat) (hT9 : Nat) (T : Nat → Int32) (tn0 : Nat) (pt0 : Nat) (K0 : Nat) (sp0 : Nat) (mm0 : Int32) (sp : Nat) (mm : Int32) (x : Int32)  : zMi l yX4_speak wsX4_speak ({ frames := 3, cells := 0, slots := 0, locals := 71 } : Room) D [(cI, .int), (cJ, .array .int)] [.ref h, .int (nI 3), .int (nI sp), .int mm, .int (nI 3), .int x] [(h, .inr (4, [.ref hT9, .int (nI tn0), .int (nI pt0), .int (nI K0), .int (nI sp0), .int mm0])), (hT9, .inl (cI, 30, .inl T))] (fun r w => r = (zpv sp mm x) ∧ w = [(h, .inr (4, [.ref hT9, .int (nI ((0 + 1))), .int (nI ((zpd sp mm))), .int (nI 3), .int (nI sp), .int mm])), (hT9, .inl (cI, 30, .inl ((upd T 0 (nI 13)))))]) := by
  refine zMi.start (cc := cX4_speak) (maxL := 6) (rt := .int) (by first | decide | decide +kernel) rfl (Nat.le_of_ble_eq_true rfl) ?_
  intro pg ev s mt args below meth cd ls AA QQ ⟨hx, hb, hml, hr, hlocks, hown, hts, hK, hN, hZ, hP, hD, hA, hS, hl⟩ hret
  have hown : s.vm.findClass RX4 = some mt.cls := hown
  have hl : lv_has ls 6 [(0, .ref h), (1, .int (nI 3)), (2, .int (nI sp)), (3, .int mm), (4, .int (nI 3)), (5, .int x)] := hl
  have hin4 : ∀ w ∈ wsX40, w ∈ wsX4_speak := fun w h => List.mem_cons_of_mem _ (List.mem_append_right _ (h))
  refine lv_aload_n hx hb dX4_speak_0 rfl (lv_at hl 0 rfl) ?_
  refine lv_iload_n hx hb dX4_speak_1 rfl (lv_at hl 1 rfl) ?_
  refine va_put (ci := 4) (v := .int (nI 3)) (ty := .int) (C := RX4) (T := TX4) (N := 6) hx hb hts hin4 tyX4 tyX4_ok nmX4 hown hK hP hD hS 0 rfl rfl 3 (by decide) (hts (.fieldLink RX4 23 "UpAllRound$Voices" "kind" "I") (List.mem_of_getElem? (i := 1) rfl)) (fun _ h9 => h9) rfl (by decide +kernel) rfl rfl (Nat.le_of_ble_eq_true rfl) dX4_speak_2 (fun H locs hP hD hS => ?_)
  have hP : va_P D vwCl [(h, .inr (4, [.ref hT9, .int (nI tn0), .int (nI pt0), .int (nI 3), .int (nI sp0), .int mm0])), (hT9, .inl (cI, 30, .inl T))] H := hP
  have hD : va_D AA [(h, .inr (4, [.ref hT9, .int (nI tn0), .int (nI pt0), .int (nI 3), .int (nI sp0), .int mm0])), (hT9, .inl (cI, 30, .inl T))] := hD
  refine lv_aload_n hx hb dX4_speak_5 rfl (lv_at hl 0 rfl) ?_
  refine lv_iload_n hx hb dX4_speak_6 rfl (lv_at hl 2 rfl) ?_
  refine va_put (ci := 4) (v := .int (nI sp)) (ty := .int) (C := RX4) (T := TX4) (N := 6) hx hb hts hin4 tyX4 tyX4_ok nmX4 hown hK hP hD hS 0 rfl rfl 4 (by decide) (hts (.fieldLink RX4 26 "UpAllRound$Voices" "k" "I") (List.mem_of_getElem? (i := 2) rfl)) (fun _ h9 => h9) rfl (by decide +kernel) rfl rfl (Nat.le_of_ble_eq_true rfl) dX4_speak_7 (fun H locs hP hD hS => ?_)
  have hP : va_P D vwCl [(h, .inr (4, [.ref hT9, .int (nI tn0), .int (nI pt0), .int (nI 3), .int (nI sp), .int mm0])), (hT9, .inl (cI, 30, .inl T))] H := hP
  have hD : va_D AA [(h, .inr (4, [.ref hT9, .int (nI tn0), .int (nI pt0), .int (nI 3), .int (nI sp), .int mm0])), (hT9, .inl (cI, 30, .inl T))] := hD
  refine lv_aload_n hx hb dX4_speak_10 rfl (lv_at hl 0 rfl) ?_
  refine lv_iload_n hx hb dX4_speak_11 rfl (lv_at hl 3 rfl) ?_
  refine va_put (ci := 4) (v := .int mm) (ty := .int) (C := RX4) (T := TX4) (N := 6) hx hb hts hin4 tyX4 tyX4_ok nmX4 hown hK hP hD hS 0 rfl rfl 5 (by decide) (hts (.fieldLink RX4 29 "UpAllRound$Voices" "m" "I") (List.mem_of_getElem? (i := 3) rfl)) (fun _ h9 => h9) rfl (by decide +kernel) rfl rfl (Nat.le_of_ble_eq_true rfl) dX4_speak_12 (fun H locs hP hD hS => ?_)
  have hP : va_P D vwCl [(h, .inr (4, [.ref hT9, .int (nI tn0), .int (nI pt0), .int (nI 3), .int (nI sp), .int mm])), (hT9, .inl (cI, 30, .inl T))] H := hP
  have hD : va_D AA [(h, .inr (4, [.ref hT9, .int (nI tn0), .int (nI pt0), .int (nI 3), .int (nI sp), .int mm])), (hT9, .inl (cI, 30, .inl T))] := hD
  refine lv_aload_n hx hb dX4_speak_15 rfl (lv_at hl 0 rfl) ?_
  refine lv_iconst (v := nI 0) hx hb dX4_speak_16 (by decide) ?_
  refine va_put (ci := 4) (v := .int (nI 0)) (ty := .int) (C := RX4) (T := TX4) (N := 6) hx hb hts hin4 tyX4 tyX4_ok nmX4 hown hK hP hD hS 0 rfl rfl 1 (by decide) (hts (.fieldLink RX4 15 "UpAllRound$Voices" "traced" "I") (List.mem_of_getElem? (i := 4) rfl)) (fun _ h9 => h9) rfl (by decide +kernel) rfl rfl (Nat.le_of_ble_eq_true rfl) dX4_speak_17 (fun H locs hP hD hS => ?_)
  have hP : va_P D vwCl [(h, .inr (4, [.ref hT9, .int (nI 0), .int (nI pt0), .int (nI 3), .int (nI sp), .int mm])), (hT9, .inl (cI, 30, .inl T))] H := hP
  have hD : va_D AA [(h, .inr (4, [.ref hT9, .int (nI 0), .int (nI pt0), .int (nI 3), .int (nI sp), .int mm])), (hT9, .inl (cI, 30, .inl T))] := hD
  refine lv_aload_n hx hb dX4_speak_20 rfl (lv_at hl 0 rfl) ?_
  refine lv_iconst (v := nI 0) hx hb dX4_speak_21 (by decide) ?_
  refine va_put (ci := 4) (v := .int (nI 0)) (ty := .boolean) (C := RX4) (T := TX4) (N := 6) hx hb hts hin4 tyX4 tyX4_ok nmX4 hown hK hP hD hS 0 rfl rfl 2 (by decide) (hts (.fieldLink RX4 19 "UpAllRound$Voices" "parted" "Z") (List.mem_of_getElem? (i := 5) rfl)) (fun _ h9 => h9) rfl (by decide +kernel) rfl rfl (Nat.le_of_ble_eq_true rfl) dX4_speak_22 (fun H locs hP hD hS => ?_)
  have hP : va_P D vwCl [(h, .inr (4, [.ref hT9, .int (nI 0), .int (nI 0), .int (nI 3), .int (nI sp), .int mm])), (hT9, .inl (cI, 30, .inl T))] H := hP
  have hD : va_D AA [(h, .inr (4, [.ref hT9, .int (nI 0), .int (nI 0), .int (nI 3), .int (nI sp), .int mm])), (hT9, .inl (cI, 30, .inl T))] := hD
  refine lv_aload_n hx hb dX4_speak_25 rfl (lv_at hl 0 rfl) ?_
  refine lv_aload_n hx hb dX4_speak_26 rfl (lv_at hl 0 rfl) ?_
  refine va_get (ci := 4) (v := .int (nI 3)) (C := RX4) (T := TX4) (N := 6) hx hb hts hin4 hown hK hP 0 rfl rfl 3 (by decide) (hts (.fieldLink RX4 23 "UpAllRound$Voices" "kind" "I") (List.mem_of_getElem? (i := 1) rfl)) (fun _ h9 => h9) rfl dX4_speak_27 ?_
  refine lv_iload hx hb dX4_speak_30 (lv_at hl 4 rfl) ?_
  refine lv_iload hx hb dX4_speak_32 (lv_at hl 5 rfl) ?_
  refine lv_iconst (v := nI 0) hx hb dX4_speak_34 (by decide) ?_
  refine zci (wr := []) (va_runV (As := [.int (nI 3), .int (nI 3), .int x, .int (nI 0)]) (rest := []) ⟨hx, hb, hml, hown, hts⟩ (c_X4_say_3_3_3 l D cI cJ h hT9 T 0 sp mm x 0 (by first | rfl | assumption | omega) (by first | rfl | assumption | omega) H.size) (cwV 4 hts gX4_speak_X4_say rfl rfl rfl (by decide +kernel) ⟨Nat.le_of_ble_eq_true rfl, Nat.le_of_ble_eq_true rfl⟩) (zpV hK hN hZ hP hD hS hA [0, 1] rfl (by decide) 0 rfl rfl rfl) rfl rfl hl.1 rfl (lv_room (Nat.le_of_ble_eq_true rfl)) dX4_speak_35 ⟨Nat.zero_le _, Nat.zero_le _⟩) hP hD hS hA [0, 1] [] rfl rfl (by decide) (by decide) (fun r_3 w_2 H locs h_1 hP hD hS => ?_)
  obtain ⟨rfl, rfl⟩ := h_1
  have hP : va_P D vwCl [(h, .inr (4, [.ref hT9, .int (nI ((0 + 1))), .int (nI ((zpd sp mm))), .int (nI 3), .int (nI sp), .int mm])), (hT9, .inl (cI, 30, .inl ((upd T 0 (nI 13)))))] H := hP
  have hD : va_D AA [(h, .inr (4, [.ref hT9, .int (nI ((0 + 1))), .int (nI ((zpd sp mm))), .int (nI 3), .int (nI sp), .int mm])), (hT9, .inl (cI, 30, .inl ((upd T 0 (nI 13)))))] := hD
  exact hret hP hD hS dX4_speak_38 rfl (by exact ⟨rfl, rfl⟩)
set_option maxHeartbeats 4000000 in
set_option maxRecDepth 100000 in
theorem c_X4_speak_4_0 (l : Launch) (D : va_G) (cI cJ : ClassId) (h : Nat) (hT9 : Nat) (T : Nat → Int32) (tn0 : Nat) (pt0 : Nat) (K0 : Nat) (sp0 : Nat) (mm0 : Int32) (sp : Nat) (mm : Int32) (x : Int32)  : zMi l yX4_speak wsX4_speak ({ frames := 7, cells := 0, slots := 0, locals := 167 } : Room) D [(cI, .int), (cJ, .array .int)] [.ref h, .int (nI 4), .int (nI sp), .int mm, .int (nI 0), .int x] [(h, .inr (4, [.ref hT9, .int (nI tn0), .int (nI pt0), .int (nI K0), .int (nI sp0), .int mm0])), (hT9, .inl (cI, 30, .inl T))] (fun r w => r = (zpants 4 sp x ) ∧ w = [(h, .inr (4, [.ref hT9, .int (nI ((((0 + 1) + 1) + 1))), .int (nI 0), .int (nI 4), .int (nI sp), .int mm])), (hT9, .inl (cI, 30, .inl ((upd (upd (upd T 0 (nI 50)) (0 + 1) (nI 20)) ((0 + 1) + 1) (nI 10)))))]) := by
  refine zMi.start (cc := cX4_speak) (maxL := 6) (rt := .int) (by first | decide | decide +kernel) rfl (Nat.le_of_ble_eq_true rfl) ?_
  intro pg ev s mt args below meth cd ls AA QQ ⟨hx, hb, hml, hr, hlocks, hown, hts, hK, hN, hZ, hP, hD, hA, hS, hl⟩ hret
  have hown : s.vm.findClass RX4 = some mt.cls := hown
  have hl : lv_has ls 6 [(0, .ref h), (1, .int (nI 4)), (2, .int (nI sp)), (3, .int mm), (4, .int (nI 0)), (5, .int x)] := hl
  have hin4 : ∀ w ∈ wsX40, w ∈ wsX4_speak := fun w h => List.mem_cons_of_mem _ (List.mem_append_right _ (h))
  refine lv_aload_n hx hb dX4_speak_0 rfl (lv_at hl 0 rfl) ?_
  refine lv_iload_n hx hb dX4_speak_1 rfl (lv_at hl 1 rfl) ?_
  refine va_put (ci := 4) (v := .int (nI 4)) (ty := .int) (C := RX4) (T := TX4) (N := 6) hx hb hts hin4 tyX4 tyX4_ok nmX4 hown hK hP hD hS 0 rfl rfl 3 (by decide) (hts (.fieldLink RX4 23 "UpAllRound$Voices" "kind" "I") (List.mem_of_getElem? (i := 1) rfl)) (fun _ h9 => h9) rfl (by decide +kernel) rfl rfl (Nat.le_of_ble_eq_true rfl) dX4_speak_2 (fun H locs hP hD hS => ?_)
  have hP : va_P D vwCl [(h, .inr (4, [.ref hT9, .int (nI tn0), .int (nI pt0), .int (nI 4), .int (nI sp0), .int mm0])), (hT9, .inl (cI, 30, .inl T))] H := hP
  have hD : va_D AA [(h, .inr (4, [.ref hT9, .int (nI tn0), .int (nI pt0), .int (nI 4), .int (nI sp0), .int mm0])), (hT9, .inl (cI, 30, .inl T))] := hD
  refine lv_aload_n hx hb dX4_speak_5 rfl (lv_at hl 0 rfl) ?_
  refine lv_iload_n hx hb dX4_speak_6 rfl (lv_at hl 2 rfl) ?_
  refine va_put (ci := 4) (v := .int (nI sp)) (ty := .int) (C := RX4) (T := TX4) (N := 6) hx hb hts hin4 tyX4 tyX4_ok nmX4 hown hK hP hD hS 0 rfl rfl 4 (by decide) (hts (.fieldLink RX4 26 "UpAllRound$Voices" "k" "I") (List.mem_of_getElem? (i := 2) rfl)) (fun _ h9 => h9) rfl (by decide +kernel) rfl rfl (Nat.le_of_ble_eq_true rfl) dX4_speak_7 (fun H locs hP hD hS => ?_)
  have hP : va_P D vwCl [(h, .inr (4, [.ref hT9, .int (nI tn0), .int (nI pt0), .int (nI 4), .int (nI sp), .int mm0])), (hT9, .inl (cI, 30, .inl T))] H := hP
  have hD : va_D AA [(h, .inr (4, [.ref hT9, .int (nI tn0), .int (nI pt0), .int (nI 4), .int (nI sp), .int mm0])), (hT9, .inl (cI, 30, .inl T))] := hD
  refine lv_aload_n hx hb dX4_speak_10 rfl (lv_at hl 0 rfl) ?_
  refine lv_iload_n hx hb dX4_speak_11 rfl (lv_at hl 3 rfl) ?_
  refine va_put (ci := 4) (v := .int mm) (ty := .int) (C := RX4) (T := TX4) (N := 6) hx hb hts hin4 tyX4 tyX4_ok nmX4 hown hK hP hD hS 0 rfl rfl 5 (by decide) (hts (.fieldLink RX4 29 "UpAllRound$Voices" "m" "I") (List.mem_of_getElem? (i := 3) rfl)) (fun _ h9 => h9) rfl (by decide +kernel) rfl rfl (Nat.le_of_ble_eq_true rfl) dX4_speak_12 (fun H locs hP hD hS => ?_)
  have hP : va_P D vwCl [(h, .inr (4, [.ref hT9, .int (nI tn0), .int (nI pt0), .int (nI 4), .int (nI sp), .int mm])), (hT9, .inl (cI, 30, .inl T))] H := hP
  have hD : va_D AA [(h, .inr (4, [.ref hT9, .int (nI tn0), .int (nI pt0), .int (nI 4), .int (nI sp), .int mm])), (hT9, .inl (cI, 30, .inl T))] := hD
  refine lv_aload_n hx hb dX4_speak_15 rfl (lv_at hl 0 rfl) ?_
  refine lv_iconst (v := nI 0) hx hb dX4_speak_16 (by decide) ?_
  refine va_put (ci := 4) (v := .int (nI 0)) (ty := .int) (C := RX4) (T := TX4) (N := 6) hx hb hts hin4 tyX4 tyX4_ok nmX4 hown hK hP hD hS 0 rfl rfl 1 (by decide) (hts (.fieldLink RX4 15 "UpAllRound$Voices" "traced" "I") (List.mem_of_getElem? (i := 4) rfl)) (fun _ h9 => h9) rfl (by decide +kernel) rfl rfl (Nat.le_of_ble_eq_true rfl) dX4_speak_17 (fun H locs hP hD hS => ?_)
  have hP : va_P D vwCl [(h, .inr (4, [.ref hT9, .int (nI 0), .int (nI pt0), .int (nI 4), .int (nI sp), .int mm])), (hT9, .inl (cI, 30, .inl T))] H := hP
  have hD : va_D AA [(h, .inr (4, [.ref hT9, .int (nI 0), .int (nI pt0), .int (nI 4), .int (nI sp), .int mm])), (hT9, .inl (cI, 30, .inl T))] := hD
  refine lv_aload_n hx hb dX4_speak_20 rfl (lv_at hl 0 rfl) ?_
  refine lv_iconst (v := nI 0) hx hb dX4_speak_21 (by decide) ?_
  refine va_put (ci := 4) (v := .int (nI 0)) (ty := .boolean) (C := RX4) (T := TX4) (N := 6) hx hb hts hin4 tyX4 tyX4_ok nmX4 hown hK hP hD hS 0 rfl rfl 2 (by decide) (hts (.fieldLink RX4 19 "UpAllRound$Voices" "parted" "Z") (List.mem_of_getElem? (i := 5) rfl)) (fun _ h9 => h9) rfl (by decide +kernel) rfl rfl (Nat.le_of_ble_eq_true rfl) dX4_speak_22 (fun H locs hP hD hS => ?_)
  have hP : va_P D vwCl [(h, .inr (4, [.ref hT9, .int (nI 0), .int (nI 0), .int (nI 4), .int (nI sp), .int mm])), (hT9, .inl (cI, 30, .inl T))] H := hP
  have hD : va_D AA [(h, .inr (4, [.ref hT9, .int (nI 0), .int (nI 0), .int (nI 4), .int (nI sp), .int mm])), (hT9, .inl (cI, 30, .inl T))] := hD
  refine lv_aload_n hx hb dX4_speak_25 rfl (lv_at hl 0 rfl) ?_
  refine lv_aload_n hx hb dX4_speak_26 rfl (lv_at hl 0 rfl) ?_
  refine va_get (ci := 4) (v := .int (nI 4)) (C := RX4) (T := TX4) (N := 6) hx hb hts hin4 hown hK hP 0 rfl rfl 3 (by decide) (hts (.fieldLink RX4 23 "UpAllRound$Voices" "kind" "I") (List.mem_of_getElem? (i := 1) rfl)) (fun _ h9 => h9) rfl dX4_speak_27 ?_
  refine lv_iload hx hb dX4_speak_30 (lv_at hl 4 rfl) ?_
  refine lv_iload hx hb dX4_speak_32 (lv_at hl 5 rfl) ?_
  refine lv_iconst (v := nI 0) hx hb dX4_speak_34 (by decide) ?_
  refine zci (wr := []) (va_runV (As := [.int (nI 4), .int (nI 0), .int x, .int (nI 0)]) (rest := []) ⟨hx, hb, hml, hown, hts⟩ (c_X4_say_4_0_4 l D cI cJ h hT9 T 0 sp mm x 0 (by first | rfl | assumption | omega) (by first | rfl | assumption | omega) H.size) (cwV 4 hts gX4_speak_X4_say rfl rfl rfl (by decide +kernel) ⟨Nat.le_of_ble_eq_true rfl, Nat.le_of_ble_eq_true rfl⟩) (zpV hK hN hZ hP hD hS hA [0, 1] rfl (by decide) 0 rfl rfl rfl) rfl rfl hl.1 rfl (lv_room (Nat.le_of_ble_eq_true rfl)) dX4_speak_35 ⟨Nat.zero_le _, Nat.zero_le _⟩) hP hD hS hA [0, 1] [] rfl rfl (by decide) (by decide) (fun r_3 w_2 H locs h_1 hP hD hS => ?_)
  obtain ⟨rfl, rfl⟩ := h_1
  have hP : va_P D vwCl [(h, .inr (4, [.ref hT9, .int (nI ((((0 + 1) + 1) + 1))), .int (nI 0), .int (nI 4), .int (nI sp), .int mm])), (hT9, .inl (cI, 30, .inl ((upd (upd (upd T 0 (nI 50)) (0 + 1) (nI 20)) ((0 + 1) + 1) (nI 10)))))] H := hP
  have hD : va_D AA [(h, .inr (4, [.ref hT9, .int (nI ((((0 + 1) + 1) + 1))), .int (nI 0), .int (nI 4), .int (nI sp), .int mm])), (hT9, .inl (cI, 30, .inl ((upd (upd (upd T 0 (nI 50)) (0 + 1) (nI 20)) ((0 + 1) + 1) (nI 10)))))] := hD
  exact hret hP hD hS dX4_speak_38 rfl (by exact ⟨rfl, rfl⟩)
set_option maxHeartbeats 4000000 in
set_option maxRecDepth 100000 in
theorem c_X4_speak_4_1 (l : Launch) (D : va_G) (cI cJ : ClassId) (h : Nat) (hT9 : Nat) (T : Nat → Int32) (tn0 : Nat) (pt0 : Nat) (K0 : Nat) (sp0 : Nat) (mm0 : Int32) (sp : Nat) (mm : Int32) (x : Int32)  : zMi l yX4_speak wsX4_speak ({ frames := 9, cells := 0, slots := 0, locals := 215 } : Room) D [(cI, .int), (cJ, .array .int)] [.ref h, .int (nI 4), .int (nI sp), .int mm, .int (nI 1), .int x] [(h, .inr (4, [.ref hT9, .int (nI tn0), .int (nI pt0), .int (nI K0), .int (nI sp0), .int mm0])), (hT9, .inl (cI, 30, .inl T))] (fun r w => r = (zcounts 4 4 sp mm x ) ∧ w = [(h, .inr (4, [.ref hT9, .int (nI (((((0 + 1) + 1) + 1) + 1))), .int (nI 0), .int (nI 4), .int (nI sp), .int mm])), (hT9, .inl (cI, 30, .inl ((upd (upd (upd (upd T 0 (nI 11)) (0 + 1) (nI 50)) ((0 + 1) + 1) (nI 20)) (((0 + 1) + 1) + 1) (nI 10)))))]) := by
  refine zMi.start (cc := cX4_speak) (maxL := 6) (rt := .int) (by first | decide | decide +kernel) rfl (Nat.le_of_ble_eq_true rfl) ?_
  intro pg ev s mt args below meth cd ls AA QQ ⟨hx, hb, hml, hr, hlocks, hown, hts, hK, hN, hZ, hP, hD, hA, hS, hl⟩ hret
  have hown : s.vm.findClass RX4 = some mt.cls := hown
  have hl : lv_has ls 6 [(0, .ref h), (1, .int (nI 4)), (2, .int (nI sp)), (3, .int mm), (4, .int (nI 1)), (5, .int x)] := hl
  have hin4 : ∀ w ∈ wsX40, w ∈ wsX4_speak := fun w h => List.mem_cons_of_mem _ (List.mem_append_right _ (h))
  refine lv_aload_n hx hb dX4_speak_0 rfl (lv_at hl 0 rfl) ?_
  refine lv_iload_n hx hb dX4_speak_1 rfl (lv_at hl 1 rfl) ?_
  refine va_put (ci := 4) (v := .int (nI 4)) (ty := .int) (C := RX4) (T := TX4) (N := 6) hx hb hts hin4 tyX4 tyX4_ok nmX4 hown hK hP hD hS 0 rfl rfl 3 (by decide) (hts (.fieldLink RX4 23 "UpAllRound$Voices" "kind" "I") (List.mem_of_getElem? (i := 1) rfl)) (fun _ h9 => h9) rfl (by decide +kernel) rfl rfl (Nat.le_of_ble_eq_true rfl) dX4_speak_2 (fun H locs hP hD hS => ?_)
  have hP : va_P D vwCl [(h, .inr (4, [.ref hT9, .int (nI tn0), .int (nI pt0), .int (nI 4), .int (nI sp0), .int mm0])), (hT9, .inl (cI, 30, .inl T))] H := hP
  have hD : va_D AA [(h, .inr (4, [.ref hT9, .int (nI tn0), .int (nI pt0), .int (nI 4), .int (nI sp0), .int mm0])), (hT9, .inl (cI, 30, .inl T))] := hD
  refine lv_aload_n hx hb dX4_speak_5 rfl (lv_at hl 0 rfl) ?_
  refine lv_iload_n hx hb dX4_speak_6 rfl (lv_at hl 2 rfl) ?_
  refine va_put (ci := 4) (v := .int (nI sp)) (ty := .int) (C := RX4) (T := TX4) (N := 6) hx hb hts hin4 tyX4 tyX4_ok nmX4 hown hK hP hD hS 0 rfl rfl 4 (by decide) (hts (.fieldLink RX4 26 "UpAllRound$Voices" "k" "I") (List.mem_of_getElem? (i := 2) rfl)) (fun _ h9 => h9) rfl (by decide +kernel) rfl rfl (Nat.le_of_ble_eq_true rfl) dX4_speak_7 (fun H locs hP hD hS => ?_)
  have hP : va_P D vwCl [(h, .inr (4, [.ref hT9, .int (nI tn0), .int (nI pt0), .int (nI 4), .int (nI sp), .int mm0])), (hT9, .inl (cI, 30, .inl T))] H := hP
  have hD : va_D AA [(h, .inr (4, [.ref hT9, .int (nI tn0), .int (nI pt0), .int (nI 4), .int (nI sp), .int mm0])), (hT9, .inl (cI, 30, .inl T))] := hD
  refine lv_aload_n hx hb dX4_speak_10 rfl (lv_at hl 0 rfl) ?_
  refine lv_iload_n hx hb dX4_speak_11 rfl (lv_at hl 3 rfl) ?_
  refine va_put (ci := 4) (v := .int mm) (ty := .int) (C := RX4) (T := TX4) (N := 6) hx hb hts hin4 tyX4 tyX4_ok nmX4 hown hK hP hD hS 0 rfl rfl 5 (by decide) (hts (.fieldLink RX4 29 "UpAllRound$Voices" "m" "I") (List.mem_of_getElem? (i := 3) rfl)) (fun _ h9 => h9) rfl (by decide +kernel) rfl rfl (Nat.le_of_ble_eq_true rfl) dX4_speak_12 (fun H locs hP hD hS => ?_)
  have hP : va_P D vwCl [(h, .inr (4, [.ref hT9, .int (nI tn0), .int (nI pt0), .int (nI 4), .int (nI sp), .int mm])), (hT9, .inl (cI, 30, .inl T))] H := hP
  have hD : va_D AA [(h, .inr (4, [.ref hT9, .int (nI tn0), .int (nI pt0), .int (nI 4), .int (nI sp), .int mm])), (hT9, .inl (cI, 30, .inl T))] := hD
  refine lv_aload_n hx hb dX4_speak_15 rfl (lv_at hl 0 rfl) ?_
  refine lv_iconst (v := nI 0) hx hb dX4_speak_16 (by decide) ?_
  refine va_put (ci := 4) (v := .int (nI 0)) (ty := .int) (C := RX4) (T := TX4) (N := 6) hx hb hts hin4 tyX4 tyX4_ok nmX4 hown hK hP hD hS 0 rfl rfl 1 (by decide) (hts (.fieldLink RX4 15 "UpAllRound$Voices" "traced" "I") (List.mem_of_getElem? (i := 4) rfl)) (fun _ h9 => h9) rfl (by decide +kernel) rfl rfl (Nat.le_of_ble_eq_true rfl) dX4_speak_17 (fun H locs hP hD hS => ?_)
  have hP : va_P D vwCl [(h, .inr (4, [.ref hT9, .int (nI 0), .int (nI pt0), .int (nI 4), .int (nI sp), .int mm])), (hT9, .inl (cI, 30, .inl T))] H := hP
  have hD : va_D AA [(h, .inr (4, [.ref hT9, .int (nI 0), .int (nI pt0), .int (nI 4), .int (nI sp), .int mm])), (hT9, .inl (cI, 30, .inl T))] := hD
  refine lv_aload_n hx hb dX4_speak_20 rfl (lv_at hl 0 rfl) ?_
  refine lv_iconst (v := nI 0) hx hb dX4_speak_21 (by decide) ?_
  refine va_put (ci := 4) (v := .int (nI 0)) (ty := .boolean) (C := RX4) (T := TX4) (N := 6) hx hb hts hin4 tyX4 tyX4_ok nmX4 hown hK hP hD hS 0 rfl rfl 2 (by decide) (hts (.fieldLink RX4 19 "UpAllRound$Voices" "parted" "Z") (List.mem_of_getElem? (i := 5) rfl)) (fun _ h9 => h9) rfl (by decide +kernel) rfl rfl (Nat.le_of_ble_eq_true rfl) dX4_speak_22 (fun H locs hP hD hS => ?_)
  have hP : va_P D vwCl [(h, .inr (4, [.ref hT9, .int (nI 0), .int (nI 0), .int (nI 4), .int (nI sp), .int mm])), (hT9, .inl (cI, 30, .inl T))] H := hP
  have hD : va_D AA [(h, .inr (4, [.ref hT9, .int (nI 0), .int (nI 0), .int (nI 4), .int (nI sp), .int mm])), (hT9, .inl (cI, 30, .inl T))] := hD
  refine lv_aload_n hx hb dX4_speak_25 rfl (lv_at hl 0 rfl) ?_
  refine lv_aload_n hx hb dX4_speak_26 rfl (lv_at hl 0 rfl) ?_
  refine va_get (ci := 4) (v := .int (nI 4)) (C := RX4) (T := TX4) (N := 6) hx hb hts hin4 hown hK hP 0 rfl rfl 3 (by decide) (hts (.fieldLink RX4 23 "UpAllRound$Voices" "kind" "I") (List.mem_of_getElem? (i := 1) rfl)) (fun _ h9 => h9) rfl dX4_speak_27 ?_
  refine lv_iload hx hb dX4_speak_30 (lv_at hl 4 rfl) ?_
  refine lv_iload hx hb dX4_speak_32 (lv_at hl 5 rfl) ?_
  refine lv_iconst (v := nI 0) hx hb dX4_speak_34 (by decide) ?_
  refine zci (wr := []) (va_runV (As := [.int (nI 4), .int (nI 1), .int x, .int (nI 0)]) (rest := []) ⟨hx, hb, hml, hown, hts⟩ (c_X4_say_4_1_4 l D cI cJ h hT9 T 0 sp mm x 0 (by first | rfl | assumption | omega) (by first | rfl | assumption | omega) H.size) (cwV 4 hts gX4_speak_X4_say rfl rfl rfl (by decide +kernel) ⟨Nat.le_of_ble_eq_true rfl, Nat.le_of_ble_eq_true rfl⟩) (zpV hK hN hZ hP hD hS hA [0, 1] rfl (by decide) 0 rfl rfl rfl) rfl rfl hl.1 rfl (lv_room (Nat.le_of_ble_eq_true rfl)) dX4_speak_35 ⟨Nat.zero_le _, Nat.zero_le _⟩) hP hD hS hA [0, 1] [] rfl rfl (by decide) (by decide) (fun r_3 w_2 H locs h_1 hP hD hS => ?_)
  obtain ⟨rfl, rfl⟩ := h_1
  have hP : va_P D vwCl [(h, .inr (4, [.ref hT9, .int (nI (((((0 + 1) + 1) + 1) + 1))), .int (nI 0), .int (nI 4), .int (nI sp), .int mm])), (hT9, .inl (cI, 30, .inl ((upd (upd (upd (upd T 0 (nI 11)) (0 + 1) (nI 50)) ((0 + 1) + 1) (nI 20)) (((0 + 1) + 1) + 1) (nI 10)))))] H := hP
  have hD : va_D AA [(h, .inr (4, [.ref hT9, .int (nI (((((0 + 1) + 1) + 1) + 1))), .int (nI 0), .int (nI 4), .int (nI sp), .int mm])), (hT9, .inl (cI, 30, .inl ((upd (upd (upd (upd T 0 (nI 11)) (0 + 1) (nI 50)) ((0 + 1) + 1) (nI 20)) (((0 + 1) + 1) + 1) (nI 10)))))] := hD
  exact hret hP hD hS dX4_speak_38 rfl (by exact ⟨rfl, rfl⟩)
set_option maxHeartbeats 4000000 in
set_option maxRecDepth 100000 in
theorem c_X4_speak_4_2 (l : Launch) (D : va_G) (cI cJ : ClassId) (h : Nat) (hT9 : Nat) (T : Nat → Int32) (tn0 : Nat) (pt0 : Nat) (K0 : Nat) (sp0 : Nat) (mm0 : Int32) (sp : Nat) (mm : Int32) (x : Int32)  : zMi l yX4_speak wsX4_speak ({ frames := 13, cells := 0, slots := 0, locals := 311 } : Room) D [(cI, .int), (cJ, .array .int)] [.ref h, .int (nI 4), .int (nI sp), .int mm, .int (nI 2), .int x] [(h, .inr (4, [.ref hT9, .int (nI tn0), .int (nI pt0), .int (nI K0), .int (nI sp0), .int mm0])), (hT9, .inl (cI, 30, .inl T))] (fun r w => r = (zswears 4 4 sp mm x ) ∧ w = [(h, .inr (4, [.ref hT9, .int (nI (((((((0 + 1) + 1) + 1) + 1) + 1) + 1))), .int (nI 0), .int (nI 4), .int (nI sp), .int mm])), (hT9, .inl (cI, 30, .inl ((upd (upd (upd (upd (upd (upd T 0 (nI 51)) (0 + 1) (nI 12)) ((0 + 1) + 1) (nI 11)) (((0 + 1) + 1) + 1) (nI 50)) ((((0 + 1) + 1) + 1) + 1) (nI 20)) (((((0 + 1) + 1) + 1) + 1) + 1) (nI 10)))))]) := by
  refine zMi.start (cc := cX4_speak) (maxL := 6) (rt := .int) (by first | decide | decide +kernel) rfl (Nat.le_of_ble_eq_true rfl) ?_
  intro pg ev s mt args below meth cd ls AA QQ ⟨hx, hb, hml, hr, hlocks, hown, hts, hK, hN, hZ, hP, hD, hA, hS, hl⟩ hret
  have hown : s.vm.findClass RX4 = some mt.cls := hown
  have hl : lv_has ls 6 [(0, .ref h), (1, .int (nI 4)), (2, .int (nI sp)), (3, .int mm), (4, .int (nI 2)), (5, .int x)] := hl
  have hin4 : ∀ w ∈ wsX40, w ∈ wsX4_speak := fun w h => List.mem_cons_of_mem _ (List.mem_append_right _ (h))
  refine lv_aload_n hx hb dX4_speak_0 rfl (lv_at hl 0 rfl) ?_
  refine lv_iload_n hx hb dX4_speak_1 rfl (lv_at hl 1 rfl) ?_
  refine va_put (ci := 4) (v := .int (nI 4)) (ty := .int) (C := RX4) (T := TX4) (N := 6) hx hb hts hin4 tyX4 tyX4_ok nmX4 hown hK hP hD hS 0 rfl rfl 3 (by decide) (hts (.fieldLink RX4 23 "UpAllRound$Voices" "kind" "I") (List.mem_of_getElem? (i := 1) rfl)) (fun _ h9 => h9) rfl (by decide +kernel) rfl rfl (Nat.le_of_ble_eq_true rfl) dX4_speak_2 (fun H locs hP hD hS => ?_)
  have hP : va_P D vwCl [(h, .inr (4, [.ref hT9, .int (nI tn0), .int (nI pt0), .int (nI 4), .int (nI sp0), .int mm0])), (hT9, .inl (cI, 30, .inl T))] H := hP
  have hD : va_D AA [(h, .inr (4, [.ref hT9, .int (nI tn0), .int (nI pt0), .int (nI 4), .int (nI sp0), .int mm0])), (hT9, .inl (cI, 30, .inl T))] := hD
  refine lv_aload_n hx hb dX4_speak_5 rfl (lv_at hl 0 rfl) ?_
  refine lv_iload_n hx hb dX4_speak_6 rfl (lv_at hl 2 rfl) ?_
  refine va_put (ci := 4) (v := .int (nI sp)) (ty := .int) (C := RX4) (T := TX4) (N := 6) hx hb hts hin4 tyX4 tyX4_ok nmX4 hown hK hP hD hS 0 rfl rfl 4 (by decide) (hts (.fieldLink RX4 26 "UpAllRound$Voices" "k" "I") (List.mem_of_getElem? (i := 2) rfl)) (fun _ h9 => h9) rfl (by decide +kernel) rfl rfl (Nat.le_of_ble_eq_true rfl) dX4_speak_7 (fun H locs hP hD hS => ?_)
  have hP : va_P D vwCl [(h, .inr (4, [.ref hT9, .int (nI tn0), .int (nI pt0), .int (nI 4), .int (nI sp), .int mm0])), (hT9, .inl (cI, 30, .inl T))] H := hP
  have hD : va_D AA [(h, .inr (4, [.ref hT9, .int (nI tn0), .int (nI pt0), .int (nI 4), .int (nI sp), .int mm0])), (hT9, .inl (cI, 30, .inl T))] := hD
  refine lv_aload_n hx hb dX4_speak_10 rfl (lv_at hl 0 rfl) ?_
  refine lv_iload_n hx hb dX4_speak_11 rfl (lv_at hl 3 rfl) ?_
  refine va_put (ci := 4) (v := .int mm) (ty := .int) (C := RX4) (T := TX4) (N := 6) hx hb hts hin4 tyX4 tyX4_ok nmX4 hown hK hP hD hS 0 rfl rfl 5 (by decide) (hts (.fieldLink RX4 29 "UpAllRound$Voices" "m" "I") (List.mem_of_getElem? (i := 3) rfl)) (fun _ h9 => h9) rfl (by decide +kernel) rfl rfl (Nat.le_of_ble_eq_true rfl) dX4_speak_12 (fun H locs hP hD hS => ?_)
  have hP : va_P D vwCl [(h, .inr (4, [.ref hT9, .int (nI tn0), .int (nI pt0), .int (nI 4), .int (nI sp), .int mm])), (hT9, .inl (cI, 30, .inl T))] H := hP
  have hD : va_D AA [(h, .inr (4, [.ref hT9, .int (nI tn0), .int (nI pt0), .int (nI 4), .int (nI sp), .int mm])), (hT9, .inl (cI, 30, .inl T))] := hD
  refine lv_aload_n hx hb dX4_speak_15 rfl (lv_at hl 0 rfl) ?_
  refine lv_iconst (v := nI 0) hx hb dX4_speak_16 (by decide) ?_
  refine va_put (ci := 4) (v := .int (nI 0)) (ty := .int) (C := RX4) (T := TX4) (N := 6) hx hb hts hin4 tyX4 tyX4_ok nmX4 hown hK hP hD hS 0 rfl rfl 1 (by decide) (hts (.fieldLink RX4 15 "UpAllRound$Voices" "traced" "I") (List.mem_of_getElem? (i := 4) rfl)) (fun _ h9 => h9) rfl (by decide +kernel) rfl rfl (Nat.le_of_ble_eq_true rfl) dX4_speak_17 (fun H locs hP hD hS => ?_)
  have hP : va_P D vwCl [(h, .inr (4, [.ref hT9, .int (nI 0), .int (nI pt0), .int (nI 4), .int (nI sp), .int mm])), (hT9, .inl (cI, 30, .inl T))] H := hP
  have hD : va_D AA [(h, .inr (4, [.ref hT9, .int (nI 0), .int (nI pt0), .int (nI 4), .int (nI sp), .int mm])), (hT9, .inl (cI, 30, .inl T))] := hD
  refine lv_aload_n hx hb dX4_speak_20 rfl (lv_at hl 0 rfl) ?_
  refine lv_iconst (v := nI 0) hx hb dX4_speak_21 (by decide) ?_
  refine va_put (ci := 4) (v := .int (nI 0)) (ty := .boolean) (C := RX4) (T := TX4) (N := 6) hx hb hts hin4 tyX4 tyX4_ok nmX4 hown hK hP hD hS 0 rfl rfl 2 (by decide) (hts (.fieldLink RX4 19 "UpAllRound$Voices" "parted" "Z") (List.mem_of_getElem? (i := 5) rfl)) (fun _ h9 => h9) rfl (by decide +kernel) rfl rfl (Nat.le_of_ble_eq_true rfl) dX4_speak_22 (fun H locs hP hD hS => ?_)
  have hP : va_P D vwCl [(h, .inr (4, [.ref hT9, .int (nI 0), .int (nI 0), .int (nI 4), .int (nI sp), .int mm])), (hT9, .inl (cI, 30, .inl T))] H := hP
  have hD : va_D AA [(h, .inr (4, [.ref hT9, .int (nI 0), .int (nI 0), .int (nI 4), .int (nI sp), .int mm])), (hT9, .inl (cI, 30, .inl T))] := hD
  refine lv_aload_n hx hb dX4_speak_25 rfl (lv_at hl 0 rfl) ?_
  refine lv_aload_n hx hb dX4_speak_26 rfl (lv_at hl 0 rfl) ?_
  refine va_get (ci := 4) (v := .int (nI 4)) (C := RX4) (T := TX4) (N := 6) hx hb hts hin4 hown hK hP 0 rfl rfl 3 (by decide) (hts (.fieldLink RX4 23 "UpAllRound$Voices" "kind" "I") (List.mem_of_getElem? (i := 1) rfl)) (fun _ h9 => h9) rfl dX4_speak_27 ?_
  refine lv_iload hx hb dX4_speak_30 (lv_at hl 4 rfl) ?_
  refine lv_iload hx hb dX4_speak_32 (lv_at hl 5 rfl) ?_
  refine lv_iconst (v := nI 0) hx hb dX4_speak_34 (by decide) ?_
  refine zci (wr := []) (va_runV (As := [.int (nI 4), .int (nI 2), .int x, .int (nI 0)]) (rest := []) ⟨hx, hb, hml, hown, hts⟩ (c_X4_say_4_2_4 l D cI cJ h hT9 T 0 sp mm x 0 (by first | rfl | assumption | omega) (by first | rfl | assumption | omega) H.size) (cwV 4 hts gX4_speak_X4_say rfl rfl rfl (by decide +kernel) ⟨Nat.le_of_ble_eq_true rfl, Nat.le_of_ble_eq_true rfl⟩) (zpV hK hN hZ hP hD hS hA [0, 1] rfl (by decide) 0 rfl rfl rfl) rfl rfl hl.1 rfl (lv_room (Nat.le_of_ble_eq_true rfl)) dX4_speak_35 ⟨Nat.zero_le _, Nat.zero_le _⟩) hP hD hS hA [0, 1] [] rfl rfl (by decide) (by decide) (fun r_3 w_2 H locs h_1 hP hD hS => ?_)
  obtain ⟨rfl, rfl⟩ := h_1
  have hP : va_P D vwCl [(h, .inr (4, [.ref hT9, .int (nI (((((((0 + 1) + 1) + 1) + 1) + 1) + 1))), .int (nI 0), .int (nI 4), .int (nI sp), .int mm])), (hT9, .inl (cI, 30, .inl ((upd (upd (upd (upd (upd (upd T 0 (nI 51)) (0 + 1) (nI 12)) ((0 + 1) + 1) (nI 11)) (((0 + 1) + 1) + 1) (nI 50)) ((((0 + 1) + 1) + 1) + 1) (nI 20)) (((((0 + 1) + 1) + 1) + 1) + 1) (nI 10)))))] H := hP
  have hD : va_D AA [(h, .inr (4, [.ref hT9, .int (nI (((((((0 + 1) + 1) + 1) + 1) + 1) + 1))), .int (nI 0), .int (nI 4), .int (nI sp), .int mm])), (hT9, .inl (cI, 30, .inl ((upd (upd (upd (upd (upd (upd T 0 (nI 51)) (0 + 1) (nI 12)) ((0 + 1) + 1) (nI 11)) (((0 + 1) + 1) + 1) (nI 50)) ((((0 + 1) + 1) + 1) + 1) (nI 20)) (((((0 + 1) + 1) + 1) + 1) + 1) (nI 10)))))] := hD
  exact hret hP hD hS dX4_speak_38 rfl (by exact ⟨rfl, rfl⟩)
set_option maxHeartbeats 4000000 in
set_option maxRecDepth 100000 in
theorem c_X4_speak_4_3 (l : Launch) (D : va_G) (cI cJ : ClassId) (h : Nat) (hT9 : Nat) (T : Nat → Int32) (tn0 : Nat) (pt0 : Nat) (K0 : Nat) (sp0 : Nat) (mm0 : Int32) (sp : Nat) (mm : Int32) (x : Int32)  : zMi l yX4_speak wsX4_speak ({ frames := 11, cells := 0, slots := 0, locals := 263 } : Room) D [(cI, .int), (cJ, .array .int)] [.ref h, .int (nI 4), .int (nI sp), .int mm, .int (nI 3), .int x] [(h, .inr (4, [.ref hT9, .int (nI tn0), .int (nI pt0), .int (nI K0), .int (nI sp0), .int mm0])), (hT9, .inl (cI, 30, .inl T))] (fun r w => r = (zparts 4 sp mm x) ∧ w = [(h, .inr (4, [.ref hT9, .int (nI ((if (mm - nI sp = 0) then ((0 + 1) + 1) else ((((((0 + 1) + 1) + 1) + 1) + 1) + 1)))), .int (nI ((zpd sp mm))), .int (nI 4), .int (nI sp), .int mm])), (hT9, .inl (cI, 30, .inl ((if (mm - nI sp = 0) then (upd (upd T 0 (nI 21)) (0 + 1) (nI 13)) else (upd (upd (upd (upd (upd (upd T 0 (nI 21)) (0 + 1) (nI 13)) ((0 + 1) + 1) (nI 11)) (((0 + 1) + 1) + 1) (nI 50)) ((((0 + 1) + 1) + 1) + 1) (nI 20)) (((((0 + 1) + 1) + 1) + 1) + 1) (nI 10))))))]) := by
  refine zMi.start (cc := cX4_speak) (maxL := 6) (rt := .int) (by first | decide | decide +kernel) rfl (Nat.le_of_ble_eq_true rfl) ?_
  intro pg ev s mt args below meth cd ls AA QQ ⟨hx, hb, hml, hr, hlocks, hown, hts, hK, hN, hZ, hP, hD, hA, hS, hl⟩ hret
  have hown : s.vm.findClass RX4 = some mt.cls := hown
  have hl : lv_has ls 6 [(0, .ref h), (1, .int (nI 4)), (2, .int (nI sp)), (3, .int mm), (4, .int (nI 3)), (5, .int x)] := hl
  have hin4 : ∀ w ∈ wsX40, w ∈ wsX4_speak := fun w h => List.mem_cons_of_mem _ (List.mem_append_right _ (h))
  refine lv_aload_n hx hb dX4_speak_0 rfl (lv_at hl 0 rfl) ?_
  refine lv_iload_n hx hb dX4_speak_1 rfl (lv_at hl 1 rfl) ?_
  refine va_put (ci := 4) (v := .int (nI 4)) (ty := .int) (C := RX4) (T := TX4) (N := 6) hx hb hts hin4 tyX4 tyX4_ok nmX4 hown hK hP hD hS 0 rfl rfl 3 (by decide) (hts (.fieldLink RX4 23 "UpAllRound$Voices" "kind" "I") (List.mem_of_getElem? (i := 1) rfl)) (fun _ h9 => h9) rfl (by decide +kernel) rfl rfl (Nat.le_of_ble_eq_true rfl) dX4_speak_2 (fun H locs hP hD hS => ?_)
  have hP : va_P D vwCl [(h, .inr (4, [.ref hT9, .int (nI tn0), .int (nI pt0), .int (nI 4), .int (nI sp0), .int mm0])), (hT9, .inl (cI, 30, .inl T))] H := hP
  have hD : va_D AA [(h, .inr (4, [.ref hT9, .int (nI tn0), .int (nI pt0), .int (nI 4), .int (nI sp0), .int mm0])), (hT9, .inl (cI, 30, .inl T))] := hD
  refine lv_aload_n hx hb dX4_speak_5 rfl (lv_at hl 0 rfl) ?_
  refine lv_iload_n hx hb dX4_speak_6 rfl (lv_at hl 2 rfl) ?_
  refine va_put (ci := 4) (v := .int (nI sp)) (ty := .int) (C := RX4) (T := TX4) (N := 6) hx hb hts hin4 tyX4 tyX4_ok nmX4 hown hK hP hD hS 0 rfl rfl 4 (by decide) (hts (.fieldLink RX4 26 "UpAllRound$Voices" "k" "I") (List.mem_of_getElem? (i := 2) rfl)) (fun _ h9 => h9) rfl (by decide +kernel) rfl rfl (Nat.le_of_ble_eq_true rfl) dX4_speak_7 (fun H locs hP hD hS => ?_)
  have hP : va_P D vwCl [(h, .inr (4, [.ref hT9, .int (nI tn0), .int (nI pt0), .int (nI 4), .int (nI sp), .int mm0])), (hT9, .inl (cI, 30, .inl T))] H := hP
  have hD : va_D AA [(h, .inr (4, [.ref hT9, .int (nI tn0), .int (nI pt0), .int (nI 4), .int (nI sp), .int mm0])), (hT9, .inl (cI, 30, .inl T))] := hD
  refine lv_aload_n hx hb dX4_speak_10 rfl (lv_at hl 0 rfl) ?_
  refine lv_iload_n hx hb dX4_speak_11 rfl (lv_at hl 3 rfl) ?_
  refine va_put (ci := 4) (v := .int mm) (ty := .int) (C := RX4) (T := TX4) (N := 6) hx hb hts hin4 tyX4 tyX4_ok nmX4 hown hK hP hD hS 0 rfl rfl 5 (by decide) (hts (.fieldLink RX4 29 "UpAllRound$Voices" "m" "I") (List.mem_of_getElem? (i := 3) rfl)) (fun _ h9 => h9) rfl (by decide +kernel) rfl rfl (Nat.le_of_ble_eq_true rfl) dX4_speak_12 (fun H locs hP hD hS => ?_)
  have hP : va_P D vwCl [(h, .inr (4, [.ref hT9, .int (nI tn0), .int (nI pt0), .int (nI 4), .int (nI sp), .int mm])), (hT9, .inl (cI, 30, .inl T))] H := hP
  have hD : va_D AA [(h, .inr (4, [.ref hT9, .int (nI tn0), .int (nI pt0), .int (nI 4), .int (nI sp), .int mm])), (hT9, .inl (cI, 30, .inl T))] := hD
  refine lv_aload_n hx hb dX4_speak_15 rfl (lv_at hl 0 rfl) ?_
  refine lv_iconst (v := nI 0) hx hb dX4_speak_16 (by decide) ?_
  refine va_put (ci := 4) (v := .int (nI 0)) (ty := .int) (C := RX4) (T := TX4) (N := 6) hx hb hts hin4 tyX4 tyX4_ok nmX4 hown hK hP hD hS 0 rfl rfl 1 (by decide) (hts (.fieldLink RX4 15 "UpAllRound$Voices" "traced" "I") (List.mem_of_getElem? (i := 4) rfl)) (fun _ h9 => h9) rfl (by decide +kernel) rfl rfl (Nat.le_of_ble_eq_true rfl) dX4_speak_17 (fun H locs hP hD hS => ?_)
  have hP : va_P D vwCl [(h, .inr (4, [.ref hT9, .int (nI 0), .int (nI pt0), .int (nI 4), .int (nI sp), .int mm])), (hT9, .inl (cI, 30, .inl T))] H := hP
  have hD : va_D AA [(h, .inr (4, [.ref hT9, .int (nI 0), .int (nI pt0), .int (nI 4), .int (nI sp), .int mm])), (hT9, .inl (cI, 30, .inl T))] := hD
  refine lv_aload_n hx hb dX4_speak_20 rfl (lv_at hl 0 rfl) ?_
  refine lv_iconst (v := nI 0) hx hb dX4_speak_21 (by decide) ?_
  refine va_put (ci := 4) (v := .int (nI 0)) (ty := .boolean) (C := RX4) (T := TX4) (N := 6) hx hb hts hin4 tyX4 tyX4_ok nmX4 hown hK hP hD hS 0 rfl rfl 2 (by decide) (hts (.fieldLink RX4 19 "UpAllRound$Voices" "parted" "Z") (List.mem_of_getElem? (i := 5) rfl)) (fun _ h9 => h9) rfl (by decide +kernel) rfl rfl (Nat.le_of_ble_eq_true rfl) dX4_speak_22 (fun H locs hP hD hS => ?_)
  have hP : va_P D vwCl [(h, .inr (4, [.ref hT9, .int (nI 0), .int (nI 0), .int (nI 4), .int (nI sp), .int mm])), (hT9, .inl (cI, 30, .inl T))] H := hP
  have hD : va_D AA [(h, .inr (4, [.ref hT9, .int (nI 0), .int (nI 0), .int (nI 4), .int (nI sp), .int mm])), (hT9, .inl (cI, 30, .inl T))] := hD
  refine lv_aload_n hx hb dX4_speak_25 rfl (lv_at hl 0 rfl) ?_
  refine lv_aload_n hx hb dX4_speak_26 rfl (lv_at hl 0 rfl) ?_
  refine va_get (ci := 4) (v := .int (nI 4)) (C := RX4) (T := TX4) (N := 6) hx hb hts hin4 hown hK hP 0 rfl rfl 3 (by decide) (hts (.fieldLink RX4 23 "UpAllRound$Voices" "kind" "I") (List.mem_of_getElem? (i := 1) rfl)) (fun _ h9 => h9) rfl dX4_speak_27 ?_
  refine lv_iload hx hb dX4_speak_30 (lv_at hl 4 rfl) ?_
  refine lv_iload hx hb dX4_speak_32 (lv_at hl 5 rfl) ?_
  refine lv_iconst (v := nI 0) hx hb dX4_speak_34 (by decide) ?_
  refine zci (wr := []) (va_runV (As := [.int (nI 4), .int (nI 3), .int x, .int (nI 0)]) (rest := []) ⟨hx, hb, hml, hown, hts⟩ (c_X4_say_4_3_4 l D cI cJ h hT9 T 0 sp mm x 0 (by first | rfl | assumption | omega) (by first | rfl | assumption | omega) H.size) (cwV 4 hts gX4_speak_X4_say rfl rfl rfl (by decide +kernel) ⟨Nat.le_of_ble_eq_true rfl, Nat.le_of_ble_eq_true rfl⟩) (zpV hK hN hZ hP hD hS hA [0, 1] rfl (by decide) 0 rfl rfl rfl) rfl rfl hl.1 rfl (lv_room (Nat.le_of_ble_eq_true rfl)) dX4_speak_35 ⟨Nat.zero_le _, Nat.zero_le _⟩) hP hD hS hA [0, 1] [] rfl rfl (by decide) (by decide) (fun r_3 w_2 H locs h_1 hP hD hS => ?_)
  obtain ⟨rfl, rfl⟩ := h_1
  have hP : va_P D vwCl [(h, .inr (4, [.ref hT9, .int (nI ((if (mm - nI sp = 0) then ((0 + 1) + 1) else ((((((0 + 1) + 1) + 1) + 1) + 1) + 1)))), .int (nI ((zpd sp mm))), .int (nI 4), .int (nI sp), .int mm])), (hT9, .inl (cI, 30, .inl ((if (mm - nI sp = 0) then (upd (upd T 0 (nI 21)) (0 + 1) (nI 13)) else (upd (upd (upd (upd (upd (upd T 0 (nI 21)) (0 + 1) (nI 13)) ((0 + 1) + 1) (nI 11)) (((0 + 1) + 1) + 1) (nI 50)) ((((0 + 1) + 1) + 1) + 1) (nI 20)) (((((0 + 1) + 1) + 1) + 1) + 1) (nI 10))))))] H := hP
  have hD : va_D AA [(h, .inr (4, [.ref hT9, .int (nI ((if (mm - nI sp = 0) then ((0 + 1) + 1) else ((((((0 + 1) + 1) + 1) + 1) + 1) + 1)))), .int (nI ((zpd sp mm))), .int (nI 4), .int (nI sp), .int mm])), (hT9, .inl (cI, 30, .inl ((if (mm - nI sp = 0) then (upd (upd T 0 (nI 21)) (0 + 1) (nI 13)) else (upd (upd (upd (upd (upd (upd T 0 (nI 21)) (0 + 1) (nI 13)) ((0 + 1) + 1) (nI 11)) (((0 + 1) + 1) + 1) (nI 50)) ((((0 + 1) + 1) + 1) + 1) (nI 20)) (((((0 + 1) + 1) + 1) + 1) + 1) (nI 10))))))] := hD
  exact hret hP hD hS dX4_speak_38 rfl (by exact ⟨rfl, rfl⟩)
set_option maxHeartbeats 4000000 in
set_option maxRecDepth 100000 in
theorem c_X4_speak_5_0 (l : Launch) (D : va_G) (cI cJ : ClassId) (h : Nat) (hT9 : Nat) (T : Nat → Int32) (tn0 : Nat) (pt0 : Nat) (K0 : Nat) (sp0 : Nat) (mm0 : Int32) (sp : Nat) (mm : Int32) (x : Int32)  : zMi l yX4_speak wsX4_speak ({ frames := 3, cells := 0, slots := 0, locals := 71 } : Room) D [(cI, .int), (cJ, .array .int)] [.ref h, .int (nI 5), .int (nI sp), .int mm, .int (nI 0), .int x] [(h, .inr (4, [.ref hT9, .int (nI tn0), .int (nI pt0), .int (nI K0), .int (nI sp0), .int mm0])), (hT9, .inl (cI, 30, .inl T))] (fun r w => r = (zpants 5 sp x ) ∧ w = [(h, .inr (4, [.ref hT9, .int (nI ((0 + 1))), .int (nI 0), .int (nI 5), .int (nI sp), .int mm])), (hT9, .inl (cI, 30, .inl ((upd T 0 (nI 10)))))]) := by
  refine zMi.start (cc := cX4_speak) (maxL := 6) (rt := .int) (by first | decide | decide +kernel) rfl (Nat.le_of_ble_eq_true rfl) ?_
  intro pg ev s mt args below meth cd ls AA QQ ⟨hx, hb, hml, hr, hlocks, hown, hts, hK, hN, hZ, hP, hD, hA, hS, hl⟩ hret
  have hown : s.vm.findClass RX4 = some mt.cls := hown
  have hl : lv_has ls 6 [(0, .ref h), (1, .int (nI 5)), (2, .int (nI sp)), (3, .int mm), (4, .int (nI 0)), (5, .int x)] := hl
  have hin4 : ∀ w ∈ wsX40, w ∈ wsX4_speak := fun w h => List.mem_cons_of_mem _ (List.mem_append_right _ (h))
  refine lv_aload_n hx hb dX4_speak_0 rfl (lv_at hl 0 rfl) ?_
  refine lv_iload_n hx hb dX4_speak_1 rfl (lv_at hl 1 rfl) ?_
  refine va_put (ci := 4) (v := .int (nI 5)) (ty := .int) (C := RX4) (T := TX4) (N := 6) hx hb hts hin4 tyX4 tyX4_ok nmX4 hown hK hP hD hS 0 rfl rfl 3 (by decide) (hts (.fieldLink RX4 23 "UpAllRound$Voices" "kind" "I") (List.mem_of_getElem? (i := 1) rfl)) (fun _ h9 => h9) rfl (by decide +kernel) rfl rfl (Nat.le_of_ble_eq_true rfl) dX4_speak_2 (fun H locs hP hD hS => ?_)
  have hP : va_P D vwCl [(h, .inr (4, [.ref hT9, .int (nI tn0), .int (nI pt0), .int (nI 5), .int (nI sp0), .int mm0])), (hT9, .inl (cI, 30, .inl T))] H := hP
  have hD : va_D AA [(h, .inr (4, [.ref hT9, .int (nI tn0), .int (nI pt0), .int (nI 5), .int (nI sp0), .int mm0])), (hT9, .inl (cI, 30, .inl T))] := hD
  refine lv_aload_n hx hb dX4_speak_5 rfl (lv_at hl 0 rfl) ?_
  refine lv_iload_n hx hb dX4_speak_6 rfl (lv_at hl 2 rfl) ?_
  refine va_put (ci := 4) (v := .int (nI sp)) (ty := .int) (C := RX4) (T := TX4) (N := 6) hx hb hts hin4 tyX4 tyX4_ok nmX4 hown hK hP hD hS 0 rfl rfl 4 (by decide) (hts (.fieldLink RX4 26 "UpAllRound$Voices" "k" "I") (List.mem_of_getElem? (i := 2) rfl)) (fun _ h9 => h9) rfl (by decide +kernel) rfl rfl (Nat.le_of_ble_eq_true rfl) dX4_speak_7 (fun H locs hP hD hS => ?_)
  have hP : va_P D vwCl [(h, .inr (4, [.ref hT9, .int (nI tn0), .int (nI pt0), .int (nI 5), .int (nI sp), .int mm0])), (hT9, .inl (cI, 30, .inl T))] H := hP
  have hD : va_D AA [(h, .inr (4, [.ref hT9, .int (nI tn0), .int (nI pt0), .int (nI 5), .int (nI sp), .int mm0])), (hT9, .inl (cI, 30, .inl T))] := hD
  refine lv_aload_n hx hb dX4_speak_10 rfl (lv_at hl 0 rfl) ?_
  refine lv_iload_n hx hb dX4_speak_11 rfl (lv_at hl 3 rfl) ?_
  refine va_put (ci := 4) (v := .int mm) (ty := .int) (C := RX4) (T := TX4) (N := 6) hx hb hts hin4 tyX4 tyX4_ok nmX4 hown hK hP hD hS 0 rfl rfl 5 (by decide) (hts (.fieldLink RX4 29 "UpAllRound$Voices" "m" "I") (List.mem_of_getElem? (i := 3) rfl)) (fun _ h9 => h9) rfl (by decide +kernel) rfl rfl (Nat.le_of_ble_eq_true rfl) dX4_speak_12 (fun H locs hP hD hS => ?_)
  have hP : va_P D vwCl [(h, .inr (4, [.ref hT9, .int (nI tn0), .int (nI pt0), .int (nI 5), .int (nI sp), .int mm])), (hT9, .inl (cI, 30, .inl T))] H := hP
  have hD : va_D AA [(h, .inr (4, [.ref hT9, .int (nI tn0), .int (nI pt0), .int (nI 5), .int (nI sp), .int mm])), (hT9, .inl (cI, 30, .inl T))] := hD
  refine lv_aload_n hx hb dX4_speak_15 rfl (lv_at hl 0 rfl) ?_
  refine lv_iconst (v := nI 0) hx hb dX4_speak_16 (by decide) ?_
  refine va_put (ci := 4) (v := .int (nI 0)) (ty := .int) (C := RX4) (T := TX4) (N := 6) hx hb hts hin4 tyX4 tyX4_ok nmX4 hown hK hP hD hS 0 rfl rfl 1 (by decide) (hts (.fieldLink RX4 15 "UpAllRound$Voices" "traced" "I") (List.mem_of_getElem? (i := 4) rfl)) (fun _ h9 => h9) rfl (by decide +kernel) rfl rfl (Nat.le_of_ble_eq_true rfl) dX4_speak_17 (fun H locs hP hD hS => ?_)
  have hP : va_P D vwCl [(h, .inr (4, [.ref hT9, .int (nI 0), .int (nI pt0), .int (nI 5), .int (nI sp), .int mm])), (hT9, .inl (cI, 30, .inl T))] H := hP
  have hD : va_D AA [(h, .inr (4, [.ref hT9, .int (nI 0), .int (nI pt0), .int (nI 5), .int (nI sp), .int mm])), (hT9, .inl (cI, 30, .inl T))] := hD
  refine lv_aload_n hx hb dX4_speak_20 rfl (lv_at hl 0 rfl) ?_
  refine lv_iconst (v := nI 0) hx hb dX4_speak_21 (by decide) ?_
  refine va_put (ci := 4) (v := .int (nI 0)) (ty := .boolean) (C := RX4) (T := TX4) (N := 6) hx hb hts hin4 tyX4 tyX4_ok nmX4 hown hK hP hD hS 0 rfl rfl 2 (by decide) (hts (.fieldLink RX4 19 "UpAllRound$Voices" "parted" "Z") (List.mem_of_getElem? (i := 5) rfl)) (fun _ h9 => h9) rfl (by decide +kernel) rfl rfl (Nat.le_of_ble_eq_true rfl) dX4_speak_22 (fun H locs hP hD hS => ?_)
  have hP : va_P D vwCl [(h, .inr (4, [.ref hT9, .int (nI 0), .int (nI 0), .int (nI 5), .int (nI sp), .int mm])), (hT9, .inl (cI, 30, .inl T))] H := hP
  have hD : va_D AA [(h, .inr (4, [.ref hT9, .int (nI 0), .int (nI 0), .int (nI 5), .int (nI sp), .int mm])), (hT9, .inl (cI, 30, .inl T))] := hD
  refine lv_aload_n hx hb dX4_speak_25 rfl (lv_at hl 0 rfl) ?_
  refine lv_aload_n hx hb dX4_speak_26 rfl (lv_at hl 0 rfl) ?_
  refine va_get (ci := 4) (v := .int (nI 5)) (C := RX4) (T := TX4) (N := 6) hx hb hts hin4 hown hK hP 0 rfl rfl 3 (by decide) (hts (.fieldLink RX4 23 "UpAllRound$Voices" "kind" "I") (List.mem_of_getElem? (i := 1) rfl)) (fun _ h9 => h9) rfl dX4_speak_27 ?_
  refine lv_iload hx hb dX4_speak_30 (lv_at hl 4 rfl) ?_
  refine lv_iload hx hb dX4_speak_32 (lv_at hl 5 rfl) ?_
  refine lv_iconst (v := nI 0) hx hb dX4_speak_34 (by decide) ?_
  refine zci (wr := []) (va_runV (As := [.int (nI 5), .int (nI 0), .int x, .int (nI 0)]) (rest := []) ⟨hx, hb, hml, hown, hts⟩ (c_X4_say_5_0_5 l D cI cJ h hT9 T 0 sp mm x 0 (by first | rfl | assumption | omega) (by first | rfl | assumption | omega) H.size) (cwV 4 hts gX4_speak_X4_say rfl rfl rfl (by decide +kernel) ⟨Nat.le_of_ble_eq_true rfl, Nat.le_of_ble_eq_true rfl⟩) (zpV hK hN hZ hP hD hS hA [0, 1] rfl (by decide) 0 rfl rfl rfl) rfl rfl hl.1 rfl (lv_room (Nat.le_of_ble_eq_true rfl)) dX4_speak_35 ⟨Nat.zero_le _, Nat.zero_le _⟩) hP hD hS hA [0, 1] [] rfl rfl (by decide) (by decide) (fun r_3 w_2 H locs h_1 hP hD hS => ?_)
  obtain ⟨rfl, rfl⟩ := h_1
  have hP : va_P D vwCl [(h, .inr (4, [.ref hT9, .int (nI ((0 + 1))), .int (nI 0), .int (nI 5), .int (nI sp), .int mm])), (hT9, .inl (cI, 30, .inl ((upd T 0 (nI 10)))))] H := hP
  have hD : va_D AA [(h, .inr (4, [.ref hT9, .int (nI ((0 + 1))), .int (nI 0), .int (nI 5), .int (nI sp), .int mm])), (hT9, .inl (cI, 30, .inl ((upd T 0 (nI 10)))))] := hD
  exact hret hP hD hS dX4_speak_38 rfl (by exact ⟨rfl, rfl⟩)
set_option maxHeartbeats 4000000 in
set_option maxRecDepth 100000 in
theorem c_X4_speak_5_1 (l : Launch) (D : va_G) (cI cJ : ClassId) (h : Nat) (hT9 : Nat) (T : Nat → Int32) (tn0 : Nat) (pt0 : Nat) (K0 : Nat) (sp0 : Nat) (mm0 : Int32) (sp : Nat) (mm : Int32) (x : Int32)  : zMi l yX4_speak wsX4_speak ({ frames := 9, cells := 0, slots := 0, locals := 215 } : Room) D [(cI, .int), (cJ, .array .int)] [.ref h, .int (nI 5), .int (nI sp), .int mm, .int (nI 1), .int x] [(h, .inr (4, [.ref hT9, .int (nI tn0), .int (nI pt0), .int (nI K0), .int (nI sp0), .int mm0])), (hT9, .inl (cI, 30, .inl T))] (fun r w => r = (zcounts 5 5 sp mm x ) ∧ w = [(h, .inr (4, [.ref hT9, .int (nI (((((0 + 1) + 1) + 1) + 1))), .int (nI 0), .int (nI 5), .int (nI sp), .int mm])), (hT9, .inl (cI, 30, .inl ((upd (upd (upd (upd T 0 (nI 60)) (0 + 1) (nI 30)) ((0 + 1) + 1) (nI 11)) (((0 + 1) + 1) + 1) (nI 10)))))]) := by
  refine zMi.start (cc := cX4_speak) (maxL := 6) (rt := .int) (by first | decide | decide +kernel) rfl (Nat.le_of_ble_eq_true rfl) ?_
  intro pg ev s mt args below meth cd ls AA QQ ⟨hx, hb, hml, hr, hlocks, hown, hts, hK, hN, hZ, hP, hD, hA, hS, hl⟩ hret
  have hown : s.vm.findClass RX4 = some mt.cls := hown
  have hl : lv_has ls 6 [(0, .ref h), (1, .int (nI 5)), (2, .int (nI sp)), (3, .int mm), (4, .int (nI 1)), (5, .int x)] := hl
  have hin4 : ∀ w ∈ wsX40, w ∈ wsX4_speak := fun w h => List.mem_cons_of_mem _ (List.mem_append_right _ (h))
  refine lv_aload_n hx hb dX4_speak_0 rfl (lv_at hl 0 rfl) ?_
  refine lv_iload_n hx hb dX4_speak_1 rfl (lv_at hl 1 rfl) ?_
  refine va_put (ci := 4) (v := .int (nI 5)) (ty := .int) (C := RX4) (T := TX4) (N := 6) hx hb hts hin4 tyX4 tyX4_ok nmX4 hown hK hP hD hS 0 rfl rfl 3 (by decide) (hts (.fieldLink RX4 23 "UpAllRound$Voices" "kind" "I") (List.mem_of_getElem? (i := 1) rfl)) (fun _ h9 => h9) rfl (by decide +kernel) rfl rfl (Nat.le_of_ble_eq_true rfl) dX4_speak_2 (fun H locs hP hD hS => ?_)
  have hP : va_P D vwCl [(h, .inr (4, [.ref hT9, .int (nI tn0), .int (nI pt0), .int (nI 5), .int (nI sp0), .int mm0])), (hT9, .inl (cI, 30, .inl T))] H := hP
  have hD : va_D AA [(h, .inr (4, [.ref hT9, .int (nI tn0), .int (nI pt0), .int (nI 5), .int (nI sp0), .int mm0])), (hT9, .inl (cI, 30, .inl T))] := hD
  refine lv_aload_n hx hb dX4_speak_5 rfl (lv_at hl 0 rfl) ?_
  refine lv_iload_n hx hb dX4_speak_6 rfl (lv_at hl 2 rfl) ?_
  refine va_put (ci := 4) (v := .int (nI sp)) (ty := .int) (C := RX4) (T := TX4) (N := 6) hx hb hts hin4 tyX4 tyX4_ok nmX4 hown hK hP hD hS 0 rfl rfl 4 (by decide) (hts (.fieldLink RX4 26 "UpAllRound$Voices" "k" "I") (List.mem_of_getElem? (i := 2) rfl)) (fun _ h9 => h9) rfl (by decide +kernel) rfl rfl (Nat.le_of_ble_eq_true rfl) dX4_speak_7 (fun H locs hP hD hS => ?_)
  have hP : va_P D vwCl [(h, .inr (4, [.ref hT9, .int (nI tn0), .int (nI pt0), .int (nI 5), .int (nI sp), .int mm0])), (hT9, .inl (cI, 30, .inl T))] H := hP
  have hD : va_D AA [(h, .inr (4, [.ref hT9, .int (nI tn0), .int (nI pt0), .int (nI 5), .int (nI sp), .int mm0])), (hT9, .inl (cI, 30, .inl T))] := hD
  refine lv_aload_n hx hb dX4_speak_10 rfl (lv_at hl 0 rfl) ?_
  refine lv_iload_n hx hb dX4_speak_11 rfl (lv_at hl 3 rfl) ?_
  refine va_put (ci := 4) (v := .int mm) (ty := .int) (C := RX4) (T := TX4) (N := 6) hx hb hts hin4 tyX4 tyX4_ok nmX4 hown hK hP hD hS 0 rfl rfl 5 (by decide) (hts (.fieldLink RX4 29 "UpAllRound$Voices" "m" "I") (List.mem_of_getElem? (i := 3) rfl)) (fun _ h9 => h9) rfl (by decide +kernel) rfl rfl (Nat.le_of_ble_eq_true rfl) dX4_speak_12 (fun H locs hP hD hS => ?_)
  have hP : va_P D vwCl [(h, .inr (4, [.ref hT9, .int (nI tn0), .int (nI pt0), .int (nI 5), .int (nI sp), .int mm])), (hT9, .inl (cI, 30, .inl T))] H := hP
  have hD : va_D AA [(h, .inr (4, [.ref hT9, .int (nI tn0), .int (nI pt0), .int (nI 5), .int (nI sp), .int mm])), (hT9, .inl (cI, 30, .inl T))] := hD
  refine lv_aload_n hx hb dX4_speak_15 rfl (lv_at hl 0 rfl) ?_
  refine lv_iconst (v := nI 0) hx hb dX4_speak_16 (by decide) ?_
  refine va_put (ci := 4) (v := .int (nI 0)) (ty := .int) (C := RX4) (T := TX4) (N := 6) hx hb hts hin4 tyX4 tyX4_ok nmX4 hown hK hP hD hS 0 rfl rfl 1 (by decide) (hts (.fieldLink RX4 15 "UpAllRound$Voices" "traced" "I") (List.mem_of_getElem? (i := 4) rfl)) (fun _ h9 => h9) rfl (by decide +kernel) rfl rfl (Nat.le_of_ble_eq_true rfl) dX4_speak_17 (fun H locs hP hD hS => ?_)
  have hP : va_P D vwCl [(h, .inr (4, [.ref hT9, .int (nI 0), .int (nI pt0), .int (nI 5), .int (nI sp), .int mm])), (hT9, .inl (cI, 30, .inl T))] H := hP
  have hD : va_D AA [(h, .inr (4, [.ref hT9, .int (nI 0), .int (nI pt0), .int (nI 5), .int (nI sp), .int mm])), (hT9, .inl (cI, 30, .inl T))] := hD
  refine lv_aload_n hx hb dX4_speak_20 rfl (lv_at hl 0 rfl) ?_
  refine lv_iconst (v := nI 0) hx hb dX4_speak_21 (by decide) ?_
  refine va_put (ci := 4) (v := .int (nI 0)) (ty := .boolean) (C := RX4) (T := TX4) (N := 6) hx hb hts hin4 tyX4 tyX4_ok nmX4 hown hK hP hD hS 0 rfl rfl 2 (by decide) (hts (.fieldLink RX4 19 "UpAllRound$Voices" "parted" "Z") (List.mem_of_getElem? (i := 5) rfl)) (fun _ h9 => h9) rfl (by decide +kernel) rfl rfl (Nat.le_of_ble_eq_true rfl) dX4_speak_22 (fun H locs hP hD hS => ?_)
  have hP : va_P D vwCl [(h, .inr (4, [.ref hT9, .int (nI 0), .int (nI 0), .int (nI 5), .int (nI sp), .int mm])), (hT9, .inl (cI, 30, .inl T))] H := hP
  have hD : va_D AA [(h, .inr (4, [.ref hT9, .int (nI 0), .int (nI 0), .int (nI 5), .int (nI sp), .int mm])), (hT9, .inl (cI, 30, .inl T))] := hD
  refine lv_aload_n hx hb dX4_speak_25 rfl (lv_at hl 0 rfl) ?_
  refine lv_aload_n hx hb dX4_speak_26 rfl (lv_at hl 0 rfl) ?_
  refine va_get (ci := 4) (v := .int (nI 5)) (C := RX4) (T := TX4) (N := 6) hx hb hts hin4 hown hK hP 0 rfl rfl 3 (by decide) (hts (.fieldLink RX4 23 "UpAllRound$Voices" "kind" "I") (List.mem_of_getElem? (i := 1) rfl)) (fun _ h9 => h9) rfl dX4_speak_27 ?_
  refine lv_iload hx hb dX4_speak_30 (lv_at hl 4 rfl) ?_
  refine lv_iload hx hb dX4_speak_32 (lv_at hl 5 rfl) ?_
  refine lv_iconst (v := nI 0) hx hb dX4_speak_34 (by decide) ?_
  refine zci (wr := []) (va_runV (As := [.int (nI 5), .int (nI 1), .int x, .int (nI 0)]) (rest := []) ⟨hx, hb, hml, hown, hts⟩ (c_X4_say_5_1_5 l D cI cJ h hT9 T 0 sp mm x 0 (by first | rfl | assumption | omega) (by first | rfl | assumption | omega) H.size) (cwV 4 hts gX4_speak_X4_say rfl rfl rfl (by decide +kernel) ⟨Nat.le_of_ble_eq_true rfl, Nat.le_of_ble_eq_true rfl⟩) (zpV hK hN hZ hP hD hS hA [0, 1] rfl (by decide) 0 rfl rfl rfl) rfl rfl hl.1 rfl (lv_room (Nat.le_of_ble_eq_true rfl)) dX4_speak_35 ⟨Nat.zero_le _, Nat.zero_le _⟩) hP hD hS hA [0, 1] [] rfl rfl (by decide) (by decide) (fun r_3 w_2 H locs h_1 hP hD hS => ?_)
  obtain ⟨rfl, rfl⟩ := h_1
  have hP : va_P D vwCl [(h, .inr (4, [.ref hT9, .int (nI (((((0 + 1) + 1) + 1) + 1))), .int (nI 0), .int (nI 5), .int (nI sp), .int mm])), (hT9, .inl (cI, 30, .inl ((upd (upd (upd (upd T 0 (nI 60)) (0 + 1) (nI 30)) ((0 + 1) + 1) (nI 11)) (((0 + 1) + 1) + 1) (nI 10)))))] H := hP
  have hD : va_D AA [(h, .inr (4, [.ref hT9, .int (nI (((((0 + 1) + 1) + 1) + 1))), .int (nI 0), .int (nI 5), .int (nI sp), .int mm])), (hT9, .inl (cI, 30, .inl ((upd (upd (upd (upd T 0 (nI 60)) (0 + 1) (nI 30)) ((0 + 1) + 1) (nI 11)) (((0 + 1) + 1) + 1) (nI 10)))))] := hD
  exact hret hP hD hS dX4_speak_38 rfl (by exact ⟨rfl, rfl⟩)
set_option maxHeartbeats 4000000 in
set_option maxRecDepth 100000 in
theorem c_X4_speak_5_2 (l : Launch) (D : va_G) (cI cJ : ClassId) (h : Nat) (hT9 : Nat) (T : Nat → Int32) (tn0 : Nat) (pt0 : Nat) (K0 : Nat) (sp0 : Nat) (mm0 : Int32) (sp : Nat) (mm : Int32) (x : Int32)  : zMi l yX4_speak wsX4_speak ({ frames := 11, cells := 0, slots := 0, locals := 263 } : Room) D [(cI, .int), (cJ, .array .int)] [.ref h, .int (nI 5), .int (nI sp), .int mm, .int (nI 2), .int x] [(h, .inr (4, [.ref hT9, .int (nI tn0), .int (nI pt0), .int (nI K0), .int (nI sp0), .int mm0])), (hT9, .inl (cI, 30, .inl T))] (fun r w => r = (zswears 5 5 sp mm x ) ∧ w = [(h, .inr (4, [.ref hT9, .int (nI ((((((0 + 1) + 1) + 1) + 1) + 1))), .int (nI 0), .int (nI 5), .int (nI sp), .int mm])), (hT9, .inl (cI, 30, .inl ((upd (upd (upd (upd (upd T 0 (nI 12)) (0 + 1) (nI 60)) ((0 + 1) + 1) (nI 30)) (((0 + 1) + 1) + 1) (nI 11)) ((((0 + 1) + 1) + 1) + 1) (nI 10)))))]) := by
  refine zMi.start (cc := cX4_speak) (maxL := 6) (rt := .int) (by first | decide | decide +kernel) rfl (Nat.le_of_ble_eq_true rfl) ?_
  intro pg ev s mt args below meth cd ls AA QQ ⟨hx, hb, hml, hr, hlocks, hown, hts, hK, hN, hZ, hP, hD, hA, hS, hl⟩ hret
  have hown : s.vm.findClass RX4 = some mt.cls := hown
  have hl : lv_has ls 6 [(0, .ref h), (1, .int (nI 5)), (2, .int (nI sp)), (3, .int mm), (4, .int (nI 2)), (5, .int x)] := hl
  have hin4 : ∀ w ∈ wsX40, w ∈ wsX4_speak := fun w h => List.mem_cons_of_mem _ (List.mem_append_right _ (h))
  refine lv_aload_n hx hb dX4_speak_0 rfl (lv_at hl 0 rfl) ?_
  refine lv_iload_n hx hb dX4_speak_1 rfl (lv_at hl 1 rfl) ?_
  refine va_put (ci := 4) (v := .int (nI 5)) (ty := .int) (C := RX4) (T := TX4) (N := 6) hx hb hts hin4 tyX4 tyX4_ok nmX4 hown hK hP hD hS 0 rfl rfl 3 (by decide) (hts (.fieldLink RX4 23 "UpAllRound$Voices" "kind" "I") (List.mem_of_getElem? (i := 1) rfl)) (fun _ h9 => h9) rfl (by decide +kernel) rfl rfl (Nat.le_of_ble_eq_true rfl) dX4_speak_2 (fun H locs hP hD hS => ?_)
  have hP : va_P D vwCl [(h, .inr (4, [.ref hT9, .int (nI tn0), .int (nI pt0), .int (nI 5), .int (nI sp0), .int mm0])), (hT9, .inl (cI, 30, .inl T))] H := hP
  have hD : va_D AA [(h, .inr (4, [.ref hT9, .int (nI tn0), .int (nI pt0), .int (nI 5), .int (nI sp0), .int mm0])), (hT9, .inl (cI, 30, .inl T))] := hD
  refine lv_aload_n hx hb dX4_speak_5 rfl (lv_at hl 0 rfl) ?_
  refine lv_iload_n hx hb dX4_speak_6 rfl (lv_at hl 2 rfl) ?_
  refine va_put (ci := 4) (v := .int (nI sp)) (ty := .int) (C := RX4) (T := TX4) (N := 6) hx hb hts hin4 tyX4 tyX4_ok nmX4 hown hK hP hD hS 0 rfl rfl 4 (by decide) (hts (.fieldLink RX4 26 "UpAllRound$Voices" "k" "I") (List.mem_of_getElem? (i := 2) rfl)) (fun _ h9 => h9) rfl (by decide +kernel) rfl rfl (Nat.le_of_ble_eq_true rfl) dX4_speak_7 (fun H locs hP hD hS => ?_)
  have hP : va_P D vwCl [(h, .inr (4, [.ref hT9, .int (nI tn0), .int (nI pt0), .int (nI 5), .int (nI sp), .int mm0])), (hT9, .inl (cI, 30, .inl T))] H := hP
  have hD : va_D AA [(h, .inr (4, [.ref hT9, .int (nI tn0), .int (nI pt0), .int (nI 5), .int (nI sp), .int mm0])), (hT9, .inl (cI, 30, .inl T))] := hD
  refine lv_aload_n hx hb dX4_speak_10 rfl (lv_at hl 0 rfl) ?_
  refine lv_iload_n hx hb dX4_speak_11 rfl (lv_at hl 3 rfl) ?_
  refine va_put (ci := 4) (v := .int mm) (ty := .int) (C := RX4) (T := TX4) (N := 6) hx hb hts hin4 tyX4 tyX4_ok nmX4 hown hK hP hD hS 0 rfl rfl 5 (by decide) (hts (.fieldLink RX4 29 "UpAllRound$Voices" "m" "I") (List.mem_of_getElem? (i := 3) rfl)) (fun _ h9 => h9) rfl (by decide +kernel) rfl rfl (Nat.le_of_ble_eq_true rfl) dX4_speak_12 (fun H locs hP hD hS => ?_)
  have hP : va_P D vwCl [(h, .inr (4, [.ref hT9, .int (nI tn0), .int (nI pt0), .int (nI 5), .int (nI sp), .int mm])), (hT9, .inl (cI, 30, .inl T))] H := hP
  have hD : va_D AA [(h, .inr (4, [.ref hT9, .int (nI tn0), .int (nI pt0), .int (nI 5), .int (nI sp), .int mm])), (hT9, .inl (cI, 30, .inl T))] := hD
  refine lv_aload_n hx hb dX4_speak_15 rfl (lv_at hl 0 rfl) ?_
  refine lv_iconst (v := nI 0) hx hb dX4_speak_16 (by decide) ?_
  refine va_put (ci := 4) (v := .int (nI 0)) (ty := .int) (C := RX4) (T := TX4) (N := 6) hx hb hts hin4 tyX4 tyX4_ok nmX4 hown hK hP hD hS 0 rfl rfl 1 (by decide) (hts (.fieldLink RX4 15 "UpAllRound$Voices" "traced" "I") (List.mem_of_getElem? (i := 4) rfl)) (fun _ h9 => h9) rfl (by decide +kernel) rfl rfl (Nat.le_of_ble_eq_true rfl) dX4_speak_17 (fun H locs hP hD hS => ?_)
  have hP : va_P D vwCl [(h, .inr (4, [.ref hT9, .int (nI 0), .int (nI pt0), .int (nI 5), .int (nI sp), .int mm])), (hT9, .inl (cI, 30, .inl T))] H := hP
  have hD : va_D AA [(h, .inr (4, [.ref hT9, .int (nI 0), .int (nI pt0), .int (nI 5), .int (nI sp), .int mm])), (hT9, .inl (cI, 30, .inl T))] := hD
  refine lv_aload_n hx hb dX4_speak_20 rfl (lv_at hl 0 rfl) ?_
  refine lv_iconst (v := nI 0) hx hb dX4_speak_21 (by decide) ?_
  refine va_put (ci := 4) (v := .int (nI 0)) (ty := .boolean) (C := RX4) (T := TX4) (N := 6) hx hb hts hin4 tyX4 tyX4_ok nmX4 hown hK hP hD hS 0 rfl rfl 2 (by decide) (hts (.fieldLink RX4 19 "UpAllRound$Voices" "parted" "Z") (List.mem_of_getElem? (i := 5) rfl)) (fun _ h9 => h9) rfl (by decide +kernel) rfl rfl (Nat.le_of_ble_eq_true rfl) dX4_speak_22 (fun H locs hP hD hS => ?_)
  have hP : va_P D vwCl [(h, .inr (4, [.ref hT9, .int (nI 0), .int (nI 0), .int (nI 5), .int (nI sp), .int mm])), (hT9, .inl (cI, 30, .inl T))] H := hP
  have hD : va_D AA [(h, .inr (4, [.ref hT9, .int (nI 0), .int (nI 0), .int (nI 5), .int (nI sp), .int mm])), (hT9, .inl (cI, 30, .inl T))] := hD
  refine lv_aload_n hx hb dX4_speak_25 rfl (lv_at hl 0 rfl) ?_
  refine lv_aload_n hx hb dX4_speak_26 rfl (lv_at hl 0 rfl) ?_
  refine va_get (ci := 4) (v := .int (nI 5)) (C := RX4) (T := TX4) (N := 6) hx hb hts hin4 hown hK hP 0 rfl rfl 3 (by decide) (hts (.fieldLink RX4 23 "UpAllRound$Voices" "kind" "I") (List.mem_of_getElem? (i := 1) rfl)) (fun _ h9 => h9) rfl dX4_speak_27 ?_
  refine lv_iload hx hb dX4_speak_30 (lv_at hl 4 rfl) ?_
  refine lv_iload hx hb dX4_speak_32 (lv_at hl 5 rfl) ?_
  refine lv_iconst (v := nI 0) hx hb dX4_speak_34 (by decide) ?_
  refine zci (wr := []) (va_runV (As := [.int (nI 5), .int (nI 2), .int x, .int (nI 0)]) (rest := []) ⟨hx, hb, hml, hown, hts⟩ (c_X4_say_5_2_5 l D cI cJ h hT9 T 0 sp mm x 0 (by first | rfl | assumption | omega) (by first | rfl | assumption | omega) H.size) (cwV 4 hts gX4_speak_X4_say rfl rfl rfl (by decide +kernel) ⟨Nat.le_of_ble_eq_true rfl, Nat.le_of_ble_eq_true rfl⟩) (zpV hK hN hZ hP hD hS hA [0, 1] rfl (by decide) 0 rfl rfl rfl) rfl rfl hl.1 rfl (lv_room (Nat.le_of_ble_eq_true rfl)) dX4_speak_35 ⟨Nat.zero_le _, Nat.zero_le _⟩) hP hD hS hA [0, 1] [] rfl rfl (by decide) (by decide) (fun r_3 w_2 H locs h_1 hP hD hS => ?_)
  obtain ⟨rfl, rfl⟩ := h_1
  have hP : va_P D vwCl [(h, .inr (4, [.ref hT9, .int (nI ((((((0 + 1) + 1) + 1) + 1) + 1))), .int (nI 0), .int (nI 5), .int (nI sp), .int mm])), (hT9, .inl (cI, 30, .inl ((upd (upd (upd (upd (upd T 0 (nI 12)) (0 + 1) (nI 60)) ((0 + 1) + 1) (nI 30)) (((0 + 1) + 1) + 1) (nI 11)) ((((0 + 1) + 1) + 1) + 1) (nI 10)))))] H := hP
  have hD : va_D AA [(h, .inr (4, [.ref hT9, .int (nI ((((((0 + 1) + 1) + 1) + 1) + 1))), .int (nI 0), .int (nI 5), .int (nI sp), .int mm])), (hT9, .inl (cI, 30, .inl ((upd (upd (upd (upd (upd T 0 (nI 12)) (0 + 1) (nI 60)) ((0 + 1) + 1) (nI 30)) (((0 + 1) + 1) + 1) (nI 11)) ((((0 + 1) + 1) + 1) + 1) (nI 10)))))] := hD
  exact hret hP hD hS dX4_speak_38 rfl (by exact ⟨rfl, rfl⟩)
set_option maxHeartbeats 4000000 in
set_option maxRecDepth 100000 in
theorem c_X4_speak_5_3 (l : Launch) (D : va_G) (cI cJ : ClassId) (h : Nat) (hT9 : Nat) (T : Nat → Int32) (tn0 : Nat) (pt0 : Nat) (K0 : Nat) (sp0 : Nat) (mm0 : Int32) (sp : Nat) (mm : Int32) (x : Int32)  : zMi l yX4_speak wsX4_speak ({ frames := 3, cells := 0, slots := 0, locals := 71 } : Room) D [(cI, .int), (cJ, .array .int)] [.ref h, .int (nI 5), .int (nI sp), .int mm, .int (nI 3), .int x] [(h, .inr (4, [.ref hT9, .int (nI tn0), .int (nI pt0), .int (nI K0), .int (nI sp0), .int mm0])), (hT9, .inl (cI, 30, .inl T))] (fun r w => r = (zpv sp mm x) ∧ w = [(h, .inr (4, [.ref hT9, .int (nI ((0 + 1))), .int (nI ((zpd sp mm))), .int (nI 5), .int (nI sp), .int mm])), (hT9, .inl (cI, 30, .inl ((upd T 0 (nI 13)))))]) := by
  refine zMi.start (cc := cX4_speak) (maxL := 6) (rt := .int) (by first | decide | decide +kernel) rfl (Nat.le_of_ble_eq_true rfl) ?_
  intro pg ev s mt args below meth cd ls AA QQ ⟨hx, hb, hml, hr, hlocks, hown, hts, hK, hN, hZ, hP, hD, hA, hS, hl⟩ hret
  have hown : s.vm.findClass RX4 = some mt.cls := hown
  have hl : lv_has ls 6 [(0, .ref h), (1, .int (nI 5)), (2, .int (nI sp)), (3, .int mm), (4, .int (nI 3)), (5, .int x)] := hl
  have hin4 : ∀ w ∈ wsX40, w ∈ wsX4_speak := fun w h => List.mem_cons_of_mem _ (List.mem_append_right _ (h))
  refine lv_aload_n hx hb dX4_speak_0 rfl (lv_at hl 0 rfl) ?_
  refine lv_iload_n hx hb dX4_speak_1 rfl (lv_at hl 1 rfl) ?_
  refine va_put (ci := 4) (v := .int (nI 5)) (ty := .int) (C := RX4) (T := TX4) (N := 6) hx hb hts hin4 tyX4 tyX4_ok nmX4 hown hK hP hD hS 0 rfl rfl 3 (by decide) (hts (.fieldLink RX4 23 "UpAllRound$Voices" "kind" "I") (List.mem_of_getElem? (i := 1) rfl)) (fun _ h9 => h9) rfl (by decide +kernel) rfl rfl (Nat.le_of_ble_eq_true rfl) dX4_speak_2 (fun H locs hP hD hS => ?_)
  have hP : va_P D vwCl [(h, .inr (4, [.ref hT9, .int (nI tn0), .int (nI pt0), .int (nI 5), .int (nI sp0), .int mm0])), (hT9, .inl (cI, 30, .inl T))] H := hP
  have hD : va_D AA [(h, .inr (4, [.ref hT9, .int (nI tn0), .int (nI pt0), .int (nI 5), .int (nI sp0), .int mm0])), (hT9, .inl (cI, 30, .inl T))] := hD
  refine lv_aload_n hx hb dX4_speak_5 rfl (lv_at hl 0 rfl) ?_
  refine lv_iload_n hx hb dX4_speak_6 rfl (lv_at hl 2 rfl) ?_
  refine va_put (ci := 4) (v := .int (nI sp)) (ty := .int) (C := RX4) (T := TX4) (N := 6) hx hb hts hin4 tyX4 tyX4_ok nmX4 hown hK hP hD hS 0 rfl rfl 4 (by decide) (hts (.fieldLink RX4 26 "UpAllRound$Voices" "k" "I") (List.mem_of_getElem? (i := 2) rfl)) (fun _ h9 => h9) rfl (by decide +kernel) rfl rfl (Nat.le_of_ble_eq_true rfl) dX4_speak_7 (fun H locs hP hD hS => ?_)
  have hP : va_P D vwCl [(h, .inr (4, [.ref hT9, .int (nI tn0), .int (nI pt0), .int (nI 5), .int (nI sp), .int mm0])), (hT9, .inl (cI, 30, .inl T))] H := hP
  have hD : va_D AA [(h, .inr (4, [.ref hT9, .int (nI tn0), .int (nI pt0), .int (nI 5), .int (nI sp), .int mm0])), (hT9, .inl (cI, 30, .inl T))] := hD
  refine lv_aload_n hx hb dX4_speak_10 rfl (lv_at hl 0 rfl) ?_
  refine lv_iload_n hx hb dX4_speak_11 rfl (lv_at hl 3 rfl) ?_
  refine va_put (ci := 4) (v := .int mm) (ty := .int) (C := RX4) (T := TX4) (N := 6) hx hb hts hin4 tyX4 tyX4_ok nmX4 hown hK hP hD hS 0 rfl rfl 5 (by decide) (hts (.fieldLink RX4 29 "UpAllRound$Voices" "m" "I") (List.mem_of_getElem? (i := 3) rfl)) (fun _ h9 => h9) rfl (by decide +kernel) rfl rfl (Nat.le_of_ble_eq_true rfl) dX4_speak_12 (fun H locs hP hD hS => ?_)
  have hP : va_P D vwCl [(h, .inr (4, [.ref hT9, .int (nI tn0), .int (nI pt0), .int (nI 5), .int (nI sp), .int mm])), (hT9, .inl (cI, 30, .inl T))] H := hP
  have hD : va_D AA [(h, .inr (4, [.ref hT9, .int (nI tn0), .int (nI pt0), .int (nI 5), .int (nI sp), .int mm])), (hT9, .inl (cI, 30, .inl T))] := hD
  refine lv_aload_n hx hb dX4_speak_15 rfl (lv_at hl 0 rfl) ?_
  refine lv_iconst (v := nI 0) hx hb dX4_speak_16 (by decide) ?_
  refine va_put (ci := 4) (v := .int (nI 0)) (ty := .int) (C := RX4) (T := TX4) (N := 6) hx hb hts hin4 tyX4 tyX4_ok nmX4 hown hK hP hD hS 0 rfl rfl 1 (by decide) (hts (.fieldLink RX4 15 "UpAllRound$Voices" "traced" "I") (List.mem_of_getElem? (i := 4) rfl)) (fun _ h9 => h9) rfl (by decide +kernel) rfl rfl (Nat.le_of_ble_eq_true rfl) dX4_speak_17 (fun H locs hP hD hS => ?_)
  have hP : va_P D vwCl [(h, .inr (4, [.ref hT9, .int (nI 0), .int (nI pt0), .int (nI 5), .int (nI sp), .int mm])), (hT9, .inl (cI, 30, .inl T))] H := hP
  have hD : va_D AA [(h, .inr (4, [.ref hT9, .int (nI 0), .int (nI pt0), .int (nI 5), .int (nI sp), .int mm])), (hT9, .inl (cI, 30, .inl T))] := hD
  refine lv_aload_n hx hb dX4_speak_20 rfl (lv_at hl 0 rfl) ?_
  refine lv_iconst (v := nI 0) hx hb dX4_speak_21 (by decide) ?_
  refine va_put (ci := 4) (v := .int (nI 0)) (ty := .boolean) (C := RX4) (T := TX4) (N := 6) hx hb hts hin4 tyX4 tyX4_ok nmX4 hown hK hP hD hS 0 rfl rfl 2 (by decide) (hts (.fieldLink RX4 19 "UpAllRound$Voices" "parted" "Z") (List.mem_of_getElem? (i := 5) rfl)) (fun _ h9 => h9) rfl (by decide +kernel) rfl rfl (Nat.le_of_ble_eq_true rfl) dX4_speak_22 (fun H locs hP hD hS => ?_)
  have hP : va_P D vwCl [(h, .inr (4, [.ref hT9, .int (nI 0), .int (nI 0), .int (nI 5), .int (nI sp), .int mm])), (hT9, .inl (cI, 30, .inl T))] H := hP
  have hD : va_D AA [(h, .inr (4, [.ref hT9, .int (nI 0), .int (nI 0), .int (nI 5), .int (nI sp), .int mm])), (hT9, .inl (cI, 30, .inl T))] := hD
  refine lv_aload_n hx hb dX4_speak_25 rfl (lv_at hl 0 rfl) ?_
  refine lv_aload_n hx hb dX4_speak_26 rfl (lv_at hl 0 rfl) ?_
  refine va_get (ci := 4) (v := .int (nI 5)) (C := RX4) (T := TX4) (N := 6) hx hb hts hin4 hown hK hP 0 rfl rfl 3 (by decide) (hts (.fieldLink RX4 23 "UpAllRound$Voices" "kind" "I") (List.mem_of_getElem? (i := 1) rfl)) (fun _ h9 => h9) rfl dX4_speak_27 ?_
  refine lv_iload hx hb dX4_speak_30 (lv_at hl 4 rfl) ?_
  refine lv_iload hx hb dX4_speak_32 (lv_at hl 5 rfl) ?_
  refine lv_iconst (v := nI 0) hx hb dX4_speak_34 (by decide) ?_
  refine zci (wr := []) (va_runV (As := [.int (nI 5), .int (nI 3), .int x, .int (nI 0)]) (rest := []) ⟨hx, hb, hml, hown, hts⟩ (c_X4_say_5_3_5 l D cI cJ h hT9 T 0 sp mm x 0 (by first | rfl | assumption | omega) (by first | rfl | assumption | omega) H.size) (cwV 4 hts gX4_speak_X4_say rfl rfl rfl (by decide +kernel) ⟨Nat.le_of_ble_eq_true rfl, Nat.le_of_ble_eq_true rfl⟩) (zpV hK hN hZ hP hD hS hA [0, 1] rfl (by decide) 0 rfl rfl rfl) rfl rfl hl.1 rfl (lv_room (Nat.le_of_ble_eq_true rfl)) dX4_speak_35 ⟨Nat.zero_le _, Nat.zero_le _⟩) hP hD hS hA [0, 1] [] rfl rfl (by decide) (by decide) (fun r_3 w_2 H locs h_1 hP hD hS => ?_)
  obtain ⟨rfl, rfl⟩ := h_1
  have hP : va_P D vwCl [(h, .inr (4, [.ref hT9, .int (nI ((0 + 1))), .int (nI ((zpd sp mm))), .int (nI 5), .int (nI sp), .int mm])), (hT9, .inl (cI, 30, .inl ((upd T 0 (nI 13)))))] H := hP
  have hD : va_D AA [(h, .inr (4, [.ref hT9, .int (nI ((0 + 1))), .int (nI ((zpd sp mm))), .int (nI 5), .int (nI sp), .int mm])), (hT9, .inl (cI, 30, .inl ((upd T 0 (nI 13)))))] := hD
  exact hret hP hD hS dX4_speak_38 rfl (by exact ⟨rfl, rfl⟩)
set_option maxHeartbeats 4000000 in
set_option maxRecDepth 100000 in
theorem c_X4_speak_6_0 (l : Launch) (D : va_G) (cI cJ : ClassId) (h : Nat) (hT9 : Nat) (T : Nat → Int32) (tn0 : Nat) (pt0 : Nat) (K0 : Nat) (sp0 : Nat) (mm0 : Int32) (sp : Nat) (mm : Int32) (x : Int32)  : zMi l yX4_speak wsX4_speak ({ frames := 3, cells := 0, slots := 0, locals := 71 } : Room) D [(cI, .int), (cJ, .array .int)] [.ref h, .int (nI 6), .int (nI sp), .int mm, .int (nI 0), .int x] [(h, .inr (4, [.ref hT9, .int (nI tn0), .int (nI pt0), .int (nI K0), .int (nI sp0), .int mm0])), (hT9, .inl (cI, 30, .inl T))] (fun r w => r = (zpants 6 sp x ) ∧ w = [(h, .inr (4, [.ref hT9, .int (nI ((0 + 1))), .int (nI 0), .int (nI 6), .int (nI sp), .int mm])), (hT9, .inl (cI, 30, .inl ((upd T 0 (nI 70)))))]) := by
  refine zMi.start (cc := cX4_speak) (maxL := 6) (rt := .int) (by first | decide | decide +kernel) rfl (Nat.le_of_ble_eq_true rfl) ?_
  intro pg ev s mt args below meth cd ls AA QQ ⟨hx, hb, hml, hr, hlocks, hown, hts, hK, hN, hZ, hP, hD, hA, hS, hl⟩ hret
  have hown : s.vm.findClass RX4 = some mt.cls := hown
  have hl : lv_has ls 6 [(0, .ref h), (1, .int (nI 6)), (2, .int (nI sp)), (3, .int mm), (4, .int (nI 0)), (5, .int x)] := hl
  have hin4 : ∀ w ∈ wsX40, w ∈ wsX4_speak := fun w h => List.mem_cons_of_mem _ (List.mem_append_right _ (h))
  refine lv_aload_n hx hb dX4_speak_0 rfl (lv_at hl 0 rfl) ?_
  refine lv_iload_n hx hb dX4_speak_1 rfl (lv_at hl 1 rfl) ?_
  refine va_put (ci := 4) (v := .int (nI 6)) (ty := .int) (C := RX4) (T := TX4) (N := 6) hx hb hts hin4 tyX4 tyX4_ok nmX4 hown hK hP hD hS 0 rfl rfl 3 (by decide) (hts (.fieldLink RX4 23 "UpAllRound$Voices" "kind" "I") (List.mem_of_getElem? (i := 1) rfl)) (fun _ h9 => h9) rfl (by decide +kernel) rfl rfl (Nat.le_of_ble_eq_true rfl) dX4_speak_2 (fun H locs hP hD hS => ?_)
  have hP : va_P D vwCl [(h, .inr (4, [.ref hT9, .int (nI tn0), .int (nI pt0), .int (nI 6), .int (nI sp0), .int mm0])), (hT9, .inl (cI, 30, .inl T))] H := hP
  have hD : va_D AA [(h, .inr (4, [.ref hT9, .int (nI tn0), .int (nI pt0), .int (nI 6), .int (nI sp0), .int mm0])), (hT9, .inl (cI, 30, .inl T))] := hD
  refine lv_aload_n hx hb dX4_speak_5 rfl (lv_at hl 0 rfl) ?_
  refine lv_iload_n hx hb dX4_speak_6 rfl (lv_at hl 2 rfl) ?_
  refine va_put (ci := 4) (v := .int (nI sp)) (ty := .int) (C := RX4) (T := TX4) (N := 6) hx hb hts hin4 tyX4 tyX4_ok nmX4 hown hK hP hD hS 0 rfl rfl 4 (by decide) (hts (.fieldLink RX4 26 "UpAllRound$Voices" "k" "I") (List.mem_of_getElem? (i := 2) rfl)) (fun _ h9 => h9) rfl (by decide +kernel) rfl rfl (Nat.le_of_ble_eq_true rfl) dX4_speak_7 (fun H locs hP hD hS => ?_)
  have hP : va_P D vwCl [(h, .inr (4, [.ref hT9, .int (nI tn0), .int (nI pt0), .int (nI 6), .int (nI sp), .int mm0])), (hT9, .inl (cI, 30, .inl T))] H := hP
  have hD : va_D AA [(h, .inr (4, [.ref hT9, .int (nI tn0), .int (nI pt0), .int (nI 6), .int (nI sp), .int mm0])), (hT9, .inl (cI, 30, .inl T))] := hD
  refine lv_aload_n hx hb dX4_speak_10 rfl (lv_at hl 0 rfl) ?_
  refine lv_iload_n hx hb dX4_speak_11 rfl (lv_at hl 3 rfl) ?_
  refine va_put (ci := 4) (v := .int mm) (ty := .int) (C := RX4) (T := TX4) (N := 6) hx hb hts hin4 tyX4 tyX4_ok nmX4 hown hK hP hD hS 0 rfl rfl 5 (by decide) (hts (.fieldLink RX4 29 "UpAllRound$Voices" "m" "I") (List.mem_of_getElem? (i := 3) rfl)) (fun _ h9 => h9) rfl (by decide +kernel) rfl rfl (Nat.le_of_ble_eq_true rfl) dX4_speak_12 (fun H locs hP hD hS => ?_)
  have hP : va_P D vwCl [(h, .inr (4, [.ref hT9, .int (nI tn0), .int (nI pt0), .int (nI 6), .int (nI sp), .int mm])), (hT9, .inl (cI, 30, .inl T))] H := hP
  have hD : va_D AA [(h, .inr (4, [.ref hT9, .int (nI tn0), .int (nI pt0), .int (nI 6), .int (nI sp), .int mm])), (hT9, .inl (cI, 30, .inl T))] := hD
  refine lv_aload_n hx hb dX4_speak_15 rfl (lv_at hl 0 rfl) ?_
  refine lv_iconst (v := nI 0) hx hb dX4_speak_16 (by decide) ?_
  refine va_put (ci := 4) (v := .int (nI 0)) (ty := .int) (C := RX4) (T := TX4) (N := 6) hx hb hts hin4 tyX4 tyX4_ok nmX4 hown hK hP hD hS 0 rfl rfl 1 (by decide) (hts (.fieldLink RX4 15 "UpAllRound$Voices" "traced" "I") (List.mem_of_getElem? (i := 4) rfl)) (fun _ h9 => h9) rfl (by decide +kernel) rfl rfl (Nat.le_of_ble_eq_true rfl) dX4_speak_17 (fun H locs hP hD hS => ?_)
  have hP : va_P D vwCl [(h, .inr (4, [.ref hT9, .int (nI 0), .int (nI pt0), .int (nI 6), .int (nI sp), .int mm])), (hT9, .inl (cI, 30, .inl T))] H := hP
  have hD : va_D AA [(h, .inr (4, [.ref hT9, .int (nI 0), .int (nI pt0), .int (nI 6), .int (nI sp), .int mm])), (hT9, .inl (cI, 30, .inl T))] := hD
  refine lv_aload_n hx hb dX4_speak_20 rfl (lv_at hl 0 rfl) ?_
  refine lv_iconst (v := nI 0) hx hb dX4_speak_21 (by decide) ?_
  refine va_put (ci := 4) (v := .int (nI 0)) (ty := .boolean) (C := RX4) (T := TX4) (N := 6) hx hb hts hin4 tyX4 tyX4_ok nmX4 hown hK hP hD hS 0 rfl rfl 2 (by decide) (hts (.fieldLink RX4 19 "UpAllRound$Voices" "parted" "Z") (List.mem_of_getElem? (i := 5) rfl)) (fun _ h9 => h9) rfl (by decide +kernel) rfl rfl (Nat.le_of_ble_eq_true rfl) dX4_speak_22 (fun H locs hP hD hS => ?_)
  have hP : va_P D vwCl [(h, .inr (4, [.ref hT9, .int (nI 0), .int (nI 0), .int (nI 6), .int (nI sp), .int mm])), (hT9, .inl (cI, 30, .inl T))] H := hP
  have hD : va_D AA [(h, .inr (4, [.ref hT9, .int (nI 0), .int (nI 0), .int (nI 6), .int (nI sp), .int mm])), (hT9, .inl (cI, 30, .inl T))] := hD
  refine lv_aload_n hx hb dX4_speak_25 rfl (lv_at hl 0 rfl) ?_
  refine lv_aload_n hx hb dX4_speak_26 rfl (lv_at hl 0 rfl) ?_
  refine va_get (ci := 4) (v := .int (nI 6)) (C := RX4) (T := TX4) (N := 6) hx hb hts hin4 hown hK hP 0 rfl rfl 3 (by decide) (hts (.fieldLink RX4 23 "UpAllRound$Voices" "kind" "I") (List.mem_of_getElem? (i := 1) rfl)) (fun _ h9 => h9) rfl dX4_speak_27 ?_
  refine lv_iload hx hb dX4_speak_30 (lv_at hl 4 rfl) ?_
  refine lv_iload hx hb dX4_speak_32 (lv_at hl 5 rfl) ?_
  refine lv_iconst (v := nI 0) hx hb dX4_speak_34 (by decide) ?_
  refine zci (wr := []) (va_runV (As := [.int (nI 6), .int (nI 0), .int x, .int (nI 0)]) (rest := []) ⟨hx, hb, hml, hown, hts⟩ (c_X4_say_6_0_6 l D cI cJ h hT9 T 0 sp mm x 0 (by first | rfl | assumption | omega) (by first | rfl | assumption | omega) H.size) (cwV 4 hts gX4_speak_X4_say rfl rfl rfl (by decide +kernel) ⟨Nat.le_of_ble_eq_true rfl, Nat.le_of_ble_eq_true rfl⟩) (zpV hK hN hZ hP hD hS hA [0, 1] rfl (by decide) 0 rfl rfl rfl) rfl rfl hl.1 rfl (lv_room (Nat.le_of_ble_eq_true rfl)) dX4_speak_35 ⟨Nat.zero_le _, Nat.zero_le _⟩) hP hD hS hA [0, 1] [] rfl rfl (by decide) (by decide) (fun r_3 w_2 H locs h_1 hP hD hS => ?_)
  obtain ⟨rfl, rfl⟩ := h_1
  have hP : va_P D vwCl [(h, .inr (4, [.ref hT9, .int (nI ((0 + 1))), .int (nI 0), .int (nI 6), .int (nI sp), .int mm])), (hT9, .inl (cI, 30, .inl ((upd T 0 (nI 70)))))] H := hP
  have hD : va_D AA [(h, .inr (4, [.ref hT9, .int (nI ((0 + 1))), .int (nI 0), .int (nI 6), .int (nI sp), .int mm])), (hT9, .inl (cI, 30, .inl ((upd T 0 (nI 70)))))] := hD
  exact hret hP hD hS dX4_speak_38 rfl (by exact ⟨rfl, rfl⟩)
set_option maxHeartbeats 4000000 in
set_option maxRecDepth 100000 in
theorem c_X4_speak_6_1 (l : Launch) (D : va_G) (cI cJ : ClassId) (h : Nat) (hT9 : Nat) (T : Nat → Int32) (tn0 : Nat) (pt0 : Nat) (K0 : Nat) (sp0 : Nat) (mm0 : Int32) (sp : Nat) (mm : Int32) (x : Int32)  : zMi l yX4_speak wsX4_speak ({ frames := 7, cells := 0, slots := 0, locals := 167 } : Room) D [(cI, .int), (cJ, .array .int)] [.ref h, .int (nI 6), .int (nI sp), .int mm, .int (nI 1), .int x] [(h, .inr (4, [.ref hT9, .int (nI tn0), .int (nI pt0), .int (nI K0), .int (nI sp0), .int mm0])), (hT9, .inl (cI, 30, .inl T))] (fun r w => r = (zcounts 6 6 sp mm x ) ∧ w = [(h, .inr (4, [.ref hT9, .int (nI ((((0 + 1) + 1) + 1))), .int (nI 0), .int (nI 6), .int (nI sp), .int mm])), (hT9, .inl (cI, 30, .inl ((upd (upd (upd T 0 (nI 71)) (0 + 1) (nI 11)) ((0 + 1) + 1) (nI 70)))))]) := by
  refine zMi.start (cc := cX4_speak) (maxL := 6) (rt := .int) (by first | decide | decide +kernel) rfl (Nat.le_of_ble_eq_true rfl) ?_
  intro pg ev s mt args below meth cd ls AA QQ ⟨hx, hb, hml, hr, hlocks, hown, hts, hK, hN, hZ, hP, hD, hA, hS, hl⟩ hret
  have hown : s.vm.findClass RX4 = some mt.cls := hown
  have hl : lv_has ls 6 [(0, .ref h), (1, .int (nI 6)), (2, .int (nI sp)), (3, .int mm), (4, .int (nI 1)), (5, .int x)] := hl
  have hin4 : ∀ w ∈ wsX40, w ∈ wsX4_speak := fun w h => List.mem_cons_of_mem _ (List.mem_append_right _ (h))
  refine lv_aload_n hx hb dX4_speak_0 rfl (lv_at hl 0 rfl) ?_
  refine lv_iload_n hx hb dX4_speak_1 rfl (lv_at hl 1 rfl) ?_
  refine va_put (ci := 4) (v := .int (nI 6)) (ty := .int) (C := RX4) (T := TX4) (N := 6) hx hb hts hin4 tyX4 tyX4_ok nmX4 hown hK hP hD hS 0 rfl rfl 3 (by decide) (hts (.fieldLink RX4 23 "UpAllRound$Voices" "kind" "I") (List.mem_of_getElem? (i := 1) rfl)) (fun _ h9 => h9) rfl (by decide +kernel) rfl rfl (Nat.le_of_ble_eq_true rfl) dX4_speak_2 (fun H locs hP hD hS => ?_)
  have hP : va_P D vwCl [(h, .inr (4, [.ref hT9, .int (nI tn0), .int (nI pt0), .int (nI 6), .int (nI sp0), .int mm0])), (hT9, .inl (cI, 30, .inl T))] H := hP
  have hD : va_D AA [(h, .inr (4, [.ref hT9, .int (nI tn0), .int (nI pt0), .int (nI 6), .int (nI sp0), .int mm0])), (hT9, .inl (cI, 30, .inl T))] := hD
  refine lv_aload_n hx hb dX4_speak_5 rfl (lv_at hl 0 rfl) ?_
  refine lv_iload_n hx hb dX4_speak_6 rfl (lv_at hl 2 rfl) ?_
  refine va_put (ci := 4) (v := .int (nI sp)) (ty := .int) (C := RX4) (T := TX4) (N := 6) hx hb hts hin4 tyX4 tyX4_ok nmX4 hown hK hP hD hS 0 rfl rfl 4 (by decide) (hts (.fieldLink RX4 26 "UpAllRound$Voices" "k" "I") (List.mem_of_getElem? (i := 2) rfl)) (fun _ h9 => h9) rfl (by decide +kernel) rfl rfl (Nat.le_of_ble_eq_true rfl) dX4_speak_7 (fun H locs hP hD hS => ?_)
  have hP : va_P D vwCl [(h, .inr (4, [.ref hT9, .int (nI tn0), .int (nI pt0), .int (nI 6), .int (nI sp), .int mm0])), (hT9, .inl (cI, 30, .inl T))] H := hP
  have hD : va_D AA [(h, .inr (4, [.ref hT9, .int (nI tn0), .int (nI pt0), .int (nI 6), .int (nI sp), .int mm0])), (hT9, .inl (cI, 30, .inl T))] := hD
  refine lv_aload_n hx hb dX4_speak_10 rfl (lv_at hl 0 rfl) ?_
  refine lv_iload_n hx hb dX4_speak_11 rfl (lv_at hl 3 rfl) ?_
  refine va_put (ci := 4) (v := .int mm) (ty := .int) (C := RX4) (T := TX4) (N := 6) hx hb hts hin4 tyX4 tyX4_ok nmX4 hown hK hP hD hS 0 rfl rfl 5 (by decide) (hts (.fieldLink RX4 29 "UpAllRound$Voices" "m" "I") (List.mem_of_getElem? (i := 3) rfl)) (fun _ h9 => h9) rfl (by decide +kernel) rfl rfl (Nat.le_of_ble_eq_true rfl) dX4_speak_12 (fun H locs hP hD hS => ?_)
  have hP : va_P D vwCl [(h, .inr (4, [.ref hT9, .int (nI tn0), .int (nI pt0), .int (nI 6), .int (nI sp), .int mm])), (hT9, .inl (cI, 30, .inl T))] H := hP
  have hD : va_D AA [(h, .inr (4, [.ref hT9, .int (nI tn0), .int (nI pt0), .int (nI 6), .int (nI sp), .int mm])), (hT9, .inl (cI, 30, .inl T))] := hD
  refine lv_aload_n hx hb dX4_speak_15 rfl (lv_at hl 0 rfl) ?_
  refine lv_iconst (v := nI 0) hx hb dX4_speak_16 (by decide) ?_
  refine va_put (ci := 4) (v := .int (nI 0)) (ty := .int) (C := RX4) (T := TX4) (N := 6) hx hb hts hin4 tyX4 tyX4_ok nmX4 hown hK hP hD hS 0 rfl rfl 1 (by decide) (hts (.fieldLink RX4 15 "UpAllRound$Voices" "traced" "I") (List.mem_of_getElem? (i := 4) rfl)) (fun _ h9 => h9) rfl (by decide +kernel) rfl rfl (Nat.le_of_ble_eq_true rfl) dX4_speak_17 (fun H locs hP hD hS => ?_)
  have hP : va_P D vwCl [(h, .inr (4, [.ref hT9, .int (nI 0), .int (nI pt0), .int (nI 6), .int (nI sp), .int mm])), (hT9, .inl (cI, 30, .inl T))] H := hP
  have hD : va_D AA [(h, .inr (4, [.ref hT9, .int (nI 0), .int (nI pt0), .int (nI 6), .int (nI sp), .int mm])), (hT9, .inl (cI, 30, .inl T))] := hD
  refine lv_aload_n hx hb dX4_speak_20 rfl (lv_at hl 0 rfl) ?_
  refine lv_iconst (v := nI 0) hx hb dX4_speak_21 (by decide) ?_
  refine va_put (ci := 4) (v := .int (nI 0)) (ty := .boolean) (C := RX4) (T := TX4) (N := 6) hx hb hts hin4 tyX4 tyX4_ok nmX4 hown hK hP hD hS 0 rfl rfl 2 (by decide) (hts (.fieldLink RX4 19 "UpAllRound$Voices" "parted" "Z") (List.mem_of_getElem? (i := 5) rfl)) (fun _ h9 => h9) rfl (by decide +kernel) rfl rfl (Nat.le_of_ble_eq_true rfl) dX4_speak_22 (fun H locs hP hD hS => ?_)
  have hP : va_P D vwCl [(h, .inr (4, [.ref hT9, .int (nI 0), .int (nI 0), .int (nI 6), .int (nI sp), .int mm])), (hT9, .inl (cI, 30, .inl T))] H := hP
  have hD : va_D AA [(h, .inr (4, [.ref hT9, .int (nI 0), .int (nI 0), .int (nI 6), .int (nI sp), .int mm])), (hT9, .inl (cI, 30, .inl T))] := hD
  refine lv_aload_n hx hb dX4_speak_25 rfl (lv_at hl 0 rfl) ?_
  refine lv_aload_n hx hb dX4_speak_26 rfl (lv_at hl 0 rfl) ?_
  refine va_get (ci := 4) (v := .int (nI 6)) (C := RX4) (T := TX4) (N := 6) hx hb hts hin4 hown hK hP 0 rfl rfl 3 (by decide) (hts (.fieldLink RX4 23 "UpAllRound$Voices" "kind" "I") (List.mem_of_getElem? (i := 1) rfl)) (fun _ h9 => h9) rfl dX4_speak_27 ?_
  refine lv_iload hx hb dX4_speak_30 (lv_at hl 4 rfl) ?_
  refine lv_iload hx hb dX4_speak_32 (lv_at hl 5 rfl) ?_
  refine lv_iconst (v := nI 0) hx hb dX4_speak_34 (by decide) ?_
  refine zci (wr := []) (va_runV (As := [.int (nI 6), .int (nI 1), .int x, .int (nI 0)]) (rest := []) ⟨hx, hb, hml, hown, hts⟩ (c_X4_say_6_1_6 l D cI cJ h hT9 T 0 sp mm x 0 (by first | rfl | assumption | omega) (by first | rfl | assumption | omega) H.size) (cwV 4 hts gX4_speak_X4_say rfl rfl rfl (by decide +kernel) ⟨Nat.le_of_ble_eq_true rfl, Nat.le_of_ble_eq_true rfl⟩) (zpV hK hN hZ hP hD hS hA [0, 1] rfl (by decide) 0 rfl rfl rfl) rfl rfl hl.1 rfl (lv_room (Nat.le_of_ble_eq_true rfl)) dX4_speak_35 ⟨Nat.zero_le _, Nat.zero_le _⟩) hP hD hS hA [0, 1] [] rfl rfl (by decide) (by decide) (fun r_3 w_2 H locs h_1 hP hD hS => ?_)
  obtain ⟨rfl, rfl⟩ := h_1
  have hP : va_P D vwCl [(h, .inr (4, [.ref hT9, .int (nI ((((0 + 1) + 1) + 1))), .int (nI 0), .int (nI 6), .int (nI sp), .int mm])), (hT9, .inl (cI, 30, .inl ((upd (upd (upd T 0 (nI 71)) (0 + 1) (nI 11)) ((0 + 1) + 1) (nI 70)))))] H := hP
  have hD : va_D AA [(h, .inr (4, [.ref hT9, .int (nI ((((0 + 1) + 1) + 1))), .int (nI 0), .int (nI 6), .int (nI sp), .int mm])), (hT9, .inl (cI, 30, .inl ((upd (upd (upd T 0 (nI 71)) (0 + 1) (nI 11)) ((0 + 1) + 1) (nI 70)))))] := hD
  exact hret hP hD hS dX4_speak_38 rfl (by exact ⟨rfl, rfl⟩)
set_option maxHeartbeats 4000000 in
set_option maxRecDepth 100000 in
theorem c_X4_speak_6_2 (l : Launch) (D : va_G) (cI cJ : ClassId) (h : Nat) (hT9 : Nat) (T : Nat → Int32) (tn0 : Nat) (pt0 : Nat) (K0 : Nat) (sp0 : Nat) (mm0 : Int32) (sp : Nat) (mm : Int32) (x : Int32)  : zMi l yX4_speak wsX4_speak ({ frames := 9, cells := 0, slots := 0, locals := 215 } : Room) D [(cI, .int), (cJ, .array .int)] [.ref h, .int (nI 6), .int (nI sp), .int mm, .int (nI 2), .int x] [(h, .inr (4, [.ref hT9, .int (nI tn0), .int (nI pt0), .int (nI K0), .int (nI sp0), .int mm0])), (hT9, .inl (cI, 30, .inl T))] (fun r w => r = (zswears 6 6 sp mm x ) ∧ w = [(h, .inr (4, [.ref hT9, .int (nI (((((0 + 1) + 1) + 1) + 1))), .int (nI 0), .int (nI 6), .int (nI sp), .int mm])), (hT9, .inl (cI, 30, .inl ((upd (upd (upd (upd T 0 (nI 12)) (0 + 1) (nI 71)) ((0 + 1) + 1) (nI 11)) (((0 + 1) + 1) + 1) (nI 70)))))]) := by
  refine zMi.start (cc := cX4_speak) (maxL := 6) (rt := .int) (by first | decide | decide +kernel) rfl (Nat.le_of_ble_eq_true rfl) ?_
  intro pg ev s mt args below meth cd ls AA QQ ⟨hx, hb, hml, hr, hlocks, hown, hts, hK, hN, hZ, hP, hD, hA, hS, hl⟩ hret
  have hown : s.vm.findClass RX4 = some mt.cls := hown
  have hl : lv_has ls 6 [(0, .ref h), (1, .int (nI 6)), (2, .int (nI sp)), (3, .int mm), (4, .int (nI 2)), (5, .int x)] := hl
  have hin4 : ∀ w ∈ wsX40, w ∈ wsX4_speak := fun w h => List.mem_cons_of_mem _ (List.mem_append_right _ (h))
  refine lv_aload_n hx hb dX4_speak_0 rfl (lv_at hl 0 rfl) ?_
  refine lv_iload_n hx hb dX4_speak_1 rfl (lv_at hl 1 rfl) ?_
  refine va_put (ci := 4) (v := .int (nI 6)) (ty := .int) (C := RX4) (T := TX4) (N := 6) hx hb hts hin4 tyX4 tyX4_ok nmX4 hown hK hP hD hS 0 rfl rfl 3 (by decide) (hts (.fieldLink RX4 23 "UpAllRound$Voices" "kind" "I") (List.mem_of_getElem? (i := 1) rfl)) (fun _ h9 => h9) rfl (by decide +kernel) rfl rfl (Nat.le_of_ble_eq_true rfl) dX4_speak_2 (fun H locs hP hD hS => ?_)
  have hP : va_P D vwCl [(h, .inr (4, [.ref hT9, .int (nI tn0), .int (nI pt0), .int (nI 6), .int (nI sp0), .int mm0])), (hT9, .inl (cI, 30, .inl T))] H := hP
  have hD : va_D AA [(h, .inr (4, [.ref hT9, .int (nI tn0), .int (nI pt0), .int (nI 6), .int (nI sp0), .int mm0])), (hT9, .inl (cI, 30, .inl T))] := hD
  refine lv_aload_n hx hb dX4_speak_5 rfl (lv_at hl 0 rfl) ?_
  refine lv_iload_n hx hb dX4_speak_6 rfl (lv_at hl 2 rfl) ?_
  refine va_put (ci := 4) (v := .int (nI sp)) (ty := .int) (C := RX4) (T := TX4) (N := 6) hx hb hts hin4 tyX4 tyX4_ok nmX4 hown hK hP hD hS 0 rfl rfl 4 (by decide) (hts (.fieldLink RX4 26 "UpAllRound$Voices" "k" "I") (List.mem_of_getElem? (i := 2) rfl)) (fun _ h9 => h9) rfl (by decide +kernel) rfl rfl (Nat.le_of_ble_eq_true rfl) dX4_speak_7 (fun H locs hP hD hS => ?_)
  have hP : va_P D vwCl [(h, .inr (4, [.ref hT9, .int (nI tn0), .int (nI pt0), .int (nI 6), .int (nI sp), .int mm0])), (hT9, .inl (cI, 30, .inl T))] H := hP
  have hD : va_D AA [(h, .inr (4, [.ref hT9, .int (nI tn0), .int (nI pt0), .int (nI 6), .int (nI sp), .int mm0])), (hT9, .inl (cI, 30, .inl T))] := hD
  refine lv_aload_n hx hb dX4_speak_10 rfl (lv_at hl 0 rfl) ?_
  refine lv_iload_n hx hb dX4_speak_11 rfl (lv_at hl 3 rfl) ?_
  refine va_put (ci := 4) (v := .int mm) (ty := .int) (C := RX4) (T := TX4) (N := 6) hx hb hts hin4 tyX4 tyX4_ok nmX4 hown hK hP hD hS 0 rfl rfl 5 (by decide) (hts (.fieldLink RX4 29 "UpAllRound$Voices" "m" "I") (List.mem_of_getElem? (i := 3) rfl)) (fun _ h9 => h9) rfl (by decide +kernel) rfl rfl (Nat.le_of_ble_eq_true rfl) dX4_speak_12 (fun H locs hP hD hS => ?_)
  have hP : va_P D vwCl [(h, .inr (4, [.ref hT9, .int (nI tn0), .int (nI pt0), .int (nI 6), .int (nI sp), .int mm])), (hT9, .inl (cI, 30, .inl T))] H := hP
  have hD : va_D AA [(h, .inr (4, [.ref hT9, .int (nI tn0), .int (nI pt0), .int (nI 6), .int (nI sp), .int mm])), (hT9, .inl (cI, 30, .inl T))] := hD
  refine lv_aload_n hx hb dX4_speak_15 rfl (lv_at hl 0 rfl) ?_
  refine lv_iconst (v := nI 0) hx hb dX4_speak_16 (by decide) ?_
  refine va_put (ci := 4) (v := .int (nI 0)) (ty := .int) (C := RX4) (T := TX4) (N := 6) hx hb hts hin4 tyX4 tyX4_ok nmX4 hown hK hP hD hS 0 rfl rfl 1 (by decide) (hts (.fieldLink RX4 15 "UpAllRound$Voices" "traced" "I") (List.mem_of_getElem? (i := 4) rfl)) (fun _ h9 => h9) rfl (by decide +kernel) rfl rfl (Nat.le_of_ble_eq_true rfl) dX4_speak_17 (fun H locs hP hD hS => ?_)
  have hP : va_P D vwCl [(h, .inr (4, [.ref hT9, .int (nI 0), .int (nI pt0), .int (nI 6), .int (nI sp), .int mm])), (hT9, .inl (cI, 30, .inl T))] H := hP
  have hD : va_D AA [(h, .inr (4, [.ref hT9, .int (nI 0), .int (nI pt0), .int (nI 6), .int (nI sp), .int mm])), (hT9, .inl (cI, 30, .inl T))] := hD
  refine lv_aload_n hx hb dX4_speak_20 rfl (lv_at hl 0 rfl) ?_
  refine lv_iconst (v := nI 0) hx hb dX4_speak_21 (by decide) ?_
  refine va_put (ci := 4) (v := .int (nI 0)) (ty := .boolean) (C := RX4) (T := TX4) (N := 6) hx hb hts hin4 tyX4 tyX4_ok nmX4 hown hK hP hD hS 0 rfl rfl 2 (by decide) (hts (.fieldLink RX4 19 "UpAllRound$Voices" "parted" "Z") (List.mem_of_getElem? (i := 5) rfl)) (fun _ h9 => h9) rfl (by decide +kernel) rfl rfl (Nat.le_of_ble_eq_true rfl) dX4_speak_22 (fun H locs hP hD hS => ?_)
  have hP : va_P D vwCl [(h, .inr (4, [.ref hT9, .int (nI 0), .int (nI 0), .int (nI 6), .int (nI sp), .int mm])), (hT9, .inl (cI, 30, .inl T))] H := hP
  have hD : va_D AA [(h, .inr (4, [.ref hT9, .int (nI 0), .int (nI 0), .int (nI 6), .int (nI sp), .int mm])), (hT9, .inl (cI, 30, .inl T))] := hD
  refine lv_aload_n hx hb dX4_speak_25 rfl (lv_at hl 0 rfl) ?_
  refine lv_aload_n hx hb dX4_speak_26 rfl (lv_at hl 0 rfl) ?_
  refine va_get (ci := 4) (v := .int (nI 6)) (C := RX4) (T := TX4) (N := 6) hx hb hts hin4 hown hK hP 0 rfl rfl 3 (by decide) (hts (.fieldLink RX4 23 "UpAllRound$Voices" "kind" "I") (List.mem_of_getElem? (i := 1) rfl)) (fun _ h9 => h9) rfl dX4_speak_27 ?_
  refine lv_iload hx hb dX4_speak_30 (lv_at hl 4 rfl) ?_
  refine lv_iload hx hb dX4_speak_32 (lv_at hl 5 rfl) ?_
  refine lv_iconst (v := nI 0) hx hb dX4_speak_34 (by decide) ?_
  refine zci (wr := []) (va_runV (As := [.int (nI 6), .int (nI 2), .int x, .int (nI 0)]) (rest := []) ⟨hx, hb, hml, hown, hts⟩ (c_X4_say_6_2_6 l D cI cJ h hT9 T 0 sp mm x 0 (by first | rfl | assumption | omega) (by first | rfl | assumption | omega) H.size) (cwV 4 hts gX4_speak_X4_say rfl rfl rfl (by decide +kernel) ⟨Nat.le_of_ble_eq_true rfl, Nat.le_of_ble_eq_true rfl⟩) (zpV hK hN hZ hP hD hS hA [0, 1] rfl (by decide) 0 rfl rfl rfl) rfl rfl hl.1 rfl (lv_room (Nat.le_of_ble_eq_true rfl)) dX4_speak_35 ⟨Nat.zero_le _, Nat.zero_le _⟩) hP hD hS hA [0, 1] [] rfl rfl (by decide) (by decide) (fun r_3 w_2 H locs h_1 hP hD hS => ?_)
  obtain ⟨rfl, rfl⟩ := h_1
  have hP : va_P D vwCl [(h, .inr (4, [.ref hT9, .int (nI (((((0 + 1) + 1) + 1) + 1))), .int (nI 0), .int (nI 6), .int (nI sp), .int mm])), (hT9, .inl (cI, 30, .inl ((upd (upd (upd (upd T 0 (nI 12)) (0 + 1) (nI 71)) ((0 + 1) + 1) (nI 11)) (((0 + 1) + 1) + 1) (nI 70)))))] H := hP
  have hD : va_D AA [(h, .inr (4, [.ref hT9, .int (nI (((((0 + 1) + 1) + 1) + 1))), .int (nI 0), .int (nI 6), .int (nI sp), .int mm])), (hT9, .inl (cI, 30, .inl ((upd (upd (upd (upd T 0 (nI 12)) (0 + 1) (nI 71)) ((0 + 1) + 1) (nI 11)) (((0 + 1) + 1) + 1) (nI 70)))))] := hD
  exact hret hP hD hS dX4_speak_38 rfl (by exact ⟨rfl, rfl⟩)
set_option maxHeartbeats 4000000 in
set_option maxRecDepth 100000 in
theorem c_X4_speak_6_3 (l : Launch) (D : va_G) (cI cJ : ClassId) (h : Nat) (hT9 : Nat) (T : Nat → Int32) (tn0 : Nat) (pt0 : Nat) (K0 : Nat) (sp0 : Nat) (mm0 : Int32) (sp : Nat) (mm : Int32) (x : Int32)  : zMi l yX4_speak wsX4_speak ({ frames := 3, cells := 0, slots := 0, locals := 71 } : Room) D [(cI, .int), (cJ, .array .int)] [.ref h, .int (nI 6), .int (nI sp), .int mm, .int (nI 3), .int x] [(h, .inr (4, [.ref hT9, .int (nI tn0), .int (nI pt0), .int (nI K0), .int (nI sp0), .int mm0])), (hT9, .inl (cI, 30, .inl T))] (fun r w => r = (zpv sp mm x) ∧ w = [(h, .inr (4, [.ref hT9, .int (nI ((0 + 1))), .int (nI ((zpd sp mm))), .int (nI 6), .int (nI sp), .int mm])), (hT9, .inl (cI, 30, .inl ((upd T 0 (nI 13)))))]) := by
  refine zMi.start (cc := cX4_speak) (maxL := 6) (rt := .int) (by first | decide | decide +kernel) rfl (Nat.le_of_ble_eq_true rfl) ?_
  intro pg ev s mt args below meth cd ls AA QQ ⟨hx, hb, hml, hr, hlocks, hown, hts, hK, hN, hZ, hP, hD, hA, hS, hl⟩ hret
  have hown : s.vm.findClass RX4 = some mt.cls := hown
  have hl : lv_has ls 6 [(0, .ref h), (1, .int (nI 6)), (2, .int (nI sp)), (3, .int mm), (4, .int (nI 3)), (5, .int x)] := hl
  have hin4 : ∀ w ∈ wsX40, w ∈ wsX4_speak := fun w h => List.mem_cons_of_mem _ (List.mem_append_right _ (h))
  refine lv_aload_n hx hb dX4_speak_0 rfl (lv_at hl 0 rfl) ?_
  refine lv_iload_n hx hb dX4_speak_1 rfl (lv_at hl 1 rfl) ?_
  refine va_put (ci := 4) (v := .int (nI 6)) (ty := .int) (C := RX4) (T := TX4) (N := 6) hx hb hts hin4 tyX4 tyX4_ok nmX4 hown hK hP hD hS 0 rfl rfl 3 (by decide) (hts (.fieldLink RX4 23 "UpAllRound$Voices" "kind" "I") (List.mem_of_getElem? (i := 1) rfl)) (fun _ h9 => h9) rfl (by decide +kernel) rfl rfl (Nat.le_of_ble_eq_true rfl) dX4_speak_2 (fun H locs hP hD hS => ?_)
  have hP : va_P D vwCl [(h, .inr (4, [.ref hT9, .int (nI tn0), .int (nI pt0), .int (nI 6), .int (nI sp0), .int mm0])), (hT9, .inl (cI, 30, .inl T))] H := hP
  have hD : va_D AA [(h, .inr (4, [.ref hT9, .int (nI tn0), .int (nI pt0), .int (nI 6), .int (nI sp0), .int mm0])), (hT9, .inl (cI, 30, .inl T))] := hD
  refine lv_aload_n hx hb dX4_speak_5 rfl (lv_at hl 0 rfl) ?_
  refine lv_iload_n hx hb dX4_speak_6 rfl (lv_at hl 2 rfl) ?_
  refine va_put (ci := 4) (v := .int (nI sp)) (ty := .int) (C := RX4) (T := TX4) (N := 6) hx hb hts hin4 tyX4 tyX4_ok nmX4 hown hK hP hD hS 0 rfl rfl 4 (by decide) (hts (.fieldLink RX4 26 "UpAllRound$Voices" "k" "I") (List.mem_of_getElem? (i := 2) rfl)) (fun _ h9 => h9) rfl (by decide +kernel) rfl rfl (Nat.le_of_ble_eq_true rfl) dX4_speak_7 (fun H locs hP hD hS => ?_)
  have hP : va_P D vwCl [(h, .inr (4, [.ref hT9, .int (nI tn0), .int (nI pt0), .int (nI 6), .int (nI sp), .int mm0])), (hT9, .inl (cI, 30, .inl T))] H := hP
  have hD : va_D AA [(h, .inr (4, [.ref hT9, .int (nI tn0), .int (nI pt0), .int (nI 6), .int (nI sp), .int mm0])), (hT9, .inl (cI, 30, .inl T))] := hD
  refine lv_aload_n hx hb dX4_speak_10 rfl (lv_at hl 0 rfl) ?_
  refine lv_iload_n hx hb dX4_speak_11 rfl (lv_at hl 3 rfl) ?_
  refine va_put (ci := 4) (v := .int mm) (ty := .int) (C := RX4) (T := TX4) (N := 6) hx hb hts hin4 tyX4 tyX4_ok nmX4 hown hK hP hD hS 0 rfl rfl 5 (by decide) (hts (.fieldLink RX4 29 "UpAllRound$Voices" "m" "I") (List.mem_of_getElem? (i := 3) rfl)) (fun _ h9 => h9) rfl (by decide +kernel) rfl rfl (Nat.le_of_ble_eq_true rfl) dX4_speak_12 (fun H locs hP hD hS => ?_)
  have hP : va_P D vwCl [(h, .inr (4, [.ref hT9, .int (nI tn0), .int (nI pt0), .int (nI 6), .int (nI sp), .int mm])), (hT9, .inl (cI, 30, .inl T))] H := hP
  have hD : va_D AA [(h, .inr (4, [.ref hT9, .int (nI tn0), .int (nI pt0), .int (nI 6), .int (nI sp), .int mm])), (hT9, .inl (cI, 30, .inl T))] := hD
  refine lv_aload_n hx hb dX4_speak_15 rfl (lv_at hl 0 rfl) ?_
  refine lv_iconst (v := nI 0) hx hb dX4_speak_16 (by decide) ?_
  refine va_put (ci := 4) (v := .int (nI 0)) (ty := .int) (C := RX4) (T := TX4) (N := 6) hx hb hts hin4 tyX4 tyX4_ok nmX4 hown hK hP hD hS 0 rfl rfl 1 (by decide) (hts (.fieldLink RX4 15 "UpAllRound$Voices" "traced" "I") (List.mem_of_getElem? (i := 4) rfl)) (fun _ h9 => h9) rfl (by decide +kernel) rfl rfl (Nat.le_of_ble_eq_true rfl) dX4_speak_17 (fun H locs hP hD hS => ?_)
  have hP : va_P D vwCl [(h, .inr (4, [.ref hT9, .int (nI 0), .int (nI pt0), .int (nI 6), .int (nI sp), .int mm])), (hT9, .inl (cI, 30, .inl T))] H := hP
  have hD : va_D AA [(h, .inr (4, [.ref hT9, .int (nI 0), .int (nI pt0), .int (nI 6), .int (nI sp), .int mm])), (hT9, .inl (cI, 30, .inl T))] := hD
  refine lv_aload_n hx hb dX4_speak_20 rfl (lv_at hl 0 rfl) ?_
  refine lv_iconst (v := nI 0) hx hb dX4_speak_21 (by decide) ?_
  refine va_put (ci := 4) (v := .int (nI 0)) (ty := .boolean) (C := RX4) (T := TX4) (N := 6) hx hb hts hin4 tyX4 tyX4_ok nmX4 hown hK hP hD hS 0 rfl rfl 2 (by decide) (hts (.fieldLink RX4 19 "UpAllRound$Voices" "parted" "Z") (List.mem_of_getElem? (i := 5) rfl)) (fun _ h9 => h9) rfl (by decide +kernel) rfl rfl (Nat.le_of_ble_eq_true rfl) dX4_speak_22 (fun H locs hP hD hS => ?_)
  have hP : va_P D vwCl [(h, .inr (4, [.ref hT9, .int (nI 0), .int (nI 0), .int (nI 6), .int (nI sp), .int mm])), (hT9, .inl (cI, 30, .inl T))] H := hP
  have hD : va_D AA [(h, .inr (4, [.ref hT9, .int (nI 0), .int (nI 0), .int (nI 6), .int (nI sp), .int mm])), (hT9, .inl (cI, 30, .inl T))] := hD
  refine lv_aload_n hx hb dX4_speak_25 rfl (lv_at hl 0 rfl) ?_
  refine lv_aload_n hx hb dX4_speak_26 rfl (lv_at hl 0 rfl) ?_
  refine va_get (ci := 4) (v := .int (nI 6)) (C := RX4) (T := TX4) (N := 6) hx hb hts hin4 hown hK hP 0 rfl rfl 3 (by decide) (hts (.fieldLink RX4 23 "UpAllRound$Voices" "kind" "I") (List.mem_of_getElem? (i := 1) rfl)) (fun _ h9 => h9) rfl dX4_speak_27 ?_
  refine lv_iload hx hb dX4_speak_30 (lv_at hl 4 rfl) ?_
  refine lv_iload hx hb dX4_speak_32 (lv_at hl 5 rfl) ?_
  refine lv_iconst (v := nI 0) hx hb dX4_speak_34 (by decide) ?_
  refine zci (wr := []) (va_runV (As := [.int (nI 6), .int (nI 3), .int x, .int (nI 0)]) (rest := []) ⟨hx, hb, hml, hown, hts⟩ (c_X4_say_6_3_6 l D cI cJ h hT9 T 0 sp mm x 0 (by first | rfl | assumption | omega) (by first | rfl | assumption | omega) H.size) (cwV 4 hts gX4_speak_X4_say rfl rfl rfl (by decide +kernel) ⟨Nat.le_of_ble_eq_true rfl, Nat.le_of_ble_eq_true rfl⟩) (zpV hK hN hZ hP hD hS hA [0, 1] rfl (by decide) 0 rfl rfl rfl) rfl rfl hl.1 rfl (lv_room (Nat.le_of_ble_eq_true rfl)) dX4_speak_35 ⟨Nat.zero_le _, Nat.zero_le _⟩) hP hD hS hA [0, 1] [] rfl rfl (by decide) (by decide) (fun r_3 w_2 H locs h_1 hP hD hS => ?_)
  obtain ⟨rfl, rfl⟩ := h_1
  have hP : va_P D vwCl [(h, .inr (4, [.ref hT9, .int (nI ((0 + 1))), .int (nI ((zpd sp mm))), .int (nI 6), .int (nI sp), .int mm])), (hT9, .inl (cI, 30, .inl ((upd T 0 (nI 13)))))] H := hP
  have hD : va_D AA [(h, .inr (4, [.ref hT9, .int (nI ((0 + 1))), .int (nI ((zpd sp mm))), .int (nI 6), .int (nI sp), .int mm])), (hT9, .inl (cI, 30, .inl ((upd T 0 (nI 13)))))] := hD
  exact hret hP hD hS dX4_speak_38 rfl (by exact ⟨rfl, rfl⟩)
