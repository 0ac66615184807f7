def zq15 (a0 a1 a2 a3 a4 a5 a6 a7 a8 a9 a10 a11 a12 a13 a14 : Nat) : Nat → Option Nat := fun i => match i with
  | 0 => some a0
  | 1 => some a1
  | 2 => some a2
  | 3 => some a3
  | 4 => some a4
  | 5 => some a5
  | 6 => some a6
  | 7 => some a7
  | 8 => some a8
  | 9 => some a9
  | 10 => some a10
  | 11 => some a11
  | 12 => some a12
  | 13 => some a13
  | 14 => some a14
  | _ => none

theorem zmin_n {a b : Nat} (ha : a < 2147483648) (hb : b < 2147483648) : (if nI b < nI a then nI b else nI a) = nI (min a b) := by
  by_cases h : b < a
  · rw [if_pos ((nI_ltI hb ha).mpr h), Nat.min_eq_right (by omega)]
  · rw [if_neg (fun h9 => h ((nI_ltI hb ha).mp h9)), Nat.min_eq_left (by omega)]
theorem zbf {S : Nat → Int32} {j k : Nat} {b : Int32} (hr : zrg (-9) 9 (S (32 + k))) (hj : j < 253) (e : b = nI j - S (32 + k)) : b.toInt = (j : Int) - (S (32 + k)).toInt := by
  have h1 := hr.1
  have h2 := hr.2
  rw [e, Int32.toInt_sub, nI_toInt (by omega), zbm (by omega) (by omega)]
theorem zfw_in {S : Nat → Int32} {j k q : Nat} (hr : zrg (-9) 9 (S (32 + k))) (hj : j < 253) (hq : q ≤ 252) (e : nI q = nI j - S (32 + k)) : nI (min 99 (min (zfw (zrJ S) k ((q : Int) - 126) + 1) (zfw (zrJ S) k ((j : Int) - 126)))) = nI (zfw (zrJ S) (k + 1) ((j : Int) - 126)) := by
  have h := zbf hr hj e
  rw [nI_toInt (by omega)] at h
  rw [zfw_s, show (j : Int) - 126 - zrJ S k = (q : Int) - 126 from by show (j : Int) - 126 - (S (32 + k)).toInt = _; omega]
theorem zfw_out {S : Nat → Int32} {j k : Nat} {b : Int32} (hri : ∀ j, j < 14 → zrg (-9) 9 (S (32 + j))) (hk : k < 14) (hj : j < 253) (e : b = nI j - S (32 + k)) (ho : ¬ zrg 0 252 b) : nI (min 99 (min 99 (zfw (zrJ S) k ((j : Int) - 126)))) = nI (zfw (zrJ S) (k + 1) ((j : Int) - 126)) := by
  have h := zbf (hri k hk) hj e
  have h2 : zfw (zrJ S) k ((j : Int) - 126 - zrJ S k) = 99 := by
    refine zfw_far (r := zrJ S) (n := 14) hri k (by omega) _ ?_
    show (j : Int) - 126 - (S (32 + k)).toInt < _ ∨ _ < (j : Int) - 126 - (S (32 + k)).toInt
    unfold zrg at ho
    omega
  rw [zfw_s, h2]
  congr 1
  omega
theorem zfw_r0 {r : Nat → Int} {F : Nat → Int32} {j : Nat} (hj : j < 253) : upd (zfill F 0 253 (nI 99)) 126 (nI 0) j = nI (zfw r 0 ((j : Int) - 126)) := by
  show (if j = 126 then nI 0 else zfill F 0 253 (nI 99) j) = nI (if (j : Int) - 126 = 0 then 0 else 99)
  by_cases h : j = 126
  · rw [if_pos h, if_pos (by omega)]
  · rw [if_neg h, if_neg (by omega)]
    exact if_pos (by omega)
theorem zls_e {r : Nat → Int} {k : Nat} {s : Int} (h : zfw r k s = zfw r (k + 1) s) : zls r (k + 1) s = zls r k s := if_pos h
theorem zls_n {r : Nat → Int} {k : Nat} {s : Int} (h : ¬ zfw r k s = zfw r (k + 1) s) : zls r (k + 1) s = 2 ^ k + zls r k (s - r k) := if_neg h
theorem zfw_l1 {r : Nat → Int} {k : Nat} {s : Int} (h : zfw r (k + 1) s < 99) (h2 : ¬ zfw r k s = zfw r (k + 1) s) : zfw r k (s - r k) < 99 := by
  have e := zfw_s r k s
  have l := zfw_le r k s
  omega
theorem zfw_rg {S : Nat → Int32} {m : Nat} {s : Int} (hri : ∀ j, j < 14 → zrg (-9) 9 (S (32 + j))) (hm : m ≤ 14) (h : zfw (zrJ S) m s < 99) : -126 ≤ s ∧ s ≤ 126 := by
  refine Classical.byContradiction fun h9 => ?_
  have := zfw_far (r := zrJ S) (n := 14) hri m hm s (by omega)
  omega
theorem nI_pred' (k : Nat) : nI (k + 1) - nI 1 = nI k := nI_pred k
theorem zm1_0 {m : Nat} (hm : m ≤ 14) : nI m - nI 1 < 0 ↔ m = 0 := by
  cases m with
  | zero => exact ⟨fun _ => rfl, fun _ => by decide⟩
  | succ k => rw [nI_pred' k]; exact ⟨fun h => absurd h (nI_pos (by omega)), fun h => absurd h (by omega)⟩
theorem zs126 {ov : Int32} {s : Int} (h : ov.toInt = s) (h1 : -126 ≤ s) (h2 : s ≤ 126) : (nI 126 + ov).toInt = s + 126 := by
  rw [Int32.toInt_add, h, show (nI 126).toInt = 126 from rfl, zbm (by omega) (by omega)]; omega
theorem zsq {S : Nat → Int32} {q k : Nat} {b : Int32} (hr : zrg (-9) 9 (S (32 + k))) (hq : q ≤ 252) (e : b = nI q - S (32 + k)) {s : Int} (hs : (nI q).toInt = s + 126) : b.toInt = s - zrJ S k + 126 := by
  have h := zbf hr (show q < 253 by omega) e
  rw [nI_toInt (by omega)] at hs
  show _ = s - (S (32 + k)).toInt + 126
  omega
theorem zq126 {ov : Int32} (h : zrg (-126) 126 ov) : ∃ q : Nat, q ≤ 252 ∧ nI 126 + ov = nI q ∧ ov.toInt = (q : Int) - 126 := by
  have h1 := h.1
  have h2 := h.2
  have e := zs126 (ov := ov) rfl h1 h2
  obtain ⟨q, hq, e2⟩ := zrg_of (U := 252) (v := nI 126 + ov) ⟨by omega, by omega⟩ (by decide)
  refine ⟨q, hq, e2, ?_⟩
  rw [e2, nI_toInt (by omega)] at e
  omega
set_option maxHeartbeats 4000000 in
set_option maxRecDepth 100000 in
theorem c_X5_countFewest (l : Launch) (D : va_G) (cI cJ : ClassId) (h : Nat) (hS9 : Nat) (hr9 : Nat) (hF9 : Nat) (fs : List Value) (ft : List Value) (S : Nat → Int32) (n : Nat) (q0 : Nat) (q1 : Nat) (q2 : Nat) (q3 : Nat) (q4 : Nat) (q5 : Nat) (q6 : Nat) (q7 : Nat) (q8 : Nat) (q9 : Nat) (q10 : Nat) (q11 : Nat) (q12 : Nat) (q13 : Nat) (q14 : Nat) (F : Nat → Nat → Int32) (hU0 : fs[0]? = some (.ref hS9)) (hU6 : fs[6]? = some (.ref hF9)) (hft0 : ft[0]? = some (.int (nI n))) (hft1 : ft[1]? = some (.ref hr9)) (hn14 : n ≤ 14) (hri : ∀ j, j < 14 → zrg (-9) 9 (S (32 + j))) : zMv l yX5_countFewest wsX5_countFewest ({ frames := 1, cells := 0, slots := 0, locals := 23 } : Room) D [(cI, .int), (cJ, .array .int)] [.ref h] [(h, .inr (5, fs)), (hS9, .inr (3, ft)), (hr9, .inl (cI, 14, .inl ((fun i => S (32 + i))))), (hF9, .inl (cJ, 15, .inr (.inr (.inr (.inr (zq15 q0 q1 q2 q3 q4 q5 q6 q7 q8 q9 q10 q11 q12 q13 q14)))))), (q0, .inl (cI, 253, .inl (F 0))), (q1, .inl (cI, 253, .inl (F 1))), (q2, .inl (cI, 253, .inl (F 2))), (q3, .inl (cI, 253, .inl (F 3))), (q4, .inl (cI, 253, .inl (F 4))), (q5, .inl (cI, 253, .inl (F 5))), (q6, .inl (cI, 253, .inl (F 6))), (q7, .inl (cI, 253, .inl (F 7))), (q8, .inl (cI, 253, .inl (F 8))), (q9, .inl (cI, 253, .inl (F 9))), (q10, .inl (cI, 253, .inl (F 10))), (q11, .inl (cI, 253, .inl (F 11))), (q12, .inl (cI, 253, .inl (F 12))), (q13, .inl (cI, 253, .inl (F 13))), (q14, .inl (cI, 253, .inl (F 14)))] (fun w => ∃ G9 : Nat → Nat → Int32, (∀ k, k ≤ n → ∀ j, j < 253 → G9 k j = nI (zfw (zrJ S) k ((j : Int) - 126))) ∧ w = [(h, .inr (5, fs)), (hS9, .inr (3, ft)), (hr9, .inl (cI, 14, .inl ((fun i => S (32 + i))))), (hF9, .inl (cJ, 15, .inr (.inr (.inr (.inr (zq15 q0 q1 q2 q3 q4 q5 q6 q7 q8 q9 q10 q11 q12 q13 q14)))))), (q0, .inl (cI, 253, .inl (G9 0))), (q1, .inl (cI, 253, .inl (G9 1))), (q2, .inl (cI, 253, .inl (G9 2))), (q3, .inl (cI, 253, .inl (G9 3))), (q4, .inl (cI, 253, .inl (G9 4))), (q5, .inl (cI, 253, .inl (G9 5))), (q6, .inl (cI, 253, .inl (G9 6))), (q7, .inl (cI, 253, .inl (G9 7))), (q8, .inl (cI, 253, .inl (G9 8))), (q9, .inl (cI, 253, .inl (G9 9))), (q10, .inl (cI, 253, .inl (G9 10))), (q11, .inl (cI, 253, .inl (G9 11))), (q12, .inl (cI, 253, .inl (G9 12))), (q13, .inl (cI, 253, .inl (G9 13))), (q14, .inl (cI, 253, .inl (G9 14)))]) := by
  refine zMv.start (cc := cX5_countFewest) (maxL := 5) (by first | decide | decide +kernel) rfl (Nat.le_of_ble_eq_true rfl) ?_
  intro pg ev s mt args below meth cd ls AA QQ ⟨hx, hb, hml, hr, hlocks, hown, hts, hK, hN, hZ, hP, hD, hA, hS, hl⟩ hret
  have hown : s.vm.findClass RX5 = some mt.cls := hown
  have hl : lv_has ls 5 [(0, .ref h)] := hl
  have hin3 : ∀ w ∈ wsX30, w ∈ wsX5_countFewest := fun w h => List.mem_cons_of_mem _ (List.mem_append_right _ (h))
  have hin5 : ∀ w ∈ wsX50, w ∈ wsX5_countFewest := fun w h => List.mem_cons_of_mem _ (List.mem_append_left _ (List.mem_append_right _ (h)))
  refine lv_aload_n hx hb dX5_countFewest_0 rfl (lv_at hl 0 rfl) ?_
  refine va_get (ci := 5) (v := .ref hF9) (C := RX5) (T := TX5) (N := 9) hx hb hts hin5 hown hK hP 0 rfl rfl 6 (by decide) (hts (.fieldLink RX5 45 "UpAllRound" "fewest" "[[I") (List.mem_of_getElem? (i := 1) rfl)) (fun _ h9 => h9) hU6 dX5_countFewest_1 ?_
  refine lv_iconst (v := nI 0) hx hb dX5_countFewest_4 (by decide) ?_
  refine zaldq (t := 0) (x := q0) hx hb hK hP 3 rfl (by decide) (by decide) rfl dX5_countFewest_5 ?_
  refine lv_bipush (v := nI 99) hx hb dX5_countFewest_6 (by decide) ?_
  refine zcv (wr := [(h, .inr (5, fs)), (hS9, .inr (3, ft)), (hr9, .inl (cI, 14, .inl ((fun i => S (32 + i))))), (hF9, .inl (cJ, 15, .inr (.inr (.inr (.inr (zq15 q0 q1 q2 q3 q4 q5 q6 q7 q8 q9 q10 q11 q12 q13 q14)))))), (q1, .inl (cI, 253, .inl (F 1))), (q2, .inl (cI, 253, .inl (F 2))), (q3, .inl (cI, 253, .inl (F 3))), (q4, .inl (cI, 253, .inl (F 4))), (q5, .inl (cI, 253, .inl (F 5))), (q6, .inl (cI, 253, .inl (F 6))), (q7, .inl (cI, 253, .inl (F 7))), (q8, .inl (cI, 253, .inl (F 8))), (q9, .inl (cI, 253, .inl (F 9))), (q10, .inl (cI, 253, .inl (F 10))), (q11, .inl (cI, 253, .inl (F 11))), (q12, .inl (cI, 253, .inl (F 12))), (q13, .inl (cI, 253, .inl (F 13))), (q14, .inl (cI, 253, .inl (F 14)))]) (va_runS (As := [.ref q0, .int (nI 99)]) (rest := []) ⟨hx, hb, hml, hown, hts⟩ (c_J7_fill_53178 l D cI cJ q0 253 (F 0) (nI 99) (by decide) s.heap.size) (va_cwS 2 hts gX5_countFewest_J7_fill_53178 rfl rfl rfl (by decide +kernel) ⟨Nat.le_of_ble_eq_true rfl, Nat.le_of_ble_eq_true rfl⟩) (zpS hK hN hZ hP hD hS hA [4] rfl (by decide)) rfl rfl hl.1 rfl (lv_room (Nat.le_of_ble_eq_true rfl)) dX5_countFewest_8 ⟨Nat.zero_le _, Nat.zero_le _⟩) hP hD hS hA [4] [0, 1, 2, 3, 5, 6, 7, 8, 9, 10, 11, 12, 13, 14, 15, 16, 17, 18] rfl rfl (by decide) (by decide) (fun w_2 H locs h_1 hP hD hS => ?_)
  obtain rfl := h_1
  have hP : va_P D vwCl [(h, .inr (5, fs)), (hS9, .inr (3, ft)), (hr9, .inl (cI, 14, .inl ((fun i => S (32 + i))))), (hF9, .inl (cJ, 15, .inr (.inr (.inr (.inr (zq15 q0 q1 q2 q3 q4 q5 q6 q7 q8 q9 q10 q11 q12 q13 q14)))))), (q1, .inl (cI, 253, .inl (F 1))), (q2, .inl (cI, 253, .inl (F 2))), (q3, .inl (cI, 253, .inl (F 3))), (q4, .inl (cI, 253, .inl (F 4))), (q5, .inl (cI, 253, .inl (F 5))), (q6, .inl (cI, 253, .inl (F 6))), (q7, .inl (cI, 253, .inl (F 7))), (q8, .inl (cI, 253, .inl (F 8))), (q9, .inl (cI, 253, .inl (F 9))), (q10, .inl (cI, 253, .inl (F 10))), (q11, .inl (cI, 253, .inl (F 11))), (q12, .inl (cI, 253, .inl (F 12))), (q13, .inl (cI, 253, .inl (F 13))), (q14, .inl (cI, 253, .inl (F 14))), (q0, .inl (cI, 253, .inl (zfill (F 0) 0 253 (nI 99))))] H := hP
  have hD : va_D AA [(h, .inr (5, fs)), (hS9, .inr (3, ft)), (hr9, .inl (cI, 14, .inl ((fun i => S (32 + i))))), (hF9, .inl (cJ, 15, .inr (.inr (.inr (.inr (zq15 q0 q1 q2 q3 q4 q5 q6 q7 q8 q9 q10 q11 q12 q13 q14)))))), (q1, .inl (cI, 253, .inl (F 1))), (q2, .inl (cI, 253, .inl (F 2))), (q3, .inl (cI, 253, .inl (F 3))), (q4, .inl (cI, 253, .inl (F 4))), (q5, .inl (cI, 253, .inl (F 5))), (q6, .inl (cI, 253, .inl (F 6))), (q7, .inl (cI, 253, .inl (F 7))), (q8, .inl (cI, 253, .inl (F 8))), (q9, .inl (cI, 253, .inl (F 9))), (q10, .inl (cI, 253, .inl (F 10))), (q11, .inl (cI, 253, .inl (F 11))), (q12, .inl (cI, 253, .inl (F 12))), (q13, .inl (cI, 253, .inl (F 13))), (q14, .inl (cI, 253, .inl (F 14))), (q0, .inl (cI, 253, .inl (zfill (F 0) 0 253 (nI 99))))] := hD
  refine lv_aload_n hx hb dX5_countFewest_11 rfl (lv_at hl 0 rfl) ?_
  refine va_get (ci := 5) (v := .ref hF9) (C := RX5) (T := TX5) (N := 9) hx hb hts hin5 hown hK hP 0 rfl rfl 6 (by decide) (hts (.fieldLink RX5 45 "UpAllRound" "fewest" "[[I") (List.mem_of_getElem? (i := 1) rfl)) (fun _ h9 => h9) hU6 dX5_countFewest_12 ?_
  refine lv_iconst (v := nI 0) hx hb dX5_countFewest_15 (by decide) ?_
  refine zaldq (t := 0) (x := q0) hx hb hK hP 3 rfl (by decide) (by decide) rfl dX5_countFewest_16 ?_
  refine lv_bipush (v := nI 126) hx hb dX5_countFewest_17 (by decide) ?_
  refine lv_iconst (v := nI 0) hx hb dX5_countFewest_19 (by decide) ?_
  refine zast (t := 126) hx hb hK hP hD hS 18 rfl (by omega) (by decide) dX5_countFewest_20 (fun H locs hP hD hS => ?_)
  have hP : va_P D vwCl [(h, .inr (5, fs)), (hS9, .inr (3, ft)), (hr9, .inl (cI, 14, .inl ((fun i => S (32 + i))))), (hF9, .inl (cJ, 15, .inr (.inr (.inr (.inr (zq15 q0 q1 q2 q3 q4 q5 q6 q7 q8 q9 q10 q11 q12 q13 q14)))))), (q1, .inl (cI, 253, .inl (F 1))), (q2, .inl (cI, 253, .inl (F 2))), (q3, .inl (cI, 253, .inl (F 3))), (q4, .inl (cI, 253, .inl (F 4))), (q5, .inl (cI, 253, .inl (F 5))), (q6, .inl (cI, 253, .inl (F 6))), (q7, .inl (cI, 253, .inl (F 7))), (q8, .inl (cI, 253, .inl (F 8))), (q9, .inl (cI, 253, .inl (F 9))), (q10, .inl (cI, 253, .inl (F 10))), (q11, .inl (cI, 253, .inl (F 11))), (q12, .inl (cI, 253, .inl (F 12))), (q13, .inl (cI, 253, .inl (F 13))), (q14, .inl (cI, 253, .inl (F 14))), (q0, .inl (cI, 253, .inl (upd (zfill (F 0) 0 253 (nI 99)) 126 (nI 0))))] H := hP
  have hD : va_D AA [(h, .inr (5, fs)), (hS9, .inr (3, ft)), (hr9, .inl (cI, 14, .inl ((fun i => S (32 + i))))), (hF9, .inl (cJ, 15, .inr (.inr (.inr (.inr (zq15 q0 q1 q2 q3 q4 q5 q6 q7 q8 q9 q10 q11 q12 q13 q14)))))), (q1, .inl (cI, 253, .inl (F 1))), (q2, .inl (cI, 253, .inl (F 2))), (q3, .inl (cI, 253, .inl (F 3))), (q4, .inl (cI, 253, .inl (F 4))), (q5, .inl (cI, 253, .inl (F 5))), (q6, .inl (cI, 253, .inl (F 6))), (q7, .inl (cI, 253, .inl (F 7))), (q8, .inl (cI, 253, .inl (F 8))), (q9, .inl (cI, 253, .inl (F 9))), (q10, .inl (cI, 253, .inl (F 10))), (q11, .inl (cI, 253, .inl (F 11))), (q12, .inl (cI, 253, .inl (F 12))), (q13, .inl (cI, 253, .inl (F 13))), (q14, .inl (cI, 253, .inl (F 14))), (q0, .inl (cI, 253, .inl (upd (zfill (F 0) 0 253 (nI 99)) 126 (nI 0))))] := hD
  refine lv_iconst (v := nI 0) hx hb dX5_countFewest_21 (by decide) ?_
  refine lv_istore_n (lv' := [(1, .int (nI 0)), (0, .ref h)]) hx hb dX5_countFewest_22 rfl hl (by decide) rfl (fun ls hl => ?_)
  have L_23 : ∀ (fu i : Nat) (F : Nat → Nat → Int32) (hi : i ≤ n) (hn : n + 1 ≤ i + fu) (hF : ∀ k, k ≤ i → ∀ j, j < 253 → F k j = nI (zfw (zrJ S) k ((j : Int) - 126))), ∀ (ls : Array Slot), lv_has ls 5 [(0, .ref h), (1, .int (nI i))] → ∀ (H : Heap) (locs : List Loc), va_P D vwCl [(h, .inr (5, fs)), (hS9, .inr (3, ft)), (hr9, .inl (cI, 14, .inl ((fun i => S (32 + i))))), (hF9, .inl (cJ, 15, .inr (.inr (.inr (.inr (zq15 q0 q1 q2 q3 q4 q5 q6 q7 q8 q9 q10 q11 q12 q13 q14)))))), (q0, .inl (cI, 253, .inl (F 0))), (q1, .inl (cI, 253, .inl (F 1))), (q2, .inl (cI, 253, .inl (F 2))), (q3, .inl (cI, 253, .inl (F 3))), (q4, .inl (cI, 253, .inl (F 4))), (q5, .inl (cI, 253, .inl (F 5))), (q6, .inl (cI, 253, .inl (F 6))), (q7, .inl (cI, 253, .inl (F 7))), (q8, .inl (cI, 253, .inl (F 8))), (q9, .inl (cI, 253, .inl (F 9))), (q10, .inl (cI, 253, .inl (F 10))), (q11, .inl (cI, 253, .inl (F 11))), (q12, .inl (cI, 253, .inl (F 12))), (q13, .inl (cI, 253, .inl (F 13))), (q14, .inl (cI, 253, .inl (F 14)))] H → va_D AA [(h, .inr (5, fs)), (hS9, .inr (3, ft)), (hr9, .inl (cI, 14, .inl ((fun i => S (32 + i))))), (hF9, .inl (cJ, 15, .inr (.inr (.inr (.inr (zq15 q0 q1 q2 q3 q4 q5 q6 q7 q8 q9 q10 q11 q12 q13 q14)))))), (q0, .inl (cI, 253, .inl (F 0))), (q1, .inl (cI, 253, .inl (F 1))), (q2, .inl (cI, 253, .inl (F 2))), (q3, .inl (cI, 253, .inl (F 3))), (q4, .inl (cI, 253, .inl (F 4))), (q5, .inl (cI, 253, .inl (F 5))), (q6, .inl (cI, 253, .inl (F 6))), (q7, .inl (cI, 253, .inl (F 7))), (q8, .inl (cI, 253, .inl (F 8))), (q9, .inl (cI, 253, .inl (F 9))), (q10, .inl (cI, 253, .inl (F 10))), (q11, .inl (cI, 253, .inl (F 11))), (q12, .inl (cI, 253, .inl (F 12))), (q13, .inl (cI, 253, .inl (F 13))), (q14, .inl (cI, 253, .inl (F 14)))] → va_S AA s.heap H locs → W pg l ev ({ frames := 1, cells := 0, slots := 0, locals := 23 } : Room) s mt args below meth cd H locs 0 0 QQ (F0 mt 23 ls []) := by
    intro fu
    induction fu with
    | zero =>
      intro i F hi hn
      exact absurd hn (by omega)
    | succ fu ih_23 =>
      intro i F hi hn hF ls hl H locs hP hD hS
      refine lv_iload_n hx hb dX5_countFewest_23 rfl (lv_at hl 1 rfl) ?_
      refine lv_aload_n hx hb dX5_countFewest_24 rfl (lv_at hl 0 rfl) ?_
      refine va_get (ci := 5) (v := .ref hS9) (C := RX5) (T := TX5) (N := 9) hx hb hts hin5 hown hK hP 0 rfl rfl 0 (by decide) (hts (.fieldLink RX5 12 "UpAllRound" "now" "LUpAllRound$Stair;") (List.mem_of_getElem? (i := 2) rfl)) (fun _ h9 => h9) hU0 dX5_countFewest_25 ?_
      refine va_getN (ci := 3) (v := .int (nI n)) (C := RX3) (T := TX3) (N := 16) hx hb hts hin3 hown hK hP 1 rfl rfl 0 (by decide) (va_Nw.use rfl (hN (.fieldLinkNest "UpAllRound" 67 "UpAllRound$Stair" "steps" "I" "UpAllRound") (List.mem_of_getElem? (i := 0) rfl))) (fun _ h9 => h9) hft0 dX5_countFewest_28 ?_
      refine lv_icmp_ge (tgt := 122) hx hb dX5_countFewest_31 (by decide) (fun c31_3 => ?_) (fun c31_3 => ?_)
      · have c31_3 : n ≤ i := (nI_leI (a := n) (b := i) (by omega) (by omega)).mp c31_3
        exact hret hP hD hS dX5_countFewest_122 (by exact ⟨F, fun k9 h91 j9 h92 => hF k9 (by omega) j9 h92, rfl⟩)
      · have c31_3 : ¬ (n ≤ i) := fun h9 => c31_3 ((nI_leI (a := n) (b := i) (by omega) (by omega)).mpr h9)
        rcases (show i = 0 ∨ i = 1 ∨ i = 2 ∨ i = 3 ∨ i = 4 ∨ i = 5 ∨ i = 6 ∨ i = 7 ∨ i = 8 ∨ i = 9 ∨ i = 10 ∨ i = 11 ∨ i = 12 ∨ i = 13 from by omega) with h9 | h9 | h9 | h9 | h9 | h9 | h9 | h9 | h9 | h9 | h9 | h9 | h9 | h9
        · subst h9
          refine lv_iconst (v := nI 0) hx hb dX5_countFewest_34 (by decide) ?_
          refine lv_istore_n (lv' := [(2, .int (nI 0)), (0, .ref h), (1, .int (nI 0))]) hx hb dX5_countFewest_35 rfl hl (by decide) rfl (fun ls hl => ?_)
          have L_36 : ∀ (fu j : Nat) (g9 : Nat → Int32) (hi : j ≤ 253) (hn : 253 + 1 ≤ j + fu) (hg : ∀ x, x < j → g9 x = nI (zfw (zrJ S) (0 + 1) ((x : Int) - 126))), ∀ (ls : Array Slot), lv_has ls 5 [(0, .ref h), (1, .int (nI 0)), (2, .int (nI j))] → ∀ (H : Heap) (locs : List Loc), va_P D vwCl [(h, .inr (5, fs)), (hS9, .inr (3, ft)), (hr9, .inl (cI, 14, .inl ((fun i => S (32 + i))))), (hF9, .inl (cJ, 15, .inr (.inr (.inr (.inr (zq15 q0 q1 q2 q3 q4 q5 q6 q7 q8 q9 q10 q11 q12 q13 q14)))))), (q0, .inl (cI, 253, .inl (F 0))), (q1, .inl (cI, 253, .inl g9)), (q2, .inl (cI, 253, .inl (F 2))), (q3, .inl (cI, 253, .inl (F 3))), (q4, .inl (cI, 253, .inl (F 4))), (q5, .inl (cI, 253, .inl (F 5))), (q6, .inl (cI, 253, .inl (F 6))), (q7, .inl (cI, 253, .inl (F 7))), (q8, .inl (cI, 253, .inl (F 8))), (q9, .inl (cI, 253, .inl (F 9))), (q10, .inl (cI, 253, .inl (F 10))), (q11, .inl (cI, 253, .inl (F 11))), (q12, .inl (cI, 253, .inl (F 12))), (q13, .inl (cI, 253, .inl (F 13))), (q14, .inl (cI, 253, .inl (F 14)))] H → va_D AA [(h, .inr (5, fs)), (hS9, .inr (3, ft)), (hr9, .inl (cI, 14, .inl ((fun i => S (32 + i))))), (hF9, .inl (cJ, 15, .inr (.inr (.inr (.inr (zq15 q0 q1 q2 q3 q4 q5 q6 q7 q8 q9 q10 q11 q12 q13 q14)))))), (q0, .inl (cI, 253, .inl (F 0))), (q1, .inl (cI, 253, .inl g9)), (q2, .inl (cI, 253, .inl (F 2))), (q3, .inl (cI, 253, .inl (F 3))), (q4, .inl (cI, 253, .inl (F 4))), (q5, .inl (cI, 253, .inl (F 5))), (q6, .inl (cI, 253, .inl (F 6))), (q7, .inl (cI, 253, .inl (F 7))), (q8, .inl (cI, 253, .inl (F 8))), (q9, .inl (cI, 253, .inl (F 9))), (q10, .inl (cI, 253, .inl (F 10))), (q11, .inl (cI, 253, .inl (F 11))), (q12, .inl (cI, 253, .inl (F 12))), (q13, .inl (cI, 253, .inl (F 13))), (q14, .inl (cI, 253, .inl (F 14)))] → va_S AA s.heap H locs → W pg l ev ({ frames := 1, cells := 0, slots := 0, locals := 23 } : Room) s mt args below meth cd H locs 0 0 QQ (F0 mt 36 ls []) := by
            intro fu
            induction fu with
            | zero =>
              intro j g9 hi hn
              exact absurd hn (by omega)
            | succ fu ih_36 =>
              intro j g9 hi hn hg ls hl H locs hP hD hS
              refine lv_iload_n hx hb dX5_countFewest_36 rfl (lv_at hl 2 rfl) ?_
              refine lv_sipush (v := nI 252) hx hb dX5_countFewest_37 (by decide) ?_
              refine lv_icmp_gt (tgt := 116) hx hb dX5_countFewest_40 (by decide) (fun c40_4 => ?_) (fun c40_4 => ?_)
              · have c40_4 : 252 < j := (nI_ltI (a := 252) (b := j) (by omega) (by omega)).mp c40_4
                refine lv_iinc (v := nI (0 + 1)) (lv' := [(1, .int (nI (0 + 1))), (0, .ref h), (2, .int (nI j))]) hx hb dX5_countFewest_116 hl (k := 1) rfl (nI_add _ _) (by decide) rfl (fun ls hl => ?_)
                refine lv_goto (tgt := 23) hx hb dX5_countFewest_119 (by decide) ?_
                exact ih_23  (0 + 1) ((zlf [F 0, g9, F 2, F 3, F 4, F 5, F 6, F 7, F 8, F 9, F 10, F 11, F 12, F 13, F 14])) (by omega) (by omega) (fun k9 h91 x h92 => by rcases (show k9 = 0 ∨ k9 = 1 from by omega) with h9 | h9 <;> subst h9 <;> first | exact hg x (by omega) | exact hF _ (by omega) x h92) ls (lv_sub hl [1, 0] rfl) H locs hP hD hS
              · have c40_4 : ¬ (252 < j) := fun h9 => c40_4 ((nI_ltI (a := 252) (b := j) (by omega) (by omega)).mpr h9)
                refine lv_iload_n hx hb dX5_countFewest_43 rfl (lv_at hl 2 rfl) ?_
                refine lv_aload_n hx hb dX5_countFewest_44 rfl (lv_at hl 0 rfl) ?_
                refine va_get (ci := 5) (v := .ref hS9) (C := RX5) (T := TX5) (N := 9) hx hb hts hin5 hown hK hP 0 rfl rfl 0 (by decide) (hts (.fieldLink RX5 12 "UpAllRound" "now" "LUpAllRound$Stair;") (List.mem_of_getElem? (i := 2) rfl)) (fun _ h9 => h9) hU0 dX5_countFewest_45 ?_
                refine va_getN (ci := 3) (v := .ref hr9) (C := RX3) (T := TX3) (N := 16) hx hb hts hin3 hown hK hP 1 rfl rfl 1 (by decide) (va_Nw.use rfl (hN (.fieldLinkNest "UpAllRound" 78 "UpAllRound$Stair" "rises" "[I" "UpAllRound") (List.mem_of_getElem? (i := 1) rfl))) (fun _ h9 => h9) hft1 dX5_countFewest_48 ?_
                refine lv_iload_n hx hb dX5_countFewest_51 rfl (lv_at hl 1 rfl) ?_
                refine zald (t := 0) hx hb hK hP 2 rfl (by omega) (by decide) dX5_countFewest_52 ?_
                refine zrw rfl ?_
                refine lv_isub hx hb dX5_countFewest_53 ?_
                refine lv_topi (fun bf ebf => ?_)
                refine lv_istore_n (lv' := [(3, .int bf), (0, .ref h), (1, .int (nI 0)), (2, .int (nI j))]) hx hb dX5_countFewest_54 rfl hl (by decide) rfl (fun ls hl => ?_)
                refine lv_bipush (v := nI 99) hx hb dX5_countFewest_55 (by decide) ?_
                refine lv_istore (lv' := [(4, .int (nI 99)), (3, .int bf), (0, .ref h), (1, .int (nI 0)), (2, .int (nI j))]) hx hb dX5_countFewest_57 hl (by decide) rfl (fun ls hl => ?_)
                refine lv_iload_n hx hb dX5_countFewest_59 rfl (lv_at hl 1 rfl) ?_
                refine lv_iconst (v := nI 0) hx hb dX5_countFewest_60 (by decide) ?_
                refine lv_sipush (v := nI 252) hx hb dX5_countFewest_61 (by decide) ?_
                refine zcsE (va_runS (As := [.int bf, .int (nI 0), .int (nI 252)]) (rest := []) ⟨hx, hb, hml, hown, hts⟩ (d_X5_isOutside l D cI cJ bf (nI 0) (nI 252) 0 252 (by decide) (by decide) H.size) (va_cwS 3 hts gX5_countFewest_X5_isOutside rfl rfl rfl (by decide +kernel) ⟨Nat.le_of_ble_eq_true rfl, Nat.le_of_ble_eq_true rfl⟩) (zpS hK hN hZ hP hD hS hA [] rfl (by decide)) rfl rfl hl.1 rfl (lv_room (Nat.le_of_ble_eq_true rfl)) dX5_countFewest_64 ⟨Nat.zero_le _, Nat.zero_le _⟩) ?_
                refine lv_if_ne (tgt := 82) hx hb dX5_countFewest_67 (by decide) (fun c67_5 => ?_) (fun c67_5 => ?_)
                · have c67_5 := bI_nn0.mp c67_5
                  refine lv_aload_n hx hb dX5_countFewest_82 rfl (lv_at hl 2 rfl) ?_
                  refine va_get (ci := 5) (v := .ref hF9) (C := RX5) (T := TX5) (N := 9) hx hb hts hin5 hown hK hP 0 rfl rfl 6 (by decide) (hts (.fieldLink RX5 45 "UpAllRound" "fewest" "[[I") (List.mem_of_getElem? (i := 1) rfl)) (fun _ h9 => h9) hU6 dX5_countFewest_83 ?_
                  refine lv_iload_n hx hb dX5_countFewest_86 rfl (lv_at hl 3 rfl) ?_
                  refine lv_iconst (v := nI 1) hx hb dX5_countFewest_87 (by decide) ?_
                  refine lv_iadd hx hb dX5_countFewest_88 ?_
                  refine zrw (nI_add _ _) ?_
                  refine zaldq (t := 1) (x := q1) hx hb hK hP 3 rfl (by decide) (by decide) rfl dX5_countFewest_89 ?_
                  refine lv_iload_n hx hb dX5_countFewest_90 rfl (lv_at hl 4 rfl) ?_
                  refine lv_bipush (v := nI 99) hx hb dX5_countFewest_91 (by decide) ?_
                  refine lv_iload hx hb dX5_countFewest_93 (lv_at hl 0 rfl) ?_
                  refine lv_aload_n hx hb dX5_countFewest_95 rfl (lv_at hl 2 rfl) ?_
                  refine va_get (ci := 5) (v := .ref hF9) (C := RX5) (T := TX5) (N := 9) hx hb hts hin5 hown hK hP 0 rfl rfl 6 (by decide) (hts (.fieldLink RX5 45 "UpAllRound" "fewest" "[[I") (List.mem_of_getElem? (i := 1) rfl)) (fun _ h9 => h9) hU6 dX5_countFewest_96 ?_
                  refine lv_iload_n hx hb dX5_countFewest_99 rfl (lv_at hl 3 rfl) ?_
                  refine zaldq (t := 0) (x := q0) hx hb hK hP 3 rfl (by decide) (by decide) rfl dX5_countFewest_100 ?_
                  refine lv_iload_n hx hb dX5_countFewest_101 rfl (lv_at hl 4 rfl) ?_
                  refine zald (t := j) hx hb hK hP 4 rfl (by omega) (by decide) dX5_countFewest_102 ?_
                  refine zrw (hF 0 (by omega) j (by omega)) ?_
                  refine va_mmin hx hb (by rw [hml]; exact hl.1.symm) hown (hts (.methodLink RX5 246 Lib.Math.min.name) (List.mem_of_getElem? (i := 3) rfl)) (hts (.static Lib.Math.min.name) (List.mem_of_getElem? (i := 4) rfl)) (hts (.initialized "java/lang/Math") (List.mem_of_getElem? (i := 5) rfl)) (hts (.code Lib.Math.min.name Lib.Math.min.code 2 (some .int)) (List.mem_of_getElem? (i := 6) rfl)) (Nat.le_of_ble_eq_true rfl) (Nat.le_of_ble_eq_true rfl) (Nat.zero_le _) (Nat.zero_le _) dX5_countFewest_103 ?_
                  refine zrw (zmin_n (by have h91 := zfw_le (zrJ S) 0 ((j : Int) - 126); omega) (by have h91 := zfw_le (zrJ S) 0 ((j : Int) - 126); omega)) ?_
                  refine va_mmin hx hb (by rw [hml]; exact hl.1.symm) hown (hts (.methodLink RX5 246 Lib.Math.min.name) (List.mem_of_getElem? (i := 3) rfl)) (hts (.static Lib.Math.min.name) (List.mem_of_getElem? (i := 4) rfl)) (hts (.initialized "java/lang/Math") (List.mem_of_getElem? (i := 5) rfl)) (hts (.code Lib.Math.min.name Lib.Math.min.code 2 (some .int)) (List.mem_of_getElem? (i := 6) rfl)) (Nat.le_of_ble_eq_true rfl) (Nat.le_of_ble_eq_true rfl) (Nat.zero_le _) (Nat.zero_le _) dX5_countFewest_106 ?_
                  refine zrw (zmin_n (by decide) (by have h91 := zfw_le (zrJ S) 0 ((j : Int) - 126); omega)) ?_
                  refine zast (t := j) hx hb hK hP hD hS 5 rfl (by omega) (by decide) dX5_countFewest_109 (fun H locs hP hD hS => ?_)
                  have hP : va_P D vwCl [(h, .inr (5, fs)), (hS9, .inr (3, ft)), (hr9, .inl (cI, 14, .inl ((fun i => S (32 + i))))), (hF9, .inl (cJ, 15, .inr (.inr (.inr (.inr (zq15 q0 q1 q2 q3 q4 q5 q6 q7 q8 q9 q10 q11 q12 q13 q14)))))), (q0, .inl (cI, 253, .inl (F 0))), (q1, .inl (cI, 253, .inl (upd g9 j (nI (min 99 (min (99) (zfw (zrJ S) 0 ((j : Int) - 126)))))))), (q2, .inl (cI, 253, .inl (F 2))), (q3, .inl (cI, 253, .inl (F 3))), (q4, .inl (cI, 253, .inl (F 4))), (q5, .inl (cI, 253, .inl (F 5))), (q6, .inl (cI, 253, .inl (F 6))), (q7, .inl (cI, 253, .inl (F 7))), (q8, .inl (cI, 253, .inl (F 8))), (q9, .inl (cI, 253, .inl (F 9))), (q10, .inl (cI, 253, .inl (F 10))), (q11, .inl (cI, 253, .inl (F 11))), (q12, .inl (cI, 253, .inl (F 12))), (q13, .inl (cI, 253, .inl (F 13))), (q14, .inl (cI, 253, .inl (F 14)))] H := hP
                  have hD : va_D AA [(h, .inr (5, fs)), (hS9, .inr (3, ft)), (hr9, .inl (cI, 14, .inl ((fun i => S (32 + i))))), (hF9, .inl (cJ, 15, .inr (.inr (.inr (.inr (zq15 q0 q1 q2 q3 q4 q5 q6 q7 q8 q9 q10 q11 q12 q13 q14)))))), (q0, .inl (cI, 253, .inl (F 0))), (q1, .inl (cI, 253, .inl (upd g9 j (nI (min 99 (min (99) (zfw (zrJ S) 0 ((j : Int) - 126)))))))), (q2, .inl (cI, 253, .inl (F 2))), (q3, .inl (cI, 253, .inl (F 3))), (q4, .inl (cI, 253, .inl (F 4))), (q5, .inl (cI, 253, .inl (F 5))), (q6, .inl (cI, 253, .inl (F 6))), (q7, .inl (cI, 253, .inl (F 7))), (q8, .inl (cI, 253, .inl (F 8))), (q9, .inl (cI, 253, .inl (F 9))), (q10, .inl (cI, 253, .inl (F 10))), (q11, .inl (cI, 253, .inl (F 11))), (q12, .inl (cI, 253, .inl (F 12))), (q13, .inl (cI, 253, .inl (F 13))), (q14, .inl (cI, 253, .inl (F 14)))] := hD
                  refine lv_iinc (v := nI (j + 1)) (lv' := [(2, .int (nI (j + 1))), (4, .int (nI 99)), (3, .int bf), (0, .ref h), (1, .int (nI 0))]) hx hb dX5_countFewest_110 hl (k := 4) rfl (nI_add _ _) (by decide) rfl (fun ls hl => ?_)
                  refine lv_goto (tgt := 36) hx hb dX5_countFewest_113 (by decide) ?_
                  exact ih_36  (j + 1) (upd g9 j (nI (min 99 (min (99) (zfw (zrJ S) 0 ((j : Int) - 126)))))) (by omega) (by omega) (fun x h91 => (Nat.lt_or_ge x j).elim (fun h92 => (if_neg (show ¬ x = j by omega)).trans (hg x h92)) (fun h92 => by rw [show x = j by omega]; exact (if_pos rfl).trans (zfw_out hri (by decide) (by omega) ebf (by assumption)))) ls (lv_sub hl [3, 4, 0] rfl) H locs hP hD hS
                · have c67_5 := bI_nX0.mp c67_5
                  obtain ⟨q, h_q, rfl⟩ : ∃ q : Nat, q ≤ 252 ∧ bf = nI q := zrg_of c67_5 (by decide)
                  refine lv_aload_n hx hb dX5_countFewest_70 rfl (lv_at hl 2 rfl) ?_
                  refine va_get (ci := 5) (v := .ref hF9) (C := RX5) (T := TX5) (N := 9) hx hb hts hin5 hown hK hP 0 rfl rfl 6 (by decide) (hts (.fieldLink RX5 45 "UpAllRound" "fewest" "[[I") (List.mem_of_getElem? (i := 1) rfl)) (fun _ h9 => h9) hU6 dX5_countFewest_71 ?_
                  refine lv_iload_n hx hb dX5_countFewest_74 rfl (lv_at hl 3 rfl) ?_
                  refine zaldq (t := 0) (x := q0) hx hb hK hP 3 rfl (by decide) (by decide) rfl dX5_countFewest_75 ?_
                  refine lv_iload_n hx hb dX5_countFewest_76 rfl (lv_at hl 1 rfl) ?_
                  refine zald (t := q) hx hb hK hP 4 rfl (by omega) (by decide) dX5_countFewest_77 ?_
                  refine zrw (hF 0 (by omega) q (by omega)) ?_
                  refine lv_iconst (v := nI 1) hx hb dX5_countFewest_78 (by decide) ?_
                  refine lv_iadd hx hb dX5_countFewest_79 ?_
                  refine zrw (nI_add _ _) ?_
                  refine lv_istore (lv' := [(4, .int (nI ((zfw (zrJ S) 0 ((q : Int) - 126)) + 1))), (3, .int (nI q)), (0, .ref h), (1, .int (nI 0)), (2, .int (nI j))]) hx hb dX5_countFewest_80 hl (by decide) rfl (fun ls hl => ?_)
                  refine lv_aload_n hx hb dX5_countFewest_82 rfl (lv_at hl 2 rfl) ?_
                  refine va_get (ci := 5) (v := .ref hF9) (C := RX5) (T := TX5) (N := 9) hx hb hts hin5 hown hK hP 0 rfl rfl 6 (by decide) (hts (.fieldLink RX5 45 "UpAllRound" "fewest" "[[I") (List.mem_of_getElem? (i := 1) rfl)) (fun _ h9 => h9) hU6 dX5_countFewest_83 ?_
                  refine lv_iload_n hx hb dX5_countFewest_86 rfl (lv_at hl 3 rfl) ?_
                  refine lv_iconst (v := nI 1) hx hb dX5_countFewest_87 (by decide) ?_
                  refine lv_iadd hx hb dX5_countFewest_88 ?_
                  refine zrw (nI_add _ _) ?_
                  refine zaldq (t := 1) (x := q1) hx hb hK hP 3 rfl (by decide) (by decide) rfl dX5_countFewest_89 ?_
                  refine lv_iload_n hx hb dX5_countFewest_90 rfl (lv_at hl 4 rfl) ?_
                  refine lv_bipush (v := nI 99) hx hb dX5_countFewest_91 (by decide) ?_
                  refine lv_iload hx hb dX5_countFewest_93 (lv_at hl 0 rfl) ?_
                  refine lv_aload_n hx hb dX5_countFewest_95 rfl (lv_at hl 2 rfl) ?_
                  refine va_get (ci := 5) (v := .ref hF9) (C := RX5) (T := TX5) (N := 9) hx hb hts hin5 hown hK hP 0 rfl rfl 6 (by decide) (hts (.fieldLink RX5 45 "UpAllRound" "fewest" "[[I") (List.mem_of_getElem? (i := 1) rfl)) (fun _ h9 => h9) hU6 dX5_countFewest_96 ?_
                  refine lv_iload_n hx hb dX5_countFewest_99 rfl (lv_at hl 3 rfl) ?_
                  refine zaldq (t := 0) (x := q0) hx hb hK hP 3 rfl (by decide) (by decide) rfl dX5_countFewest_100 ?_
                  refine lv_iload_n hx hb dX5_countFewest_101 rfl (lv_at hl 4 rfl) ?_
                  refine zald (t := j) hx hb hK hP 4 rfl (by omega) (by decide) dX5_countFewest_102 ?_
                  refine zrw (hF 0 (by omega) j (by omega)) ?_
                  refine va_mmin hx hb (by rw [hml]; exact hl.1.symm) hown (hts (.methodLink RX5 246 Lib.Math.min.name) (List.mem_of_getElem? (i := 3) rfl)) (hts (.static Lib.Math.min.name) (List.mem_of_getElem? (i := 4) rfl)) (hts (.initialized "java/lang/Math") (List.mem_of_getElem? (i := 5) rfl)) (hts (.code Lib.Math.min.name Lib.Math.min.code 2 (some .int)) (List.mem_of_getElem? (i := 6) rfl)) (Nat.le_of_ble_eq_true rfl) (Nat.le_of_ble_eq_true rfl) (Nat.zero_le _) (Nat.zero_le _) dX5_countFewest_103 ?_
                  refine zrw (zmin_n (by have h91 := zfw_le (zrJ S) 0 ((q : Int) - 126); omega) (by have h91 := zfw_le (zrJ S) 0 ((j : Int) - 126); omega)) ?_
                  refine va_mmin hx hb (by rw [hml]; exact hl.1.symm) hown (hts (.methodLink RX5 246 Lib.Math.min.name) (List.mem_of_getElem? (i := 3) rfl)) (hts (.static Lib.Math.min.name) (List.mem_of_getElem? (i := 4) rfl)) (hts (.initialized "java/lang/Math") (List.mem_of_getElem? (i := 5) rfl)) (hts (.code Lib.Math.min.name Lib.Math.min.code 2 (some .int)) (List.mem_of_getElem? (i := 6) rfl)) (Nat.le_of_ble_eq_true rfl) (Nat.le_of_ble_eq_true rfl) (Nat.zero_le _) (Nat.zero_le _) dX5_countFewest_106 ?_
                  refine zrw (zmin_n (by decide) (by have h91 := zfw_le (zrJ S) 0 ((j : Int) - 126); omega)) ?_
                  refine zast (t := j) hx hb hK hP hD hS 5 rfl (by omega) (by decide) dX5_countFewest_109 (fun H locs hP hD hS => ?_)
                  have hP : va_P D vwCl [(h, .inr (5, fs)), (hS9, .inr (3, ft)), (hr9, .inl (cI, 14, .inl ((fun i => S (32 + i))))), (hF9, .inl (cJ, 15, .inr (.inr (.inr (.inr (zq15 q0 q1 q2 q3 q4 q5 q6 q7 q8 q9 q10 q11 q12 q13 q14)))))), (q0, .inl (cI, 253, .inl (F 0))), (q1, .inl (cI, 253, .inl (upd g9 j (nI (min 99 (min (zfw (zrJ S) 0 ((q : Int) - 126) + 1) (zfw (zrJ S) 0 ((j : Int) - 126)))))))), (q2, .inl (cI, 253, .inl (F 2))), (q3, .inl (cI, 253, .inl (F 3))), (q4, .inl (cI, 253, .inl (F 4))), (q5, .inl (cI, 253, .inl (F 5))), (q6, .inl (cI, 253, .inl (F 6))), (q7, .inl (cI, 253, .inl (F 7))), (q8, .inl (cI, 253, .inl (F 8))), (q9, .inl (cI, 253, .inl (F 9))), (q10, .inl (cI, 253, .inl (F 10))), (q11, .inl (cI, 253, .inl (F 11))), (q12, .inl (cI, 253, .inl (F 12))), (q13, .inl (cI, 253, .inl (F 13))), (q14, .inl (cI, 253, .inl (F 14)))] H := hP
                  have hD : va_D AA [(h, .inr (5, fs)), (hS9, .inr (3, ft)), (hr9, .inl (cI, 14, .inl ((fun i => S (32 + i))))), (hF9, .inl (cJ, 15, .inr (.inr (.inr (.inr (zq15 q0 q1 q2 q3 q4 q5 q6 q7 q8 q9 q10 q11 q12 q13 q14)))))), (q0, .inl (cI, 253, .inl (F 0))), (q1, .inl (cI, 253, .inl (upd g9 j (nI (min 99 (min (zfw (zrJ S) 0 ((q : Int) - 126) + 1) (zfw (zrJ S) 0 ((j : Int) - 126)))))))), (q2, .inl (cI, 253, .inl (F 2))), (q3, .inl (cI, 253, .inl (F 3))), (q4, .inl (cI, 253, .inl (F 4))), (q5, .inl (cI, 253, .inl (F 5))), (q6, .inl (cI, 253, .inl (F 6))), (q7, .inl (cI, 253, .inl (F 7))), (q8, .inl (cI, 253, .inl (F 8))), (q9, .inl (cI, 253, .inl (F 9))), (q10, .inl (cI, 253, .inl (F 10))), (q11, .inl (cI, 253, .inl (F 11))), (q12, .inl (cI, 253, .inl (F 12))), (q13, .inl (cI, 253, .inl (F 13))), (q14, .inl (cI, 253, .inl (F 14)))] := hD
                  refine lv_iinc (v := nI (j + 1)) (lv' := [(2, .int (nI (j + 1))), (4, .int (nI ((zfw (zrJ S) 0 ((q : Int) - 126)) + 1))), (3, .int (nI q)), (0, .ref h), (1, .int (nI 0))]) hx hb dX5_countFewest_110 hl (k := 4) rfl (nI_add _ _) (by decide) rfl (fun ls hl => ?_)
                  refine lv_goto (tgt := 36) hx hb dX5_countFewest_113 (by decide) ?_
                  exact ih_36  (j + 1) (upd g9 j (nI (min 99 (min (zfw (zrJ S) 0 ((q : Int) - 126) + 1) (zfw (zrJ S) 0 ((j : Int) - 126)))))) (by omega) (by omega) (fun x h91 => (Nat.lt_or_ge x j).elim (fun h92 => (if_neg (show ¬ x = j by omega)).trans (hg x h92)) (fun h92 => by rw [show x = j by omega]; exact (if_pos rfl).trans (zfw_in (hri 0 (by decide)) (by omega) (by omega) ebf))) ls (lv_sub hl [3, 4, 0] rfl) H locs hP hD hS
          exact L_36 (253 + 1) 0 (F 1) (by omega) (by omega) (fun x h91 => absurd h91 (by omega)) ls (lv_sub hl [1, 2, 0] rfl) _ _ hP hD hS
        · subst h9
          refine lv_iconst (v := nI 0) hx hb dX5_countFewest_34 (by decide) ?_
          refine lv_istore_n (lv' := [(2, .int (nI 0)), (0, .ref h), (1, .int (nI 1))]) hx hb dX5_countFewest_35 rfl hl (by decide) rfl (fun ls hl => ?_)
          have L_36 : ∀ (fu j : Nat) (g9 : Nat → Int32) (hi : j ≤ 253) (hn : 253 + 1 ≤ j + fu) (hg : ∀ x, x < j → g9 x = nI (zfw (zrJ S) (1 + 1) ((x : Int) - 126))), ∀ (ls : Array Slot), lv_has ls 5 [(0, .ref h), (1, .int (nI 1)), (2, .int (nI j))] → ∀ (H : Heap) (locs : List Loc), va_P D vwCl [(h, .inr (5, fs)), (hS9, .inr (3, ft)), (hr9, .inl (cI, 14, .inl ((fun i => S (32 + i))))), (hF9, .inl (cJ, 15, .inr (.inr (.inr (.inr (zq15 q0 q1 q2 q3 q4 q5 q6 q7 q8 q9 q10 q11 q12 q13 q14)))))), (q0, .inl (cI, 253, .inl (F 0))), (q1, .inl (cI, 253, .inl (F 1))), (q2, .inl (cI, 253, .inl g9)), (q3, .inl (cI, 253, .inl (F 3))), (q4, .inl (cI, 253, .inl (F 4))), (q5, .inl (cI, 253, .inl (F 5))), (q6, .inl (cI, 253, .inl (F 6))), (q7, .inl (cI, 253, .inl (F 7))), (q8, .inl (cI, 253, .inl (F 8))), (q9, .inl (cI, 253, .inl (F 9))), (q10, .inl (cI, 253, .inl (F 10))), (q11, .inl (cI, 253, .inl (F 11))), (q12, .inl (cI, 253, .inl (F 12))), (q13, .inl (cI, 253, .inl (F 13))), (q14, .inl (cI, 253, .inl (F 14)))] H → va_D AA [(h, .inr (5, fs)), (hS9, .inr (3, ft)), (hr9, .inl (cI, 14, .inl ((fun i => S (32 + i))))), (hF9, .inl (cJ, 15, .inr (.inr (.inr (.inr (zq15 q0 q1 q2 q3 q4 q5 q6 q7 q8 q9 q10 q11 q12 q13 q14)))))), (q0, .inl (cI, 253, .inl (F 0))), (q1, .inl (cI, 253, .inl (F 1))), (q2, .inl (cI, 253, .inl g9)), (q3, .inl (cI, 253, .inl (F 3))), (q4, .inl (cI, 253, .inl (F 4))), (q5, .inl (cI, 253, .inl (F 5))), (q6, .inl (cI, 253, .inl (F 6))), (q7, .inl (cI, 253, .inl (F 7))), (q8, .inl (cI, 253, .inl (F 8))), (q9, .inl (cI, 253, .inl (F 9))), (q10, .inl (cI, 253, .inl (F 10))), (q11, .inl (cI, 253, .inl (F 11))), (q12, .inl (cI, 253, .inl (F 12))), (q13, .inl (cI, 253, .inl (F 13))), (q14, .inl (cI, 253, .inl (F 14)))] → va_S AA s.heap H locs → W pg l ev ({ frames := 1, cells := 0, slots := 0, locals := 23 } : Room) s mt args below meth cd H locs 0 0 QQ (F0 mt 36 ls []) := by
            intro fu
            induction fu with
            | zero =>
              intro j g9 hi hn
              exact absurd hn (by omega)
            | succ fu ih_36 =>
              intro j g9 hi hn hg ls hl H locs hP hD hS
              refine lv_iload_n hx hb dX5_countFewest_36 rfl (lv_at hl 2 rfl) ?_
              refine lv_sipush (v := nI 252) hx hb dX5_countFewest_37 (by decide) ?_
              refine lv_icmp_gt (tgt := 116) hx hb dX5_countFewest_40 (by decide) (fun c40_6 => ?_) (fun c40_6 => ?_)
              · have c40_6 : 252 < j := (nI_ltI (a := 252) (b := j) (by omega) (by omega)).mp c40_6
                refine lv_iinc (v := nI (1 + 1)) (lv' := [(1, .int (nI (1 + 1))), (0, .ref h), (2, .int (nI j))]) hx hb dX5_countFewest_116 hl (k := 1) rfl (nI_add _ _) (by decide) rfl (fun ls hl => ?_)
                refine lv_goto (tgt := 23) hx hb dX5_countFewest_119 (by decide) ?_
                exact ih_23  (1 + 1) ((zlf [F 0, F 1, g9, F 3, F 4, F 5, F 6, F 7, F 8, F 9, F 10, F 11, F 12, F 13, F 14])) (by omega) (by omega) (fun k9 h91 x h92 => by rcases (show k9 = 0 ∨ k9 = 1 ∨ k9 = 2 from by omega) with h9 | h9 | h9 <;> subst h9 <;> first | exact hg x (by omega) | exact hF _ (by omega) x h92) ls (lv_sub hl [1, 0] rfl) H locs hP hD hS
              · have c40_6 : ¬ (252 < j) := fun h9 => c40_6 ((nI_ltI (a := 252) (b := j) (by omega) (by omega)).mpr h9)
                refine lv_iload_n hx hb dX5_countFewest_43 rfl (lv_at hl 2 rfl) ?_
                refine lv_aload_n hx hb dX5_countFewest_44 rfl (lv_at hl 0 rfl) ?_
                refine va_get (ci := 5) (v := .ref hS9) (C := RX5) (T := TX5) (N := 9) hx hb hts hin5 hown hK hP 0 rfl rfl 0 (by decide) (hts (.fieldLink RX5 12 "UpAllRound" "now" "LUpAllRound$Stair;") (List.mem_of_getElem? (i := 2) rfl)) (fun _ h9 => h9) hU0 dX5_countFewest_45 ?_
                refine va_getN (ci := 3) (v := .ref hr9) (C := RX3) (T := TX3) (N := 16) hx hb hts hin3 hown hK hP 1 rfl rfl 1 (by decide) (va_Nw.use rfl (hN (.fieldLinkNest "UpAllRound" 78 "UpAllRound$Stair" "rises" "[I" "UpAllRound") (List.mem_of_getElem? (i := 1) rfl))) (fun _ h9 => h9) hft1 dX5_countFewest_48 ?_
                refine lv_iload_n hx hb dX5_countFewest_51 rfl (lv_at hl 1 rfl) ?_
                refine zald (t := 1) hx hb hK hP 2 rfl (by omega) (by decide) dX5_countFewest_52 ?_
                refine zrw rfl ?_
                refine lv_isub hx hb dX5_countFewest_53 ?_
                refine lv_topi (fun bf ebf => ?_)
                refine lv_istore_n (lv' := [(3, .int bf), (0, .ref h), (1, .int (nI 1)), (2, .int (nI j))]) hx hb dX5_countFewest_54 rfl hl (by decide) rfl (fun ls hl => ?_)
                refine lv_bipush (v := nI 99) hx hb dX5_countFewest_55 (by decide) ?_
                refine lv_istore (lv' := [(4, .int (nI 99)), (3, .int bf), (0, .ref h), (1, .int (nI 1)), (2, .int (nI j))]) hx hb dX5_countFewest_57 hl (by decide) rfl (fun ls hl => ?_)
                refine lv_iload_n hx hb dX5_countFewest_59 rfl (lv_at hl 1 rfl) ?_
                refine lv_iconst (v := nI 0) hx hb dX5_countFewest_60 (by decide) ?_
                refine lv_sipush (v := nI 252) hx hb dX5_countFewest_61 (by decide) ?_
                refine zcsE (va_runS (As := [.int bf, .int (nI 0), .int (nI 252)]) (rest := []) ⟨hx, hb, hml, hown, hts⟩ (d_X5_isOutside l D cI cJ bf (nI 0) (nI 252) 0 252 (by decide) (by decide) H.size) (va_cwS 3 hts gX5_countFewest_X5_isOutside rfl rfl rfl (by decide +kernel) ⟨Nat.le_of_ble_eq_true rfl, Nat.le_of_ble_eq_true rfl⟩) (zpS hK hN hZ hP hD hS hA [] rfl (by decide)) rfl rfl hl.1 rfl (lv_room (Nat.le_of_ble_eq_true rfl)) dX5_countFewest_64 ⟨Nat.zero_le _, Nat.zero_le _⟩) ?_
                refine lv_if_ne (tgt := 82) hx hb dX5_countFewest_67 (by decide) (fun c67_7 => ?_) (fun c67_7 => ?_)
                · have c67_7 := bI_nn0.mp c67_7
                  refine lv_aload_n hx hb dX5_countFewest_82 rfl (lv_at hl 2 rfl) ?_
                  refine va_get (ci := 5) (v := .ref hF9) (C := RX5) (T := TX5) (N := 9) hx hb hts hin5 hown hK hP 0 rfl rfl 6 (by decide) (hts (.fieldLink RX5 45 "UpAllRound" "fewest" "[[I") (List.mem_of_getElem? (i := 1) rfl)) (fun _ h9 => h9) hU6 dX5_countFewest_83 ?_
                  refine lv_iload_n hx hb dX5_countFewest_86 rfl (lv_at hl 3 rfl) ?_
                  refine lv_iconst (v := nI 1) hx hb dX5_countFewest_87 (by decide) ?_
                  refine lv_iadd hx hb dX5_countFewest_88 ?_
                  refine zrw (nI_add _ _) ?_
                  refine zaldq (t := 2) (x := q2) hx hb hK hP 3 rfl (by decide) (by decide) rfl dX5_countFewest_89 ?_
                  refine lv_iload_n hx hb dX5_countFewest_90 rfl (lv_at hl 4 rfl) ?_
                  refine lv_bipush (v := nI 99) hx hb dX5_countFewest_91 (by decide) ?_
                  refine lv_iload hx hb dX5_countFewest_93 (lv_at hl 0 rfl) ?_
                  refine lv_aload_n hx hb dX5_countFewest_95 rfl (lv_at hl 2 rfl) ?_
                  refine va_get (ci := 5) (v := .ref hF9) (C := RX5) (T := TX5) (N := 9) hx hb hts hin5 hown hK hP 0 rfl rfl 6 (by decide) (hts (.fieldLink RX5 45 "UpAllRound" "fewest" "[[I") (List.mem_of_getElem? (i := 1) rfl)) (fun _ h9 => h9) hU6 dX5_countFewest_96 ?_
                  refine lv_iload_n hx hb dX5_countFewest_99 rfl (lv_at hl 3 rfl) ?_
                  refine zaldq (t := 1) (x := q1) hx hb hK hP 3 rfl (by decide) (by decide) rfl dX5_countFewest_100 ?_
                  refine lv_iload_n hx hb dX5_countFewest_101 rfl (lv_at hl 4 rfl) ?_
                  refine zald (t := j) hx hb hK hP 5 rfl (by omega) (by decide) dX5_countFewest_102 ?_
                  refine zrw (hF 1 (by omega) j (by omega)) ?_
                  refine va_mmin hx hb (by rw [hml]; exact hl.1.symm) hown (hts (.methodLink RX5 246 Lib.Math.min.name) (List.mem_of_getElem? (i := 3) rfl)) (hts (.static Lib.Math.min.name) (List.mem_of_getElem? (i := 4) rfl)) (hts (.initialized "java/lang/Math") (List.mem_of_getElem? (i := 5) rfl)) (hts (.code Lib.Math.min.name Lib.Math.min.code 2 (some .int)) (List.mem_of_getElem? (i := 6) rfl)) (Nat.le_of_ble_eq_true rfl) (Nat.le_of_ble_eq_true rfl) (Nat.zero_le _) (Nat.zero_le _) dX5_countFewest_103 ?_
                  refine zrw (zmin_n (by have h91 := zfw_le (zrJ S) 1 ((j : Int) - 126); omega) (by have h91 := zfw_le (zrJ S) 1 ((j : Int) - 126); omega)) ?_
                  refine va_mmin hx hb (by rw [hml]; exact hl.1.symm) hown (hts (.methodLink RX5 246 Lib.Math.min.name) (List.mem_of_getElem? (i := 3) rfl)) (hts (.static Lib.Math.min.name) (List.mem_of_getElem? (i := 4) rfl)) (hts (.initialized "java/lang/Math") (List.mem_of_getElem? (i := 5) rfl)) (hts (.code Lib.Math.min.name Lib.Math.min.code 2 (some .int)) (List.mem_of_getElem? (i := 6) rfl)) (Nat.le_of_ble_eq_true rfl) (Nat.le_of_ble_eq_true rfl) (Nat.zero_le _) (Nat.zero_le _) dX5_countFewest_106 ?_
                  refine zrw (zmin_n (by decide) (by have h91 := zfw_le (zrJ S) 1 ((j : Int) - 126); omega)) ?_
                  refine zast (t := j) hx hb hK hP hD hS 6 rfl (by omega) (by decide) dX5_countFewest_109 (fun H locs hP hD hS => ?_)
                  have hP : va_P D vwCl [(h, .inr (5, fs)), (hS9, .inr (3, ft)), (hr9, .inl (cI, 14, .inl ((fun i => S (32 + i))))), (hF9, .inl (cJ, 15, .inr (.inr (.inr (.inr (zq15 q0 q1 q2 q3 q4 q5 q6 q7 q8 q9 q10 q11 q12 q13 q14)))))), (q0, .inl (cI, 253, .inl (F 0))), (q1, .inl (cI, 253, .inl (F 1))), (q2, .inl (cI, 253, .inl (upd g9 j (nI (min 99 (min (99) (zfw (zrJ S) 1 ((j : Int) - 126)))))))), (q3, .inl (cI, 253, .inl (F 3))), (q4, .inl (cI, 253, .inl (F 4))), (q5, .inl (cI, 253, .inl (F 5))), (q6, .inl (cI, 253, .inl (F 6))), (q7, .inl (cI, 253, .inl (F 7))), (q8, .inl (cI, 253, .inl (F 8))), (q9, .inl (cI, 253, .inl (F 9))), (q10, .inl (cI, 253, .inl (F 10))), (q11, .inl (cI, 253, .inl (F 11))), (q12, .inl (cI, 253, .inl (F 12))), (q13, .inl (cI, 253, .inl (F 13))), (q14, .inl (cI, 253, .inl (F 14)))] H := hP
                  have hD : va_D AA [(h, .inr (5, fs)), (hS9, .inr (3, ft)), (hr9, .inl (cI, 14, .inl ((fun i => S (32 + i))))), (hF9, .inl (cJ, 15, .inr (.inr (.inr (.inr (zq15 q0 q1 q2 q3 q4 q5 q6 q7 q8 q9 q10 q11 q12 q13 q14)))))), (q0, .inl (cI, 253, .inl (F 0))), (q1, .inl (cI, 253, .inl (F 1))), (q2, .inl (cI, 253, .inl (upd g9 j (nI (min 99 (min (99) (zfw (zrJ S) 1 ((j : Int) - 126)))))))), (q3, .inl (cI, 253, .inl (F 3))), (q4, .inl (cI, 253, .inl (F 4))), (q5, .inl (cI, 253, .inl (F 5))), (q6, .inl (cI, 253, .inl (F 6))), (q7, .inl (cI, 253, .inl (F 7))), (q8, .inl (cI, 253, .inl (F 8))), (q9, .inl (cI, 253, .inl (F 9))), (q10, .inl (cI, 253, .inl (F 10))), (q11, .inl (cI, 253, .inl (F 11))), (q12, .inl (cI, 253, .inl (F 12))), (q13, .inl (cI, 253, .inl (F 13))), (q14, .inl (cI, 253, .inl (F 14)))] := hD
                  refine lv_iinc (v := nI (j + 1)) (lv' := [(2, .int (nI (j + 1))), (4, .int (nI 99)), (3, .int bf), (0, .ref h), (1, .int (nI 1))]) hx hb dX5_countFewest_110 hl (k := 4) rfl (nI_add _ _) (by decide) rfl (fun ls hl => ?_)
                  refine lv_goto (tgt := 36) hx hb dX5_countFewest_113 (by decide) ?_
                  exact ih_36  (j + 1) (upd g9 j (nI (min 99 (min (99) (zfw (zrJ S) 1 ((j : Int) - 126)))))) (by omega) (by omega) (fun x h91 => (Nat.lt_or_ge x j).elim (fun h92 => (if_neg (show ¬ x = j by omega)).trans (hg x h92)) (fun h92 => by rw [show x = j by omega]; exact (if_pos rfl).trans (zfw_out hri (by decide) (by omega) ebf (by assumption)))) ls (lv_sub hl [3, 4, 0] rfl) H locs hP hD hS
                · have c67_7 := bI_nX0.mp c67_7
                  obtain ⟨q, h_q, rfl⟩ : ∃ q : Nat, q ≤ 252 ∧ bf = nI q := zrg_of c67_7 (by decide)
                  refine lv_aload_n hx hb dX5_countFewest_70 rfl (lv_at hl 2 rfl) ?_
                  refine va_get (ci := 5) (v := .ref hF9) (C := RX5) (T := TX5) (N := 9) hx hb hts hin5 hown hK hP 0 rfl rfl 6 (by decide) (hts (.fieldLink RX5 45 "UpAllRound" "fewest" "[[I") (List.mem_of_getElem? (i := 1) rfl)) (fun _ h9 => h9) hU6 dX5_countFewest_71 ?_
                  refine lv_iload_n hx hb dX5_countFewest_74 rfl (lv_at hl 3 rfl) ?_
                  refine zaldq (t := 1) (x := q1) hx hb hK hP 3 rfl (by decide) (by decide) rfl dX5_countFewest_75 ?_
                  refine lv_iload_n hx hb dX5_countFewest_76 rfl (lv_at hl 1 rfl) ?_
                  refine zald (t := q) hx hb hK hP 5 rfl (by omega) (by decide) dX5_countFewest_77 ?_
                  refine zrw (hF 1 (by omega) q (by omega)) ?_
                  refine lv_iconst (v := nI 1) hx hb dX5_countFewest_78 (by decide) ?_
                  refine lv_iadd hx hb dX5_countFewest_79 ?_
                  refine zrw (nI_add _ _) ?_
                  refine lv_istore (lv' := [(4, .int (nI ((zfw (zrJ S) 1 ((q : Int) - 126)) + 1))), (3, .int (nI q)), (0, .ref h), (1, .int (nI 1)), (2, .int (nI j))]) hx hb dX5_countFewest_80 hl (by decide) rfl (fun ls hl => ?_)
                  refine lv_aload_n hx hb dX5_countFewest_82 rfl (lv_at hl 2 rfl) ?_
                  refine va_get (ci := 5) (v := .ref hF9) (C := RX5) (T := TX5) (N := 9) hx hb hts hin5 hown hK hP 0 rfl rfl 6 (by decide) (hts (.fieldLink RX5 45 "UpAllRound" "fewest" "[[I") (List.mem_of_getElem? (i := 1) rfl)) (fun _ h9 => h9) hU6 dX5_countFewest_83 ?_
                  refine lv_iload_n hx hb dX5_countFewest_86 rfl (lv_at hl 3 rfl) ?_
                  refine lv_iconst (v := nI 1) hx hb dX5_countFewest_87 (by decide) ?_
                  refine lv_iadd hx hb dX5_countFewest_88 ?_
                  refine zrw (nI_add _ _) ?_
                  refine zaldq (t := 2) (x := q2) hx hb hK hP 3 rfl (by decide) (by decide) rfl dX5_countFewest_89 ?_
                  refine lv_iload_n hx hb dX5_countFewest_90 rfl (lv_at hl 4 rfl) ?_
                  refine lv_bipush (v := nI 99) hx hb dX5_countFewest_91 (by decide) ?_
                  refine lv_iload hx hb dX5_countFewest_93 (lv_at hl 0 rfl) ?_
                  refine lv_aload_n hx hb dX5_countFewest_95 rfl (lv_at hl 2 rfl) ?_
                  refine va_get (ci := 5) (v := .ref hF9) (C := RX5) (T := TX5) (N := 9) hx hb hts hin5 hown hK hP 0 rfl rfl 6 (by decide) (hts (.fieldLink RX5 45 "UpAllRound" "fewest" "[[I") (List.mem_of_getElem? (i := 1) rfl)) (fun _ h9 => h9) hU6 dX5_countFewest_96 ?_
                  refine lv_iload_n hx hb dX5_countFewest_99 rfl (lv_at hl 3 rfl) ?_
                  refine zaldq (t := 1) (x := q1) hx hb hK hP 3 rfl (by decide) (by decide) rfl dX5_countFewest_100 ?_
                  refine lv_iload_n hx hb dX5_countFewest_101 rfl (lv_at hl 4 rfl) ?_
                  refine zald (t := j) hx hb hK hP 5 rfl (by omega) (by decide) dX5_countFewest_102 ?_
                  refine zrw (hF 1 (by omega) j (by omega)) ?_
                  refine va_mmin hx hb (by rw [hml]; exact hl.1.symm) hown (hts (.methodLink RX5 246 Lib.Math.min.name) (List.mem_of_getElem? (i := 3) rfl)) (hts (.static Lib.Math.min.name) (List.mem_of_getElem? (i := 4) rfl)) (hts (.initialized "java/lang/Math") (List.mem_of_getElem? (i := 5) rfl)) (hts (.code Lib.Math.min.name Lib.Math.min.code 2 (some .int)) (List.mem_of_getElem? (i := 6) rfl)) (Nat.le_of_ble_eq_true rfl) (Nat.le_of_ble_eq_true rfl) (Nat.zero_le _) (Nat.zero_le _) dX5_countFewest_103 ?_
                  refine zrw (zmin_n (by have h91 := zfw_le (zrJ S) 1 ((q : Int) - 126); omega) (by have h91 := zfw_le (zrJ S) 1 ((j : Int) - 126); omega)) ?_
                  refine va_mmin hx hb (by rw [hml]; exact hl.1.symm) hown (hts (.methodLink RX5 246 Lib.Math.min.name) (List.mem_of_getElem? (i := 3) rfl)) (hts (.static Lib.Math.min.name) (List.mem_of_getElem? (i := 4) rfl)) (hts (.initialized "java/lang/Math") (List.mem_of_getElem? (i := 5) rfl)) (hts (.code Lib.Math.min.name Lib.Math.min.code 2 (some .int)) (List.mem_of_getElem? (i := 6) rfl)) (Nat.le_of_ble_eq_true rfl) (Nat.le_of_ble_eq_true rfl) (Nat.zero_le _) (Nat.zero_le _) dX5_countFewest_106 ?_
                  refine zrw (zmin_n (by decide) (by have h91 := zfw_le (zrJ S) 1 ((j : Int) - 126); omega)) ?_
                  refine zast (t := j) hx hb hK hP hD hS 6 rfl (by omega) (by decide) dX5_countFewest_109 (fun H locs hP hD hS => ?_)
                  have hP : va_P D vwCl [(h, .inr (5, fs)), (hS9, .inr (3, ft)), (hr9, .inl (cI, 14, .inl ((fun i => S (32 + i))))), (hF9, .inl (cJ, 15, .inr (.inr (.inr (.inr (zq15 q0 q1 q2 q3 q4 q5 q6 q7 q8 q9 q10 q11 q12 q13 q14)))))), (q0, .inl (cI, 253, .inl (F 0))), (q1, .inl (cI, 253, .inl (F 1))), (q2, .inl (cI, 253, .inl (upd g9 j (nI (min 99 (min (zfw (zrJ S) 1 ((q : Int) - 126) + 1) (zfw (zrJ S) 1 ((j : Int) - 126)))))))), (q3, .inl (cI, 253, .inl (F 3))), (q4, .inl (cI, 253, .inl (F 4))), (q5, .inl (cI, 253, .inl (F 5))), (q6, .inl (cI, 253, .inl (F 6))), (q7, .inl (cI, 253, .inl (F 7))), (q8, .inl (cI, 253, .inl (F 8))), (q9, .inl (cI, 253, .inl (F 9))), (q10, .inl (cI, 253, .inl (F 10))), (q11, .inl (cI, 253, .inl (F 11))), (q12, .inl (cI, 253, .inl (F 12))), (q13, .inl (cI, 253, .inl (F 13))), (q14, .inl (cI, 253, .inl (F 14)))] H := hP
                  have hD : va_D AA [(h, .inr (5, fs)), (hS9, .inr (3, ft)), (hr9, .inl (cI, 14, .inl ((fun i => S (32 + i))))), (hF9, .inl (cJ, 15, .inr (.inr (.inr (.inr (zq15 q0 q1 q2 q3 q4 q5 q6 q7 q8 q9 q10 q11 q12 q13 q14)))))), (q0, .inl (cI, 253, .inl (F 0))), (q1, .inl (cI, 253, .inl (F 1))), (q2, .inl (cI, 253, .inl (upd g9 j (nI (min 99 (min (zfw (zrJ S) 1 ((q : Int) - 126) + 1) (zfw (zrJ S) 1 ((j : Int) - 126)))))))), (q3, .inl (cI, 253, .inl (F 3))), (q4, .inl (cI, 253, .inl (F 4))), (q5, .inl (cI, 253, .inl (F 5))), (q6, .inl (cI, 253, .inl (F 6))), (q7, .inl (cI, 253, .inl (F 7))), (q8, .inl (cI, 253, .inl (F 8))), (q9, .inl (cI, 253, .inl (F 9))), (q10, .inl (cI, 253, .inl (F 10))), (q11, .inl (cI, 253, .inl (F 11))), (q12, .inl (cI, 253, .inl (F 12))), (q13, .inl (cI, 253, .inl (F 13))), (q14, .inl (cI, 253, .inl (F 14)))] := hD
                  refine lv_iinc (v := nI (j + 1)) (lv' := [(2, .int (nI (j + 1))), (4, .int (nI ((zfw (zrJ S) 1 ((q : Int) - 126)) + 1))), (3, .int (nI q)), (0, .ref h), (1, .int (nI 1))]) hx hb dX5_countFewest_110 hl (k := 4) rfl (nI_add _ _) (by decide) rfl (fun ls hl => ?_)
                  refine lv_goto (tgt := 36) hx hb dX5_countFewest_113 (by decide) ?_
                  exact ih_36  (j + 1) (upd g9 j (nI (min 99 (min (zfw (zrJ S) 1 ((q : Int) - 126) + 1) (zfw (zrJ S) 1 ((j : Int) - 126)))))) (by omega) (by omega) (fun x h91 => (Nat.lt_or_ge x j).elim (fun h92 => (if_neg (show ¬ x = j by omega)).trans (hg x h92)) (fun h92 => by rw [show x = j by omega]; exact (if_pos rfl).trans (zfw_in (hri 1 (by decide)) (by omega) (by omega) ebf))) ls (lv_sub hl [3, 4, 0] rfl) H locs hP hD hS
          exact L_36 (253 + 1) 0 (F 2) (by omega) (by omega) (fun x h91 => absurd h91 (by omega)) ls (lv_sub hl [1, 2, 0] rfl) _ _ hP hD hS
        · subst h9
          refine lv_iconst (v := nI 0) hx hb dX5_countFewest_34 (by decide) ?_
          refine lv_istore_n (lv' := [(2, .int (nI 0)), (0, .ref h), (1, .int (nI 2))]) hx hb dX5_countFewest_35 rfl hl (by decide) rfl (fun ls hl => ?_)
          have L_36 : ∀ (fu j : Nat) (g9 : Nat → Int32) (hi : j ≤ 253) (hn : 253 + 1 ≤ j + fu) (hg : ∀ x, x < j → g9 x = nI (zfw (zrJ S) (2 + 1) ((x : Int) - 126))), ∀ (ls : Array Slot), lv_has ls 5 [(0, .ref h), (1, .int (nI 2)), (2, .int (nI j))] → ∀ (H : Heap) (locs : List Loc), va_P D vwCl [(h, .inr (5, fs)), (hS9, .inr (3, ft)), (hr9, .inl (cI, 14, .inl ((fun i => S (32 + i))))), (hF9, .inl (cJ, 15, .inr (.inr (.inr (.inr (zq15 q0 q1 q2 q3 q4 q5 q6 q7 q8 q9 q10 q11 q12 q13 q14)))))), (q0, .inl (cI, 253, .inl (F 0))), (q1, .inl (cI, 253, .inl (F 1))), (q2, .inl (cI, 253, .inl (F 2))), (q3, .inl (cI, 253, .inl g9)), (q4, .inl (cI, 253, .inl (F 4))), (q5, .inl (cI, 253, .inl (F 5))), (q6, .inl (cI, 253, .inl (F 6))), (q7, .inl (cI, 253, .inl (F 7))), (q8, .inl (cI, 253, .inl (F 8))), (q9, .inl (cI, 253, .inl (F 9))), (q10, .inl (cI, 253, .inl (F 10))), (q11, .inl (cI, 253, .inl (F 11))), (q12, .inl (cI, 253, .inl (F 12))), (q13, .inl (cI, 253, .inl (F 13))), (q14, .inl (cI, 253, .inl (F 14)))] H → va_D AA [(h, .inr (5, fs)), (hS9, .inr (3, ft)), (hr9, .inl (cI, 14, .inl ((fun i => S (32 + i))))), (hF9, .inl (cJ, 15, .inr (.inr (.inr (.inr (zq15 q0 q1 q2 q3 q4 q5 q6 q7 q8 q9 q10 q11 q12 q13 q14)))))), (q0, .inl (cI, 253, .inl (F 0))), (q1, .inl (cI, 253, .inl (F 1))), (q2, .inl (cI, 253, .inl (F 2))), (q3, .inl (cI, 253, .inl g9)), (q4, .inl (cI, 253, .inl (F 4))), (q5, .inl (cI, 253, .inl (F 5))), (q6, .inl (cI, 253, .inl (F 6))), (q7, .inl (cI, 253, .inl (F 7))), (q8, .inl (cI, 253, .inl (F 8))), (q9, .inl (cI, 253, .inl (F 9))), (q10, .inl (cI, 253, .inl (F 10))), (q11, .inl (cI, 253, .inl (F 11))), (q12, .inl (cI, 253, .inl (F 12))), (q13, .inl (cI, 253, .inl (F 13))), (q14, .inl (cI, 253, .inl (F 14)))] → va_S AA s.heap H locs → W pg l ev ({ frames := 1, cells := 0, slots := 0, locals := 23 } : Room) s mt args below meth cd H locs 0 0 QQ (F0 mt 36 ls []) := by
            intro fu
            induction fu with
            | zero =>
              intro j g9 hi hn
              exact absurd hn (by omega)
            | succ fu ih_36 =>
              intro j g9 hi hn hg ls hl H locs hP hD hS
              refine lv_iload_n hx hb dX5_countFewest_36 rfl (lv_at hl 2 rfl) ?_
              refine lv_sipush (v := nI 252) hx hb dX5_countFewest_37 (by decide) ?_
              refine lv_icmp_gt (tgt := 116) hx hb dX5_countFewest_40 (by decide) (fun c40_8 => ?_) (fun c40_8 => ?_)
              · have c40_8 : 252 < j := (nI_ltI (a := 252) (b := j) (by omega) (by omega)).mp c40_8
                refine lv_iinc (v := nI (2 + 1)) (lv' := [(1, .int (nI (2 + 1))), (0, .ref h), (2, .int (nI j))]) hx hb dX5_countFewest_116 hl (k := 1) rfl (nI_add _ _) (by decide) rfl (fun ls hl => ?_)
                refine lv_goto (tgt := 23) hx hb dX5_countFewest_119 (by decide) ?_
                exact ih_23  (2 + 1) ((zlf [F 0, F 1, F 2, g9, F 4, F 5, F 6, F 7, F 8, F 9, F 10, F 11, F 12, F 13, F 14])) (by omega) (by omega) (fun k9 h91 x h92 => by rcases (show k9 = 0 ∨ k9 = 1 ∨ k9 = 2 ∨ k9 = 3 from by omega) with h9 | h9 | h9 | h9 <;> subst h9 <;> first | exact hg x (by omega) | exact hF _ (by omega) x h92) ls (lv_sub hl [1, 0] rfl) H locs hP hD hS
              · have c40_8 : ¬ (252 < j) := fun h9 => c40_8 ((nI_ltI (a := 252) (b := j) (by omega) (by omega)).mpr h9)
                refine lv_iload_n hx hb dX5_countFewest_43 rfl (lv_at hl 2 rfl) ?_
                refine lv_aload_n hx hb dX5_countFewest_44 rfl (lv_at hl 0 rfl) ?_
                refine va_get (ci := 5) (v := .ref hS9) (C := RX5) (T := TX5) (N := 9) hx hb hts hin5 hown hK hP 0 rfl rfl 0 (by decide) (hts (.fieldLink RX5 12 "UpAllRound" "now" "LUpAllRound$Stair;") (List.mem_of_getElem? (i := 2) rfl)) (fun _ h9 => h9) hU0 dX5_countFewest_45 ?_
                refine va_getN (ci := 3) (v := .ref hr9) (C := RX3) (T := TX3) (N := 16) hx hb hts hin3 hown hK hP 1 rfl rfl 1 (by decide) (va_Nw.use rfl (hN (.fieldLinkNest "UpAllRound" 78 "UpAllRound$Stair" "rises" "[I" "UpAllRound") (List.mem_of_getElem? (i := 1) rfl))) (fun _ h9 => h9) hft1 dX5_countFewest_48 ?_
                refine lv_iload_n hx hb dX5_countFewest_51 rfl (lv_at hl 1 rfl) ?_
                refine zald (t := 2) hx hb hK hP 2 rfl (by omega) (by decide) dX5_countFewest_52 ?_
                refine zrw rfl ?_
                refine lv_isub hx hb dX5_countFewest_53 ?_
                refine lv_topi (fun bf ebf => ?_)
                refine lv_istore_n (lv' := [(3, .int bf), (0, .ref h), (1, .int (nI 2)), (2, .int (nI j))]) hx hb dX5_countFewest_54 rfl hl (by decide) rfl (fun ls hl => ?_)
                refine lv_bipush (v := nI 99) hx hb dX5_countFewest_55 (by decide) ?_
                refine lv_istore (lv' := [(4, .int (nI 99)), (3, .int bf), (0, .ref h), (1, .int (nI 2)), (2, .int (nI j))]) hx hb dX5_countFewest_57 hl (by decide) rfl (fun ls hl => ?_)
                refine lv_iload_n hx hb dX5_countFewest_59 rfl (lv_at hl 1 rfl) ?_
                refine lv_iconst (v := nI 0) hx hb dX5_countFewest_60 (by decide) ?_
                refine lv_sipush (v := nI 252) hx hb dX5_countFewest_61 (by decide) ?_
                refine zcsE (va_runS (As := [.int bf, .int (nI 0), .int (nI 252)]) (rest := []) ⟨hx, hb, hml, hown, hts⟩ (d_X5_isOutside l D cI cJ bf (nI 0) (nI 252) 0 252 (by decide) (by decide) H.size) (va_cwS 3 hts gX5_countFewest_X5_isOutside rfl rfl rfl (by decide +kernel) ⟨Nat.le_of_ble_eq_true rfl, Nat.le_of_ble_eq_true rfl⟩) (zpS hK hN hZ hP hD hS hA [] rfl (by decide)) rfl rfl hl.1 rfl (lv_room (Nat.le_of_ble_eq_true rfl)) dX5_countFewest_64 ⟨Nat.zero_le _, Nat.zero_le _⟩) ?_
                refine lv_if_ne (tgt := 82) hx hb dX5_countFewest_67 (by decide) (fun c67_9 => ?_) (fun c67_9 => ?_)
                · have c67_9 := bI_nn0.mp c67_9
                  refine lv_aload_n hx hb dX5_countFewest_82 rfl (lv_at hl 2 rfl) ?_
                  refine va_get (ci := 5) (v := .ref hF9) (C := RX5) (T := TX5) (N := 9) hx hb hts hin5 hown hK hP 0 rfl rfl 6 (by decide) (hts (.fieldLink RX5 45 "UpAllRound" "fewest" "[[I") (List.mem_of_getElem? (i := 1) rfl)) (fun _ h9 => h9) hU6 dX5_countFewest_83 ?_
                  refine lv_iload_n hx hb dX5_countFewest_86 rfl (lv_at hl 3 rfl) ?_
                  refine lv_iconst (v := nI 1) hx hb dX5_countFewest_87 (by decide) ?_
                  refine lv_iadd hx hb dX5_countFewest_88 ?_
                  refine zrw (nI_add _ _) ?_
                  refine zaldq (t := 3) (x := q3) hx hb hK hP 3 rfl (by decide) (by decide) rfl dX5_countFewest_89 ?_
                  refine lv_iload_n hx hb dX5_countFewest_90 rfl (lv_at hl 4 rfl) ?_
                  refine lv_bipush (v := nI 99) hx hb dX5_countFewest_91 (by decide) ?_
                  refine lv_iload hx hb dX5_countFewest_93 (lv_at hl 0 rfl) ?_
                  refine lv_aload_n hx hb dX5_countFewest_95 rfl (lv_at hl 2 rfl) ?_
                  refine va_get (ci := 5) (v := .ref hF9) (C := RX5) (T := TX5) (N := 9) hx hb hts hin5 hown hK hP 0 rfl rfl 6 (by decide) (hts (.fieldLink RX5 45 "UpAllRound" "fewest" "[[I") (List.mem_of_getElem? (i := 1) rfl)) (fun _ h9 => h9) hU6 dX5_countFewest_96 ?_
                  refine lv_iload_n hx hb dX5_countFewest_99 rfl (lv_at hl 3 rfl) ?_
                  refine zaldq (t := 2) (x := q2) hx hb hK hP 3 rfl (by decide) (by decide) rfl dX5_countFewest_100 ?_
                  refine lv_iload_n hx hb dX5_countFewest_101 rfl (lv_at hl 4 rfl) ?_
                  refine zald (t := j) hx hb hK hP 6 rfl (by omega) (by decide) dX5_countFewest_102 ?_
                  refine zrw (hF 2 (by omega) j (by omega)) ?_
                  refine va_mmin hx hb (by rw [hml]; exact hl.1.symm) hown (hts (.methodLink RX5 246 Lib.Math.min.name) (List.mem_of_getElem? (i := 3) rfl)) (hts (.static Lib.Math.min.name) (List.mem_of_getElem? (i := 4) rfl)) (hts (.initialized "java/lang/Math") (List.mem_of_getElem? (i := 5) rfl)) (hts (.code Lib.Math.min.name Lib.Math.min.code 2 (some .int)) (List.mem_of_getElem? (i := 6) rfl)) (Nat.le_of_ble_eq_true rfl) (Nat.le_of_ble_eq_true rfl) (Nat.zero_le _) (Nat.zero_le _) dX5_countFewest_103 ?_
                  refine zrw (zmin_n (by have h91 := zfw_le (zrJ S) 2 ((j : Int) - 126); omega) (by have h91 := zfw_le (zrJ S) 2 ((j : Int) - 126); omega)) ?_
                  refine va_mmin hx hb (by rw [hml]; exact hl.1.symm) hown (hts (.methodLink RX5 246 Lib.Math.min.name) (List.mem_of_getElem? (i := 3) rfl)) (hts (.static Lib.Math.min.name) (List.mem_of_getElem? (i := 4) rfl)) (hts (.initialized "java/lang/Math") (List.mem_of_getElem? (i := 5) rfl)) (hts (.code Lib.Math.min.name Lib.Math.min.code 2 (some .int)) (List.mem_of_getElem? (i := 6) rfl)) (Nat.le_of_ble_eq_true rfl) (Nat.le_of_ble_eq_true rfl) (Nat.zero_le _) (Nat.zero_le _) dX5_countFewest_106 ?_
                  refine zrw (zmin_n (by decide) (by have h91 := zfw_le (zrJ S) 2 ((j : Int) - 126); omega)) ?_
                  refine zast (t := j) hx hb hK hP hD hS 7 rfl (by omega) (by decide) dX5_countFewest_109 (fun H locs hP hD hS => ?_)
                  have hP : va_P D vwCl [(h, .inr (5, fs)), (hS9, .inr (3, ft)), (hr9, .inl (cI, 14, .inl ((fun i => S (32 + i))))), (hF9, .inl (cJ, 15, .inr (.inr (.inr (.inr (zq15 q0 q1 q2 q3 q4 q5 q6 q7 q8 q9 q10 q11 q12 q13 q14)))))), (q0, .inl (cI, 253, .inl (F 0))), (q1, .inl (cI, 253, .inl (F 1))), (q2, .inl (cI, 253, .inl (F 2))), (q3, .inl (cI, 253, .inl (upd g9 j (nI (min 99 (min (99) (zfw (zrJ S) 2 ((j : Int) - 126)))))))), (q4, .inl (cI, 253, .inl (F 4))), (q5, .inl (cI, 253, .inl (F 5))), (q6, .inl (cI, 253, .inl (F 6))), (q7, .inl (cI, 253, .inl (F 7))), (q8, .inl (cI, 253, .inl (F 8))), (q9, .inl (cI, 253, .inl (F 9))), (q10, .inl (cI, 253, .inl (F 10))), (q11, .inl (cI, 253, .inl (F 11))), (q12, .inl (cI, 253, .inl (F 12))), (q13, .inl (cI, 253, .inl (F 13))), (q14, .inl (cI, 253, .inl (F 14)))] H := hP
                  have hD : va_D AA [(h, .inr (5, fs)), (hS9, .inr (3, ft)), (hr9, .inl (cI, 14, .inl ((fun i => S (32 + i))))), (hF9, .inl (cJ, 15, .inr (.inr (.inr (.inr (zq15 q0 q1 q2 q3 q4 q5 q6 q7 q8 q9 q10 q11 q12 q13 q14)))))), (q0, .inl (cI, 253, .inl (F 0))), (q1, .inl (cI, 253, .inl (F 1))), (q2, .inl (cI, 253, .inl (F 2))), (q3, .inl (cI, 253, .inl (upd g9 j (nI (min 99 (min (99) (zfw (zrJ S) 2 ((j : Int) - 126)))))))), (q4, .inl (cI, 253, .inl (F 4))), (q5, .inl (cI, 253, .inl (F 5))), (q6, .inl (cI, 253, .inl (F 6))), (q7, .inl (cI, 253, .inl (F 7))), (q8, .inl (cI, 253, .inl (F 8))), (q9, .inl (cI, 253, .inl (F 9))), (q10, .inl (cI, 253, .inl (F 10))), (q11, .inl (cI, 253, .inl (F 11))), (q12, .inl (cI, 253, .inl (F 12))), (q13, .inl (cI, 253, .inl (F 13))), (q14, .inl (cI, 253, .inl (F 14)))] := hD
                  refine lv_iinc (v := nI (j + 1)) (lv' := [(2, .int (nI (j + 1))), (4, .int (nI 99)), (3, .int bf), (0, .ref h), (1, .int (nI 2))]) hx hb dX5_countFewest_110 hl (k := 4) rfl (nI_add _ _) (by decide) rfl (fun ls hl => ?_)
                  refine lv_goto (tgt := 36) hx hb dX5_countFewest_113 (by decide) ?_
                  exact ih_36  (j + 1) (upd g9 j (nI (min 99 (min (99) (zfw (zrJ S) 2 ((j : Int) - 126)))))) (by omega) (by omega) (fun x h91 => (Nat.lt_or_ge x j).elim (fun h92 => (if_neg (show ¬ x = j by omega)).trans (hg x h92)) (fun h92 => by rw [show x = j by omega]; exact (if_pos rfl).trans (zfw_out hri (by decide) (by omega) ebf (by assumption)))) ls (lv_sub hl [3, 4, 0] rfl) H locs hP hD hS
                · have c67_9 := bI_nX0.mp c67_9
                  obtain ⟨q, h_q, rfl⟩ : ∃ q : Nat, q ≤ 252 ∧ bf = nI q := zrg_of c67_9 (by decide)
                  refine lv_aload_n hx hb dX5_countFewest_70 rfl (lv_at hl 2 rfl) ?_
                  refine va_get (ci := 5) (v := .ref hF9) (C := RX5) (T := TX5) (N := 9) hx hb hts hin5 hown hK hP 0 rfl rfl 6 (by decide) (hts (.fieldLink RX5 45 "UpAllRound" "fewest" "[[I") (List.mem_of_getElem? (i := 1) rfl)) (fun _ h9 => h9) hU6 dX5_countFewest_71 ?_
                  refine lv_iload_n hx hb dX5_countFewest_74 rfl (lv_at hl 3 rfl) ?_
                  refine zaldq (t := 2) (x := q2) hx hb hK hP 3 rfl (by decide) (by decide) rfl dX5_countFewest_75 ?_
                  refine lv_iload_n hx hb dX5_countFewest_76 rfl (lv_at hl 1 rfl) ?_
                  refine zald (t := q) hx hb hK hP 6 rfl (by omega) (by decide) dX5_countFewest_77 ?_
                  refine zrw (hF 2 (by omega) q (by omega)) ?_
                  refine lv_iconst (v := nI 1) hx hb dX5_countFewest_78 (by decide) ?_
                  refine lv_iadd hx hb dX5_countFewest_79 ?_
                  refine zrw (nI_add _ _) ?_
                  refine lv_istore (lv' := [(4, .int (nI ((zfw (zrJ S) 2 ((q : Int) - 126)) + 1))), (3, .int (nI q)), (0, .ref h), (1, .int (nI 2)), (2, .int (nI j))]) hx hb dX5_countFewest_80 hl (by decide) rfl (fun ls hl => ?_)
                  refine lv_aload_n hx hb dX5_countFewest_82 rfl (lv_at hl 2 rfl) ?_
                  refine va_get (ci := 5) (v := .ref hF9) (C := RX5) (T := TX5) (N := 9) hx hb hts hin5 hown hK hP 0 rfl rfl 6 (by decide) (hts (.fieldLink RX5 45 "UpAllRound" "fewest" "[[I") (List.mem_of_getElem? (i := 1) rfl)) (fun _ h9 => h9) hU6 dX5_countFewest_83 ?_
                  refine lv_iload_n hx hb dX5_countFewest_86 rfl (lv_at hl 3 rfl) ?_
                  refine lv_iconst (v := nI 1) hx hb dX5_countFewest_87 (by decide) ?_
                  refine lv_iadd hx hb dX5_countFewest_88 ?_
                  refine zrw (nI_add _ _) ?_
                  refine zaldq (t := 3) (x := q3) hx hb hK hP 3 rfl (by decide) (by decide) rfl dX5_countFewest_89 ?_
                  refine lv_iload_n hx hb dX5_countFewest_90 rfl (lv_at hl 4 rfl) ?_
                  refine lv_bipush (v := nI 99) hx hb dX5_countFewest_91 (by decide) ?_
                  refine lv_iload hx hb dX5_countFewest_93 (lv_at hl 0 rfl) ?_
                  refine lv_aload_n hx hb dX5_countFewest_95 rfl (lv_at hl 2 rfl) ?_
                  refine va_get (ci := 5) (v := .ref hF9) (C := RX5) (T := TX5) (N := 9) hx hb hts hin5 hown hK hP 0 rfl rfl 6 (by decide) (hts (.fieldLink RX5 45 "UpAllRound" "fewest" "[[I") (List.mem_of_getElem? (i := 1) rfl)) (fun _ h9 => h9) hU6 dX5_countFewest_96 ?_
                  refine lv_iload_n hx hb dX5_countFewest_99 rfl (lv_at hl 3 rfl) ?_
                  refine zaldq (t := 2) (x := q2) hx hb hK hP 3 rfl (by decide) (by decide) rfl dX5_countFewest_100 ?_
                  refine lv_iload_n hx hb dX5_countFewest_101 rfl (lv_at hl 4 rfl) ?_
                  refine zald (t := j) hx hb hK hP 6 rfl (by omega) (by decide) dX5_countFewest_102 ?_
                  refine zrw (hF 2 (by omega) j (by omega)) ?_
                  refine va_mmin hx hb (by rw [hml]; exact hl.1.symm) hown (hts (.methodLink RX5 246 Lib.Math.min.name) (List.mem_of_getElem? (i := 3) rfl)) (hts (.static Lib.Math.min.name) (List.mem_of_getElem? (i := 4) rfl)) (hts (.initialized "java/lang/Math") (List.mem_of_getElem? (i := 5) rfl)) (hts (.code Lib.Math.min.name Lib.Math.min.code 2 (some .int)) (List.mem_of_getElem? (i := 6) rfl)) (Nat.le_of_ble_eq_true rfl) (Nat.le_of_ble_eq_true rfl) (Nat.zero_le _) (Nat.zero_le _) dX5_countFewest_103 ?_
                  refine zrw (zmin_n (by have h91 := zfw_le (zrJ S) 2 ((q : Int) - 126); omega) (by have h91 := zfw_le (zrJ S) 2 ((j : Int) - 126); omega)) ?_
                  refine va_mmin hx hb (by rw [hml]; exact hl.1.symm) hown (hts (.methodLink RX5 246 Lib.Math.min.name) (List.mem_of_getElem? (i := 3) rfl)) (hts (.static Lib.Math.min.name) (List.mem_of_getElem? (i := 4) rfl)) (hts (.initialized "java/lang/Math") (List.mem_of_getElem? (i := 5) rfl)) (hts (.code Lib.Math.min.name Lib.Math.min.code 2 (some .int)) (List.mem_of_getElem? (i := 6) rfl)) (Nat.le_of_ble_eq_true rfl) (Nat.le_of_ble_eq_true rfl) (Nat.zero_le _) (Nat.zero_le _) dX5_countFewest_106 ?_
                  refine zrw (zmin_n (by decide) (by have h91 := zfw_le (zrJ S) 2 ((j : Int) - 126); omega)) ?_
                  refine zast (t := j) hx hb hK hP hD hS 7 rfl (by omega) (by decide) dX5_countFewest_109 (fun H locs hP hD hS => ?_)
                  have hP : va_P D vwCl [(h, .inr (5, fs)), (hS9, .inr (3, ft)), (hr9, .inl (cI, 14, .inl ((fun i => S (32 + i))))), (hF9, .inl (cJ, 15, .inr (.inr (.inr (.inr (zq15 q0 q1 q2 q3 q4 q5 q6 q7 q8 q9 q10 q11 q12 q13 q14)))))), (q0, .inl (cI, 253, .inl (F 0))), (q1, .inl (cI, 253, .inl (F 1))), (q2, .inl (cI, 253, .inl (F 2))), (q3, .inl (cI, 253, .inl (upd g9 j (nI (min 99 (min (zfw (zrJ S) 2 ((q : Int) - 126) + 1) (zfw (zrJ S) 2 ((j : Int) - 126)))))))), (q4, .inl (cI, 253, .inl (F 4))), (q5, .inl (cI, 253, .inl (F 5))), (q6, .inl (cI, 253, .inl (F 6))), (q7, .inl (cI, 253, .inl (F 7))), (q8, .inl (cI, 253, .inl (F 8))), (q9, .inl (cI, 253, .inl (F 9))), (q10, .inl (cI, 253, .inl (F 10))), (q11, .inl (cI, 253, .inl (F 11))), (q12, .inl (cI, 253, .inl (F 12))), (q13, .inl (cI, 253, .inl (F 13))), (q14, .inl (cI, 253, .inl (F 14)))] H := hP
                  have hD : va_D AA [(h, .inr (5, fs)), (hS9, .inr (3, ft)), (hr9, .inl (cI, 14, .inl ((fun i => S (32 + i))))), (hF9, .inl (cJ, 15, .inr (.inr (.inr (.inr (zq15 q0 q1 q2 q3 q4 q5 q6 q7 q8 q9 q10 q11 q12 q13 q14)))))), (q0, .inl (cI, 253, .inl (F 0))), (q1, .inl (cI, 253, .inl (F 1))), (q2, .inl (cI, 253, .inl (F 2))), (q3, .inl (cI, 253, .inl (upd g9 j (nI (min 99 (min (zfw (zrJ S) 2 ((q : Int) - 126) + 1) (zfw (zrJ S) 2 ((j : Int) - 126)))))))), (q4, .inl (cI, 253, .inl (F 4))), (q5, .inl (cI, 253, .inl (F 5))), (q6, .inl (cI, 253, .inl (F 6))), (q7, .inl (cI, 253, .inl (F 7))), (q8, .inl (cI, 253, .inl (F 8))), (q9, .inl (cI, 253, .inl (F 9))), (q10, .inl (cI, 253, .inl (F 10))), (q11, .inl (cI, 253, .inl (F 11))), (q12, .inl (cI, 253, .inl (F 12))), (q13, .inl (cI, 253, .inl (F 13))), (q14, .inl (cI, 253, .inl (F 14)))] := hD
                  refine lv_iinc (v := nI (j + 1)) (lv' := [(2, .int (nI (j + 1))), (4, .int (nI ((zfw (zrJ S) 2 ((q : Int) - 126)) + 1))), (3, .int (nI q)), (0, .ref h), (1, .int (nI 2))]) hx hb dX5_countFewest_110 hl (k := 4) rfl (nI_add _ _) (by decide) rfl (fun ls hl => ?_)
                  refine lv_goto (tgt := 36) hx hb dX5_countFewest_113 (by decide) ?_
                  exact ih_36  (j + 1) (upd g9 j (nI (min 99 (min (zfw (zrJ S) 2 ((q : Int) - 126) + 1) (zfw (zrJ S) 2 ((j : Int) - 126)))))) (by omega) (by omega) (fun x h91 => (Nat.lt_or_ge x j).elim (fun h92 => (if_neg (show ¬ x = j by omega)).trans (hg x h92)) (fun h92 => by rw [show x = j by omega]; exact (if_pos rfl).trans (zfw_in (hri 2 (by decide)) (by omega) (by omega) ebf))) ls (lv_sub hl [3, 4, 0] rfl) H locs hP hD hS
          exact L_36 (253 + 1) 0 (F 3) (by omega) (by omega) (fun x h91 => absurd h91 (by omega)) ls (lv_sub hl [1, 2, 0] rfl) _ _ hP hD hS
        · subst h9
          refine lv_iconst (v := nI 0) hx hb dX5_countFewest_34 (by decide) ?_
          refine lv_istore_n (lv' := [(2, .int (nI 0)), (0, .ref h), (1, .int (nI 3))]) hx hb dX5_countFewest_35 rfl hl (by decide) rfl (fun ls hl => ?_)
          have L_36 : ∀ (fu j : Nat) (g9 : Nat → Int32) (hi : j ≤ 253) (hn : 253 + 1 ≤ j + fu) (hg : ∀ x, x < j → g9 x = nI (zfw (zrJ S) (3 + 1) ((x : Int) - 126))), ∀ (ls : Array Slot), lv_has ls 5 [(0, .ref h), (1, .int (nI 3)), (2, .int (nI j))] → ∀ (H : Heap) (locs : List Loc), va_P D vwCl [(h, .inr (5, fs)), (hS9, .inr (3, ft)), (hr9, .inl (cI, 14, .inl ((fun i => S (32 + i))))), (hF9, .inl (cJ, 15, .inr (.inr (.inr (.inr (zq15 q0 q1 q2 q3 q4 q5 q6 q7 q8 q9 q10 q11 q12 q13 q14)))))), (q0, .inl (cI, 253, .inl (F 0))), (q1, .inl (cI, 253, .inl (F 1))), (q2, .inl (cI, 253, .inl (F 2))), (q3, .inl (cI, 253, .inl (F 3))), (q4, .inl (cI, 253, .inl g9)), (q5, .inl (cI, 253, .inl (F 5))), (q6, .inl (cI, 253, .inl (F 6))), (q7, .inl (cI, 253, .inl (F 7))), (q8, .inl (cI, 253, .inl (F 8))), (q9, .inl (cI, 253, .inl (F 9))), (q10, .inl (cI, 253, .inl (F 10))), (q11, .inl (cI, 253, .inl (F 11))), (q12, .inl (cI, 253, .inl (F 12))), (q13, .inl (cI, 253, .inl (F 13))), (q14, .inl (cI, 253, .inl (F 14)))] H → va_D AA [(h, .inr (5, fs)), (hS9, .inr (3, ft)), (hr9, .inl (cI, 14, .inl ((fun i => S (32 + i))))), (hF9, .inl (cJ, 15, .inr (.inr (.inr (.inr (zq15 q0 q1 q2 q3 q4 q5 q6 q7 q8 q9 q10 q11 q12 q13 q14)))))), (q0, .inl (cI, 253, .inl (F 0))), (q1, .inl (cI, 253, .inl (F 1))), (q2, .inl (cI, 253, .inl (F 2))), (q3, .inl (cI, 253, .inl (F 3))), (q4, .inl (cI, 253, .inl g9)), (q5, .inl (cI, 253, .inl (F 5))), (q6, .inl (cI, 253, .inl (F 6))), (q7, .inl (cI, 253, .inl (F 7))), (q8, .inl (cI, 253, .inl (F 8))), (q9, .inl (cI, 253, .inl (F 9))), (q10, .inl (cI, 253, .inl (F 10))), (q11, .inl (cI, 253, .inl (F 11))), (q12, .inl (cI, 253, .inl (F 12))), (q13, .inl (cI, 253, .inl (F 13))), (q14, .inl (cI, 253, .inl (F 14)))] → va_S AA s.heap H locs → W pg l ev ({ frames := 1, cells := 0, slots := 0, locals := 23 } : Room) s mt args below meth cd H locs 0 0 QQ (F0 mt 36 ls []) := by
            intro fu
            induction fu with
            | zero =>
              intro j g9 hi hn
              exact absurd hn (by omega)
            | succ fu ih_36 =>
              intro j g9 hi hn hg ls hl H locs hP hD hS
              refine lv_iload_n hx hb dX5_countFewest_36 rfl (lv_at hl 2 rfl) ?_
              refine lv_sipush (v := nI 252) hx hb dX5_countFewest_37 (by decide) ?_
              refine lv_icmp_gt (tgt := 116) hx hb dX5_countFewest_40 (by decide) (fun c40_10 => ?_) (fun c40_10 => ?_)
              · have c40_10 : 252 < j := (nI_ltI (a := 252) (b := j) (by omega) (by omega)).mp c40_10
                refine lv_iinc (v := nI (3 + 1)) (lv' := [(1, .int (nI (3 + 1))), (0, .ref h), (2, .int (nI j))]) hx hb dX5_countFewest_116 hl (k := 1) rfl (nI_add _ _) (by decide) rfl (fun ls hl => ?_)
                refine lv_goto (tgt := 23) hx hb dX5_countFewest_119 (by decide) ?_
                exact ih_23  (3 + 1) ((zlf [F 0, F 1, F 2, F 3, g9, F 5, F 6, F 7, F 8, F 9, F 10, F 11, F 12, F 13, F 14])) (by omega) (by omega) (fun k9 h91 x h92 => by rcases (show k9 = 0 ∨ k9 = 1 ∨ k9 = 2 ∨ k9 = 3 ∨ k9 = 4 from by omega) with h9 | h9 | h9 | h9 | h9 <;> subst h9 <;> first | exact hg x (by omega) | exact hF _ (by omega) x h92) ls (lv_sub hl [1, 0] rfl) H locs hP hD hS
              · have c40_10 : ¬ (252 < j) := fun h9 => c40_10 ((nI_ltI (a := 252) (b := j) (by omega) (by omega)).mpr h9)
                refine lv_iload_n hx hb dX5_countFewest_43 rfl (lv_at hl 2 rfl) ?_
                refine lv_aload_n hx hb dX5_countFewest_44 rfl (lv_at hl 0 rfl) ?_
                refine va_get (ci := 5) (v := .ref hS9) (C := RX5) (T := TX5) (N := 9) hx hb hts hin5 hown hK hP 0 rfl rfl 0 (by decide) (hts (.fieldLink RX5 12 "UpAllRound" "now" "LUpAllRound$Stair;") (List.mem_of_getElem? (i := 2) rfl)) (fun _ h9 => h9) hU0 dX5_countFewest_45 ?_
                refine va_getN (ci := 3) (v := .ref hr9) (C := RX3) (T := TX3) (N := 16) hx hb hts hin3 hown hK hP 1 rfl rfl 1 (by decide) (va_Nw.use rfl (hN (.fieldLinkNest "UpAllRound" 78 "UpAllRound$Stair" "rises" "[I" "UpAllRound") (List.mem_of_getElem? (i := 1) rfl))) (fun _ h9 => h9) hft1 dX5_countFewest_48 ?_
                refine lv_iload_n hx hb dX5_countFewest_51 rfl (lv_at hl 1 rfl) ?_
                refine zald (t := 3) hx hb hK hP 2 rfl (by omega) (by decide) dX5_countFewest_52 ?_
                refine zrw rfl ?_
                refine lv_isub hx hb dX5_countFewest_53 ?_
                refine lv_topi (fun bf ebf => ?_)
                refine lv_istore_n (lv' := [(3, .int bf), (0, .ref h), (1, .int (nI 3)), (2, .int (nI j))]) hx hb dX5_countFewest_54 rfl hl (by decide) rfl (fun ls hl => ?_)
                refine lv_bipush (v := nI 99) hx hb dX5_countFewest_55 (by decide) ?_
                refine lv_istore (lv' := [(4, .int (nI 99)), (3, .int bf), (0, .ref h), (1, .int (nI 3)), (2, .int (nI j))]) hx hb dX5_countFewest_57 hl (by decide) rfl (fun ls hl => ?_)
                refine lv_iload_n hx hb dX5_countFewest_59 rfl (lv_at hl 1 rfl) ?_
                refine lv_iconst (v := nI 0) hx hb dX5_countFewest_60 (by decide) ?_
                refine lv_sipush (v := nI 252) hx hb dX5_countFewest_61 (by decide) ?_
                refine zcsE (va_runS (As := [.int bf, .int (nI 0), .int (nI 252)]) (rest := []) ⟨hx, hb, hml, hown, hts⟩ (d_X5_isOutside l D cI cJ bf (nI 0) (nI 252) 0 252 (by decide) (by decide) H.size) (va_cwS 3 hts gX5_countFewest_X5_isOutside rfl rfl rfl (by decide +kernel) ⟨Nat.le_of_ble_eq_true rfl, Nat.le_of_ble_eq_true rfl⟩) (zpS hK hN hZ hP hD hS hA [] rfl (by decide)) rfl rfl hl.1 rfl (lv_room (Nat.le_of_ble_eq_true rfl)) dX5_countFewest_64 ⟨Nat.zero_le _, Nat.zero_le _⟩) ?_
                refine lv_if_ne (tgt := 82) hx hb dX5_countFewest_67 (by decide) (fun c67_11 => ?_) (fun c67_11 => ?_)
                · have c67_11 := bI_nn0.mp c67_11
                  refine lv_aload_n hx hb dX5_countFewest_82 rfl (lv_at hl 2 rfl) ?_
                  refine va_get (ci := 5) (v := .ref hF9) (C := RX5) (T := TX5) (N := 9) hx hb hts hin5 hown hK hP 0 rfl rfl 6 (by decide) (hts (.fieldLink RX5 45 "UpAllRound" "fewest" "[[I") (List.mem_of_getElem? (i := 1) rfl)) (fun _ h9 => h9) hU6 dX5_countFewest_83 ?_
                  refine lv_iload_n hx hb dX5_countFewest_86 rfl (lv_at hl 3 rfl) ?_
                  refine lv_iconst (v := nI 1) hx hb dX5_countFewest_87 (by decide) ?_
                  refine lv_iadd hx hb dX5_countFewest_88 ?_
                  refine zrw (nI_add _ _) ?_
                  refine zaldq (t := 4) (x := q4) hx hb hK hP 3 rfl (by decide) (by decide) rfl dX5_countFewest_89 ?_
                  refine lv_iload_n hx hb dX5_countFewest_90 rfl (lv_at hl 4 rfl) ?_
                  refine lv_bipush (v := nI 99) hx hb dX5_countFewest_91 (by decide) ?_
                  refine lv_iload hx hb dX5_countFewest_93 (lv_at hl 0 rfl) ?_
                  refine lv_aload_n hx hb dX5_countFewest_95 rfl (lv_at hl 2 rfl) ?_
                  refine va_get (ci := 5) (v := .ref hF9) (C := RX5) (T := TX5) (N := 9) hx hb hts hin5 hown hK hP 0 rfl rfl 6 (by decide) (hts (.fieldLink RX5 45 "UpAllRound" "fewest" "[[I") (List.mem_of_getElem? (i := 1) rfl)) (fun _ h9 => h9) hU6 dX5_countFewest_96 ?_
                  refine lv_iload_n hx hb dX5_countFewest_99 rfl (lv_at hl 3 rfl) ?_
                  refine zaldq (t := 3) (x := q3) hx hb hK hP 3 rfl (by decide) (by decide) rfl dX5_countFewest_100 ?_
                  refine lv_iload_n hx hb dX5_countFewest_101 rfl (lv_at hl 4 rfl) ?_
                  refine zald (t := j) hx hb hK hP 7 rfl (by omega) (by decide) dX5_countFewest_102 ?_
                  refine zrw (hF 3 (by omega) j (by omega)) ?_
                  refine va_mmin hx hb (by rw [hml]; exact hl.1.symm) hown (hts (.methodLink RX5 246 Lib.Math.min.name) (List.mem_of_getElem? (i := 3) rfl)) (hts (.static Lib.Math.min.name) (List.mem_of_getElem? (i := 4) rfl)) (hts (.initialized "java/lang/Math") (List.mem_of_getElem? (i := 5) rfl)) (hts (.code Lib.Math.min.name Lib.Math.min.code 2 (some .int)) (List.mem_of_getElem? (i := 6) rfl)) (Nat.le_of_ble_eq_true rfl) (Nat.le_of_ble_eq_true rfl) (Nat.zero_le _) (Nat.zero_le _) dX5_countFewest_103 ?_
                  refine zrw (zmin_n (by have h91 := zfw_le (zrJ S) 3 ((j : Int) - 126); omega) (by have h91 := zfw_le (zrJ S) 3 ((j : Int) - 126); omega)) ?_
                  refine va_mmin hx hb (by rw [hml]; exact hl.1.symm) hown (hts (.methodLink RX5 246 Lib.Math.min.name) (List.mem_of_getElem? (i := 3) rfl)) (hts (.static Lib.Math.min.name) (List.mem_of_getElem? (i := 4) rfl)) (hts (.initialized "java/lang/Math") (List.mem_of_getElem? (i := 5) rfl)) (hts (.code Lib.Math.min.name Lib.Math.min.code 2 (some .int)) (List.mem_of_getElem? (i := 6) rfl)) (Nat.le_of_ble_eq_true rfl) (Nat.le_of_ble_eq_true rfl) (Nat.zero_le _) (Nat.zero_le _) dX5_countFewest_106 ?_
                  refine zrw (zmin_n (by decide) (by have h91 := zfw_le (zrJ S) 3 ((j : Int) - 126); omega)) ?_
                  refine zast (t := j) hx hb hK hP hD hS 8 rfl (by omega) (by decide) dX5_countFewest_109 (fun H locs hP hD hS => ?_)
                  have hP : va_P D vwCl [(h, .inr (5, fs)), (hS9, .inr (3, ft)), (hr9, .inl (cI, 14, .inl ((fun i => S (32 + i))))), (hF9, .inl (cJ, 15, .inr (.inr (.inr (.inr (zq15 q0 q1 q2 q3 q4 q5 q6 q7 q8 q9 q10 q11 q12 q13 q14)))))), (q0, .inl (cI, 253, .inl (F 0))), (q1, .inl (cI, 253, .inl (F 1))), (q2, .inl (cI, 253, .inl (F 2))), (q3, .inl (cI, 253, .inl (F 3))), (q4, .inl (cI, 253, .inl (upd g9 j (nI (min 99 (min (99) (zfw (zrJ S) 3 ((j : Int) - 126)))))))), (q5, .inl (cI, 253, .inl (F 5))), (q6, .inl (cI, 253, .inl (F 6))), (q7, .inl (cI, 253, .inl (F 7))), (q8, .inl (cI, 253, .inl (F 8))), (q9, .inl (cI, 253, .inl (F 9))), (q10, .inl (cI, 253, .inl (F 10))), (q11, .inl (cI, 253, .inl (F 11))), (q12, .inl (cI, 253, .inl (F 12))), (q13, .inl (cI, 253, .inl (F 13))), (q14, .inl (cI, 253, .inl (F 14)))] H := hP
                  have hD : va_D AA [(h, .inr (5, fs)), (hS9, .inr (3, ft)), (hr9, .inl (cI, 14, .inl ((fun i => S (32 + i))))), (hF9, .inl (cJ, 15, .inr (.inr (.inr (.inr (zq15 q0 q1 q2 q3 q4 q5 q6 q7 q8 q9 q10 q11 q12 q13 q14)))))), (q0, .inl (cI, 253, .inl (F 0))), (q1, .inl (cI, 253, .inl (F 1))), (q2, .inl (cI, 253, .inl (F 2))), (q3, .inl (cI, 253, .inl (F 3))), (q4, .inl (cI, 253, .inl (upd g9 j (nI (min 99 (min (99) (zfw (zrJ S) 3 ((j : Int) - 126)))))))), (q5, .inl (cI, 253, .inl (F 5))), (q6, .inl (cI, 253, .inl (F 6))), (q7, .inl (cI, 253, .inl (F 7))), (q8, .inl (cI, 253, .inl (F 8))), (q9, .inl (cI, 253, .inl (F 9))), (q10, .inl (cI, 253, .inl (F 10))), (q11, .inl (cI, 253, .inl (F 11))), (q12, .inl (cI, 253, .inl (F 12))), (q13, .inl (cI, 253, .inl (F 13))), (q14, .inl (cI, 253, .inl (F 14)))] := hD
                  refine lv_iinc (v := nI (j + 1)) (lv' := [(2, .int (nI (j + 1))), (4, .int (nI 99)), (3, .int bf), (0, .ref h), (1, .int (nI 3))]) hx hb dX5_countFewest_110 hl (k := 4) rfl (nI_add _ _) (by decide) rfl (fun ls hl => ?_)
                  refine lv_goto (tgt := 36) hx hb dX5_countFewest_113 (by decide) ?_
                  exact ih_36  (j + 1) (upd g9 j (nI (min 99 (min (99) (zfw (zrJ S) 3 ((j : Int) - 126)))))) (by omega) (by omega) (fun x h91 => (Nat.lt_or_ge x j).elim (fun h92 => (if_neg (show ¬ x = j by omega)).trans (hg x h92)) (fun h92 => by rw [show x = j by omega]; exact (if_pos rfl).trans (zfw_out hri (by decide) (by omega) ebf (by assumption)))) ls (lv_sub hl [3, 4, 0] rfl) H locs hP hD hS
                · have c67_11 := bI_nX0.mp c67_11
                  obtain ⟨q, h_q, rfl⟩ : ∃ q : Nat, q ≤ 252 ∧ bf = nI q := zrg_of c67_11 (by decide)
                  refine lv_aload_n hx hb dX5_countFewest_70 rfl (lv_at hl 2 rfl) ?_
                  refine va_get (ci := 5) (v := .ref hF9) (C := RX5) (T := TX5) (N := 9) hx hb hts hin5 hown hK hP 0 rfl rfl 6 (by decide) (hts (.fieldLink RX5 45 "UpAllRound" "fewest" "[[I") (List.mem_of_getElem? (i := 1) rfl)) (fun _ h9 => h9) hU6 dX5_countFewest_71 ?_
                  refine lv_iload_n hx hb dX5_countFewest_74 rfl (lv_at hl 3 rfl) ?_
                  refine zaldq (t := 3) (x := q3) hx hb hK hP 3 rfl (by decide) (by decide) rfl dX5_countFewest_75 ?_
                  refine lv_iload_n hx hb dX5_countFewest_76 rfl (lv_at hl 1 rfl) ?_
                  refine zald (t := q) hx hb hK hP 7 rfl (by omega) (by decide) dX5_countFewest_77 ?_
                  refine zrw (hF 3 (by omega) q (by omega)) ?_
                  refine lv_iconst (v := nI 1) hx hb dX5_countFewest_78 (by decide) ?_
                  refine lv_iadd hx hb dX5_countFewest_79 ?_
                  refine zrw (nI_add _ _) ?_
                  refine lv_istore (lv' := [(4, .int (nI ((zfw (zrJ S) 3 ((q : Int) - 126)) + 1))), (3, .int (nI q)), (0, .ref h), (1, .int (nI 3)), (2, .int (nI j))]) hx hb dX5_countFewest_80 hl (by decide) rfl (fun ls hl => ?_)
                  refine lv_aload_n hx hb dX5_countFewest_82 rfl (lv_at hl 2 rfl) ?_
                  refine va_get (ci := 5) (v := .ref hF9) (C := RX5) (T := TX5) (N := 9) hx hb hts hin5 hown hK hP 0 rfl rfl 6 (by decide) (hts (.fieldLink RX5 45 "UpAllRound" "fewest" "[[I") (List.mem_of_getElem? (i := 1) rfl)) (fun _ h9 => h9) hU6 dX5_countFewest_83 ?_
                  refine lv_iload_n hx hb dX5_countFewest_86 rfl (lv_at hl 3 rfl) ?_
                  refine lv_iconst (v := nI 1) hx hb dX5_countFewest_87 (by decide) ?_
                  refine lv_iadd hx hb dX5_countFewest_88 ?_
                  refine zrw (nI_add _ _) ?_
                  refine zaldq (t := 4) (x := q4) hx hb hK hP 3 rfl (by decide) (by decide) rfl dX5_countFewest_89 ?_
                  refine lv_iload_n hx hb dX5_countFewest_90 rfl (lv_at hl 4 rfl) ?_
                  refine lv_bipush (v := nI 99) hx hb dX5_countFewest_91 (by decide) ?_
                  refine lv_iload hx hb dX5_countFewest_93 (lv_at hl 0 rfl) ?_
                  refine lv_aload_n hx hb dX5_countFewest_95 rfl (lv_at hl 2 rfl) ?_
                  refine va_get (ci := 5) (v := .ref hF9) (C := RX5) (T := TX5) (N := 9) hx hb hts hin5 hown hK hP 0 rfl rfl 6 (by decide) (hts (.fieldLink RX5 45 "UpAllRound" "fewest" "[[I") (List.mem_of_getElem? (i := 1) rfl)) (fun _ h9 => h9) hU6 dX5_countFewest_96 ?_
                  refine lv_iload_n hx hb dX5_countFewest_99 rfl (lv_at hl 3 rfl) ?_
                  refine zaldq (t := 3) (x := q3) hx hb hK hP 3 rfl (by decide) (by decide) rfl dX5_countFewest_100 ?_
                  refine lv_iload_n hx hb dX5_countFewest_101 rfl (lv_at hl 4 rfl) ?_
                  refine zald (t := j) hx hb hK hP 7 rfl (by omega) (by decide) dX5_countFewest_102 ?_
                  refine zrw (hF 3 (by omega) j (by omega)) ?_
                  refine va_mmin hx hb (by rw [hml]; exact hl.1.symm) hown (hts (.methodLink RX5 246 Lib.Math.min.name) (List.mem_of_getElem? (i := 3) rfl)) (hts (.static Lib.Math.min.name) (List.mem_of_getElem? (i := 4) rfl)) (hts (.initialized "java/lang/Math") (List.mem_of_getElem? (i := 5) rfl)) (hts (.code Lib.Math.min.name Lib.Math.min.code 2 (some .int)) (List.mem_of_getElem? (i := 6) rfl)) (Nat.le_of_ble_eq_true rfl) (Nat.le_of_ble_eq_true rfl) (Nat.zero_le _) (Nat.zero_le _) dX5_countFewest_103 ?_
                  refine zrw (zmin_n (by have h91 := zfw_le (zrJ S) 3 ((q : Int) - 126); omega) (by have h91 := zfw_le (zrJ S) 3 ((j : Int) - 126); omega)) ?_
                  refine va_mmin hx hb (by rw [hml]; exact hl.1.symm) hown (hts (.methodLink RX5 246 Lib.Math.min.name) (List.mem_of_getElem? (i := 3) rfl)) (hts (.static Lib.Math.min.name) (List.mem_of_getElem? (i := 4) rfl)) (hts (.initialized "java/lang/Math") (List.mem_of_getElem? (i := 5) rfl)) (hts (.code Lib.Math.min.name Lib.Math.min.code 2 (some .int)) (List.mem_of_getElem? (i := 6) rfl)) (Nat.le_of_ble_eq_true rfl) (Nat.le_of_ble_eq_true rfl) (Nat.zero_le _) (Nat.zero_le _) dX5_countFewest_106 ?_
                  refine zrw (zmin_n (by decide) (by have h91 := zfw_le (zrJ S) 3 ((j : Int) - 126); omega)) ?_
                  refine zast (t := j) hx hb hK hP hD hS 8 rfl (by omega) (by decide) dX5_countFewest_109 (fun H locs hP hD hS => ?_)
                  have hP : va_P D vwCl [(h, .inr (5, fs)), (hS9, .inr (3, ft)), (hr9, .inl (cI, 14, .inl ((fun i => S (32 + i))))), (hF9, .inl (cJ, 15, .inr (.inr (.inr (.inr (zq15 q0 q1 q2 q3 q4 q5 q6 q7 q8 q9 q10 q11 q12 q13 q14)))))), (q0, .inl (cI, 253, .inl (F 0))), (q1, .inl (cI, 253, .inl (F 1))), (q2, .inl (cI, 253, .inl (F 2))), (q3, .inl (cI, 253, .inl (F 3))), (q4, .inl (cI, 253, .inl (upd g9 j (nI (min 99 (min (zfw (zrJ S) 3 ((q : Int) - 126) + 1) (zfw (zrJ S) 3 ((j : Int) - 126)))))))), (q5, .inl (cI, 253, .inl (F 5))), (q6, .inl (cI, 253, .inl (F 6))), (q7, .inl (cI, 253, .inl (F 7))), (q8, .inl (cI, 253, .inl (F 8))), (q9, .inl (cI, 253, .inl (F 9))), (q10, .inl (cI, 253, .inl (F 10))), (q11, .inl (cI, 253, .inl (F 11))), (q12, .inl (cI, 253, .inl (F 12))), (q13, .inl (cI, 253, .inl (F 13))), (q14, .inl (cI, 253, .inl (F 14)))] H := hP
                  have hD : va_D AA [(h, .inr (5, fs)), (hS9, .inr (3, ft)), (hr9, .inl (cI, 14, .inl ((fun i => S (32 + i))))), (hF9, .inl (cJ, 15, .inr (.inr (.inr (.inr (zq15 q0 q1 q2 q3 q4 q5 q6 q7 q8 q9 q10 q11 q12 q13 q14)))))), (q0, .inl (cI, 253, .inl (F 0))), (q1, .inl (cI, 253, .inl (F 1))), (q2, .inl (cI, 253, .inl (F 2))), (q3, .inl (cI, 253, .inl (F 3))), (q4, .inl (cI, 253, .inl (upd g9 j (nI (min 99 (min (zfw (zrJ S) 3 ((q : Int) - 126) + 1) (zfw (zrJ S) 3 ((j : Int) - 126)))))))), (q5, .inl (cI, 253, .inl (F 5))), (q6, .inl (cI, 253, .inl (F 6))), (q7, .inl (cI, 253, .inl (F 7))), (q8, .inl (cI, 253, .inl (F 8))), (q9, .inl (cI, 253, .inl (F 9))), (q10, .inl (cI, 253, .inl (F 10))), (q11, .inl (cI, 253, .inl (F 11))), (q12, .inl (cI, 253, .inl (F 12))), (q13, .inl (cI, 253, .inl (F 13))), (q14, .inl (cI, 253, .inl (F 14)))] := hD
                  refine lv_iinc (v := nI (j + 1)) (lv' := [(2, .int (nI (j + 1))), (4, .int (nI ((zfw (zrJ S) 3 ((q : Int) - 126)) + 1))), (3, .int (nI q)), (0, .ref h), (1, .int (nI 3))]) hx hb dX5_countFewest_110 hl (k := 4) rfl (nI_add _ _) (by decide) rfl (fun ls hl => ?_)
                  refine lv_goto (tgt := 36) hx hb dX5_countFewest_113 (by decide) ?_
                  exact ih_36  (j + 1) (upd g9 j (nI (min 99 (min (zfw (zrJ S) 3 ((q : Int) - 126) + 1) (zfw (zrJ S) 3 ((j : Int) - 126)))))) (by omega) (by omega) (fun x h91 => (Nat.lt_or_ge x j).elim (fun h92 => (if_neg (show ¬ x = j by omega)).trans (hg x h92)) (fun h92 => by rw [show x = j by omega]; exact (if_pos rfl).trans (zfw_in (hri 3 (by decide)) (by omega) (by omega) ebf))) ls (lv_sub hl [3, 4, 0] rfl) H locs hP hD hS
          exact L_36 (253 + 1) 0 (F 4) (by omega) (by omega) (fun x h91 => absurd h91 (by omega)) ls (lv_sub hl [1, 2, 0] rfl) _ _ hP hD hS
        · subst h9
          refine lv_iconst (v := nI 0) hx hb dX5_countFewest_34 (by decide) ?_
          refine lv_istore_n (lv' := [(2, .int (nI 0)), (0, .ref h), (1, .int (nI 4))]) hx hb dX5_countFewest_35 rfl hl (by decide) rfl (fun ls hl => ?_)
          have L_36 : ∀ (fu j : Nat) (g9 : Nat → Int32) (hi : j ≤ 253) (hn : 253 + 1 ≤ j + fu) (hg : ∀ x, x < j → g9 x = nI (zfw (zrJ S) (4 + 1) ((x : Int) - 126))), ∀ (ls : Array Slot), lv_has ls 5 [(0, .ref h), (1, .int (nI 4)), (2, .int (nI j))] → ∀ (H : Heap) (locs : List Loc), va_P D vwCl [(h, .inr (5, fs)), (hS9, .inr (3, ft)), (hr9, .inl (cI, 14, .inl ((fun i => S (32 + i))))), (hF9, .inl (cJ, 15, .inr (.inr (.inr (.inr (zq15 q0 q1 q2 q3 q4 q5 q6 q7 q8 q9 q10 q11 q12 q13 q14)))))), (q0, .inl (cI, 253, .inl (F 0))), (q1, .inl (cI, 253, .inl (F 1))), (q2, .inl (cI, 253, .inl (F 2))), (q3, .inl (cI, 253, .inl (F 3))), (q4, .inl (cI, 253, .inl (F 4))), (q5, .inl (cI, 253, .inl g9)), (q6, .inl (cI, 253, .inl (F 6))), (q7, .inl (cI, 253, .inl (F 7))), (q8, .inl (cI, 253, .inl (F 8))), (q9, .inl (cI, 253, .inl (F 9))), (q10, .inl (cI, 253, .inl (F 10))), (q11, .inl (cI, 253, .inl (F 11))), (q12, .inl (cI, 253, .inl (F 12))), (q13, .inl (cI, 253, .inl (F 13))), (q14, .inl (cI, 253, .inl (F 14)))] H → va_D AA [(h, .inr (5, fs)), (hS9, .inr (3, ft)), (hr9, .inl (cI, 14, .inl ((fun i => S (32 + i))))), (hF9, .inl (cJ, 15, .inr (.inr (.inr (.inr (zq15 q0 q1 q2 q3 q4 q5 q6 q7 q8 q9 q10 q11 q12 q13 q14)))))), (q0, .inl (cI, 253, .inl (F 0))), (q1, .inl (cI, 253, .inl (F 1))), (q2, .inl (cI, 253, .inl (F 2))), (q3, .inl (cI, 253, .inl (F 3))), (q4, .inl (cI, 253, .inl (F 4))), (q5, .inl (cI, 253, .inl g9)), (q6, .inl (cI, 253, .inl (F 6))), (q7, .inl (cI, 253, .inl (F 7))), (q8, .inl (cI, 253, .inl (F 8))), (q9, .inl (cI, 253, .inl (F 9))), (q10, .inl (cI, 253, .inl (F 10))), (q11, .inl (cI, 253, .inl (F 11))), (q12, .inl (cI, 253, .inl (F 12))), (q13, .inl (cI, 253, .inl (F 13))), (q14, .inl (cI, 253, .inl (F 14)))] → va_S AA s.heap H locs → W pg l ev ({ frames := 1, cells := 0, slots := 0, locals := 23 } : Room) s mt args below meth cd H locs 0 0 QQ (F0 mt 36 ls []) := by
            intro fu
            induction fu with
            | zero =>
              intro j g9 hi hn
              exact absurd hn (by omega)
            | succ fu ih_36 =>
              intro j g9 hi hn hg ls hl H locs hP hD hS
              refine lv_iload_n hx hb dX5_countFewest_36 rfl (lv_at hl 2 rfl) ?_
              refine lv_sipush (v := nI 252) hx hb dX5_countFewest_37 (by decide) ?_
              refine lv_icmp_gt (tgt := 116) hx hb dX5_countFewest_40 (by decide) (fun c40_12 => ?_) (fun c40_12 => ?_)
              · have c40_12 : 252 < j := (nI_ltI (a := 252) (b := j) (by omega) (by omega)).mp c40_12
                refine lv_iinc (v := nI (4 + 1)) (lv' := [(1, .int (nI (4 + 1))), (0, .ref h), (2, .int (nI j))]) hx hb dX5_countFewest_116 hl (k := 1) rfl (nI_add _ _) (by decide) rfl (fun ls hl => ?_)
                refine lv_goto (tgt := 23) hx hb dX5_countFewest_119 (by decide) ?_
                exact ih_23  (4 + 1) ((zlf [F 0, F 1, F 2, F 3, F 4, g9, F 6, F 7, F 8, F 9, F 10, F 11, F 12, F 13, F 14])) (by omega) (by omega) (fun k9 h91 x h92 => by rcases (show k9 = 0 ∨ k9 = 1 ∨ k9 = 2 ∨ k9 = 3 ∨ k9 = 4 ∨ k9 = 5 from by omega) with h9 | h9 | h9 | h9 | h9 | h9 <;> subst h9 <;> first | exact hg x (by omega) | exact hF _ (by omega) x h92) ls (lv_sub hl [1, 0] rfl) H locs hP hD hS
              · have c40_12 : ¬ (252 < j) := fun h9 => c40_12 ((nI_ltI (a := 252) (b := j) (by omega) (by omega)).mpr h9)
                refine lv_iload_n hx hb dX5_countFewest_43 rfl (lv_at hl 2 rfl) ?_
                refine lv_aload_n hx hb dX5_countFewest_44 rfl (lv_at hl 0 rfl) ?_
                refine va_get (ci := 5) (v := .ref hS9) (C := RX5) (T := TX5) (N := 9) hx hb hts hin5 hown hK hP 0 rfl rfl 0 (by decide) (hts (.fieldLink RX5 12 "UpAllRound" "now" "LUpAllRound$Stair;") (List.mem_of_getElem? (i := 2) rfl)) (fun _ h9 => h9) hU0 dX5_countFewest_45 ?_
                refine va_getN (ci := 3) (v := .ref hr9) (C := RX3) (T := TX3) (N := 16) hx hb hts hin3 hown hK hP 1 rfl rfl 1 (by decide) (va_Nw.use rfl (hN (.fieldLinkNest "UpAllRound" 78 "UpAllRound$Stair" "rises" "[I" "UpAllRound") (List.mem_of_getElem? (i := 1) rfl))) (fun _ h9 => h9) hft1 dX5_countFewest_48 ?_
                refine lv_iload_n hx hb dX5_countFewest_51 rfl (lv_at hl 1 rfl) ?_
                refine zald (t := 4) hx hb hK hP 2 rfl (by omega) (by decide) dX5_countFewest_52 ?_
                refine zrw rfl ?_
                refine lv_isub hx hb dX5_countFewest_53 ?_
                refine lv_topi (fun bf ebf => ?_)
                refine lv_istore_n (lv' := [(3, .int bf), (0, .ref h), (1, .int (nI 4)), (2, .int (nI j))]) hx hb dX5_countFewest_54 rfl hl (by decide) rfl (fun ls hl => ?_)
                refine lv_bipush (v := nI 99) hx hb dX5_countFewest_55 (by decide) ?_
                refine lv_istore (lv' := [(4, .int (nI 99)), (3, .int bf), (0, .ref h), (1, .int (nI 4)), (2, .int (nI j))]) hx hb dX5_countFewest_57 hl (by decide) rfl (fun ls hl => ?_)
                refine lv_iload_n hx hb dX5_countFewest_59 rfl (lv_at hl 1 rfl) ?_
                refine lv_iconst (v := nI 0) hx hb dX5_countFewest_60 (by decide) ?_
                refine lv_sipush (v := nI 252) hx hb dX5_countFewest_61 (by decide) ?_
                refine zcsE (va_runS (As := [.int bf, .int (nI 0), .int (nI 252)]) (rest := []) ⟨hx, hb, hml, hown, hts⟩ (d_X5_isOutside l D cI cJ bf (nI 0) (nI 252) 0 252 (by decide) (by decide) H.size) (va_cwS 3 hts gX5_countFewest_X5_isOutside rfl rfl rfl (by decide +kernel) ⟨Nat.le_of_ble_eq_true rfl, Nat.le_of_ble_eq_true rfl⟩) (zpS hK hN hZ hP hD hS hA [] rfl (by decide)) rfl rfl hl.1 rfl (lv_room (Nat.le_of_ble_eq_true rfl)) dX5_countFewest_64 ⟨Nat.zero_le _, Nat.zero_le _⟩) ?_
                refine lv_if_ne (tgt := 82) hx hb dX5_countFewest_67 (by decide) (fun c67_13 => ?_) (fun c67_13 => ?_)
                · have c67_13 := bI_nn0.mp c67_13
                  refine lv_aload_n hx hb dX5_countFewest_82 rfl (lv_at hl 2 rfl) ?_
                  refine va_get (ci := 5) (v := .ref hF9) (C := RX5) (T := TX5) (N := 9) hx hb hts hin5 hown hK hP 0 rfl rfl 6 (by decide) (hts (.fieldLink RX5 45 "UpAllRound" "fewest" "[[I") (List.mem_of_getElem? (i := 1) rfl)) (fun _ h9 => h9) hU6 dX5_countFewest_83 ?_
                  refine lv_iload_n hx hb dX5_countFewest_86 rfl (lv_at hl 3 rfl) ?_
                  refine lv_iconst (v := nI 1) hx hb dX5_countFewest_87 (by decide) ?_
                  refine lv_iadd hx hb dX5_countFewest_88 ?_
                  refine zrw (nI_add _ _) ?_
                  refine zaldq (t := 5) (x := q5) hx hb hK hP 3 rfl (by decide) (by decide) rfl dX5_countFewest_89 ?_
                  refine lv_iload_n hx hb dX5_countFewest_90 rfl (lv_at hl 4 rfl) ?_
                  refine lv_bipush (v := nI 99) hx hb dX5_countFewest_91 (by decide) ?_
                  refine lv_iload hx hb dX5_countFewest_93 (lv_at hl 0 rfl) ?_
                  refine lv_aload_n hx hb dX5_countFewest_95 rfl (lv_at hl 2 rfl) ?_
                  refine va_get (ci := 5) (v := .ref hF9) (C := RX5) (T := TX5) (N := 9) hx hb hts hin5 hown hK hP 0 rfl rfl 6 (by decide) (hts (.fieldLink RX5 45 "UpAllRound" "fewest" "[[I") (List.mem_of_getElem? (i := 1) rfl)) (fun _ h9 => h9) hU6 dX5_countFewest_96 ?_
                  refine lv_iload_n hx hb dX5_countFewest_99 rfl (lv_at hl 3 rfl) ?_
                  refine zaldq (t := 4) (x := q4) hx hb hK hP 3 rfl (by decide) (by decide) rfl dX5_countFewest_100 ?_
                  refine lv_iload_n hx hb dX5_countFewest_101 rfl (lv_at hl 4 rfl) ?_
                  refine zald (t := j) hx hb hK hP 8 rfl (by omega) (by decide) dX5_countFewest_102 ?_
                  refine zrw (hF 4 (by omega) j (by omega)) ?_
                  refine va_mmin hx hb (by rw [hml]; exact hl.1.symm) hown (hts (.methodLink RX5 246 Lib.Math.min.name) (List.mem_of_getElem? (i := 3) rfl)) (hts (.static Lib.Math.min.name) (List.mem_of_getElem? (i := 4) rfl)) (hts (.initialized "java/lang/Math") (List.mem_of_getElem? (i := 5) rfl)) (hts (.code Lib.Math.min.name Lib.Math.min.code 2 (some .int)) (List.mem_of_getElem? (i := 6) rfl)) (Nat.le_of_ble_eq_true rfl) (Nat.le_of_ble_eq_true rfl) (Nat.zero_le _) (Nat.zero_le _) dX5_countFewest_103 ?_
                  refine zrw (zmin_n (by have h91 := zfw_le (zrJ S) 4 ((j : Int) - 126); omega) (by have h91 := zfw_le (zrJ S) 4 ((j : Int) - 126); omega)) ?_
                  refine va_mmin hx hb (by rw [hml]; exact hl.1.symm) hown (hts (.methodLink RX5 246 Lib.Math.min.name) (List.mem_of_getElem? (i := 3) rfl)) (hts (.static Lib.Math.min.name) (List.mem_of_getElem? (i := 4) rfl)) (hts (.initialized "java/lang/Math") (List.mem_of_getElem? (i := 5) rfl)) (hts (.code Lib.Math.min.name Lib.Math.min.code 2 (some .int)) (List.mem_of_getElem? (i := 6) rfl)) (Nat.le_of_ble_eq_true rfl) (Nat.le_of_ble_eq_true rfl) (Nat.zero_le _) (Nat.zero_le _) dX5_countFewest_106 ?_
                  refine zrw (zmin_n (by decide) (by have h91 := zfw_le (zrJ S) 4 ((j : Int) - 126); omega)) ?_
                  refine zast (t := j) hx hb hK hP hD hS 9 rfl (by omega) (by decide) dX5_countFewest_109 (fun H locs hP hD hS => ?_)
                  have hP : va_P D vwCl [(h, .inr (5, fs)), (hS9, .inr (3, ft)), (hr9, .inl (cI, 14, .inl ((fun i => S (32 + i))))), (hF9, .inl (cJ, 15, .inr (.inr (.inr (.inr (zq15 q0 q1 q2 q3 q4 q5 q6 q7 q8 q9 q10 q11 q12 q13 q14)))))), (q0, .inl (cI, 253, .inl (F 0))), (q1, .inl (cI, 253, .inl (F 1))), (q2, .inl (cI, 253, .inl (F 2))), (q3, .inl (cI, 253, .inl (F 3))), (q4, .inl (cI, 253, .inl (F 4))), (q5, .inl (cI, 253, .inl (upd g9 j (nI (min 99 (min (99) (zfw (zrJ S) 4 ((j : Int) - 126)))))))), (q6, .inl (cI, 253, .inl (F 6))), (q7, .inl (cI, 253, .inl (F 7))), (q8, .inl (cI, 253, .inl (F 8))), (q9, .inl (cI, 253, .inl (F 9))), (q10, .inl (cI, 253, .inl (F 10))), (q11, .inl (cI, 253, .inl (F 11))), (q12, .inl (cI, 253, .inl (F 12))), (q13, .inl (cI, 253, .inl (F 13))), (q14, .inl (cI, 253, .inl (F 14)))] H := hP
                  have hD : va_D AA [(h, .inr (5, fs)), (hS9, .inr (3, ft)), (hr9, .inl (cI, 14, .inl ((fun i => S (32 + i))))), (hF9, .inl (cJ, 15, .inr (.inr (.inr (.inr (zq15 q0 q1 q2 q3 q4 q5 q6 q7 q8 q9 q10 q11 q12 q13 q14)))))), (q0, .inl (cI, 253, .inl (F 0))), (q1, .inl (cI, 253, .inl (F 1))), (q2, .inl (cI, 253, .inl (F 2))), (q3, .inl (cI, 253, .inl (F 3))), (q4, .inl (cI, 253, .inl (F 4))), (q5, .inl (cI, 253, .inl (upd g9 j (nI (min 99 (min (99) (zfw (zrJ S) 4 ((j : Int) - 126)))))))), (q6, .inl (cI, 253, .inl (F 6))), (q7, .inl (cI, 253, .inl (F 7))), (q8, .inl (cI, 253, .inl (F 8))), (q9, .inl (cI, 253, .inl (F 9))), (q10, .inl (cI, 253, .inl (F 10))), (q11, .inl (cI, 253, .inl (F 11))), (q12, .inl (cI, 253, .inl (F 12))), (q13, .inl (cI, 253, .inl (F 13))), (q14, .inl (cI, 253, .inl (F 14)))] := hD
                  refine lv_iinc (v := nI (j + 1)) (lv' := [(2, .int (nI (j + 1))), (4, .int (nI 99)), (3, .int bf), (0, .ref h), (1, .int (nI 4))]) hx hb dX5_countFewest_110 hl (k := 4) rfl (nI_add _ _) (by decide) rfl (fun ls hl => ?_)
                  refine lv_goto (tgt := 36) hx hb dX5_countFewest_113 (by decide) ?_
                  exact ih_36  (j + 1) (upd g9 j (nI (min 99 (min (99) (zfw (zrJ S) 4 ((j : Int) - 126)))))) (by omega) (by omega) (fun x h91 => (Nat.lt_or_ge x j).elim (fun h92 => (if_neg (show ¬ x = j by omega)).trans (hg x h92)) (fun h92 => by rw [show x = j by omega]; exact (if_pos rfl).trans (zfw_out hri (by decide) (by omega) ebf (by assumption)))) ls (lv_sub hl [3, 4, 0] rfl) H locs hP hD hS
                · have c67_13 := bI_nX0.mp c67_13
                  obtain ⟨q, h_q, rfl⟩ : ∃ q : Nat, q ≤ 252 ∧ bf = nI q := zrg_of c67_13 (by decide)
                  refine lv_aload_n hx hb dX5_countFewest_70 rfl (lv_at hl 2 rfl) ?_
                  refine va_get (ci := 5) (v := .ref hF9) (C := RX5) (T := TX5) (N := 9) hx hb hts hin5 hown hK hP 0 rfl rfl 6 (by decide) (hts (.fieldLink RX5 45 "UpAllRound" "fewest" "[[I") (List.mem_of_getElem? (i := 1) rfl)) (fun _ h9 => h9) hU6 dX5_countFewest_71 ?_
                  refine lv_iload_n hx hb dX5_countFewest_74 rfl (lv_at hl 3 rfl) ?_
                  refine zaldq (t := 4) (x := q4) hx hb hK hP 3 rfl (by decide) (by decide) rfl dX5_countFewest_75 ?_
                  refine lv_iload_n hx hb dX5_countFewest_76 rfl (lv_at hl 1 rfl) ?_
                  refine zald (t := q) hx hb hK hP 8 rfl (by omega) (by decide) dX5_countFewest_77 ?_
                  refine zrw (hF 4 (by omega) q (by omega)) ?_
                  refine lv_iconst (v := nI 1) hx hb dX5_countFewest_78 (by decide) ?_
                  refine lv_iadd hx hb dX5_countFewest_79 ?_
                  refine zrw (nI_add _ _) ?_
                  refine lv_istore (lv' := [(4, .int (nI ((zfw (zrJ S) 4 ((q : Int) - 126)) + 1))), (3, .int (nI q)), (0, .ref h), (1, .int (nI 4)), (2, .int (nI j))]) hx hb dX5_countFewest_80 hl (by decide) rfl (fun ls hl => ?_)
                  refine lv_aload_n hx hb dX5_countFewest_82 rfl (lv_at hl 2 rfl) ?_
                  refine va_get (ci := 5) (v := .ref hF9) (C := RX5) (T := TX5) (N := 9) hx hb hts hin5 hown hK hP 0 rfl rfl 6 (by decide) (hts (.fieldLink RX5 45 "UpAllRound" "fewest" "[[I") (List.mem_of_getElem? (i := 1) rfl)) (fun _ h9 => h9) hU6 dX5_countFewest_83 ?_
                  refine lv_iload_n hx hb dX5_countFewest_86 rfl (lv_at hl 3 rfl) ?_
                  refine lv_iconst (v := nI 1) hx hb dX5_countFewest_87 (by decide) ?_
                  refine lv_iadd hx hb dX5_countFewest_88 ?_
                  refine zrw (nI_add _ _) ?_
                  refine zaldq (t := 5) (x := q5) hx hb hK hP 3 rfl (by decide) (by decide) rfl dX5_countFewest_89 ?_
                  refine lv_iload_n hx hb dX5_countFewest_90 rfl (lv_at hl 4 rfl) ?_
                  refine lv_bipush (v := nI 99) hx hb dX5_countFewest_91 (by decide) ?_
                  refine lv_iload hx hb dX5_countFewest_93 (lv_at hl 0 rfl) ?_
                  refine lv_aload_n hx hb dX5_countFewest_95 rfl (lv_at hl 2 rfl) ?_
                  refine va_get (ci := 5) (v := .ref hF9) (C := RX5) (T := TX5) (N := 9) hx hb hts hin5 hown hK hP 0 rfl rfl 6 (by decide) (hts (.fieldLink RX5 45 "UpAllRound" "fewest" "[[I") (List.mem_of_getElem? (i := 1) rfl)) (fun _ h9 => h9) hU6 dX5_countFewest_96 ?_
                  refine lv_iload_n hx hb dX5_countFewest_99 rfl (lv_at hl 3 rfl) ?_
                  refine zaldq (t := 4) (x := q4) hx hb hK hP 3 rfl (by decide) (by decide) rfl dX5_countFewest_100 ?_
                  refine lv_iload_n hx hb dX5_countFewest_101 rfl (lv_at hl 4 rfl) ?_
                  refine zald (t := j) hx hb hK hP 8 rfl (by omega) (by decide) dX5_countFewest_102 ?_
                  refine zrw (hF 4 (by omega) j (by omega)) ?_
                  refine va_mmin hx hb (by rw [hml]; exact hl.1.symm) hown (hts (.methodLink RX5 246 Lib.Math.min.name) (List.mem_of_getElem? (i := 3) rfl)) (hts (.static Lib.Math.min.name) (List.mem_of_getElem? (i := 4) rfl)) (hts (.initialized "java/lang/Math") (List.mem_of_getElem? (i := 5) rfl)) (hts (.code Lib.Math.min.name Lib.Math.min.code 2 (some .int)) (List.mem_of_getElem? (i := 6) rfl)) (Nat.le_of_ble_eq_true rfl) (Nat.le_of_ble_eq_true rfl) (Nat.zero_le _) (Nat.zero_le _) dX5_countFewest_103 ?_
                  refine zrw (zmin_n (by have h91 := zfw_le (zrJ S) 4 ((q : Int) - 126); omega) (by have h91 := zfw_le (zrJ S) 4 ((j : Int) - 126); omega)) ?_
                  refine va_mmin hx hb (by rw [hml]; exact hl.1.symm) hown (hts (.methodLink RX5 246 Lib.Math.min.name) (List.mem_of_getElem? (i := 3) rfl)) (hts (.static Lib.Math.min.name) (List.mem_of_getElem? (i := 4) rfl)) (hts (.initialized "java/lang/Math") (List.mem_of_getElem? (i := 5) rfl)) (hts (.code Lib.Math.min.name Lib.Math.min.code 2 (some .int)) (List.mem_of_getElem? (i := 6) rfl)) (Nat.le_of_ble_eq_true rfl) (Nat.le_of_ble_eq_true rfl) (Nat.zero_le _) (Nat.zero_le _) dX5_countFewest_106 ?_
                  refine zrw (zmin_n (by decide) (by have h91 := zfw_le (zrJ S) 4 ((j : Int) - 126); omega)) ?_
                  refine zast (t := j) hx hb hK hP hD hS 9 rfl (by omega) (by decide) dX5_countFewest_109 (fun H locs hP hD hS => ?_)
                  have hP : va_P D vwCl [(h, .inr (5, fs)), (hS9, .inr (3, ft)), (hr9, .inl (cI, 14, .inl ((fun i => S (32 + i))))), (hF9, .inl (cJ, 15, .inr (.inr (.inr (.inr (zq15 q0 q1 q2 q3 q4 q5 q6 q7 q8 q9 q10 q11 q12 q13 q14)))))), (q0, .inl (cI, 253, .inl (F 0))), (q1, .inl (cI, 253, .inl (F 1))), (q2, .inl (cI, 253, .inl (F 2))), (q3, .inl (cI, 253, .inl (F 3))), (q4, .inl (cI, 253, .inl (F 4))), (q5, .inl (cI, 253, .inl (upd g9 j (nI (min 99 (min (zfw (zrJ S) 4 ((q : Int) - 126) + 1) (zfw (zrJ S) 4 ((j : Int) - 126)))))))), (q6, .inl (cI, 253, .inl (F 6))), (q7, .inl (cI, 253, .inl (F 7))), (q8, .inl (cI, 253, .inl (F 8))), (q9, .inl (cI, 253, .inl (F 9))), (q10, .inl (cI, 253, .inl (F 10))), (q11, .inl (cI, 253, .inl (F 11))), (q12, .inl (cI, 253, .inl (F 12))), (q13, .inl (cI, 253, .inl (F 13))), (q14, .inl (cI, 253, .inl (F 14)))] H := hP
                  have hD : va_D AA [(h, .inr (5, fs)), (hS9, .inr (3, ft)), (hr9, .inl (cI, 14, .inl ((fun i => S (32 + i))))), (hF9, .inl (cJ, 15, .inr (.inr (.inr (.inr (zq15 q0 q1 q2 q3 q4 q5 q6 q7 q8 q9 q10 q11 q12 q13 q14)))))), (q0, .inl (cI, 253, .inl (F 0))), (q1, .inl (cI, 253, .inl (F 1))), (q2, .inl (cI, 253, .inl (F 2))), (q3, .inl (cI, 253, .inl (F 3))), (q4, .inl (cI, 253, .inl (F 4))), (q5, .inl (cI, 253, .inl (upd g9 j (nI (min 99 (min (zfw (zrJ S) 4 ((q : Int) - 126) + 1) (zfw (zrJ S) 4 ((j : Int) - 126)))))))), (q6, .inl (cI, 253, .inl (F 6))), (q7, .inl (cI, 253, .inl (F 7))), (q8, .inl (cI, 253, .inl (F 8))), (q9, .inl (cI, 253, .inl (F 9))), (q10, .inl (cI, 253, .inl (F 10))), (q11, .inl (cI, 253, .inl (F 11))), (q12, .inl (cI, 253, .inl (F 12))), (q13, .inl (cI, 253, .inl (F 13))), (q14, .inl (cI, 253, .inl (F 14)))] := hD
                  refine lv_iinc (v := nI (j + 1)) (lv' := [(2, .int (nI (j + 1))), (4, .int (nI ((zfw (zrJ S) 4 ((q : Int) - 126)) + 1))), (3, .int (nI q)), (0, .ref h), (1, .int (nI 4))]) hx hb dX5_countFewest_110 hl (k := 4) rfl (nI_add _ _) (by decide) rfl (fun ls hl => ?_)
                  refine lv_goto (tgt := 36) hx hb dX5_countFewest_113 (by decide) ?_
                  exact ih_36  (j + 1) (upd g9 j (nI (min 99 (min (zfw (zrJ S) 4 ((q : Int) - 126) + 1) (zfw (zrJ S) 4 ((j : Int) - 126)))))) (by omega) (by omega) (fun x h91 => (Nat.lt_or_ge x j).elim (fun h92 => (if_neg (show ¬ x = j by omega)).trans (hg x h92)) (fun h92 => by rw [show x = j by omega]; exact (if_pos rfl).trans (zfw_in (hri 4 (by decide)) (by omega) (by omega) ebf))) ls (lv_sub hl [3, 4, 0] rfl) H locs hP hD hS
          exact L_36 (253 + 1) 0 (F 5) (by omega) (by omega) (fun x h91 => absurd h91 (by omega)) ls (lv_sub hl [1, 2, 0] rfl) _ _ hP hD hS
        · subst h9
          refine lv_iconst (v := nI 0) hx hb dX5_countFewest_34 (by decide) ?_
          refine lv_istore_n (lv' := [(2, .int (nI 0)), (0, .ref h), (1, .int (nI 5))]) hx hb dX5_countFewest_35 rfl hl (by decide) rfl (fun ls hl => ?_)
          have L_36 : ∀ (fu j : Nat) (g9 : Nat → Int32) (hi : j ≤ 253) (hn : 253 + 1 ≤ j + fu) (hg : ∀ x, x < j → g9 x = nI (zfw (zrJ S) (5 + 1) ((x : Int) - 126))), ∀ (ls : Array Slot), lv_has ls 5 [(0, .ref h), (1, .int (nI 5)), (2, .int (nI j))] → ∀ (H : Heap) (locs : List Loc), va_P D vwCl [(h, .inr (5, fs)), (hS9, .inr (3, ft)), (hr9, .inl (cI, 14, .inl ((fun i => S (32 + i))))), (hF9, .inl (cJ, 15, .inr (.inr (.inr (.inr (zq15 q0 q1 q2 q3 q4 q5 q6 q7 q8 q9 q10 q11 q12 q13 q14)))))), (q0, .inl (cI, 253, .inl (F 0))), (q1, .inl (cI, 253, .inl (F 1))), (q2, .inl (cI, 253, .inl (F 2))), (q3, .inl (cI, 253, .inl (F 3))), (q4, .inl (cI, 253, .inl (F 4))), (q5, .inl (cI, 253, .inl (F 5))), (q6, .inl (cI, 253, .inl g9)), (q7, .inl (cI, 253, .inl (F 7))), (q8, .inl (cI, 253, .inl (F 8))), (q9, .inl (cI, 253, .inl (F 9))), (q10, .inl (cI, 253, .inl (F 10))), (q11, .inl (cI, 253, .inl (F 11))), (q12, .inl (cI, 253, .inl (F 12))), (q13, .inl (cI, 253, .inl (F 13))), (q14, .inl (cI, 253, .inl (F 14)))] H → va_D AA [(h, .inr (5, fs)), (hS9, .inr (3, ft)), (hr9, .inl (cI, 14, .inl ((fun i => S (32 + i))))), (hF9, .inl (cJ, 15, .inr (.inr (.inr (.inr (zq15 q0 q1 q2 q3 q4 q5 q6 q7 q8 q9 q10 q11 q12 q13 q14)))))), (q0, .inl (cI, 253, .inl (F 0))), (q1, .inl (cI, 253, .inl (F 1))), (q2, .inl (cI, 253, .inl (F 2))), (q3, .inl (cI, 253, .inl (F 3))), (q4, .inl (cI, 253, .inl (F 4))), (q5, .inl (cI, 253, .inl (F 5))), (q6, .inl (cI, 253, .inl g9)), (q7, .inl (cI, 253, .inl (F 7))), (q8, .inl (cI, 253, .inl (F 8))), (q9, .inl (cI, 253, .inl (F 9))), (q10, .inl (cI, 253, .inl (F 10))), (q11, .inl (cI, 253, .inl (F 11))), (q12, .inl (cI, 253, .inl (F 12))), (q13, .inl (cI, 253, .inl (F 13))), (q14, .inl (cI, 253, .inl (F 14)))] → va_S AA s.heap H locs → W pg l ev ({ frames := 1, cells := 0, slots := 0, locals := 23 } : Room) s mt args below meth cd H locs 0 0 QQ (F0 mt 36 ls []) := by
            intro fu
            induction fu with
            | zero =>
              intro j g9 hi hn
              exact absurd hn (by omega)
            | succ fu ih_36 =>
              intro j g9 hi hn hg ls hl H locs hP hD hS
              refine lv_iload_n hx hb dX5_countFewest_36 rfl (lv_at hl 2 rfl) ?_
              refine lv_sipush (v := nI 252) hx hb dX5_countFewest_37 (by decide) ?_
              refine lv_icmp_gt (tgt := 116) hx hb dX5_countFewest_40 (by decide) (fun c40_14 => ?_) (fun c40_14 => ?_)
              · have c40_14 : 252 < j := (nI_ltI (a := 252) (b := j) (by omega) (by omega)).mp c40_14
                refine lv_iinc (v := nI (5 + 1)) (lv' := [(1, .int (nI (5 + 1))), (0, .ref h), (2, .int (nI j))]) hx hb dX5_countFewest_116 hl (k := 1) rfl (nI_add _ _) (by decide) rfl (fun ls hl => ?_)
                refine lv_goto (tgt := 23) hx hb dX5_countFewest_119 (by decide) ?_
                exact ih_23  (5 + 1) ((zlf [F 0, F 1, F 2, F 3, F 4, F 5, g9, F 7, F 8, F 9, F 10, F 11, F 12, F 13, F 14])) (by omega) (by omega) (fun k9 h91 x h92 => by rcases (show k9 = 0 ∨ k9 = 1 ∨ k9 = 2 ∨ k9 = 3 ∨ k9 = 4 ∨ k9 = 5 ∨ k9 = 6 from by omega) with h9 | h9 | h9 | h9 | h9 | h9 | h9 <;> subst h9 <;> first | exact hg x (by omega) | exact hF _ (by omega) x h92) ls (lv_sub hl [1, 0] rfl) H locs hP hD hS
              · have c40_14 : ¬ (252 < j) := fun h9 => c40_14 ((nI_ltI (a := 252) (b := j) (by omega) (by omega)).mpr h9)
                refine lv_iload_n hx hb dX5_countFewest_43 rfl (lv_at hl 2 rfl) ?_
                refine lv_aload_n hx hb dX5_countFewest_44 rfl (lv_at hl 0 rfl) ?_
                refine va_get (ci := 5) (v := .ref hS9) (C := RX5) (T := TX5) (N := 9) hx hb hts hin5 hown hK hP 0 rfl rfl 0 (by decide) (hts (.fieldLink RX5 12 "UpAllRound" "now" "LUpAllRound$Stair;") (List.mem_of_getElem? (i := 2) rfl)) (fun _ h9 => h9) hU0 dX5_countFewest_45 ?_
                refine va_getN (ci := 3) (v := .ref hr9) (C := RX3) (T := TX3) (N := 16) hx hb hts hin3 hown hK hP 1 rfl rfl 1 (by decide) (va_Nw.use rfl (hN (.fieldLinkNest "UpAllRound" 78 "UpAllRound$Stair" "rises" "[I" "UpAllRound") (List.mem_of_getElem? (i := 1) rfl))) (fun _ h9 => h9) hft1 dX5_countFewest_48 ?_
                refine lv_iload_n hx hb dX5_countFewest_51 rfl (lv_at hl 1 rfl) ?_
                refine zald (t := 5) hx hb hK hP 2 rfl (by omega) (by decide) dX5_countFewest_52 ?_
                refine zrw rfl ?_
                refine lv_isub hx hb dX5_countFewest_53 ?_
                refine lv_topi (fun bf ebf => ?_)
                refine lv_istore_n (lv' := [(3, .int bf), (0, .ref h), (1, .int (nI 5)), (2, .int (nI j))]) hx hb dX5_countFewest_54 rfl hl (by decide) rfl (fun ls hl => ?_)
                refine lv_bipush (v := nI 99) hx hb dX5_countFewest_55 (by decide) ?_
                refine lv_istore (lv' := [(4, .int (nI 99)), (3, .int bf), (0, .ref h), (1, .int (nI 5)), (2, .int (nI j))]) hx hb dX5_countFewest_57 hl (by decide) rfl (fun ls hl => ?_)
                refine lv_iload_n hx hb dX5_countFewest_59 rfl (lv_at hl 1 rfl) ?_
                refine lv_iconst (v := nI 0) hx hb dX5_countFewest_60 (by decide) ?_
                refine lv_sipush (v := nI 252) hx hb dX5_countFewest_61 (by decide) ?_
                refine zcsE (va_runS (As := [.int bf, .int (nI 0), .int (nI 252)]) (rest := []) ⟨hx, hb, hml, hown, hts⟩ (d_X5_isOutside l D cI cJ bf (nI 0) (nI 252) 0 252 (by decide) (by decide) H.size) (va_cwS 3 hts gX5_countFewest_X5_isOutside rfl rfl rfl (by decide +kernel) ⟨Nat.le_of_ble_eq_true rfl, Nat.le_of_ble_eq_true rfl⟩) (zpS hK hN hZ hP hD hS hA [] rfl (by decide)) rfl rfl hl.1 rfl (lv_room (Nat.le_of_ble_eq_true rfl)) dX5_countFewest_64 ⟨Nat.zero_le _, Nat.zero_le _⟩) ?_
                refine lv_if_ne (tgt := 82) hx hb dX5_countFewest_67 (by decide) (fun c67_15 => ?_) (fun c67_15 => ?_)
                · have c67_15 := bI_nn0.mp c67_15
                  refine lv_aload_n hx hb dX5_countFewest_82 rfl (lv_at hl 2 rfl) ?_
                  refine va_get (ci := 5) (v := .ref hF9) (C := RX5) (T := TX5) (N := 9) hx hb hts hin5 hown hK hP 0 rfl rfl 6 (by decide) (hts (.fieldLink RX5 45 "UpAllRound" "fewest" "[[I") (List.mem_of_getElem? (i := 1) rfl)) (fun _ h9 => h9) hU6 dX5_countFewest_83 ?_
                  refine lv_iload_n hx hb dX5_countFewest_86 rfl (lv_at hl 3 rfl) ?_
                  refine lv_iconst (v := nI 1) hx hb dX5_countFewest_87 (by decide) ?_
                  refine lv_iadd hx hb dX5_countFewest_88 ?_
                  refine zrw (nI_add _ _) ?_
                  refine zaldq (t := 6) (x := q6) hx hb hK hP 3 rfl (by decide) (by decide) rfl dX5_countFewest_89 ?_
                  refine lv_iload_n hx hb dX5_countFewest_90 rfl (lv_at hl 4 rfl) ?_
                  refine lv_bipush (v := nI 99) hx hb dX5_countFewest_91 (by decide) ?_
                  refine lv_iload hx hb dX5_countFewest_93 (lv_at hl 0 rfl) ?_
                  refine lv_aload_n hx hb dX5_countFewest_95 rfl (lv_at hl 2 rfl) ?_
                  refine va_get (ci := 5) (v := .ref hF9) (C := RX5) (T := TX5) (N := 9) hx hb hts hin5 hown hK hP 0 rfl rfl 6 (by decide) (hts (.fieldLink RX5 45 "UpAllRound" "fewest" "[[I") (List.mem_of_getElem? (i := 1) rfl)) (fun _ h9 => h9) hU6 dX5_countFewest_96 ?_
                  refine lv_iload_n hx hb dX5_countFewest_99 rfl (lv_at hl 3 rfl) ?_
                  refine zaldq (t := 5) (x := q5) hx hb hK hP 3 rfl (by decide) (by decide) rfl dX5_countFewest_100 ?_
                  refine lv_iload_n hx hb dX5_countFewest_101 rfl (lv_at hl 4 rfl) ?_
                  refine zald (t := j) hx hb hK hP 9 rfl (by omega) (by decide) dX5_countFewest_102 ?_
                  refine zrw (hF 5 (by omega) j (by omega)) ?_
                  refine va_mmin hx hb (by rw [hml]; exact hl.1.symm) hown (hts (.methodLink RX5 246 Lib.Math.min.name) (List.mem_of_getElem? (i := 3) rfl)) (hts (.static Lib.Math.min.name) (List.mem_of_getElem? (i := 4) rfl)) (hts (.initialized "java/lang/Math") (List.mem_of_getElem? (i := 5) rfl)) (hts (.code Lib.Math.min.name Lib.Math.min.code 2 (some .int)) (List.mem_of_getElem? (i := 6) rfl)) (Nat.le_of_ble_eq_true rfl) (Nat.le_of_ble_eq_true rfl) (Nat.zero_le _) (Nat.zero_le _) dX5_countFewest_103 ?_
                  refine zrw (zmin_n (by have h91 := zfw_le (zrJ S) 5 ((j : Int) - 126); omega) (by have h91 := zfw_le (zrJ S) 5 ((j : Int) - 126); omega)) ?_
                  refine va_mmin hx hb (by rw [hml]; exact hl.1.symm) hown (hts (.methodLink RX5 246 Lib.Math.min.name) (List.mem_of_getElem? (i := 3) rfl)) (hts (.static Lib.Math.min.name) (List.mem_of_getElem? (i := 4) rfl)) (hts (.initialized "java/lang/Math") (List.mem_of_getElem? (i := 5) rfl)) (hts (.code Lib.Math.min.name Lib.Math.min.code 2 (some .int)) (List.mem_of_getElem? (i := 6) rfl)) (Nat.le_of_ble_eq_true rfl) (Nat.le_of_ble_eq_true rfl) (Nat.zero_le _) (Nat.zero_le _) dX5_countFewest_106 ?_
                  refine zrw (zmin_n (by decide) (by have h91 := zfw_le (zrJ S) 5 ((j : Int) - 126); omega)) ?_
                  refine zast (t := j) hx hb hK hP hD hS 10 rfl (by omega) (by decide) dX5_countFewest_109 (fun H locs hP hD hS => ?_)
                  have hP : va_P D vwCl [(h, .inr (5, fs)), (hS9, .inr (3, ft)), (hr9, .inl (cI, 14, .inl ((fun i => S (32 + i))))), (hF9, .inl (cJ, 15, .inr (.inr (.inr (.inr (zq15 q0 q1 q2 q3 q4 q5 q6 q7 q8 q9 q10 q11 q12 q13 q14)))))), (q0, .inl (cI, 253, .inl (F 0))), (q1, .inl (cI, 253, .inl (F 1))), (q2, .inl (cI, 253, .inl (F 2))), (q3, .inl (cI, 253, .inl (F 3))), (q4, .inl (cI, 253, .inl (F 4))), (q5, .inl (cI, 253, .inl (F 5))), (q6, .inl (cI, 253, .inl (upd g9 j (nI (min 99 (min (99) (zfw (zrJ S) 5 ((j : Int) - 126)))))))), (q7, .inl (cI, 253, .inl (F 7))), (q8, .inl (cI, 253, .inl (F 8))), (q9, .inl (cI, 253, .inl (F 9))), (q10, .inl (cI, 253, .inl (F 10))), (q11, .inl (cI, 253, .inl (F 11))), (q12, .inl (cI, 253, .inl (F 12))), (q13, .inl (cI, 253, .inl (F 13))), (q14, .inl (cI, 253, .inl (F 14)))] H := hP
                  have hD : va_D AA [(h, .inr (5, fs)), (hS9, .inr (3, ft)), (hr9, .inl (cI, 14, .inl ((fun i => S (32 + i))))), (hF9, .inl (cJ, 15, .inr (.inr (.inr (.inr (zq15 q0 q1 q2 q3 q4 q5 q6 q7 q8 q9 q10 q11 q12 q13 q14)))))), (q0, .inl (cI, 253, .inl (F 0))), (q1, .inl (cI, 253, .inl (F 1))), (q2, .inl (cI, 253, .inl (F 2))), (q3, .inl (cI, 253, .inl (F 3))), (q4, .inl (cI, 253, .inl (F 4))), (q5, .inl (cI, 253, .inl (F 5))), (q6, .inl (cI, 253, .inl (upd g9 j (nI (min 99 (min (99) (zfw (zrJ S) 5 ((j : Int) - 126)))))))), (q7, .inl (cI, 253, .inl (F 7))), (q8, .inl (cI, 253, .inl (F 8))), (q9, .inl (cI, 253, .inl (F 9))), (q10, .inl (cI, 253, .inl (F 10))), (q11, .inl (cI, 253, .inl (F 11))), (q12, .inl (cI, 253, .inl (F 12))), (q13, .inl (cI, 253, .inl (F 13))), (q14, .inl (cI, 253, .inl (F 14)))] := hD
                  refine lv_iinc (v := nI (j + 1)) (lv' := [(2, .int (nI (j + 1))), (4, .int (nI 99)), (3, .int bf), (0, .ref h), (1, .int (nI 5))]) hx hb dX5_countFewest_110 hl (k := 4) rfl (nI_add _ _) (by decide) rfl (fun ls hl => ?_)
                  refine lv_goto (tgt := 36) hx hb dX5_countFewest_113 (by decide) ?_
                  exact ih_36  (j + 1) (upd g9 j (nI (min 99 (min (99) (zfw (zrJ S) 5 ((j : Int) - 126)))))) (by omega) (by omega) (fun x h91 => (Nat.lt_or_ge x j).elim (fun h92 => (if_neg (show ¬ x = j by omega)).trans (hg x h92)) (fun h92 => by rw [show x = j by omega]; exact (if_pos rfl).trans (zfw_out hri (by decide) (by omega) ebf (by assumption)))) ls (lv_sub hl [3, 4, 0] rfl) H locs hP hD hS
                · have c67_15 := bI_nX0.mp c67_15
                  obtain ⟨q, h_q, rfl⟩ : ∃ q : Nat, q ≤ 252 ∧ bf = nI q := zrg_of c67_15 (by decide)
                  refine lv_aload_n hx hb dX5_countFewest_70 rfl (lv_at hl 2 rfl) ?_
                  refine va_get (ci := 5) (v := .ref hF9) (C := RX5) (T := TX5) (N := 9) hx hb hts hin5 hown hK hP 0 rfl rfl 6 (by decide) (hts (.fieldLink RX5 45 "UpAllRound" "fewest" "[[I") (List.mem_of_getElem? (i := 1) rfl)) (fun _ h9 => h9) hU6 dX5_countFewest_71 ?_
                  refine lv_iload_n hx hb dX5_countFewest_74 rfl (lv_at hl 3 rfl) ?_
                  refine zaldq (t := 5) (x := q5) hx hb hK hP 3 rfl (by decide) (by decide) rfl dX5_countFewest_75 ?_
                  refine lv_iload_n hx hb dX5_countFewest_76 rfl (lv_at hl 1 rfl) ?_
                  refine zald (t := q) hx hb hK hP 9 rfl (by omega) (by decide) dX5_countFewest_77 ?_
                  refine zrw (hF 5 (by omega) q (by omega)) ?_
                  refine lv_iconst (v := nI 1) hx hb dX5_countFewest_78 (by decide) ?_
                  refine lv_iadd hx hb dX5_countFewest_79 ?_
                  refine zrw (nI_add _ _) ?_
                  refine lv_istore (lv' := [(4, .int (nI ((zfw (zrJ S) 5 ((q : Int) - 126)) + 1))), (3, .int (nI q)), (0, .ref h), (1, .int (nI 5)), (2, .int (nI j))]) hx hb dX5_countFewest_80 hl (by decide) rfl (fun ls hl => ?_)
                  refine lv_aload_n hx hb dX5_countFewest_82 rfl (lv_at hl 2 rfl) ?_
                  refine va_get (ci := 5) (v := .ref hF9) (C := RX5) (T := TX5) (N := 9) hx hb hts hin5 hown hK hP 0 rfl rfl 6 (by decide) (hts (.fieldLink RX5 45 "UpAllRound" "fewest" "[[I") (List.mem_of_getElem? (i := 1) rfl)) (fun _ h9 => h9) hU6 dX5_countFewest_83 ?_
                  refine lv_iload_n hx hb dX5_countFewest_86 rfl (lv_at hl 3 rfl) ?_
                  refine lv_iconst (v := nI 1) hx hb dX5_countFewest_87 (by decide) ?_
                  refine lv_iadd hx hb dX5_countFewest_88 ?_
                  refine zrw (nI_add _ _) ?_
                  refine zaldq (t := 6) (x := q6) hx hb hK hP 3 rfl (by decide) (by decide) rfl dX5_countFewest_89 ?_
                  refine lv_iload_n hx hb dX5_countFewest_90 rfl (lv_at hl 4 rfl) ?_
                  refine lv_bipush (v := nI 99) hx hb dX5_countFewest_91 (by decide) ?_
                  refine lv_iload hx hb dX5_countFewest_93 (lv_at hl 0 rfl) ?_
                  refine lv_aload_n hx hb dX5_countFewest_95 rfl (lv_at hl 2 rfl) ?_
                  refine va_get (ci := 5) (v := .ref hF9) (C := RX5) (T := TX5) (N := 9) hx hb hts hin5 hown hK hP 0 rfl rfl 6 (by decide) (hts (.fieldLink RX5 45 "UpAllRound" "fewest" "[[I") (List.mem_of_getElem? (i := 1) rfl)) (fun _ h9 => h9) hU6 dX5_countFewest_96 ?_
                  refine lv_iload_n hx hb dX5_countFewest_99 rfl (lv_at hl 3 rfl) ?_
                  refine zaldq (t := 5) (x := q5) hx hb hK hP 3 rfl (by decide) (by decide) rfl dX5_countFewest_100 ?_
                  refine lv_iload_n hx hb dX5_countFewest_101 rfl (lv_at hl 4 rfl) ?_
                  refine zald (t := j) hx hb hK hP 9 rfl (by omega) (by decide) dX5_countFewest_102 ?_
                  refine zrw (hF 5 (by omega) j (by omega)) ?_
                  refine va_mmin hx hb (by rw [hml]; exact hl.1.symm) hown (hts (.methodLink RX5 246 Lib.Math.min.name) (List.mem_of_getElem? (i := 3) rfl)) (hts (.static Lib.Math.min.name) (List.mem_of_getElem? (i := 4) rfl)) (hts (.initialized "java/lang/Math") (List.mem_of_getElem? (i := 5) rfl)) (hts (.code Lib.Math.min.name Lib.Math.min.code 2 (some .int)) (List.mem_of_getElem? (i := 6) rfl)) (Nat.le_of_ble_eq_true rfl) (Nat.le_of_ble_eq_true rfl) (Nat.zero_le _) (Nat.zero_le _) dX5_countFewest_103 ?_
                  refine zrw (zmin_n (by have h91 := zfw_le (zrJ S) 5 ((q : Int) - 126); omega) (by have h91 := zfw_le (zrJ S) 5 ((j : Int) - 126); omega)) ?_
                  refine va_mmin hx hb (by rw [hml]; exact hl.1.symm) hown (hts (.methodLink RX5 246 Lib.Math.min.name) (List.mem_of_getElem? (i := 3) rfl)) (hts (.static Lib.Math.min.name) (List.mem_of_getElem? (i := 4) rfl)) (hts (.initialized "java/lang/Math") (List.mem_of_getElem? (i := 5) rfl)) (hts (.code Lib.Math.min.name Lib.Math.min.code 2 (some .int)) (List.mem_of_getElem? (i := 6) rfl)) (Nat.le_of_ble_eq_true rfl) (Nat.le_of_ble_eq_true rfl) (Nat.zero_le _) (Nat.zero_le _) dX5_countFewest_106 ?_
                  refine zrw (zmin_n (by decide) (by have h91 := zfw_le (zrJ S) 5 ((j : Int) - 126); omega)) ?_
                  refine zast (t := j) hx hb hK hP hD hS 10 rfl (by omega) (by decide) dX5_countFewest_109 (fun H locs hP hD hS => ?_)
                  have hP : va_P D vwCl [(h, .inr (5, fs)), (hS9, .inr (3, ft)), (hr9, .inl (cI, 14, .inl ((fun i => S (32 + i))))), (hF9, .inl (cJ, 15, .inr (.inr (.inr (.inr (zq15 q0 q1 q2 q3 q4 q5 q6 q7 q8 q9 q10 q11 q12 q13 q14)))))), (q0, .inl (cI, 253, .inl (F 0))), (q1, .inl (cI, 253, .inl (F 1))), (q2, .inl (cI, 253, .inl (F 2))), (q3, .inl (cI, 253, .inl (F 3))), (q4, .inl (cI, 253, .inl (F 4))), (q5, .inl (cI, 253, .inl (F 5))), (q6, .inl (cI, 253, .inl (upd g9 j (nI (min 99 (min (zfw (zrJ S) 5 ((q : Int) - 126) + 1) (zfw (zrJ S) 5 ((j : Int) - 126)))))))), (q7, .inl (cI, 253, .inl (F 7))), (q8, .inl (cI, 253, .inl (F 8))), (q9, .inl (cI, 253, .inl (F 9))), (q10, .inl (cI, 253, .inl (F 10))), (q11, .inl (cI, 253, .inl (F 11))), (q12, .inl (cI, 253, .inl (F 12))), (q13, .inl (cI, 253, .inl (F 13))), (q14, .inl (cI, 253, .inl (F 14)))] H := hP
                  have hD : va_D AA [(h, .inr (5, fs)), (hS9, .inr (3, ft)), (hr9, .inl (cI, 14, .inl ((fun i => S (32 + i))))), (hF9, .inl (cJ, 15, .inr (.inr (.inr (.inr (zq15 q0 q1 q2 q3 q4 q5 q6 q7 q8 q9 q10 q11 q12 q13 q14)))))), (q0, .inl (cI, 253, .inl (F 0))), (q1, .inl (cI, 253, .inl (F 1))), (q2, .inl (cI, 253, .inl (F 2))), (q3, .inl (cI, 253, .inl (F 3))), (q4, .inl (cI, 253, .inl (F 4))), (q5, .inl (cI, 253, .inl (F 5))), (q6, .inl (cI, 253, .inl (upd g9 j (nI (min 99 (min (zfw (zrJ S) 5 ((q : Int) - 126) + 1) (zfw (zrJ S) 5 ((j : Int) - 126)))))))), (q7, .inl (cI, 253, .inl (F 7))), (q8, .inl (cI, 253, .inl (F 8))), (q9, .inl (cI, 253, .inl (F 9))), (q10, .inl (cI, 253, .inl (F 10))), (q11, .inl (cI, 253, .inl (F 11))), (q12, .inl (cI, 253, .inl (F 12))), (q13, .inl (cI, 253, .inl (F 13))), (q14, .inl (cI, 253, .inl (F 14)))] := hD
                  refine lv_iinc (v := nI (j + 1)) (lv' := [(2, .int (nI (j + 1))), (4, .int (nI ((zfw (zrJ S) 5 ((q : Int) - 126)) + 1))), (3, .int (nI q)), (0, .ref h), (1, .int (nI 5))]) hx hb dX5_countFewest_110 hl (k := 4) rfl (nI_add _ _) (by decide) rfl (fun ls hl => ?_)
                  refine lv_goto (tgt := 36) hx hb dX5_countFewest_113 (by decide) ?_
                  exact ih_36  (j + 1) (upd g9 j (nI (min 99 (min (zfw (zrJ S) 5 ((q : Int) - 126) + 1) (zfw (zrJ S) 5 ((j : Int) - 126)))))) (by omega) (by omega) (fun x h91 => (Nat.lt_or_ge x j).elim (fun h92 => (if_neg (show ¬ x = j by omega)).trans (hg x h92)) (fun h92 => by rw [show x = j by omega]; exact (if_pos rfl).trans (zfw_in (hri 5 (by decide)) (by omega) (by omega) ebf))) ls (lv_sub hl [3, 4, 0] rfl) H locs hP hD hS
          exact L_36 (253 + 1) 0 (F 6) (by omega) (by omega) (fun x h91 => absurd h91 (by omega)) ls (lv_sub hl [1, 2, 0] rfl) _ _ hP hD hS
        · subst h9
          refine lv_iconst (v := nI 0) hx hb dX5_countFewest_34 (by decide) ?_
          refine lv_istore_n (lv' := [(2, .int (nI 0)), (0, .ref h), (1, .int (nI 6))]) hx hb dX5_countFewest_35 rfl hl (by decide) rfl (fun ls hl => ?_)
          have L_36 : ∀ (fu j : Nat) (g9 : Nat → Int32) (hi : j ≤ 253) (hn : 253 + 1 ≤ j + fu) (hg : ∀ x, x < j → g9 x = nI (zfw (zrJ S) (6 + 1) ((x : Int) - 126))), ∀ (ls : Array Slot), lv_has ls 5 [(0, .ref h), (1, .int (nI 6)), (2, .int (nI j))] → ∀ (H : Heap) (locs : List Loc), va_P D vwCl [(h, .inr (5, fs)), (hS9, .inr (3, ft)), (hr9, .inl (cI, 14, .inl ((fun i => S (32 + i))))), (hF9, .inl (cJ, 15, .inr (.inr (.inr (.inr (zq15 q0 q1 q2 q3 q4 q5 q6 q7 q8 q9 q10 q11 q12 q13 q14)))))), (q0, .inl (cI, 253, .inl (F 0))), (q1, .inl (cI, 253, .inl (F 1))), (q2, .inl (cI, 253, .inl (F 2))), (q3, .inl (cI, 253, .inl (F 3))), (q4, .inl (cI, 253, .inl (F 4))), (q5, .inl (cI, 253, .inl (F 5))), (q6, .inl (cI, 253, .inl (F 6))), (q7, .inl (cI, 253, .inl g9)), (q8, .inl (cI, 253, .inl (F 8))), (q9, .inl (cI, 253, .inl (F 9))), (q10, .inl (cI, 253, .inl (F 10))), (q11, .inl (cI, 253, .inl (F 11))), (q12, .inl (cI, 253, .inl (F 12))), (q13, .inl (cI, 253, .inl (F 13))), (q14, .inl (cI, 253, .inl (F 14)))] H → va_D AA [(h, .inr (5, fs)), (hS9, .inr (3, ft)), (hr9, .inl (cI, 14, .inl ((fun i => S (32 + i))))), (hF9, .inl (cJ, 15, .inr (.inr (.inr (.inr (zq15 q0 q1 q2 q3 q4 q5 q6 q7 q8 q9 q10 q11 q12 q13 q14)))))), (q0, .inl (cI, 253, .inl (F 0))), (q1, .inl (cI, 253, .inl (F 1))), (q2, .inl (cI, 253, .inl (F 2))), (q3, .inl (cI, 253, .inl (F 3))), (q4, .inl (cI, 253, .inl (F 4))), (q5, .inl (cI, 253, .inl (F 5))), (q6, .inl (cI, 253, .inl (F 6))), (q7, .inl (cI, 253, .inl g9)), (q8, .inl (cI, 253, .inl (F 8))), (q9, .inl (cI, 253, .inl (F 9))), (q10, .inl (cI, 253, .inl (F 10))), (q11, .inl (cI, 253, .inl (F 11))), (q12, .inl (cI, 253, .inl (F 12))), (q13, .inl (cI, 253, .inl (F 13))), (q14, .inl (cI, 253, .inl (F 14)))] → va_S AA s.heap H locs → W pg l ev ({ frames := 1, cells := 0, slots := 0, locals := 23 } : Room) s mt args below meth cd H locs 0 0 QQ (F0 mt 36 ls []) := by
            intro fu
            induction fu with
            | zero =>
              intro j g9 hi hn
              exact absurd hn (by omega)
            | succ fu ih_36 =>
              intro j g9 hi hn hg ls hl H locs hP hD hS
              refine lv_iload_n hx hb dX5_countFewest_36 rfl (lv_at hl 2 rfl) ?_
              refine lv_sipush (v := nI 252) hx hb dX5_countFewest_37 (by decide) ?_
              refine lv_icmp_gt (tgt := 116) hx hb dX5_countFewest_40 (by decide) (fun c40_16 => ?_) (fun c40_16 => ?_)
              · have c40_16 : 252 < j := (nI_ltI (a := 252) (b := j) (by omega) (by omega)).mp c40_16
                refine lv_iinc (v := nI (6 + 1)) (lv' := [(1, .int (nI (6 + 1))), (0, .ref h), (2, .int (nI j))]) hx hb dX5_countFewest_116 hl (k := 1) rfl (nI_add _ _) (by decide) rfl (fun ls hl => ?_)
                refine lv_goto (tgt := 23) hx hb dX5_countFewest_119 (by decide) ?_
                exact ih_23  (6 + 1) ((zlf [F 0, F 1, F 2, F 3, F 4, F 5, F 6, g9, F 8, F 9, F 10, F 11, F 12, F 13, F 14])) (by omega) (by omega) (fun k9 h91 x h92 => by rcases (show k9 = 0 ∨ k9 = 1 ∨ k9 = 2 ∨ k9 = 3 ∨ k9 = 4 ∨ k9 = 5 ∨ k9 = 6 ∨ k9 = 7 from by omega) with h9 | h9 | h9 | h9 | h9 | h9 | h9 | h9 <;> subst h9 <;> first | exact hg x (by omega) | exact hF _ (by omega) x h92) ls (lv_sub hl [1, 0] rfl) H locs hP hD hS
              · have c40_16 : ¬ (252 < j) := fun h9 => c40_16 ((nI_ltI (a := 252) (b := j) (by omega) (by omega)).mpr h9)
                refine lv_iload_n hx hb dX5_countFewest_43 rfl (lv_at hl 2 rfl) ?_
                refine lv_aload_n hx hb dX5_countFewest_44 rfl (lv_at hl 0 rfl) ?_
                refine va_get (ci := 5) (v := .ref hS9) (C := RX5) (T := TX5) (N := 9) hx hb hts hin5 hown hK hP 0 rfl rfl 0 (by decide) (hts (.fieldLink RX5 12 "UpAllRound" "now" "LUpAllRound$Stair;") (List.mem_of_getElem? (i := 2) rfl)) (fun _ h9 => h9) hU0 dX5_countFewest_45 ?_
                refine va_getN (ci := 3) (v := .ref hr9) (C := RX3) (T := TX3) (N := 16) hx hb hts hin3 hown hK hP 1 rfl rfl 1 (by decide) (va_Nw.use rfl (hN (.fieldLinkNest "UpAllRound" 78 "UpAllRound$Stair" "rises" "[I" "UpAllRound") (List.mem_of_getElem? (i := 1) rfl))) (fun _ h9 => h9) hft1 dX5_countFewest_48 ?_
                refine lv_iload_n hx hb dX5_countFewest_51 rfl (lv_at hl 1 rfl) ?_
                refine zald (t := 6) hx hb hK hP 2 rfl (by omega) (by decide) dX5_countFewest_52 ?_
                refine zrw rfl ?_
                refine lv_isub hx hb dX5_countFewest_53 ?_
                refine lv_topi (fun bf ebf => ?_)
                refine lv_istore_n (lv' := [(3, .int bf), (0, .ref h), (1, .int (nI 6)), (2, .int (nI j))]) hx hb dX5_countFewest_54 rfl hl (by decide) rfl (fun ls hl => ?_)
                refine lv_bipush (v := nI 99) hx hb dX5_countFewest_55 (by decide) ?_
                refine lv_istore (lv' := [(4, .int (nI 99)), (3, .int bf), (0, .ref h), (1, .int (nI 6)), (2, .int (nI j))]) hx hb dX5_countFewest_57 hl (by decide) rfl (fun ls hl => ?_)
                refine lv_iload_n hx hb dX5_countFewest_59 rfl (lv_at hl 1 rfl) ?_
                refine lv_iconst (v := nI 0) hx hb dX5_countFewest_60 (by decide) ?_
                refine lv_sipush (v := nI 252) hx hb dX5_countFewest_61 (by decide) ?_
                refine zcsE (va_runS (As := [.int bf, .int (nI 0), .int (nI 252)]) (rest := []) ⟨hx, hb, hml, hown, hts⟩ (d_X5_isOutside l D cI cJ bf (nI 0) (nI 252) 0 252 (by decide) (by decide) H.size) (va_cwS 3 hts gX5_countFewest_X5_isOutside rfl rfl rfl (by decide +kernel) ⟨Nat.le_of_ble_eq_true rfl, Nat.le_of_ble_eq_true rfl⟩) (zpS hK hN hZ hP hD hS hA [] rfl (by decide)) rfl rfl hl.1 rfl (lv_room (Nat.le_of_ble_eq_true rfl)) dX5_countFewest_64 ⟨Nat.zero_le _, Nat.zero_le _⟩) ?_
                refine lv_if_ne (tgt := 82) hx hb dX5_countFewest_67 (by decide) (fun c67_17 => ?_) (fun c67_17 => ?_)
                · have c67_17 := bI_nn0.mp c67_17
                  refine lv_aload_n hx hb dX5_countFewest_82 rfl (lv_at hl 2 rfl) ?_
                  refine va_get (ci := 5) (v := .ref hF9) (C := RX5) (T := TX5) (N := 9) hx hb hts hin5 hown hK hP 0 rfl rfl 6 (by decide) (hts (.fieldLink RX5 45 "UpAllRound" "fewest" "[[I") (List.mem_of_getElem? (i := 1) rfl)) (fun _ h9 => h9) hU6 dX5_countFewest_83 ?_
                  refine lv_iload_n hx hb dX5_countFewest_86 rfl (lv_at hl 3 rfl) ?_
                  refine lv_iconst (v := nI 1) hx hb dX5_countFewest_87 (by decide) ?_
                  refine lv_iadd hx hb dX5_countFewest_88 ?_
                  refine zrw (nI_add _ _) ?_
                  refine zaldq (t := 7) (x := q7) hx hb hK hP 3 rfl (by decide) (by decide) rfl dX5_countFewest_89 ?_
                  refine lv_iload_n hx hb dX5_countFewest_90 rfl (lv_at hl 4 rfl) ?_
                  refine lv_bipush (v := nI 99) hx hb dX5_countFewest_91 (by decide) ?_
                  refine lv_iload hx hb dX5_countFewest_93 (lv_at hl 0 rfl) ?_
                  refine lv_aload_n hx hb dX5_countFewest_95 rfl (lv_at hl 2 rfl) ?_
                  refine va_get (ci := 5) (v := .ref hF9) (C := RX5) (T := TX5) (N := 9) hx hb hts hin5 hown hK hP 0 rfl rfl 6 (by decide) (hts (.fieldLink RX5 45 "UpAllRound" "fewest" "[[I") (List.mem_of_getElem? (i := 1) rfl)) (fun _ h9 => h9) hU6 dX5_countFewest_96 ?_
                  refine lv_iload_n hx hb dX5_countFewest_99 rfl (lv_at hl 3 rfl) ?_
                  refine zaldq (t := 6) (x := q6) hx hb hK hP 3 rfl (by decide) (by decide) rfl dX5_countFewest_100 ?_
                  refine lv_iload_n hx hb dX5_countFewest_101 rfl (lv_at hl 4 rfl) ?_
                  refine zald (t := j) hx hb hK hP 10 rfl (by omega) (by decide) dX5_countFewest_102 ?_
                  refine zrw (hF 6 (by omega) j (by omega)) ?_
                  refine va_mmin hx hb (by rw [hml]; exact hl.1.symm) hown (hts (.methodLink RX5 246 Lib.Math.min.name) (List.mem_of_getElem? (i := 3) rfl)) (hts (.static Lib.Math.min.name) (List.mem_of_getElem? (i := 4) rfl)) (hts (.initialized "java/lang/Math") (List.mem_of_getElem? (i := 5) rfl)) (hts (.code Lib.Math.min.name Lib.Math.min.code 2 (some .int)) (List.mem_of_getElem? (i := 6) rfl)) (Nat.le_of_ble_eq_true rfl) (Nat.le_of_ble_eq_true rfl) (Nat.zero_le _) (Nat.zero_le _) dX5_countFewest_103 ?_
                  refine zrw (zmin_n (by have h91 := zfw_le (zrJ S) 6 ((j : Int) - 126); omega) (by have h91 := zfw_le (zrJ S) 6 ((j : Int) - 126); omega)) ?_
                  refine va_mmin hx hb (by rw [hml]; exact hl.1.symm) hown (hts (.methodLink RX5 246 Lib.Math.min.name) (List.mem_of_getElem? (i := 3) rfl)) (hts (.static Lib.Math.min.name) (List.mem_of_getElem? (i := 4) rfl)) (hts (.initialized "java/lang/Math") (List.mem_of_getElem? (i := 5) rfl)) (hts (.code Lib.Math.min.name Lib.Math.min.code 2 (some .int)) (List.mem_of_getElem? (i := 6) rfl)) (Nat.le_of_ble_eq_true rfl) (Nat.le_of_ble_eq_true rfl) (Nat.zero_le _) (Nat.zero_le _) dX5_countFewest_106 ?_
                  refine zrw (zmin_n (by decide) (by have h91 := zfw_le (zrJ S) 6 ((j : Int) - 126); omega)) ?_
                  refine zast (t := j) hx hb hK hP hD hS 11 rfl (by omega) (by decide) dX5_countFewest_109 (fun H locs hP hD hS => ?_)
                  have hP : va_P D vwCl [(h, .inr (5, fs)), (hS9, .inr (3, ft)), (hr9, .inl (cI, 14, .inl ((fun i => S (32 + i))))), (hF9, .inl (cJ, 15, .inr (.inr (.inr (.inr (zq15 q0 q1 q2 q3 q4 q5 q6 q7 q8 q9 q10 q11 q12 q13 q14)))))), (q0, .inl (cI, 253, .inl (F 0))), (q1, .inl (cI, 253, .inl (F 1))), (q2, .inl (cI, 253, .inl (F 2))), (q3, .inl (cI, 253, .inl (F 3))), (q4, .inl (cI, 253, .inl (F 4))), (q5, .inl (cI, 253, .inl (F 5))), (q6, .inl (cI, 253, .inl (F 6))), (q7, .inl (cI, 253, .inl (upd g9 j (nI (min 99 (min (99) (zfw (zrJ S) 6 ((j : Int) - 126)))))))), (q8, .inl (cI, 253, .inl (F 8))), (q9, .inl (cI, 253, .inl (F 9))), (q10, .inl (cI, 253, .inl (F 10))), (q11, .inl (cI, 253, .inl (F 11))), (q12, .inl (cI, 253, .inl (F 12))), (q13, .inl (cI, 253, .inl (F 13))), (q14, .inl (cI, 253, .inl (F 14)))] H := hP
                  have hD : va_D AA [(h, .inr (5, fs)), (hS9, .inr (3, ft)), (hr9, .inl (cI, 14, .inl ((fun i => S (32 + i))))), (hF9, .inl (cJ, 15, .inr (.inr (.inr (.inr (zq15 q0 q1 q2 q3 q4 q5 q6 q7 q8 q9 q10 q11 q12 q13 q14)))))), (q0, .inl (cI, 253, .inl (F 0))), (q1, .inl (cI, 253, .inl (F 1))), (q2, .inl (cI, 253, .inl (F 2))), (q3, .inl (cI, 253, .inl (F 3))), (q4, .inl (cI, 253, .inl (F 4))), (q5, .inl (cI, 253, .inl (F 5))), (q6, .inl (cI, 253, .inl (F 6))), (q7, .inl (cI, 253, .inl (upd g9 j (nI (min 99 (min (99) (zfw (zrJ S) 6 ((j : Int) - 126)))))))), (q8, .inl (cI, 253, .inl (F 8))), (q9, .inl (cI, 253, .inl (F 9))), (q10, .inl (cI, 253, .inl (F 10))), (q11, .inl (cI, 253, .inl (F 11))), (q12, .inl (cI, 253, .inl (F 12))), (q13, .inl (cI, 253, .inl (F 13))), (q14, .inl (cI, 253, .inl (F 14)))] := hD
                  refine lv_iinc (v := nI (j + 1)) (lv' := [(2, .int (nI (j + 1))), (4, .int (nI 99)), (3, .int bf), (0, .ref h), (1, .int (nI 6))]) hx hb dX5_countFewest_110 hl (k := 4) rfl (nI_add _ _) (by decide) rfl (fun ls hl => ?_)
                  refine lv_goto (tgt := 36) hx hb dX5_countFewest_113 (by decide) ?_
                  exact ih_36  (j + 1) (upd g9 j (nI (min 99 (min (99) (zfw (zrJ S) 6 ((j : Int) - 126)))))) (by omega) (by omega) (fun x h91 => (Nat.lt_or_ge x j).elim (fun h92 => (if_neg (show ¬ x = j by omega)).trans (hg x h92)) (fun h92 => by rw [show x = j by omega]; exact (if_pos rfl).trans (zfw_out hri (by decide) (by omega) ebf (by assumption)))) ls (lv_sub hl [3, 4, 0] rfl) H locs hP hD hS
                · have c67_17 := bI_nX0.mp c67_17
                  obtain ⟨q, h_q, rfl⟩ : ∃ q : Nat, q ≤ 252 ∧ bf = nI q := zrg_of c67_17 (by decide)
                  refine lv_aload_n hx hb dX5_countFewest_70 rfl (lv_at hl 2 rfl) ?_
                  refine va_get (ci := 5) (v := .ref hF9) (C := RX5) (T := TX5) (N := 9) hx hb hts hin5 hown hK hP 0 rfl rfl 6 (by decide) (hts (.fieldLink RX5 45 "UpAllRound" "fewest" "[[I") (List.mem_of_getElem? (i := 1) rfl)) (fun _ h9 => h9) hU6 dX5_countFewest_71 ?_
                  refine lv_iload_n hx hb dX5_countFewest_74 rfl (lv_at hl 3 rfl) ?_
                  refine zaldq (t := 6) (x := q6) hx hb hK hP 3 rfl (by decide) (by decide) rfl dX5_countFewest_75 ?_
                  refine lv_iload_n hx hb dX5_countFewest_76 rfl (lv_at hl 1 rfl) ?_
                  refine zald (t := q) hx hb hK hP 10 rfl (by omega) (by decide) dX5_countFewest_77 ?_
                  refine zrw (hF 6 (by omega) q (by omega)) ?_
                  refine lv_iconst (v := nI 1) hx hb dX5_countFewest_78 (by decide) ?_
                  refine lv_iadd hx hb dX5_countFewest_79 ?_
                  refine zrw (nI_add _ _) ?_
                  refine lv_istore (lv' := [(4, .int (nI ((zfw (zrJ S) 6 ((q : Int) - 126)) + 1))), (3, .int (nI q)), (0, .ref h), (1, .int (nI 6)), (2, .int (nI j))]) hx hb dX5_countFewest_80 hl (by decide) rfl (fun ls hl => ?_)
                  refine lv_aload_n hx hb dX5_countFewest_82 rfl (lv_at hl 2 rfl) ?_
                  refine va_get (ci := 5) (v := .ref hF9) (C := RX5) (T := TX5) (N := 9) hx hb hts hin5 hown hK hP 0 rfl rfl 6 (by decide) (hts (.fieldLink RX5 45 "UpAllRound" "fewest" "[[I") (List.mem_of_getElem? (i := 1) rfl)) (fun _ h9 => h9) hU6 dX5_countFewest_83 ?_
                  refine lv_iload_n hx hb dX5_countFewest_86 rfl (lv_at hl 3 rfl) ?_
                  refine lv_iconst (v := nI 1) hx hb dX5_countFewest_87 (by decide) ?_
                  refine lv_iadd hx hb dX5_countFewest_88 ?_
                  refine zrw (nI_add _ _) ?_
                  refine zaldq (t := 7) (x := q7) hx hb hK hP 3 rfl (by decide) (by decide) rfl dX5_countFewest_89 ?_
                  refine lv_iload_n hx hb dX5_countFewest_90 rfl (lv_at hl 4 rfl) ?_
                  refine lv_bipush (v := nI 99) hx hb dX5_countFewest_91 (by decide) ?_
                  refine lv_iload hx hb dX5_countFewest_93 (lv_at hl 0 rfl) ?_
                  refine lv_aload_n hx hb dX5_countFewest_95 rfl (lv_at hl 2 rfl) ?_
                  refine va_get (ci := 5) (v := .ref hF9) (C := RX5) (T := TX5) (N := 9) hx hb hts hin5 hown hK hP 0 rfl rfl 6 (by decide) (hts (.fieldLink RX5 45 "UpAllRound" "fewest" "[[I") (List.mem_of_getElem? (i := 1) rfl)) (fun _ h9 => h9) hU6 dX5_countFewest_96 ?_
                  refine lv_iload_n hx hb dX5_countFewest_99 rfl (lv_at hl 3 rfl) ?_
                  refine zaldq (t := 6) (x := q6) hx hb hK hP 3 rfl (by decide) (by decide) rfl dX5_countFewest_100 ?_
                  refine lv_iload_n hx hb dX5_countFewest_101 rfl (lv_at hl 4 rfl) ?_
                  refine zald (t := j) hx hb hK hP 10 rfl (by omega) (by decide) dX5_countFewest_102 ?_
                  refine zrw (hF 6 (by omega) j (by omega)) ?_
                  refine va_mmin hx hb (by rw [hml]; exact hl.1.symm) hown (hts (.methodLink RX5 246 Lib.Math.min.name) (List.mem_of_getElem? (i := 3) rfl)) (hts (.static Lib.Math.min.name) (List.mem_of_getElem? (i := 4) rfl)) (hts (.initialized "java/lang/Math") (List.mem_of_getElem? (i := 5) rfl)) (hts (.code Lib.Math.min.name Lib.Math.min.code 2 (some .int)) (List.mem_of_getElem? (i := 6) rfl)) (Nat.le_of_ble_eq_true rfl) (Nat.le_of_ble_eq_true rfl) (Nat.zero_le _) (Nat.zero_le _) dX5_countFewest_103 ?_
                  refine zrw (zmin_n (by have h91 := zfw_le (zrJ S) 6 ((q : Int) - 126); omega) (by have h91 := zfw_le (zrJ S) 6 ((j : Int) - 126); omega)) ?_
                  refine va_mmin hx hb (by rw [hml]; exact hl.1.symm) hown (hts (.methodLink RX5 246 Lib.Math.min.name) (List.mem_of_getElem? (i := 3) rfl)) (hts (.static Lib.Math.min.name) (List.mem_of_getElem? (i := 4) rfl)) (hts (.initialized "java/lang/Math") (List.mem_of_getElem? (i := 5) rfl)) (hts (.code Lib.Math.min.name Lib.Math.min.code 2 (some .int)) (List.mem_of_getElem? (i := 6) rfl)) (Nat.le_of_ble_eq_true rfl) (Nat.le_of_ble_eq_true rfl) (Nat.zero_le _) (Nat.zero_le _) dX5_countFewest_106 ?_
                  refine zrw (zmin_n (by decide) (by have h91 := zfw_le (zrJ S) 6 ((j : Int) - 126); omega)) ?_
                  refine zast (t := j) hx hb hK hP hD hS 11 rfl (by omega) (by decide) dX5_countFewest_109 (fun H locs hP hD hS => ?_)
                  have hP : va_P D vwCl [(h, .inr (5, fs)), (hS9, .inr (3, ft)), (hr9, .inl (cI, 14, .inl ((fun i => S (32 + i))))), (hF9, .inl (cJ, 15, .inr (.inr (.inr (.inr (zq15 q0 q1 q2 q3 q4 q5 q6 q7 q8 q9 q10 q11 q12 q13 q14)))))), (q0, .inl (cI, 253, .inl (F 0))), (q1, .inl (cI, 253, .inl (F 1))), (q2, .inl (cI, 253, .inl (F 2))), (q3, .inl (cI, 253, .inl (F 3))), (q4, .inl (cI, 253, .inl (F 4))), (q5, .inl (cI, 253, .inl (F 5))), (q6, .inl (cI, 253, .inl (F 6))), (q7, .inl (cI, 253, .inl (upd g9 j (nI (min 99 (min (zfw (zrJ S) 6 ((q : Int) - 126) + 1) (zfw (zrJ S) 6 ((j : Int) - 126)))))))), (q8, .inl (cI, 253, .inl (F 8))), (q9, .inl (cI, 253, .inl (F 9))), (q10, .inl (cI, 253, .inl (F 10))), (q11, .inl (cI, 253, .inl (F 11))), (q12, .inl (cI, 253, .inl (F 12))), (q13, .inl (cI, 253, .inl (F 13))), (q14, .inl (cI, 253, .inl (F 14)))] H := hP
                  have hD : va_D AA [(h, .inr (5, fs)), (hS9, .inr (3, ft)), (hr9, .inl (cI, 14, .inl ((fun i => S (32 + i))))), (hF9, .inl (cJ, 15, .inr (.inr (.inr (.inr (zq15 q0 q1 q2 q3 q4 q5 q6 q7 q8 q9 q10 q11 q12 q13 q14)))))), (q0, .inl (cI, 253, .inl (F 0))), (q1, .inl (cI, 253, .inl (F 1))), (q2, .inl (cI, 253, .inl (F 2))), (q3, .inl (cI, 253, .inl (F 3))), (q4, .inl (cI, 253, .inl (F 4))), (q5, .inl (cI, 253, .inl (F 5))), (q6, .inl (cI, 253, .inl (F 6))), (q7, .inl (cI, 253, .inl (upd g9 j (nI (min 99 (min (zfw (zrJ S) 6 ((q : Int) - 126) + 1) (zfw (zrJ S) 6 ((j : Int) - 126)))))))), (q8, .inl (cI, 253, .inl (F 8))), (q9, .inl (cI, 253, .inl (F 9))), (q10, .inl (cI, 253, .inl (F 10))), (q11, .inl (cI, 253, .inl (F 11))), (q12, .inl (cI, 253, .inl (F 12))), (q13, .inl (cI, 253, .inl (F 13))), (q14, .inl (cI, 253, .inl (F 14)))] := hD
                  refine lv_iinc (v := nI (j + 1)) (lv' := [(2, .int (nI (j + 1))), (4, .int (nI ((zfw (zrJ S) 6 ((q : Int) - 126)) + 1))), (3, .int (nI q)), (0, .ref h), (1, .int (nI 6))]) hx hb dX5_countFewest_110 hl (k := 4) rfl (nI_add _ _) (by decide) rfl (fun ls hl => ?_)
                  refine lv_goto (tgt := 36) hx hb dX5_countFewest_113 (by decide) ?_
                  exact ih_36  (j + 1) (upd g9 j (nI (min 99 (min (zfw (zrJ S) 6 ((q : Int) - 126) + 1) (zfw (zrJ S) 6 ((j : Int) - 126)))))) (by omega) (by omega) (fun x h91 => (Nat.lt_or_ge x j).elim (fun h92 => (if_neg (show ¬ x = j by omega)).trans (hg x h92)) (fun h92 => by rw [show x = j by omega]; exact (if_pos rfl).trans (zfw_in (hri 6 (by decide)) (by omega) (by omega) ebf))) ls (lv_sub hl [3, 4, 0] rfl) H locs hP hD hS
          exact L_36 (253 + 1) 0 (F 7) (by omega) (by omega) (fun x h91 => absurd h91 (by omega)) ls (lv_sub hl [1, 2, 0] rfl) _ _ hP hD hS
        · subst h9
          refine lv_iconst (v := nI 0) hx hb dX5_countFewest_34 (by decide) ?_
          refine lv_istore_n (lv' := [(2, .int (nI 0)), (0, .ref h), (1, .int (nI 7))]) hx hb dX5_countFewest_35 rfl hl (by decide) rfl (fun ls hl => ?_)
          have L_36 : ∀ (fu j : Nat) (g9 : Nat → Int32) (hi : j ≤ 253) (hn : 253 + 1 ≤ j + fu) (hg : ∀ x, x < j → g9 x = nI (zfw (zrJ S) (7 + 1) ((x : Int) - 126))), ∀ (ls : Array Slot), lv_has ls 5 [(0, .ref h), (1, .int (nI 7)), (2, .int (nI j))] → ∀ (H : Heap) (locs : List Loc), va_P D vwCl [(h, .inr (5, fs)), (hS9, .inr (3, ft)), (hr9, .inl (cI, 14, .inl ((fun i => S (32 + i))))), (hF9, .inl (cJ, 15, .inr (.inr (.inr (.inr (zq15 q0 q1 q2 q3 q4 q5 q6 q7 q8 q9 q10 q11 q12 q13 q14)))))), (q0, .inl (cI, 253, .inl (F 0))), (q1, .inl (cI, 253, .inl (F 1))), (q2, .inl (cI, 253, .inl (F 2))), (q3, .inl (cI, 253, .inl (F 3))), (q4, .inl (cI, 253, .inl (F 4))), (q5, .inl (cI, 253, .inl (F 5))), (q6, .inl (cI, 253, .inl (F 6))), (q7, .inl (cI, 253, .inl (F 7))), (q8, .inl (cI, 253, .inl g9)), (q9, .inl (cI, 253, .inl (F 9))), (q10, .inl (cI, 253, .inl (F 10))), (q11, .inl (cI, 253, .inl (F 11))), (q12, .inl (cI, 253, .inl (F 12))), (q13, .inl (cI, 253, .inl (F 13))), (q14, .inl (cI, 253, .inl (F 14)))] H → va_D AA [(h, .inr (5, fs)), (hS9, .inr (3, ft)), (hr9, .inl (cI, 14, .inl ((fun i => S (32 + i))))), (hF9, .inl (cJ, 15, .inr (.inr (.inr (.inr (zq15 q0 q1 q2 q3 q4 q5 q6 q7 q8 q9 q10 q11 q12 q13 q14)))))), (q0, .inl (cI, 253, .inl (F 0))), (q1, .inl (cI, 253, .inl (F 1))), (q2, .inl (cI, 253, .inl (F 2))), (q3, .inl (cI, 253, .inl (F 3))), (q4, .inl (cI, 253, .inl (F 4))), (q5, .inl (cI, 253, .inl (F 5))), (q6, .inl (cI, 253, .inl (F 6))), (q7, .inl (cI, 253, .inl (F 7))), (q8, .inl (cI, 253, .inl g9)), (q9, .inl (cI, 253, .inl (F 9))), (q10, .inl (cI, 253, .inl (F 10))), (q11, .inl (cI, 253, .inl (F 11))), (q12, .inl (cI, 253, .inl (F 12))), (q13, .inl (cI, 253, .inl (F 13))), (q14, .inl (cI, 253, .inl (F 14)))] → va_S AA s.heap H locs → W pg l ev ({ frames := 1, cells := 0, slots := 0, locals := 23 } : Room) s mt args below meth cd H locs 0 0 QQ (F0 mt 36 ls []) := by
            intro fu
            induction fu with
            | zero =>
              intro j g9 hi hn
              exact absurd hn (by omega)
            | succ fu ih_36 =>
              intro j g9 hi hn hg ls hl H locs hP hD hS
              refine lv_iload_n hx hb dX5_countFewest_36 rfl (lv_at hl 2 rfl) ?_
              refine lv_sipush (v := nI 252) hx hb dX5_countFewest_37 (by decide) ?_
              refine lv_icmp_gt (tgt := 116) hx hb dX5_countFewest_40 (by decide) (fun c40_18 => ?_) (fun c40_18 => ?_)
              · have c40_18 : 252 < j := (nI_ltI (a := 252) (b := j) (by omega) (by omega)).mp c40_18
                refine lv_iinc (v := nI (7 + 1)) (lv' := [(1, .int (nI (7 + 1))), (0, .ref h), (2, .int (nI j))]) hx hb dX5_countFewest_116 hl (k := 1) rfl (nI_add _ _) (by decide) rfl (fun ls hl => ?_)
                refine lv_goto (tgt := 23) hx hb dX5_countFewest_119 (by decide) ?_
                exact ih_23  (7 + 1) ((zlf [F 0, F 1, F 2, F 3, F 4, F 5, F 6, F 7, g9, F 9, F 10, F 11, F 12, F 13, F 14])) (by omega) (by omega) (fun k9 h91 x h92 => by rcases (show k9 = 0 ∨ k9 = 1 ∨ k9 = 2 ∨ k9 = 3 ∨ k9 = 4 ∨ k9 = 5 ∨ k9 = 6 ∨ k9 = 7 ∨ k9 = 8 from by omega) with h9 | h9 | h9 | h9 | h9 | h9 | h9 | h9 | h9 <;> subst h9 <;> first | exact hg x (by omega) | exact hF _ (by omega) x h92) ls (lv_sub hl [1, 0] rfl) H locs hP hD hS
              · have c40_18 : ¬ (252 < j) := fun h9 => c40_18 ((nI_ltI (a := 252) (b := j) (by omega) (by omega)).mpr h9)
                refine lv_iload_n hx hb dX5_countFewest_43 rfl (lv_at hl 2 rfl) ?_
                refine lv_aload_n hx hb dX5_countFewest_44 rfl (lv_at hl 0 rfl) ?_
                refine va_get (ci := 5) (v := .ref hS9) (C := RX5) (T := TX5) (N := 9) hx hb hts hin5 hown hK hP 0 rfl rfl 0 (by decide) (hts (.fieldLink RX5 12 "UpAllRound" "now" "LUpAllRound$Stair;") (List.mem_of_getElem? (i := 2) rfl)) (fun _ h9 => h9) hU0 dX5_countFewest_45 ?_
                refine va_getN (ci := 3) (v := .ref hr9) (C := RX3) (T := TX3) (N := 16) hx hb hts hin3 hown hK hP 1 rfl rfl 1 (by decide) (va_Nw.use rfl (hN (.fieldLinkNest "UpAllRound" 78 "UpAllRound$Stair" "rises" "[I" "UpAllRound") (List.mem_of_getElem? (i := 1) rfl))) (fun _ h9 => h9) hft1 dX5_countFewest_48 ?_
                refine lv_iload_n hx hb dX5_countFewest_51 rfl (lv_at hl 1 rfl) ?_
                refine zald (t := 7) hx hb hK hP 2 rfl (by omega) (by decide) dX5_countFewest_52 ?_
                refine zrw rfl ?_
                refine lv_isub hx hb dX5_countFewest_53 ?_
                refine lv_topi (fun bf ebf => ?_)
                refine lv_istore_n (lv' := [(3, .int bf), (0, .ref h), (1, .int (nI 7)), (2, .int (nI j))]) hx hb dX5_countFewest_54 rfl hl (by decide) rfl (fun ls hl => ?_)
                refine lv_bipush (v := nI 99) hx hb dX5_countFewest_55 (by decide) ?_
                refine lv_istore (lv' := [(4, .int (nI 99)), (3, .int bf), (0, .ref h), (1, .int (nI 7)), (2, .int (nI j))]) hx hb dX5_countFewest_57 hl (by decide) rfl (fun ls hl => ?_)
                refine lv_iload_n hx hb dX5_countFewest_59 rfl (lv_at hl 1 rfl) ?_
                refine lv_iconst (v := nI 0) hx hb dX5_countFewest_60 (by decide) ?_
                refine lv_sipush (v := nI 252) hx hb dX5_countFewest_61 (by decide) ?_
                refine zcsE (va_runS (As := [.int bf, .int (nI 0), .int (nI 252)]) (rest := []) ⟨hx, hb, hml, hown, hts⟩ (d_X5_isOutside l D cI cJ bf (nI 0) (nI 252) 0 252 (by decide) (by decide) H.size) (va_cwS 3 hts gX5_countFewest_X5_isOutside rfl rfl rfl (by decide +kernel) ⟨Nat.le_of_ble_eq_true rfl, Nat.le_of_ble_eq_true rfl⟩) (zpS hK hN hZ hP hD hS hA [] rfl (by decide)) rfl rfl hl.1 rfl (lv_room (Nat.le_of_ble_eq_true rfl)) dX5_countFewest_64 ⟨Nat.zero_le _, Nat.zero_le _⟩) ?_
                refine lv_if_ne (tgt := 82) hx hb dX5_countFewest_67 (by decide) (fun c67_19 => ?_) (fun c67_19 => ?_)
                · have c67_19 := bI_nn0.mp c67_19
                  refine lv_aload_n hx hb dX5_countFewest_82 rfl (lv_at hl 2 rfl) ?_
                  refine va_get (ci := 5) (v := .ref hF9) (C := RX5) (T := TX5) (N := 9) hx hb hts hin5 hown hK hP 0 rfl rfl 6 (by decide) (hts (.fieldLink RX5 45 "UpAllRound" "fewest" "[[I") (List.mem_of_getElem? (i := 1) rfl)) (fun _ h9 => h9) hU6 dX5_countFewest_83 ?_
                  refine lv_iload_n hx hb dX5_countFewest_86 rfl (lv_at hl 3 rfl) ?_
                  refine lv_iconst (v := nI 1) hx hb dX5_countFewest_87 (by decide) ?_
                  refine lv_iadd hx hb dX5_countFewest_88 ?_
                  refine zrw (nI_add _ _) ?_
                  refine zaldq (t := 8) (x := q8) hx hb hK hP 3 rfl (by decide) (by decide) rfl dX5_countFewest_89 ?_
                  refine lv_iload_n hx hb dX5_countFewest_90 rfl (lv_at hl 4 rfl) ?_
                  refine lv_bipush (v := nI 99) hx hb dX5_countFewest_91 (by decide) ?_
                  refine lv_iload hx hb dX5_countFewest_93 (lv_at hl 0 rfl) ?_
                  refine lv_aload_n hx hb dX5_countFewest_95 rfl (lv_at hl 2 rfl) ?_
                  refine va_get (ci := 5) (v := .ref hF9) (C := RX5) (T := TX5) (N := 9) hx hb hts hin5 hown hK hP 0 rfl rfl 6 (by decide) (hts (.fieldLink RX5 45 "UpAllRound" "fewest" "[[I") (List.mem_of_getElem? (i := 1) rfl)) (fun _ h9 => h9) hU6 dX5_countFewest_96 ?_
                  refine lv_iload_n hx hb dX5_countFewest_99 rfl (lv_at hl 3 rfl) ?_
                  refine zaldq (t := 7) (x := q7) hx hb hK hP 3 rfl (by decide) (by decide) rfl dX5_countFewest_100 ?_
                  refine lv_iload_n hx hb dX5_countFewest_101 rfl (lv_at hl 4 rfl) ?_
                  refine zald (t := j) hx hb hK hP 11 rfl (by omega) (by decide) dX5_countFewest_102 ?_
                  refine zrw (hF 7 (by omega) j (by omega)) ?_
                  refine va_mmin hx hb (by rw [hml]; exact hl.1.symm) hown (hts (.methodLink RX5 246 Lib.Math.min.name) (List.mem_of_getElem? (i := 3) rfl)) (hts (.static Lib.Math.min.name) (List.mem_of_getElem? (i := 4) rfl)) (hts (.initialized "java/lang/Math") (List.mem_of_getElem? (i := 5) rfl)) (hts (.code Lib.Math.min.name Lib.Math.min.code 2 (some .int)) (List.mem_of_getElem? (i := 6) rfl)) (Nat.le_of_ble_eq_true rfl) (Nat.le_of_ble_eq_true rfl) (Nat.zero_le _) (Nat.zero_le _) dX5_countFewest_103 ?_
                  refine zrw (zmin_n (by have h91 := zfw_le (zrJ S) 7 ((j : Int) - 126); omega) (by have h91 := zfw_le (zrJ S) 7 ((j : Int) - 126); omega)) ?_
                  refine va_mmin hx hb (by rw [hml]; exact hl.1.symm) hown (hts (.methodLink RX5 246 Lib.Math.min.name) (List.mem_of_getElem? (i := 3) rfl)) (hts (.static Lib.Math.min.name) (List.mem_of_getElem? (i := 4) rfl)) (hts (.initialized "java/lang/Math") (List.mem_of_getElem? (i := 5) rfl)) (hts (.code Lib.Math.min.name Lib.Math.min.code 2 (some .int)) (List.mem_of_getElem? (i := 6) rfl)) (Nat.le_of_ble_eq_true rfl) (Nat.le_of_ble_eq_true rfl) (Nat.zero_le _) (Nat.zero_le _) dX5_countFewest_106 ?_
                  refine zrw (zmin_n (by decide) (by have h91 := zfw_le (zrJ S) 7 ((j : Int) - 126); omega)) ?_
                  refine zast (t := j) hx hb hK hP hD hS 12 rfl (by omega) (by decide) dX5_countFewest_109 (fun H locs hP hD hS => ?_)
                  have hP : va_P D vwCl [(h, .inr (5, fs)), (hS9, .inr (3, ft)), (hr9, .inl (cI, 14, .inl ((fun i => S (32 + i))))), (hF9, .inl (cJ, 15, .inr (.inr (.inr (.inr (zq15 q0 q1 q2 q3 q4 q5 q6 q7 q8 q9 q10 q11 q12 q13 q14)))))), (q0, .inl (cI, 253, .inl (F 0))), (q1, .inl (cI, 253, .inl (F 1))), (q2, .inl (cI, 253, .inl (F 2))), (q3, .inl (cI, 253, .inl (F 3))), (q4, .inl (cI, 253, .inl (F 4))), (q5, .inl (cI, 253, .inl (F 5))), (q6, .inl (cI, 253, .inl (F 6))), (q7, .inl (cI, 253, .inl (F 7))), (q8, .inl (cI, 253, .inl (upd g9 j (nI (min 99 (min (99) (zfw (zrJ S) 7 ((j : Int) - 126)))))))), (q9, .inl (cI, 253, .inl (F 9))), (q10, .inl (cI, 253, .inl (F 10))), (q11, .inl (cI, 253, .inl (F 11))), (q12, .inl (cI, 253, .inl (F 12))), (q13, .inl (cI, 253, .inl (F 13))), (q14, .inl (cI, 253, .inl (F 14)))] H := hP
                  have hD : va_D AA [(h, .inr (5, fs)), (hS9, .inr (3, ft)), (hr9, .inl (cI, 14, .inl ((fun i => S (32 + i))))), (hF9, .inl (cJ, 15, .inr (.inr (.inr (.inr (zq15 q0 q1 q2 q3 q4 q5 q6 q7 q8 q9 q10 q11 q12 q13 q14)))))), (q0, .inl (cI, 253, .inl (F 0))), (q1, .inl (cI, 253, .inl (F 1))), (q2, .inl (cI, 253, .inl (F 2))), (q3, .inl (cI, 253, .inl (F 3))), (q4, .inl (cI, 253, .inl (F 4))), (q5, .inl (cI, 253, .inl (F 5))), (q6, .inl (cI, 253, .inl (F 6))), (q7, .inl (cI, 253, .inl (F 7))), (q8, .inl (cI, 253, .inl (upd g9 j (nI (min 99 (min (99) (zfw (zrJ S) 7 ((j : Int) - 126)))))))), (q9, .inl (cI, 253, .inl (F 9))), (q10, .inl (cI, 253, .inl (F 10))), (q11, .inl (cI, 253, .inl (F 11))), (q12, .inl (cI, 253, .inl (F 12))), (q13, .inl (cI, 253, .inl (F 13))), (q14, .inl (cI, 253, .inl (F 14)))] := hD
                  refine lv_iinc (v := nI (j + 1)) (lv' := [(2, .int (nI (j + 1))), (4, .int (nI 99)), (3, .int bf), (0, .ref h), (1, .int (nI 7))]) hx hb dX5_countFewest_110 hl (k := 4) rfl (nI_add _ _) (by decide) rfl (fun ls hl => ?_)
                  refine lv_goto (tgt := 36) hx hb dX5_countFewest_113 (by decide) ?_
                  exact ih_36  (j + 1) (upd g9 j (nI (min 99 (min (99) (zfw (zrJ S) 7 ((j : Int) - 126)))))) (by omega) (by omega) (fun x h91 => (Nat.lt_or_ge x j).elim (fun h92 => (if_neg (show ¬ x = j by omega)).trans (hg x h92)) (fun h92 => by rw [show x = j by omega]; exact (if_pos rfl).trans (zfw_out hri (by decide) (by omega) ebf (by assumption)))) ls (lv_sub hl [3, 4, 0] rfl) H locs hP hD hS
                · have c67_19 := bI_nX0.mp c67_19
                  obtain ⟨q, h_q, rfl⟩ : ∃ q : Nat, q ≤ 252 ∧ bf = nI q := zrg_of c67_19 (by decide)
                  refine lv_aload_n hx hb dX5_countFewest_70 rfl (lv_at hl 2 rfl) ?_
                  refine va_get (ci := 5) (v := .ref hF9) (C := RX5) (T := TX5) (N := 9) hx hb hts hin5 hown hK hP 0 rfl rfl 6 (by decide) (hts (.fieldLink RX5 45 "UpAllRound" "fewest" "[[I") (List.mem_of_getElem? (i := 1) rfl)) (fun _ h9 => h9) hU6 dX5_countFewest_71 ?_
                  refine lv_iload_n hx hb dX5_countFewest_74 rfl (lv_at hl 3 rfl) ?_
                  refine zaldq (t := 7) (x := q7) hx hb hK hP 3 rfl (by decide) (by decide) rfl dX5_countFewest_75 ?_
                  refine lv_iload_n hx hb dX5_countFewest_76 rfl (lv_at hl 1 rfl) ?_
                  refine zald (t := q) hx hb hK hP 11 rfl (by omega) (by decide) dX5_countFewest_77 ?_
                  refine zrw (hF 7 (by omega) q (by omega)) ?_
                  refine lv_iconst (v := nI 1) hx hb dX5_countFewest_78 (by decide) ?_
                  refine lv_iadd hx hb dX5_countFewest_79 ?_
                  refine zrw (nI_add _ _) ?_
                  refine lv_istore (lv' := [(4, .int (nI ((zfw (zrJ S) 7 ((q : Int) - 126)) + 1))), (3, .int (nI q)), (0, .ref h), (1, .int (nI 7)), (2, .int (nI j))]) hx hb dX5_countFewest_80 hl (by decide) rfl (fun ls hl => ?_)
                  refine lv_aload_n hx hb dX5_countFewest_82 rfl (lv_at hl 2 rfl) ?_
                  refine va_get (ci := 5) (v := .ref hF9) (C := RX5) (T := TX5) (N := 9) hx hb hts hin5 hown hK hP 0 rfl rfl 6 (by decide) (hts (.fieldLink RX5 45 "UpAllRound" "fewest" "[[I") (List.mem_of_getElem? (i := 1) rfl)) (fun _ h9 => h9) hU6 dX5_countFewest_83 ?_
                  refine lv_iload_n hx hb dX5_countFewest_86 rfl (lv_at hl 3 rfl) ?_
                  refine lv_iconst (v := nI 1) hx hb dX5_countFewest_87 (by decide) ?_
                  refine lv_iadd hx hb dX5_countFewest_88 ?_
                  refine zrw (nI_add _ _) ?_
                  refine zaldq (t := 8) (x := q8) hx hb hK hP 3 rfl (by decide) (by decide) rfl dX5_countFewest_89 ?_
                  refine lv_iload_n hx hb dX5_countFewest_90 rfl (lv_at hl 4 rfl) ?_
                  refine lv_bipush (v := nI 99) hx hb dX5_countFewest_91 (by decide) ?_
                  refine lv_iload hx hb dX5_countFewest_93 (lv_at hl 0 rfl) ?_
                  refine lv_aload_n hx hb dX5_countFewest_95 rfl (lv_at hl 2 rfl) ?_
                  refine va_get (ci := 5) (v := .ref hF9) (C := RX5) (T := TX5) (N := 9) hx hb hts hin5 hown hK hP 0 rfl rfl 6 (by decide) (hts (.fieldLink RX5 45 "UpAllRound" "fewest" "[[I") (List.mem_of_getElem? (i := 1) rfl)) (fun _ h9 => h9) hU6 dX5_countFewest_96 ?_
                  refine lv_iload_n hx hb dX5_countFewest_99 rfl (lv_at hl 3 rfl) ?_
                  refine zaldq (t := 7) (x := q7) hx hb hK hP 3 rfl (by decide) (by decide) rfl dX5_countFewest_100 ?_
                  refine lv_iload_n hx hb dX5_countFewest_101 rfl (lv_at hl 4 rfl) ?_
                  refine zald (t := j) hx hb hK hP 11 rfl (by omega) (by decide) dX5_countFewest_102 ?_
                  refine zrw (hF 7 (by omega) j (by omega)) ?_
                  refine va_mmin hx hb (by rw [hml]; exact hl.1.symm) hown (hts (.methodLink RX5 246 Lib.Math.min.name) (List.mem_of_getElem? (i := 3) rfl)) (hts (.static Lib.Math.min.name) (List.mem_of_getElem? (i := 4) rfl)) (hts (.initialized "java/lang/Math") (List.mem_of_getElem? (i := 5) rfl)) (hts (.code Lib.Math.min.name Lib.Math.min.code 2 (some .int)) (List.mem_of_getElem? (i := 6) rfl)) (Nat.le_of_ble_eq_true rfl) (Nat.le_of_ble_eq_true rfl) (Nat.zero_le _) (Nat.zero_le _) dX5_countFewest_103 ?_
                  refine zrw (zmin_n (by have h91 := zfw_le (zrJ S) 7 ((q : Int) - 126); omega) (by have h91 := zfw_le (zrJ S) 7 ((j : Int) - 126); omega)) ?_
                  refine va_mmin hx hb (by rw [hml]; exact hl.1.symm) hown (hts (.methodLink RX5 246 Lib.Math.min.name) (List.mem_of_getElem? (i := 3) rfl)) (hts (.static Lib.Math.min.name) (List.mem_of_getElem? (i := 4) rfl)) (hts (.initialized "java/lang/Math") (List.mem_of_getElem? (i := 5) rfl)) (hts (.code Lib.Math.min.name Lib.Math.min.code 2 (some .int)) (List.mem_of_getElem? (i := 6) rfl)) (Nat.le_of_ble_eq_true rfl) (Nat.le_of_ble_eq_true rfl) (Nat.zero_le _) (Nat.zero_le _) dX5_countFewest_106 ?_
                  refine zrw (zmin_n (by decide) (by have h91 := zfw_le (zrJ S) 7 ((j : Int) - 126); omega)) ?_
                  refine zast (t := j) hx hb hK hP hD hS 12 rfl (by omega) (by decide) dX5_countFewest_109 (fun H locs hP hD hS => ?_)
                  have hP : va_P D vwCl [(h, .inr (5, fs)), (hS9, .inr (3, ft)), (hr9, .inl (cI, 14, .inl ((fun i => S (32 + i))))), (hF9, .inl (cJ, 15, .inr (.inr (.inr (.inr (zq15 q0 q1 q2 q3 q4 q5 q6 q7 q8 q9 q10 q11 q12 q13 q14)))))), (q0, .inl (cI, 253, .inl (F 0))), (q1, .inl (cI, 253, .inl (F 1))), (q2, .inl (cI, 253, .inl (F 2))), (q3, .inl (cI, 253, .inl (F 3))), (q4, .inl (cI, 253, .inl (F 4))), (q5, .inl (cI, 253, .inl (F 5))), (q6, .inl (cI, 253, .inl (F 6))), (q7, .inl (cI, 253, .inl (F 7))), (q8, .inl (cI, 253, .inl (upd g9 j (nI (min 99 (min (zfw (zrJ S) 7 ((q : Int) - 126) + 1) (zfw (zrJ S) 7 ((j : Int) - 126)))))))), (q9, .inl (cI, 253, .inl (F 9))), (q10, .inl (cI, 253, .inl (F 10))), (q11, .inl (cI, 253, .inl (F 11))), (q12, .inl (cI, 253, .inl (F 12))), (q13, .inl (cI, 253, .inl (F 13))), (q14, .inl (cI, 253, .inl (F 14)))] H := hP
                  have hD : va_D AA [(h, .inr (5, fs)), (hS9, .inr (3, ft)), (hr9, .inl (cI, 14, .inl ((fun i => S (32 + i))))), (hF9, .inl (cJ, 15, .inr (.inr (.inr (.inr (zq15 q0 q1 q2 q3 q4 q5 q6 q7 q8 q9 q10 q11 q12 q13 q14)))))), (q0, .inl (cI, 253, .inl (F 0))), (q1, .inl (cI, 253, .inl (F 1))), (q2, .inl (cI, 253, .inl (F 2))), (q3, .inl (cI, 253, .inl (F 3))), (q4, .inl (cI, 253, .inl (F 4))), (q5, .inl (cI, 253, .inl (F 5))), (q6, .inl (cI, 253, .inl (F 6))), (q7, .inl (cI, 253, .inl (F 7))), (q8, .inl (cI, 253, .inl (upd g9 j (nI (min 99 (min (zfw (zrJ S) 7 ((q : Int) - 126) + 1) (zfw (zrJ S) 7 ((j : Int) - 126)))))))), (q9, .inl (cI, 253, .inl (F 9))), (q10, .inl (cI, 253, .inl (F 10))), (q11, .inl (cI, 253, .inl (F 11))), (q12, .inl (cI, 253, .inl (F 12))), (q13, .inl (cI, 253, .inl (F 13))), (q14, .inl (cI, 253, .inl (F 14)))] := hD
                  refine lv_iinc (v := nI (j + 1)) (lv' := [(2, .int (nI (j + 1))), (4, .int (nI ((zfw (zrJ S) 7 ((q : Int) - 126)) + 1))), (3, .int (nI q)), (0, .ref h), (1, .int (nI 7))]) hx hb dX5_countFewest_110 hl (k := 4) rfl (nI_add _ _) (by decide) rfl (fun ls hl => ?_)
                  refine lv_goto (tgt := 36) hx hb dX5_countFewest_113 (by decide) ?_
                  exact ih_36  (j + 1) (upd g9 j (nI (min 99 (min (zfw (zrJ S) 7 ((q : Int) - 126) + 1) (zfw (zrJ S) 7 ((j : Int) - 126)))))) (by omega) (by omega) (fun x h91 => (Nat.lt_or_ge x j).elim (fun h92 => (if_neg (show ¬ x = j by omega)).trans (hg x h92)) (fun h92 => by rw [show x = j by omega]; exact (if_pos rfl).trans (zfw_in (hri 7 (by decide)) (by omega) (by omega) ebf))) ls (lv_sub hl [3, 4, 0] rfl) H locs hP hD hS
          exact L_36 (253 + 1) 0 (F 8) (by omega) (by omega) (fun x h91 => absurd h91 (by omega)) ls (lv_sub hl [1, 2, 0] rfl) _ _ hP hD hS
        · subst h9
          refine lv_iconst (v := nI 0) hx hb dX5_countFewest_34 (by decide) ?_
          refine lv_istore_n (lv' := [(2, .int (nI 0)), (0, .ref h), (1, .int (nI 8))]) hx hb dX5_countFewest_35 rfl hl (by decide) rfl (fun ls hl => ?_)
          have L_36 : ∀ (fu j : Nat) (g9 : Nat → Int32) (hi : j ≤ 253) (hn : 253 + 1 ≤ j + fu) (hg : ∀ x, x < j → g9 x = nI (zfw (zrJ S) (8 + 1) ((x : Int) - 126))), ∀ (ls : Array Slot), lv_has ls 5 [(0, .ref h), (1, .int (nI 8)), (2, .int (nI j))] → ∀ (H : Heap) (locs : List Loc), va_P D vwCl [(h, .inr (5, fs)), (hS9, .inr (3, ft)), (hr9, .inl (cI, 14, .inl ((fun i => S (32 + i))))), (hF9, .inl (cJ, 15, .inr (.inr (.inr (.inr (zq15 q0 q1 q2 q3 q4 q5 q6 q7 q8 q9 q10 q11 q12 q13 q14)))))), (q0, .inl (cI, 253, .inl (F 0))), (q1, .inl (cI, 253, .inl (F 1))), (q2, .inl (cI, 253, .inl (F 2))), (q3, .inl (cI, 253, .inl (F 3))), (q4, .inl (cI, 253, .inl (F 4))), (q5, .inl (cI, 253, .inl (F 5))), (q6, .inl (cI, 253, .inl (F 6))), (q7, .inl (cI, 253, .inl (F 7))), (q8, .inl (cI, 253, .inl (F 8))), (q9, .inl (cI, 253, .inl g9)), (q10, .inl (cI, 253, .inl (F 10))), (q11, .inl (cI, 253, .inl (F 11))), (q12, .inl (cI, 253, .inl (F 12))), (q13, .inl (cI, 253, .inl (F 13))), (q14, .inl (cI, 253, .inl (F 14)))] H → va_D AA [(h, .inr (5, fs)), (hS9, .inr (3, ft)), (hr9, .inl (cI, 14, .inl ((fun i => S (32 + i))))), (hF9, .inl (cJ, 15, .inr (.inr (.inr (.inr (zq15 q0 q1 q2 q3 q4 q5 q6 q7 q8 q9 q10 q11 q12 q13 q14)))))), (q0, .inl (cI, 253, .inl (F 0))), (q1, .inl (cI, 253, .inl (F 1))), (q2, .inl (cI, 253, .inl (F 2))), (q3, .inl (cI, 253, .inl (F 3))), (q4, .inl (cI, 253, .inl (F 4))), (q5, .inl (cI, 253, .inl (F 5))), (q6, .inl (cI, 253, .inl (F 6))), (q7, .inl (cI, 253, .inl (F 7))), (q8, .inl (cI, 253, .inl (F 8))), (q9, .inl (cI, 253, .inl g9)), (q10, .inl (cI, 253, .inl (F 10))), (q11, .inl (cI, 253, .inl (F 11))), (q12, .inl (cI, 253, .inl (F 12))), (q13, .inl (cI, 253, .inl (F 13))), (q14, .inl (cI, 253, .inl (F 14)))] → va_S AA s.heap H locs → W pg l ev ({ frames := 1, cells := 0, slots := 0, locals := 23 } : Room) s mt args below meth cd H locs 0 0 QQ (F0 mt 36 ls []) := by
            intro fu
            induction fu with
            | zero =>
              intro j g9 hi hn
              exact absurd hn (by omega)
            | succ fu ih_36 =>
              intro j g9 hi hn hg ls hl H locs hP hD hS
              refine lv_iload_n hx hb dX5_countFewest_36 rfl (lv_at hl 2 rfl) ?_
              refine lv_sipush (v := nI 252) hx hb dX5_countFewest_37 (by decide) ?_
              refine lv_icmp_gt (tgt := 116) hx hb dX5_countFewest_40 (by decide) (fun c40_20 => ?_) (fun c40_20 => ?_)
              · have c40_20 : 252 < j := (nI_ltI (a := 252) (b := j) (by omega) (by omega)).mp c40_20
                refine lv_iinc (v := nI (8 + 1)) (lv' := [(1, .int (nI (8 + 1))), (0, .ref h), (2, .int (nI j))]) hx hb dX5_countFewest_116 hl (k := 1) rfl (nI_add _ _) (by decide) rfl (fun ls hl => ?_)
                refine lv_goto (tgt := 23) hx hb dX5_countFewest_119 (by decide) ?_
                exact ih_23  (8 + 1) ((zlf [F 0, F 1, F 2, F 3, F 4, F 5, F 6, F 7, F 8, g9, F 10, F 11, F 12, F 13, F 14])) (by omega) (by omega) (fun k9 h91 x h92 => by rcases (show k9 = 0 ∨ k9 = 1 ∨ k9 = 2 ∨ k9 = 3 ∨ k9 = 4 ∨ k9 = 5 ∨ k9 = 6 ∨ k9 = 7 ∨ k9 = 8 ∨ k9 = 9 from by omega) with h9 | h9 | h9 | h9 | h9 | h9 | h9 | h9 | h9 | h9 <;> subst h9 <;> first | exact hg x (by omega) | exact hF _ (by omega) x h92) ls (lv_sub hl [1, 0] rfl) H locs hP hD hS
              · have c40_20 : ¬ (252 < j) := fun h9 => c40_20 ((nI_ltI (a := 252) (b := j) (by omega) (by omega)).mpr h9)
                refine lv_iload_n hx hb dX5_countFewest_43 rfl (lv_at hl 2 rfl) ?_
                refine lv_aload_n hx hb dX5_countFewest_44 rfl (lv_at hl 0 rfl) ?_
                refine va_get (ci := 5) (v := .ref hS9) (C := RX5) (T := TX5) (N := 9) hx hb hts hin5 hown hK hP 0 rfl rfl 0 (by decide) (hts (.fieldLink RX5 12 "UpAllRound" "now" "LUpAllRound$Stair;") (List.mem_of_getElem? (i := 2) rfl)) (fun _ h9 => h9) hU0 dX5_countFewest_45 ?_
                refine va_getN (ci := 3) (v := .ref hr9) (C := RX3) (T := TX3) (N := 16) hx hb hts hin3 hown hK hP 1 rfl rfl 1 (by decide) (va_Nw.use rfl (hN (.fieldLinkNest "UpAllRound" 78 "UpAllRound$Stair" "rises" "[I" "UpAllRound") (List.mem_of_getElem? (i := 1) rfl))) (fun _ h9 => h9) hft1 dX5_countFewest_48 ?_
                refine lv_iload_n hx hb dX5_countFewest_51 rfl (lv_at hl 1 rfl) ?_
                refine zald (t := 8) hx hb hK hP 2 rfl (by omega) (by decide) dX5_countFewest_52 ?_
                refine zrw rfl ?_
                refine lv_isub hx hb dX5_countFewest_53 ?_
                refine lv_topi (fun bf ebf => ?_)
                refine lv_istore_n (lv' := [(3, .int bf), (0, .ref h), (1, .int (nI 8)), (2, .int (nI j))]) hx hb dX5_countFewest_54 rfl hl (by decide) rfl (fun ls hl => ?_)
                refine lv_bipush (v := nI 99) hx hb dX5_countFewest_55 (by decide) ?_
                refine lv_istore (lv' := [(4, .int (nI 99)), (3, .int bf), (0, .ref h), (1, .int (nI 8)), (2, .int (nI j))]) hx hb dX5_countFewest_57 hl (by decide) rfl (fun ls hl => ?_)
                refine lv_iload_n hx hb dX5_countFewest_59 rfl (lv_at hl 1 rfl) ?_
                refine lv_iconst (v := nI 0) hx hb dX5_countFewest_60 (by decide) ?_
                refine lv_sipush (v := nI 252) hx hb dX5_countFewest_61 (by decide) ?_
                refine zcsE (va_runS (As := [.int bf, .int (nI 0), .int (nI 252)]) (rest := []) ⟨hx, hb, hml, hown, hts⟩ (d_X5_isOutside l D cI cJ bf (nI 0) (nI 252) 0 252 (by decide) (by decide) H.size) (va_cwS 3 hts gX5_countFewest_X5_isOutside rfl rfl rfl (by decide +kernel) ⟨Nat.le_of_ble_eq_true rfl, Nat.le_of_ble_eq_true rfl⟩) (zpS hK hN hZ hP hD hS hA [] rfl (by decide)) rfl rfl hl.1 rfl (lv_room (Nat.le_of_ble_eq_true rfl)) dX5_countFewest_64 ⟨Nat.zero_le _, Nat.zero_le _⟩) ?_
                refine lv_if_ne (tgt := 82) hx hb dX5_countFewest_67 (by decide) (fun c67_21 => ?_) (fun c67_21 => ?_)
                · have c67_21 := bI_nn0.mp c67_21
                  refine lv_aload_n hx hb dX5_countFewest_82 rfl (lv_at hl 2 rfl) ?_
                  refine va_get (ci := 5) (v := .ref hF9) (C := RX5) (T := TX5) (N := 9) hx hb hts hin5 hown hK hP 0 rfl rfl 6 (by decide) (hts (.fieldLink RX5 45 "UpAllRound" "fewest" "[[I") (List.mem_of_getElem? (i := 1) rfl)) (fun _ h9 => h9) hU6 dX5_countFewest_83 ?_
                  refine lv_iload_n hx hb dX5_countFewest_86 rfl (lv_at hl 3 rfl) ?_
                  refine lv_iconst (v := nI 1) hx hb dX5_countFewest_87 (by decide) ?_
                  refine lv_iadd hx hb dX5_countFewest_88 ?_
                  refine zrw (nI_add _ _) ?_
                  refine zaldq (t := 9) (x := q9) hx hb hK hP 3 rfl (by decide) (by decide) rfl dX5_countFewest_89 ?_
                  refine lv_iload_n hx hb dX5_countFewest_90 rfl (lv_at hl 4 rfl) ?_
                  refine lv_bipush (v := nI 99) hx hb dX5_countFewest_91 (by decide) ?_
                  refine lv_iload hx hb dX5_countFewest_93 (lv_at hl 0 rfl) ?_
                  refine lv_aload_n hx hb dX5_countFewest_95 rfl (lv_at hl 2 rfl) ?_
                  refine va_get (ci := 5) (v := .ref hF9) (C := RX5) (T := TX5) (N := 9) hx hb hts hin5 hown hK hP 0 rfl rfl 6 (by decide) (hts (.fieldLink RX5 45 "UpAllRound" "fewest" "[[I") (List.mem_of_getElem? (i := 1) rfl)) (fun _ h9 => h9) hU6 dX5_countFewest_96 ?_
                  refine lv_iload_n hx hb dX5_countFewest_99 rfl (lv_at hl 3 rfl) ?_
                  refine zaldq (t := 8) (x := q8) hx hb hK hP 3 rfl (by decide) (by decide) rfl dX5_countFewest_100 ?_
                  refine lv_iload_n hx hb dX5_countFewest_101 rfl (lv_at hl 4 rfl) ?_
                  refine zald (t := j) hx hb hK hP 12 rfl (by omega) (by decide) dX5_countFewest_102 ?_
                  refine zrw (hF 8 (by omega) j (by omega)) ?_
                  refine va_mmin hx hb (by rw [hml]; exact hl.1.symm) hown (hts (.methodLink RX5 246 Lib.Math.min.name) (List.mem_of_getElem? (i := 3) rfl)) (hts (.static Lib.Math.min.name) (List.mem_of_getElem? (i := 4) rfl)) (hts (.initialized "java/lang/Math") (List.mem_of_getElem? (i := 5) rfl)) (hts (.code Lib.Math.min.name Lib.Math.min.code 2 (some .int)) (List.mem_of_getElem? (i := 6) rfl)) (Nat.le_of_ble_eq_true rfl) (Nat.le_of_ble_eq_true rfl) (Nat.zero_le _) (Nat.zero_le _) dX5_countFewest_103 ?_
                  refine zrw (zmin_n (by have h91 := zfw_le (zrJ S) 8 ((j : Int) - 126); omega) (by have h91 := zfw_le (zrJ S) 8 ((j : Int) - 126); omega)) ?_
                  refine va_mmin hx hb (by rw [hml]; exact hl.1.symm) hown (hts (.methodLink RX5 246 Lib.Math.min.name) (List.mem_of_getElem? (i := 3) rfl)) (hts (.static Lib.Math.min.name) (List.mem_of_getElem? (i := 4) rfl)) (hts (.initialized "java/lang/Math") (List.mem_of_getElem? (i := 5) rfl)) (hts (.code Lib.Math.min.name Lib.Math.min.code 2 (some .int)) (List.mem_of_getElem? (i := 6) rfl)) (Nat.le_of_ble_eq_true rfl) (Nat.le_of_ble_eq_true rfl) (Nat.zero_le _) (Nat.zero_le _) dX5_countFewest_106 ?_
                  refine zrw (zmin_n (by decide) (by have h91 := zfw_le (zrJ S) 8 ((j : Int) - 126); omega)) ?_
                  refine zast (t := j) hx hb hK hP hD hS 13 rfl (by omega) (by decide) dX5_countFewest_109 (fun H locs hP hD hS => ?_)
                  have hP : va_P D vwCl [(h, .inr (5, fs)), (hS9, .inr (3, ft)), (hr9, .inl (cI, 14, .inl ((fun i => S (32 + i))))), (hF9, .inl (cJ, 15, .inr (.inr (.inr (.inr (zq15 q0 q1 q2 q3 q4 q5 q6 q7 q8 q9 q10 q11 q12 q13 q14)))))), (q0, .inl (cI, 253, .inl (F 0))), (q1, .inl (cI, 253, .inl (F 1))), (q2, .inl (cI, 253, .inl (F 2))), (q3, .inl (cI, 253, .inl (F 3))), (q4, .inl (cI, 253, .inl (F 4))), (q5, .inl (cI, 253, .inl (F 5))), (q6, .inl (cI, 253, .inl (F 6))), (q7, .inl (cI, 253, .inl (F 7))), (q8, .inl (cI, 253, .inl (F 8))), (q9, .inl (cI, 253, .inl (upd g9 j (nI (min 99 (min (99) (zfw (zrJ S) 8 ((j : Int) - 126)))))))), (q10, .inl (cI, 253, .inl (F 10))), (q11, .inl (cI, 253, .inl (F 11))), (q12, .inl (cI, 253, .inl (F 12))), (q13, .inl (cI, 253, .inl (F 13))), (q14, .inl (cI, 253, .inl (F 14)))] H := hP
                  have hD : va_D AA [(h, .inr (5, fs)), (hS9, .inr (3, ft)), (hr9, .inl (cI, 14, .inl ((fun i => S (32 + i))))), (hF9, .inl (cJ, 15, .inr (.inr (.inr (.inr (zq15 q0 q1 q2 q3 q4 q5 q6 q7 q8 q9 q10 q11 q12 q13 q14)))))), (q0, .inl (cI, 253, .inl (F 0))), (q1, .inl (cI, 253, .inl (F 1))), (q2, .inl (cI, 253, .inl (F 2))), (q3, .inl (cI, 253, .inl (F 3))), (q4, .inl (cI, 253, .inl (F 4))), (q5, .inl (cI, 253, .inl (F 5))), (q6, .inl (cI, 253, .inl (F 6))), (q7, .inl (cI, 253, .inl (F 7))), (q8, .inl (cI, 253, .inl (F 8))), (q9, .inl (cI, 253, .inl (upd g9 j (nI (min 99 (min (99) (zfw (zrJ S) 8 ((j : Int) - 126)))))))), (q10, .inl (cI, 253, .inl (F 10))), (q11, .inl (cI, 253, .inl (F 11))), (q12, .inl (cI, 253, .inl (F 12))), (q13, .inl (cI, 253, .inl (F 13))), (q14, .inl (cI, 253, .inl (F 14)))] := hD
                  refine lv_iinc (v := nI (j + 1)) (lv' := [(2, .int (nI (j + 1))), (4, .int (nI 99)), (3, .int bf), (0, .ref h), (1, .int (nI 8))]) hx hb dX5_countFewest_110 hl (k := 4) rfl (nI_add _ _) (by decide) rfl (fun ls hl => ?_)
                  refine lv_goto (tgt := 36) hx hb dX5_countFewest_113 (by decide) ?_
                  exact ih_36  (j + 1) (upd g9 j (nI (min 99 (min (99) (zfw (zrJ S) 8 ((j : Int) - 126)))))) (by omega) (by omega) (fun x h91 => (Nat.lt_or_ge x j).elim (fun h92 => (if_neg (show ¬ x = j by omega)).trans (hg x h92)) (fun h92 => by rw [show x = j by omega]; exact (if_pos rfl).trans (zfw_out hri (by decide) (by omega) ebf (by assumption)))) ls (lv_sub hl [3, 4, 0] rfl) H locs hP hD hS
                · have c67_21 := bI_nX0.mp c67_21
                  obtain ⟨q, h_q, rfl⟩ : ∃ q : Nat, q ≤ 252 ∧ bf = nI q := zrg_of c67_21 (by decide)
                  refine lv_aload_n hx hb dX5_countFewest_70 rfl (lv_at hl 2 rfl) ?_
                  refine va_get (ci := 5) (v := .ref hF9) (C := RX5) (T := TX5) (N := 9) hx hb hts hin5 hown hK hP 0 rfl rfl 6 (by decide) (hts (.fieldLink RX5 45 "UpAllRound" "fewest" "[[I") (List.mem_of_getElem? (i := 1) rfl)) (fun _ h9 => h9) hU6 dX5_countFewest_71 ?_
                  refine lv_iload_n hx hb dX5_countFewest_74 rfl (lv_at hl 3 rfl) ?_
                  refine zaldq (t := 8) (x := q8) hx hb hK hP 3 rfl (by decide) (by decide) rfl dX5_countFewest_75 ?_
                  refine lv_iload_n hx hb dX5_countFewest_76 rfl (lv_at hl 1 rfl) ?_
                  refine zald (t := q) hx hb hK hP 12 rfl (by omega) (by decide) dX5_countFewest_77 ?_
                  refine zrw (hF 8 (by omega) q (by omega)) ?_
                  refine lv_iconst (v := nI 1) hx hb dX5_countFewest_78 (by decide) ?_
                  refine lv_iadd hx hb dX5_countFewest_79 ?_
                  refine zrw (nI_add _ _) ?_
                  refine lv_istore (lv' := [(4, .int (nI ((zfw (zrJ S) 8 ((q : Int) - 126)) + 1))), (3, .int (nI q)), (0, .ref h), (1, .int (nI 8)), (2, .int (nI j))]) hx hb dX5_countFewest_80 hl (by decide) rfl (fun ls hl => ?_)
                  refine lv_aload_n hx hb dX5_countFewest_82 rfl (lv_at hl 2 rfl) ?_
                  refine va_get (ci := 5) (v := .ref hF9) (C := RX5) (T := TX5) (N := 9) hx hb hts hin5 hown hK hP 0 rfl rfl 6 (by decide) (hts (.fieldLink RX5 45 "UpAllRound" "fewest" "[[I") (List.mem_of_getElem? (i := 1) rfl)) (fun _ h9 => h9) hU6 dX5_countFewest_83 ?_
                  refine lv_iload_n hx hb dX5_countFewest_86 rfl (lv_at hl 3 rfl) ?_
                  refine lv_iconst (v := nI 1) hx hb dX5_countFewest_87 (by decide) ?_
                  refine lv_iadd hx hb dX5_countFewest_88 ?_
                  refine zrw (nI_add _ _) ?_
                  refine zaldq (t := 9) (x := q9) hx hb hK hP 3 rfl (by decide) (by decide) rfl dX5_countFewest_89 ?_
                  refine lv_iload_n hx hb dX5_countFewest_90 rfl (lv_at hl 4 rfl) ?_
                  refine lv_bipush (v := nI 99) hx hb dX5_countFewest_91 (by decide) ?_
                  refine lv_iload hx hb dX5_countFewest_93 (lv_at hl 0 rfl) ?_
                  refine lv_aload_n hx hb dX5_countFewest_95 rfl (lv_at hl 2 rfl) ?_
                  refine va_get (ci := 5) (v := .ref hF9) (C := RX5) (T := TX5) (N := 9) hx hb hts hin5 hown hK hP 0 rfl rfl 6 (by decide) (hts (.fieldLink RX5 45 "UpAllRound" "fewest" "[[I") (List.mem_of_getElem? (i := 1) rfl)) (fun _ h9 => h9) hU6 dX5_countFewest_96 ?_
                  refine lv_iload_n hx hb dX5_countFewest_99 rfl (lv_at hl 3 rfl) ?_
                  refine zaldq (t := 8) (x := q8) hx hb hK hP 3 rfl (by decide) (by decide) rfl dX5_countFewest_100 ?_
                  refine lv_iload_n hx hb dX5_countFewest_101 rfl (lv_at hl 4 rfl) ?_
                  refine zald (t := j) hx hb hK hP 12 rfl (by omega) (by decide) dX5_countFewest_102 ?_
                  refine zrw (hF 8 (by omega) j (by omega)) ?_
                  refine va_mmin hx hb (by rw [hml]; exact hl.1.symm) hown (hts (.methodLink RX5 246 Lib.Math.min.name) (List.mem_of_getElem? (i := 3) rfl)) (hts (.static Lib.Math.min.name) (List.mem_of_getElem? (i := 4) rfl)) (hts (.initialized "java/lang/Math") (List.mem_of_getElem? (i := 5) rfl)) (hts (.code Lib.Math.min.name Lib.Math.min.code 2 (some .int)) (List.mem_of_getElem? (i := 6) rfl)) (Nat.le_of_ble_eq_true rfl) (Nat.le_of_ble_eq_true rfl) (Nat.zero_le _) (Nat.zero_le _) dX5_countFewest_103 ?_
                  refine zrw (zmin_n (by have h91 := zfw_le (zrJ S) 8 ((q : Int) - 126); omega) (by have h91 := zfw_le (zrJ S) 8 ((j : Int) - 126); omega)) ?_
                  refine va_mmin hx hb (by rw [hml]; exact hl.1.symm) hown (hts (.methodLink RX5 246 Lib.Math.min.name) (List.mem_of_getElem? (i := 3) rfl)) (hts (.static Lib.Math.min.name) (List.mem_of_getElem? (i := 4) rfl)) (hts (.initialized "java/lang/Math") (List.mem_of_getElem? (i := 5) rfl)) (hts (.code Lib.Math.min.name Lib.Math.min.code 2 (some .int)) (List.mem_of_getElem? (i := 6) rfl)) (Nat.le_of_ble_eq_true rfl) (Nat.le_of_ble_eq_true rfl) (Nat.zero_le _) (Nat.zero_le _) dX5_countFewest_106 ?_
                  refine zrw (zmin_n (by decide) (by have h91 := zfw_le (zrJ S) 8 ((j : Int) - 126); omega)) ?_
                  refine zast (t := j) hx hb hK hP hD hS 13 rfl (by omega) (by decide) dX5_countFewest_109 (fun H locs hP hD hS => ?_)
                  have hP : va_P D vwCl [(h, .inr (5, fs)), (hS9, .inr (3, ft)), (hr9, .inl (cI, 14, .inl ((fun i => S (32 + i))))), (hF9, .inl (cJ, 15, .inr (.inr (.inr (.inr (zq15 q0 q1 q2 q3 q4 q5 q6 q7 q8 q9 q10 q11 q12 q13 q14)))))), (q0, .inl (cI, 253, .inl (F 0))), (q1, .inl (cI, 253, .inl (F 1))), (q2, .inl (cI, 253, .inl (F 2))), (q3, .inl (cI, 253, .inl (F 3))), (q4, .inl (cI, 253, .inl (F 4))), (q5, .inl (cI, 253, .inl (F 5))), (q6, .inl (cI, 253, .inl (F 6))), (q7, .inl (cI, 253, .inl (F 7))), (q8, .inl (cI, 253, .inl (F 8))), (q9, .inl (cI, 253, .inl (upd g9 j (nI (min 99 (min (zfw (zrJ S) 8 ((q : Int) - 126) + 1) (zfw (zrJ S) 8 ((j : Int) - 126)))))))), (q10, .inl (cI, 253, .inl (F 10))), (q11, .inl (cI, 253, .inl (F 11))), (q12, .inl (cI, 253, .inl (F 12))), (q13, .inl (cI, 253, .inl (F 13))), (q14, .inl (cI, 253, .inl (F 14)))] H := hP
                  have hD : va_D AA [(h, .inr (5, fs)), (hS9, .inr (3, ft)), (hr9, .inl (cI, 14, .inl ((fun i => S (32 + i))))), (hF9, .inl (cJ, 15, .inr (.inr (.inr (.inr (zq15 q0 q1 q2 q3 q4 q5 q6 q7 q8 q9 q10 q11 q12 q13 q14)))))), (q0, .inl (cI, 253, .inl (F 0))), (q1, .inl (cI, 253, .inl (F 1))), (q2, .inl (cI, 253, .inl (F 2))), (q3, .inl (cI, 253, .inl (F 3))), (q4, .inl (cI, 253, .inl (F 4))), (q5, .inl (cI, 253, .inl (F 5))), (q6, .inl (cI, 253, .inl (F 6))), (q7, .inl (cI, 253, .inl (F 7))), (q8, .inl (cI, 253, .inl (F 8))), (q9, .inl (cI, 253, .inl (upd g9 j (nI (min 99 (min (zfw (zrJ S) 8 ((q : Int) - 126) + 1) (zfw (zrJ S) 8 ((j : Int) - 126)))))))), (q10, .inl (cI, 253, .inl (F 10))), (q11, .inl (cI, 253, .inl (F 11))), (q12, .inl (cI, 253, .inl (F 12))), (q13, .inl (cI, 253, .inl (F 13))), (q14, .inl (cI, 253, .inl (F 14)))] := hD
                  refine lv_iinc (v := nI (j + 1)) (lv' := [(2, .int (nI (j + 1))), (4, .int (nI ((zfw (zrJ S) 8 ((q : Int) - 126)) + 1))), (3, .int (nI q)), (0, .ref h), (1, .int (nI 8))]) hx hb dX5_countFewest_110 hl (k := 4) rfl (nI_add _ _) (by decide) rfl (fun ls hl => ?_)
                  refine lv_goto (tgt := 36) hx hb dX5_countFewest_113 (by decide) ?_
                  exact ih_36  (j + 1) (upd g9 j (nI (min 99 (min (zfw (zrJ S) 8 ((q : Int) - 126) + 1) (zfw (zrJ S) 8 ((j : Int) - 126)))))) (by omega) (by omega) (fun x h91 => (Nat.lt_or_ge x j).elim (fun h92 => (if_neg (show ¬ x = j by omega)).trans (hg x h92)) (fun h92 => by rw [show x = j by omega]; exact (if_pos rfl).trans (zfw_in (hri 8 (by decide)) (by omega) (by omega) ebf))) ls (lv_sub hl [3, 4, 0] rfl) H locs hP hD hS
          exact L_36 (253 + 1) 0 (F 9) (by omega) (by omega) (fun x h91 => absurd h91 (by omega)) ls (lv_sub hl [1, 2, 0] rfl) _ _ hP hD hS
        · subst h9
          refine lv_iconst (v := nI 0) hx hb dX5_countFewest_34 (by decide) ?_
          refine lv_istore_n (lv' := [(2, .int (nI 0)), (0, .ref h), (1, .int (nI 9))]) hx hb dX5_countFewest_35 rfl hl (by decide) rfl (fun ls hl => ?_)
          have L_36 : ∀ (fu j : Nat) (g9 : Nat → Int32) (hi : j ≤ 253) (hn : 253 + 1 ≤ j + fu) (hg : ∀ x, x < j → g9 x = nI (zfw (zrJ S) (9 + 1) ((x : Int) - 126))), ∀ (ls : Array Slot), lv_has ls 5 [(0, .ref h), (1, .int (nI 9)), (2, .int (nI j))] → ∀ (H : Heap) (locs : List Loc), va_P D vwCl [(h, .inr (5, fs)), (hS9, .inr (3, ft)), (hr9, .inl (cI, 14, .inl ((fun i => S (32 + i))))), (hF9, .inl (cJ, 15, .inr (.inr (.inr (.inr (zq15 q0 q1 q2 q3 q4 q5 q6 q7 q8 q9 q10 q11 q12 q13 q14)))))), (q0, .inl (cI, 253, .inl (F 0))), (q1, .inl (cI, 253, .inl (F 1))), (q2, .inl (cI, 253, .inl (F 2))), (q3, .inl (cI, 253, .inl (F 3))), (q4, .inl (cI, 253, .inl (F 4))), (q5, .inl (cI, 253, .inl (F 5))), (q6, .inl (cI, 253, .inl (F 6))), (q7, .inl (cI, 253, .inl (F 7))), (q8, .inl (cI, 253, .inl (F 8))), (q9, .inl (cI, 253, .inl (F 9))), (q10, .inl (cI, 253, .inl g9)), (q11, .inl (cI, 253, .inl (F 11))), (q12, .inl (cI, 253, .inl (F 12))), (q13, .inl (cI, 253, .inl (F 13))), (q14, .inl (cI, 253, .inl (F 14)))] H → va_D AA [(h, .inr (5, fs)), (hS9, .inr (3, ft)), (hr9, .inl (cI, 14, .inl ((fun i => S (32 + i))))), (hF9, .inl (cJ, 15, .inr (.inr (.inr (.inr (zq15 q0 q1 q2 q3 q4 q5 q6 q7 q8 q9 q10 q11 q12 q13 q14)))))), (q0, .inl (cI, 253, .inl (F 0))), (q1, .inl (cI, 253, .inl (F 1))), (q2, .inl (cI, 253, .inl (F 2))), (q3, .inl (cI, 253, .inl (F 3))), (q4, .inl (cI, 253, .inl (F 4))), (q5, .inl (cI, 253, .inl (F 5))), (q6, .inl (cI, 253, .inl (F 6))), (q7, .inl (cI, 253, .inl (F 7))), (q8, .inl (cI, 253, .inl (F 8))), (q9, .inl (cI, 253, .inl (F 9))), (q10, .inl (cI, 253, .inl g9)), (q11, .inl (cI, 253, .inl (F 11))), (q12, .inl (cI, 253, .inl (F 12))), (q13, .inl (cI, 253, .inl (F 13))), (q14, .inl (cI, 253, .inl (F 14)))] → va_S AA s.heap H locs → W pg l ev ({ frames := 1, cells := 0, slots := 0, locals := 23 } : Room) s mt args below meth cd H locs 0 0 QQ (F0 mt 36 ls []) := by
            intro fu
            induction fu with
            | zero =>
              intro j g9 hi hn
              exact absurd hn (by omega)
            | succ fu ih_36 =>
              intro j g9 hi hn hg ls hl H locs hP hD hS
              refine lv_iload_n hx hb dX5_countFewest_36 rfl (lv_at hl 2 rfl) ?_
              refine lv_sipush (v := nI 252) hx hb dX5_countFewest_37 (by decide) ?_
              refine lv_icmp_gt (tgt := 116) hx hb dX5_countFewest_40 (by decide) (fun c40_22 => ?_) (fun c40_22 => ?_)
              · have c40_22 : 252 < j := (nI_ltI (a := 252) (b := j) (by omega) (by omega)).mp c40_22
                refine lv_iinc (v := nI (9 + 1)) (lv' := [(1, .int (nI (9 + 1))), (0, .ref h), (2, .int (nI j))]) hx hb dX5_countFewest_116 hl (k := 1) rfl (nI_add _ _) (by decide) rfl (fun ls hl => ?_)
                refine lv_goto (tgt := 23) hx hb dX5_countFewest_119 (by decide) ?_
                exact ih_23  (9 + 1) ((zlf [F 0, F 1, F 2, F 3, F 4, F 5, F 6, F 7, F 8, F 9, g9, F 11, F 12, F 13, F 14])) (by omega) (by omega) (fun k9 h91 x h92 => by rcases (show k9 = 0 ∨ k9 = 1 ∨ k9 = 2 ∨ k9 = 3 ∨ k9 = 4 ∨ k9 = 5 ∨ k9 = 6 ∨ k9 = 7 ∨ k9 = 8 ∨ k9 = 9 ∨ k9 = 10 from by omega) with h9 | h9 | h9 | h9 | h9 | h9 | h9 | h9 | h9 | h9 | h9 <;> subst h9 <;> first | exact hg x (by omega) | exact hF _ (by omega) x h92) ls (lv_sub hl [1, 0] rfl) H locs hP hD hS
              · have c40_22 : ¬ (252 < j) := fun h9 => c40_22 ((nI_ltI (a := 252) (b := j) (by omega) (by omega)).mpr h9)
                refine lv_iload_n hx hb dX5_countFewest_43 rfl (lv_at hl 2 rfl) ?_
                refine lv_aload_n hx hb dX5_countFewest_44 rfl (lv_at hl 0 rfl) ?_
                refine va_get (ci := 5) (v := .ref hS9) (C := RX5) (T := TX5) (N := 9) hx hb hts hin5 hown hK hP 0 rfl rfl 0 (by decide) (hts (.fieldLink RX5 12 "UpAllRound" "now" "LUpAllRound$Stair;") (List.mem_of_getElem? (i := 2) rfl)) (fun _ h9 => h9) hU0 dX5_countFewest_45 ?_
                refine va_getN (ci := 3) (v := .ref hr9) (C := RX3) (T := TX3) (N := 16) hx hb hts hin3 hown hK hP 1 rfl rfl 1 (by decide) (va_Nw.use rfl (hN (.fieldLinkNest "UpAllRound" 78 "UpAllRound$Stair" "rises" "[I" "UpAllRound") (List.mem_of_getElem? (i := 1) rfl))) (fun _ h9 => h9) hft1 dX5_countFewest_48 ?_
                refine lv_iload_n hx hb dX5_countFewest_51 rfl (lv_at hl 1 rfl) ?_
                refine zald (t := 9) hx hb hK hP 2 rfl (by omega) (by decide) dX5_countFewest_52 ?_
                refine zrw rfl ?_
                refine lv_isub hx hb dX5_countFewest_53 ?_
                refine lv_topi (fun bf ebf => ?_)
                refine lv_istore_n (lv' := [(3, .int bf), (0, .ref h), (1, .int (nI 9)), (2, .int (nI j))]) hx hb dX5_countFewest_54 rfl hl (by decide) rfl (fun ls hl => ?_)
                refine lv_bipush (v := nI 99) hx hb dX5_countFewest_55 (by decide) ?_
                refine lv_istore (lv' := [(4, .int (nI 99)), (3, .int bf), (0, .ref h), (1, .int (nI 9)), (2, .int (nI j))]) hx hb dX5_countFewest_57 hl (by decide) rfl (fun ls hl => ?_)
                refine lv_iload_n hx hb dX5_countFewest_59 rfl (lv_at hl 1 rfl) ?_
                refine lv_iconst (v := nI 0) hx hb dX5_countFewest_60 (by decide) ?_
                refine lv_sipush (v := nI 252) hx hb dX5_countFewest_61 (by decide) ?_
                refine zcsE (va_runS (As := [.int bf, .int (nI 0), .int (nI 252)]) (rest := []) ⟨hx, hb, hml, hown, hts⟩ (d_X5_isOutside l D cI cJ bf (nI 0) (nI 252) 0 252 (by decide) (by decide) H.size) (va_cwS 3 hts gX5_countFewest_X5_isOutside rfl rfl rfl (by decide +kernel) ⟨Nat.le_of_ble_eq_true rfl, Nat.le_of_ble_eq_true rfl⟩) (zpS hK hN hZ hP hD hS hA [] rfl (by decide)) rfl rfl hl.1 rfl (lv_room (Nat.le_of_ble_eq_true rfl)) dX5_countFewest_64 ⟨Nat.zero_le _, Nat.zero_le _⟩) ?_
                refine lv_if_ne (tgt := 82) hx hb dX5_countFewest_67 (by decide) (fun c67_23 => ?_) (fun c67_23 => ?_)
                · have c67_23 := bI_nn0.mp c67_23
                  refine lv_aload_n hx hb dX5_countFewest_82 rfl (lv_at hl 2 rfl) ?_
                  refine va_get (ci := 5) (v := .ref hF9) (C := RX5) (T := TX5) (N := 9) hx hb hts hin5 hown hK hP 0 rfl rfl 6 (by decide) (hts (.fieldLink RX5 45 "UpAllRound" "fewest" "[[I") (List.mem_of_getElem? (i := 1) rfl)) (fun _ h9 => h9) hU6 dX5_countFewest_83 ?_
                  refine lv_iload_n hx hb dX5_countFewest_86 rfl (lv_at hl 3 rfl) ?_
                  refine lv_iconst (v := nI 1) hx hb dX5_countFewest_87 (by decide) ?_
                  refine lv_iadd hx hb dX5_countFewest_88 ?_
                  refine zrw (nI_add _ _) ?_
                  refine zaldq (t := 10) (x := q10) hx hb hK hP 3 rfl (by decide) (by decide) rfl dX5_countFewest_89 ?_
                  refine lv_iload_n hx hb dX5_countFewest_90 rfl (lv_at hl 4 rfl) ?_
                  refine lv_bipush (v := nI 99) hx hb dX5_countFewest_91 (by decide) ?_
                  refine lv_iload hx hb dX5_countFewest_93 (lv_at hl 0 rfl) ?_
                  refine lv_aload_n hx hb dX5_countFewest_95 rfl (lv_at hl 2 rfl) ?_
                  refine va_get (ci := 5) (v := .ref hF9) (C := RX5) (T := TX5) (N := 9) hx hb hts hin5 hown hK hP 0 rfl rfl 6 (by decide) (hts (.fieldLink RX5 45 "UpAllRound" "fewest" "[[I") (List.mem_of_getElem? (i := 1) rfl)) (fun _ h9 => h9) hU6 dX5_countFewest_96 ?_
                  refine lv_iload_n hx hb dX5_countFewest_99 rfl (lv_at hl 3 rfl) ?_
                  refine zaldq (t := 9) (x := q9) hx hb hK hP 3 rfl (by decide) (by decide) rfl dX5_countFewest_100 ?_
                  refine lv_iload_n hx hb dX5_countFewest_101 rfl (lv_at hl 4 rfl) ?_
                  refine zald (t := j) hx hb hK hP 13 rfl (by omega) (by decide) dX5_countFewest_102 ?_
                  refine zrw (hF 9 (by omega) j (by omega)) ?_
                  refine va_mmin hx hb (by rw [hml]; exact hl.1.symm) hown (hts (.methodLink RX5 246 Lib.Math.min.name) (List.mem_of_getElem? (i := 3) rfl)) (hts (.static Lib.Math.min.name) (List.mem_of_getElem? (i := 4) rfl)) (hts (.initialized "java/lang/Math") (List.mem_of_getElem? (i := 5) rfl)) (hts (.code Lib.Math.min.name Lib.Math.min.code 2 (some .int)) (List.mem_of_getElem? (i := 6) rfl)) (Nat.le_of_ble_eq_true rfl) (Nat.le_of_ble_eq_true rfl) (Nat.zero_le _) (Nat.zero_le _) dX5_countFewest_103 ?_
                  refine zrw (zmin_n (by have h91 := zfw_le (zrJ S) 9 ((j : Int) - 126); omega) (by have h91 := zfw_le (zrJ S) 9 ((j : Int) - 126); omega)) ?_
                  refine va_mmin hx hb (by rw [hml]; exact hl.1.symm) hown (hts (.methodLink RX5 246 Lib.Math.min.name) (List.mem_of_getElem? (i := 3) rfl)) (hts (.static Lib.Math.min.name) (List.mem_of_getElem? (i := 4) rfl)) (hts (.initialized "java/lang/Math") (List.mem_of_getElem? (i := 5) rfl)) (hts (.code Lib.Math.min.name Lib.Math.min.code 2 (some .int)) (List.mem_of_getElem? (i := 6) rfl)) (Nat.le_of_ble_eq_true rfl) (Nat.le_of_ble_eq_true rfl) (Nat.zero_le _) (Nat.zero_le _) dX5_countFewest_106 ?_
                  refine zrw (zmin_n (by decide) (by have h91 := zfw_le (zrJ S) 9 ((j : Int) - 126); omega)) ?_
                  refine zast (t := j) hx hb hK hP hD hS 14 rfl (by omega) (by decide) dX5_countFewest_109 (fun H locs hP hD hS => ?_)
                  have hP : va_P D vwCl [(h, .inr (5, fs)), (hS9, .inr (3, ft)), (hr9, .inl (cI, 14, .inl ((fun i => S (32 + i))))), (hF9, .inl (cJ, 15, .inr (.inr (.inr (.inr (zq15 q0 q1 q2 q3 q4 q5 q6 q7 q8 q9 q10 q11 q12 q13 q14)))))), (q0, .inl (cI, 253, .inl (F 0))), (q1, .inl (cI, 253, .inl (F 1))), (q2, .inl (cI, 253, .inl (F 2))), (q3, .inl (cI, 253, .inl (F 3))), (q4, .inl (cI, 253, .inl (F 4))), (q5, .inl (cI, 253, .inl (F 5))), (q6, .inl (cI, 253, .inl (F 6))), (q7, .inl (cI, 253, .inl (F 7))), (q8, .inl (cI, 253, .inl (F 8))), (q9, .inl (cI, 253, .inl (F 9))), (q10, .inl (cI, 253, .inl (upd g9 j (nI (min 99 (min (99) (zfw (zrJ S) 9 ((j : Int) - 126)))))))), (q11, .inl (cI, 253, .inl (F 11))), (q12, .inl (cI, 253, .inl (F 12))), (q13, .inl (cI, 253, .inl (F 13))), (q14, .inl (cI, 253, .inl (F 14)))] H := hP
                  have hD : va_D AA [(h, .inr (5, fs)), (hS9, .inr (3, ft)), (hr9, .inl (cI, 14, .inl ((fun i => S (32 + i))))), (hF9, .inl (cJ, 15, .inr (.inr (.inr (.inr (zq15 q0 q1 q2 q3 q4 q5 q6 q7 q8 q9 q10 q11 q12 q13 q14)))))), (q0, .inl (cI, 253, .inl (F 0))), (q1, .inl (cI, 253, .inl (F 1))), (q2, .inl (cI, 253, .inl (F 2))), (q3, .inl (cI, 253, .inl (F 3))), (q4, .inl (cI, 253, .inl (F 4))), (q5, .inl (cI, 253, .inl (F 5))), (q6, .inl (cI, 253, .inl (F 6))), (q7, .inl (cI, 253, .inl (F 7))), (q8, .inl (cI, 253, .inl (F 8))), (q9, .inl (cI, 253, .inl (F 9))), (q10, .inl (cI, 253, .inl (upd g9 j (nI (min 99 (min (99) (zfw (zrJ S) 9 ((j : Int) - 126)))))))), (q11, .inl (cI, 253, .inl (F 11))), (q12, .inl (cI, 253, .inl (F 12))), (q13, .inl (cI, 253, .inl (F 13))), (q14, .inl (cI, 253, .inl (F 14)))] := hD
                  refine lv_iinc (v := nI (j + 1)) (lv' := [(2, .int (nI (j + 1))), (4, .int (nI 99)), (3, .int bf), (0, .ref h), (1, .int (nI 9))]) hx hb dX5_countFewest_110 hl (k := 4) rfl (nI_add _ _) (by decide) rfl (fun ls hl => ?_)
                  refine lv_goto (tgt := 36) hx hb dX5_countFewest_113 (by decide) ?_
                  exact ih_36  (j + 1) (upd g9 j (nI (min 99 (min (99) (zfw (zrJ S) 9 ((j : Int) - 126)))))) (by omega) (by omega) (fun x h91 => (Nat.lt_or_ge x j).elim (fun h92 => (if_neg (show ¬ x = j by omega)).trans (hg x h92)) (fun h92 => by rw [show x = j by omega]; exact (if_pos rfl).trans (zfw_out hri (by decide) (by omega) ebf (by assumption)))) ls (lv_sub hl [3, 4, 0] rfl) H locs hP hD hS
                · have c67_23 := bI_nX0.mp c67_23
                  obtain ⟨q, h_q, rfl⟩ : ∃ q : Nat, q ≤ 252 ∧ bf = nI q := zrg_of c67_23 (by decide)
                  refine lv_aload_n hx hb dX5_countFewest_70 rfl (lv_at hl 2 rfl) ?_
                  refine va_get (ci := 5) (v := .ref hF9) (C := RX5) (T := TX5) (N := 9) hx hb hts hin5 hown hK hP 0 rfl rfl 6 (by decide) (hts (.fieldLink RX5 45 "UpAllRound" "fewest" "[[I") (List.mem_of_getElem? (i := 1) rfl)) (fun _ h9 => h9) hU6 dX5_countFewest_71 ?_
                  refine lv_iload_n hx hb dX5_countFewest_74 rfl (lv_at hl 3 rfl) ?_
                  refine zaldq (t := 9) (x := q9) hx hb hK hP 3 rfl (by decide) (by decide) rfl dX5_countFewest_75 ?_
                  refine lv_iload_n hx hb dX5_countFewest_76 rfl (lv_at hl 1 rfl) ?_
                  refine zald (t := q) hx hb hK hP 13 rfl (by omega) (by decide) dX5_countFewest_77 ?_
                  refine zrw (hF 9 (by omega) q (by omega)) ?_
                  refine lv_iconst (v := nI 1) hx hb dX5_countFewest_78 (by decide) ?_
                  refine lv_iadd hx hb dX5_countFewest_79 ?_
                  refine zrw (nI_add _ _) ?_
                  refine lv_istore (lv' := [(4, .int (nI ((zfw (zrJ S) 9 ((q : Int) - 126)) + 1))), (3, .int (nI q)), (0, .ref h), (1, .int (nI 9)), (2, .int (nI j))]) hx hb dX5_countFewest_80 hl (by decide) rfl (fun ls hl => ?_)
                  refine lv_aload_n hx hb dX5_countFewest_82 rfl (lv_at hl 2 rfl) ?_
                  refine va_get (ci := 5) (v := .ref hF9) (C := RX5) (T := TX5) (N := 9) hx hb hts hin5 hown hK hP 0 rfl rfl 6 (by decide) (hts (.fieldLink RX5 45 "UpAllRound" "fewest" "[[I") (List.mem_of_getElem? (i := 1) rfl)) (fun _ h9 => h9) hU6 dX5_countFewest_83 ?_
                  refine lv_iload_n hx hb dX5_countFewest_86 rfl (lv_at hl 3 rfl) ?_
                  refine lv_iconst (v := nI 1) hx hb dX5_countFewest_87 (by decide) ?_
                  refine lv_iadd hx hb dX5_countFewest_88 ?_
                  refine zrw (nI_add _ _) ?_
                  refine zaldq (t := 10) (x := q10) hx hb hK hP 3 rfl (by decide) (by decide) rfl dX5_countFewest_89 ?_
                  refine lv_iload_n hx hb dX5_countFewest_90 rfl (lv_at hl 4 rfl) ?_
                  refine lv_bipush (v := nI 99) hx hb dX5_countFewest_91 (by decide) ?_
                  refine lv_iload hx hb dX5_countFewest_93 (lv_at hl 0 rfl) ?_
                  refine lv_aload_n hx hb dX5_countFewest_95 rfl (lv_at hl 2 rfl) ?_
                  refine va_get (ci := 5) (v := .ref hF9) (C := RX5) (T := TX5) (N := 9) hx hb hts hin5 hown hK hP 0 rfl rfl 6 (by decide) (hts (.fieldLink RX5 45 "UpAllRound" "fewest" "[[I") (List.mem_of_getElem? (i := 1) rfl)) (fun _ h9 => h9) hU6 dX5_countFewest_96 ?_
                  refine lv_iload_n hx hb dX5_countFewest_99 rfl (lv_at hl 3 rfl) ?_
                  refine zaldq (t := 9) (x := q9) hx hb hK hP 3 rfl (by decide) (by decide) rfl dX5_countFewest_100 ?_
                  refine lv_iload_n hx hb dX5_countFewest_101 rfl (lv_at hl 4 rfl) ?_
                  refine zald (t := j) hx hb hK hP 13 rfl (by omega) (by decide) dX5_countFewest_102 ?_
                  refine zrw (hF 9 (by omega) j (by omega)) ?_
                  refine va_mmin hx hb (by rw [hml]; exact hl.1.symm) hown (hts (.methodLink RX5 246 Lib.Math.min.name) (List.mem_of_getElem? (i := 3) rfl)) (hts (.static Lib.Math.min.name) (List.mem_of_getElem? (i := 4) rfl)) (hts (.initialized "java/lang/Math") (List.mem_of_getElem? (i := 5) rfl)) (hts (.code Lib.Math.min.name Lib.Math.min.code 2 (some .int)) (List.mem_of_getElem? (i := 6) rfl)) (Nat.le_of_ble_eq_true rfl) (Nat.le_of_ble_eq_true rfl) (Nat.zero_le _) (Nat.zero_le _) dX5_countFewest_103 ?_
                  refine zrw (zmin_n (by have h91 := zfw_le (zrJ S) 9 ((q : Int) - 126); omega) (by have h91 := zfw_le (zrJ S) 9 ((j : Int) - 126); omega)) ?_
                  refine va_mmin hx hb (by rw [hml]; exact hl.1.symm) hown (hts (.methodLink RX5 246 Lib.Math.min.name) (List.mem_of_getElem? (i := 3) rfl)) (hts (.static Lib.Math.min.name) (List.mem_of_getElem? (i := 4) rfl)) (hts (.initialized "java/lang/Math") (List.mem_of_getElem? (i := 5) rfl)) (hts (.code Lib.Math.min.name Lib.Math.min.code 2 (some .int)) (List.mem_of_getElem? (i := 6) rfl)) (Nat.le_of_ble_eq_true rfl) (Nat.le_of_ble_eq_true rfl) (Nat.zero_le _) (Nat.zero_le _) dX5_countFewest_106 ?_
                  refine zrw (zmin_n (by decide) (by have h91 := zfw_le (zrJ S) 9 ((j : Int) - 126); omega)) ?_
                  refine zast (t := j) hx hb hK hP hD hS 14 rfl (by omega) (by decide) dX5_countFewest_109 (fun H locs hP hD hS => ?_)
                  have hP : va_P D vwCl [(h, .inr (5, fs)), (hS9, .inr (3, ft)), (hr9, .inl (cI, 14, .inl ((fun i => S (32 + i))))), (hF9, .inl (cJ, 15, .inr (.inr (.inr (.inr (zq15 q0 q1 q2 q3 q4 q5 q6 q7 q8 q9 q10 q11 q12 q13 q14)))))), (q0, .inl (cI, 253, .inl (F 0))), (q1, .inl (cI, 253, .inl (F 1))), (q2, .inl (cI, 253, .inl (F 2))), (q3, .inl (cI, 253, .inl (F 3))), (q4, .inl (cI, 253, .inl (F 4))), (q5, .inl (cI, 253, .inl (F 5))), (q6, .inl (cI, 253, .inl (F 6))), (q7, .inl (cI, 253, .inl (F 7))), (q8, .inl (cI, 253, .inl (F 8))), (q9, .inl (cI, 253, .inl (F 9))), (q10, .inl (cI, 253, .inl (upd g9 j (nI (min 99 (min (zfw (zrJ S) 9 ((q : Int) - 126) + 1) (zfw (zrJ S) 9 ((j : Int) - 126)))))))), (q11, .inl (cI, 253, .inl (F 11))), (q12, .inl (cI, 253, .inl (F 12))), (q13, .inl (cI, 253, .inl (F 13))), (q14, .inl (cI, 253, .inl (F 14)))] H := hP
                  have hD : va_D AA [(h, .inr (5, fs)), (hS9, .inr (3, ft)), (hr9, .inl (cI, 14, .inl ((fun i => S (32 + i))))), (hF9, .inl (cJ, 15, .inr (.inr (.inr (.inr (zq15 q0 q1 q2 q3 q4 q5 q6 q7 q8 q9 q10 q11 q12 q13 q14)))))), (q0, .inl (cI, 253, .inl (F 0))), (q1, .inl (cI, 253, .inl (F 1))), (q2, .inl (cI, 253, .inl (F 2))), (q3, .inl (cI, 253, .inl (F 3))), (q4, .inl (cI, 253, .inl (F 4))), (q5, .inl (cI, 253, .inl (F 5))), (q6, .inl (cI, 253, .inl (F 6))), (q7, .inl (cI, 253, .inl (F 7))), (q8, .inl (cI, 253, .inl (F 8))), (q9, .inl (cI, 253, .inl (F 9))), (q10, .inl (cI, 253, .inl (upd g9 j (nI (min 99 (min (zfw (zrJ S) 9 ((q : Int) - 126) + 1) (zfw (zrJ S) 9 ((j : Int) - 126)))))))), (q11, .inl (cI, 253, .inl (F 11))), (q12, .inl (cI, 253, .inl (F 12))), (q13, .inl (cI, 253, .inl (F 13))), (q14, .inl (cI, 253, .inl (F 14)))] := hD
                  refine lv_iinc (v := nI (j + 1)) (lv' := [(2, .int (nI (j + 1))), (4, .int (nI ((zfw (zrJ S) 9 ((q : Int) - 126)) + 1))), (3, .int (nI q)), (0, .ref h), (1, .int (nI 9))]) hx hb dX5_countFewest_110 hl (k := 4) rfl (nI_add _ _) (by decide) rfl (fun ls hl => ?_)
                  refine lv_goto (tgt := 36) hx hb dX5_countFewest_113 (by decide) ?_
                  exact ih_36  (j + 1) (upd g9 j (nI (min 99 (min (zfw (zrJ S) 9 ((q : Int) - 126) + 1) (zfw (zrJ S) 9 ((j : Int) - 126)))))) (by omega) (by omega) (fun x h91 => (Nat.lt_or_ge x j).elim (fun h92 => (if_neg (show ¬ x = j by omega)).trans (hg x h92)) (fun h92 => by rw [show x = j by omega]; exact (if_pos rfl).trans (zfw_in (hri 9 (by decide)) (by omega) (by omega) ebf))) ls (lv_sub hl [3, 4, 0] rfl) H locs hP hD hS
          exact L_36 (253 + 1) 0 (F 10) (by omega) (by omega) (fun x h91 => absurd h91 (by omega)) ls (lv_sub hl [1, 2, 0] rfl) _ _ hP hD hS
        · subst h9
          refine lv_iconst (v := nI 0) hx hb dX5_countFewest_34 (by decide) ?_
          refine lv_istore_n (lv' := [(2, .int (nI 0)), (0, .ref h), (1, .int (nI 10))]) hx hb dX5_countFewest_35 rfl hl (by decide) rfl (fun ls hl => ?_)
          have L_36 : ∀ (fu j : Nat) (g9 : Nat → Int32) (hi : j ≤ 253) (hn : 253 + 1 ≤ j + fu) (hg : ∀ x, x < j → g9 x = nI (zfw (zrJ S) (10 + 1) ((x : Int) - 126))), ∀ (ls : Array Slot), lv_has ls 5 [(0, .ref h), (1, .int (nI 10)), (2, .int (nI j))] → ∀ (H : Heap) (locs : List Loc), va_P D vwCl [(h, .inr (5, fs)), (hS9, .inr (3, ft)), (hr9, .inl (cI, 14, .inl ((fun i => S (32 + i))))), (hF9, .inl (cJ, 15, .inr (.inr (.inr (.inr (zq15 q0 q1 q2 q3 q4 q5 q6 q7 q8 q9 q10 q11 q12 q13 q14)))))), (q0, .inl (cI, 253, .inl (F 0))), (q1, .inl (cI, 253, .inl (F 1))), (q2, .inl (cI, 253, .inl (F 2))), (q3, .inl (cI, 253, .inl (F 3))), (q4, .inl (cI, 253, .inl (F 4))), (q5, .inl (cI, 253, .inl (F 5))), (q6, .inl (cI, 253, .inl (F 6))), (q7, .inl (cI, 253, .inl (F 7))), (q8, .inl (cI, 253, .inl (F 8))), (q9, .inl (cI, 253, .inl (F 9))), (q10, .inl (cI, 253, .inl (F 10))), (q11, .inl (cI, 253, .inl g9)), (q12, .inl (cI, 253, .inl (F 12))), (q13, .inl (cI, 253, .inl (F 13))), (q14, .inl (cI, 253, .inl (F 14)))] H → va_D AA [(h, .inr (5, fs)), (hS9, .inr (3, ft)), (hr9, .inl (cI, 14, .inl ((fun i => S (32 + i))))), (hF9, .inl (cJ, 15, .inr (.inr (.inr (.inr (zq15 q0 q1 q2 q3 q4 q5 q6 q7 q8 q9 q10 q11 q12 q13 q14)))))), (q0, .inl (cI, 253, .inl (F 0))), (q1, .inl (cI, 253, .inl (F 1))), (q2, .inl (cI, 253, .inl (F 2))), (q3, .inl (cI, 253, .inl (F 3))), (q4, .inl (cI, 253, .inl (F 4))), (q5, .inl (cI, 253, .inl (F 5))), (q6, .inl (cI, 253, .inl (F 6))), (q7, .inl (cI, 253, .inl (F 7))), (q8, .inl (cI, 253, .inl (F 8))), (q9, .inl (cI, 253, .inl (F 9))), (q10, .inl (cI, 253, .inl (F 10))), (q11, .inl (cI, 253, .inl g9)), (q12, .inl (cI, 253, .inl (F 12))), (q13, .inl (cI, 253, .inl (F 13))), (q14, .inl (cI, 253, .inl (F 14)))] → va_S AA s.heap H locs → W pg l ev ({ frames := 1, cells := 0, slots := 0, locals := 23 } : Room) s mt args below meth cd H locs 0 0 QQ (F0 mt 36 ls []) := by
            intro fu
            induction fu with
            | zero =>
              intro j g9 hi hn
              exact absurd hn (by omega)
            | succ fu ih_36 =>
              intro j g9 hi hn hg ls hl H locs hP hD hS
              refine lv_iload_n hx hb dX5_countFewest_36 rfl (lv_at hl 2 rfl) ?_
              refine lv_sipush (v := nI 252) hx hb dX5_countFewest_37 (by decide) ?_
              refine lv_icmp_gt (tgt := 116) hx hb dX5_countFewest_40 (by decide) (fun c40_24 => ?_) (fun c40_24 => ?_)
              · have c40_24 : 252 < j := (nI_ltI (a := 252) (b := j) (by omega) (by omega)).mp c40_24
                refine lv_iinc (v := nI (10 + 1)) (lv' := [(1, .int (nI (10 + 1))), (0, .ref h), (2, .int (nI j))]) hx hb dX5_countFewest_116 hl (k := 1) rfl (nI_add _ _) (by decide) rfl (fun ls hl => ?_)
                refine lv_goto (tgt := 23) hx hb dX5_countFewest_119 (by decide) ?_
                exact ih_23  (10 + 1) ((zlf [F 0, F 1, F 2, F 3, F 4, F 5, F 6, F 7, F 8, F 9, F 10, g9, F 12, F 13, F 14])) (by omega) (by omega) (fun k9 h91 x h92 => by rcases (show k9 = 0 ∨ k9 = 1 ∨ k9 = 2 ∨ k9 = 3 ∨ k9 = 4 ∨ k9 = 5 ∨ k9 = 6 ∨ k9 = 7 ∨ k9 = 8 ∨ k9 = 9 ∨ k9 = 10 ∨ k9 = 11 from by omega) with h9 | h9 | h9 | h9 | h9 | h9 | h9 | h9 | h9 | h9 | h9 | h9 <;> subst h9 <;> first | exact hg x (by omega) | exact hF _ (by omega) x h92) ls (lv_sub hl [1, 0] rfl) H locs hP hD hS
              · have c40_24 : ¬ (252 < j) := fun h9 => c40_24 ((nI_ltI (a := 252) (b := j) (by omega) (by omega)).mpr h9)
                refine lv_iload_n hx hb dX5_countFewest_43 rfl (lv_at hl 2 rfl) ?_
                refine lv_aload_n hx hb dX5_countFewest_44 rfl (lv_at hl 0 rfl) ?_
                refine va_get (ci := 5) (v := .ref hS9) (C := RX5) (T := TX5) (N := 9) hx hb hts hin5 hown hK hP 0 rfl rfl 0 (by decide) (hts (.fieldLink RX5 12 "UpAllRound" "now" "LUpAllRound$Stair;") (List.mem_of_getElem? (i := 2) rfl)) (fun _ h9 => h9) hU0 dX5_countFewest_45 ?_
                refine va_getN (ci := 3) (v := .ref hr9) (C := RX3) (T := TX3) (N := 16) hx hb hts hin3 hown hK hP 1 rfl rfl 1 (by decide) (va_Nw.use rfl (hN (.fieldLinkNest "UpAllRound" 78 "UpAllRound$Stair" "rises" "[I" "UpAllRound") (List.mem_of_getElem? (i := 1) rfl))) (fun _ h9 => h9) hft1 dX5_countFewest_48 ?_
                refine lv_iload_n hx hb dX5_countFewest_51 rfl (lv_at hl 1 rfl) ?_
                refine zald (t := 10) hx hb hK hP 2 rfl (by omega) (by decide) dX5_countFewest_52 ?_
                refine zrw rfl ?_
                refine lv_isub hx hb dX5_countFewest_53 ?_
                refine lv_topi (fun bf ebf => ?_)
                refine lv_istore_n (lv' := [(3, .int bf), (0, .ref h), (1, .int (nI 10)), (2, .int (nI j))]) hx hb dX5_countFewest_54 rfl hl (by decide) rfl (fun ls hl => ?_)
                refine lv_bipush (v := nI 99) hx hb dX5_countFewest_55 (by decide) ?_
                refine lv_istore (lv' := [(4, .int (nI 99)), (3, .int bf), (0, .ref h), (1, .int (nI 10)), (2, .int (nI j))]) hx hb dX5_countFewest_57 hl (by decide) rfl (fun ls hl => ?_)
                refine lv_iload_n hx hb dX5_countFewest_59 rfl (lv_at hl 1 rfl) ?_
                refine lv_iconst (v := nI 0) hx hb dX5_countFewest_60 (by decide) ?_
                refine lv_sipush (v := nI 252) hx hb dX5_countFewest_61 (by decide) ?_
                refine zcsE (va_runS (As := [.int bf, .int (nI 0), .int (nI 252)]) (rest := []) ⟨hx, hb, hml, hown, hts⟩ (d_X5_isOutside l D cI cJ bf (nI 0) (nI 252) 0 252 (by decide) (by decide) H.size) (va_cwS 3 hts gX5_countFewest_X5_isOutside rfl rfl rfl (by decide +kernel) ⟨Nat.le_of_ble_eq_true rfl, Nat.le_of_ble_eq_true rfl⟩) (zpS hK hN hZ hP hD hS hA [] rfl (by decide)) rfl rfl hl.1 rfl (lv_room (Nat.le_of_ble_eq_true rfl)) dX5_countFewest_64 ⟨Nat.zero_le _, Nat.zero_le _⟩) ?_
                refine lv_if_ne (tgt := 82) hx hb dX5_countFewest_67 (by decide) (fun c67_25 => ?_) (fun c67_25 => ?_)
                · have c67_25 := bI_nn0.mp c67_25
                  refine lv_aload_n hx hb dX5_countFewest_82 rfl (lv_at hl 2 rfl) ?_
                  refine va_get (ci := 5) (v := .ref hF9) (C := RX5) (T := TX5) (N := 9) hx hb hts hin5 hown hK hP 0 rfl rfl 6 (by decide) (hts (.fieldLink RX5 45 "UpAllRound" "fewest" "[[I") (List.mem_of_getElem? (i := 1) rfl)) (fun _ h9 => h9) hU6 dX5_countFewest_83 ?_
                  refine lv_iload_n hx hb dX5_countFewest_86 rfl (lv_at hl 3 rfl) ?_
                  refine lv_iconst (v := nI 1) hx hb dX5_countFewest_87 (by decide) ?_
                  refine lv_iadd hx hb dX5_countFewest_88 ?_
                  refine zrw (nI_add _ _) ?_
                  refine zaldq (t := 11) (x := q11) hx hb hK hP 3 rfl (by decide) (by decide) rfl dX5_countFewest_89 ?_
                  refine lv_iload_n hx hb dX5_countFewest_90 rfl (lv_at hl 4 rfl) ?_
                  refine lv_bipush (v := nI 99) hx hb dX5_countFewest_91 (by decide) ?_
                  refine lv_iload hx hb dX5_countFewest_93 (lv_at hl 0 rfl) ?_
                  refine lv_aload_n hx hb dX5_countFewest_95 rfl (lv_at hl 2 rfl) ?_
                  refine va_get (ci := 5) (v := .ref hF9) (C := RX5) (T := TX5) (N := 9) hx hb hts hin5 hown hK hP 0 rfl rfl 6 (by decide) (hts (.fieldLink RX5 45 "UpAllRound" "fewest" "[[I") (List.mem_of_getElem? (i := 1) rfl)) (fun _ h9 => h9) hU6 dX5_countFewest_96 ?_
                  refine lv_iload_n hx hb dX5_countFewest_99 rfl (lv_at hl 3 rfl) ?_
                  refine zaldq (t := 10) (x := q10) hx hb hK hP 3 rfl (by decide) (by decide) rfl dX5_countFewest_100 ?_
                  refine lv_iload_n hx hb dX5_countFewest_101 rfl (lv_at hl 4 rfl) ?_
                  refine zald (t := j) hx hb hK hP 14 rfl (by omega) (by decide) dX5_countFewest_102 ?_
                  refine zrw (hF 10 (by omega) j (by omega)) ?_
                  refine va_mmin hx hb (by rw [hml]; exact hl.1.symm) hown (hts (.methodLink RX5 246 Lib.Math.min.name) (List.mem_of_getElem? (i := 3) rfl)) (hts (.static Lib.Math.min.name) (List.mem_of_getElem? (i := 4) rfl)) (hts (.initialized "java/lang/Math") (List.mem_of_getElem? (i := 5) rfl)) (hts (.code Lib.Math.min.name Lib.Math.min.code 2 (some .int)) (List.mem_of_getElem? (i := 6) rfl)) (Nat.le_of_ble_eq_true rfl) (Nat.le_of_ble_eq_true rfl) (Nat.zero_le _) (Nat.zero_le _) dX5_countFewest_103 ?_
                  refine zrw (zmin_n (by have h91 := zfw_le (zrJ S) 10 ((j : Int) - 126); omega) (by have h91 := zfw_le (zrJ S) 10 ((j : Int) - 126); omega)) ?_
                  refine va_mmin hx hb (by rw [hml]; exact hl.1.symm) hown (hts (.methodLink RX5 246 Lib.Math.min.name) (List.mem_of_getElem? (i := 3) rfl)) (hts (.static Lib.Math.min.name) (List.mem_of_getElem? (i := 4) rfl)) (hts (.initialized "java/lang/Math") (List.mem_of_getElem? (i := 5) rfl)) (hts (.code Lib.Math.min.name Lib.Math.min.code 2 (some .int)) (List.mem_of_getElem? (i := 6) rfl)) (Nat.le_of_ble_eq_true rfl) (Nat.le_of_ble_eq_true rfl) (Nat.zero_le _) (Nat.zero_le _) dX5_countFewest_106 ?_
                  refine zrw (zmin_n (by decide) (by have h91 := zfw_le (zrJ S) 10 ((j : Int) - 126); omega)) ?_
                  refine zast (t := j) hx hb hK hP hD hS 15 rfl (by omega) (by decide) dX5_countFewest_109 (fun H locs hP hD hS => ?_)
                  have hP : va_P D vwCl [(h, .inr (5, fs)), (hS9, .inr (3, ft)), (hr9, .inl (cI, 14, .inl ((fun i => S (32 + i))))), (hF9, .inl (cJ, 15, .inr (.inr (.inr (.inr (zq15 q0 q1 q2 q3 q4 q5 q6 q7 q8 q9 q10 q11 q12 q13 q14)))))), (q0, .inl (cI, 253, .inl (F 0))), (q1, .inl (cI, 253, .inl (F 1))), (q2, .inl (cI, 253, .inl (F 2))), (q3, .inl (cI, 253, .inl (F 3))), (q4, .inl (cI, 253, .inl (F 4))), (q5, .inl (cI, 253, .inl (F 5))), (q6, .inl (cI, 253, .inl (F 6))), (q7, .inl (cI, 253, .inl (F 7))), (q8, .inl (cI, 253, .inl (F 8))), (q9, .inl (cI, 253, .inl (F 9))), (q10, .inl (cI, 253, .inl (F 10))), (q11, .inl (cI, 253, .inl (upd g9 j (nI (min 99 (min (99) (zfw (zrJ S) 10 ((j : Int) - 126)))))))), (q12, .inl (cI, 253, .inl (F 12))), (q13, .inl (cI, 253, .inl (F 13))), (q14, .inl (cI, 253, .inl (F 14)))] H := hP
                  have hD : va_D AA [(h, .inr (5, fs)), (hS9, .inr (3, ft)), (hr9, .inl (cI, 14, .inl ((fun i => S (32 + i))))), (hF9, .inl (cJ, 15, .inr (.inr (.inr (.inr (zq15 q0 q1 q2 q3 q4 q5 q6 q7 q8 q9 q10 q11 q12 q13 q14)))))), (q0, .inl (cI, 253, .inl (F 0))), (q1, .inl (cI, 253, .inl (F 1))), (q2, .inl (cI, 253, .inl (F 2))), (q3, .inl (cI, 253, .inl (F 3))), (q4, .inl (cI, 253, .inl (F 4))), (q5, .inl (cI, 253, .inl (F 5))), (q6, .inl (cI, 253, .inl (F 6))), (q7, .inl (cI, 253, .inl (F 7))), (q8, .inl (cI, 253, .inl (F 8))), (q9, .inl (cI, 253, .inl (F 9))), (q10, .inl (cI, 253, .inl (F 10))), (q11, .inl (cI, 253, .inl (upd g9 j (nI (min 99 (min (99) (zfw (zrJ S) 10 ((j : Int) - 126)))))))), (q12, .inl (cI, 253, .inl (F 12))), (q13, .inl (cI, 253, .inl (F 13))), (q14, .inl (cI, 253, .inl (F 14)))] := hD
                  refine lv_iinc (v := nI (j + 1)) (lv' := [(2, .int (nI (j + 1))), (4, .int (nI 99)), (3, .int bf), (0, .ref h), (1, .int (nI 10))]) hx hb dX5_countFewest_110 hl (k := 4) rfl (nI_add _ _) (by decide) rfl (fun ls hl => ?_)
                  refine lv_goto (tgt := 36) hx hb dX5_countFewest_113 (by decide) ?_
                  exact ih_36  (j + 1) (upd g9 j (nI (min 99 (min (99) (zfw (zrJ S) 10 ((j : Int) - 126)))))) (by omega) (by omega) (fun x h91 => (Nat.lt_or_ge x j).elim (fun h92 => (if_neg (show ¬ x = j by omega)).trans (hg x h92)) (fun h92 => by rw [show x = j by omega]; exact (if_pos rfl).trans (zfw_out hri (by decide) (by omega) ebf (by assumption)))) ls (lv_sub hl [3, 4, 0] rfl) H locs hP hD hS
                · have c67_25 := bI_nX0.mp c67_25
                  obtain ⟨q, h_q, rfl⟩ : ∃ q : Nat, q ≤ 252 ∧ bf = nI q := zrg_of c67_25 (by decide)
                  refine lv_aload_n hx hb dX5_countFewest_70 rfl (lv_at hl 2 rfl) ?_
                  refine va_get (ci := 5) (v := .ref hF9) (C := RX5) (T := TX5) (N := 9) hx hb hts hin5 hown hK hP 0 rfl rfl 6 (by decide) (hts (.fieldLink RX5 45 "UpAllRound" "fewest" "[[I") (List.mem_of_getElem? (i := 1) rfl)) (fun _ h9 => h9) hU6 dX5_countFewest_71 ?_
                  refine lv_iload_n hx hb dX5_countFewest_74 rfl (lv_at hl 3 rfl) ?_
                  refine zaldq (t := 10) (x := q10) hx hb hK hP 3 rfl (by decide) (by decide) rfl dX5_countFewest_75 ?_
                  refine lv_iload_n hx hb dX5_countFewest_76 rfl (lv_at hl 1 rfl) ?_
                  refine zald (t := q) hx hb hK hP 14 rfl (by omega) (by decide) dX5_countFewest_77 ?_
                  refine zrw (hF 10 (by omega) q (by omega)) ?_
                  refine lv_iconst (v := nI 1) hx hb dX5_countFewest_78 (by decide) ?_
                  refine lv_iadd hx hb dX5_countFewest_79 ?_
                  refine zrw (nI_add _ _) ?_
                  refine lv_istore (lv' := [(4, .int (nI ((zfw (zrJ S) 10 ((q : Int) - 126)) + 1))), (3, .int (nI q)), (0, .ref h), (1, .int (nI 10)), (2, .int (nI j))]) hx hb dX5_countFewest_80 hl (by decide) rfl (fun ls hl => ?_)
                  refine lv_aload_n hx hb dX5_countFewest_82 rfl (lv_at hl 2 rfl) ?_
                  refine va_get (ci := 5) (v := .ref hF9) (C := RX5) (T := TX5) (N := 9) hx hb hts hin5 hown hK hP 0 rfl rfl 6 (by decide) (hts (.fieldLink RX5 45 "UpAllRound" "fewest" "[[I") (List.mem_of_getElem? (i := 1) rfl)) (fun _ h9 => h9) hU6 dX5_countFewest_83 ?_
                  refine lv_iload_n hx hb dX5_countFewest_86 rfl (lv_at hl 3 rfl) ?_
                  refine lv_iconst (v := nI 1) hx hb dX5_countFewest_87 (by decide) ?_
                  refine lv_iadd hx hb dX5_countFewest_88 ?_
                  refine zrw (nI_add _ _) ?_
                  refine zaldq (t := 11) (x := q11) hx hb hK hP 3 rfl (by decide) (by decide) rfl dX5_countFewest_89 ?_
                  refine lv_iload_n hx hb dX5_countFewest_90 rfl (lv_at hl 4 rfl) ?_
                  refine lv_bipush (v := nI 99) hx hb dX5_countFewest_91 (by decide) ?_
                  refine lv_iload hx hb dX5_countFewest_93 (lv_at hl 0 rfl) ?_
                  refine lv_aload_n hx hb dX5_countFewest_95 rfl (lv_at hl 2 rfl) ?_
                  refine va_get (ci := 5) (v := .ref hF9) (C := RX5) (T := TX5) (N := 9) hx hb hts hin5 hown hK hP 0 rfl rfl 6 (by decide) (hts (.fieldLink RX5 45 "UpAllRound" "fewest" "[[I") (List.mem_of_getElem? (i := 1) rfl)) (fun _ h9 => h9) hU6 dX5_countFewest_96 ?_
                  refine lv_iload_n hx hb dX5_countFewest_99 rfl (lv_at hl 3 rfl) ?_
                  refine zaldq (t := 10) (x := q10) hx hb hK hP 3 rfl (by decide) (by decide) rfl dX5_countFewest_100 ?_
                  refine lv_iload_n hx hb dX5_countFewest_101 rfl (lv_at hl 4 rfl) ?_
                  refine zald (t := j) hx hb hK hP 14 rfl (by omega) (by decide) dX5_countFewest_102 ?_
                  refine zrw (hF 10 (by omega) j (by omega)) ?_
                  refine va_mmin hx hb (by rw [hml]; exact hl.1.symm) hown (hts (.methodLink RX5 246 Lib.Math.min.name) (List.mem_of_getElem? (i := 3) rfl)) (hts (.static Lib.Math.min.name) (List.mem_of_getElem? (i := 4) rfl)) (hts (.initialized "java/lang/Math") (List.mem_of_getElem? (i := 5) rfl)) (hts (.code Lib.Math.min.name Lib.Math.min.code 2 (some .int)) (List.mem_of_getElem? (i := 6) rfl)) (Nat.le_of_ble_eq_true rfl) (Nat.le_of_ble_eq_true rfl) (Nat.zero_le _) (Nat.zero_le _) dX5_countFewest_103 ?_
                  refine zrw (zmin_n (by have h91 := zfw_le (zrJ S) 10 ((q : Int) - 126); omega) (by have h91 := zfw_le (zrJ S) 10 ((j : Int) - 126); omega)) ?_
                  refine va_mmin hx hb (by rw [hml]; exact hl.1.symm) hown (hts (.methodLink RX5 246 Lib.Math.min.name) (List.mem_of_getElem? (i := 3) rfl)) (hts (.static Lib.Math.min.name) (List.mem_of_getElem? (i := 4) rfl)) (hts (.initialized "java/lang/Math") (List.mem_of_getElem? (i := 5) rfl)) (hts (.code Lib.Math.min.name Lib.Math.min.code 2 (some .int)) (List.mem_of_getElem? (i := 6) rfl)) (Nat.le_of_ble_eq_true rfl) (Nat.le_of_ble_eq_true rfl) (Nat.zero_le _) (Nat.zero_le _) dX5_countFewest_106 ?_
                  refine zrw (zmin_n (by decide) (by have h91 := zfw_le (zrJ S) 10 ((j : Int) - 126); omega)) ?_
                  refine zast (t := j) hx hb hK hP hD hS 15 rfl (by omega) (by decide) dX5_countFewest_109 (fun H locs hP hD hS => ?_)
                  have hP : va_P D vwCl [(h, .inr (5, fs)), (hS9, .inr (3, ft)), (hr9, .inl (cI, 14, .inl ((fun i => S (32 + i))))), (hF9, .inl (cJ, 15, .inr (.inr (.inr (.inr (zq15 q0 q1 q2 q3 q4 q5 q6 q7 q8 q9 q10 q11 q12 q13 q14)))))), (q0, .inl (cI, 253, .inl (F 0))), (q1, .inl (cI, 253, .inl (F 1))), (q2, .inl (cI, 253, .inl (F 2))), (q3, .inl (cI, 253, .inl (F 3))), (q4, .inl (cI, 253, .inl (F 4))), (q5, .inl (cI, 253, .inl (F 5))), (q6, .inl (cI, 253, .inl (F 6))), (q7, .inl (cI, 253, .inl (F 7))), (q8, .inl (cI, 253, .inl (F 8))), (q9, .inl (cI, 253, .inl (F 9))), (q10, .inl (cI, 253, .inl (F 10))), (q11, .inl (cI, 253, .inl (upd g9 j (nI (min 99 (min (zfw (zrJ S) 10 ((q : Int) - 126) + 1) (zfw (zrJ S) 10 ((j : Int) - 126)))))))), (q12, .inl (cI, 253, .inl (F 12))), (q13, .inl (cI, 253, .inl (F 13))), (q14, .inl (cI, 253, .inl (F 14)))] H := hP
                  have hD : va_D AA [(h, .inr (5, fs)), (hS9, .inr (3, ft)), (hr9, .inl (cI, 14, .inl ((fun i => S (32 + i))))), (hF9, .inl (cJ, 15, .inr (.inr (.inr (.inr (zq15 q0 q1 q2 q3 q4 q5 q6 q7 q8 q9 q10 q11 q12 q13 q14)))))), (q0, .inl (cI, 253, .inl (F 0))), (q1, .inl (cI, 253, .inl (F 1))), (q2, .inl (cI, 253, .inl (F 2))), (q3, .inl (cI, 253, .inl (F 3))), (q4, .inl (cI, 253, .inl (F 4))), (q5, .inl (cI, 253, .inl (F 5))), (q6, .inl (cI, 253, .inl (F 6))), (q7, .inl (cI, 253, .inl (F 7))), (q8, .inl (cI, 253, .inl (F 8))), (q9, .inl (cI, 253, .inl (F 9))), (q10, .inl (cI, 253, .inl (F 10))), (q11, .inl (cI, 253, .inl (upd g9 j (nI (min 99 (min (zfw (zrJ S) 10 ((q : Int) - 126) + 1) (zfw (zrJ S) 10 ((j : Int) - 126)))))))), (q12, .inl (cI, 253, .inl (F 12))), (q13, .inl (cI, 253, .inl (F 13))), (q14, .inl (cI, 253, .inl (F 14)))] := hD
                  refine lv_iinc (v := nI (j + 1)) (lv' := [(2, .int (nI (j + 1))), (4, .int (nI ((zfw (zrJ S) 10 ((q : Int) - 126)) + 1))), (3, .int (nI q)), (0, .ref h), (1, .int (nI 10))]) hx hb dX5_countFewest_110 hl (k := 4) rfl (nI_add _ _) (by decide) rfl (fun ls hl => ?_)
                  refine lv_goto (tgt := 36) hx hb dX5_countFewest_113 (by decide) ?_
                  exact ih_36  (j + 1) (upd g9 j (nI (min 99 (min (zfw (zrJ S) 10 ((q : Int) - 126) + 1) (zfw (zrJ S) 10 ((j : Int) - 126)))))) (by omega) (by omega) (fun x h91 => (Nat.lt_or_ge x j).elim (fun h92 => (if_neg (show ¬ x = j by omega)).trans (hg x h92)) (fun h92 => by rw [show x = j by omega]; exact (if_pos rfl).trans (zfw_in (hri 10 (by decide)) (by omega) (by omega) ebf))) ls (lv_sub hl [3, 4, 0] rfl) H locs hP hD hS
          exact L_36 (253 + 1) 0 (F 11) (by omega) (by omega) (fun x h91 => absurd h91 (by omega)) ls (lv_sub hl [1, 2, 0] rfl) _ _ hP hD hS
        · subst h9
          refine lv_iconst (v := nI 0) hx hb dX5_countFewest_34 (by decide) ?_
          refine lv_istore_n (lv' := [(2, .int (nI 0)), (0, .ref h), (1, .int (nI 11))]) hx hb dX5_countFewest_35 rfl hl (by decide) rfl (fun ls hl => ?_)
          have L_36 : ∀ (fu j : Nat) (g9 : Nat → Int32) (hi : j ≤ 253) (hn : 253 + 1 ≤ j + fu) (hg : ∀ x, x < j → g9 x = nI (zfw (zrJ S) (11 + 1) ((x : Int) - 126))), ∀ (ls : Array Slot), lv_has ls 5 [(0, .ref h), (1, .int (nI 11)), (2, .int (nI j))] → ∀ (H : Heap) (locs : List Loc), va_P D vwCl [(h, .inr (5, fs)), (hS9, .inr (3, ft)), (hr9, .inl (cI, 14, .inl ((fun i => S (32 + i))))), (hF9, .inl (cJ, 15, .inr (.inr (.inr (.inr (zq15 q0 q1 q2 q3 q4 q5 q6 q7 q8 q9 q10 q11 q12 q13 q14)))))), (q0, .inl (cI, 253, .inl (F 0))), (q1, .inl (cI, 253, .inl (F 1))), (q2, .inl (cI, 253, .inl (F 2))), (q3, .inl (cI, 253, .inl (F 3))), (q4, .inl (cI, 253, .inl (F 4))), (q5, .inl (cI, 253, .inl (F 5))), (q6, .inl (cI, 253, .inl (F 6))), (q7, .inl (cI, 253, .inl (F 7))), (q8, .inl (cI, 253, .inl (F 8))), (q9, .inl (cI, 253, .inl (F 9))), (q10, .inl (cI, 253, .inl (F 10))), (q11, .inl (cI, 253, .inl (F 11))), (q12, .inl (cI, 253, .inl g9)), (q13, .inl (cI, 253, .inl (F 13))), (q14, .inl (cI, 253, .inl (F 14)))] H → va_D AA [(h, .inr (5, fs)), (hS9, .inr (3, ft)), (hr9, .inl (cI, 14, .inl ((fun i => S (32 + i))))), (hF9, .inl (cJ, 15, .inr (.inr (.inr (.inr (zq15 q0 q1 q2 q3 q4 q5 q6 q7 q8 q9 q10 q11 q12 q13 q14)))))), (q0, .inl (cI, 253, .inl (F 0))), (q1, .inl (cI, 253, .inl (F 1))), (q2, .inl (cI, 253, .inl (F 2))), (q3, .inl (cI, 253, .inl (F 3))), (q4, .inl (cI, 253, .inl (F 4))), (q5, .inl (cI, 253, .inl (F 5))), (q6, .inl (cI, 253, .inl (F 6))), (q7, .inl (cI, 253, .inl (F 7))), (q8, .inl (cI, 253, .inl (F 8))), (q9, .inl (cI, 253, .inl (F 9))), (q10, .inl (cI, 253, .inl (F 10))), (q11, .inl (cI, 253, .inl (F 11))), (q12, .inl (cI, 253, .inl g9)), (q13, .inl (cI, 253, .inl (F 13))), (q14, .inl (cI, 253, .inl (F 14)))] → va_S AA s.heap H locs → W pg l ev ({ frames := 1, cells := 0, slots := 0, locals := 23 } : Room) s mt args below meth cd H locs 0 0 QQ (F0 mt 36 ls []) := by
            intro fu
            induction fu with
            | zero =>
              intro j g9 hi hn
              exact absurd hn (by omega)
            | succ fu ih_36 =>
              intro j g9 hi hn hg ls hl H locs hP hD hS
              refine lv_iload_n hx hb dX5_countFewest_36 rfl (lv_at hl 2 rfl) ?_
              refine lv_sipush (v := nI 252) hx hb dX5_countFewest_37 (by decide) ?_
              refine lv_icmp_gt (tgt := 116) hx hb dX5_countFewest_40 (by decide) (fun c40_26 => ?_) (fun c40_26 => ?_)
              · have c40_26 : 252 < j := (nI_ltI (a := 252) (b := j) (by omega) (by omega)).mp c40_26
                refine lv_iinc (v := nI (11 + 1)) (lv' := [(1, .int (nI (11 + 1))), (0, .ref h), (2, .int (nI j))]) hx hb dX5_countFewest_116 hl (k := 1) rfl (nI_add _ _) (by decide) rfl (fun ls hl => ?_)
                refine lv_goto (tgt := 23) hx hb dX5_countFewest_119 (by decide) ?_
                exact ih_23  (11 + 1) ((zlf [F 0, F 1, F 2, F 3, F 4, F 5, F 6, F 7, F 8, F 9, F 10, F 11, g9, F 13, F 14])) (by omega) (by omega) (fun k9 h91 x h92 => by rcases (show k9 = 0 ∨ k9 = 1 ∨ k9 = 2 ∨ k9 = 3 ∨ k9 = 4 ∨ k9 = 5 ∨ k9 = 6 ∨ k9 = 7 ∨ k9 = 8 ∨ k9 = 9 ∨ k9 = 10 ∨ k9 = 11 ∨ k9 = 12 from by omega) with h9 | h9 | h9 | h9 | h9 | h9 | h9 | h9 | h9 | h9 | h9 | h9 | h9 <;> subst h9 <;> first | exact hg x (by omega) | exact hF _ (by omega) x h92) ls (lv_sub hl [1, 0] rfl) H locs hP hD hS
              · have c40_26 : ¬ (252 < j) := fun h9 => c40_26 ((nI_ltI (a := 252) (b := j) (by omega) (by omega)).mpr h9)
                refine lv_iload_n hx hb dX5_countFewest_43 rfl (lv_at hl 2 rfl) ?_
                refine lv_aload_n hx hb dX5_countFewest_44 rfl (lv_at hl 0 rfl) ?_
                refine va_get (ci := 5) (v := .ref hS9) (C := RX5) (T := TX5) (N := 9) hx hb hts hin5 hown hK hP 0 rfl rfl 0 (by decide) (hts (.fieldLink RX5 12 "UpAllRound" "now" "LUpAllRound$Stair;") (List.mem_of_getElem? (i := 2) rfl)) (fun _ h9 => h9) hU0 dX5_countFewest_45 ?_
                refine va_getN (ci := 3) (v := .ref hr9) (C := RX3) (T := TX3) (N := 16) hx hb hts hin3 hown hK hP 1 rfl rfl 1 (by decide) (va_Nw.use rfl (hN (.fieldLinkNest "UpAllRound" 78 "UpAllRound$Stair" "rises" "[I" "UpAllRound") (List.mem_of_getElem? (i := 1) rfl))) (fun _ h9 => h9) hft1 dX5_countFewest_48 ?_
                refine lv_iload_n hx hb dX5_countFewest_51 rfl (lv_at hl 1 rfl) ?_
                refine zald (t := 11) hx hb hK hP 2 rfl (by omega) (by decide) dX5_countFewest_52 ?_
                refine zrw rfl ?_
                refine lv_isub hx hb dX5_countFewest_53 ?_
                refine lv_topi (fun bf ebf => ?_)
                refine lv_istore_n (lv' := [(3, .int bf), (0, .ref h), (1, .int (nI 11)), (2, .int (nI j))]) hx hb dX5_countFewest_54 rfl hl (by decide) rfl (fun ls hl => ?_)
                refine lv_bipush (v := nI 99) hx hb dX5_countFewest_55 (by decide) ?_
                refine lv_istore (lv' := [(4, .int (nI 99)), (3, .int bf), (0, .ref h), (1, .int (nI 11)), (2, .int (nI j))]) hx hb dX5_countFewest_57 hl (by decide) rfl (fun ls hl => ?_)
                refine lv_iload_n hx hb dX5_countFewest_59 rfl (lv_at hl 1 rfl) ?_
                refine lv_iconst (v := nI 0) hx hb dX5_countFewest_60 (by decide) ?_
                refine lv_sipush (v := nI 252) hx hb dX5_countFewest_61 (by decide) ?_
                refine zcsE (va_runS (As := [.int bf, .int (nI 0), .int (nI 252)]) (rest := []) ⟨hx, hb, hml, hown, hts⟩ (d_X5_isOutside l D cI cJ bf (nI 0) (nI 252) 0 252 (by decide) (by decide) H.size) (va_cwS 3 hts gX5_countFewest_X5_isOutside rfl rfl rfl (by decide +kernel) ⟨Nat.le_of_ble_eq_true rfl, Nat.le_of_ble_eq_true rfl⟩) (zpS hK hN hZ hP hD hS hA [] rfl (by decide)) rfl rfl hl.1 rfl (lv_room (Nat.le_of_ble_eq_true rfl)) dX5_countFewest_64 ⟨Nat.zero_le _, Nat.zero_le _⟩) ?_
                refine lv_if_ne (tgt := 82) hx hb dX5_countFewest_67 (by decide) (fun c67_27 => ?_) (fun c67_27 => ?_)
                · have c67_27 := bI_nn0.mp c67_27
                  refine lv_aload_n hx hb dX5_countFewest_82 rfl (lv_at hl 2 rfl) ?_
                  refine va_get (ci := 5) (v := .ref hF9) (C := RX5) (T := TX5) (N := 9) hx hb hts hin5 hown hK hP 0 rfl rfl 6 (by decide) (hts (.fieldLink RX5 45 "UpAllRound" "fewest" "[[I") (List.mem_of_getElem? (i := 1) rfl)) (fun _ h9 => h9) hU6 dX5_countFewest_83 ?_
                  refine lv_iload_n hx hb dX5_countFewest_86 rfl (lv_at hl 3 rfl) ?_
                  refine lv_iconst (v := nI 1) hx hb dX5_countFewest_87 (by decide) ?_
                  refine lv_iadd hx hb dX5_countFewest_88 ?_
                  refine zrw (nI_add _ _) ?_
                  refine zaldq (t := 12) (x := q12) hx hb hK hP 3 rfl (by decide) (by decide) rfl dX5_countFewest_89 ?_
                  refine lv_iload_n hx hb dX5_countFewest_90 rfl (lv_at hl 4 rfl) ?_
                  refine lv_bipush (v := nI 99) hx hb dX5_countFewest_91 (by decide) ?_
                  refine lv_iload hx hb dX5_countFewest_93 (lv_at hl 0 rfl) ?_
                  refine lv_aload_n hx hb dX5_countFewest_95 rfl (lv_at hl 2 rfl) ?_
                  refine va_get (ci := 5) (v := .ref hF9) (C := RX5) (T := TX5) (N := 9) hx hb hts hin5 hown hK hP 0 rfl rfl 6 (by decide) (hts (.fieldLink RX5 45 "UpAllRound" "fewest" "[[I") (List.mem_of_getElem? (i := 1) rfl)) (fun _ h9 => h9) hU6 dX5_countFewest_96 ?_
                  refine lv_iload_n hx hb dX5_countFewest_99 rfl (lv_at hl 3 rfl) ?_
                  refine zaldq (t := 11) (x := q11) hx hb hK hP 3 rfl (by decide) (by decide) rfl dX5_countFewest_100 ?_
                  refine lv_iload_n hx hb dX5_countFewest_101 rfl (lv_at hl 4 rfl) ?_
                  refine zald (t := j) hx hb hK hP 15 rfl (by omega) (by decide) dX5_countFewest_102 ?_
                  refine zrw (hF 11 (by omega) j (by omega)) ?_
                  refine va_mmin hx hb (by rw [hml]; exact hl.1.symm) hown (hts (.methodLink RX5 246 Lib.Math.min.name) (List.mem_of_getElem? (i := 3) rfl)) (hts (.static Lib.Math.min.name) (List.mem_of_getElem? (i := 4) rfl)) (hts (.initialized "java/lang/Math") (List.mem_of_getElem? (i := 5) rfl)) (hts (.code Lib.Math.min.name Lib.Math.min.code 2 (some .int)) (List.mem_of_getElem? (i := 6) rfl)) (Nat.le_of_ble_eq_true rfl) (Nat.le_of_ble_eq_true rfl) (Nat.zero_le _) (Nat.zero_le _) dX5_countFewest_103 ?_
                  refine zrw (zmin_n (by have h91 := zfw_le (zrJ S) 11 ((j : Int) - 126); omega) (by have h91 := zfw_le (zrJ S) 11 ((j : Int) - 126); omega)) ?_
                  refine va_mmin hx hb (by rw [hml]; exact hl.1.symm) hown (hts (.methodLink RX5 246 Lib.Math.min.name) (List.mem_of_getElem? (i := 3) rfl)) (hts (.static Lib.Math.min.name) (List.mem_of_getElem? (i := 4) rfl)) (hts (.initialized "java/lang/Math") (List.mem_of_getElem? (i := 5) rfl)) (hts (.code Lib.Math.min.name Lib.Math.min.code 2 (some .int)) (List.mem_of_getElem? (i := 6) rfl)) (Nat.le_of_ble_eq_true rfl) (Nat.le_of_ble_eq_true rfl) (Nat.zero_le _) (Nat.zero_le _) dX5_countFewest_106 ?_
                  refine zrw (zmin_n (by decide) (by have h91 := zfw_le (zrJ S) 11 ((j : Int) - 126); omega)) ?_
                  refine zast (t := j) hx hb hK hP hD hS 16 rfl (by omega) (by decide) dX5_countFewest_109 (fun H locs hP hD hS => ?_)
                  have hP : va_P D vwCl [(h, .inr (5, fs)), (hS9, .inr (3, ft)), (hr9, .inl (cI, 14, .inl ((fun i => S (32 + i))))), (hF9, .inl (cJ, 15, .inr (.inr (.inr (.inr (zq15 q0 q1 q2 q3 q4 q5 q6 q7 q8 q9 q10 q11 q12 q13 q14)))))), (q0, .inl (cI, 253, .inl (F 0))), (q1, .inl (cI, 253, .inl (F 1))), (q2, .inl (cI, 253, .inl (F 2))), (q3, .inl (cI, 253, .inl (F 3))), (q4, .inl (cI, 253, .inl (F 4))), (q5, .inl (cI, 253, .inl (F 5))), (q6, .inl (cI, 253, .inl (F 6))), (q7, .inl (cI, 253, .inl (F 7))), (q8, .inl (cI, 253, .inl (F 8))), (q9, .inl (cI, 253, .inl (F 9))), (q10, .inl (cI, 253, .inl (F 10))), (q11, .inl (cI, 253, .inl (F 11))), (q12, .inl (cI, 253, .inl (upd g9 j (nI (min 99 (min (99) (zfw (zrJ S) 11 ((j : Int) - 126)))))))), (q13, .inl (cI, 253, .inl (F 13))), (q14, .inl (cI, 253, .inl (F 14)))] H := hP
                  have hD : va_D AA [(h, .inr (5, fs)), (hS9, .inr (3, ft)), (hr9, .inl (cI, 14, .inl ((fun i => S (32 + i))))), (hF9, .inl (cJ, 15, .inr (.inr (.inr (.inr (zq15 q0 q1 q2 q3 q4 q5 q6 q7 q8 q9 q10 q11 q12 q13 q14)))))), (q0, .inl (cI, 253, .inl (F 0))), (q1, .inl (cI, 253, .inl (F 1))), (q2, .inl (cI, 253, .inl (F 2))), (q3, .inl (cI, 253, .inl (F 3))), (q4, .inl (cI, 253, .inl (F 4))), (q5, .inl (cI, 253, .inl (F 5))), (q6, .inl (cI, 253, .inl (F 6))), (q7, .inl (cI, 253, .inl (F 7))), (q8, .inl (cI, 253, .inl (F 8))), (q9, .inl (cI, 253, .inl (F 9))), (q10, .inl (cI, 253, .inl (F 10))), (q11, .inl (cI, 253, .inl (F 11))), (q12, .inl (cI, 253, .inl (upd g9 j (nI (min 99 (min (99) (zfw (zrJ S) 11 ((j : Int) - 126)))))))), (q13, .inl (cI, 253, .inl (F 13))), (q14, .inl (cI, 253, .inl (F 14)))] := hD
                  refine lv_iinc (v := nI (j + 1)) (lv' := [(2, .int (nI (j + 1))), (4, .int (nI 99)), (3, .int bf), (0, .ref h), (1, .int (nI 11))]) hx hb dX5_countFewest_110 hl (k := 4) rfl (nI_add _ _) (by decide) rfl (fun ls hl => ?_)
                  refine lv_goto (tgt := 36) hx hb dX5_countFewest_113 (by decide) ?_
                  exact ih_36  (j + 1) (upd g9 j (nI (min 99 (min (99) (zfw (zrJ S) 11 ((j : Int) - 126)))))) (by omega) (by omega) (fun x h91 => (Nat.lt_or_ge x j).elim (fun h92 => (if_neg (show ¬ x = j by omega)).trans (hg x h92)) (fun h92 => by rw [show x = j by omega]; exact (if_pos rfl).trans (zfw_out hri (by decide) (by omega) ebf (by assumption)))) ls (lv_sub hl [3, 4, 0] rfl) H locs hP hD hS
                · have c67_27 := bI_nX0.mp c67_27
                  obtain ⟨q, h_q, rfl⟩ : ∃ q : Nat, q ≤ 252 ∧ bf = nI q := zrg_of c67_27 (by decide)
                  refine lv_aload_n hx hb dX5_countFewest_70 rfl (lv_at hl 2 rfl) ?_
                  refine va_get (ci := 5) (v := .ref hF9) (C := RX5) (T := TX5) (N := 9) hx hb hts hin5 hown hK hP 0 rfl rfl 6 (by decide) (hts (.fieldLink RX5 45 "UpAllRound" "fewest" "[[I") (List.mem_of_getElem? (i := 1) rfl)) (fun _ h9 => h9) hU6 dX5_countFewest_71 ?_
                  refine lv_iload_n hx hb dX5_countFewest_74 rfl (lv_at hl 3 rfl) ?_
                  refine zaldq (t := 11) (x := q11) hx hb hK hP 3 rfl (by decide) (by decide) rfl dX5_countFewest_75 ?_
                  refine lv_iload_n hx hb dX5_countFewest_76 rfl (lv_at hl 1 rfl) ?_
                  refine zald (t := q) hx hb hK hP 15 rfl (by omega) (by decide) dX5_countFewest_77 ?_
                  refine zrw (hF 11 (by omega) q (by omega)) ?_
                  refine lv_iconst (v := nI 1) hx hb dX5_countFewest_78 (by decide) ?_
                  refine lv_iadd hx hb dX5_countFewest_79 ?_
                  refine zrw (nI_add _ _) ?_
                  refine lv_istore (lv' := [(4, .int (nI ((zfw (zrJ S) 11 ((q : Int) - 126)) + 1))), (3, .int (nI q)), (0, .ref h), (1, .int (nI 11)), (2, .int (nI j))]) hx hb dX5_countFewest_80 hl (by decide) rfl (fun ls hl => ?_)
                  refine lv_aload_n hx hb dX5_countFewest_82 rfl (lv_at hl 2 rfl) ?_
                  refine va_get (ci := 5) (v := .ref hF9) (C := RX5) (T := TX5) (N := 9) hx hb hts hin5 hown hK hP 0 rfl rfl 6 (by decide) (hts (.fieldLink RX5 45 "UpAllRound" "fewest" "[[I") (List.mem_of_getElem? (i := 1) rfl)) (fun _ h9 => h9) hU6 dX5_countFewest_83 ?_
                  refine lv_iload_n hx hb dX5_countFewest_86 rfl (lv_at hl 3 rfl) ?_
                  refine lv_iconst (v := nI 1) hx hb dX5_countFewest_87 (by decide) ?_
                  refine lv_iadd hx hb dX5_countFewest_88 ?_
                  refine zrw (nI_add _ _) ?_
                  refine zaldq (t := 12) (x := q12) hx hb hK hP 3 rfl (by decide) (by decide) rfl dX5_countFewest_89 ?_
                  refine lv_iload_n hx hb dX5_countFewest_90 rfl (lv_at hl 4 rfl) ?_
                  refine lv_bipush (v := nI 99) hx hb dX5_countFewest_91 (by decide) ?_
                  refine lv_iload hx hb dX5_countFewest_93 (lv_at hl 0 rfl) ?_
                  refine lv_aload_n hx hb dX5_countFewest_95 rfl (lv_at hl 2 rfl) ?_
                  refine va_get (ci := 5) (v := .ref hF9) (C := RX5) (T := TX5) (N := 9) hx hb hts hin5 hown hK hP 0 rfl rfl 6 (by decide) (hts (.fieldLink RX5 45 "UpAllRound" "fewest" "[[I") (List.mem_of_getElem? (i := 1) rfl)) (fun _ h9 => h9) hU6 dX5_countFewest_96 ?_
                  refine lv_iload_n hx hb dX5_countFewest_99 rfl (lv_at hl 3 rfl) ?_
                  refine zaldq (t := 11) (x := q11) hx hb hK hP 3 rfl (by decide) (by decide) rfl dX5_countFewest_100 ?_
                  refine lv_iload_n hx hb dX5_countFewest_101 rfl (lv_at hl 4 rfl) ?_
                  refine zald (t := j) hx hb hK hP 15 rfl (by omega) (by decide) dX5_countFewest_102 ?_
                  refine zrw (hF 11 (by omega) j (by omega)) ?_
                  refine va_mmin hx hb (by rw [hml]; exact hl.1.symm) hown (hts (.methodLink RX5 246 Lib.Math.min.name) (List.mem_of_getElem? (i := 3) rfl)) (hts (.static Lib.Math.min.name) (List.mem_of_getElem? (i := 4) rfl)) (hts (.initialized "java/lang/Math") (List.mem_of_getElem? (i := 5) rfl)) (hts (.code Lib.Math.min.name Lib.Math.min.code 2 (some .int)) (List.mem_of_getElem? (i := 6) rfl)) (Nat.le_of_ble_eq_true rfl) (Nat.le_of_ble_eq_true rfl) (Nat.zero_le _) (Nat.zero_le _) dX5_countFewest_103 ?_
                  refine zrw (zmin_n (by have h91 := zfw_le (zrJ S) 11 ((q : Int) - 126); omega) (by have h91 := zfw_le (zrJ S) 11 ((j : Int) - 126); omega)) ?_
                  refine va_mmin hx hb (by rw [hml]; exact hl.1.symm) hown (hts (.methodLink RX5 246 Lib.Math.min.name) (List.mem_of_getElem? (i := 3) rfl)) (hts (.static Lib.Math.min.name) (List.mem_of_getElem? (i := 4) rfl)) (hts (.initialized "java/lang/Math") (List.mem_of_getElem? (i := 5) rfl)) (hts (.code Lib.Math.min.name Lib.Math.min.code 2 (some .int)) (List.mem_of_getElem? (i := 6) rfl)) (Nat.le_of_ble_eq_true rfl) (Nat.le_of_ble_eq_true rfl) (Nat.zero_le _) (Nat.zero_le _) dX5_countFewest_106 ?_
                  refine zrw (zmin_n (by decide) (by have h91 := zfw_le (zrJ S) 11 ((j : Int) - 126); omega)) ?_
                  refine zast (t := j) hx hb hK hP hD hS 16 rfl (by omega) (by decide) dX5_countFewest_109 (fun H locs hP hD hS => ?_)
                  have hP : va_P D vwCl [(h, .inr (5, fs)), (hS9, .inr (3, ft)), (hr9, .inl (cI, 14, .inl ((fun i => S (32 + i))))), (hF9, .inl (cJ, 15, .inr (.inr (.inr (.inr (zq15 q0 q1 q2 q3 q4 q5 q6 q7 q8 q9 q10 q11 q12 q13 q14)))))), (q0, .inl (cI, 253, .inl (F 0))), (q1, .inl (cI, 253, .inl (F 1))), (q2, .inl (cI, 253, .inl (F 2))), (q3, .inl (cI, 253, .inl (F 3))), (q4, .inl (cI, 253, .inl (F 4))), (q5, .inl (cI, 253, .inl (F 5))), (q6, .inl (cI, 253, .inl (F 6))), (q7, .inl (cI, 253, .inl (F 7))), (q8, .inl (cI, 253, .inl (F 8))), (q9, .inl (cI, 253, .inl (F 9))), (q10, .inl (cI, 253, .inl (F 10))), (q11, .inl (cI, 253, .inl (F 11))), (q12, .inl (cI, 253, .inl (upd g9 j (nI (min 99 (min (zfw (zrJ S) 11 ((q : Int) - 126) + 1) (zfw (zrJ S) 11 ((j : Int) - 126)))))))), (q13, .inl (cI, 253, .inl (F 13))), (q14, .inl (cI, 253, .inl (F 14)))] H := hP
                  have hD : va_D AA [(h, .inr (5, fs)), (hS9, .inr (3, ft)), (hr9, .inl (cI, 14, .inl ((fun i => S (32 + i))))), (hF9, .inl (cJ, 15, .inr (.inr (.inr (.inr (zq15 q0 q1 q2 q3 q4 q5 q6 q7 q8 q9 q10 q11 q12 q13 q14)))))), (q0, .inl (cI, 253, .inl (F 0))), (q1, .inl (cI, 253, .inl (F 1))), (q2, .inl (cI, 253, .inl (F 2))), (q3, .inl (cI, 253, .inl (F 3))), (q4, .inl (cI, 253, .inl (F 4))), (q5, .inl (cI, 253, .inl (F 5))), (q6, .inl (cI, 253, .inl (F 6))), (q7, .inl (cI, 253, .inl (F 7))), (q8, .inl (cI, 253, .inl (F 8))), (q9, .inl (cI, 253, .inl (F 9))), (q10, .inl (cI, 253, .inl (F 10))), (q11, .inl (cI, 253, .inl (F 11))), (q12, .inl (cI, 253, .inl (upd g9 j (nI (min 99 (min (zfw (zrJ S) 11 ((q : Int) - 126) + 1) (zfw (zrJ S) 11 ((j : Int) - 126)))))))), (q13, .inl (cI, 253, .inl (F 13))), (q14, .inl (cI, 253, .inl (F 14)))] := hD
                  refine lv_iinc (v := nI (j + 1)) (lv' := [(2, .int (nI (j + 1))), (4, .int (nI ((zfw (zrJ S) 11 ((q : Int) - 126)) + 1))), (3, .int (nI q)), (0, .ref h), (1, .int (nI 11))]) hx hb dX5_countFewest_110 hl (k := 4) rfl (nI_add _ _) (by decide) rfl (fun ls hl => ?_)
                  refine lv_goto (tgt := 36) hx hb dX5_countFewest_113 (by decide) ?_
                  exact ih_36  (j + 1) (upd g9 j (nI (min 99 (min (zfw (zrJ S) 11 ((q : Int) - 126) + 1) (zfw (zrJ S) 11 ((j : Int) - 126)))))) (by omega) (by omega) (fun x h91 => (Nat.lt_or_ge x j).elim (fun h92 => (if_neg (show ¬ x = j by omega)).trans (hg x h92)) (fun h92 => by rw [show x = j by omega]; exact (if_pos rfl).trans (zfw_in (hri 11 (by decide)) (by omega) (by omega) ebf))) ls (lv_sub hl [3, 4, 0] rfl) H locs hP hD hS
          exact L_36 (253 + 1) 0 (F 12) (by omega) (by omega) (fun x h91 => absurd h91 (by omega)) ls (lv_sub hl [1, 2, 0] rfl) _ _ hP hD hS
        · subst h9
          refine lv_iconst (v := nI 0) hx hb dX5_countFewest_34 (by decide) ?_
          refine lv_istore_n (lv' := [(2, .int (nI 0)), (0, .ref h), (1, .int (nI 12))]) hx hb dX5_countFewest_35 rfl hl (by decide) rfl (fun ls hl => ?_)
          have L_36 : ∀ (fu j : Nat) (g9 : Nat → Int32) (hi : j ≤ 253) (hn : 253 + 1 ≤ j + fu) (hg : ∀ x, x < j → g9 x = nI (zfw (zrJ S) (12 + 1) ((x : Int) - 126))), ∀ (ls : Array Slot), lv_has ls 5 [(0, .ref h), (1, .int (nI 12)), (2, .int (nI j))] → ∀ (H : Heap) (locs : List Loc), va_P D vwCl [(h, .inr (5, fs)), (hS9, .inr (3, ft)), (hr9, .inl (cI, 14, .inl ((fun i => S (32 + i))))), (hF9, .inl (cJ, 15, .inr (.inr (.inr (.inr (zq15 q0 q1 q2 q3 q4 q5 q6 q7 q8 q9 q10 q11 q12 q13 q14)))))), (q0, .inl (cI, 253, .inl (F 0))), (q1, .inl (cI, 253, .inl (F 1))), (q2, .inl (cI, 253, .inl (F 2))), (q3, .inl (cI, 253, .inl (F 3))), (q4, .inl (cI, 253, .inl (F 4))), (q5, .inl (cI, 253, .inl (F 5))), (q6, .inl (cI, 253, .inl (F 6))), (q7, .inl (cI, 253, .inl (F 7))), (q8, .inl (cI, 253, .inl (F 8))), (q9, .inl (cI, 253, .inl (F 9))), (q10, .inl (cI, 253, .inl (F 10))), (q11, .inl (cI, 253, .inl (F 11))), (q12, .inl (cI, 253, .inl (F 12))), (q13, .inl (cI, 253, .inl g9)), (q14, .inl (cI, 253, .inl (F 14)))] H → va_D AA [(h, .inr (5, fs)), (hS9, .inr (3, ft)), (hr9, .inl (cI, 14, .inl ((fun i => S (32 + i))))), (hF9, .inl (cJ, 15, .inr (.inr (.inr (.inr (zq15 q0 q1 q2 q3 q4 q5 q6 q7 q8 q9 q10 q11 q12 q13 q14)))))), (q0, .inl (cI, 253, .inl (F 0))), (q1, .inl (cI, 253, .inl (F 1))), (q2, .inl (cI, 253, .inl (F 2))), (q3, .inl (cI, 253, .inl (F 3))), (q4, .inl (cI, 253, .inl (F 4))), (q5, .inl (cI, 253, .inl (F 5))), (q6, .inl (cI, 253, .inl (F 6))), (q7, .inl (cI, 253, .inl (F 7))), (q8, .inl (cI, 253, .inl (F 8))), (q9, .inl (cI, 253, .inl (F 9))), (q10, .inl (cI, 253, .inl (F 10))), (q11, .inl (cI, 253, .inl (F 11))), (q12, .inl (cI, 253, .inl (F 12))), (q13, .inl (cI, 253, .inl g9)), (q14, .inl (cI, 253, .inl (F 14)))] → va_S AA s.heap H locs → W pg l ev ({ frames := 1, cells := 0, slots := 0, locals := 23 } : Room) s mt args below meth cd H locs 0 0 QQ (F0 mt 36 ls []) := by
            intro fu
            induction fu with
            | zero =>
              intro j g9 hi hn
              exact absurd hn (by omega)
            | succ fu ih_36 =>
              intro j g9 hi hn hg ls hl H locs hP hD hS
              refine lv_iload_n hx hb dX5_countFewest_36 rfl (lv_at hl 2 rfl) ?_
              refine lv_sipush (v := nI 252) hx hb dX5_countFewest_37 (by decide) ?_
              refine lv_icmp_gt (tgt := 116) hx hb dX5_countFewest_40 (by decide) (fun c40_28 => ?_) (fun c40_28 => ?_)
              · have c40_28 : 252 < j := (nI_ltI (a := 252) (b := j) (by omega) (by omega)).mp c40_28
                refine lv_iinc (v := nI (12 + 1)) (lv' := [(1, .int (nI (12 + 1))), (0, .ref h), (2, .int (nI j))]) hx hb dX5_countFewest_116 hl (k := 1) rfl (nI_add _ _) (by decide) rfl (fun ls hl => ?_)
                refine lv_goto (tgt := 23) hx hb dX5_countFewest_119 (by decide) ?_
                exact ih_23  (12 + 1) ((zlf [F 0, F 1, F 2, F 3, F 4, F 5, F 6, F 7, F 8, F 9, F 10, F 11, F 12, g9, F 14])) (by omega) (by omega) (fun k9 h91 x h92 => by rcases (show k9 = 0 ∨ k9 = 1 ∨ k9 = 2 ∨ k9 = 3 ∨ k9 = 4 ∨ k9 = 5 ∨ k9 = 6 ∨ k9 = 7 ∨ k9 = 8 ∨ k9 = 9 ∨ k9 = 10 ∨ k9 = 11 ∨ k9 = 12 ∨ k9 = 13 from by omega) with h9 | h9 | h9 | h9 | h9 | h9 | h9 | h9 | h9 | h9 | h9 | h9 | h9 | h9 <;> subst h9 <;> first | exact hg x (by omega) | exact hF _ (by omega) x h92) ls (lv_sub hl [1, 0] rfl) H locs hP hD hS
              · have c40_28 : ¬ (252 < j) := fun h9 => c40_28 ((nI_ltI (a := 252) (b := j) (by omega) (by omega)).mpr h9)
                refine lv_iload_n hx hb dX5_countFewest_43 rfl (lv_at hl 2 rfl) ?_
                refine lv_aload_n hx hb dX5_countFewest_44 rfl (lv_at hl 0 rfl) ?_
                refine va_get (ci := 5) (v := .ref hS9) (C := RX5) (T := TX5) (N := 9) hx hb hts hin5 hown hK hP 0 rfl rfl 0 (by decide) (hts (.fieldLink RX5 12 "UpAllRound" "now" "LUpAllRound$Stair;") (List.mem_of_getElem? (i := 2) rfl)) (fun _ h9 => h9) hU0 dX5_countFewest_45 ?_
                refine va_getN (ci := 3) (v := .ref hr9) (C := RX3) (T := TX3) (N := 16) hx hb hts hin3 hown hK hP 1 rfl rfl 1 (by decide) (va_Nw.use rfl (hN (.fieldLinkNest "UpAllRound" 78 "UpAllRound$Stair" "rises" "[I" "UpAllRound") (List.mem_of_getElem? (i := 1) rfl))) (fun _ h9 => h9) hft1 dX5_countFewest_48 ?_
                refine lv_iload_n hx hb dX5_countFewest_51 rfl (lv_at hl 1 rfl) ?_
                refine zald (t := 12) hx hb hK hP 2 rfl (by omega) (by decide) dX5_countFewest_52 ?_
                refine zrw rfl ?_
                refine lv_isub hx hb dX5_countFewest_53 ?_
                refine lv_topi (fun bf ebf => ?_)
                refine lv_istore_n (lv' := [(3, .int bf), (0, .ref h), (1, .int (nI 12)), (2, .int (nI j))]) hx hb dX5_countFewest_54 rfl hl (by decide) rfl (fun ls hl => ?_)
                refine lv_bipush (v := nI 99) hx hb dX5_countFewest_55 (by decide) ?_
                refine lv_istore (lv' := [(4, .int (nI 99)), (3, .int bf), (0, .ref h), (1, .int (nI 12)), (2, .int (nI j))]) hx hb dX5_countFewest_57 hl (by decide) rfl (fun ls hl => ?_)
                refine lv_iload_n hx hb dX5_countFewest_59 rfl (lv_at hl 1 rfl) ?_
                refine lv_iconst (v := nI 0) hx hb dX5_countFewest_60 (by decide) ?_
                refine lv_sipush (v := nI 252) hx hb dX5_countFewest_61 (by decide) ?_
                refine zcsE (va_runS (As := [.int bf, .int (nI 0), .int (nI 252)]) (rest := []) ⟨hx, hb, hml, hown, hts⟩ (d_X5_isOutside l D cI cJ bf (nI 0) (nI 252) 0 252 (by decide) (by decide) H.size) (va_cwS 3 hts gX5_countFewest_X5_isOutside rfl rfl rfl (by decide +kernel) ⟨Nat.le_of_ble_eq_true rfl, Nat.le_of_ble_eq_true rfl⟩) (zpS hK hN hZ hP hD hS hA [] rfl (by decide)) rfl rfl hl.1 rfl (lv_room (Nat.le_of_ble_eq_true rfl)) dX5_countFewest_64 ⟨Nat.zero_le _, Nat.zero_le _⟩) ?_
                refine lv_if_ne (tgt := 82) hx hb dX5_countFewest_67 (by decide) (fun c67_29 => ?_) (fun c67_29 => ?_)
                · have c67_29 := bI_nn0.mp c67_29
                  refine lv_aload_n hx hb dX5_countFewest_82 rfl (lv_at hl 2 rfl) ?_
                  refine va_get (ci := 5) (v := .ref hF9) (C := RX5) (T := TX5) (N := 9) hx hb hts hin5 hown hK hP 0 rfl rfl 6 (by decide) (hts (.fieldLink RX5 45 "UpAllRound" "fewest" "[[I") (List.mem_of_getElem? (i := 1) rfl)) (fun _ h9 => h9) hU6 dX5_countFewest_83 ?_
                  refine lv_iload_n hx hb dX5_countFewest_86 rfl (lv_at hl 3 rfl) ?_
                  refine lv_iconst (v := nI 1) hx hb dX5_countFewest_87 (by decide) ?_
                  refine lv_iadd hx hb dX5_countFewest_88 ?_
                  refine zrw (nI_add _ _) ?_
                  refine zaldq (t := 13) (x := q13) hx hb hK hP 3 rfl (by decide) (by decide) rfl dX5_countFewest_89 ?_
                  refine lv_iload_n hx hb dX5_countFewest_90 rfl (lv_at hl 4 rfl) ?_
                  refine lv_bipush (v := nI 99) hx hb dX5_countFewest_91 (by decide) ?_
                  refine lv_iload hx hb dX5_countFewest_93 (lv_at hl 0 rfl) ?_
                  refine lv_aload_n hx hb dX5_countFewest_95 rfl (lv_at hl 2 rfl) ?_
                  refine va_get (ci := 5) (v := .ref hF9) (C := RX5) (T := TX5) (N := 9) hx hb hts hin5 hown hK hP 0 rfl rfl 6 (by decide) (hts (.fieldLink RX5 45 "UpAllRound" "fewest" "[[I") (List.mem_of_getElem? (i := 1) rfl)) (fun _ h9 => h9) hU6 dX5_countFewest_96 ?_
                  refine lv_iload_n hx hb dX5_countFewest_99 rfl (lv_at hl 3 rfl) ?_
                  refine zaldq (t := 12) (x := q12) hx hb hK hP 3 rfl (by decide) (by decide) rfl dX5_countFewest_100 ?_
                  refine lv_iload_n hx hb dX5_countFewest_101 rfl (lv_at hl 4 rfl) ?_
                  refine zald (t := j) hx hb hK hP 16 rfl (by omega) (by decide) dX5_countFewest_102 ?_
                  refine zrw (hF 12 (by omega) j (by omega)) ?_
                  refine va_mmin hx hb (by rw [hml]; exact hl.1.symm) hown (hts (.methodLink RX5 246 Lib.Math.min.name) (List.mem_of_getElem? (i := 3) rfl)) (hts (.static Lib.Math.min.name) (List.mem_of_getElem? (i := 4) rfl)) (hts (.initialized "java/lang/Math") (List.mem_of_getElem? (i := 5) rfl)) (hts (.code Lib.Math.min.name Lib.Math.min.code 2 (some .int)) (List.mem_of_getElem? (i := 6) rfl)) (Nat.le_of_ble_eq_true rfl) (Nat.le_of_ble_eq_true rfl) (Nat.zero_le _) (Nat.zero_le _) dX5_countFewest_103 ?_
                  refine zrw (zmin_n (by have h91 := zfw_le (zrJ S) 12 ((j : Int) - 126); omega) (by have h91 := zfw_le (zrJ S) 12 ((j : Int) - 126); omega)) ?_
                  refine va_mmin hx hb (by rw [hml]; exact hl.1.symm) hown (hts (.methodLink RX5 246 Lib.Math.min.name) (List.mem_of_getElem? (i := 3) rfl)) (hts (.static Lib.Math.min.name) (List.mem_of_getElem? (i := 4) rfl)) (hts (.initialized "java/lang/Math") (List.mem_of_getElem? (i := 5) rfl)) (hts (.code Lib.Math.min.name Lib.Math.min.code 2 (some .int)) (List.mem_of_getElem? (i := 6) rfl)) (Nat.le_of_ble_eq_true rfl) (Nat.le_of_ble_eq_true rfl) (Nat.zero_le _) (Nat.zero_le _) dX5_countFewest_106 ?_
                  refine zrw (zmin_n (by decide) (by have h91 := zfw_le (zrJ S) 12 ((j : Int) - 126); omega)) ?_
                  refine zast (t := j) hx hb hK hP hD hS 17 rfl (by omega) (by decide) dX5_countFewest_109 (fun H locs hP hD hS => ?_)
                  have hP : va_P D vwCl [(h, .inr (5, fs)), (hS9, .inr (3, ft)), (hr9, .inl (cI, 14, .inl ((fun i => S (32 + i))))), (hF9, .inl (cJ, 15, .inr (.inr (.inr (.inr (zq15 q0 q1 q2 q3 q4 q5 q6 q7 q8 q9 q10 q11 q12 q13 q14)))))), (q0, .inl (cI, 253, .inl (F 0))), (q1, .inl (cI, 253, .inl (F 1))), (q2, .inl (cI, 253, .inl (F 2))), (q3, .inl (cI, 253, .inl (F 3))), (q4, .inl (cI, 253, .inl (F 4))), (q5, .inl (cI, 253, .inl (F 5))), (q6, .inl (cI, 253, .inl (F 6))), (q7, .inl (cI, 253, .inl (F 7))), (q8, .inl (cI, 253, .inl (F 8))), (q9, .inl (cI, 253, .inl (F 9))), (q10, .inl (cI, 253, .inl (F 10))), (q11, .inl (cI, 253, .inl (F 11))), (q12, .inl (cI, 253, .inl (F 12))), (q13, .inl (cI, 253, .inl (upd g9 j (nI (min 99 (min (99) (zfw (zrJ S) 12 ((j : Int) - 126)))))))), (q14, .inl (cI, 253, .inl (F 14)))] H := hP
                  have hD : va_D AA [(h, .inr (5, fs)), (hS9, .inr (3, ft)), (hr9, .inl (cI, 14, .inl ((fun i => S (32 + i))))), (hF9, .inl (cJ, 15, .inr (.inr (.inr (.inr (zq15 q0 q1 q2 q3 q4 q5 q6 q7 q8 q9 q10 q11 q12 q13 q14)))))), (q0, .inl (cI, 253, .inl (F 0))), (q1, .inl (cI, 253, .inl (F 1))), (q2, .inl (cI, 253, .inl (F 2))), (q3, .inl (cI, 253, .inl (F 3))), (q4, .inl (cI, 253, .inl (F 4))), (q5, .inl (cI, 253, .inl (F 5))), (q6, .inl (cI, 253, .inl (F 6))), (q7, .inl (cI, 253, .inl (F 7))), (q8, .inl (cI, 253, .inl (F 8))), (q9, .inl (cI, 253, .inl (F 9))), (q10, .inl (cI, 253, .inl (F 10))), (q11, .inl (cI, 253, .inl (F 11))), (q12, .inl (cI, 253, .inl (F 12))), (q13, .inl (cI, 253, .inl (upd g9 j (nI (min 99 (min (99) (zfw (zrJ S) 12 ((j : Int) - 126)))))))), (q14, .inl (cI, 253, .inl (F 14)))] := hD
                  refine lv_iinc (v := nI (j + 1)) (lv' := [(2, .int (nI (j + 1))), (4, .int (nI 99)), (3, .int bf), (0, .ref h), (1, .int (nI 12))]) hx hb dX5_countFewest_110 hl (k := 4) rfl (nI_add _ _) (by decide) rfl (fun ls hl => ?_)
                  refine lv_goto (tgt := 36) hx hb dX5_countFewest_113 (by decide) ?_
                  exact ih_36  (j + 1) (upd g9 j (nI (min 99 (min (99) (zfw (zrJ S) 12 ((j : Int) - 126)))))) (by omega) (by omega) (fun x h91 => (Nat.lt_or_ge x j).elim (fun h92 => (if_neg (show ¬ x = j by omega)).trans (hg x h92)) (fun h92 => by rw [show x = j by omega]; exact (if_pos rfl).trans (zfw_out hri (by decide) (by omega) ebf (by assumption)))) ls (lv_sub hl [3, 4, 0] rfl) H locs hP hD hS
                · have c67_29 := bI_nX0.mp c67_29
                  obtain ⟨q, h_q, rfl⟩ : ∃ q : Nat, q ≤ 252 ∧ bf = nI q := zrg_of c67_29 (by decide)
                  refine lv_aload_n hx hb dX5_countFewest_70 rfl (lv_at hl 2 rfl) ?_
                  refine va_get (ci := 5) (v := .ref hF9) (C := RX5) (T := TX5) (N := 9) hx hb hts hin5 hown hK hP 0 rfl rfl 6 (by decide) (hts (.fieldLink RX5 45 "UpAllRound" "fewest" "[[I") (List.mem_of_getElem? (i := 1) rfl)) (fun _ h9 => h9) hU6 dX5_countFewest_71 ?_
                  refine lv_iload_n hx hb dX5_countFewest_74 rfl (lv_at hl 3 rfl) ?_
                  refine zaldq (t := 12) (x := q12) hx hb hK hP 3 rfl (by decide) (by decide) rfl dX5_countFewest_75 ?_
                  refine lv_iload_n hx hb dX5_countFewest_76 rfl (lv_at hl 1 rfl) ?_
                  refine zald (t := q) hx hb hK hP 16 rfl (by omega) (by decide) dX5_countFewest_77 ?_
                  refine zrw (hF 12 (by omega) q (by omega)) ?_
                  refine lv_iconst (v := nI 1) hx hb dX5_countFewest_78 (by decide) ?_
                  refine lv_iadd hx hb dX5_countFewest_79 ?_
                  refine zrw (nI_add _ _) ?_
                  refine lv_istore (lv' := [(4, .int (nI ((zfw (zrJ S) 12 ((q : Int) - 126)) + 1))), (3, .int (nI q)), (0, .ref h), (1, .int (nI 12)), (2, .int (nI j))]) hx hb dX5_countFewest_80 hl (by decide) rfl (fun ls hl => ?_)
                  refine lv_aload_n hx hb dX5_countFewest_82 rfl (lv_at hl 2 rfl) ?_
                  refine va_get (ci := 5) (v := .ref hF9) (C := RX5) (T := TX5) (N := 9) hx hb hts hin5 hown hK hP 0 rfl rfl 6 (by decide) (hts (.fieldLink RX5 45 "UpAllRound" "fewest" "[[I") (List.mem_of_getElem? (i := 1) rfl)) (fun _ h9 => h9) hU6 dX5_countFewest_83 ?_
                  refine lv_iload_n hx hb dX5_countFewest_86 rfl (lv_at hl 3 rfl) ?_
                  refine lv_iconst (v := nI 1) hx hb dX5_countFewest_87 (by decide) ?_
                  refine lv_iadd hx hb dX5_countFewest_88 ?_
                  refine zrw (nI_add _ _) ?_
                  refine zaldq (t := 13) (x := q13) hx hb hK hP 3 rfl (by decide) (by decide) rfl dX5_countFewest_89 ?_
                  refine lv_iload_n hx hb dX5_countFewest_90 rfl (lv_at hl 4 rfl) ?_
                  refine lv_bipush (v := nI 99) hx hb dX5_countFewest_91 (by decide) ?_
                  refine lv_iload hx hb dX5_countFewest_93 (lv_at hl 0 rfl) ?_
                  refine lv_aload_n hx hb dX5_countFewest_95 rfl (lv_at hl 2 rfl) ?_
                  refine va_get (ci := 5) (v := .ref hF9) (C := RX5) (T := TX5) (N := 9) hx hb hts hin5 hown hK hP 0 rfl rfl 6 (by decide) (hts (.fieldLink RX5 45 "UpAllRound" "fewest" "[[I") (List.mem_of_getElem? (i := 1) rfl)) (fun _ h9 => h9) hU6 dX5_countFewest_96 ?_
                  refine lv_iload_n hx hb dX5_countFewest_99 rfl (lv_at hl 3 rfl) ?_
                  refine zaldq (t := 12) (x := q12) hx hb hK hP 3 rfl (by decide) (by decide) rfl dX5_countFewest_100 ?_
                  refine lv_iload_n hx hb dX5_countFewest_101 rfl (lv_at hl 4 rfl) ?_
                  refine zald (t := j) hx hb hK hP 16 rfl (by omega) (by decide) dX5_countFewest_102 ?_
                  refine zrw (hF 12 (by omega) j (by omega)) ?_
                  refine va_mmin hx hb (by rw [hml]; exact hl.1.symm) hown (hts (.methodLink RX5 246 Lib.Math.min.name) (List.mem_of_getElem? (i := 3) rfl)) (hts (.static Lib.Math.min.name) (List.mem_of_getElem? (i := 4) rfl)) (hts (.initialized "java/lang/Math") (List.mem_of_getElem? (i := 5) rfl)) (hts (.code Lib.Math.min.name Lib.Math.min.code 2 (some .int)) (List.mem_of_getElem? (i := 6) rfl)) (Nat.le_of_ble_eq_true rfl) (Nat.le_of_ble_eq_true rfl) (Nat.zero_le _) (Nat.zero_le _) dX5_countFewest_103 ?_
                  refine zrw (zmin_n (by have h91 := zfw_le (zrJ S) 12 ((q : Int) - 126); omega) (by have h91 := zfw_le (zrJ S) 12 ((j : Int) - 126); omega)) ?_
                  refine va_mmin hx hb (by rw [hml]; exact hl.1.symm) hown (hts (.methodLink RX5 246 Lib.Math.min.name) (List.mem_of_getElem? (i := 3) rfl)) (hts (.static Lib.Math.min.name) (List.mem_of_getElem? (i := 4) rfl)) (hts (.initialized "java/lang/Math") (List.mem_of_getElem? (i := 5) rfl)) (hts (.code Lib.Math.min.name Lib.Math.min.code 2 (some .int)) (List.mem_of_getElem? (i := 6) rfl)) (Nat.le_of_ble_eq_true rfl) (Nat.le_of_ble_eq_true rfl) (Nat.zero_le _) (Nat.zero_le _) dX5_countFewest_106 ?_
                  refine zrw (zmin_n (by decide) (by have h91 := zfw_le (zrJ S) 12 ((j : Int) - 126); omega)) ?_
                  refine zast (t := j) hx hb hK hP hD hS 17 rfl (by omega) (by decide) dX5_countFewest_109 (fun H locs hP hD hS => ?_)
                  have hP : va_P D vwCl [(h, .inr (5, fs)), (hS9, .inr (3, ft)), (hr9, .inl (cI, 14, .inl ((fun i => S (32 + i))))), (hF9, .inl (cJ, 15, .inr (.inr (.inr (.inr (zq15 q0 q1 q2 q3 q4 q5 q6 q7 q8 q9 q10 q11 q12 q13 q14)))))), (q0, .inl (cI, 253, .inl (F 0))), (q1, .inl (cI, 253, .inl (F 1))), (q2, .inl (cI, 253, .inl (F 2))), (q3, .inl (cI, 253, .inl (F 3))), (q4, .inl (cI, 253, .inl (F 4))), (q5, .inl (cI, 253, .inl (F 5))), (q6, .inl (cI, 253, .inl (F 6))), (q7, .inl (cI, 253, .inl (F 7))), (q8, .inl (cI, 253, .inl (F 8))), (q9, .inl (cI, 253, .inl (F 9))), (q10, .inl (cI, 253, .inl (F 10))), (q11, .inl (cI, 253, .inl (F 11))), (q12, .inl (cI, 253, .inl (F 12))), (q13, .inl (cI, 253, .inl (upd g9 j (nI (min 99 (min (zfw (zrJ S) 12 ((q : Int) - 126) + 1) (zfw (zrJ S) 12 ((j : Int) - 126)))))))), (q14, .inl (cI, 253, .inl (F 14)))] H := hP
                  have hD : va_D AA [(h, .inr (5, fs)), (hS9, .inr (3, ft)), (hr9, .inl (cI, 14, .inl ((fun i => S (32 + i))))), (hF9, .inl (cJ, 15, .inr (.inr (.inr (.inr (zq15 q0 q1 q2 q3 q4 q5 q6 q7 q8 q9 q10 q11 q12 q13 q14)))))), (q0, .inl (cI, 253, .inl (F 0))), (q1, .inl (cI, 253, .inl (F 1))), (q2, .inl (cI, 253, .inl (F 2))), (q3, .inl (cI, 253, .inl (F 3))), (q4, .inl (cI, 253, .inl (F 4))), (q5, .inl (cI, 253, .inl (F 5))), (q6, .inl (cI, 253, .inl (F 6))), (q7, .inl (cI, 253, .inl (F 7))), (q8, .inl (cI, 253, .inl (F 8))), (q9, .inl (cI, 253, .inl (F 9))), (q10, .inl (cI, 253, .inl (F 10))), (q11, .inl (cI, 253, .inl (F 11))), (q12, .inl (cI, 253, .inl (F 12))), (q13, .inl (cI, 253, .inl (upd g9 j (nI (min 99 (min (zfw (zrJ S) 12 ((q : Int) - 126) + 1) (zfw (zrJ S) 12 ((j : Int) - 126)))))))), (q14, .inl (cI, 253, .inl (F 14)))] := hD
                  refine lv_iinc (v := nI (j + 1)) (lv' := [(2, .int (nI (j + 1))), (4, .int (nI ((zfw (zrJ S) 12 ((q : Int) - 126)) + 1))), (3, .int (nI q)), (0, .ref h), (1, .int (nI 12))]) hx hb dX5_countFewest_110 hl (k := 4) rfl (nI_add _ _) (by decide) rfl (fun ls hl => ?_)
                  refine lv_goto (tgt := 36) hx hb dX5_countFewest_113 (by decide) ?_
                  exact ih_36  (j + 1) (upd g9 j (nI (min 99 (min (zfw (zrJ S) 12 ((q : Int) - 126) + 1) (zfw (zrJ S) 12 ((j : Int) - 126)))))) (by omega) (by omega) (fun x h91 => (Nat.lt_or_ge x j).elim (fun h92 => (if_neg (show ¬ x = j by omega)).trans (hg x h92)) (fun h92 => by rw [show x = j by omega]; exact (if_pos rfl).trans (zfw_in (hri 12 (by decide)) (by omega) (by omega) ebf))) ls (lv_sub hl [3, 4, 0] rfl) H locs hP hD hS
          exact L_36 (253 + 1) 0 (F 13) (by omega) (by omega) (fun x h91 => absurd h91 (by omega)) ls (lv_sub hl [1, 2, 0] rfl) _ _ hP hD hS
        · subst h9
          refine lv_iconst (v := nI 0) hx hb dX5_countFewest_34 (by decide) ?_
          refine lv_istore_n (lv' := [(2, .int (nI 0)), (0, .ref h), (1, .int (nI 13))]) hx hb dX5_countFewest_35 rfl hl (by decide) rfl (fun ls hl => ?_)
          have L_36 : ∀ (fu j : Nat) (g9 : Nat → Int32) (hi : j ≤ 253) (hn : 253 + 1 ≤ j + fu) (hg : ∀ x, x < j → g9 x = nI (zfw (zrJ S) (13 + 1) ((x : Int) - 126))), ∀ (ls : Array Slot), lv_has ls 5 [(0, .ref h), (1, .int (nI 13)), (2, .int (nI j))] → ∀ (H : Heap) (locs : List Loc), va_P D vwCl [(h, .inr (5, fs)), (hS9, .inr (3, ft)), (hr9, .inl (cI, 14, .inl ((fun i => S (32 + i))))), (hF9, .inl (cJ, 15, .inr (.inr (.inr (.inr (zq15 q0 q1 q2 q3 q4 q5 q6 q7 q8 q9 q10 q11 q12 q13 q14)))))), (q0, .inl (cI, 253, .inl (F 0))), (q1, .inl (cI, 253, .inl (F 1))), (q2, .inl (cI, 253, .inl (F 2))), (q3, .inl (cI, 253, .inl (F 3))), (q4, .inl (cI, 253, .inl (F 4))), (q5, .inl (cI, 253, .inl (F 5))), (q6, .inl (cI, 253, .inl (F 6))), (q7, .inl (cI, 253, .inl (F 7))), (q8, .inl (cI, 253, .inl (F 8))), (q9, .inl (cI, 253, .inl (F 9))), (q10, .inl (cI, 253, .inl (F 10))), (q11, .inl (cI, 253, .inl (F 11))), (q12, .inl (cI, 253, .inl (F 12))), (q13, .inl (cI, 253, .inl (F 13))), (q14, .inl (cI, 253, .inl g9))] H → va_D AA [(h, .inr (5, fs)), (hS9, .inr (3, ft)), (hr9, .inl (cI, 14, .inl ((fun i => S (32 + i))))), (hF9, .inl (cJ, 15, .inr (.inr (.inr (.inr (zq15 q0 q1 q2 q3 q4 q5 q6 q7 q8 q9 q10 q11 q12 q13 q14)))))), (q0, .inl (cI, 253, .inl (F 0))), (q1, .inl (cI, 253, .inl (F 1))), (q2, .inl (cI, 253, .inl (F 2))), (q3, .inl (cI, 253, .inl (F 3))), (q4, .inl (cI, 253, .inl (F 4))), (q5, .inl (cI, 253, .inl (F 5))), (q6, .inl (cI, 253, .inl (F 6))), (q7, .inl (cI, 253, .inl (F 7))), (q8, .inl (cI, 253, .inl (F 8))), (q9, .inl (cI, 253, .inl (F 9))), (q10, .inl (cI, 253, .inl (F 10))), (q11, .inl (cI, 253, .inl (F 11))), (q12, .inl (cI, 253, .inl (F 12))), (q13, .inl (cI, 253, .inl (F 13))), (q14, .inl (cI, 253, .inl g9))] → va_S AA s.heap H locs → W pg l ev ({ frames := 1, cells := 0, slots := 0, locals := 23 } : Room) s mt args below meth cd H locs 0 0 QQ (F0 mt 36 ls []) := by
            intro fu
            induction fu with
            | zero =>
              intro j g9 hi hn
              exact absurd hn (by omega)
            | succ fu ih_36 =>
              intro j g9 hi hn hg ls hl H locs hP hD hS
              refine lv_iload_n hx hb dX5_countFewest_36 rfl (lv_at hl 2 rfl) ?_
              refine lv_sipush (v := nI 252) hx hb dX5_countFewest_37 (by decide) ?_
              refine lv_icmp_gt (tgt := 116) hx hb dX5_countFewest_40 (by decide) (fun c40_30 => ?_) (fun c40_30 => ?_)
              · have c40_30 : 252 < j := (nI_ltI (a := 252) (b := j) (by omega) (by omega)).mp c40_30
                refine lv_iinc (v := nI (13 + 1)) (lv' := [(1, .int (nI (13 + 1))), (0, .ref h), (2, .int (nI j))]) hx hb dX5_countFewest_116 hl (k := 1) rfl (nI_add _ _) (by decide) rfl (fun ls hl => ?_)
                refine lv_goto (tgt := 23) hx hb dX5_countFewest_119 (by decide) ?_
                exact ih_23  (13 + 1) ((zlf [F 0, F 1, F 2, F 3, F 4, F 5, F 6, F 7, F 8, F 9, F 10, F 11, F 12, F 13, g9])) (by omega) (by omega) (fun k9 h91 x h92 => by rcases (show k9 = 0 ∨ k9 = 1 ∨ k9 = 2 ∨ k9 = 3 ∨ k9 = 4 ∨ k9 = 5 ∨ k9 = 6 ∨ k9 = 7 ∨ k9 = 8 ∨ k9 = 9 ∨ k9 = 10 ∨ k9 = 11 ∨ k9 = 12 ∨ k9 = 13 ∨ k9 = 14 from by omega) with h9 | h9 | h9 | h9 | h9 | h9 | h9 | h9 | h9 | h9 | h9 | h9 | h9 | h9 | h9 <;> subst h9 <;> first | exact hg x (by omega) | exact hF _ (by omega) x h92) ls (lv_sub hl [1, 0] rfl) H locs hP hD hS
              · have c40_30 : ¬ (252 < j) := fun h9 => c40_30 ((nI_ltI (a := 252) (b := j) (by omega) (by omega)).mpr h9)
                refine lv_iload_n hx hb dX5_countFewest_43 rfl (lv_at hl 2 rfl) ?_
                refine lv_aload_n hx hb dX5_countFewest_44 rfl (lv_at hl 0 rfl) ?_
                refine va_get (ci := 5) (v := .ref hS9) (C := RX5) (T := TX5) (N := 9) hx hb hts hin5 hown hK hP 0 rfl rfl 0 (by decide) (hts (.fieldLink RX5 12 "UpAllRound" "now" "LUpAllRound$Stair;") (List.mem_of_getElem? (i := 2) rfl)) (fun _ h9 => h9) hU0 dX5_countFewest_45 ?_
                refine va_getN (ci := 3) (v := .ref hr9) (C := RX3) (T := TX3) (N := 16) hx hb hts hin3 hown hK hP 1 rfl rfl 1 (by decide) (va_Nw.use rfl (hN (.fieldLinkNest "UpAllRound" 78 "UpAllRound$Stair" "rises" "[I" "UpAllRound") (List.mem_of_getElem? (i := 1) rfl))) (fun _ h9 => h9) hft1 dX5_countFewest_48 ?_
                refine lv_iload_n hx hb dX5_countFewest_51 rfl (lv_at hl 1 rfl) ?_
                refine zald (t := 13) hx hb hK hP 2 rfl (by omega) (by decide) dX5_countFewest_52 ?_
                refine zrw rfl ?_
                refine lv_isub hx hb dX5_countFewest_53 ?_
                refine lv_topi (fun bf ebf => ?_)
                refine lv_istore_n (lv' := [(3, .int bf), (0, .ref h), (1, .int (nI 13)), (2, .int (nI j))]) hx hb dX5_countFewest_54 rfl hl (by decide) rfl (fun ls hl => ?_)
                refine lv_bipush (v := nI 99) hx hb dX5_countFewest_55 (by decide) ?_
                refine lv_istore (lv' := [(4, .int (nI 99)), (3, .int bf), (0, .ref h), (1, .int (nI 13)), (2, .int (nI j))]) hx hb dX5_countFewest_57 hl (by decide) rfl (fun ls hl => ?_)
                refine lv_iload_n hx hb dX5_countFewest_59 rfl (lv_at hl 1 rfl) ?_
                refine lv_iconst (v := nI 0) hx hb dX5_countFewest_60 (by decide) ?_
                refine lv_sipush (v := nI 252) hx hb dX5_countFewest_61 (by decide) ?_
                refine zcsE (va_runS (As := [.int bf, .int (nI 0), .int (nI 252)]) (rest := []) ⟨hx, hb, hml, hown, hts⟩ (d_X5_isOutside l D cI cJ bf (nI 0) (nI 252) 0 252 (by decide) (by decide) H.size) (va_cwS 3 hts gX5_countFewest_X5_isOutside rfl rfl rfl (by decide +kernel) ⟨Nat.le_of_ble_eq_true rfl, Nat.le_of_ble_eq_true rfl⟩) (zpS hK hN hZ hP hD hS hA [] rfl (by decide)) rfl rfl hl.1 rfl (lv_room (Nat.le_of_ble_eq_true rfl)) dX5_countFewest_64 ⟨Nat.zero_le _, Nat.zero_le _⟩) ?_
                refine lv_if_ne (tgt := 82) hx hb dX5_countFewest_67 (by decide) (fun c67_31 => ?_) (fun c67_31 => ?_)
                · have c67_31 := bI_nn0.mp c67_31
                  refine lv_aload_n hx hb dX5_countFewest_82 rfl (lv_at hl 2 rfl) ?_
                  refine va_get (ci := 5) (v := .ref hF9) (C := RX5) (T := TX5) (N := 9) hx hb hts hin5 hown hK hP 0 rfl rfl 6 (by decide) (hts (.fieldLink RX5 45 "UpAllRound" "fewest" "[[I") (List.mem_of_getElem? (i := 1) rfl)) (fun _ h9 => h9) hU6 dX5_countFewest_83 ?_
                  refine lv_iload_n hx hb dX5_countFewest_86 rfl (lv_at hl 3 rfl) ?_
                  refine lv_iconst (v := nI 1) hx hb dX5_countFewest_87 (by decide) ?_
                  refine lv_iadd hx hb dX5_countFewest_88 ?_
                  refine zrw (nI_add _ _) ?_
                  refine zaldq (t := 14) (x := q14) hx hb hK hP 3 rfl (by decide) (by decide) rfl dX5_countFewest_89 ?_
                  refine lv_iload_n hx hb dX5_countFewest_90 rfl (lv_at hl 4 rfl) ?_
                  refine lv_bipush (v := nI 99) hx hb dX5_countFewest_91 (by decide) ?_
                  refine lv_iload hx hb dX5_countFewest_93 (lv_at hl 0 rfl) ?_
                  refine lv_aload_n hx hb dX5_countFewest_95 rfl (lv_at hl 2 rfl) ?_
                  refine va_get (ci := 5) (v := .ref hF9) (C := RX5) (T := TX5) (N := 9) hx hb hts hin5 hown hK hP 0 rfl rfl 6 (by decide) (hts (.fieldLink RX5 45 "UpAllRound" "fewest" "[[I") (List.mem_of_getElem? (i := 1) rfl)) (fun _ h9 => h9) hU6 dX5_countFewest_96 ?_
                  refine lv_iload_n hx hb dX5_countFewest_99 rfl (lv_at hl 3 rfl) ?_
                  refine zaldq (t := 13) (x := q13) hx hb hK hP 3 rfl (by decide) (by decide) rfl dX5_countFewest_100 ?_
                  refine lv_iload_n hx hb dX5_countFewest_101 rfl (lv_at hl 4 rfl) ?_
                  refine zald (t := j) hx hb hK hP 17 rfl (by omega) (by decide) dX5_countFewest_102 ?_
                  refine zrw (hF 13 (by omega) j (by omega)) ?_
                  refine va_mmin hx hb (by rw [hml]; exact hl.1.symm) hown (hts (.methodLink RX5 246 Lib.Math.min.name) (List.mem_of_getElem? (i := 3) rfl)) (hts (.static Lib.Math.min.name) (List.mem_of_getElem? (i := 4) rfl)) (hts (.initialized "java/lang/Math") (List.mem_of_getElem? (i := 5) rfl)) (hts (.code Lib.Math.min.name Lib.Math.min.code 2 (some .int)) (List.mem_of_getElem? (i := 6) rfl)) (Nat.le_of_ble_eq_true rfl) (Nat.le_of_ble_eq_true rfl) (Nat.zero_le _) (Nat.zero_le _) dX5_countFewest_103 ?_
                  refine zrw (zmin_n (by have h91 := zfw_le (zrJ S) 13 ((j : Int) - 126); omega) (by have h91 := zfw_le (zrJ S) 13 ((j : Int) - 126); omega)) ?_
                  refine va_mmin hx hb (by rw [hml]; exact hl.1.symm) hown (hts (.methodLink RX5 246 Lib.Math.min.name) (List.mem_of_getElem? (i := 3) rfl)) (hts (.static Lib.Math.min.name) (List.mem_of_getElem? (i := 4) rfl)) (hts (.initialized "java/lang/Math") (List.mem_of_getElem? (i := 5) rfl)) (hts (.code Lib.Math.min.name Lib.Math.min.code 2 (some .int)) (List.mem_of_getElem? (i := 6) rfl)) (Nat.le_of_ble_eq_true rfl) (Nat.le_of_ble_eq_true rfl) (Nat.zero_le _) (Nat.zero_le _) dX5_countFewest_106 ?_
                  refine zrw (zmin_n (by decide) (by have h91 := zfw_le (zrJ S) 13 ((j : Int) - 126); omega)) ?_
                  refine zast (t := j) hx hb hK hP hD hS 18 rfl (by omega) (by decide) dX5_countFewest_109 (fun H locs hP hD hS => ?_)
                  have hP : va_P D vwCl [(h, .inr (5, fs)), (hS9, .inr (3, ft)), (hr9, .inl (cI, 14, .inl ((fun i => S (32 + i))))), (hF9, .inl (cJ, 15, .inr (.inr (.inr (.inr (zq15 q0 q1 q2 q3 q4 q5 q6 q7 q8 q9 q10 q11 q12 q13 q14)))))), (q0, .inl (cI, 253, .inl (F 0))), (q1, .inl (cI, 253, .inl (F 1))), (q2, .inl (cI, 253, .inl (F 2))), (q3, .inl (cI, 253, .inl (F 3))), (q4, .inl (cI, 253, .inl (F 4))), (q5, .inl (cI, 253, .inl (F 5))), (q6, .inl (cI, 253, .inl (F 6))), (q7, .inl (cI, 253, .inl (F 7))), (q8, .inl (cI, 253, .inl (F 8))), (q9, .inl (cI, 253, .inl (F 9))), (q10, .inl (cI, 253, .inl (F 10))), (q11, .inl (cI, 253, .inl (F 11))), (q12, .inl (cI, 253, .inl (F 12))), (q13, .inl (cI, 253, .inl (F 13))), (q14, .inl (cI, 253, .inl (upd g9 j (nI (min 99 (min (99) (zfw (zrJ S) 13 ((j : Int) - 126))))))))] H := hP
                  have hD : va_D AA [(h, .inr (5, fs)), (hS9, .inr (3, ft)), (hr9, .inl (cI, 14, .inl ((fun i => S (32 + i))))), (hF9, .inl (cJ, 15, .inr (.inr (.inr (.inr (zq15 q0 q1 q2 q3 q4 q5 q6 q7 q8 q9 q10 q11 q12 q13 q14)))))), (q0, .inl (cI, 253, .inl (F 0))), (q1, .inl (cI, 253, .inl (F 1))), (q2, .inl (cI, 253, .inl (F 2))), (q3, .inl (cI, 253, .inl (F 3))), (q4, .inl (cI, 253, .inl (F 4))), (q5, .inl (cI, 253, .inl (F 5))), (q6, .inl (cI, 253, .inl (F 6))), (q7, .inl (cI, 253, .inl (F 7))), (q8, .inl (cI, 253, .inl (F 8))), (q9, .inl (cI, 253, .inl (F 9))), (q10, .inl (cI, 253, .inl (F 10))), (q11, .inl (cI, 253, .inl (F 11))), (q12, .inl (cI, 253, .inl (F 12))), (q13, .inl (cI, 253, .inl (F 13))), (q14, .inl (cI, 253, .inl (upd g9 j (nI (min 99 (min (99) (zfw (zrJ S) 13 ((j : Int) - 126))))))))] := hD
                  refine lv_iinc (v := nI (j + 1)) (lv' := [(2, .int (nI (j + 1))), (4, .int (nI 99)), (3, .int bf), (0, .ref h), (1, .int (nI 13))]) hx hb dX5_countFewest_110 hl (k := 4) rfl (nI_add _ _) (by decide) rfl (fun ls hl => ?_)
                  refine lv_goto (tgt := 36) hx hb dX5_countFewest_113 (by decide) ?_
                  exact ih_36  (j + 1) (upd g9 j (nI (min 99 (min (99) (zfw (zrJ S) 13 ((j : Int) - 126)))))) (by omega) (by omega) (fun x h91 => (Nat.lt_or_ge x j).elim (fun h92 => (if_neg (show ¬ x = j by omega)).trans (hg x h92)) (fun h92 => by rw [show x = j by omega]; exact (if_pos rfl).trans (zfw_out hri (by decide) (by omega) ebf (by assumption)))) ls (lv_sub hl [3, 4, 0] rfl) H locs hP hD hS
                · have c67_31 := bI_nX0.mp c67_31
                  obtain ⟨q, h_q, rfl⟩ : ∃ q : Nat, q ≤ 252 ∧ bf = nI q := zrg_of c67_31 (by decide)
                  refine lv_aload_n hx hb dX5_countFewest_70 rfl (lv_at hl 2 rfl) ?_
                  refine va_get (ci := 5) (v := .ref hF9) (C := RX5) (T := TX5) (N := 9) hx hb hts hin5 hown hK hP 0 rfl rfl 6 (by decide) (hts (.fieldLink RX5 45 "UpAllRound" "fewest" "[[I") (List.mem_of_getElem? (i := 1) rfl)) (fun _ h9 => h9) hU6 dX5_countFewest_71 ?_
                  refine lv_iload_n hx hb dX5_countFewest_74 rfl (lv_at hl 3 rfl) ?_
                  refine zaldq (t := 13) (x := q13) hx hb hK hP 3 rfl (by decide) (by decide) rfl dX5_countFewest_75 ?_
                  refine lv_iload_n hx hb dX5_countFewest_76 rfl (lv_at hl 1 rfl) ?_
                  refine zald (t := q) hx hb hK hP 17 rfl (by omega) (by decide) dX5_countFewest_77 ?_
                  refine zrw (hF 13 (by omega) q (by omega)) ?_
                  refine lv_iconst (v := nI 1) hx hb dX5_countFewest_78 (by decide) ?_
                  refine lv_iadd hx hb dX5_countFewest_79 ?_
                  refine zrw (nI_add _ _) ?_
                  refine lv_istore (lv' := [(4, .int (nI ((zfw (zrJ S) 13 ((q : Int) - 126)) + 1))), (3, .int (nI q)), (0, .ref h), (1, .int (nI 13)), (2, .int (nI j))]) hx hb dX5_countFewest_80 hl (by decide) rfl (fun ls hl => ?_)
                  refine lv_aload_n hx hb dX5_countFewest_82 rfl (lv_at hl 2 rfl) ?_
                  refine va_get (ci := 5) (v := .ref hF9) (C := RX5) (T := TX5) (N := 9) hx hb hts hin5 hown hK hP 0 rfl rfl 6 (by decide) (hts (.fieldLink RX5 45 "UpAllRound" "fewest" "[[I") (List.mem_of_getElem? (i := 1) rfl)) (fun _ h9 => h9) hU6 dX5_countFewest_83 ?_
                  refine lv_iload_n hx hb dX5_countFewest_86 rfl (lv_at hl 3 rfl) ?_
                  refine lv_iconst (v := nI 1) hx hb dX5_countFewest_87 (by decide) ?_
                  refine lv_iadd hx hb dX5_countFewest_88 ?_
                  refine zrw (nI_add _ _) ?_
                  refine zaldq (t := 14) (x := q14) hx hb hK hP 3 rfl (by decide) (by decide) rfl dX5_countFewest_89 ?_
                  refine lv_iload_n hx hb dX5_countFewest_90 rfl (lv_at hl 4 rfl) ?_
                  refine lv_bipush (v := nI 99) hx hb dX5_countFewest_91 (by decide) ?_
                  refine lv_iload hx hb dX5_countFewest_93 (lv_at hl 0 rfl) ?_
                  refine lv_aload_n hx hb dX5_countFewest_95 rfl (lv_at hl 2 rfl) ?_
                  refine va_get (ci := 5) (v := .ref hF9) (C := RX5) (T := TX5) (N := 9) hx hb hts hin5 hown hK hP 0 rfl rfl 6 (by decide) (hts (.fieldLink RX5 45 "UpAllRound" "fewest" "[[I") (List.mem_of_getElem? (i := 1) rfl)) (fun _ h9 => h9) hU6 dX5_countFewest_96 ?_
                  refine lv_iload_n hx hb dX5_countFewest_99 rfl (lv_at hl 3 rfl) ?_
                  refine zaldq (t := 13) (x := q13) hx hb hK hP 3 rfl (by decide) (by decide) rfl dX5_countFewest_100 ?_
                  refine lv_iload_n hx hb dX5_countFewest_101 rfl (lv_at hl 4 rfl) ?_
                  refine zald (t := j) hx hb hK hP 17 rfl (by omega) (by decide) dX5_countFewest_102 ?_
                  refine zrw (hF 13 (by omega) j (by omega)) ?_
                  refine va_mmin hx hb (by rw [hml]; exact hl.1.symm) hown (hts (.methodLink RX5 246 Lib.Math.min.name) (List.mem_of_getElem? (i := 3) rfl)) (hts (.static Lib.Math.min.name) (List.mem_of_getElem? (i := 4) rfl)) (hts (.initialized "java/lang/Math") (List.mem_of_getElem? (i := 5) rfl)) (hts (.code Lib.Math.min.name Lib.Math.min.code 2 (some .int)) (List.mem_of_getElem? (i := 6) rfl)) (Nat.le_of_ble_eq_true rfl) (Nat.le_of_ble_eq_true rfl) (Nat.zero_le _) (Nat.zero_le _) dX5_countFewest_103 ?_
                  refine zrw (zmin_n (by have h91 := zfw_le (zrJ S) 13 ((q : Int) - 126); omega) (by have h91 := zfw_le (zrJ S) 13 ((j : Int) - 126); omega)) ?_
                  refine va_mmin hx hb (by rw [hml]; exact hl.1.symm) hown (hts (.methodLink RX5 246 Lib.Math.min.name) (List.mem_of_getElem? (i := 3) rfl)) (hts (.static Lib.Math.min.name) (List.mem_of_getElem? (i := 4) rfl)) (hts (.initialized "java/lang/Math") (List.mem_of_getElem? (i := 5) rfl)) (hts (.code Lib.Math.min.name Lib.Math.min.code 2 (some .int)) (List.mem_of_getElem? (i := 6) rfl)) (Nat.le_of_ble_eq_true rfl) (Nat.le_of_ble_eq_true rfl) (Nat.zero_le _) (Nat.zero_le _) dX5_countFewest_106 ?_
                  refine zrw (zmin_n (by decide) (by have h91 := zfw_le (zrJ S) 13 ((j : Int) - 126); omega)) ?_
                  refine zast (t := j) hx hb hK hP hD hS 18 rfl (by omega) (by decide) dX5_countFewest_109 (fun H locs hP hD hS => ?_)
                  have hP : va_P D vwCl [(h, .inr (5, fs)), (hS9, .inr (3, ft)), (hr9, .inl (cI, 14, .inl ((fun i => S (32 + i))))), (hF9, .inl (cJ, 15, .inr (.inr (.inr (.inr (zq15 q0 q1 q2 q3 q4 q5 q6 q7 q8 q9 q10 q11 q12 q13 q14)))))), (q0, .inl (cI, 253, .inl (F 0))), (q1, .inl (cI, 253, .inl (F 1))), (q2, .inl (cI, 253, .inl (F 2))), (q3, .inl (cI, 253, .inl (F 3))), (q4, .inl (cI, 253, .inl (F 4))), (q5, .inl (cI, 253, .inl (F 5))), (q6, .inl (cI, 253, .inl (F 6))), (q7, .inl (cI, 253, .inl (F 7))), (q8, .inl (cI, 253, .inl (F 8))), (q9, .inl (cI, 253, .inl (F 9))), (q10, .inl (cI, 253, .inl (F 10))), (q11, .inl (cI, 253, .inl (F 11))), (q12, .inl (cI, 253, .inl (F 12))), (q13, .inl (cI, 253, .inl (F 13))), (q14, .inl (cI, 253, .inl (upd g9 j (nI (min 99 (min (zfw (zrJ S) 13 ((q : Int) - 126) + 1) (zfw (zrJ S) 13 ((j : Int) - 126))))))))] H := hP
                  have hD : va_D AA [(h, .inr (5, fs)), (hS9, .inr (3, ft)), (hr9, .inl (cI, 14, .inl ((fun i => S (32 + i))))), (hF9, .inl (cJ, 15, .inr (.inr (.inr (.inr (zq15 q0 q1 q2 q3 q4 q5 q6 q7 q8 q9 q10 q11 q12 q13 q14)))))), (q0, .inl (cI, 253, .inl (F 0))), (q1, .inl (cI, 253, .inl (F 1))), (q2, .inl (cI, 253, .inl (F 2))), (q3, .inl (cI, 253, .inl (F 3))), (q4, .inl (cI, 253, .inl (F 4))), (q5, .inl (cI, 253, .inl (F 5))), (q6, .inl (cI, 253, .inl (F 6))), (q7, .inl (cI, 253, .inl (F 7))), (q8, .inl (cI, 253, .inl (F 8))), (q9, .inl (cI, 253, .inl (F 9))), (q10, .inl (cI, 253, .inl (F 10))), (q11, .inl (cI, 253, .inl (F 11))), (q12, .inl (cI, 253, .inl (F 12))), (q13, .inl (cI, 253, .inl (F 13))), (q14, .inl (cI, 253, .inl (upd g9 j (nI (min 99 (min (zfw (zrJ S) 13 ((q : Int) - 126) + 1) (zfw (zrJ S) 13 ((j : Int) - 126))))))))] := hD
                  refine lv_iinc (v := nI (j + 1)) (lv' := [(2, .int (nI (j + 1))), (4, .int (nI ((zfw (zrJ S) 13 ((q : Int) - 126)) + 1))), (3, .int (nI q)), (0, .ref h), (1, .int (nI 13))]) hx hb dX5_countFewest_110 hl (k := 4) rfl (nI_add _ _) (by decide) rfl (fun ls hl => ?_)
                  refine lv_goto (tgt := 36) hx hb dX5_countFewest_113 (by decide) ?_
                  exact ih_36  (j + 1) (upd g9 j (nI (min 99 (min (zfw (zrJ S) 13 ((q : Int) - 126) + 1) (zfw (zrJ S) 13 ((j : Int) - 126)))))) (by omega) (by omega) (fun x h91 => (Nat.lt_or_ge x j).elim (fun h92 => (if_neg (show ¬ x = j by omega)).trans (hg x h92)) (fun h92 => by rw [show x = j by omega]; exact (if_pos rfl).trans (zfw_in (hri 13 (by decide)) (by omega) (by omega) ebf))) ls (lv_sub hl [3, 4, 0] rfl) H locs hP hD hS
          exact L_36 (253 + 1) 0 (F 14) (by omega) (by omega) (fun x h91 => absurd h91 (by omega)) ls (lv_sub hl [1, 2, 0] rfl) _ _ hP hD hS
  exact L_23 (n + 1) 0 ((zlf [upd (zfill (F 0) 0 253 (nI 99)) 126 (nI 0), F 1, F 2, F 3, F 4, F 5, F 6, F 7, F 8, F 9, F 10, F 11, F 12, F 13, F 14])) (by omega) (by omega) (fun k9 h91 x h92 => by rw [show k9 = 0 by omega]; exact zfw_r0 h92) ls (lv_sub hl [1, 0] rfl) _ _ (hP.sub [0, 1, 2, 3, 18, 4, 5, 6, 7, 8, 9, 10, 11, 12, 13, 14, 15, 16, 17] rfl) (hD.sub [0, 1, 2, 3, 18, 4, 5, 6, 7, 8, 9, 10, 11, 12, 13, 14, 15, 16, 17] (by decide) rfl) hS
set_option maxHeartbeats 4000000 in
set_option maxRecDepth 100000 in
theorem c_X5_leastSet (l : Launch) (D : va_G) (cI cJ : ClassId) (h : Nat) (hS9 : Nat) (hr9 : Nat) (hF9 : Nat) (fs : List Value) (ft : List Value) (S : Nat → Int32) (n : Nat) (q0 : Nat) (q1 : Nat) (q2 : Nat) (q3 : Nat) (q4 : Nat) (q5 : Nat) (q6 : Nat) (q7 : Nat) (q8 : Nat) (q9 : Nat) (q10 : Nat) (q11 : Nat) (q12 : Nat) (q13 : Nat) (q14 : Nat) (F : Nat → Nat → Int32) (ov : Int32) (s9 : Int) (hU0 : fs[0]? = some (.ref hS9)) (hU6 : fs[6]? = some (.ref hF9)) (hft0 : ft[0]? = some (.int (nI n))) (hft1 : ft[1]? = some (.ref hr9)) (hn14 : n ≤ 14) (hri : ∀ j, j < 14 → zrg (-9) 9 (S (32 + j))) (hF : ∀ k, k ≤ n → ∀ j, j < 253 → F k j = nI (zfw (zrJ S) k ((j : Int) - 126))) (hov : ov.toInt = s9) (hlt : zfw (zrJ S) n s9 < 99) : zSi l yX5_leastSet wsX5_leastSet ({ frames := 1, cells := 0, slots := 0, locals := 22 } : Room) D [(cI, .int), (cJ, .array .int)] [.ref h, .int ov] [(h, .inr (5, fs)), (hS9, .inr (3, ft)), (hr9, .inl (cI, 14, .inl ((fun i => S (32 + i))))), (hF9, .inl (cJ, 15, .inr (.inr (.inr (.inr (zq15 q0 q1 q2 q3 q4 q5 q6 q7 q8 q9 q10 q11 q12 q13 q14)))))), (q0, .inl (cI, 253, .inl (F 0))), (q1, .inl (cI, 253, .inl (F 1))), (q2, .inl (cI, 253, .inl (F 2))), (q3, .inl (cI, 253, .inl (F 3))), (q4, .inl (cI, 253, .inl (F 4))), (q5, .inl (cI, 253, .inl (F 5))), (q6, .inl (cI, 253, .inl (F 6))), (q7, .inl (cI, 253, .inl (F 7))), (q8, .inl (cI, 253, .inl (F 8))), (q9, .inl (cI, 253, .inl (F 9))), (q10, .inl (cI, 253, .inl (F 10))), (q11, .inl (cI, 253, .inl (F 11))), (q12, .inl (cI, 253, .inl (F 12))), (q13, .inl (cI, 253, .inl (F 13))), (q14, .inl (cI, 253, .inl (F 14)))] (fun r => r = nI ((zls (zrJ S) n s9))) := by
  refine zSi.start (cc := cX5_leastSet) (maxL := 5) (rt := .int) (by first | decide | decide +kernel) rfl (Nat.le_of_ble_eq_true rfl) ?_
  intro pg ev s mt args below meth cd ls AA QQ ⟨hx, hb, hml, hr, hlocks, hown, hts, hK, hN, hZ, hP, hD, hA, hS, hl⟩ hret
  have hown : s.vm.findClass RX5 = some mt.cls := hown
  have hl : lv_has ls 5 [(0, .ref h), (1, .int ov)] := hl
  have hin3 : ∀ w ∈ wsX30, w ∈ wsX5_leastSet := fun w h => List.mem_cons_of_mem _ (List.mem_append_right _ (h))
  have hin5 : ∀ w ∈ wsX50, w ∈ wsX5_leastSet := fun w h => List.mem_cons_of_mem _ (List.mem_append_left _ (List.mem_append_right _ (h)))
  refine lv_iconst (v := nI 0) hx hb dX5_leastSet_0 (by decide) ?_
  refine lv_istore_n (lv' := [(2, .int (nI 0)), (0, .ref h), (1, .int ov)]) hx hb dX5_leastSet_1 rfl hl (by decide) rfl (fun ls hl => ?_)
  refine lv_bipush (v := nI 126) hx hb dX5_leastSet_2 (by decide) ?_
  refine lv_iload_n hx hb dX5_leastSet_4 rfl (lv_at hl 2 rfl) ?_
  refine lv_iadd hx hb dX5_leastSet_5 ?_
  refine lv_istore_n (lv' := [(3, .int ((nI 126) + ov)), (2, .int (nI 0)), (0, .ref h), (1, .int ov)]) hx hb dX5_leastSet_6 rfl hl (by decide) rfl (fun ls hl => ?_)
  refine lv_aload_n hx hb dX5_leastSet_7 rfl (lv_at hl 2 rfl) ?_
  refine va_get (ci := 5) (v := .ref hS9) (C := RX5) (T := TX5) (N := 9) hx hb hts hin5 hown hK hP 0 rfl rfl 0 (by decide) (hts (.fieldLink RX5 12 "UpAllRound" "now" "LUpAllRound$Stair;") (List.mem_of_getElem? (i := 1) rfl)) (fun _ h9 => h9) hU0 dX5_leastSet_8 ?_
  refine va_getN (ci := 3) (v := .int (nI n)) (C := RX3) (T := TX3) (N := 16) hx hb hts hin3 hown hK hP 1 rfl rfl 0 (by decide) (va_Nw.use rfl (hN (.fieldLinkNest "UpAllRound" 67 "UpAllRound$Stair" "steps" "I" "UpAllRound") (List.mem_of_getElem? (i := 0) rfl))) (fun _ h9 => h9) hft0 dX5_leastSet_11 ?_
  refine lv_iconst (v := nI 1) hx hb dX5_leastSet_14 (by decide) ?_
  refine lv_isub hx hb dX5_leastSet_15 ?_
  refine lv_istore (lv' := [(4, .int ((nI n) - (nI 1))), (3, .int ((nI 126) + ov)), (2, .int (nI 0)), (0, .ref h), (1, .int ov)]) hx hb dX5_leastSet_16 hl (by decide) rfl (fun ls hl => ?_)
  have L_18 : ∀ (fu : Nat) (m : Nat) (A : Nat) (t9 : Int) (sm : Int32) (hn : m < fu) (hmn : m ≤ n) (hsm : sm.toInt = t9 + 126) (hA9 : A + zls (zrJ S) m t9 = zls (zrJ S) n s9) (hd : ∃ x, A = 2 ^ m * x) (hl9 : zfw (zrJ S) m t9 < 99), ∀ (ls : Array Slot), lv_has ls 5 [(0, .ref h), (1, .int ov), (2, .int (nI A)), (3, .int sm), (4, .int ((nI m - nI 1)))] → W pg l ev ({ frames := 1, cells := 0, slots := 0, locals := 22 } : Room) s mt args below meth cd s.heap [] 0 0 QQ (F0 mt 18 ls []) := by
    intro fu
    induction fu with
    | zero =>
      intro  m A t9 sm  hn
      exact absurd hn (by omega)
    | succ fu ih_18 =>
      intro  m A t9 sm  hn hmn hsm hA9 hd hl9 ls hl 
      refine lv_iload hx hb dX5_leastSet_18 (lv_at hl 4 rfl) ?_
      refine lv_if_lt (tgt := 83) hx hb dX5_leastSet_20 (by decide) (fun c20_1 => ?_) (fun c20_1 => ?_)
      · refine lv_iload_n hx hb dX5_leastSet_83 rfl (lv_at hl 2 rfl) ?_
        exact hret dX5_leastSet_84 rfl (by rw [← hA9, show m = 0 from (zm1_0 (by omega)).mp (by assumption)] <;> rfl)
      · obtain ⟨i, rfl⟩ : ∃ i, m = i + 1 := ⟨m - 1, by have h91 := Nat.pos_of_ne_zero (fun h9 => c20_1 ((zm1_0 (by omega)).mpr h9)); omega⟩
        rw [nI_pred' i] at hl
        have hl : lv_has ls 5 [(0, .ref h), (1, .int ov), (2, .int (nI A)), (3, .int sm), (4, .int (nI i))] := hl
        refine lv_iload_n hx hb dX5_leastSet_23 rfl (lv_at hl 3 rfl) ?_
        refine lv_iconst (v := nI 0) hx hb dX5_leastSet_24 (by decide) ?_
        refine lv_sipush (v := nI 252) hx hb dX5_leastSet_25 (by decide) ?_
        refine zcsE (va_runS (As := [.int sm, .int (nI 0), .int (nI 252)]) (rest := []) ⟨hx, hb, hml, hown, hts⟩ (d_X5_isOutside l D cI cJ sm (nI 0) (nI 252) 0 252 (by decide) (by decide) s.heap.size) (va_cwS 3 hts gX5_leastSet_X5_isOutside rfl rfl rfl (by decide +kernel) ⟨Nat.le_of_ble_eq_true rfl, Nat.le_of_ble_eq_true rfl⟩) (zpS hK hN hZ hP hD hS hA [] rfl (by decide)) rfl rfl hl.1 rfl (lv_room (Nat.le_of_ble_eq_true rfl)) dX5_leastSet_28 ⟨Nat.zero_le _, Nat.zero_le _⟩) ?_
        refine lv_if_ne (tgt := 83) hx hb dX5_leastSet_31 (by decide) (fun c31_2 => ?_) (fun c31_2 => ?_)
        · have c31_2 := bI_nn0.mp c31_2
          exact absurd (show zrg 0 252 sm from by have h91 := zfw_rg hri (by omega) hl9; unfold zrg; omega) c31_2
        · have c31_2 := bI_nX0.mp c31_2
          obtain ⟨q, h_q, rfl⟩ : ∃ q : Nat, q ≤ 252 ∧ sm = nI q := zrg_of c31_2 (by decide)
          have htq : t9 = (q : Int) - 126 := (by have h9 := hsm; rw [nI_toInt (by omega)] at h9; omega)
          rcases (show i = 0 ∨ i = 1 ∨ i = 2 ∨ i = 3 ∨ i = 4 ∨ i = 5 ∨ i = 6 ∨ i = 7 ∨ i = 8 ∨ i = 9 ∨ i = 10 ∨ i = 11 ∨ i = 12 ∨ i = 13 from by omega) with h9 | h9 | h9 | h9 | h9 | h9 | h9 | h9 | h9 | h9 | h9 | h9 | h9 | h9
          · subst h9
            refine lv_aload_n hx hb dX5_leastSet_34 rfl (lv_at hl 0 rfl) ?_
            refine va_get (ci := 5) (v := .ref hF9) (C := RX5) (T := TX5) (N := 9) hx hb hts hin5 hown hK hP 0 rfl rfl 6 (by decide) (hts (.fieldLink RX5 45 "UpAllRound" "fewest" "[[I") (List.mem_of_getElem? (i := 2) rfl)) (fun _ h9 => h9) hU6 dX5_leastSet_35 ?_
            refine lv_iload hx hb dX5_leastSet_38 (lv_at hl 4 rfl) ?_
            refine zaldq (t := 0) (x := q0) hx hb hK hP 3 rfl (by decide) (by decide) rfl dX5_leastSet_40 ?_
            refine lv_iload_n hx hb dX5_leastSet_41 rfl (lv_at hl 3 rfl) ?_
            refine zald (t := q) hx hb hK hP 4 rfl (by omega) (by decide) dX5_leastSet_42 ?_
            refine zrw (hF 0 (by omega) q (by omega)) ?_
            refine lv_aload_n hx hb dX5_leastSet_43 rfl (lv_at hl 0 rfl) ?_
            refine va_get (ci := 5) (v := .ref hF9) (C := RX5) (T := TX5) (N := 9) hx hb hts hin5 hown hK hP 0 rfl rfl 6 (by decide) (hts (.fieldLink RX5 45 "UpAllRound" "fewest" "[[I") (List.mem_of_getElem? (i := 2) rfl)) (fun _ h9 => h9) hU6 dX5_leastSet_44 ?_
            refine lv_iload hx hb dX5_leastSet_47 (lv_at hl 4 rfl) ?_
            refine lv_iconst (v := nI 1) hx hb dX5_leastSet_49 (by decide) ?_
            refine lv_iadd hx hb dX5_leastSet_50 ?_
            refine zrw (nI_add _ _) ?_
            refine zaldq (t := 1) (x := q1) hx hb hK hP 3 rfl (by decide) (by decide) rfl dX5_leastSet_51 ?_
            refine lv_iload_n hx hb dX5_leastSet_52 rfl (lv_at hl 3 rfl) ?_
            refine zald (t := q) hx hb hK hP 5 rfl (by omega) (by decide) dX5_leastSet_53 ?_
            refine zrw (hF (0 + 1) (by omega) q (by omega)) ?_
            refine lv_icmp_eq (tgt := 77) hx hb dX5_leastSet_54 (by decide) (fun c54_3 => ?_) (fun c54_3 => ?_)
            · have c54_3 : (zfw (zrJ S) 0 ((q : Int) - 126)) = (zfw (zrJ S) (0 + 1) ((q : Int) - 126)) := (nI_eq (a := zfw (zrJ S) 0 ((q : Int) - 126)) (b := zfw (zrJ S) (0 + 1) ((q : Int) - 126)) (by have h91 := zfw_le (zrJ S) 0 ((q : Int) - 126); have h92 := zfw_le (zrJ S) (0 + 1) ((q : Int) - 126); omega) (by have h91 := zfw_le (zrJ S) 0 ((q : Int) - 126); have h92 := zfw_le (zrJ S) (0 + 1) ((q : Int) - 126); omega)).mp c54_3
              have hfe : (zfw (zrJ S) 0 t9 = zfw (zrJ S) (0 + 1) t9) := by have h9 := c54_3; rwa [← htq] at h9
              refine lv_iinc (v := (nI 0 - nI 1)) (lv' := [(4, .int ((nI 0 - nI 1))), (0, .ref h), (1, .int ov), (2, .int (nI A)), (3, .int (nI q))]) hx hb dX5_leastSet_77 hl (k := 4) rfl (by decide) (by decide) rfl (fun ls hl => ?_)
              refine lv_goto (tgt := 18) hx hb dX5_leastSet_80 (by decide) ?_
              exact ih_18   0 A t9 ((nI q)) (by omega) (by omega) hsm (by rw [← hA9, zls_e hfe]) (by obtain ⟨x, hx9⟩ := hd; exact ⟨2 * x, by rw [hx9, ← Nat.mul_assoc, ← Nat.pow_succ]⟩) (by rw [hfe]; exact hl9) ls (lv_sub hl [1, 2, 3, 4, 0] rfl)
            · have c54_3 : ¬ ((zfw (zrJ S) 0 ((q : Int) - 126)) = (zfw (zrJ S) (0 + 1) ((q : Int) - 126))) := fun h9 => c54_3 ((nI_eq (a := zfw (zrJ S) 0 ((q : Int) - 126)) (b := zfw (zrJ S) (0 + 1) ((q : Int) - 126)) (by have h91 := zfw_le (zrJ S) 0 ((q : Int) - 126); have h92 := zfw_le (zrJ S) (0 + 1) ((q : Int) - 126); omega) (by have h91 := zfw_le (zrJ S) 0 ((q : Int) - 126); have h92 := zfw_le (zrJ S) (0 + 1) ((q : Int) - 126); omega)).mpr h9)
              have hfe : ¬ (zfw (zrJ S) 0 t9 = zfw (zrJ S) (0 + 1) t9) := by have h9 := c54_3; rwa [← htq] at h9
              refine lv_iload_n hx hb dX5_leastSet_57 rfl (lv_at hl 2 rfl) ?_
              refine lv_iconst (v := nI 1) hx hb dX5_leastSet_58 (by decide) ?_
              refine lv_iload hx hb dX5_leastSet_59 (lv_at hl 4 rfl) ?_
              refine lv_ishl hx hb dX5_leastSet_61 ?_
              refine lv_ior hx hb dX5_leastSet_62 ?_
              refine zrw (hd.elim fun x hx9 => nI_orp (k := 0) (by decide) hx9) ?_
              refine lv_istore_n (lv' := [(2, .int (nI (A + 2 ^ 0))), (0, .ref h), (1, .int ov), (3, .int (nI q)), (4, .int (nI 0))]) hx hb dX5_leastSet_63 rfl hl (by decide) rfl (fun ls hl => ?_)
              refine lv_iload_n hx hb dX5_leastSet_64 rfl (lv_at hl 3 rfl) ?_
              refine lv_aload_n hx hb dX5_leastSet_65 rfl (lv_at hl 1 rfl) ?_
              refine va_get (ci := 5) (v := .ref hS9) (C := RX5) (T := TX5) (N := 9) hx hb hts hin5 hown hK hP 0 rfl rfl 0 (by decide) (hts (.fieldLink RX5 12 "UpAllRound" "now" "LUpAllRound$Stair;") (List.mem_of_getElem? (i := 1) rfl)) (fun _ h9 => h9) hU0 dX5_leastSet_66 ?_
              refine va_getN (ci := 3) (v := .ref hr9) (C := RX3) (T := TX3) (N := 16) hx hb hts hin3 hown hK hP 1 rfl rfl 1 (by decide) (va_Nw.use rfl (hN (.fieldLinkNest "UpAllRound" 78 "UpAllRound$Stair" "rises" "[I" "UpAllRound") (List.mem_of_getElem? (i := 1) rfl))) (fun _ h9 => h9) hft1 dX5_leastSet_69 ?_
              refine lv_iload hx hb dX5_leastSet_72 (lv_at hl 4 rfl) ?_
              refine zald (t := 0) hx hb hK hP 2 rfl (by omega) (by decide) dX5_leastSet_74 ?_
              refine zrw rfl ?_
              refine lv_isub hx hb dX5_leastSet_75 ?_
              refine lv_topi (fun sm2 esm2 => ?_)
              refine lv_istore_n (lv' := [(3, .int sm2), (2, .int (nI (A + 2 ^ 0))), (0, .ref h), (1, .int ov), (4, .int (nI 0))]) hx hb dX5_leastSet_76 rfl hl (by decide) rfl (fun ls hl => ?_)
              refine lv_iinc (v := (nI 0 - nI 1)) (lv' := [(4, .int ((nI 0 - nI 1))), (3, .int sm2), (2, .int (nI (A + 2 ^ 0))), (0, .ref h), (1, .int ov)]) hx hb dX5_leastSet_77 hl (k := 4) rfl (by decide) (by decide) rfl (fun ls hl => ?_)
              refine lv_goto (tgt := 18) hx hb dX5_leastSet_80 (by decide) ?_
              exact ih_18   0 ((A + 2 ^ 0)) ((t9 - zrJ S 0)) sm2 (by omega) (by omega) (zsq (hri 0 (by decide)) (by omega) esm2 hsm) (by rw [← hA9, zls_n hfe]; omega) (by obtain ⟨x, hx9⟩ := hd; exact ⟨2 * x + 1, by rw [hx9, Nat.mul_add, ← Nat.mul_assoc, ← Nat.pow_succ, Nat.mul_one]⟩) (zfw_l1 hl9 hfe) ls (lv_sub hl [3, 4, 2, 1, 0] rfl)
          · subst h9
            refine lv_aload_n hx hb dX5_leastSet_34 rfl (lv_at hl 0 rfl) ?_
            refine va_get (ci := 5) (v := .ref hF9) (C := RX5) (T := TX5) (N := 9) hx hb hts hin5 hown hK hP 0 rfl rfl 6 (by decide) (hts (.fieldLink RX5 45 "UpAllRound" "fewest" "[[I") (List.mem_of_getElem? (i := 2) rfl)) (fun _ h9 => h9) hU6 dX5_leastSet_35 ?_
            refine lv_iload hx hb dX5_leastSet_38 (lv_at hl 4 rfl) ?_
            refine zaldq (t := 1) (x := q1) hx hb hK hP 3 rfl (by decide) (by decide) rfl dX5_leastSet_40 ?_
            refine lv_iload_n hx hb dX5_leastSet_41 rfl (lv_at hl 3 rfl) ?_
            refine zald (t := q) hx hb hK hP 5 rfl (by omega) (by decide) dX5_leastSet_42 ?_
            refine zrw (hF 1 (by omega) q (by omega)) ?_
            refine lv_aload_n hx hb dX5_leastSet_43 rfl (lv_at hl 0 rfl) ?_
            refine va_get (ci := 5) (v := .ref hF9) (C := RX5) (T := TX5) (N := 9) hx hb hts hin5 hown hK hP 0 rfl rfl 6 (by decide) (hts (.fieldLink RX5 45 "UpAllRound" "fewest" "[[I") (List.mem_of_getElem? (i := 2) rfl)) (fun _ h9 => h9) hU6 dX5_leastSet_44 ?_
            refine lv_iload hx hb dX5_leastSet_47 (lv_at hl 4 rfl) ?_
            refine lv_iconst (v := nI 1) hx hb dX5_leastSet_49 (by decide) ?_
            refine lv_iadd hx hb dX5_leastSet_50 ?_
            refine zrw (nI_add _ _) ?_
            refine zaldq (t := 2) (x := q2) hx hb hK hP 3 rfl (by decide) (by decide) rfl dX5_leastSet_51 ?_
            refine lv_iload_n hx hb dX5_leastSet_52 rfl (lv_at hl 3 rfl) ?_
            refine zald (t := q) hx hb hK hP 6 rfl (by omega) (by decide) dX5_leastSet_53 ?_
            refine zrw (hF (1 + 1) (by omega) q (by omega)) ?_
            refine lv_icmp_eq (tgt := 77) hx hb dX5_leastSet_54 (by decide) (fun c54_4 => ?_) (fun c54_4 => ?_)
            · have c54_4 : (zfw (zrJ S) 1 ((q : Int) - 126)) = (zfw (zrJ S) (1 + 1) ((q : Int) - 126)) := (nI_eq (a := zfw (zrJ S) 1 ((q : Int) - 126)) (b := zfw (zrJ S) (1 + 1) ((q : Int) - 126)) (by have h91 := zfw_le (zrJ S) 1 ((q : Int) - 126); have h92 := zfw_le (zrJ S) (1 + 1) ((q : Int) - 126); omega) (by have h91 := zfw_le (zrJ S) 1 ((q : Int) - 126); have h92 := zfw_le (zrJ S) (1 + 1) ((q : Int) - 126); omega)).mp c54_4
              have hfe : (zfw (zrJ S) 1 t9 = zfw (zrJ S) (1 + 1) t9) := by have h9 := c54_4; rwa [← htq] at h9
              refine lv_iinc (v := (nI 1 - nI 1)) (lv' := [(4, .int ((nI 1 - nI 1))), (0, .ref h), (1, .int ov), (2, .int (nI A)), (3, .int (nI q))]) hx hb dX5_leastSet_77 hl (k := 4) rfl (by decide) (by decide) rfl (fun ls hl => ?_)
              refine lv_goto (tgt := 18) hx hb dX5_leastSet_80 (by decide) ?_
              exact ih_18   1 A t9 ((nI q)) (by omega) (by omega) hsm (by rw [← hA9, zls_e hfe]) (by obtain ⟨x, hx9⟩ := hd; exact ⟨2 * x, by rw [hx9, ← Nat.mul_assoc, ← Nat.pow_succ]⟩) (by rw [hfe]; exact hl9) ls (lv_sub hl [1, 2, 3, 4, 0] rfl)
            · have c54_4 : ¬ ((zfw (zrJ S) 1 ((q : Int) - 126)) = (zfw (zrJ S) (1 + 1) ((q : Int) - 126))) := fun h9 => c54_4 ((nI_eq (a := zfw (zrJ S) 1 ((q : Int) - 126)) (b := zfw (zrJ S) (1 + 1) ((q : Int) - 126)) (by have h91 := zfw_le (zrJ S) 1 ((q : Int) - 126); have h92 := zfw_le (zrJ S) (1 + 1) ((q : Int) - 126); omega) (by have h91 := zfw_le (zrJ S) 1 ((q : Int) - 126); have h92 := zfw_le (zrJ S) (1 + 1) ((q : Int) - 126); omega)).mpr h9)
              have hfe : ¬ (zfw (zrJ S) 1 t9 = zfw (zrJ S) (1 + 1) t9) := by have h9 := c54_4; rwa [← htq] at h9
              refine lv_iload_n hx hb dX5_leastSet_57 rfl (lv_at hl 2 rfl) ?_
              refine lv_iconst (v := nI 1) hx hb dX5_leastSet_58 (by decide) ?_
              refine lv_iload hx hb dX5_leastSet_59 (lv_at hl 4 rfl) ?_
              refine lv_ishl hx hb dX5_leastSet_61 ?_
              refine lv_ior hx hb dX5_leastSet_62 ?_
              refine zrw (hd.elim fun x hx9 => nI_orp (k := 1) (by decide) hx9) ?_
              refine lv_istore_n (lv' := [(2, .int (nI (A + 2 ^ 1))), (0, .ref h), (1, .int ov), (3, .int (nI q)), (4, .int (nI 1))]) hx hb dX5_leastSet_63 rfl hl (by decide) rfl (fun ls hl => ?_)
              refine lv_iload_n hx hb dX5_leastSet_64 rfl (lv_at hl 3 rfl) ?_
              refine lv_aload_n hx hb dX5_leastSet_65 rfl (lv_at hl 1 rfl) ?_
              refine va_get (ci := 5) (v := .ref hS9) (C := RX5) (T := TX5) (N := 9) hx hb hts hin5 hown hK hP 0 rfl rfl 0 (by decide) (hts (.fieldLink RX5 12 "UpAllRound" "now" "LUpAllRound$Stair;") (List.mem_of_getElem? (i := 1) rfl)) (fun _ h9 => h9) hU0 dX5_leastSet_66 ?_
              refine va_getN (ci := 3) (v := .ref hr9) (C := RX3) (T := TX3) (N := 16) hx hb hts hin3 hown hK hP 1 rfl rfl 1 (by decide) (va_Nw.use rfl (hN (.fieldLinkNest "UpAllRound" 78 "UpAllRound$Stair" "rises" "[I" "UpAllRound") (List.mem_of_getElem? (i := 1) rfl))) (fun _ h9 => h9) hft1 dX5_leastSet_69 ?_
              refine lv_iload hx hb dX5_leastSet_72 (lv_at hl 4 rfl) ?_
              refine zald (t := 1) hx hb hK hP 2 rfl (by omega) (by decide) dX5_leastSet_74 ?_
              refine zrw rfl ?_
              refine lv_isub hx hb dX5_leastSet_75 ?_
              refine lv_topi (fun sm2 esm2 => ?_)
              refine lv_istore_n (lv' := [(3, .int sm2), (2, .int (nI (A + 2 ^ 1))), (0, .ref h), (1, .int ov), (4, .int (nI 1))]) hx hb dX5_leastSet_76 rfl hl (by decide) rfl (fun ls hl => ?_)
              refine lv_iinc (v := (nI 1 - nI 1)) (lv' := [(4, .int ((nI 1 - nI 1))), (3, .int sm2), (2, .int (nI (A + 2 ^ 1))), (0, .ref h), (1, .int ov)]) hx hb dX5_leastSet_77 hl (k := 4) rfl (by decide) (by decide) rfl (fun ls hl => ?_)
              refine lv_goto (tgt := 18) hx hb dX5_leastSet_80 (by decide) ?_
              exact ih_18   1 ((A + 2 ^ 1)) ((t9 - zrJ S 1)) sm2 (by omega) (by omega) (zsq (hri 1 (by decide)) (by omega) esm2 hsm) (by rw [← hA9, zls_n hfe]; omega) (by obtain ⟨x, hx9⟩ := hd; exact ⟨2 * x + 1, by rw [hx9, Nat.mul_add, ← Nat.mul_assoc, ← Nat.pow_succ, Nat.mul_one]⟩) (zfw_l1 hl9 hfe) ls (lv_sub hl [3, 4, 2, 1, 0] rfl)
          · subst h9
            refine lv_aload_n hx hb dX5_leastSet_34 rfl (lv_at hl 0 rfl) ?_
            refine va_get (ci := 5) (v := .ref hF9) (C := RX5) (T := TX5) (N := 9) hx hb hts hin5 hown hK hP 0 rfl rfl 6 (by decide) (hts (.fieldLink RX5 45 "UpAllRound" "fewest" "[[I") (List.mem_of_getElem? (i := 2) rfl)) (fun _ h9 => h9) hU6 dX5_leastSet_35 ?_
            refine lv_iload hx hb dX5_leastSet_38 (lv_at hl 4 rfl) ?_
            refine zaldq (t := 2) (x := q2) hx hb hK hP 3 rfl (by decide) (by decide) rfl dX5_leastSet_40 ?_
            refine lv_iload_n hx hb dX5_leastSet_41 rfl (lv_at hl 3 rfl) ?_
            refine zald (t := q) hx hb hK hP 6 rfl (by omega) (by decide) dX5_leastSet_42 ?_
            refine zrw (hF 2 (by omega) q (by omega)) ?_
            refine lv_aload_n hx hb dX5_leastSet_43 rfl (lv_at hl 0 rfl) ?_
            refine va_get (ci := 5) (v := .ref hF9) (C := RX5) (T := TX5) (N := 9) hx hb hts hin5 hown hK hP 0 rfl rfl 6 (by decide) (hts (.fieldLink RX5 45 "UpAllRound" "fewest" "[[I") (List.mem_of_getElem? (i := 2) rfl)) (fun _ h9 => h9) hU6 dX5_leastSet_44 ?_
            refine lv_iload hx hb dX5_leastSet_47 (lv_at hl 4 rfl) ?_
            refine lv_iconst (v := nI 1) hx hb dX5_leastSet_49 (by decide) ?_
            refine lv_iadd hx hb dX5_leastSet_50 ?_
            refine zrw (nI_add _ _) ?_
            refine zaldq (t := 3) (x := q3) hx hb hK hP 3 rfl (by decide) (by decide) rfl dX5_leastSet_51 ?_
            refine lv_iload_n hx hb dX5_leastSet_52 rfl (lv_at hl 3 rfl) ?_
            refine zald (t := q) hx hb hK hP 7 rfl (by omega) (by decide) dX5_leastSet_53 ?_
            refine zrw (hF (2 + 1) (by omega) q (by omega)) ?_
            refine lv_icmp_eq (tgt := 77) hx hb dX5_leastSet_54 (by decide) (fun c54_5 => ?_) (fun c54_5 => ?_)
            · have c54_5 : (zfw (zrJ S) 2 ((q : Int) - 126)) = (zfw (zrJ S) (2 + 1) ((q : Int) - 126)) := (nI_eq (a := zfw (zrJ S) 2 ((q : Int) - 126)) (b := zfw (zrJ S) (2 + 1) ((q : Int) - 126)) (by have h91 := zfw_le (zrJ S) 2 ((q : Int) - 126); have h92 := zfw_le (zrJ S) (2 + 1) ((q : Int) - 126); omega) (by have h91 := zfw_le (zrJ S) 2 ((q : Int) - 126); have h92 := zfw_le (zrJ S) (2 + 1) ((q : Int) - 126); omega)).mp c54_5
              have hfe : (zfw (zrJ S) 2 t9 = zfw (zrJ S) (2 + 1) t9) := by have h9 := c54_5; rwa [← htq] at h9
              refine lv_iinc (v := (nI 2 - nI 1)) (lv' := [(4, .int ((nI 2 - nI 1))), (0, .ref h), (1, .int ov), (2, .int (nI A)), (3, .int (nI q))]) hx hb dX5_leastSet_77 hl (k := 4) rfl (by decide) (by decide) rfl (fun ls hl => ?_)
              refine lv_goto (tgt := 18) hx hb dX5_leastSet_80 (by decide) ?_
              exact ih_18   2 A t9 ((nI q)) (by omega) (by omega) hsm (by rw [← hA9, zls_e hfe]) (by obtain ⟨x, hx9⟩ := hd; exact ⟨2 * x, by rw [hx9, ← Nat.mul_assoc, ← Nat.pow_succ]⟩) (by rw [hfe]; exact hl9) ls (lv_sub hl [1, 2, 3, 4, 0] rfl)
            · have c54_5 : ¬ ((zfw (zrJ S) 2 ((q : Int) - 126)) = (zfw (zrJ S) (2 + 1) ((q : Int) - 126))) := fun h9 => c54_5 ((nI_eq (a := zfw (zrJ S) 2 ((q : Int) - 126)) (b := zfw (zrJ S) (2 + 1) ((q : Int) - 126)) (by have h91 := zfw_le (zrJ S) 2 ((q : Int) - 126); have h92 := zfw_le (zrJ S) (2 + 1) ((q : Int) - 126); omega) (by have h91 := zfw_le (zrJ S) 2 ((q : Int) - 126); have h92 := zfw_le (zrJ S) (2 + 1) ((q : Int) - 126); omega)).mpr h9)
              have hfe : ¬ (zfw (zrJ S) 2 t9 = zfw (zrJ S) (2 + 1) t9) := by have h9 := c54_5; rwa [← htq] at h9
              refine lv_iload_n hx hb dX5_leastSet_57 rfl (lv_at hl 2 rfl) ?_
              refine lv_iconst (v := nI 1) hx hb dX5_leastSet_58 (by decide) ?_
              refine lv_iload hx hb dX5_leastSet_59 (lv_at hl 4 rfl) ?_
              refine lv_ishl hx hb dX5_leastSet_61 ?_
              refine lv_ior hx hb dX5_leastSet_62 ?_
              refine zrw (hd.elim fun x hx9 => nI_orp (k := 2) (by decide) hx9) ?_
              refine lv_istore_n (lv' := [(2, .int (nI (A + 2 ^ 2))), (0, .ref h), (1, .int ov), (3, .int (nI q)), (4, .int (nI 2))]) hx hb dX5_leastSet_63 rfl hl (by decide) rfl (fun ls hl => ?_)
              refine lv_iload_n hx hb dX5_leastSet_64 rfl (lv_at hl 3 rfl) ?_
              refine lv_aload_n hx hb dX5_leastSet_65 rfl (lv_at hl 1 rfl) ?_
              refine va_get (ci := 5) (v := .ref hS9) (C := RX5) (T := TX5) (N := 9) hx hb hts hin5 hown hK hP 0 rfl rfl 0 (by decide) (hts (.fieldLink RX5 12 "UpAllRound" "now" "LUpAllRound$Stair;") (List.mem_of_getElem? (i := 1) rfl)) (fun _ h9 => h9) hU0 dX5_leastSet_66 ?_
              refine va_getN (ci := 3) (v := .ref hr9) (C := RX3) (T := TX3) (N := 16) hx hb hts hin3 hown hK hP 1 rfl rfl 1 (by decide) (va_Nw.use rfl (hN (.fieldLinkNest "UpAllRound" 78 "UpAllRound$Stair" "rises" "[I" "UpAllRound") (List.mem_of_getElem? (i := 1) rfl))) (fun _ h9 => h9) hft1 dX5_leastSet_69 ?_
              refine lv_iload hx hb dX5_leastSet_72 (lv_at hl 4 rfl) ?_
              refine zald (t := 2) hx hb hK hP 2 rfl (by omega) (by decide) dX5_leastSet_74 ?_
              refine zrw rfl ?_
              refine lv_isub hx hb dX5_leastSet_75 ?_
              refine lv_topi (fun sm2 esm2 => ?_)
              refine lv_istore_n (lv' := [(3, .int sm2), (2, .int (nI (A + 2 ^ 2))), (0, .ref h), (1, .int ov), (4, .int (nI 2))]) hx hb dX5_leastSet_76 rfl hl (by decide) rfl (fun ls hl => ?_)
              refine lv_iinc (v := (nI 2 - nI 1)) (lv' := [(4, .int ((nI 2 - nI 1))), (3, .int sm2), (2, .int (nI (A + 2 ^ 2))), (0, .ref h), (1, .int ov)]) hx hb dX5_leastSet_77 hl (k := 4) rfl (by decide) (by decide) rfl (fun ls hl => ?_)
              refine lv_goto (tgt := 18) hx hb dX5_leastSet_80 (by decide) ?_
              exact ih_18   2 ((A + 2 ^ 2)) ((t9 - zrJ S 2)) sm2 (by omega) (by omega) (zsq (hri 2 (by decide)) (by omega) esm2 hsm) (by rw [← hA9, zls_n hfe]; omega) (by obtain ⟨x, hx9⟩ := hd; exact ⟨2 * x + 1, by rw [hx9, Nat.mul_add, ← Nat.mul_assoc, ← Nat.pow_succ, Nat.mul_one]⟩) (zfw_l1 hl9 hfe) ls (lv_sub hl [3, 4, 2, 1, 0] rfl)
          · subst h9
            refine lv_aload_n hx hb dX5_leastSet_34 rfl (lv_at hl 0 rfl) ?_
            refine va_get (ci := 5) (v := .ref hF9) (C := RX5) (T := TX5) (N := 9) hx hb hts hin5 hown hK hP 0 rfl rfl 6 (by decide) (hts (.fieldLink RX5 45 "UpAllRound" "fewest" "[[I") (List.mem_of_getElem? (i := 2) rfl)) (fun _ h9 => h9) hU6 dX5_leastSet_35 ?_
            refine lv_iload hx hb dX5_leastSet_38 (lv_at hl 4 rfl) ?_
            refine zaldq (t := 3) (x := q3) hx hb hK hP 3 rfl (by decide) (by decide) rfl dX5_leastSet_40 ?_
            refine lv_iload_n hx hb dX5_leastSet_41 rfl (lv_at hl 3 rfl) ?_
            refine zald (t := q) hx hb hK hP 7 rfl (by omega) (by decide) dX5_leastSet_42 ?_
            refine zrw (hF 3 (by omega) q (by omega)) ?_
            refine lv_aload_n hx hb dX5_leastSet_43 rfl (lv_at hl 0 rfl) ?_
            refine va_get (ci := 5) (v := .ref hF9) (C := RX5) (T := TX5) (N := 9) hx hb hts hin5 hown hK hP 0 rfl rfl 6 (by decide) (hts (.fieldLink RX5 45 "UpAllRound" "fewest" "[[I") (List.mem_of_getElem? (i := 2) rfl)) (fun _ h9 => h9) hU6 dX5_leastSet_44 ?_
            refine lv_iload hx hb dX5_leastSet_47 (lv_at hl 4 rfl) ?_
            refine lv_iconst (v := nI 1) hx hb dX5_leastSet_49 (by decide) ?_
            refine lv_iadd hx hb dX5_leastSet_50 ?_
            refine zrw (nI_add _ _) ?_
            refine zaldq (t := 4) (x := q4) hx hb hK hP 3 rfl (by decide) (by decide) rfl dX5_leastSet_51 ?_
            refine lv_iload_n hx hb dX5_leastSet_52 rfl (lv_at hl 3 rfl) ?_
            refine zald (t := q) hx hb hK hP 8 rfl (by omega) (by decide) dX5_leastSet_53 ?_
            refine zrw (hF (3 + 1) (by omega) q (by omega)) ?_
            refine lv_icmp_eq (tgt := 77) hx hb dX5_leastSet_54 (by decide) (fun c54_6 => ?_) (fun c54_6 => ?_)
            · have c54_6 : (zfw (zrJ S) 3 ((q : Int) - 126)) = (zfw (zrJ S) (3 + 1) ((q : Int) - 126)) := (nI_eq (a := zfw (zrJ S) 3 ((q : Int) - 126)) (b := zfw (zrJ S) (3 + 1) ((q : Int) - 126)) (by have h91 := zfw_le (zrJ S) 3 ((q : Int) - 126); have h92 := zfw_le (zrJ S) (3 + 1) ((q : Int) - 126); omega) (by have h91 := zfw_le (zrJ S) 3 ((q : Int) - 126); have h92 := zfw_le (zrJ S) (3 + 1) ((q : Int) - 126); omega)).mp c54_6
              have hfe : (zfw (zrJ S) 3 t9 = zfw (zrJ S) (3 + 1) t9) := by have h9 := c54_6; rwa [← htq] at h9
              refine lv_iinc (v := (nI 3 - nI 1)) (lv' := [(4, .int ((nI 3 - nI 1))), (0, .ref h), (1, .int ov), (2, .int (nI A)), (3, .int (nI q))]) hx hb dX5_leastSet_77 hl (k := 4) rfl (by decide) (by decide) rfl (fun ls hl => ?_)
              refine lv_goto (tgt := 18) hx hb dX5_leastSet_80 (by decide) ?_
              exact ih_18   3 A t9 ((nI q)) (by omega) (by omega) hsm (by rw [← hA9, zls_e hfe]) (by obtain ⟨x, hx9⟩ := hd; exact ⟨2 * x, by rw [hx9, ← Nat.mul_assoc, ← Nat.pow_succ]⟩) (by rw [hfe]; exact hl9) ls (lv_sub hl [1, 2, 3, 4, 0] rfl)
            · have c54_6 : ¬ ((zfw (zrJ S) 3 ((q : Int) - 126)) = (zfw (zrJ S) (3 + 1) ((q : Int) - 126))) := fun h9 => c54_6 ((nI_eq (a := zfw (zrJ S) 3 ((q : Int) - 126)) (b := zfw (zrJ S) (3 + 1) ((q : Int) - 126)) (by have h91 := zfw_le (zrJ S) 3 ((q : Int) - 126); have h92 := zfw_le (zrJ S) (3 + 1) ((q : Int) - 126); omega) (by have h91 := zfw_le (zrJ S) 3 ((q : Int) - 126); have h92 := zfw_le (zrJ S) (3 + 1) ((q : Int) - 126); omega)).mpr h9)
              have hfe : ¬ (zfw (zrJ S) 3 t9 = zfw (zrJ S) (3 + 1) t9) := by have h9 := c54_6; rwa [← htq] at h9
              refine lv_iload_n hx hb dX5_leastSet_57 rfl (lv_at hl 2 rfl) ?_
              refine lv_iconst (v := nI 1) hx hb dX5_leastSet_58 (by decide) ?_
              refine lv_iload hx hb dX5_leastSet_59 (lv_at hl 4 rfl) ?_
              refine lv_ishl hx hb dX5_leastSet_61 ?_
              refine lv_ior hx hb dX5_leastSet_62 ?_
              refine zrw (hd.elim fun x hx9 => nI_orp (k := 3) (by decide) hx9) ?_
              refine lv_istore_n (lv' := [(2, .int (nI (A + 2 ^ 3))), (0, .ref h), (1, .int ov), (3, .int (nI q)), (4, .int (nI 3))]) hx hb dX5_leastSet_63 rfl hl (by decide) rfl (fun ls hl => ?_)
              refine lv_iload_n hx hb dX5_leastSet_64 rfl (lv_at hl 3 rfl) ?_
              refine lv_aload_n hx hb dX5_leastSet_65 rfl (lv_at hl 1 rfl) ?_
              refine va_get (ci := 5) (v := .ref hS9) (C := RX5) (T := TX5) (N := 9) hx hb hts hin5 hown hK hP 0 rfl rfl 0 (by decide) (hts (.fieldLink RX5 12 "UpAllRound" "now" "LUpAllRound$Stair;") (List.mem_of_getElem? (i := 1) rfl)) (fun _ h9 => h9) hU0 dX5_leastSet_66 ?_
              refine va_getN (ci := 3) (v := .ref hr9) (C := RX3) (T := TX3) (N := 16) hx hb hts hin3 hown hK hP 1 rfl rfl 1 (by decide) (va_Nw.use rfl (hN (.fieldLinkNest "UpAllRound" 78 "UpAllRound$Stair" "rises" "[I" "UpAllRound") (List.mem_of_getElem? (i := 1) rfl))) (fun _ h9 => h9) hft1 dX5_leastSet_69 ?_
              refine lv_iload hx hb dX5_leastSet_72 (lv_at hl 4 rfl) ?_
              refine zald (t := 3) hx hb hK hP 2 rfl (by omega) (by decide) dX5_leastSet_74 ?_
              refine zrw rfl ?_
              refine lv_isub hx hb dX5_leastSet_75 ?_
              refine lv_topi (fun sm2 esm2 => ?_)
              refine lv_istore_n (lv' := [(3, .int sm2), (2, .int (nI (A + 2 ^ 3))), (0, .ref h), (1, .int ov), (4, .int (nI 3))]) hx hb dX5_leastSet_76 rfl hl (by decide) rfl (fun ls hl => ?_)
              refine lv_iinc (v := (nI 3 - nI 1)) (lv' := [(4, .int ((nI 3 - nI 1))), (3, .int sm2), (2, .int (nI (A + 2 ^ 3))), (0, .ref h), (1, .int ov)]) hx hb dX5_leastSet_77 hl (k := 4) rfl (by decide) (by decide) rfl (fun ls hl => ?_)
              refine lv_goto (tgt := 18) hx hb dX5_leastSet_80 (by decide) ?_
              exact ih_18   3 ((A + 2 ^ 3)) ((t9 - zrJ S 3)) sm2 (by omega) (by omega) (zsq (hri 3 (by decide)) (by omega) esm2 hsm) (by rw [← hA9, zls_n hfe]; omega) (by obtain ⟨x, hx9⟩ := hd; exact ⟨2 * x + 1, by rw [hx9, Nat.mul_add, ← Nat.mul_assoc, ← Nat.pow_succ, Nat.mul_one]⟩) (zfw_l1 hl9 hfe) ls (lv_sub hl [3, 4, 2, 1, 0] rfl)
          · subst h9
            refine lv_aload_n hx hb dX5_leastSet_34 rfl (lv_at hl 0 rfl) ?_
            refine va_get (ci := 5) (v := .ref hF9) (C := RX5) (T := TX5) (N := 9) hx hb hts hin5 hown hK hP 0 rfl rfl 6 (by decide) (hts (.fieldLink RX5 45 "UpAllRound" "fewest" "[[I") (List.mem_of_getElem? (i := 2) rfl)) (fun _ h9 => h9) hU6 dX5_leastSet_35 ?_
            refine lv_iload hx hb dX5_leastSet_38 (lv_at hl 4 rfl) ?_
            refine zaldq (t := 4) (x := q4) hx hb hK hP 3 rfl (by decide) (by decide) rfl dX5_leastSet_40 ?_
            refine lv_iload_n hx hb dX5_leastSet_41 rfl (lv_at hl 3 rfl) ?_
            refine zald (t := q) hx hb hK hP 8 rfl (by omega) (by decide) dX5_leastSet_42 ?_
            refine zrw (hF 4 (by omega) q (by omega)) ?_
            refine lv_aload_n hx hb dX5_leastSet_43 rfl (lv_at hl 0 rfl) ?_
            refine va_get (ci := 5) (v := .ref hF9) (C := RX5) (T := TX5) (N := 9) hx hb hts hin5 hown hK hP 0 rfl rfl 6 (by decide) (hts (.fieldLink RX5 45 "UpAllRound" "fewest" "[[I") (List.mem_of_getElem? (i := 2) rfl)) (fun _ h9 => h9) hU6 dX5_leastSet_44 ?_
            refine lv_iload hx hb dX5_leastSet_47 (lv_at hl 4 rfl) ?_
            refine lv_iconst (v := nI 1) hx hb dX5_leastSet_49 (by decide) ?_
            refine lv_iadd hx hb dX5_leastSet_50 ?_
            refine zrw (nI_add _ _) ?_
            refine zaldq (t := 5) (x := q5) hx hb hK hP 3 rfl (by decide) (by decide) rfl dX5_leastSet_51 ?_
            refine lv_iload_n hx hb dX5_leastSet_52 rfl (lv_at hl 3 rfl) ?_
            refine zald (t := q) hx hb hK hP 9 rfl (by omega) (by decide) dX5_leastSet_53 ?_
            refine zrw (hF (4 + 1) (by omega) q (by omega)) ?_
            refine lv_icmp_eq (tgt := 77) hx hb dX5_leastSet_54 (by decide) (fun c54_7 => ?_) (fun c54_7 => ?_)
            · have c54_7 : (zfw (zrJ S) 4 ((q : Int) - 126)) = (zfw (zrJ S) (4 + 1) ((q : Int) - 126)) := (nI_eq (a := zfw (zrJ S) 4 ((q : Int) - 126)) (b := zfw (zrJ S) (4 + 1) ((q : Int) - 126)) (by have h91 := zfw_le (zrJ S) 4 ((q : Int) - 126); have h92 := zfw_le (zrJ S) (4 + 1) ((q : Int) - 126); omega) (by have h91 := zfw_le (zrJ S) 4 ((q : Int) - 126); have h92 := zfw_le (zrJ S) (4 + 1) ((q : Int) - 126); omega)).mp c54_7
              have hfe : (zfw (zrJ S) 4 t9 = zfw (zrJ S) (4 + 1) t9) := by have h9 := c54_7; rwa [← htq] at h9
              refine lv_iinc (v := (nI 4 - nI 1)) (lv' := [(4, .int ((nI 4 - nI 1))), (0, .ref h), (1, .int ov), (2, .int (nI A)), (3, .int (nI q))]) hx hb dX5_leastSet_77 hl (k := 4) rfl (by decide) (by decide) rfl (fun ls hl => ?_)
              refine lv_goto (tgt := 18) hx hb dX5_leastSet_80 (by decide) ?_
              exact ih_18   4 A t9 ((nI q)) (by omega) (by omega) hsm (by rw [← hA9, zls_e hfe]) (by obtain ⟨x, hx9⟩ := hd; exact ⟨2 * x, by rw [hx9, ← Nat.mul_assoc, ← Nat.pow_succ]⟩) (by rw [hfe]; exact hl9) ls (lv_sub hl [1, 2, 3, 4, 0] rfl)
            · have c54_7 : ¬ ((zfw (zrJ S) 4 ((q : Int) - 126)) = (zfw (zrJ S) (4 + 1) ((q : Int) - 126))) := fun h9 => c54_7 ((nI_eq (a := zfw (zrJ S) 4 ((q : Int) - 126)) (b := zfw (zrJ S) (4 + 1) ((q : Int) - 126)) (by have h91 := zfw_le (zrJ S) 4 ((q : Int) - 126); have h92 := zfw_le (zrJ S) (4 + 1) ((q : Int) - 126); omega) (by have h91 := zfw_le (zrJ S) 4 ((q : Int) - 126); have h92 := zfw_le (zrJ S) (4 + 1) ((q : Int) - 126); omega)).mpr h9)
              have hfe : ¬ (zfw (zrJ S) 4 t9 = zfw (zrJ S) (4 + 1) t9) := by have h9 := c54_7; rwa [← htq] at h9
              refine lv_iload_n hx hb dX5_leastSet_57 rfl (lv_at hl 2 rfl) ?_
              refine lv_iconst (v := nI 1) hx hb dX5_leastSet_58 (by decide) ?_
              refine lv_iload hx hb dX5_leastSet_59 (lv_at hl 4 rfl) ?_
              refine lv_ishl hx hb dX5_leastSet_61 ?_
              refine lv_ior hx hb dX5_leastSet_62 ?_
              refine zrw (hd.elim fun x hx9 => nI_orp (k := 4) (by decide) hx9) ?_
              refine lv_istore_n (lv' := [(2, .int (nI (A + 2 ^ 4))), (0, .ref h), (1, .int ov), (3, .int (nI q)), (4, .int (nI 4))]) hx hb dX5_leastSet_63 rfl hl (by decide) rfl (fun ls hl => ?_)
              refine lv_iload_n hx hb dX5_leastSet_64 rfl (lv_at hl 3 rfl) ?_
              refine lv_aload_n hx hb dX5_leastSet_65 rfl (lv_at hl 1 rfl) ?_
              refine va_get (ci := 5) (v := .ref hS9) (C := RX5) (T := TX5) (N := 9) hx hb hts hin5 hown hK hP 0 rfl rfl 0 (by decide) (hts (.fieldLink RX5 12 "UpAllRound" "now" "LUpAllRound$Stair;") (List.mem_of_getElem? (i := 1) rfl)) (fun _ h9 => h9) hU0 dX5_leastSet_66 ?_
              refine va_getN (ci := 3) (v := .ref hr9) (C := RX3) (T := TX3) (N := 16) hx hb hts hin3 hown hK hP 1 rfl rfl 1 (by decide) (va_Nw.use rfl (hN (.fieldLinkNest "UpAllRound" 78 "UpAllRound$Stair" "rises" "[I" "UpAllRound") (List.mem_of_getElem? (i := 1) rfl))) (fun _ h9 => h9) hft1 dX5_leastSet_69 ?_
              refine lv_iload hx hb dX5_leastSet_72 (lv_at hl 4 rfl) ?_
              refine zald (t := 4) hx hb hK hP 2 rfl (by omega) (by decide) dX5_leastSet_74 ?_
              refine zrw rfl ?_
              refine lv_isub hx hb dX5_leastSet_75 ?_
              refine lv_topi (fun sm2 esm2 => ?_)
              refine lv_istore_n (lv' := [(3, .int sm2), (2, .int (nI (A + 2 ^ 4))), (0, .ref h), (1, .int ov), (4, .int (nI 4))]) hx hb dX5_leastSet_76 rfl hl (by decide) rfl (fun ls hl => ?_)
              refine lv_iinc (v := (nI 4 - nI 1)) (lv' := [(4, .int ((nI 4 - nI 1))), (3, .int sm2), (2, .int (nI (A + 2 ^ 4))), (0, .ref h), (1, .int ov)]) hx hb dX5_leastSet_77 hl (k := 4) rfl (by decide) (by decide) rfl (fun ls hl => ?_)
              refine lv_goto (tgt := 18) hx hb dX5_leastSet_80 (by decide) ?_
              exact ih_18   4 ((A + 2 ^ 4)) ((t9 - zrJ S 4)) sm2 (by omega) (by omega) (zsq (hri 4 (by decide)) (by omega) esm2 hsm) (by rw [← hA9, zls_n hfe]; omega) (by obtain ⟨x, hx9⟩ := hd; exact ⟨2 * x + 1, by rw [hx9, Nat.mul_add, ← Nat.mul_assoc, ← Nat.pow_succ, Nat.mul_one]⟩) (zfw_l1 hl9 hfe) ls (lv_sub hl [3, 4, 2, 1, 0] rfl)
          · subst h9
            refine lv_aload_n hx hb dX5_leastSet_34 rfl (lv_at hl 0 rfl) ?_
            refine va_get (ci := 5) (v := .ref hF9) (C := RX5) (T := TX5) (N := 9) hx hb hts hin5 hown hK hP 0 rfl rfl 6 (by decide) (hts (.fieldLink RX5 45 "UpAllRound" "fewest" "[[I") (List.mem_of_getElem? (i := 2) rfl)) (fun _ h9 => h9) hU6 dX5_leastSet_35 ?_
            refine lv_iload hx hb dX5_leastSet_38 (lv_at hl 4 rfl) ?_
            refine zaldq (t := 5) (x := q5) hx hb hK hP 3 rfl (by decide) (by decide) rfl dX5_leastSet_40 ?_
            refine lv_iload_n hx hb dX5_leastSet_41 rfl (lv_at hl 3 rfl) ?_
            refine zald (t := q) hx hb hK hP 9 rfl (by omega) (by decide) dX5_leastSet_42 ?_
            refine zrw (hF 5 (by omega) q (by omega)) ?_
            refine lv_aload_n hx hb dX5_leastSet_43 rfl (lv_at hl 0 rfl) ?_
            refine va_get (ci := 5) (v := .ref hF9) (C := RX5) (T := TX5) (N := 9) hx hb hts hin5 hown hK hP 0 rfl rfl 6 (by decide) (hts (.fieldLink RX5 45 "UpAllRound" "fewest" "[[I") (List.mem_of_getElem? (i := 2) rfl)) (fun _ h9 => h9) hU6 dX5_leastSet_44 ?_
            refine lv_iload hx hb dX5_leastSet_47 (lv_at hl 4 rfl) ?_
            refine lv_iconst (v := nI 1) hx hb dX5_leastSet_49 (by decide) ?_
            refine lv_iadd hx hb dX5_leastSet_50 ?_
            refine zrw (nI_add _ _) ?_
            refine zaldq (t := 6) (x := q6) hx hb hK hP 3 rfl (by decide) (by decide) rfl dX5_leastSet_51 ?_
            refine lv_iload_n hx hb dX5_leastSet_52 rfl (lv_at hl 3 rfl) ?_
            refine zald (t := q) hx hb hK hP 10 rfl (by omega) (by decide) dX5_leastSet_53 ?_
            refine zrw (hF (5 + 1) (by omega) q (by omega)) ?_
            refine lv_icmp_eq (tgt := 77) hx hb dX5_leastSet_54 (by decide) (fun c54_8 => ?_) (fun c54_8 => ?_)
            · have c54_8 : (zfw (zrJ S) 5 ((q : Int) - 126)) = (zfw (zrJ S) (5 + 1) ((q : Int) - 126)) := (nI_eq (a := zfw (zrJ S) 5 ((q : Int) - 126)) (b := zfw (zrJ S) (5 + 1) ((q : Int) - 126)) (by have h91 := zfw_le (zrJ S) 5 ((q : Int) - 126); have h92 := zfw_le (zrJ S) (5 + 1) ((q : Int) - 126); omega) (by have h91 := zfw_le (zrJ S) 5 ((q : Int) - 126); have h92 := zfw_le (zrJ S) (5 + 1) ((q : Int) - 126); omega)).mp c54_8
              have hfe : (zfw (zrJ S) 5 t9 = zfw (zrJ S) (5 + 1) t9) := by have h9 := c54_8; rwa [← htq] at h9
              refine lv_iinc (v := (nI 5 - nI 1)) (lv' := [(4, .int ((nI 5 - nI 1))), (0, .ref h), (1, .int ov), (2, .int (nI A)), (3, .int (nI q))]) hx hb dX5_leastSet_77 hl (k := 4) rfl (by decide) (by decide) rfl (fun ls hl => ?_)
              refine lv_goto (tgt := 18) hx hb dX5_leastSet_80 (by decide) ?_
              exact ih_18   5 A t9 ((nI q)) (by omega) (by omega) hsm (by rw [← hA9, zls_e hfe]) (by obtain ⟨x, hx9⟩ := hd; exact ⟨2 * x, by rw [hx9, ← Nat.mul_assoc, ← Nat.pow_succ]⟩) (by rw [hfe]; exact hl9) ls (lv_sub hl [1, 2, 3, 4, 0] rfl)
            · have c54_8 : ¬ ((zfw (zrJ S) 5 ((q : Int) - 126)) = (zfw (zrJ S) (5 + 1) ((q : Int) - 126))) := fun h9 => c54_8 ((nI_eq (a := zfw (zrJ S) 5 ((q : Int) - 126)) (b := zfw (zrJ S) (5 + 1) ((q : Int) - 126)) (by have h91 := zfw_le (zrJ S) 5 ((q : Int) - 126); have h92 := zfw_le (zrJ S) (5 + 1) ((q : Int) - 126); omega) (by have h91 := zfw_le (zrJ S) 5 ((q : Int) - 126); have h92 := zfw_le (zrJ S) (5 + 1) ((q : Int) - 126); omega)).mpr h9)
              have hfe : ¬ (zfw (zrJ S) 5 t9 = zfw (zrJ S) (5 + 1) t9) := by have h9 := c54_8; rwa [← htq] at h9
              refine lv_iload_n hx hb dX5_leastSet_57 rfl (lv_at hl 2 rfl) ?_
              refine lv_iconst (v := nI 1) hx hb dX5_leastSet_58 (by decide) ?_
              refine lv_iload hx hb dX5_leastSet_59 (lv_at hl 4 rfl) ?_
              refine lv_ishl hx hb dX5_leastSet_61 ?_
              refine lv_ior hx hb dX5_leastSet_62 ?_
              refine zrw (hd.elim fun x hx9 => nI_orp (k := 5) (by decide) hx9) ?_
              refine lv_istore_n (lv' := [(2, .int (nI (A + 2 ^ 5))), (0, .ref h), (1, .int ov), (3, .int (nI q)), (4, .int (nI 5))]) hx hb dX5_leastSet_63 rfl hl (by decide) rfl (fun ls hl => ?_)
              refine lv_iload_n hx hb dX5_leastSet_64 rfl (lv_at hl 3 rfl) ?_
              refine lv_aload_n hx hb dX5_leastSet_65 rfl (lv_at hl 1 rfl) ?_
              refine va_get (ci := 5) (v := .ref hS9) (C := RX5) (T := TX5) (N := 9) hx hb hts hin5 hown hK hP 0 rfl rfl 0 (by decide) (hts (.fieldLink RX5 12 "UpAllRound" "now" "LUpAllRound$Stair;") (List.mem_of_getElem? (i := 1) rfl)) (fun _ h9 => h9) hU0 dX5_leastSet_66 ?_
              refine va_getN (ci := 3) (v := .ref hr9) (C := RX3) (T := TX3) (N := 16) hx hb hts hin3 hown hK hP 1 rfl rfl 1 (by decide) (va_Nw.use rfl (hN (.fieldLinkNest "UpAllRound" 78 "UpAllRound$Stair" "rises" "[I" "UpAllRound") (List.mem_of_getElem? (i := 1) rfl))) (fun _ h9 => h9) hft1 dX5_leastSet_69 ?_
              refine lv_iload hx hb dX5_leastSet_72 (lv_at hl 4 rfl) ?_
              refine zald (t := 5) hx hb hK hP 2 rfl (by omega) (by decide) dX5_leastSet_74 ?_
              refine zrw rfl ?_
              refine lv_isub hx hb dX5_leastSet_75 ?_
              refine lv_topi (fun sm2 esm2 => ?_)
              refine lv_istore_n (lv' := [(3, .int sm2), (2, .int (nI (A + 2 ^ 5))), (0, .ref h), (1, .int ov), (4, .int (nI 5))]) hx hb dX5_leastSet_76 rfl hl (by decide) rfl (fun ls hl => ?_)
              refine lv_iinc (v := (nI 5 - nI 1)) (lv' := [(4, .int ((nI 5 - nI 1))), (3, .int sm2), (2, .int (nI (A + 2 ^ 5))), (0, .ref h), (1, .int ov)]) hx hb dX5_leastSet_77 hl (k := 4) rfl (by decide) (by decide) rfl (fun ls hl => ?_)
              refine lv_goto (tgt := 18) hx hb dX5_leastSet_80 (by decide) ?_
              exact ih_18   5 ((A + 2 ^ 5)) ((t9 - zrJ S 5)) sm2 (by omega) (by omega) (zsq (hri 5 (by decide)) (by omega) esm2 hsm) (by rw [← hA9, zls_n hfe]; omega) (by obtain ⟨x, hx9⟩ := hd; exact ⟨2 * x + 1, by rw [hx9, Nat.mul_add, ← Nat.mul_assoc, ← Nat.pow_succ, Nat.mul_one]⟩) (zfw_l1 hl9 hfe) ls (lv_sub hl [3, 4, 2, 1, 0] rfl)
          · subst h9
            refine lv_aload_n hx hb dX5_leastSet_34 rfl (lv_at hl 0 rfl) ?_
            refine va_get (ci := 5) (v := .ref hF9) (C := RX5) (T := TX5) (N := 9) hx hb hts hin5 hown hK hP 0 rfl rfl 6 (by decide) (hts (.fieldLink RX5 45 "UpAllRound" "fewest" "[[I") (List.mem_of_getElem? (i := 2) rfl)) (fun _ h9 => h9) hU6 dX5_leastSet_35 ?_
            refine lv_iload hx hb dX5_leastSet_38 (lv_at hl 4 rfl) ?_
            refine zaldq (t := 6) (x := q6) hx hb hK hP 3 rfl (by decide) (by decide) rfl dX5_leastSet_40 ?_
            refine lv_iload_n hx hb dX5_leastSet_41 rfl (lv_at hl 3 rfl) ?_
            refine zald (t := q) hx hb hK hP 10 rfl (by omega) (by decide) dX5_leastSet_42 ?_
            refine zrw (hF 6 (by omega) q (by omega)) ?_
            refine lv_aload_n hx hb dX5_leastSet_43 rfl (lv_at hl 0 rfl) ?_
            refine va_get (ci := 5) (v := .ref hF9) (C := RX5) (T := TX5) (N := 9) hx hb hts hin5 hown hK hP 0 rfl rfl 6 (by decide) (hts (.fieldLink RX5 45 "UpAllRound" "fewest" "[[I") (List.mem_of_getElem? (i := 2) rfl)) (fun _ h9 => h9) hU6 dX5_leastSet_44 ?_
            refine lv_iload hx hb dX5_leastSet_47 (lv_at hl 4 rfl) ?_
            refine lv_iconst (v := nI 1) hx hb dX5_leastSet_49 (by decide) ?_
            refine lv_iadd hx hb dX5_leastSet_50 ?_
            refine zrw (nI_add _ _) ?_
            refine zaldq (t := 7) (x := q7) hx hb hK hP 3 rfl (by decide) (by decide) rfl dX5_leastSet_51 ?_
            refine lv_iload_n hx hb dX5_leastSet_52 rfl (lv_at hl 3 rfl) ?_
            refine zald (t := q) hx hb hK hP 11 rfl (by omega) (by decide) dX5_leastSet_53 ?_
            refine zrw (hF (6 + 1) (by omega) q (by omega)) ?_
            refine lv_icmp_eq (tgt := 77) hx hb dX5_leastSet_54 (by decide) (fun c54_9 => ?_) (fun c54_9 => ?_)
            · have c54_9 : (zfw (zrJ S) 6 ((q : Int) - 126)) = (zfw (zrJ S) (6 + 1) ((q : Int) - 126)) := (nI_eq (a := zfw (zrJ S) 6 ((q : Int) - 126)) (b := zfw (zrJ S) (6 + 1) ((q : Int) - 126)) (by have h91 := zfw_le (zrJ S) 6 ((q : Int) - 126); have h92 := zfw_le (zrJ S) (6 + 1) ((q : Int) - 126); omega) (by have h91 := zfw_le (zrJ S) 6 ((q : Int) - 126); have h92 := zfw_le (zrJ S) (6 + 1) ((q : Int) - 126); omega)).mp c54_9
              have hfe : (zfw (zrJ S) 6 t9 = zfw (zrJ S) (6 + 1) t9) := by have h9 := c54_9; rwa [← htq] at h9
              refine lv_iinc (v := (nI 6 - nI 1)) (lv' := [(4, .int ((nI 6 - nI 1))), (0, .ref h), (1, .int ov), (2, .int (nI A)), (3, .int (nI q))]) hx hb dX5_leastSet_77 hl (k := 4) rfl (by decide) (by decide) rfl (fun ls hl => ?_)
              refine lv_goto (tgt := 18) hx hb dX5_leastSet_80 (by decide) ?_
              exact ih_18   6 A t9 ((nI q)) (by omega) (by omega) hsm (by rw [← hA9, zls_e hfe]) (by obtain ⟨x, hx9⟩ := hd; exact ⟨2 * x, by rw [hx9, ← Nat.mul_assoc, ← Nat.pow_succ]⟩) (by rw [hfe]; exact hl9) ls (lv_sub hl [1, 2, 3, 4, 0] rfl)
            · have c54_9 : ¬ ((zfw (zrJ S) 6 ((q : Int) - 126)) = (zfw (zrJ S) (6 + 1) ((q : Int) - 126))) := fun h9 => c54_9 ((nI_eq (a := zfw (zrJ S) 6 ((q : Int) - 126)) (b := zfw (zrJ S) (6 + 1) ((q : Int) - 126)) (by have h91 := zfw_le (zrJ S) 6 ((q : Int) - 126); have h92 := zfw_le (zrJ S) (6 + 1) ((q : Int) - 126); omega) (by have h91 := zfw_le (zrJ S) 6 ((q : Int) - 126); have h92 := zfw_le (zrJ S) (6 + 1) ((q : Int) - 126); omega)).mpr h9)
              have hfe : ¬ (zfw (zrJ S) 6 t9 = zfw (zrJ S) (6 + 1) t9) := by have h9 := c54_9; rwa [← htq] at h9
              refine lv_iload_n hx hb dX5_leastSet_57 rfl (lv_at hl 2 rfl) ?_
              refine lv_iconst (v := nI 1) hx hb dX5_leastSet_58 (by decide) ?_
              refine lv_iload hx hb dX5_leastSet_59 (lv_at hl 4 rfl) ?_
              refine lv_ishl hx hb dX5_leastSet_61 ?_
              refine lv_ior hx hb dX5_leastSet_62 ?_
              refine zrw (hd.elim fun x hx9 => nI_orp (k := 6) (by decide) hx9) ?_
              refine lv_istore_n (lv' := [(2, .int (nI (A + 2 ^ 6))), (0, .ref h), (1, .int ov), (3, .int (nI q)), (4, .int (nI 6))]) hx hb dX5_leastSet_63 rfl hl (by decide) rfl (fun ls hl => ?_)
              refine lv_iload_n hx hb dX5_leastSet_64 rfl (lv_at hl 3 rfl) ?_
              refine lv_aload_n hx hb dX5_leastSet_65 rfl (lv_at hl 1 rfl) ?_
              refine va_get (ci := 5) (v := .ref hS9) (C := RX5) (T := TX5) (N := 9) hx hb hts hin5 hown hK hP 0 rfl rfl 0 (by decide) (hts (.fieldLink RX5 12 "UpAllRound" "now" "LUpAllRound$Stair;") (List.mem_of_getElem? (i := 1) rfl)) (fun _ h9 => h9) hU0 dX5_leastSet_66 ?_
              refine va_getN (ci := 3) (v := .ref hr9) (C := RX3) (T := TX3) (N := 16) hx hb hts hin3 hown hK hP 1 rfl rfl 1 (by decide) (va_Nw.use rfl (hN (.fieldLinkNest "UpAllRound" 78 "UpAllRound$Stair" "rises" "[I" "UpAllRound") (List.mem_of_getElem? (i := 1) rfl))) (fun _ h9 => h9) hft1 dX5_leastSet_69 ?_
              refine lv_iload hx hb dX5_leastSet_72 (lv_at hl 4 rfl) ?_
              refine zald (t := 6) hx hb hK hP 2 rfl (by omega) (by decide) dX5_leastSet_74 ?_
              refine zrw rfl ?_
              refine lv_isub hx hb dX5_leastSet_75 ?_
              refine lv_topi (fun sm2 esm2 => ?_)
              refine lv_istore_n (lv' := [(3, .int sm2), (2, .int (nI (A + 2 ^ 6))), (0, .ref h), (1, .int ov), (4, .int (nI 6))]) hx hb dX5_leastSet_76 rfl hl (by decide) rfl (fun ls hl => ?_)
              refine lv_iinc (v := (nI 6 - nI 1)) (lv' := [(4, .int ((nI 6 - nI 1))), (3, .int sm2), (2, .int (nI (A + 2 ^ 6))), (0, .ref h), (1, .int ov)]) hx hb dX5_leastSet_77 hl (k := 4) rfl (by decide) (by decide) rfl (fun ls hl => ?_)
              refine lv_goto (tgt := 18) hx hb dX5_leastSet_80 (by decide) ?_
              exact ih_18   6 ((A + 2 ^ 6)) ((t9 - zrJ S 6)) sm2 (by omega) (by omega) (zsq (hri 6 (by decide)) (by omega) esm2 hsm) (by rw [← hA9, zls_n hfe]; omega) (by obtain ⟨x, hx9⟩ := hd; exact ⟨2 * x + 1, by rw [hx9, Nat.mul_add, ← Nat.mul_assoc, ← Nat.pow_succ, Nat.mul_one]⟩) (zfw_l1 hl9 hfe) ls (lv_sub hl [3, 4, 2, 1, 0] rfl)
          · subst h9
            refine lv_aload_n hx hb dX5_leastSet_34 rfl (lv_at hl 0 rfl) ?_
            refine va_get (ci := 5) (v := .ref hF9) (C := RX5) (T := TX5) (N := 9) hx hb hts hin5 hown hK hP 0 rfl rfl 6 (by decide) (hts (.fieldLink RX5 45 "UpAllRound" "fewest" "[[I") (List.mem_of_getElem? (i := 2) rfl)) (fun _ h9 => h9) hU6 dX5_leastSet_35 ?_
            refine lv_iload hx hb dX5_leastSet_38 (lv_at hl 4 rfl) ?_
            refine zaldq (t := 7) (x := q7) hx hb hK hP 3 rfl (by decide) (by decide) rfl dX5_leastSet_40 ?_
            refine lv_iload_n hx hb dX5_leastSet_41 rfl (lv_at hl 3 rfl) ?_
            refine zald (t := q) hx hb hK hP 11 rfl (by omega) (by decide) dX5_leastSet_42 ?_
            refine zrw (hF 7 (by omega) q (by omega)) ?_
            refine lv_aload_n hx hb dX5_leastSet_43 rfl (lv_at hl 0 rfl) ?_
            refine va_get (ci := 5) (v := .ref hF9) (C := RX5) (T := TX5) (N := 9) hx hb hts hin5 hown hK hP 0 rfl rfl 6 (by decide) (hts (.fieldLink RX5 45 "UpAllRound" "fewest" "[[I") (List.mem_of_getElem? (i := 2) rfl)) (fun _ h9 => h9) hU6 dX5_leastSet_44 ?_
            refine lv_iload hx hb dX5_leastSet_47 (lv_at hl 4 rfl) ?_
            refine lv_iconst (v := nI 1) hx hb dX5_leastSet_49 (by decide) ?_
            refine lv_iadd hx hb dX5_leastSet_50 ?_
            refine zrw (nI_add _ _) ?_
            refine zaldq (t := 8) (x := q8) hx hb hK hP 3 rfl (by decide) (by decide) rfl dX5_leastSet_51 ?_
            refine lv_iload_n hx hb dX5_leastSet_52 rfl (lv_at hl 3 rfl) ?_
            refine zald (t := q) hx hb hK hP 12 rfl (by omega) (by decide) dX5_leastSet_53 ?_
            refine zrw (hF (7 + 1) (by omega) q (by omega)) ?_
            refine lv_icmp_eq (tgt := 77) hx hb dX5_leastSet_54 (by decide) (fun c54_10 => ?_) (fun c54_10 => ?_)
            · have c54_10 : (zfw (zrJ S) 7 ((q : Int) - 126)) = (zfw (zrJ S) (7 + 1) ((q : Int) - 126)) := (nI_eq (a := zfw (zrJ S) 7 ((q : Int) - 126)) (b := zfw (zrJ S) (7 + 1) ((q : Int) - 126)) (by have h91 := zfw_le (zrJ S) 7 ((q : Int) - 126); have h92 := zfw_le (zrJ S) (7 + 1) ((q : Int) - 126); omega) (by have h91 := zfw_le (zrJ S) 7 ((q : Int) - 126); have h92 := zfw_le (zrJ S) (7 + 1) ((q : Int) - 126); omega)).mp c54_10
              have hfe : (zfw (zrJ S) 7 t9 = zfw (zrJ S) (7 + 1) t9) := by have h9 := c54_10; rwa [← htq] at h9
              refine lv_iinc (v := (nI 7 - nI 1)) (lv' := [(4, .int ((nI 7 - nI 1))), (0, .ref h), (1, .int ov), (2, .int (nI A)), (3, .int (nI q))]) hx hb dX5_leastSet_77 hl (k := 4) rfl (by decide) (by decide) rfl (fun ls hl => ?_)
              refine lv_goto (tgt := 18) hx hb dX5_leastSet_80 (by decide) ?_
              exact ih_18   7 A t9 ((nI q)) (by omega) (by omega) hsm (by rw [← hA9, zls_e hfe]) (by obtain ⟨x, hx9⟩ := hd; exact ⟨2 * x, by rw [hx9, ← Nat.mul_assoc, ← Nat.pow_succ]⟩) (by rw [hfe]; exact hl9) ls (lv_sub hl [1, 2, 3, 4, 0] rfl)
            · have c54_10 : ¬ ((zfw (zrJ S) 7 ((q : Int) - 126)) = (zfw (zrJ S) (7 + 1) ((q : Int) - 126))) := fun h9 => c54_10 ((nI_eq (a := zfw (zrJ S) 7 ((q : Int) - 126)) (b := zfw (zrJ S) (7 + 1) ((q : Int) - 126)) (by have h91 := zfw_le (zrJ S) 7 ((q : Int) - 126); have h92 := zfw_le (zrJ S) (7 + 1) ((q : Int) - 126); omega) (by have h91 := zfw_le (zrJ S) 7 ((q : Int) - 126); have h92 := zfw_le (zrJ S) (7 + 1) ((q : Int) - 126); omega)).mpr h9)
              have hfe : ¬ (zfw (zrJ S) 7 t9 = zfw (zrJ S) (7 + 1) t9) := by have h9 := c54_10; rwa [← htq] at h9
              refine lv_iload_n hx hb dX5_leastSet_57 rfl (lv_at hl 2 rfl) ?_
              refine lv_iconst (v := nI 1) hx hb dX5_leastSet_58 (by decide) ?_
              refine lv_iload hx hb dX5_leastSet_59 (lv_at hl 4 rfl) ?_
              refine lv_ishl hx hb dX5_leastSet_61 ?_
              refine lv_ior hx hb dX5_leastSet_62 ?_
              refine zrw (hd.elim fun x hx9 => nI_orp (k := 7) (by decide) hx9) ?_
              refine lv_istore_n (lv' := [(2, .int (nI (A + 2 ^ 7))), (0, .ref h), (1, .int ov), (3, .int (nI q)), (4, .int (nI 7))]) hx hb dX5_leastSet_63 rfl hl (by decide) rfl (fun ls hl => ?_)
              refine lv_iload_n hx hb dX5_leastSet_64 rfl (lv_at hl 3 rfl) ?_
              refine lv_aload_n hx hb dX5_leastSet_65 rfl (lv_at hl 1 rfl) ?_
              refine va_get (ci := 5) (v := .ref hS9) (C := RX5) (T := TX5) (N := 9) hx hb hts hin5 hown hK hP 0 rfl rfl 0 (by decide) (hts (.fieldLink RX5 12 "UpAllRound" "now" "LUpAllRound$Stair;") (List.mem_of_getElem? (i := 1) rfl)) (fun _ h9 => h9) hU0 dX5_leastSet_66 ?_
              refine va_getN (ci := 3) (v := .ref hr9) (C := RX3) (T := TX3) (N := 16) hx hb hts hin3 hown hK hP 1 rfl rfl 1 (by decide) (va_Nw.use rfl (hN (.fieldLinkNest "UpAllRound" 78 "UpAllRound$Stair" "rises" "[I" "UpAllRound") (List.mem_of_getElem? (i := 1) rfl))) (fun _ h9 => h9) hft1 dX5_leastSet_69 ?_
              refine lv_iload hx hb dX5_leastSet_72 (lv_at hl 4 rfl) ?_
              refine zald (t := 7) hx hb hK hP 2 rfl (by omega) (by decide) dX5_leastSet_74 ?_
              refine zrw rfl ?_
              refine lv_isub hx hb dX5_leastSet_75 ?_
              refine lv_topi (fun sm2 esm2 => ?_)
              refine lv_istore_n (lv' := [(3, .int sm2), (2, .int (nI (A + 2 ^ 7))), (0, .ref h), (1, .int ov), (4, .int (nI 7))]) hx hb dX5_leastSet_76 rfl hl (by decide) rfl (fun ls hl => ?_)
              refine lv_iinc (v := (nI 7 - nI 1)) (lv' := [(4, .int ((nI 7 - nI 1))), (3, .int sm2), (2, .int (nI (A + 2 ^ 7))), (0, .ref h), (1, .int ov)]) hx hb dX5_leastSet_77 hl (k := 4) rfl (by decide) (by decide) rfl (fun ls hl => ?_)
              refine lv_goto (tgt := 18) hx hb dX5_leastSet_80 (by decide) ?_
              exact ih_18   7 ((A + 2 ^ 7)) ((t9 - zrJ S 7)) sm2 (by omega) (by omega) (zsq (hri 7 (by decide)) (by omega) esm2 hsm) (by rw [← hA9, zls_n hfe]; omega) (by obtain ⟨x, hx9⟩ := hd; exact ⟨2 * x + 1, by rw [hx9, Nat.mul_add, ← Nat.mul_assoc, ← Nat.pow_succ, Nat.mul_one]⟩) (zfw_l1 hl9 hfe) ls (lv_sub hl [3, 4, 2, 1, 0] rfl)
          · subst h9
            refine lv_aload_n hx hb dX5_leastSet_34 rfl (lv_at hl 0 rfl) ?_
            refine va_get (ci := 5) (v := .ref hF9) (C := RX5) (T := TX5) (N := 9) hx hb hts hin5 hown hK hP 0 rfl rfl 6 (by decide) (hts (.fieldLink RX5 45 "UpAllRound" "fewest" "[[I") (List.mem_of_getElem? (i := 2) rfl)) (fun _ h9 => h9) hU6 dX5_leastSet_35 ?_
            refine lv_iload hx hb dX5_leastSet_38 (lv_at hl 4 rfl) ?_
            refine zaldq (t := 8) (x := q8) hx hb hK hP 3 rfl (by decide) (by decide) rfl dX5_leastSet_40 ?_
            refine lv_iload_n hx hb dX5_leastSet_41 rfl (lv_at hl 3 rfl) ?_
            refine zald (t := q) hx hb hK hP 12 rfl (by omega) (by decide) dX5_leastSet_42 ?_
            refine zrw (hF 8 (by omega) q (by omega)) ?_
            refine lv_aload_n hx hb dX5_leastSet_43 rfl (lv_at hl 0 rfl) ?_
            refine va_get (ci := 5) (v := .ref hF9) (C := RX5) (T := TX5) (N := 9) hx hb hts hin5 hown hK hP 0 rfl rfl 6 (by decide) (hts (.fieldLink RX5 45 "UpAllRound" "fewest" "[[I") (List.mem_of_getElem? (i := 2) rfl)) (fun _ h9 => h9) hU6 dX5_leastSet_44 ?_
            refine lv_iload hx hb dX5_leastSet_47 (lv_at hl 4 rfl) ?_
            refine lv_iconst (v := nI 1) hx hb dX5_leastSet_49 (by decide) ?_
            refine lv_iadd hx hb dX5_leastSet_50 ?_
            refine zrw (nI_add _ _) ?_
            refine zaldq (t := 9) (x := q9) hx hb hK hP 3 rfl (by decide) (by decide) rfl dX5_leastSet_51 ?_
            refine lv_iload_n hx hb dX5_leastSet_52 rfl (lv_at hl 3 rfl) ?_
            refine zald (t := q) hx hb hK hP 13 rfl (by omega) (by decide) dX5_leastSet_53 ?_
            refine zrw (hF (8 + 1) (by omega) q (by omega)) ?_
            refine lv_icmp_eq (tgt := 77) hx hb dX5_leastSet_54 (by decide) (fun c54_11 => ?_) (fun c54_11 => ?_)
            · have c54_11 : (zfw (zrJ S) 8 ((q : Int) - 126)) = (zfw (zrJ S) (8 + 1) ((q : Int) - 126)) := (nI_eq (a := zfw (zrJ S) 8 ((q : Int) - 126)) (b := zfw (zrJ S) (8 + 1) ((q : Int) - 126)) (by have h91 := zfw_le (zrJ S) 8 ((q : Int) - 126); have h92 := zfw_le (zrJ S) (8 + 1) ((q : Int) - 126); omega) (by have h91 := zfw_le (zrJ S) 8 ((q : Int) - 126); have h92 := zfw_le (zrJ S) (8 + 1) ((q : Int) - 126); omega)).mp c54_11
              have hfe : (zfw (zrJ S) 8 t9 = zfw (zrJ S) (8 + 1) t9) := by have h9 := c54_11; rwa [← htq] at h9
              refine lv_iinc (v := (nI 8 - nI 1)) (lv' := [(4, .int ((nI 8 - nI 1))), (0, .ref h), (1, .int ov), (2, .int (nI A)), (3, .int (nI q))]) hx hb dX5_leastSet_77 hl (k := 4) rfl (by decide) (by decide) rfl (fun ls hl => ?_)
              refine lv_goto (tgt := 18) hx hb dX5_leastSet_80 (by decide) ?_
              exact ih_18   8 A t9 ((nI q)) (by omega) (by omega) hsm (by rw [← hA9, zls_e hfe]) (by obtain ⟨x, hx9⟩ := hd; exact ⟨2 * x, by rw [hx9, ← Nat.mul_assoc, ← Nat.pow_succ]⟩) (by rw [hfe]; exact hl9) ls (lv_sub hl [1, 2, 3, 4, 0] rfl)
            · have c54_11 : ¬ ((zfw (zrJ S) 8 ((q : Int) - 126)) = (zfw (zrJ S) (8 + 1) ((q : Int) - 126))) := fun h9 => c54_11 ((nI_eq (a := zfw (zrJ S) 8 ((q : Int) - 126)) (b := zfw (zrJ S) (8 + 1) ((q : Int) - 126)) (by have h91 := zfw_le (zrJ S) 8 ((q : Int) - 126); have h92 := zfw_le (zrJ S) (8 + 1) ((q : Int) - 126); omega) (by have h91 := zfw_le (zrJ S) 8 ((q : Int) - 126); have h92 := zfw_le (zrJ S) (8 + 1) ((q : Int) - 126); omega)).mpr h9)
              have hfe : ¬ (zfw (zrJ S) 8 t9 = zfw (zrJ S) (8 + 1) t9) := by have h9 := c54_11; rwa [← htq] at h9
              refine lv_iload_n hx hb dX5_leastSet_57 rfl (lv_at hl 2 rfl) ?_
              refine lv_iconst (v := nI 1) hx hb dX5_leastSet_58 (by decide) ?_
              refine lv_iload hx hb dX5_leastSet_59 (lv_at hl 4 rfl) ?_
              refine lv_ishl hx hb dX5_leastSet_61 ?_
              refine lv_ior hx hb dX5_leastSet_62 ?_
              refine zrw (hd.elim fun x hx9 => nI_orp (k := 8) (by decide) hx9) ?_
              refine lv_istore_n (lv' := [(2, .int (nI (A + 2 ^ 8))), (0, .ref h), (1, .int ov), (3, .int (nI q)), (4, .int (nI 8))]) hx hb dX5_leastSet_63 rfl hl (by decide) rfl (fun ls hl => ?_)
              refine lv_iload_n hx hb dX5_leastSet_64 rfl (lv_at hl 3 rfl) ?_
              refine lv_aload_n hx hb dX5_leastSet_65 rfl (lv_at hl 1 rfl) ?_
              refine va_get (ci := 5) (v := .ref hS9) (C := RX5) (T := TX5) (N := 9) hx hb hts hin5 hown hK hP 0 rfl rfl 0 (by decide) (hts (.fieldLink RX5 12 "UpAllRound" "now" "LUpAllRound$Stair;") (List.mem_of_getElem? (i := 1) rfl)) (fun _ h9 => h9) hU0 dX5_leastSet_66 ?_
              refine va_getN (ci := 3) (v := .ref hr9) (C := RX3) (T := TX3) (N := 16) hx hb hts hin3 hown hK hP 1 rfl rfl 1 (by decide) (va_Nw.use rfl (hN (.fieldLinkNest "UpAllRound" 78 "UpAllRound$Stair" "rises" "[I" "UpAllRound") (List.mem_of_getElem? (i := 1) rfl))) (fun _ h9 => h9) hft1 dX5_leastSet_69 ?_
              refine lv_iload hx hb dX5_leastSet_72 (lv_at hl 4 rfl) ?_
              refine zald (t := 8) hx hb hK hP 2 rfl (by omega) (by decide) dX5_leastSet_74 ?_
              refine zrw rfl ?_
              refine lv_isub hx hb dX5_leastSet_75 ?_
              refine lv_topi (fun sm2 esm2 => ?_)
              refine lv_istore_n (lv' := [(3, .int sm2), (2, .int (nI (A + 2 ^ 8))), (0, .ref h), (1, .int ov), (4, .int (nI 8))]) hx hb dX5_leastSet_76 rfl hl (by decide) rfl (fun ls hl => ?_)
              refine lv_iinc (v := (nI 8 - nI 1)) (lv' := [(4, .int ((nI 8 - nI 1))), (3, .int sm2), (2, .int (nI (A + 2 ^ 8))), (0, .ref h), (1, .int ov)]) hx hb dX5_leastSet_77 hl (k := 4) rfl (by decide) (by decide) rfl (fun ls hl => ?_)
              refine lv_goto (tgt := 18) hx hb dX5_leastSet_80 (by decide) ?_
              exact ih_18   8 ((A + 2 ^ 8)) ((t9 - zrJ S 8)) sm2 (by omega) (by omega) (zsq (hri 8 (by decide)) (by omega) esm2 hsm) (by rw [← hA9, zls_n hfe]; omega) (by obtain ⟨x, hx9⟩ := hd; exact ⟨2 * x + 1, by rw [hx9, Nat.mul_add, ← Nat.mul_assoc, ← Nat.pow_succ, Nat.mul_one]⟩) (zfw_l1 hl9 hfe) ls (lv_sub hl [3, 4, 2, 1, 0] rfl)
          · subst h9
            refine lv_aload_n hx hb dX5_leastSet_34 rfl (lv_at hl 0 rfl) ?_
            refine va_get (ci := 5) (v := .ref hF9) (C := RX5) (T := TX5) (N := 9) hx hb hts hin5 hown hK hP 0 rfl rfl 6 (by decide) (hts (.fieldLink RX5 45 "UpAllRound" "fewest" "[[I") (List.mem_of_getElem? (i := 2) rfl)) (fun _ h9 => h9) hU6 dX5_leastSet_35 ?_
            refine lv_iload hx hb dX5_leastSet_38 (lv_at hl 4 rfl) ?_
            refine zaldq (t := 9) (x := q9) hx hb hK hP 3 rfl (by decide) (by decide) rfl dX5_leastSet_40 ?_
            refine lv_iload_n hx hb dX5_leastSet_41 rfl (lv_at hl 3 rfl) ?_
            refine zald (t := q) hx hb hK hP 13 rfl (by omega) (by decide) dX5_leastSet_42 ?_
            refine zrw (hF 9 (by omega) q (by omega)) ?_
            refine lv_aload_n hx hb dX5_leastSet_43 rfl (lv_at hl 0 rfl) ?_
            refine va_get (ci := 5) (v := .ref hF9) (C := RX5) (T := TX5) (N := 9) hx hb hts hin5 hown hK hP 0 rfl rfl 6 (by decide) (hts (.fieldLink RX5 45 "UpAllRound" "fewest" "[[I") (List.mem_of_getElem? (i := 2) rfl)) (fun _ h9 => h9) hU6 dX5_leastSet_44 ?_
            refine lv_iload hx hb dX5_leastSet_47 (lv_at hl 4 rfl) ?_
            refine lv_iconst (v := nI 1) hx hb dX5_leastSet_49 (by decide) ?_
            refine lv_iadd hx hb dX5_leastSet_50 ?_
            refine zrw (nI_add _ _) ?_
            refine zaldq (t := 10) (x := q10) hx hb hK hP 3 rfl (by decide) (by decide) rfl dX5_leastSet_51 ?_
            refine lv_iload_n hx hb dX5_leastSet_52 rfl (lv_at hl 3 rfl) ?_
            refine zald (t := q) hx hb hK hP 14 rfl (by omega) (by decide) dX5_leastSet_53 ?_
            refine zrw (hF (9 + 1) (by omega) q (by omega)) ?_
            refine lv_icmp_eq (tgt := 77) hx hb dX5_leastSet_54 (by decide) (fun c54_12 => ?_) (fun c54_12 => ?_)
            · have c54_12 : (zfw (zrJ S) 9 ((q : Int) - 126)) = (zfw (zrJ S) (9 + 1) ((q : Int) - 126)) := (nI_eq (a := zfw (zrJ S) 9 ((q : Int) - 126)) (b := zfw (zrJ S) (9 + 1) ((q : Int) - 126)) (by have h91 := zfw_le (zrJ S) 9 ((q : Int) - 126); have h92 := zfw_le (zrJ S) (9 + 1) ((q : Int) - 126); omega) (by have h91 := zfw_le (zrJ S) 9 ((q : Int) - 126); have h92 := zfw_le (zrJ S) (9 + 1) ((q : Int) - 126); omega)).mp c54_12
              have hfe : (zfw (zrJ S) 9 t9 = zfw (zrJ S) (9 + 1) t9) := by have h9 := c54_12; rwa [← htq] at h9
              refine lv_iinc (v := (nI 9 - nI 1)) (lv' := [(4, .int ((nI 9 - nI 1))), (0, .ref h), (1, .int ov), (2, .int (nI A)), (3, .int (nI q))]) hx hb dX5_leastSet_77 hl (k := 4) rfl (by decide) (by decide) rfl (fun ls hl => ?_)
              refine lv_goto (tgt := 18) hx hb dX5_leastSet_80 (by decide) ?_
              exact ih_18   9 A t9 ((nI q)) (by omega) (by omega) hsm (by rw [← hA9, zls_e hfe]) (by obtain ⟨x, hx9⟩ := hd; exact ⟨2 * x, by rw [hx9, ← Nat.mul_assoc, ← Nat.pow_succ]⟩) (by rw [hfe]; exact hl9) ls (lv_sub hl [1, 2, 3, 4, 0] rfl)
            · have c54_12 : ¬ ((zfw (zrJ S) 9 ((q : Int) - 126)) = (zfw (zrJ S) (9 + 1) ((q : Int) - 126))) := fun h9 => c54_12 ((nI_eq (a := zfw (zrJ S) 9 ((q : Int) - 126)) (b := zfw (zrJ S) (9 + 1) ((q : Int) - 126)) (by have h91 := zfw_le (zrJ S) 9 ((q : Int) - 126); have h92 := zfw_le (zrJ S) (9 + 1) ((q : Int) - 126); omega) (by have h91 := zfw_le (zrJ S) 9 ((q : Int) - 126); have h92 := zfw_le (zrJ S) (9 + 1) ((q : Int) - 126); omega)).mpr h9)
              have hfe : ¬ (zfw (zrJ S) 9 t9 = zfw (zrJ S) (9 + 1) t9) := by have h9 := c54_12; rwa [← htq] at h9
              refine lv_iload_n hx hb dX5_leastSet_57 rfl (lv_at hl 2 rfl) ?_
              refine lv_iconst (v := nI 1) hx hb dX5_leastSet_58 (by decide) ?_
              refine lv_iload hx hb dX5_leastSet_59 (lv_at hl 4 rfl) ?_
              refine lv_ishl hx hb dX5_leastSet_61 ?_
              refine lv_ior hx hb dX5_leastSet_62 ?_
              refine zrw (hd.elim fun x hx9 => nI_orp (k := 9) (by decide) hx9) ?_
              refine lv_istore_n (lv' := [(2, .int (nI (A + 2 ^ 9))), (0, .ref h), (1, .int ov), (3, .int (nI q)), (4, .int (nI 9))]) hx hb dX5_leastSet_63 rfl hl (by decide) rfl (fun ls hl => ?_)
              refine lv_iload_n hx hb dX5_leastSet_64 rfl (lv_at hl 3 rfl) ?_
              refine lv_aload_n hx hb dX5_leastSet_65 rfl (lv_at hl 1 rfl) ?_
              refine va_get (ci := 5) (v := .ref hS9) (C := RX5) (T := TX5) (N := 9) hx hb hts hin5 hown hK hP 0 rfl rfl 0 (by decide) (hts (.fieldLink RX5 12 "UpAllRound" "now" "LUpAllRound$Stair;") (List.mem_of_getElem? (i := 1) rfl)) (fun _ h9 => h9) hU0 dX5_leastSet_66 ?_
              refine va_getN (ci := 3) (v := .ref hr9) (C := RX3) (T := TX3) (N := 16) hx hb hts hin3 hown hK hP 1 rfl rfl 1 (by decide) (va_Nw.use rfl (hN (.fieldLinkNest "UpAllRound" 78 "UpAllRound$Stair" "rises" "[I" "UpAllRound") (List.mem_of_getElem? (i := 1) rfl))) (fun _ h9 => h9) hft1 dX5_leastSet_69 ?_
              refine lv_iload hx hb dX5_leastSet_72 (lv_at hl 4 rfl) ?_
              refine zald (t := 9) hx hb hK hP 2 rfl (by omega) (by decide) dX5_leastSet_74 ?_
              refine zrw rfl ?_
              refine lv_isub hx hb dX5_leastSet_75 ?_
              refine lv_topi (fun sm2 esm2 => ?_)
              refine lv_istore_n (lv' := [(3, .int sm2), (2, .int (nI (A + 2 ^ 9))), (0, .ref h), (1, .int ov), (4, .int (nI 9))]) hx hb dX5_leastSet_76 rfl hl (by decide) rfl (fun ls hl => ?_)
              refine lv_iinc (v := (nI 9 - nI 1)) (lv' := [(4, .int ((nI 9 - nI 1))), (3, .int sm2), (2, .int (nI (A + 2 ^ 9))), (0, .ref h), (1, .int ov)]) hx hb dX5_leastSet_77 hl (k := 4) rfl (by decide) (by decide) rfl (fun ls hl => ?_)
              refine lv_goto (tgt := 18) hx hb dX5_leastSet_80 (by decide) ?_
              exact ih_18   9 ((A + 2 ^ 9)) ((t9 - zrJ S 9)) sm2 (by omega) (by omega) (zsq (hri 9 (by decide)) (by omega) esm2 hsm) (by rw [← hA9, zls_n hfe]; omega) (by obtain ⟨x, hx9⟩ := hd; exact ⟨2 * x + 1, by rw [hx9, Nat.mul_add, ← Nat.mul_assoc, ← Nat.pow_succ, Nat.mul_one]⟩) (zfw_l1 hl9 hfe) ls (lv_sub hl [3, 4, 2, 1, 0] rfl)
          · subst h9
            refine lv_aload_n hx hb dX5_leastSet_34 rfl (lv_at hl 0 rfl) ?_
            refine va_get (ci := 5) (v := .ref hF9) (C := RX5) (T := TX5) (N := 9) hx hb hts hin5 hown hK hP 0 rfl rfl 6 (by decide) (hts (.fieldLink RX5 45 "UpAllRound" "fewest" "[[I") (List.mem_of_getElem? (i := 2) rfl)) (fun _ h9 => h9) hU6 dX5_leastSet_35 ?_
            refine lv_iload hx hb dX5_leastSet_38 (lv_at hl 4 rfl) ?_
            refine zaldq (t := 10) (x := q10) hx hb hK hP 3 rfl (by decide) (by decide) rfl dX5_leastSet_40 ?_
            refine lv_iload_n hx hb dX5_leastSet_41 rfl (lv_at hl 3 rfl) ?_
            refine zald (t := q) hx hb hK hP 14 rfl (by omega) (by decide) dX5_leastSet_42 ?_
            refine zrw (hF 10 (by omega) q (by omega)) ?_
            refine lv_aload_n hx hb dX5_leastSet_43 rfl (lv_at hl 0 rfl) ?_
            refine va_get (ci := 5) (v := .ref hF9) (C := RX5) (T := TX5) (N := 9) hx hb hts hin5 hown hK hP 0 rfl rfl 6 (by decide) (hts (.fieldLink RX5 45 "UpAllRound" "fewest" "[[I") (List.mem_of_getElem? (i := 2) rfl)) (fun _ h9 => h9) hU6 dX5_leastSet_44 ?_
            refine lv_iload hx hb dX5_leastSet_47 (lv_at hl 4 rfl) ?_
            refine lv_iconst (v := nI 1) hx hb dX5_leastSet_49 (by decide) ?_
            refine lv_iadd hx hb dX5_leastSet_50 ?_
            refine zrw (nI_add _ _) ?_
            refine zaldq (t := 11) (x := q11) hx hb hK hP 3 rfl (by decide) (by decide) rfl dX5_leastSet_51 ?_
            refine lv_iload_n hx hb dX5_leastSet_52 rfl (lv_at hl 3 rfl) ?_
            refine zald (t := q) hx hb hK hP 15 rfl (by omega) (by decide) dX5_leastSet_53 ?_
            refine zrw (hF (10 + 1) (by omega) q (by omega)) ?_
            refine lv_icmp_eq (tgt := 77) hx hb dX5_leastSet_54 (by decide) (fun c54_13 => ?_) (fun c54_13 => ?_)
            · have c54_13 : (zfw (zrJ S) 10 ((q : Int) - 126)) = (zfw (zrJ S) (10 + 1) ((q : Int) - 126)) := (nI_eq (a := zfw (zrJ S) 10 ((q : Int) - 126)) (b := zfw (zrJ S) (10 + 1) ((q : Int) - 126)) (by have h91 := zfw_le (zrJ S) 10 ((q : Int) - 126); have h92 := zfw_le (zrJ S) (10 + 1) ((q : Int) - 126); omega) (by have h91 := zfw_le (zrJ S) 10 ((q : Int) - 126); have h92 := zfw_le (zrJ S) (10 + 1) ((q : Int) - 126); omega)).mp c54_13
              have hfe : (zfw (zrJ S) 10 t9 = zfw (zrJ S) (10 + 1) t9) := by have h9 := c54_13; rwa [← htq] at h9
              refine lv_iinc (v := (nI 10 - nI 1)) (lv' := [(4, .int ((nI 10 - nI 1))), (0, .ref h), (1, .int ov), (2, .int (nI A)), (3, .int (nI q))]) hx hb dX5_leastSet_77 hl (k := 4) rfl (by decide) (by decide) rfl (fun ls hl => ?_)
              refine lv_goto (tgt := 18) hx hb dX5_leastSet_80 (by decide) ?_
              exact ih_18   10 A t9 ((nI q)) (by omega) (by omega) hsm (by rw [← hA9, zls_e hfe]) (by obtain ⟨x, hx9⟩ := hd; exact ⟨2 * x, by rw [hx9, ← Nat.mul_assoc, ← Nat.pow_succ]⟩) (by rw [hfe]; exact hl9) ls (lv_sub hl [1, 2, 3, 4, 0] rfl)
            · have c54_13 : ¬ ((zfw (zrJ S) 10 ((q : Int) - 126)) = (zfw (zrJ S) (10 + 1) ((q : Int) - 126))) := fun h9 => c54_13 ((nI_eq (a := zfw (zrJ S) 10 ((q : Int) - 126)) (b := zfw (zrJ S) (10 + 1) ((q : Int) - 126)) (by have h91 := zfw_le (zrJ S) 10 ((q : Int) - 126); have h92 := zfw_le (zrJ S) (10 + 1) ((q : Int) - 126); omega) (by have h91 := zfw_le (zrJ S) 10 ((q : Int) - 126); have h92 := zfw_le (zrJ S) (10 + 1) ((q : Int) - 126); omega)).mpr h9)
              have hfe : ¬ (zfw (zrJ S) 10 t9 = zfw (zrJ S) (10 + 1) t9) := by have h9 := c54_13; rwa [← htq] at h9
              refine lv_iload_n hx hb dX5_leastSet_57 rfl (lv_at hl 2 rfl) ?_
              refine lv_iconst (v := nI 1) hx hb dX5_leastSet_58 (by decide) ?_
              refine lv_iload hx hb dX5_leastSet_59 (lv_at hl 4 rfl) ?_
              refine lv_ishl hx hb dX5_leastSet_61 ?_
              refine lv_ior hx hb dX5_leastSet_62 ?_
              refine zrw (hd.elim fun x hx9 => nI_orp (k := 10) (by decide) hx9) ?_
              refine lv_istore_n (lv' := [(2, .int (nI (A + 2 ^ 10))), (0, .ref h), (1, .int ov), (3, .int (nI q)), (4, .int (nI 10))]) hx hb dX5_leastSet_63 rfl hl (by decide) rfl (fun ls hl => ?_)
              refine lv_iload_n hx hb dX5_leastSet_64 rfl (lv_at hl 3 rfl) ?_
              refine lv_aload_n hx hb dX5_leastSet_65 rfl (lv_at hl 1 rfl) ?_
              refine va_get (ci := 5) (v := .ref hS9) (C := RX5) (T := TX5) (N := 9) hx hb hts hin5 hown hK hP 0 rfl rfl 0 (by decide) (hts (.fieldLink RX5 12 "UpAllRound" "now" "LUpAllRound$Stair;") (List.mem_of_getElem? (i := 1) rfl)) (fun _ h9 => h9) hU0 dX5_leastSet_66 ?_
              refine va_getN (ci := 3) (v := .ref hr9) (C := RX3) (T := TX3) (N := 16) hx hb hts hin3 hown hK hP 1 rfl rfl 1 (by decide) (va_Nw.use rfl (hN (.fieldLinkNest "UpAllRound" 78 "UpAllRound$Stair" "rises" "[I" "UpAllRound") (List.mem_of_getElem? (i := 1) rfl))) (fun _ h9 => h9) hft1 dX5_leastSet_69 ?_
              refine lv_iload hx hb dX5_leastSet_72 (lv_at hl 4 rfl) ?_
              refine zald (t := 10) hx hb hK hP 2 rfl (by omega) (by decide) dX5_leastSet_74 ?_
              refine zrw rfl ?_
              refine lv_isub hx hb dX5_leastSet_75 ?_
              refine lv_topi (fun sm2 esm2 => ?_)
              refine lv_istore_n (lv' := [(3, .int sm2), (2, .int (nI (A + 2 ^ 10))), (0, .ref h), (1, .int ov), (4, .int (nI 10))]) hx hb dX5_leastSet_76 rfl hl (by decide) rfl (fun ls hl => ?_)
              refine lv_iinc (v := (nI 10 - nI 1)) (lv' := [(4, .int ((nI 10 - nI 1))), (3, .int sm2), (2, .int (nI (A + 2 ^ 10))), (0, .ref h), (1, .int ov)]) hx hb dX5_leastSet_77 hl (k := 4) rfl (by decide) (by decide) rfl (fun ls hl => ?_)
              refine lv_goto (tgt := 18) hx hb dX5_leastSet_80 (by decide) ?_
              exact ih_18   10 ((A + 2 ^ 10)) ((t9 - zrJ S 10)) sm2 (by omega) (by omega) (zsq (hri 10 (by decide)) (by omega) esm2 hsm) (by rw [← hA9, zls_n hfe]; omega) (by obtain ⟨x, hx9⟩ := hd; exact ⟨2 * x + 1, by rw [hx9, Nat.mul_add, ← Nat.mul_assoc, ← Nat.pow_succ, Nat.mul_one]⟩) (zfw_l1 hl9 hfe) ls (lv_sub hl [3, 4, 2, 1, 0] rfl)
          · subst h9
            refine lv_aload_n hx hb dX5_leastSet_34 rfl (lv_at hl 0 rfl) ?_
            refine va_get (ci := 5) (v := .ref hF9) (C := RX5) (T := TX5) (N := 9) hx hb hts hin5 hown hK hP 0 rfl rfl 6 (by decide) (hts (.fieldLink RX5 45 "UpAllRound" "fewest" "[[I") (List.mem_of_getElem? (i := 2) rfl)) (fun _ h9 => h9) hU6 dX5_leastSet_35 ?_
            refine lv_iload hx hb dX5_leastSet_38 (lv_at hl 4 rfl) ?_
            refine zaldq (t := 11) (x := q11) hx hb hK hP 3 rfl (by decide) (by decide) rfl dX5_leastSet_40 ?_
            refine lv_iload_n hx hb dX5_leastSet_41 rfl (lv_at hl 3 rfl) ?_
            refine zald (t := q) hx hb hK hP 15 rfl (by omega) (by decide) dX5_leastSet_42 ?_
            refine zrw (hF 11 (by omega) q (by omega)) ?_
            refine lv_aload_n hx hb dX5_leastSet_43 rfl (lv_at hl 0 rfl) ?_
            refine va_get (ci := 5) (v := .ref hF9) (C := RX5) (T := TX5) (N := 9) hx hb hts hin5 hown hK hP 0 rfl rfl 6 (by decide) (hts (.fieldLink RX5 45 "UpAllRound" "fewest" "[[I") (List.mem_of_getElem? (i := 2) rfl)) (fun _ h9 => h9) hU6 dX5_leastSet_44 ?_
            refine lv_iload hx hb dX5_leastSet_47 (lv_at hl 4 rfl) ?_
            refine lv_iconst (v := nI 1) hx hb dX5_leastSet_49 (by decide) ?_
            refine lv_iadd hx hb dX5_leastSet_50 ?_
            refine zrw (nI_add _ _) ?_
            refine zaldq (t := 12) (x := q12) hx hb hK hP 3 rfl (by decide) (by decide) rfl dX5_leastSet_51 ?_
            refine lv_iload_n hx hb dX5_leastSet_52 rfl (lv_at hl 3 rfl) ?_
            refine zald (t := q) hx hb hK hP 16 rfl (by omega) (by decide) dX5_leastSet_53 ?_
            refine zrw (hF (11 + 1) (by omega) q (by omega)) ?_
            refine lv_icmp_eq (tgt := 77) hx hb dX5_leastSet_54 (by decide) (fun c54_14 => ?_) (fun c54_14 => ?_)
            · have c54_14 : (zfw (zrJ S) 11 ((q : Int) - 126)) = (zfw (zrJ S) (11 + 1) ((q : Int) - 126)) := (nI_eq (a := zfw (zrJ S) 11 ((q : Int) - 126)) (b := zfw (zrJ S) (11 + 1) ((q : Int) - 126)) (by have h91 := zfw_le (zrJ S) 11 ((q : Int) - 126); have h92 := zfw_le (zrJ S) (11 + 1) ((q : Int) - 126); omega) (by have h91 := zfw_le (zrJ S) 11 ((q : Int) - 126); have h92 := zfw_le (zrJ S) (11 + 1) ((q : Int) - 126); omega)).mp c54_14
              have hfe : (zfw (zrJ S) 11 t9 = zfw (zrJ S) (11 + 1) t9) := by have h9 := c54_14; rwa [← htq] at h9
              refine lv_iinc (v := (nI 11 - nI 1)) (lv' := [(4, .int ((nI 11 - nI 1))), (0, .ref h), (1, .int ov), (2, .int (nI A)), (3, .int (nI q))]) hx hb dX5_leastSet_77 hl (k := 4) rfl (by decide) (by decide) rfl (fun ls hl => ?_)
              refine lv_goto (tgt := 18) hx hb dX5_leastSet_80 (by decide) ?_
              exact ih_18   11 A t9 ((nI q)) (by omega) (by omega) hsm (by rw [← hA9, zls_e hfe]) (by obtain ⟨x, hx9⟩ := hd; exact ⟨2 * x, by rw [hx9, ← Nat.mul_assoc, ← Nat.pow_succ]⟩) (by rw [hfe]; exact hl9) ls (lv_sub hl [1, 2, 3, 4, 0] rfl)
            · have c54_14 : ¬ ((zfw (zrJ S) 11 ((q : Int) - 126)) = (zfw (zrJ S) (11 + 1) ((q : Int) - 126))) := fun h9 => c54_14 ((nI_eq (a := zfw (zrJ S) 11 ((q : Int) - 126)) (b := zfw (zrJ S) (11 + 1) ((q : Int) - 126)) (by have h91 := zfw_le (zrJ S) 11 ((q : Int) - 126); have h92 := zfw_le (zrJ S) (11 + 1) ((q : Int) - 126); omega) (by have h91 := zfw_le (zrJ S) 11 ((q : Int) - 126); have h92 := zfw_le (zrJ S) (11 + 1) ((q : Int) - 126); omega)).mpr h9)
              have hfe : ¬ (zfw (zrJ S) 11 t9 = zfw (zrJ S) (11 + 1) t9) := by have h9 := c54_14; rwa [← htq] at h9
              refine lv_iload_n hx hb dX5_leastSet_57 rfl (lv_at hl 2 rfl) ?_
              refine lv_iconst (v := nI 1) hx hb dX5_leastSet_58 (by decide) ?_
              refine lv_iload hx hb dX5_leastSet_59 (lv_at hl 4 rfl) ?_
              refine lv_ishl hx hb dX5_leastSet_61 ?_
              refine lv_ior hx hb dX5_leastSet_62 ?_
              refine zrw (hd.elim fun x hx9 => nI_orp (k := 11) (by decide) hx9) ?_
              refine lv_istore_n (lv' := [(2, .int (nI (A + 2 ^ 11))), (0, .ref h), (1, .int ov), (3, .int (nI q)), (4, .int (nI 11))]) hx hb dX5_leastSet_63 rfl hl (by decide) rfl (fun ls hl => ?_)
              refine lv_iload_n hx hb dX5_leastSet_64 rfl (lv_at hl 3 rfl) ?_
              refine lv_aload_n hx hb dX5_leastSet_65 rfl (lv_at hl 1 rfl) ?_
              refine va_get (ci := 5) (v := .ref hS9) (C := RX5) (T := TX5) (N := 9) hx hb hts hin5 hown hK hP 0 rfl rfl 0 (by decide) (hts (.fieldLink RX5 12 "UpAllRound" "now" "LUpAllRound$Stair;") (List.mem_of_getElem? (i := 1) rfl)) (fun _ h9 => h9) hU0 dX5_leastSet_66 ?_
              refine va_getN (ci := 3) (v := .ref hr9) (C := RX3) (T := TX3) (N := 16) hx hb hts hin3 hown hK hP 1 rfl rfl 1 (by decide) (va_Nw.use rfl (hN (.fieldLinkNest "UpAllRound" 78 "UpAllRound$Stair" "rises" "[I" "UpAllRound") (List.mem_of_getElem? (i := 1) rfl))) (fun _ h9 => h9) hft1 dX5_leastSet_69 ?_
              refine lv_iload hx hb dX5_leastSet_72 (lv_at hl 4 rfl) ?_
              refine zald (t := 11) hx hb hK hP 2 rfl (by omega) (by decide) dX5_leastSet_74 ?_
              refine zrw rfl ?_
              refine lv_isub hx hb dX5_leastSet_75 ?_
              refine lv_topi (fun sm2 esm2 => ?_)
              refine lv_istore_n (lv' := [(3, .int sm2), (2, .int (nI (A + 2 ^ 11))), (0, .ref h), (1, .int ov), (4, .int (nI 11))]) hx hb dX5_leastSet_76 rfl hl (by decide) rfl (fun ls hl => ?_)
              refine lv_iinc (v := (nI 11 - nI 1)) (lv' := [(4, .int ((nI 11 - nI 1))), (3, .int sm2), (2, .int (nI (A + 2 ^ 11))), (0, .ref h), (1, .int ov)]) hx hb dX5_leastSet_77 hl (k := 4) rfl (by decide) (by decide) rfl (fun ls hl => ?_)
              refine lv_goto (tgt := 18) hx hb dX5_leastSet_80 (by decide) ?_
              exact ih_18   11 ((A + 2 ^ 11)) ((t9 - zrJ S 11)) sm2 (by omega) (by omega) (zsq (hri 11 (by decide)) (by omega) esm2 hsm) (by rw [← hA9, zls_n hfe]; omega) (by obtain ⟨x, hx9⟩ := hd; exact ⟨2 * x + 1, by rw [hx9, Nat.mul_add, ← Nat.mul_assoc, ← Nat.pow_succ, Nat.mul_one]⟩) (zfw_l1 hl9 hfe) ls (lv_sub hl [3, 4, 2, 1, 0] rfl)
          · subst h9
            refine lv_aload_n hx hb dX5_leastSet_34 rfl (lv_at hl 0 rfl) ?_
            refine va_get (ci := 5) (v := .ref hF9) (C := RX5) (T := TX5) (N := 9) hx hb hts hin5 hown hK hP 0 rfl rfl 6 (by decide) (hts (.fieldLink RX5 45 "UpAllRound" "fewest" "[[I") (List.mem_of_getElem? (i := 2) rfl)) (fun _ h9 => h9) hU6 dX5_leastSet_35 ?_
            refine lv_iload hx hb dX5_leastSet_38 (lv_at hl 4 rfl) ?_
            refine zaldq (t := 12) (x := q12) hx hb hK hP 3 rfl (by decide) (by decide) rfl dX5_leastSet_40 ?_
            refine lv_iload_n hx hb dX5_leastSet_41 rfl (lv_at hl 3 rfl) ?_
            refine zald (t := q) hx hb hK hP 16 rfl (by omega) (by decide) dX5_leastSet_42 ?_
            refine zrw (hF 12 (by omega) q (by omega)) ?_
            refine lv_aload_n hx hb dX5_leastSet_43 rfl (lv_at hl 0 rfl) ?_
            refine va_get (ci := 5) (v := .ref hF9) (C := RX5) (T := TX5) (N := 9) hx hb hts hin5 hown hK hP 0 rfl rfl 6 (by decide) (hts (.fieldLink RX5 45 "UpAllRound" "fewest" "[[I") (List.mem_of_getElem? (i := 2) rfl)) (fun _ h9 => h9) hU6 dX5_leastSet_44 ?_
            refine lv_iload hx hb dX5_leastSet_47 (lv_at hl 4 rfl) ?_
            refine lv_iconst (v := nI 1) hx hb dX5_leastSet_49 (by decide) ?_
            refine lv_iadd hx hb dX5_leastSet_50 ?_
            refine zrw (nI_add _ _) ?_
            refine zaldq (t := 13) (x := q13) hx hb hK hP 3 rfl (by decide) (by decide) rfl dX5_leastSet_51 ?_
            refine lv_iload_n hx hb dX5_leastSet_52 rfl (lv_at hl 3 rfl) ?_
            refine zald (t := q) hx hb hK hP 17 rfl (by omega) (by decide) dX5_leastSet_53 ?_
            refine zrw (hF (12 + 1) (by omega) q (by omega)) ?_
            refine lv_icmp_eq (tgt := 77) hx hb dX5_leastSet_54 (by decide) (fun c54_15 => ?_) (fun c54_15 => ?_)
            · have c54_15 : (zfw (zrJ S) 12 ((q : Int) - 126)) = (zfw (zrJ S) (12 + 1) ((q : Int) - 126)) := (nI_eq (a := zfw (zrJ S) 12 ((q : Int) - 126)) (b := zfw (zrJ S) (12 + 1) ((q : Int) - 126)) (by have h91 := zfw_le (zrJ S) 12 ((q : Int) - 126); have h92 := zfw_le (zrJ S) (12 + 1) ((q : Int) - 126); omega) (by have h91 := zfw_le (zrJ S) 12 ((q : Int) - 126); have h92 := zfw_le (zrJ S) (12 + 1) ((q : Int) - 126); omega)).mp c54_15
              have hfe : (zfw (zrJ S) 12 t9 = zfw (zrJ S) (12 + 1) t9) := by have h9 := c54_15; rwa [← htq] at h9
              refine lv_iinc (v := (nI 12 - nI 1)) (lv' := [(4, .int ((nI 12 - nI 1))), (0, .ref h), (1, .int ov), (2, .int (nI A)), (3, .int (nI q))]) hx hb dX5_leastSet_77 hl (k := 4) rfl (by decide) (by decide) rfl (fun ls hl => ?_)
              refine lv_goto (tgt := 18) hx hb dX5_leastSet_80 (by decide) ?_
              exact ih_18   12 A t9 ((nI q)) (by omega) (by omega) hsm (by rw [← hA9, zls_e hfe]) (by obtain ⟨x, hx9⟩ := hd; exact ⟨2 * x, by rw [hx9, ← Nat.mul_assoc, ← Nat.pow_succ]⟩) (by rw [hfe]; exact hl9) ls (lv_sub hl [1, 2, 3, 4, 0] rfl)
            · have c54_15 : ¬ ((zfw (zrJ S) 12 ((q : Int) - 126)) = (zfw (zrJ S) (12 + 1) ((q : Int) - 126))) := fun h9 => c54_15 ((nI_eq (a := zfw (zrJ S) 12 ((q : Int) - 126)) (b := zfw (zrJ S) (12 + 1) ((q : Int) - 126)) (by have h91 := zfw_le (zrJ S) 12 ((q : Int) - 126); have h92 := zfw_le (zrJ S) (12 + 1) ((q : Int) - 126); omega) (by have h91 := zfw_le (zrJ S) 12 ((q : Int) - 126); have h92 := zfw_le (zrJ S) (12 + 1) ((q : Int) - 126); omega)).mpr h9)
              have hfe : ¬ (zfw (zrJ S) 12 t9 = zfw (zrJ S) (12 + 1) t9) := by have h9 := c54_15; rwa [← htq] at h9
              refine lv_iload_n hx hb dX5_leastSet_57 rfl (lv_at hl 2 rfl) ?_
              refine lv_iconst (v := nI 1) hx hb dX5_leastSet_58 (by decide) ?_
              refine lv_iload hx hb dX5_leastSet_59 (lv_at hl 4 rfl) ?_
              refine lv_ishl hx hb dX5_leastSet_61 ?_
              refine lv_ior hx hb dX5_leastSet_62 ?_
              refine zrw (hd.elim fun x hx9 => nI_orp (k := 12) (by decide) hx9) ?_
              refine lv_istore_n (lv' := [(2, .int (nI (A + 2 ^ 12))), (0, .ref h), (1, .int ov), (3, .int (nI q)), (4, .int (nI 12))]) hx hb dX5_leastSet_63 rfl hl (by decide) rfl (fun ls hl => ?_)
              refine lv_iload_n hx hb dX5_leastSet_64 rfl (lv_at hl 3 rfl) ?_
              refine lv_aload_n hx hb dX5_leastSet_65 rfl (lv_at hl 1 rfl) ?_
              refine va_get (ci := 5) (v := .ref hS9) (C := RX5) (T := TX5) (N := 9) hx hb hts hin5 hown hK hP 0 rfl rfl 0 (by decide) (hts (.fieldLink RX5 12 "UpAllRound" "now" "LUpAllRound$Stair;") (List.mem_of_getElem? (i := 1) rfl)) (fun _ h9 => h9) hU0 dX5_leastSet_66 ?_
              refine va_getN (ci := 3) (v := .ref hr9) (C := RX3) (T := TX3) (N := 16) hx hb hts hin3 hown hK hP 1 rfl rfl 1 (by decide) (va_Nw.use rfl (hN (.fieldLinkNest "UpAllRound" 78 "UpAllRound$Stair" "rises" "[I" "UpAllRound") (List.mem_of_getElem? (i := 1) rfl))) (fun _ h9 => h9) hft1 dX5_leastSet_69 ?_
              refine lv_iload hx hb dX5_leastSet_72 (lv_at hl 4 rfl) ?_
              refine zald (t := 12) hx hb hK hP 2 rfl (by omega) (by decide) dX5_leastSet_74 ?_
              refine zrw rfl ?_
              refine lv_isub hx hb dX5_leastSet_75 ?_
              refine lv_topi (fun sm2 esm2 => ?_)
              refine lv_istore_n (lv' := [(3, .int sm2), (2, .int (nI (A + 2 ^ 12))), (0, .ref h), (1, .int ov), (4, .int (nI 12))]) hx hb dX5_leastSet_76 rfl hl (by decide) rfl (fun ls hl => ?_)
              refine lv_iinc (v := (nI 12 - nI 1)) (lv' := [(4, .int ((nI 12 - nI 1))), (3, .int sm2), (2, .int (nI (A + 2 ^ 12))), (0, .ref h), (1, .int ov)]) hx hb dX5_leastSet_77 hl (k := 4) rfl (by decide) (by decide) rfl (fun ls hl => ?_)
              refine lv_goto (tgt := 18) hx hb dX5_leastSet_80 (by decide) ?_
              exact ih_18   12 ((A + 2 ^ 12)) ((t9 - zrJ S 12)) sm2 (by omega) (by omega) (zsq (hri 12 (by decide)) (by omega) esm2 hsm) (by rw [← hA9, zls_n hfe]; omega) (by obtain ⟨x, hx9⟩ := hd; exact ⟨2 * x + 1, by rw [hx9, Nat.mul_add, ← Nat.mul_assoc, ← Nat.pow_succ, Nat.mul_one]⟩) (zfw_l1 hl9 hfe) ls (lv_sub hl [3, 4, 2, 1, 0] rfl)
          · subst h9
            refine lv_aload_n hx hb dX5_leastSet_34 rfl (lv_at hl 0 rfl) ?_
            refine va_get (ci := 5) (v := .ref hF9) (C := RX5) (T := TX5) (N := 9) hx hb hts hin5 hown hK hP 0 rfl rfl 6 (by decide) (hts (.fieldLink RX5 45 "UpAllRound" "fewest" "[[I") (List.mem_of_getElem? (i := 2) rfl)) (fun _ h9 => h9) hU6 dX5_leastSet_35 ?_
            refine lv_iload hx hb dX5_leastSet_38 (lv_at hl 4 rfl) ?_
            refine zaldq (t := 13) (x := q13) hx hb hK hP 3 rfl (by decide) (by decide) rfl dX5_leastSet_40 ?_
            refine lv_iload_n hx hb dX5_leastSet_41 rfl (lv_at hl 3 rfl) ?_
            refine zald (t := q) hx hb hK hP 17 rfl (by omega) (by decide) dX5_leastSet_42 ?_
            refine zrw (hF 13 (by omega) q (by omega)) ?_
            refine lv_aload_n hx hb dX5_leastSet_43 rfl (lv_at hl 0 rfl) ?_
            refine va_get (ci := 5) (v := .ref hF9) (C := RX5) (T := TX5) (N := 9) hx hb hts hin5 hown hK hP 0 rfl rfl 6 (by decide) (hts (.fieldLink RX5 45 "UpAllRound" "fewest" "[[I") (List.mem_of_getElem? (i := 2) rfl)) (fun _ h9 => h9) hU6 dX5_leastSet_44 ?_
            refine lv_iload hx hb dX5_leastSet_47 (lv_at hl 4 rfl) ?_
            refine lv_iconst (v := nI 1) hx hb dX5_leastSet_49 (by decide) ?_
            refine lv_iadd hx hb dX5_leastSet_50 ?_
            refine zrw (nI_add _ _) ?_
            refine zaldq (t := 14) (x := q14) hx hb hK hP 3 rfl (by decide) (by decide) rfl dX5_leastSet_51 ?_
            refine lv_iload_n hx hb dX5_leastSet_52 rfl (lv_at hl 3 rfl) ?_
            refine zald (t := q) hx hb hK hP 18 rfl (by omega) (by decide) dX5_leastSet_53 ?_
            refine zrw (hF (13 + 1) (by omega) q (by omega)) ?_
            refine lv_icmp_eq (tgt := 77) hx hb dX5_leastSet_54 (by decide) (fun c54_16 => ?_) (fun c54_16 => ?_)
            · have c54_16 : (zfw (zrJ S) 13 ((q : Int) - 126)) = (zfw (zrJ S) (13 + 1) ((q : Int) - 126)) := (nI_eq (a := zfw (zrJ S) 13 ((q : Int) - 126)) (b := zfw (zrJ S) (13 + 1) ((q : Int) - 126)) (by have h91 := zfw_le (zrJ S) 13 ((q : Int) - 126); have h92 := zfw_le (zrJ S) (13 + 1) ((q : Int) - 126); omega) (by have h91 := zfw_le (zrJ S) 13 ((q : Int) - 126); have h92 := zfw_le (zrJ S) (13 + 1) ((q : Int) - 126); omega)).mp c54_16
              have hfe : (zfw (zrJ S) 13 t9 = zfw (zrJ S) (13 + 1) t9) := by have h9 := c54_16; rwa [← htq] at h9
              refine lv_iinc (v := (nI 13 - nI 1)) (lv' := [(4, .int ((nI 13 - nI 1))), (0, .ref h), (1, .int ov), (2, .int (nI A)), (3, .int (nI q))]) hx hb dX5_leastSet_77 hl (k := 4) rfl (by decide) (by decide) rfl (fun ls hl => ?_)
              refine lv_goto (tgt := 18) hx hb dX5_leastSet_80 (by decide) ?_
              exact ih_18   13 A t9 ((nI q)) (by omega) (by omega) hsm (by rw [← hA9, zls_e hfe]) (by obtain ⟨x, hx9⟩ := hd; exact ⟨2 * x, by rw [hx9, ← Nat.mul_assoc, ← Nat.pow_succ]⟩) (by rw [hfe]; exact hl9) ls (lv_sub hl [1, 2, 3, 4, 0] rfl)
            · have c54_16 : ¬ ((zfw (zrJ S) 13 ((q : Int) - 126)) = (zfw (zrJ S) (13 + 1) ((q : Int) - 126))) := fun h9 => c54_16 ((nI_eq (a := zfw (zrJ S) 13 ((q : Int) - 126)) (b := zfw (zrJ S) (13 + 1) ((q : Int) - 126)) (by have h91 := zfw_le (zrJ S) 13 ((q : Int) - 126); have h92 := zfw_le (zrJ S) (13 + 1) ((q : Int) - 126); omega) (by have h91 := zfw_le (zrJ S) 13 ((q : Int) - 126); have h92 := zfw_le (zrJ S) (13 + 1) ((q : Int) - 126); omega)).mpr h9)
              have hfe : ¬ (zfw (zrJ S) 13 t9 = zfw (zrJ S) (13 + 1) t9) := by have h9 := c54_16; rwa [← htq] at h9
              refine lv_iload_n hx hb dX5_leastSet_57 rfl (lv_at hl 2 rfl) ?_
              refine lv_iconst (v := nI 1) hx hb dX5_leastSet_58 (by decide) ?_
              refine lv_iload hx hb dX5_leastSet_59 (lv_at hl 4 rfl) ?_
              refine lv_ishl hx hb dX5_leastSet_61 ?_
              refine lv_ior hx hb dX5_leastSet_62 ?_
              refine zrw (hd.elim fun x hx9 => nI_orp (k := 13) (by decide) hx9) ?_
              refine lv_istore_n (lv' := [(2, .int (nI (A + 2 ^ 13))), (0, .ref h), (1, .int ov), (3, .int (nI q)), (4, .int (nI 13))]) hx hb dX5_leastSet_63 rfl hl (by decide) rfl (fun ls hl => ?_)
              refine lv_iload_n hx hb dX5_leastSet_64 rfl (lv_at hl 3 rfl) ?_
              refine lv_aload_n hx hb dX5_leastSet_65 rfl (lv_at hl 1 rfl) ?_
              refine va_get (ci := 5) (v := .ref hS9) (C := RX5) (T := TX5) (N := 9) hx hb hts hin5 hown hK hP 0 rfl rfl 0 (by decide) (hts (.fieldLink RX5 12 "UpAllRound" "now" "LUpAllRound$Stair;") (List.mem_of_getElem? (i := 1) rfl)) (fun _ h9 => h9) hU0 dX5_leastSet_66 ?_
              refine va_getN (ci := 3) (v := .ref hr9) (C := RX3) (T := TX3) (N := 16) hx hb hts hin3 hown hK hP 1 rfl rfl 1 (by decide) (va_Nw.use rfl (hN (.fieldLinkNest "UpAllRound" 78 "UpAllRound$Stair" "rises" "[I" "UpAllRound") (List.mem_of_getElem? (i := 1) rfl))) (fun _ h9 => h9) hft1 dX5_leastSet_69 ?_
              refine lv_iload hx hb dX5_leastSet_72 (lv_at hl 4 rfl) ?_
              refine zald (t := 13) hx hb hK hP 2 rfl (by omega) (by decide) dX5_leastSet_74 ?_
              refine zrw rfl ?_
              refine lv_isub hx hb dX5_leastSet_75 ?_
              refine lv_topi (fun sm2 esm2 => ?_)
              refine lv_istore_n (lv' := [(3, .int sm2), (2, .int (nI (A + 2 ^ 13))), (0, .ref h), (1, .int ov), (4, .int (nI 13))]) hx hb dX5_leastSet_76 rfl hl (by decide) rfl (fun ls hl => ?_)
              refine lv_iinc (v := (nI 13 - nI 1)) (lv' := [(4, .int ((nI 13 - nI 1))), (3, .int sm2), (2, .int (nI (A + 2 ^ 13))), (0, .ref h), (1, .int ov)]) hx hb dX5_leastSet_77 hl (k := 4) rfl (by decide) (by decide) rfl (fun ls hl => ?_)
              refine lv_goto (tgt := 18) hx hb dX5_leastSet_80 (by decide) ?_
              exact ih_18   13 ((A + 2 ^ 13)) ((t9 - zrJ S 13)) sm2 (by omega) (by omega) (zsq (hri 13 (by decide)) (by omega) esm2 hsm) (by rw [← hA9, zls_n hfe]; omega) (by obtain ⟨x, hx9⟩ := hd; exact ⟨2 * x + 1, by rw [hx9, Nat.mul_add, ← Nat.mul_assoc, ← Nat.pow_succ, Nat.mul_one]⟩) (zfw_l1 hl9 hfe) ls (lv_sub hl [3, 4, 2, 1, 0] rfl)
  exact L_18 (n + 1)  n 0 s9 ((nI 126 + ov)) (Nat.lt_succ_self n) (Nat.le_refl n) (zs126 hov (zfw_rg hri hn14 hlt).1 (zfw_rg hri hn14 hlt).2) (Nat.zero_add _) ⟨0, rfl⟩ hlt ls (lv_sub hl [3, 4, 2, 1, 0] rfl)
set_option maxHeartbeats 4000000 in
set_option maxRecDepth 100000 in
theorem c_X5_levels (l : Launch) (D : va_G) (cI cJ : ClassId) (h : Nat) (hS9 : Nat) (hr9 : Nat) (hF9 : Nat) (fs : List Value) (ft : List Value) (S : Nat → Int32) (n : Nat) (q0 : Nat) (q1 : Nat) (q2 : Nat) (q3 : Nat) (q4 : Nat) (q5 : Nat) (q6 : Nat) (q7 : Nat) (q8 : Nat) (q9 : Nat) (q10 : Nat) (q11 : Nat) (q12 : Nat) (q13 : Nat) (q14 : Nat) (F : Nat → Nat → Int32) (hE : Nat) (E : Nat → Int32) (v : Int32) (what : Int32) (hU0 : fs[0]? = some (.ref hS9)) (hU6 : fs[6]? = some (.ref hF9)) (hft0 : ft[0]? = some (.int (nI n))) (hft1 : ft[1]? = some (.ref hr9)) (hn14 : n ≤ 14) (hri : ∀ j, j < 14 → zrg (-9) 9 (S (32 + j))) (hU7 : fs[7]? = some (.ref hE)) : zMi l yX5_levels wsX5_levels ({ frames := 2, cells := 0, slots := 0, locals := 47 } : Room) D [(cI, .int), (cJ, .array .int)] [.ref h, .int v, .int what] [(h, .inr (5, fs)), (hS9, .inr (3, ft)), (hr9, .inl (cI, 14, .inl ((fun i => S (32 + i))))), (hF9, .inl (cJ, 15, .inr (.inr (.inr (.inr (zq15 q0 q1 q2 q3 q4 q5 q6 q7 q8 q9 q10 q11 q12 q13 q14)))))), (q0, .inl (cI, 253, .inl (F 0))), (q1, .inl (cI, 253, .inl (F 1))), (q2, .inl (cI, 253, .inl (F 2))), (q3, .inl (cI, 253, .inl (F 3))), (q4, .inl (cI, 253, .inl (F 4))), (q5, .inl (cI, 253, .inl (F 5))), (q6, .inl (cI, 253, .inl (F 6))), (q7, .inl (cI, 253, .inl (F 7))), (q8, .inl (cI, 253, .inl (F 8))), (q9, .inl (cI, 253, .inl (F 9))), (q10, .inl (cI, 253, .inl (F 10))), (q11, .inl (cI, 253, .inl (F 11))), (q12, .inl (cI, 253, .inl (F 12))), (q13, .inl (cI, 253, .inl (F 13))), (q14, .inl (cI, 253, .inl (F 14))), (hE, .inl (cI, 7, .inl E))] (fun r w => ∃ G9 : Nat → Nat → Int32, r = (zo_levels S E n v what).1 ∧ w = [(h, .inr (5, fs)), (hS9, .inr (3, ft)), (hr9, .inl (cI, 14, .inl ((fun i => S (32 + i))))), (hF9, .inl (cJ, 15, .inr (.inr (.inr (.inr (zq15 q0 q1 q2 q3 q4 q5 q6 q7 q8 q9 q10 q11 q12 q13 q14)))))), (q0, .inl (cI, 253, .inl (G9 0))), (q1, .inl (cI, 253, .inl (G9 1))), (q2, .inl (cI, 253, .inl (G9 2))), (q3, .inl (cI, 253, .inl (G9 3))), (q4, .inl (cI, 253, .inl (G9 4))), (q5, .inl (cI, 253, .inl (G9 5))), (q6, .inl (cI, 253, .inl (G9 6))), (q7, .inl (cI, 253, .inl (G9 7))), (q8, .inl (cI, 253, .inl (G9 8))), (q9, .inl (cI, 253, .inl (G9 9))), (q10, .inl (cI, 253, .inl (G9 10))), (q11, .inl (cI, 253, .inl (G9 11))), (q12, .inl (cI, 253, .inl (G9 12))), (q13, .inl (cI, 253, .inl (G9 13))), (q14, .inl (cI, 253, .inl (G9 14))), (hE, .inl (cI, 7, .inl ((zo_levels S E n v what).2.2)))]) := by
  refine zMi.start (cc := cX5_levels) (maxL := 5) (rt := .int) (by first | decide | decide +kernel) rfl (Nat.le_of_ble_eq_true rfl) ?_
  intro pg ev s mt args below meth cd ls AA QQ ⟨hx, hb, hml, hr, hlocks, hown, hts, hK, hN, hZ, hP, hD, hA, hS, hl⟩ hret
  have hown : s.vm.findClass RX5 = some mt.cls := hown
  have hl : lv_has ls 5 [(0, .ref h), (1, .int v), (2, .int what)] := hl
  have hin3 : ∀ w ∈ wsX30, w ∈ wsX5_levels := fun w h => List.mem_cons_of_mem _ (List.mem_append_right _ (h))
  have hin5 : ∀ w ∈ wsX50, w ∈ wsX5_levels := fun w h => List.mem_cons_of_mem _ (List.mem_append_left _ (List.mem_append_right _ (h)))
  refine lv_iload_n hx hb dX5_levels_0 rfl (lv_at hl 1 rfl) ?_
  refine lv_bipush (v := (-126)) hx hb dX5_levels_1 (by decide) ?_
  refine lv_bipush (v := nI 126) hx hb dX5_levels_3 (by decide) ?_
  refine zcsE (va_runS (As := [.int v, .int ((-126)), .int (nI 126)]) (rest := []) ⟨hx, hb, hml, hown, hts⟩ (d_X5_isOutside l D cI cJ v ((-126)) (nI 126) ((-126)) 126 (by decide) (by decide) s.heap.size) (va_cwS 3 hts gX5_levels_X5_isOutside rfl rfl rfl (by decide +kernel) ⟨Nat.le_of_ble_eq_true rfl, Nat.le_of_ble_eq_true rfl⟩) (zpS hK hN hZ hP hD hS hA [] rfl (by decide)) rfl rfl hl.1 rfl (lv_room (Nat.le_of_ble_eq_true rfl)) dX5_levels_5 ⟨Nat.zero_le _, Nat.zero_le _⟩) ?_
  refine lv_if_ne (tgt := 20) hx hb dX5_levels_8 (by decide) (fun c8_1 => ?_) (fun c8_1 => ?_)
  · have c8_1 := bI_nn0.mp c8_1
    refine lv_aload_n hx hb dX5_levels_20 rfl (lv_at hl 0 rfl) ?_
    refine lv_iconst (v := nI 1) hx hb dX5_levels_21 (by decide) ?_
    refine zci (wr := [(hS9, .inr (3, ft)), (hr9, .inl (cI, 14, .inl ((fun i => S (32 + i))))), (hF9, .inl (cJ, 15, .inr (.inr (.inr (.inr (zq15 q0 q1 q2 q3 q4 q5 q6 q7 q8 q9 q10 q11 q12 q13 q14)))))), (q0, .inl (cI, 253, .inl (F 0))), (q1, .inl (cI, 253, .inl (F 1))), (q2, .inl (cI, 253, .inl (F 2))), (q3, .inl (cI, 253, .inl (F 3))), (q4, .inl (cI, 253, .inl (F 4))), (q5, .inl (cI, 253, .inl (F 5))), (q6, .inl (cI, 253, .inl (F 6))), (q7, .inl (cI, 253, .inl (F 7))), (q8, .inl (cI, 253, .inl (F 8))), (q9, .inl (cI, 253, .inl (F 9))), (q10, .inl (cI, 253, .inl (F 10))), (q11, .inl (cI, 253, .inl (F 11))), (q12, .inl (cI, 253, .inl (F 12))), (q13, .inl (cI, 253, .inl (F 13))), (q14, .inl (cI, 253, .inl (F 14)))]) (va_runV (As := [.int (nI 1)]) (rest := []) ⟨hx, hb, hml, hown, hts⟩ (c_X5_refuse l D cI cJ h hE fs E 1 (by first | rfl | assumption | omega) (by first | rfl | assumption | omega) s.heap.size) (cwV 1 hts gX5_levels_X5_refuse rfl rfl rfl (by decide +kernel) ⟨Nat.le_of_ble_eq_true rfl, Nat.le_of_ble_eq_true rfl⟩) (zpV hK hN hZ hP hD hS hA [0, 19] rfl (by decide) 0 rfl rfl rfl) rfl rfl hl.1 rfl (lv_room (Nat.le_of_ble_eq_true rfl)) dX5_levels_22 ⟨Nat.zero_le _, Nat.zero_le _⟩) hP hD hS hA [0, 19] [1, 2, 3, 4, 5, 6, 7, 8, 9, 10, 11, 12, 13, 14, 15, 16, 17, 18] rfl rfl (by decide) (by decide) (fun r_4 w_3 H locs h_2 hP hD hS => ?_)
    obtain ⟨rfl, rfl⟩ := h_2
    have hP : va_P D vwCl [(hS9, .inr (3, ft)), (hr9, .inl (cI, 14, .inl ((fun i => S (32 + i))))), (hF9, .inl (cJ, 15, .inr (.inr (.inr (.inr (zq15 q0 q1 q2 q3 q4 q5 q6 q7 q8 q9 q10 q11 q12 q13 q14)))))), (q0, .inl (cI, 253, .inl (F 0))), (q1, .inl (cI, 253, .inl (F 1))), (q2, .inl (cI, 253, .inl (F 2))), (q3, .inl (cI, 253, .inl (F 3))), (q4, .inl (cI, 253, .inl (F 4))), (q5, .inl (cI, 253, .inl (F 5))), (q6, .inl (cI, 253, .inl (F 6))), (q7, .inl (cI, 253, .inl (F 7))), (q8, .inl (cI, 253, .inl (F 8))), (q9, .inl (cI, 253, .inl (F 9))), (q10, .inl (cI, 253, .inl (F 10))), (q11, .inl (cI, 253, .inl (F 11))), (q12, .inl (cI, 253, .inl (F 12))), (q13, .inl (cI, 253, .inl (F 13))), (q14, .inl (cI, 253, .inl (F 14))), (h, .inr (5, fs)), (hE, .inl (cI, 7, .inl (upd E 1 (E 1 + nI 1))))] H := hP
    have hD : va_D AA [(hS9, .inr (3, ft)), (hr9, .inl (cI, 14, .inl ((fun i => S (32 + i))))), (hF9, .inl (cJ, 15, .inr (.inr (.inr (.inr (zq15 q0 q1 q2 q3 q4 q5 q6 q7 q8 q9 q10 q11 q12 q13 q14)))))), (q0, .inl (cI, 253, .inl (F 0))), (q1, .inl (cI, 253, .inl (F 1))), (q2, .inl (cI, 253, .inl (F 2))), (q3, .inl (cI, 253, .inl (F 3))), (q4, .inl (cI, 253, .inl (F 4))), (q5, .inl (cI, 253, .inl (F 5))), (q6, .inl (cI, 253, .inl (F 6))), (q7, .inl (cI, 253, .inl (F 7))), (q8, .inl (cI, 253, .inl (F 8))), (q9, .inl (cI, 253, .inl (F 9))), (q10, .inl (cI, 253, .inl (F 10))), (q11, .inl (cI, 253, .inl (F 11))), (q12, .inl (cI, 253, .inl (F 12))), (q13, .inl (cI, 253, .inl (F 13))), (q14, .inl (cI, 253, .inl (F 14))), (h, .inr (5, fs)), (hE, .inl (cI, 7, .inl (upd E 1 (E 1 + nI 1))))] := hD
    have hP := hP.sub (ws' := [(h, .inr (5, fs)), (hS9, .inr (3, ft)), (hr9, .inl (cI, 14, .inl ((fun i => S (32 + i))))), (hF9, .inl (cJ, 15, .inr (.inr (.inr (.inr (zq15 q0 q1 q2 q3 q4 q5 q6 q7 q8 q9 q10 q11 q12 q13 q14)))))), (q0, .inl (cI, 253, .inl (F 0))), (q1, .inl (cI, 253, .inl (F 1))), (q2, .inl (cI, 253, .inl (F 2))), (q3, .inl (cI, 253, .inl (F 3))), (q4, .inl (cI, 253, .inl (F 4))), (q5, .inl (cI, 253, .inl (F 5))), (q6, .inl (cI, 253, .inl (F 6))), (q7, .inl (cI, 253, .inl (F 7))), (q8, .inl (cI, 253, .inl (F 8))), (q9, .inl (cI, 253, .inl (F 9))), (q10, .inl (cI, 253, .inl (F 10))), (q11, .inl (cI, 253, .inl (F 11))), (q12, .inl (cI, 253, .inl (F 12))), (q13, .inl (cI, 253, .inl (F 13))), (q14, .inl (cI, 253, .inl (F 14))), (hE, .inl (cI, 7, .inl (upd E 1 (E 1 + nI 1))))]) [18, 0, 1, 2, 3, 4, 5, 6, 7, 8, 9, 10, 11, 12, 13, 14, 15, 16, 17, 19] rfl
    have hD := hD.sub (ws' := [(h, .inr (5, fs)), (hS9, .inr (3, ft)), (hr9, .inl (cI, 14, .inl ((fun i => S (32 + i))))), (hF9, .inl (cJ, 15, .inr (.inr (.inr (.inr (zq15 q0 q1 q2 q3 q4 q5 q6 q7 q8 q9 q10 q11 q12 q13 q14)))))), (q0, .inl (cI, 253, .inl (F 0))), (q1, .inl (cI, 253, .inl (F 1))), (q2, .inl (cI, 253, .inl (F 2))), (q3, .inl (cI, 253, .inl (F 3))), (q4, .inl (cI, 253, .inl (F 4))), (q5, .inl (cI, 253, .inl (F 5))), (q6, .inl (cI, 253, .inl (F 6))), (q7, .inl (cI, 253, .inl (F 7))), (q8, .inl (cI, 253, .inl (F 8))), (q9, .inl (cI, 253, .inl (F 9))), (q10, .inl (cI, 253, .inl (F 10))), (q11, .inl (cI, 253, .inl (F 11))), (q12, .inl (cI, 253, .inl (F 12))), (q13, .inl (cI, 253, .inl (F 13))), (q14, .inl (cI, 253, .inl (F 14))), (hE, .inl (cI, 7, .inl (upd E 1 (E 1 + nI 1))))]) [18, 0, 1, 2, 3, 4, 5, 6, 7, 8, 9, 10, 11, 12, 13, 14, 15, 16, 17, 19] (by decide) rfl
    exact hret hP hD hS dX5_levels_25 rfl (by rw [show zo_levels S E n v what = zerrE 1 S E from if_neg (by intro h9; first | exact absurd h9.1 (by assumption) | exact absurd h9.2 (by assumption))]; exact ⟨_, rfl, rfl⟩)
  · have c8_1 := bI_nX0.mp c8_1
    refine lv_iload_n hx hb dX5_levels_11 rfl (lv_at hl 2 rfl) ?_
    refine lv_iconst (v := nI 0) hx hb dX5_levels_12 (by decide) ?_
    refine lv_iconst (v := nI 1) hx hb dX5_levels_13 (by decide) ?_
    refine zcsE (va_runS (As := [.int what, .int (nI 0), .int (nI 1)]) (rest := []) ⟨hx, hb, hml, hown, hts⟩ (d_X5_isOutside l D cI cJ what (nI 0) (nI 1) 0 1 (by decide) (by decide) s.heap.size) (va_cwS 3 hts gX5_levels_X5_isOutside rfl rfl rfl (by decide +kernel) ⟨Nat.le_of_ble_eq_true rfl, Nat.le_of_ble_eq_true rfl⟩) (zpS hK hN hZ hP hD hS hA [] rfl (by decide)) rfl rfl hl.1 rfl (lv_room (Nat.le_of_ble_eq_true rfl)) dX5_levels_14 ⟨Nat.zero_le _, Nat.zero_le _⟩) ?_
    refine lv_if_eq (tgt := 26) hx hb dX5_levels_17 (by decide) (fun c17_5 => ?_) (fun c17_5 => ?_)
    · have c17_5 := bI_nX0.mp c17_5
      obtain ⟨w, h_w, rfl⟩ : ∃ q : Nat, q ≤ 1 ∧ what = nI q := zrg_of c17_5 (by decide)
      refine lv_aload_n hx hb dX5_levels_26 rfl (lv_at hl 0 rfl) ?_
      refine va_get (ci := 5) (v := .ref hS9) (C := RX5) (T := TX5) (N := 9) hx hb hts hin5 hown hK hP 0 rfl rfl 0 (by decide) (hts (.fieldLink RX5 12 "UpAllRound" "now" "LUpAllRound$Stair;") (List.mem_of_getElem? (i := 1) rfl)) (fun _ h9 => h9) hU0 dX5_levels_27 ?_
      refine zcsE (va_runVN (As := []) (rest := []) ⟨hx, hb, hml, hown, hts⟩ (c_X3_allRises l D cI cJ hS9 hr9 ft n ((fun i => S (32 + i))) (by first | rfl | assumption | omega) (by first | rfl | assumption | omega) (by first | rfl | assumption | omega) s.heap.size) ⟨va_cnB 0 hts gX5_levels_X3_allRises_n193 rfl rfl rfl (hN (.methodLinkNest "UpAllRound" 193 yX3_allRises "UpAllRound") (List.mem_of_getElem? (i := 57) rfl)) (hts (.initialized RX3) (List.mem_of_getElem? (i := 14) rfl)) (by decide +kernel) ⟨Nat.le_of_ble_eq_true rfl, Nat.le_of_ble_eq_true rfl⟩, (hts (.instanceMethod yX3_allRises) (List.mem_of_getElem? (i := 13) rfl)), (hts (.selects RX3 yX3_allRises yX3_allRises) (List.mem_of_getElem? (i := 15) rfl))⟩ (zpV hK hN hZ hP hD hS hA [1, 2] rfl (by decide) 1 rfl rfl rfl) rfl rfl hl.1 rfl (lv_room (Nat.le_of_ble_eq_true rfl)) dX5_levels_30 ⟨Nat.zero_le _, Nat.zero_le _⟩) ?_
      refine lv_iload_n hx hb dX5_levels_33 rfl (lv_at hl 1 rfl) ?_
      refine lv_isub hx hb dX5_levels_34 ?_
      refine lv_topi (fun ov eov => ?_)
      refine lv_istore_n (lv' := [(3, .int ov), (0, .ref h), (1, .int v), (2, .int (nI w))]) hx hb dX5_levels_35 rfl hl (by decide) rfl (fun ls hl => ?_)
      refine lv_iload_n hx hb dX5_levels_36 rfl (lv_at hl 0 rfl) ?_
      refine lv_bipush (v := (-126)) hx hb dX5_levels_37 (by decide) ?_
      refine lv_bipush (v := nI 126) hx hb dX5_levels_39 (by decide) ?_
      refine zcsE (va_runS (As := [.int ov, .int ((-126)), .int (nI 126)]) (rest := []) ⟨hx, hb, hml, hown, hts⟩ (d_X5_isOutside l D cI cJ ov ((-126)) (nI 126) ((-126)) 126 (by decide) (by decide) s.heap.size) (va_cwS 3 hts gX5_levels_X5_isOutside rfl rfl rfl (by decide +kernel) ⟨Nat.le_of_ble_eq_true rfl, Nat.le_of_ble_eq_true rfl⟩) (zpS hK hN hZ hP hD hS hA [] rfl (by decide)) rfl rfl hl.1 rfl (lv_room (Nat.le_of_ble_eq_true rfl)) dX5_levels_41 ⟨Nat.zero_le _, Nat.zero_le _⟩) ?_
      refine lv_if_eq (tgt := 53) hx hb dX5_levels_44 (by decide) (fun c44_6 => ?_) (fun c44_6 => ?_)
      · have c44_6 := bI_nX0.mp c44_6
        obtain ⟨q, h_q, hqe, hqv⟩ := zq126 c44_6
        refine lv_aload_n hx hb dX5_levels_53 rfl (lv_at hl 1 rfl) ?_
        refine zcv (wr := [(hE, .inl (cI, 7, .inl E))]) (va_runV (As := []) (rest := []) ⟨hx, hb, hml, hown, hts⟩ (c_X5_countFewest l D cI cJ h hS9 hr9 hF9 fs ft S n q0 q1 q2 q3 q4 q5 q6 q7 q8 q9 q10 q11 q12 q13 q14 F (by first | rfl | assumption | omega) (by first | rfl | assumption | omega) (by first | rfl | assumption | omega) (by first | rfl | assumption | omega) (by first | rfl | assumption | omega) (by first | rfl | assumption | omega) s.heap.size) (cwV 0 hts gX5_levels_X5_countFewest rfl rfl rfl (by decide +kernel) ⟨Nat.le_of_ble_eq_true rfl, Nat.le_of_ble_eq_true rfl⟩) (zpV hK hN hZ hP hD hS hA [0, 1, 2, 3, 4, 5, 6, 7, 8, 9, 10, 11, 12, 13, 14, 15, 16, 17, 18] rfl (by decide) 0 rfl rfl rfl) rfl rfl hl.1 rfl (lv_room (Nat.le_of_ble_eq_true rfl)) dX5_levels_54 ⟨Nat.zero_le _, Nat.zero_le _⟩) hP hD hS hA [0, 1, 2, 3, 4, 5, 6, 7, 8, 9, 10, 11, 12, 13, 14, 15, 16, 17, 18] [19] rfl rfl (by decide) (by decide) (fun w_8 H locs h_7 hP hD hS => ?_)
        obtain ⟨G9_9, hG9_10, rfl⟩ := h_7
        have hP : va_P D vwCl [(hE, .inl (cI, 7, .inl E)), (h, .inr (5, fs)), (hS9, .inr (3, ft)), (hr9, .inl (cI, 14, .inl ((fun i => S (32 + i))))), (hF9, .inl (cJ, 15, .inr (.inr (.inr (.inr (zq15 q0 q1 q2 q3 q4 q5 q6 q7 q8 q9 q10 q11 q12 q13 q14)))))), (q0, .inl (cI, 253, .inl (G9_9 0))), (q1, .inl (cI, 253, .inl (G9_9 1))), (q2, .inl (cI, 253, .inl (G9_9 2))), (q3, .inl (cI, 253, .inl (G9_9 3))), (q4, .inl (cI, 253, .inl (G9_9 4))), (q5, .inl (cI, 253, .inl (G9_9 5))), (q6, .inl (cI, 253, .inl (G9_9 6))), (q7, .inl (cI, 253, .inl (G9_9 7))), (q8, .inl (cI, 253, .inl (G9_9 8))), (q9, .inl (cI, 253, .inl (G9_9 9))), (q10, .inl (cI, 253, .inl (G9_9 10))), (q11, .inl (cI, 253, .inl (G9_9 11))), (q12, .inl (cI, 253, .inl (G9_9 12))), (q13, .inl (cI, 253, .inl (G9_9 13))), (q14, .inl (cI, 253, .inl (G9_9 14)))] H := hP
        have hD : va_D AA [(hE, .inl (cI, 7, .inl E)), (h, .inr (5, fs)), (hS9, .inr (3, ft)), (hr9, .inl (cI, 14, .inl ((fun i => S (32 + i))))), (hF9, .inl (cJ, 15, .inr (.inr (.inr (.inr (zq15 q0 q1 q2 q3 q4 q5 q6 q7 q8 q9 q10 q11 q12 q13 q14)))))), (q0, .inl (cI, 253, .inl (G9_9 0))), (q1, .inl (cI, 253, .inl (G9_9 1))), (q2, .inl (cI, 253, .inl (G9_9 2))), (q3, .inl (cI, 253, .inl (G9_9 3))), (q4, .inl (cI, 253, .inl (G9_9 4))), (q5, .inl (cI, 253, .inl (G9_9 5))), (q6, .inl (cI, 253, .inl (G9_9 6))), (q7, .inl (cI, 253, .inl (G9_9 7))), (q8, .inl (cI, 253, .inl (G9_9 8))), (q9, .inl (cI, 253, .inl (G9_9 9))), (q10, .inl (cI, 253, .inl (G9_9 10))), (q11, .inl (cI, 253, .inl (G9_9 11))), (q12, .inl (cI, 253, .inl (G9_9 12))), (q13, .inl (cI, 253, .inl (G9_9 13))), (q14, .inl (cI, 253, .inl (G9_9 14)))] := hD
        refine lv_aload_n hx hb dX5_levels_57 rfl (lv_at hl 1 rfl) ?_
        refine va_get (ci := 5) (v := .ref hF9) (C := RX5) (T := TX5) (N := 9) hx hb hts hin5 hown hK hP 1 rfl rfl 6 (by decide) (hts (.fieldLink RX5 45 "UpAllRound" "fewest" "[[I") (List.mem_of_getElem? (i := 2) rfl)) (fun _ h9 => h9) hU6 dX5_levels_58 ?_
        refine lv_aload_n hx hb dX5_levels_61 rfl (lv_at hl 1 rfl) ?_
        refine va_get (ci := 5) (v := .ref hS9) (C := RX5) (T := TX5) (N := 9) hx hb hts hin5 hown hK hP 1 rfl rfl 0 (by decide) (hts (.fieldLink RX5 12 "UpAllRound" "now" "LUpAllRound$Stair;") (List.mem_of_getElem? (i := 1) rfl)) (fun _ h9 => h9) hU0 dX5_levels_62 ?_
        refine va_getN (ci := 3) (v := .int (nI n)) (C := RX3) (T := TX3) (N := 16) hx hb hts hin3 hown hK hP 2 rfl rfl 0 (by decide) (va_Nw.use rfl (hN (.fieldLinkNest "UpAllRound" 67 "UpAllRound$Stair" "steps" "I" "UpAllRound") (List.mem_of_getElem? (i := 0) rfl))) (fun _ h9 => h9) hft0 dX5_levels_65 ?_
        have hrow : ∀ n9, n9 < 15 → ∃ x : Nat, zq15 q0 q1 q2 q3 q4 q5 q6 q7 q8 q9 q10 q11 q12 q13 q14 n9 = some x ∧ ([(hE, .inl (cI, 7, .inl E)), (h, .inr (5, fs)), (hS9, .inr (3, ft)), (hr9, .inl (cI, 14, .inl ((fun i => S (32 + i))))), (hF9, .inl (cJ, 15, .inr (.inr (.inr (.inr (zq15 q0 q1 q2 q3 q4 q5 q6 q7 q8 q9 q10 q11 q12 q13 q14)))))), (q0, .inl (cI, 253, .inl (G9_9 0))), (q1, .inl (cI, 253, .inl (G9_9 1))), (q2, .inl (cI, 253, .inl (G9_9 2))), (q3, .inl (cI, 253, .inl (G9_9 3))), (q4, .inl (cI, 253, .inl (G9_9 4))), (q5, .inl (cI, 253, .inl (G9_9 5))), (q6, .inl (cI, 253, .inl (G9_9 6))), (q7, .inl (cI, 253, .inl (G9_9 7))), (q8, .inl (cI, 253, .inl (G9_9 8))), (q9, .inl (cI, 253, .inl (G9_9 9))), (q10, .inl (cI, 253, .inl (G9_9 10))), (q11, .inl (cI, 253, .inl (G9_9 11))), (q12, .inl (cI, 253, .inl (G9_9 12))), (q13, .inl (cI, 253, .inl (G9_9 13))), (q14, .inl (cI, 253, .inl (G9_9 14)))] : va_W)[5 + n9]? = some (x, .inl (cI, 253, .inl (G9_9 n9))) := by
          intro n9 h9
          rcases (show n9 = 0 ∨ n9 = 1 ∨ n9 = 2 ∨ n9 = 3 ∨ n9 = 4 ∨ n9 = 5 ∨ n9 = 6 ∨ n9 = 7 ∨ n9 = 8 ∨ n9 = 9 ∨ n9 = 10 ∨ n9 = 11 ∨ n9 = 12 ∨ n9 = 13 ∨ n9 = 14 from by omega) with rfl | rfl | rfl | rfl | rfl | rfl | rfl | rfl | rfl | rfl | rfl | rfl | rfl | rfl | rfl <;> exact ⟨_, rfl, rfl⟩
        obtain ⟨xr, hxr1, hxr2⟩ := hrow n (by omega)
        refine zaldq (t := n) (x := xr) hx hb hK hP 4 rfl (by omega) (by decide) hxr1 dX5_levels_68 ?_
        refine lv_bipush (v := nI 126) hx hb dX5_levels_69 (by decide) ?_
        refine lv_iload_n hx hb dX5_levels_71 rfl (lv_at hl 0 rfl) ?_
        refine lv_iadd hx hb dX5_levels_72 ?_
        refine zrw hqe ?_
        refine zald (t := q) hx hb hK hP (5 + n) hxr2 (by omega) (by decide) dX5_levels_73 ?_
        refine zrw (hG9_10 n (Nat.le_refl _) q (by omega)) ?_
        refine lv_istore (lv' := [(4, .int (nI (zfw (zrJ S) n ((q : Int) - 126)))), (3, .int ov), (0, .ref h), (1, .int v), (2, .int (nI w))]) hx hb dX5_levels_74 hl (by decide) rfl (fun ls hl => ?_)
        refine lv_iload hx hb dX5_levels_76 (lv_at hl 0 rfl) ?_
        refine lv_bipush (v := nI 99) hx hb dX5_levels_78 (by decide) ?_
        refine lv_icmp_lt (tgt := 89) hx hb dX5_levels_80 (by decide) (fun c80_11 => ?_) (fun c80_11 => ?_)
        · have c80_11 : (zfw (zrJ S) n ((q : Int) - 126)) < 99 := (nI_ltI (a := zfw (zrJ S) n ((q : Int) - 126)) (b := 99) (by have h91 := zfw_le (zrJ S) n ((q : Int) - 126); omega) (by have h91 := zfw_le (zrJ S) n ((q : Int) - 126); omega)).mp c80_11
          refine lv_iload_n hx hb dX5_levels_89 rfl (lv_at hl 4 rfl) ?_
          refine lv_if_ne (tgt := 98) hx hb dX5_levels_90 (by decide) (fun c90_12 => ?_) (fun c90_12 => ?_)
          · have c90_12 : ¬ (w = 0) := fun h9 => c90_12 ((nI_eq (a := w) (b := 0) (by omega) (by omega)).mpr h9)
            refine lv_aload_n hx hb dX5_levels_98 rfl (lv_at hl 2 rfl) ?_
            refine lv_iload_n hx hb dX5_levels_99 rfl (lv_at hl 1 rfl) ?_
            refine zcsE (va_runV (As := [.int ov]) (rest := []) ⟨hx, hb, hml, hown, hts⟩ (c_X5_leastSet l D cI cJ h hS9 hr9 hF9 fs ft S n q0 q1 q2 q3 q4 q5 q6 q7 q8 q9 q10 q11 q12 q13 q14 G9_9 ov (((q : Int) - 126)) (by first | rfl | assumption | omega) (by first | rfl | assumption | omega) (by first | rfl | assumption | omega) (by first | rfl | assumption | omega) (by first | rfl | assumption | omega) (by first | rfl | assumption | omega) hG9_10 hqv (by assumption) H.size) (cwV 1 hts gX5_levels_X5_leastSet rfl rfl rfl (by decide +kernel) ⟨Nat.le_of_ble_eq_true rfl, Nat.le_of_ble_eq_true rfl⟩) (zpV hK hN hZ hP hD hS hA [1, 2, 3, 4, 5, 6, 7, 8, 9, 10, 11, 12, 13, 14, 15, 16, 17, 18, 19] rfl (by decide) 1 rfl rfl rfl) rfl rfl hl.1 rfl (lv_room (Nat.le_of_ble_eq_true rfl)) dX5_levels_100 ⟨Nat.zero_le _, Nat.zero_le _⟩) ?_
            have hP := hP.sub (ws' := [(h, .inr (5, fs)), (hS9, .inr (3, ft)), (hr9, .inl (cI, 14, .inl ((fun i => S (32 + i))))), (hF9, .inl (cJ, 15, .inr (.inr (.inr (.inr (zq15 q0 q1 q2 q3 q4 q5 q6 q7 q8 q9 q10 q11 q12 q13 q14)))))), (q0, .inl (cI, 253, .inl (G9_9 0))), (q1, .inl (cI, 253, .inl (G9_9 1))), (q2, .inl (cI, 253, .inl (G9_9 2))), (q3, .inl (cI, 253, .inl (G9_9 3))), (q4, .inl (cI, 253, .inl (G9_9 4))), (q5, .inl (cI, 253, .inl (G9_9 5))), (q6, .inl (cI, 253, .inl (G9_9 6))), (q7, .inl (cI, 253, .inl (G9_9 7))), (q8, .inl (cI, 253, .inl (G9_9 8))), (q9, .inl (cI, 253, .inl (G9_9 9))), (q10, .inl (cI, 253, .inl (G9_9 10))), (q11, .inl (cI, 253, .inl (G9_9 11))), (q12, .inl (cI, 253, .inl (G9_9 12))), (q13, .inl (cI, 253, .inl (G9_9 13))), (q14, .inl (cI, 253, .inl (G9_9 14))), (hE, .inl (cI, 7, .inl E))]) [1, 2, 3, 4, 5, 6, 7, 8, 9, 10, 11, 12, 13, 14, 15, 16, 17, 18, 19, 0] rfl
            have hD := hD.sub (ws' := [(h, .inr (5, fs)), (hS9, .inr (3, ft)), (hr9, .inl (cI, 14, .inl ((fun i => S (32 + i))))), (hF9, .inl (cJ, 15, .inr (.inr (.inr (.inr (zq15 q0 q1 q2 q3 q4 q5 q6 q7 q8 q9 q10 q11 q12 q13 q14)))))), (q0, .inl (cI, 253, .inl (G9_9 0))), (q1, .inl (cI, 253, .inl (G9_9 1))), (q2, .inl (cI, 253, .inl (G9_9 2))), (q3, .inl (cI, 253, .inl (G9_9 3))), (q4, .inl (cI, 253, .inl (G9_9 4))), (q5, .inl (cI, 253, .inl (G9_9 5))), (q6, .inl (cI, 253, .inl (G9_9 6))), (q7, .inl (cI, 253, .inl (G9_9 7))), (q8, .inl (cI, 253, .inl (G9_9 8))), (q9, .inl (cI, 253, .inl (G9_9 9))), (q10, .inl (cI, 253, .inl (G9_9 10))), (q11, .inl (cI, 253, .inl (G9_9 11))), (q12, .inl (cI, 253, .inl (G9_9 12))), (q13, .inl (cI, 253, .inl (G9_9 13))), (q14, .inl (cI, 253, .inl (G9_9 14))), (hE, .inl (cI, 7, .inl E))]) [1, 2, 3, 4, 5, 6, 7, 8, 9, 10, 11, 12, 13, 14, 15, 16, 17, 18, 19, 0] (by decide) rfl
            exact hret hP hD hS dX5_levels_103 rfl (by (have hzv : zov S n v = ov.toInt := (by rw [eov]; exact (zov_I hri (by omega) (by assumption)).symm)); (have hzq : zov S n v = (q : Int) - 126 := hzv.trans hqv); rw [show zo_levels S E n v (nI w) = (nI (zls (zrJ S) n ((q : Int) - 126)), S, E) from by rw [zo_levels, if_pos ⟨by assumption, by assumption⟩, hzq, if_pos (by omega), if_neg (fun h9 => by have h91 := (nI_eq (by omega) (by omega)).mp h9; omega)]]; exact ⟨_, rfl, rfl⟩)
          · have c90_12 : w = 0 := (nI_eq (a := w) (b := 0) (by omega) (by omega)).mp c90_12
            refine lv_iload hx hb dX5_levels_93 (lv_at hl 0 rfl) ?_
            refine lv_goto (tgt := 103) hx hb dX5_levels_95 (by decide) ?_
            have hP := hP.sub (ws' := [(h, .inr (5, fs)), (hS9, .inr (3, ft)), (hr9, .inl (cI, 14, .inl ((fun i => S (32 + i))))), (hF9, .inl (cJ, 15, .inr (.inr (.inr (.inr (zq15 q0 q1 q2 q3 q4 q5 q6 q7 q8 q9 q10 q11 q12 q13 q14)))))), (q0, .inl (cI, 253, .inl (G9_9 0))), (q1, .inl (cI, 253, .inl (G9_9 1))), (q2, .inl (cI, 253, .inl (G9_9 2))), (q3, .inl (cI, 253, .inl (G9_9 3))), (q4, .inl (cI, 253, .inl (G9_9 4))), (q5, .inl (cI, 253, .inl (G9_9 5))), (q6, .inl (cI, 253, .inl (G9_9 6))), (q7, .inl (cI, 253, .inl (G9_9 7))), (q8, .inl (cI, 253, .inl (G9_9 8))), (q9, .inl (cI, 253, .inl (G9_9 9))), (q10, .inl (cI, 253, .inl (G9_9 10))), (q11, .inl (cI, 253, .inl (G9_9 11))), (q12, .inl (cI, 253, .inl (G9_9 12))), (q13, .inl (cI, 253, .inl (G9_9 13))), (q14, .inl (cI, 253, .inl (G9_9 14))), (hE, .inl (cI, 7, .inl E))]) [1, 2, 3, 4, 5, 6, 7, 8, 9, 10, 11, 12, 13, 14, 15, 16, 17, 18, 19, 0] rfl
            have hD := hD.sub (ws' := [(h, .inr (5, fs)), (hS9, .inr (3, ft)), (hr9, .inl (cI, 14, .inl ((fun i => S (32 + i))))), (hF9, .inl (cJ, 15, .inr (.inr (.inr (.inr (zq15 q0 q1 q2 q3 q4 q5 q6 q7 q8 q9 q10 q11 q12 q13 q14)))))), (q0, .inl (cI, 253, .inl (G9_9 0))), (q1, .inl (cI, 253, .inl (G9_9 1))), (q2, .inl (cI, 253, .inl (G9_9 2))), (q3, .inl (cI, 253, .inl (G9_9 3))), (q4, .inl (cI, 253, .inl (G9_9 4))), (q5, .inl (cI, 253, .inl (G9_9 5))), (q6, .inl (cI, 253, .inl (G9_9 6))), (q7, .inl (cI, 253, .inl (G9_9 7))), (q8, .inl (cI, 253, .inl (G9_9 8))), (q9, .inl (cI, 253, .inl (G9_9 9))), (q10, .inl (cI, 253, .inl (G9_9 10))), (q11, .inl (cI, 253, .inl (G9_9 11))), (q12, .inl (cI, 253, .inl (G9_9 12))), (q13, .inl (cI, 253, .inl (G9_9 13))), (q14, .inl (cI, 253, .inl (G9_9 14))), (hE, .inl (cI, 7, .inl E))]) [1, 2, 3, 4, 5, 6, 7, 8, 9, 10, 11, 12, 13, 14, 15, 16, 17, 18, 19, 0] (by decide) rfl
            exact hret hP hD hS dX5_levels_103 rfl (by (have hzv : zov S n v = ov.toInt := (by rw [eov]; exact (zov_I hri (by omega) (by assumption)).symm)); (have hzq : zov S n v = (q : Int) - 126 := hzv.trans hqv); rw [show zo_levels S E n v (nI w) = (nI (zfw (zrJ S) n ((q : Int) - 126)), S, E) from by rw [zo_levels, if_pos ⟨by assumption, by assumption⟩, hzq, if_pos (by omega), if_pos (by rw [show w = 0 by omega])]]; exact ⟨_, rfl, rfl⟩)
        · have c80_11 : ¬ ((zfw (zrJ S) n ((q : Int) - 126)) < 99) := fun h9 => c80_11 ((nI_ltI (a := zfw (zrJ S) n ((q : Int) - 126)) (b := 99) (by have h91 := zfw_le (zrJ S) n ((q : Int) - 126); omega) (by have h91 := zfw_le (zrJ S) n ((q : Int) - 126); omega)).mpr h9)
          refine lv_aload_n hx hb dX5_levels_83 rfl (lv_at hl 2 rfl) ?_
          refine lv_iconst (v := nI 2) hx hb dX5_levels_84 (by decide) ?_
          refine zci (wr := [(hS9, .inr (3, ft)), (hr9, .inl (cI, 14, .inl ((fun i => S (32 + i))))), (hF9, .inl (cJ, 15, .inr (.inr (.inr (.inr (zq15 q0 q1 q2 q3 q4 q5 q6 q7 q8 q9 q10 q11 q12 q13 q14)))))), (q0, .inl (cI, 253, .inl (G9_9 0))), (q1, .inl (cI, 253, .inl (G9_9 1))), (q2, .inl (cI, 253, .inl (G9_9 2))), (q3, .inl (cI, 253, .inl (G9_9 3))), (q4, .inl (cI, 253, .inl (G9_9 4))), (q5, .inl (cI, 253, .inl (G9_9 5))), (q6, .inl (cI, 253, .inl (G9_9 6))), (q7, .inl (cI, 253, .inl (G9_9 7))), (q8, .inl (cI, 253, .inl (G9_9 8))), (q9, .inl (cI, 253, .inl (G9_9 9))), (q10, .inl (cI, 253, .inl (G9_9 10))), (q11, .inl (cI, 253, .inl (G9_9 11))), (q12, .inl (cI, 253, .inl (G9_9 12))), (q13, .inl (cI, 253, .inl (G9_9 13))), (q14, .inl (cI, 253, .inl (G9_9 14)))]) (va_runV (As := [.int (nI 2)]) (rest := []) ⟨hx, hb, hml, hown, hts⟩ (c_X5_refuse l D cI cJ h hE fs E 2 (by first | rfl | assumption | omega) (by first | rfl | assumption | omega) H.size) (cwV 1 hts gX5_levels_X5_refuse rfl rfl rfl (by decide +kernel) ⟨Nat.le_of_ble_eq_true rfl, Nat.le_of_ble_eq_true rfl⟩) (zpV hK hN hZ hP hD hS hA [1, 0] rfl (by decide) 1 rfl rfl rfl) rfl rfl hl.1 rfl (lv_room (Nat.le_of_ble_eq_true rfl)) dX5_levels_85 ⟨Nat.zero_le _, Nat.zero_le _⟩) hP hD hS hA [1, 0] [2, 3, 4, 5, 6, 7, 8, 9, 10, 11, 12, 13, 14, 15, 16, 17, 18, 19] rfl rfl (by decide) (by decide) (fun r_15 w_14 H locs h_13 hP hD hS => ?_)
          obtain ⟨rfl, rfl⟩ := h_13
          have hP : va_P D vwCl [(hS9, .inr (3, ft)), (hr9, .inl (cI, 14, .inl ((fun i => S (32 + i))))), (hF9, .inl (cJ, 15, .inr (.inr (.inr (.inr (zq15 q0 q1 q2 q3 q4 q5 q6 q7 q8 q9 q10 q11 q12 q13 q14)))))), (q0, .inl (cI, 253, .inl (G9_9 0))), (q1, .inl (cI, 253, .inl (G9_9 1))), (q2, .inl (cI, 253, .inl (G9_9 2))), (q3, .inl (cI, 253, .inl (G9_9 3))), (q4, .inl (cI, 253, .inl (G9_9 4))), (q5, .inl (cI, 253, .inl (G9_9 5))), (q6, .inl (cI, 253, .inl (G9_9 6))), (q7, .inl (cI, 253, .inl (G9_9 7))), (q8, .inl (cI, 253, .inl (G9_9 8))), (q9, .inl (cI, 253, .inl (G9_9 9))), (q10, .inl (cI, 253, .inl (G9_9 10))), (q11, .inl (cI, 253, .inl (G9_9 11))), (q12, .inl (cI, 253, .inl (G9_9 12))), (q13, .inl (cI, 253, .inl (G9_9 13))), (q14, .inl (cI, 253, .inl (G9_9 14))), (h, .inr (5, fs)), (hE, .inl (cI, 7, .inl (upd E 2 (E 2 + nI 1))))] H := hP
          have hD : va_D AA [(hS9, .inr (3, ft)), (hr9, .inl (cI, 14, .inl ((fun i => S (32 + i))))), (hF9, .inl (cJ, 15, .inr (.inr (.inr (.inr (zq15 q0 q1 q2 q3 q4 q5 q6 q7 q8 q9 q10 q11 q12 q13 q14)))))), (q0, .inl (cI, 253, .inl (G9_9 0))), (q1, .inl (cI, 253, .inl (G9_9 1))), (q2, .inl (cI, 253, .inl (G9_9 2))), (q3, .inl (cI, 253, .inl (G9_9 3))), (q4, .inl (cI, 253, .inl (G9_9 4))), (q5, .inl (cI, 253, .inl (G9_9 5))), (q6, .inl (cI, 253, .inl (G9_9 6))), (q7, .inl (cI, 253, .inl (G9_9 7))), (q8, .inl (cI, 253, .inl (G9_9 8))), (q9, .inl (cI, 253, .inl (G9_9 9))), (q10, .inl (cI, 253, .inl (G9_9 10))), (q11, .inl (cI, 253, .inl (G9_9 11))), (q12, .inl (cI, 253, .inl (G9_9 12))), (q13, .inl (cI, 253, .inl (G9_9 13))), (q14, .inl (cI, 253, .inl (G9_9 14))), (h, .inr (5, fs)), (hE, .inl (cI, 7, .inl (upd E 2 (E 2 + nI 1))))] := hD
          have hP := hP.sub (ws' := [(h, .inr (5, fs)), (hS9, .inr (3, ft)), (hr9, .inl (cI, 14, .inl ((fun i => S (32 + i))))), (hF9, .inl (cJ, 15, .inr (.inr (.inr (.inr (zq15 q0 q1 q2 q3 q4 q5 q6 q7 q8 q9 q10 q11 q12 q13 q14)))))), (q0, .inl (cI, 253, .inl (G9_9 0))), (q1, .inl (cI, 253, .inl (G9_9 1))), (q2, .inl (cI, 253, .inl (G9_9 2))), (q3, .inl (cI, 253, .inl (G9_9 3))), (q4, .inl (cI, 253, .inl (G9_9 4))), (q5, .inl (cI, 253, .inl (G9_9 5))), (q6, .inl (cI, 253, .inl (G9_9 6))), (q7, .inl (cI, 253, .inl (G9_9 7))), (q8, .inl (cI, 253, .inl (G9_9 8))), (q9, .inl (cI, 253, .inl (G9_9 9))), (q10, .inl (cI, 253, .inl (G9_9 10))), (q11, .inl (cI, 253, .inl (G9_9 11))), (q12, .inl (cI, 253, .inl (G9_9 12))), (q13, .inl (cI, 253, .inl (G9_9 13))), (q14, .inl (cI, 253, .inl (G9_9 14))), (hE, .inl (cI, 7, .inl (upd E 2 (E 2 + nI 1))))]) [18, 0, 1, 2, 3, 4, 5, 6, 7, 8, 9, 10, 11, 12, 13, 14, 15, 16, 17, 19] rfl
          have hD := hD.sub (ws' := [(h, .inr (5, fs)), (hS9, .inr (3, ft)), (hr9, .inl (cI, 14, .inl ((fun i => S (32 + i))))), (hF9, .inl (cJ, 15, .inr (.inr (.inr (.inr (zq15 q0 q1 q2 q3 q4 q5 q6 q7 q8 q9 q10 q11 q12 q13 q14)))))), (q0, .inl (cI, 253, .inl (G9_9 0))), (q1, .inl (cI, 253, .inl (G9_9 1))), (q2, .inl (cI, 253, .inl (G9_9 2))), (q3, .inl (cI, 253, .inl (G9_9 3))), (q4, .inl (cI, 253, .inl (G9_9 4))), (q5, .inl (cI, 253, .inl (G9_9 5))), (q6, .inl (cI, 253, .inl (G9_9 6))), (q7, .inl (cI, 253, .inl (G9_9 7))), (q8, .inl (cI, 253, .inl (G9_9 8))), (q9, .inl (cI, 253, .inl (G9_9 9))), (q10, .inl (cI, 253, .inl (G9_9 10))), (q11, .inl (cI, 253, .inl (G9_9 11))), (q12, .inl (cI, 253, .inl (G9_9 12))), (q13, .inl (cI, 253, .inl (G9_9 13))), (q14, .inl (cI, 253, .inl (G9_9 14))), (hE, .inl (cI, 7, .inl (upd E 2 (E 2 + nI 1))))]) [18, 0, 1, 2, 3, 4, 5, 6, 7, 8, 9, 10, 11, 12, 13, 14, 15, 16, 17, 19] (by decide) rfl
          exact hret hP hD hS dX5_levels_88 rfl (by (have hzv : zov S n v = ov.toInt := (by rw [eov]; exact (zov_I hri (by omega) (by assumption)).symm)); (have hzq : zov S n v = (q : Int) - 126 := hzv.trans hqv); rw [show zo_levels S E n v (nI w) = zerrE 2 S E from by rw [zo_levels, if_pos ⟨by assumption, by assumption⟩, hzq, if_neg (by omega)]]; exact ⟨_, rfl, rfl⟩)
      · have c44_6 := bI_nn0.mp c44_6
        refine lv_aload_n hx hb dX5_levels_47 rfl (lv_at hl 1 rfl) ?_
        refine lv_iconst (v := nI 2) hx hb dX5_levels_48 (by decide) ?_
        refine zci (wr := [(hS9, .inr (3, ft)), (hr9, .inl (cI, 14, .inl ((fun i => S (32 + i))))), (hF9, .inl (cJ, 15, .inr (.inr (.inr (.inr (zq15 q0 q1 q2 q3 q4 q5 q6 q7 q8 q9 q10 q11 q12 q13 q14)))))), (q0, .inl (cI, 253, .inl (F 0))), (q1, .inl (cI, 253, .inl (F 1))), (q2, .inl (cI, 253, .inl (F 2))), (q3, .inl (cI, 253, .inl (F 3))), (q4, .inl (cI, 253, .inl (F 4))), (q5, .inl (cI, 253, .inl (F 5))), (q6, .inl (cI, 253, .inl (F 6))), (q7, .inl (cI, 253, .inl (F 7))), (q8, .inl (cI, 253, .inl (F 8))), (q9, .inl (cI, 253, .inl (F 9))), (q10, .inl (cI, 253, .inl (F 10))), (q11, .inl (cI, 253, .inl (F 11))), (q12, .inl (cI, 253, .inl (F 12))), (q13, .inl (cI, 253, .inl (F 13))), (q14, .inl (cI, 253, .inl (F 14)))]) (va_runV (As := [.int (nI 2)]) (rest := []) ⟨hx, hb, hml, hown, hts⟩ (c_X5_refuse l D cI cJ h hE fs E 2 (by first | rfl | assumption | omega) (by first | rfl | assumption | omega) s.heap.size) (cwV 1 hts gX5_levels_X5_refuse rfl rfl rfl (by decide +kernel) ⟨Nat.le_of_ble_eq_true rfl, Nat.le_of_ble_eq_true rfl⟩) (zpV hK hN hZ hP hD hS hA [0, 19] rfl (by decide) 0 rfl rfl rfl) rfl rfl hl.1 rfl (lv_room (Nat.le_of_ble_eq_true rfl)) dX5_levels_49 ⟨Nat.zero_le _, Nat.zero_le _⟩) hP hD hS hA [0, 19] [1, 2, 3, 4, 5, 6, 7, 8, 9, 10, 11, 12, 13, 14, 15, 16, 17, 18] rfl rfl (by decide) (by decide) (fun r_18 w_17 H locs h_16 hP hD hS => ?_)
        obtain ⟨rfl, rfl⟩ := h_16
        have hP : va_P D vwCl [(hS9, .inr (3, ft)), (hr9, .inl (cI, 14, .inl ((fun i => S (32 + i))))), (hF9, .inl (cJ, 15, .inr (.inr (.inr (.inr (zq15 q0 q1 q2 q3 q4 q5 q6 q7 q8 q9 q10 q11 q12 q13 q14)))))), (q0, .inl (cI, 253, .inl (F 0))), (q1, .inl (cI, 253, .inl (F 1))), (q2, .inl (cI, 253, .inl (F 2))), (q3, .inl (cI, 253, .inl (F 3))), (q4, .inl (cI, 253, .inl (F 4))), (q5, .inl (cI, 253, .inl (F 5))), (q6, .inl (cI, 253, .inl (F 6))), (q7, .inl (cI, 253, .inl (F 7))), (q8, .inl (cI, 253, .inl (F 8))), (q9, .inl (cI, 253, .inl (F 9))), (q10, .inl (cI, 253, .inl (F 10))), (q11, .inl (cI, 253, .inl (F 11))), (q12, .inl (cI, 253, .inl (F 12))), (q13, .inl (cI, 253, .inl (F 13))), (q14, .inl (cI, 253, .inl (F 14))), (h, .inr (5, fs)), (hE, .inl (cI, 7, .inl (upd E 2 (E 2 + nI 1))))] H := hP
        have hD : va_D AA [(hS9, .inr (3, ft)), (hr9, .inl (cI, 14, .inl ((fun i => S (32 + i))))), (hF9, .inl (cJ, 15, .inr (.inr (.inr (.inr (zq15 q0 q1 q2 q3 q4 q5 q6 q7 q8 q9 q10 q11 q12 q13 q14)))))), (q0, .inl (cI, 253, .inl (F 0))), (q1, .inl (cI, 253, .inl (F 1))), (q2, .inl (cI, 253, .inl (F 2))), (q3, .inl (cI, 253, .inl (F 3))), (q4, .inl (cI, 253, .inl (F 4))), (q5, .inl (cI, 253, .inl (F 5))), (q6, .inl (cI, 253, .inl (F 6))), (q7, .inl (cI, 253, .inl (F 7))), (q8, .inl (cI, 253, .inl (F 8))), (q9, .inl (cI, 253, .inl (F 9))), (q10, .inl (cI, 253, .inl (F 10))), (q11, .inl (cI, 253, .inl (F 11))), (q12, .inl (cI, 253, .inl (F 12))), (q13, .inl (cI, 253, .inl (F 13))), (q14, .inl (cI, 253, .inl (F 14))), (h, .inr (5, fs)), (hE, .inl (cI, 7, .inl (upd E 2 (E 2 + nI 1))))] := hD
        have hP := hP.sub (ws' := [(h, .inr (5, fs)), (hS9, .inr (3, ft)), (hr9, .inl (cI, 14, .inl ((fun i => S (32 + i))))), (hF9, .inl (cJ, 15, .inr (.inr (.inr (.inr (zq15 q0 q1 q2 q3 q4 q5 q6 q7 q8 q9 q10 q11 q12 q13 q14)))))), (q0, .inl (cI, 253, .inl (F 0))), (q1, .inl (cI, 253, .inl (F 1))), (q2, .inl (cI, 253, .inl (F 2))), (q3, .inl (cI, 253, .inl (F 3))), (q4, .inl (cI, 253, .inl (F 4))), (q5, .inl (cI, 253, .inl (F 5))), (q6, .inl (cI, 253, .inl (F 6))), (q7, .inl (cI, 253, .inl (F 7))), (q8, .inl (cI, 253, .inl (F 8))), (q9, .inl (cI, 253, .inl (F 9))), (q10, .inl (cI, 253, .inl (F 10))), (q11, .inl (cI, 253, .inl (F 11))), (q12, .inl (cI, 253, .inl (F 12))), (q13, .inl (cI, 253, .inl (F 13))), (q14, .inl (cI, 253, .inl (F 14))), (hE, .inl (cI, 7, .inl (upd E 2 (E 2 + nI 1))))]) [18, 0, 1, 2, 3, 4, 5, 6, 7, 8, 9, 10, 11, 12, 13, 14, 15, 16, 17, 19] rfl
        have hD := hD.sub (ws' := [(h, .inr (5, fs)), (hS9, .inr (3, ft)), (hr9, .inl (cI, 14, .inl ((fun i => S (32 + i))))), (hF9, .inl (cJ, 15, .inr (.inr (.inr (.inr (zq15 q0 q1 q2 q3 q4 q5 q6 q7 q8 q9 q10 q11 q12 q13 q14)))))), (q0, .inl (cI, 253, .inl (F 0))), (q1, .inl (cI, 253, .inl (F 1))), (q2, .inl (cI, 253, .inl (F 2))), (q3, .inl (cI, 253, .inl (F 3))), (q4, .inl (cI, 253, .inl (F 4))), (q5, .inl (cI, 253, .inl (F 5))), (q6, .inl (cI, 253, .inl (F 6))), (q7, .inl (cI, 253, .inl (F 7))), (q8, .inl (cI, 253, .inl (F 8))), (q9, .inl (cI, 253, .inl (F 9))), (q10, .inl (cI, 253, .inl (F 10))), (q11, .inl (cI, 253, .inl (F 11))), (q12, .inl (cI, 253, .inl (F 12))), (q13, .inl (cI, 253, .inl (F 13))), (q14, .inl (cI, 253, .inl (F 14))), (hE, .inl (cI, 7, .inl (upd E 2 (E 2 + nI 1))))]) [18, 0, 1, 2, 3, 4, 5, 6, 7, 8, 9, 10, 11, 12, 13, 14, 15, 16, 17, 19] (by decide) rfl
        exact hret hP hD hS dX5_levels_52 rfl (by (have hzv : zov S n v = ov.toInt := (by rw [eov]; exact (zov_I hri (by omega) (by assumption)).symm)); (have hfar : ¬ zfw (zrJ S) n (zov S n v) < 99 := (by intro h9; have h91 := zfw_rg hri hn14 h9; rw [hzv] at h91; exact absurd (show zrg (-126) 126 ov from h91) (by assumption))); rw [show zo_levels S E n v (nI w) = zerrE 2 S E from by rw [zo_levels, if_pos ⟨by assumption, by assumption⟩, if_neg hfar]]; exact ⟨_, rfl, rfl⟩)
    · have c17_5 := bI_nn0.mp c17_5
      refine lv_aload_n hx hb dX5_levels_20 rfl (lv_at hl 0 rfl) ?_
      refine lv_iconst (v := nI 1) hx hb dX5_levels_21 (by decide) ?_
      refine zci (wr := [(hS9, .inr (3, ft)), (hr9, .inl (cI, 14, .inl ((fun i => S (32 + i))))), (hF9, .inl (cJ, 15, .inr (.inr (.inr (.inr (zq15 q0 q1 q2 q3 q4 q5 q6 q7 q8 q9 q10 q11 q12 q13 q14)))))), (q0, .inl (cI, 253, .inl (F 0))), (q1, .inl (cI, 253, .inl (F 1))), (q2, .inl (cI, 253, .inl (F 2))), (q3, .inl (cI, 253, .inl (F 3))), (q4, .inl (cI, 253, .inl (F 4))), (q5, .inl (cI, 253, .inl (F 5))), (q6, .inl (cI, 253, .inl (F 6))), (q7, .inl (cI, 253, .inl (F 7))), (q8, .inl (cI, 253, .inl (F 8))), (q9, .inl (cI, 253, .inl (F 9))), (q10, .inl (cI, 253, .inl (F 10))), (q11, .inl (cI, 253, .inl (F 11))), (q12, .inl (cI, 253, .inl (F 12))), (q13, .inl (cI, 253, .inl (F 13))), (q14, .inl (cI, 253, .inl (F 14)))]) (va_runV (As := [.int (nI 1)]) (rest := []) ⟨hx, hb, hml, hown, hts⟩ (c_X5_refuse l D cI cJ h hE fs E 1 (by first | rfl | assumption | omega) (by first | rfl | assumption | omega) s.heap.size) (cwV 1 hts gX5_levels_X5_refuse rfl rfl rfl (by decide +kernel) ⟨Nat.le_of_ble_eq_true rfl, Nat.le_of_ble_eq_true rfl⟩) (zpV hK hN hZ hP hD hS hA [0, 19] rfl (by decide) 0 rfl rfl rfl) rfl rfl hl.1 rfl (lv_room (Nat.le_of_ble_eq_true rfl)) dX5_levels_22 ⟨Nat.zero_le _, Nat.zero_le _⟩) hP hD hS hA [0, 19] [1, 2, 3, 4, 5, 6, 7, 8, 9, 10, 11, 12, 13, 14, 15, 16, 17, 18] rfl rfl (by decide) (by decide) (fun r_21 w_20 H locs h_19 hP hD hS => ?_)
      obtain ⟨rfl, rfl⟩ := h_19
      have hP : va_P D vwCl [(hS9, .inr (3, ft)), (hr9, .inl (cI, 14, .inl ((fun i => S (32 + i))))), (hF9, .inl (cJ, 15, .inr (.inr (.inr (.inr (zq15 q0 q1 q2 q3 q4 q5 q6 q7 q8 q9 q10 q11 q12 q13 q14)))))), (q0, .inl (cI, 253, .inl (F 0))), (q1, .inl (cI, 253, .inl (F 1))), (q2, .inl (cI, 253, .inl (F 2))), (q3, .inl (cI, 253, .inl (F 3))), (q4, .inl (cI, 253, .inl (F 4))), (q5, .inl (cI, 253, .inl (F 5))), (q6, .inl (cI, 253, .inl (F 6))), (q7, .inl (cI, 253, .inl (F 7))), (q8, .inl (cI, 253, .inl (F 8))), (q9, .inl (cI, 253, .inl (F 9))), (q10, .inl (cI, 253, .inl (F 10))), (q11, .inl (cI, 253, .inl (F 11))), (q12, .inl (cI, 253, .inl (F 12))), (q13, .inl (cI, 253, .inl (F 13))), (q14, .inl (cI, 253, .inl (F 14))), (h, .inr (5, fs)), (hE, .inl (cI, 7, .inl (upd E 1 (E 1 + nI 1))))] H := hP
      have hD : va_D AA [(hS9, .inr (3, ft)), (hr9, .inl (cI, 14, .inl ((fun i => S (32 + i))))), (hF9, .inl (cJ, 15, .inr (.inr (.inr (.inr (zq15 q0 q1 q2 q3 q4 q5 q6 q7 q8 q9 q10 q11 q12 q13 q14)))))), (q0, .inl (cI, 253, .inl (F 0))), (q1, .inl (cI, 253, .inl (F 1))), (q2, .inl (cI, 253, .inl (F 2))), (q3, .inl (cI, 253, .inl (F 3))), (q4, .inl (cI, 253, .inl (F 4))), (q5, .inl (cI, 253, .inl (F 5))), (q6, .inl (cI, 253, .inl (F 6))), (q7, .inl (cI, 253, .inl (F 7))), (q8, .inl (cI, 253, .inl (F 8))), (q9, .inl (cI, 253, .inl (F 9))), (q10, .inl (cI, 253, .inl (F 10))), (q11, .inl (cI, 253, .inl (F 11))), (q12, .inl (cI, 253, .inl (F 12))), (q13, .inl (cI, 253, .inl (F 13))), (q14, .inl (cI, 253, .inl (F 14))), (h, .inr (5, fs)), (hE, .inl (cI, 7, .inl (upd E 1 (E 1 + nI 1))))] := hD
      have hP := hP.sub (ws' := [(h, .inr (5, fs)), (hS9, .inr (3, ft)), (hr9, .inl (cI, 14, .inl ((fun i => S (32 + i))))), (hF9, .inl (cJ, 15, .inr (.inr (.inr (.inr (zq15 q0 q1 q2 q3 q4 q5 q6 q7 q8 q9 q10 q11 q12 q13 q14)))))), (q0, .inl (cI, 253, .inl (F 0))), (q1, .inl (cI, 253, .inl (F 1))), (q2, .inl (cI, 253, .inl (F 2))), (q3, .inl (cI, 253, .inl (F 3))), (q4, .inl (cI, 253, .inl (F 4))), (q5, .inl (cI, 253, .inl (F 5))), (q6, .inl (cI, 253, .inl (F 6))), (q7, .inl (cI, 253, .inl (F 7))), (q8, .inl (cI, 253, .inl (F 8))), (q9, .inl (cI, 253, .inl (F 9))), (q10, .inl (cI, 253, .inl (F 10))), (q11, .inl (cI, 253, .inl (F 11))), (q12, .inl (cI, 253, .inl (F 12))), (q13, .inl (cI, 253, .inl (F 13))), (q14, .inl (cI, 253, .inl (F 14))), (hE, .inl (cI, 7, .inl (upd E 1 (E 1 + nI 1))))]) [18, 0, 1, 2, 3, 4, 5, 6, 7, 8, 9, 10, 11, 12, 13, 14, 15, 16, 17, 19] rfl
      have hD := hD.sub (ws' := [(h, .inr (5, fs)), (hS9, .inr (3, ft)), (hr9, .inl (cI, 14, .inl ((fun i => S (32 + i))))), (hF9, .inl (cJ, 15, .inr (.inr (.inr (.inr (zq15 q0 q1 q2 q3 q4 q5 q6 q7 q8 q9 q10 q11 q12 q13 q14)))))), (q0, .inl (cI, 253, .inl (F 0))), (q1, .inl (cI, 253, .inl (F 1))), (q2, .inl (cI, 253, .inl (F 2))), (q3, .inl (cI, 253, .inl (F 3))), (q4, .inl (cI, 253, .inl (F 4))), (q5, .inl (cI, 253, .inl (F 5))), (q6, .inl (cI, 253, .inl (F 6))), (q7, .inl (cI, 253, .inl (F 7))), (q8, .inl (cI, 253, .inl (F 8))), (q9, .inl (cI, 253, .inl (F 9))), (q10, .inl (cI, 253, .inl (F 10))), (q11, .inl (cI, 253, .inl (F 11))), (q12, .inl (cI, 253, .inl (F 12))), (q13, .inl (cI, 253, .inl (F 13))), (q14, .inl (cI, 253, .inl (F 14))), (hE, .inl (cI, 7, .inl (upd E 1 (E 1 + nI 1))))]) [18, 0, 1, 2, 3, 4, 5, 6, 7, 8, 9, 10, 11, 12, 13, 14, 15, 16, 17, 19] (by decide) rfl
      exact hret hP hD hS dX5_levels_25 rfl (by rw [show zo_levels S E n v what = zerrE 1 S E from if_neg (by intro h9; first | exact absurd h9.1 (by assumption) | exact absurd h9.2 (by assumption))]; exact ⟨_, rfl, rfl⟩)
