
theorem znet (x u d : Nat) (hd : d ≤ 4) : nI x + (nI u - nI d) = nI (x + u + 4 - d) - nI 4 := by
  have e : nI (x + u + 4 - d) = nI (x + u + 4) - nI d := (pk_sub (by omega)).symm
  rw [e, ← nI_add, ← nI_add]
  generalize nI 4 = w
  generalize nI x = a
  generalize nI u = b
  generalize nI d = c
  rw [Int32.sub_eq_add_neg, Int32.sub_eq_add_neg, Int32.sub_eq_add_neg, Int32.add_assoc (a + b + w), Int32.add_assoc (a + b), Int32.add_assoc a, Int32.add_comm (-c) (-w), ← Int32.add_assoc w, ← Int32.sub_eq_add_neg w, Int32.sub_self, Int32.zero_add]
set_option maxHeartbeats 4000000 in
set_option maxRecDepth 100000 in
theorem c_X3_pass (l : Launch) (D : va_G) (cI cJ : ClassId) (h : Nat) (hr9 : Nat) (hk : Nat) (hm : Nat) (hp : Nat) (hh : Nat) (hw : Nat) (hv : Nat) (ht : Nat) (hq : Nat) (hc : Nat) (hst : Nat) (z : Int32) (tp : Int32) (wts : Int32) (C : Nat → Int32) (ST : Nat → Int32) (d : zDt) (k : Nat) (q : Nat) (hcd : zCD C d.2.1 d.2.2.1) (hok : zOK d k) (hq6 : q ≤ 600) : zMv l yX3_pass wsX3_pass ({ frames := 5, cells := 0, slots := 0, locals := 120 } : Room) D [(cI, .int), (cJ, .array .int)] [.ref h] [(h, .inr (3, [.int (nI d.1), .ref hr9, .int d.2.2.2.2.1, .int (nI (zmi d + q)), .int (nI k), .ref hk, .ref hm, .ref hp, .ref hh, .ref hw, .ref hv, .int z, .ref ht, .int tp, .ref hq, .int wts])), (hk, .inl (cI, 6, .inl d.2.2.2.2.2.1)), (hm, .inl (cI, 6, .inl d.2.2.2.2.2.2.1)), (hp, .inl (cI, 6, .inl ((zPm d k 0 q)))), (hh, .inl (cI, 6, .inl ((zGm d k 0 q)))), (hr9, .inl (cI, 14, .inl d.2.2.2.1)), (hw, .inr (0, [.ref hc, .int (nI d.2.1), .ref hst])), (hc, .inl (cI, 60, .inl C)), (hst, .inl (cI, 60, .inl ST))] (fun w => ∃ ST9 : Nat → Int32, w = [(h, .inr (3, [.int (nI d.1), .ref hr9, .int d.2.2.2.2.1, .int (nI (zmi d + q + 1)), .int (nI k), .ref hk, .ref hm, .ref hp, .ref hh, .ref hw, .ref hv, .int z, .ref ht, .int tp, .ref hq, .int wts])), (hk, .inl (cI, 6, .inl d.2.2.2.2.2.1)), (hm, .inl (cI, 6, .inl d.2.2.2.2.2.2.1)), (hp, .inl (cI, 6, .inl ((zPm d k 0 (q + 1))))), (hh, .inl (cI, 6, .inl ((zGm d k 0 (q + 1))))), (hr9, .inl (cI, 14, .inl d.2.2.2.1)), (hw, .inr (0, [.ref hc, .int (nI d.2.1), .ref hst])), (hc, .inl (cI, 60, .inl C)), (hst, .inl (cI, 60, .inl ST9))]) := by
  refine zMv.start (cc := cX3_pass) (maxL := 2) (by first | decide | decide +kernel) rfl (Nat.le_of_ble_eq_true rfl) ?_
  intro pg ev s mt args below meth cd ls AA QQ ⟨hx, hb, hml, hr, hlocks, hown, hts, hK, hN, hZ, hP, hD, hA, hS, hl⟩ hret
  have hown : s.vm.findClass RX3 = some mt.cls := hown
  have hl : lv_has ls 2 [(0, .ref h)] := hl
  have hin0 : ∀ w ∈ wsX00, w ∈ wsX3_pass := fun w h => List.mem_cons_of_mem _ (List.mem_append_right _ (h))
  have hin3 : ∀ w ∈ wsX30, w ∈ wsX3_pass := fun w h => List.mem_cons_of_mem _ (List.mem_append_left _ (List.mem_append_right _ (h)))
  have hkle := hok.2.2.2.1
  have hmi9 := hok.2.2.2.2.1
  refine lv_iconst (v := nI 0) hx hb dX3_pass_0 (by decide) ?_
  refine lv_istore_n (lv' := [(1, .int (nI 0)), (0, .ref h)]) hx hb dX3_pass_1 rfl hl (by decide) rfl (fun ls hl => ?_)
  have L_2 : ∀ (fu j : Nat) (STv : Nat → Int32) (hi : j ≤ k) (hn : k + 1 ≤ j + fu) , ∀ (ls : Array Slot), lv_has ls 2 [(0, .ref h), (1, .int (nI j))] → ∀ (H : Heap) (locs : List Loc), va_P D vwCl [(h, .inr (3, [.int (nI d.1), .ref hr9, .int d.2.2.2.2.1, .int (nI (zmi d + q)), .int (nI k), .ref hk, .ref hm, .ref hp, .ref hh, .ref hw, .ref hv, .int z, .ref ht, .int tp, .ref hq, .int wts])), (hk, .inl (cI, 6, .inl d.2.2.2.2.2.1)), (hm, .inl (cI, 6, .inl d.2.2.2.2.2.2.1)), (hp, .inl (cI, 6, .inl ((zPm d k j q)))), (hh, .inl (cI, 6, .inl ((zGm d k j q)))), (hr9, .inl (cI, 14, .inl d.2.2.2.1)), (hw, .inr (0, [.ref hc, .int (nI d.2.1), .ref hst])), (hc, .inl (cI, 60, .inl C)), (hst, .inl (cI, 60, .inl STv))] H → va_D AA [(h, .inr (3, [.int (nI d.1), .ref hr9, .int d.2.2.2.2.1, .int (nI (zmi d + q)), .int (nI k), .ref hk, .ref hm, .ref hp, .ref hh, .ref hw, .ref hv, .int z, .ref ht, .int tp, .ref hq, .int wts])), (hk, .inl (cI, 6, .inl d.2.2.2.2.2.1)), (hm, .inl (cI, 6, .inl d.2.2.2.2.2.2.1)), (hp, .inl (cI, 6, .inl ((zPm d k j q)))), (hh, .inl (cI, 6, .inl ((zGm d k j q)))), (hr9, .inl (cI, 14, .inl d.2.2.2.1)), (hw, .inr (0, [.ref hc, .int (nI d.2.1), .ref hst])), (hc, .inl (cI, 60, .inl C)), (hst, .inl (cI, 60, .inl STv))] → va_S AA s.heap H locs → W pg l ev ({ frames := 5, cells := 0, slots := 0, locals := 120 } : Room) s mt args below meth cd H locs 0 0 QQ (F0 mt 2 ls []) := by
    intro fu
    induction fu with
    | zero =>
      intro j STv hi hn
      exact absurd hn (by omega)
    | succ fu ih_2 =>
      intro j STv hi hn  ls hl H locs hP hD hS
      refine lv_iload_n hx hb dX3_pass_2 rfl (lv_at hl 1 rfl) ?_
      refine lv_aload_n hx hb dX3_pass_3 rfl (lv_at hl 0 rfl) ?_
      refine va_get (ci := 3) (v := .int (nI k)) (C := RX3) (T := TX3) (N := 16) hx hb hts hin3 hown hK hP 0 rfl rfl 4 (by decide) (hts (.fieldLink RX3 19 "UpAllRound$Stair" "climbers" "I") (List.mem_of_getElem? (i := 1) rfl)) (fun _ h9 => h9) rfl dX3_pass_4 ?_
      refine lv_icmp_ge (tgt := 21) hx hb dX3_pass_7 (by decide) (fun c7_1 => ?_) (fun c7_1 => ?_)
      · have c7_1 : k ≤ j := (nI_leI (a := k) (b := j) (by omega) (by omega)).mp c7_1
        refine lv_aload_n hx hb dX3_pass_21 rfl (lv_at hl 0 rfl) ?_
        refine lv_dup hx hb dX3_pass_22 rfl ?_
        refine va_get (ci := 3) (v := .int (nI (zmi d + q))) (C := RX3) (T := TX3) (N := 16) hx hb hts hin3 hown hK hP 0 rfl rfl 3 (by decide) (hts (.fieldLink RX3 15 "UpAllRound$Stair" "minute" "I") (List.mem_of_getElem? (i := 2) rfl)) (fun _ h9 => h9) rfl dX3_pass_23 ?_
        refine lv_iconst (v := nI 1) hx hb dX3_pass_26 (by decide) ?_
        refine lv_iadd hx hb dX3_pass_27 ?_
        refine zrw (nI_add _ _) ?_
        refine va_put (ci := 3) (v := .int (nI ((zmi d + q) + 1))) (ty := .int) (C := RX3) (T := TX3) (N := 16) hx hb hts hin3 tyX3 tyX3_ok nmX3 hown hK hP hD hS 0 rfl rfl 3 (by decide) (hts (.fieldLink RX3 15 "UpAllRound$Stair" "minute" "I") (List.mem_of_getElem? (i := 2) rfl)) (fun _ h9 => h9) rfl (by decide +kernel) rfl rfl (Nat.le_of_ble_eq_true rfl) dX3_pass_28 (fun H locs hP hD hS => ?_)
        have hP : va_P D vwCl [(h, .inr (3, [.int (nI d.1), .ref hr9, .int d.2.2.2.2.1, .int (nI ((zmi d + q) + 1)), .int (nI k), .ref hk, .ref hm, .ref hp, .ref hh, .ref hw, .ref hv, .int z, .ref ht, .int tp, .ref hq, .int wts])), (hk, .inl (cI, 6, .inl d.2.2.2.2.2.1)), (hm, .inl (cI, 6, .inl d.2.2.2.2.2.2.1)), (hp, .inl (cI, 6, .inl ((zPm d k j q)))), (hh, .inl (cI, 6, .inl ((zGm d k j q)))), (hr9, .inl (cI, 14, .inl d.2.2.2.1)), (hw, .inr (0, [.ref hc, .int (nI d.2.1), .ref hst])), (hc, .inl (cI, 60, .inl C)), (hst, .inl (cI, 60, .inl STv))] H := hP
        have hD : va_D AA [(h, .inr (3, [.int (nI d.1), .ref hr9, .int d.2.2.2.2.1, .int (nI ((zmi d + q) + 1)), .int (nI k), .ref hk, .ref hm, .ref hp, .ref hh, .ref hw, .ref hv, .int z, .ref ht, .int tp, .ref hq, .int wts])), (hk, .inl (cI, 6, .inl d.2.2.2.2.2.1)), (hm, .inl (cI, 6, .inl d.2.2.2.2.2.2.1)), (hp, .inl (cI, 6, .inl ((zPm d k j q)))), (hh, .inl (cI, 6, .inl ((zGm d k j q)))), (hr9, .inl (cI, 14, .inl d.2.2.2.1)), (hw, .inr (0, [.ref hc, .int (nI d.2.1), .ref hst])), (hc, .inl (cI, 60, .inl C)), (hst, .inl (cI, 60, .inl STv))] := hD
        exact hret hP hD hS dX3_pass_31 (by refine ⟨STv, ?_⟩; rw [show j = k from by omega, zPm_e, zGm_e])
      · have c7_1 : ¬ (k ≤ j) := fun h9 => c7_1 ((nI_leI (a := k) (b := j) (by omega) (by omega)).mpr h9)
        have hcl := hok.2.2.2.2.2 j (by omega)
        have hlt := zW_lt hok (show j < k by omega) q
        have hstep : zg1 d.1 d.2.1 d.2.2.1 d.2.2.2.1 d.2.2.2.2.1 (zkN d j) (zmN d j) (zmi d + q) ((zW d j q).1, zGm d k j q j) = zW d j (q + 1) := by rw [zGm_at (show j < k by omega), if_neg (by omega)]; rfl
        refine lv_aload_n hx hb dX3_pass_10 rfl (lv_at hl 0 rfl) ?_
        refine lv_iload_n hx hb dX3_pass_11 rfl (lv_at hl 1 rfl) ?_
        refine zcv (wr := []) (va_runV (As := [.int (nI j)]) (rest := []) ⟨hx, hb, hml, hown, hts⟩ (c_X3_go l D cI cJ h hk hm hp hh hr9 hw hc hst [.int (nI d.1), .ref hr9, .int d.2.2.2.2.1, .int (nI (zmi d + q)), .int (nI k), .ref hk, .ref hm, .ref hp, .ref hh, .ref hw, .ref hv, .int z, .ref ht, .int tp, .ref hq, .int wts] d.2.2.2.2.2.1 d.2.2.2.2.2.2.1 ((zPm d k j q)) ((zGm d k j q)) d.2.2.2.1 C STv d.1 d.2.1 d.2.2.1 d.2.2.2.2.1 (zmi d + q) j (zkN d j) (zmN d j) ((zW d j q).1) (by first | rfl | assumption | omega) (by first | rfl | assumption | omega) (by first | rfl | assumption | omega) (by first | rfl | assumption | omega) (by first | rfl | assumption | omega) (by first | rfl | assumption | omega) (by first | rfl | assumption | omega) (by first | rfl | assumption | omega) (by first | rfl | assumption | omega) (by first | rfl | assumption | omega) hok.2.2.1 (by first | rfl | assumption | omega) hok.1 hok.2.1 hcl.1 hcl.2.2.1 hcl.2.1 hcl.2.2.2.1 (by omega) (by rw [zPm_at (show j < k by omega), if_neg (by omega)]) hlt H.size) (cwV 1 hts gX3_pass_X3_go rfl rfl rfl (by decide +kernel) ⟨Nat.le_of_ble_eq_true rfl, Nat.le_of_ble_eq_true rfl⟩) (zpV hK hN hZ hP hD hS hA [0, 1, 2, 3, 4, 5, 6, 7, 8] rfl (by decide) 0 rfl rfl rfl) rfl rfl hl.1 rfl (lv_room (Nat.le_of_ble_eq_true rfl)) dX3_pass_12 ⟨Nat.zero_le _, Nat.zero_le _⟩) hP hD hS hA [0, 1, 2, 3, 4, 5, 6, 7, 8] [] rfl rfl (by decide) (by decide) (fun w_3 H locs h_2 hP hD hS => ?_)
        obtain ⟨ST9_4, rfl⟩ := h_2
        have hP : va_P D vwCl [(h, .inr (3, [.int (nI d.1), .ref hr9, .int d.2.2.2.2.1, .int (nI (zmi d + q)), .int (nI k), .ref hk, .ref hm, .ref hp, .ref hh, .ref hw, .ref hv, .int z, .ref ht, .int tp, .ref hq, .int wts])), (hk, .inl (cI, 6, .inl d.2.2.2.2.2.1)), (hm, .inl (cI, 6, .inl d.2.2.2.2.2.2.1)), (hp, .inl (cI, 6, .inl (upd ((zPm d k j q)) j (nI (zg1 d.1 d.2.1 d.2.2.1 d.2.2.2.1 d.2.2.2.2.1 (zkN d j) (zmN d j) (zmi d + q) (((zW d j q).1), ((zGm d k j q)) j)).1)))), (hh, .inl (cI, 6, .inl (upd ((zGm d k j q)) j (zg1 d.1 d.2.1 d.2.2.1 d.2.2.2.1 d.2.2.2.2.1 (zkN d j) (zmN d j) (zmi d + q) (((zW d j q).1), ((zGm d k j q)) j)).2))), (hr9, .inl (cI, 14, .inl d.2.2.2.1)), (hw, .inr (0, [.ref hc, .int (nI d.2.1), .ref hst])), (hc, .inl (cI, 60, .inl C)), (hst, .inl (cI, 60, .inl ST9_4))] H := hP
        have hD : va_D AA [(h, .inr (3, [.int (nI d.1), .ref hr9, .int d.2.2.2.2.1, .int (nI (zmi d + q)), .int (nI k), .ref hk, .ref hm, .ref hp, .ref hh, .ref hw, .ref hv, .int z, .ref ht, .int tp, .ref hq, .int wts])), (hk, .inl (cI, 6, .inl d.2.2.2.2.2.1)), (hm, .inl (cI, 6, .inl d.2.2.2.2.2.2.1)), (hp, .inl (cI, 6, .inl (upd ((zPm d k j q)) j (nI (zg1 d.1 d.2.1 d.2.2.1 d.2.2.2.1 d.2.2.2.2.1 (zkN d j) (zmN d j) (zmi d + q) (((zW d j q).1), ((zGm d k j q)) j)).1)))), (hh, .inl (cI, 6, .inl (upd ((zGm d k j q)) j (zg1 d.1 d.2.1 d.2.2.1 d.2.2.2.1 d.2.2.2.2.1 (zkN d j) (zmN d j) (zmi d + q) (((zW d j q).1), ((zGm d k j q)) j)).2))), (hr9, .inl (cI, 14, .inl d.2.2.2.1)), (hw, .inr (0, [.ref hc, .int (nI d.2.1), .ref hst])), (hc, .inl (cI, 60, .inl C)), (hst, .inl (cI, 60, .inl ST9_4))] := hD
        rw [hstep, zPm_s (show j < k by omega), zGm_s (show j < k by omega)] at hP hD
        refine lv_iinc (v := nI (j + 1)) (lv' := [(1, .int (nI (j + 1))), (0, .ref h)]) hx hb dX3_pass_15 hl (k := 1) rfl (nI_add _ _) (by decide) rfl (fun ls hl => ?_)
        refine lv_goto (tgt := 2) hx hb dX3_pass_18 (by decide) ?_
        exact ih_2  (j + 1) ST9_4 (by omega) (by omega)  ls (lv_sub hl [1, 0] rfl) H locs hP hD hS
  exact L_2 (k + 1) 0 ST (by omega) (by omega)  ls (lv_sub hl [1, 0] rfl) _ _ hP hD hS
set_option maxHeartbeats 4000000 in
set_option maxRecDepth 100000 in
theorem c_X3_passFor (l : Launch) (D : va_G) (cI cJ : ClassId) (h : Nat) (hr9 : Nat) (hk : Nat) (hm : Nat) (hp : Nat) (hh : Nat) (hw : Nat) (hv : Nat) (ht : Nat) (hq : Nat) (hc : Nat) (hst : Nat) (z : Int32) (tp : Int32) (wts : Int32) (C : Nat → Int32) (ST : Nat → Int32) (d : zDt) (k : Nat) (q : Nat) (j : Nat) (hcd : zCD C d.2.1 d.2.2.1) (hok : zOK d k) (hq6 : q ≤ 600) (hj : j < k) : zMv l yX3_passFor wsX3_passFor ({ frames := 5, cells := 0, slots := 0, locals := 120 } : Room) D [(cI, .int), (cJ, .array .int)] [.ref h, .int (nI j)] [(h, .inr (3, [.int (nI d.1), .ref hr9, .int d.2.2.2.2.1, .int (nI (zmi d + q)), .int (nI k), .ref hk, .ref hm, .ref hp, .ref hh, .ref hw, .ref hv, .int z, .ref ht, .int tp, .ref hq, .int wts])), (hk, .inl (cI, 6, .inl d.2.2.2.2.2.1)), (hm, .inl (cI, 6, .inl d.2.2.2.2.2.2.1)), (hp, .inl (cI, 6, .inl ((zP1 d j q)))), (hh, .inl (cI, 6, .inl ((zG1 d j q)))), (hr9, .inl (cI, 14, .inl d.2.2.2.1)), (hw, .inr (0, [.ref hc, .int (nI d.2.1), .ref hst])), (hc, .inl (cI, 60, .inl C)), (hst, .inl (cI, 60, .inl ST))] (fun w => ∃ ST9 : Nat → Int32, w = [(h, .inr (3, [.int (nI d.1), .ref hr9, .int d.2.2.2.2.1, .int (nI (zmi d + q + 1)), .int (nI k), .ref hk, .ref hm, .ref hp, .ref hh, .ref hw, .ref hv, .int z, .ref ht, .int tp, .ref hq, .int wts])), (hk, .inl (cI, 6, .inl d.2.2.2.2.2.1)), (hm, .inl (cI, 6, .inl d.2.2.2.2.2.2.1)), (hp, .inl (cI, 6, .inl ((zP1 d j (q + 1))))), (hh, .inl (cI, 6, .inl ((zG1 d j (q + 1))))), (hr9, .inl (cI, 14, .inl d.2.2.2.1)), (hw, .inr (0, [.ref hc, .int (nI d.2.1), .ref hst])), (hc, .inl (cI, 60, .inl C)), (hst, .inl (cI, 60, .inl ST9))]) := by
  refine zMv.start (cc := cX3_passFor) (maxL := 2) (by first | decide | decide +kernel) rfl (Nat.le_of_ble_eq_true rfl) ?_
  intro pg ev s mt args below meth cd ls AA QQ ⟨hx, hb, hml, hr, hlocks, hown, hts, hK, hN, hZ, hP, hD, hA, hS, hl⟩ hret
  have hown : s.vm.findClass RX3 = some mt.cls := hown
  have hl : lv_has ls 2 [(0, .ref h), (1, .int (nI j))] := hl
  have hin0 : ∀ w ∈ wsX00, w ∈ wsX3_passFor := fun w h => List.mem_cons_of_mem _ (List.mem_append_right _ (h))
  have hin3 : ∀ w ∈ wsX30, w ∈ wsX3_passFor := fun w h => List.mem_cons_of_mem _ (List.mem_append_left _ (List.mem_append_right _ (h)))
  have hkle := hok.2.2.2.1
  have hmi9 := hok.2.2.2.2.1
  have hcl := hok.2.2.2.2.2 j hj
  have hlt := zW_lt hok hj q
  have hstep : zg1 d.1 d.2.1 d.2.2.1 d.2.2.2.1 d.2.2.2.2.1 (zkN d j) (zmN d j) (zmi d + q) ((zW d j q).1, zG1 d j q j) = zW d j (q + 1) := by rw [zG1_at]; rfl
  refine lv_aload_n hx hb dX3_passFor_0 rfl (lv_at hl 0 rfl) ?_
  refine lv_iload_n hx hb dX3_passFor_1 rfl (lv_at hl 1 rfl) ?_
  refine zcv (wr := []) (va_runV (As := [.int (nI j)]) (rest := []) ⟨hx, hb, hml, hown, hts⟩ (c_X3_go l D cI cJ h hk hm hp hh hr9 hw hc hst [.int (nI d.1), .ref hr9, .int d.2.2.2.2.1, .int (nI (zmi d + q)), .int (nI k), .ref hk, .ref hm, .ref hp, .ref hh, .ref hw, .ref hv, .int z, .ref ht, .int tp, .ref hq, .int wts] d.2.2.2.2.2.1 d.2.2.2.2.2.2.1 ((zP1 d j q)) ((zG1 d j q)) d.2.2.2.1 C ST d.1 d.2.1 d.2.2.1 d.2.2.2.2.1 (zmi d + q) j (zkN d j) (zmN d j) ((zW d j q).1) (by first | rfl | assumption | omega) (by first | rfl | assumption | omega) (by first | rfl | assumption | omega) (by first | rfl | assumption | omega) (by first | rfl | assumption | omega) (by first | rfl | assumption | omega) (by first | rfl | assumption | omega) (by first | rfl | assumption | omega) (by first | rfl | assumption | omega) (by first | rfl | assumption | omega) hok.2.2.1 (by first | rfl | assumption | omega) hok.1 hok.2.1 hcl.1 hcl.2.2.1 hcl.2.1 hcl.2.2.2.1 (by omega) zP1_at hlt s.heap.size) (cwV 1 hts gX3_passFor_X3_go rfl rfl rfl (by decide +kernel) ⟨Nat.le_of_ble_eq_true rfl, Nat.le_of_ble_eq_true rfl⟩) (zpV hK hN hZ hP hD hS hA [0, 1, 2, 3, 4, 5, 6, 7, 8] rfl (by decide) 0 rfl rfl rfl) rfl rfl hl.1 rfl (lv_room (Nat.le_of_ble_eq_true rfl)) dX3_passFor_2 ⟨Nat.zero_le _, Nat.zero_le _⟩) hP hD hS hA [0, 1, 2, 3, 4, 5, 6, 7, 8] [] rfl rfl (by decide) (by decide) (fun w_2 H locs h_1 hP hD hS => ?_)
  obtain ⟨ST9_3, rfl⟩ := h_1
  have hP : va_P D vwCl [(h, .inr (3, [.int (nI d.1), .ref hr9, .int d.2.2.2.2.1, .int (nI (zmi d + q)), .int (nI k), .ref hk, .ref hm, .ref hp, .ref hh, .ref hw, .ref hv, .int z, .ref ht, .int tp, .ref hq, .int wts])), (hk, .inl (cI, 6, .inl d.2.2.2.2.2.1)), (hm, .inl (cI, 6, .inl d.2.2.2.2.2.2.1)), (hp, .inl (cI, 6, .inl (upd ((zP1 d j q)) j (nI (zg1 d.1 d.2.1 d.2.2.1 d.2.2.2.1 d.2.2.2.2.1 (zkN d j) (zmN d j) (zmi d + q) (((zW d j q).1), ((zG1 d j q)) j)).1)))), (hh, .inl (cI, 6, .inl (upd ((zG1 d j q)) j (zg1 d.1 d.2.1 d.2.2.1 d.2.2.2.1 d.2.2.2.2.1 (zkN d j) (zmN d j) (zmi d + q) (((zW d j q).1), ((zG1 d j q)) j)).2))), (hr9, .inl (cI, 14, .inl d.2.2.2.1)), (hw, .inr (0, [.ref hc, .int (nI d.2.1), .ref hst])), (hc, .inl (cI, 60, .inl C)), (hst, .inl (cI, 60, .inl ST9_3))] H := hP
  have hD : va_D AA [(h, .inr (3, [.int (nI d.1), .ref hr9, .int d.2.2.2.2.1, .int (nI (zmi d + q)), .int (nI k), .ref hk, .ref hm, .ref hp, .ref hh, .ref hw, .ref hv, .int z, .ref ht, .int tp, .ref hq, .int wts])), (hk, .inl (cI, 6, .inl d.2.2.2.2.2.1)), (hm, .inl (cI, 6, .inl d.2.2.2.2.2.2.1)), (hp, .inl (cI, 6, .inl (upd ((zP1 d j q)) j (nI (zg1 d.1 d.2.1 d.2.2.1 d.2.2.2.1 d.2.2.2.2.1 (zkN d j) (zmN d j) (zmi d + q) (((zW d j q).1), ((zG1 d j q)) j)).1)))), (hh, .inl (cI, 6, .inl (upd ((zG1 d j q)) j (zg1 d.1 d.2.1 d.2.2.1 d.2.2.2.1 d.2.2.2.2.1 (zkN d j) (zmN d j) (zmi d + q) (((zW d j q).1), ((zG1 d j q)) j)).2))), (hr9, .inl (cI, 14, .inl d.2.2.2.1)), (hw, .inr (0, [.ref hc, .int (nI d.2.1), .ref hst])), (hc, .inl (cI, 60, .inl C)), (hst, .inl (cI, 60, .inl ST9_3))] := hD
  rw [hstep, zP1_s, zG1_s] at hP hD
  have hP : va_P D vwCl [(h, .inr (3, [.int (nI d.1), .ref hr9, .int d.2.2.2.2.1, .int (nI (zmi d + q)), .int (nI k), .ref hk, .ref hm, .ref hp, .ref hh, .ref hw, .ref hv, .int z, .ref ht, .int tp, .ref hq, .int wts])), (hk, .inl (cI, 6, .inl d.2.2.2.2.2.1)), (hm, .inl (cI, 6, .inl d.2.2.2.2.2.2.1)), (hp, .inl (cI, 6, .inl (zP1 d j (q + 1)))), (hh, .inl (cI, 6, .inl (zG1 d j (q + 1)))), (hr9, .inl (cI, 14, .inl d.2.2.2.1)), (hw, .inr (0, [.ref hc, .int (nI d.2.1), .ref hst])), (hc, .inl (cI, 60, .inl C)), (hst, .inl (cI, 60, .inl ST9_3))] H := hP
  have hD : va_D AA [(h, .inr (3, [.int (nI d.1), .ref hr9, .int d.2.2.2.2.1, .int (nI (zmi d + q)), .int (nI k), .ref hk, .ref hm, .ref hp, .ref hh, .ref hw, .ref hv, .int z, .ref ht, .int tp, .ref hq, .int wts])), (hk, .inl (cI, 6, .inl d.2.2.2.2.2.1)), (hm, .inl (cI, 6, .inl d.2.2.2.2.2.2.1)), (hp, .inl (cI, 6, .inl (zP1 d j (q + 1)))), (hh, .inl (cI, 6, .inl (zG1 d j (q + 1)))), (hr9, .inl (cI, 14, .inl d.2.2.2.1)), (hw, .inr (0, [.ref hc, .int (nI d.2.1), .ref hst])), (hc, .inl (cI, 60, .inl C)), (hst, .inl (cI, 60, .inl ST9_3))] := hD
  refine lv_aload_n hx hb dX3_passFor_5 rfl (lv_at hl 0 rfl) ?_
  refine lv_dup hx hb dX3_passFor_6 rfl ?_
  refine va_get (ci := 3) (v := .int (nI (zmi d + q))) (C := RX3) (T := TX3) (N := 16) hx hb hts hin3 hown hK hP 0 rfl rfl 3 (by decide) (hts (.fieldLink RX3 15 "UpAllRound$Stair" "minute" "I") (List.mem_of_getElem? (i := 1) rfl)) (fun _ h9 => h9) rfl dX3_passFor_7 ?_
  refine lv_iconst (v := nI 1) hx hb dX3_passFor_10 (by decide) ?_
  refine lv_iadd hx hb dX3_passFor_11 ?_
  refine zrw (nI_add _ _) ?_
  refine va_put (ci := 3) (v := .int (nI ((zmi d + q) + 1))) (ty := .int) (C := RX3) (T := TX3) (N := 16) hx hb hts hin3 tyX3 tyX3_ok nmX3 hown hK hP hD hS 0 rfl rfl 3 (by decide) (hts (.fieldLink RX3 15 "UpAllRound$Stair" "minute" "I") (List.mem_of_getElem? (i := 1) rfl)) (fun _ h9 => h9) rfl (by decide +kernel) rfl rfl (Nat.le_of_ble_eq_true rfl) dX3_passFor_12 (fun H locs hP hD hS => ?_)
  have hP : va_P D vwCl [(h, .inr (3, [.int (nI d.1), .ref hr9, .int d.2.2.2.2.1, .int (nI ((zmi d + q) + 1)), .int (nI k), .ref hk, .ref hm, .ref hp, .ref hh, .ref hw, .ref hv, .int z, .ref ht, .int tp, .ref hq, .int wts])), (hk, .inl (cI, 6, .inl d.2.2.2.2.2.1)), (hm, .inl (cI, 6, .inl d.2.2.2.2.2.2.1)), (hp, .inl (cI, 6, .inl (zP1 d j (q + 1)))), (hh, .inl (cI, 6, .inl (zG1 d j (q + 1)))), (hr9, .inl (cI, 14, .inl d.2.2.2.1)), (hw, .inr (0, [.ref hc, .int (nI d.2.1), .ref hst])), (hc, .inl (cI, 60, .inl C)), (hst, .inl (cI, 60, .inl ST9_3))] H := hP
  have hD : va_D AA [(h, .inr (3, [.int (nI d.1), .ref hr9, .int d.2.2.2.2.1, .int (nI ((zmi d + q) + 1)), .int (nI k), .ref hk, .ref hm, .ref hp, .ref hh, .ref hw, .ref hv, .int z, .ref ht, .int tp, .ref hq, .int wts])), (hk, .inl (cI, 6, .inl d.2.2.2.2.2.1)), (hm, .inl (cI, 6, .inl d.2.2.2.2.2.2.1)), (hp, .inl (cI, 6, .inl (zP1 d j (q + 1)))), (hh, .inl (cI, 6, .inl (zG1 d j (q + 1)))), (hr9, .inl (cI, 14, .inl d.2.2.2.1)), (hw, .inr (0, [.ref hc, .int (nI d.2.1), .ref hst])), (hc, .inl (cI, 60, .inl C)), (hst, .inl (cI, 60, .inl ST9_3))] := hD
  exact hret hP hD hS dX3_passFor_15 (by exact ⟨ST9_3, rfl⟩)
set_option maxHeartbeats 4000000 in
set_option maxRecDepth 100000 in
theorem c_X3_passUncounted (l : Launch) (D : va_G) (cI cJ : ClassId) (h : Nat) (hr9 : Nat) (hk : Nat) (hm : Nat) (hp : Nat) (hh : Nat) (hw : Nat) (hv : Nat) (ht : Nat) (hq : Nat) (z : Int32) (tp : Int32) (wts : Int32) (d : zDt) (k : Nat) (q : Nat) (hok : zOK d k) (hq6 : q ≤ 600) : zMv l yX3_passUncounted wsX3_passUncounted ({ frames := 2, cells := 0, slots := 0, locals := 43 } : Room) D [(cI, .int), (cJ, .array .int)] [.ref h] [(h, .inr (3, [.int (nI d.1), .ref hr9, .int d.2.2.2.2.1, .int (nI (zmi d + q)), .int (nI k), .ref hk, .ref hm, .ref hp, .ref hh, .ref hw, .ref hv, .int z, .ref ht, .int tp, .ref hq, .int wts])), (hk, .inl (cI, 6, .inl d.2.2.2.2.2.1)), (hm, .inl (cI, 6, .inl d.2.2.2.2.2.2.1)), (hp, .inl (cI, 6, .inl ((zPm d k 0 q))))] (fun w => w = [(h, .inr (3, [.int (nI d.1), .ref hr9, .int d.2.2.2.2.1, .int (nI (zmi d + q + 1)), .int (nI k), .ref hk, .ref hm, .ref hp, .ref hh, .ref hw, .ref hv, .int z, .ref ht, .int tp, .ref hq, .int wts])), (hk, .inl (cI, 6, .inl d.2.2.2.2.2.1)), (hm, .inl (cI, 6, .inl d.2.2.2.2.2.2.1)), (hp, .inl (cI, 6, .inl ((zPm d k 0 (q + 1)))))]) := by
  refine zMv.start (cc := cX3_passUncounted) (maxL := 2) (by first | decide | decide +kernel) rfl (Nat.le_of_ble_eq_true rfl) ?_
  intro pg ev s mt args below meth cd ls AA QQ ⟨hx, hb, hml, hr, hlocks, hown, hts, hK, hN, hZ, hP, hD, hA, hS, hl⟩ hret
  have hown : s.vm.findClass RX3 = some mt.cls := hown
  have hl : lv_has ls 2 [(0, .ref h)] := hl
  have hin3 : ∀ w ∈ wsX30, w ∈ wsX3_passUncounted := fun w h => List.mem_cons_of_mem _ (List.mem_append_right _ (h))
  have hkle := hok.2.2.2.1
  have hmi9 := hok.2.2.2.2.1
  refine lv_iconst (v := nI 0) hx hb dX3_passUncounted_0 (by decide) ?_
  refine lv_istore_n (lv' := [(1, .int (nI 0)), (0, .ref h)]) hx hb dX3_passUncounted_1 rfl hl (by decide) rfl (fun ls hl => ?_)
  have L_2 : ∀ (fu j : Nat)  (hi : j ≤ k) (hn : k + 1 ≤ j + fu) , ∀ (ls : Array Slot), lv_has ls 2 [(0, .ref h), (1, .int (nI j))] → ∀ (H : Heap) (locs : List Loc), va_P D vwCl [(h, .inr (3, [.int (nI d.1), .ref hr9, .int d.2.2.2.2.1, .int (nI (zmi d + q)), .int (nI k), .ref hk, .ref hm, .ref hp, .ref hh, .ref hw, .ref hv, .int z, .ref ht, .int tp, .ref hq, .int wts])), (hk, .inl (cI, 6, .inl d.2.2.2.2.2.1)), (hm, .inl (cI, 6, .inl d.2.2.2.2.2.2.1)), (hp, .inl (cI, 6, .inl ((zPm d k j q))))] H → va_D AA [(h, .inr (3, [.int (nI d.1), .ref hr9, .int d.2.2.2.2.1, .int (nI (zmi d + q)), .int (nI k), .ref hk, .ref hm, .ref hp, .ref hh, .ref hw, .ref hv, .int z, .ref ht, .int tp, .ref hq, .int wts])), (hk, .inl (cI, 6, .inl d.2.2.2.2.2.1)), (hm, .inl (cI, 6, .inl d.2.2.2.2.2.2.1)), (hp, .inl (cI, 6, .inl ((zPm d k j q))))] → va_S AA s.heap H locs → W pg l ev ({ frames := 2, cells := 0, slots := 0, locals := 43 } : Room) s mt args below meth cd H locs 0 0 QQ (F0 mt 2 ls []) := by
    intro fu
    induction fu with
    | zero =>
      intro j  hi hn
      exact absurd hn (by omega)
    | succ fu ih_2 =>
      intro j  hi hn  ls hl H locs hP hD hS
      refine lv_iload_n hx hb dX3_passUncounted_2 rfl (lv_at hl 1 rfl) ?_
      refine lv_aload_n hx hb dX3_passUncounted_3 rfl (lv_at hl 0 rfl) ?_
      refine va_get (ci := 3) (v := .int (nI k)) (C := RX3) (T := TX3) (N := 16) hx hb hts hin3 hown hK hP 0 rfl rfl 4 (by decide) (hts (.fieldLink RX3 19 "UpAllRound$Stair" "climbers" "I") (List.mem_of_getElem? (i := 1) rfl)) (fun _ h9 => h9) rfl dX3_passUncounted_4 ?_
      refine lv_icmp_ge (tgt := 38) hx hb dX3_passUncounted_7 (by decide) (fun c7_1 => ?_) (fun c7_1 => ?_)
      · have c7_1 : k ≤ j := (nI_leI (a := k) (b := j) (by omega) (by omega)).mp c7_1
        refine lv_aload_n hx hb dX3_passUncounted_38 rfl (lv_at hl 0 rfl) ?_
        refine lv_dup hx hb dX3_passUncounted_39 rfl ?_
        refine va_get (ci := 3) (v := .int (nI (zmi d + q))) (C := RX3) (T := TX3) (N := 16) hx hb hts hin3 hown hK hP 0 rfl rfl 3 (by decide) (hts (.fieldLink RX3 15 "UpAllRound$Stair" "minute" "I") (List.mem_of_getElem? (i := 3) rfl)) (fun _ h9 => h9) rfl dX3_passUncounted_40 ?_
        refine lv_iconst (v := nI 1) hx hb dX3_passUncounted_43 (by decide) ?_
        refine lv_iadd hx hb dX3_passUncounted_44 ?_
        refine zrw (nI_add _ _) ?_
        refine va_put (ci := 3) (v := .int (nI ((zmi d + q) + 1))) (ty := .int) (C := RX3) (T := TX3) (N := 16) hx hb hts hin3 tyX3 tyX3_ok nmX3 hown hK hP hD hS 0 rfl rfl 3 (by decide) (hts (.fieldLink RX3 15 "UpAllRound$Stair" "minute" "I") (List.mem_of_getElem? (i := 3) rfl)) (fun _ h9 => h9) rfl (by decide +kernel) rfl rfl (Nat.le_of_ble_eq_true rfl) dX3_passUncounted_45 (fun H locs hP hD hS => ?_)
        have hP : va_P D vwCl [(h, .inr (3, [.int (nI d.1), .ref hr9, .int d.2.2.2.2.1, .int (nI ((zmi d + q) + 1)), .int (nI k), .ref hk, .ref hm, .ref hp, .ref hh, .ref hw, .ref hv, .int z, .ref ht, .int tp, .ref hq, .int wts])), (hk, .inl (cI, 6, .inl d.2.2.2.2.2.1)), (hm, .inl (cI, 6, .inl d.2.2.2.2.2.2.1)), (hp, .inl (cI, 6, .inl ((zPm d k j q))))] H := hP
        have hD : va_D AA [(h, .inr (3, [.int (nI d.1), .ref hr9, .int d.2.2.2.2.1, .int (nI ((zmi d + q) + 1)), .int (nI k), .ref hk, .ref hm, .ref hp, .ref hh, .ref hw, .ref hv, .int z, .ref ht, .int tp, .ref hq, .int wts])), (hk, .inl (cI, 6, .inl d.2.2.2.2.2.1)), (hm, .inl (cI, 6, .inl d.2.2.2.2.2.2.1)), (hp, .inl (cI, 6, .inl ((zPm d k j q))))] := hD
        exact hret hP hD hS dX3_passUncounted_48 (by rw [show j = k from by omega, zPm_e])
      · have c7_1 : ¬ (k ≤ j) := fun h9 => c7_1 ((nI_leI (a := k) (b := j) (by omega) (by omega)).mpr h9)
        have hcl := hok.2.2.2.2.2 j (by omega)
        have hlt := zW_lt hok (show j < k by omega) q
        refine lv_aload_n hx hb dX3_passUncounted_10 rfl (lv_at hl 0 rfl) ?_
        refine va_get (ci := 3) (v := .ref hp) (C := RX3) (T := TX3) (N := 16) hx hb hts hin3 hown hK hP 0 rfl rfl 7 (by decide) (hts (.fieldLink RX3 28 "UpAllRound$Stair" "places" "[I") (List.mem_of_getElem? (i := 2) rfl)) (fun _ h9 => h9) rfl dX3_passUncounted_11 ?_
        refine lv_iload_n hx hb dX3_passUncounted_14 rfl (lv_at hl 1 rfl) ?_
        refine lv_aload_n hx hb dX3_passUncounted_15 rfl (lv_at hl 0 rfl) ?_
        refine lv_aload_n hx hb dX3_passUncounted_16 rfl (lv_at hl 0 rfl) ?_
        refine va_get (ci := 3) (v := .ref hp) (C := RX3) (T := TX3) (N := 16) hx hb hts hin3 hown hK hP 0 rfl rfl 7 (by decide) (hts (.fieldLink RX3 28 "UpAllRound$Stair" "places" "[I") (List.mem_of_getElem? (i := 2) rfl)) (fun _ h9 => h9) rfl dX3_passUncounted_17 ?_
        refine lv_iload_n hx hb dX3_passUncounted_20 rfl (lv_at hl 1 rfl) ?_
        refine zald (t := j) hx hb hK hP 3 rfl (by omega) (by decide) dX3_passUncounted_21 ?_
        refine zrw (show zPm d k j q j = nI (zW d j q).1 from by rw [zPm_at (show j < k by omega), if_neg (by omega)]) ?_
        refine lv_aload_n hx hb dX3_passUncounted_22 rfl (lv_at hl 0 rfl) ?_
        refine lv_iload_n hx hb dX3_passUncounted_23 rfl (lv_at hl 1 rfl) ?_
        refine zcsE (va_runV (As := [.int (nI j)]) (rest := [.int (nI ((zW d j q).1)), .ref h, .int (nI j), .ref hp]) ⟨hx, hb, hml, hown, hts⟩ (c_X3_goes l D cI cJ h hk hm [.int (nI d.1), .ref hr9, .int d.2.2.2.2.1, .int (nI (zmi d + q)), .int (nI k), .ref hk, .ref hm, .ref hp, .ref hh, .ref hw, .ref hv, .int z, .ref ht, .int tp, .ref hq, .int wts] d.2.2.2.2.2.1 d.2.2.2.2.2.2.1 j (zkN d j) (zmN d j) (zmi d + q) (by first | rfl | assumption | omega) (by first | rfl | assumption | omega) (by first | rfl | assumption | omega) (by first | rfl | assumption | omega) hcl.1 hcl.2.2.1 hcl.2.1 hcl.2.2.2.1 (by omega) H.size) (cwV 1 hts gX3_passUncounted_X3_goes rfl rfl rfl (by decide +kernel) ⟨Nat.le_of_ble_eq_true rfl, Nat.le_of_ble_eq_true rfl⟩) (zpV hK hN hZ hP hD hS hA [0, 1, 2] rfl (by decide) 0 rfl rfl rfl) rfl rfl hl.1 rfl (lv_room (Nat.le_of_ble_eq_true rfl)) dX3_passUncounted_24 ⟨Nat.zero_le _, Nat.zero_le _⟩) ?_
        refine lv_iadd hx hb dX3_passUncounted_27 ?_
        refine zrw (show nI (zW d j q).1 + zgoes (zkN d j) (zmN d j) (zmi d + q) = _ from znet _ _ _ (zgd_le _ _ _)) ?_
        refine zcsE (va_runV (As := [.int ((nI ((zW d j q).1 + zgu (zkN d j) (zmN d j) (zmi d + q) + 4 - zgd (zkN d j) (zmN d j) (zmi d + q)) - nI 4))]) (rest := [.int (nI j), .ref hp]) ⟨hx, hb, hml, hown, hts⟩ (c_X3_ring l D cI cJ h [.int (nI d.1), .ref hr9, .int d.2.2.2.2.1, .int (nI (zmi d + q)), .int (nI k), .ref hk, .ref hm, .ref hp, .ref hh, .ref hw, .ref hv, .int z, .ref ht, .int tp, .ref hq, .int wts] d.1 (((zW d j q).1 + zgu (zkN d j) (zmN d j) (zmi d + q) + 4 - zgd (zkN d j) (zmN d j) (zmi d + q))) (by first | rfl | assumption | omega) (by have h91 := zgo_le (kd := zkN d j) (mi := zmi d + q) hcl.2.2.2.1; have h92 := hok.2.1; omega) hok.1 (by have := hok.2.1; omega) H.size) (cwV 1 hts gX3_passUncounted_X3_ring rfl rfl rfl (by decide +kernel) ⟨Nat.le_of_ble_eq_true rfl, Nat.le_of_ble_eq_true rfl⟩) (zpV hK hN hZ hP hD hS hA [0] rfl (by decide) 0 rfl rfl rfl) rfl rfl hl.1 rfl (lv_room (Nat.le_of_ble_eq_true rfl)) dX3_passUncounted_28 ⟨Nat.zero_le _, Nat.zero_le _⟩) ?_
        refine zrw (congrArg nI (show _ = (zW d j (q + 1)).1 from by rw [zW_s, zg1_1 hok.1 hlt])) ?_
        refine zast (t := j) hx hb hK hP hD hS 3 rfl (by omega) (by decide) dX3_passUncounted_31 (fun H locs hP hD hS => ?_)
        have hP : va_P D vwCl [(h, .inr (3, [.int (nI d.1), .ref hr9, .int d.2.2.2.2.1, .int (nI (zmi d + q)), .int (nI k), .ref hk, .ref hm, .ref hp, .ref hh, .ref hw, .ref hv, .int z, .ref ht, .int tp, .ref hq, .int wts])), (hk, .inl (cI, 6, .inl d.2.2.2.2.2.1)), (hm, .inl (cI, 6, .inl d.2.2.2.2.2.2.1)), (hp, .inl (cI, 6, .inl (upd ((zPm d k j q)) j (nI ((zW d j (q + 1)).1)))))] H := hP
        have hD : va_D AA [(h, .inr (3, [.int (nI d.1), .ref hr9, .int d.2.2.2.2.1, .int (nI (zmi d + q)), .int (nI k), .ref hk, .ref hm, .ref hp, .ref hh, .ref hw, .ref hv, .int z, .ref ht, .int tp, .ref hq, .int wts])), (hk, .inl (cI, 6, .inl d.2.2.2.2.2.1)), (hm, .inl (cI, 6, .inl d.2.2.2.2.2.2.1)), (hp, .inl (cI, 6, .inl (upd ((zPm d k j q)) j (nI ((zW d j (q + 1)).1)))))] := hD
        refine lv_iinc (v := nI (j + 1)) (lv' := [(1, .int (nI (j + 1))), (0, .ref h)]) hx hb dX3_passUncounted_32 hl (k := 1) rfl (nI_add _ _) (by decide) rfl (fun ls hl => ?_)
        refine lv_goto (tgt := 2) hx hb dX3_passUncounted_35 (by decide) ?_
        rw [zPm_s (show j < k by omega)] at hP hD
        exact ih_2  (j + 1)  (by omega) (by omega)  ls (lv_sub hl [1, 0] rfl) H locs hP hD hS
  exact L_2 (k + 1) 0  (by omega) (by omega)  ls (lv_sub hl [1, 0] rfl) _ _ hP hD hS
